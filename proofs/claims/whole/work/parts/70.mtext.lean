/-! the reference: a whole text; both readers tell the same -/
theorem u2_3m {I : Nat → Nat → Int32} {a b c d : Int32} : u2 (u2 (u2 (u2 I 51 17 a) 51 18 b) 51 19 c) 51 23 d = u2 (u2 (u2 (u2 I 51 17 a) 51 19 c) 51 23 d) 51 18 b := by
  rw [u2_cm (k := 18) (l := 19) (by decide), u2_cm (k := 18) (l := 23) (by decide)]
theorem pz_lm {tx : Nat → Int32} {n p k : Nat} {g : Nat → Int32} {R : Nat ⊕ (Nat × (Nat → Int32))} (h : pz_l tx n (5 - k) k p g = R) (hk : k < 5) (hp : p < n) : (pz_lf tx n p = 5 → pz_l tx n (5 - (k + 1)) (k + 1) (pz_s tx n (p + 5)) (pz_g tx p k g) = R) ∧ (pz_lf tx n p < 5 → R = .inl (p + pz_lf tx n p)) := by
  rw [pz_l_s hk, if_neg (by omega)] at h
  constructor
  · intro h5
    rw [if_pos h5] at h
    exact h
  · intro h5
    rw [if_neg (by omega)] at h
    exact h.symm
theorem pz_l5 {tx : Nat → Int32} {n p : Nat} {g : Nat → Int32} {R : Nat ⊕ (Nat × (Nat → Int32))} (h : pz_l tx n (5 - 5) 5 p g = R) (hp : p < n) : R = .inl p := h.symm.trans (if_pos hp)
theorem pz_le {tx : Nat → Int32} {n p k : Nat} {g : Nat → Int32} {R : Nat ⊕ (Nat × (Nat → Int32))} (h : pz_l tx n (5 - k) k p g = R) (hk : k ≤ 5) (hp : n ≤ p) : (k = 0 → R = .inl p) ∧ (k ≠ 0 → R = .inr (k, g)) := by
  by_cases h5 : k = 5
  · subst h5
    exact ⟨fun z => absurd z (by decide), fun _ => h.symm.trans (if_neg (by omega))⟩
  · rw [pz_l_s (by omega)] at h
    constructor
    · intro h0
      have hl : pz_lf tx n p = 0 := by
        unfold pz_lf
        rw [if_neg]
        intro z
        unfold pz_K at z
        rw [if_neg (by omega)] at z
        exact absurd z (by decide)
      rw [if_neg (by omega), if_neg (by omega), hl] at h
      exact h.symm
    · intro h0
      rw [if_pos ⟨h0, by omega⟩] at h
      exact h.symm
def pz_M (tx : Nat → Int32) (n : Nat) (R : Nat ⊕ (Nat × (Nat → Int32))) (x p v k : Nat) (g : Nat → Int32) : Prop := (v = 0 ∧ R = .inl p) ∨ (v = 1 ∧ k = x ∧ k ≤ 5 ∧ pz_l tx n (5 - k) k p g = R)
theorem pz_pn (tx : Nat → Int32) (n : Nat) : pz_s tx n 0 + pz_hf tx n (pz_s tx n 0) ≤ n := by
  have h := (pz_hc_le (tx := tx) (n := n) (p := pz_s tx n 0) (pz_s_le (Nat.zero_le n))).1
  rcases pz_hl tx n (pz_s tx n 0) with ⟨h4, e, _⟩ | ⟨h4, e⟩
  · rw [e] at h
    rw [h4]
    exact h
  · rw [e] at h
    exact h
theorem pz_pl {tx : Nat → Int32} {n p : Nat} (hp : p ≤ n) : p + pz_lf tx n p ≤ n := by
  have h := (pz_ad_le (tx := tx) hp).1
  rcases pz_rl tx n p with ⟨h5, e, _⟩ | ⟨h5, e⟩
  · rw [e] at h
    rw [h5]
    exact h
  · rw [e] at h
    exact h
section MM
variable {tx : Nat → Int32} {n x p v k : Nat} {R : Nat ⊕ (Nat × (Nat → Int32))} {g : Nat → Int32}
theorem pz_Ma (h : pz_M tx n R x p v k g) (hv : v = 0) : R = .inl p := by
  rcases h with h | h
  · exact h.2
  · omega
theorem pz_Mb (h : pz_M tx n R x p v k g) (hv : ¬ v = 0) (hp : n ≤ p) (hk : k ≤ 0) : R = .inl p := by
  rcases h with h | h
  · omega
  · exact (pz_le h.2.2.2 h.2.2.1 hp).1 (by omega)
theorem pz_Mc (h : pz_M tx n R x p v k g) (hv : ¬ v = 0) (hp : n ≤ p) (hk : ¬ k ≤ 0) : R = .inr (k, g) := by
  rcases h with h | h
  · omega
  · exact (pz_le h.2.2.2 h.2.2.1 hp).2 (by omega)
theorem pz_Md {v2 q kk : Nat} {g2 : Nat → Int32} (h : pz_M tx n R x p v k g) (hv : ¬ v = 0) (hp : p < n) (h2 : (k < 5 ∧ pz_lf tx n p = 5 ∧ v2 = 1 ∧ q = p + 5 ∧ kk = k + 1 ∧ g2 = pz_g tx p k g) ∨ (v2 = 0 ∧ kk = k ∧ g2 = g ∧ ((k < 5 ∧ pz_lf tx n p < 5 ∧ q = p + pz_lf tx n p) ∨ (k = 5 ∧ q = p)))) : pz_M tx n R (x + 1) (if v2 = 0 then q else pz_s tx n q) v2 kk g2 := by
  rcases h with h | h
  · omega
  · rcases h2 with ⟨h5, hl, rfl, rfl, rfl, rfl⟩ | ⟨rfl, rfl, rfl, ⟨h5, hl, rfl⟩ | ⟨rfl, rfl⟩⟩
    · exact Or.inr ⟨rfl, by omega, by omega, (pz_lm h.2.2.2 h5 hp).1 hl⟩
    · exact Or.inl ⟨rfl, (pz_lm h.2.2.2 h5 hp).2 hl⟩
    · exact Or.inl ⟨rfl, pz_l5 h.2.2.2 hp⟩
theorem pz_Me {v2 q kk : Nat} {g2 : Nat → Int32} (hp : p < n) (h2 : (k < 5 ∧ pz_lf tx n p = 5 ∧ v2 = 1 ∧ q = p + 5 ∧ kk = k + 1 ∧ g2 = pz_g tx p k g) ∨ (v2 = 0 ∧ kk = k ∧ g2 = g ∧ ((k < 5 ∧ pz_lf tx n p < 5 ∧ q = p + pz_lf tx n p) ∨ (k = 5 ∧ q = p)))) : q ≤ n ∧ v2 ≤ 1 := by
  have h := pz_pl (tx := tx) (n := n) (p := p) (by omega)
  rcases h2 with ⟨h5, hl, rfl, rfl, rfl, rfl⟩ | ⟨rfl, rfl, rfl, ⟨h5, hl, rfl⟩ | ⟨rfl, rfl⟩⟩ <;> omega
theorem pz_Mx (h : pz_M tx n R 6 p v k g) : v = 0 := by
  rcases h with h | h <;> omega
end MM
theorem pz_M0 {tx : Nat → Int32} {n v : Nat} {g : Nat → Int32} (h : (pz_hf tx n (pz_s tx n 0) = 4 ∧ v = 1) ∨ (pz_hf tx n (pz_s tx n 0) < 4 ∧ v = 0)) : pz_M tx n (pz_r tx n g) 0 (if v = 0 then pz_s tx n 0 + pz_hf tx n (pz_s tx n 0) else pz_s tx n (pz_s tx n 0 + pz_hf tx n (pz_s tx n 0))) v 0 g := by
  unfold pz_r
  rcases h with ⟨h4, rfl⟩ | ⟨h4, rfl⟩
  · rw [if_pos h4, h4]
    exact Or.inr ⟨rfl, rfl, by decide, rfl⟩
  · rw [if_neg (by omega)]
    exact Or.inl ⟨rfl, rfl⟩
theorem pz_ifm {tx : Nat → Int32} {n v q : Nat} (hq : q ≤ n) : (if v = 0 then q else pz_s tx n q) ≤ n := by
  split
  · exact hq
  · exact pz_s_le hq
theorem pz_Mk {tx : Nat → Int32} {n x p v k : Nat} {R : Nat ⊕ (Nat × (Nat → Int32))} {g : Nat → Int32} (h : pz_M tx n R x p v k g) (hv : ¬ v = 0) : k ≤ 5 := by
  rcases h with h | h
  · omega
  · exact h.2.2.1
section MI
variable {tx : Nat → Int32} {n x p v k v2 q kk : Nat} {R : Nat ⊕ (Nat × (Nat → Int32))} {g g2 : Nat → Int32}
theorem pz_M1 (h : (pz_hf tx n (pz_s tx n 0) = 4 ∧ v = 1) ∨ (pz_hf tx n (pz_s tx n 0) < 4 ∧ v = 0)) (hv : v = 0) : pz_M tx n (pz_r tx n g) 0 (pz_s tx n 0 + pz_hf tx n (pz_s tx n 0)) v 0 g := by
  have h9 := pz_M0 (g := g) h
  rw [if_pos hv] at h9
  exact h9
theorem pz_M2 (h : (pz_hf tx n (pz_s tx n 0) = 4 ∧ v = 1) ∨ (pz_hf tx n (pz_s tx n 0) < 4 ∧ v = 0)) (hv : ¬ v = 0) : pz_M tx n (pz_r tx n g) 0 (pz_s tx n (pz_s tx n 0 + pz_hf tx n (pz_s tx n 0))) v 0 g := by
  have h9 := pz_M0 (g := g) h
  rw [if_neg hv] at h9
  exact h9
theorem pz_N1 (h : pz_M tx n R x p v k g) (hv : ¬ v = 0) (hp : p < n) (h2 : (k < 5 ∧ pz_lf tx n p = 5 ∧ v2 = 1 ∧ q = p + 5 ∧ kk = k + 1 ∧ g2 = pz_g tx p k g) ∨ (v2 = 0 ∧ kk = k ∧ g2 = g ∧ ((k < 5 ∧ pz_lf tx n p < 5 ∧ q = p + pz_lf tx n p) ∨ (k = 5 ∧ q = p)))) (h3 : v2 = 0) : pz_M tx n R (x + 1) q v2 kk g2 := by
  have h9 := pz_Md h hv hp h2
  rw [if_pos h3] at h9
  exact h9
theorem pz_N2 (h : pz_M tx n R x p v k g) (hv : ¬ v = 0) (hp : p < n) (h2 : (k < 5 ∧ pz_lf tx n p = 5 ∧ v2 = 1 ∧ q = p + 5 ∧ kk = k + 1 ∧ g2 = pz_g tx p k g) ∨ (v2 = 0 ∧ kk = k ∧ g2 = g ∧ ((k < 5 ∧ pz_lf tx n p < 5 ∧ q = p + pz_lf tx n p) ∨ (k = 5 ∧ q = p)))) (h3 : ¬ v2 = 0) : pz_M tx n R (x + 1) (pz_s tx n q) v2 kk g2 := by
  have h9 := pz_Md h hv hp h2
  rw [if_neg h3] at h9
  exact h9
end MI
set_option maxHeartbeats 1000000 in
theorem sX9_faultOf {X : XX} {I A : Nat → Nat → Int32} {J B : Nat → Nat → Int64} {F : Nat → Nat} (t n : Nat) (ht : t < 4) (hn : n ≤ 60) (hz : A 59 t = nI n) (tx : Nat → Int32) (htx : ∀ k, k < 60 → A 60 (60 * t + k) = tx k)  : ∃ w I2 g, x_ev X xT 5 173 [.ref 51, .int (nI t)] (HX I A J B F) (some (.int w)) (HX I2 (ua A 62 g) J B F) ∧ (∀ c y, (c ≠ 51 ∨ y < 17 ∨ 23 < y) → I2 c y = I c y) ∧ ((∃ f, f ≤ 60 ∧ pz_r tx n (A 62) = .inl f ∧ w = nI f) ∨ (w = -9 ∧ ∃ kk, pz_r tx n (A 62) = .inr (kk, g) ∧ I2 51 20 = nI (pz_d tx ((pz_s tx n 0) + 1)) ∧ I2 51 21 = nI (10 * pz_d tx ((pz_s tx n 0) + 2) + pz_d tx ((pz_s tx n 0) + 3)) ∧ I2 51 23 = nI kk)) := by
  obtain ⟨r_, h_, he_, w, I2, g, hr_, hh_, hf_⟩ := q_evx (X := X) (d := 4) (as := [.ref 51, .int (nI t)]) (h := (HX I A J B F)) (P := fun r_ h_ => ∃ w I2 g, r_ = (some (.int w)) ∧ h_ = (HX I2 (ua A 62 g) J B F) ∧ (∀ c y, (c ≠ 51 ∨ y < 17 ∨ 23 < y) → I2 c y = I c y) ∧ ((∃ f, f ≤ 60 ∧ pz_r tx n (A 62) = .inl f ∧ w = nI f) ∨ (w = -9 ∧ ∃ kk, pz_r tx n (A 62) = .inr (kk, g) ∧ I2 51 20 = nI (pz_d tx ((pz_s tx n 0) + 1)) ∧ I2 51 21 = nI (10 * pz_d tx ((pz_s tx n 0) + 2) + pz_d tx ((pz_s tx n 0) + 3)) ∧ I2 51 23 = nI kk))) (L := [some (.ref 51), some (.int (nI t)), none]) tX9_faultOf (Nat.le_of_ble_eq_true rfl) rfl (by
    refine q_aload_n rfl rfl ?_
    refine q_bipush (v := nI 60) rfl rfl ?_
    refine q_iload_n rfl rfl ?_
    refine q_imulN rfl ?_
    refine q_putfield rfl hx_51 rfl (Nat.le_of_ble_eq_true rfl) (rfl) (by decide +kernel) ?_
    refine q_heap (hs_51_17 _) ?_
    refine q_aload_n rfl rfl ?_
    refine q_iconst (v := nI 0) rfl rfl ?_
    refine q_putfield rfl hx_51 rfl (Nat.le_of_ble_eq_true rfl) (rfl) (by decide +kernel) ?_
    refine q_heap (hs_51_18 _) ?_
    refine q_aload_n rfl rfl ?_
    refine q_aload_n rfl rfl ?_
    refine q_getfield rfl hx_51 rfl ?_
    refine q_iload_n rfl rfl ?_
    refine q_iald rfl (by decide) hx_59 (by omega) (by decide) (hz) ?_
    refine q_putfield rfl hx_51 rfl (Nat.le_of_ble_eq_true rfl) (rfl) (by decide +kernel) ?_
    refine q_heap (hs_51_19 _) ?_
    refine q_aload_n rfl rfl ?_
    refine q_iconst (v := nI 0) rfl rfl ?_
    refine q_putfield rfl hx_51 rfl (Nat.le_of_ble_eq_true rfl) (rfl) (by decide +kernel) ?_
    refine q_heap (hs_51_23 _) ?_
    refine q_heap (congrArg (fun z => HX z A J B F) u2_3m) ?_
    have hs60 : u2 (u2 (u2 I 51 17 (nI (60 * t))) 51 19 (nI n)) 51 23 (nI 0) 51 17 = nI (60 * t) := (u2_ne (by omega)).trans ((u2_ne (by omega)).trans u2_eq)
    have hs61 : u2 (u2 (u2 I 51 17 (nI (60 * t))) 51 19 (nI n)) 51 23 (nI 0) 51 19 = nI n := (u2_ne (by omega)).trans u2_eq
    obtain ⟨v, I3, hrs, hF3, hC3⟩ := rs_all (X := X) (A := A) (J := J) (B := B) (F := F) t n ht hn hs60 hs61 tx htx
    have hfr3 : I3 51 17 = nI (60 * t) := (hF3 _ _ (by omega)).trans hs60
    have hen3 : I3 51 19 = nI n := (hF3 _ _ (by omega)).trans hs61
    have hmn3 : I3 51 23 = nI 0 := (hF3 _ _ (by omega)).trans u2_eq
    have hv3 : v ≤ 1 := by omega
    have hC9 : (pz_hf tx n (pz_s tx n 0) = 4 ∧ v = 1) ∨ (pz_hf tx n (pz_s tx n 0) < 4 ∧ v = 0) := hC3.imp (fun z => ⟨z.1, z.2.1⟩) id
    have hvp := pz_pn tx n
    refine q_aload_n rfl rfl ?_
    refine q_callV0 rfl hx_51 (Nat.le_of_ble_eq_true rfl) (Nat.le_of_ble_eq_true rfl) (hrs) ?_
    refine q_istore_n (L' := [_, _, _]) rfl rfl ?_
    refine q_iload_n rfl rfl ?_
    refine q_if_eqN rfl (by omega) (fun hc34 => ?_) (fun hc34 => ?_)
    · refine q_up (Inv := fun x L h => ∃ I1 g p v k, L = [some (.ref 51), some (.int (nI t)), some (.int (nI v))] ∧ h = HX (u2 I1 51 18 (nI p)) (ua A 62 g) J B F ∧ (∀ c y, (c ≠ 51 ∨ y < 17 ∨ 23 < y) → I1 c y = I c y) ∧ I1 51 17 = nI (60 * t) ∧ I1 51 19 = nI n ∧ I1 51 23 = nI k ∧ (pz_hf tx n (pz_s tx n 0) = 4 → I1 51 20 = nI (pz_d tx ((pz_s tx n 0) + 1)) ∧ I1 51 21 = nI (10 * pz_d tx ((pz_s tx n 0) + 2) + pz_d tx ((pz_s tx n 0) + 3))) ∧ p ≤ n ∧ v ≤ 1 ∧ pz_M tx n (pz_r tx n (A 62)) x p v k g) (6) (fun x L h hk_x hi_x ih_x => ?_) (fun L h hi_x => ?_) (0) _ _ (by omega) (⟨I3, A 62, _, v, 0, rfl, by rw [ua_self (A := A) (c := 62) rfl], (fun c y hc => (hF3 c y (by omega)).trans ((u2_ne (by omega)).trans ((u2_ne (by omega)).trans (u2_ne (by omega))))), hfr3, hen3, hmn3, (fun h4 => by
            rcases hC3 with ⟨_, _, w1, w2⟩ | ⟨h5, _⟩
            · exact ⟨w1, w2⟩
            · omega), (by first | exact hvp | exact pz_s_le hvp), hv3, (by first | exact pz_M1 hC9 hc34 | exact pz_M2 hC9 hc34)⟩)
      · obtain ⟨I1, g, p, v, k, rfl, rfl, hF, hfr1, hen1, hmn1, h12, hpn, hv1, hM⟩ := hi_x
        refine q_iload_n rfl rfl ?_
        refine q_if_eqN rfl (by omega) (fun hcxs42 => ?_) (fun hcxs42 => ?_)
        · refine q_iload_n rfl rfl ?_
          refine q_if_eqN rfl (by omega) (fun hcxs73 => ?_) (fun hcxs73 => ?_)
          · refine q_aload_n rfl rfl ?_
            refine q_getI rfl hx_51 rfl ((show _ = nI p from rfl)) ?_
            refine q_iret rfl rfl ?_
            first | exact ⟨_, _, g, rfl, rfl, fun c y hc => (u2_ne (by omega)).trans (hF c y hc), Or.inl ⟨p, by omega, pz_Ma hM hcxs42, rfl⟩⟩ | exact ⟨_, _, g, rfl, rfl, fun c y hc => (u2_ne (by omega)).trans (hF c y hc), Or.inl ⟨p, by omega, pz_Ma hM hcxs73, rfl⟩⟩ | exact ⟨_, _, g, rfl, rfl, fun c y hc => (u2_ne (by omega)).trans (hF c y hc), Or.inl ⟨p, by omega, pz_Mb hM hcxs73 hnp hcxs80, rfl⟩⟩ | exact ⟨_, _, g, rfl, rfl, fun c y hc => (u2_ne (by omega)).trans (hF c y hc), Or.inr ⟨rfl, k, pz_Mc hM hcxs73 hnp hcxs80, (h12 (pz_r4 (pz_Mc hM hcxs73 hnp hcxs80))).1, (h12 (pz_r4 (pz_Mc hM hcxs73 hnp hcxs80))).2, hmn1⟩⟩
          · have hk9 := pz_Mk hM hcxs73
            have hnp : n ≤ p := by omega
            refine q_aload_n rfl rfl ?_
            refine q_getI rfl hx_51 rfl ((by exact hmn1)) ?_
            refine q_if_leN rfl (by omega) (fun hcxs80 => ?_) (fun hcxs80 => ?_)
            · refine q_aload_n rfl rfl ?_
              refine q_getI rfl hx_51 rfl ((show _ = nI p from rfl)) ?_
              refine q_iret rfl rfl ?_
              first | exact ⟨_, _, g, rfl, rfl, fun c y hc => (u2_ne (by omega)).trans (hF c y hc), Or.inl ⟨p, by omega, pz_Ma hM hcxs42, rfl⟩⟩ | exact ⟨_, _, g, rfl, rfl, fun c y hc => (u2_ne (by omega)).trans (hF c y hc), Or.inl ⟨p, by omega, pz_Ma hM hcxs73, rfl⟩⟩ | exact ⟨_, _, g, rfl, rfl, fun c y hc => (u2_ne (by omega)).trans (hF c y hc), Or.inl ⟨p, by omega, pz_Mb hM hcxs73 hnp hcxs80, rfl⟩⟩ | exact ⟨_, _, g, rfl, rfl, fun c y hc => (u2_ne (by omega)).trans (hF c y hc), Or.inr ⟨rfl, k, pz_Mc hM hcxs73 hnp hcxs80, (h12 (pz_r4 (pz_Mc hM hcxs73 hnp hcxs80))).1, (h12 (pz_r4 (pz_Mc hM hcxs73 hnp hcxs80))).2, hmn1⟩⟩
            · refine q_bipush (v := (-9)) rfl rfl ?_
              refine q_goto rfl ?_
              refine q_iret rfl rfl ?_
              first | exact ⟨_, _, g, rfl, rfl, fun c y hc => (u2_ne (by omega)).trans (hF c y hc), Or.inl ⟨p, by omega, pz_Ma hM hcxs42, rfl⟩⟩ | exact ⟨_, _, g, rfl, rfl, fun c y hc => (u2_ne (by omega)).trans (hF c y hc), Or.inl ⟨p, by omega, pz_Ma hM hcxs73, rfl⟩⟩ | exact ⟨_, _, g, rfl, rfl, fun c y hc => (u2_ne (by omega)).trans (hF c y hc), Or.inl ⟨p, by omega, pz_Mb hM hcxs73 hnp hcxs80, rfl⟩⟩ | exact ⟨_, _, g, rfl, rfl, fun c y hc => (u2_ne (by omega)).trans (hF c y hc), Or.inr ⟨rfl, k, pz_Mc hM hcxs73 hnp hcxs80, (h12 (pz_r4 (pz_Mc hM hcxs73 hnp hcxs80))).1, (h12 (pz_r4 (pz_Mc hM hcxs73 hnp hcxs80))).2, hmn1⟩⟩
        · refine q_aload_n rfl rfl ?_
          refine q_getI rfl hx_51 rfl ((show _ = nI p from rfl)) ?_
          refine q_aload_n rfl rfl ?_
          refine q_getI rfl hx_51 rfl ((by exact hen1)) ?_
          refine q_icmp_geN rfl (by omega) (by omega) (fun hcxs53 => ?_) (fun hcxs53 => ?_)
          · refine q_iload_n rfl rfl ?_
            refine q_if_eqN rfl (by omega) (fun hcxs73 => ?_) (fun hcxs73 => ?_)
            · refine q_aload_n rfl rfl ?_
              refine q_getI rfl hx_51 rfl ((show _ = nI p from rfl)) ?_
              refine q_iret rfl rfl ?_
              first | exact ⟨_, _, g, rfl, rfl, fun c y hc => (u2_ne (by omega)).trans (hF c y hc), Or.inl ⟨p, by omega, pz_Ma hM hcxs42, rfl⟩⟩ | exact ⟨_, _, g, rfl, rfl, fun c y hc => (u2_ne (by omega)).trans (hF c y hc), Or.inl ⟨p, by omega, pz_Ma hM hcxs73, rfl⟩⟩ | exact ⟨_, _, g, rfl, rfl, fun c y hc => (u2_ne (by omega)).trans (hF c y hc), Or.inl ⟨p, by omega, pz_Mb hM hcxs73 hnp hcxs80, rfl⟩⟩ | exact ⟨_, _, g, rfl, rfl, fun c y hc => (u2_ne (by omega)).trans (hF c y hc), Or.inr ⟨rfl, k, pz_Mc hM hcxs73 hnp hcxs80, (h12 (pz_r4 (pz_Mc hM hcxs73 hnp hcxs80))).1, (h12 (pz_r4 (pz_Mc hM hcxs73 hnp hcxs80))).2, hmn1⟩⟩
            · have hk9 := pz_Mk hM hcxs73
              have hnp : n ≤ p := by omega
              refine q_aload_n rfl rfl ?_
              refine q_getI rfl hx_51 rfl ((by exact hmn1)) ?_
              refine q_if_leN rfl (by omega) (fun hcxs80 => ?_) (fun hcxs80 => ?_)
              · refine q_aload_n rfl rfl ?_
                refine q_getI rfl hx_51 rfl ((show _ = nI p from rfl)) ?_
                refine q_iret rfl rfl ?_
                first | exact ⟨_, _, g, rfl, rfl, fun c y hc => (u2_ne (by omega)).trans (hF c y hc), Or.inl ⟨p, by omega, pz_Ma hM hcxs42, rfl⟩⟩ | exact ⟨_, _, g, rfl, rfl, fun c y hc => (u2_ne (by omega)).trans (hF c y hc), Or.inl ⟨p, by omega, pz_Ma hM hcxs73, rfl⟩⟩ | exact ⟨_, _, g, rfl, rfl, fun c y hc => (u2_ne (by omega)).trans (hF c y hc), Or.inl ⟨p, by omega, pz_Mb hM hcxs73 hnp hcxs80, rfl⟩⟩ | exact ⟨_, _, g, rfl, rfl, fun c y hc => (u2_ne (by omega)).trans (hF c y hc), Or.inr ⟨rfl, k, pz_Mc hM hcxs73 hnp hcxs80, (h12 (pz_r4 (pz_Mc hM hcxs73 hnp hcxs80))).1, (h12 (pz_r4 (pz_Mc hM hcxs73 hnp hcxs80))).2, hmn1⟩⟩
              · refine q_bipush (v := (-9)) rfl rfl ?_
                refine q_goto rfl ?_
                refine q_iret rfl rfl ?_
                first | exact ⟨_, _, g, rfl, rfl, fun c y hc => (u2_ne (by omega)).trans (hF c y hc), Or.inl ⟨p, by omega, pz_Ma hM hcxs42, rfl⟩⟩ | exact ⟨_, _, g, rfl, rfl, fun c y hc => (u2_ne (by omega)).trans (hF c y hc), Or.inl ⟨p, by omega, pz_Ma hM hcxs73, rfl⟩⟩ | exact ⟨_, _, g, rfl, rfl, fun c y hc => (u2_ne (by omega)).trans (hF c y hc), Or.inl ⟨p, by omega, pz_Mb hM hcxs73 hnp hcxs80, rfl⟩⟩ | exact ⟨_, _, g, rfl, rfl, fun c y hc => (u2_ne (by omega)).trans (hF c y hc), Or.inr ⟨rfl, k, pz_Mc hM hcxs73 hnp hcxs80, (h12 (pz_r4 (pz_Mc hM hcxs73 hnp hcxs80))).1, (h12 (pz_r4 (pz_Mc hM hcxs73 hnp hcxs80))).2, hmn1⟩⟩
          · have hpn4 : p < n := by omega
            obtain ⟨v2, q, kk, I4, g4, hrl, hF4, hm4, hC4⟩ := rl_all (X := X) (I := I1) (A := ua A 62 g) (J := J) (B := B) (F := F) t n ht hn hfr1 hen1 tx (fun y hy => by rw [ua_ne (by omega)]; exact htx y hy) p k hpn4 hmn1 (pz_Mk hM hcxs42)
            have hfr4 : I4 51 17 = nI (60 * t) := (hF4 _ _ (by omega)).trans hfr1
            have hen4 : I4 51 19 = nI n := (hF4 _ _ (by omega)).trans hen1
            have hv4 := (pz_Me hpn4 hC4).2
            have hq4 := (pz_Me hpn4 hC4).1
            refine q_aload_n rfl rfl ?_
            refine q_callV0 rfl hx_51 (Nat.le_of_ble_eq_true rfl) (Nat.le_of_ble_eq_true rfl) (hrl) ?_
            refine q_istore_n (L' := [_, _, _]) rfl rfl ?_
            refine q_iload_n rfl rfl ?_
            refine q_if_eqN rfl (by omega) (fun hcxs62 => ?_) (fun hcxs62 => ?_)
            · exact ih_x _ _ (⟨I4, g4, _, v2, kk, rfl, by rw [ua_ua], fun c y hc => (hF4 c y (by omega)).trans (hF c y hc), hfr4, hen4, hm4, fun h4 => ⟨(hF4 _ _ (by omega)).trans (h12 h4).1, (hF4 _ _ (by omega)).trans (h12 h4).2⟩, (by first | exact hq4 | exact pz_s_le hq4), hv4, (by first | exact pz_N1 hM hcxs42 hpn4 hC4 hcxs62 | exact pz_N2 hM hcxs42 hpn4 hC4 hcxs62)⟩)
            · refine q_aload_n rfl rfl ?_
              refine q_callV0 rfl hx_51 (Nat.le_of_ble_eq_true rfl) (Nat.le_of_ble_eq_true rfl) (sX9_skip t n ht hn hfr4 hen4 tx (fun y hy => by (repeat rw [ua_ne (by omega)]); exact htx y hy) q hq4) ?_
              refine q_goto rfl ?_
              exact ih_x _ _ (⟨I4, g4, _, v2, kk, rfl, by rw [ua_ua], fun c y hc => (hF4 c y (by omega)).trans (hF c y hc), hfr4, hen4, hm4, fun h4 => ⟨(hF4 _ _ (by omega)).trans (h12 h4).1, (hF4 _ _ (by omega)).trans (h12 h4).2⟩, (by first | exact hq4 | exact pz_s_le hq4), hv4, (by first | exact pz_N1 hM hcxs42 hpn4 hC4 hcxs62 | exact pz_N2 hM hcxs42 hpn4 hC4 hcxs62)⟩)
      · obtain ⟨I1, g, p, v, k, rfl, rfl, hF, hfr1, hen1, hmn1, h12, hpn, hv1, hM⟩ := hi_x
        refine q_iload_n rfl rfl ?_
        refine q_if_eqN rfl (by omega) (fun hcxf42 => ?_) (fun hcxf42 => ?_)
        · refine q_iload_n rfl rfl ?_
          refine q_if_eqN rfl (by omega) (fun hcxf73 => ?_) (fun hcxf73 => ?_)
          · refine q_aload_n rfl rfl ?_
            refine q_getI rfl hx_51 rfl ((show _ = nI p from rfl)) ?_
            refine q_iret rfl rfl ?_
            first | exact ⟨_, _, g, rfl, rfl, fun c y hc => (u2_ne (by omega)).trans (hF c y hc), Or.inl ⟨p, by omega, pz_Ma hM hcxf42, rfl⟩⟩ | exact ⟨_, _, g, rfl, rfl, fun c y hc => (u2_ne (by omega)).trans (hF c y hc), Or.inl ⟨p, by omega, pz_Ma hM hcxf73, rfl⟩⟩ | exact ⟨_, _, g, rfl, rfl, fun c y hc => (u2_ne (by omega)).trans (hF c y hc), Or.inl ⟨p, by omega, pz_Mb hM hcxf73 hnp hcxf80, rfl⟩⟩ | exact ⟨_, _, g, rfl, rfl, fun c y hc => (u2_ne (by omega)).trans (hF c y hc), Or.inr ⟨rfl, k, pz_Mc hM hcxf73 hnp hcxf80, (h12 (pz_r4 (pz_Mc hM hcxf73 hnp hcxf80))).1, (h12 (pz_r4 (pz_Mc hM hcxf73 hnp hcxf80))).2, hmn1⟩⟩
          · exact absurd (pz_Mx hM) hcxf73
        · exact absurd (pz_Mx hM) hcxf42
    · refine q_aload_n rfl rfl ?_
      refine q_callV0 rfl hx_51 (Nat.le_of_ble_eq_true rfl) (Nat.le_of_ble_eq_true rfl) (sX9_skip t n ht hn hfr3 hen3 tx htx (pz_s tx n 0 + pz_hf tx n (pz_s tx n 0)) hvp) ?_
      refine q_up (Inv := fun x L h => ∃ I1 g p v k, L = [some (.ref 51), some (.int (nI t)), some (.int (nI v))] ∧ h = HX (u2 I1 51 18 (nI p)) (ua A 62 g) J B F ∧ (∀ c y, (c ≠ 51 ∨ y < 17 ∨ 23 < y) → I1 c y = I c y) ∧ I1 51 17 = nI (60 * t) ∧ I1 51 19 = nI n ∧ I1 51 23 = nI k ∧ (pz_hf tx n (pz_s tx n 0) = 4 → I1 51 20 = nI (pz_d tx ((pz_s tx n 0) + 1)) ∧ I1 51 21 = nI (10 * pz_d tx ((pz_s tx n 0) + 2) + pz_d tx ((pz_s tx n 0) + 3))) ∧ p ≤ n ∧ v ≤ 1 ∧ pz_M tx n (pz_r tx n (A 62)) x p v k g) (6) (fun x L h hk_x hi_x ih_x => ?_) (fun L h hi_x => ?_) (0) _ _ (by omega) (⟨I3, A 62, _, v, 0, rfl, by rw [ua_self (A := A) (c := 62) rfl], (fun c y hc => (hF3 c y (by omega)).trans ((u2_ne (by omega)).trans ((u2_ne (by omega)).trans (u2_ne (by omega))))), hfr3, hen3, hmn3, (fun h4 => by
            rcases hC3 with ⟨_, _, w1, w2⟩ | ⟨h5, _⟩
            · exact ⟨w1, w2⟩
            · omega), (by first | exact hvp | exact pz_s_le hvp), hv3, (by first | exact pz_M1 hC9 hc34 | exact pz_M2 hC9 hc34)⟩)
      · obtain ⟨I1, g, p, v, k, rfl, rfl, hF, hfr1, hen1, hmn1, h12, hpn, hv1, hM⟩ := hi_x
        refine q_iload_n rfl rfl ?_
        refine q_if_eqN rfl (by omega) (fun hcxs42 => ?_) (fun hcxs42 => ?_)
        · refine q_iload_n rfl rfl ?_
          refine q_if_eqN rfl (by omega) (fun hcxs73 => ?_) (fun hcxs73 => ?_)
          · refine q_aload_n rfl rfl ?_
            refine q_getI rfl hx_51 rfl ((show _ = nI p from rfl)) ?_
            refine q_iret rfl rfl ?_
            first | exact ⟨_, _, g, rfl, rfl, fun c y hc => (u2_ne (by omega)).trans (hF c y hc), Or.inl ⟨p, by omega, pz_Ma hM hcxs42, rfl⟩⟩ | exact ⟨_, _, g, rfl, rfl, fun c y hc => (u2_ne (by omega)).trans (hF c y hc), Or.inl ⟨p, by omega, pz_Ma hM hcxs73, rfl⟩⟩ | exact ⟨_, _, g, rfl, rfl, fun c y hc => (u2_ne (by omega)).trans (hF c y hc), Or.inl ⟨p, by omega, pz_Mb hM hcxs73 hnp hcxs80, rfl⟩⟩ | exact ⟨_, _, g, rfl, rfl, fun c y hc => (u2_ne (by omega)).trans (hF c y hc), Or.inr ⟨rfl, k, pz_Mc hM hcxs73 hnp hcxs80, (h12 (pz_r4 (pz_Mc hM hcxs73 hnp hcxs80))).1, (h12 (pz_r4 (pz_Mc hM hcxs73 hnp hcxs80))).2, hmn1⟩⟩
          · have hk9 := pz_Mk hM hcxs73
            have hnp : n ≤ p := by omega
            refine q_aload_n rfl rfl ?_
            refine q_getI rfl hx_51 rfl ((by exact hmn1)) ?_
            refine q_if_leN rfl (by omega) (fun hcxs80 => ?_) (fun hcxs80 => ?_)
            · refine q_aload_n rfl rfl ?_
              refine q_getI rfl hx_51 rfl ((show _ = nI p from rfl)) ?_
              refine q_iret rfl rfl ?_
              first | exact ⟨_, _, g, rfl, rfl, fun c y hc => (u2_ne (by omega)).trans (hF c y hc), Or.inl ⟨p, by omega, pz_Ma hM hcxs42, rfl⟩⟩ | exact ⟨_, _, g, rfl, rfl, fun c y hc => (u2_ne (by omega)).trans (hF c y hc), Or.inl ⟨p, by omega, pz_Ma hM hcxs73, rfl⟩⟩ | exact ⟨_, _, g, rfl, rfl, fun c y hc => (u2_ne (by omega)).trans (hF c y hc), Or.inl ⟨p, by omega, pz_Mb hM hcxs73 hnp hcxs80, rfl⟩⟩ | exact ⟨_, _, g, rfl, rfl, fun c y hc => (u2_ne (by omega)).trans (hF c y hc), Or.inr ⟨rfl, k, pz_Mc hM hcxs73 hnp hcxs80, (h12 (pz_r4 (pz_Mc hM hcxs73 hnp hcxs80))).1, (h12 (pz_r4 (pz_Mc hM hcxs73 hnp hcxs80))).2, hmn1⟩⟩
            · refine q_bipush (v := (-9)) rfl rfl ?_
              refine q_goto rfl ?_
              refine q_iret rfl rfl ?_
              first | exact ⟨_, _, g, rfl, rfl, fun c y hc => (u2_ne (by omega)).trans (hF c y hc), Or.inl ⟨p, by omega, pz_Ma hM hcxs42, rfl⟩⟩ | exact ⟨_, _, g, rfl, rfl, fun c y hc => (u2_ne (by omega)).trans (hF c y hc), Or.inl ⟨p, by omega, pz_Ma hM hcxs73, rfl⟩⟩ | exact ⟨_, _, g, rfl, rfl, fun c y hc => (u2_ne (by omega)).trans (hF c y hc), Or.inl ⟨p, by omega, pz_Mb hM hcxs73 hnp hcxs80, rfl⟩⟩ | exact ⟨_, _, g, rfl, rfl, fun c y hc => (u2_ne (by omega)).trans (hF c y hc), Or.inr ⟨rfl, k, pz_Mc hM hcxs73 hnp hcxs80, (h12 (pz_r4 (pz_Mc hM hcxs73 hnp hcxs80))).1, (h12 (pz_r4 (pz_Mc hM hcxs73 hnp hcxs80))).2, hmn1⟩⟩
        · refine q_aload_n rfl rfl ?_
          refine q_getI rfl hx_51 rfl ((show _ = nI p from rfl)) ?_
          refine q_aload_n rfl rfl ?_
          refine q_getI rfl hx_51 rfl ((by exact hen1)) ?_
          refine q_icmp_geN rfl (by omega) (by omega) (fun hcxs53 => ?_) (fun hcxs53 => ?_)
          · refine q_iload_n rfl rfl ?_
            refine q_if_eqN rfl (by omega) (fun hcxs73 => ?_) (fun hcxs73 => ?_)
            · refine q_aload_n rfl rfl ?_
              refine q_getI rfl hx_51 rfl ((show _ = nI p from rfl)) ?_
              refine q_iret rfl rfl ?_
              first | exact ⟨_, _, g, rfl, rfl, fun c y hc => (u2_ne (by omega)).trans (hF c y hc), Or.inl ⟨p, by omega, pz_Ma hM hcxs42, rfl⟩⟩ | exact ⟨_, _, g, rfl, rfl, fun c y hc => (u2_ne (by omega)).trans (hF c y hc), Or.inl ⟨p, by omega, pz_Ma hM hcxs73, rfl⟩⟩ | exact ⟨_, _, g, rfl, rfl, fun c y hc => (u2_ne (by omega)).trans (hF c y hc), Or.inl ⟨p, by omega, pz_Mb hM hcxs73 hnp hcxs80, rfl⟩⟩ | exact ⟨_, _, g, rfl, rfl, fun c y hc => (u2_ne (by omega)).trans (hF c y hc), Or.inr ⟨rfl, k, pz_Mc hM hcxs73 hnp hcxs80, (h12 (pz_r4 (pz_Mc hM hcxs73 hnp hcxs80))).1, (h12 (pz_r4 (pz_Mc hM hcxs73 hnp hcxs80))).2, hmn1⟩⟩
            · have hk9 := pz_Mk hM hcxs73
              have hnp : n ≤ p := by omega
              refine q_aload_n rfl rfl ?_
              refine q_getI rfl hx_51 rfl ((by exact hmn1)) ?_
              refine q_if_leN rfl (by omega) (fun hcxs80 => ?_) (fun hcxs80 => ?_)
              · refine q_aload_n rfl rfl ?_
                refine q_getI rfl hx_51 rfl ((show _ = nI p from rfl)) ?_
                refine q_iret rfl rfl ?_
                first | exact ⟨_, _, g, rfl, rfl, fun c y hc => (u2_ne (by omega)).trans (hF c y hc), Or.inl ⟨p, by omega, pz_Ma hM hcxs42, rfl⟩⟩ | exact ⟨_, _, g, rfl, rfl, fun c y hc => (u2_ne (by omega)).trans (hF c y hc), Or.inl ⟨p, by omega, pz_Ma hM hcxs73, rfl⟩⟩ | exact ⟨_, _, g, rfl, rfl, fun c y hc => (u2_ne (by omega)).trans (hF c y hc), Or.inl ⟨p, by omega, pz_Mb hM hcxs73 hnp hcxs80, rfl⟩⟩ | exact ⟨_, _, g, rfl, rfl, fun c y hc => (u2_ne (by omega)).trans (hF c y hc), Or.inr ⟨rfl, k, pz_Mc hM hcxs73 hnp hcxs80, (h12 (pz_r4 (pz_Mc hM hcxs73 hnp hcxs80))).1, (h12 (pz_r4 (pz_Mc hM hcxs73 hnp hcxs80))).2, hmn1⟩⟩
              · refine q_bipush (v := (-9)) rfl rfl ?_
                refine q_goto rfl ?_
                refine q_iret rfl rfl ?_
                first | exact ⟨_, _, g, rfl, rfl, fun c y hc => (u2_ne (by omega)).trans (hF c y hc), Or.inl ⟨p, by omega, pz_Ma hM hcxs42, rfl⟩⟩ | exact ⟨_, _, g, rfl, rfl, fun c y hc => (u2_ne (by omega)).trans (hF c y hc), Or.inl ⟨p, by omega, pz_Ma hM hcxs73, rfl⟩⟩ | exact ⟨_, _, g, rfl, rfl, fun c y hc => (u2_ne (by omega)).trans (hF c y hc), Or.inl ⟨p, by omega, pz_Mb hM hcxs73 hnp hcxs80, rfl⟩⟩ | exact ⟨_, _, g, rfl, rfl, fun c y hc => (u2_ne (by omega)).trans (hF c y hc), Or.inr ⟨rfl, k, pz_Mc hM hcxs73 hnp hcxs80, (h12 (pz_r4 (pz_Mc hM hcxs73 hnp hcxs80))).1, (h12 (pz_r4 (pz_Mc hM hcxs73 hnp hcxs80))).2, hmn1⟩⟩
          · have hpn4 : p < n := by omega
            obtain ⟨v2, q, kk, I4, g4, hrl, hF4, hm4, hC4⟩ := rl_all (X := X) (I := I1) (A := ua A 62 g) (J := J) (B := B) (F := F) t n ht hn hfr1 hen1 tx (fun y hy => by rw [ua_ne (by omega)]; exact htx y hy) p k hpn4 hmn1 (pz_Mk hM hcxs42)
            have hfr4 : I4 51 17 = nI (60 * t) := (hF4 _ _ (by omega)).trans hfr1
            have hen4 : I4 51 19 = nI n := (hF4 _ _ (by omega)).trans hen1
            have hv4 := (pz_Me hpn4 hC4).2
            have hq4 := (pz_Me hpn4 hC4).1
            refine q_aload_n rfl rfl ?_
            refine q_callV0 rfl hx_51 (Nat.le_of_ble_eq_true rfl) (Nat.le_of_ble_eq_true rfl) (hrl) ?_
            refine q_istore_n (L' := [_, _, _]) rfl rfl ?_
            refine q_iload_n rfl rfl ?_
            refine q_if_eqN rfl (by omega) (fun hcxs62 => ?_) (fun hcxs62 => ?_)
            · exact ih_x _ _ (⟨I4, g4, _, v2, kk, rfl, by rw [ua_ua], fun c y hc => (hF4 c y (by omega)).trans (hF c y hc), hfr4, hen4, hm4, fun h4 => ⟨(hF4 _ _ (by omega)).trans (h12 h4).1, (hF4 _ _ (by omega)).trans (h12 h4).2⟩, (by first | exact hq4 | exact pz_s_le hq4), hv4, (by first | exact pz_N1 hM hcxs42 hpn4 hC4 hcxs62 | exact pz_N2 hM hcxs42 hpn4 hC4 hcxs62)⟩)
            · refine q_aload_n rfl rfl ?_
              refine q_callV0 rfl hx_51 (Nat.le_of_ble_eq_true rfl) (Nat.le_of_ble_eq_true rfl) (sX9_skip t n ht hn hfr4 hen4 tx (fun y hy => by (repeat rw [ua_ne (by omega)]); exact htx y hy) q hq4) ?_
              refine q_goto rfl ?_
              exact ih_x _ _ (⟨I4, g4, _, v2, kk, rfl, by rw [ua_ua], fun c y hc => (hF4 c y (by omega)).trans (hF c y hc), hfr4, hen4, hm4, fun h4 => ⟨(hF4 _ _ (by omega)).trans (h12 h4).1, (hF4 _ _ (by omega)).trans (h12 h4).2⟩, (by first | exact hq4 | exact pz_s_le hq4), hv4, (by first | exact pz_N1 hM hcxs42 hpn4 hC4 hcxs62 | exact pz_N2 hM hcxs42 hpn4 hC4 hcxs62)⟩)
      · obtain ⟨I1, g, p, v, k, rfl, rfl, hF, hfr1, hen1, hmn1, h12, hpn, hv1, hM⟩ := hi_x
        refine q_iload_n rfl rfl ?_
        refine q_if_eqN rfl (by omega) (fun hcxf42 => ?_) (fun hcxf42 => ?_)
        · refine q_iload_n rfl rfl ?_
          refine q_if_eqN rfl (by omega) (fun hcxf73 => ?_) (fun hcxf73 => ?_)
          · refine q_aload_n rfl rfl ?_
            refine q_getI rfl hx_51 rfl ((show _ = nI p from rfl)) ?_
            refine q_iret rfl rfl ?_
            first | exact ⟨_, _, g, rfl, rfl, fun c y hc => (u2_ne (by omega)).trans (hF c y hc), Or.inl ⟨p, by omega, pz_Ma hM hcxf42, rfl⟩⟩ | exact ⟨_, _, g, rfl, rfl, fun c y hc => (u2_ne (by omega)).trans (hF c y hc), Or.inl ⟨p, by omega, pz_Ma hM hcxf73, rfl⟩⟩ | exact ⟨_, _, g, rfl, rfl, fun c y hc => (u2_ne (by omega)).trans (hF c y hc), Or.inl ⟨p, by omega, pz_Mb hM hcxf73 hnp hcxf80, rfl⟩⟩ | exact ⟨_, _, g, rfl, rfl, fun c y hc => (u2_ne (by omega)).trans (hF c y hc), Or.inr ⟨rfl, k, pz_Mc hM hcxf73 hnp hcxf80, (h12 (pz_r4 (pz_Mc hM hcxf73 hnp hcxf80))).1, (h12 (pz_r4 (pz_Mc hM hcxf73 hnp hcxf80))).2, hmn1⟩⟩
          · exact absurd (pz_Mx hM) hcxf73
        · exact absurd (pz_Mx hM) hcxf42)
  subst hr_
  subst hh_
  exact ⟨w, I2, g, he_, hf_⟩
