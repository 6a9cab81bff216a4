/-! fault, dome: both sides -/
theorem pz_lf5 {tx : Nat → Int32} {n p : Nat} (h : pz_lf tx n p = 5) : pz_K tx n p = 1 ∧ pz_F tx n 0 2 (p + 1) = 1 ∧ pz_F tx n 0 (pz_h tx (p + 1)) (p + 2) = 1 ∧ pz_F tx n 0 5 (p + 3) = 1 ∧ pz_F tx n 1 9 (p + 4) = 1 := by
  unfold pz_lf at h
  by_cases h0 : pz_K tx n p = 1
  · rw [if_pos h0] at h
    by_cases h1 : pz_F tx n 0 2 (p + 1) = 1
    · rw [if_pos h1] at h
      by_cases h2 : pz_F tx n 0 (pz_h tx (p + 1)) (p + 2) = 1
      · rw [if_pos h2] at h
        by_cases h3 : pz_F tx n 0 5 (p + 3) = 1
        · rw [if_pos h3] at h
          by_cases h4 : pz_F tx n 1 9 (p + 4) = 1
          · exact ⟨h0, h1, h2, h3, h4⟩
          · rw [if_neg h4] at h
            omega
        · rw [if_neg h3] at h
          omega
      · rw [if_neg h2] at h
        omega
    · rw [if_neg h1] at h
      omega
  · rw [if_neg h0] at h
    omega
def pz_ok (g : Nat → Int32) (i : Nat) : Prop := ∃ a b c d, a < 6 ∧ b < 24 ∧ c < 6 ∧ d ≤ 9 ∧ g (4 * i) = nI a ∧ g (4 * i + 1) = nI b ∧ g (4 * i + 2) = sI 2 c ∧ g (4 * i + 3) = nI d
theorem pz_g_lo {tx : Nat → Int32} {p k x : Nat} {g : Nat → Int32} (h : x < 4 * k) : pz_g tx p k g x = g x := by
  unfold pz_g
  rw [pk_un (by omega), pk_un (by omega), pk_un (by omega), pk_un (by omega)]
theorem pz_g_hi {tx : Nat → Int32} {p k x : Nat} {g g' : Nat → Int32} (h : 4 * k ≤ x) (h2 : x < 4 * (k + 1)) : pz_g tx p k g x = pz_g tx p k g' x := by
  unfold pz_g
  by_cases e3 : x = 4 * k + 3
  · rw [e3, pk_us, pk_us]
  · rw [pk_un e3, pk_un e3]
    by_cases e2 : x = 4 * k + 2
    · rw [e2, pk_us, pk_us]
    · rw [pk_un e2, pk_un e2]
      by_cases e1 : x = 4 * k + 1
      · rw [e1, pk_us, pk_us]
      · rw [pk_un e1, pk_un e1, show x = 4 * k by omega, pk_us, pk_us]
theorem pz_g_ok {tx : Nat → Int32} {n p k : Nat} {g : Nat → Int32} (h : pz_lf tx n p = 5) (hg : ∀ i, i < k → pz_ok g i) : ∀ i, i < k + 1 → pz_ok (pz_g tx p k g) i := by
  intro i hi
  by_cases e : i = k
  · subst e
    obtain ⟨h0, h1, h2, h3, h4⟩ := pz_lf5 h
    have d3 := (pz_dig (by decide) (by decide) h3).2.2.1
    have d4 := (pz_dig (by decide) (by decide) h4).2.2.1
    refine ⟨pz_k (tx p), 10 * pz_d tx (p + 1) + pz_d tx (p + 2), pz_d tx (p + 3), pz_d tx (p + 4), pz_Kp h0, pz_24 h1 h2, by omega, d4, ?_, ?_, ?_, ?_⟩
    · unfold pz_g
      rw [pk_un (by omega), pk_un (by omega), pk_un (by omega), pk_us]
    · unfold pz_g
      rw [pk_un (by omega), pk_un (by omega), pk_us]
    · unfold pz_g
      rw [pk_un (by omega), pk_us]
    · unfold pz_g
      rw [pk_us]
  · obtain ⟨a, b, c, d, ha, hb, hc, hd, e0, e1, e2, e3⟩ := hg i (by omega)
    refine ⟨a, b, c, d, ha, hb, hc, hd, ?_, ?_, ?_, ?_⟩
    · rw [pz_g_lo (by omega)]
      exact e0
    · rw [pz_g_lo (by omega)]
      exact e1
    · rw [pz_g_lo (by omega)]
      exact e2
    · rw [pz_g_lo (by omega)]
      exact e3
theorem pz_2l {tx : Nat → Int32} {n : Nat} (r : Nat) : ∀ (k p : Nat) (g g' : Nat → Int32), k + r = 5 → (∀ x, x < 4 * k → g x = g' x) → (∀ i, i < k → pz_ok g i) → (∃ f, pz_l tx n r k p g = .inl f ∧ pz_l tx n r k p g' = .inl f) ∨ (∃ kk h h', pz_l tx n r k p g = .inr (kk, h) ∧ pz_l tx n r k p g' = .inr (kk, h') ∧ 1 ≤ kk ∧ kk ≤ 5 ∧ (∀ x, x < 4 * kk → h x = h' x) ∧ ∀ i, i < kk → pz_ok h i) := by
  induction r with
  | zero =>
    intro k p g g' hk hx ho
    by_cases h : p < n
    · exact Or.inl ⟨p, if_pos h, if_pos h⟩
    · exact Or.inr ⟨k, g, g', if_neg h, if_neg h, by omega, by omega, hx, ho⟩
  | succ r ih =>
    intro k p g g' hk hx ho
    have e1 : ∀ g, pz_l tx n (r + 1) k p g = if k ≠ 0 ∧ ¬ p < n then .inr (k, g) else if pz_lf tx n p = 5 then pz_l tx n r (k + 1) (pz_s tx n (p + 5)) (pz_g tx p k g) else .inl (p + pz_lf tx n p) := fun _ => rfl
    rw [e1, e1]
    by_cases h : k ≠ 0 ∧ ¬ p < n
    · rw [if_pos h, if_pos h]
      exact Or.inr ⟨k, g, g', rfl, rfl, by omega, by omega, hx, ho⟩
    · rw [if_neg h, if_neg h]
      by_cases h5 : pz_lf tx n p = 5
      · rw [if_pos h5, if_pos h5]
        refine ih (k + 1) _ _ _ (by omega) (fun x hx2 => ?_) (pz_g_ok h5 ho)
        by_cases h9 : x < 4 * k
        · rw [pz_g_lo h9, pz_g_lo h9]
          exact hx x h9
        · exact pz_g_hi (by omega) hx2
      · rw [if_neg h5, if_neg h5]
        exact Or.inl ⟨_, rfl, rfl⟩
theorem pz_2r (tx : Nat → Int32) (n : Nat) (g g' : Nat → Int32) : (∃ f, pz_r tx n g = .inl f ∧ pz_r tx n g' = .inl f) ∨ (∃ kk h h', pz_r tx n g = .inr (kk, h) ∧ pz_r tx n g' = .inr (kk, h') ∧ 1 ≤ kk ∧ kk ≤ 5 ∧ (∀ x, x < 4 * kk → h x = h' x) ∧ (∀ i, i < kk → pz_ok h i) ∧ 1 ≤ pz_d tx (pz_s tx n 0 + 1) ∧ pz_d tx (pz_s tx n 0 + 1) ≤ 5 ∧ 10 * pz_d tx (pz_s tx n 0 + 2) + pz_d tx (pz_s tx n 0 + 3) < 24) := by
  unfold pz_r
  rcases pz_hl tx n (pz_s tx n 0) with ⟨h4, _, _, _, b1, b5, s24⟩ | ⟨h4, _⟩
  · rw [if_pos h4, if_pos h4]
    rcases pz_2l 5 0 (pz_s tx n (pz_s tx n 0 + 4)) g g' rfl (fun x hx => absurd hx (Nat.not_lt_zero x)) (fun i hi => absurd hi (Nat.not_lt_zero i)) with h | ⟨kk, h, h', e1, e2, k1, k5, hx, ho⟩
    · exact Or.inl h
    · exact Or.inr ⟨kk, h, h', e1, e2, k1, k5, hx, ho, b1, b5, s24⟩
  · rw [if_neg (by omega), if_neg (by omega)]
    exact Or.inl ⟨_, rfl, rfl⟩
section FRp
variable {I I' A : Nat → Nat → Int32} {ln b st : Nat}
def pz_fr (I' I : Nat → Nat → Int32) : Prop := ∀ c k, c ≠ 3 → (c ≠ 51 ∨ k < 17 ∨ 23 < k) → I' c k = I c k
theorem RelL_fr (h : pz_fr I' I) (hr : RelL I A) : RelL I' A := by
  intro q hq
  rw [h _ _ (by omega) (by omega)]
  exact hr q hq
theorem RelT_fr (h : pz_fr I' I) (hr : RelT I A) : RelT I' A := by
  intro q hq
  rw [h _ _ (by omega) (by omega)]
  exact hr q hq
theorem RelK_fr (h : pz_fr I' I) (hr : RelK I A) : RelK I' A := by
  intro q hq
  rw [h _ _ (by omega) (by omega), h _ _ (by omega) (by omega), h _ _ (by omega) (by omega), h _ _ (by omega) (by omega)]
  exact hr q hq
theorem RelD_fr (h : pz_fr I' I) (hr : RelD ln b st I) : RelD ln b st I' := by
  unfold RelD
  rw [h _ _ (by omega) (by omega), h _ _ (by omega) (by omega), h _ _ (by omega) (by omega), h _ _ (by omega) (by omega), h _ _ (by omega) (by omega), h _ _ (by omega) (by omega)]
  exact hr
theorem RelN_fr {n x : Nat} (hn : n ≠ 3) (hn2 : n ≠ 51) (h : pz_fr I' I) (hr : RelN st n x I A) : RelN st n x I' A := by
  unfold RelN
  rw [h _ _ hn (Or.inl hn2), h _ _ hn (Or.inl hn2), h _ _ hn (Or.inl hn2), h _ _ hn (Or.inl hn2)]
  exact hr
theorem RelQ_fr (h : pz_fr I' I) (hr : RelQ st I A) : RelQ st I' A := by
  intro k hk
  rw [h _ _ (by omega) (by omega)]
  exact (hr k hk).imp id (RelN_fr (by omega) (by omega) h)
theorem RelF_fr (h : pz_fr I' I) (hr : RelF I A) : RelF I' A := by
  unfold RelF
  rw [h _ _ (by omega) (by omega), h _ _ (by omega) (by omega)]
  exact hr
theorem RelU_fr (h : pz_fr I' I) (hr : RelU I) : RelU I' := by
  unfold RelU
  rw [h _ _ (by omega) (by omega), h _ _ (by omega) (by omega)]
  exact hr
end FRp
theorem c_fault_bad {X : XX} {I A : Nat → Nat → Int32} {J B : Nat → Nat → Int64} {F : Nat → Nat} (x : Int32) (hx : x < 0 ∨ 4 ≤ x)  : x_ev X xT 7 88 [.ref 0, .int x] (HX I A J B F) (some (.int (-1))) (HX I A J B F) := by
  refine q_ev (L := [some (.ref 0), some (.int x), none, none]) tX8_fault (Nat.le_of_ble_eq_true rfl) rfl ?_
  refine q_aload_n rfl rfl ?_
  refine q_getfield rfl hx_0 rfl ?_
  refine q_iload_n rfl rfl ?_
  refine q_callS2 rfl rfl (Nat.le_of_ble_eq_true rfl) (Nat.le_of_ble_eq_true rfl) (sX8_lineAt_txtN x hx) ?_
  refine q_astore_nN (L' := [_, _, _, _]) rfl rfl ?_
  refine q_aload_n rfl rfl ?_
  refine q_aload_nN rfl rfl ?_
  refine q_callV1 rfl hx_0 (Nat.le_of_ble_eq_true rfl) (Nat.le_of_ble_eq_true rfl) (sX8_refuseLine_N) ?_
  refine q_istore_n (L' := [_, _, _, _]) rfl rfl ?_
  refine q_aload_nN rfl rfl ?_
  refine q_ifnullN rfl ?_
  refine q_iload_n rfl rfl ?_
  refine q_iret rfl rfl ?_
  exact ⟨rfl, rfl⟩
theorem c_fault_M {X : XX} {I A : Nat → Nat → Int32} {J B : Nat → Nat → Int64} {F : Nat → Nat} (t : Nat) (ht : t < 4) (hz : I (20 + 2 * (6 + t)) 1 = -1) : x_ev X xT 7 88 [.ref 0, .int (nI t)] (HX I A J B F) (some (.int (-3))) (HX (u2 I 0 13 (nI 1)) (f_cnt A 19 1) J B F) := by
  refine q_ev (L := [some (.ref 0), some (.int (nI t)), none, none]) tX8_fault (Nat.le_of_ble_eq_true rfl) rfl ?_
  refine q_aload_n rfl rfl ?_
  refine q_getfield rfl hx_0 rfl ?_
  refine q_iload_n rfl rfl ?_
  refine q_callS2 rfl rfl (Nat.le_of_ble_eq_true rfl) (Nat.le_of_ble_eq_true rfl) (sX8_lineAt_t t ht) ?_
  refine q_astore_n (L' := [_, _, _, _]) rfl rfl ?_
  refine q_aload_n rfl rfl ?_
  refine q_aload_n rfl rfl ?_
  refine q_callV1 rfl hx_0 (Nat.le_of_ble_eq_true rfl) (Nat.le_of_ble_eq_true rfl) (sX8_refuseLine_M (6 + t) (by omega) hz) ?_
  refine q_istore_n (L' := [_, _, _, _]) rfl rfl ?_
  refine q_aload_n rfl rfl ?_
  refine q_ifnull rfl ?_
  refine q_iload_n rfl rfl ?_
  refine q_if_eq rfl (fun hc20 => ?_) (fun hc20 => ?_)
  · exact absurd hc20 (by decide)
  · refine q_iload_n rfl rfl ?_
    refine q_iret rfl rfl ?_
    exact ⟨rfl, rfl⟩
theorem c_dome_bad {X : XX} {I A : Nat → Nat → Int32} {J B : Nat → Nat → Int64} {F : Nat → Nat} (x : Int32) (hx : x < 0 ∨ 4 ≤ x)  : x_ev X xT 7 89 [.ref 0, .int x] (HX I A J B F) (some (.int (-1))) (HX I A J B F) := by
  refine q_ev (L := [some (.ref 0), some (.int x), none, none, none]) tX8_dome (Nat.le_of_ble_eq_true rfl) rfl ?_
  refine q_aload_n rfl rfl ?_
  refine q_getfield rfl hx_0 rfl ?_
  refine q_iload_n rfl rfl ?_
  refine q_callS2 rfl rfl (Nat.le_of_ble_eq_true rfl) (Nat.le_of_ble_eq_true rfl) (sX8_lineAt_txtN x hx) ?_
  refine q_astore_nN (L' := [_, _, _, _, _]) rfl rfl ?_
  refine q_aload_n rfl rfl ?_
  refine q_aload_nN rfl rfl ?_
  refine q_callV1 rfl hx_0 (Nat.le_of_ble_eq_true rfl) (Nat.le_of_ble_eq_true rfl) (sX8_refuseLine_N) ?_
  refine q_istore_n (L' := [_, _, _, _, _]) rfl rfl ?_
  refine q_aload_nN rfl rfl ?_
  refine q_ifnullN rfl ?_
  refine q_iload_n rfl rfl ?_
  refine q_iret rfl rfl ?_
  exact ⟨rfl, rfl⟩
theorem c_dome_M {X : XX} {I A : Nat → Nat → Int32} {J B : Nat → Nat → Int64} {F : Nat → Nat} (t : Nat) (ht : t < 4) (hz : I (20 + 2 * (6 + t)) 1 = -1) : x_ev X xT 7 89 [.ref 0, .int (nI t)] (HX I A J B F) (some (.int (-3))) (HX (u2 I 0 13 (nI 1)) (f_cnt A 19 1) J B F) := by
  refine q_ev (L := [some (.ref 0), some (.int (nI t)), none, none, none]) tX8_dome (Nat.le_of_ble_eq_true rfl) rfl ?_
  refine q_aload_n rfl rfl ?_
  refine q_getfield rfl hx_0 rfl ?_
  refine q_iload_n rfl rfl ?_
  refine q_callS2 rfl rfl (Nat.le_of_ble_eq_true rfl) (Nat.le_of_ble_eq_true rfl) (sX8_lineAt_t t ht) ?_
  refine q_astore_n (L' := [_, _, _, _, _]) rfl rfl ?_
  refine q_aload_n rfl rfl ?_
  refine q_aload_n rfl rfl ?_
  refine q_callV1 rfl hx_0 (Nat.le_of_ble_eq_true rfl) (Nat.le_of_ble_eq_true rfl) (sX8_refuseLine_M (6 + t) (by omega) hz) ?_
  refine q_istore_n (L' := [_, _, _, _, _]) rfl rfl ?_
  refine q_aload_n rfl rfl ?_
  refine q_ifnull rfl ?_
  refine q_iload_n rfl rfl ?_
  refine q_if_eq rfl (fun hc20 => ?_) (fun hc20 => ?_)
  · exact absurd hc20 (by decide)
  · refine q_iload_n rfl rfl ?_
    refine q_iret rfl rfl ?_
    exact ⟨rfl, rfl⟩
theorem c_fault_0 {X : XX} {I A : Nat → Nat → Int32} {J B : Nat → Nat → Int64} {F : Nat → Nat} (t n : Nat) (ht : t < 4) (hn : n ≤ 60) (hz : I (20 + 2 * (6 + t)) 1 = nI n) (tx : Nat → Int32) (htx : ∀ k, k < 60 → A (21 + 2 * (6 + t)) k = tx k) (hby : ∀ k, k < 60 → byOK (tx k))  : ∃ v I2 g, x_ev X xT 7 88 [.ref 0, .int (nI t)] (HX I A J B F) (some (.int v)) (HX I2 (ua A 4 g) J B F) ∧ (∀ c k, c ≠ 3 → I2 c k = I c k) ∧ ((∃ f, f ≤ 60 ∧ pz_r tx n (A 4) = .inl f ∧ v = nI f) ∨ (v = -9 ∧ ∃ kk, pz_r tx n (A 4) = .inr (kk, g))) := by
  obtain ⟨v, I2, g, h8, hfr, hC⟩ := sX4_faultOf (X := X) (I := I) (J := J) (B := B) (F := F) (A := A) t n ht hn hz tx htx hby
  obtain ⟨r_, h_, he_, v, I2, g, hr_, hh_, hf_⟩ := q_evx (X := X) (d := 6) (as := [.ref 0, .int (nI t)]) (h := (HX I A J B F)) (P := fun r_ h_ => ∃ v I2 g, r_ = (some (.int v)) ∧ h_ = (HX I2 (ua A 4 g) J B F) ∧ (∀ c k, c ≠ 3 → I2 c k = I c k) ∧ ((∃ f, f ≤ 60 ∧ pz_r tx n (A 4) = .inl f ∧ v = nI f) ∨ (v = -9 ∧ ∃ kk, pz_r tx n (A 4) = .inr (kk, g)))) (L := [some (.ref 0), some (.int (nI t)), none, none]) tX8_fault (Nat.le_of_ble_eq_true rfl) rfl (by
    refine q_aload_n rfl rfl ?_
    refine q_getfield rfl hx_0 rfl ?_
    refine q_iload_n rfl rfl ?_
    refine q_callS2 rfl rfl (Nat.le_of_ble_eq_true rfl) (Nat.le_of_ble_eq_true rfl) (sX8_lineAt_t t ht) ?_
    refine q_astore_n (L' := [_, _, _, _]) rfl rfl ?_
    refine q_aload_n rfl rfl ?_
    refine q_aload_n rfl rfl ?_
    refine q_callV1 rfl hx_0 (Nat.le_of_ble_eq_true rfl) (Nat.le_of_ble_eq_true rfl) (sX8_refuseLine_0 (6 + t) (by omega) n (by rw [rm_txt]; exact hn) hz) ?_
    refine q_istore_n (L' := [_, _, _, _]) rfl rfl ?_
    refine q_aload_n rfl rfl ?_
    refine q_ifnull rfl ?_
    refine q_iload_n rfl rfl ?_
    refine q_if_eqN rfl (by omega) (fun hc20 => ?_) (fun hc20 => ?_)
    · refine q_aload_n rfl rfl ?_
      refine q_getfield rfl hx_0 rfl ?_
      refine q_aload_n rfl rfl ?_
      refine q_callV1 rfl hx_3 (Nat.le_of_ble_eq_true rfl) (Nat.le_of_ble_eq_true rfl) (h8) ?_
      refine q_iret rfl rfl ?_
      exact ⟨v, I2, g, rfl, rfl, hfr, hC.imp id (fun ⟨z, kk, w⟩ => ⟨z, kk, w.1⟩)⟩
    · exact absurd hc20 (by decide))
  subst hr_
  subst hh_
  exact ⟨v, I2, g, he_, hf_⟩
theorem c_dome_F {X : XX} {I A : Nat → Nat → Int32} {J B : Nat → Nat → Int64} {F : Nat → Nat} (t n : Nat) (ht : t < 4) (hn : n ≤ 60) (hz : I (20 + 2 * (6 + t)) 1 = nI n) (tx : Nat → Int32) (htx : ∀ k, k < 60 → A (21 + 2 * (6 + t)) k = tx k) (hby : ∀ k, k < 60 → byOK (tx k)) (f : Nat) (hR : pz_r tx n (A 4) = .inl f) : ∃ I2 g, x_ev X xT 7 89 [.ref 0, .int (nI t)] (HX I A J B F) (some (.int (-4))) (HX I2 (ua A 4 g) J B F) ∧ (∀ c k, c ≠ 3 → I2 c k = I c k) := by
  obtain ⟨v, I2, g, h8, hfr, hC⟩ := sX4_faultOf (X := X) (I := I) (J := J) (B := B) (F := F) (A := A) t n ht hn hz tx htx hby
  have hv : ∃ f, f ≤ 60 ∧ v = nI f := by
    rcases hC with ⟨f, hf, _, e⟩ | ⟨_, kk, e, _⟩
    · exact ⟨f, hf, e⟩
    · rw [hR] at e
      cases e
  obtain ⟨f1, hf1, rfl⟩ := hv
  obtain ⟨r_, h_, he_, I2, g, hr_, hh_, hf_⟩ := q_evx (X := X) (d := 6) (as := [.ref 0, .int (nI t)]) (h := (HX I A J B F)) (P := fun r_ h_ => ∃ I2 g, r_ = (some (.int (-4))) ∧ h_ = (HX I2 (ua A 4 g) J B F) ∧ (∀ c k, c ≠ 3 → I2 c k = I c k)) (L := [some (.ref 0), some (.int (nI t)), none, none, none]) tX8_dome (Nat.le_of_ble_eq_true rfl) rfl (by
    refine q_aload_n rfl rfl ?_
    refine q_getfield rfl hx_0 rfl ?_
    refine q_iload_n rfl rfl ?_
    refine q_callS2 rfl rfl (Nat.le_of_ble_eq_true rfl) (Nat.le_of_ble_eq_true rfl) (sX8_lineAt_t t ht) ?_
    refine q_astore_n (L' := [_, _, _, _, _]) rfl rfl ?_
    refine q_aload_n rfl rfl ?_
    refine q_aload_n rfl rfl ?_
    refine q_callV1 rfl hx_0 (Nat.le_of_ble_eq_true rfl) (Nat.le_of_ble_eq_true rfl) (sX8_refuseLine_0 (6 + t) (by omega) n (by rw [rm_txt]; exact hn) hz) ?_
    refine q_istore_n (L' := [_, _, _, _, _]) rfl rfl ?_
    refine q_aload_n rfl rfl ?_
    refine q_ifnull rfl ?_
    refine q_iload_n rfl rfl ?_
    refine q_if_eqN rfl (by omega) (fun hc20 => ?_) (fun hc20 => ?_)
    · refine q_aload_n rfl rfl ?_
      refine q_getfield rfl hx_0 rfl ?_
      refine q_aload_n rfl rfl ?_
      refine q_callV1 rfl hx_3 (Nat.le_of_ble_eq_true rfl) (Nat.le_of_ble_eq_true rfl) (h8) ?_
      refine q_bipush (v := (-9)) rfl rfl ?_
      refine q_icmp_eq rfl (fun hc35 => ?_) (fun hc35 => ?_)
      · exact absurd hc35 (nI_m9 (by omega))
      · refine q_bipush (v := (-4)) rfl rfl ?_
        refine q_iret rfl rfl ?_
        exact ⟨I2, g, rfl, rfl, hfr⟩
    · exact absurd hc20 (by decide))
  subst hr_
  subst hh_
  exact ⟨I2, g, he_, hf_⟩
set_option maxHeartbeats 1000000 in
theorem sX4_build {X : XX} {I A : Nat → Nat → Int32} {J B : Nat → Nat → Int64} {F : Nat → Nat} (kk : Nat) (hk5 : kk ≤ 5) (e3 : I 3 3 = nI kk) : ∃ I1, x_ev X xT 2 55 [.ref 3, .ref 7, .ref 5] (HX I A J B F) (some (.int (nI kk))) (HX I1 A J B F) ∧ (∀ i, i < kk → I1 (40 + i) 0 = A 4 (4 * i) ∧ I1 (40 + i) 1 = A 4 (4 * i + 1) ∧ I1 (40 + i) 2 = A 4 (4 * i + 2) ∧ I1 (40 + i) 3 = A 4 (4 * i + 3)) ∧ (∀ c y, c ≠ 7 → (c < 40 ∨ 40 + kk ≤ c) → I1 c y = I c y) ∧ I1 7 0 = I 3 1 ∧ I1 7 1 = I 3 2 := by
  obtain ⟨r_, h_, he_, I1, hr_, hh_, hf_⟩ := q_evx (X := X) (d := 1) (as := [.ref 3, .ref 7, .ref 5]) (h := (HX I A J B F)) (P := fun r_ h_ => ∃ I1, r_ = (some (.int (nI kk))) ∧ h_ = (HX I1 A J B F) ∧ (∀ i, i < kk → I1 (40 + i) 0 = A 4 (4 * i) ∧ I1 (40 + i) 1 = A 4 (4 * i + 1) ∧ I1 (40 + i) 2 = A 4 (4 * i + 2) ∧ I1 (40 + i) 3 = A 4 (4 * i + 3)) ∧ (∀ c y, c ≠ 7 → (c < 40 ∨ 40 + kk ≤ c) → I1 c y = I c y) ∧ I1 7 0 = I 3 1 ∧ I1 7 1 = I 3 2) (L := [some (.ref 3), some (.ref 7), some (.ref 5), none, none]) tX4_build (Nat.le_of_ble_eq_true rfl) rfl (by
    refine q_aload_n rfl rfl ?_
    refine q_aload_n rfl rfl ?_
    refine q_getfield rfl hx_3 rfl ?_
    refine q_aload_n rfl rfl ?_
    refine q_getfield rfl hx_3 rfl ?_
    refine q_callV2 rfl hx_7 (Nat.le_of_ble_eq_true rfl) (Nat.le_of_ble_eq_true rfl) ((hf_7 _ _ ▸ sX6_become hx_7 _ _)) ?_
    refine q_iconst (v := nI 0) rfl rfl ?_
    refine q_istore_n (L' := [_, _, _, _, _]) rfl rfl ?_
    refine q_up (Inv := fun k L h => ∃ I1 z4, L = [some (.ref 3), some (.ref 7), some (.ref 5), some (.int (nI k)), z4] ∧ h = HX I1 A J B F ∧ (∀ i, i < k → I1 (40 + i) 0 = A 4 (4 * i) ∧ I1 (40 + i) 1 = A 4 (4 * i + 1) ∧ I1 (40 + i) 2 = A 4 (4 * i + 2) ∧ I1 (40 + i) 3 = A 4 (4 * i + 3)) ∧ (∀ c y, c ≠ 7 → (c < 40 ∨ 40 + k ≤ c) → I1 c y = I c y) ∧ I1 7 0 = I 3 1 ∧ I1 7 1 = I 3 2) (kk) (fun k L h hk_k hi_k ih_k => ?_) (fun L h hi_k => ?_) (0) _ _ (by omega) (⟨_, _, rfl, rfl, fun i hi => absurd hi (Nat.not_lt_zero i), fun c y hc _ => (u2_ne (Or.inl hc)).trans (u2_ne (Or.inl hc)), (u2_ne (Or.inr (by decide))).trans u2_eq, u2_eq⟩)
    · obtain ⟨I1, z4, rfl, rfl, hN, hf, h70, h71⟩ := hi_k
      refine q_iload_n rfl rfl ?_
      refine q_aload_n rfl rfl ?_
      refine q_getI rfl hx_3 rfl ((hf 3 3 (by decide) (by omega)).trans e3) ?_
      refine q_icmp_geN rfl (by omega) (by omega) (fun hcks19 => ?_) (fun hcks19 => ?_)
      · omega
      · refine q_iload_n rfl rfl ?_
        refine q_aload_n rfl rfl ?_
        refine q_alen rfl (by decide) hx_5 (by decide) (v := nI _) rfl ?_
        refine q_icmp_geN rfl (by omega) (by omega) (fun hcks25 => ?_) (fun hcks25 => ?_)
        · omega
        · refine q_iload_n rfl rfl ?_
          refine q_iconst (v := nI 5) rfl rfl ?_
          refine q_icmp_geN rfl (by omega) (by omega) (fun hcks30 => ?_) (fun hcks30 => ?_)
          · omega
          · refine q_iload_n rfl rfl ?_
            refine q_iconst (v := nI 4) rfl rfl ?_
            refine q_imulN rfl ?_
            refine q_cn (congrArg nI (Nat.mul_comm k 4)) ?_
            refine q_istore (L' := [_, _, _, _, _]) rfl rfl ?_
            refine q_aload_n rfl rfl ?_
            refine q_iload_n rfl rfl ?_
            refine q_aald rfl hx_5 (by omega) (by decide) rfl (xr5_at k (by omega)) ?_
            refine q_aload_n rfl rfl ?_
            refine q_getfield rfl hx_3 rfl ?_
            refine q_iload rfl rfl ?_
            refine q_iald rfl (by decide) hx_4 (by omega) (by decide) (rfl) ?_
            refine q_aload_n rfl rfl ?_
            refine q_getfield rfl hx_3 rfl ?_
            refine q_iload rfl rfl ?_
            refine q_iconst (v := nI 1) rfl rfl ?_
            refine q_iaddN rfl ?_
            refine q_iald rfl (by decide) hx_4 (by omega) (by decide) (rfl) ?_
            refine q_aload_n rfl rfl ?_
            refine q_getfield rfl hx_3 rfl ?_
            refine q_iload rfl rfl ?_
            refine q_iconst (v := nI 2) rfl rfl ?_
            refine q_iaddN rfl ?_
            refine q_iald rfl (by decide) hx_4 (by omega) (by decide) (rfl) ?_
            refine q_aload_n rfl rfl ?_
            refine q_getfield rfl hx_3 rfl ?_
            refine q_iload rfl rfl ?_
            refine q_iconst (v := nI 3) rfl rfl ?_
            refine q_iaddN rfl ?_
            refine q_iald rfl (by decide) hx_4 (by omega) (by decide) (rfl) ?_
            refine q_callV4 rfl (hx_light k (by omega)) (Nat.le_of_ble_eq_true rfl) (Nat.le_of_ble_eq_true rfl) ((hf_light k (by omega) _ _ _ _ ▸ sX1_become (hx_light k (by omega)) _ _ _ _)) ?_
            refine q_iincN (c := 1) (L' := [_, _, _, _, _]) rfl rfl rfl rfl ?_
            refine q_goto rfl ?_
            exact ih_k _ _ (⟨_, _, rfl, rfl, fun i hi => by
                  by_cases e9 : i = k
                  · subst e9
                    exact ⟨(u2_ne (Or.inr (by decide))).trans ((u2_ne (Or.inr (by decide))).trans ((u2_ne (Or.inr (by decide))).trans u2_eq)), (u2_ne (Or.inr (by decide))).trans ((u2_ne (Or.inr (by decide))).trans u2_eq), (u2_ne (Or.inr (by decide))).trans u2_eq, u2_eq⟩
                  · have h9 := hN i (by omega)
                    exact ⟨(u2_ne (by omega)).trans ((u2_ne (by omega)).trans ((u2_ne (by omega)).trans ((u2_ne (by omega)).trans h9.1))), (u2_ne (by omega)).trans ((u2_ne (by omega)).trans ((u2_ne (by omega)).trans ((u2_ne (by omega)).trans h9.2.1))), (u2_ne (by omega)).trans ((u2_ne (by omega)).trans ((u2_ne (by omega)).trans ((u2_ne (by omega)).trans h9.2.2.1))), (u2_ne (by omega)).trans ((u2_ne (by omega)).trans ((u2_ne (by omega)).trans ((u2_ne (by omega)).trans h9.2.2.2)))⟩, fun c y hc hc2 => (u2_ne (by omega)).trans ((u2_ne (by omega)).trans ((u2_ne (by omega)).trans ((u2_ne (by omega)).trans (hf c y hc (by omega))))), (u2_ne (by omega)).trans ((u2_ne (by omega)).trans ((u2_ne (by omega)).trans ((u2_ne (by omega)).trans h70))), (u2_ne (by omega)).trans ((u2_ne (by omega)).trans ((u2_ne (by omega)).trans ((u2_ne (by omega)).trans h71)))⟩)
    · obtain ⟨I1, z4, rfl, rfl, hN, hf, h70, h71⟩ := hi_k
      refine q_iload_n rfl rfl ?_
      refine q_aload_n rfl rfl ?_
      refine q_getI rfl hx_3 rfl ((hf 3 3 (by decide) (by omega)).trans e3) ?_
      refine q_icmp_geN rfl (by omega) (by omega) (fun hckf19 => ?_) (fun hckf19 => ?_)
      · refine q_aload_n rfl rfl ?_
        refine q_getI rfl hx_3 rfl ((hf 3 3 (by decide) (by omega)).trans e3) ?_
        refine q_iret rfl rfl ?_
        exact ⟨I1, rfl, rfl, hN, hf, h70, h71⟩
      · omega)
  subst hr_
  subst hh_
  exact ⟨I1, he_, hf_⟩
