/-! dome: the class whole, the reference, the calls -/
def K4 (X : Nat → Nat → Int32) (k b s r : Nat → Int32) : Nat → Nat → Int32 := ua (ua (ua (ua X 53 k) 54 b) 55 s) 56 r
section K4s
variable {X : Nat → Nat → Int32} {k b s r f : Nat → Int32}
theorem K4_53 : ua (K4 X k b s r) 53 f = K4 X f b s r := by
  unfold K4
  rw [ua_comm (c := 56) (d := 53) (by decide), ua_comm (c := 55) (d := 53) (by decide), ua_comm (c := 54) (d := 53) (by decide), ua_ua]
theorem K4_54 : ua (K4 X k b s r) 54 f = K4 X k f s r := by
  unfold K4
  rw [ua_comm (c := 56) (d := 54) (by decide), ua_comm (c := 55) (d := 54) (by decide), ua_ua]
theorem K4_55 : ua (K4 X k b s r) 55 f = K4 X k b f r := by
  unfold K4
  rw [ua_comm (c := 56) (d := 55) (by decide), ua_ua]
theorem K4_56 : ua (K4 X k b s r) 56 f = K4 X k b s f := by
  unfold K4
  rw [ua_ua]
theorem K4r_53 : K4 X k b s r 53 = k := rfl
theorem K4r_54 : K4 X k b s r 54 = b := rfl
theorem K4r_55 : K4 X k b s r 55 = s := rfl
theorem K4r_56 : K4 X k b s r 56 = r := rfl
theorem K4_ne {x : Nat} (h : x < 53 ∨ 56 < x) : K4 X k b s r x = X x := by
  unfold K4
  rw [ua_ne (by omega), ua_ne (by omega), ua_ne (by omega), ua_ne (by omega)]
theorem K4_id : K4 X (X 53) (X 54) (X 55) (X 56) = X := by
  unfold K4
  rw [ua_self (A := X) (c := 53) rfl, ua_self (A := X) (c := 54) rfl, ua_self (A := X) (c := 55) rfl, ua_self (A := X) (c := 56) rfl]
end K4s
set_option maxHeartbeats 1000000 in
theorem c_dome_0 {X : XX} {I A : Nat → Nat → Int32} {J B : Nat → Nat → Int64} {F : Nat → Nat} (t n : Nat) (ht : t < 4) (hn : n ≤ 60) (hz : I (20 + 2 * (6 + t)) 1 = nI n) (tx : Nat → Int32) (htx : ∀ k, k < 60 → A (21 + 2 * (6 + t)) k = tx k) (hby : ∀ k, k < 60 → byOK (tx k)) (kk : Nat) (hk5 : kk ≤ 5) (g : Nat → Int32) (hR : pz_r tx n (A 4) = .inr (kk, g)) : ∃ I3, x_ev X xT 7 89 [.ref 0, .int (nI t)] (HX I A J B F) (some (.int (nI kk))) (HX I3 (ua A 4 g) J B F) ∧ (∀ i, i < kk → I3 (40 + i) 0 = g (4 * i) ∧ I3 (40 + i) 1 = g (4 * i + 1) ∧ I3 (40 + i) 2 = g (4 * i + 2) ∧ I3 (40 + i) 3 = g (4 * i + 3)) ∧ (∀ c y, c ≠ 3 → c ≠ 7 → c ≠ 8 → (c ≠ 0 ∨ y ≠ 12) → (c < 40 ∨ 40 + kk ≤ c) → (c < 45 ∨ 49 < c) → I3 c y = I c y) ∧ I3 0 12 = nI kk ∧ I3 7 0 = nI (pz_d tx ((pz_s tx n 0) + 1)) ∧ I3 7 1 = nI (10 * pz_d tx ((pz_s tx n 0) + 2) + pz_d tx ((pz_s tx n 0) + 3)) ∧ (I3 8 1 = 0 ∧ I3 8 2 = 0 ∧ I3 8 3 = 0 ∧ I3 8 4 = 0) ∧ ∀ j, j < 3 → I3 (45 + 2 * j) 1 = -1 := by
  obtain ⟨v, I2, g1, h8, hfr, hC⟩ := sX4_faultOf (X := X) (I := I) (J := J) (B := B) (F := F) (A := A) t n ht hn hz tx htx hby
  have hv : v = -9 ∧ g = g1 ∧ I2 3 1 = nI (pz_d tx ((pz_s tx n 0) + 1)) ∧ I2 3 2 = nI (10 * pz_d tx ((pz_s tx n 0) + 2) + pz_d tx ((pz_s tx n 0) + 3)) ∧ I2 3 3 = nI kk := by
    rcases hC with ⟨f, hf, e, _⟩ | ⟨e9, k2, e, w1, w2, w3⟩
    · rw [hR] at e
      cases e
    · rw [hR] at e
      cases e
      exact ⟨e9, rfl, w1, w2, w3⟩
  obtain ⟨rfl, rfl, w1, w2, w3⟩ := hv
  obtain ⟨I1, hbd, hN1, hF1, h70, h71⟩ := sX4_build (X := X) (I := I2) (A := ua A 4 g) (J := J) (B := B) (F := F) kk hk5 w3
  rw [w1] at h70
  rw [w2] at h71
  obtain ⟨r_, h_, he_, I3, hr_, hh_, hf_⟩ := q_evx (X := X) (d := 6) (as := [.ref 0, .int (nI t)]) (h := (HX I A J B F)) (P := fun r_ h_ => ∃ I3, r_ = (some (.int (nI kk))) ∧ h_ = (HX I3 (ua A 4 g) J B F) ∧ (∀ i, i < kk → I3 (40 + i) 0 = g (4 * i) ∧ I3 (40 + i) 1 = g (4 * i + 1) ∧ I3 (40 + i) 2 = g (4 * i + 2) ∧ I3 (40 + i) 3 = g (4 * i + 3)) ∧ (∀ c y, c ≠ 3 → c ≠ 7 → c ≠ 8 → (c ≠ 0 ∨ y ≠ 12) → (c < 40 ∨ 40 + kk ≤ c) → (c < 45 ∨ 49 < c) → I3 c y = I c y) ∧ I3 0 12 = nI kk ∧ I3 7 0 = nI (pz_d tx ((pz_s tx n 0) + 1)) ∧ I3 7 1 = nI (10 * pz_d tx ((pz_s tx n 0) + 2) + pz_d tx ((pz_s tx n 0) + 3)) ∧ (I3 8 1 = 0 ∧ I3 8 2 = 0 ∧ I3 8 3 = 0 ∧ I3 8 4 = 0) ∧ ∀ j, j < 3 → I3 (45 + 2 * j) 1 = -1) (L := [some (.ref 0), some (.int (nI t)), none, none, none]) tX8_dome (Nat.le_of_ble_eq_true rfl) rfl (by
    refine q_aload_n rfl rfl ?_
    refine q_getfield rfl hx_0 rfl ?_
    refine q_iload_n rfl rfl ?_
    refine q_callS2 rfl rfl (Nat.le_of_ble_eq_true rfl) (Nat.le_of_ble_eq_true rfl) (sX8_lineAt_t t ht) ?_
    refine q_astore_n (L' := [_, _, _, _, _]) rfl rfl ?_
    refine q_aload_n rfl rfl ?_
    refine q_aload_n rfl rfl ?_
    refine q_callV1 rfl hx_0 (Nat.le_of_ble_eq_true rfl) (Nat.le_of_ble_eq_true rfl) (sX8_refuseLine_0 (6 + t) (by omega) n (by rw [rm_txt]; exact hn) hz) ?_
    refine q_istore_n (L' := [_, _, _, _, _]) rfl rfl ?_
    refine q_aload_n rfl rfl ?_
    refine q_ifnull rfl ?_
    refine q_iload_n rfl rfl ?_
    refine q_if_eqN rfl (by omega) (fun hc20 => ?_) (fun hc20 => ?_)
    · refine q_aload_n rfl rfl ?_
      refine q_getfield rfl hx_0 rfl ?_
      refine q_aload_n rfl rfl ?_
      refine q_callV1 rfl hx_3 (Nat.le_of_ble_eq_true rfl) (Nat.le_of_ble_eq_true rfl) (h8) ?_
      refine q_bipush (v := (-9)) rfl rfl ?_
      refine q_icmp_eq rfl (fun hc35 => ?_) (fun hc35 => ?_)
      · refine q_aload_n rfl rfl ?_
        refine q_aload_n rfl rfl ?_
        refine q_getfield rfl hx_0 rfl ?_
        refine q_aload_n rfl rfl ?_
        refine q_getfield rfl hx_0 rfl ?_
        refine q_aload_n rfl rfl ?_
        refine q_getfield rfl hx_0 rfl ?_
        refine q_callV2 rfl hx_3 (Nat.le_of_ble_eq_true rfl) (Nat.le_of_ble_eq_true rfl) (hbd) ?_
        refine q_putfield rfl hx_0 rfl (Nat.le_of_ble_eq_true rfl) (rfl) (by decide +kernel) ?_
        refine q_heap (hs_0_12 _) ?_
        refine q_aload_n rfl rfl ?_
        refine q_getfield rfl hx_0 rfl ?_
        refine q_callV0 rfl hx_8 (Nat.le_of_ble_eq_true rfl) (Nat.le_of_ble_eq_true rfl) ((hf_8 _ _ _ _ ▸ sX3_begin hx_8)) ?_
        refine q_iconst (v := nI 0) rfl rfl ?_
        refine q_istore (L' := [_, _, _, _, _]) rfl rfl ?_
        refine q_up (Inv := fun k L h => ∃ I3, L = [some (.ref 0), some (.int (nI t)), some (.ref (20 + 2 * (6 + t))), some (.int (nI 0)), some (.int (nI k))] ∧ h = HX I3 (ua A 4 g) J B F ∧ I3 0 12 = nI kk ∧ (I3 8 1 = 0 ∧ I3 8 2 = 0 ∧ I3 8 3 = 0 ∧ I3 8 4 = 0) ∧ (∀ j, j < k → I3 (45 + 2 * j) 1 = -1) ∧ ∀ c y, (c ≠ 0 ∨ y ≠ 12) → c ≠ 8 → (c < 45 ∨ 49 < c) → I3 c y = I1 c y) (3) (fun k L h hk_k hi_k ih_k => ?_) (fun L h hi_k => ?_) (0) _ _ (by omega) (⟨_, rfl, rfl, (u2_ne (by omega)).trans ((u2_ne (by omega)).trans ((u2_ne (by omega)).trans ((u2_ne (by omega)).trans (u2_eq)))), ⟨(u2_ne (by omega)).trans ((u2_ne (by omega)).trans ((u2_ne (by omega)).trans (u2_eq))), (u2_ne (by omega)).trans ((u2_ne (by omega)).trans (u2_eq)), (u2_ne (by omega)).trans (u2_eq), u2_eq⟩, fun j hj => absurd hj (Nat.not_lt_zero j), fun c y h1 h2 h3 => (u2_ne (by omega)).trans ((u2_ne (by omega)).trans ((u2_ne (by omega)).trans ((u2_ne (by omega)).trans ((u2_ne (by omega)).trans (rfl)))))⟩)
        · obtain ⟨I3, rfl, rfl, h12, h8s, hkp, hF3⟩ := hi_k
          refine q_iload rfl rfl ?_
          refine q_aload_n rfl rfl ?_
          refine q_getfield rfl hx_0 rfl ?_
          refine q_alen rfl (by decide) hx_10 (by decide) (v := nI _) rfl ?_
          refine q_icmp_geN rfl (by omega) (by omega) (fun hcks77 => ?_) (fun hcks77 => ?_)
          · omega
          · refine q_aload_n rfl rfl ?_
            refine q_getfield rfl hx_0 rfl ?_
            refine q_iload rfl rfl ?_
            refine q_aald rfl hx_10 (by omega) (by decide) rfl (xr10_at k (by omega)) ?_
            refine q_callV0 rfl (hx_kept k (by omega)) (Nat.le_of_ble_eq_true rfl) (Nat.le_of_ble_eq_true rfl) ((hf_kept k (by omega) _ _ _ _ ▸ sX3_forget (hx_kept k (by omega)))) ?_
            refine q_iincN (c := 1) (L' := [_, _, _, _, _]) rfl rfl rfl rfl ?_
            refine q_goto rfl ?_
            exact ih_k _ _ (⟨_, rfl, rfl, (u2_ne (by omega)).trans ((u2_ne (by omega)).trans ((u2_ne (by omega)).trans ((u2_ne (by omega)).trans (h12)))), ⟨(u2_ne (by omega)).trans ((u2_ne (by omega)).trans ((u2_ne (by omega)).trans ((u2_ne (by omega)).trans (h8s.1)))), (u2_ne (by omega)).trans ((u2_ne (by omega)).trans ((u2_ne (by omega)).trans ((u2_ne (by omega)).trans (h8s.2.1)))), (u2_ne (by omega)).trans ((u2_ne (by omega)).trans ((u2_ne (by omega)).trans ((u2_ne (by omega)).trans (h8s.2.2.1)))), (u2_ne (by omega)).trans ((u2_ne (by omega)).trans ((u2_ne (by omega)).trans ((u2_ne (by omega)).trans (h8s.2.2.2))))⟩, fun j hj => by by_cases e9 : j = k; subst e9; exact (u2_ne (by omega)).trans ((u2_ne (by omega)).trans ((u2_ne (by omega)).trans (u2_eq))); exact (u2_ne (by omega)).trans ((u2_ne (by omega)).trans ((u2_ne (by omega)).trans ((u2_ne (by omega)).trans (hkp j (by omega))))), fun c y h1 h2 h3 => (u2_ne (by omega)).trans ((u2_ne (by omega)).trans ((u2_ne (by omega)).trans ((u2_ne (by omega)).trans (hF3 c y h1 h2 h3))))⟩)
        · obtain ⟨I3, rfl, rfl, h12, h8s, hkp, hF3⟩ := hi_k
          refine q_iload rfl rfl ?_
          refine q_aload_n rfl rfl ?_
          refine q_getfield rfl hx_0 rfl ?_
          refine q_alen rfl (by decide) hx_10 (by decide) (v := nI _) rfl ?_
          refine q_icmp_geN rfl (by omega) (by omega) (fun hckf77 => ?_) (fun hckf77 => ?_)
          · refine q_aload_n rfl rfl ?_
            refine q_getI rfl hx_0 rfl (h12) ?_
            refine q_iret rfl rfl ?_
            exact ⟨I3, rfl, rfl, fun i hi => by
                  have e9 := hN1 i hi
                  rw [hF3 _ _ (by omega) (by omega) (by omega), hF3 _ _ (by omega) (by omega) (by omega), hF3 _ _ (by omega) (by omega) (by omega), hF3 _ _ (by omega) (by omega) (by omega)]
                  exact e9, fun c y h3 h7 h8 h0 h4 h5 => (hF3 c y h0 h8 h5).trans ((hF1 c y h7 h4).trans (hfr c y h3)), h12, (hF3 _ _ (by omega) (by omega) (by omega)).trans h70, (hF3 _ _ (by omega) (by omega) (by omega)).trans h71, h8s, hkp⟩
          · omega
      · exact absurd hc35 (by decide)
    · exact absurd hc20 (by decide))
  subst hr_
  subst hh_
  exact ⟨I3, he_, hf_⟩
theorem m_fault_bad {X : XX} {I A : Nat → Nat → Int32} {J B : Nat → Nat → Int64} {F : Nat → Nat} (x : Int32) (hx : x < 0 ∨ 4 ≤ x)  : x_ev X xT 6 174 [.ref 51, .int x] (HX I A J B F) (some (.int (-1))) (HX I A J B F) := by
  refine q_ev (L := [some (.ref 51), some (.int x)]) tX9_fault (Nat.le_of_ble_eq_true rfl) rfl ?_
  refine q_iload_n rfl rfl ?_
  refine q_callS1 rfl rfl (Nat.le_of_ble_eq_true rfl) (Nat.le_of_ble_eq_true rfl) (sX9_isText_0 x hx) ?_
  refine q_if_neN rfl (by omega) (fun hc4 => ?_) (fun hc4 => ?_)
  · exact absurd hc4 (by decide)
  · refine q_iconst (v := (-1)) rfl rfl ?_
    refine q_iret rfl rfl ?_
    exact ⟨rfl, rfl⟩
theorem m_fault_M {X : XX} {I A : Nat → Nat → Int32} {J B : Nat → Nat → Int64} {F : Nat → Nat} (t : Nat) (ht : t < 4) (hz : A 59 t = -1) : x_ev X xT 6 174 [.ref 51, .int (nI t)] (HX I A J B F) (some (.int (-3))) (HX (u2 I 51 15 (nI 1)) (f_cnt A 61 1) J B F) := by
  refine q_ev (L := [some (.ref 51), some (.int (nI t))]) tX9_fault (Nat.le_of_ble_eq_true rfl) rfl ?_
  refine q_iload_n rfl rfl ?_
  refine q_callS1 rfl rfl (Nat.le_of_ble_eq_true rfl) (Nat.le_of_ble_eq_true rfl) (sX9_isText_1 t ht) ?_
  refine q_if_neN rfl (by omega) (fun hc4 => ?_) (fun hc4 => ?_)
  · refine q_aload_n rfl rfl ?_
    refine q_getfield rfl hx_51 rfl ?_
    refine q_iload_n rfl rfl ?_
    refine q_iald rfl (by decide) hx_59 (by omega) (by decide) (hz) ?_
    refine q_if_ge rfl (fun hc15 => ?_) (fun hc15 => ?_)
    · exact absurd hc15 (by decide)
    · refine q_aload_n rfl rfl ?_
      refine q_iconst (v := nI 1) rfl rfl ?_
      refine q_callV1 rfl hx_51 (Nat.le_of_ble_eq_true rfl) (Nat.le_of_ble_eq_true rfl) (sX9_find 1 (by decide)) ?_
      refine q_goto rfl ?_
      refine q_iret rfl rfl ?_
      exact ⟨rfl, rfl⟩
  · exact absurd hc4 (by decide)
theorem m_dome_bad {X : XX} {I A : Nat → Nat → Int32} {J B : Nat → Nat → Int64} {F : Nat → Nat} (x : Int32) (hx : x < 0 ∨ 4 ≤ x)  : x_ev X xT 6 175 [.ref 51, .int x] (HX I A J B F) (some (.int (-1))) (HX I A J B F) := by
  refine q_ev (L := [some (.ref 51), some (.int x), none]) tX9_dome (Nat.le_of_ble_eq_true rfl) rfl ?_
  refine q_iload_n rfl rfl ?_
  refine q_callS1 rfl rfl (Nat.le_of_ble_eq_true rfl) (Nat.le_of_ble_eq_true rfl) (sX9_isText_0 x hx) ?_
  refine q_if_neN rfl (by omega) (fun hc4 => ?_) (fun hc4 => ?_)
  · exact absurd hc4 (by decide)
  · refine q_iconst (v := (-1)) rfl rfl ?_
    refine q_iret rfl rfl ?_
    exact ⟨rfl, rfl⟩
theorem m_dome_M {X : XX} {I A : Nat → Nat → Int32} {J B : Nat → Nat → Int64} {F : Nat → Nat} (t : Nat) (ht : t < 4) (hz : A 59 t = -1) : x_ev X xT 6 175 [.ref 51, .int (nI t)] (HX I A J B F) (some (.int (-3))) (HX (u2 I 51 15 (nI 1)) (f_cnt A 61 1) J B F) := by
  refine q_ev (L := [some (.ref 51), some (.int (nI t)), none]) tX9_dome (Nat.le_of_ble_eq_true rfl) rfl ?_
  refine q_iload_n rfl rfl ?_
  refine q_callS1 rfl rfl (Nat.le_of_ble_eq_true rfl) (Nat.le_of_ble_eq_true rfl) (sX9_isText_1 t ht) ?_
  refine q_if_neN rfl (by omega) (fun hc4 => ?_) (fun hc4 => ?_)
  · refine q_aload_n rfl rfl ?_
    refine q_getfield rfl hx_51 rfl ?_
    refine q_iload_n rfl rfl ?_
    refine q_iald rfl (by decide) hx_59 (by omega) (by decide) (hz) ?_
    refine q_if_ge rfl (fun hc15 => ?_) (fun hc15 => ?_)
    · exact absurd hc15 (by decide)
    · refine q_aload_n rfl rfl ?_
      refine q_iconst (v := nI 1) rfl rfl ?_
      refine q_callV1 rfl hx_51 (Nat.le_of_ble_eq_true rfl) (Nat.le_of_ble_eq_true rfl) (sX9_find 1 (by decide)) ?_
      refine q_iret rfl rfl ?_
      exact ⟨rfl, rfl⟩
  · exact absurd hc4 (by decide)
theorem m_fault_0 {X : XX} {I A : Nat → Nat → Int32} {J B : Nat → Nat → Int64} {F : Nat → Nat} (t n : Nat) (ht : t < 4) (hn : n ≤ 60) (hz : A 59 t = nI n) (tx : Nat → Int32) (htx : ∀ k, k < 60 → A 60 (60 * t + k) = tx k)  : ∃ w I2 g, x_ev X xT 6 174 [.ref 51, .int (nI t)] (HX I A J B F) (some (.int w)) (HX I2 (ua A 62 g) J B F) ∧ (∀ c y, (c ≠ 51 ∨ y < 17 ∨ 23 < y) → I2 c y = I c y) ∧ ((∃ f, f ≤ 60 ∧ pz_r tx n (A 62) = .inl f ∧ w = nI f) ∨ (w = -9 ∧ ∃ kk, pz_r tx n (A 62) = .inr (kk, g))) := by
  obtain ⟨w, I2, g, h8, hfr, hC⟩ := sX9_faultOf (X := X) (I := I) (J := J) (B := B) (F := F) (A := A) t n ht hn hz tx htx
  obtain ⟨r_, h_, he_, w, I2, g, hr_, hh_, hf_⟩ := q_evx (X := X) (d := 5) (as := [.ref 51, .int (nI t)]) (h := (HX I A J B F)) (P := fun r_ h_ => ∃ w I2 g, r_ = (some (.int w)) ∧ h_ = (HX I2 (ua A 62 g) J B F) ∧ (∀ c y, (c ≠ 51 ∨ y < 17 ∨ 23 < y) → I2 c y = I c y) ∧ ((∃ f, f ≤ 60 ∧ pz_r tx n (A 62) = .inl f ∧ w = nI f) ∨ (w = -9 ∧ ∃ kk, pz_r tx n (A 62) = .inr (kk, g)))) (L := [some (.ref 51), some (.int (nI t))]) tX9_fault (Nat.le_of_ble_eq_true rfl) rfl (by
    refine q_iload_n rfl rfl ?_
    refine q_callS1 rfl rfl (Nat.le_of_ble_eq_true rfl) (Nat.le_of_ble_eq_true rfl) (sX9_isText_1 t ht) ?_
    refine q_if_neN rfl (by omega) (fun hc4 => ?_) (fun hc4 => ?_)
    · refine q_aload_n rfl rfl ?_
      refine q_getfield rfl hx_51 rfl ?_
      refine q_iload_n rfl rfl ?_
      refine q_iald rfl (by decide) hx_59 (by omega) (by decide) (hz) ?_
      refine q_if_geN rfl (by omega) (fun hc15 => ?_) (fun hc15 => ?_)
      · refine q_aload_n rfl rfl ?_
        refine q_iload_n rfl rfl ?_
        refine q_callV1 rfl hx_51 (Nat.le_of_ble_eq_true rfl) (Nat.le_of_ble_eq_true rfl) (h8) ?_
        refine q_iret rfl rfl ?_
        exact ⟨w, I2, g, rfl, rfl, hfr, hC.imp id (fun ⟨z, kk, v⟩ => ⟨z, kk, v.1⟩)⟩
      · omega
    · exact absurd hc4 (by decide))
  subst hr_
  subst hh_
  exact ⟨w, I2, g, he_, hf_⟩
theorem m_dome_F {X : XX} {I A : Nat → Nat → Int32} {J B : Nat → Nat → Int64} {F : Nat → Nat} (t n : Nat) (ht : t < 4) (hn : n ≤ 60) (hz : A 59 t = nI n) (tx : Nat → Int32) (htx : ∀ k, k < 60 → A 60 (60 * t + k) = tx k) (f : Nat) (hR : pz_r tx n (A 62) = .inl f) : ∃ I2 g, x_ev X xT 6 175 [.ref 51, .int (nI t)] (HX I A J B F) (some (.int (-4))) (HX I2 (ua A 62 g) J B F) ∧ (∀ c y, (c ≠ 51 ∨ y < 17 ∨ 23 < y) → I2 c y = I c y) := by
  obtain ⟨w, I2, g, h8, hfr, hC⟩ := sX9_faultOf (X := X) (I := I) (J := J) (B := B) (F := F) (A := A) t n ht hn hz tx htx
  have hv : ∃ f, f ≤ 60 ∧ w = nI f := by
    rcases hC with ⟨f, hf, _, e⟩ | ⟨_, kk, e, _⟩
    · exact ⟨f, hf, e⟩
    · rw [hR] at e
      cases e
  obtain ⟨f1, hf1, rfl⟩ := hv
  obtain ⟨r_, h_, he_, I2, g, hr_, hh_, hf_⟩ := q_evx (X := X) (d := 5) (as := [.ref 51, .int (nI t)]) (h := (HX I A J B F)) (P := fun r_ h_ => ∃ I2 g, r_ = (some (.int (-4))) ∧ h_ = (HX I2 (ua A 62 g) J B F) ∧ (∀ c y, (c ≠ 51 ∨ y < 17 ∨ 23 < y) → I2 c y = I c y)) (L := [some (.ref 51), some (.int (nI t)), none]) tX9_dome (Nat.le_of_ble_eq_true rfl) rfl (by
    refine q_iload_n rfl rfl ?_
    refine q_callS1 rfl rfl (Nat.le_of_ble_eq_true rfl) (Nat.le_of_ble_eq_true rfl) (sX9_isText_1 t ht) ?_
    refine q_if_neN rfl (by omega) (fun hc4 => ?_) (fun hc4 => ?_)
    · refine q_aload_n rfl rfl ?_
      refine q_getfield rfl hx_51 rfl ?_
      refine q_iload_n rfl rfl ?_
      refine q_iald rfl (by decide) hx_59 (by omega) (by decide) (hz) ?_
      refine q_if_geN rfl (by omega) (fun hc15 => ?_) (fun hc15 => ?_)
      · refine q_aload_n rfl rfl ?_
        refine q_iload_n rfl rfl ?_
        refine q_callV1 rfl hx_51 (Nat.le_of_ble_eq_true rfl) (Nat.le_of_ble_eq_true rfl) (h8) ?_
        refine q_bipush (v := (-9)) rfl rfl ?_
        refine q_icmp_eq rfl (fun hc31 => ?_) (fun hc31 => ?_)
        · exact absurd hc31 (nI_m9 (by omega))
        · refine q_bipush (v := (-4)) rfl rfl ?_
          refine q_iret rfl rfl ?_
          exact ⟨I2, g, rfl, rfl, hfr⟩
      · omega
    · exact absurd hc4 (by decide))
  subst hr_
  subst hh_
  exact ⟨I2, g, he_, hf_⟩
set_option maxHeartbeats 1000000 in
theorem m_dome_0 {X : XX} {I A : Nat → Nat → Int32} {J B : Nat → Nat → Int64} {F : Nat → Nat} (t n : Nat) (ht : t < 4) (hn : n ≤ 60) (hz : A 59 t = nI n) (tx : Nat → Int32) (htx : ∀ k, k < 60 → A 60 (60 * t + k) = tx k) (kk : Nat) (hk5 : kk ≤ 5) (g : Nat → Int32) (hR : pz_r tx n (A 62) = .inr (kk, g)) : ∃ I2 k1 b1 s1 r1 w, x_ev X xT 6 175 [.ref 51, .int (nI t)] (HX I A J B F) (some (.int (nI kk))) (HX (u2 (u2 (u2 I2 51 1 (nI (pz_d tx ((pz_s tx n 0) + 1)))) 51 2 (nI (10 * pz_d tx ((pz_s tx n 0) + 2) + pz_d tx ((pz_s tx n 0) + 3)))) 51 3 (nI kk)) (ua (K4 (ua A 62 g) k1 b1 s1 r1) 52 w) J B F) ∧ (∀ c y, (c ≠ 51 ∨ y < 17 ∨ 23 < y) → I2 c y = I c y) ∧ ((∀ x, x < kk → k1 x = g (4 * x) ∧ b1 x = g (4 * x + 1) ∧ s1 x = g (4 * x + 2) ∧ r1 x = g (4 * x + 3)) ∧ ∀ x, kk ≤ x → k1 x = A 53 x ∧ b1 x = A 54 x ∧ s1 x = A 55 x ∧ r1 x = A 56 x) ∧ (∀ y, y < 124 → w y = nI 0) ∧ (∀ j, 1 ≤ j → j < 4 → w (124 * j) = -1) := by
  obtain ⟨w, I2, g1, h8, hfr, hC⟩ := sX9_faultOf (X := X) (I := I) (J := J) (B := B) (F := F) (A := A) t n ht hn hz tx htx
  have hv : w = -9 ∧ g = g1 ∧ I2 51 20 = nI (pz_d tx ((pz_s tx n 0) + 1)) ∧ I2 51 21 = nI (10 * pz_d tx ((pz_s tx n 0) + 2) + pz_d tx ((pz_s tx n 0) + 3)) ∧ I2 51 23 = nI kk := by
    rcases hC with ⟨f, hf, e, _⟩ | ⟨e9, k2, e, w1, w2, w3⟩
    · rw [hR] at e
      cases e
    · rw [hR] at e
      cases e
      exact ⟨e9, rfl, w1, w2, w3⟩
  obtain ⟨rfl, rfl, w1, w2, w3⟩ := hv
  obtain ⟨r_, h_, he_, I2, k1, b1, s1, r1, w, hr_, hh_, hf_⟩ := q_evx (X := X) (d := 5) (as := [.ref 51, .int (nI t)]) (h := (HX I A J B F)) (P := fun r_ h_ => ∃ I2 k1 b1 s1 r1 w, r_ = (some (.int (nI kk))) ∧ h_ = (HX (u2 (u2 (u2 I2 51 1 (nI (pz_d tx ((pz_s tx n 0) + 1)))) 51 2 (nI (10 * pz_d tx ((pz_s tx n 0) + 2) + pz_d tx ((pz_s tx n 0) + 3)))) 51 3 (nI kk)) (ua (K4 (ua A 62 g) k1 b1 s1 r1) 52 w) J B F) ∧ (∀ c y, (c ≠ 51 ∨ y < 17 ∨ 23 < y) → I2 c y = I c y) ∧ ((∀ x, x < kk → k1 x = g (4 * x) ∧ b1 x = g (4 * x + 1) ∧ s1 x = g (4 * x + 2) ∧ r1 x = g (4 * x + 3)) ∧ ∀ x, kk ≤ x → k1 x = A 53 x ∧ b1 x = A 54 x ∧ s1 x = A 55 x ∧ r1 x = A 56 x) ∧ (∀ y, y < 124 → w y = nI 0) ∧ (∀ j, 1 ≤ j → j < 4 → w (124 * j) = -1)) (L := [some (.ref 51), some (.int (nI t)), none]) tX9_dome (Nat.le_of_ble_eq_true rfl) rfl (by
    refine q_iload_n rfl rfl ?_
    refine q_callS1 rfl rfl (Nat.le_of_ble_eq_true rfl) (Nat.le_of_ble_eq_true rfl) (sX9_isText_1 t ht) ?_
    refine q_if_neN rfl (by omega) (fun hc4 => ?_) (fun hc4 => ?_)
    · refine q_aload_n rfl rfl ?_
      refine q_getfield rfl hx_51 rfl ?_
      refine q_iload_n rfl rfl ?_
      refine q_iald rfl (by decide) hx_59 (by omega) (by decide) (hz) ?_
      refine q_if_geN rfl (by omega) (fun hc15 => ?_) (fun hc15 => ?_)
      · refine q_aload_n rfl rfl ?_
        refine q_iload_n rfl rfl ?_
        refine q_callV1 rfl hx_51 (Nat.le_of_ble_eq_true rfl) (Nat.le_of_ble_eq_true rfl) (h8) ?_
        refine q_bipush (v := (-9)) rfl rfl ?_
        refine q_icmp_eq rfl (fun hc31 => ?_) (fun hc31 => ?_)
        · refine q_aload_n rfl rfl ?_
          refine q_aload_n rfl rfl ?_
          refine q_getI rfl hx_51 rfl ((by exact w1)) ?_
          refine q_putfield rfl hx_51 rfl (Nat.le_of_ble_eq_true rfl) (rfl) (by decide +kernel) ?_
          refine q_heap (hs_51_1 _) ?_
          refine q_aload_n rfl rfl ?_
          refine q_aload_n rfl rfl ?_
          refine q_getI rfl hx_51 rfl ((by exact w2)) ?_
          refine q_putfield rfl hx_51 rfl (Nat.le_of_ble_eq_true rfl) (rfl) (by decide +kernel) ?_
          refine q_heap (hs_51_2 _) ?_
          refine q_aload_n rfl rfl ?_
          refine q_aload_n rfl rfl ?_
          refine q_getI rfl hx_51 rfl ((by exact w3)) ?_
          refine q_putfield rfl hx_51 rfl (Nat.le_of_ble_eq_true rfl) (rfl) (by decide +kernel) ?_
          refine q_heap (hs_51_3 _) ?_
          refine q_iconst (v := nI 0) rfl rfl ?_
          refine q_istore_n (L' := [_, _, _]) rfl rfl ?_
          refine q_up (Inv := fun i L h => ∃ k1 b1 s1 r1, L = [some (.ref 51), some (.int (nI t)), some (.int (nI i))] ∧ h = HX (u2 (u2 (u2 I2 51 1 (nI (pz_d tx ((pz_s tx n 0) + 1)))) 51 2 (nI (10 * pz_d tx ((pz_s tx n 0) + 2) + pz_d tx ((pz_s tx n 0) + 3)))) 51 3 (nI kk)) (K4 (ua A 62 g) k1 b1 s1 r1) J B F ∧ (∀ x, x < i → k1 x = g (4 * x) ∧ b1 x = g (4 * x + 1) ∧ s1 x = g (4 * x + 2) ∧ r1 x = g (4 * x + 3)) ∧ ∀ x, i ≤ x → k1 x = A 53 x ∧ b1 x = A 54 x ∧ s1 x = A 55 x ∧ r1 x = A 56 x) (kk) (fun i L h hk_i hi_i ih_i => ?_) (fun L h hi_i => ?_) (0) _ _ (by omega) (⟨A 53, A 54, A 55, A 56, rfl, by rw [show K4 (ua A 62 g) (A 53) (A 54) (A 55) (A 56) = ua A 62 g from K4_id], fun x hx => absurd hx (Nat.not_lt_zero x), fun x hx => ⟨rfl, rfl, rfl, rfl⟩⟩)
          · obtain ⟨k1, b1, s1, r1, rfl, rfl, hKa, hKb⟩ := hi_i
            refine q_iload_n rfl rfl ?_
            refine q_aload_n rfl rfl ?_
            refine q_getI rfl hx_51 rfl ((show _ = nI kk from rfl)) ?_
            refine q_icmp_geN rfl (by omega) (by omega) (fun hcis68 => ?_) (fun hcis68 => ?_)
            · omega
            · refine q_aload_n rfl rfl ?_
              refine q_getfield rfl hx_51 rfl ?_
              refine q_iload_n rfl rfl ?_
              refine q_aload_n rfl rfl ?_
              refine q_getfield rfl hx_51 rfl ?_
              refine q_iconst (v := nI 4) rfl rfl ?_
              refine q_iload_n rfl rfl ?_
              refine q_imulN rfl ?_
              refine q_iald rfl (by decide) hx_62 (by omega) (by decide) (rfl) ?_
              refine q_iastN rfl hx_53 (by omega) (by decide) ?_
              refine q_heap (ha_53 _) ?_
              refine q_aload_n rfl rfl ?_
              refine q_getfield rfl hx_51 rfl ?_
              refine q_iload_n rfl rfl ?_
              refine q_aload_n rfl rfl ?_
              refine q_getfield rfl hx_51 rfl ?_
              refine q_iconst (v := nI 4) rfl rfl ?_
              refine q_iload_n rfl rfl ?_
              refine q_imulN rfl ?_
              refine q_iconst (v := nI 1) rfl rfl ?_
              refine q_iaddN rfl ?_
              refine q_iald rfl (by decide) hx_62 (by omega) (by decide) (rfl) ?_
              refine q_iastN rfl hx_54 (by omega) (by decide) ?_
              refine q_heap (ha_54 _) ?_
              refine q_aload_n rfl rfl ?_
              refine q_getfield rfl hx_51 rfl ?_
              refine q_iload_n rfl rfl ?_
              refine q_aload_n rfl rfl ?_
              refine q_getfield rfl hx_51 rfl ?_
              refine q_iconst (v := nI 4) rfl rfl ?_
              refine q_iload_n rfl rfl ?_
              refine q_imulN rfl ?_
              refine q_iconst (v := nI 2) rfl rfl ?_
              refine q_iaddN rfl ?_
              refine q_iald rfl (by decide) hx_62 (by omega) (by decide) (rfl) ?_
              refine q_iastN rfl hx_55 (by omega) (by decide) ?_
              refine q_heap (ha_55 _) ?_
              refine q_aload_n rfl rfl ?_
              refine q_getfield rfl hx_51 rfl ?_
              refine q_iload_n rfl rfl ?_
              refine q_aload_n rfl rfl ?_
              refine q_getfield rfl hx_51 rfl ?_
              refine q_iconst (v := nI 4) rfl rfl ?_
              refine q_iload_n rfl rfl ?_
              refine q_imulN rfl ?_
              refine q_iconst (v := nI 3) rfl rfl ?_
              refine q_iaddN rfl ?_
              refine q_iald rfl (by decide) hx_62 (by omega) (by decide) (rfl) ?_
              refine q_iastN rfl hx_56 (by omega) (by decide) ?_
              refine q_heap (ha_56 _) ?_
              refine q_iincN (c := 1) (L' := [_, _, _]) rfl rfl rfl rfl ?_
              refine q_goto rfl ?_
              exact ih_i _ _ (⟨_, _, _, _, rfl, by simp only [K4_53, K4_54, K4_55, K4_56, K4r_53, K4r_54, K4r_55, K4r_56]; rfl, fun x hx => by
                    by_cases e9 : x = i
                    · subst e9
                      rw [pk_us, pk_us, pk_us, pk_us]
                      exact ⟨rfl, rfl, rfl, rfl⟩
                    · rw [pk_un e9, pk_un e9, pk_un e9, pk_un e9]
                      exact hKa x (by omega), fun x hx => by
                    rw [pk_un (by omega), pk_un (by omega), pk_un (by omega), pk_un (by omega)]
                    exact hKb x (by omega)⟩)
          · obtain ⟨k1, b1, s1, r1, rfl, rfl, hKa, hKb⟩ := hi_i
            refine q_iload_n rfl rfl ?_
            refine q_aload_n rfl rfl ?_
            refine q_getI rfl hx_51 rfl ((show _ = nI kk from rfl)) ?_
            refine q_icmp_geN rfl (by omega) (by omega) (fun hcif68 => ?_) (fun hcif68 => ?_)
            · refine q_iconst (v := nI 0) rfl rfl ?_
              refine q_istore_n (L' := [_, _, _]) rfl rfl ?_
              refine q_up (Inv := fun y L h => ∃ w, L = [some (.ref 51), some (.int (nI t)), some (.int (nI y))] ∧ h = HX (u2 (u2 (u2 I2 51 1 (nI (pz_d tx ((pz_s tx n 0) + 1)))) 51 2 (nI (10 * pz_d tx ((pz_s tx n 0) + 2) + pz_d tx ((pz_s tx n 0) + 3)))) 51 3 (nI kk)) (ua (K4 (ua A 62 g) k1 b1 s1 r1) 52 w) J B F ∧ ∀ x, x < y → w x = nI 0) (124) (fun y L h hk_y hi_y ih_y => ?_) (fun L h hi_y => ?_) (0) _ _ (by omega) (⟨A 52, rfl, by rw [ua_self (A := (K4 (ua A 62 g) k1 b1 s1 r1)) (c := 52) (f := A 52) rfl], fun x hx => absurd hx (Nat.not_lt_zero x)⟩)
              · obtain ⟨w, rfl, rfl, hw⟩ := hi_y
                refine q_iload_n rfl rfl ?_
                refine q_bipush (v := nI 124) rfl rfl ?_
                refine q_icmp_geN rfl (by omega) (by omega) (fun hcys144 => ?_) (fun hcys144 => ?_)
                · omega
                · refine q_aload_n rfl rfl ?_
                  refine q_getfield rfl hx_51 rfl ?_
                  refine q_iload_n rfl rfl ?_
                  refine q_iconst (v := nI 0) rfl rfl ?_
                  refine q_iastN rfl hx_52 (by omega) (by decide) ?_
                  refine q_heap (ha_52 _) ?_
                  refine q_iincN (c := 1) (L' := [_, _, _]) rfl rfl rfl rfl ?_
                  refine q_goto rfl ?_
                  exact ih_y _ _ (⟨_, rfl, by rw [ua_ua, ua_eq], fun x hx => by by_cases e9 : x = y; subst e9; exact pk_us; rw [pk_un e9]; exact hw x (by omega)⟩)
              · obtain ⟨w, rfl, rfl, hw⟩ := hi_y
                refine q_iload_n rfl rfl ?_
                refine q_bipush (v := nI 124) rfl rfl ?_
                refine q_icmp_geN rfl (by omega) (by omega) (fun hcyf144 => ?_) (fun hcyf144 => ?_)
                · refine q_iconst (v := nI 1) rfl rfl ?_
                  refine q_istore_n (L' := [_, _, _]) rfl rfl ?_
                  refine q_up (Inv := fun y L h => ∃ w, L = [some (.ref 51), some (.int (nI t)), some (.int (nI y))] ∧ h = HX (u2 (u2 (u2 I2 51 1 (nI (pz_d tx ((pz_s tx n 0) + 1)))) 51 2 (nI (10 * pz_d tx ((pz_s tx n 0) + 2) + pz_d tx ((pz_s tx n 0) + 3)))) 51 3 (nI kk)) (ua (K4 (ua A 62 g) k1 b1 s1 r1) 52 w) J B F ∧ (∀ y, y < 124 → w y = nI 0) ∧ (∀ j, 1 ≤ j → j < y → w (124 * j) = -1) ∧ 1 ≤ y) (4) (fun y L h hk_y hi_y ih_y => ?_) (fun L h hi_y => ?_) (1) _ _ (by omega) (⟨w, rfl, rfl, hw, fun j h1 h2 => absurd h1 (by omega), Nat.le_refl _⟩)
                  · obtain ⟨w, rfl, rfl, hw, hw2, hy1⟩ := hi_y
                    refine q_iload_n rfl rfl ?_
                    refine q_iconst (v := nI 4) rfl rfl ?_
                    refine q_icmp_geN rfl (by omega) (by omega) (fun hcys164 => ?_) (fun hcys164 => ?_)
                    · omega
                    · refine q_aload_n rfl rfl ?_
                      refine q_getfield rfl hx_51 rfl ?_
                      refine q_bipush (v := nI 124) rfl rfl ?_
                      refine q_iload_n rfl rfl ?_
                      refine q_imulN rfl ?_
                      refine q_iconst (v := nI 0) rfl rfl ?_
                      refine q_iaddN rfl ?_
                      refine q_iconst (v := (-1)) rfl rfl ?_
                      refine q_iastN rfl hx_52 (by omega) (by decide) ?_
                      refine q_heap (ha_52 _) ?_
                      refine q_iincN (c := 1) (L' := [_, _, _]) rfl rfl rfl rfl ?_
                      refine q_goto rfl ?_
                      exact ih_y _ _ (⟨_, rfl, by rw [ua_ua, ua_eq], fun x hx => by rw [pk_un (by omega)]; exact hw x hx, fun j h1 h2 => by by_cases e9 : j = y; subst e9; exact pk_us; rw [pk_un (by omega)]; exact hw2 j h1 (by omega), by omega⟩)
                  · obtain ⟨w, rfl, rfl, hw, hw2, hy1⟩ := hi_y
                    refine q_iload_n rfl rfl ?_
                    refine q_iconst (v := nI 4) rfl rfl ?_
                    refine q_icmp_geN rfl (by omega) (by omega) (fun hcyf164 => ?_) (fun hcyf164 => ?_)
                    · refine q_aload_n rfl rfl ?_
                      refine q_getI rfl hx_51 rfl ((show _ = nI kk from rfl)) ?_
                      refine q_iret rfl rfl ?_
                      exact ⟨I2, k1, b1, s1, r1, w, rfl, rfl, hfr, ⟨hKa, hKb⟩, hw, hw2⟩
                    · omega
                · omega
            · omega
        · exact absurd hc31 (by decide)
      · omega
    · exact absurd hc4 (by decide))
  subst hr_
  subst hh_
  exact ⟨I2, k1, b1, s1, r1, w, he_, hf_⟩
