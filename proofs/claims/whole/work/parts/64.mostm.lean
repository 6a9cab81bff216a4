theorem mo_xs {c : Nat → Nat → Nat} {e : Nat} {gm mo : Nat → Nat} {x : Nat} : mo_x c e gm mo (x + 1) = mo_j c e gm mo x (mo_x c e gm mo x) 13 := rfl
theorem mo_fs {g c : Nat → Nat → Nat} {e s0 m : Nat} : mo_f g c e s0 (m + 1) = mo_x c e (g m) (mo_f g c e s0 m) 984 := rfl
section NX
variable {c : Nat → Nat → Nat} {e x j : Nat} {gm mo f : Nat → Nat} {w : Nat → Int32}
theorem mo_nx1 (hw : ∀ y, y < 984 → w y = dI (mo_j c e gm mo x f j y)) (h : e < x % 41 + c (x / 41) j) : ∀ y, y < 984 → w y = dI (mo_j c e gm mo x f (j + 1) y) := by
  intro y hy
  rw [mo_jn (fun z => absurd z.2.1 (Nat.not_le.mpr h))]
  exact hw y hy
theorem mo_nx2 (hw : ∀ y, y < 984 → w y = dI (mo_j c e gm mo x f j y)) (h1 : mo x + gm (tN (x / 41) j) < 2 ^ 29) (h2 : mo_j c e gm mo x f j (mo_t c x j) < 2 ^ 29) (h : dI (mo x + gm (tN (x / 41) j)) ≤ dI (mo_j c e gm mo x f j (mo_t c x j))) : ∀ y, y < 984 → w y = dI (mo_j c e gm mo x f (j + 1) y) := by
  intro y hy
  rw [mo_jn (fun z => absurd z.2.2 (Nat.not_lt.mpr ((dI_le (by omega) (by omega)).mp h)))]
  exact hw y hy
theorem mo_nx3 (hw : ∀ y, y < 984 → w y = dI (mo_j c e gm mo x f j y)) (h0 : mo x < 2 ^ 29) (h1 : mo x + gm (tN (x / 41) j) < 2 ^ 29) (h2 : mo_j c e gm mo x f j (mo_t c x j) < 2 ^ 29) (h3 : ¬ dI (mo x) < 0) (h4 : ¬ e < x % 41 + c (x / 41) j) (h : ¬ dI (mo x + gm (tN (x / 41) j)) ≤ dI (mo_j c e gm mo x f j (mo_t c x j))) : ∀ y, y < 984 → upd w (41 * tN (x / 41) j + (x % 41 + c (x / 41) j)) (dI (mo x + gm (tN (x / 41) j))) y = dI (mo_j c e gm mo x f (j + 1) y) := by
  intro y hy
  have hv : 1 ≤ mo x := Nat.pos_of_ne_zero (fun z => h3 ((dI_neg (by omega)).mpr z))
  rw [mo_jy hv (Nat.not_lt.mp h4) (Nat.not_le.mp (fun z => h ((dI_le (by omega) (by omega)).mpr z)))]
  by_cases e9 : y = 41 * tN (x / 41) j + (x % 41 + c (x / 41) j)
  · subst e9
    rw [pk_us, show 41 * tN (x / 41) j + (x % 41 + c (x / 41) j) = mo_t c x j from rfl, sv_upd_s]
  · rw [pk_un e9, sv_upd_n (show y ≠ mo_t c x j from e9)]
    exact hw y hy
end NX
theorem m_most_b {X : XX} {I A : Nat → Nat → Int32} {J B : Nat → Nat → Int64} {F : Nat → Nat} (ln : Nat) (hln : ln ≤ 5) (eln : I 51 3 = nI ln) (x : Int32) (hx : x < 0 ∨ nI ln ≤ x) (y z : Int32) : x_ev X xT 4 218 [.ref 51, .int x, .int y, .int z] (HX I A J B F) (some (.int (-1))) (HX I A J B F) := by
  refine q_ev (L := [some (.ref 51), some (.int x), some (.int y), some (.int z), none, none, none, none, none, none]) tX9_most (Nat.le_of_ble_eq_true rfl) rfl ?_
  refine q_aload_n rfl rfl ?_
  refine q_iload_n rfl rfl ?_
  refine q_callV1 rfl hx_51 (Nat.le_of_ble_eq_true rfl) (Nat.le_of_ble_eq_true rfl) (sX9_isLight_0 x ln hln eln hx) ?_
  refine q_if_eqN rfl (by omega) (fun hc5 => ?_) (fun hc5 => ?_)
  · refine q_iconst (v := (-1)) rfl rfl ?_
    refine q_iret rfl rfl ?_
    exact ⟨rfl, rfl⟩
  · exact absurd hc5 (by decide)
theorem m_most_n {X : XX} {I A : Nat → Nat → Int32} {J B : Nat → Nat → Int64} {F : Nat → Nat} (ln : Nat) (hln : ln ≤ 5) (eln : I 51 3 = nI ln) (k : Nat) (hk : k < ln) (y z : Int32) (hy : y < nI 1 ∨ nI 8 < y) : x_ev X xT 4 218 [.ref 51, .int (nI k), .int y, .int z] (HX I A J B F) (some (.int (-1))) (HX I A J B F) := by
  refine q_ev (L := [some (.ref 51), some (.int (nI k)), some (.int y), some (.int z), none, none, none, none, none, none]) tX9_most (Nat.le_of_ble_eq_true rfl) rfl ?_
  refine q_aload_n rfl rfl ?_
  refine q_iload_n rfl rfl ?_
  refine q_callV1 rfl hx_51 (Nat.le_of_ble_eq_true rfl) (Nat.le_of_ble_eq_true rfl) (sX9_isLight_1 k ln hk hln eln) ?_
  refine q_if_eqN rfl (by omega) (fun hc5 => ?_) (fun hc5 => ?_)
  · exact absurd hc5 (by decide)
  · refine q_iload_n rfl rfl ?_
    refine q_i2l rfl ?_
    refine q_lconst (v := 1) rfl rfl ?_
    refine q_ldc2_w (v := 8) rfl rfl ?_
    refine q_callS3 rfl rfl (Nat.le_of_ble_eq_true rfl) (Nat.le_of_ble_eq_true rfl) (sX9_in _ _ _) ?_
    refine q_cn (f_in_0 (lo := nI 1) (hi := nI 8) rfl rfl hy) ?_
    refine q_if_eqN rfl (by omega) (fun hc17 => ?_) (fun hc17 => ?_)
    · refine q_iconst (v := (-1)) rfl rfl ?_
      refine q_iret rfl rfl ?_
      exact ⟨rfl, rfl⟩
    · exact absurd hc17 (by decide)
theorem m_most_e {X : XX} {I A : Nat → Nat → Int32} {J B : Nat → Nat → Int64} {F : Nat → Nat} (ln : Nat) (hln : ln ≤ 5) (eln : I 51 3 = nI ln) (k : Nat) (hk : k < ln) (n : Nat) (n1 : 1 ≤ n) (n8 : n ≤ 8) (z : Int32) (hz : z < nI 0 ∨ nI 40 < z) : x_ev X xT 4 218 [.ref 51, .int (nI k), .int (nI n), .int z] (HX I A J B F) (some (.int (-1))) (HX I A J B F) := by
  refine q_ev (L := [some (.ref 51), some (.int (nI k)), some (.int (nI n)), some (.int z), none, none, none, none, none, none]) tX9_most (Nat.le_of_ble_eq_true rfl) rfl ?_
  refine q_aload_n rfl rfl ?_
  refine q_iload_n rfl rfl ?_
  refine q_callV1 rfl hx_51 (Nat.le_of_ble_eq_true rfl) (Nat.le_of_ble_eq_true rfl) (sX9_isLight_1 k ln hk hln eln) ?_
  refine q_if_eqN rfl (by omega) (fun hc5 => ?_) (fun hc5 => ?_)
  · exact absurd hc5 (by decide)
  · refine q_iload_n rfl rfl ?_
    refine q_i2l rfl ?_
    refine q_lconst (v := 1) rfl rfl ?_
    refine q_ldc2_w (v := 8) rfl rfl ?_
    refine q_callS3 rfl rfl (Nat.le_of_ble_eq_true rfl) (Nat.le_of_ble_eq_true rfl) (sX9_in _ _ _) ?_
    refine q_cn (f_in_1 (lo := nI 1) (hi := nI 8) rfl rfl (nI_nlt (by omega) (by omega)) (nI_nlt (by omega) (by omega))) ?_
    refine q_if_eqN rfl (by omega) (fun hc17 => ?_) (fun hc17 => ?_)
    · exact absurd hc17 (by decide)
    · refine q_iload_n rfl rfl ?_
      refine q_i2l rfl ?_
      refine q_lconst (v := 0) rfl rfl ?_
      refine q_ldc2_w (v := 40) rfl rfl ?_
      refine q_callS3 rfl rfl (Nat.le_of_ble_eq_true rfl) (Nat.le_of_ble_eq_true rfl) (sX9_in _ _ _) ?_
      refine q_cn (f_in_0 (lo := nI 0) (hi := nI 40) rfl rfl hz) ?_
      refine q_if_neN rfl (by omega) (fun hc29 => ?_) (fun hc29 => ?_)
      · exact absurd hc29 (by decide)
      · refine q_iconst (v := (-1)) rfl rfl ?_
        refine q_iret rfl rfl ?_
        exact ⟨rfl, rfl⟩
set_option maxHeartbeats 1000000 in
theorem m_most_0 {X : XX} {I A : Nat → Nat → Int32} {J B : Nat → Nat → Int64} {F : Nat → Nat} (b : Nat) (hb : b ≤ 5) (eb : I 51 1 = nI b) (m0 : Nat) (em : A 52 1 = nI m0) (hm : m0 ≤ 40) (s : Nat) (es : A 52 2 = nI s) (hs : s < 24) (st : Nat) (hst : st < 24) (est : I 51 2 = nI st) (ln : Nat) (hln : ln ≤ 5) (eln : I 51 3 = nI ln) (hl : mLk A) (i : Nat) (hk : i < ln) (n : Nat) (n1 : 1 ≤ n) (n8 : n ≤ 8) (e : Nat) (he : e ≤ 40) : ∃ e4 f w, x_ev X xT 4 218 [.ref 51, .int (nI i), .int (nI n), .int (nI e)] (HX I A J B F) (some (.int (nI (mo_b (mo_f (fun r f => gnN b (mL A i) (nI f) (m0 + r)) (fun s j => eN st s j) e s n) 984)))) (HX I (ua (ua (ua A 64 e4) 65 f) 66 w) J B F) ∧ True := by
  obtain ⟨e4, he4, hE⟩ := sX9_layEfforts (X := X) (I := I) (J := J) (B := B) (F := F) (A := A) st hst est
  have hfl : ∀ m y, mo_f (fun r f => gnN b (mL A i) (nI f) (m0 + r)) (fun s j => eN st s j) e s m y ≤ 24 * m + 1 := fun m y => mo_f_le (g := (fun r f => gnN b (mL A i) (nI f) (m0 + r))) (fun k s => gnN_le (hl i (by omega)).1.2) m y
  have hfc0 : ∀ m x, m < n → mo_f (fun r f => gnN b (mL A i) (nI f) (m0 + r)) (fun s j => eN st s j) e s m x < 2 ^ 29 := fun m x hmn => by have := hfl m x; omega
  have hfc : ∀ m x j, m < n → mo_f (fun r f => gnN b (mL A i) (nI f) (m0 + r)) (fun s j => eN st s j) e s m x + (fun r f => gnN b (mL A i) (nI f) (m0 + r)) m (tN (x / 41) j) < 2 ^ 29 := fun m x j hmn => by have := hfl m x; have := gnN_le (b := b) (l := mL A i) (fi := nI (tN (x / 41) j)) (m := m0 + m) (hl i (by omega)).1.2; show mo_f (fun r f => gnN b (mL A i) (nI f) (m0 + r)) (fun s j => eN st s j) e s m x + gnN b (mL A i) (nI (tN (x / 41) j)) (m0 + m) < 2 ^ 29; omega
  have hjl : ∀ m x j, m < n → mo_j (fun s j => eN st s j) e ((fun r f => gnN b (mL A i) (nI f) (m0 + r)) m) (mo_f (fun r f => gnN b (mL A i) (nI f) (m0 + r)) (fun s j => eN st s j) e s m) x (mo_x (fun s j => eN st s j) e ((fun r f => gnN b (mL A i) (nI f) (m0 + r)) m) (mo_f (fun r f => gnN b (mL A i) (nI f) (m0 + r)) (fun s j => eN st s j) e s m) x) j (mo_t (fun s j => eN st s j) x j) < 2 ^ 29 := fun m x j hmn => Nat.lt_of_le_of_lt (mo_j_le (K := 400) (fun s => gnN_le (hl i (by omega)).1.2) (by have := hfl m x; omega) (fun y => mo_x_le (fun s => gnN_le (hl i (by omega)).1.2) (fun x => by have := hfl m x; omega) x y) j _) (by decide)
  obtain ⟨r_, h_, he_, e4, f, w, hr_, hh_, hf_⟩ := q_evx (X := X) (d := 3) (as := [.ref 51, .int (nI i), .int (nI n), .int (nI e)]) (h := (HX I A J B F)) (P := fun r_ h_ => ∃ e4 f w, r_ = (some (.int (nI (mo_b (mo_f (fun r f => gnN b (mL A i) (nI f) (m0 + r)) (fun s j => eN st s j) e s n) 984)))) ∧ h_ = (HX I (ua (ua (ua A 64 e4) 65 f) 66 w) J B F) ∧ True) (L := [some (.ref 51), some (.int (nI i)), some (.int (nI n)), some (.int (nI e)), none, none, none, none, none, none]) tX9_most (Nat.le_of_ble_eq_true rfl) rfl (by
    refine q_aload_n rfl rfl ?_
    refine q_iload_n rfl rfl ?_
    refine q_callV1 rfl hx_51 (Nat.le_of_ble_eq_true rfl) (Nat.le_of_ble_eq_true rfl) (sX9_isLight_1 i ln hk hln eln) ?_
    refine q_if_eqN rfl (by omega) (fun hc5 => ?_) (fun hc5 => ?_)
    · exact absurd hc5 (by decide)
    · refine q_iload_n rfl rfl ?_
      refine q_i2l rfl ?_
      refine q_lconst (v := 1) rfl rfl ?_
      refine q_ldc2_w (v := 8) rfl rfl ?_
      refine q_callS3 rfl rfl (Nat.le_of_ble_eq_true rfl) (Nat.le_of_ble_eq_true rfl) (sX9_in _ _ _) ?_
      refine q_cn (f_in_1 (lo := nI 1) (hi := nI 8) rfl rfl (nI_nlt (by omega) (by omega)) (nI_nlt (by omega) (by omega))) ?_
      refine q_if_eqN rfl (by omega) (fun hc17 => ?_) (fun hc17 => ?_)
      · exact absurd hc17 (by decide)
      · refine q_iload_n rfl rfl ?_
        refine q_i2l rfl ?_
        refine q_lconst (v := 0) rfl rfl ?_
        refine q_ldc2_w (v := 40) rfl rfl ?_
        refine q_callS3 rfl rfl (Nat.le_of_ble_eq_true rfl) (Nat.le_of_ble_eq_true rfl) (sX9_in _ _ _) ?_
        refine q_cn (f_in_1 (lo := nI 0) (hi := nI 40) rfl rfl (nI_nlt (by omega) (by omega)) (nI_nlt (by omega) (by omega))) ?_
        refine q_if_neN rfl (by omega) (fun hc29 => ?_) (fun hc29 => ?_)
        · refine q_aload_n rfl rfl ?_
          refine q_callV0 rfl hx_51 (Nat.le_of_ble_eq_true rfl) (Nat.le_of_ble_eq_true rfl) (he4) ?_
          refine q_iconst (v := nI 0) rfl rfl ?_
          refine q_istore (L' := [_, _, _, _, _, _, _, _, _, _]) rfl rfl ?_
          refine q_up (Inv := fun k L h => ∃ f, L = [some (.ref 51), some (.int (nI i)), some (.int (nI n)), some (.int (nI e)), some (.int (nI k)), none, none, none, none, none] ∧ h = HX I (ua (ua A 64 e4) 65 f) J B F ∧ ∀ y, y < k → f y = dI (mo_0 s y)) (984) (fun k L h hk_k hi_k ih_k => ?_) (fun L h hi_k => ?_) (0) _ _ (by omega) (⟨A 65, rfl, by rw [ua_self (A := ua A 64 e4) (c := 65) (f := A 65) rfl], fun y hy => absurd hy (Nat.not_lt_zero y)⟩)
          · obtain ⟨f, rfl, rfl, hf⟩ := hi_k
            refine q_iload rfl rfl ?_
            refine q_sipush (v := nI 984) rfl rfl ?_
            refine q_icmp_geN rfl (by omega) (by omega) (fun hcks46 => ?_) (fun hcks46 => ?_)
            · omega
            · refine q_aload_n rfl rfl ?_
              refine q_getfield rfl hx_51 rfl ?_
              refine q_iload rfl rfl ?_
              refine q_iload rfl rfl ?_
              refine q_bipush (v := nI 41) rfl rfl ?_
              refine q_aload_n rfl rfl ?_
              refine q_getfield rfl hx_51 rfl ?_
              refine q_iconst (v := nI 2) rfl rfl ?_
              refine q_iald rfl (by decide) hx_52 (by decide) (by decide) ((by exact es)) ?_
              refine q_imulN rfl ?_
              refine q_icmp_neN rfl (by omega) (by omega) (fun hcks66 => ?_) (fun hcks66 => ?_)
              · refine q_iconst (v := (-1)) rfl rfl ?_
                refine q_iastN rfl hx_65 (by omega) (by decide) ?_
                refine q_heap (ha_65 _) ?_
                refine q_iincN (c := 1) (L' := [_, _, _, _, _, _, _, _, _, _]) rfl rfl rfl rfl ?_
                refine q_goto rfl ?_
                exact ih_k _ _ (⟨_, rfl, by rw [ua_ua, ua_eq], fun y hy => by by_cases e9 : y = k; subst e9; rw [pk_us]; (first | exact mo_0a hcks66 | exact mo_0b hcks66); rw [pk_un e9]; exact hf y (by omega)⟩)
              · refine q_iconst (v := nI 0) rfl rfl ?_
                refine q_goto rfl ?_
                refine q_iastN rfl hx_65 (by omega) (by decide) ?_
                refine q_heap (ha_65 _) ?_
                refine q_iincN (c := 1) (L' := [_, _, _, _, _, _, _, _, _, _]) rfl rfl rfl rfl ?_
                refine q_goto rfl ?_
                exact ih_k _ _ (⟨_, rfl, by rw [ua_ua, ua_eq], fun y hy => by by_cases e9 : y = k; subst e9; rw [pk_us]; (first | exact mo_0a hcks66 | exact mo_0b hcks66); rw [pk_un e9]; exact hf y (by omega)⟩)
          · obtain ⟨f, rfl, rfl, hf⟩ := hi_k
            refine q_iload rfl rfl ?_
            refine q_sipush (v := nI 984) rfl rfl ?_
            refine q_icmp_geN rfl (by omega) (by omega) (fun hckf46 => ?_) (fun hckf46 => ?_)
            · refine q_iconst (v := nI 0) rfl rfl ?_
              refine q_istore (L' := [_, _, _, _, _, _, _, _, _, _]) rfl rfl ?_
              refine q_up (Inv := fun m L h => ∃ f w z5 z6 z7 z8 z9, L = [some (.ref 51), some (.int (nI i)), some (.int (nI n)), some (.int (nI e)), some (.int (nI m)), z5, z6, z7, z8, z9] ∧ h = HX I (ua (ua (ua A 64 e4) 65 f) 66 w) J B F ∧ ∀ y, y < 984 → f y = dI (mo_f (fun r f => gnN b (mL A i) (nI f) (m0 + r)) (fun s j => eN st s j) e s m y)) (n) (fun m L h hk_m hi_m ih_m => ?_) (fun L h hi_m => ?_) (0) _ _ (by omega) (⟨f, A 66, _, _, _, _, _, rfl, by rw [ua_self (A := ua (ua A 64 e4) 65 f) (c := 66) (f := A 66) rfl], hf⟩)
              · obtain ⟨f, w, z5, z6, z7, z8, z9, rfl, rfl, hf⟩ := hi_m
                refine q_iload rfl rfl ?_
                refine q_iload_n rfl rfl ?_
                refine q_icmp_geN rfl (by omega) (by omega) (fun hcms87 => ?_) (fun hcms87 => ?_)
                · omega
                · refine q_iconst (v := nI 0) rfl rfl ?_
                  refine q_istore (L' := [_, _, _, _, _, _, _, _, _, _]) rfl rfl ?_
                  refine q_up (Inv := fun y L h => ∃ w, L = [some (.ref 51), some (.int (nI i)), some (.int (nI n)), some (.int (nI e)), some (.int (nI m)), some (.int (nI y)), z6, z7, z8, z9] ∧ h = HX I (ua (ua (ua A 64 e4) 65 f) 66 w) J B F ∧ ∀ x, x < y → w x = dI 0) (984) (fun y L h hk_y hi_y ih_y => ?_) (fun L h hi_y => ?_) (0) _ _ (by omega) (⟨w, rfl, rfl, fun x hx => absurd hx (Nat.not_lt_zero x)⟩)
                  · obtain ⟨w, rfl, rfl, hw⟩ := hi_y
                    refine q_iload rfl rfl ?_
                    refine q_sipush (v := nI 984) rfl rfl ?_
                    refine q_icmp_geN rfl (by omega) (by omega) (fun hcys98 => ?_) (fun hcys98 => ?_)
                    · omega
                    · refine q_aload_n rfl rfl ?_
                      refine q_getfield rfl hx_51 rfl ?_
                      refine q_iload rfl rfl ?_
                      refine q_iconst (v := (-1)) rfl rfl ?_
                      refine q_iastN rfl hx_66 (by omega) (by decide) ?_
                      refine q_heap (ha_66 _) ?_
                      refine q_iincN (c := 1) (L' := [_, _, _, _, _, _, _, _, _, _]) rfl rfl rfl rfl ?_
                      refine q_goto rfl ?_
                      exact ih_y _ _ (⟨_, rfl, by rw [ua_ua, ua_eq], fun x hx => by by_cases e9 : x = y; subst e9; rw [pk_us]; decide; rw [pk_un e9]; exact hw x (by omega)⟩)
                  · obtain ⟨w, rfl, rfl, hw⟩ := hi_y
                    refine q_iload rfl rfl ?_
                    refine q_sipush (v := nI 984) rfl rfl ?_
                    refine q_icmp_geN rfl (by omega) (by omega) (fun hcyf98 => ?_) (fun hcyf98 => ?_)
                    · refine q_iconst (v := nI 0) rfl rfl ?_
                      refine q_istore (L' := [_, _, _, _, _, _, _, _, _, _]) rfl rfl ?_
                      refine q_up (Inv := fun x L h => ∃ w z6 z7 z8 z9, L = [some (.ref 51), some (.int (nI i)), some (.int (nI n)), some (.int (nI e)), some (.int (nI m)), some (.int (nI x)), z6, z7, z8, z9] ∧ h = HX I (ua (ua (ua A 64 e4) 65 f) 66 w) J B F ∧ ∀ y, y < 984 → w y = dI (mo_x (fun s j => eN st s j) e ((fun r f => gnN b (mL A i) (nI f) (m0 + r)) m) (mo_f (fun r f => gnN b (mL A i) (nI f) (m0 + r)) (fun s j => eN st s j) e s m) x y)) (984) (fun x L h hk_x hi_x ih_x => ?_) (fun L h hi_x => ?_) (0) _ _ (by omega) (⟨w, _, _, _, _, rfl, rfl, hw⟩)
                      · obtain ⟨w, z6, z7, z8, z9, rfl, rfl, hw⟩ := hi_x
                        refine q_iload rfl rfl ?_
                        refine q_sipush (v := nI 984) rfl rfl ?_
                        refine q_icmp_geN rfl (by omega) (by omega) (fun hcxs123 => ?_) (fun hcxs123 => ?_)
                        · omega
                        · refine q_bipush (v := (-6)) rfl rfl ?_
                          refine q_istore (L' := [_, _, _, _, _, _, _, _, _, _]) rfl rfl ?_
                          refine q_up (Inv := fun j L h => ∃ w z7 z8 z9, L = [some (.ref 51), some (.int (nI i)), some (.int (nI n)), some (.int (nI e)), some (.int (nI m)), some (.int (nI x)), some (.int (sI 6 j)), z7, z8, z9] ∧ h = HX I (ua (ua (ua A 64 e4) 65 f) 66 w) J B F ∧ ∀ y, y < 984 → w y = dI (mo_j (fun s j => eN st s j) e ((fun r f => gnN b (mL A i) (nI f) (m0 + r)) m) (mo_f (fun r f => gnN b (mL A i) (nI f) (m0 + r)) (fun s j => eN st s j) e s m) x (mo_x (fun s j => eN st s j) e ((fun r f => gnN b (mL A i) (nI f) (m0 + r)) m) (mo_f (fun r f => gnN b (mL A i) (nI f) (m0 + r)) (fun s j => eN st s j) e s m) x) j y)) (13) (fun j L h hk_j hi_j ih_j => ?_) (fun L h hi_j => ?_) (0) _ _ (by omega) (⟨w, _, _, _, rfl, rfl, hw⟩)
                          · obtain ⟨w, z7, z8, z9, rfl, rfl, hw⟩ := hi_j
                            refine q_iload rfl rfl ?_
                            refine q_bipush (v := nI 7) rfl rfl ?_
                            refine q_icmp_ge rfl (fun hcjs134 => ?_) (fun hcjs134 => ?_)
                            · exact absurd ((sI_lt (c := 6) (m := 7) (by omega) (by omega) (by omega)).mpr (by omega)) (Int32.not_lt.mpr hcjs134)
                            · refine q_aload_n rfl rfl ?_
                              refine q_getfield rfl hx_51 rfl ?_
                              refine q_iload rfl rfl ?_
                              refine q_iald rfl (by decide) hx_65 (by omega) (by decide) ((show (ua (ua (ua A 64 e4) 65 f) 66 w) 65 x = dI (mo_f (fun r f => gnN b (mL A i) (nI f) (m0 + r)) (fun s j => eN st s j) e s m x) from hf x hk_x)) ?_
                              refine q_if_lt rfl (fun hcjs144 => ?_) (fun hcjs144 => ?_)
                              · refine q_iincN (c := 1) (L' := [_, _, _, _, _, _, _, _, _, _]) rfl rfl rfl rfl ?_
                                refine q_goto rfl ?_
                                exact ih_x _ _ (⟨_, _, _, _, _, rfl, rfl, fun y hy => by rw [mo_xs]; first | (rw [hw y hy, mo_j0 ((dI_neg (by have := hfl m x; omega)).mp hcjs144) j, mo_j0 ((dI_neg (by have := hfl m x; omega)).mp hcjs144) 13]) | exact hw y hy⟩)
                              · refine q_iload rfl rfl ?_
                                refine q_bipush (v := nI 41) rfl rfl ?_
                                refine q_idivN rfl (by omega) (by decide) (by decide) ?_
                                refine q_iload rfl rfl ?_
                                refine q_iadd rfl ?_
                                refine q_callS1 rfl rfl (Nat.le_of_ble_eq_true rfl) (Nat.le_of_ble_eq_true rfl) (sX9_ring _) ?_
                                refine q_cn (show _ = nI (tN (x / 41) j) by rw [rdN_t (by omega) hk_j]) ?_
                                have ht := tN_lt (x / 41) j
                                have hg9 := gnN_le (b := b) (l := mL A i) (fi := nI (tN (x / 41) j)) (m := m0 + m) (hl i (by omega)).1.2
                                have hc9 := eN_le st (x / 41) j hk_j
                                refine q_istore (L' := [_, _, _, _, _, _, _, _, _, _]) rfl rfl ?_
                                refine q_iload rfl rfl ?_
                                refine q_bipush (v := nI 41) rfl rfl ?_
                                refine q_iremN rfl (by omega) (by decide) (by decide) ?_
                                refine q_aload_n rfl rfl ?_
                                refine q_getfield rfl hx_51 rfl ?_
                                refine q_bipush (v := nI 13) rfl rfl ?_
                                refine q_iload rfl rfl ?_
                                refine q_bipush (v := nI 41) rfl rfl ?_
                                refine q_idivN rfl (by omega) (by decide) (by decide) ?_
                                refine q_imulN rfl ?_
                                refine q_iload rfl rfl ?_
                                refine q_iadd rfl ?_
                                refine q_bipush (v := nI 6) rfl rfl ?_
                                refine q_iadd rfl ?_
                                refine q_cn (ce_ix _ _) ?_
                                refine q_iald rfl (by decide) hx_64 (by omega) (by decide) ((show (ua (ua (ua A 64 e4) 65 f) 66 w) 64 _ = nI (eN st (x / 41) j) from hE (x / 41) (by omega) j hk_j)) ?_
                                refine q_iaddN rfl ?_
                                refine q_istore (L' := [_, _, _, _, _, _, _, _, _, _]) rfl rfl ?_
                                refine q_aload_n rfl rfl ?_
                                refine q_getfield rfl hx_51 rfl ?_
                                refine q_iload rfl rfl ?_
                                refine q_iald rfl (by decide) hx_65 (by omega) (by decide) ((show (ua (ua (ua A 64 e4) 65 f) 66 w) 65 x = dI (mo_f (fun r f => gnN b (mL A i) (nI f) (m0 + r)) (fun s j => eN st s j) e s m x) from hf x hk_x)) ?_
                                refine q_aload_n rfl rfl ?_
                                refine q_iload_n rfl rfl ?_
                                refine q_iload rfl rfl ?_
                                refine q_aload_n rfl rfl ?_
                                refine q_getfield rfl hx_51 rfl ?_
                                refine q_iconst (v := nI 1) rfl rfl ?_
                                refine q_iald rfl (by decide) hx_52 (by decide) (by decide) ((by exact em)) ?_
                                refine q_iload rfl rfl ?_
                                refine q_iaddN rfl ?_
                                refine q_callV3 rfl hx_51 (Nat.le_of_ble_eq_true rfl) (Nat.le_of_ble_eq_true rfl) (sX9_got i (by omega) (by exact hl) b hb (by exact eb) _ _ (by omega)) ?_
                                refine q_iadd rfl ?_
                                refine q_cn (show _ = dI (mo_f (fun r f => gnN b (mL A i) (nI f) (m0 + r)) (fun s j => eN st s j) e s m x + gnN b (mL A i) (nI (tN (x / 41) j)) (m0 + m)) from dI_add _ _) ?_
                                refine q_istore (L' := [_, _, _, _, _, _, _, _, _, _]) rfl rfl ?_
                                refine q_iload rfl rfl ?_
                                refine q_iload_n rfl rfl ?_
                                refine q_icmp_gtN rfl (by omega) (by omega) (fun hcjs216 => ?_) (fun hcjs216 => ?_)
                                · refine q_iinc (v := sI 6 (j + 1)) (L' := [_, _, _, _, _, _, _, _, _, _]) rfl rfl (sI_inc 6 j) rfl ?_
                                  refine q_goto rfl ?_
                                  exact ih_j _ _ (⟨_, _, _, _, rfl, by first | rfl | rw [ua_ua, ua_eq], by first | (have h8 := mo_nx1 hw hcjs216; exact h8) | (have h8 := mo_nx2 hw (hfc m x j hk_m) (hjl m x j hk_m) hcjs234; exact h8) | (have h8 := mo_nx3 hw (hfc0 m x hk_m) (hfc m x j hk_m) (hjl m x j hk_m) hcjs144 hcjs216 hcjs234; exact h8)⟩)
                                · refine q_iload rfl rfl ?_
                                  refine q_aload_n rfl rfl ?_
                                  refine q_getfield rfl hx_51 rfl ?_
                                  refine q_bipush (v := nI 41) rfl rfl ?_
                                  refine q_iload rfl rfl ?_
                                  refine q_imulN rfl ?_
                                  refine q_iload rfl rfl ?_
                                  refine q_iaddN rfl ?_
                                  refine q_iald rfl (by decide) hx_66 (by omega) (by decide) ((show (ua (ua (ua A 64 e4) 65 f) 66 w) 66 (41 * tN (x / 41) j + (x % 41 + eN st (x / 41) j)) = dI (mo_j (fun s j => eN st s j) e ((fun r f => gnN b (mL A i) (nI f) (m0 + r)) m) (mo_f (fun r f => gnN b (mL A i) (nI f) (m0 + r)) (fun s j => eN st s j) e s m) x (mo_x (fun s j => eN st s j) e ((fun r f => gnN b (mL A i) (nI f) (m0 + r)) m) (mo_f (fun r f => gnN b (mL A i) (nI f) (m0 + r)) (fun s j => eN st s j) e s m) x) j (mo_t (fun s j => eN st s j) x j)) from hw _ (by omega))) ?_
                                  refine q_icmp_le rfl (fun hcjs234 => ?_) (fun hcjs234 => ?_)
                                  · refine q_iinc (v := sI 6 (j + 1)) (L' := [_, _, _, _, _, _, _, _, _, _]) rfl rfl (sI_inc 6 j) rfl ?_
                                    refine q_goto rfl ?_
                                    exact ih_j _ _ (⟨_, _, _, _, rfl, by first | rfl | rw [ua_ua, ua_eq], by first | (have h8 := mo_nx1 hw hcjs216; exact h8) | (have h8 := mo_nx2 hw (hfc m x j hk_m) (hjl m x j hk_m) hcjs234; exact h8) | (have h8 := mo_nx3 hw (hfc0 m x hk_m) (hfc m x j hk_m) (hjl m x j hk_m) hcjs144 hcjs216 hcjs234; exact h8)⟩)
                                  · refine q_aload_n rfl rfl ?_
                                    refine q_getfield rfl hx_51 rfl ?_
                                    refine q_bipush (v := nI 41) rfl rfl ?_
                                    refine q_iload rfl rfl ?_
                                    refine q_imulN rfl ?_
                                    refine q_iload rfl rfl ?_
                                    refine q_iaddN rfl ?_
                                    refine q_iload rfl rfl ?_
                                    refine q_iastN rfl hx_66 (by omega) (by decide) ?_
                                    refine q_heap (ha_66 _) ?_
                                    refine q_iinc (v := sI 6 (j + 1)) (L' := [_, _, _, _, _, _, _, _, _, _]) rfl rfl (sI_inc 6 j) rfl ?_
                                    refine q_goto rfl ?_
                                    exact ih_j _ _ (⟨_, _, _, _, rfl, by first | rfl | rw [ua_ua, ua_eq], by first | (have h8 := mo_nx1 hw hcjs216; exact h8) | (have h8 := mo_nx2 hw (hfc m x j hk_m) (hjl m x j hk_m) hcjs234; exact h8) | (have h8 := mo_nx3 hw (hfc0 m x hk_m) (hfc m x j hk_m) (hjl m x j hk_m) hcjs144 hcjs216 hcjs234; exact h8)⟩)
                          · obtain ⟨w, z7, z8, z9, rfl, rfl, hw⟩ := hi_j
                            refine q_iload rfl rfl ?_
                            refine q_bipush (v := nI 7) rfl rfl ?_
                            refine q_icmp_ge rfl (fun hcjf134 => ?_) (fun hcjf134 => ?_)
                            · refine q_iincN (c := 1) (L' := [_, _, _, _, _, _, _, _, _, _]) rfl rfl rfl rfl ?_
                              refine q_goto rfl ?_
                              exact ih_x _ _ (⟨_, _, _, _, _, rfl, rfl, fun y hy => by rw [mo_xs]; first | (rw [hw y hy, mo_j0 ((dI_neg (by have := hfl m x; omega)).mp hcjs144) j, mo_j0 ((dI_neg (by have := hfl m x; omega)).mp hcjs144) 13]) | exact hw y hy⟩)
                            · exact absurd (show nI 7 ≤ sI 6 13 by decide) hcjf134
                      · obtain ⟨w, z6, z7, z8, z9, rfl, rfl, hw⟩ := hi_x
                        refine q_iload rfl rfl ?_
                        refine q_sipush (v := nI 984) rfl rfl ?_
                        refine q_icmp_geN rfl (by omega) (by omega) (fun hcxf123 => ?_) (fun hcxf123 => ?_)
                        · refine q_iconst (v := nI 0) rfl rfl ?_
                          refine q_istore (L' := [_, _, _, _, _, _, _, _, _, _]) rfl rfl ?_
                          refine q_up (Inv := fun y L h => ∃ f2, L = [some (.ref 51), some (.int (nI i)), some (.int (nI n)), some (.int (nI e)), some (.int (nI m)), some (.int (nI y)), z6, z7, z8, z9] ∧ h = HX I (ua (ua (ua A 64 e4) 65 f2) 66 w) J B F ∧ ∀ x, x < y → f2 x = w x) (984) (fun y L h hk_y hi_y ih_y => ?_) (fun L h hi_y => ?_) (0) _ _ (by omega) (⟨f, rfl, rfl, fun x hx => absurd hx (Nat.not_lt_zero x)⟩)
                          · obtain ⟨f2, rfl, rfl, hf2⟩ := hi_y
                            refine q_iload rfl rfl ?_
                            refine q_sipush (v := nI 984) rfl rfl ?_
                            refine q_icmp_geN rfl (by omega) (by omega) (fun hcys272 => ?_) (fun hcys272 => ?_)
                            · omega
                            · refine q_aload_n rfl rfl ?_
                              refine q_getfield rfl hx_51 rfl ?_
                              refine q_iload rfl rfl ?_
                              refine q_aload_n rfl rfl ?_
                              refine q_getfield rfl hx_51 rfl ?_
                              refine q_iload rfl rfl ?_
                              refine q_iald rfl (by decide) hx_66 (by omega) (by decide) (rfl) ?_
                              refine q_iastN rfl hx_65 (by omega) (by decide) ?_
                              refine q_heap (ha_65 _) ?_
                              refine q_iincN (c := 1) (L' := [_, _, _, _, _, _, _, _, _, _]) rfl rfl rfl rfl ?_
                              refine q_goto rfl ?_
                              exact ih_y _ _ (⟨_, rfl, by rw [tb_s0 (by decide), tb_l0 (by decide)], fun x hx => by by_cases e9 : x = y; subst e9; rw [pk_us, ua_eq]; rw [pk_un e9]; exact hf2 x (by omega)⟩)
                          · obtain ⟨f2, rfl, rfl, hf2⟩ := hi_y
                            refine q_iload rfl rfl ?_
                            refine q_sipush (v := nI 984) rfl rfl ?_
                            refine q_icmp_geN rfl (by omega) (by omega) (fun hcyf272 => ?_) (fun hcyf272 => ?_)
                            · refine q_iincN (c := 1) (L' := [_, _, _, _, _, _, _, _, _, _]) rfl rfl rfl rfl ?_
                              refine q_goto rfl ?_
                              exact ih_m _ _ (⟨f2, w, _, _, _, _, _, rfl, rfl, fun y hy => by rw [hf2 y hy, hw y hy, mo_fs]⟩)
                            · omega
                        · omega
                    · omega
              · obtain ⟨f, w, z5, z6, z7, z8, z9, rfl, rfl, hf⟩ := hi_m
                refine q_iload rfl rfl ?_
                refine q_iload_n rfl rfl ?_
                refine q_icmp_geN rfl (by omega) (by omega) (fun hcmf87 => ?_) (fun hcmf87 => ?_)
                · refine q_iconst (v := nI 0) rfl rfl ?_
                  refine q_istore (L' := [_, _, _, _, _, _, _, _, _, _]) rfl rfl ?_
                  refine q_iconst (v := nI 0) rfl rfl ?_
                  refine q_istore (L' := [_, _, _, _, _, _, _, _, _, _]) rfl rfl ?_
                  refine q_up (Inv := fun y L h => L = [some (.ref 51), some (.int (nI i)), some (.int (nI n)), some (.int (nI e)), some (.int (nI (mo_b (mo_f (fun r f => gnN b (mL A i) (nI f) (m0 + r)) (fun s j => eN st s j) e s n) y))), some (.int (nI y)), z6, z7, z8, z9] ∧ h = HX I (ua (ua (ua A 64 e4) 65 f) 66 w) J B F) (984) (fun y L h hk_y hi_y ih_y => ?_) (fun L h hi_y => ?_) (0) _ _ (by omega) (⟨rfl, rfl⟩)
                  · obtain ⟨rfl, rfl⟩ := hi_y
                    refine q_iload rfl rfl ?_
                    refine q_sipush (v := nI 984) rfl rfl ?_
                    refine q_icmp_geN rfl (by omega) (by omega) (fun hcys312 => ?_) (fun hcys312 => ?_)
                    · omega
                    · refine q_aload_n rfl rfl ?_
                      refine q_getfield rfl hx_51 rfl ?_
                      refine q_iload rfl rfl ?_
                      refine q_iald rfl (by decide) hx_65 (by omega) (by decide) ((show (ua (ua (ua A 64 e4) 65 f) 66 w) 65 y = dI (mo_f (fun r f => gnN b (mL A i) (nI f) (m0 + r)) (fun s j => eN st s j) e s n y) from hf y hk_y)) ?_
                      refine q_iload rfl rfl ?_
                      refine q_icmp_le rfl (fun hcys324 => ?_) (fun hcys324 => ?_)
                      · refine q_iload rfl rfl ?_
                        have hb1 := hfl n y
                        have hb2 : mo_b (mo_f (fun r f => gnN b (mL A i) (nI f) (m0 + r)) (fun s j => eN st s j) e s n) y ≤ 24 * n + 1 := mo_b_le y (fun z _ => by have := hfl n z; omega)
                        refine q_cn (show _ = nI (mo_b (mo_f (fun r f => gnN b (mL A i) (nI f) (m0 + r)) (fun s j => eN st s j) e s n) (y + 1)) from by first | exact mo_by (by omega) (by omega) hcys324 | exact mo_bn (by omega) (by omega) hcys324) ?_
                        refine q_istore (L' := [_, _, _, _, _, _, _, _, _, _]) rfl rfl ?_
                        refine q_iincN (c := 1) (L' := [_, _, _, _, _, _, _, _, _, _]) rfl rfl rfl rfl ?_
                        refine q_goto rfl ?_
                        exact ih_y _ _ (⟨rfl, rfl⟩)
                      · refine q_aload_n rfl rfl ?_
                        refine q_getfield rfl hx_51 rfl ?_
                        refine q_iload rfl rfl ?_
                        refine q_iald rfl (by decide) hx_65 (by omega) (by decide) ((show (ua (ua (ua A 64 e4) 65 f) 66 w) 65 y = dI (mo_f (fun r f => gnN b (mL A i) (nI f) (m0 + r)) (fun s j => eN st s j) e s n y) from hf y hk_y)) ?_
                        refine q_goto rfl ?_
                        have hb1 := hfl n y
                        have hb2 : mo_b (mo_f (fun r f => gnN b (mL A i) (nI f) (m0 + r)) (fun s j => eN st s j) e s n) y ≤ 24 * n + 1 := mo_b_le y (fun z _ => by have := hfl n z; omega)
                        refine q_cn (show _ = nI (mo_b (mo_f (fun r f => gnN b (mL A i) (nI f) (m0 + r)) (fun s j => eN st s j) e s n) (y + 1)) from by first | exact mo_by (by omega) (by omega) hcys324 | exact mo_bn (by omega) (by omega) hcys324) ?_
                        refine q_istore (L' := [_, _, _, _, _, _, _, _, _, _]) rfl rfl ?_
                        refine q_iincN (c := 1) (L' := [_, _, _, _, _, _, _, _, _, _]) rfl rfl rfl rfl ?_
                        refine q_goto rfl ?_
                        exact ih_y _ _ (⟨rfl, rfl⟩)
                  · obtain ⟨rfl, rfl⟩ := hi_y
                    refine q_iload rfl rfl ?_
                    refine q_sipush (v := nI 984) rfl rfl ?_
                    refine q_icmp_geN rfl (by omega) (by omega) (fun hcyf312 => ?_) (fun hcyf312 => ?_)
                    · refine q_iload rfl rfl ?_
                      refine q_iret rfl rfl ?_
                      exact ⟨e4, f, w, rfl, rfl, trivial⟩
                    · omega
                · omega
            · omega
        · exact absurd hc29 (by decide))
  subst hr_
  subst hh_
  exact ⟨e4, f, w, he_, hf_⟩
set_option maxHeartbeats 4000000 in
theorem op_25 {X : XX} : Op_25 X RelR := by
  intro a1 y z I A J B F hr
  obtain ⟨ln, b, st, hL, hT, hK, hD, hN, hQ, hF, hU, hJ, hS⟩ := id hr
  obtain ⟨hln, hb, hst, eln, eln', eb, eb', e7, e7', hb1⟩ := id hD
  obtain ⟨d, hd, n1, q0, n2, n3, n9, q1, q2, q3, hp⟩ := id hN
  have hm : (rp st (A 9) d).1 ≤ 40 := Nat.le_trans (rp_1 st (A 9) d) hd
  have hs := rp_2 st (A 9) d
  have lks := RelK_lks hK
  have hl := RelK_hl hK
  have cLe := RelK_cL hK
  rcases ix3 a1 ln (by first | decide | omega) with hk | hk | ⟨k, hk, rfl⟩
  · exact opI_mk (by decide) (by decide) (c_most_b a1 (Or.inl (by first | exact hk | (rw [eln]; exact hk))) y z) (m_most_b ln hln (by exact eln') a1 (Or.inl hk) y z) (hr)
  · exact opI_mk (by decide) (by decide) (c_most_b a1 (Or.inr (by first | exact hk | (rw [eln]; exact hk))) y z) (m_most_b ln hln (by exact eln') a1 (Or.inr hk) y z) (hr)
  · by_cases y1 : y < nI 1
    · exact opI_mk (by decide) (by decide) (c_most_n ln hln eln k hk y z (Or.inl y1)) (m_most_n ln hln (by exact eln') k hk y z (Or.inl y1)) (hr)
    by_cases y8 : nI 8 < y
    · exact opI_mk (by decide) (by decide) (c_most_n ln hln eln k hk y z (Or.inr y8)) (m_most_n ln hln (by exact eln') k hk y z (Or.inr y8)) (hr)
    obtain ⟨n, hn8, rfl⟩ := nI_of2 (M := nI 8) (n := 8) rfl (fun w => y1 (Int32.lt_trans w (by decide))) (Int32.not_lt.mp y8)
    have hn1 : 1 ≤ n := by
      rw [nI_ltI (by omega) (by omega)] at y1
      omega
    by_cases z0 : z < nI 0
    · exact opI_mk (by decide) (by decide) (c_most_e ln hln eln k hk n hn1 hn8 z (Or.inl z0)) (m_most_e ln hln (by exact eln') k hk n hn1 hn8 z (Or.inl z0)) (hr)
    by_cases z4 : nI 40 < z
    · exact opI_mk (by decide) (by decide) (c_most_e ln hln eln k hk n hn1 hn8 z (Or.inr z4)) (m_most_e ln hln (by exact eln') k hk n hn1 hn8 z (Or.inr z4)) (hr)
    obtain ⟨e, he, rfl⟩ := nI_of2 (M := nI 40) (n := 40) rfl z0 (Int32.not_lt.mp z4)
    obtain ⟨g1, G, f, g, h9, hS9⟩ := c_most_0 (X := X) (A := A) (J := J) (B := B) (F := F) hS b hb eb (rp st (A 9) d).1 n2 hm (rp st (A 9) d).2.1 n3 hs st hst e7 ln hln eln lks k hk n hn1 hn8 e he
    have hF9 := F_lt hS9
    rw [cLe k (by omega)] at h9
    have hml : mL (ua (ua (ua A 12 g1) (G 0) f) (G 1) g) k = mL A k := by
      unfold mL
      repeat rw [ua_ne (x := 53) (by omega)]
      repeat rw [ua_ne (x := 54) (by omega)]
      repeat rw [ua_ne (x := 55) (by omega)]
      repeat rw [ua_ne (x := 56) (by omega)]
    have hlk : mLk (ua (ua (ua A 12 g1) (G 0) f) (G 1) g) := by
      unfold mLk mL
      repeat rw [ua_ne (x := 53) (by omega)]
      repeat rw [ua_ne (x := 54) (by omega)]
      repeat rw [ua_ne (x := 55) (by omega)]
      repeat rw [ua_ne (x := 56) (by omega)]
      exact hl
    obtain ⟨e4, f2, w, h10, _⟩ := m_most_0 (X := X) (I := I) (A := ua (ua (ua A 12 g1) (G 0) f) (G 1) g) (J := J) (B := B) (F := G) b hb eb' (rp st (A 9) d).1 (by rw [ua_ne (by omega), ua_ne (by omega)]; exact q1) hm (rp st (A 9) d).2.1 (by rw [ua_ne (by omega), ua_ne (by omega)]; exact q2) hs st hst e7' ln hln eln' hlk k hk n hn1 hn8 e he
    rw [hml, mo_same he hs (fun s _ => eN_6 st s)] at h10
    exact opI_mk (by decide) (by decide) (h9) (h10) (⟨ln, b, st, (by repeat first | exact hL | refine RelL_n4 ?_ | refine RelL_u2 (by omega) ?_ | refine RelL_ua (by omega) ?_), (by repeat first | exact hT | refine RelT_n4 ?_ | refine RelT_u2 (by omega) ?_ | refine RelT_ua (by omega) ?_), (by repeat first | exact hK | refine RelK_n4 ?_ | refine RelK_u2 (by omega) ?_ | refine RelK_ua (by omega) ?_), (by repeat first | exact hD | refine RelD_n4 ?_ | refine RelD_u2 (by omega) ?_), (by repeat first | exact hN | refine RelN_u2 (by omega) ?_ | refine RelN_ua (by omega) ?_), (by repeat first | exact hQ | refine RelQ_n4 ?_ | refine RelQ_u2 (by omega) ?_ | refine RelQ_ua (by omega) ?_), (by repeat first | exact hF | refine RelF_n4 ?_ | refine RelF_u2 (by omega) ?_ | refine RelF_ua (by omega) ?_), (by repeat first | exact hU | refine RelU_n4 ?_ | refine RelU_u2 (by omega) ?_), hJ, hS9⟩)
