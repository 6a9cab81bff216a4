/-! lights and deeds: the reference's calls, case by case -/
theorem or_0 (x : Int32) : x ||| nI 0 = x := Int32.or_zero
theorem m_light_bad {X : XX} {I A : Nat → Nat → Int32} {J B : Nat → Nat → Int64} {F : Nat → Nat} (ln : Nat) (hln : ln ≤ 5) (eln : I 51 3 = nI ln) (x : Int32) (hx : x < 0 ∨ nI ln ≤ x) (w : Int32) : x_ev X xT 5 187 [.ref 51, .int x, .int w] (HX I A J B F) (some (.int (-1))) (HX I A J B F) := by
  refine q_ev (L := [some (.ref 51), some (.int x), some (.int w)]) tX9_light (Nat.le_of_ble_eq_true rfl) rfl ?_
  refine q_aload_n rfl rfl ?_
  refine q_iload_n rfl rfl ?_
  refine q_callV1 rfl hx_51 (Nat.le_of_ble_eq_true rfl) (Nat.le_of_ble_eq_true rfl) (sX9_isLight_0 x ln hln eln hx) ?_
  refine q_if_eqN rfl (by omega) (fun hc5 => ?_) (fun hc5 => ?_)
  · refine q_iconst (v := (-1)) rfl rfl ?_
    refine q_iret rfl rfl ?_
    exact ⟨rfl, rfl⟩
  · exact absurd hc5 (by decide)
theorem m_light_w {X : XX} {I A : Nat → Nat → Int32} {J B : Nat → Nat → Int64} {F : Nat → Nat} (ln : Nat) (hln : ln ≤ 5) (eln : I 51 3 = nI ln) (k : Nat) (hk : k < ln) (w : Int32) (hw : w < nI 0 ∨ nI 6 ≤ w) : x_ev X xT 5 187 [.ref 51, .int (nI k), .int w] (HX I A J B F) (some (.int (-1))) (HX I A J B F) := by
  refine q_ev (L := [some (.ref 51), some (.int (nI k)), some (.int w)]) tX9_light (Nat.le_of_ble_eq_true rfl) rfl ?_
  refine q_aload_n rfl rfl ?_
  refine q_iload_n rfl rfl ?_
  refine q_callV1 rfl hx_51 (Nat.le_of_ble_eq_true rfl) (Nat.le_of_ble_eq_true rfl) (sX9_isLight_1 k ln hk hln eln) ?_
  refine q_if_eqN rfl (by omega) (fun hc5 => ?_) (fun hc5 => ?_)
  · exact absurd hc5 (by decide)
  · refine q_iload_n rfl rfl ?_
    refine q_i2l rfl ?_
    refine q_lconst (v := 0) rfl rfl ?_
    refine q_ldc2_w (v := 5) rfl rfl ?_
    refine q_callS3 rfl rfl (Nat.le_of_ble_eq_true rfl) (Nat.le_of_ble_eq_true rfl) (sX9_in _ _ _) ?_
    refine q_cn (f_in_0 (lo := nI 0) (hi := nI 5) rfl rfl (hw.imp id (fun z => f_lt1 (n := 5) (by omega) z))) ?_
    refine q_if_eqN rfl (by omega) (fun hc17 => ?_) (fun hc17 => ?_)
    · refine q_iconst (v := (-1)) rfl rfl ?_
      refine q_iret rfl rfl ?_
      exact ⟨rfl, rfl⟩
    · exact absurd hc17 (by decide)
theorem m_light_0 {X : XX} {I A : Nat → Nat → Int32} {J B : Nat → Nat → Int64} {F : Nat → Nat} (b : Nat) (hb : b ≤ 5) (eb : I 51 1 = nI b) (m : Nat) (em : A 52 1 = nI m) (hm : m ≤ 40) (s : Nat) (es : A 52 2 = nI s) (hs : s < 24) (ln : Nat) (hln : ln ≤ 5) (eln : I 51 3 = nI ln) (hl : mLk A) (k : Nat) (hk : k < ln) (w : Nat) (hw : w < 6) : x_ev X xT 5 187 [.ref 51, .int (nI k), .int (nI w)] (HX I A J B F) (some (.int (nI 1))) (HX (u2 I 51 12 (fact b (mL A k) s m w)) A J B F) := by
  refine q_ev (L := [some (.ref 51), some (.int (nI k)), some (.int (nI w))]) tX9_light (Nat.le_of_ble_eq_true rfl) rfl ?_
  refine q_aload_n rfl rfl ?_
  refine q_iload_n rfl rfl ?_
  refine q_callV1 rfl hx_51 (Nat.le_of_ble_eq_true rfl) (Nat.le_of_ble_eq_true rfl) (sX9_isLight_1 k ln hk hln eln) ?_
  refine q_if_eqN rfl (by omega) (fun hc5 => ?_) (fun hc5 => ?_)
  · exact absurd hc5 (by decide)
  · refine q_iload_n rfl rfl ?_
    refine q_i2l rfl ?_
    refine q_lconst (v := 0) rfl rfl ?_
    refine q_ldc2_w (v := 5) rfl rfl ?_
    refine q_callS3 rfl rfl (Nat.le_of_ble_eq_true rfl) (Nat.le_of_ble_eq_true rfl) (sX9_in _ _ _) ?_
    refine q_cn (f_in_1 (lo := nI 0) (hi := nI 5) rfl rfl (nI_nlt (by omega) (by omega)) (nI_nlt (by omega) (by omega))) ?_
    refine q_if_eqN rfl (by omega) (fun hc17 => ?_) (fun hc17 => ?_)
    · exact absurd hc17 (by decide)
    · refine q_aload_n rfl rfl ?_
      refine q_aload_n rfl rfl ?_
      refine q_iload_n rfl rfl ?_
      refine q_iload_n rfl rfl ?_
      refine q_callV2 rfl hx_51 (Nat.le_of_ble_eq_true rfl) (Nat.le_of_ble_eq_true rfl) (sX9_toldOf b hb eb m em (by omega) s es k (by omega) hl w hw) ?_
      refine q_callV1 rfl hx_51 (Nat.le_of_ble_eq_true rfl) (Nat.le_of_ble_eq_true rfl) (sX9_tell _) ?_
      refine q_goto rfl ?_
      refine q_iret rfl rfl ?_
      exact ⟨rfl, rfl⟩
theorem m_mark_bad {X : XX} {I A : Nat → Nat → Int32} {J B : Nat → Nat → Int64} {F : Nat → Nat} (ln : Nat) (hln : ln ≤ 5) (eln : I 51 3 = nI ln) (x : Int32) (hx : x < 0 ∨ nI ln ≤ x) (w : Int32) : x_ev X xT 5 193 [.ref 51, .int x, .int w] (HX I A J B F) (some (.int (-1))) (HX I A J B F) := by
  refine q_ev (L := [some (.ref 51), some (.int x), some (.int w)]) tX9_mark (Nat.le_of_ble_eq_true rfl) rfl ?_
  refine q_aload_n rfl rfl ?_
  refine q_iload_n rfl rfl ?_
  refine q_callV1 rfl hx_51 (Nat.le_of_ble_eq_true rfl) (Nat.le_of_ble_eq_true rfl) (sX9_isLight_0 x ln hln eln hx) ?_
  refine q_if_eqN rfl (by omega) (fun hc5 => ?_) (fun hc5 => ?_)
  · refine q_iconst (v := (-1)) rfl rfl ?_
    refine q_iret rfl rfl ?_
    exact ⟨rfl, rfl⟩
  · exact absurd hc5 (by decide)
theorem m_mark_w {X : XX} {I A : Nat → Nat → Int32} {J B : Nat → Nat → Int64} {F : Nat → Nat} (ln : Nat) (hln : ln ≤ 5) (eln : I 51 3 = nI ln) (k : Nat) (hk : k < ln) (w : Int32) (hw : w < nI 1 ∨ nI 6 ≤ w) : x_ev X xT 5 193 [.ref 51, .int (nI k), .int w] (HX I A J B F) (some (.int (-1))) (HX I A J B F) := by
  refine q_ev (L := [some (.ref 51), some (.int (nI k)), some (.int w)]) tX9_mark (Nat.le_of_ble_eq_true rfl) rfl ?_
  refine q_aload_n rfl rfl ?_
  refine q_iload_n rfl rfl ?_
  refine q_callV1 rfl hx_51 (Nat.le_of_ble_eq_true rfl) (Nat.le_of_ble_eq_true rfl) (sX9_isLight_1 k ln hk hln eln) ?_
  refine q_if_eqN rfl (by omega) (fun hc5 => ?_) (fun hc5 => ?_)
  · exact absurd hc5 (by decide)
  · refine q_iload_n rfl rfl ?_
    refine q_i2l rfl ?_
    refine q_lconst (v := 1) rfl rfl ?_
    refine q_ldc2_w (v := 5) rfl rfl ?_
    refine q_callS3 rfl rfl (Nat.le_of_ble_eq_true rfl) (Nat.le_of_ble_eq_true rfl) (sX9_in _ _ _) ?_
    refine q_cn (f_in_0 (lo := nI 1) (hi := nI 5) rfl rfl (hw.imp id (fun z => f_lt1 (n := 5) (by omega) z))) ?_
    refine q_if_neN rfl (by omega) (fun hc17 => ?_) (fun hc17 => ?_)
    · exact absurd hc17 (by decide)
    · refine q_iconst (v := (-1)) rfl rfl ?_
      refine q_iret rfl rfl ?_
      exact ⟨rfl, rfl⟩
theorem m_mark_U {X : XX} {I A : Nat → Nat → Int32} {J B : Nat → Nat → Int64} {F : Nat → Nat} (ln : Nat) (hln : ln ≤ 5) (eln : I 51 3 = nI ln) (k : Nat) (hk : k < ln) (w : Nat) (hw1 : 1 ≤ w) (hw : w < 6) (hf : f_of (A 53 k) (nI w) = 0) : x_ev X xT 5 193 [.ref 51, .int (nI k), .int (nI w)] (HX I A J B F) (some (.int (-3))) (HX (u2 I 51 15 (nI 3)) (f_cnt A 61 3) J B F) := by
  refine q_ev (L := [some (.ref 51), some (.int (nI k)), some (.int (nI w))]) tX9_mark (Nat.le_of_ble_eq_true rfl) rfl ?_
  refine q_aload_n rfl rfl ?_
  refine q_iload_n rfl rfl ?_
  refine q_callV1 rfl hx_51 (Nat.le_of_ble_eq_true rfl) (Nat.le_of_ble_eq_true rfl) (sX9_isLight_1 k ln hk hln eln) ?_
  refine q_if_eqN rfl (by omega) (fun hc5 => ?_) (fun hc5 => ?_)
  · exact absurd hc5 (by decide)
  · refine q_iload_n rfl rfl ?_
    refine q_i2l rfl ?_
    refine q_lconst (v := 1) rfl rfl ?_
    refine q_ldc2_w (v := 5) rfl rfl ?_
    refine q_callS3 rfl rfl (Nat.le_of_ble_eq_true rfl) (Nat.le_of_ble_eq_true rfl) (sX9_in _ _ _) ?_
    refine q_cn (f_in_1 (lo := nI 1) (hi := nI 5) rfl rfl (nI_nlt (by omega) (by omega)) (nI_nlt (by omega) (by omega))) ?_
    refine q_if_neN rfl (by omega) (fun hc17 => ?_) (fun hc17 => ?_)
    · refine q_aload_n rfl rfl ?_
      refine q_iload_n rfl rfl ?_
      refine q_iload_n rfl rfl ?_
      refine q_callV2 rfl hx_51 (Nat.le_of_ble_eq_true rfl) (Nat.le_of_ble_eq_true rfl) (sX9_isOf k (by omega) _) ?_
      refine q_cn (show _ = nI 0 from hf) ?_
      refine q_if_neN rfl (by omega) (fun hc28 => ?_) (fun hc28 => ?_)
      · exact absurd hc28 (by decide)
      · refine q_aload_n rfl rfl ?_
        refine q_iconst (v := nI 3) rfl rfl ?_
        refine q_callV1 rfl hx_51 (Nat.le_of_ble_eq_true rfl) (Nat.le_of_ble_eq_true rfl) (sX9_find 3 (by decide)) ?_
        refine q_iret rfl rfl ?_
        exact ⟨rfl, rfl⟩
    · exact absurd hc17 (by decide)
theorem back_ok {A : Nat → Nat → Int32} {k m : Nat} (hsp : ∀ i, i < 5 → spOK (A 55 i)) (hst : ∀ i, i < 5 → ∃ p, p < 24 ∧ A 54 i = nI p) (hk : k < 5) (hm : m ≤ 900) (hf : ¬ f_of (A 53 k) (nI 2) = 0) : plN (mL A k) (m + 24) = plN (mL A k) m := by
  obtain ⟨p, hp, e⟩ := hst k hk
  refine pl24 (l := mL A k) (hsp k hk) hp e hm ?_
  show A 53 k = 2
  apply Classical.byContradiction
  intro hn
  apply hf
  unfold f_of
  rw [if_neg (show ¬ A 53 k = nI 2 from hn), if_neg (fun z => absurd z.2 (by decide)), if_neg (fun z => absurd z.2 (by decide))]
theorem m_mark_0 {X : XX} {I A : Nat → Nat → Int32} {J B : Nat → Nat → Int64} {F : Nat → Nat} (b : Nat) (hb : b ≤ 5) (eb : I 51 1 = nI b) (m : Nat) (em : A 52 1 = nI m) (hm : m ≤ 40) (s : Nat) (es : A 52 2 = nI s) (hs : s < 24) (ln : Nat) (hln : ln ≤ 5) (eln : I 51 3 = nI ln) (hb1 : 1 ≤ b) (hl : mLk A) (hsp : ∀ i, i < 5 → spOK (A 55 i)) (hst : ∀ i, i < 5 → ∃ p, p < 24 ∧ A 54 i = nI p) (k : Nat) (hk : k < ln) (w : Nat) (hw1 : 1 ≤ w) (hw : w < 6) (hf : ¬ f_of (A 53 k) (nI w) = 0) : x_ev X xT 5 193 [.ref 51, .int (nI k), .int (nI w)] (HX I A J B F) (some (.int (mkN b (mL A k) s m w))) (HX I A J B F) := by
  refine q_ev (L := [some (.ref 51), some (.int (nI k)), some (.int (nI w))]) tX9_mark (Nat.le_of_ble_eq_true rfl) rfl ?_
  refine q_aload_n rfl rfl ?_
  refine q_iload_n rfl rfl ?_
  refine q_callV1 rfl hx_51 (Nat.le_of_ble_eq_true rfl) (Nat.le_of_ble_eq_true rfl) (sX9_isLight_1 k ln hk hln eln) ?_
  refine q_if_eqN rfl (by omega) (fun hc5 => ?_) (fun hc5 => ?_)
  · exact absurd hc5 (by decide)
  · refine q_iload_n rfl rfl ?_
    refine q_i2l rfl ?_
    refine q_lconst (v := 1) rfl rfl ?_
    refine q_ldc2_w (v := 5) rfl rfl ?_
    refine q_callS3 rfl rfl (Nat.le_of_ble_eq_true rfl) (Nat.le_of_ble_eq_true rfl) (sX9_in _ _ _) ?_
    refine q_cn (f_in_1 (lo := nI 1) (hi := nI 5) rfl rfl (nI_nlt (by omega) (by omega)) (nI_nlt (by omega) (by omega))) ?_
    refine q_if_neN rfl (by omega) (fun hc17 => ?_) (fun hc17 => ?_)
    · refine q_aload_n rfl rfl ?_
      refine q_iload_n rfl rfl ?_
      refine q_iload_n rfl rfl ?_
      refine q_callV2 rfl hx_51 (Nat.le_of_ble_eq_true rfl) (Nat.le_of_ble_eq_true rfl) (sX9_isOf k (by omega) _) ?_
      refine q_if_ne rfl (fun hc28 => ?_) (fun hc28 => ?_)
      · refine q_iload_n rfl rfl ?_
        rcases (show w = 1 ∨ w = 2 ∨ w = 3 ∨ w = 4 ∨ w = 5 by omega) with rfl | rfl | rfl | rfl | rfl
        · refine q_tsw (t := 68) rfl (by decide) ?_
          refine q_aload_n rfl rfl ?_
          refine q_iload_n rfl rfl ?_
          refine q_callV1 rfl hx_51 (Nat.le_of_ble_eq_true rfl) (Nat.le_of_ble_eq_true rfl) (sX9_moves m em (by omega) k (by omega) hl) ?_
          refine q_iret rfl rfl ?_
          exact ⟨rfl, rfl⟩
        · refine q_tsw (t := 74) rfl (by decide) ?_
          refine q_aload_n rfl rfl ?_
          refine q_iload_n rfl rfl ?_
          refine q_callV1 rfl hx_51 (Nat.le_of_ble_eq_true rfl) (Nat.le_of_ble_eq_true rfl) (sX9_back m em (by omega) k (by omega) hl (back_ok hsp hst (by omega) (by omega) hf)) ?_
          refine q_iret rfl rfl ?_
          exact ⟨rfl, rfl⟩
        · refine q_tsw (t := 80) rfl (by decide) ?_
          refine q_aload_n rfl rfl ?_
          refine q_iload_n rfl rfl ?_
          refine q_callV1 rfl hx_51 (Nat.le_of_ble_eq_true rfl) (Nat.le_of_ble_eq_true rfl) (sX9_fourBrights m em (by omega) k (by omega) hl) ?_
          refine q_iret rfl rfl ?_
          exact ⟨rfl, rfl⟩
        · refine q_tsw (t := 86) rfl (by decide) ?_
          refine q_aload_n rfl rfl ?_
          refine q_iload_n rfl rfl ?_
          refine q_callV1 rfl hx_51 (Nat.le_of_ble_eq_true rfl) (Nat.le_of_ble_eq_true rfl) (sX9_offBest b hb eb hb1 m em (by omega) s es hs k (by omega) hl) ?_
          refine q_iret rfl rfl ?_
          exact ⟨rfl, rfl⟩
        · refine q_tsw (t := 92) rfl (by decide) ?_
          refine q_iconst (v := nI 4) rfl rfl ?_
          refine q_aload_n rfl rfl ?_
          refine q_getfield rfl hx_51 rfl ?_
          refine q_iconst (v := nI 1) rfl rfl ?_
          refine q_iald rfl (by decide) hx_52 (by decide) (by decide) (em) ?_
          refine q_iconst (v := nI 4) rfl rfl ?_
          refine q_iremN rfl (by omega) (by decide) (by decide) ?_
          refine q_isubN rfl (by omega) ?_
          refine q_iconst (v := nI 4) rfl rfl ?_
          refine q_iremN rfl (by omega) (by decide) (by decide) ?_
          refine q_iret rfl rfl ?_
          exact ⟨rfl, rfl⟩
      · exact absurd hc28 hf
    · exact absurd hc17 (by decide)
theorem m_moment_S {X : XX} {I A : Nat → Nat → Int32} {J B : Nat → Nat → Int64} {F : Nat → Nat} (eln : I 51 3 = nI 0) : x_ev X xT 6 196 [.ref 51] (HX I A J B F) (some (.int (-4))) (HX I A J B F) := by
  refine q_ev (L := [some (.ref 51)]) tX9_moment (Nat.le_of_ble_eq_true rfl) rfl ?_
  refine q_aload_n rfl rfl ?_
  refine q_getI rfl hx_51 rfl (eln) ?_
  refine q_if_neN rfl (by omega) (fun hc4 => ?_) (fun hc4 => ?_)
  · exact absurd hc4 (by decide)
  · refine q_bipush (v := (-4)) rfl rfl ?_
    refine q_iret rfl rfl ?_
    exact ⟨rfl, rfl⟩
theorem m_moment_F {X : XX} {I A : Nat → Nat → Int32} {J B : Nat → Nat → Int64} {F : Nat → Nat} (ln : Nat) (hln : ln ≤ 5) (eln : I 51 3 = nI ln) (h0 : 0 < ln) (ed : A 52 0 = nI 40) : x_ev X xT 6 196 [.ref 51] (HX I A J B F) (some (.int (-2))) (HX I A J B F) := by
  refine q_ev (L := [some (.ref 51)]) tX9_moment (Nat.le_of_ble_eq_true rfl) rfl ?_
  refine q_aload_n rfl rfl ?_
  refine q_getI rfl hx_51 rfl (eln) ?_
  refine q_if_neN rfl (by omega) (fun hc4 => ?_) (fun hc4 => ?_)
  · refine q_aload_n rfl rfl ?_
    refine q_getfield rfl hx_51 rfl ?_
    refine q_iconst (v := nI 0) rfl rfl ?_
    refine q_iald rfl (by decide) hx_52 (by decide) (by decide) (ed) ?_
    refine q_bipush (v := nI 40) rfl rfl ?_
    refine q_icmp_neN rfl (by omega) (by omega) (fun hc18 => ?_) (fun hc18 => ?_)
    · exact absurd hc18 (by decide)
    · refine q_bipush (v := (-2)) rfl rfl ?_
      refine q_goto rfl ?_
      refine q_iret rfl rfl ?_
      exact ⟨rfl, rfl⟩
  · omega
theorem m_moment_0 {X : XX} {I A : Nat → Nat → Int32} {J B : Nat → Nat → Int64} {F : Nat → Nat} (b : Nat) (hb : b ≤ 5) (eb : I 51 1 = nI b) (m : Nat) (em : A 52 1 = nI m) (hm : m ≤ 40) (s : Nat) (es : A 52 2 = nI s) (hs : s < 24) (ln : Nat) (hln : ln ≤ 5) (eln : I 51 3 = nI ln) (h0 : 0 < ln) (hl : mLk A) (d : Nat) (hd : d < 40) (ed : A 52 0 = nI d)  : x_ev X xT 6 196 [.ref 51] (HX I A J B F) (some (.int (nI (nsum (fun i => gnN b (mL A i) (nI s) m) ln)))) (HX I (ua A 52 (upd (kpd (A 52) d) 1 (nI (m + 1)))) J B F) := by
  refine q_ev (L := [some (.ref 51)]) tX9_moment (Nat.le_of_ble_eq_true rfl) rfl ?_
  refine q_aload_n rfl rfl ?_
  refine q_getI rfl hx_51 rfl (eln) ?_
  refine q_if_neN rfl (by omega) (fun hc4 => ?_) (fun hc4 => ?_)
  · refine q_aload_n rfl rfl ?_
    refine q_getfield rfl hx_51 rfl ?_
    refine q_iconst (v := nI 0) rfl rfl ?_
    refine q_iald rfl (by decide) hx_52 (by decide) (by decide) (ed) ?_
    refine q_bipush (v := nI 40) rfl rfl ?_
    refine q_icmp_neN rfl (by omega) (by omega) (fun hc18 => ?_) (fun hc18 => ?_)
    · refine q_aload_n rfl rfl ?_
      refine q_callV0 rfl hx_51 (Nat.le_of_ble_eq_true rfl) (Nat.le_of_ble_eq_true rfl) (sX9_doMoment b hb eb m em (by omega) s es hl ln hln eln d hd ed) ?_
      refine q_iret rfl rfl ?_
      exact ⟨rfl, rfl⟩
    · omega
  · omega
theorem m_turn_bad {X : XX} {I A : Nat → Nat → Int32} {J B : Nat → Nat → Int64} {F : Nat → Nat} (x : Int32) (hx : x < -6 ∨ nI 6 < x) : x_ev X xT 4 199 [.ref 51, .int x] (HX I A J B F) (some (.int (-1))) (HX I A J B F) := by
  refine q_ev (L := [some (.ref 51), some (.int x)]) tX9_turn (Nat.le_of_ble_eq_true rfl) rfl ?_
  refine q_iload_n rfl rfl ?_
  refine q_i2l rfl ?_
  refine q_ldc2_w (v := (-6)) rfl rfl ?_
  refine q_ldc2_w (v := 6) rfl rfl ?_
  refine q_callS3 rfl rfl (Nat.le_of_ble_eq_true rfl) (Nat.le_of_ble_eq_true rfl) (sX9_in _ _ _) ?_
  refine q_cn (f_in_0 (lo := -6) (hi := nI 6) rfl rfl hx) ?_
  refine q_if_eqN rfl (by omega) (fun hc11 => ?_) (fun hc11 => ?_)
  · refine q_iconst (v := (-1)) rfl rfl ?_
    refine q_iret rfl rfl ?_
    exact ⟨rfl, rfl⟩
  · exact absurd hc11 (by decide)
theorem m_turn_0z {X : XX} {I A : Nat → Nat → Int32} {J B : Nat → Nat → Int64} {F : Nat → Nat}  : x_ev X xT 4 199 [.ref 51, .int (nI 0)] (HX I A J B F) (some (.int (-1))) (HX I A J B F) := by
  refine q_ev (L := [some (.ref 51), some (.int (nI 0))]) tX9_turn (Nat.le_of_ble_eq_true rfl) rfl ?_
  refine q_iload_n rfl rfl ?_
  refine q_i2l rfl ?_
  refine q_ldc2_w (v := (-6)) rfl rfl ?_
  refine q_ldc2_w (v := 6) rfl rfl ?_
  refine q_callS3 rfl rfl (Nat.le_of_ble_eq_true rfl) (Nat.le_of_ble_eq_true rfl) (sX9_in _ _ _) ?_
  refine q_cn (f_in_1 (lo := -6) (hi := nI 6) rfl rfl (by decide) (by decide)) ?_
  refine q_if_eqN rfl (by omega) (fun hc11 => ?_) (fun hc11 => ?_)
  · exact absurd hc11 (by decide)
  · refine q_iload_n rfl rfl ?_
    refine q_if_neN rfl (by omega) (fun hc15 => ?_) (fun hc15 => ?_)
    · exact absurd hc15 (by decide)
    · refine q_iconst (v := (-1)) rfl rfl ?_
      refine q_iret rfl rfl ?_
      exact ⟨rfl, rfl⟩
theorem m_turn_S {X : XX} {I A : Nat → Nat → Int32} {J B : Nat → Nat → Int64} {F : Nat → Nat} (x : Int32) (x0 : ¬ x = 0) (x1 : ¬ x < -6) (x2 : x ≤ nI 6) (eln : I 51 3 = nI 0) : x_ev X xT 4 199 [.ref 51, .int x] (HX I A J B F) (some (.int (-4))) (HX I A J B F) := by
  refine q_ev (L := [some (.ref 51), some (.int x)]) tX9_turn (Nat.le_of_ble_eq_true rfl) rfl ?_
  refine q_iload_n rfl rfl ?_
  refine q_i2l rfl ?_
  refine q_ldc2_w (v := (-6)) rfl rfl ?_
  refine q_ldc2_w (v := 6) rfl rfl ?_
  refine q_callS3 rfl rfl (Nat.le_of_ble_eq_true rfl) (Nat.le_of_ble_eq_true rfl) (sX9_in _ _ _) ?_
  refine q_cn (f_in_1 (lo := -6) (hi := nI 6) rfl rfl x1 (Int32.not_lt.mpr x2)) ?_
  refine q_if_eqN rfl (by omega) (fun hc11 => ?_) (fun hc11 => ?_)
  · exact absurd hc11 (by decide)
  · refine q_iload_n rfl rfl ?_
    refine q_if_ne rfl (fun hc15 => ?_) (fun hc15 => ?_)
    · refine q_aload_n rfl rfl ?_
      refine q_getI rfl hx_51 rfl (eln) ?_
      refine q_if_neN rfl (by omega) (fun hc24 => ?_) (fun hc24 => ?_)
      · exact absurd hc24 (by decide)
      · refine q_bipush (v := (-4)) rfl rfl ?_
        refine q_iret rfl rfl ?_
        exact ⟨rfl, rfl⟩
    · exact absurd hc15 x0
theorem m_turn_F {X : XX} {I A : Nat → Nat → Int32} {J B : Nat → Nat → Int64} {F : Nat → Nat} (x : Int32) (x0 : ¬ x = 0) (x1 : ¬ x < -6) (x2 : x ≤ nI 6) (ln : Nat) (hln : ln ≤ 5) (eln : I 51 3 = nI ln) (h0 : 0 < ln) (ed : A 52 0 = nI 40) : x_ev X xT 4 199 [.ref 51, .int x] (HX I A J B F) (some (.int (-2))) (HX I A J B F) := by
  refine q_ev (L := [some (.ref 51), some (.int x)]) tX9_turn (Nat.le_of_ble_eq_true rfl) rfl ?_
  refine q_iload_n rfl rfl ?_
  refine q_i2l rfl ?_
  refine q_ldc2_w (v := (-6)) rfl rfl ?_
  refine q_ldc2_w (v := 6) rfl rfl ?_
  refine q_callS3 rfl rfl (Nat.le_of_ble_eq_true rfl) (Nat.le_of_ble_eq_true rfl) (sX9_in _ _ _) ?_
  refine q_cn (f_in_1 (lo := -6) (hi := nI 6) rfl rfl x1 (Int32.not_lt.mpr x2)) ?_
  refine q_if_eqN rfl (by omega) (fun hc11 => ?_) (fun hc11 => ?_)
  · exact absurd hc11 (by decide)
  · refine q_iload_n rfl rfl ?_
    refine q_if_ne rfl (fun hc15 => ?_) (fun hc15 => ?_)
    · refine q_aload_n rfl rfl ?_
      refine q_getI rfl hx_51 rfl (eln) ?_
      refine q_if_neN rfl (by omega) (fun hc24 => ?_) (fun hc24 => ?_)
      · refine q_aload_n rfl rfl ?_
        refine q_getfield rfl hx_51 rfl ?_
        refine q_iconst (v := nI 0) rfl rfl ?_
        refine q_iald rfl (by decide) hx_52 (by decide) (by decide) (ed) ?_
        refine q_bipush (v := nI 40) rfl rfl ?_
        refine q_icmp_neN rfl (by omega) (by omega) (fun hc38 => ?_) (fun hc38 => ?_)
        · exact absurd hc38 (by decide)
        · refine q_bipush (v := (-2)) rfl rfl ?_
          refine q_goto rfl ?_
          refine q_iret rfl rfl ?_
          exact ⟨rfl, rfl⟩
      · omega
    · exact absurd hc15 x0
theorem m_turn_0 {X : XX} {I A : Nat → Nat → Int32} {J B : Nat → Nat → Int64} {F : Nat → Nat} (x : Int32) (x0 : ¬ x = 0) (x1 : ¬ x < -6) (x2 : x ≤ nI 6) (st s j : Nat) (hst : st < 24) (hs : s < 24) (hj : j < 13) (est : I 51 2 = nI st) (es : A 52 2 = nI s) (ex : x = sI 6 j) (ln : Nat) (hln : ln ≤ 5) (eln : I 51 3 = nI ln) (h0 : 0 < ln) (d : Nat) (hd : d < 40) (ed : A 52 0 = nI d)  : x_ev X xT 4 199 [.ref 51, .int x] (HX I A J B F) (some (.int (f_ef (nI st) (nI s) x))) (HX I (ua A 52 (upd (upd (kpd (A 52) d) 2 (nI (rdN (nI s + x)))) 3 (A 52 3 + f_ef (nI st) (nI s) x))) J B F) := by
  refine q_ev (L := [some (.ref 51), some (.int x)]) tX9_turn (Nat.le_of_ble_eq_true rfl) rfl ?_
  refine q_iload_n rfl rfl ?_
  refine q_i2l rfl ?_
  refine q_ldc2_w (v := (-6)) rfl rfl ?_
  refine q_ldc2_w (v := 6) rfl rfl ?_
  refine q_callS3 rfl rfl (Nat.le_of_ble_eq_true rfl) (Nat.le_of_ble_eq_true rfl) (sX9_in _ _ _) ?_
  refine q_cn (f_in_1 (lo := -6) (hi := nI 6) rfl rfl x1 (Int32.not_lt.mpr x2)) ?_
  refine q_if_eqN rfl (by omega) (fun hc11 => ?_) (fun hc11 => ?_)
  · exact absurd hc11 (by decide)
  · refine q_iload_n rfl rfl ?_
    refine q_if_ne rfl (fun hc15 => ?_) (fun hc15 => ?_)
    · refine q_aload_n rfl rfl ?_
      refine q_getI rfl hx_51 rfl (eln) ?_
      refine q_if_neN rfl (by omega) (fun hc24 => ?_) (fun hc24 => ?_)
      · refine q_aload_n rfl rfl ?_
        refine q_getfield rfl hx_51 rfl ?_
        refine q_iconst (v := nI 0) rfl rfl ?_
        refine q_iald rfl (by decide) hx_52 (by decide) (by decide) (ed) ?_
        refine q_bipush (v := nI 40) rfl rfl ?_
        refine q_icmp_neN rfl (by omega) (by omega) (fun hc38 => ?_) (fun hc38 => ?_)
        · refine q_aload_n rfl rfl ?_
          refine q_iload_n rfl rfl ?_
          refine q_callV1 rfl hx_51 (Nat.le_of_ble_eq_true rfl) (Nat.le_of_ble_eq_true rfl) (by subst ex; exact sX9_doTurn st s j hst hs hj est es d hd ed) ?_
          refine q_iret rfl rfl ?_
          exact ⟨vI (by rw [ex, ef_eq hst hs hj]), by rw [ex, ef_eq hst hs hj]⟩
        · omega
      · omega
    · exact absurd hc15 x0
theorem m_keep_bad {X : XX} {I A : Nat → Nat → Int32} {J B : Nat → Nat → Int64} {F : Nat → Nat} (x : Int32) (hx : x < nI 0 ∨ nI 3 ≤ x)  : x_ev X xT 2 202 [.ref 51, .int x] (HX I A J B F) (some (.int (-1))) (HX I A J B F) := by
  refine q_ev (L := [some (.ref 51), some (.int x)]) tX9_keep (Nat.le_of_ble_eq_true rfl) rfl ?_
  refine q_iload_n rfl rfl ?_
  refine q_i2l rfl ?_
  refine q_lconst (v := 0) rfl rfl ?_
  refine q_ldc2_w (v := 2) rfl rfl ?_
  refine q_callS3 rfl rfl (Nat.le_of_ble_eq_true rfl) (Nat.le_of_ble_eq_true rfl) (sX9_in _ _ _) ?_
  refine q_cn (f_in_0 (lo := nI 0) (hi := nI 2) rfl rfl (hx.imp id (fun z => f_lt1 (n := 2) (by omega) z))) ?_
  refine q_if_neN rfl (by omega) (fun hc9 => ?_) (fun hc9 => ?_)
  · exact absurd hc9 (by decide)
  · refine q_iconst (v := (-1)) rfl rfl ?_
    refine q_iret rfl rfl ?_
    exact ⟨rfl, rfl⟩
theorem m_on_bad {X : XX} {I A : Nat → Nat → Int32} {J B : Nat → Nat → Int64} {F : Nat → Nat} (x : Int32) (hx : x < nI 0 ∨ nI 3 ≤ x)  : x_ev X xT 2 203 [.ref 51, .int x] (HX I A J B F) (some (.int (-1))) (HX I A J B F) := by
  refine q_ev (L := [some (.ref 51), some (.int x)]) tX9_on (Nat.le_of_ble_eq_true rfl) rfl ?_
  refine q_iload_n rfl rfl ?_
  refine q_i2l rfl ?_
  refine q_lconst (v := 0) rfl rfl ?_
  refine q_ldc2_w (v := 2) rfl rfl ?_
  refine q_callS3 rfl rfl (Nat.le_of_ble_eq_true rfl) (Nat.le_of_ble_eq_true rfl) (sX9_in _ _ _) ?_
  refine q_cn (f_in_0 (lo := nI 0) (hi := nI 2) rfl rfl (hx.imp id (fun z => f_lt1 (n := 2) (by omega) z))) ?_
  refine q_if_neN rfl (by omega) (fun hc9 => ?_) (fun hc9 => ?_)
  · exact absurd hc9 (by decide)
  · refine q_iconst (v := (-1)) rfl rfl ?_
    refine q_iret rfl rfl ?_
    exact ⟨rfl, rfl⟩
theorem m_keep_S {X : XX} {I A : Nat → Nat → Int32} {J B : Nat → Nat → Int64} {F : Nat → Nat} (k : Nat) (hk : k < 3) (eln : I 51 3 = nI 0) : x_ev X xT 2 202 [.ref 51, .int (nI k)] (HX I A J B F) (some (.int (-4))) (HX I A J B F) := by
  refine q_ev (L := [some (.ref 51), some (.int (nI k))]) tX9_keep (Nat.le_of_ble_eq_true rfl) rfl ?_
  refine q_iload_n rfl rfl ?_
  refine q_i2l rfl ?_
  refine q_lconst (v := 0) rfl rfl ?_
  refine q_ldc2_w (v := 2) rfl rfl ?_
  refine q_callS3 rfl rfl (Nat.le_of_ble_eq_true rfl) (Nat.le_of_ble_eq_true rfl) (sX9_in _ _ _) ?_
  refine q_cn (f_in_1 (lo := nI 0) (hi := nI 2) rfl rfl (nI_nlt (by omega) (by omega)) (nI_nlt (by omega) (by omega))) ?_
  refine q_if_neN rfl (by omega) (fun hc9 => ?_) (fun hc9 => ?_)
  · refine q_aload_n rfl rfl ?_
    refine q_getI rfl hx_51 rfl (eln) ?_
    refine q_if_neN rfl (by omega) (fun hc18 => ?_) (fun hc18 => ?_)
    · exact absurd hc18 (by decide)
    · refine q_bipush (v := (-4)) rfl rfl ?_
      refine q_iret rfl rfl ?_
      exact ⟨rfl, rfl⟩
  · exact absurd hc9 (by decide)
theorem m_keep_0 {X : XX} {I A : Nat → Nat → Int32} {J B : Nat → Nat → Int64} {F : Nat → Nat} (k : Nat) (hk : k < 3) (ln : Nat) (hln : ln ≤ 5) (eln : I 51 3 = nI ln) (h0 : 0 < ln) (d : Nat) (ed : A 52 0 = nI d) : x_ev X xT 2 202 [.ref 51, .int (nI k)] (HX I A J B F) (some (.int (nI d))) (HX I (ua A 52 (va_cpy (A 52) (A 52) 0 (124 * (1 + k)) 124)) J B F) := by
  refine q_ev (L := [some (.ref 51), some (.int (nI k))]) tX9_keep (Nat.le_of_ble_eq_true rfl) rfl ?_
  refine q_iload_n rfl rfl ?_
  refine q_i2l rfl ?_
  refine q_lconst (v := 0) rfl rfl ?_
  refine q_ldc2_w (v := 2) rfl rfl ?_
  refine q_callS3 rfl rfl (Nat.le_of_ble_eq_true rfl) (Nat.le_of_ble_eq_true rfl) (sX9_in _ _ _) ?_
  refine q_cn (f_in_1 (lo := nI 0) (hi := nI 2) rfl rfl (nI_nlt (by omega) (by omega)) (nI_nlt (by omega) (by omega))) ?_
  refine q_if_neN rfl (by omega) (fun hc9 => ?_) (fun hc9 => ?_)
  · refine q_aload_n rfl rfl ?_
    refine q_getI rfl hx_51 rfl (eln) ?_
    refine q_if_neN rfl (by omega) (fun hc18 => ?_) (fun hc18 => ?_)
    · refine q_aload_n rfl rfl ?_
      refine q_iconst (v := nI 0) rfl rfl ?_
      refine q_bipush (v := nI 124) rfl rfl ?_
      refine q_iconst (v := nI 1) rfl rfl ?_
      refine q_iload_n rfl rfl ?_
      refine q_iaddN rfl ?_
      refine q_imulN rfl ?_
      refine q_callV2 rfl hx_51 (Nat.le_of_ble_eq_true rfl) (Nat.le_of_ble_eq_true rfl) (sX9_copyDome 0 (124 * (1 + k)) (by omega) (by omega) (by omega)) ?_
      refine q_aload_n rfl rfl ?_
      refine q_getfield rfl hx_51 rfl ?_
      refine q_iconst (v := nI 0) rfl rfl ?_
      refine q_iald rfl (by decide) hx_52 (by decide) (by decide) ((show va_cpy (A 52) (A 52) 0 (124 * (1 + k)) 124 0 = nI d from (pk_cpy_out (by omega)).trans ed)) ?_
      refine q_iret rfl rfl ?_
      exact ⟨rfl, rfl⟩
    · omega
  · exact absurd hc9 (by decide)
theorem m_on_M {X : XX} {I A : Nat → Nat → Int32} {J B : Nat → Nat → Int64} {F : Nat → Nat} (k : Nat) (hk : k < 3) (ek : A 52 (124 * (1 + k) + 0) = -1) : x_ev X xT 2 203 [.ref 51, .int (nI k)] (HX I A J B F) (some (.int (-3))) (HX (u2 I 51 15 (nI 1)) (f_cnt A 61 1) J B F) := by
  refine q_ev (L := [some (.ref 51), some (.int (nI k))]) tX9_on (Nat.le_of_ble_eq_true rfl) rfl ?_
  refine q_iload_n rfl rfl ?_
  refine q_i2l rfl ?_
  refine q_lconst (v := 0) rfl rfl ?_
  refine q_ldc2_w (v := 2) rfl rfl ?_
  refine q_callS3 rfl rfl (Nat.le_of_ble_eq_true rfl) (Nat.le_of_ble_eq_true rfl) (sX9_in _ _ _) ?_
  refine q_cn (f_in_1 (lo := nI 0) (hi := nI 2) rfl rfl (nI_nlt (by omega) (by omega)) (nI_nlt (by omega) (by omega))) ?_
  refine q_if_neN rfl (by omega) (fun hc9 => ?_) (fun hc9 => ?_)
  · refine q_aload_n rfl rfl ?_
    refine q_getfield rfl hx_51 rfl ?_
    refine q_bipush (v := nI 124) rfl rfl ?_
    refine q_iconst (v := nI 1) rfl rfl ?_
    refine q_iload_n rfl rfl ?_
    refine q_iaddN rfl ?_
    refine q_imulN rfl ?_
    refine q_iconst (v := nI 0) rfl rfl ?_
    refine q_iaddN rfl ?_
    refine q_iald rfl (by decide) hx_52 (by omega) (by decide) (ek) ?_
    refine q_if_ge rfl (fun hc27 => ?_) (fun hc27 => ?_)
    · exact absurd hc27 (by decide)
    · refine q_aload_n rfl rfl ?_
      refine q_iconst (v := nI 1) rfl rfl ?_
      refine q_callV1 rfl hx_51 (Nat.le_of_ble_eq_true rfl) (Nat.le_of_ble_eq_true rfl) (sX9_find 1 (by decide)) ?_
      refine q_iret rfl rfl ?_
      exact ⟨rfl, rfl⟩
  · exact absurd hc9 (by decide)
theorem m_on_0 {X : XX} {I A : Nat → Nat → Int32} {J B : Nat → Nat → Int64} {F : Nat → Nat} (k : Nat) (hk : k < 3) (d : Nat) (hd : d ≤ 40) (ek : A 52 (124 * (1 + k) + 0) = nI d) : x_ev X xT 2 203 [.ref 51, .int (nI k)] (HX I A J B F) (some (.int (nI d))) (HX I (ua A 52 (va_cpy (A 52) (A 52) (124 * (1 + k)) 0 124)) J B F) := by
  refine q_ev (L := [some (.ref 51), some (.int (nI k))]) tX9_on (Nat.le_of_ble_eq_true rfl) rfl ?_
  refine q_iload_n rfl rfl ?_
  refine q_i2l rfl ?_
  refine q_lconst (v := 0) rfl rfl ?_
  refine q_ldc2_w (v := 2) rfl rfl ?_
  refine q_callS3 rfl rfl (Nat.le_of_ble_eq_true rfl) (Nat.le_of_ble_eq_true rfl) (sX9_in _ _ _) ?_
  refine q_cn (f_in_1 (lo := nI 0) (hi := nI 2) rfl rfl (nI_nlt (by omega) (by omega)) (nI_nlt (by omega) (by omega))) ?_
  refine q_if_neN rfl (by omega) (fun hc9 => ?_) (fun hc9 => ?_)
  · refine q_aload_n rfl rfl ?_
    refine q_getfield rfl hx_51 rfl ?_
    refine q_bipush (v := nI 124) rfl rfl ?_
    refine q_iconst (v := nI 1) rfl rfl ?_
    refine q_iload_n rfl rfl ?_
    refine q_iaddN rfl ?_
    refine q_imulN rfl ?_
    refine q_iconst (v := nI 0) rfl rfl ?_
    refine q_iaddN rfl ?_
    refine q_iald rfl (by decide) hx_52 (by omega) (by decide) (ek) ?_
    refine q_if_geN rfl (by omega) (fun hc27 => ?_) (fun hc27 => ?_)
    · refine q_aload_n rfl rfl ?_
      refine q_bipush (v := nI 124) rfl rfl ?_
      refine q_iconst (v := nI 1) rfl rfl ?_
      refine q_iload_n rfl rfl ?_
      refine q_iaddN rfl ?_
      refine q_imulN rfl ?_
      refine q_iconst (v := nI 0) rfl rfl ?_
      refine q_callV2 rfl hx_51 (Nat.le_of_ble_eq_true rfl) (Nat.le_of_ble_eq_true rfl) (sX9_copyDome (124 * (1 + k)) 0 (by omega) (by omega) (by omega)) ?_
      refine q_aload_n rfl rfl ?_
      refine q_getfield rfl hx_51 rfl ?_
      refine q_iconst (v := nI 0) rfl rfl ?_
      refine q_iald rfl (by decide) hx_52 (by decide) (by decide) ((show va_cpy (A 52) (A 52) (124 * (1 + k)) 0 124 0 = nI d from (pk_cpy_in (by omega) (by omega)).trans ek)) ?_
      refine q_iret rfl rfl ?_
      exact ⟨rfl, rfl⟩
    · omega
  · exact absurd hc9 (by decide)
theorem m_place_bad {X : XX} {I A : Nat → Nat → Int32} {J B : Nat → Nat → Int64} {F : Nat → Nat} (ln : Nat) (hln : ln ≤ 5) (eln : I 51 3 = nI ln) (x : Int32) (hx : x < 0 ∨ nI ln ≤ x) (n : Int32) : x_ev X xT 3 205 [.ref 51, .int x, .int n] (HX I A J B F) (some (.int (-1))) (HX I A J B F) := by
  refine q_ev (L := [some (.ref 51), some (.int x), some (.int n)]) tX9_place (Nat.le_of_ble_eq_true rfl) rfl ?_
  refine q_aload_n rfl rfl ?_
  refine q_iload_n rfl rfl ?_
  refine q_callV1 rfl hx_51 (Nat.le_of_ble_eq_true rfl) (Nat.le_of_ble_eq_true rfl) (sX9_isLight_0 x ln hln eln hx) ?_
  refine q_if_eqN rfl (by omega) (fun hc5 => ?_) (fun hc5 => ?_)
  · refine q_iconst (v := (-1)) rfl rfl ?_
    refine q_iret rfl rfl ?_
    exact ⟨rfl, rfl⟩
  · exact absurd hc5 (by decide)
theorem m_place_n {X : XX} {I A : Nat → Nat → Int32} {J B : Nat → Nat → Int64} {F : Nat → Nat} (ln : Nat) (hln : ln ≤ 5) (eln : I 51 3 = nI ln) (k : Nat) (hk : k < ln) (n : Int32) (hn : n < 0 ∨ 100 ≤ n)  : x_ev X xT 3 205 [.ref 51, .int (nI k), .int n] (HX I A J B F) (some (.int (-1))) (HX I A J B F) := by
  refine q_ev (L := [some (.ref 51), some (.int (nI k)), some (.int n)]) tX9_place (Nat.le_of_ble_eq_true rfl) rfl ?_
  refine q_aload_n rfl rfl ?_
  refine q_iload_n rfl rfl ?_
  refine q_callV1 rfl hx_51 (Nat.le_of_ble_eq_true rfl) (Nat.le_of_ble_eq_true rfl) (sX9_isLight_1 k ln hk hln eln) ?_
  refine q_if_eqN rfl (by omega) (fun hc5 => ?_) (fun hc5 => ?_)
  · exact absurd hc5 (by decide)
  · refine q_iload_n rfl rfl ?_
    refine q_callS1 rfl rfl (Nat.le_of_ble_eq_true rfl) (Nat.le_of_ble_eq_true rfl) (sX9_isAhead_0 n hn) ?_
    refine q_if_neN rfl (by omega) (fun hc12 => ?_) (fun hc12 => ?_)
    · exact absurd hc12 (by decide)
    · refine q_iconst (v := (-1)) rfl rfl ?_
      refine q_iret rfl rfl ?_
      exact ⟨rfl, rfl⟩
theorem m_place_0 {X : XX} {I A : Nat → Nat → Int32} {J B : Nat → Nat → Int64} {F : Nat → Nat} (m : Nat) (em : A 52 1 = nI m) (hm : m ≤ 40) (ln : Nat) (hln : ln ≤ 5) (eln : I 51 3 = nI ln) (hl : mLk A) (k : Nat) (hk : k < ln) (n : Nat) (hn : n < 100)  : x_ev X xT 3 205 [.ref 51, .int (nI k), .int (nI n)] (HX I A J B F) (some (.int (nI (plN (mL A k) (m + n))))) (HX (u2 I 51 12 (nI (brN (mL A k) (m + n)))) A J B F) := by
  refine q_ev (L := [some (.ref 51), some (.int (nI k)), some (.int (nI n))]) tX9_place (Nat.le_of_ble_eq_true rfl) rfl ?_
  refine q_aload_n rfl rfl ?_
  refine q_iload_n rfl rfl ?_
  refine q_callV1 rfl hx_51 (Nat.le_of_ble_eq_true rfl) (Nat.le_of_ble_eq_true rfl) (sX9_isLight_1 k ln hk hln eln) ?_
  refine q_if_eqN rfl (by omega) (fun hc5 => ?_) (fun hc5 => ?_)
  · exact absurd hc5 (by decide)
  · refine q_iload_n rfl rfl ?_
    refine q_callS1 rfl rfl (Nat.le_of_ble_eq_true rfl) (Nat.le_of_ble_eq_true rfl) (sX9_isAhead_1 n hn) ?_
    refine q_if_neN rfl (by omega) (fun hc12 => ?_) (fun hc12 => ?_)
    · refine q_aload_n rfl rfl ?_
      refine q_aload_n rfl rfl ?_
      refine q_iload_n rfl rfl ?_
      refine q_aload_n rfl rfl ?_
      refine q_getfield rfl hx_51 rfl ?_
      refine q_iconst (v := nI 1) rfl rfl ?_
      refine q_iald rfl (by decide) hx_52 (by decide) (by decide) (em) ?_
      refine q_iload_n rfl rfl ?_
      refine q_iaddN rfl ?_
      refine q_callV2 rfl hx_51 (Nat.le_of_ble_eq_true rfl) (Nat.le_of_ble_eq_true rfl) (sX9_brightAt k (by omega) hl _ (by omega)) ?_
      refine q_putfield rfl hx_51 rfl (Nat.le_of_ble_eq_true rfl) (rfl) (by decide +kernel) ?_
      refine q_heap (hs_51_12 _) ?_
      refine q_aload_n rfl rfl ?_
      refine q_iload_n rfl rfl ?_
      refine q_aload_n rfl rfl ?_
      refine q_getfield rfl hx_51 rfl ?_
      refine q_iconst (v := nI 1) rfl rfl ?_
      refine q_iald rfl (by decide) hx_52 (by decide) (by decide) (em) ?_
      refine q_iload_n rfl rfl ?_
      refine q_iaddN rfl ?_
      refine q_callV2 rfl hx_51 (Nat.le_of_ble_eq_true rfl) (Nat.le_of_ble_eq_true rfl) (sX9_placeAt k (by omega) hl _) ?_
      refine q_iret rfl rfl ?_
      exact ⟨rfl, rfl⟩
    · exact absurd hc12 (by decide)
theorem m_gets_bad {X : XX} {I A : Nat → Nat → Int32} {J B : Nat → Nat → Int64} {F : Nat → Nat} (ln : Nat) (hln : ln ≤ 5) (eln : I 51 3 = nI ln) (x : Int32) (hx : x < 0 ∨ nI ln ≤ x) (n : Int32) : x_ev X xT 4 206 [.ref 51, .int x, .int n] (HX I A J B F) (some (.int (-1))) (HX I A J B F) := by
  refine q_ev (L := [some (.ref 51), some (.int x), some (.int n)]) tX9_gets (Nat.le_of_ble_eq_true rfl) rfl ?_
  refine q_aload_n rfl rfl ?_
  refine q_iload_n rfl rfl ?_
  refine q_callV1 rfl hx_51 (Nat.le_of_ble_eq_true rfl) (Nat.le_of_ble_eq_true rfl) (sX9_isLight_0 x ln hln eln hx) ?_
  refine q_if_eqN rfl (by omega) (fun hc5 => ?_) (fun hc5 => ?_)
  · refine q_iconst (v := (-1)) rfl rfl ?_
    refine q_iret rfl rfl ?_
    exact ⟨rfl, rfl⟩
  · exact absurd hc5 (by decide)
theorem m_gets_n {X : XX} {I A : Nat → Nat → Int32} {J B : Nat → Nat → Int64} {F : Nat → Nat} (ln : Nat) (hln : ln ≤ 5) (eln : I 51 3 = nI ln) (k : Nat) (hk : k < ln) (n : Int32) (hn : n < 0 ∨ 100 ≤ n)  : x_ev X xT 4 206 [.ref 51, .int (nI k), .int n] (HX I A J B F) (some (.int (-1))) (HX I A J B F) := by
  refine q_ev (L := [some (.ref 51), some (.int (nI k)), some (.int n)]) tX9_gets (Nat.le_of_ble_eq_true rfl) rfl ?_
  refine q_aload_n rfl rfl ?_
  refine q_iload_n rfl rfl ?_
  refine q_callV1 rfl hx_51 (Nat.le_of_ble_eq_true rfl) (Nat.le_of_ble_eq_true rfl) (sX9_isLight_1 k ln hk hln eln) ?_
  refine q_if_eqN rfl (by omega) (fun hc5 => ?_) (fun hc5 => ?_)
  · exact absurd hc5 (by decide)
  · refine q_iload_n rfl rfl ?_
    refine q_callS1 rfl rfl (Nat.le_of_ble_eq_true rfl) (Nat.le_of_ble_eq_true rfl) (sX9_isAhead_0 n hn) ?_
    refine q_if_eqN rfl (by omega) (fun hc12 => ?_) (fun hc12 => ?_)
    · refine q_iconst (v := (-1)) rfl rfl ?_
      refine q_iret rfl rfl ?_
      exact ⟨rfl, rfl⟩
    · exact absurd hc12 (by decide)
theorem m_gets_0 {X : XX} {I A : Nat → Nat → Int32} {J B : Nat → Nat → Int64} {F : Nat → Nat} (b : Nat) (hb : b ≤ 5) (eb : I 51 1 = nI b) (m : Nat) (em : A 52 1 = nI m) (hm : m ≤ 40) (s : Nat) (es : A 52 2 = nI s) (hs : s < 24) (ln : Nat) (hln : ln ≤ 5) (eln : I 51 3 = nI ln) (hl : mLk A) (k : Nat) (hk : k < ln) (n : Nat) (hn : n < 100)  : x_ev X xT 4 206 [.ref 51, .int (nI k), .int (nI n)] (HX I A J B F) (some (.int (nI (gnN b (mL A k) (nI s) (m + n))))) (HX I A J B F) := by
  refine q_ev (L := [some (.ref 51), some (.int (nI k)), some (.int (nI n))]) tX9_gets (Nat.le_of_ble_eq_true rfl) rfl ?_
  refine q_aload_n rfl rfl ?_
  refine q_iload_n rfl rfl ?_
  refine q_callV1 rfl hx_51 (Nat.le_of_ble_eq_true rfl) (Nat.le_of_ble_eq_true rfl) (sX9_isLight_1 k ln hk hln eln) ?_
  refine q_if_eqN rfl (by omega) (fun hc5 => ?_) (fun hc5 => ?_)
  · exact absurd hc5 (by decide)
  · refine q_iload_n rfl rfl ?_
    refine q_callS1 rfl rfl (Nat.le_of_ble_eq_true rfl) (Nat.le_of_ble_eq_true rfl) (sX9_isAhead_1 n hn) ?_
    refine q_if_eqN rfl (by omega) (fun hc12 => ?_) (fun hc12 => ?_)
    · exact absurd hc12 (by decide)
    · refine q_aload_n rfl rfl ?_
      refine q_iload_n rfl rfl ?_
      refine q_aload_n rfl rfl ?_
      refine q_getfield rfl hx_51 rfl ?_
      refine q_iconst (v := nI 2) rfl rfl ?_
      refine q_iald rfl (by decide) hx_52 (by decide) (by decide) (es) ?_
      refine q_aload_n rfl rfl ?_
      refine q_getfield rfl hx_51 rfl ?_
      refine q_iconst (v := nI 1) rfl rfl ?_
      refine q_iald rfl (by decide) hx_52 (by decide) (by decide) (em) ?_
      refine q_iload_n rfl rfl ?_
      refine q_iaddN rfl ?_
      refine q_callV3 rfl hx_51 (Nat.le_of_ble_eq_true rfl) (Nat.le_of_ble_eq_true rfl) (sX9_got k (by omega) hl b hb eb _ _ (by omega)) ?_
      refine q_goto rfl ?_
      refine q_iret rfl rfl ?_
      exact ⟨rfl, rfl⟩
theorem m_seen_n {X : XX} {I A : Nat → Nat → Int32} {J B : Nat → Nat → Int64} {F : Nat → Nat} (n : Int32) (hn : n < 0 ∨ 100 ≤ n)  : x_ev X xT 4 207 [.ref 51, .int n] (HX I A J B F) (some (.int (-1))) (HX I A J B F) := by
  refine q_ev (L := [some (.ref 51), some (.int n), none, none]) tX9_seen (Nat.le_of_ble_eq_true rfl) rfl ?_
  refine q_iload_n rfl rfl ?_
  refine q_callS1 rfl rfl (Nat.le_of_ble_eq_true rfl) (Nat.le_of_ble_eq_true rfl) (sX9_isAhead_0 n hn) ?_
  refine q_if_neN rfl (by omega) (fun hc4 => ?_) (fun hc4 => ?_)
  · exact absurd hc4 (by decide)
  · refine q_iconst (v := (-1)) rfl rfl ?_
    refine q_iret rfl rfl ?_
    exact ⟨rfl, rfl⟩
theorem m_seen_0 {X : XX} {I A : Nat → Nat → Int32} {J B : Nat → Nat → Int64} {F : Nat → Nat} (b : Nat) (hb : b ≤ 5) (eb : I 51 1 = nI b) (m : Nat) (em : A 52 1 = nI m) (hm : m ≤ 40) (s : Nat) (es : A 52 2 = nI s) (hs : s < 24) (ln : Nat) (hln : ln ≤ 5) (eln : I 51 3 = nI ln) (hl : mLk A) (n : Nat) (hn : n < 100)  : x_ev X xT 4 207 [.ref 51, .int (nI n)] (HX I A J B F) (some (.int (orf (fun i => decide (0 < gnN b (mL A i) (nI s) (m + n))) ln))) (HX I A J B F) := by
  refine q_ev (L := [some (.ref 51), some (.int (nI n)), none, none]) tX9_seen (Nat.le_of_ble_eq_true rfl) rfl ?_
  refine q_iload_n rfl rfl ?_
  refine q_callS1 rfl rfl (Nat.le_of_ble_eq_true rfl) (Nat.le_of_ble_eq_true rfl) (sX9_isAhead_1 n hn) ?_
  refine q_if_neN rfl (by omega) (fun hc4 => ?_) (fun hc4 => ?_)
  · refine q_iconst (v := 0) rfl rfl ?_
    refine q_istore_n (L' := [_, _, _, _]) rfl rfl ?_
    refine q_iconst (v := nI 0) rfl rfl ?_
    refine q_istore_n (L' := [_, _, _, _]) rfl rfl ?_
    refine q_up (Inv := fun k L h => L = [some (.ref 51), some (.int (nI n)), some (.int (orf (fun i => decide (0 < gnN b (mL A i) (nI s) (m + n))) k)), some (.int (nI k))] ∧ h = HX I A J B F) (ln) (fun k L h hk_k hi_k ih_k => ?_) (fun L h hi_k => ?_) (0) _ _ (by omega) (⟨rfl, rfl⟩)
    · obtain ⟨rfl, rfl⟩ := hi_k
      refine q_iload_n rfl rfl ?_
      refine q_aload_n rfl rfl ?_
      refine q_getI rfl hx_51 rfl (eln) ?_
      refine q_icmp_geN rfl (by omega) (by omega) (fun hcks18 => ?_) (fun hcks18 => ?_)
      · omega
      · refine q_iload_n rfl rfl ?_
        refine q_aload_n rfl rfl ?_
        refine q_iload_n rfl rfl ?_
        refine q_aload_n rfl rfl ?_
        refine q_getfield rfl hx_51 rfl ?_
        refine q_iconst (v := nI 2) rfl rfl ?_
        refine q_iald rfl (by decide) hx_52 (by decide) (by decide) (es) ?_
        refine q_aload_n rfl rfl ?_
        refine q_getfield rfl hx_51 rfl ?_
        refine q_iconst (v := nI 1) rfl rfl ?_
        refine q_iald rfl (by decide) hx_52 (by decide) (by decide) (em) ?_
        refine q_iload_n rfl rfl ?_
        refine q_iaddN rfl ?_
        refine q_callV3 rfl hx_51 (Nat.le_of_ble_eq_true rfl) (Nat.le_of_ble_eq_true rfl) (sX9_got k (by omega) hl b hb eb _ _ (by omega)) ?_
        refine q_if_leN rfl (by have := gnN_le (b := b) (fi := nI s) (m := m + n) (hl k (by omega)).1.2; omega) (fun hcks41 => ?_) (fun hcks41 => ?_)
        · refine q_iconst (v := nI 0) rfl rfl ?_
          refine q_ior rfl ?_
          refine q_istore_n (L' := [_, _, _, _]) rfl rfl ?_
          refine q_iincN (c := 1) (L' := [_, _, _, _]) rfl rfl rfl rfl ?_
          refine q_goto rfl ?_
          exact ih_k _ _ (⟨by rw [show ∀ p j, orf p (j + 1) = if p j = true then orf p j ||| (nI 1 <<< (nI j &&& 31)) else orf p j from fun _ _ => rfl]; first | rw [if_pos (decide_eq_true (by omega))] | rw [if_neg (by rw [decide_eq_false (by omega)]; decide), or_0], rfl⟩)
        · refine q_iconst (v := nI 1) rfl rfl ?_
          refine q_iload_n rfl rfl ?_
          refine q_ishl rfl ?_
          refine q_goto rfl ?_
          refine q_ior rfl ?_
          refine q_istore_n (L' := [_, _, _, _]) rfl rfl ?_
          refine q_iincN (c := 1) (L' := [_, _, _, _]) rfl rfl rfl rfl ?_
          refine q_goto rfl ?_
          exact ih_k _ _ (⟨by rw [show ∀ p j, orf p (j + 1) = if p j = true then orf p j ||| (nI 1 <<< (nI j &&& 31)) else orf p j from fun _ _ => rfl]; first | rw [if_pos (decide_eq_true (by omega))] | rw [if_neg (by rw [decide_eq_false (by omega)]; decide), or_0], rfl⟩)
    · obtain ⟨rfl, rfl⟩ := hi_k
      refine q_iload_n rfl rfl ?_
      refine q_aload_n rfl rfl ?_
      refine q_getI rfl hx_51 rfl (eln) ?_
      refine q_icmp_geN rfl (by omega) (by omega) (fun hckf18 => ?_) (fun hckf18 => ?_)
      · refine q_iload_n rfl rfl ?_
        refine q_iret rfl rfl ?_
        exact ⟨rfl, rfl⟩
      · omega
  · exact absurd hc4 (by decide)
theorem m_stays_bad {X : XX} {I A : Nat → Nat → Int32} {J B : Nat → Nat → Int64} {F : Nat → Nat} (ln : Nat) (hln : ln ≤ 5) (eln : I 51 3 = nI ln) (x : Int32) (hx : x < 0 ∨ nI ln ≤ x)  : x_ev X xT 4 208 [.ref 51, .int x] (HX I A J B F) (some (.int (-1))) (HX I A J B F) := by
  refine q_ev (L := [some (.ref 51), some (.int x), none]) tX9_stays (Nat.le_of_ble_eq_true rfl) rfl ?_
  refine q_aload_n rfl rfl ?_
  refine q_iload_n rfl rfl ?_
  refine q_callV1 rfl hx_51 (Nat.le_of_ble_eq_true rfl) (Nat.le_of_ble_eq_true rfl) (sX9_isLight_0 x ln hln eln hx) ?_
  refine q_if_neN rfl (by omega) (fun hc5 => ?_) (fun hc5 => ?_)
  · exact absurd hc5 (by decide)
  · refine q_iconst (v := (-1)) rfl rfl ?_
    refine q_iret rfl rfl ?_
    exact ⟨rfl, rfl⟩
theorem m_stays_0 {X : XX} {I A : Nat → Nat → Int32} {J B : Nat → Nat → Int64} {F : Nat → Nat} (b : Nat) (hb : b ≤ 5) (eb : I 51 1 = nI b) (m : Nat) (em : A 52 1 = nI m) (hm : m ≤ 40) (s : Nat) (es : A 52 2 = nI s) (hs : s < 24) (ln : Nat) (hln : ln ≤ 5) (eln : I 51 3 = nI ln) (hl : mLk A) (k : Nat) (hk : k < ln)  : x_ev X xT 4 208 [.ref 51, .int (nI k)] (HX I A J B F) (some (.int (nI (lrun (syP b (mL A k) m s) 100 0)))) (HX I A J B F) := by
  refine q_ev (L := [some (.ref 51), some (.int (nI k)), none]) tX9_stays (Nat.le_of_ble_eq_true rfl) rfl ?_
  refine q_aload_n rfl rfl ?_
  refine q_iload_n rfl rfl ?_
  refine q_callV1 rfl hx_51 (Nat.le_of_ble_eq_true rfl) (Nat.le_of_ble_eq_true rfl) (sX9_isLight_1 k ln hk hln eln) ?_
  refine q_if_neN rfl (by omega) (fun hc5 => ?_) (fun hc5 => ?_)
  · refine q_iconst (v := nI 0) rfl rfl ?_
    refine q_istore_n (L' := [_, _, _]) rfl rfl ?_
    refine q_up (Inv := fun n L h => L = [some (.ref 51), some (.int (nI k)), some (.int (nI n))] ∧ h = HX I A J B F ∧ lrun (syP b (mL A k) m s) (100 - n) n = lrun (syP b (mL A k) m s) 100 0) (100) (fun n L h hk_n hi_n ih_n => ?_) (fun L h hi_n => ?_) (0) _ _ (by omega) (⟨rfl, rfl, rfl⟩)
    · obtain ⟨rfl, rfl, hr⟩ := hi_n
      refine q_iload_n rfl rfl ?_
      refine q_bipush (v := nI 100) rfl rfl ?_
      refine q_icmp_geN rfl (by omega) (by omega) (fun hcns15 => ?_) (fun hcns15 => ?_)
      · omega
      · refine q_aload_n rfl rfl ?_
        refine q_iload_n rfl rfl ?_
        refine q_aload_n rfl rfl ?_
        refine q_getfield rfl hx_51 rfl ?_
        refine q_iconst (v := nI 2) rfl rfl ?_
        refine q_iald rfl (by decide) hx_52 (by decide) (by decide) (es) ?_
        refine q_aload_n rfl rfl ?_
        refine q_getfield rfl hx_51 rfl ?_
        refine q_iconst (v := nI 1) rfl rfl ?_
        refine q_iald rfl (by decide) hx_52 (by decide) (by decide) (em) ?_
        refine q_iload_n rfl rfl ?_
        refine q_iaddN rfl ?_
        refine q_callV3 rfl hx_51 (Nat.le_of_ble_eq_true rfl) (Nat.le_of_ble_eq_true rfl) (sX9_got k (by omega) hl b hb eb _ _ (by omega)) ?_
        refine q_if_leN rfl (by have := gnN_le (b := b) (fi := nI s) (m := m + n) (hl k (by omega)).1.2; omega) (fun hcns37 => ?_) (fun hcns37 => ?_)
        · refine q_iload_n rfl rfl ?_
          refine q_iret rfl rfl ?_
          exact ⟨vI (by rw [← hr, lrun_f (decide_eq_false (by omega))]), rfl⟩
        · refine q_iincN (c := 1) (L' := [_, _, _]) rfl rfl rfl rfl ?_
          refine q_goto rfl ?_
          exact ih_n _ _ (⟨rfl, rfl, by rw [← hr, ← lrun_t hk_n (decide_eq_true (by omega))]⟩)
    · obtain ⟨rfl, rfl, hr⟩ := hi_n
      refine q_iload_n rfl rfl ?_
      refine q_bipush (v := nI 100) rfl rfl ?_
      refine q_icmp_geN rfl (by omega) (by omega) (fun hcnf15 => ?_) (fun hcnf15 => ?_)
      · refine q_iload_n rfl rfl ?_
        refine q_iret rfl rfl ?_
        exact ⟨vI (by rw [← hr]; rfl), rfl⟩
      · omega
  · exact absurd hc5 (by decide)
theorem m_ahead_bad {X : XX} {I A : Nat → Nat → Int32} {J B : Nat → Nat → Int64} {F : Nat → Nat} (ln : Nat) (hln : ln ≤ 5) (eln : I 51 3 = nI ln) (x : Int32) (hx : x < 0 ∨ nI ln ≤ x)  : x_ev X xT 4 210 [.ref 51, .int x] (HX I A J B F) (some (.int (-1))) (HX I A J B F) := by
  refine q_ev (L := [some (.ref 51), some (.int x), none, none, none]) tX9_ahead (Nat.le_of_ble_eq_true rfl) rfl ?_
  refine q_aload_n rfl rfl ?_
  refine q_iload_n rfl rfl ?_
  refine q_callV1 rfl hx_51 (Nat.le_of_ble_eq_true rfl) (Nat.le_of_ble_eq_true rfl) (sX9_isLight_0 x ln hln eln hx) ?_
  refine q_if_neN rfl (by omega) (fun hc5 => ?_) (fun hc5 => ?_)
  · exact absurd hc5 (by decide)
  · refine q_iconst (v := (-1)) rfl rfl ?_
    refine q_iret rfl rfl ?_
    exact ⟨rfl, rfl⟩
theorem m_ahead_0 {X : XX} {I A : Nat → Nat → Int32} {J B : Nat → Nat → Int64} {F : Nat → Nat} (b : Nat) (hb : b ≤ 5) (eb : I 51 1 = nI b) (m : Nat) (em : A 52 1 = nI m) (hm : m ≤ 40) (ln : Nat) (hln : ln ≤ 5) (eln : I 51 3 = nI ln) (hl : mLk A) (k : Nat) (hk : k < ln)  : x_ev X xT 4 210 [.ref 51, .int (nI k)] (HX I A J B F) (some (.int (nI (abf (fun f => lrun (ovP b (mL A k) m f) 100 0) 24).1))) (HX (u2 I 51 12 (sI 1 (abf (fun f => lrun (ovP b (mL A k) m f) 100 0) 24).2)) A J B F) := by
  have hG : ∀ f, (fun f => lrun (ovP b (mL A k) m f) 100 0) f ≤ 100 := fun f => by have := lrun_le (p := ovP b (mL A k) m f) 100 0; omega
  refine q_ev (L := [some (.ref 51), some (.int (nI k)), none, none, none]) tX9_ahead (Nat.le_of_ble_eq_true rfl) rfl ?_
  refine q_aload_n rfl rfl ?_
  refine q_iload_n rfl rfl ?_
  refine q_callV1 rfl hx_51 (Nat.le_of_ble_eq_true rfl) (Nat.le_of_ble_eq_true rfl) (sX9_isLight_1 k ln hk hln eln) ?_
  refine q_if_neN rfl (by omega) (fun hc5 => ?_) (fun hc5 => ?_)
  · refine q_iconst (v := nI 0) rfl rfl ?_
    refine q_istore_n (L' := [_, _, _, _, _]) rfl rfl ?_
    refine q_aload_n rfl rfl ?_
    refine q_aload_n rfl rfl ?_
    refine q_iload_n rfl rfl ?_
    refine q_iconst (v := nI 0) rfl rfl ?_
    refine q_callV2 rfl hx_51 (Nat.le_of_ble_eq_true rfl) (Nat.le_of_ble_eq_true rfl) (sX9_over b hb eb m em (by omega) k (by omega) hl 0) ?_
    refine q_putfield rfl hx_51 rfl (Nat.le_of_ble_eq_true rfl) (rfl) (by decide +kernel) ?_
    refine q_heap (hs_51_12 _) ?_
    refine q_iconst (v := nI 1) rfl rfl ?_
    refine q_istore_n (L' := [_, _, _, _, _]) rfl rfl ?_
    refine q_up (Inv := fun f L h => ∃ z, L = [some (.ref 51), some (.int (nI k)), some (.int (nI (abf (fun f => lrun (ovP b (mL A k) m f) 100 0) (f + 1)).1)), some (.int (nI (f + 1))), z] ∧ h = HX (u2 I 51 12 (sI 1 (abf (fun f => lrun (ovP b (mL A k) m f) 100 0) (f + 1)).2)) A J B F) (23) (fun f L h hk_f hi_f ih_f => ?_) (fun L h hi_f => ?_) (0) _ _ (by omega) (⟨_, by rw [abf_1], by rw [abf_1, ← sI1_s]⟩)
    · obtain ⟨z, rfl, rfl⟩ := hi_f
      refine q_iload_n rfl rfl ?_
      refine q_bipush (v := nI 24) rfl rfl ?_
      refine q_icmp_geN rfl (by omega) (by omega) (fun hcfs27 => ?_) (fun hcfs27 => ?_)
      · omega
      · refine q_aload_n rfl rfl ?_
        refine q_iload_n rfl rfl ?_
        refine q_iload_n rfl rfl ?_
        refine q_callV2 rfl hx_51 (Nat.le_of_ble_eq_true rfl) (Nat.le_of_ble_eq_true rfl) (sX9_over b hb (by exact eb) m em (by omega) k (by omega) hl (f + 1)) ?_
        refine q_istore (L' := [_, _, _, _, _]) rfl rfl ?_
        refine q_iload rfl rfl ?_
        refine q_aload_n rfl rfl ?_
        refine q_getfield rfl hx_51 rfl ?_
        refine q_icmp_le rfl (fun hcfs44 => ?_) (fun hcfs44 => ?_)
        · refine q_iload_n rfl rfl ?_
          refine q_istore_n (L' := [_, _, _, _, _]) rfl rfl ?_
          refine q_aload_n rfl rfl ?_
          refine q_iload rfl rfl ?_
          refine q_aload_n rfl rfl ?_
          refine q_getfield rfl hx_51 rfl ?_
          refine q_icmp_le rfl (fun hcfs60 => ?_) (fun hcfs60 => ?_)
          · refine q_aload_n rfl rfl ?_
            refine q_getfield rfl hx_51 rfl ?_
            refine q_putfield rfl hx_51 rfl (Nat.le_of_ble_eq_true rfl) (rfl) (by decide +kernel) ?_
            refine q_heap (hs_51_12 _) ?_
            refine q_iincN (c := 1) (L' := [_, _, _, _, _]) rfl rfl rfl rfl ?_
            refine q_goto rfl ?_
            exact ih_f _ _ ⟨_, (by
              rw [show ∀ g, abf g (f + 1 + 1) = if g (f + 1) + 1 ≤ (abf g (f + 1)).2 then abf g (f + 1) else (f + 1, g (f + 1) + 1) from fun _ => rfl]
              have hle := sI1_le (n := lrun (ovP b (mL A k) m (f + 1)) 100 0) (L := (abf (fun f => lrun (ovP b (mL A k) m f) 100 0) (f + 1)).2) (Nat.lt_of_le_of_lt (hG (f + 1)) (by decide)) (Nat.lt_of_le_of_lt (abf_2 hG (f + 1)) (by decide))
              first | rw [if_pos (hle.mp hcfs44)] | rw [if_neg (fun z => hcfs44 (hle.mpr z))]), (by
              rw [u2_u2, show ∀ g, abf g (f + 1 + 1) = if g (f + 1) + 1 ≤ (abf g (f + 1)).2 then abf g (f + 1) else (f + 1, g (f + 1) + 1) from fun _ => rfl]
              have hle := sI1_le (n := lrun (ovP b (mL A k) m (f + 1)) 100 0) (L := (abf (fun f => lrun (ovP b (mL A k) m f) 100 0) (f + 1)).2) (Nat.lt_of_le_of_lt (hG (f + 1)) (by decide)) (Nat.lt_of_le_of_lt (abf_2 hG (f + 1)) (by decide))
              first | (rw [if_pos (hle.mp hcfs60)]; rfl) | (rw [if_neg (fun z => hcfs60 (hle.mpr z)), sI1_s (lrun (ovP b (mL A k) m (f + 1)) 100 0)]; try rfl))⟩
          · refine q_iload rfl rfl ?_
            refine q_goto rfl ?_
            refine q_putfield rfl hx_51 rfl (Nat.le_of_ble_eq_true rfl) (rfl) (by decide +kernel) ?_
            refine q_heap (hs_51_12 _) ?_
            refine q_iincN (c := 1) (L' := [_, _, _, _, _]) rfl rfl rfl rfl ?_
            refine q_goto rfl ?_
            exact absurd hcfs44 hcfs60
        · refine q_iload_n rfl rfl ?_
          refine q_goto rfl ?_
          refine q_istore_n (L' := [_, _, _, _, _]) rfl rfl ?_
          refine q_aload_n rfl rfl ?_
          refine q_iload rfl rfl ?_
          refine q_aload_n rfl rfl ?_
          refine q_getfield rfl hx_51 rfl ?_
          refine q_icmp_le rfl (fun hcfs60 => ?_) (fun hcfs60 => ?_)
          · refine q_aload_n rfl rfl ?_
            refine q_getfield rfl hx_51 rfl ?_
            refine q_putfield rfl hx_51 rfl (Nat.le_of_ble_eq_true rfl) (rfl) (by decide +kernel) ?_
            refine q_heap (hs_51_12 _) ?_
            refine q_iincN (c := 1) (L' := [_, _, _, _, _]) rfl rfl rfl rfl ?_
            refine q_goto rfl ?_
            exact absurd hcfs60 hcfs44
          · refine q_iload rfl rfl ?_
            refine q_goto rfl ?_
            refine q_putfield rfl hx_51 rfl (Nat.le_of_ble_eq_true rfl) (rfl) (by decide +kernel) ?_
            refine q_heap (hs_51_12 _) ?_
            refine q_iincN (c := 1) (L' := [_, _, _, _, _]) rfl rfl rfl rfl ?_
            refine q_goto rfl ?_
            exact ih_f _ _ ⟨_, (by
              rw [show ∀ g, abf g (f + 1 + 1) = if g (f + 1) + 1 ≤ (abf g (f + 1)).2 then abf g (f + 1) else (f + 1, g (f + 1) + 1) from fun _ => rfl]
              have hle := sI1_le (n := lrun (ovP b (mL A k) m (f + 1)) 100 0) (L := (abf (fun f => lrun (ovP b (mL A k) m f) 100 0) (f + 1)).2) (Nat.lt_of_le_of_lt (hG (f + 1)) (by decide)) (Nat.lt_of_le_of_lt (abf_2 hG (f + 1)) (by decide))
              first | rw [if_pos (hle.mp hcfs44)] | rw [if_neg (fun z => hcfs44 (hle.mpr z))]), (by
              rw [u2_u2, show ∀ g, abf g (f + 1 + 1) = if g (f + 1) + 1 ≤ (abf g (f + 1)).2 then abf g (f + 1) else (f + 1, g (f + 1) + 1) from fun _ => rfl]
              have hle := sI1_le (n := lrun (ovP b (mL A k) m (f + 1)) 100 0) (L := (abf (fun f => lrun (ovP b (mL A k) m f) 100 0) (f + 1)).2) (Nat.lt_of_le_of_lt (hG (f + 1)) (by decide)) (Nat.lt_of_le_of_lt (abf_2 hG (f + 1)) (by decide))
              first | (rw [if_pos (hle.mp hcfs60)]; rfl) | (rw [if_neg (fun z => hcfs60 (hle.mpr z)), sI1_s (lrun (ovP b (mL A k) m (f + 1)) 100 0)]; try rfl))⟩
    · obtain ⟨z, rfl, rfl⟩ := hi_f
      refine q_iload_n rfl rfl ?_
      refine q_bipush (v := nI 24) rfl rfl ?_
      refine q_icmp_geN rfl (by omega) (by omega) (fun hcff27 => ?_) (fun hcff27 => ?_)
      · refine q_iload_n rfl rfl ?_
        refine q_iret rfl rfl ?_
        exact ⟨rfl, rfl⟩
      · omega
  · exact absurd hc5 (by decide)
theorem m_effort_bad {X : XX} {I A : Nat → Nat → Int32} {J B : Nat → Nat → Int64} {F : Nat → Nat} (x : Int32) (hx : x < -6 ∨ nI 6 < x) : x_ev X xT 3 211 [.ref 51, .int x] (HX I A J B F) (some (.int (-1))) (HX I A J B F) := by
  refine q_ev (L := [some (.ref 51), some (.int x)]) tX9_effort (Nat.le_of_ble_eq_true rfl) rfl ?_
  refine q_iload_n rfl rfl ?_
  refine q_i2l rfl ?_
  refine q_ldc2_w (v := (-6)) rfl rfl ?_
  refine q_ldc2_w (v := 6) rfl rfl ?_
  refine q_callS3 rfl rfl (Nat.le_of_ble_eq_true rfl) (Nat.le_of_ble_eq_true rfl) (sX9_in _ _ _) ?_
  refine q_cn (f_in_0 (lo := -6) (hi := nI 6) rfl rfl hx) ?_
  refine q_if_eqN rfl (by omega) (fun hc11 => ?_) (fun hc11 => ?_)
  · refine q_iconst (v := (-1)) rfl rfl ?_
    refine q_iret rfl rfl ?_
    exact ⟨rfl, rfl⟩
  · exact absurd hc11 (by decide)
theorem m_effort_0 {X : XX} {I A : Nat → Nat → Int32} {J B : Nat → Nat → Int64} {F : Nat → Nat} (x : Int32) (x1 : ¬ x < -6) (x2 : x ≤ nI 6) (st s j : Nat) (hst : st < 24) (hs : s < 24) (hj : j < 13) (est : I 51 2 = nI st) (es : A 52 2 = nI s) (ex : x = sI 6 j) : x_ev X xT 3 211 [.ref 51, .int x] (HX I A J B F) (some (.int (f_ef (nI st) (nI s) x))) (HX I A J B F) := by
  refine q_ev (L := [some (.ref 51), some (.int x)]) tX9_effort (Nat.le_of_ble_eq_true rfl) rfl ?_
  refine q_iload_n rfl rfl ?_
  refine q_i2l rfl ?_
  refine q_ldc2_w (v := (-6)) rfl rfl ?_
  refine q_ldc2_w (v := 6) rfl rfl ?_
  refine q_callS3 rfl rfl (Nat.le_of_ble_eq_true rfl) (Nat.le_of_ble_eq_true rfl) (sX9_in _ _ _) ?_
  refine q_cn (f_in_1 (lo := -6) (hi := nI 6) rfl rfl x1 (Int32.not_lt.mpr x2)) ?_
  refine q_if_eqN rfl (by omega) (fun hc11 => ?_) (fun hc11 => ?_)
  · exact absurd hc11 (by decide)
  · refine q_aload_n rfl rfl ?_
    refine q_aload_n rfl rfl ?_
    refine q_getfield rfl hx_51 rfl ?_
    refine q_iconst (v := nI 2) rfl rfl ?_
    refine q_iald rfl (by decide) hx_52 (by decide) (by decide) (es) ?_
    refine q_iload_n rfl rfl ?_
    refine q_callV2 rfl hx_51 (Nat.le_of_ble_eq_true rfl) (Nat.le_of_ble_eq_true rfl) (by subst ex; exact sX9_effortFrom st s j hst hs hj est) ?_
    refine q_goto rfl ?_
    refine q_iret rfl rfl ?_
    exact ⟨vI (by rw [ex, ef_eq hst hs hj]), rfl⟩
