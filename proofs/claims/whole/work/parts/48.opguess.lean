/-! guesses by notes: the reference, and both -/
theorem sX9_isSo {X : XX} {I A : Nat → Nat → Int32} {J B : Nat → Nat → Int64} {F : Nat → Nat} (b : Nat) (hb : b ≤ 5) (eb : I 51 1 = nI b) (m : Nat) (em : A 52 1 = nI m) (hm : m ≤ 40) (s : Nat) (es : A 52 2 = nI s) (hs : s < 24) (hl : mLk A) (i : Nat) (hi : i < 5) (q : Nat) (hr : q < 6) (n : Nat) (hn : n ≤ 40) (hz : A 57 q = nI n) (n8 : n ≤ 20) (kd sp : Int32) (hkd : f_kd kd) (hsp : spOK sp) (p : Nat) (hp : p < 24) : x_ev X xT 3 226 [.ref 51, .int (nI i), .int (nI q), .int kd, .int (nI p), .int sp] (HX I A J B F) (some (.int (nI (allB (gsP b (glt kd p sp (tn (A 56 i)) m) s m (fun x => A 58 (40 * q + x))) n 0)))) (HX I A J B F) := by
  refine q_ev (L := [some (.ref 51), some (.int (nI i)), some (.int (nI q)), some (.int kd), some (.int (nI p)), some (.int sp), none, none, none, none]) tX9_isSo (Nat.le_of_ble_eq_true rfl) rfl ?_
  refine q_iconst (v := nI 1) rfl rfl ?_
  refine q_istore (L' := [_, _, _, _, _, _, _, _, _, _]) rfl rfl ?_
  refine q_iconst (v := nI 0) rfl rfl ?_
  refine q_istore (L' := [_, _, _, _, _, _, _, _, _, _]) rfl rfl ?_
  refine q_up (Inv := fun k L h => ∃ v z8 z9, L = [some (.ref 51), some (.int (nI i)), some (.int (nI q)), some (.int kd), some (.int (nI p)), some (.int sp), some (.int (nI v)), some (.int (nI k)), z8, z9] ∧ h = HX I A J B F ∧ v ≤ 1 ∧ (if v = 1 then allB (gsP b (glt kd p sp (tn (A 56 i)) m) s m (fun x => A 58 (40 * q + x))) (n - k) k else 0) = allB (gsP b (glt kd p sp (tn (A 56 i)) m) s m (fun x => A 58 (40 * q + x))) n 0) (n) (fun k L h hk_k hi_k ih_k => ?_) (fun L h hi_k => ?_) (0) _ _ (by omega) (⟨1, _, _, rfl, rfl, Nat.le_refl _, if_pos rfl⟩)
  · obtain ⟨v, z8, z9, rfl, rfl, hv, hr8⟩ := hi_k
    refine q_iload rfl rfl ?_
    refine q_aload_n rfl rfl ?_
    refine q_getfield rfl hx_51 rfl ?_
    refine q_iload_n rfl rfl ?_
    refine q_iald rfl (by decide) hx_57 (by omega) (by decide) (hz) ?_
    refine q_icmp_geN rfl (by omega) (by omega) (fun hcks14 => ?_) (fun hcks14 => ?_)
    · omega
    · refine q_iload rfl rfl ?_
      refine q_if_eqN rfl (by omega) (fun hcks19 => ?_) (fun hcks19 => ?_)
      · refine q_iload rfl rfl ?_
        refine q_zret rfl rfl (by rcases (show v = 0 ∨ v = 1 by omega) with h8 | h8 <;> rw [h8]; exact Or.inl rfl; exact Or.inr rfl) ?_
        exact ⟨vI (by rw [← hr8, hcks19, if_neg (by decide)]), rfl⟩
      · refine q_aload_n rfl rfl ?_
        refine q_getfield rfl hx_51 rfl ?_
        refine q_iconst (v := nI 1) rfl rfl ?_
        refine q_iald rfl (by decide) hx_52 (by decide) (by decide) (em) ?_
        refine q_iload rfl rfl ?_
        refine q_iaddN rfl ?_
        refine q_istore (L' := [_, _, _, _, _, _, _, _, _, _]) rfl rfl ?_
        refine q_iload rfl rfl ?_
        refine q_iload_n rfl rfl ?_
        refine q_iload rfl rfl ?_
        refine q_iload rfl rfl ?_
        refine q_callS3 rfl rfl (Nat.le_of_ble_eq_true rfl) (Nat.le_of_ble_eq_true rfl) (sX9_moved _ _ _ hkd) ?_
        refine q_iadd rfl ?_
        refine q_iload_n rfl rfl ?_
        refine q_iload rfl rfl ?_
        refine q_aload_n rfl rfl ?_
        refine q_getfield rfl hx_51 rfl ?_
        refine q_iconst (v := nI 1) rfl rfl ?_
        refine q_iald rfl (by decide) hx_52 (by decide) (by decide) (em) ?_
        refine q_callS3 rfl rfl (Nat.le_of_ble_eq_true rfl) (Nat.le_of_ble_eq_true rfl) (sX9_moved _ _ _ hkd) ?_
        refine q_isub rfl ?_
        refine q_callS1 rfl rfl (Nat.le_of_ble_eq_true rfl) (Nat.le_of_ble_eq_true rfl) (sX9_ring _) ?_
        refine q_istore (L' := [_, _, _, _, _, _, _, _, _, _]) rfl rfl ?_
        refine q_iload_n rfl rfl ?_
        refine q_aload_n rfl rfl ?_
        refine q_getfield rfl hx_51 rfl ?_
        refine q_iload_n rfl rfl ?_
        refine q_iald rfl (by decide) hx_56 (by omega) (by decide) ((hl i hi).2) ?_
        refine q_iload rfl rfl ?_
        refine q_callS3 rfl rfl (Nat.le_of_ble_eq_true rfl) (Nat.le_of_ble_eq_true rfl) (sX9_brightOf kd (nI (rdN (nI p - f_mv kd sp (nI m)))) sp _ (hl i hi).1.2 _ (by omega)) ?_
        refine q_aload_n rfl rfl ?_
        refine q_iload rfl rfl ?_
        refine q_aload_n rfl rfl ?_
        refine q_getfield rfl hx_51 rfl ?_
        refine q_iconst (v := nI 2) rfl rfl ?_
        refine q_iald rfl (by decide) hx_52 (by decide) (by decide) (es) ?_
        refine q_callV2 rfl hx_51 (Nat.le_of_ble_eq_true rfl) (Nat.le_of_ble_eq_true rfl) (sX9_times b hb eb _ _) ?_
        refine q_imulN rfl ?_
        refine q_cn (show _ = nI (gnN b (glt kd p sp (tn (A 56 i)) m) (nI s) (m + k)) from by unfold gnN; rw [gs_pl hsp hp (by omega) (by omega), Nat.mul_comm]; rfl) ?_
        refine q_aload_n rfl rfl ?_
        refine q_getfield rfl hx_51 rfl ?_
        refine q_bipush (v := nI 40) rfl rfl ?_
        refine q_iload_n rfl rfl ?_
        refine q_imulN rfl ?_
        refine q_iload rfl rfl ?_
        refine q_iaddN rfl ?_
        refine q_iald rfl (by decide) hx_58 (by omega) (by decide) (rfl) ?_
        refine q_icmp_ne rfl (fun hcks99 => ?_) (fun hcks99 => ?_)
        · refine q_iconst (v := nI 0) rfl rfl ?_
          refine q_istore (L' := [_, _, _, _, _, _, _, _, _, _]) rfl rfl ?_
          refine q_iincN (c := 1) (L' := [_, _, _, _, _, _, _, _, _, _]) rfl rfl rfl rfl ?_
          refine q_goto rfl ?_
          exact ih_k _ _ (⟨_, _, _, rfl, rfl, by first | exact Nat.le_refl _ | exact Nat.zero_le _, by have hv1 : v = 1 := (by omega); subst hv1; rw [← hr8]; first | rw [if_pos rfl, if_pos rfl, allB_s hk_k, if_pos (show (gsP b (glt kd p sp (tn (A 56 i)) m) s m (fun x => A 58 (40 * q + x))) k = true from decide_eq_true hcks99)] | rw [if_neg (by decide), if_pos rfl, allB_s hk_k, if_neg (show ¬ (gsP b (glt kd p sp (tn (A 56 i)) m) s m (fun x => A 58 (40 * q + x))) k = true from fun z => hcks99 (of_decide_eq_true z))]⟩)
        · refine q_iconst (v := nI 1) rfl rfl ?_
          refine q_goto rfl ?_
          refine q_istore (L' := [_, _, _, _, _, _, _, _, _, _]) rfl rfl ?_
          refine q_iincN (c := 1) (L' := [_, _, _, _, _, _, _, _, _, _]) rfl rfl rfl rfl ?_
          refine q_goto rfl ?_
          exact ih_k _ _ (⟨_, _, _, rfl, rfl, by first | exact Nat.le_refl _ | exact Nat.zero_le _, by have hv1 : v = 1 := (by omega); subst hv1; rw [← hr8]; first | rw [if_pos rfl, if_pos rfl, allB_s hk_k, if_pos (show (gsP b (glt kd p sp (tn (A 56 i)) m) s m (fun x => A 58 (40 * q + x))) k = true from decide_eq_true hcks99)] | rw [if_neg (by decide), if_pos rfl, allB_s hk_k, if_neg (show ¬ (gsP b (glt kd p sp (tn (A 56 i)) m) s m (fun x => A 58 (40 * q + x))) k = true from fun z => hcks99 (of_decide_eq_true z))]⟩)
  · obtain ⟨v, z8, z9, rfl, rfl, hv, hr8⟩ := hi_k
    rw [Nat.sub_self] at hr8
    refine q_iload rfl rfl ?_
    refine q_aload_n rfl rfl ?_
    refine q_getfield rfl hx_51 rfl ?_
    refine q_iload_n rfl rfl ?_
    refine q_iald rfl (by decide) hx_57 (by omega) (by decide) (hz) ?_
    refine q_icmp_geN rfl (by omega) (by omega) (fun hckf14 => ?_) (fun hckf14 => ?_)
    · refine q_iload rfl rfl ?_
      refine q_zret rfl rfl (by rcases (show v = 0 ∨ v = 1 by omega) with h8 | h8 <;> rw [h8]; exact Or.inl rfl; exact Or.inr rfl) ?_
      exact ⟨vI (by rw [← hr8]; rcases (show v = 0 ∨ v = 1 by omega) with h8 | h8 <;> rw [h8] <;> rfl), rfl⟩
    · omega
theorem m_kinds_b {X : XX} {I A : Nat → Nat → Int32} {J B : Nat → Nat → Int64} {F : Nat → Nat} (ln : Nat) (hln : ln ≤ 5) (eln : I 51 3 = nI ln) (x : Int32) (hx : x < 0 ∨ nI ln ≤ x) (y : Int32)  : x_ev X xT 4 227 [.ref 51, .int x, .int y] (HX I A J B F) (some (.int (-1))) (HX I A J B F) := by
  refine q_ev (L := [some (.ref 51), some (.int x), some (.int y), none, none, none]) tX9_kinds (Nat.le_of_ble_eq_true rfl) rfl ?_
  refine q_aload_n rfl rfl ?_
  refine q_iload_n rfl rfl ?_
  refine q_callV1 rfl hx_51 (Nat.le_of_ble_eq_true rfl) (Nat.le_of_ble_eq_true rfl) (sX9_isLight_0 x ln hln eln hx) ?_
  refine q_if_eqN rfl (by omega) (fun hc5 => ?_) (fun hc5 => ?_)
  · refine q_iconst (v := (-1)) rfl rfl ?_
    refine q_iret rfl rfl ?_
    exact ⟨rfl, rfl⟩
  · exact absurd hc5 (by decide)
theorem m_kinds_ob {X : XX} {I A : Nat → Nat → Int32} {J B : Nat → Nat → Int64} {F : Nat → Nat} (ln : Nat) (hln : ln ≤ 5) (eln : I 51 3 = nI ln) (k : Nat) (hk : k < ln) (y : Int32) (hy : y < 0 ∨ 6 ≤ y)  : x_ev X xT 4 227 [.ref 51, .int (nI k), .int y] (HX I A J B F) (some (.int (-1))) (HX I A J B F) := by
  refine q_ev (L := [some (.ref 51), some (.int (nI k)), some (.int y), none, none, none]) tX9_kinds (Nat.le_of_ble_eq_true rfl) rfl ?_
  refine q_aload_n rfl rfl ?_
  refine q_iload_n rfl rfl ?_
  refine q_callV1 rfl hx_51 (Nat.le_of_ble_eq_true rfl) (Nat.le_of_ble_eq_true rfl) (sX9_isLight_1 k ln hk hln eln) ?_
  refine q_if_eqN rfl (by omega) (fun hc5 => ?_) (fun hc5 => ?_)
  · exact absurd hc5 (by decide)
  · refine q_iload_n rfl rfl ?_
    refine q_callS1 rfl rfl (Nat.le_of_ble_eq_true rfl) (Nat.le_of_ble_eq_true rfl) (sX9_isRow_0 y hy) ?_
    refine q_if_neN rfl (by omega) (fun hc12 => ?_) (fun hc12 => ?_)
    · exact absurd hc12 (by decide)
    · refine q_iconst (v := (-1)) rfl rfl ?_
      refine q_iret rfl rfl ?_
      exact ⟨rfl, rfl⟩
theorem m_kinds_M {X : XX} {I A : Nat → Nat → Int32} {J B : Nat → Nat → Int64} {F : Nat → Nat} (ln : Nat) (hln : ln ≤ 5) (eln : I 51 3 = nI ln) (k : Nat) (hk : k < ln) (q : Nat) (hr : q < 6) (hz : A 57 q = -1)  : x_ev X xT 4 227 [.ref 51, .int (nI k), .int (nI q)] (HX I A J B F) (some (.int (-3))) (HX (u2 I 51 15 (nI 1)) (f_cnt A 61 1) J B F) := by
  refine q_ev (L := [some (.ref 51), some (.int (nI k)), some (.int (nI q)), none, none, none]) tX9_kinds (Nat.le_of_ble_eq_true rfl) rfl ?_
  refine q_aload_n rfl rfl ?_
  refine q_iload_n rfl rfl ?_
  refine q_callV1 rfl hx_51 (Nat.le_of_ble_eq_true rfl) (Nat.le_of_ble_eq_true rfl) (sX9_isLight_1 k ln hk hln eln) ?_
  refine q_if_eqN rfl (by omega) (fun hc5 => ?_) (fun hc5 => ?_)
  · exact absurd hc5 (by decide)
  · refine q_iload_n rfl rfl ?_
    refine q_callS1 rfl rfl (Nat.le_of_ble_eq_true rfl) (Nat.le_of_ble_eq_true rfl) (sX9_isRow_1 q hr) ?_
    refine q_if_neN rfl (by omega) (fun hc12 => ?_) (fun hc12 => ?_)
    · refine q_aload_n rfl rfl ?_
      refine q_iload_n rfl rfl ?_
      refine q_callV1 rfl hx_51 (Nat.le_of_ble_eq_true rfl) (Nat.le_of_ble_eq_true rfl) (sX9_noNotes_M q hr hz) ?_
      refine q_istore_n (L' := [_, _, _, _, _, _]) rfl rfl ?_
      refine q_iload_n rfl rfl ?_
      refine q_if_eq rfl (fun hc24 => ?_) (fun hc24 => ?_)
      · exact absurd hc24 (by decide)
      · refine q_iload_n rfl rfl ?_
        refine q_iret rfl rfl ?_
        exact ⟨rfl, rfl⟩
    · exact absurd hc12 (by decide)
theorem m_kinds_S {X : XX} {I A : Nat → Nat → Int32} {J B : Nat → Nat → Int64} {F : Nat → Nat} (ln : Nat) (hln : ln ≤ 5) (eln : I 51 3 = nI ln) (k : Nat) (hk : k < ln) (q : Nat) (hr : q < 6) (n : Nat) (hn : n ≤ 40) (hz : A 57 q = nI n) (hn8 : 20 < n)  : x_ev X xT 4 227 [.ref 51, .int (nI k), .int (nI q)] (HX I A J B F) (some (.int (-3))) (HX (u2 I 51 15 (nI 5)) (f_cnt A 61 5) J B F) := by
  refine q_ev (L := [some (.ref 51), some (.int (nI k)), some (.int (nI q)), none, none, none]) tX9_kinds (Nat.le_of_ble_eq_true rfl) rfl ?_
  refine q_aload_n rfl rfl ?_
  refine q_iload_n rfl rfl ?_
  refine q_callV1 rfl hx_51 (Nat.le_of_ble_eq_true rfl) (Nat.le_of_ble_eq_true rfl) (sX9_isLight_1 k ln hk hln eln) ?_
  refine q_if_eqN rfl (by omega) (fun hc5 => ?_) (fun hc5 => ?_)
  · exact absurd hc5 (by decide)
  · refine q_iload_n rfl rfl ?_
    refine q_callS1 rfl rfl (Nat.le_of_ble_eq_true rfl) (Nat.le_of_ble_eq_true rfl) (sX9_isRow_1 q hr) ?_
    refine q_if_neN rfl (by omega) (fun hc12 => ?_) (fun hc12 => ?_)
    · refine q_aload_n rfl rfl ?_
      refine q_iload_n rfl rfl ?_
      refine q_callV1 rfl hx_51 (Nat.le_of_ble_eq_true rfl) (Nat.le_of_ble_eq_true rfl) (sX9_noNotes_S q hr n hn hz hn8) ?_
      refine q_istore_n (L' := [_, _, _, _, _, _]) rfl rfl ?_
      refine q_iload_n rfl rfl ?_
      refine q_if_eq rfl (fun hc24 => ?_) (fun hc24 => ?_)
      · exact absurd hc24 (by decide)
      · refine q_iload_n rfl rfl ?_
        refine q_iret rfl rfl ?_
        exact ⟨rfl, rfl⟩
    · exact absurd hc12 (by decide)
theorem m_kinds_U {X : XX} {I A : Nat → Nat → Int32} {J B : Nat → Nat → Int64} {F : Nat → Nat} (ln : Nat) (hln : ln ≤ 5) (eln : I 51 3 = nI ln) (k : Nat) (hk : k < ln) (q : Nat) (hr : q < 6) (n : Nat) (hn : n ≤ 40) (hz : A 57 q = nI n) (n8 : n ≤ 20) (hno : ¬ ∀ k, k < n → okN (nI 0) 2147483647 ((fun x => A 58 (40 * q + x)) k))  : x_ev X xT 4 227 [.ref 51, .int (nI k), .int (nI q)] (HX I A J B F) (some (.int (-3))) (HX (u2 I 51 15 (nI 3)) (f_cnt A 61 3) J B F) := by
  refine q_ev (L := [some (.ref 51), some (.int (nI k)), some (.int (nI q)), none, none, none]) tX9_kinds (Nat.le_of_ble_eq_true rfl) rfl ?_
  refine q_aload_n rfl rfl ?_
  refine q_iload_n rfl rfl ?_
  refine q_callV1 rfl hx_51 (Nat.le_of_ble_eq_true rfl) (Nat.le_of_ble_eq_true rfl) (sX9_isLight_1 k ln hk hln eln) ?_
  refine q_if_eqN rfl (by omega) (fun hc5 => ?_) (fun hc5 => ?_)
  · exact absurd hc5 (by decide)
  · refine q_iload_n rfl rfl ?_
    refine q_callS1 rfl rfl (Nat.le_of_ble_eq_true rfl) (Nat.le_of_ble_eq_true rfl) (sX9_isRow_1 q hr) ?_
    refine q_if_neN rfl (by omega) (fun hc12 => ?_) (fun hc12 => ?_)
    · refine q_aload_n rfl rfl ?_
      refine q_iload_n rfl rfl ?_
      refine q_callV1 rfl hx_51 (Nat.le_of_ble_eq_true rfl) (Nat.le_of_ble_eq_true rfl) (sX9_noNotes_U q hr n hn hz n8 hno) ?_
      refine q_istore_n (L' := [_, _, _, _, _, _]) rfl rfl ?_
      refine q_iload_n rfl rfl ?_
      refine q_if_eq rfl (fun hc24 => ?_) (fun hc24 => ?_)
      · exact absurd hc24 (by decide)
      · refine q_iload_n rfl rfl ?_
        refine q_iret rfl rfl ?_
        exact ⟨rfl, rfl⟩
    · exact absurd hc12 (by decide)
set_option maxHeartbeats 1000000 in
theorem m_kinds_0 {X : XX} {I A : Nat → Nat → Int32} {J B : Nat → Nat → Int64} {F : Nat → Nat} (b : Nat) (hb : b ≤ 5) (eb : I 51 1 = nI b) (m : Nat) (em : A 52 1 = nI m) (hm : m ≤ 40) (s : Nat) (es : A 52 2 = nI s) (hs : s < 24) (ln : Nat) (hln : ln ≤ 5) (eln : I 51 3 = nI ln) (hl : mLk A) (hsp : ∀ i, i < 5 → spOK (A 55 i)) (k : Nat) (hk : k < ln) (q : Nat) (hr : q < 6) (n : Nat) (hn : n ≤ 40) (hz : A 57 q = nI n) (n8 : n ≤ 20) (hok : ∀ k, k < n → okN (nI 0) 2147483647 ((fun x => A 58 (40 * q + x)) k))  : x_ev X xT 4 227 [.ref 51, .int (nI k), .int (nI q)] (HX I A J B F) (some (.int (orf (fun g => decide (allB (gsP b (glt (nI g) (plN (mL A k) m) (A 55 k) (tn (A 56 k)) m) s m (fun x => A 58 (40 * q + x))) n 0 = 1)) 6))) (HX I A J B F) := by
  refine q_ev (L := [some (.ref 51), some (.int (nI k)), some (.int (nI q)), none, none, none]) tX9_kinds (Nat.le_of_ble_eq_true rfl) rfl ?_
  refine q_aload_n rfl rfl ?_
  refine q_iload_n rfl rfl ?_
  refine q_callV1 rfl hx_51 (Nat.le_of_ble_eq_true rfl) (Nat.le_of_ble_eq_true rfl) (sX9_isLight_1 k ln hk hln eln) ?_
  refine q_if_eqN rfl (by omega) (fun hc5 => ?_) (fun hc5 => ?_)
  · exact absurd hc5 (by decide)
  · refine q_iload_n rfl rfl ?_
    refine q_callS1 rfl rfl (Nat.le_of_ble_eq_true rfl) (Nat.le_of_ble_eq_true rfl) (sX9_isRow_1 q hr) ?_
    refine q_if_neN rfl (by omega) (fun hc12 => ?_) (fun hc12 => ?_)
    · refine q_aload_n rfl rfl ?_
      refine q_iload_n rfl rfl ?_
      refine q_callV1 rfl hx_51 (Nat.le_of_ble_eq_true rfl) (Nat.le_of_ble_eq_true rfl) (sX9_noNotes_0 q hr n hn hz n8 hok) ?_
      refine q_istore_n (L' := [_, _, _, _, _, _]) rfl rfl ?_
      refine q_iload_n rfl rfl ?_
      refine q_if_eqN rfl (by omega) (fun hc24 => ?_) (fun hc24 => ?_)
      · refine q_iconst (v := 0) rfl rfl ?_
        refine q_istore (L' := [_, _, _, _, _, _]) rfl rfl ?_
        refine q_iconst (v := nI 0) rfl rfl ?_
        refine q_istore (L' := [_, _, _, _, _, _]) rfl rfl ?_
        refine q_up (Inv := fun g L h => L = [some (.ref 51), some (.int (nI k)), some (.int (nI q)), some (.int (nI 0)), some (.int (orf (fun g => decide (allB (gsP b (glt (nI g) (plN (mL A k) m) (A 55 k) (tn (A 56 k)) m) s m (fun x => A 58 (40 * q + x))) n 0 = 1)) g)), some (.int (nI g))] ∧ h = HX I A J B F) (6) (fun g L h hk_g hi_g ih_g => ?_) (fun L h hi_g => ?_) (0) _ _ (by omega) (⟨rfl, rfl⟩)
        · obtain ⟨rfl, rfl⟩ := hi_g
          refine q_iload rfl rfl ?_
          refine q_bipush (v := nI 6) rfl rfl ?_
          refine q_icmp_geN rfl (by omega) (by omega) (fun hcgs39 => ?_) (fun hcgs39 => ?_)
          · omega
          · refine q_iload rfl rfl ?_
            refine q_aload_n rfl rfl ?_
            refine q_iload_n rfl rfl ?_
            refine q_iload_n rfl rfl ?_
            refine q_iload rfl rfl ?_
            refine q_aload_n rfl rfl ?_
            refine q_iload_n rfl rfl ?_
            refine q_callV1 rfl hx_51 (Nat.le_of_ble_eq_true rfl) (Nat.le_of_ble_eq_true rfl) (sX9_now k (by omega) hl m em) ?_
            refine q_aload_n rfl rfl ?_
            refine q_getfield rfl hx_51 rfl ?_
            refine q_iload_n rfl rfl ?_
            refine q_iald rfl (by decide) hx_55 (by omega) (by decide) (rfl) ?_
            refine q_callV5 rfl hx_51 (Nat.le_of_ble_eq_true rfl) (Nat.le_of_ble_eq_true rfl) (sX9_isSo b hb eb m em hm s es hs hl k (by omega) q hr n hn hz n8 (nI g) (A 55 k) (kd_g hk_g) (hsp k (by omega)) _ (plN_lt _ _)) ?_
            refine q_if_eqN rfl (by have := allB_le (gsP b (glt (nI g) (plN (mL A k) m) (A 55 k) (tn (A 56 k)) m) s m (fun x => A 58 (40 * q + x))) n 0; omega) (fun hcgs63 => ?_) (fun hcgs63 => ?_)
            · refine q_iconst (v := nI 0) rfl rfl ?_
              refine q_ior rfl ?_
              refine q_istore (L' := [_, _, _, _, _, _]) rfl rfl ?_
              refine q_iincN (c := 1) (L' := [_, _, _, _, _, _]) rfl rfl rfl rfl ?_
              refine q_goto rfl ?_
              exact ih_g _ _ (⟨by rw [show ∀ p j, orf p (j + 1) = if p j = true then orf p j ||| (nI 1 <<< (nI j &&& 31)) else orf p j from fun _ _ => rfl]; first | rw [if_pos (decide_eq_true (show allB (gsP b (glt (nI g) (plN (mL A k) m) (A 55 k) (tn (A 56 k)) m) s m (fun x => A 58 (40 * q + x))) n 0 = 1 by have := allB_le (gsP b (glt (nI g) (plN (mL A k) m) (A 55 k) (tn (A 56 k)) m) s m (fun x => A 58 (40 * q + x))) n 0; omega))] | rw [if_neg (fun z => absurd (of_decide_eq_true z) (show ¬ allB (gsP b (glt (nI g) (plN (mL A k) m) (A 55 k) (tn (A 56 k)) m) s m (fun x => A 58 (40 * q + x))) n 0 = 1 by omega)), or_0], rfl⟩)
            · refine q_iconst (v := nI 1) rfl rfl ?_
              refine q_iload rfl rfl ?_
              refine q_ishl rfl ?_
              refine q_goto rfl ?_
              refine q_ior rfl ?_
              refine q_istore (L' := [_, _, _, _, _, _]) rfl rfl ?_
              refine q_iincN (c := 1) (L' := [_, _, _, _, _, _]) rfl rfl rfl rfl ?_
              refine q_goto rfl ?_
              exact ih_g _ _ (⟨by rw [show ∀ p j, orf p (j + 1) = if p j = true then orf p j ||| (nI 1 <<< (nI j &&& 31)) else orf p j from fun _ _ => rfl]; first | rw [if_pos (decide_eq_true (show allB (gsP b (glt (nI g) (plN (mL A k) m) (A 55 k) (tn (A 56 k)) m) s m (fun x => A 58 (40 * q + x))) n 0 = 1 by have := allB_le (gsP b (glt (nI g) (plN (mL A k) m) (A 55 k) (tn (A 56 k)) m) s m (fun x => A 58 (40 * q + x))) n 0; omega))] | rw [if_neg (fun z => absurd (of_decide_eq_true z) (show ¬ allB (gsP b (glt (nI g) (plN (mL A k) m) (A 55 k) (tn (A 56 k)) m) s m (fun x => A 58 (40 * q + x))) n 0 = 1 by omega)), or_0], rfl⟩)
        · obtain ⟨rfl, rfl⟩ := hi_g
          refine q_iload rfl rfl ?_
          refine q_bipush (v := nI 6) rfl rfl ?_
          refine q_icmp_geN rfl (by omega) (by omega) (fun hcgf39 => ?_) (fun hcgf39 => ?_)
          · refine q_iload rfl rfl ?_
            refine q_iret rfl rfl ?_
            exact ⟨rfl, rfl⟩
          · omega
      · exact absurd hc24 (by decide)
    · exact absurd hc12 (by decide)
theorem m_places_b {X : XX} {I A : Nat → Nat → Int32} {J B : Nat → Nat → Int64} {F : Nat → Nat} (ln : Nat) (hln : ln ≤ 5) (eln : I 51 3 = nI ln) (x : Int32) (hx : x < 0 ∨ nI ln ≤ x) (y : Int32)  : x_ev X xT 4 228 [.ref 51, .int x, .int y] (HX I A J B F) (some (.int (-1))) (HX I A J B F) := by
  refine q_ev (L := [some (.ref 51), some (.int x), some (.int y), none, none, none]) tX9_places (Nat.le_of_ble_eq_true rfl) rfl ?_
  refine q_aload_n rfl rfl ?_
  refine q_iload_n rfl rfl ?_
  refine q_callV1 rfl hx_51 (Nat.le_of_ble_eq_true rfl) (Nat.le_of_ble_eq_true rfl) (sX9_isLight_0 x ln hln eln hx) ?_
  refine q_if_eqN rfl (by omega) (fun hc5 => ?_) (fun hc5 => ?_)
  · refine q_iconst (v := (-1)) rfl rfl ?_
    refine q_iret rfl rfl ?_
    exact ⟨rfl, rfl⟩
  · exact absurd hc5 (by decide)
theorem m_places_ob {X : XX} {I A : Nat → Nat → Int32} {J B : Nat → Nat → Int64} {F : Nat → Nat} (ln : Nat) (hln : ln ≤ 5) (eln : I 51 3 = nI ln) (k : Nat) (hk : k < ln) (y : Int32) (hy : y < 0 ∨ 6 ≤ y)  : x_ev X xT 4 228 [.ref 51, .int (nI k), .int y] (HX I A J B F) (some (.int (-1))) (HX I A J B F) := by
  refine q_ev (L := [some (.ref 51), some (.int (nI k)), some (.int y), none, none, none]) tX9_places (Nat.le_of_ble_eq_true rfl) rfl ?_
  refine q_aload_n rfl rfl ?_
  refine q_iload_n rfl rfl ?_
  refine q_callV1 rfl hx_51 (Nat.le_of_ble_eq_true rfl) (Nat.le_of_ble_eq_true rfl) (sX9_isLight_1 k ln hk hln eln) ?_
  refine q_if_eqN rfl (by omega) (fun hc5 => ?_) (fun hc5 => ?_)
  · exact absurd hc5 (by decide)
  · refine q_iload_n rfl rfl ?_
    refine q_callS1 rfl rfl (Nat.le_of_ble_eq_true rfl) (Nat.le_of_ble_eq_true rfl) (sX9_isRow_0 y hy) ?_
    refine q_if_neN rfl (by omega) (fun hc12 => ?_) (fun hc12 => ?_)
    · exact absurd hc12 (by decide)
    · refine q_iconst (v := (-1)) rfl rfl ?_
      refine q_iret rfl rfl ?_
      exact ⟨rfl, rfl⟩
theorem m_places_M {X : XX} {I A : Nat → Nat → Int32} {J B : Nat → Nat → Int64} {F : Nat → Nat} (ln : Nat) (hln : ln ≤ 5) (eln : I 51 3 = nI ln) (k : Nat) (hk : k < ln) (q : Nat) (hr : q < 6) (hz : A 57 q = -1)  : x_ev X xT 4 228 [.ref 51, .int (nI k), .int (nI q)] (HX I A J B F) (some (.int (-3))) (HX (u2 I 51 15 (nI 1)) (f_cnt A 61 1) J B F) := by
  refine q_ev (L := [some (.ref 51), some (.int (nI k)), some (.int (nI q)), none, none, none]) tX9_places (Nat.le_of_ble_eq_true rfl) rfl ?_
  refine q_aload_n rfl rfl ?_
  refine q_iload_n rfl rfl ?_
  refine q_callV1 rfl hx_51 (Nat.le_of_ble_eq_true rfl) (Nat.le_of_ble_eq_true rfl) (sX9_isLight_1 k ln hk hln eln) ?_
  refine q_if_eqN rfl (by omega) (fun hc5 => ?_) (fun hc5 => ?_)
  · exact absurd hc5 (by decide)
  · refine q_iload_n rfl rfl ?_
    refine q_callS1 rfl rfl (Nat.le_of_ble_eq_true rfl) (Nat.le_of_ble_eq_true rfl) (sX9_isRow_1 q hr) ?_
    refine q_if_neN rfl (by omega) (fun hc12 => ?_) (fun hc12 => ?_)
    · refine q_aload_n rfl rfl ?_
      refine q_iload_n rfl rfl ?_
      refine q_callV1 rfl hx_51 (Nat.le_of_ble_eq_true rfl) (Nat.le_of_ble_eq_true rfl) (sX9_noNotes_M q hr hz) ?_
      refine q_istore_n (L' := [_, _, _, _, _, _]) rfl rfl ?_
      refine q_iload_n rfl rfl ?_
      refine q_if_eq rfl (fun hc24 => ?_) (fun hc24 => ?_)
      · exact absurd hc24 (by decide)
      · refine q_iload_n rfl rfl ?_
        refine q_iret rfl rfl ?_
        exact ⟨rfl, rfl⟩
    · exact absurd hc12 (by decide)
theorem m_places_S {X : XX} {I A : Nat → Nat → Int32} {J B : Nat → Nat → Int64} {F : Nat → Nat} (ln : Nat) (hln : ln ≤ 5) (eln : I 51 3 = nI ln) (k : Nat) (hk : k < ln) (q : Nat) (hr : q < 6) (n : Nat) (hn : n ≤ 40) (hz : A 57 q = nI n) (hn8 : 20 < n)  : x_ev X xT 4 228 [.ref 51, .int (nI k), .int (nI q)] (HX I A J B F) (some (.int (-3))) (HX (u2 I 51 15 (nI 5)) (f_cnt A 61 5) J B F) := by
  refine q_ev (L := [some (.ref 51), some (.int (nI k)), some (.int (nI q)), none, none, none]) tX9_places (Nat.le_of_ble_eq_true rfl) rfl ?_
  refine q_aload_n rfl rfl ?_
  refine q_iload_n rfl rfl ?_
  refine q_callV1 rfl hx_51 (Nat.le_of_ble_eq_true rfl) (Nat.le_of_ble_eq_true rfl) (sX9_isLight_1 k ln hk hln eln) ?_
  refine q_if_eqN rfl (by omega) (fun hc5 => ?_) (fun hc5 => ?_)
  · exact absurd hc5 (by decide)
  · refine q_iload_n rfl rfl ?_
    refine q_callS1 rfl rfl (Nat.le_of_ble_eq_true rfl) (Nat.le_of_ble_eq_true rfl) (sX9_isRow_1 q hr) ?_
    refine q_if_neN rfl (by omega) (fun hc12 => ?_) (fun hc12 => ?_)
    · refine q_aload_n rfl rfl ?_
      refine q_iload_n rfl rfl ?_
      refine q_callV1 rfl hx_51 (Nat.le_of_ble_eq_true rfl) (Nat.le_of_ble_eq_true rfl) (sX9_noNotes_S q hr n hn hz hn8) ?_
      refine q_istore_n (L' := [_, _, _, _, _, _]) rfl rfl ?_
      refine q_iload_n rfl rfl ?_
      refine q_if_eq rfl (fun hc24 => ?_) (fun hc24 => ?_)
      · exact absurd hc24 (by decide)
      · refine q_iload_n rfl rfl ?_
        refine q_iret rfl rfl ?_
        exact ⟨rfl, rfl⟩
    · exact absurd hc12 (by decide)
theorem m_places_U {X : XX} {I A : Nat → Nat → Int32} {J B : Nat → Nat → Int64} {F : Nat → Nat} (ln : Nat) (hln : ln ≤ 5) (eln : I 51 3 = nI ln) (k : Nat) (hk : k < ln) (q : Nat) (hr : q < 6) (n : Nat) (hn : n ≤ 40) (hz : A 57 q = nI n) (n8 : n ≤ 20) (hno : ¬ ∀ k, k < n → okN (nI 0) 2147483647 ((fun x => A 58 (40 * q + x)) k))  : x_ev X xT 4 228 [.ref 51, .int (nI k), .int (nI q)] (HX I A J B F) (some (.int (-3))) (HX (u2 I 51 15 (nI 3)) (f_cnt A 61 3) J B F) := by
  refine q_ev (L := [some (.ref 51), some (.int (nI k)), some (.int (nI q)), none, none, none]) tX9_places (Nat.le_of_ble_eq_true rfl) rfl ?_
  refine q_aload_n rfl rfl ?_
  refine q_iload_n rfl rfl ?_
  refine q_callV1 rfl hx_51 (Nat.le_of_ble_eq_true rfl) (Nat.le_of_ble_eq_true rfl) (sX9_isLight_1 k ln hk hln eln) ?_
  refine q_if_eqN rfl (by omega) (fun hc5 => ?_) (fun hc5 => ?_)
  · exact absurd hc5 (by decide)
  · refine q_iload_n rfl rfl ?_
    refine q_callS1 rfl rfl (Nat.le_of_ble_eq_true rfl) (Nat.le_of_ble_eq_true rfl) (sX9_isRow_1 q hr) ?_
    refine q_if_neN rfl (by omega) (fun hc12 => ?_) (fun hc12 => ?_)
    · refine q_aload_n rfl rfl ?_
      refine q_iload_n rfl rfl ?_
      refine q_callV1 rfl hx_51 (Nat.le_of_ble_eq_true rfl) (Nat.le_of_ble_eq_true rfl) (sX9_noNotes_U q hr n hn hz n8 hno) ?_
      refine q_istore_n (L' := [_, _, _, _, _, _]) rfl rfl ?_
      refine q_iload_n rfl rfl ?_
      refine q_if_eq rfl (fun hc24 => ?_) (fun hc24 => ?_)
      · exact absurd hc24 (by decide)
      · refine q_iload_n rfl rfl ?_
        refine q_iret rfl rfl ?_
        exact ⟨rfl, rfl⟩
    · exact absurd hc12 (by decide)
set_option maxHeartbeats 1000000 in
theorem m_places_0 {X : XX} {I A : Nat → Nat → Int32} {J B : Nat → Nat → Int64} {F : Nat → Nat} (b : Nat) (hb : b ≤ 5) (eb : I 51 1 = nI b) (m : Nat) (em : A 52 1 = nI m) (hm : m ≤ 40) (s : Nat) (es : A 52 2 = nI s) (hs : s < 24) (ln : Nat) (hln : ln ≤ 5) (eln : I 51 3 = nI ln) (hl : mLk A) (hsp : ∀ i, i < 5 → spOK (A 55 i)) (k : Nat) (hk : k < ln) (q : Nat) (hr : q < 6) (n : Nat) (hn : n ≤ 40) (hz : A 57 q = nI n) (n8 : n ≤ 20) (hok : ∀ k, k < n → okN (nI 0) 2147483647 ((fun x => A 58 (40 * q + x)) k))  : x_ev X xT 4 228 [.ref 51, .int (nI k), .int (nI q)] (HX I A J B F) (some (.int (orf (fun g => decide (allB (gsP b (glt (A 53 k) g (A 55 k) (tn (A 56 k)) m) s m (fun x => A 58 (40 * q + x))) n 0 = 1)) 24))) (HX I A J B F) := by
  refine q_ev (L := [some (.ref 51), some (.int (nI k)), some (.int (nI q)), none, none, none]) tX9_places (Nat.le_of_ble_eq_true rfl) rfl ?_
  refine q_aload_n rfl rfl ?_
  refine q_iload_n rfl rfl ?_
  refine q_callV1 rfl hx_51 (Nat.le_of_ble_eq_true rfl) (Nat.le_of_ble_eq_true rfl) (sX9_isLight_1 k ln hk hln eln) ?_
  refine q_if_eqN rfl (by omega) (fun hc5 => ?_) (fun hc5 => ?_)
  · exact absurd hc5 (by decide)
  · refine q_iload_n rfl rfl ?_
    refine q_callS1 rfl rfl (Nat.le_of_ble_eq_true rfl) (Nat.le_of_ble_eq_true rfl) (sX9_isRow_1 q hr) ?_
    refine q_if_neN rfl (by omega) (fun hc12 => ?_) (fun hc12 => ?_)
    · refine q_aload_n rfl rfl ?_
      refine q_iload_n rfl rfl ?_
      refine q_callV1 rfl hx_51 (Nat.le_of_ble_eq_true rfl) (Nat.le_of_ble_eq_true rfl) (sX9_noNotes_0 q hr n hn hz n8 hok) ?_
      refine q_istore_n (L' := [_, _, _, _, _, _]) rfl rfl ?_
      refine q_iload_n rfl rfl ?_
      refine q_if_eqN rfl (by omega) (fun hc24 => ?_) (fun hc24 => ?_)
      · refine q_iconst (v := 0) rfl rfl ?_
        refine q_istore (L' := [_, _, _, _, _, _]) rfl rfl ?_
        refine q_iconst (v := nI 0) rfl rfl ?_
        refine q_istore (L' := [_, _, _, _, _, _]) rfl rfl ?_
        refine q_up (Inv := fun g L h => L = [some (.ref 51), some (.int (nI k)), some (.int (nI q)), some (.int (nI 0)), some (.int (orf (fun g => decide (allB (gsP b (glt (A 53 k) g (A 55 k) (tn (A 56 k)) m) s m (fun x => A 58 (40 * q + x))) n 0 = 1)) g)), some (.int (nI g))] ∧ h = HX I A J B F) (24) (fun g L h hk_g hi_g ih_g => ?_) (fun L h hi_g => ?_) (0) _ _ (by omega) (⟨rfl, rfl⟩)
        · obtain ⟨rfl, rfl⟩ := hi_g
          refine q_iload rfl rfl ?_
          refine q_bipush (v := nI 24) rfl rfl ?_
          refine q_icmp_geN rfl (by omega) (by omega) (fun hcgs39 => ?_) (fun hcgs39 => ?_)
          · omega
          · refine q_iload rfl rfl ?_
            refine q_aload_n rfl rfl ?_
            refine q_iload_n rfl rfl ?_
            refine q_iload_n rfl rfl ?_
            refine q_aload_n rfl rfl ?_
            refine q_getfield rfl hx_51 rfl ?_
            refine q_iload_n rfl rfl ?_
            refine q_iald rfl (by decide) hx_53 (by omega) (by decide) (rfl) ?_
            refine q_iload rfl rfl ?_
            refine q_aload_n rfl rfl ?_
            refine q_getfield rfl hx_51 rfl ?_
            refine q_iload_n rfl rfl ?_
            refine q_iald rfl (by decide) hx_55 (by omega) (by decide) (rfl) ?_
            refine q_callV5 rfl hx_51 (Nat.le_of_ble_eq_true rfl) (Nat.le_of_ble_eq_true rfl) (sX9_isSo b hb eb m em hm s es hs hl k (by omega) q hr n hn hz n8 (A 53 k) (A 55 k) (hl k (by omega)).1.1 (hsp k (by omega)) _ hk_g) ?_
            refine q_if_eqN rfl (by have := allB_le (gsP b (glt (A 53 k) g (A 55 k) (tn (A 56 k)) m) s m (fun x => A 58 (40 * q + x))) n 0; omega) (fun hcgs64 => ?_) (fun hcgs64 => ?_)
            · refine q_iconst (v := nI 0) rfl rfl ?_
              refine q_ior rfl ?_
              refine q_istore (L' := [_, _, _, _, _, _]) rfl rfl ?_
              refine q_iincN (c := 1) (L' := [_, _, _, _, _, _]) rfl rfl rfl rfl ?_
              refine q_goto rfl ?_
              exact ih_g _ _ (⟨by rw [show ∀ p j, orf p (j + 1) = if p j = true then orf p j ||| (nI 1 <<< (nI j &&& 31)) else orf p j from fun _ _ => rfl]; first | rw [if_pos (decide_eq_true (show allB (gsP b (glt (A 53 k) g (A 55 k) (tn (A 56 k)) m) s m (fun x => A 58 (40 * q + x))) n 0 = 1 by have := allB_le (gsP b (glt (A 53 k) g (A 55 k) (tn (A 56 k)) m) s m (fun x => A 58 (40 * q + x))) n 0; omega))] | rw [if_neg (fun z => absurd (of_decide_eq_true z) (show ¬ allB (gsP b (glt (A 53 k) g (A 55 k) (tn (A 56 k)) m) s m (fun x => A 58 (40 * q + x))) n 0 = 1 by omega)), or_0], rfl⟩)
            · refine q_iconst (v := nI 1) rfl rfl ?_
              refine q_iload rfl rfl ?_
              refine q_ishl rfl ?_
              refine q_goto rfl ?_
              refine q_ior rfl ?_
              refine q_istore (L' := [_, _, _, _, _, _]) rfl rfl ?_
              refine q_iincN (c := 1) (L' := [_, _, _, _, _, _]) rfl rfl rfl rfl ?_
              refine q_goto rfl ?_
              exact ih_g _ _ (⟨by rw [show ∀ p j, orf p (j + 1) = if p j = true then orf p j ||| (nI 1 <<< (nI j &&& 31)) else orf p j from fun _ _ => rfl]; first | rw [if_pos (decide_eq_true (show allB (gsP b (glt (A 53 k) g (A 55 k) (tn (A 56 k)) m) s m (fun x => A 58 (40 * q + x))) n 0 = 1 by have := allB_le (gsP b (glt (A 53 k) g (A 55 k) (tn (A 56 k)) m) s m (fun x => A 58 (40 * q + x))) n 0; omega))] | rw [if_neg (fun z => absurd (of_decide_eq_true z) (show ¬ allB (gsP b (glt (A 53 k) g (A 55 k) (tn (A 56 k)) m) s m (fun x => A 58 (40 * q + x))) n 0 = 1 by omega)), or_0], rfl⟩)
        · obtain ⟨rfl, rfl⟩ := hi_g
          refine q_iload rfl rfl ?_
          refine q_bipush (v := nI 24) rfl rfl ?_
          refine q_icmp_geN rfl (by omega) (by omega) (fun hcgf39 => ?_) (fun hcgf39 => ?_)
          · refine q_iload rfl rfl ?_
            refine q_iret rfl rfl ?_
            exact ⟨rfl, rfl⟩
          · omega
      · exact absurd hc24 (by decide)
    · exact absurd hc12 (by decide)
theorem m_speeds_b {X : XX} {I A : Nat → Nat → Int32} {J B : Nat → Nat → Int64} {F : Nat → Nat} (ln : Nat) (hln : ln ≤ 5) (eln : I 51 3 = nI ln) (x : Int32) (hx : x < 0 ∨ nI ln ≤ x) (y : Int32)  : x_ev X xT 4 229 [.ref 51, .int x, .int y] (HX I A J B F) (some (.int (-1))) (HX I A J B F) := by
  refine q_ev (L := [some (.ref 51), some (.int x), some (.int y), none, none, none]) tX9_speeds (Nat.le_of_ble_eq_true rfl) rfl ?_
  refine q_aload_n rfl rfl ?_
  refine q_iload_n rfl rfl ?_
  refine q_callV1 rfl hx_51 (Nat.le_of_ble_eq_true rfl) (Nat.le_of_ble_eq_true rfl) (sX9_isLight_0 x ln hln eln hx) ?_
  refine q_if_eqN rfl (by omega) (fun hc5 => ?_) (fun hc5 => ?_)
  · refine q_iconst (v := (-1)) rfl rfl ?_
    refine q_iret rfl rfl ?_
    exact ⟨rfl, rfl⟩
  · exact absurd hc5 (by decide)
theorem m_speeds_ob {X : XX} {I A : Nat → Nat → Int32} {J B : Nat → Nat → Int64} {F : Nat → Nat} (ln : Nat) (hln : ln ≤ 5) (eln : I 51 3 = nI ln) (k : Nat) (hk : k < ln) (y : Int32) (hy : y < 0 ∨ 6 ≤ y)  : x_ev X xT 4 229 [.ref 51, .int (nI k), .int y] (HX I A J B F) (some (.int (-1))) (HX I A J B F) := by
  refine q_ev (L := [some (.ref 51), some (.int (nI k)), some (.int y), none, none, none]) tX9_speeds (Nat.le_of_ble_eq_true rfl) rfl ?_
  refine q_aload_n rfl rfl ?_
  refine q_iload_n rfl rfl ?_
  refine q_callV1 rfl hx_51 (Nat.le_of_ble_eq_true rfl) (Nat.le_of_ble_eq_true rfl) (sX9_isLight_1 k ln hk hln eln) ?_
  refine q_if_eqN rfl (by omega) (fun hc5 => ?_) (fun hc5 => ?_)
  · exact absurd hc5 (by decide)
  · refine q_iload_n rfl rfl ?_
    refine q_callS1 rfl rfl (Nat.le_of_ble_eq_true rfl) (Nat.le_of_ble_eq_true rfl) (sX9_isRow_0 y hy) ?_
    refine q_if_neN rfl (by omega) (fun hc12 => ?_) (fun hc12 => ?_)
    · exact absurd hc12 (by decide)
    · refine q_iconst (v := (-1)) rfl rfl ?_
      refine q_iret rfl rfl ?_
      exact ⟨rfl, rfl⟩
theorem m_speeds_M {X : XX} {I A : Nat → Nat → Int32} {J B : Nat → Nat → Int64} {F : Nat → Nat} (ln : Nat) (hln : ln ≤ 5) (eln : I 51 3 = nI ln) (k : Nat) (hk : k < ln) (q : Nat) (hr : q < 6) (hz : A 57 q = -1)  : x_ev X xT 4 229 [.ref 51, .int (nI k), .int (nI q)] (HX I A J B F) (some (.int (-3))) (HX (u2 I 51 15 (nI 1)) (f_cnt A 61 1) J B F) := by
  refine q_ev (L := [some (.ref 51), some (.int (nI k)), some (.int (nI q)), none, none, none]) tX9_speeds (Nat.le_of_ble_eq_true rfl) rfl ?_
  refine q_aload_n rfl rfl ?_
  refine q_iload_n rfl rfl ?_
  refine q_callV1 rfl hx_51 (Nat.le_of_ble_eq_true rfl) (Nat.le_of_ble_eq_true rfl) (sX9_isLight_1 k ln hk hln eln) ?_
  refine q_if_eqN rfl (by omega) (fun hc5 => ?_) (fun hc5 => ?_)
  · exact absurd hc5 (by decide)
  · refine q_iload_n rfl rfl ?_
    refine q_callS1 rfl rfl (Nat.le_of_ble_eq_true rfl) (Nat.le_of_ble_eq_true rfl) (sX9_isRow_1 q hr) ?_
    refine q_if_neN rfl (by omega) (fun hc12 => ?_) (fun hc12 => ?_)
    · refine q_aload_n rfl rfl ?_
      refine q_iload_n rfl rfl ?_
      refine q_callV1 rfl hx_51 (Nat.le_of_ble_eq_true rfl) (Nat.le_of_ble_eq_true rfl) (sX9_noNotes_M q hr hz) ?_
      refine q_istore_n (L' := [_, _, _, _, _, _]) rfl rfl ?_
      refine q_iload_n rfl rfl ?_
      refine q_if_eq rfl (fun hc24 => ?_) (fun hc24 => ?_)
      · exact absurd hc24 (by decide)
      · refine q_iload_n rfl rfl ?_
        refine q_iret rfl rfl ?_
        exact ⟨rfl, rfl⟩
    · exact absurd hc12 (by decide)
theorem m_speeds_S {X : XX} {I A : Nat → Nat → Int32} {J B : Nat → Nat → Int64} {F : Nat → Nat} (ln : Nat) (hln : ln ≤ 5) (eln : I 51 3 = nI ln) (k : Nat) (hk : k < ln) (q : Nat) (hr : q < 6) (n : Nat) (hn : n ≤ 40) (hz : A 57 q = nI n) (hn8 : 20 < n)  : x_ev X xT 4 229 [.ref 51, .int (nI k), .int (nI q)] (HX I A J B F) (some (.int (-3))) (HX (u2 I 51 15 (nI 5)) (f_cnt A 61 5) J B F) := by
  refine q_ev (L := [some (.ref 51), some (.int (nI k)), some (.int (nI q)), none, none, none]) tX9_speeds (Nat.le_of_ble_eq_true rfl) rfl ?_
  refine q_aload_n rfl rfl ?_
  refine q_iload_n rfl rfl ?_
  refine q_callV1 rfl hx_51 (Nat.le_of_ble_eq_true rfl) (Nat.le_of_ble_eq_true rfl) (sX9_isLight_1 k ln hk hln eln) ?_
  refine q_if_eqN rfl (by omega) (fun hc5 => ?_) (fun hc5 => ?_)
  · exact absurd hc5 (by decide)
  · refine q_iload_n rfl rfl ?_
    refine q_callS1 rfl rfl (Nat.le_of_ble_eq_true rfl) (Nat.le_of_ble_eq_true rfl) (sX9_isRow_1 q hr) ?_
    refine q_if_neN rfl (by omega) (fun hc12 => ?_) (fun hc12 => ?_)
    · refine q_aload_n rfl rfl ?_
      refine q_iload_n rfl rfl ?_
      refine q_callV1 rfl hx_51 (Nat.le_of_ble_eq_true rfl) (Nat.le_of_ble_eq_true rfl) (sX9_noNotes_S q hr n hn hz hn8) ?_
      refine q_istore_n (L' := [_, _, _, _, _, _]) rfl rfl ?_
      refine q_iload_n rfl rfl ?_
      refine q_if_eq rfl (fun hc24 => ?_) (fun hc24 => ?_)
      · exact absurd hc24 (by decide)
      · refine q_iload_n rfl rfl ?_
        refine q_iret rfl rfl ?_
        exact ⟨rfl, rfl⟩
    · exact absurd hc12 (by decide)
theorem m_speeds_U {X : XX} {I A : Nat → Nat → Int32} {J B : Nat → Nat → Int64} {F : Nat → Nat} (ln : Nat) (hln : ln ≤ 5) (eln : I 51 3 = nI ln) (k : Nat) (hk : k < ln) (q : Nat) (hr : q < 6) (n : Nat) (hn : n ≤ 40) (hz : A 57 q = nI n) (n8 : n ≤ 20) (hno : ¬ ∀ k, k < n → okN (nI 0) 2147483647 ((fun x => A 58 (40 * q + x)) k))  : x_ev X xT 4 229 [.ref 51, .int (nI k), .int (nI q)] (HX I A J B F) (some (.int (-3))) (HX (u2 I 51 15 (nI 3)) (f_cnt A 61 3) J B F) := by
  refine q_ev (L := [some (.ref 51), some (.int (nI k)), some (.int (nI q)), none, none, none]) tX9_speeds (Nat.le_of_ble_eq_true rfl) rfl ?_
  refine q_aload_n rfl rfl ?_
  refine q_iload_n rfl rfl ?_
  refine q_callV1 rfl hx_51 (Nat.le_of_ble_eq_true rfl) (Nat.le_of_ble_eq_true rfl) (sX9_isLight_1 k ln hk hln eln) ?_
  refine q_if_eqN rfl (by omega) (fun hc5 => ?_) (fun hc5 => ?_)
  · exact absurd hc5 (by decide)
  · refine q_iload_n rfl rfl ?_
    refine q_callS1 rfl rfl (Nat.le_of_ble_eq_true rfl) (Nat.le_of_ble_eq_true rfl) (sX9_isRow_1 q hr) ?_
    refine q_if_neN rfl (by omega) (fun hc12 => ?_) (fun hc12 => ?_)
    · refine q_aload_n rfl rfl ?_
      refine q_iload_n rfl rfl ?_
      refine q_callV1 rfl hx_51 (Nat.le_of_ble_eq_true rfl) (Nat.le_of_ble_eq_true rfl) (sX9_noNotes_U q hr n hn hz n8 hno) ?_
      refine q_istore_n (L' := [_, _, _, _, _, _]) rfl rfl ?_
      refine q_iload_n rfl rfl ?_
      refine q_if_eq rfl (fun hc24 => ?_) (fun hc24 => ?_)
      · exact absurd hc24 (by decide)
      · refine q_iload_n rfl rfl ?_
        refine q_iret rfl rfl ?_
        exact ⟨rfl, rfl⟩
    · exact absurd hc12 (by decide)
set_option maxHeartbeats 1000000 in
theorem m_speeds_0 {X : XX} {I A : Nat → Nat → Int32} {J B : Nat → Nat → Int64} {F : Nat → Nat} (b : Nat) (hb : b ≤ 5) (eb : I 51 1 = nI b) (m : Nat) (em : A 52 1 = nI m) (hm : m ≤ 40) (s : Nat) (es : A 52 2 = nI s) (hs : s < 24) (ln : Nat) (hln : ln ≤ 5) (eln : I 51 3 = nI ln) (hl : mLk A) (hsp : ∀ i, i < 5 → spOK (A 55 i)) (k : Nat) (hk : k < ln) (q : Nat) (hr : q < 6) (n : Nat) (hn : n ≤ 40) (hz : A 57 q = nI n) (n8 : n ≤ 20) (hok : ∀ k, k < n → okN (nI 0) 2147483647 ((fun x => A 58 (40 * q + x)) k))  : x_ev X xT 4 229 [.ref 51, .int (nI k), .int (nI q)] (HX I A J B F) (some (.int (orf (fun g => decide (allB (gsP b (glt (A 53 k) (plN (mL A k) m) (sI 2 g) (tn (A 56 k)) m) s m (fun x => A 58 (40 * q + x))) n 0 = 1)) 6))) (HX I A J B F) := by
  refine q_ev (L := [some (.ref 51), some (.int (nI k)), some (.int (nI q)), none, none, none]) tX9_speeds (Nat.le_of_ble_eq_true rfl) rfl ?_
  refine q_aload_n rfl rfl ?_
  refine q_iload_n rfl rfl ?_
  refine q_callV1 rfl hx_51 (Nat.le_of_ble_eq_true rfl) (Nat.le_of_ble_eq_true rfl) (sX9_isLight_1 k ln hk hln eln) ?_
  refine q_if_eqN rfl (by omega) (fun hc5 => ?_) (fun hc5 => ?_)
  · exact absurd hc5 (by decide)
  · refine q_iload_n rfl rfl ?_
    refine q_callS1 rfl rfl (Nat.le_of_ble_eq_true rfl) (Nat.le_of_ble_eq_true rfl) (sX9_isRow_1 q hr) ?_
    refine q_if_neN rfl (by omega) (fun hc12 => ?_) (fun hc12 => ?_)
    · refine q_aload_n rfl rfl ?_
      refine q_iload_n rfl rfl ?_
      refine q_callV1 rfl hx_51 (Nat.le_of_ble_eq_true rfl) (Nat.le_of_ble_eq_true rfl) (sX9_noNotes_0 q hr n hn hz n8 hok) ?_
      refine q_istore_n (L' := [_, _, _, _, _, _]) rfl rfl ?_
      refine q_iload_n rfl rfl ?_
      refine q_if_eqN rfl (by omega) (fun hc24 => ?_) (fun hc24 => ?_)
      · refine q_iconst (v := 0) rfl rfl ?_
        refine q_istore (L' := [_, _, _, _, _, _]) rfl rfl ?_
        refine q_bipush (v := (-2)) rfl rfl ?_
        refine q_istore (L' := [_, _, _, _, _, _]) rfl rfl ?_
        refine q_up (Inv := fun g L h => L = [some (.ref 51), some (.int (nI k)), some (.int (nI q)), some (.int (nI 0)), some (.int (orf (fun g => decide (allB (gsP b (glt (A 53 k) (plN (mL A k) m) (sI 2 g) (tn (A 56 k)) m) s m (fun x => A 58 (40 * q + x))) n 0 = 1)) g)), some (.int (sI 2 g))] ∧ h = HX I A J B F) (6) (fun g L h hk_g hi_g ih_g => ?_) (fun L h hi_g => ?_) (0) _ _ (by omega) (⟨rfl, rfl⟩)
        · obtain ⟨rfl, rfl⟩ := hi_g
          refine q_iload rfl rfl ?_
          refine q_iconst (v := nI 4) rfl rfl ?_
          refine q_icmp_ge rfl (fun hcgs39 => ?_) (fun hcgs39 => ?_)
          · exact absurd hcgs39 (Int32.not_le.mpr ((sI_lt (c := 2) (m := 4) (by omega) (by omega) (by omega)).mpr (by omega)))
          · refine q_iload rfl rfl ?_
            refine q_aload_n rfl rfl ?_
            refine q_iload_n rfl rfl ?_
            refine q_iload_n rfl rfl ?_
            refine q_aload_n rfl rfl ?_
            refine q_getfield rfl hx_51 rfl ?_
            refine q_iload_n rfl rfl ?_
            refine q_iald rfl (by decide) hx_53 (by omega) (by decide) (rfl) ?_
            refine q_aload_n rfl rfl ?_
            refine q_iload_n rfl rfl ?_
            refine q_callV1 rfl hx_51 (Nat.le_of_ble_eq_true rfl) (Nat.le_of_ble_eq_true rfl) (sX9_now k (by omega) hl m em) ?_
            refine q_iload rfl rfl ?_
            refine q_callV5 rfl hx_51 (Nat.le_of_ble_eq_true rfl) (Nat.le_of_ble_eq_true rfl) (sX9_isSo b hb eb m em hm s es hs hl k (by omega) q hr n hn hz n8 (A 53 k) (sI 2 g) (hl k (by omega)).1.1 (spOK_g hk_g) _ (plN_lt _ _)) ?_
            refine q_if_eqN rfl (by have := allB_le (gsP b (glt (A 53 k) (plN (mL A k) m) (sI 2 g) (tn (A 56 k)) m) s m (fun x => A 58 (40 * q + x))) n 0; omega) (fun hcgs63 => ?_) (fun hcgs63 => ?_)
            · refine q_iconst (v := nI 0) rfl rfl ?_
              refine q_ior rfl ?_
              refine q_istore (L' := [_, _, _, _, _, _]) rfl rfl ?_
              refine q_iinc (v := sI 2 (g + 1)) (L' := [_, _, _, _, _, _]) rfl rfl (sI_inc 2 g) rfl ?_
              refine q_goto rfl ?_
              exact ih_g _ _ (⟨by rw [show ∀ p j, orf p (j + 1) = if p j = true then orf p j ||| (nI 1 <<< (nI j &&& 31)) else orf p j from fun _ _ => rfl]; first | rw [if_pos (decide_eq_true (show allB (gsP b (glt (A 53 k) (plN (mL A k) m) (sI 2 g) (tn (A 56 k)) m) s m (fun x => A 58 (40 * q + x))) n 0 = 1 by have := allB_le (gsP b (glt (A 53 k) (plN (mL A k) m) (sI 2 g) (tn (A 56 k)) m) s m (fun x => A 58 (40 * q + x))) n 0; omega))] | rw [if_neg (fun z => absurd (of_decide_eq_true z) (show ¬ allB (gsP b (glt (A 53 k) (plN (mL A k) m) (sI 2 g) (tn (A 56 k)) m) s m (fun x => A 58 (40 * q + x))) n 0 = 1 by omega)), or_0], rfl⟩)
            · refine q_iconst (v := nI 1) rfl rfl ?_
              refine q_iload rfl rfl ?_
              refine q_iconst (v := nI 2) rfl rfl ?_
              refine q_iadd rfl ?_
              refine q_cn (sI_p2 g) ?_
              refine q_ishl rfl ?_
              refine q_goto rfl ?_
              refine q_ior rfl ?_
              refine q_istore (L' := [_, _, _, _, _, _]) rfl rfl ?_
              refine q_iinc (v := sI 2 (g + 1)) (L' := [_, _, _, _, _, _]) rfl rfl (sI_inc 2 g) rfl ?_
              refine q_goto rfl ?_
              exact ih_g _ _ (⟨by rw [show ∀ p j, orf p (j + 1) = if p j = true then orf p j ||| (nI 1 <<< (nI j &&& 31)) else orf p j from fun _ _ => rfl]; first | rw [if_pos (decide_eq_true (show allB (gsP b (glt (A 53 k) (plN (mL A k) m) (sI 2 g) (tn (A 56 k)) m) s m (fun x => A 58 (40 * q + x))) n 0 = 1 by have := allB_le (gsP b (glt (A 53 k) (plN (mL A k) m) (sI 2 g) (tn (A 56 k)) m) s m (fun x => A 58 (40 * q + x))) n 0; omega))] | rw [if_neg (fun z => absurd (of_decide_eq_true z) (show ¬ allB (gsP b (glt (A 53 k) (plN (mL A k) m) (sI 2 g) (tn (A 56 k)) m) s m (fun x => A 58 (40 * q + x))) n 0 = 1 by omega)), or_0], rfl⟩)
        · obtain ⟨rfl, rfl⟩ := hi_g
          refine q_iload rfl rfl ?_
          refine q_iconst (v := nI 4) rfl rfl ?_
          refine q_icmp_ge rfl (fun hcgf39 => ?_) (fun hcgf39 => ?_)
          · refine q_iload rfl rfl ?_
            refine q_iret rfl rfl ?_
            exact ⟨rfl, rfl⟩
          · exact absurd (show nI 4 ≤ sI 2 6 by decide) hcgf39
      · exact absurd hc24 (by decide)
    · exact absurd hc12 (by decide)
section G4s
variable {I A : Nat → Nat → Int32} {v1 v2 v3 v4 : Int32} {ln b st : Nat}
theorem RelL_g4 (h : RelL I A) : RelL (g4 I v1 v2 v3 v4) A := RelL_u2 (by omega) (RelL_u2 (by omega) (RelL_u2 (by omega) (RelL_u2 (by omega) h)))
theorem RelT_g4 (h : RelT I A) : RelT (g4 I v1 v2 v3 v4) A := RelT_u2 (by omega) (RelT_u2 (by omega) (RelT_u2 (by omega) (RelT_u2 (by omega) h)))
theorem RelK_g4 (h : RelK I A) : RelK (g4 I v1 v2 v3 v4) A := RelK_u2 (by omega) (RelK_u2 (by omega) (RelK_u2 (by omega) (RelK_u2 (by omega) h)))
theorem RelQ_g4 (h : RelQ st I A) : RelQ st (g4 I v1 v2 v3 v4) A := RelQ_u2 (by omega) (RelQ_u2 (by omega) (RelQ_u2 (by omega) (RelQ_u2 (by omega) h)))
theorem RelF_g4 (h : RelF I A) : RelF (g4 I v1 v2 v3 v4) A := RelF_u2 (by omega) (RelF_u2 (by omega) (RelF_u2 (by omega) (RelF_u2 (by omega) h)))
theorem RelN_g4 (h : RelN st 8 0 I A) : RelN st 8 0 (g4 I v1 v2 v3 v4) A := RelN_u2 (by omega) (RelN_u2 (by omega) (RelN_u2 (by omega) (RelN_u2 (by omega) h)))
theorem RelD_g4 (h : RelD ln b st I) : RelD ln b st (g4 I v1 v2 v3 v4) := RelD_u2 (by omega) (RelD_u2 (by omega) (RelD_u2 (by omega) (RelD_u2 (by omega) h)))
theorem RelU_g4 (h : RelU I) : RelU (g4 I v1 v2 v3 v4) := RelU_u2 (by omega) (RelU_u2 (by omega) (RelU_u2 (by omega) (RelU_u2 (by omega) h)))
end G4s
set_option maxHeartbeats 1000000 in
theorem op_28 {X : XX} : Op_28 X RelR := by
  intro a1 a2 I A J B F hr
  obtain ⟨ln, b, st, hL, hT, hK, hD, hN, hQ, hF, hU, hJ, hS⟩ := id hr
  obtain ⟨hln, hb, hst, eln, eln', eb, eb', e7, e7', hb1⟩ := id hD
  obtain ⟨d, hd, n1, q0, n2, n3, n9, q1, q2, q3, hp⟩ := id hN
  have hm : (rp st (A 9) d).1 ≤ 40 := Nat.le_trans (rp_1 st (A 9) d) hd
  have hs := rp_2 st (A 9) d
  have lks := RelK_lks hK
  have hl := RelK_hl hK
  have cLe := RelK_cL hK
  rcases ix3 a1 ln (by first | decide | omega) with hk | hk | ⟨k, hk, rfl⟩
  · rcases ix3 a2 6 (by first | decide | omega) with hq | hq | ⟨q, hq, rfl⟩
    · exact opI_mk (by decide) (by decide) (c_kinds_w (c_g0_bb a1 (Or.inl (by first | exact hk | (rw [eln]; exact hk))) a2 (Or.inl hq))) (m_kinds_b ln hln (by exact eln') a1 (Or.inl hk) a2) (hr)
    · exact opI_mk (by decide) (by decide) (c_kinds_w (c_g0_bb a1 (Or.inl (by first | exact hk | (rw [eln]; exact hk))) a2 (Or.inr hq))) (m_kinds_b ln hln (by exact eln') a1 (Or.inl hk) a2) (hr)
    · exact opI_mk (by decide) (by decide) (c_kinds_w (c_g0_bo a1 (Or.inl (by first | exact hk | (rw [eln]; exact hk))) q hq)) (m_kinds_b ln hln (by exact eln') a1 (Or.inl hk) (nI q)) (hr)
  · rcases ix3 a2 6 (by first | decide | omega) with hq | hq | ⟨q, hq, rfl⟩
    · exact opI_mk (by decide) (by decide) (c_kinds_w (c_g0_bb a1 (Or.inr (by first | exact hk | (rw [eln]; exact hk))) a2 (Or.inl hq))) (m_kinds_b ln hln (by exact eln') a1 (Or.inr hk) a2) (hr)
    · exact opI_mk (by decide) (by decide) (c_kinds_w (c_g0_bb a1 (Or.inr (by first | exact hk | (rw [eln]; exact hk))) a2 (Or.inr hq))) (m_kinds_b ln hln (by exact eln') a1 (Or.inr hk) a2) (hr)
    · exact opI_mk (by decide) (by decide) (c_kinds_w (c_g0_bo a1 (Or.inr (by first | exact hk | (rw [eln]; exact hk))) q hq)) (m_kinds_b ln hln (by exact eln') a1 (Or.inr hk) (nI q)) (hr)
  · rcases ix3 a2 6 (by first | decide | omega) with hq | hq | ⟨q, hq, rfl⟩
    · exact opI_mk (by decide) (by decide) (c_kinds_w (c_g0_ob ln hln eln k hk a2 (Or.inl hq))) (m_kinds_ob ln hln (by exact eln') k hk a2 (Or.inl hq)) (hr)
    · exact opI_mk (by decide) (by decide) (c_kinds_w (c_g0_ob ln hln eln k hk a2 (Or.inr hq))) (m_kinds_ob ln hln (by exact eln') k hk a2 (Or.inr hq)) (hr)
    · rcases (hL q hq).2.1 with hz | ⟨n, hn, hz⟩
      · exact opI_mk (by decide) (by decide) (c_kinds_w (c_g0_M ln hln eln k hk q hq ((hL q hq).1.trans hz))) (m_kinds_M ln hln (by exact eln') k hk q hq (by exact hz)) (RelR_found 1 hr)
      · by_cases hn8 : 20 < n
        · exact opI_mk (by decide) (by decide) (c_kinds_w (c_g0_S ln hln eln k hk q hq n (by rw [rm_row hq]; exact hn) ((hL q hq).1.trans hz) hn8)) (m_kinds_S ln hln (by exact eln') k hk q hq n hn (by exact hz) hn8) (RelR_found 5 hr)
        · by_cases hok : ∀ i, i < n → okN (nI 0) 2147483647 (A 58 (40 * q + i))
          · have hokC : ∀ i, i < n → okN (nI 0) 2147483647 (A (21 + 2 * q) i) := fun i hi => by rw [(hL q hq).2.2 i (by omega)]; exact hok i hi
            have hc : ∀ i, i < n → A (21 + 2 * q) i = (fun x => A 58 (40 * q + x)) i := fun i hi => (hL q hq).2.2 i (by omega)
            obtain ⟨k0, k1, k2, k3, _⟩ := hK k (by omega)
            obtain ⟨v0, v1, v2, v3, h9, _⟩ := c_g0_0 (X := X) (A := A) (J := J) (B := B) (F := F) b hb eb (rp st (A 9) d).1 n2 hm (rp st (A 9) d).2.1 n3 hs ln hln eln lks k hk q hq n (by rw [rm_row hq]; exact hn) ((hL q hq).1.trans hz) (by omega) hokC
            rw [orf_congr (q := (fun g => decide (allB (gsP b (glt (nI g) (plN (mL A k) (rp st (A 9) d).1) (A 55 k) (tn (A 56 k)) (rp st (A 9) d).1) (rp st (A 9) d).2.1 (rp st (A 9) d).1 (fun x => A 58 (40 * q + x))) n 0 = 1))) (fun g hg => by rw [k2, k3, cLe k (by omega), allB_congr (q := gsP b (glt (nI g) (plN (mL A k) (rp st (A 9) d).1) (A 55 k) (tn (A 56 k)) (rp st (A 9) d).1) (rp st (A 9) d).2.1 (rp st (A 9) d).1 (fun x => A 58 (40 * q + x))) n 0 (fun i hi => by unfold gsP; rw [hc i (by omega)])])] at h9
            exact opI_mk (by decide) (by decide) (c_kinds_w h9) (m_kinds_0 b hb (by exact eb') (rp st (A 9) d).1 (by exact q1) hm (rp st (A 9) d).2.1 (by exact q2) hs ln hln (by exact eln') (by exact hl) (by exact RelK_sp hK) k hk q hq n hn (by exact hz) (by omega) (by exact hok)) (⟨ln, b, st, (RelL_g4 hL), (RelT_g4 hT), (RelK_g4 hK), (RelD_g4 hD), (RelN_g4 hN), (RelQ_g4 hQ), (RelF_g4 hF), (RelU_g4 hU), hJ, hS⟩)
          · exact opI_mk (by decide) (by decide) (c_kinds_w (c_g0_U ln hln eln k hk q hq n (by rw [rm_row hq]; exact hn) ((hL q hq).1.trans hz) (by omega) (fun z => hok (fun i hi => by have h7 := z i hi; rw [(hL q hq).2.2 i (by omega)] at h7; exact h7)))) (m_kinds_U ln hln (by exact eln') k hk q hq n hn (by exact hz) (by omega) (by exact hok)) (RelR_found 3 hr)
set_option maxHeartbeats 1000000 in
theorem op_29 {X : XX} : Op_29 X RelR := by
  intro a1 a2 I A J B F hr
  obtain ⟨ln, b, st, hL, hT, hK, hD, hN, hQ, hF, hU, hJ, hS⟩ := id hr
  obtain ⟨hln, hb, hst, eln, eln', eb, eb', e7, e7', hb1⟩ := id hD
  obtain ⟨d, hd, n1, q0, n2, n3, n9, q1, q2, q3, hp⟩ := id hN
  have hm : (rp st (A 9) d).1 ≤ 40 := Nat.le_trans (rp_1 st (A 9) d) hd
  have hs := rp_2 st (A 9) d
  have lks := RelK_lks hK
  have hl := RelK_hl hK
  have cLe := RelK_cL hK
  rcases ix3 a1 ln (by first | decide | omega) with hk | hk | ⟨k, hk, rfl⟩
  · rcases ix3 a2 6 (by first | decide | omega) with hq | hq | ⟨q, hq, rfl⟩
    · exact opI_mk (by decide) (by decide) (c_places_w (c_g1_bb a1 (Or.inl (by first | exact hk | (rw [eln]; exact hk))) a2 (Or.inl hq))) (m_places_b ln hln (by exact eln') a1 (Or.inl hk) a2) (hr)
    · exact opI_mk (by decide) (by decide) (c_places_w (c_g1_bb a1 (Or.inl (by first | exact hk | (rw [eln]; exact hk))) a2 (Or.inr hq))) (m_places_b ln hln (by exact eln') a1 (Or.inl hk) a2) (hr)
    · exact opI_mk (by decide) (by decide) (c_places_w (c_g1_bo a1 (Or.inl (by first | exact hk | (rw [eln]; exact hk))) q hq)) (m_places_b ln hln (by exact eln') a1 (Or.inl hk) (nI q)) (hr)
  · rcases ix3 a2 6 (by first | decide | omega) with hq | hq | ⟨q, hq, rfl⟩
    · exact opI_mk (by decide) (by decide) (c_places_w (c_g1_bb a1 (Or.inr (by first | exact hk | (rw [eln]; exact hk))) a2 (Or.inl hq))) (m_places_b ln hln (by exact eln') a1 (Or.inr hk) a2) (hr)
    · exact opI_mk (by decide) (by decide) (c_places_w (c_g1_bb a1 (Or.inr (by first | exact hk | (rw [eln]; exact hk))) a2 (Or.inr hq))) (m_places_b ln hln (by exact eln') a1 (Or.inr hk) a2) (hr)
    · exact opI_mk (by decide) (by decide) (c_places_w (c_g1_bo a1 (Or.inr (by first | exact hk | (rw [eln]; exact hk))) q hq)) (m_places_b ln hln (by exact eln') a1 (Or.inr hk) (nI q)) (hr)
  · rcases ix3 a2 6 (by first | decide | omega) with hq | hq | ⟨q, hq, rfl⟩
    · exact opI_mk (by decide) (by decide) (c_places_w (c_g1_ob ln hln eln k hk a2 (Or.inl hq))) (m_places_ob ln hln (by exact eln') k hk a2 (Or.inl hq)) (hr)
    · exact opI_mk (by decide) (by decide) (c_places_w (c_g1_ob ln hln eln k hk a2 (Or.inr hq))) (m_places_ob ln hln (by exact eln') k hk a2 (Or.inr hq)) (hr)
    · rcases (hL q hq).2.1 with hz | ⟨n, hn, hz⟩
      · exact opI_mk (by decide) (by decide) (c_places_w (c_g1_M ln hln eln k hk q hq ((hL q hq).1.trans hz))) (m_places_M ln hln (by exact eln') k hk q hq (by exact hz)) (RelR_found 1 hr)
      · by_cases hn8 : 20 < n
        · exact opI_mk (by decide) (by decide) (c_places_w (c_g1_S ln hln eln k hk q hq n (by rw [rm_row hq]; exact hn) ((hL q hq).1.trans hz) hn8)) (m_places_S ln hln (by exact eln') k hk q hq n hn (by exact hz) hn8) (RelR_found 5 hr)
        · by_cases hok : ∀ i, i < n → okN (nI 0) 2147483647 (A 58 (40 * q + i))
          · have hokC : ∀ i, i < n → okN (nI 0) 2147483647 (A (21 + 2 * q) i) := fun i hi => by rw [(hL q hq).2.2 i (by omega)]; exact hok i hi
            have hc : ∀ i, i < n → A (21 + 2 * q) i = (fun x => A 58 (40 * q + x)) i := fun i hi => (hL q hq).2.2 i (by omega)
            obtain ⟨k0, k1, k2, k3, _⟩ := hK k (by omega)
            obtain ⟨v0, v1, v2, v3, h9, _⟩ := c_g1_0 (X := X) (A := A) (J := J) (B := B) (F := F) b hb eb (rp st (A 9) d).1 n2 hm (rp st (A 9) d).2.1 n3 hs ln hln eln lks k hk q hq n (by rw [rm_row hq]; exact hn) ((hL q hq).1.trans hz) (by omega) hokC
            rw [orf_congr (q := (fun g => decide (allB (gsP b (glt (A 53 k) g (A 55 k) (tn (A 56 k)) (rp st (A 9) d).1) (rp st (A 9) d).2.1 (rp st (A 9) d).1 (fun x => A 58 (40 * q + x))) n 0 = 1))) (fun g hg => by rw [k0, k2, k3, allB_congr (q := gsP b (glt (A 53 k) g (A 55 k) (tn (A 56 k)) (rp st (A 9) d).1) (rp st (A 9) d).2.1 (rp st (A 9) d).1 (fun x => A 58 (40 * q + x))) n 0 (fun i hi => by unfold gsP; rw [hc i (by omega)])])] at h9
            exact opI_mk (by decide) (by decide) (c_places_w h9) (m_places_0 b hb (by exact eb') (rp st (A 9) d).1 (by exact q1) hm (rp st (A 9) d).2.1 (by exact q2) hs ln hln (by exact eln') (by exact hl) (by exact RelK_sp hK) k hk q hq n hn (by exact hz) (by omega) (by exact hok)) (⟨ln, b, st, (RelL_g4 hL), (RelT_g4 hT), (RelK_g4 hK), (RelD_g4 hD), (RelN_g4 hN), (RelQ_g4 hQ), (RelF_g4 hF), (RelU_g4 hU), hJ, hS⟩)
          · exact opI_mk (by decide) (by decide) (c_places_w (c_g1_U ln hln eln k hk q hq n (by rw [rm_row hq]; exact hn) ((hL q hq).1.trans hz) (by omega) (fun z => hok (fun i hi => by have h7 := z i hi; rw [(hL q hq).2.2 i (by omega)] at h7; exact h7)))) (m_places_U ln hln (by exact eln') k hk q hq n hn (by exact hz) (by omega) (by exact hok)) (RelR_found 3 hr)
set_option maxHeartbeats 1000000 in
theorem op_30 {X : XX} : Op_30 X RelR := by
  intro a1 a2 I A J B F hr
  obtain ⟨ln, b, st, hL, hT, hK, hD, hN, hQ, hF, hU, hJ, hS⟩ := id hr
  obtain ⟨hln, hb, hst, eln, eln', eb, eb', e7, e7', hb1⟩ := id hD
  obtain ⟨d, hd, n1, q0, n2, n3, n9, q1, q2, q3, hp⟩ := id hN
  have hm : (rp st (A 9) d).1 ≤ 40 := Nat.le_trans (rp_1 st (A 9) d) hd
  have hs := rp_2 st (A 9) d
  have lks := RelK_lks hK
  have hl := RelK_hl hK
  have cLe := RelK_cL hK
  rcases ix3 a1 ln (by first | decide | omega) with hk | hk | ⟨k, hk, rfl⟩
  · rcases ix3 a2 6 (by first | decide | omega) with hq | hq | ⟨q, hq, rfl⟩
    · exact opI_mk (by decide) (by decide) (c_speeds_w (c_g2_bb a1 (Or.inl (by first | exact hk | (rw [eln]; exact hk))) a2 (Or.inl hq))) (m_speeds_b ln hln (by exact eln') a1 (Or.inl hk) a2) (hr)
    · exact opI_mk (by decide) (by decide) (c_speeds_w (c_g2_bb a1 (Or.inl (by first | exact hk | (rw [eln]; exact hk))) a2 (Or.inr hq))) (m_speeds_b ln hln (by exact eln') a1 (Or.inl hk) a2) (hr)
    · exact opI_mk (by decide) (by decide) (c_speeds_w (c_g2_bo a1 (Or.inl (by first | exact hk | (rw [eln]; exact hk))) q hq)) (m_speeds_b ln hln (by exact eln') a1 (Or.inl hk) (nI q)) (hr)
  · rcases ix3 a2 6 (by first | decide | omega) with hq | hq | ⟨q, hq, rfl⟩
    · exact opI_mk (by decide) (by decide) (c_speeds_w (c_g2_bb a1 (Or.inr (by first | exact hk | (rw [eln]; exact hk))) a2 (Or.inl hq))) (m_speeds_b ln hln (by exact eln') a1 (Or.inr hk) a2) (hr)
    · exact opI_mk (by decide) (by decide) (c_speeds_w (c_g2_bb a1 (Or.inr (by first | exact hk | (rw [eln]; exact hk))) a2 (Or.inr hq))) (m_speeds_b ln hln (by exact eln') a1 (Or.inr hk) a2) (hr)
    · exact opI_mk (by decide) (by decide) (c_speeds_w (c_g2_bo a1 (Or.inr (by first | exact hk | (rw [eln]; exact hk))) q hq)) (m_speeds_b ln hln (by exact eln') a1 (Or.inr hk) (nI q)) (hr)
  · rcases ix3 a2 6 (by first | decide | omega) with hq | hq | ⟨q, hq, rfl⟩
    · exact opI_mk (by decide) (by decide) (c_speeds_w (c_g2_ob ln hln eln k hk a2 (Or.inl hq))) (m_speeds_ob ln hln (by exact eln') k hk a2 (Or.inl hq)) (hr)
    · exact opI_mk (by decide) (by decide) (c_speeds_w (c_g2_ob ln hln eln k hk a2 (Or.inr hq))) (m_speeds_ob ln hln (by exact eln') k hk a2 (Or.inr hq)) (hr)
    · rcases (hL q hq).2.1 with hz | ⟨n, hn, hz⟩
      · exact opI_mk (by decide) (by decide) (c_speeds_w (c_g2_M ln hln eln k hk q hq ((hL q hq).1.trans hz))) (m_speeds_M ln hln (by exact eln') k hk q hq (by exact hz)) (RelR_found 1 hr)
      · by_cases hn8 : 20 < n
        · exact opI_mk (by decide) (by decide) (c_speeds_w (c_g2_S ln hln eln k hk q hq n (by rw [rm_row hq]; exact hn) ((hL q hq).1.trans hz) hn8)) (m_speeds_S ln hln (by exact eln') k hk q hq n hn (by exact hz) hn8) (RelR_found 5 hr)
        · by_cases hok : ∀ i, i < n → okN (nI 0) 2147483647 (A 58 (40 * q + i))
          · have hokC : ∀ i, i < n → okN (nI 0) 2147483647 (A (21 + 2 * q) i) := fun i hi => by rw [(hL q hq).2.2 i (by omega)]; exact hok i hi
            have hc : ∀ i, i < n → A (21 + 2 * q) i = (fun x => A 58 (40 * q + x)) i := fun i hi => (hL q hq).2.2 i (by omega)
            obtain ⟨k0, k1, k2, k3, _⟩ := hK k (by omega)
            obtain ⟨v0, v1, v2, v3, h9, _⟩ := c_g2_0 (X := X) (A := A) (J := J) (B := B) (F := F) b hb eb (rp st (A 9) d).1 n2 hm (rp st (A 9) d).2.1 n3 hs ln hln eln lks k hk q hq n (by rw [rm_row hq]; exact hn) ((hL q hq).1.trans hz) (by omega) hokC
            rw [orf_congr (q := (fun g => decide (allB (gsP b (glt (A 53 k) (plN (mL A k) (rp st (A 9) d).1) (sI 2 g) (tn (A 56 k)) (rp st (A 9) d).1) (rp st (A 9) d).2.1 (rp st (A 9) d).1 (fun x => A 58 (40 * q + x))) n 0 = 1))) (fun g hg => by rw [k0, k3, cLe k (by omega), allB_congr (q := gsP b (glt (A 53 k) (plN (mL A k) (rp st (A 9) d).1) (sI 2 g) (tn (A 56 k)) (rp st (A 9) d).1) (rp st (A 9) d).2.1 (rp st (A 9) d).1 (fun x => A 58 (40 * q + x))) n 0 (fun i hi => by unfold gsP; rw [hc i (by omega)])])] at h9
            exact opI_mk (by decide) (by decide) (c_speeds_w h9) (m_speeds_0 b hb (by exact eb') (rp st (A 9) d).1 (by exact q1) hm (rp st (A 9) d).2.1 (by exact q2) hs ln hln (by exact eln') (by exact hl) (by exact RelK_sp hK) k hk q hq n hn (by exact hz) (by omega) (by exact hok)) (⟨ln, b, st, (RelL_g4 hL), (RelT_g4 hT), (RelK_g4 hK), (RelD_g4 hD), (RelN_g4 hN), (RelQ_g4 hQ), (RelF_g4 hF), (RelU_g4 hU), hJ, hS⟩)
          · exact opI_mk (by decide) (by decide) (c_speeds_w (c_g2_U ln hln eln k hk q hq n (by rw [rm_row hq]; exact hn) ((hL q hq).1.trans hz) (by omega) (fun z => hok (fun i hi => by have h7 := z i hi; rw [(hL q hq).2.2 i (by omega)] at h7; exact h7)))) (m_speeds_U ln hln (by exact eln') k hk q hq n hn (by exact hz) (by omega) (by exact hok)) (RelR_found 3 hr)
