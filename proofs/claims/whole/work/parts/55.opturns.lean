/-! the fewest turns: both sides -/
theorem lMn_cap {N N' B : Nat} {g c : Nat → Nat → Nat} {D D' : Nat → Nat} {k s : Nat} (hB : B < N) (hB' : B < N') (h : ∀ j, j < 13 → (N ≤ lBk N g c D k s j ∧ N' ≤ lBk N' g c D' k s j) ∨ (lBk N g c D k s j = lBk N' g c D' k s j ∧ lBk N g c D k s j ≤ B)) (j : Nat) (hj : j ≤ 13) : (lMn N g c D k s j = N ∧ lMn N' g c D' k s j = N') ∨ (lMn N g c D k s j = lMn N' g c D' k s j ∧ lMn N g c D k s j ≤ B) := by
  induction j with
  | zero => exact Or.inl ⟨rfl, rfl⟩
  | succ j ih =>
    have h1 := ih (by omega)
    have h2 := h j (by omega)
    show (min (lMn N g c D k s j) (lBk N g c D k s j) = N ∧ min (lMn N' g c D' k s j) (lBk N' g c D' k s j) = N') ∨ (min (lMn N g c D k s j) (lBk N g c D k s j) = min (lMn N' g c D' k s j) (lBk N' g c D' k s j) ∧ min (lMn N g c D k s j) (lBk N g c D k s j) ≤ B)
    omega
theorem lBk_cap {N N' B : Nat} {g c : Nat → Nat → Nat} {D D' : Nat → Nat} {k s j : Nat} (hc : c s j ≤ 10) (hD : (D (tN s j) = N ∧ D' (tN s j) = N') ∨ (D (tN s j) = D' (tN s j) ∧ D (tN s j) ≤ B)) : (N ≤ lBk N g c D k s j ∧ N' ≤ lBk N' g c D' k s j) ∨ (lBk N g c D k s j = lBk N' g c D' k s j ∧ lBk N g c D k s j ≤ B + 10) := by
  unfold lBk
  by_cases h : g k (tN s j) = 0
  · rw [if_pos h, if_pos h]
    exact Or.inl ⟨Nat.le_refl _, Nat.le_refl _⟩
  · rw [if_neg h, if_neg h]
    omega
theorem dpR_cap {N N' : Nat} {g c : Nat → Nat → Nat} {n : Nat} (hc : ∀ s j, j < 13 → c s j ≤ 10) (hN : 1000 ≤ N) (hN' : 1000 ≤ N') (i : Nat) (hi : i ≤ 8) (s : Nat) : (dpR N g c n i s = N ∧ dpR N' g c n i s = N') ∨ (dpR N g c n i s = dpR N' g c n i s ∧ dpR N g c n i s ≤ 10 * i) := by
  induction i generalizing s with
  | zero => exact Or.inr ⟨rfl, Nat.le_refl _⟩
  | succ i ih =>
    refine lMn_cap (by omega) (by omega) (fun j hj => ?_) 13 (Nat.le_refl _)
    have h := lBk_cap (N := N) (N' := N') (B := 10 * i) (g := g) (c := c) (k := n - (i + 1)) (s := s) (j := j) (D := dpR N g c n i) (D' := dpR N' g c n i) (hc s j hj) (ih (by omega) (tN s j))
    omega
theorem dpR_congr {N : Nat} {g g' c : Nat → Nat → Nat} {n : Nat} (h : g = g') : dpR N g c n = dpR N g' c n := by rw [h]
theorem c_turns_b {X : XX} {I A : Nat → Nat → Int32} {J B : Nat → Nat → Int64} {F : Nat → Nat} (x : Int32) (hx : x < 0 ∨ I 0 12 ≤ x) (y : Int32) : x_ev X xT 6 104 [.ref 0, .int x, .int y] (HX I A J B F) (some (.int (-1))) (HX I A J B F) := by
  refine q_ev (L := [some (.ref 0), some (.int x), some (.int y), none]) tX8_turns (Nat.le_of_ble_eq_true rfl) rfl ?_
  refine q_aload_n rfl rfl ?_
  refine q_iload_n rfl rfl ?_
  refine q_callV1 rfl hx_0 (Nat.le_of_ble_eq_true rfl) (Nat.le_of_ble_eq_true rfl) (sX8_lightAtN x hx) ?_
  refine q_astore_nN (L' := [_, _, _, _]) rfl rfl ?_
  refine q_aload_nN rfl rfl ?_
  refine q_ifnullN rfl ?_
  refine q_iconst (v := (-1)) rfl rfl ?_
  refine q_iret rfl rfl ?_
  exact ⟨rfl, rfl⟩
theorem c_turns_n {X : XX} {I A : Nat → Nat → Int32} {J B : Nat → Nat → Int64} {F : Nat → Nat} (ln : Nat) (hln : ln ≤ 5) (eln : I 0 12 = nI ln) (k : Nat) (hk : k < ln) (y : Int32) (hy : y < nI 1 ∨ nI 8 < y) : x_ev X xT 6 104 [.ref 0, .int (nI k), .int y] (HX I A J B F) (some (.int (-1))) (HX I A J B F) := by
  refine q_ev (L := [some (.ref 0), some (.int (nI k)), some (.int y), none]) tX8_turns (Nat.le_of_ble_eq_true rfl) rfl ?_
  refine q_aload_n rfl rfl ?_
  refine q_iload_n rfl rfl ?_
  refine q_callV1 rfl hx_0 (Nat.le_of_ble_eq_true rfl) (Nat.le_of_ble_eq_true rfl) (sX8_lightAt k ln hk hln eln) ?_
  refine q_astore_n (L' := [_, _, _, _]) rfl rfl ?_
  refine q_aload_n rfl rfl ?_
  refine q_ifnull rfl ?_
  refine q_iload_n rfl rfl ?_
  refine q_callS1 rfl rfl (Nat.le_of_ble_eq_true rfl) (Nat.le_of_ble_eq_true rfl) (sK_nofX y hy) ?_
  refine q_if_eqN rfl (by omega) (fun hc14 => ?_) (fun hc14 => ?_)
  · exact absurd hc14 (by decide)
  · refine q_iconst (v := (-1)) rfl rfl ?_
    refine q_iret rfl rfl ?_
    exact ⟨rfl, rfl⟩
theorem c_turns_0 {X : XX} {I A : Nat → Nat → Int32} {J B : Nat → Nat → Int64} {F : Nat → Nat} (hS : RelS F) (b : Nat) (hb : b ≤ 5) (eb : I 7 0 = nI b) (m : Nat) (em : I 8 2 = nI m) (hm : m ≤ 40) (s : Nat) (es : I 8 3 = nI s) (hs : s < 24) (st : Nat) (hst : st < 24) (e7 : I 7 1 = nI st) (ln : Nat) (hln : ln ≤ 5) (eln : I 0 12 = nI ln) (lks : ∀ i, i < 5 → lkOK I (40 + i)) (k : Nat) (hk : k < ln) (n : Nat) (n1 : 1 ≤ n) (n8 : n ≤ 8)  : ∃ g1 g2, x_ev X xT 6 104 [.ref 0, .int (nI k), .int (nI n)] (HX I A J B F) (some (.int (if (dpR 536870912 (fun i f => gnN b (cL I (40 + k)) (nI f) (m + i)) (cN 1 st) n n s) < 536870912 then nI (dpR 536870912 (fun i f => gnN b (cL I (40 + k)) (nI f) (m + i)) (cN 1 st) n n s) else -9))) (HX I (ua (ua A 12 g1) (F 0) g2) J B F) ∧ True := by
  have hF9 := F_lt hS
  obtain ⟨g1, h7, hV⟩ := sX7_fill (X := X) (I := I) (J := J) (B := B) (F := F) (A := A) b hb eb k (by omega) (lks k (by omega)) m n (by omega) n8
  obtain ⟨g2, h8, hG⟩ := sX0_least (X := X) (I := I) (J := J) (B := B) (F := F) (A := ua A 12 g1) hS st hst e7 b m n (cL I (40 + k)) (lks k (by omega)).1.2 hV n8 n1 s 1 hs (by decide)
  obtain ⟨r_, h_, he_, g1, g2, hr_, hh_, hf_⟩ := q_evx (X := X) (d := 5) (as := [.ref 0, .int (nI k), .int (nI n)]) (h := (HX I A J B F)) (P := fun r_ h_ => ∃ g1 g2, r_ = (some (.int (if (dpR 536870912 (fun i f => gnN b (cL I (40 + k)) (nI f) (m + i)) (cN 1 st) n n s) < 536870912 then nI (dpR 536870912 (fun i f => gnN b (cL I (40 + k)) (nI f) (m + i)) (cN 1 st) n n s) else -9))) ∧ h_ = (HX I (ua (ua A 12 g1) (F 0) g2) J B F) ∧ True) (L := [some (.ref 0), some (.int (nI k)), some (.int (nI n)), none]) tX8_turns (Nat.le_of_ble_eq_true rfl) rfl (by
    refine q_aload_n rfl rfl ?_
    refine q_iload_n rfl rfl ?_
    refine q_callV1 rfl hx_0 (Nat.le_of_ble_eq_true rfl) (Nat.le_of_ble_eq_true rfl) (sX8_lightAt k ln hk hln eln) ?_
    refine q_astore_n (L' := [_, _, _, _]) rfl rfl ?_
    refine q_aload_n rfl rfl ?_
    refine q_ifnull rfl ?_
    refine q_iload_n rfl rfl ?_
    refine q_callS1 rfl rfl (Nat.le_of_ble_eq_true rfl) (Nat.le_of_ble_eq_true rfl) (sK_nof0 n n1 n8) ?_
    refine q_if_eqN rfl (by omega) (fun hc14 => ?_) (fun hc14 => ?_)
    · refine q_aload_n rfl rfl ?_
      refine q_getfield rfl hx_0 rfl ?_
      refine q_aload_n rfl rfl ?_
      refine q_aload_n rfl rfl ?_
      refine q_getfield rfl hx_0 rfl ?_
      refine q_aload_n rfl rfl ?_
      refine q_getfield rfl hx_0 rfl ?_
      refine q_callV0 rfl hx_8 (Nat.le_of_ble_eq_true rfl) (Nat.le_of_ble_eq_true rfl) (sN_now em) ?_
      refine q_iload_n rfl rfl ?_
      refine q_callV4 rfl hx_11 (Nat.le_of_ble_eq_true rfl) (Nat.le_of_ble_eq_true rfl) (h7) ?_
      refine q_aload_n rfl rfl ?_
      refine q_getfield rfl hx_0 rfl ?_
      refine q_aload_n rfl rfl ?_
      refine q_getfield rfl hx_0 rfl ?_
      refine q_callV0 rfl hx_8 (Nat.le_of_ble_eq_true rfl) (Nat.le_of_ble_eq_true rfl) (sN_first es) ?_
      refine q_iload_n rfl rfl ?_
      refine q_iconst (v := nI 1) rfl rfl ?_
      refine q_callV3 rfl hx_13 (Nat.le_of_ble_eq_true rfl) (Nat.le_of_ble_eq_true rfl) (h8) ?_
      refine q_iret rfl rfl ?_
      exact ⟨g1, g2, rfl, rfl, trivial⟩
    · exact absurd hc14 (by decide))
  subst hr_
  subst hh_
  exact ⟨g1, g2, he_, hf_⟩
theorem m_turns_b {X : XX} {I A : Nat → Nat → Int32} {J B : Nat → Nat → Int64} {F : Nat → Nat} (ln : Nat) (hln : ln ≤ 5) (eln : I 51 3 = nI ln) (x : Int32) (hx : x < 0 ∨ nI ln ≤ x) (y : Int32) : x_ev X xT 6 217 [.ref 51, .int x, .int y] (HX I A J B F) (some (.int (-1))) (HX I A J B F) := by
  refine q_ev (L := [some (.ref 51), some (.int x), some (.int y)]) tX9_turns (Nat.le_of_ble_eq_true rfl) rfl ?_
  refine q_aload_n rfl rfl ?_
  refine q_iload_n rfl rfl ?_
  refine q_callV1 rfl hx_51 (Nat.le_of_ble_eq_true rfl) (Nat.le_of_ble_eq_true rfl) (sX9_isLight_0 x ln hln eln hx) ?_
  refine q_if_eqN rfl (by omega) (fun hc5 => ?_) (fun hc5 => ?_)
  · refine q_iconst (v := (-1)) rfl rfl ?_
    refine q_iret rfl rfl ?_
    exact ⟨rfl, rfl⟩
  · exact absurd hc5 (by decide)
theorem m_turns_n {X : XX} {I A : Nat → Nat → Int32} {J B : Nat → Nat → Int64} {F : Nat → Nat} (ln : Nat) (hln : ln ≤ 5) (eln : I 51 3 = nI ln) (k : Nat) (hk : k < ln) (y : Int32) (hy : y < nI 1 ∨ nI 8 < y) : x_ev X xT 6 217 [.ref 51, .int (nI k), .int y] (HX I A J B F) (some (.int (-1))) (HX I A J B F) := by
  refine q_ev (L := [some (.ref 51), some (.int (nI k)), some (.int y)]) tX9_turns (Nat.le_of_ble_eq_true rfl) rfl ?_
  refine q_aload_n rfl rfl ?_
  refine q_iload_n rfl rfl ?_
  refine q_callV1 rfl hx_51 (Nat.le_of_ble_eq_true rfl) (Nat.le_of_ble_eq_true rfl) (sX9_isLight_1 k ln hk hln eln) ?_
  refine q_if_eqN rfl (by omega) (fun hc5 => ?_) (fun hc5 => ?_)
  · exact absurd hc5 (by decide)
  · refine q_iload_n rfl rfl ?_
    refine q_i2l rfl ?_
    refine q_lconst (v := 1) rfl rfl ?_
    refine q_ldc2_w (v := 8) rfl rfl ?_
    refine q_callS3 rfl rfl (Nat.le_of_ble_eq_true rfl) (Nat.le_of_ble_eq_true rfl) (sX9_in _ _ _) ?_
    refine q_cn (f_in_0 (lo := nI 1) (hi := nI 8) rfl rfl hy) ?_
    refine q_if_neN rfl (by omega) (fun hc17 => ?_) (fun hc17 => ?_)
    · exact absurd hc17 (by decide)
    · refine q_iconst (v := (-1)) rfl rfl ?_
      refine q_iret rfl rfl ?_
      exact ⟨rfl, rfl⟩
theorem m_turns_0 {X : XX} {I A : Nat → Nat → Int32} {J B : Nat → Nat → Int64} {F : Nat → Nat} (b : Nat) (hb : b ≤ 5) (eb : I 51 1 = nI b) (m : Nat) (em : A 52 1 = nI m) (hm : m ≤ 40) (s : Nat) (es : A 52 2 = nI s) (hs : s < 24) (st : Nat) (hst : st < 24) (est : I 51 2 = nI st) (ln : Nat) (hln : ln ≤ 5) (eln : I 51 3 = nI ln) (hl : mLk A) (k : Nat) (hk : k < ln) (n : Nat) (n1 : 1 ≤ n) (n8 : n ≤ 8)  : ∃ e4 g, x_ev X xT 6 217 [.ref 51, .int (nI k), .int (nI n)] (HX I A J B F) (some (.int (if (dpR 100000 (fun i f => gnN b (mL A k) (nI f) (m + i)) (cN 1 st) n n s) < 100000 then nI (dpR 100000 (fun i f => gnN b (mL A k) (nI f) (m + i)) (cN 1 st) n n s) else -9))) (HX I (ua (ua A 64 e4) 63 g) J B F) ∧ True := by
  obtain ⟨e4, g, h8, hE, hG⟩ := sX9_layLeast (X := X) (I := I) (J := J) (B := B) (F := F) (A := A) b hb eb m em hm k (by omega) hl st hst est n 1 n1 n8 (by decide)
  obtain ⟨r_, h_, he_, e4, g, hr_, hh_, hf_⟩ := q_evx (X := X) (d := 5) (as := [.ref 51, .int (nI k), .int (nI n)]) (h := (HX I A J B F)) (P := fun r_ h_ => ∃ e4 g, r_ = (some (.int (if (dpR 100000 (fun i f => gnN b (mL A k) (nI f) (m + i)) (cN 1 st) n n s) < 100000 then nI (dpR 100000 (fun i f => gnN b (mL A k) (nI f) (m + i)) (cN 1 st) n n s) else -9))) ∧ h_ = (HX I (ua (ua A 64 e4) 63 g) J B F) ∧ True) (L := [some (.ref 51), some (.int (nI k)), some (.int (nI n))]) tX9_turns (Nat.le_of_ble_eq_true rfl) rfl (by
    refine q_aload_n rfl rfl ?_
    refine q_iload_n rfl rfl ?_
    refine q_callV1 rfl hx_51 (Nat.le_of_ble_eq_true rfl) (Nat.le_of_ble_eq_true rfl) (sX9_isLight_1 k ln hk hln eln) ?_
    refine q_if_eqN rfl (by omega) (fun hc5 => ?_) (fun hc5 => ?_)
    · exact absurd hc5 (by decide)
    · refine q_iload_n rfl rfl ?_
      refine q_i2l rfl ?_
      refine q_lconst (v := 1) rfl rfl ?_
      refine q_ldc2_w (v := 8) rfl rfl ?_
      refine q_callS3 rfl rfl (Nat.le_of_ble_eq_true rfl) (Nat.le_of_ble_eq_true rfl) (sX9_in _ _ _) ?_
      refine q_cn (f_in_1 (lo := nI 1) (hi := nI 8) rfl rfl (nI_nlt (by omega) (by omega)) (nI_nlt (by omega) (by omega))) ?_
      refine q_if_neN rfl (by omega) (fun hc17 => ?_) (fun hc17 => ?_)
      · refine q_aload_n rfl rfl ?_
        refine q_iload_n rfl rfl ?_
        refine q_iload_n rfl rfl ?_
        refine q_iconst (v := nI 1) rfl rfl ?_
        refine q_callV3 rfl hx_51 (Nat.le_of_ble_eq_true rfl) (Nat.le_of_ble_eq_true rfl) (h8) ?_
        refine q_aload_n rfl rfl ?_
        refine q_getfield rfl hx_51 rfl ?_
        refine q_aload_n rfl rfl ?_
        refine q_getfield rfl hx_51 rfl ?_
        refine q_iconst (v := nI 2) rfl rfl ?_
        refine q_iald rfl (by decide) hx_52 (by decide) (by decide) ((show ua (ua A 64 e4) 63 g 52 2 = nI s from es)) ?_
        refine q_iald rfl (by decide) hx_63 (by omega) (by decide) ((show ua (ua A 64 e4) 63 g 63 s = nI (dpR 100000 (fun i f => gnN b (mL A k) (nI f) (m + i)) (cN 1 st) n n s) from by rw [ua_eq]; have h7 := hG n (Nat.le_refl _) (by omega) s hs; rw [Nat.sub_self, Nat.mul_zero, Nat.zero_add] at h7; exact h7)) ?_
        refine q_ldc (v := nI 100000) rfl rfl ?_
        refine q_icmp_ltN rfl (by have := dpR_le (N := 100000) (g := (fun i f => gnN b (mL A k) (nI f) (m + i))) (c := cN 1 st) (n := n) n s; omega) (by omega) (fun hc42 => ?_) (fun hc42 => ?_)
        · refine q_aload_n rfl rfl ?_
          refine q_getfield rfl hx_51 rfl ?_
          refine q_aload_n rfl rfl ?_
          refine q_getfield rfl hx_51 rfl ?_
          refine q_iconst (v := nI 2) rfl rfl ?_
          refine q_iald rfl (by decide) hx_52 (by decide) (by decide) ((show ua (ua A 64 e4) 63 g 52 2 = nI s from es)) ?_
          refine q_iald rfl (by decide) hx_63 (by omega) (by decide) ((show ua (ua A 64 e4) 63 g 63 s = nI (dpR 100000 (fun i f => gnN b (mL A k) (nI f) (m + i)) (cN 1 st) n n s) from by rw [ua_eq]; have h7 := hG n (Nat.le_refl _) (by omega) s hs; rw [Nat.sub_self, Nat.mul_zero, Nat.zero_add] at h7; exact h7)) ?_
          refine q_iret rfl rfl ?_
          exact ⟨e4, g, by first | rw [if_neg (by omega)] | rw [if_pos (by omega)], rfl, trivial⟩
        · refine q_bipush (v := (-9)) rfl rfl ?_
          refine q_goto rfl ?_
          refine q_iret rfl rfl ?_
          exact ⟨e4, g, by first | rw [if_neg (by omega)] | rw [if_pos (by omega)], rfl, trivial⟩
      · exact absurd hc17 (by decide))
  subst hr_
  subst hh_
  exact ⟨e4, g, he_, hf_⟩
set_option maxHeartbeats 1000000 in
theorem op_24 {X : XX} : Op_24 X RelR := by
  intro a1 y I A J B F hr
  obtain ⟨ln, b, st, hL, hT, hK, hD, hN, hQ, hF, hU, hJ, hS⟩ := id hr
  obtain ⟨hln, hb, hst, eln, eln', eb, eb', e7, e7', hb1⟩ := id hD
  obtain ⟨d, hd, n1, q0, n2, n3, n9, q1, q2, q3, hp⟩ := id hN
  have hm : (rp st (A 9) d).1 ≤ 40 := Nat.le_trans (rp_1 st (A 9) d) hd
  have hs := rp_2 st (A 9) d
  have lks := RelK_lks hK
  have hl := RelK_hl hK
  have cLe := RelK_cL hK
  rcases ix3 a1 ln (by first | decide | omega) with hk | hk | ⟨k, hk, rfl⟩
  · exact opI_mk (by decide) (by decide) (c_turns_b a1 (Or.inl (by first | exact hk | (rw [eln]; exact hk))) y) (m_turns_b ln hln (by exact eln') a1 (Or.inl hk) y) (hr)
  · exact opI_mk (by decide) (by decide) (c_turns_b a1 (Or.inr (by first | exact hk | (rw [eln]; exact hk))) y) (m_turns_b ln hln (by exact eln') a1 (Or.inr hk) y) (hr)
  · by_cases y1 : y < nI 1
    · exact opI_mk (by decide) (by decide) (c_turns_n ln hln eln k hk y (Or.inl y1)) (m_turns_n ln hln (by exact eln') k hk y (Or.inl y1)) (hr)
    by_cases y8 : nI 8 < y
    · exact opI_mk (by decide) (by decide) (c_turns_n ln hln eln k hk y (Or.inr y8)) (m_turns_n ln hln (by exact eln') k hk y (Or.inr y8)) (hr)
    obtain ⟨n, hn8, rfl⟩ := nI_of2 (M := nI 8) (n := 8) rfl (fun w => y1 (Int32.lt_trans w (by decide))) (Int32.not_lt.mp y8)
    have hn1 : 1 ≤ n := by
      rw [nI_ltI (by omega) (by omega)] at y1
      omega
    have hF9 := F_lt hS
    obtain ⟨g1, g2, h9, _⟩ := c_turns_0 (X := X) (A := A) (J := J) (B := B) (F := F) hS b hb eb (rp st (A 9) d).1 n2 hm (rp st (A 9) d).2.1 n3 hs st hst e7 ln hln eln lks k hk n hn1 hn8
    rw [cLe k (by omega)] at h9
    obtain ⟨e4, g, h10, _⟩ := m_turns_0 (X := X) (I := I) (A := ua (ua A 12 g1) (F 0) g2) (J := J) (B := B) (F := F) b hb eb' (rp st (A 9) d).1 (by rw [ua_ne (by omega)]; exact q1) hm (rp st (A 9) d).2.1 (by rw [ua_ne (by omega)]; exact q2) hs st hst e7' ln hln eln' (by unfold mLk mL; rw [ua_ne (x := 53) (by omega), ua_ne (x := 54) (by omega), ua_ne (x := 55) (by omega), ua_ne (x := 56) (by omega)]; exact hl) k hk n hn1 hn8
    rw [show mL (ua (ua A 12 g1) (F 0) g2) k = mL A k from by unfold mL; rw [ua_ne (x := 53) (by omega), ua_ne (x := 54) (by omega), ua_ne (x := 55) (by omega), ua_ne (x := 56) (by omega)]; rfl] at h10
    have hcap := dpR_cap (N := 536870912) (N' := 100000) (g := fun i f => gnN b (mL A k) (nI f) ((rp st (A 9) d).1 + i)) (c := cN 1 st) (n := n) (fun s j hj => cN_le 1 st s j hj) (by decide) (by decide) n hn8 (rp st (A 9) d).2.1
    have hv : (if dpR 536870912 (fun i f => gnN b (mL A k) (nI f) ((rp st (A 9) d).1 + i)) (cN 1 st) n n (rp st (A 9) d).2.1 < 536870912 then nI (dpR 536870912 (fun i f => gnN b (mL A k) (nI f) ((rp st (A 9) d).1 + i)) (cN 1 st) n n (rp st (A 9) d).2.1) else -9) = (if dpR 100000 (fun i f => gnN b (mL A k) (nI f) ((rp st (A 9) d).1 + i)) (cN 1 st) n n (rp st (A 9) d).2.1 < 100000 then nI (dpR 100000 (fun i f => gnN b (mL A k) (nI f) ((rp st (A 9) d).1 + i)) (cN 1 st) n n (rp st (A 9) d).2.1) else -9) := by
      rcases hcap with ⟨h1, h2⟩ | ⟨h1, h2⟩
      · rw [h1, h2]
        rfl
      · rw [if_pos (by omega), if_pos (by omega), h1]
    rw [hv] at h9
    exact opI_mk (by decide) (by decide) (h9) (h10) (⟨ln, b, st, (by repeat first | exact hL | refine RelL_n4 ?_ | refine RelL_u2 (by omega) ?_ | refine RelL_ua (by omega) ?_), (by repeat first | exact hT | refine RelT_n4 ?_ | refine RelT_u2 (by omega) ?_ | refine RelT_ua (by omega) ?_), (by repeat first | exact hK | refine RelK_n4 ?_ | refine RelK_u2 (by omega) ?_ | refine RelK_ua (by omega) ?_), (by repeat first | exact hD | refine RelD_n4 ?_ | refine RelD_u2 (by omega) ?_), (by repeat first | exact hN | refine RelN_u2 (by omega) ?_ | refine RelN_ua (by omega) ?_), (by repeat first | exact hQ | refine RelQ_n4 ?_ | refine RelQ_u2 (by omega) ?_ | refine RelQ_ua (by omega) ?_), (by repeat first | exact hF | refine RelF_n4 ?_ | refine RelF_u2 (by omega) ?_ | refine RelF_ua (by omega) ?_), (by repeat first | exact hU | refine RelU_n4 ?_ | refine RelU_u2 (by omega) ?_), hJ, hS⟩)
