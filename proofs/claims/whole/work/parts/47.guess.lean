/-! guesses by notes: both sides, case by case -/
def allB (p : Nat → Bool) : Nat → Nat → Nat
  | 0, _ => 1
  | n + 1, k => if p k = true then allB p n (k + 1) else 0
theorem allB_le (p : Nat → Bool) : ∀ n k, allB p n k ≤ 1 := by
  intro n
  induction n with
  | zero => intro k; exact Nat.le_refl _
  | succ n ih =>
    intro k
    unfold allB
    split
    · exact ih _
    · exact Nat.zero_le _
theorem allB_s {p : Nat → Bool} {N k : Nat} (hk : k < N) : allB p (N - k) k = if p k = true then allB p (N - (k + 1)) (k + 1) else 0 := by
  rw [show N - k = (N - (k + 1)) + 1 by omega]
  rfl
theorem allB_congr {p q : Nat → Bool} : ∀ n k, (∀ i, i < k + n → p i = q i) → allB p n k = allB q n k := by
  intro n
  induction n with
  | zero => intro k h; rfl
  | succ n ih =>
    intro k h
    unfold allB
    rw [h k (by omega), ih (k + 1) (fun i hi => h i (by omega))]
def gsP (b : Nat) (l : LT) (s m : Nat) (g : Nat → Int32) (k : Nat) : Bool := decide (nI (gnN b l (nI s) (m + k)) = g k)
def glt (kd : Int32) (p : Nat) (sp : Int32) (br m : Nat) : LT := (kd, nI (rdN (nI p - f_mv kd sp (nI m))), sp, br)
theorem gs_pl {kd sp : Int32} {p br m k : Nat} (hs : spOK sp) (hp : p < 24) (hm : m ≤ 100) (hk : k ≤ 100) : plN (glt kd p sp br m) (m + k) = rdN (nI p + f_mv kd sp (nI (m + k)) - f_mv kd sp (nI m)) := by
  have h1 := plN_Z (l := glt kd p sp br m) hs (rdN_lt (nI p - f_mv kd sp (nI m))) rfl (m := m + k) (by omega)
  have e1 := mvZ_eq (kd := kd) hs (m := m + k) (by omega)
  have e2 := mvZ_eq (kd := kd) hs (m := m) (by omega)
  have b1 := mvZ_le (kd := kd) hs (m := m + k) (by omega)
  have b2 := mvZ_le (kd := kd) hs (m := m) (by omega)
  have h2 : (rdN (nI p - f_mv kd sp (nI m)) : Int) = ((p : Int) - mvZ kd sp.toInt m) % 24 := by
    unfold rdN
    rw [Int32.toInt_sub, e2, nI_toInt (by omega), f_small (by omega) (by omega)]
    omega
  have h3 : (rdN (nI p + f_mv kd sp (nI (m + k)) - f_mv kd sp (nI m)) : Int) = ((p : Int) + mvZ kd sp.toInt (m + k) - mvZ kd sp.toInt m) % 24 := by
    unfold rdN
    rw [Int32.toInt_sub, Int32.toInt_add, e1, e2, nI_toInt (by omega), f_small (z := (p : Int) + mvZ kd sp.toInt (m + k)) (by omega) (by omega), f_small (by omega) (by omega)]
    omega
  have h4 : (glt kd p sp br m).1 = kd := rfl
  have h5 : (glt kd p sp br m).2.2.1 = sp := rfl
  rw [h4, h5] at h1
  omega
def g4 (I : Nat → Nat → Int32) (v0 v1 v2 v3 : Int32) : Nat → Nat → Int32 := u2 (u2 (u2 (u2 I 6 0 v0) 6 1 v1) 6 2 v2) 6 3 v3
theorem g4_ne {I : Nat → Nat → Int32} {v0 v1 v2 v3 : Int32} {x y : Nat} (h : x ≠ 6) : g4 I v0 v1 v2 v3 x y = I x y := by
  unfold g4
  rw [u2_ne (Or.inl h), u2_ne (Or.inl h), u2_ne (Or.inl h), u2_ne (Or.inl h)]
theorem g4_g4 {I : Nat → Nat → Int32} {v0 v1 v2 v3 w0 w1 w2 w3 : Int32} : g4 (g4 I v0 v1 v2 v3) w0 w1 w2 w3 = g4 I w0 w1 w2 w3 := by
  funext x y
  by_cases h : x = 6
  · subst h
    unfold g4 u2
    by_cases h3 : y = 3
    · rw [if_pos ⟨rfl, h3⟩, if_pos ⟨rfl, h3⟩]
    · by_cases h2 : y = 2
      · subst h2
        rfl
      · by_cases h1 : y = 1
        · subst h1
          rfl
        · by_cases h0 : y = 0
          · subst h0
            rfl
          · rw [if_neg (fun z => h3 z.2), if_neg (fun z => h2 z.2), if_neg (fun z => h1 z.2), if_neg (fun z => h0 z.2), if_neg (fun z => h3 z.2), if_neg (fun z => h2 z.2), if_neg (fun z => h1 z.2), if_neg (fun z => h0 z.2), if_neg (fun z => h3 z.2), if_neg (fun z => h2 z.2), if_neg (fun z => h1 z.2), if_neg (fun z => h0 z.2)]
  · rw [g4_ne h, g4_ne h, g4_ne h]
theorem g4_same {I : Nat → Nat → Int32} : g4 I (I 6 0) (I 6 1) (I 6 2) (I 6 3) = I := by
  funext x y
  unfold g4 u2
  by_cases h3 : x = 6 ∧ y = 3
  · rw [if_pos h3, h3.1, h3.2]
  · rw [if_neg h3]
    by_cases h2 : x = 6 ∧ y = 2
    · rw [if_pos h2, h2.1, h2.2]
    · rw [if_neg h2]
      by_cases h1 : x = 6 ∧ y = 1
      · rw [if_pos h1, h1.1, h1.2]
      · rw [if_neg h1]
        by_cases h0 : x = 6 ∧ y = 0
        · rw [if_pos h0, h0.1, h0.2]
        · rw [if_neg h0]
theorem cL_g {I : Nat → Nat → Int32} {v0 v1 v2 v3 : Int32} {k : Nat} : cL (g4 I v0 v1 v2 v3) (40 + k) = cL I (40 + k) := by
  unfold cL
  rw [g4_ne (by omega), g4_ne (by omega), g4_ne (by omega), g4_ne (by omega)]
theorem lk_g {I : Nat → Nat → Int32} {v0 v1 v2 v3 : Int32} {k : Nat} (h : lkOK I (40 + k)) : lkOK (g4 I v0 v1 v2 v3) (40 + k) := by
  unfold lkOK
  rw [cL_g, g4_ne (by omega)]
  exact h
theorem sI_m2 (g : Nat) : nI g + (-2) = sI 2 g := by
  unfold sI
  rw [Int32.sub_eq_add_neg]
  rfl
theorem sI_p2 (g : Nat) : sI 2 g + nI 2 = nI g := by
  unfold sI
  exact Int32.sub_add_cancel _ _
theorem spOK_g {g : Nat} (h : g < 6) : spOK (sI 2 g) := by
  unfold spOK
  rw [sI_toInt (by omega) (by omega)]
  omega
theorem kd_g {g : Nat} (h : g < 6) : f_kd (nI g) := by
  unfold f_kd
  rcases (show g = 0 ∨ g = 1 ∨ g = 2 ∨ g = 3 ∨ g = 4 ∨ g = 5 by omega) with rfl | rfl | rfl | rfl | rfl | rfl
  · exact Or.inl rfl
  · exact Or.inr (Or.inl rfl)
  · exact Or.inr (Or.inr (Or.inl rfl))
  · exact Or.inr (Or.inr (Or.inr (Or.inl rfl)))
  · exact Or.inr (Or.inr (Or.inr (Or.inr (Or.inl rfl))))
  · exact Or.inr (Or.inr (Or.inr (Or.inr (Or.inr rfl))))
theorem sX8_guessFits {X : XX} {I A : Nat → Nat → Int32} {J B : Nat → Nat → Int64} {F : Nat → Nat} (b : Nat) (hb : b ≤ 5) (eb : I 7 0 = nI b) (m : Nat) (em : I 8 2 = nI m) (hm : m ≤ 40) (s : Nat) (es : I 8 3 = nI s) (hs : s < 24) (lk6 : lkOK I 6) (q : Nat) (hq : q < 10) (n : Nat) (hn : n ≤ rm q) (hz : I (20 + 2 * q) 1 = nI n) (n20 : n ≤ 20)  : x_ev X xT 6 138 [.ref 0, .ref (20 + 2 * q)] (HX I A J B F) (some (.int (nI (allB (gsP b (cL I 6) s m (A (21 + 2 * q))) n 0)))) (HX I A J B F) := by
  refine q_ev (L := [some (.ref 0), some (.ref (20 + 2 * q)), none]) tX8_guessFits (Nat.le_of_ble_eq_true rfl) rfl ?_
  refine q_iconst (v := nI 0) rfl rfl ?_
  refine q_istore_n (L' := [_, _, _]) rfl rfl ?_
  refine q_up (Inv := fun k L h => L = [some (.ref 0), some (.ref (20 + 2 * q)), some (.int (nI k))] ∧ h = HX I A J B F ∧ allB (gsP b (cL I 6) s m (A (21 + 2 * q))) (n - k) k = allB (gsP b (cL I 6) s m (A (21 + 2 * q))) n 0) (n) (fun k L h hk_k hi_k ih_k => ?_) (fun L h hi_k => ?_) (0) _ _ (by omega) (⟨rfl, rfl, rfl⟩)
  · obtain ⟨rfl, rfl, hr⟩ := hi_k
    refine q_iload_n rfl rfl ?_
    refine q_aload_n rfl rfl ?_
    refine q_callV0 rfl (hx_line q hq) (Nat.le_of_ble_eq_true rfl) (Nat.le_of_ble_eq_true rfl) (sL_size q hq hz) ?_
    refine q_icmp_geN rfl (by omega) (by omega) (fun hcks7 => ?_) (fun hcks7 => ?_)
    · omega
    · refine q_aload_n rfl rfl ?_
      refine q_aload_n rfl rfl ?_
      refine q_getfield rfl hx_0 rfl ?_
      refine q_iload_n rfl rfl ?_
      refine q_callV2 rfl hx_0 (Nat.le_of_ble_eq_true rfl) (Nat.le_of_ble_eq_true rfl) (sX8_gainIn b hb eb m em (by omega) s es 6 hx_6 lk6 k (by omega)) ?_
      refine q_aload_n rfl rfl ?_
      refine q_iload_n rfl rfl ?_
      refine q_callV1 rfl (hx_line q hq) (Nat.le_of_ble_eq_true rfl) (Nat.le_of_ble_eq_true rfl) (sL_read q hq n hn hz k hk_k) ?_
      refine q_icmp_eq rfl (fun hcks24 => ?_) (fun hcks24 => ?_)
      · refine q_iincN (c := 1) (L' := [_, _, _]) rfl rfl rfl rfl ?_
        refine q_goto rfl ?_
        exact ih_k _ _ (⟨rfl, rfl, by rw [← hr, allB_s hk_k, if_pos (show (gsP b (cL I 6) s m (A (21 + 2 * q))) k = true from decide_eq_true hcks24)]⟩)
      · refine q_iconst (v := nI 0) rfl rfl ?_
        refine q_zret rfl rfl (by decide) ?_
        exact ⟨vI (by rw [← hr, allB_s hk_k, if_neg (by rw [show (gsP b (cL I 6) s m (A (21 + 2 * q))) k = false from decide_eq_false hcks24]; decide)]), rfl⟩
  · obtain ⟨rfl, rfl, hr⟩ := hi_k
    rw [Nat.sub_self] at hr
    refine q_iload_n rfl rfl ?_
    refine q_aload_n rfl rfl ?_
    refine q_callV0 rfl (hx_line q hq) (Nat.le_of_ble_eq_true rfl) (Nat.le_of_ble_eq_true rfl) (sL_size q hq hz) ?_
    refine q_icmp_geN rfl (by omega) (by omega) (fun hckf7 => ?_) (fun hckf7 => ?_)
    · refine q_iconst (v := 1) rfl rfl ?_
      refine q_zret rfl rfl (by decide) ?_
      exact ⟨vI (by rw [← hr]; rfl), rfl⟩
    · omega
theorem c_g0_bb {X : XX} {I A : Nat → Nat → Int32} {J B : Nat → Nat → Int64} {F : Nat → Nat} (x : Int32) (hx : x < 0 ∨ I 0 12 ≤ x) (y : Int32) (hy : y < 0 ∨ 6 ≤ y)  : x_ev X xT 7 137 [.ref 0, .int x, .int y, .int (nI 0)] (HX I A J B F) (some (.int (-1))) (HX I A J B F) := by
  refine q_ev (L := [some (.ref 0), some (.int x), some (.int y), some (.int (nI 0)), none, none, none, none, none, none, none, none, none]) tX8_guessed (Nat.le_of_ble_eq_true rfl) rfl ?_
  refine q_aload_n rfl rfl ?_
  refine q_iload_n rfl rfl ?_
  refine q_callV1 rfl hx_0 (Nat.le_of_ble_eq_true rfl) (Nat.le_of_ble_eq_true rfl) (sX8_lightAtN x hx) ?_
  refine q_astoreN (L' := [_, _, _, _, _, _, _, _, _, _, _, _, _]) rfl rfl ?_
  refine q_aload_n rfl rfl ?_
  refine q_getfield rfl hx_0 rfl ?_
  refine q_iload_n rfl rfl ?_
  refine q_callS2 rfl rfl (Nat.le_of_ble_eq_true rfl) (Nat.le_of_ble_eq_true rfl) (sX8_lineAt_rowN y hy) ?_
  refine q_astoreN (L' := [_, _, _, _, _, _, _, _, _, _, _, _, _]) rfl rfl ?_
  refine q_aloadN rfl rfl ?_
  refine q_ifnullN rfl ?_
  refine q_iconst (v := (-1)) rfl rfl ?_
  refine q_iret rfl rfl ?_
  exact ⟨rfl, rfl⟩
theorem c_g0_bo {X : XX} {I A : Nat → Nat → Int32} {J B : Nat → Nat → Int64} {F : Nat → Nat} (x : Int32) (hx : x < 0 ∨ I 0 12 ≤ x) (q : Nat) (hr : q < 6)  : x_ev X xT 7 137 [.ref 0, .int x, .int (nI q), .int (nI 0)] (HX I A J B F) (some (.int (-1))) (HX I A J B F) := by
  refine q_ev (L := [some (.ref 0), some (.int x), some (.int (nI q)), some (.int (nI 0)), none, none, none, none, none, none, none, none, none]) tX8_guessed (Nat.le_of_ble_eq_true rfl) rfl ?_
  refine q_aload_n rfl rfl ?_
  refine q_iload_n rfl rfl ?_
  refine q_callV1 rfl hx_0 (Nat.le_of_ble_eq_true rfl) (Nat.le_of_ble_eq_true rfl) (sX8_lightAtN x hx) ?_
  refine q_astoreN (L' := [_, _, _, _, _, _, _, _, _, _, _, _, _]) rfl rfl ?_
  refine q_aload_n rfl rfl ?_
  refine q_getfield rfl hx_0 rfl ?_
  refine q_iload_n rfl rfl ?_
  refine q_callS2 rfl rfl (Nat.le_of_ble_eq_true rfl) (Nat.le_of_ble_eq_true rfl) (sX8_lineAt_row q hr) ?_
  refine q_astore (L' := [_, _, _, _, _, _, _, _, _, _, _, _, _]) rfl rfl ?_
  refine q_aloadN rfl rfl ?_
  refine q_ifnullN rfl ?_
  refine q_iconst (v := (-1)) rfl rfl ?_
  refine q_iret rfl rfl ?_
  exact ⟨rfl, rfl⟩
theorem c_g0_ob {X : XX} {I A : Nat → Nat → Int32} {J B : Nat → Nat → Int64} {F : Nat → Nat} (ln : Nat) (hln : ln ≤ 5) (eln : I 0 12 = nI ln) (k : Nat) (hk : k < ln) (y : Int32) (hy : y < 0 ∨ 6 ≤ y)  : x_ev X xT 7 137 [.ref 0, .int (nI k), .int y, .int (nI 0)] (HX I A J B F) (some (.int (-1))) (HX I A J B F) := by
  refine q_ev (L := [some (.ref 0), some (.int (nI k)), some (.int y), some (.int (nI 0)), none, none, none, none, none, none, none, none, none]) tX8_guessed (Nat.le_of_ble_eq_true rfl) rfl ?_
  refine q_aload_n rfl rfl ?_
  refine q_iload_n rfl rfl ?_
  refine q_callV1 rfl hx_0 (Nat.le_of_ble_eq_true rfl) (Nat.le_of_ble_eq_true rfl) (sX8_lightAt k ln hk hln eln) ?_
  refine q_astore (L' := [_, _, _, _, _, _, _, _, _, _, _, _, _]) rfl rfl ?_
  refine q_aload_n rfl rfl ?_
  refine q_getfield rfl hx_0 rfl ?_
  refine q_iload_n rfl rfl ?_
  refine q_callS2 rfl rfl (Nat.le_of_ble_eq_true rfl) (Nat.le_of_ble_eq_true rfl) (sX8_lineAt_rowN y hy) ?_
  refine q_astoreN (L' := [_, _, _, _, _, _, _, _, _, _, _, _, _]) rfl rfl ?_
  refine q_aload rfl rfl ?_
  refine q_ifnull rfl ?_
  refine q_aloadN rfl rfl ?_
  refine q_ifnonnullN rfl ?_
  refine q_iconst (v := (-1)) rfl rfl ?_
  refine q_iret rfl rfl ?_
  exact ⟨rfl, rfl⟩
theorem c_g0_M {X : XX} {I A : Nat → Nat → Int32} {J B : Nat → Nat → Int64} {F : Nat → Nat} (ln : Nat) (hln : ln ≤ 5) (eln : I 0 12 = nI ln) (k : Nat) (hk : k < ln) (q : Nat) (hr : q < 6) (hz : I (20 + 2 * q) 1 = -1)  : x_ev X xT 7 137 [.ref 0, .int (nI k), .int (nI q), .int (nI 0)] (HX I A J B F) (some (.int (-3))) (HX (u2 I 0 13 (nI 1)) (f_cnt A 19 1) J B F) := by
  refine q_ev (L := [some (.ref 0), some (.int (nI k)), some (.int (nI q)), some (.int (nI 0)), none, none, none, none, none, none, none, none, none]) tX8_guessed (Nat.le_of_ble_eq_true rfl) rfl ?_
  refine q_aload_n rfl rfl ?_
  refine q_iload_n rfl rfl ?_
  refine q_callV1 rfl hx_0 (Nat.le_of_ble_eq_true rfl) (Nat.le_of_ble_eq_true rfl) (sX8_lightAt k ln hk hln eln) ?_
  refine q_astore (L' := [_, _, _, _, _, _, _, _, _, _, _, _, _]) rfl rfl ?_
  refine q_aload_n rfl rfl ?_
  refine q_getfield rfl hx_0 rfl ?_
  refine q_iload_n rfl rfl ?_
  refine q_callS2 rfl rfl (Nat.le_of_ble_eq_true rfl) (Nat.le_of_ble_eq_true rfl) (sX8_lineAt_row q hr) ?_
  refine q_astore (L' := [_, _, _, _, _, _, _, _, _, _, _, _, _]) rfl rfl ?_
  refine q_aload rfl rfl ?_
  refine q_ifnull rfl ?_
  refine q_aload rfl rfl ?_
  refine q_ifnonnull rfl ?_
  refine q_aload_n rfl rfl ?_
  refine q_aload rfl rfl ?_
  refine q_callV1 rfl hx_0 (Nat.le_of_ble_eq_true rfl) (Nat.le_of_ble_eq_true rfl) (sX8_refuseNotes_M q (by omega) hz) ?_
  refine q_istore (L' := [_, _, _, _, _, _, _, _, _, _, _, _, _]) rfl rfl ?_
  refine q_iload rfl rfl ?_
  refine q_if_eq rfl (fun hc39 => ?_) (fun hc39 => ?_)
  · exact absurd hc39 (by decide)
  · refine q_iload rfl rfl ?_
    refine q_iret rfl rfl ?_
    exact ⟨rfl, rfl⟩
theorem c_g0_S {X : XX} {I A : Nat → Nat → Int32} {J B : Nat → Nat → Int64} {F : Nat → Nat} (ln : Nat) (hln : ln ≤ 5) (eln : I 0 12 = nI ln) (k : Nat) (hk : k < ln) (q : Nat) (hr : q < 6) (n : Nat) (hn : n ≤ rm q) (hz : I (20 + 2 * q) 1 = nI n) (hn8 : 20 < n)  : x_ev X xT 7 137 [.ref 0, .int (nI k), .int (nI q), .int (nI 0)] (HX I A J B F) (some (.int (-3))) (HX (u2 I 0 13 (nI 5)) (f_cnt A 19 5) J B F) := by
  refine q_ev (L := [some (.ref 0), some (.int (nI k)), some (.int (nI q)), some (.int (nI 0)), none, none, none, none, none, none, none, none, none]) tX8_guessed (Nat.le_of_ble_eq_true rfl) rfl ?_
  refine q_aload_n rfl rfl ?_
  refine q_iload_n rfl rfl ?_
  refine q_callV1 rfl hx_0 (Nat.le_of_ble_eq_true rfl) (Nat.le_of_ble_eq_true rfl) (sX8_lightAt k ln hk hln eln) ?_
  refine q_astore (L' := [_, _, _, _, _, _, _, _, _, _, _, _, _]) rfl rfl ?_
  refine q_aload_n rfl rfl ?_
  refine q_getfield rfl hx_0 rfl ?_
  refine q_iload_n rfl rfl ?_
  refine q_callS2 rfl rfl (Nat.le_of_ble_eq_true rfl) (Nat.le_of_ble_eq_true rfl) (sX8_lineAt_row q hr) ?_
  refine q_astore (L' := [_, _, _, _, _, _, _, _, _, _, _, _, _]) rfl rfl ?_
  refine q_aload rfl rfl ?_
  refine q_ifnull rfl ?_
  refine q_aload rfl rfl ?_
  refine q_ifnonnull rfl ?_
  refine q_aload_n rfl rfl ?_
  refine q_aload rfl rfl ?_
  refine q_callV1 rfl hx_0 (Nat.le_of_ble_eq_true rfl) (Nat.le_of_ble_eq_true rfl) (sX8_refuseNotes_S q (by omega) n hn hz hn8) ?_
  refine q_istore (L' := [_, _, _, _, _, _, _, _, _, _, _, _, _]) rfl rfl ?_
  refine q_iload rfl rfl ?_
  refine q_if_eq rfl (fun hc39 => ?_) (fun hc39 => ?_)
  · exact absurd hc39 (by decide)
  · refine q_iload rfl rfl ?_
    refine q_iret rfl rfl ?_
    exact ⟨rfl, rfl⟩
theorem c_g0_U {X : XX} {I A : Nat → Nat → Int32} {J B : Nat → Nat → Int64} {F : Nat → Nat} (ln : Nat) (hln : ln ≤ 5) (eln : I 0 12 = nI ln) (k : Nat) (hk : k < ln) (q : Nat) (hr : q < 6) (n : Nat) (hn : n ≤ rm q) (hz : I (20 + 2 * q) 1 = nI n) (n8 : n ≤ 20) (hno : ¬ ∀ k, k < n → okN (nI 0) 2147483647 (A (21 + 2 * q) k))  : x_ev X xT 7 137 [.ref 0, .int (nI k), .int (nI q), .int (nI 0)] (HX I A J B F) (some (.int (-3))) (HX (u2 I 0 13 (nI 3)) (f_cnt A 19 3) J B F) := by
  refine q_ev (L := [some (.ref 0), some (.int (nI k)), some (.int (nI q)), some (.int (nI 0)), none, none, none, none, none, none, none, none, none]) tX8_guessed (Nat.le_of_ble_eq_true rfl) rfl ?_
  refine q_aload_n rfl rfl ?_
  refine q_iload_n rfl rfl ?_
  refine q_callV1 rfl hx_0 (Nat.le_of_ble_eq_true rfl) (Nat.le_of_ble_eq_true rfl) (sX8_lightAt k ln hk hln eln) ?_
  refine q_astore (L' := [_, _, _, _, _, _, _, _, _, _, _, _, _]) rfl rfl ?_
  refine q_aload_n rfl rfl ?_
  refine q_getfield rfl hx_0 rfl ?_
  refine q_iload_n rfl rfl ?_
  refine q_callS2 rfl rfl (Nat.le_of_ble_eq_true rfl) (Nat.le_of_ble_eq_true rfl) (sX8_lineAt_row q hr) ?_
  refine q_astore (L' := [_, _, _, _, _, _, _, _, _, _, _, _, _]) rfl rfl ?_
  refine q_aload rfl rfl ?_
  refine q_ifnull rfl ?_
  refine q_aload rfl rfl ?_
  refine q_ifnonnull rfl ?_
  refine q_aload_n rfl rfl ?_
  refine q_aload rfl rfl ?_
  refine q_callV1 rfl hx_0 (Nat.le_of_ble_eq_true rfl) (Nat.le_of_ble_eq_true rfl) (sX8_refuseNotes_U q (by omega) n hn hz n8 hno) ?_
  refine q_istore (L' := [_, _, _, _, _, _, _, _, _, _, _, _, _]) rfl rfl ?_
  refine q_iload rfl rfl ?_
  refine q_if_eq rfl (fun hc39 => ?_) (fun hc39 => ?_)
  · exact absurd hc39 (by decide)
  · refine q_iload rfl rfl ?_
    refine q_iret rfl rfl ?_
    exact ⟨rfl, rfl⟩
set_option maxHeartbeats 1000000 in
theorem c_g0_0 {X : XX} {I A : Nat → Nat → Int32} {J B : Nat → Nat → Int64} {F : Nat → Nat} (b : Nat) (hb : b ≤ 5) (eb : I 7 0 = nI b) (m : Nat) (em : I 8 2 = nI m) (hm : m ≤ 40) (s : Nat) (es : I 8 3 = nI s) (hs : s < 24) (ln : Nat) (hln : ln ≤ 5) (eln : I 0 12 = nI ln) (lks : ∀ i, i < 5 → lkOK I (40 + i)) (k : Nat) (hk : k < ln) (q : Nat) (hr : q < 6) (n : Nat) (hn : n ≤ rm q) (hz : I (20 + 2 * q) 1 = nI n) (n8 : n ≤ 20) (hok : ∀ k, k < n → okN (nI 0) 2147483647 (A (21 + 2 * q) k))  : ∃ v0 v1 v2 v3, x_ev X xT 7 137 [.ref 0, .int (nI k), .int (nI q), .int (nI 0)] (HX I A J B F) (some (.int (orf (fun g => decide (allB (gsP b (glt (nI g) (plN (cL I (40 + k)) m) (I (40 + k) 2) (tn (I (40 + k) 3)) m) s m (A (21 + 2 * q))) n 0 = 1)) 6))) (HX (g4 I v0 v1 v2 v3) A J B F) ∧ True := by
  obtain ⟨r_, h_, he_, v0, v1, v2, v3, hr_, hh_, hf_⟩ := q_evx (X := X) (d := 6) (as := [.ref 0, .int (nI k), .int (nI q), .int (nI 0)]) (h := (HX I A J B F)) (P := fun r_ h_ => ∃ v0 v1 v2 v3, r_ = (some (.int (orf (fun g => decide (allB (gsP b (glt (nI g) (plN (cL I (40 + k)) m) (I (40 + k) 2) (tn (I (40 + k) 3)) m) s m (A (21 + 2 * q))) n 0 = 1)) 6))) ∧ h_ = (HX (g4 I v0 v1 v2 v3) A J B F) ∧ True) (L := [some (.ref 0), some (.int (nI k)), some (.int (nI q)), some (.int (nI 0)), none, none, none, none, none, none, none, none, none]) tX8_guessed (Nat.le_of_ble_eq_true rfl) rfl (by
    refine q_aload_n rfl rfl ?_
    refine q_iload_n rfl rfl ?_
    refine q_callV1 rfl hx_0 (Nat.le_of_ble_eq_true rfl) (Nat.le_of_ble_eq_true rfl) (sX8_lightAt k ln hk hln eln) ?_
    refine q_astore (L' := [_, _, _, _, _, _, _, _, _, _, _, _, _]) rfl rfl ?_
    refine q_aload_n rfl rfl ?_
    refine q_getfield rfl hx_0 rfl ?_
    refine q_iload_n rfl rfl ?_
    refine q_callS2 rfl rfl (Nat.le_of_ble_eq_true rfl) (Nat.le_of_ble_eq_true rfl) (sX8_lineAt_row q hr) ?_
    refine q_astore (L' := [_, _, _, _, _, _, _, _, _, _, _, _, _]) rfl rfl ?_
    refine q_aload rfl rfl ?_
    refine q_ifnull rfl ?_
    refine q_aload rfl rfl ?_
    refine q_ifnonnull rfl ?_
    refine q_aload_n rfl rfl ?_
    refine q_aload rfl rfl ?_
    refine q_callV1 rfl hx_0 (Nat.le_of_ble_eq_true rfl) (Nat.le_of_ble_eq_true rfl) (sX8_refuseNotes_0 q (by omega) n hn hz n8 hok) ?_
    refine q_istore (L' := [_, _, _, _, _, _, _, _, _, _, _, _, _]) rfl rfl ?_
    refine q_iload rfl rfl ?_
    refine q_if_eqN rfl (by omega) (fun hc39 => ?_) (fun hc39 => ?_)
    · refine q_aload rfl rfl ?_
      refine q_aload_n rfl rfl ?_
      refine q_getfield rfl hx_0 rfl ?_
      refine q_callV0 rfl hx_8 (Nat.le_of_ble_eq_true rfl) (Nat.le_of_ble_eq_true rfl) (sN_now (show _ = nI m from em)) ?_
      refine q_callV1 rfl (hx_light k (by omega)) (Nat.le_of_ble_eq_true rfl) (Nat.le_of_ble_eq_true rfl) (sK_place (hx_light k (by omega)) (lks k (by omega)) _) ?_
      refine q_istore (L' := [_, _, _, _, _, _, _, _, _, _, _, _, _]) rfl rfl ?_
      refine q_iload_n rfl rfl ?_
      refine q_iconst (v := nI 1) rfl rfl ?_
      refine q_icmp_neN rfl (by omega) (by omega) (fun hc61 => ?_) (fun hc61 => ?_)
      · refine q_iload_n rfl rfl ?_
        refine q_if_neN rfl (by omega) (fun hc70 => ?_) (fun hc70 => ?_)
        · exact absurd hc70 (by decide)
        · refine q_bipush (v := nI 6) rfl rfl ?_
          refine q_goto rfl ?_
          refine q_istore (L' := [_, _, _, _, _, _, _, _, _, _, _, _, _]) rfl rfl ?_
          refine q_iconst (v := nI 0) rfl rfl ?_
          refine q_istore (L' := [_, _, _, _, _, _, _, _, _, _, _, _, _]) rfl rfl ?_
          refine q_iconst (v := 0) rfl rfl ?_
          refine q_istore (L' := [_, _, _, _, _, _, _, _, _, _, _, _, _]) rfl rfl ?_
          refine q_up (Inv := fun g L h => ∃ v0 v1 v2 v3 z1 z2, L = [some (.ref 0), some (.int (nI k)), some (.int (nI q)), some (.int (nI 0)), some (.ref (40 + k)), some (.ref (20 + 2 * q)), some (.int (nI 0)), some (.int (nI (plN (cL I (40 + k)) m))), some (.int (nI 6)), some (.int (orf (fun g => decide (allB (gsP b (glt (nI g) (plN (cL I (40 + k)) m) (I (40 + k) 2) (tn (I (40 + k) 3)) m) s m (A (21 + 2 * q))) n 0 = 1)) g)), some (.int (nI g)), z1, z2] ∧ h = HX (g4 I v0 v1 v2 v3) A J B F) (6) (fun g L h hk_g hi_g ih_g => ?_) (fun L h hi_g => ?_) (0) _ _ (by omega) (⟨I 6 0, I 6 1, I 6 2, I 6 3, _, _, rfl, by rw [g4_same]⟩)
          · obtain ⟨v0, v1, v2, v3, z1, z2, rfl, rfl⟩ := hi_g
            refine q_iload rfl rfl ?_
            refine q_iload rfl rfl ?_
            refine q_icmp_geN rfl (by omega) (by omega) (fun hcgs92 => ?_) (fun hcgs92 => ?_)
            · omega
            · refine q_iload_n rfl rfl ?_
              refine q_if_neN rfl (by omega) (fun hcgs96 => ?_) (fun hcgs96 => ?_)
              · exact absurd hcgs96 (by decide)
              · refine q_iload rfl rfl ?_
                refine q_goto rfl ?_
                refine q_istore (L' := [_, _, _, _, _, _, _, _, _, _, _, _, _]) rfl rfl ?_
                refine q_iload_n rfl rfl ?_
                refine q_iconst (v := nI 2) rfl rfl ?_
                refine q_icmp_neN rfl (by omega) (by omega) (fun hcgs113 => ?_) (fun hcgs113 => ?_)
                · refine q_aload rfl rfl ?_
                  refine q_callV0 rfl (hx_light k (by omega)) (Nat.le_of_ble_eq_true rfl) (Nat.le_of_ble_eq_true rfl) (sX1_speed (hx_light k (by omega))) ?_
                  refine q_cn (g4_ne (by omega)) ?_
                  refine q_istore (L' := [_, _, _, _, _, _, _, _, _, _, _, _, _]) rfl rfl ?_
                  refine q_aload_n rfl rfl ?_
                  refine q_getfield rfl hx_0 rfl ?_
                  refine q_iload rfl rfl ?_
                  refine q_iconst (v := 0) rfl rfl ?_
                  refine q_iload rfl rfl ?_
                  refine q_aload rfl rfl ?_
                  refine q_callV0 rfl (hx_light k (by omega)) (Nat.le_of_ble_eq_true rfl) (Nat.le_of_ble_eq_true rfl) (sX1_toldBright (hx_light k (by omega))) ?_
                  refine q_cn (g4_ne (by omega)) ?_
                  refine q_callV4 rfl hx_6 (Nat.le_of_ble_eq_true rfl) (Nat.le_of_ble_eq_true rfl) (sX1_become hx_6 _ _ _ _) ?_
                  refine q_heap (hf_6 _ _ _ _) ?_
                  refine q_heap (show HX (g4 (g4 I v0 v1 v2 v3) _ _ _ _) A J B F = _ from by rw [g4_g4]) ?_
                  refine q_aload_n rfl rfl ?_
                  refine q_getfield rfl hx_0 rfl ?_
                  refine q_iload_n rfl rfl ?_
                  refine q_iconst (v := nI 1) rfl rfl ?_
                  refine q_icmp_neN rfl (by omega) (by omega) (fun hcgs154 => ?_) (fun hcgs154 => ?_)
                  · refine q_iload rfl rfl ?_
                    refine q_aload_n rfl rfl ?_
                    refine q_getfield rfl hx_0 rfl ?_
                    refine q_callV0 rfl hx_8 (Nat.le_of_ble_eq_true rfl) (Nat.le_of_ble_eq_true rfl) (sN_now (show _ = nI m from em)) ?_
                    refine q_callV2 rfl hx_6 (Nat.le_of_ble_eq_true rfl) (Nat.le_of_ble_eq_true rfl) (sX1_standAt hx_6 (kd_g hk_g) _ _) ?_
                    refine q_heap (hf_6 _ _ _ _) ?_
                    refine q_heap (show HX (g4 (g4 I _ _ _ _) _ _ _ _) A J B F = HX (g4 I (nI g) (nI (rdN (nI (plN (cL I (40 + k)) m) - f_mv (nI g) (I (40 + k) 2) (nI m)))) (I (40 + k) 2) (I (40 + k) 3)) A J B F from by rw [g4_g4, f_rd_eq]; rfl) ?_
                    refine q_iload rfl rfl ?_
                    refine q_aload_n rfl rfl ?_
                    refine q_aload rfl rfl ?_
                    refine q_callV1 rfl hx_0 (Nat.le_of_ble_eq_true rfl) (Nat.le_of_ble_eq_true rfl) (sX8_guessFits (I := (g4 I (nI g) (nI (rdN (nI (plN (cL I (40 + k)) m) - f_mv (nI g) (I (40 + k) 2) (nI m)))) (I (40 + k) 2) (I (40 + k) 3))) b hb (by exact eb) m (by exact em) hm s (by exact es) hs (show lkOK (g4 I (nI g) (nI (rdN (nI (plN (cL I (40 + k)) m) - f_mv (nI g) (I (40 + k) 2) (nI m)))) (I (40 + k) 2) (I (40 + k) 3)) 6 from ⟨⟨(kd_g hk_g), (lks k (by omega)).1.2⟩, (lks k (by omega)).2⟩) q (by omega) n hn ((g4_ne (by omega)).trans hz) n8) ?_
                    refine q_cn (show _ = nI (allB (gsP b (glt (nI g) (plN (cL I (40 + k)) m) (I (40 + k) 2) (tn (I (40 + k) 3)) m) s m (A (21 + 2 * q))) n 0) from rfl) ?_
                    refine q_if_eqN rfl (by have := allB_le (gsP b (glt (nI g) (plN (cL I (40 + k)) m) (I (40 + k) 2) (tn (I (40 + k) 3)) m) s m (A (21 + 2 * q))) n 0; omega) (fun hcgs182 => ?_) (fun hcgs182 => ?_)
                    · refine q_iconst (v := nI 0) rfl rfl ?_
                      refine q_ior rfl ?_
                      refine q_istore (L' := [_, _, _, _, _, _, _, _, _, _, _, _, _]) rfl rfl ?_
                      refine q_iincN (c := 1) (L' := [_, _, _, _, _, _, _, _, _, _, _, _, _]) rfl rfl rfl rfl ?_
                      refine q_goto rfl ?_
                      exact ih_g _ _ (⟨_, _, _, _, _, _, by rw [show ∀ p j, orf p (j + 1) = if p j = true then orf p j ||| (nI 1 <<< (nI j &&& 31)) else orf p j from fun _ _ => rfl]; first | rw [if_pos (decide_eq_true (show allB (gsP b (glt (nI g) (plN (cL I (40 + k)) m) (I (40 + k) 2) (tn (I (40 + k) 3)) m) s m (A (21 + 2 * q))) n 0 = 1 by have := allB_le (gsP b (glt (nI g) (plN (cL I (40 + k)) m) (I (40 + k) 2) (tn (I (40 + k) 3)) m) s m (A (21 + 2 * q))) n 0; omega))] | rw [if_neg (fun z => absurd (of_decide_eq_true z) (show ¬ allB (gsP b (glt (nI g) (plN (cL I (40 + k)) m) (I (40 + k) 2) (tn (I (40 + k) 3)) m) s m (A (21 + 2 * q))) n 0 = 1 by omega)), or_0], rfl⟩)
                    · refine q_iconst (v := nI 1) rfl rfl ?_
                      refine q_iload rfl rfl ?_
                      refine q_ishl rfl ?_
                      refine q_goto rfl ?_
                      refine q_ior rfl ?_
                      refine q_istore (L' := [_, _, _, _, _, _, _, _, _, _, _, _, _]) rfl rfl ?_
                      refine q_iincN (c := 1) (L' := [_, _, _, _, _, _, _, _, _, _, _, _, _]) rfl rfl rfl rfl ?_
                      refine q_goto rfl ?_
                      exact ih_g _ _ (⟨_, _, _, _, _, _, by rw [show ∀ p j, orf p (j + 1) = if p j = true then orf p j ||| (nI 1 <<< (nI j &&& 31)) else orf p j from fun _ _ => rfl]; first | rw [if_pos (decide_eq_true (show allB (gsP b (glt (nI g) (plN (cL I (40 + k)) m) (I (40 + k) 2) (tn (I (40 + k) 3)) m) s m (A (21 + 2 * q))) n 0 = 1 by have := allB_le (gsP b (glt (nI g) (plN (cL I (40 + k)) m) (I (40 + k) 2) (tn (I (40 + k) 3)) m) s m (A (21 + 2 * q))) n 0; omega))] | rw [if_neg (fun z => absurd (of_decide_eq_true z) (show ¬ allB (gsP b (glt (nI g) (plN (cL I (40 + k)) m) (I (40 + k) 2) (tn (I (40 + k) 3)) m) s m (A (21 + 2 * q))) n 0 = 1 by omega)), or_0], rfl⟩)
                  · exact absurd hcgs154 (by decide)
                · exact absurd hcgs113 (by decide)
          · obtain ⟨v0, v1, v2, v3, z1, z2, rfl, rfl⟩ := hi_g
            refine q_iload rfl rfl ?_
            refine q_iload rfl rfl ?_
            refine q_icmp_geN rfl (by omega) (by omega) (fun hcgf92 => ?_) (fun hcgf92 => ?_)
            · refine q_iload rfl rfl ?_
              refine q_iret rfl rfl ?_
              exact ⟨v0, v1, v2, v3, rfl, rfl, trivial⟩
            · omega
      · exact absurd hc61 (by decide)
    · exact absurd hc39 (by decide))
  subst hr_
  subst hh_
  exact ⟨v0, v1, v2, v3, he_, hf_⟩
theorem c_kinds_w {X : XX} {I A I1 A1 : Nat → Nat → Int32} {J B J1 B1 : Nat → Nat → Int64} {F F1 : Nat → Nat} {x y r : Int32} (e : x_ev X xT 7 137 [.ref 0, .int x, .int y, .int (nI 0)] (HX I A J B F) (some (.int r)) (HX I1 A1 J1 B1 F1)) : x_ev X xT 8 108 [.ref 0, .int x, .int y] (HX I A J B F) (some (.int r)) (HX I1 A1 J1 B1 F1) := by
  refine q_ev (L := [some (.ref 0), some (.int x), some (.int y)]) tX8_kinds (Nat.le_of_ble_eq_true rfl) rfl ?_
  refine q_aload_n rfl rfl ?_
  refine q_iload_n rfl rfl ?_
  refine q_iload_n rfl rfl ?_
  refine q_iconst (v := nI 0) rfl rfl ?_
  refine q_callV3 rfl hx_0 (Nat.le_of_ble_eq_true rfl) (Nat.le_of_ble_eq_true rfl) (e) ?_
  refine q_iret rfl rfl ?_
  exact ⟨rfl, rfl⟩
theorem c_g1_bb {X : XX} {I A : Nat → Nat → Int32} {J B : Nat → Nat → Int64} {F : Nat → Nat} (x : Int32) (hx : x < 0 ∨ I 0 12 ≤ x) (y : Int32) (hy : y < 0 ∨ 6 ≤ y)  : x_ev X xT 7 137 [.ref 0, .int x, .int y, .int (nI 1)] (HX I A J B F) (some (.int (-1))) (HX I A J B F) := by
  refine q_ev (L := [some (.ref 0), some (.int x), some (.int y), some (.int (nI 1)), none, none, none, none, none, none, none, none, none]) tX8_guessed (Nat.le_of_ble_eq_true rfl) rfl ?_
  refine q_aload_n rfl rfl ?_
  refine q_iload_n rfl rfl ?_
  refine q_callV1 rfl hx_0 (Nat.le_of_ble_eq_true rfl) (Nat.le_of_ble_eq_true rfl) (sX8_lightAtN x hx) ?_
  refine q_astoreN (L' := [_, _, _, _, _, _, _, _, _, _, _, _, _]) rfl rfl ?_
  refine q_aload_n rfl rfl ?_
  refine q_getfield rfl hx_0 rfl ?_
  refine q_iload_n rfl rfl ?_
  refine q_callS2 rfl rfl (Nat.le_of_ble_eq_true rfl) (Nat.le_of_ble_eq_true rfl) (sX8_lineAt_rowN y hy) ?_
  refine q_astoreN (L' := [_, _, _, _, _, _, _, _, _, _, _, _, _]) rfl rfl ?_
  refine q_aloadN rfl rfl ?_
  refine q_ifnullN rfl ?_
  refine q_iconst (v := (-1)) rfl rfl ?_
  refine q_iret rfl rfl ?_
  exact ⟨rfl, rfl⟩
theorem c_g1_bo {X : XX} {I A : Nat → Nat → Int32} {J B : Nat → Nat → Int64} {F : Nat → Nat} (x : Int32) (hx : x < 0 ∨ I 0 12 ≤ x) (q : Nat) (hr : q < 6)  : x_ev X xT 7 137 [.ref 0, .int x, .int (nI q), .int (nI 1)] (HX I A J B F) (some (.int (-1))) (HX I A J B F) := by
  refine q_ev (L := [some (.ref 0), some (.int x), some (.int (nI q)), some (.int (nI 1)), none, none, none, none, none, none, none, none, none]) tX8_guessed (Nat.le_of_ble_eq_true rfl) rfl ?_
  refine q_aload_n rfl rfl ?_
  refine q_iload_n rfl rfl ?_
  refine q_callV1 rfl hx_0 (Nat.le_of_ble_eq_true rfl) (Nat.le_of_ble_eq_true rfl) (sX8_lightAtN x hx) ?_
  refine q_astoreN (L' := [_, _, _, _, _, _, _, _, _, _, _, _, _]) rfl rfl ?_
  refine q_aload_n rfl rfl ?_
  refine q_getfield rfl hx_0 rfl ?_
  refine q_iload_n rfl rfl ?_
  refine q_callS2 rfl rfl (Nat.le_of_ble_eq_true rfl) (Nat.le_of_ble_eq_true rfl) (sX8_lineAt_row q hr) ?_
  refine q_astore (L' := [_, _, _, _, _, _, _, _, _, _, _, _, _]) rfl rfl ?_
  refine q_aloadN rfl rfl ?_
  refine q_ifnullN rfl ?_
  refine q_iconst (v := (-1)) rfl rfl ?_
  refine q_iret rfl rfl ?_
  exact ⟨rfl, rfl⟩
theorem c_g1_ob {X : XX} {I A : Nat → Nat → Int32} {J B : Nat → Nat → Int64} {F : Nat → Nat} (ln : Nat) (hln : ln ≤ 5) (eln : I 0 12 = nI ln) (k : Nat) (hk : k < ln) (y : Int32) (hy : y < 0 ∨ 6 ≤ y)  : x_ev X xT 7 137 [.ref 0, .int (nI k), .int y, .int (nI 1)] (HX I A J B F) (some (.int (-1))) (HX I A J B F) := by
  refine q_ev (L := [some (.ref 0), some (.int (nI k)), some (.int y), some (.int (nI 1)), none, none, none, none, none, none, none, none, none]) tX8_guessed (Nat.le_of_ble_eq_true rfl) rfl ?_
  refine q_aload_n rfl rfl ?_
  refine q_iload_n rfl rfl ?_
  refine q_callV1 rfl hx_0 (Nat.le_of_ble_eq_true rfl) (Nat.le_of_ble_eq_true rfl) (sX8_lightAt k ln hk hln eln) ?_
  refine q_astore (L' := [_, _, _, _, _, _, _, _, _, _, _, _, _]) rfl rfl ?_
  refine q_aload_n rfl rfl ?_
  refine q_getfield rfl hx_0 rfl ?_
  refine q_iload_n rfl rfl ?_
  refine q_callS2 rfl rfl (Nat.le_of_ble_eq_true rfl) (Nat.le_of_ble_eq_true rfl) (sX8_lineAt_rowN y hy) ?_
  refine q_astoreN (L' := [_, _, _, _, _, _, _, _, _, _, _, _, _]) rfl rfl ?_
  refine q_aload rfl rfl ?_
  refine q_ifnull rfl ?_
  refine q_aloadN rfl rfl ?_
  refine q_ifnonnullN rfl ?_
  refine q_iconst (v := (-1)) rfl rfl ?_
  refine q_iret rfl rfl ?_
  exact ⟨rfl, rfl⟩
theorem c_g1_M {X : XX} {I A : Nat → Nat → Int32} {J B : Nat → Nat → Int64} {F : Nat → Nat} (ln : Nat) (hln : ln ≤ 5) (eln : I 0 12 = nI ln) (k : Nat) (hk : k < ln) (q : Nat) (hr : q < 6) (hz : I (20 + 2 * q) 1 = -1)  : x_ev X xT 7 137 [.ref 0, .int (nI k), .int (nI q), .int (nI 1)] (HX I A J B F) (some (.int (-3))) (HX (u2 I 0 13 (nI 1)) (f_cnt A 19 1) J B F) := by
  refine q_ev (L := [some (.ref 0), some (.int (nI k)), some (.int (nI q)), some (.int (nI 1)), none, none, none, none, none, none, none, none, none]) tX8_guessed (Nat.le_of_ble_eq_true rfl) rfl ?_
  refine q_aload_n rfl rfl ?_
  refine q_iload_n rfl rfl ?_
  refine q_callV1 rfl hx_0 (Nat.le_of_ble_eq_true rfl) (Nat.le_of_ble_eq_true rfl) (sX8_lightAt k ln hk hln eln) ?_
  refine q_astore (L' := [_, _, _, _, _, _, _, _, _, _, _, _, _]) rfl rfl ?_
  refine q_aload_n rfl rfl ?_
  refine q_getfield rfl hx_0 rfl ?_
  refine q_iload_n rfl rfl ?_
  refine q_callS2 rfl rfl (Nat.le_of_ble_eq_true rfl) (Nat.le_of_ble_eq_true rfl) (sX8_lineAt_row q hr) ?_
  refine q_astore (L' := [_, _, _, _, _, _, _, _, _, _, _, _, _]) rfl rfl ?_
  refine q_aload rfl rfl ?_
  refine q_ifnull rfl ?_
  refine q_aload rfl rfl ?_
  refine q_ifnonnull rfl ?_
  refine q_aload_n rfl rfl ?_
  refine q_aload rfl rfl ?_
  refine q_callV1 rfl hx_0 (Nat.le_of_ble_eq_true rfl) (Nat.le_of_ble_eq_true rfl) (sX8_refuseNotes_M q (by omega) hz) ?_
  refine q_istore (L' := [_, _, _, _, _, _, _, _, _, _, _, _, _]) rfl rfl ?_
  refine q_iload rfl rfl ?_
  refine q_if_eq rfl (fun hc39 => ?_) (fun hc39 => ?_)
  · exact absurd hc39 (by decide)
  · refine q_iload rfl rfl ?_
    refine q_iret rfl rfl ?_
    exact ⟨rfl, rfl⟩
theorem c_g1_S {X : XX} {I A : Nat → Nat → Int32} {J B : Nat → Nat → Int64} {F : Nat → Nat} (ln : Nat) (hln : ln ≤ 5) (eln : I 0 12 = nI ln) (k : Nat) (hk : k < ln) (q : Nat) (hr : q < 6) (n : Nat) (hn : n ≤ rm q) (hz : I (20 + 2 * q) 1 = nI n) (hn8 : 20 < n)  : x_ev X xT 7 137 [.ref 0, .int (nI k), .int (nI q), .int (nI 1)] (HX I A J B F) (some (.int (-3))) (HX (u2 I 0 13 (nI 5)) (f_cnt A 19 5) J B F) := by
  refine q_ev (L := [some (.ref 0), some (.int (nI k)), some (.int (nI q)), some (.int (nI 1)), none, none, none, none, none, none, none, none, none]) tX8_guessed (Nat.le_of_ble_eq_true rfl) rfl ?_
  refine q_aload_n rfl rfl ?_
  refine q_iload_n rfl rfl ?_
  refine q_callV1 rfl hx_0 (Nat.le_of_ble_eq_true rfl) (Nat.le_of_ble_eq_true rfl) (sX8_lightAt k ln hk hln eln) ?_
  refine q_astore (L' := [_, _, _, _, _, _, _, _, _, _, _, _, _]) rfl rfl ?_
  refine q_aload_n rfl rfl ?_
  refine q_getfield rfl hx_0 rfl ?_
  refine q_iload_n rfl rfl ?_
  refine q_callS2 rfl rfl (Nat.le_of_ble_eq_true rfl) (Nat.le_of_ble_eq_true rfl) (sX8_lineAt_row q hr) ?_
  refine q_astore (L' := [_, _, _, _, _, _, _, _, _, _, _, _, _]) rfl rfl ?_
  refine q_aload rfl rfl ?_
  refine q_ifnull rfl ?_
  refine q_aload rfl rfl ?_
  refine q_ifnonnull rfl ?_
  refine q_aload_n rfl rfl ?_
  refine q_aload rfl rfl ?_
  refine q_callV1 rfl hx_0 (Nat.le_of_ble_eq_true rfl) (Nat.le_of_ble_eq_true rfl) (sX8_refuseNotes_S q (by omega) n hn hz hn8) ?_
  refine q_istore (L' := [_, _, _, _, _, _, _, _, _, _, _, _, _]) rfl rfl ?_
  refine q_iload rfl rfl ?_
  refine q_if_eq rfl (fun hc39 => ?_) (fun hc39 => ?_)
  · exact absurd hc39 (by decide)
  · refine q_iload rfl rfl ?_
    refine q_iret rfl rfl ?_
    exact ⟨rfl, rfl⟩
theorem c_g1_U {X : XX} {I A : Nat → Nat → Int32} {J B : Nat → Nat → Int64} {F : Nat → Nat} (ln : Nat) (hln : ln ≤ 5) (eln : I 0 12 = nI ln) (k : Nat) (hk : k < ln) (q : Nat) (hr : q < 6) (n : Nat) (hn : n ≤ rm q) (hz : I (20 + 2 * q) 1 = nI n) (n8 : n ≤ 20) (hno : ¬ ∀ k, k < n → okN (nI 0) 2147483647 (A (21 + 2 * q) k))  : x_ev X xT 7 137 [.ref 0, .int (nI k), .int (nI q), .int (nI 1)] (HX I A J B F) (some (.int (-3))) (HX (u2 I 0 13 (nI 3)) (f_cnt A 19 3) J B F) := by
  refine q_ev (L := [some (.ref 0), some (.int (nI k)), some (.int (nI q)), some (.int (nI 1)), none, none, none, none, none, none, none, none, none]) tX8_guessed (Nat.le_of_ble_eq_true rfl) rfl ?_
  refine q_aload_n rfl rfl ?_
  refine q_iload_n rfl rfl ?_
  refine q_callV1 rfl hx_0 (Nat.le_of_ble_eq_true rfl) (Nat.le_of_ble_eq_true rfl) (sX8_lightAt k ln hk hln eln) ?_
  refine q_astore (L' := [_, _, _, _, _, _, _, _, _, _, _, _, _]) rfl rfl ?_
  refine q_aload_n rfl rfl ?_
  refine q_getfield rfl hx_0 rfl ?_
  refine q_iload_n rfl rfl ?_
  refine q_callS2 rfl rfl (Nat.le_of_ble_eq_true rfl) (Nat.le_of_ble_eq_true rfl) (sX8_lineAt_row q hr) ?_
  refine q_astore (L' := [_, _, _, _, _, _, _, _, _, _, _, _, _]) rfl rfl ?_
  refine q_aload rfl rfl ?_
  refine q_ifnull rfl ?_
  refine q_aload rfl rfl ?_
  refine q_ifnonnull rfl ?_
  refine q_aload_n rfl rfl ?_
  refine q_aload rfl rfl ?_
  refine q_callV1 rfl hx_0 (Nat.le_of_ble_eq_true rfl) (Nat.le_of_ble_eq_true rfl) (sX8_refuseNotes_U q (by omega) n hn hz n8 hno) ?_
  refine q_istore (L' := [_, _, _, _, _, _, _, _, _, _, _, _, _]) rfl rfl ?_
  refine q_iload rfl rfl ?_
  refine q_if_eq rfl (fun hc39 => ?_) (fun hc39 => ?_)
  · exact absurd hc39 (by decide)
  · refine q_iload rfl rfl ?_
    refine q_iret rfl rfl ?_
    exact ⟨rfl, rfl⟩
set_option maxHeartbeats 1000000 in
theorem c_g1_0 {X : XX} {I A : Nat → Nat → Int32} {J B : Nat → Nat → Int64} {F : Nat → Nat} (b : Nat) (hb : b ≤ 5) (eb : I 7 0 = nI b) (m : Nat) (em : I 8 2 = nI m) (hm : m ≤ 40) (s : Nat) (es : I 8 3 = nI s) (hs : s < 24) (ln : Nat) (hln : ln ≤ 5) (eln : I 0 12 = nI ln) (lks : ∀ i, i < 5 → lkOK I (40 + i)) (k : Nat) (hk : k < ln) (q : Nat) (hr : q < 6) (n : Nat) (hn : n ≤ rm q) (hz : I (20 + 2 * q) 1 = nI n) (n8 : n ≤ 20) (hok : ∀ k, k < n → okN (nI 0) 2147483647 (A (21 + 2 * q) k))  : ∃ v0 v1 v2 v3, x_ev X xT 7 137 [.ref 0, .int (nI k), .int (nI q), .int (nI 1)] (HX I A J B F) (some (.int (orf (fun g => decide (allB (gsP b (glt (I (40 + k) 0) g (I (40 + k) 2) (tn (I (40 + k) 3)) m) s m (A (21 + 2 * q))) n 0 = 1)) 24))) (HX (g4 I v0 v1 v2 v3) A J B F) ∧ True := by
  obtain ⟨r_, h_, he_, v0, v1, v2, v3, hr_, hh_, hf_⟩ := q_evx (X := X) (d := 6) (as := [.ref 0, .int (nI k), .int (nI q), .int (nI 1)]) (h := (HX I A J B F)) (P := fun r_ h_ => ∃ v0 v1 v2 v3, r_ = (some (.int (orf (fun g => decide (allB (gsP b (glt (I (40 + k) 0) g (I (40 + k) 2) (tn (I (40 + k) 3)) m) s m (A (21 + 2 * q))) n 0 = 1)) 24))) ∧ h_ = (HX (g4 I v0 v1 v2 v3) A J B F) ∧ True) (L := [some (.ref 0), some (.int (nI k)), some (.int (nI q)), some (.int (nI 1)), none, none, none, none, none, none, none, none, none]) tX8_guessed (Nat.le_of_ble_eq_true rfl) rfl (by
    refine q_aload_n rfl rfl ?_
    refine q_iload_n rfl rfl ?_
    refine q_callV1 rfl hx_0 (Nat.le_of_ble_eq_true rfl) (Nat.le_of_ble_eq_true rfl) (sX8_lightAt k ln hk hln eln) ?_
    refine q_astore (L' := [_, _, _, _, _, _, _, _, _, _, _, _, _]) rfl rfl ?_
    refine q_aload_n rfl rfl ?_
    refine q_getfield rfl hx_0 rfl ?_
    refine q_iload_n rfl rfl ?_
    refine q_callS2 rfl rfl (Nat.le_of_ble_eq_true rfl) (Nat.le_of_ble_eq_true rfl) (sX8_lineAt_row q hr) ?_
    refine q_astore (L' := [_, _, _, _, _, _, _, _, _, _, _, _, _]) rfl rfl ?_
    refine q_aload rfl rfl ?_
    refine q_ifnull rfl ?_
    refine q_aload rfl rfl ?_
    refine q_ifnonnull rfl ?_
    refine q_aload_n rfl rfl ?_
    refine q_aload rfl rfl ?_
    refine q_callV1 rfl hx_0 (Nat.le_of_ble_eq_true rfl) (Nat.le_of_ble_eq_true rfl) (sX8_refuseNotes_0 q (by omega) n hn hz n8 hok) ?_
    refine q_istore (L' := [_, _, _, _, _, _, _, _, _, _, _, _, _]) rfl rfl ?_
    refine q_iload rfl rfl ?_
    refine q_if_eqN rfl (by omega) (fun hc39 => ?_) (fun hc39 => ?_)
    · refine q_aload rfl rfl ?_
      refine q_aload_n rfl rfl ?_
      refine q_getfield rfl hx_0 rfl ?_
      refine q_callV0 rfl hx_8 (Nat.le_of_ble_eq_true rfl) (Nat.le_of_ble_eq_true rfl) (sN_now (show _ = nI m from em)) ?_
      refine q_callV1 rfl (hx_light k (by omega)) (Nat.le_of_ble_eq_true rfl) (Nat.le_of_ble_eq_true rfl) (sK_place (hx_light k (by omega)) (lks k (by omega)) _) ?_
      refine q_istore (L' := [_, _, _, _, _, _, _, _, _, _, _, _, _]) rfl rfl ?_
      refine q_iload_n rfl rfl ?_
      refine q_iconst (v := nI 1) rfl rfl ?_
      refine q_icmp_neN rfl (by omega) (by omega) (fun hc61 => ?_) (fun hc61 => ?_)
      · exact absurd hc61 (by decide)
      · refine q_bipush (v := nI 24) rfl rfl ?_
        refine q_goto rfl ?_
        refine q_istore (L' := [_, _, _, _, _, _, _, _, _, _, _, _, _]) rfl rfl ?_
        refine q_iconst (v := nI 0) rfl rfl ?_
        refine q_istore (L' := [_, _, _, _, _, _, _, _, _, _, _, _, _]) rfl rfl ?_
        refine q_iconst (v := 0) rfl rfl ?_
        refine q_istore (L' := [_, _, _, _, _, _, _, _, _, _, _, _, _]) rfl rfl ?_
        refine q_up (Inv := fun g L h => ∃ v0 v1 v2 v3 z1 z2, L = [some (.ref 0), some (.int (nI k)), some (.int (nI q)), some (.int (nI 1)), some (.ref (40 + k)), some (.ref (20 + 2 * q)), some (.int (nI 0)), some (.int (nI (plN (cL I (40 + k)) m))), some (.int (nI 24)), some (.int (orf (fun g => decide (allB (gsP b (glt (I (40 + k) 0) g (I (40 + k) 2) (tn (I (40 + k) 3)) m) s m (A (21 + 2 * q))) n 0 = 1)) g)), some (.int (nI g)), z1, z2] ∧ h = HX (g4 I v0 v1 v2 v3) A J B F) (24) (fun g L h hk_g hi_g ih_g => ?_) (fun L h hi_g => ?_) (0) _ _ (by omega) (⟨I 6 0, I 6 1, I 6 2, I 6 3, _, _, rfl, by rw [g4_same]⟩)
        · obtain ⟨v0, v1, v2, v3, z1, z2, rfl, rfl⟩ := hi_g
          refine q_iload rfl rfl ?_
          refine q_iload rfl rfl ?_
          refine q_icmp_geN rfl (by omega) (by omega) (fun hcgs92 => ?_) (fun hcgs92 => ?_)
          · omega
          · refine q_iload_n rfl rfl ?_
            refine q_if_neN rfl (by omega) (fun hcgs96 => ?_) (fun hcgs96 => ?_)
            · refine q_aload rfl rfl ?_
              refine q_callV0 rfl (hx_light k (by omega)) (Nat.le_of_ble_eq_true rfl) (Nat.le_of_ble_eq_true rfl) (sX1_kind (hx_light k (by omega))) ?_
              refine q_cn (g4_ne (by omega)) ?_
              refine q_istore (L' := [_, _, _, _, _, _, _, _, _, _, _, _, _]) rfl rfl ?_
              refine q_iload_n rfl rfl ?_
              refine q_iconst (v := nI 2) rfl rfl ?_
              refine q_icmp_neN rfl (by omega) (by omega) (fun hcgs113 => ?_) (fun hcgs113 => ?_)
              · refine q_aload rfl rfl ?_
                refine q_callV0 rfl (hx_light k (by omega)) (Nat.le_of_ble_eq_true rfl) (Nat.le_of_ble_eq_true rfl) (sX1_speed (hx_light k (by omega))) ?_
                refine q_cn (g4_ne (by omega)) ?_
                refine q_istore (L' := [_, _, _, _, _, _, _, _, _, _, _, _, _]) rfl rfl ?_
                refine q_aload_n rfl rfl ?_
                refine q_getfield rfl hx_0 rfl ?_
                refine q_iload rfl rfl ?_
                refine q_iconst (v := 0) rfl rfl ?_
                refine q_iload rfl rfl ?_
                refine q_aload rfl rfl ?_
                refine q_callV0 rfl (hx_light k (by omega)) (Nat.le_of_ble_eq_true rfl) (Nat.le_of_ble_eq_true rfl) (sX1_toldBright (hx_light k (by omega))) ?_
                refine q_cn (g4_ne (by omega)) ?_
                refine q_callV4 rfl hx_6 (Nat.le_of_ble_eq_true rfl) (Nat.le_of_ble_eq_true rfl) (sX1_become hx_6 _ _ _ _) ?_
                refine q_heap (hf_6 _ _ _ _) ?_
                refine q_heap (show HX (g4 (g4 I v0 v1 v2 v3) _ _ _ _) A J B F = _ from by rw [g4_g4]) ?_
                refine q_aload_n rfl rfl ?_
                refine q_getfield rfl hx_0 rfl ?_
                refine q_iload_n rfl rfl ?_
                refine q_iconst (v := nI 1) rfl rfl ?_
                refine q_icmp_neN rfl (by omega) (by omega) (fun hcgs154 => ?_) (fun hcgs154 => ?_)
                · exact absurd hcgs154 (by decide)
                · refine q_iload rfl rfl ?_
                  refine q_goto rfl ?_
                  refine q_aload_n rfl rfl ?_
                  refine q_getfield rfl hx_0 rfl ?_
                  refine q_callV0 rfl hx_8 (Nat.le_of_ble_eq_true rfl) (Nat.le_of_ble_eq_true rfl) (sN_now (show _ = nI m from em)) ?_
                  refine q_callV2 rfl hx_6 (Nat.le_of_ble_eq_true rfl) (Nat.le_of_ble_eq_true rfl) (sX1_standAt hx_6 (lks k (by omega)).1.1 _ _) ?_
                  refine q_heap (hf_6 _ _ _ _) ?_
                  refine q_heap (show HX (g4 (g4 I _ _ _ _) _ _ _ _) A J B F = HX (g4 I (I (40 + k) 0) (nI (rdN (nI g - f_mv (I (40 + k) 0) (I (40 + k) 2) (nI m)))) (I (40 + k) 2) (I (40 + k) 3)) A J B F from by rw [g4_g4, f_rd_eq]; rfl) ?_
                  refine q_iload rfl rfl ?_
                  refine q_aload_n rfl rfl ?_
                  refine q_aload rfl rfl ?_
                  refine q_callV1 rfl hx_0 (Nat.le_of_ble_eq_true rfl) (Nat.le_of_ble_eq_true rfl) (sX8_guessFits (I := (g4 I (I (40 + k) 0) (nI (rdN (nI g - f_mv (I (40 + k) 0) (I (40 + k) 2) (nI m)))) (I (40 + k) 2) (I (40 + k) 3))) b hb (by exact eb) m (by exact em) hm s (by exact es) hs (show lkOK (g4 I (I (40 + k) 0) (nI (rdN (nI g - f_mv (I (40 + k) 0) (I (40 + k) 2) (nI m)))) (I (40 + k) 2) (I (40 + k) 3)) 6 from ⟨⟨(lks k (by omega)).1.1, (lks k (by omega)).1.2⟩, (lks k (by omega)).2⟩) q (by omega) n hn ((g4_ne (by omega)).trans hz) n8) ?_
                  refine q_cn (show _ = nI (allB (gsP b (glt (I (40 + k) 0) g (I (40 + k) 2) (tn (I (40 + k) 3)) m) s m (A (21 + 2 * q))) n 0) from rfl) ?_
                  refine q_if_eqN rfl (by have := allB_le (gsP b (glt (I (40 + k) 0) g (I (40 + k) 2) (tn (I (40 + k) 3)) m) s m (A (21 + 2 * q))) n 0; omega) (fun hcgs182 => ?_) (fun hcgs182 => ?_)
                  · refine q_iconst (v := nI 0) rfl rfl ?_
                    refine q_ior rfl ?_
                    refine q_istore (L' := [_, _, _, _, _, _, _, _, _, _, _, _, _]) rfl rfl ?_
                    refine q_iincN (c := 1) (L' := [_, _, _, _, _, _, _, _, _, _, _, _, _]) rfl rfl rfl rfl ?_
                    refine q_goto rfl ?_
                    exact ih_g _ _ (⟨_, _, _, _, _, _, by rw [show ∀ p j, orf p (j + 1) = if p j = true then orf p j ||| (nI 1 <<< (nI j &&& 31)) else orf p j from fun _ _ => rfl]; first | rw [if_pos (decide_eq_true (show allB (gsP b (glt (I (40 + k) 0) g (I (40 + k) 2) (tn (I (40 + k) 3)) m) s m (A (21 + 2 * q))) n 0 = 1 by have := allB_le (gsP b (glt (I (40 + k) 0) g (I (40 + k) 2) (tn (I (40 + k) 3)) m) s m (A (21 + 2 * q))) n 0; omega))] | rw [if_neg (fun z => absurd (of_decide_eq_true z) (show ¬ allB (gsP b (glt (I (40 + k) 0) g (I (40 + k) 2) (tn (I (40 + k) 3)) m) s m (A (21 + 2 * q))) n 0 = 1 by omega)), or_0], rfl⟩)
                  · refine q_iconst (v := nI 1) rfl rfl ?_
                    refine q_iload rfl rfl ?_
                    refine q_ishl rfl ?_
                    refine q_goto rfl ?_
                    refine q_ior rfl ?_
                    refine q_istore (L' := [_, _, _, _, _, _, _, _, _, _, _, _, _]) rfl rfl ?_
                    refine q_iincN (c := 1) (L' := [_, _, _, _, _, _, _, _, _, _, _, _, _]) rfl rfl rfl rfl ?_
                    refine q_goto rfl ?_
                    exact ih_g _ _ (⟨_, _, _, _, _, _, by rw [show ∀ p j, orf p (j + 1) = if p j = true then orf p j ||| (nI 1 <<< (nI j &&& 31)) else orf p j from fun _ _ => rfl]; first | rw [if_pos (decide_eq_true (show allB (gsP b (glt (I (40 + k) 0) g (I (40 + k) 2) (tn (I (40 + k) 3)) m) s m (A (21 + 2 * q))) n 0 = 1 by have := allB_le (gsP b (glt (I (40 + k) 0) g (I (40 + k) 2) (tn (I (40 + k) 3)) m) s m (A (21 + 2 * q))) n 0; omega))] | rw [if_neg (fun z => absurd (of_decide_eq_true z) (show ¬ allB (gsP b (glt (I (40 + k) 0) g (I (40 + k) 2) (tn (I (40 + k) 3)) m) s m (A (21 + 2 * q))) n 0 = 1 by omega)), or_0], rfl⟩)
              · exact absurd hcgs113 (by decide)
            · exact absurd hcgs96 (by decide)
        · obtain ⟨v0, v1, v2, v3, z1, z2, rfl, rfl⟩ := hi_g
          refine q_iload rfl rfl ?_
          refine q_iload rfl rfl ?_
          refine q_icmp_geN rfl (by omega) (by omega) (fun hcgf92 => ?_) (fun hcgf92 => ?_)
          · refine q_iload rfl rfl ?_
            refine q_iret rfl rfl ?_
            exact ⟨v0, v1, v2, v3, rfl, rfl, trivial⟩
          · omega
    · exact absurd hc39 (by decide))
  subst hr_
  subst hh_
  exact ⟨v0, v1, v2, v3, he_, hf_⟩
theorem c_places_w {X : XX} {I A I1 A1 : Nat → Nat → Int32} {J B J1 B1 : Nat → Nat → Int64} {F F1 : Nat → Nat} {x y r : Int32} (e : x_ev X xT 7 137 [.ref 0, .int x, .int y, .int (nI 1)] (HX I A J B F) (some (.int r)) (HX I1 A1 J1 B1 F1)) : x_ev X xT 8 109 [.ref 0, .int x, .int y] (HX I A J B F) (some (.int r)) (HX I1 A1 J1 B1 F1) := by
  refine q_ev (L := [some (.ref 0), some (.int x), some (.int y)]) tX8_places (Nat.le_of_ble_eq_true rfl) rfl ?_
  refine q_aload_n rfl rfl ?_
  refine q_iload_n rfl rfl ?_
  refine q_iload_n rfl rfl ?_
  refine q_iconst (v := nI 1) rfl rfl ?_
  refine q_callV3 rfl hx_0 (Nat.le_of_ble_eq_true rfl) (Nat.le_of_ble_eq_true rfl) (e) ?_
  refine q_iret rfl rfl ?_
  exact ⟨rfl, rfl⟩
theorem c_g2_bb {X : XX} {I A : Nat → Nat → Int32} {J B : Nat → Nat → Int64} {F : Nat → Nat} (x : Int32) (hx : x < 0 ∨ I 0 12 ≤ x) (y : Int32) (hy : y < 0 ∨ 6 ≤ y)  : x_ev X xT 7 137 [.ref 0, .int x, .int y, .int (nI 2)] (HX I A J B F) (some (.int (-1))) (HX I A J B F) := by
  refine q_ev (L := [some (.ref 0), some (.int x), some (.int y), some (.int (nI 2)), none, none, none, none, none, none, none, none, none]) tX8_guessed (Nat.le_of_ble_eq_true rfl) rfl ?_
  refine q_aload_n rfl rfl ?_
  refine q_iload_n rfl rfl ?_
  refine q_callV1 rfl hx_0 (Nat.le_of_ble_eq_true rfl) (Nat.le_of_ble_eq_true rfl) (sX8_lightAtN x hx) ?_
  refine q_astoreN (L' := [_, _, _, _, _, _, _, _, _, _, _, _, _]) rfl rfl ?_
  refine q_aload_n rfl rfl ?_
  refine q_getfield rfl hx_0 rfl ?_
  refine q_iload_n rfl rfl ?_
  refine q_callS2 rfl rfl (Nat.le_of_ble_eq_true rfl) (Nat.le_of_ble_eq_true rfl) (sX8_lineAt_rowN y hy) ?_
  refine q_astoreN (L' := [_, _, _, _, _, _, _, _, _, _, _, _, _]) rfl rfl ?_
  refine q_aloadN rfl rfl ?_
  refine q_ifnullN rfl ?_
  refine q_iconst (v := (-1)) rfl rfl ?_
  refine q_iret rfl rfl ?_
  exact ⟨rfl, rfl⟩
theorem c_g2_bo {X : XX} {I A : Nat → Nat → Int32} {J B : Nat → Nat → Int64} {F : Nat → Nat} (x : Int32) (hx : x < 0 ∨ I 0 12 ≤ x) (q : Nat) (hr : q < 6)  : x_ev X xT 7 137 [.ref 0, .int x, .int (nI q), .int (nI 2)] (HX I A J B F) (some (.int (-1))) (HX I A J B F) := by
  refine q_ev (L := [some (.ref 0), some (.int x), some (.int (nI q)), some (.int (nI 2)), none, none, none, none, none, none, none, none, none]) tX8_guessed (Nat.le_of_ble_eq_true rfl) rfl ?_
  refine q_aload_n rfl rfl ?_
  refine q_iload_n rfl rfl ?_
  refine q_callV1 rfl hx_0 (Nat.le_of_ble_eq_true rfl) (Nat.le_of_ble_eq_true rfl) (sX8_lightAtN x hx) ?_
  refine q_astoreN (L' := [_, _, _, _, _, _, _, _, _, _, _, _, _]) rfl rfl ?_
  refine q_aload_n rfl rfl ?_
  refine q_getfield rfl hx_0 rfl ?_
  refine q_iload_n rfl rfl ?_
  refine q_callS2 rfl rfl (Nat.le_of_ble_eq_true rfl) (Nat.le_of_ble_eq_true rfl) (sX8_lineAt_row q hr) ?_
  refine q_astore (L' := [_, _, _, _, _, _, _, _, _, _, _, _, _]) rfl rfl ?_
  refine q_aloadN rfl rfl ?_
  refine q_ifnullN rfl ?_
  refine q_iconst (v := (-1)) rfl rfl ?_
  refine q_iret rfl rfl ?_
  exact ⟨rfl, rfl⟩
theorem c_g2_ob {X : XX} {I A : Nat → Nat → Int32} {J B : Nat → Nat → Int64} {F : Nat → Nat} (ln : Nat) (hln : ln ≤ 5) (eln : I 0 12 = nI ln) (k : Nat) (hk : k < ln) (y : Int32) (hy : y < 0 ∨ 6 ≤ y)  : x_ev X xT 7 137 [.ref 0, .int (nI k), .int y, .int (nI 2)] (HX I A J B F) (some (.int (-1))) (HX I A J B F) := by
  refine q_ev (L := [some (.ref 0), some (.int (nI k)), some (.int y), some (.int (nI 2)), none, none, none, none, none, none, none, none, none]) tX8_guessed (Nat.le_of_ble_eq_true rfl) rfl ?_
  refine q_aload_n rfl rfl ?_
  refine q_iload_n rfl rfl ?_
  refine q_callV1 rfl hx_0 (Nat.le_of_ble_eq_true rfl) (Nat.le_of_ble_eq_true rfl) (sX8_lightAt k ln hk hln eln) ?_
  refine q_astore (L' := [_, _, _, _, _, _, _, _, _, _, _, _, _]) rfl rfl ?_
  refine q_aload_n rfl rfl ?_
  refine q_getfield rfl hx_0 rfl ?_
  refine q_iload_n rfl rfl ?_
  refine q_callS2 rfl rfl (Nat.le_of_ble_eq_true rfl) (Nat.le_of_ble_eq_true rfl) (sX8_lineAt_rowN y hy) ?_
  refine q_astoreN (L' := [_, _, _, _, _, _, _, _, _, _, _, _, _]) rfl rfl ?_
  refine q_aload rfl rfl ?_
  refine q_ifnull rfl ?_
  refine q_aloadN rfl rfl ?_
  refine q_ifnonnullN rfl ?_
  refine q_iconst (v := (-1)) rfl rfl ?_
  refine q_iret rfl rfl ?_
  exact ⟨rfl, rfl⟩
theorem c_g2_M {X : XX} {I A : Nat → Nat → Int32} {J B : Nat → Nat → Int64} {F : Nat → Nat} (ln : Nat) (hln : ln ≤ 5) (eln : I 0 12 = nI ln) (k : Nat) (hk : k < ln) (q : Nat) (hr : q < 6) (hz : I (20 + 2 * q) 1 = -1)  : x_ev X xT 7 137 [.ref 0, .int (nI k), .int (nI q), .int (nI 2)] (HX I A J B F) (some (.int (-3))) (HX (u2 I 0 13 (nI 1)) (f_cnt A 19 1) J B F) := by
  refine q_ev (L := [some (.ref 0), some (.int (nI k)), some (.int (nI q)), some (.int (nI 2)), none, none, none, none, none, none, none, none, none]) tX8_guessed (Nat.le_of_ble_eq_true rfl) rfl ?_
  refine q_aload_n rfl rfl ?_
  refine q_iload_n rfl rfl ?_
  refine q_callV1 rfl hx_0 (Nat.le_of_ble_eq_true rfl) (Nat.le_of_ble_eq_true rfl) (sX8_lightAt k ln hk hln eln) ?_
  refine q_astore (L' := [_, _, _, _, _, _, _, _, _, _, _, _, _]) rfl rfl ?_
  refine q_aload_n rfl rfl ?_
  refine q_getfield rfl hx_0 rfl ?_
  refine q_iload_n rfl rfl ?_
  refine q_callS2 rfl rfl (Nat.le_of_ble_eq_true rfl) (Nat.le_of_ble_eq_true rfl) (sX8_lineAt_row q hr) ?_
  refine q_astore (L' := [_, _, _, _, _, _, _, _, _, _, _, _, _]) rfl rfl ?_
  refine q_aload rfl rfl ?_
  refine q_ifnull rfl ?_
  refine q_aload rfl rfl ?_
  refine q_ifnonnull rfl ?_
  refine q_aload_n rfl rfl ?_
  refine q_aload rfl rfl ?_
  refine q_callV1 rfl hx_0 (Nat.le_of_ble_eq_true rfl) (Nat.le_of_ble_eq_true rfl) (sX8_refuseNotes_M q (by omega) hz) ?_
  refine q_istore (L' := [_, _, _, _, _, _, _, _, _, _, _, _, _]) rfl rfl ?_
  refine q_iload rfl rfl ?_
  refine q_if_eq rfl (fun hc39 => ?_) (fun hc39 => ?_)
  · exact absurd hc39 (by decide)
  · refine q_iload rfl rfl ?_
    refine q_iret rfl rfl ?_
    exact ⟨rfl, rfl⟩
theorem c_g2_S {X : XX} {I A : Nat → Nat → Int32} {J B : Nat → Nat → Int64} {F : Nat → Nat} (ln : Nat) (hln : ln ≤ 5) (eln : I 0 12 = nI ln) (k : Nat) (hk : k < ln) (q : Nat) (hr : q < 6) (n : Nat) (hn : n ≤ rm q) (hz : I (20 + 2 * q) 1 = nI n) (hn8 : 20 < n)  : x_ev X xT 7 137 [.ref 0, .int (nI k), .int (nI q), .int (nI 2)] (HX I A J B F) (some (.int (-3))) (HX (u2 I 0 13 (nI 5)) (f_cnt A 19 5) J B F) := by
  refine q_ev (L := [some (.ref 0), some (.int (nI k)), some (.int (nI q)), some (.int (nI 2)), none, none, none, none, none, none, none, none, none]) tX8_guessed (Nat.le_of_ble_eq_true rfl) rfl ?_
  refine q_aload_n rfl rfl ?_
  refine q_iload_n rfl rfl ?_
  refine q_callV1 rfl hx_0 (Nat.le_of_ble_eq_true rfl) (Nat.le_of_ble_eq_true rfl) (sX8_lightAt k ln hk hln eln) ?_
  refine q_astore (L' := [_, _, _, _, _, _, _, _, _, _, _, _, _]) rfl rfl ?_
  refine q_aload_n rfl rfl ?_
  refine q_getfield rfl hx_0 rfl ?_
  refine q_iload_n rfl rfl ?_
  refine q_callS2 rfl rfl (Nat.le_of_ble_eq_true rfl) (Nat.le_of_ble_eq_true rfl) (sX8_lineAt_row q hr) ?_
  refine q_astore (L' := [_, _, _, _, _, _, _, _, _, _, _, _, _]) rfl rfl ?_
  refine q_aload rfl rfl ?_
  refine q_ifnull rfl ?_
  refine q_aload rfl rfl ?_
  refine q_ifnonnull rfl ?_
  refine q_aload_n rfl rfl ?_
  refine q_aload rfl rfl ?_
  refine q_callV1 rfl hx_0 (Nat.le_of_ble_eq_true rfl) (Nat.le_of_ble_eq_true rfl) (sX8_refuseNotes_S q (by omega) n hn hz hn8) ?_
  refine q_istore (L' := [_, _, _, _, _, _, _, _, _, _, _, _, _]) rfl rfl ?_
  refine q_iload rfl rfl ?_
  refine q_if_eq rfl (fun hc39 => ?_) (fun hc39 => ?_)
  · exact absurd hc39 (by decide)
  · refine q_iload rfl rfl ?_
    refine q_iret rfl rfl ?_
    exact ⟨rfl, rfl⟩
theorem c_g2_U {X : XX} {I A : Nat → Nat → Int32} {J B : Nat → Nat → Int64} {F : Nat → Nat} (ln : Nat) (hln : ln ≤ 5) (eln : I 0 12 = nI ln) (k : Nat) (hk : k < ln) (q : Nat) (hr : q < 6) (n : Nat) (hn : n ≤ rm q) (hz : I (20 + 2 * q) 1 = nI n) (n8 : n ≤ 20) (hno : ¬ ∀ k, k < n → okN (nI 0) 2147483647 (A (21 + 2 * q) k))  : x_ev X xT 7 137 [.ref 0, .int (nI k), .int (nI q), .int (nI 2)] (HX I A J B F) (some (.int (-3))) (HX (u2 I 0 13 (nI 3)) (f_cnt A 19 3) J B F) := by
  refine q_ev (L := [some (.ref 0), some (.int (nI k)), some (.int (nI q)), some (.int (nI 2)), none, none, none, none, none, none, none, none, none]) tX8_guessed (Nat.le_of_ble_eq_true rfl) rfl ?_
  refine q_aload_n rfl rfl ?_
  refine q_iload_n rfl rfl ?_
  refine q_callV1 rfl hx_0 (Nat.le_of_ble_eq_true rfl) (Nat.le_of_ble_eq_true rfl) (sX8_lightAt k ln hk hln eln) ?_
  refine q_astore (L' := [_, _, _, _, _, _, _, _, _, _, _, _, _]) rfl rfl ?_
  refine q_aload_n rfl rfl ?_
  refine q_getfield rfl hx_0 rfl ?_
  refine q_iload_n rfl rfl ?_
  refine q_callS2 rfl rfl (Nat.le_of_ble_eq_true rfl) (Nat.le_of_ble_eq_true rfl) (sX8_lineAt_row q hr) ?_
  refine q_astore (L' := [_, _, _, _, _, _, _, _, _, _, _, _, _]) rfl rfl ?_
  refine q_aload rfl rfl ?_
  refine q_ifnull rfl ?_
  refine q_aload rfl rfl ?_
  refine q_ifnonnull rfl ?_
  refine q_aload_n rfl rfl ?_
  refine q_aload rfl rfl ?_
  refine q_callV1 rfl hx_0 (Nat.le_of_ble_eq_true rfl) (Nat.le_of_ble_eq_true rfl) (sX8_refuseNotes_U q (by omega) n hn hz n8 hno) ?_
  refine q_istore (L' := [_, _, _, _, _, _, _, _, _, _, _, _, _]) rfl rfl ?_
  refine q_iload rfl rfl ?_
  refine q_if_eq rfl (fun hc39 => ?_) (fun hc39 => ?_)
  · exact absurd hc39 (by decide)
  · refine q_iload rfl rfl ?_
    refine q_iret rfl rfl ?_
    exact ⟨rfl, rfl⟩
set_option maxHeartbeats 1000000 in
theorem c_g2_0 {X : XX} {I A : Nat → Nat → Int32} {J B : Nat → Nat → Int64} {F : Nat → Nat} (b : Nat) (hb : b ≤ 5) (eb : I 7 0 = nI b) (m : Nat) (em : I 8 2 = nI m) (hm : m ≤ 40) (s : Nat) (es : I 8 3 = nI s) (hs : s < 24) (ln : Nat) (hln : ln ≤ 5) (eln : I 0 12 = nI ln) (lks : ∀ i, i < 5 → lkOK I (40 + i)) (k : Nat) (hk : k < ln) (q : Nat) (hr : q < 6) (n : Nat) (hn : n ≤ rm q) (hz : I (20 + 2 * q) 1 = nI n) (n8 : n ≤ 20) (hok : ∀ k, k < n → okN (nI 0) 2147483647 (A (21 + 2 * q) k))  : ∃ v0 v1 v2 v3, x_ev X xT 7 137 [.ref 0, .int (nI k), .int (nI q), .int (nI 2)] (HX I A J B F) (some (.int (orf (fun g => decide (allB (gsP b (glt (I (40 + k) 0) (plN (cL I (40 + k)) m) (sI 2 g) (tn (I (40 + k) 3)) m) s m (A (21 + 2 * q))) n 0 = 1)) 6))) (HX (g4 I v0 v1 v2 v3) A J B F) ∧ True := by
  obtain ⟨r_, h_, he_, v0, v1, v2, v3, hr_, hh_, hf_⟩ := q_evx (X := X) (d := 6) (as := [.ref 0, .int (nI k), .int (nI q), .int (nI 2)]) (h := (HX I A J B F)) (P := fun r_ h_ => ∃ v0 v1 v2 v3, r_ = (some (.int (orf (fun g => decide (allB (gsP b (glt (I (40 + k) 0) (plN (cL I (40 + k)) m) (sI 2 g) (tn (I (40 + k) 3)) m) s m (A (21 + 2 * q))) n 0 = 1)) 6))) ∧ h_ = (HX (g4 I v0 v1 v2 v3) A J B F) ∧ True) (L := [some (.ref 0), some (.int (nI k)), some (.int (nI q)), some (.int (nI 2)), none, none, none, none, none, none, none, none, none]) tX8_guessed (Nat.le_of_ble_eq_true rfl) rfl (by
    refine q_aload_n rfl rfl ?_
    refine q_iload_n rfl rfl ?_
    refine q_callV1 rfl hx_0 (Nat.le_of_ble_eq_true rfl) (Nat.le_of_ble_eq_true rfl) (sX8_lightAt k ln hk hln eln) ?_
    refine q_astore (L' := [_, _, _, _, _, _, _, _, _, _, _, _, _]) rfl rfl ?_
    refine q_aload_n rfl rfl ?_
    refine q_getfield rfl hx_0 rfl ?_
    refine q_iload_n rfl rfl ?_
    refine q_callS2 rfl rfl (Nat.le_of_ble_eq_true rfl) (Nat.le_of_ble_eq_true rfl) (sX8_lineAt_row q hr) ?_
    refine q_astore (L' := [_, _, _, _, _, _, _, _, _, _, _, _, _]) rfl rfl ?_
    refine q_aload rfl rfl ?_
    refine q_ifnull rfl ?_
    refine q_aload rfl rfl ?_
    refine q_ifnonnull rfl ?_
    refine q_aload_n rfl rfl ?_
    refine q_aload rfl rfl ?_
    refine q_callV1 rfl hx_0 (Nat.le_of_ble_eq_true rfl) (Nat.le_of_ble_eq_true rfl) (sX8_refuseNotes_0 q (by omega) n hn hz n8 hok) ?_
    refine q_istore (L' := [_, _, _, _, _, _, _, _, _, _, _, _, _]) rfl rfl ?_
    refine q_iload rfl rfl ?_
    refine q_if_eqN rfl (by omega) (fun hc39 => ?_) (fun hc39 => ?_)
    · refine q_aload rfl rfl ?_
      refine q_aload_n rfl rfl ?_
      refine q_getfield rfl hx_0 rfl ?_
      refine q_callV0 rfl hx_8 (Nat.le_of_ble_eq_true rfl) (Nat.le_of_ble_eq_true rfl) (sN_now (show _ = nI m from em)) ?_
      refine q_callV1 rfl (hx_light k (by omega)) (Nat.le_of_ble_eq_true rfl) (Nat.le_of_ble_eq_true rfl) (sK_place (hx_light k (by omega)) (lks k (by omega)) _) ?_
      refine q_istore (L' := [_, _, _, _, _, _, _, _, _, _, _, _, _]) rfl rfl ?_
      refine q_iload_n rfl rfl ?_
      refine q_iconst (v := nI 1) rfl rfl ?_
      refine q_icmp_neN rfl (by omega) (by omega) (fun hc61 => ?_) (fun hc61 => ?_)
      · refine q_iload_n rfl rfl ?_
        refine q_if_neN rfl (by omega) (fun hc70 => ?_) (fun hc70 => ?_)
        · refine q_bipush (v := nI 6) rfl rfl ?_
          refine q_istore (L' := [_, _, _, _, _, _, _, _, _, _, _, _, _]) rfl rfl ?_
          refine q_iconst (v := nI 0) rfl rfl ?_
          refine q_istore (L' := [_, _, _, _, _, _, _, _, _, _, _, _, _]) rfl rfl ?_
          refine q_iconst (v := 0) rfl rfl ?_
          refine q_istore (L' := [_, _, _, _, _, _, _, _, _, _, _, _, _]) rfl rfl ?_
          refine q_up (Inv := fun g L h => ∃ v0 v1 v2 v3 z1 z2, L = [some (.ref 0), some (.int (nI k)), some (.int (nI q)), some (.int (nI 2)), some (.ref (40 + k)), some (.ref (20 + 2 * q)), some (.int (nI 0)), some (.int (nI (plN (cL I (40 + k)) m))), some (.int (nI 6)), some (.int (orf (fun g => decide (allB (gsP b (glt (I (40 + k) 0) (plN (cL I (40 + k)) m) (sI 2 g) (tn (I (40 + k) 3)) m) s m (A (21 + 2 * q))) n 0 = 1)) g)), some (.int (nI g)), z1, z2] ∧ h = HX (g4 I v0 v1 v2 v3) A J B F) (6) (fun g L h hk_g hi_g ih_g => ?_) (fun L h hi_g => ?_) (0) _ _ (by omega) (⟨I 6 0, I 6 1, I 6 2, I 6 3, _, _, rfl, by rw [g4_same]⟩)
          · obtain ⟨v0, v1, v2, v3, z1, z2, rfl, rfl⟩ := hi_g
            refine q_iload rfl rfl ?_
            refine q_iload rfl rfl ?_
            refine q_icmp_geN rfl (by omega) (by omega) (fun hcgs92 => ?_) (fun hcgs92 => ?_)
            · omega
            · refine q_iload_n rfl rfl ?_
              refine q_if_neN rfl (by omega) (fun hcgs96 => ?_) (fun hcgs96 => ?_)
              · refine q_aload rfl rfl ?_
                refine q_callV0 rfl (hx_light k (by omega)) (Nat.le_of_ble_eq_true rfl) (Nat.le_of_ble_eq_true rfl) (sX1_kind (hx_light k (by omega))) ?_
                refine q_cn (g4_ne (by omega)) ?_
                refine q_istore (L' := [_, _, _, _, _, _, _, _, _, _, _, _, _]) rfl rfl ?_
                refine q_iload_n rfl rfl ?_
                refine q_iconst (v := nI 2) rfl rfl ?_
                refine q_icmp_neN rfl (by omega) (by omega) (fun hcgs113 => ?_) (fun hcgs113 => ?_)
                · exact absurd hcgs113 (by decide)
                · refine q_iload rfl rfl ?_
                  refine q_bipush (v := (-2)) rfl rfl ?_
                  refine q_iadd rfl ?_
                  refine q_cn (sI_m2 g) ?_
                  refine q_goto rfl ?_
                  refine q_istore (L' := [_, _, _, _, _, _, _, _, _, _, _, _, _]) rfl rfl ?_
                  refine q_aload_n rfl rfl ?_
                  refine q_getfield rfl hx_0 rfl ?_
                  refine q_iload rfl rfl ?_
                  refine q_iconst (v := 0) rfl rfl ?_
                  refine q_iload rfl rfl ?_
                  refine q_aload rfl rfl ?_
                  refine q_callV0 rfl (hx_light k (by omega)) (Nat.le_of_ble_eq_true rfl) (Nat.le_of_ble_eq_true rfl) (sX1_toldBright (hx_light k (by omega))) ?_
                  refine q_cn (g4_ne (by omega)) ?_
                  refine q_callV4 rfl hx_6 (Nat.le_of_ble_eq_true rfl) (Nat.le_of_ble_eq_true rfl) (sX1_become hx_6 _ _ _ _) ?_
                  refine q_heap (hf_6 _ _ _ _) ?_
                  refine q_heap (show HX (g4 (g4 I v0 v1 v2 v3) _ _ _ _) A J B F = _ from by rw [g4_g4]) ?_
                  refine q_aload_n rfl rfl ?_
                  refine q_getfield rfl hx_0 rfl ?_
                  refine q_iload_n rfl rfl ?_
                  refine q_iconst (v := nI 1) rfl rfl ?_
                  refine q_icmp_neN rfl (by omega) (by omega) (fun hcgs154 => ?_) (fun hcgs154 => ?_)
                  · refine q_iload rfl rfl ?_
                    refine q_aload_n rfl rfl ?_
                    refine q_getfield rfl hx_0 rfl ?_
                    refine q_callV0 rfl hx_8 (Nat.le_of_ble_eq_true rfl) (Nat.le_of_ble_eq_true rfl) (sN_now (show _ = nI m from em)) ?_
                    refine q_callV2 rfl hx_6 (Nat.le_of_ble_eq_true rfl) (Nat.le_of_ble_eq_true rfl) (sX1_standAt hx_6 (lks k (by omega)).1.1 _ _) ?_
                    refine q_heap (hf_6 _ _ _ _) ?_
                    refine q_heap (show HX (g4 (g4 I _ _ _ _) _ _ _ _) A J B F = HX (g4 I (I (40 + k) 0) (nI (rdN (nI (plN (cL I (40 + k)) m) - f_mv (I (40 + k) 0) (sI 2 g) (nI m)))) (sI 2 g) (I (40 + k) 3)) A J B F from by rw [g4_g4, f_rd_eq]; rfl) ?_
                    refine q_iload rfl rfl ?_
                    refine q_aload_n rfl rfl ?_
                    refine q_aload rfl rfl ?_
                    refine q_callV1 rfl hx_0 (Nat.le_of_ble_eq_true rfl) (Nat.le_of_ble_eq_true rfl) (sX8_guessFits (I := (g4 I (I (40 + k) 0) (nI (rdN (nI (plN (cL I (40 + k)) m) - f_mv (I (40 + k) 0) (sI 2 g) (nI m)))) (sI 2 g) (I (40 + k) 3))) b hb (by exact eb) m (by exact em) hm s (by exact es) hs (show lkOK (g4 I (I (40 + k) 0) (nI (rdN (nI (plN (cL I (40 + k)) m) - f_mv (I (40 + k) 0) (sI 2 g) (nI m)))) (sI 2 g) (I (40 + k) 3)) 6 from ⟨⟨(lks k (by omega)).1.1, (lks k (by omega)).1.2⟩, (lks k (by omega)).2⟩) q (by omega) n hn ((g4_ne (by omega)).trans hz) n8) ?_
                    refine q_cn (show _ = nI (allB (gsP b (glt (I (40 + k) 0) (plN (cL I (40 + k)) m) (sI 2 g) (tn (I (40 + k) 3)) m) s m (A (21 + 2 * q))) n 0) from rfl) ?_
                    refine q_if_eqN rfl (by have := allB_le (gsP b (glt (I (40 + k) 0) (plN (cL I (40 + k)) m) (sI 2 g) (tn (I (40 + k) 3)) m) s m (A (21 + 2 * q))) n 0; omega) (fun hcgs182 => ?_) (fun hcgs182 => ?_)
                    · refine q_iconst (v := nI 0) rfl rfl ?_
                      refine q_ior rfl ?_
                      refine q_istore (L' := [_, _, _, _, _, _, _, _, _, _, _, _, _]) rfl rfl ?_
                      refine q_iincN (c := 1) (L' := [_, _, _, _, _, _, _, _, _, _, _, _, _]) rfl rfl rfl rfl ?_
                      refine q_goto rfl ?_
                      exact ih_g _ _ (⟨_, _, _, _, _, _, by rw [show ∀ p j, orf p (j + 1) = if p j = true then orf p j ||| (nI 1 <<< (nI j &&& 31)) else orf p j from fun _ _ => rfl]; first | rw [if_pos (decide_eq_true (show allB (gsP b (glt (I (40 + k) 0) (plN (cL I (40 + k)) m) (sI 2 g) (tn (I (40 + k) 3)) m) s m (A (21 + 2 * q))) n 0 = 1 by have := allB_le (gsP b (glt (I (40 + k) 0) (plN (cL I (40 + k)) m) (sI 2 g) (tn (I (40 + k) 3)) m) s m (A (21 + 2 * q))) n 0; omega))] | rw [if_neg (fun z => absurd (of_decide_eq_true z) (show ¬ allB (gsP b (glt (I (40 + k) 0) (plN (cL I (40 + k)) m) (sI 2 g) (tn (I (40 + k) 3)) m) s m (A (21 + 2 * q))) n 0 = 1 by omega)), or_0], rfl⟩)
                    · refine q_iconst (v := nI 1) rfl rfl ?_
                      refine q_iload rfl rfl ?_
                      refine q_ishl rfl ?_
                      refine q_goto rfl ?_
                      refine q_ior rfl ?_
                      refine q_istore (L' := [_, _, _, _, _, _, _, _, _, _, _, _, _]) rfl rfl ?_
                      refine q_iincN (c := 1) (L' := [_, _, _, _, _, _, _, _, _, _, _, _, _]) rfl rfl rfl rfl ?_
                      refine q_goto rfl ?_
                      exact ih_g _ _ (⟨_, _, _, _, _, _, by rw [show ∀ p j, orf p (j + 1) = if p j = true then orf p j ||| (nI 1 <<< (nI j &&& 31)) else orf p j from fun _ _ => rfl]; first | rw [if_pos (decide_eq_true (show allB (gsP b (glt (I (40 + k) 0) (plN (cL I (40 + k)) m) (sI 2 g) (tn (I (40 + k) 3)) m) s m (A (21 + 2 * q))) n 0 = 1 by have := allB_le (gsP b (glt (I (40 + k) 0) (plN (cL I (40 + k)) m) (sI 2 g) (tn (I (40 + k) 3)) m) s m (A (21 + 2 * q))) n 0; omega))] | rw [if_neg (fun z => absurd (of_decide_eq_true z) (show ¬ allB (gsP b (glt (I (40 + k) 0) (plN (cL I (40 + k)) m) (sI 2 g) (tn (I (40 + k) 3)) m) s m (A (21 + 2 * q))) n 0 = 1 by omega)), or_0], rfl⟩)
                  · exact absurd hcgs154 (by decide)
              · exact absurd hcgs96 (by decide)
          · obtain ⟨v0, v1, v2, v3, z1, z2, rfl, rfl⟩ := hi_g
            refine q_iload rfl rfl ?_
            refine q_iload rfl rfl ?_
            refine q_icmp_geN rfl (by omega) (by omega) (fun hcgf92 => ?_) (fun hcgf92 => ?_)
            · refine q_iload rfl rfl ?_
              refine q_iret rfl rfl ?_
              exact ⟨v0, v1, v2, v3, rfl, rfl, trivial⟩
            · omega
        · exact absurd hc70 (by decide)
      · exact absurd hc61 (by decide)
    · exact absurd hc39 (by decide))
  subst hr_
  subst hh_
  exact ⟨v0, v1, v2, v3, he_, hf_⟩
theorem c_speeds_w {X : XX} {I A I1 A1 : Nat → Nat → Int32} {J B J1 B1 : Nat → Nat → Int64} {F F1 : Nat → Nat} {x y r : Int32} (e : x_ev X xT 7 137 [.ref 0, .int x, .int y, .int (nI 2)] (HX I A J B F) (some (.int r)) (HX I1 A1 J1 B1 F1)) : x_ev X xT 8 110 [.ref 0, .int x, .int y] (HX I A J B F) (some (.int r)) (HX I1 A1 J1 B1 F1) := by
  refine q_ev (L := [some (.ref 0), some (.int x), some (.int y)]) tX8_speeds (Nat.le_of_ble_eq_true rfl) rfl ?_
  refine q_aload_n rfl rfl ?_
  refine q_iload_n rfl rfl ?_
  refine q_iload_n rfl rfl ?_
  refine q_iconst (v := nI 2) rfl rfl ?_
  refine q_callV3 rfl hx_0 (Nat.le_of_ble_eq_true rfl) (Nat.le_of_ble_eq_true rfl) (e) ?_
  refine q_iret rfl rfl ?_
  exact ⟨rfl, rfl⟩
