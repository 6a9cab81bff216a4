/-! the order of lights: the call -/
theorem od_j_cg {g g' : Nat → Nat → Nat → Nat} {c : Nat → Nat → Nat} {D : Nat → Nat} {i k fig s a : Nat} (h : g i = g' i) (j : Nat) : od_j g c D i k fig s a j = od_j g' c D i k fig s a j := by
  induction j with
  | zero => rfl
  | succ j ih =>
    show (if g i k (tN s j) = 0 then _ else min _ _) = (if g' i k (tN s j) = 0 then _ else min _ _)
    rw [h, ih]
theorem od_i_cg {g g' : Nat → Nat → Nat → Nat} {c : Nat → Nat → Nat} {T : Nat → Nat → Nat} {m k r s : Nat} (n : Nat) (h : ∀ i, i < n → g i = g' i) : od_i g c T m k r s n = od_i g' c T m k r s n := by
  induction n with
  | zero => rfl
  | succ n ih =>
    show (if od_b m n = 0 then od_j g c _ n k _ s (od_i g c T m k r s n) 13 else od_i g c T m k r s n) = (if od_b m n = 0 then od_j g' c _ n k _ s (od_i g' c T m k r s n) 13 else od_i g' c T m k r s n)
    rw [ih (fun i hi => h i (by omega)), od_j_cg (h n (by omega))]
theorem od_w_cg {g g' : Nat → Nat → Nat → Nat} {c : Nat → Nat → Nat} {n : Nat} (h : ∀ i, i < n → g i = g' i) (r : Nat) : ∀ m s, od_w g c n r m s = od_w g' c n r m s := by
  induction r with
  | zero => exact fun _ _ => rfl
  | succ r ih =>
    intro m s
    show od_i g c (fun m' s' => od_w g c n r m' s') m (n - (r + 1)) r s n = od_i g' c (fun m' s' => od_w g' c n r m' s') m (n - (r + 1)) r s n
    rw [od_i_cg n h, show (fun m' s' => od_w g c n r m' s') = (fun m' s' => od_w g' c n r m' s') from funext (fun m' => funext (fun s' => ih m' s'))]
theorem oN_in {dg : Nat → Nat} {g0 : Nat → Int32} {k : Nat} (n : Nat) (h : k < n) : oN dg g0 n k = nI (dg k) := by
  induction n with
  | zero => exact absurd h (Nat.not_lt_zero k)
  | succ n ih =>
    show upd (oN dg g0 n) n (nI (dg n)) k = nI (dg k)
    by_cases e : k = n
    · subst e
      exact pk_us
    · rw [pk_un e]
      exact ih (by omega)
theorem oN_out {dg : Nat → Nat} {g0 : Nat → Int32} {k : Nat} (n : Nat) (h : n ≤ k) : oN dg g0 n k = g0 k := by
  induction n with
  | zero => rfl
  | succ n ih =>
    show upd (oN dg g0 n) n (nI (dg n)) k = g0 k
    rw [pk_un (by omega)]
    exact ih (by omega)
theorem c_order_bad {X : XX} {I A : Nat → Nat → Int32} {J B : Nat → Nat → Int64} {F : Nat → Nat} (y : Int32) (hy : y < 0 ∨ 6 ≤ y) : x_ev X xT 6 107 [.ref 0, .int y] (HX I A J B F) (some (.int (-1))) (HX I A J B F) := by
  refine q_ev (L := [some (.ref 0), some (.int y), none]) tX8_order (Nat.le_of_ble_eq_true rfl) rfl ?_
  refine q_aload_n rfl rfl ?_
  refine q_getfield rfl hx_0 rfl ?_
  refine q_iload_n rfl rfl ?_
  refine q_callS2 rfl rfl (Nat.le_of_ble_eq_true rfl) (Nat.le_of_ble_eq_true rfl) (sX8_lineAt_rowN y hy) ?_
  refine q_astore_nN (L' := [_, _, _]) rfl rfl ?_
  refine q_aload_nN rfl rfl ?_
  refine q_ifnonnullN rfl ?_
  refine q_iconst (v := (-1)) rfl rfl ?_
  refine q_iret rfl rfl ?_
  exact ⟨rfl, rfl⟩
theorem c_order_S {X : XX} {I A : Nat → Nat → Int32} {J B : Nat → Nat → Int64} {F : Nat → Nat} (q : Nat) (hr : q < 6) (e0 : I 0 12 = nI 0) : x_ev X xT 6 107 [.ref 0, .int (nI q)] (HX I A J B F) (some (.int (-4))) (HX I A J B F) := by
  refine q_ev (L := [some (.ref 0), some (.int (nI q)), none]) tX8_order (Nat.le_of_ble_eq_true rfl) rfl ?_
  refine q_aload_n rfl rfl ?_
  refine q_getfield rfl hx_0 rfl ?_
  refine q_iload_n rfl rfl ?_
  refine q_callS2 rfl rfl (Nat.le_of_ble_eq_true rfl) (Nat.le_of_ble_eq_true rfl) (sX8_lineAt_row q hr) ?_
  refine q_astore_n (L' := [_, _, _]) rfl rfl ?_
  refine q_aload_n rfl rfl ?_
  refine q_ifnonnull rfl ?_
  refine q_aload_n rfl rfl ?_
  refine q_getI rfl hx_0 rfl (e0) ?_
  refine q_if_neN rfl (by omega) (fun hc19 => ?_) (fun hc19 => ?_)
  · exact absurd hc19 (by decide)
  · refine q_bipush (v := (-4)) rfl rfl ?_
    refine q_iret rfl rfl ?_
    exact ⟨rfl, rfl⟩
theorem c_order_N {X : XX} {I A : Nat → Nat → Int32} {J B : Nat → Nat → Int64} {F : Nat → Nat} (hS : RelS F) (b : Nat) (hb : b ≤ 5) (eb : I 7 0 = nI b) (m0 : Nat) (em : I 8 2 = nI m0) (hm : m0 ≤ 40) (s : Nat) (es : I 8 3 = nI s) (hs : s < 24) (st : Nat) (hst : st < 24) (e7 : I 7 1 = nI st) (lks : ∀ i, i < 5 → lkOK I (40 + i)) (ln : Nat) (l1 : 1 ≤ ln) (l5 : ln ≤ 5) (eln : I 0 12 = nI ln) (q : Nat) (hr : q < 6) (hW : od_w (fun i k f => gnN b (cL I (40 + i)) (nI f) (m0 + k)) (fun s j => eN st s j) ln ln 0 s = 536870912) : ∃ f, x_ev X xT 6 107 [.ref 0, .int (nI q)] (HX I A J B F) (some (.int (-9))) (HX I (ua A (F 0) f) J B F) ∧ True := by
  obtain ⟨f, h8, _⟩ := lo_N (X := X) (I := I) (J := J) (B := B) (F := F) (A := A) hS b hb eb m0 em hm s es hs st hst e7 lks ln l1 l5 (2 ^ ln) rfl q hr hW
  obtain ⟨r_, h_, he_, f, hr_, hh_, hf_⟩ := q_evx (X := X) (d := 5) (as := [.ref 0, .int (nI q)]) (h := (HX I A J B F)) (P := fun r_ h_ => ∃ f, r_ = (some (.int (-9))) ∧ h_ = (HX I (ua A (F 0) f) J B F) ∧ True) (L := [some (.ref 0), some (.int (nI q)), none]) tX8_order (Nat.le_of_ble_eq_true rfl) rfl (by
    refine q_aload_n rfl rfl ?_
    refine q_getfield rfl hx_0 rfl ?_
    refine q_iload_n rfl rfl ?_
    refine q_callS2 rfl rfl (Nat.le_of_ble_eq_true rfl) (Nat.le_of_ble_eq_true rfl) (sX8_lineAt_row q hr) ?_
    refine q_astore_n (L' := [_, _, _]) rfl rfl ?_
    refine q_aload_n rfl rfl ?_
    refine q_ifnonnull rfl ?_
    refine q_aload_n rfl rfl ?_
    refine q_getI rfl hx_0 rfl (eln) ?_
    refine q_if_neN rfl (by omega) (fun hc19 => ?_) (fun hc19 => ?_)
    · refine q_aload_n rfl rfl ?_
      refine q_getfield rfl hx_0 rfl ?_
      refine q_aload_n rfl rfl ?_
      refine q_getfield rfl hx_0 rfl ?_
      refine q_aload_n rfl rfl ?_
      refine q_getI rfl hx_0 rfl (eln) ?_
      refine q_aload_n rfl rfl ?_
      refine q_getfield rfl hx_0 rfl ?_
      refine q_aload_n rfl rfl ?_
      refine q_callV4 rfl hx_13 (Nat.le_of_ble_eq_true rfl) (Nat.le_of_ble_eq_true rfl) (h8) ?_
      refine q_iret rfl rfl ?_
      exact ⟨f, rfl, rfl, trivial⟩
    · omega)
  subst hr_
  subst hh_
  exact ⟨f, he_, hf_⟩
theorem c_order_0 {X : XX} {I A : Nat → Nat → Int32} {J B : Nat → Nat → Int64} {F : Nat → Nat} (hS : RelS F) (b : Nat) (hb : b ≤ 5) (eb : I 7 0 = nI b) (m0 : Nat) (em : I 8 2 = nI m0) (hm : m0 ≤ 40) (s : Nat) (es : I 8 3 = nI s) (hs : s < 24) (st : Nat) (hst : st < 24) (e7 : I 7 1 = nI st) (lks : ∀ i, i < 5 → lkOK I (40 + i)) (ln : Nat) (l1 : 1 ≤ ln) (l5 : ln ≤ 5) (eln : I 0 12 = nI ln) (q : Nat) (hr : q < 6) (E : Nat) (hE : E ≤ 80) (p : List Nat) (hp : od_n p < 32768) (hW : od_w (fun i k f => gnN b (cL I (40 + i)) (nI f) (m0 + k)) (fun s j => eN st s j) ln ln 0 s = E * 32768 + od_n p) (dg : Nat → Nat) (hdg : ∀ k, k < ln → od_n p / 2 ^ (3 * (ln - 1 - k)) % 8 = dg k) : ∃ f, x_ev X xT 6 107 [.ref 0, .int (nI q)] (HX I A J B F) (some (.int (nI E))) (HX (u2 I (20 + 2 * q) 1 (nI ln)) (ua (ua A (F 0) f) (21 + 2 * q) (oN dg (f_fill ((ua A (F 0) f) (21 + 2 * q)) 0 0 (rm q)) ln)) J B F) ∧ True := by
  obtain ⟨f, h8, _⟩ := lo_0 (X := X) (I := I) (J := J) (B := B) (F := F) (A := A) hS b hb eb m0 em hm s es hs st hst e7 lks ln l1 l5 (2 ^ ln) rfl q hr E hE p hp hW dg hdg
  obtain ⟨r_, h_, he_, f, hr_, hh_, hf_⟩ := q_evx (X := X) (d := 5) (as := [.ref 0, .int (nI q)]) (h := (HX I A J B F)) (P := fun r_ h_ => ∃ f, r_ = (some (.int (nI E))) ∧ h_ = (HX (u2 I (20 + 2 * q) 1 (nI ln)) (ua (ua A (F 0) f) (21 + 2 * q) (oN dg (f_fill ((ua A (F 0) f) (21 + 2 * q)) 0 0 (rm q)) ln)) J B F) ∧ True) (L := [some (.ref 0), some (.int (nI q)), none]) tX8_order (Nat.le_of_ble_eq_true rfl) rfl (by
    refine q_aload_n rfl rfl ?_
    refine q_getfield rfl hx_0 rfl ?_
    refine q_iload_n rfl rfl ?_
    refine q_callS2 rfl rfl (Nat.le_of_ble_eq_true rfl) (Nat.le_of_ble_eq_true rfl) (sX8_lineAt_row q hr) ?_
    refine q_astore_n (L' := [_, _, _]) rfl rfl ?_
    refine q_aload_n rfl rfl ?_
    refine q_ifnonnull rfl ?_
    refine q_aload_n rfl rfl ?_
    refine q_getI rfl hx_0 rfl (eln) ?_
    refine q_if_neN rfl (by omega) (fun hc19 => ?_) (fun hc19 => ?_)
    · refine q_aload_n rfl rfl ?_
      refine q_getfield rfl hx_0 rfl ?_
      refine q_aload_n rfl rfl ?_
      refine q_getfield rfl hx_0 rfl ?_
      refine q_aload_n rfl rfl ?_
      refine q_getI rfl hx_0 rfl (eln) ?_
      refine q_aload_n rfl rfl ?_
      refine q_getfield rfl hx_0 rfl ?_
      refine q_aload_n rfl rfl ?_
      refine q_callV4 rfl hx_13 (Nat.le_of_ble_eq_true rfl) (Nat.le_of_ble_eq_true rfl) (h8) ?_
      refine q_iret rfl rfl ?_
      exact ⟨f, rfl, rfl, trivial⟩
    · omega)
  subst hr_
  subst hh_
  exact ⟨f, he_, hf_⟩
set_option maxHeartbeats 4000000 in
theorem op_27 {X : XX} : Op_27 X RelR := by
  intro a1 I A J B F hr
  obtain ⟨ln, b, st, hL, hT, hK, hD, hN, hQ, hF, hU, hJ, hS⟩ := id hr
  obtain ⟨hln, hb, hst, eln, eln', eb, eb', e7, e7', hb1⟩ := id hD
  obtain ⟨d, hd, n1, q0, n2, n3, n9, q1, q2, q3, hp⟩ := id hN
  have hm : (rp st (A 9) d).1 ≤ 40 := Nat.le_trans (rp_1 st (A 9) d) hd
  have hs := rp_2 st (A 9) d
  have lks := RelK_lks hK
  have hl := RelK_hl hK
  have cLe := RelK_cL hK
  rcases ix3 a1 6 (by first | decide | omega) with hq | hq | ⟨q, hq, rfl⟩
  · exact opI_mk (by decide) (by decide) (c_order_bad a1 (Or.inl hq)) (m_order_bad a1 (Or.inl hq)) (hr)
  · exact opI_mk (by decide) (by decide) (c_order_bad a1 (Or.inr hq)) (m_order_bad a1 (Or.inr hq)) (hr)
  · by_cases h0 : ln = 0
    · subst h0
      exact opI_mk (by decide) (by decide) (c_order_S q hq eln) (m_order_S q hq (by exact eln')) (hr)
    have l1 : 1 ≤ ln := by omega
    have hF9 := F_lt hS
    have hQs := od_qs ln (by omega) l1
    have hsm := od_same (g := (fun i k f => gnN b (mL A i) (nI f) ((rp st (A 9) d).1 + k))) (c := cN 0 st) (fun s j hj => cN_le 0 st s j hj) l1 hln hQs.1 (fun p hp => (hQs.2 p hp).1) (rp st (A 9) d).2.1
    have hfx : (FX (fun p => od_e (fun i k f => gnN b (mL A i) (nI f) ((rp st (A 9) d).1 + k)) (cN 0 st) p 0 (rp st (A 9) d).2.1) ln (od_q ln ln 0).length) = od_f (fun p => od_e (fun i k f => gnN b (mL A i) (nI f) ((rp st (A 9) d).1 + k)) (cN 0 st) p 0 (rp st (A 9) d).2.1) (100000, []) (od_q ln ln 0) := by
      unfold FX
      rw [List.take_length]
    rw [← hfx] at hsm
    have hcg : od_w (fun i k f => gnN b (cL I (40 + i)) (nI f) ((rp st (A 9) d).1 + k)) (fun s j => eN st s j) ln ln 0 (rp st (A 9) d).2.1 = od_w (fun i k f => gnN b (mL A i) (nI f) ((rp st (A 9) d).1 + k)) (cN 0 st) ln ln 0 (rp st (A 9) d).2.1 := od_w_cg (fun i hi => by
      show (fun k f => gnN b (cL I (40 + i)) (nI f) ((rp st (A 9) d).1 + k)) = (fun k f => gnN b (mL A i) (nI f) ((rp st (A 9) d).1 + k))
      rw [cLe i (by omega)]) ln 0 _
    by_cases hfin : ((FX (fun p => od_e (fun i k f => gnN b (mL A i) (nI f) ((rp st (A 9) d).1 + k)) (cN 0 st) p 0 (rp st (A 9) d).2.1) ln (od_q ln ln 0).length)).1 < 100000
    · obtain ⟨hW, hmem, h80⟩ := hsm.2 hfin
      obtain ⟨f0, h9, _⟩ := c_order_0 (X := X) (A := A) (J := J) (B := B) (F := F) hS b hb eb (rp st (A 9) d).1 n2 hm (rp st (A 9) d).2.1 n3 hs st hst e7 lks ln l1 hln eln q hq ((FX (fun p => od_e (fun i k f => gnN b (mL A i) (nI f) ((rp st (A 9) d).1 + k)) (cN 0 st) p 0 (rp st (A 9) d).2.1) ln (od_q ln ln 0).length)).1 h80 ((FX (fun p => od_e (fun i k f => gnN b (mL A i) (nI f) ((rp st (A 9) d).1 + k)) (cN 0 st) p 0 (rp st (A 9) d).2.1) ln (od_q ln ln 0).length)).2 (hQs.2 _ hmem).1 (hcg.trans hW) (fun k => ((FX (fun p => od_e (fun i k f => gnN b (mL A i) (nI f) ((rp st (A 9) d).1 + k)) (cN 0 st) p 0 (rp st (A 9) d).2.1) ln (od_q ln ln 0).length)).2.getD k 0) (hQs.2 _ hmem).2
      obtain ⟨gc, hgc⟩ : ∃ gc, gc = oN (fun k => ((FX (fun p => od_e (fun i k f => gnN b (mL A i) (nI f) ((rp st (A 9) d).1 + k)) (cN 0 st) p 0 (rp st (A 9) d).2.1) ln (od_q ln ln 0).length)).2.getD k 0) (f_fill ((ua A (F 0) f0) (21 + 2 * q)) 0 0 (rm q)) ln := ⟨_, rfl⟩
      rw [← hgc] at h9
      have hX : ∀ x, x ≠ 21 + 2 * q → x ≠ F 0 → ua (ua A (F 0) f0) (21 + 2 * q) gc x = A x := fun x h1 h2 => (ua_ne h1).trans (ua_ne h2)
      have hX57 := hX 57 (by omega) (by omega)
      have hX58 := hX 58 (by omega) (by omega)
      have hml : ∀ i, mL (ua (ua A (F 0) f0) (21 + 2 * q) gc) i = mL A i := fun i => by
        unfold mL
        rw [hX 53 (by omega) (by omega), hX 54 (by omega) (by omega), hX 55 (by omega) (by omega), hX 56 (by omega) (by omega)]
      have hlk : mLk (ua (ua A (F 0) f0) (21 + 2 * q) gc) := fun i hi => by
        rw [hml i, hX 56 (by omega) (by omega)]
        exact hl i hi
      obtain ⟨e4, w7, g, w57, w58, h10, hRS⟩ := m_order_0 (X := X) (I := u2 I (20 + 2 * q) 1 (nI ln)) (A := ua (ua A (F 0) f0) (21 + 2 * q) gc) (J := J) (B := B) (F := F) b hb (by rw [u2_ne (by omega)]; exact eb') (rp st (A 9) d).1 (by rw [hX 52 (by omega) (by omega)]; exact q1) hm (rp st (A 9) d).2.1 (by rw [hX 52 (by omega) (by omega)]; exact q2) hs st hst (by rw [u2_ne (by omega)]; exact e7') hlk ln l1 hln (by rw [u2_ne (by omega)]; exact eln') q hq
      rw [show (fun i k f => gnN b (mL (ua (ua A (F 0) f0) (21 + 2 * q) gc) i) (nI f) ((rp st (A 9) d).1 + k)) = (fun i k f => gnN b (mL A i) (nI f) ((rp st (A 9) d).1 + k)) from funext (fun i => funext (fun k => funext (fun f => by rw [hml i])))] at h10 hRS
      rw [if_pos hfin] at h10
      rcases hRS with hRS | ⟨_, h57, h58a, h58b, h58c⟩
      · exact absurd hRS.1 (by omega)
      · refine opI_mk (by decide) (by decide) h9 h10 ⟨ln, b, st, (by
          refine RelL_row (q := q) (n := ln) (gc := gc) (gm := w58) hq (by omega) ?_ ?_ ?_ (fun p hp hpq => ?_) (fun x hx => ?_) (fun x hx => ?_) hL
          · rw [show OA (ua (ua (ua A (F 0) f0) (21 + 2 * q) gc) 64 e4) w7 g w57 w58 57 = w57 from rfl, h57, hX57]
          · rfl
          · rw [OA_ne (by omega), ua_ne (by omega), ua_eq]
          · rw [OA_ne (by omega), ua_ne (by omega), ua_ne (by omega), ua_ne (by omega)]
          · rw [hgc]
            by_cases hxn : x < ln
            · rw [oN_in ln hxn]
              exact (h58a x hxn).symm
            · rw [oN_out ln (by omega), rm_row hq]
              unfold f_fill
              rw [if_pos (by omega)]
              exact (h58b x (by omega) hx).symm
          · rw [h58c x hx, hX58]), (by
          unfold OA
          repeat first | exact hT | refine RelT_n4 ?_ | refine RelT_u2 (by omega) ?_ | refine RelT_ua (by omega) ?_), (by
          unfold OA
          repeat first | exact hK | refine RelK_n4 ?_ | refine RelK_u2 (by omega) ?_ | refine RelK_ua (by omega) ?_), (by
          repeat first | exact hD | refine RelD_n4 ?_ | refine RelD_u2 (by omega) ?_), (by
          unfold OA
          repeat first | exact hN | refine RelN_u2 (by omega) ?_ | refine RelN_ua (by omega) ?_), (by
          unfold OA
          repeat first | exact hQ | refine RelQ_n4 ?_ | refine RelQ_u2 (by omega) ?_ | refine RelQ_ua (by omega) ?_), (by
          unfold OA
          repeat first | exact hF | refine RelF_n4 ?_ | refine RelF_u2 (by omega) ?_ | refine RelF_ua (by omega) ?_), (by
          repeat first | exact hU | refine RelU_n4 ?_ | refine RelU_u2 (by omega) ?_), hJ, hS⟩
    · have hW := hsm.1 (Nat.not_lt.mp hfin)
      obtain ⟨f0, h9, _⟩ := c_order_N (X := X) (A := A) (J := J) (B := B) (F := F) hS b hb eb (rp st (A 9) d).1 n2 hm (rp st (A 9) d).2.1 n3 hs st hst e7 lks ln l1 hln eln q hq (hcg.trans hW)
      have hX : ∀ x, x ≠ F 0 → ua A (F 0) f0 x = A x := fun x h2 => ua_ne h2
      have hX57 := hX 57 (by omega)
      have hX58 := hX 58 (by omega)
      have hml : ∀ i, mL (ua A (F 0) f0) i = mL A i := fun i => by
        unfold mL
        rw [hX 53 (by omega), hX 54 (by omega), hX 55 (by omega), hX 56 (by omega)]
      have hlk : mLk (ua A (F 0) f0) := fun i hi => by
        rw [hml i, hX 56 (by omega)]
        exact hl i hi
      obtain ⟨e4, w7, g, w57, w58, h10, hRS⟩ := m_order_0 (X := X) (I := I) (A := ua A (F 0) f0) (J := J) (B := B) (F := F) b hb eb' (rp st (A 9) d).1 (by rw [hX 52 (by omega)]; exact q1) hm (rp st (A 9) d).2.1 (by rw [hX 52 (by omega)]; exact q2) hs st hst e7' hlk ln l1 hln eln' q hq
      rw [show (fun i k f => gnN b (mL (ua A (F 0) f0) i) (nI f) ((rp st (A 9) d).1 + k)) = (fun i k f => gnN b (mL A i) (nI f) ((rp st (A 9) d).1 + k)) from funext (fun i => funext (fun k => funext (fun f => by rw [hml i])))] at h10 hRS
      rw [if_neg hfin] at h10
      rcases hRS with ⟨_, h57, h58⟩ | hRS
      · rw [h57, h58, hX57, hX58] at h10
        refine opI_mk (by decide) (by decide) h9 h10 ⟨ln, b, st, (by
          have hOA : OA (ua (ua A (F 0) f0) 64 e4) w7 g (A 57) (A 58) = ua (ua (ua (ua A (F 0) f0) 64 e4) 67 w7) 63 g := by
            unfold OA
            rw [ua_self (A := ua (ua (ua (ua A (F 0) f0) 64 e4) 67 w7) 63 g) (c := 57) (f := A 57) (by rw [ua_ne (by omega), ua_ne (by omega), ua_ne (by omega), ua_ne (by omega)]), ua_self (A := ua (ua (ua (ua A (F 0) f0) 64 e4) 67 w7) 63 g) (c := 58) (f := A 58) (by rw [ua_ne (by omega), ua_ne (by omega), ua_ne (by omega), ua_ne (by omega)])]
          rw [hOA]
          repeat first | exact hL | refine RelL_ua (by omega) ?_), (by
          unfold OA
          repeat first | exact hT | refine RelT_n4 ?_ | refine RelT_u2 (by omega) ?_ | refine RelT_ua (by omega) ?_), (by
          unfold OA
          repeat first | exact hK | refine RelK_n4 ?_ | refine RelK_u2 (by omega) ?_ | refine RelK_ua (by omega) ?_), (by
          repeat first | exact hD | refine RelD_n4 ?_ | refine RelD_u2 (by omega) ?_), (by
          unfold OA
          repeat first | exact hN | refine RelN_u2 (by omega) ?_ | refine RelN_ua (by omega) ?_), (by
          unfold OA
          repeat first | exact hQ | refine RelQ_n4 ?_ | refine RelQ_u2 (by omega) ?_ | refine RelQ_ua (by omega) ?_), (by
          unfold OA
          repeat first | exact hF | refine RelF_n4 ?_ | refine RelF_u2 (by omega) ?_ | refine RelF_ua (by omega) ?_), (by
          repeat first | exact hU | refine RelU_n4 ?_ | refine RelU_u2 (by omega) ?_), hJ, hS⟩
      · exact absurd hRS.1 hfin
