/-! nights by lots: the reference, and both -/
theorem sI26 (j : Nat) : sI 2 j = sI 6 (j + 4) := by
  unfold sI
  rw [show nI (j + 4) = nI j + nI 4 from (nI_add j 4).symm, Int32.sub_eq_add_neg, Int32.sub_eq_add_neg, Int32.add_assoc]
  rfl
theorem m_turnX {X : XX} {I A : Nat → Nat → Int32} {J B : Nat → Nat → Int64} {F : Nat → Nat} {st s d : Nat} (hst : st < 24) (hs : s < 24) (est : I 51 2 = nI st) (es : A 52 2 = nI s) (hd : d < 40) (ed : A 52 0 = nI d) {x : Int32} (hx : okN (-6) (nI 6) x) : x_ev X xT 3 198 [.ref 51, .int x] (HX I A J B F) (some (.int (f_ef (nI st) (nI s) x))) (HX I (ua A 52 (upd (upd (kpd (A 52) d) 2 (nI (rdN (nI s + x)))) 3 (A 52 3 + f_ef (nI st) (nI s) x))) J B F) := by
  obtain ⟨j, hj, rfl⟩ := by6 hx.1 hx.2
  rw [ef_eq hst hs hj]
  exact sX9_doTurn st s j hst hs hj est es d hd ed
section BQ
variable {st u n : Nat} {t : NS} {g : Nat → Int32}
theorem bqM_v (k : Nat) (h0 : g 0 = nI t.1) (h1 : g 1 = nI t.2.2.1) (h2 : g 2 = nI t.2.2.2.1) : bqM st u k t g 0 = nI (nsM st u k t).1 ∧ bqM st u k t g 1 = nI (nsM st u k t).2.2.1 ∧ bqM st u k t g 2 = nI (nsM st u k t).2.2.2.1 := by
  unfold bqM nsM
  split
  · exact ⟨h0, h1, h2⟩
  · unfold bqT nsT
    refine ⟨?_, ?_, ?_⟩
    · rw [pk_un (by decide), pk_un (by decide)]
      exact pk_us
    · rw [pk_un (by decide), pk_un (by decide), kpd_1 _ _ 1 (by decide) (by decide)]
      exact h1
    · rw [pk_un (by decide), pk_us]
theorem bqK_v (h0 : g 0 = nI t.1) (h1 : g 1 = nI t.2.2.1) (h2 : g 2 = nI t.2.2.2.1) (k : Nat) : bqK st u t g k 0 = nI (nsK st u t k).1 ∧ bqK st u t g k 1 = nI (nsK st u t k).2.2.1 ∧ bqK st u t g k 2 = nI (nsK st u t k).2.2.2.1 := by
  induction k with
  | zero => exact ⟨h0, h1, h2⟩
  | succ k ih =>
    have h := bqM_v (st := st) (u := u) k ih.1 ih.2.1 ih.2.2
    refine ⟨?_, ?_, ?_⟩
    · show bqP _ _ 0 = nI ((nsM st u k (nsK st u t k)).1 + 1)
      unfold bqP
      rw [pk_un (by decide)]
      exact pk_us
    · show bqP _ _ 1 = nI ((nsM st u k (nsK st u t k)).2.2.1 + 1)
      unfold bqP
      exact pk_us
    · show bqP _ _ 2 = nI (nsM st u k (nsK st u t k)).2.2.2.1
      unfold bqP
      rw [pk_un (by decide), kpd_1 _ _ 2 (by decide) (by decide)]
      exact h.2.2
theorem nsM_lt (k : Nat) (h : t.2.2.2.1 < 24) : (nsM st u k t).2.2.2.1 < 24 := by
  unfold nsM
  split
  · exact h
  · exact rdN_lt _
theorem nsK_lt (h : t.2.2.2.1 < 24) (k : Nat) : (nsK st u t k).2.2.2.1 < 24 := by
  induction k with
  | zero => exact h
  | succ k ih => exact nsM_lt (st := st) (u := u) k ih
end BQ
theorem m_lots_b1 {X : XX} {I A : Nat → Nat → Int32} {J B : Nat → Nat → Int64} {F : Nat → Nat} (x y : Int32) (hx : x < nI 1 ∨ nI 20 < x) : x_ev X xT 6 239 [.ref 51, .int x, .int y] (HX I A J B F) (some (.int (-1))) (HX I A J B F) := by
  refine q_ev (L := [some (.ref 51), some (.int x), some (.int y), none, none, none, none, none]) tX9_lots (Nat.le_of_ble_eq_true rfl) rfl ?_
  refine q_iload_n rfl rfl ?_
  refine q_i2l rfl ?_
  refine q_lconst (v := 1) rfl rfl ?_
  refine q_ldc2_w (v := 20) rfl rfl ?_
  refine q_callS3 rfl rfl (Nat.le_of_ble_eq_true rfl) (Nat.le_of_ble_eq_true rfl) (sX9_in _ _ _) ?_
  refine q_cn (f_in_0 (lo := nI 1) (hi := nI 20) rfl rfl hx) ?_
  refine q_if_eqN rfl (by omega) (fun hc9 => ?_) (fun hc9 => ?_)
  · refine q_iconst (v := (-1)) rfl rfl ?_
    refine q_iret rfl rfl ?_
    exact ⟨rfl, rfl⟩
  · exact absurd hc9 (by decide)
theorem m_lots_b2 {X : XX} {I A : Nat → Nat → Int32} {J B : Nat → Nat → Int64} {F : Nat → Nat} (n : Nat) (n1 : 1 ≤ n) (n20 : n ≤ 20) (y : Int32) (hy : y < nI 1 ∨ 2147483646 < y) : x_ev X xT 6 239 [.ref 51, .int (nI n), .int y] (HX I A J B F) (some (.int (-1))) (HX I A J B F) := by
  refine q_ev (L := [some (.ref 51), some (.int (nI n)), some (.int y), none, none, none, none, none]) tX9_lots (Nat.le_of_ble_eq_true rfl) rfl ?_
  refine q_iload_n rfl rfl ?_
  refine q_i2l rfl ?_
  refine q_lconst (v := 1) rfl rfl ?_
  refine q_ldc2_w (v := 20) rfl rfl ?_
  refine q_callS3 rfl rfl (Nat.le_of_ble_eq_true rfl) (Nat.le_of_ble_eq_true rfl) (sX9_in _ _ _) ?_
  refine q_cn (f_in_1 (lo := nI 1) (hi := nI 20) rfl rfl (nI_nlt (by omega) (by omega)) (nI_nlt (by omega) (by omega))) ?_
  refine q_if_eqN rfl (by omega) (fun hc9 => ?_) (fun hc9 => ?_)
  · exact absurd hc9 (by decide)
  · refine q_iload_n rfl rfl ?_
    refine q_i2l rfl ?_
    refine q_lconst (v := 1) rfl rfl ?_
    refine q_ldc2_w (v := 2147483646) rfl rfl ?_
    refine q_callS3 rfl rfl (Nat.le_of_ble_eq_true rfl) (Nat.le_of_ble_eq_true rfl) (sX9_in _ _ _) ?_
    refine q_cn (f_in_0 (lo := nI 1) (hi := 2147483646) rfl rfl hy) ?_
    refine q_if_neN rfl (by omega) (fun hc21 => ?_) (fun hc21 => ?_)
    · exact absurd hc21 (by decide)
    · refine q_iconst (v := (-1)) rfl rfl ?_
      refine q_iret rfl rfl ?_
      exact ⟨rfl, rfl⟩
theorem m_lots_S {X : XX} {I A : Nat → Nat → Int32} {J B : Nat → Nat → Int64} {F : Nat → Nat} (n u : Nat) (n1 : 1 ≤ n) (n20 : n ≤ 20) (u1 : 1 ≤ u) (hu : u < 2147483647) (eln : I 51 3 = nI 0) : x_ev X xT 6 239 [.ref 51, .int (nI n), .int (nI u)] (HX I A J B F) (some (.int (-4))) (HX I A J B F) := by
  refine q_ev (L := [some (.ref 51), some (.int (nI n)), some (.int (nI u)), none, none, none, none, none]) tX9_lots (Nat.le_of_ble_eq_true rfl) rfl ?_
  refine q_iload_n rfl rfl ?_
  refine q_i2l rfl ?_
  refine q_lconst (v := 1) rfl rfl ?_
  refine q_ldc2_w (v := 20) rfl rfl ?_
  refine q_callS3 rfl rfl (Nat.le_of_ble_eq_true rfl) (Nat.le_of_ble_eq_true rfl) (sX9_in _ _ _) ?_
  refine q_cn (f_in_1 (lo := nI 1) (hi := nI 20) rfl rfl (nI_nlt (by omega) (by omega)) (nI_nlt (by omega) (by omega))) ?_
  refine q_if_eqN rfl (by omega) (fun hc9 => ?_) (fun hc9 => ?_)
  · exact absurd hc9 (by decide)
  · refine q_iload_n rfl rfl ?_
    refine q_i2l rfl ?_
    refine q_lconst (v := 1) rfl rfl ?_
    refine q_ldc2_w (v := 2147483646) rfl rfl ?_
    refine q_callS3 rfl rfl (Nat.le_of_ble_eq_true rfl) (Nat.le_of_ble_eq_true rfl) (sX9_in _ _ _) ?_
    refine q_cn (f_in_1 (lo := nI 1) (hi := 2147483646) rfl rfl (nI_nlt (by omega) (by omega)) (show ¬ nI 2147483646 < nI u from nI_nlt (by omega) (by omega))) ?_
    refine q_if_neN rfl (by omega) (fun hc21 => ?_) (fun hc21 => ?_)
    · refine q_aload_n rfl rfl ?_
      refine q_getI rfl hx_51 rfl (eln) ?_
      refine q_if_neN rfl (by omega) (fun hc30 => ?_) (fun hc30 => ?_)
      · exact absurd hc30 (by decide)
      · refine q_bipush (v := (-4)) rfl rfl ?_
        refine q_iret rfl rfl ?_
        exact ⟨rfl, rfl⟩
    · exact absurd hc21 (by decide)
theorem m_lots_F {X : XX} {I A : Nat → Nat → Int32} {J B : Nat → Nat → Int64} {F : Nat → Nat} (n u : Nat) (n1 : 1 ≤ n) (n20 : n ≤ 20) (u1 : 1 ≤ u) (hu : u < 2147483647) (ln : Nat) (hln : ln ≤ 5) (eln : I 51 3 = nI ln) (h0 : 0 < ln) (d : Nat) (ed : A 52 0 = nI d) (hd : d ≤ 40) (hf : 40 < d + 2 * n) : x_ev X xT 6 239 [.ref 51, .int (nI n), .int (nI u)] (HX I A J B F) (some (.int (-2))) (HX I A J B F) := by
  refine q_ev (L := [some (.ref 51), some (.int (nI n)), some (.int (nI u)), none, none, none, none, none]) tX9_lots (Nat.le_of_ble_eq_true rfl) rfl ?_
  refine q_iload_n rfl rfl ?_
  refine q_i2l rfl ?_
  refine q_lconst (v := 1) rfl rfl ?_
  refine q_ldc2_w (v := 20) rfl rfl ?_
  refine q_callS3 rfl rfl (Nat.le_of_ble_eq_true rfl) (Nat.le_of_ble_eq_true rfl) (sX9_in _ _ _) ?_
  refine q_cn (f_in_1 (lo := nI 1) (hi := nI 20) rfl rfl (nI_nlt (by omega) (by omega)) (nI_nlt (by omega) (by omega))) ?_
  refine q_if_eqN rfl (by omega) (fun hc9 => ?_) (fun hc9 => ?_)
  · exact absurd hc9 (by decide)
  · refine q_iload_n rfl rfl ?_
    refine q_i2l rfl ?_
    refine q_lconst (v := 1) rfl rfl ?_
    refine q_ldc2_w (v := 2147483646) rfl rfl ?_
    refine q_callS3 rfl rfl (Nat.le_of_ble_eq_true rfl) (Nat.le_of_ble_eq_true rfl) (sX9_in _ _ _) ?_
    refine q_cn (f_in_1 (lo := nI 1) (hi := 2147483646) rfl rfl (nI_nlt (by omega) (by omega)) (show ¬ nI 2147483646 < nI u from nI_nlt (by omega) (by omega))) ?_
    refine q_if_neN rfl (by omega) (fun hc21 => ?_) (fun hc21 => ?_)
    · refine q_aload_n rfl rfl ?_
      refine q_getI rfl hx_51 rfl (eln) ?_
      refine q_if_neN rfl (by omega) (fun hc30 => ?_) (fun hc30 => ?_)
      · refine q_aload_n rfl rfl ?_
        refine q_getfield rfl hx_51 rfl ?_
        refine q_iconst (v := nI 0) rfl rfl ?_
        refine q_iald rfl (by decide) hx_52 (by decide) (by decide) (ed) ?_
        refine q_iconst (v := nI 2) rfl rfl ?_
        refine q_iload_n rfl rfl ?_
        refine q_imulN rfl ?_
        refine q_iaddN rfl ?_
        refine q_bipush (v := nI 40) rfl rfl ?_
        refine q_icmp_leN rfl (by omega) (by omega) (fun hc48 => ?_) (fun hc48 => ?_)
        · omega
        · refine q_bipush (v := (-2)) rfl rfl ?_
          refine q_iret rfl rfl ?_
          exact ⟨rfl, rfl⟩
      · omega
    · exact absurd hc21 (by decide)
set_option maxHeartbeats 1000000 in
theorem m_lots_0 {X : XX} {I A : Nat → Nat → Int32} {J B : Nat → Nat → Int64} {F : Nat → Nat} (n u : Nat) (n1 : 1 ≤ n) (n20 : n ≤ 20) (u1 : 1 ≤ u) (hu : u < 2147483647) (b : Nat) (hb : b ≤ 5) (eb : I 51 1 = nI b) (m : Nat) (em : A 52 1 = nI m) (hm : m ≤ 40) (s : Nat) (es : A 52 2 = nI s) (hs : s < 24) (st : Nat) (hst : st < 24) (est : I 51 2 = nI st) (ln : Nat) (hln : ln ≤ 5) (eln : I 51 3 = nI ln) (h0 : 0 < ln) (hl : mLk A) (d : Nat) (ed : A 52 0 = nI d) (ff : Nat → Int32) (ee : Int32) (hf : d + 2 * n ≤ 40) : x_ev X xT 6 239 [.ref 51, .int (nI n), .int (nI u)] (HX I A J B F) (some (.int (nI (lgK b ln (fun i => mL A i) st u (d, ff, m, s, ee) n)))) (HX I (ua A 52 (bqK st u (d, ff, m, s, ee) (A 52) n)) J B F) := by
  refine q_ev (L := [some (.ref 51), some (.int (nI n)), some (.int (nI u)), none, none, none, none, none]) tX9_lots (Nat.le_of_ble_eq_true rfl) rfl ?_
  refine q_iload_n rfl rfl ?_
  refine q_i2l rfl ?_
  refine q_lconst (v := 1) rfl rfl ?_
  refine q_ldc2_w (v := 20) rfl rfl ?_
  refine q_callS3 rfl rfl (Nat.le_of_ble_eq_true rfl) (Nat.le_of_ble_eq_true rfl) (sX9_in _ _ _) ?_
  refine q_cn (f_in_1 (lo := nI 1) (hi := nI 20) rfl rfl (nI_nlt (by omega) (by omega)) (nI_nlt (by omega) (by omega))) ?_
  refine q_if_eqN rfl (by omega) (fun hc9 => ?_) (fun hc9 => ?_)
  · exact absurd hc9 (by decide)
  · refine q_iload_n rfl rfl ?_
    refine q_i2l rfl ?_
    refine q_lconst (v := 1) rfl rfl ?_
    refine q_ldc2_w (v := 2147483646) rfl rfl ?_
    refine q_callS3 rfl rfl (Nat.le_of_ble_eq_true rfl) (Nat.le_of_ble_eq_true rfl) (sX9_in _ _ _) ?_
    refine q_cn (f_in_1 (lo := nI 1) (hi := 2147483646) rfl rfl (nI_nlt (by omega) (by omega)) (show ¬ nI 2147483646 < nI u from nI_nlt (by omega) (by omega))) ?_
    refine q_if_neN rfl (by omega) (fun hc21 => ?_) (fun hc21 => ?_)
    · refine q_aload_n rfl rfl ?_
      refine q_getI rfl hx_51 rfl (eln) ?_
      refine q_if_neN rfl (by omega) (fun hc30 => ?_) (fun hc30 => ?_)
      · refine q_aload_n rfl rfl ?_
        refine q_getfield rfl hx_51 rfl ?_
        refine q_iconst (v := nI 0) rfl rfl ?_
        refine q_iald rfl (by decide) hx_52 (by decide) (by decide) (ed) ?_
        refine q_iconst (v := nI 2) rfl rfl ?_
        refine q_iload_n rfl rfl ?_
        refine q_imulN rfl ?_
        refine q_iaddN rfl ?_
        refine q_bipush (v := nI 40) rfl rfl ?_
        refine q_icmp_leN rfl (by omega) (by omega) (fun hc48 => ?_) (fun hc48 => ?_)
        · refine q_iload_n rfl rfl ?_
          refine q_i2l rfl ?_
          refine q_lstore_n (L' := [_, _, _, _, _, _, _, _]) rfl rfl ?_
          refine q_iconst (v := nI 0) rfl rfl ?_
          refine q_istore (L' := [_, _, _, _, _, _, _, _]) rfl rfl ?_
          refine q_iconst (v := nI 0) rfl rfl ?_
          refine q_istore (L' := [_, _, _, _, _, _, _, _]) rfl rfl ?_
          refine q_up (Inv := fun k L h => ∃ z, L = [some (.ref 51), some (.int (nI n)), some (.int (nI u)), some (.long (lN (lotK u k))), none, some (.int (nI (lgK b ln (fun i => mL A i) st u (d, ff, m, s, ee) k))), some (.int (nI k)), z] ∧ h = HX I (ua A 52 (bqK st u (d, ff, m, s, ee) (A 52) k)) J B F) (n) (fun k L h hk_k hi_k ih_k => ?_) (fun L h hi_k => ?_) (0) _ _ (by omega) (⟨_, by rw [nI_l (by omega)]; rfl, by rw [ua_self (A := A) (c := 52) (f := bqK st u (d, ff, m, s, ee) (A 52) 0) rfl]⟩)
          · obtain ⟨z, rfl, rfl⟩ := hi_k
            refine q_iload rfl rfl ?_
            refine q_iload_n rfl rfl ?_
            refine q_icmp_geN rfl (by omega) (by omega) (fun hcks66 => ?_) (fun hcks66 => ?_)
            · omega
            · refine q_lload_n rfl rfl ?_
              refine q_ldc2_w (v := 48271) rfl rfl ?_
              refine q_lmul rfl ?_
              refine q_ldc2_w (v := 2147483647) rfl rfl ?_
              refine q_lrem rfl (by decide) ?_
              refine q_cj (show _ = lN (lotK u (k + 1)) from lot_nx (lotK_lt hu k)) ?_
              refine q_lstore_n (L' := [_, _, _, _, _, _, _, _]) rfl rfl ?_
              refine q_lload_n rfl rfl ?_
              refine q_ldc2_w (v := 16) rfl rfl ?_
              refine q_ldiv rfl (by decide) ?_
              refine q_ldc2_w (v := 5) rfl rfl ?_
              refine q_lrem rfl (by decide) ?_
              refine q_l2i rfl ?_
              refine q_cn (show _ = nI (byK u k) from lot_by (lotK_lt hu (k + 1))) ?_
              refine q_iconst (v := nI 2) rfl rfl ?_
              refine q_isub rfl ?_
              refine q_istore (L' := [_, _, _, _, _, _, _, _]) rfl rfl ?_
              refine q_iload rfl rfl ?_
              refine q_if_eq rfl (fun hcks95 => ?_) (fun hcks95 => ?_)
              · refine q_heap (show _ = HX I (ua A 52 (bqM st u k (nsK st u (d, ff, m, s, ee) k) (bqK st u (d, ff, m, s, ee) (A 52) k))) J B F from by first | rw [show (bqM st u k (nsK st u (d, ff, m, s, ee) k) (bqK st u (d, ff, m, s, ee) (A 52) k)) = (bqK st u (d, ff, m, s, ee) (A 52) k) from if_pos ((sI2_0 (byK_lt u k)).mp hcks95)] | (rw [ua_ua, ua_eq, show (bqM st u k (nsK st u (d, ff, m, s, ee) k) (bqK st u (d, ff, m, s, ee) (A 52) k)) = bqT st (sI 2 (byK u k)) (nsK st u (d, ff, m, s, ee) k) (bqK st u (d, ff, m, s, ee) (A 52) k) from if_neg (fun z => hcks95 ((sI2_0 (byK_lt u k)).mpr z))]; rfl)) ?_
                refine q_iload rfl rfl ?_
                refine q_aload_n rfl rfl ?_
                refine q_callV0 rfl hx_51 (Nat.le_of_ble_eq_true rfl) (Nat.le_of_ble_eq_true rfl) (sX9_doMoment b hb (by exact eb) (nsM st u k (nsK st u (d, ff, m, s, ee) k)).2.2.1 (by rw [ua_eq]; exact (bqM_v (st := st) (u := u) (t := (nsK st u (d, ff, m, s, ee) k)) (g := (bqK st u (d, ff, m, s, ee) (A 52) k)) k (bqK_v (st := st) (u := u) (t := (d, ff, m, s, ee)) (g := A 52) ed em es k).1 (bqK_v (st := st) (u := u) (t := (d, ff, m, s, ee)) (g := A 52) ed em es k).2.1 (bqK_v (st := st) (u := u) (t := (d, ff, m, s, ee)) (g := A 52) ed em es k).2.2).2.1) (by have h1 : (nsK st u (d, ff, m, s, ee) k).1 ≤ d + 2 * k ∧ (nsK st u (d, ff, m, s, ee) k).2.2.1 = m + k := nsK_le st u (d, ff, m, s, ee) k; have h2 := nsM_le st u k (nsK st u (d, ff, m, s, ee) k); omega) (nsM st u k (nsK st u (d, ff, m, s, ee) k)).2.2.2.1 (by rw [ua_eq]; exact (bqM_v (st := st) (u := u) (t := (nsK st u (d, ff, m, s, ee) k)) (g := (bqK st u (d, ff, m, s, ee) (A 52) k)) k (bqK_v (st := st) (u := u) (t := (d, ff, m, s, ee)) (g := A 52) ed em es k).1 (bqK_v (st := st) (u := u) (t := (d, ff, m, s, ee)) (g := A 52) ed em es k).2.1 (bqK_v (st := st) (u := u) (t := (d, ff, m, s, ee)) (g := A 52) ed em es k).2.2).2.2) (by exact hl) ln hln (by exact eln) (nsM st u k (nsK st u (d, ff, m, s, ee) k)).1 (by have h1 : (nsK st u (d, ff, m, s, ee) k).1 ≤ d + 2 * k ∧ (nsK st u (d, ff, m, s, ee) k).2.2.1 = m + k := nsK_le st u (d, ff, m, s, ee) k; have h2 := nsM_le st u k (nsK st u (d, ff, m, s, ee) k); omega) (by rw [ua_eq]; exact (bqM_v (st := st) (u := u) (t := (nsK st u (d, ff, m, s, ee) k)) (g := (bqK st u (d, ff, m, s, ee) (A 52) k)) k (bqK_v (st := st) (u := u) (t := (d, ff, m, s, ee)) (g := A 52) ed em es k).1 (bqK_v (st := st) (u := u) (t := (d, ff, m, s, ee)) (g := A 52) ed em es k).2.1 (bqK_v (st := st) (u := u) (t := (d, ff, m, s, ee)) (g := A 52) ed em es k).2.2).1)) ?_
                refine q_iaddN rfl ?_
                refine q_istore (L' := [_, _, _, _, _, _, _, _]) rfl rfl ?_
                refine q_iincN (c := 1) (L' := [_, _, _, _, _, _, _, _]) rfl rfl rfl rfl ?_
                refine q_goto rfl ?_
                exact ih_k _ _ (⟨_, rfl, by rw [ua_ua, ua_eq]; rfl⟩)
              · refine q_aload_n rfl rfl ?_
                refine q_iload rfl rfl ?_
                refine q_callV1 rfl hx_51 (Nat.le_of_ble_eq_true rfl) (Nat.le_of_ble_eq_true rfl) (m_turnX (d := (nsK st u (d, ff, m, s, ee) k).1) hst (nsK_lt (st := st) (u := u) (t := (d, ff, m, s, ee)) hs k) (by exact est) (by rw [ua_eq]; exact (bqK_v (st := st) (u := u) (t := (d, ff, m, s, ee)) (g := A 52) ed em es k).2.2) (by have h1 : (nsK st u (d, ff, m, s, ee) k).1 ≤ d + 2 * k ∧ (nsK st u (d, ff, m, s, ee) k).2.2.1 = m + k := nsK_le st u (d, ff, m, s, ee) k; have h2 := nsM_le st u k (nsK st u (d, ff, m, s, ee) k); omega) (by rw [ua_eq]; exact (bqK_v (st := st) (u := u) (t := (d, ff, m, s, ee)) (g := A 52) ed em es k).1) (ok_sI2 (byK_lt u k))) ?_
                refine q_popI rfl ?_
                refine q_heap (show _ = HX I (ua A 52 (bqM st u k (nsK st u (d, ff, m, s, ee) k) (bqK st u (d, ff, m, s, ee) (A 52) k))) J B F from by first | rw [show (bqM st u k (nsK st u (d, ff, m, s, ee) k) (bqK st u (d, ff, m, s, ee) (A 52) k)) = (bqK st u (d, ff, m, s, ee) (A 52) k) from if_pos ((sI2_0 (byK_lt u k)).mp hcks95)] | (rw [ua_ua, ua_eq, show (bqM st u k (nsK st u (d, ff, m, s, ee) k) (bqK st u (d, ff, m, s, ee) (A 52) k)) = bqT st (sI 2 (byK u k)) (nsK st u (d, ff, m, s, ee) k) (bqK st u (d, ff, m, s, ee) (A 52) k) from if_neg (fun z => hcks95 ((sI2_0 (byK_lt u k)).mpr z))]; rfl)) ?_
                refine q_iload rfl rfl ?_
                refine q_aload_n rfl rfl ?_
                refine q_callV0 rfl hx_51 (Nat.le_of_ble_eq_true rfl) (Nat.le_of_ble_eq_true rfl) (sX9_doMoment b hb (by exact eb) (nsM st u k (nsK st u (d, ff, m, s, ee) k)).2.2.1 (by rw [ua_eq]; exact (bqM_v (st := st) (u := u) (t := (nsK st u (d, ff, m, s, ee) k)) (g := (bqK st u (d, ff, m, s, ee) (A 52) k)) k (bqK_v (st := st) (u := u) (t := (d, ff, m, s, ee)) (g := A 52) ed em es k).1 (bqK_v (st := st) (u := u) (t := (d, ff, m, s, ee)) (g := A 52) ed em es k).2.1 (bqK_v (st := st) (u := u) (t := (d, ff, m, s, ee)) (g := A 52) ed em es k).2.2).2.1) (by have h1 : (nsK st u (d, ff, m, s, ee) k).1 ≤ d + 2 * k ∧ (nsK st u (d, ff, m, s, ee) k).2.2.1 = m + k := nsK_le st u (d, ff, m, s, ee) k; have h2 := nsM_le st u k (nsK st u (d, ff, m, s, ee) k); omega) (nsM st u k (nsK st u (d, ff, m, s, ee) k)).2.2.2.1 (by rw [ua_eq]; exact (bqM_v (st := st) (u := u) (t := (nsK st u (d, ff, m, s, ee) k)) (g := (bqK st u (d, ff, m, s, ee) (A 52) k)) k (bqK_v (st := st) (u := u) (t := (d, ff, m, s, ee)) (g := A 52) ed em es k).1 (bqK_v (st := st) (u := u) (t := (d, ff, m, s, ee)) (g := A 52) ed em es k).2.1 (bqK_v (st := st) (u := u) (t := (d, ff, m, s, ee)) (g := A 52) ed em es k).2.2).2.2) (by exact hl) ln hln (by exact eln) (nsM st u k (nsK st u (d, ff, m, s, ee) k)).1 (by have h1 : (nsK st u (d, ff, m, s, ee) k).1 ≤ d + 2 * k ∧ (nsK st u (d, ff, m, s, ee) k).2.2.1 = m + k := nsK_le st u (d, ff, m, s, ee) k; have h2 := nsM_le st u k (nsK st u (d, ff, m, s, ee) k); omega) (by rw [ua_eq]; exact (bqM_v (st := st) (u := u) (t := (nsK st u (d, ff, m, s, ee) k)) (g := (bqK st u (d, ff, m, s, ee) (A 52) k)) k (bqK_v (st := st) (u := u) (t := (d, ff, m, s, ee)) (g := A 52) ed em es k).1 (bqK_v (st := st) (u := u) (t := (d, ff, m, s, ee)) (g := A 52) ed em es k).2.1 (bqK_v (st := st) (u := u) (t := (d, ff, m, s, ee)) (g := A 52) ed em es k).2.2).1)) ?_
                refine q_iaddN rfl ?_
                refine q_istore (L' := [_, _, _, _, _, _, _, _]) rfl rfl ?_
                refine q_iincN (c := 1) (L' := [_, _, _, _, _, _, _, _]) rfl rfl rfl rfl ?_
                refine q_goto rfl ?_
                exact ih_k _ _ (⟨_, rfl, by rw [ua_ua, ua_eq]; rfl⟩)
          · obtain ⟨z, rfl, rfl⟩ := hi_k
            refine q_iload rfl rfl ?_
            refine q_iload_n rfl rfl ?_
            refine q_icmp_geN rfl (by omega) (by omega) (fun hckf66 => ?_) (fun hckf66 => ?_)
            · refine q_iload rfl rfl ?_
              refine q_iret rfl rfl ?_
              exact ⟨rfl, rfl⟩
            · omega
        · omega
      · omega
    · exact absurd hc21 (by decide)
set_option maxHeartbeats 1000000 in
theorem op_35 {X : XX} : Op_35 X RelR := by
  intro y z I A J B F hr
  obtain ⟨ln, b, st, hL, hT, hK, hD, hN, hQ, hF, hU, hJ, hS⟩ := id hr
  obtain ⟨hln, hb, hst, eln, eln', eb, eb', e7, e7', hb1⟩ := id hD
  obtain ⟨d, hd, n1, q0, n2, n3, n9, q1, q2, q3, hp⟩ := id hN
  have hm : (rp st (A 9) d).1 ≤ 40 := Nat.le_trans (rp_1 st (A 9) d) hd
  have hs := rp_2 st (A 9) d
  have lks := RelK_lks hK
  have hl := RelK_hl hK
  have cLe := RelK_cL hK
  by_cases y1 : y < nI 1
  · exact opI_mk (by decide) (by decide) (c_lots_bad _ _ (Or.inl y1)) (m_lots_b1 _ _ (Or.inl y1)) (hr)
  by_cases y20 : nI 20 < y
  · exact opI_mk (by decide) (by decide) (c_lots_bad _ _ (Or.inr (Or.inl y20))) (m_lots_b1 _ _ (Or.inr y20)) (hr)
  obtain ⟨n, hn20, rfl⟩ := nI_of2 (M := nI 20) (n := 20) rfl (fun w => y1 (Int32.lt_trans w (by decide))) (Int32.not_lt.mp y20)
  have hn1 : 1 ≤ n := by
    rw [nI_ltI (by omega) (by omega)] at y1
    omega
  by_cases z1 : z < nI 1
  · exact opI_mk (by decide) (by decide) (c_lots_bad _ _ (Or.inr (Or.inr (Or.inl z1)))) (m_lots_b2 n hn1 hn20 _ (Or.inl z1)) (hr)
  by_cases z2 : 2147483646 < z
  · exact opI_mk (by decide) (by decide) (c_lots_bad _ _ (Or.inr (Or.inr (Or.inr z2)))) (m_lots_b2 n hn1 hn20 _ (Or.inr z2)) (hr)
  obtain ⟨u, hu31, rfl⟩ := nI_of (x := z) (fun w => z1 (Int32.lt_trans w (by decide)))
  have hu1 : 1 ≤ u := by
    rw [nI_ltI hu31 (by omega)] at z1
    omega
  have hu : u < 2147483647 := by
    have z3 : ¬ nI 2147483646 < nI u := z2
    rw [nI_ltI (by omega) hu31] at z3
    omega
  by_cases h0 : ln = 0
  · subst h0
    exact opI_mk (by decide) (by decide) (c_lots_S n u hn1 hn20 hu1 hu eln) (m_lots_S n u hn1 hn20 hu1 hu (by exact eln')) (hr)
  by_cases hf : 40 < d + 2 * n
  · exact opI_mk (by decide) (by decide) (c_lots_F n u hn1 hn20 hu1 hu ln hln eln (by omega) d n1 hd hf) (m_lots_F n u hn1 hn20 hu1 hu ln hln (by exact eln') (by omega) d (by exact q0) hd hf) (hr)
  have hrr : RelN st 8 0 (n4 I (nI d) (nI (rp st (A 9) d).1) (nI (rp st (A 9) d).2.1) (I 8 4)) (ua (ua A 9 (A 9)) 52 (A 52)) := by
    rw [ua_self (A := A) (c := 9) rfl, ua_self (A := A) (c := 52) rfl, ← n1, show nI (rp st (A 9) d).1 = I 8 2 from n2.symm, show nI (rp st (A 9) d).2.1 = I 8 3 from n3.symm, n4_same]
    exact hN
  have h9 := c_lots_0 (X := X) (A := A) (J := J) (B := B) (F := F) n u hn1 hn20 hu1 hu b hb eb (rp st (A 9) d).1 n2 hm (rp st (A 9) d).2.1 n3 hs st hst e7 ln hln eln (by omega) lks d n1 (by omega)
  rw [lgK_congr (L' := fun i => mL A i) (fun i hi => cLe i (by omega))] at h9
  exact opI_mk (by decide) (by decide) (h9) (m_lots_0 n u hn1 hn20 hu1 hu b hb (by exact eb') (rp st (A 9) d).1 (by exact q1) hm (rp st (A 9) d).2.1 (by exact q2) hs st hst (by exact e7') ln hln (by exact eln') (by omega) (by exact hl) d (by exact q0) (A 9) (I 8 4) (by omega)) (⟨ln, b, st, (by repeat first | exact hL | refine RelL_n4 ?_ | refine RelL_u2 (by omega) ?_ | refine RelL_ua (by omega) ?_), (by repeat first | exact hT | refine RelT_n4 ?_ | refine RelT_u2 (by omega) ?_ | refine RelT_ua (by omega) ?_), (by repeat first | exact hK | refine RelK_n4 ?_ | refine RelK_u2 (by omega) ?_ | refine RelK_ua (by omega) ?_), (by repeat first | exact hD | refine RelD_n4 ?_ | refine RelD_u2 (by omega) ?_), (RelN_lots (t := (d, A 9, (rp st (A 9) d).1, (rp st (A 9) d).2.1, I 8 4)) (g := A 52) (by show d + 2 * n ≤ 40; omega) hrr n (Nat.le_refl _)), (RelQ_blk (fun x hx => bqK_far (t := (d, A 9, (rp st (A 9) d).1, (rp st (A 9) d).2.1, I 8 4)) (n := n) (by show d + 2 * n ≤ 40; omega) n (Nat.le_refl _) x hx) (by repeat first | exact hQ | refine RelQ_n4 ?_ | refine RelQ_ua (by omega) ?_)), (by repeat first | exact hF | refine RelF_n4 ?_ | refine RelF_u2 (by omega) ?_ | refine RelF_ua (by omega) ?_), (by repeat first | exact hU | refine RelU_n4 ?_ | refine RelU_u2 (by omega) ?_), hJ, hS⟩)
