/-! sleep: the calls -/
theorem sv_j {x : Int32} (h : okN (-6) (nI 6) x) : tn (x + nI 6) < 13 ∧ x = sI 6 (tn (x + nI 6)) := by
  obtain ⟨j, hj, e⟩ := by6 h.1 h.2
  have h1 : x + nI 6 = nI j := by
    rw [e]
    unfold sI
    rw [Int32.sub_add_cancel]
  rw [h1, tn_nI (by omega)]
  exact ⟨hj, e⟩
theorem c_sl_bb {X : XX} {I A : Nat → Nat → Int32} {J B : Nat → Nat → Int64} {F : Nat → Nat} (x : Int32) (hx : x < 0 ∨ I 0 12 ≤ x) (y : Int32) (hy : y < 0 ∨ 6 ≤ y) (z : Int32) (e : Nat)  : x_ev X xT 6 140 [.ref 0, .int x, .int y, .int z, .int (nI e)] (HX I A J B F) (some (.int (-1))) (HX I A J B F) := by
  refine q_ev (L := [some (.ref 0), some (.int x), some (.int y), some (.int z), some (.int (nI e)), none, none, none, none, none]) tX8_bySleep (Nat.le_of_ble_eq_true rfl) rfl ?_
  refine q_aload_n rfl rfl ?_
  refine q_iload_n rfl rfl ?_
  refine q_callV1 rfl hx_0 (Nat.le_of_ble_eq_true rfl) (Nat.le_of_ble_eq_true rfl) (sX8_lightAtN x hx) ?_
  refine q_astoreN (L' := [_, _, _, _, _, _, _, _, _, _]) rfl rfl ?_
  refine q_aload_n rfl rfl ?_
  refine q_getfield rfl hx_0 rfl ?_
  refine q_iload_n rfl rfl ?_
  refine q_callS2 rfl rfl (Nat.le_of_ble_eq_true rfl) (Nat.le_of_ble_eq_true rfl) (sX8_lineAt_rowN y hy) ?_
  refine q_astoreN (L' := [_, _, _, _, _, _, _, _, _, _]) rfl rfl ?_
  refine q_aloadN rfl rfl ?_
  refine q_ifnullN rfl ?_
  refine q_iconst (v := (-1)) rfl rfl ?_
  refine q_iret rfl rfl ?_
  exact ⟨rfl, rfl⟩
theorem c_sl_bo {X : XX} {I A : Nat → Nat → Int32} {J B : Nat → Nat → Int64} {F : Nat → Nat} (x : Int32) (hx : x < 0 ∨ I 0 12 ≤ x) (q : Nat) (hr : q < 6) (z : Int32) (e : Nat)  : x_ev X xT 6 140 [.ref 0, .int x, .int (nI q), .int z, .int (nI e)] (HX I A J B F) (some (.int (-1))) (HX I A J B F) := by
  refine q_ev (L := [some (.ref 0), some (.int x), some (.int (nI q)), some (.int z), some (.int (nI e)), none, none, none, none, none]) tX8_bySleep (Nat.le_of_ble_eq_true rfl) rfl ?_
  refine q_aload_n rfl rfl ?_
  refine q_iload_n rfl rfl ?_
  refine q_callV1 rfl hx_0 (Nat.le_of_ble_eq_true rfl) (Nat.le_of_ble_eq_true rfl) (sX8_lightAtN x hx) ?_
  refine q_astoreN (L' := [_, _, _, _, _, _, _, _, _, _]) rfl rfl ?_
  refine q_aload_n rfl rfl ?_
  refine q_getfield rfl hx_0 rfl ?_
  refine q_iload_n rfl rfl ?_
  refine q_callS2 rfl rfl (Nat.le_of_ble_eq_true rfl) (Nat.le_of_ble_eq_true rfl) (sX8_lineAt_row q hr) ?_
  refine q_astore (L' := [_, _, _, _, _, _, _, _, _, _]) rfl rfl ?_
  refine q_aloadN rfl rfl ?_
  refine q_ifnullN rfl ?_
  refine q_iconst (v := (-1)) rfl rfl ?_
  refine q_iret rfl rfl ?_
  exact ⟨rfl, rfl⟩
theorem c_sl_ob {X : XX} {I A : Nat → Nat → Int32} {J B : Nat → Nat → Int64} {F : Nat → Nat} (ln : Nat) (hln : ln ≤ 5) (eln : I 0 12 = nI ln) (k : Nat) (hk : k < ln) (y : Int32) (hy : y < 0 ∨ 6 ≤ y) (z : Int32) (e : Nat)  : x_ev X xT 6 140 [.ref 0, .int (nI k), .int y, .int z, .int (nI e)] (HX I A J B F) (some (.int (-1))) (HX I A J B F) := by
  refine q_ev (L := [some (.ref 0), some (.int (nI k)), some (.int y), some (.int z), some (.int (nI e)), none, none, none, none, none]) tX8_bySleep (Nat.le_of_ble_eq_true rfl) rfl ?_
  refine q_aload_n rfl rfl ?_
  refine q_iload_n rfl rfl ?_
  refine q_callV1 rfl hx_0 (Nat.le_of_ble_eq_true rfl) (Nat.le_of_ble_eq_true rfl) (sX8_lightAt k ln hk hln eln) ?_
  refine q_astore (L' := [_, _, _, _, _, _, _, _, _, _]) rfl rfl ?_
  refine q_aload_n rfl rfl ?_
  refine q_getfield rfl hx_0 rfl ?_
  refine q_iload_n rfl rfl ?_
  refine q_callS2 rfl rfl (Nat.le_of_ble_eq_true rfl) (Nat.le_of_ble_eq_true rfl) (sX8_lineAt_rowN y hy) ?_
  refine q_astoreN (L' := [_, _, _, _, _, _, _, _, _, _]) rfl rfl ?_
  refine q_aload rfl rfl ?_
  refine q_ifnull rfl ?_
  refine q_aloadN rfl rfl ?_
  refine q_ifnullN rfl ?_
  refine q_iconst (v := (-1)) rfl rfl ?_
  refine q_iret rfl rfl ?_
  exact ⟨rfl, rfl⟩
theorem c_sl_p {X : XX} {I A : Nat → Nat → Int32} {J B : Nat → Nat → Int64} {F : Nat → Nat} (ln : Nat) (hln : ln ≤ 5) (eln : I 0 12 = nI ln) (k : Nat) (hk : k < ln) (q : Nat) (hr : q < 6) (z : Int32) (e : Nat) (hzb : z < nI 0 ∨ nI 12 < z) : x_ev X xT 6 140 [.ref 0, .int (nI k), .int (nI q), .int z, .int (nI e)] (HX I A J B F) (some (.int (-1))) (HX I A J B F) := by
  refine q_ev (L := [some (.ref 0), some (.int (nI k)), some (.int (nI q)), some (.int z), some (.int (nI e)), none, none, none, none, none]) tX8_bySleep (Nat.le_of_ble_eq_true rfl) rfl ?_
  refine q_aload_n rfl rfl ?_
  refine q_iload_n rfl rfl ?_
  refine q_callV1 rfl hx_0 (Nat.le_of_ble_eq_true rfl) (Nat.le_of_ble_eq_true rfl) (sX8_lightAt k ln hk hln eln) ?_
  refine q_astore (L' := [_, _, _, _, _, _, _, _, _, _]) rfl rfl ?_
  refine q_aload_n rfl rfl ?_
  refine q_getfield rfl hx_0 rfl ?_
  refine q_iload_n rfl rfl ?_
  refine q_callS2 rfl rfl (Nat.le_of_ble_eq_true rfl) (Nat.le_of_ble_eq_true rfl) (sX8_lineAt_row q hr) ?_
  refine q_astore (L' := [_, _, _, _, _, _, _, _, _, _]) rfl rfl ?_
  refine q_aload rfl rfl ?_
  refine q_ifnull rfl ?_
  refine q_aload rfl rfl ?_
  refine q_ifnull rfl ?_
  refine q_iload_n rfl rfl ?_
  refine q_if_lt rfl (fun hc28 => ?_) (fun hc28 => ?_)
  · refine q_iconst (v := (-1)) rfl rfl ?_
    refine q_iret rfl rfl ?_
    exact ⟨rfl, rfl⟩
  · refine q_iload_n rfl rfl ?_
    refine q_bipush (v := nI 12) rfl rfl ?_
    refine q_icmp_le rfl (fun hc34 => ?_) (fun hc34 => ?_)
    · rcases hzb with h | h
      · exact absurd h hc28
      · exact absurd hc34 (Int32.not_le.mpr h)
    · refine q_iconst (v := (-1)) rfl rfl ?_
      refine q_iret rfl rfl ?_
      exact ⟨rfl, rfl⟩
theorem c_sl_M {X : XX} {I A : Nat → Nat → Int32} {J B : Nat → Nat → Int64} {F : Nat → Nat} (ln : Nat) (hln : ln ≤ 5) (eln : I 0 12 = nI ln) (k : Nat) (hk : k < ln) (q : Nat) (hr : q < 6) (hz : I (20 + 2 * q) 1 = -1) (p : Nat) (hp : p ≤ 12) (e : Nat)  : x_ev X xT 6 140 [.ref 0, .int (nI k), .int (nI q), .int (nI p), .int (nI e)] (HX I A J B F) (some (.int (-3))) (HX (u2 I 0 13 (nI 1)) (f_cnt A 19 1) J B F) := by
  refine q_ev (L := [some (.ref 0), some (.int (nI k)), some (.int (nI q)), some (.int (nI p)), some (.int (nI e)), none, none, none, none, none]) tX8_bySleep (Nat.le_of_ble_eq_true rfl) rfl ?_
  refine q_aload_n rfl rfl ?_
  refine q_iload_n rfl rfl ?_
  refine q_callV1 rfl hx_0 (Nat.le_of_ble_eq_true rfl) (Nat.le_of_ble_eq_true rfl) (sX8_lightAt k ln hk hln eln) ?_
  refine q_astore (L' := [_, _, _, _, _, _, _, _, _, _]) rfl rfl ?_
  refine q_aload_n rfl rfl ?_
  refine q_getfield rfl hx_0 rfl ?_
  refine q_iload_n rfl rfl ?_
  refine q_callS2 rfl rfl (Nat.le_of_ble_eq_true rfl) (Nat.le_of_ble_eq_true rfl) (sX8_lineAt_row q hr) ?_
  refine q_astore (L' := [_, _, _, _, _, _, _, _, _, _]) rfl rfl ?_
  refine q_aload rfl rfl ?_
  refine q_ifnull rfl ?_
  refine q_aload rfl rfl ?_
  refine q_ifnull rfl ?_
  refine q_iload_n rfl rfl ?_
  refine q_if_ltN rfl (by omega) (fun hc28 => ?_) (fun hc28 => ?_)
  · omega
  · refine q_iload_n rfl rfl ?_
    refine q_bipush (v := nI 12) rfl rfl ?_
    refine q_icmp_leN rfl (by omega) (by omega) (fun hc34 => ?_) (fun hc34 => ?_)
    · refine q_aload_n rfl rfl ?_
      refine q_aload rfl rfl ?_
      refine q_callV1 rfl hx_0 (Nat.le_of_ble_eq_true rfl) (Nat.le_of_ble_eq_true rfl) (sX8_refuseTurns_M q (by omega) hz) ?_
      refine q_istore (L' := [_, _, _, _, _, _, _, _, _, _]) rfl rfl ?_
      refine q_iload rfl rfl ?_
      refine q_if_eq rfl (fun hc49 => ?_) (fun hc49 => ?_)
      · exact absurd hc49 (by decide)
      · refine q_iload rfl rfl ?_
        refine q_iret rfl rfl ?_
        exact ⟨rfl, rfl⟩
    · omega
theorem c_sl_S {X : XX} {I A : Nat → Nat → Int32} {J B : Nat → Nat → Int64} {F : Nat → Nat} (ln : Nat) (hln : ln ≤ 5) (eln : I 0 12 = nI ln) (k : Nat) (hk : k < ln) (q : Nat) (hr : q < 6) (n : Nat) (hn : n ≤ rm q) (hz : I (20 + 2 * q) 1 = nI n) (hn8 : n < 1 ∨ 8 < n) (p : Nat) (hp : p ≤ 12) (e : Nat)  : x_ev X xT 6 140 [.ref 0, .int (nI k), .int (nI q), .int (nI p), .int (nI e)] (HX I A J B F) (some (.int (-3))) (HX (u2 I 0 13 (nI 5)) (f_cnt A 19 5) J B F) := by
  refine q_ev (L := [some (.ref 0), some (.int (nI k)), some (.int (nI q)), some (.int (nI p)), some (.int (nI e)), none, none, none, none, none]) tX8_bySleep (Nat.le_of_ble_eq_true rfl) rfl ?_
  refine q_aload_n rfl rfl ?_
  refine q_iload_n rfl rfl ?_
  refine q_callV1 rfl hx_0 (Nat.le_of_ble_eq_true rfl) (Nat.le_of_ble_eq_true rfl) (sX8_lightAt k ln hk hln eln) ?_
  refine q_astore (L' := [_, _, _, _, _, _, _, _, _, _]) rfl rfl ?_
  refine q_aload_n rfl rfl ?_
  refine q_getfield rfl hx_0 rfl ?_
  refine q_iload_n rfl rfl ?_
  refine q_callS2 rfl rfl (Nat.le_of_ble_eq_true rfl) (Nat.le_of_ble_eq_true rfl) (sX8_lineAt_row q hr) ?_
  refine q_astore (L' := [_, _, _, _, _, _, _, _, _, _]) rfl rfl ?_
  refine q_aload rfl rfl ?_
  refine q_ifnull rfl ?_
  refine q_aload rfl rfl ?_
  refine q_ifnull rfl ?_
  refine q_iload_n rfl rfl ?_
  refine q_if_ltN rfl (by omega) (fun hc28 => ?_) (fun hc28 => ?_)
  · omega
  · refine q_iload_n rfl rfl ?_
    refine q_bipush (v := nI 12) rfl rfl ?_
    refine q_icmp_leN rfl (by omega) (by omega) (fun hc34 => ?_) (fun hc34 => ?_)
    · refine q_aload_n rfl rfl ?_
      refine q_aload rfl rfl ?_
      refine q_callV1 rfl hx_0 (Nat.le_of_ble_eq_true rfl) (Nat.le_of_ble_eq_true rfl) (sX8_refuseTurns_S q (by omega) n hn hz hn8) ?_
      refine q_istore (L' := [_, _, _, _, _, _, _, _, _, _]) rfl rfl ?_
      refine q_iload rfl rfl ?_
      refine q_if_eq rfl (fun hc49 => ?_) (fun hc49 => ?_)
      · exact absurd hc49 (by decide)
      · refine q_iload rfl rfl ?_
        refine q_iret rfl rfl ?_
        exact ⟨rfl, rfl⟩
    · omega
theorem c_sl_U {X : XX} {I A : Nat → Nat → Int32} {J B : Nat → Nat → Int64} {F : Nat → Nat} (ln : Nat) (hln : ln ≤ 5) (eln : I 0 12 = nI ln) (k : Nat) (hk : k < ln) (q : Nat) (hr : q < 6) (n : Nat) (hn : n ≤ rm q) (hz : I (20 + 2 * q) 1 = nI n) (n1 : 1 ≤ n) (n8 : n ≤ 8) (hno : ¬ ∀ k, k < n → okN (-6) (nI 6) (A (21 + 2 * q) k)) (p : Nat) (hp : p ≤ 12) (e : Nat)  : x_ev X xT 6 140 [.ref 0, .int (nI k), .int (nI q), .int (nI p), .int (nI e)] (HX I A J B F) (some (.int (-3))) (HX (u2 I 0 13 (nI 3)) (f_cnt A 19 3) J B F) := by
  refine q_ev (L := [some (.ref 0), some (.int (nI k)), some (.int (nI q)), some (.int (nI p)), some (.int (nI e)), none, none, none, none, none]) tX8_bySleep (Nat.le_of_ble_eq_true rfl) rfl ?_
  refine q_aload_n rfl rfl ?_
  refine q_iload_n rfl rfl ?_
  refine q_callV1 rfl hx_0 (Nat.le_of_ble_eq_true rfl) (Nat.le_of_ble_eq_true rfl) (sX8_lightAt k ln hk hln eln) ?_
  refine q_astore (L' := [_, _, _, _, _, _, _, _, _, _]) rfl rfl ?_
  refine q_aload_n rfl rfl ?_
  refine q_getfield rfl hx_0 rfl ?_
  refine q_iload_n rfl rfl ?_
  refine q_callS2 rfl rfl (Nat.le_of_ble_eq_true rfl) (Nat.le_of_ble_eq_true rfl) (sX8_lineAt_row q hr) ?_
  refine q_astore (L' := [_, _, _, _, _, _, _, _, _, _]) rfl rfl ?_
  refine q_aload rfl rfl ?_
  refine q_ifnull rfl ?_
  refine q_aload rfl rfl ?_
  refine q_ifnull rfl ?_
  refine q_iload_n rfl rfl ?_
  refine q_if_ltN rfl (by omega) (fun hc28 => ?_) (fun hc28 => ?_)
  · omega
  · refine q_iload_n rfl rfl ?_
    refine q_bipush (v := nI 12) rfl rfl ?_
    refine q_icmp_leN rfl (by omega) (by omega) (fun hc34 => ?_) (fun hc34 => ?_)
    · refine q_aload_n rfl rfl ?_
      refine q_aload rfl rfl ?_
      refine q_callV1 rfl hx_0 (Nat.le_of_ble_eq_true rfl) (Nat.le_of_ble_eq_true rfl) (sX8_refuseTurns_U q (by omega) n hn hz n1 n8 hno) ?_
      refine q_istore (L' := [_, _, _, _, _, _, _, _, _, _]) rfl rfl ?_
      refine q_iload rfl rfl ?_
      refine q_if_eq rfl (fun hc49 => ?_) (fun hc49 => ?_)
      · exact absurd hc49 (by decide)
      · refine q_iload rfl rfl ?_
        refine q_iret rfl rfl ?_
        exact ⟨rfl, rfl⟩
    · omega
set_option maxHeartbeats 1000000 in
theorem c_sl_0 {X : XX} {I A : Nat → Nat → Int32} {J B : Nat → Nat → Int64} {F : Nat → Nat} (hS : RelS F) (b : Nat) (hb : b ≤ 5) (eb : I 7 0 = nI b) (m : Nat) (em : I 8 2 = nI m) (hm : m ≤ 40) (s : Nat) (es : I 8 3 = nI s) (hs : s < 24) (ln : Nat) (hln : ln ≤ 5) (eln : I 0 12 = nI ln) (lks : ∀ i, i < 5 → lkOK I (40 + i)) (k : Nat) (hk : k < ln) (q : Nat) (hr : q < 6) (n : Nat) (hn : n ≤ rm q) (hz : I (20 + 2 * q) 1 = nI n) (n1 : 1 ≤ n) (n8 : n ≤ 8) (hok : ∀ k, k < n → okN (-6) (nI 6) (A (21 + 2 * q) k)) (p : Nat) (hp : p ≤ 12) (e : Nat) (he : e ≤ 1) (js : Nat → Nat) (hj : ∀ i, i < n → js i < 13 ∧ A (21 + 2 * q) i = sI 6 (js i)) : ∃ g1 G w v, x_ev X xT 6 140 [.ref 0, .int (nI k), .int (nI q), .int (nI p), .int (nI e)] (HX I A J B F) (some (.int (nI 1))) (HX I (ua A 12 g1) (uj (uj (uj J 16 3 (lN (12 ^ n))) 0 15 (lN ((if e = 0 then sv_gt s p e js (fun i f => gnN b (cL I (40 + k)) (nI f) (m + i)) n else nsum (sv_wt s p e js (fun i f => gnN b (cL I (40 + k)) (nI f) (m + i)) n) 24) / Nat.gcd (12 ^ n) (if e = 0 then sv_gt s p e js (fun i f => gnN b (cL I (40 + k)) (nI f) (m + i)) n else nsum (sv_wt s p e js (fun i f => gnN b (cL I (40 + k)) (nI f) (m + i)) n) 24)))) 0 16 (lN (12 ^ n / Nat.gcd (12 ^ n) (if e = 0 then sv_gt s p e js (fun i f => gnN b (cL I (40 + k)) (nI f) (m + i)) n else nsum (sv_wt s p e js (fun i f => gnN b (cL I (40 + k)) (nI f) (m + i)) n) 24)))) (ub (ub B (G 2) w) (G 3) v) G) ∧ RelS G ∧ G 0 = F 0 ∧ G 1 = F 1 := by
  obtain ⟨g1, h7, hV⟩ := sX7_fill (X := X) (I := I) (J := J) (B := B) (F := F) (A := A) b hb eb k (by omega) (lks k (by omega)) m n (by omega) n8
  have hl9 := (lks k (by omega)).1.2
  have hg9 : ∀ i f, (fun i f => gnN b (cL I (40 + k)) (nI f) (m + i)) i f ≤ 24 := fun i f => gnN_le hl9
  have h12 : 12 ^ n ≤ 12 ^ 8 := Nat.pow_le_pow_right (by decide) n8
  have h120 : 0 < 12 ^ n := Nat.pow_pos (by decide)
  have hU : (if e = 0 then sv_gt s p e js (fun i f => gnN b (cL I (40 + k)) (nI f) (m + i)) n else nsum (sv_wt s p e js (fun i f => gnN b (cL I (40 + k)) (nI f) (m + i)) n) 24) ≤ 192 * 12 ^ 8 := by
    split
    · refine Nat.le_trans (sv_gt_le hp hs hg9 n) (Nat.mul_le_mul (by omega) h12)
    · refine Nat.le_trans (sv_wt_le hp hs n).1 ?_
      omega
  obtain ⟨G, w, v, h8, hG⟩ := sX5_weigh (X := X) (I := I) (J := J) (B := B) (F := F) (A := ua A 12 g1) hS b m n (cL I (40 + k)) hl9 hV n8 s p e q hs hp he hr hn hz js (fun i hi => by rw [ua_ne (x := 21 + 2 * q) (by omega)]; exact hj i hi)
  obtain ⟨r_, h_, he_, g1, G, w, v, hr_, hh_, hf_⟩ := q_evx (X := X) (d := 5) (as := [.ref 0, .int (nI k), .int (nI q), .int (nI p), .int (nI e)]) (h := (HX I A J B F)) (P := fun r_ h_ => ∃ g1 G w v, r_ = (some (.int (nI 1))) ∧ h_ = (HX I (ua A 12 g1) (uj (uj (uj J 16 3 (lN (12 ^ n))) 0 15 (lN ((if e = 0 then sv_gt s p e js (fun i f => gnN b (cL I (40 + k)) (nI f) (m + i)) n else nsum (sv_wt s p e js (fun i f => gnN b (cL I (40 + k)) (nI f) (m + i)) n) 24) / Nat.gcd (12 ^ n) (if e = 0 then sv_gt s p e js (fun i f => gnN b (cL I (40 + k)) (nI f) (m + i)) n else nsum (sv_wt s p e js (fun i f => gnN b (cL I (40 + k)) (nI f) (m + i)) n) 24)))) 0 16 (lN (12 ^ n / Nat.gcd (12 ^ n) (if e = 0 then sv_gt s p e js (fun i f => gnN b (cL I (40 + k)) (nI f) (m + i)) n else nsum (sv_wt s p e js (fun i f => gnN b (cL I (40 + k)) (nI f) (m + i)) n) 24)))) (ub (ub B (G 2) w) (G 3) v) G) ∧ RelS G ∧ G 0 = F 0 ∧ G 1 = F 1) (L := [some (.ref 0), some (.int (nI k)), some (.int (nI q)), some (.int (nI p)), some (.int (nI e)), none, none, none, none, none]) tX8_bySleep (Nat.le_of_ble_eq_true rfl) rfl (by
    refine q_aload_n rfl rfl ?_
    refine q_iload_n rfl rfl ?_
    refine q_callV1 rfl hx_0 (Nat.le_of_ble_eq_true rfl) (Nat.le_of_ble_eq_true rfl) (sX8_lightAt k ln hk hln eln) ?_
    refine q_astore (L' := [_, _, _, _, _, _, _, _, _, _]) rfl rfl ?_
    refine q_aload_n rfl rfl ?_
    refine q_getfield rfl hx_0 rfl ?_
    refine q_iload_n rfl rfl ?_
    refine q_callS2 rfl rfl (Nat.le_of_ble_eq_true rfl) (Nat.le_of_ble_eq_true rfl) (sX8_lineAt_row q hr) ?_
    refine q_astore (L' := [_, _, _, _, _, _, _, _, _, _]) rfl rfl ?_
    refine q_aload rfl rfl ?_
    refine q_ifnull rfl ?_
    refine q_aload rfl rfl ?_
    refine q_ifnull rfl ?_
    refine q_iload_n rfl rfl ?_
    refine q_if_ltN rfl (by omega) (fun hc28 => ?_) (fun hc28 => ?_)
    · omega
    · refine q_iload_n rfl rfl ?_
      refine q_bipush (v := nI 12) rfl rfl ?_
      refine q_icmp_leN rfl (by omega) (by omega) (fun hc34 => ?_) (fun hc34 => ?_)
      · refine q_aload_n rfl rfl ?_
        refine q_aload rfl rfl ?_
        refine q_callV1 rfl hx_0 (Nat.le_of_ble_eq_true rfl) (Nat.le_of_ble_eq_true rfl) (sX8_refuseTurns_0 q (by omega) n hn hz n1 n8 hok) ?_
        refine q_istore (L' := [_, _, _, _, _, _, _, _, _, _]) rfl rfl ?_
        refine q_iload rfl rfl ?_
        refine q_if_eqN rfl (by omega) (fun hc49 => ?_) (fun hc49 => ?_)
        · refine q_aload_n rfl rfl ?_
          refine q_getfield rfl hx_0 rfl ?_
          refine q_aload rfl rfl ?_
          refine q_aload_n rfl rfl ?_
          refine q_getfield rfl hx_0 rfl ?_
          refine q_aload_n rfl rfl ?_
          refine q_getfield rfl hx_0 rfl ?_
          refine q_callV0 rfl hx_8 (Nat.le_of_ble_eq_true rfl) (Nat.le_of_ble_eq_true rfl) (sN_now em) ?_
          refine q_aload rfl rfl ?_
          refine q_callV0 rfl (hx_line q (by omega)) (Nat.le_of_ble_eq_true rfl) (Nat.le_of_ble_eq_true rfl) (sL_size q (by omega) hz) ?_
          refine q_callV4 rfl hx_11 (Nat.le_of_ble_eq_true rfl) (Nat.le_of_ble_eq_true rfl) (h7) ?_
          refine q_aload_n rfl rfl ?_
          refine q_getfield rfl hx_0 rfl ?_
          refine q_aload_n rfl rfl ?_
          refine q_getfield rfl hx_0 rfl ?_
          refine q_callV0 rfl hx_8 (Nat.le_of_ble_eq_true rfl) (Nat.le_of_ble_eq_true rfl) (sN_first es) ?_
          refine q_aload rfl rfl ?_
          refine q_iload_n rfl rfl ?_
          refine q_iload rfl rfl ?_
          refine q_callV4 rfl hx_16 (Nat.le_of_ble_eq_true rfl) (Nat.le_of_ble_eq_true rfl) (h8) ?_
          refine q_lstore (L' := [_, _, _, _, _, _, _, _, _, _]) rfl rfl ?_
          refine q_aload_n rfl rfl ?_
          refine q_lload rfl rfl ?_
          refine q_aload_n rfl rfl ?_
          refine q_getfield rfl hx_0 rfl ?_
          refine q_callV0 rfl hx_16 (Nat.le_of_ble_eq_true rfl) (Nat.le_of_ble_eq_true rfl) (sX5_whole) ?_
          refine q_callV2 rfl hx_0 (Nat.le_of_ble_eq_true rfl) (Nat.le_of_ble_eq_true rfl) (sX8_tellChances (if e = 0 then sv_gt s p e js (fun i f => gnN b (cL I (40 + k)) (nI f) (m + i)) n else nsum (sv_wt s p e js (fun i f => gnN b (cL I (40 + k)) (nI f) (m + i)) n) 24) (12 ^ n) (by omega) (by omega) h120 (Nat.le_trans (Nat.mul_le_mul h12 hU) (by decide))) ?_
          refine q_iconst (v := nI 1) rfl rfl ?_
          refine q_iret rfl rfl ?_
          exact ⟨g1, G, w, v, rfl, rfl, hG⟩
        · exact absurd hc49 (by decide)
      · omega)
  subst hr_
  subst hh_
  exact ⟨g1, G, w, v, he_, hf_⟩
theorem c_mid_w {X : XX} {I A I1 A1 : Nat → Nat → Int32} {J B J1 B1 : Nat → Nat → Int64} {F F1 : Nat → Nat} {x y z r : Int32} (h : x_ev X xT 6 140 [.ref 0, .int x, .int y, .int z, .int (nI 0)] (HX I A J B F) (some (.int r)) (HX I1 A1 J1 B1 F1)) : x_ev X xT 7 113 [.ref 0, .int x, .int y, .int z] (HX I A J B F) (some (.int r)) (HX I1 A1 J1 B1 F1) := by
  refine q_ev (L := [some (.ref 0), some (.int x), some (.int y), some (.int z)]) tX8_mid (Nat.le_of_ble_eq_true rfl) rfl ?_
  refine q_aload_n rfl rfl ?_
  refine q_iload_n rfl rfl ?_
  refine q_iload_n rfl rfl ?_
  refine q_iload_n rfl rfl ?_
  refine q_iconst (v := nI 0) rfl rfl ?_
  refine q_callV4 rfl hx_0 (Nat.le_of_ble_eq_true rfl) (Nat.le_of_ble_eq_true rfl) (h) ?_
  refine q_iret rfl rfl ?_
  exact ⟨rfl, rfl⟩
theorem c_odds_w {X : XX} {I A I1 A1 : Nat → Nat → Int32} {J B J1 B1 : Nat → Nat → Int64} {F F1 : Nat → Nat} {x y z r : Int32} (h : x_ev X xT 6 140 [.ref 0, .int x, .int y, .int z, .int (nI 1)] (HX I A J B F) (some (.int r)) (HX I1 A1 J1 B1 F1)) : x_ev X xT 7 114 [.ref 0, .int x, .int y, .int z] (HX I A J B F) (some (.int r)) (HX I1 A1 J1 B1 F1) := by
  refine q_ev (L := [some (.ref 0), some (.int x), some (.int y), some (.int z)]) tX8_odds (Nat.le_of_ble_eq_true rfl) rfl ?_
  refine q_aload_n rfl rfl ?_
  refine q_iload_n rfl rfl ?_
  refine q_iload_n rfl rfl ?_
  refine q_iload_n rfl rfl ?_
  refine q_iconst (v := nI 1) rfl rfl ?_
  refine q_callV4 rfl hx_0 (Nat.le_of_ble_eq_true rfl) (Nat.le_of_ble_eq_true rfl) (h) ?_
  refine q_iret rfl rfl ?_
  exact ⟨rfl, rfl⟩
theorem sv_has : ∀ m, m < 256 → ∀ k, k < 8 → (nI m >>> (nI k &&& 31)) &&& nI 1 = nI (sv_t m k) := by decide +kernel
theorem sv_shl : ∀ n, n ≤ 8 → nI 1 <<< (nI n &&& 31) = nI (2 ^ n) := by decide +kernel
theorem sX9_has {X : XX} {h : XH} (m k : Nat) (hm : m < 256) (hk : k < 8) : x_ev X xT 1 150 [.int (nI m), .int (nI k)] h (some (.int (nI (sv_t m k)))) h := by
  have ht := sv_t_lt m k
  refine q_ev (L := [some (.int (nI m)), some (.int (nI k))]) tX9_has (Nat.le_of_ble_eq_true rfl) rfl ?_
  refine q_iload_n rfl rfl ?_
  refine q_iload_n rfl rfl ?_
  refine q_ishr rfl ?_
  refine q_iconst (v := nI 1) rfl rfl ?_
  refine q_iand rfl ?_
  refine q_cn (sv_has m hm k hk) ?_
  refine q_iconst (v := nI 1) rfl rfl ?_
  refine q_icmp_neN rfl (by omega) (by omega) (fun hc6 => ?_) (fun hc6 => ?_)
  · refine q_iconst (v := nI 0) rfl rfl ?_
    refine q_zret rfl rfl (by decide) ?_
    exact ⟨vI (congrArg nI (by omega)), rfl⟩
  · refine q_iconst (v := nI 1) rfl rfl ?_
    refine q_goto rfl ?_
    refine q_zret rfl rfl (by decide) ?_
    exact ⟨vI (congrArg nI (by omega)), rfl⟩
theorem sX9_waysOf {X : XX} {I A : Nat → Nat → Int32} {J B : Nat → Nat → Int64} {F : Nat → Nat} (q n : Nat) (hq : q < 6) (n8 : n ≤ 8) (hz : A 57 q = nI n) (m p : Nat) (hm : m < 256) (hp : p ≤ 12) (js : Nat → Nat) (hj : ∀ k, k < n → js k < 13 ∧ A 58 (40 * q + k) = sI 6 (js k))  : x_ev X xT 2 235 [.ref 51, .int (nI q), .int (nI m), .int (nI p)] (HX I A J B F) (some (.long (lN (sv_wy p js m n)))) (HX I A J B F) := by
  refine q_ev (L := [some (.ref 51), some (.int (nI q)), some (.int (nI m)), some (.int (nI p)), none, none, none, none]) tX9_waysOf (Nat.le_of_ble_eq_true rfl) rfl ?_
  refine q_lconst (v := 1) rfl rfl ?_
  refine q_lstore (L' := [_, _, _, _, _, _, _, _]) rfl rfl ?_
  refine q_iconst (v := nI 0) rfl rfl ?_
  refine q_istore (L' := [_, _, _, _, _, _, _, _]) rfl rfl ?_
  refine q_up (Inv := fun k L h => ∃ z7, L = [some (.ref 51), some (.int (nI q)), some (.int (nI m)), some (.int (nI p)), some (.long (lN (sv_wy p js m k))), none, some (.int (nI k)), z7] ∧ h = HX I A J B F) (n) (fun k L h hk_k hi_k ih_k => ?_) (fun L h hi_k => ?_) (0) _ _ (by omega) (⟨_, rfl, rfl⟩)
  · obtain ⟨z7, rfl, rfl⟩ := hi_k
    have ht := sv_t_lt m k
    have hj9 := (hj k hk_k).1
    refine q_iload rfl rfl ?_
    refine q_aload_n rfl rfl ?_
    refine q_getfield rfl hx_51 rfl ?_
    refine q_iload_n rfl rfl ?_
    refine q_iald rfl (by decide) hx_57 (by omega) (by decide) (hz) ?_
    refine q_icmp_geN rfl (by omega) (by omega) (fun hcks14 => ?_) (fun hcks14 => ?_)
    · omega
    · refine q_aload_n rfl rfl ?_
      refine q_getfield rfl hx_51 rfl ?_
      refine q_bipush (v := nI 40) rfl rfl ?_
      refine q_iload_n rfl rfl ?_
      refine q_imulN rfl ?_
      refine q_iload rfl rfl ?_
      refine q_iaddN rfl ?_
      refine q_iald rfl (by decide) hx_58 (by omega) (by decide) ((hj k hk_k).2) ?_
      refine q_if_eq rfl (fun hcks29 => ?_) (fun hcks29 => ?_)
      · refine q_iconst (v := nI 0) rfl rfl ?_
        refine q_istore (L' := [_, _, _, _, _, _, _, _]) rfl rfl ?_
        refine q_lload rfl rfl ?_
        refine q_iload rfl rfl ?_
        refine q_if_eqN rfl (by omega) (fun hcks43 => ?_) (fun hcks43 => ?_)
        · refine q_iload_n rfl rfl ?_
          refine q_iload rfl rfl ?_
          refine q_callS2 rfl rfl (Nat.le_of_ble_eq_true rfl) (Nat.le_of_ble_eq_true rfl) (sX9_has m k hm (by omega)) ?_
          refine q_if_eqN rfl (by omega) (fun hcks74 => ?_) (fun hcks74 => ?_)
          · refine q_lconst (v := 1) rfl rfl ?_
            refine q_cj (show _ = lN (sv_wg p (js k) (sv_t m k)) from by unfold sv_wg; first | (rw [if_neg (fun z => hcks29 ((sI6_0 hj9).mpr z)), if_pos (by omega)]; exact nI_l (by omega)) | (rw [if_neg (fun z => hcks29 ((sI6_0 hj9).mpr z)), if_neg (by omega)]; exact nI_l (by omega)) | (rw [if_pos ((sI6_0 hj9).mp hcks29), if_pos (by omega)]; rfl) | (rw [if_pos ((sI6_0 hj9).mp hcks29), if_neg (by omega)]; rfl)) ?_
            refine q_lmul rfl ?_
            refine q_cj (show _ = lN (sv_wy p js m (k + 1)) from lN_mul _ _) ?_
            refine q_lstore (L' := [_, _, _, _, _, _, _, _]) rfl rfl ?_
            refine q_iincN (c := 1) (L' := [_, _, _, _, _, _, _, _]) rfl rfl rfl rfl ?_
            refine q_goto rfl ?_
            exact ih_k _ _ (⟨_, rfl, rfl⟩)
          · refine q_lconst (v := 0) rfl rfl ?_
            refine q_goto rfl ?_
            refine q_cj (show _ = lN (sv_wg p (js k) (sv_t m k)) from by unfold sv_wg; first | (rw [if_neg (fun z => hcks29 ((sI6_0 hj9).mpr z)), if_pos (by omega)]; exact nI_l (by omega)) | (rw [if_neg (fun z => hcks29 ((sI6_0 hj9).mpr z)), if_neg (by omega)]; exact nI_l (by omega)) | (rw [if_pos ((sI6_0 hj9).mp hcks29), if_pos (by omega)]; rfl) | (rw [if_pos ((sI6_0 hj9).mp hcks29), if_neg (by omega)]; rfl)) ?_
            refine q_lmul rfl ?_
            refine q_cj (show _ = lN (sv_wy p js m (k + 1)) from lN_mul _ _) ?_
            refine q_lstore (L' := [_, _, _, _, _, _, _, _]) rfl rfl ?_
            refine q_iincN (c := 1) (L' := [_, _, _, _, _, _, _, _]) rfl rfl rfl rfl ?_
            refine q_goto rfl ?_
            exact ih_k _ _ (⟨_, rfl, rfl⟩)
        · exact absurd hcks43 (by decide)
      · refine q_iconst (v := nI 1) rfl rfl ?_
        refine q_goto rfl ?_
        refine q_istore (L' := [_, _, _, _, _, _, _, _]) rfl rfl ?_
        refine q_lload rfl rfl ?_
        refine q_iload rfl rfl ?_
        refine q_if_eqN rfl (by omega) (fun hcks43 => ?_) (fun hcks43 => ?_)
        · exact absurd hcks43 (by decide)
        · refine q_iload_n rfl rfl ?_
          refine q_iload rfl rfl ?_
          refine q_callS2 rfl rfl (Nat.le_of_ble_eq_true rfl) (Nat.le_of_ble_eq_true rfl) (sX9_has m k hm (by omega)) ?_
          refine q_if_eqN rfl (by omega) (fun hcks52 => ?_) (fun hcks52 => ?_)
          · refine q_bipush (v := nI 12) rfl rfl ?_
            refine q_iload_n rfl rfl ?_
            refine q_isubN rfl (by omega) ?_
            refine q_i2l rfl ?_
            refine q_goto rfl ?_
            refine q_cj (show _ = lN (sv_wg p (js k) (sv_t m k)) from by unfold sv_wg; first | (rw [if_neg (fun z => hcks29 ((sI6_0 hj9).mpr z)), if_pos (by omega)]; exact nI_l (by omega)) | (rw [if_neg (fun z => hcks29 ((sI6_0 hj9).mpr z)), if_neg (by omega)]; exact nI_l (by omega)) | (rw [if_pos ((sI6_0 hj9).mp hcks29), if_pos (by omega)]; rfl) | (rw [if_pos ((sI6_0 hj9).mp hcks29), if_neg (by omega)]; rfl)) ?_
            refine q_lmul rfl ?_
            refine q_cj (show _ = lN (sv_wy p js m (k + 1)) from lN_mul _ _) ?_
            refine q_lstore (L' := [_, _, _, _, _, _, _, _]) rfl rfl ?_
            refine q_iincN (c := 1) (L' := [_, _, _, _, _, _, _, _]) rfl rfl rfl rfl ?_
            refine q_goto rfl ?_
            exact ih_k _ _ (⟨_, rfl, rfl⟩)
          · refine q_iload_n rfl rfl ?_
            refine q_i2l rfl ?_
            refine q_goto rfl ?_
            refine q_cj (show _ = lN (sv_wg p (js k) (sv_t m k)) from by unfold sv_wg; first | (rw [if_neg (fun z => hcks29 ((sI6_0 hj9).mpr z)), if_pos (by omega)]; exact nI_l (by omega)) | (rw [if_neg (fun z => hcks29 ((sI6_0 hj9).mpr z)), if_neg (by omega)]; exact nI_l (by omega)) | (rw [if_pos ((sI6_0 hj9).mp hcks29), if_pos (by omega)]; rfl) | (rw [if_pos ((sI6_0 hj9).mp hcks29), if_neg (by omega)]; rfl)) ?_
            refine q_lmul rfl ?_
            refine q_cj (show _ = lN (sv_wy p js m (k + 1)) from lN_mul _ _) ?_
            refine q_lstore (L' := [_, _, _, _, _, _, _, _]) rfl rfl ?_
            refine q_iincN (c := 1) (L' := [_, _, _, _, _, _, _, _]) rfl rfl rfl rfl ?_
            refine q_goto rfl ?_
            exact ih_k _ _ (⟨_, rfl, rfl⟩)
  · obtain ⟨z7, rfl, rfl⟩ := hi_k
    refine q_iload rfl rfl ?_
    refine q_aload_n rfl rfl ?_
    refine q_getfield rfl hx_51 rfl ?_
    refine q_iload_n rfl rfl ?_
    refine q_iald rfl (by decide) hx_57 (by omega) (by decide) (hz) ?_
    refine q_icmp_geN rfl (by omega) (by omega) (fun hckf14 => ?_) (fun hckf14 => ?_)
    · refine q_lload rfl rfl ?_
      refine q_lret rfl rfl ?_
      exact ⟨rfl, rfl⟩
    · omega
theorem sv_ge_a {s0 : Nat} {js : Nat → Nat} {g : Nat → Nat → Nat} {m k : Nat} (h : sv_ge s0 js g m k = 0) : sv_ge s0 js g m (k + 1) = 0 := if_pos h
theorem sv_ge_b {s0 : Nat} {js : Nat → Nat} {g : Nat → Nat → Nat} {m k : Nat} (h : g k (sv_sl s0 js m (k + 1)) ≤ 0) : sv_ge s0 js g m (k + 1) = 0 := by
  show (if sv_ge s0 js g m k = 0 then 0 else if g k (sv_sl s0 js m (k + 1)) = 0 then 0 else 1) = 0
  rw [if_pos (Nat.le_zero.mp h)]
  split <;> rfl
theorem sv_ge_c {s0 : Nat} {js : Nat → Nat} {g : Nat → Nat → Nat} {m k : Nat} (h : ¬ sv_ge s0 js g m k = 0) (h2 : ¬ g k (sv_sl s0 js m (k + 1)) ≤ 0) : sv_ge s0 js g m (k + 1) = 1 := (if_neg h).trans (if_neg (fun z => h2 (Nat.le_of_eq z)))
set_option maxHeartbeats 1000000 in
theorem sX9_layAsleep {X : XX} {I A : Nat → Nat → Int32} {J B : Nat → Nat → Int64} {F : Nat → Nat} (b : Nat) (hb : b ≤ 5) (eb : I 51 1 = nI b) (mo : Nat) (em : A 52 1 = nI mo) (hmo : mo ≤ 40) (s : Nat) (es : A 52 2 = nI s) (hs : s < 24) (i : Nat) (hi : i < 5) (hl : mLk A) (q n : Nat) (hq : q < 6) (n8 : n ≤ 8) (hz : A 57 q = nI n) (m : Nat) (hm : m < 256) (js : Nat → Nat) (hj : ∀ k, k < n → js k < 13 ∧ A 58 (40 * q + k) = sI 6 (js k))  : x_ev X xT 4 234 [.ref 51, .int (nI i), .int (nI q), .int (nI m)] (HX I A J B F) none (HX (u2 (u2 I 51 31 (nI (sv_ga s js (fun r f => gnN b (mL A i) (nI f) (mo + r)) m n))) 51 32 (nI (sv_ge s js (fun r f => gnN b (mL A i) (nI f) (mo + r)) m n))) A J B F) := by
  refine q_ev (L := [some (.ref 51), some (.int (nI i)), some (.int (nI q)), some (.int (nI m)), none, none, none]) tX9_layAsleep (Nat.le_of_ble_eq_true rfl) rfl ?_
  refine q_aload_n rfl rfl ?_
  refine q_getfield rfl hx_51 rfl ?_
  refine q_iconst (v := nI 2) rfl rfl ?_
  refine q_iald rfl (by decide) hx_52 (by decide) (by decide) ((by exact es)) ?_
  refine q_istore (L' := [_, _, _, _, _, _, _]) rfl rfl ?_
  refine q_aload_n rfl rfl ?_
  refine q_iconst (v := nI 0) rfl rfl ?_
  refine q_putfield rfl hx_51 rfl (Nat.le_of_ble_eq_true rfl) (rfl) (by decide +kernel) ?_
  refine q_heap (hs_51_31 _) ?_
  refine q_aload_n rfl rfl ?_
  refine q_iconst (v := nI 1) rfl rfl ?_
  refine q_putfield rfl hx_51 rfl (Nat.le_of_ble_eq_true rfl) (rfl) (by decide +kernel) ?_
  refine q_heap (hs_51_32 _) ?_
  refine q_iconst (v := nI 0) rfl rfl ?_
  refine q_istore (L' := [_, _, _, _, _, _, _]) rfl rfl ?_
  refine q_up (Inv := fun k L h => ∃ z6, L = [some (.ref 51), some (.int (nI i)), some (.int (nI q)), some (.int (nI m)), some (.int (nI (sv_sl s js m k))), some (.int (nI k)), z6] ∧ h = HX (u2 (u2 I 51 31 (nI (sv_ga s js (fun r f => gnN b (mL A i) (nI f) (mo + r)) m k))) 51 32 (nI (sv_ge s js (fun r f => gnN b (mL A i) (nI f) (mo + r)) m k))) A J B F) (n) (fun k L h hk_k hi_k ih_k => ?_) (fun L h hi_k => ?_) (0) _ _ (by omega) (⟨_, rfl, rfl⟩)
  · obtain ⟨z6, rfl, rfl⟩ := hi_k
    have ht := sv_t_lt m k
    refine q_iload rfl rfl ?_
    refine q_aload_n rfl rfl ?_
    refine q_getfield rfl hx_51 rfl ?_
    refine q_iload_n rfl rfl ?_
    refine q_iald rfl (by decide) hx_57 (by omega) (by decide) ((by exact hz)) ?_
    refine q_icmp_geN rfl (by omega) (by omega) (fun hcks29 => ?_) (fun hcks29 => ?_)
    · omega
    · refine q_iload_n rfl rfl ?_
      refine q_iload rfl rfl ?_
      refine q_callS2 rfl rfl (Nat.le_of_ble_eq_true rfl) (Nat.le_of_ble_eq_true rfl) (sX9_has m k hm (by omega)) ?_
      refine q_if_eqN rfl (by omega) (fun hcks38 => ?_) (fun hcks38 => ?_)
      · refine q_iload rfl rfl ?_
        refine q_aload_n rfl rfl ?_
        refine q_getfield rfl hx_51 rfl ?_
        refine q_bipush (v := nI 40) rfl rfl ?_
        refine q_iload_n rfl rfl ?_
        refine q_imulN rfl ?_
        refine q_iload rfl rfl ?_
        refine q_iaddN rfl ?_
        refine q_iald rfl (by decide) hx_58 (by omega) (by decide) ((hj k hk_k).2) ?_
        refine q_iadd rfl ?_
        refine q_callS1 rfl rfl (Nat.le_of_ble_eq_true rfl) (Nat.le_of_ble_eq_true rfl) (sX9_ring _) ?_
        refine q_cn (show _ = nI (tN (sv_sl s js m k) (js k)) by rw [rdN_t (sv_sl_lt hs m k) (hj k hk_k).1]) ?_
        refine q_cn (show _ = nI (sv_sl s js m (k + 1)) from congrArg nI (by show _ = (if sv_t m k = 1 then _ else _); first | rw [if_pos (by omega)] | rw [if_neg (by omega)])) ?_
        refine q_istore (L' := [_, _, _, _, _, _, _]) rfl rfl ?_
        refine q_aload_n rfl rfl ?_
        refine q_iload_n rfl rfl ?_
        refine q_iload rfl rfl ?_
        refine q_aload_n rfl rfl ?_
        refine q_getfield rfl hx_51 rfl ?_
        refine q_iconst (v := nI 1) rfl rfl ?_
        refine q_iald rfl (by decide) hx_52 (by decide) (by decide) ((by exact em)) ?_
        refine q_iload rfl rfl ?_
        refine q_iaddN rfl ?_
        refine q_callV3 rfl hx_51 (Nat.le_of_ble_eq_true rfl) (Nat.le_of_ble_eq_true rfl) (sX9_got i hi hl b hb (by exact eb) _ _ (by omega)) ?_
        refine q_istore (L' := [_, _, _, _, _, _, _]) rfl rfl ?_
        have hge := sv_ge_le (s0 := s) (js := js) (g := (fun r f => gnN b (mL A i) (nI f) (mo + r))) m k
        have hg9 := gnN_le (b := b) (l := mL A i) (fi := nI (sv_sl s js m (k + 1))) (m := mo + k) (hl i hi).1.2
        refine q_aload_n rfl rfl ?_
        refine q_dupA rfl ?_
        refine q_getI rfl hx_51 rfl ((show u2 (u2 I 51 31 _) 51 32 _ 51 31 = nI (sv_ga s js (fun r f => gnN b (mL A i) (nI f) (mo + r)) m k) from rfl)) ?_
        refine q_iload rfl rfl ?_
        refine q_iaddN rfl ?_
        refine q_putfield rfl hx_51 rfl (Nat.le_of_ble_eq_true rfl) (rfl) (by decide +kernel) ?_
        refine q_heap (hs_51_31 _) ?_
        refine q_aload_n rfl rfl ?_
        refine q_aload_n rfl rfl ?_
        refine q_getI rfl hx_51 rfl ((show u2 (u2 (u2 I 51 31 _) 51 32 (nI (sv_ge s js (fun r f => gnN b (mL A i) (nI f) (mo + r)) m k))) 51 31 _ 51 32 = nI (sv_ge s js (fun r f => gnN b (mL A i) (nI f) (mo + r)) m k) from rfl)) ?_
        refine q_if_eqN rfl (by omega) (fun hcks100 => ?_) (fun hcks100 => ?_)
        · refine q_iconst (v := nI 0) rfl rfl ?_
          refine q_putfield rfl hx_51 rfl (Nat.le_of_ble_eq_true rfl) (rfl) (by decide +kernel) ?_
          refine q_heap (hs_51_32 _) ?_
          refine q_iincN (c := 1) (L' := [_, _, _, _, _, _, _]) rfl rfl rfl rfl ?_
          refine q_goto rfl ?_
          exact ih_k _ _ (⟨_, rfl, by rw [u2_24]; first | (rw [sv_ge_a hcks100]; rfl) | (rw [sv_ge_b hcks105]; rfl) | (rw [sv_ge_c hcks100 hcks105]; rfl)⟩)
        · refine q_iload rfl rfl ?_
          refine q_if_leN rfl (by omega) (fun hcks105 => ?_) (fun hcks105 => ?_)
          · refine q_iconst (v := nI 0) rfl rfl ?_
            refine q_putfield rfl hx_51 rfl (Nat.le_of_ble_eq_true rfl) (rfl) (by decide +kernel) ?_
            refine q_heap (hs_51_32 _) ?_
            refine q_iincN (c := 1) (L' := [_, _, _, _, _, _, _]) rfl rfl rfl rfl ?_
            refine q_goto rfl ?_
            exact ih_k _ _ (⟨_, rfl, by rw [u2_24]; first | (rw [sv_ge_a hcks100]; rfl) | (rw [sv_ge_b hcks105]; rfl) | (rw [sv_ge_c hcks100 hcks105]; rfl)⟩)
          · refine q_iconst (v := nI 1) rfl rfl ?_
            refine q_goto rfl ?_
            refine q_putfield rfl hx_51 rfl (Nat.le_of_ble_eq_true rfl) (rfl) (by decide +kernel) ?_
            refine q_heap (hs_51_32 _) ?_
            refine q_iincN (c := 1) (L' := [_, _, _, _, _, _, _]) rfl rfl rfl rfl ?_
            refine q_goto rfl ?_
            exact ih_k _ _ (⟨_, rfl, by rw [u2_24]; first | (rw [sv_ge_a hcks100]; rfl) | (rw [sv_ge_b hcks105]; rfl) | (rw [sv_ge_c hcks100 hcks105]; rfl)⟩)
      · refine q_iload rfl rfl ?_
        refine q_goto rfl ?_
        refine q_cn (show _ = nI (sv_sl s js m (k + 1)) from congrArg nI (by show _ = (if sv_t m k = 1 then _ else _); first | rw [if_pos (by omega)] | rw [if_neg (by omega)])) ?_
        refine q_istore (L' := [_, _, _, _, _, _, _]) rfl rfl ?_
        refine q_aload_n rfl rfl ?_
        refine q_iload_n rfl rfl ?_
        refine q_iload rfl rfl ?_
        refine q_aload_n rfl rfl ?_
        refine q_getfield rfl hx_51 rfl ?_
        refine q_iconst (v := nI 1) rfl rfl ?_
        refine q_iald rfl (by decide) hx_52 (by decide) (by decide) ((by exact em)) ?_
        refine q_iload rfl rfl ?_
        refine q_iaddN rfl ?_
        refine q_callV3 rfl hx_51 (Nat.le_of_ble_eq_true rfl) (Nat.le_of_ble_eq_true rfl) (sX9_got i hi hl b hb (by exact eb) _ _ (by omega)) ?_
        refine q_istore (L' := [_, _, _, _, _, _, _]) rfl rfl ?_
        have hge := sv_ge_le (s0 := s) (js := js) (g := (fun r f => gnN b (mL A i) (nI f) (mo + r))) m k
        have hg9 := gnN_le (b := b) (l := mL A i) (fi := nI (sv_sl s js m (k + 1))) (m := mo + k) (hl i hi).1.2
        refine q_aload_n rfl rfl ?_
        refine q_dupA rfl ?_
        refine q_getI rfl hx_51 rfl ((show u2 (u2 I 51 31 _) 51 32 _ 51 31 = nI (sv_ga s js (fun r f => gnN b (mL A i) (nI f) (mo + r)) m k) from rfl)) ?_
        refine q_iload rfl rfl ?_
        refine q_iaddN rfl ?_
        refine q_putfield rfl hx_51 rfl (Nat.le_of_ble_eq_true rfl) (rfl) (by decide +kernel) ?_
        refine q_heap (hs_51_31 _) ?_
        refine q_aload_n rfl rfl ?_
        refine q_aload_n rfl rfl ?_
        refine q_getI rfl hx_51 rfl ((show u2 (u2 (u2 I 51 31 _) 51 32 (nI (sv_ge s js (fun r f => gnN b (mL A i) (nI f) (mo + r)) m k))) 51 31 _ 51 32 = nI (sv_ge s js (fun r f => gnN b (mL A i) (nI f) (mo + r)) m k) from rfl)) ?_
        refine q_if_eqN rfl (by omega) (fun hcks100 => ?_) (fun hcks100 => ?_)
        · refine q_iconst (v := nI 0) rfl rfl ?_
          refine q_putfield rfl hx_51 rfl (Nat.le_of_ble_eq_true rfl) (rfl) (by decide +kernel) ?_
          refine q_heap (hs_51_32 _) ?_
          refine q_iincN (c := 1) (L' := [_, _, _, _, _, _, _]) rfl rfl rfl rfl ?_
          refine q_goto rfl ?_
          exact ih_k _ _ (⟨_, rfl, by rw [u2_24]; first | (rw [sv_ge_a hcks100]; rfl) | (rw [sv_ge_b hcks105]; rfl) | (rw [sv_ge_c hcks100 hcks105]; rfl)⟩)
        · refine q_iload rfl rfl ?_
          refine q_if_leN rfl (by omega) (fun hcks105 => ?_) (fun hcks105 => ?_)
          · refine q_iconst (v := nI 0) rfl rfl ?_
            refine q_putfield rfl hx_51 rfl (Nat.le_of_ble_eq_true rfl) (rfl) (by decide +kernel) ?_
            refine q_heap (hs_51_32 _) ?_
            refine q_iincN (c := 1) (L' := [_, _, _, _, _, _, _]) rfl rfl rfl rfl ?_
            refine q_goto rfl ?_
            exact ih_k _ _ (⟨_, rfl, by rw [u2_24]; first | (rw [sv_ge_a hcks100]; rfl) | (rw [sv_ge_b hcks105]; rfl) | (rw [sv_ge_c hcks100 hcks105]; rfl)⟩)
          · refine q_iconst (v := nI 1) rfl rfl ?_
            refine q_goto rfl ?_
            refine q_putfield rfl hx_51 rfl (Nat.le_of_ble_eq_true rfl) (rfl) (by decide +kernel) ?_
            refine q_heap (hs_51_32 _) ?_
            refine q_iincN (c := 1) (L' := [_, _, _, _, _, _, _]) rfl rfl rfl rfl ?_
            refine q_goto rfl ?_
            exact ih_k _ _ (⟨_, rfl, by rw [u2_24]; first | (rw [sv_ge_a hcks100]; rfl) | (rw [sv_ge_b hcks105]; rfl) | (rw [sv_ge_c hcks100 hcks105]; rfl)⟩)
  · obtain ⟨z6, rfl, rfl⟩ := hi_k
    refine q_iload rfl rfl ?_
    refine q_aload_n rfl rfl ?_
    refine q_getfield rfl hx_51 rfl ?_
    refine q_iload_n rfl rfl ?_
    refine q_iald rfl (by decide) hx_57 (by omega) (by decide) ((by exact hz)) ?_
    refine q_icmp_geN rfl (by omega) (by omega) (fun hckf29 => ?_) (fun hckf29 => ?_)
    · refine q_vret rfl rfl ?_
      exact ⟨rfl, rfl⟩
    · omega
theorem gcd_pos2 {u l : Nat} (hl : 0 < l) (h : l < 2 ^ 63) : 0 < Nat.gcd u l ∧ Nat.gcd u l < 2 ^ 63 := by
  rw [Nat.gcd_comm]
  exact eu_pos u hl h
theorem sX9_tellParts {X : XX} {I A : Nat → Nat → Int32} {J B : Nat → Nat → Int64} {F : Nat → Nat} (u l : Nat) (hu : u < 2 ^ 63) (hl : l < 2 ^ 63) (hl0 : 0 < l) : x_ev X xT 1 233 [.ref 51, .long (lN u), .long (lN l)] (HX I A J B F) (some (.int (nI 1))) (HX I A (uj (uj J 51 13 (lN (u / Nat.gcd u l))) 51 14 (lN (l / Nat.gcd u l))) B F) := by
  obtain ⟨hg0, hg1⟩ := gcd_pos2 (u := u) hl0 hl
  refine q_ev (L := [some (.ref 51), some (.long (lN u)), none, some (.long (lN l)), none, none, none, none, none, none, none]) tX9_tellParts (Nat.le_of_ble_eq_true rfl) rfl ?_
  refine q_lload_n rfl rfl ?_
  refine q_lstore (L' := [_, _, _, _, _, _, _, _, _, _, _]) rfl rfl ?_
  refine q_lload_n rfl rfl ?_
  refine q_lstore (L' := [_, _, _, _, _, _, _, _, _, _, _]) rfl rfl ?_
  refine q_dn (Inv := fun k L h => ∃ x y z9, L = [some (.ref 51), some (.long (lN u)), none, some (.long (lN l)), none, some (.long (lN x)), none, some (.long (lN y)), none, z9, none] ∧ h = HX I A J B F ∧ x < 2 ^ 63 ∧ y < 2 ^ 63 ∧ Nat.gcd x y = Nat.gcd u l ∧ y ≤ k) (l) (fun k L h hk_k hi_k ih_k => ?_) (fun L h hi_k => ?_) (l) _ _ (by omega) (⟨u, l, _, rfl, rfl, hu, hl, rfl, Nat.le_refl _⟩)
  · obtain ⟨x, y, z9, rfl, rfl, hx, hy, hg, hyk⟩ := hi_k
    refine q_lload rfl rfl ?_
    refine q_lconst (v := 0) rfl rfl ?_
    refine q_lcmp rfl ?_
    refine q_if_eq rfl (fun hcks10 => ?_) (fun hcks10 => ?_)
    · obtain rfl : x = Nat.gcd u l := by rw [← hg, (lN_inj0 hy).mp ((lg_cmp_eq _ _).mp hcks10), Nat.gcd_zero_right]
      refine q_aload_n rfl rfl ?_
      refine q_lload_n rfl rfl ?_
      refine q_lload rfl rfl ?_
      refine q_ldiv rfl (fun z => absurd ((lN_inj0 hg1).mp z) (Nat.ne_of_gt hg0)) ?_
      refine q_cj (pk_lDiv hu hg0 hg1) ?_
      refine q_putfield rfl hx_51 rfl (Nat.le_of_ble_eq_true rfl) (rfl) (by decide +kernel) ?_
      refine q_heap (hs_51_13 _) ?_
      refine q_aload_n rfl rfl ?_
      refine q_lload_n rfl rfl ?_
      refine q_lload rfl rfl ?_
      refine q_ldiv rfl (fun z => absurd ((lN_inj0 hg1).mp z) (Nat.ne_of_gt hg0)) ?_
      refine q_cj (pk_lDiv hl hg0 hg1) ?_
      refine q_putfield rfl hx_51 rfl (Nat.le_of_ble_eq_true rfl) (rfl) (by decide +kernel) ?_
      refine q_heap (hs_51_14 _) ?_
      refine q_iconst (v := nI 1) rfl rfl ?_
      refine q_iret rfl rfl ?_
      exact ⟨rfl, rfl⟩
    · refine q_lload rfl rfl ?_
      refine q_lload rfl rfl ?_
      have hy0 : ¬ y = 0 := fun z => hcks10 ((lg_cmp_eq _ _).mpr (by rw [z]; rfl))
      refine q_lrem rfl (fun z => hy0 ((lN_inj0 hy).mp z)) ?_
      refine q_cj (pk_lRem hx (Nat.pos_of_ne_zero hy0) hy) ?_
      refine q_lstore (L' := [_, _, _, _, _, _, _, _, _, _, _]) rfl rfl ?_
      refine q_lload rfl rfl ?_
      refine q_lstore (L' := [_, _, _, _, _, _, _, _, _, _, _]) rfl rfl ?_
      refine q_lload rfl rfl ?_
      refine q_lstore (L' := [_, _, _, _, _, _, _, _, _, _, _]) rfl rfl ?_
      refine q_goto rfl ?_
      exact ih_k _ _ (⟨y, x % y, _, rfl, rfl, hy, Nat.lt_of_le_of_lt (Nat.mod_le x y) hx, (eu_gcd x y).trans hg, by have := Nat.mod_lt x (Nat.pos_of_ne_zero hy0); omega⟩)
  · obtain ⟨x, y, z9, rfl, rfl, hx, hy, hg, hyk⟩ := hi_k
    refine q_lload rfl rfl ?_
    refine q_lconst (v := 0) rfl rfl ?_
    refine q_lcmp rfl ?_
    refine q_if_eq rfl (fun hckf10 => ?_) (fun hckf10 => ?_)
    · obtain rfl : x = Nat.gcd u l := by rw [← hg, show y = 0 by omega, Nat.gcd_zero_right]
      refine q_aload_n rfl rfl ?_
      refine q_lload_n rfl rfl ?_
      refine q_lload rfl rfl ?_
      refine q_ldiv rfl (fun z => absurd ((lN_inj0 hg1).mp z) (Nat.ne_of_gt hg0)) ?_
      refine q_cj (pk_lDiv hu hg0 hg1) ?_
      refine q_putfield rfl hx_51 rfl (Nat.le_of_ble_eq_true rfl) (rfl) (by decide +kernel) ?_
      refine q_heap (hs_51_13 _) ?_
      refine q_aload_n rfl rfl ?_
      refine q_lload_n rfl rfl ?_
      refine q_lload rfl rfl ?_
      refine q_ldiv rfl (fun z => absurd ((lN_inj0 hg1).mp z) (Nat.ne_of_gt hg0)) ?_
      refine q_cj (pk_lDiv hl hg0 hg1) ?_
      refine q_putfield rfl hx_51 rfl (Nat.le_of_ble_eq_true rfl) (rfl) (by decide +kernel) ?_
      refine q_heap (hs_51_14 _) ?_
      refine q_iconst (v := nI 1) rfl rfl ?_
      refine q_iret rfl rfl ?_
      exact ⟨rfl, rfl⟩
    · exact absurd ((lg_cmp_eq _ _).mpr (by rw [show y = 0 by omega]; rfl)) hckf10
set_option maxHeartbeats 1000000 in
theorem sX9_tellAsleep {X : XX} {I A : Nat → Nat → Int32} {J B : Nat → Nat → Int64} {F : Nat → Nat} (b : Nat) (hb : b ≤ 5) (eb : I 51 1 = nI b) (mo : Nat) (em : A 52 1 = nI mo) (hmo : mo ≤ 40) (s : Nat) (es : A 52 2 = nI s) (hs : s < 24) (i : Nat) (hi : i < 5) (hl : mLk A) (q n : Nat) (hq : q < 6) (n8 : n ≤ 8) (hz : A 57 q = nI n) (N : Nat) (hN : 2 ^ n = N) (hN2 : N ≤ 256) (p e : Nat) (hp : p ≤ 12) (he : e ≤ 1) (js : Nat → Nat) (hj : ∀ k, k < n → js k < 13 ∧ A 58 (40 * q + k) = sI 6 (js k)) (hu : (nsum (fun x => sv_tm s p e js (fun r f => gnN b (mL A i) (nI f) (mo + r)) x n) N) < 2 ^ 63) (hlw : (nsum (fun x => sv_wy p js x n) N) < 2 ^ 63) (hl0 : 0 < (nsum (fun x => sv_wy p js x n) N))  : ∃ x1 x2, x_ev X xT 5 236 [.ref 51, .int (nI i), .int (nI q), .int (nI p), .int (nI e)] (HX I A J B F) (some (.int (nI 1))) (HX (u2 (u2 I 51 31 x1) 51 32 x2) A (uj (uj J 51 13 (lN ((nsum (fun x => sv_tm s p e js (fun r f => gnN b (mL A i) (nI f) (mo + r)) x n) N) / Nat.gcd (nsum (fun x => sv_tm s p e js (fun r f => gnN b (mL A i) (nI f) (mo + r)) x n) N) (nsum (fun x => sv_wy p js x n) N)))) 51 14 (lN ((nsum (fun x => sv_wy p js x n) N) / Nat.gcd (nsum (fun x => sv_tm s p e js (fun r f => gnN b (mL A i) (nI f) (mo + r)) x n) N) (nsum (fun x => sv_wy p js x n) N)))) B F) ∧ True := by
  obtain ⟨r_, h_, he_, x1, x2, hr_, hh_, hf_⟩ := q_evx (X := X) (d := 4) (as := [.ref 51, .int (nI i), .int (nI q), .int (nI p), .int (nI e)]) (h := (HX I A J B F)) (P := fun r_ h_ => ∃ x1 x2, r_ = (some (.int (nI 1))) ∧ h_ = (HX (u2 (u2 I 51 31 x1) 51 32 x2) A (uj (uj J 51 13 (lN ((nsum (fun x => sv_tm s p e js (fun r f => gnN b (mL A i) (nI f) (mo + r)) x n) N) / Nat.gcd (nsum (fun x => sv_tm s p e js (fun r f => gnN b (mL A i) (nI f) (mo + r)) x n) N) (nsum (fun x => sv_wy p js x n) N)))) 51 14 (lN ((nsum (fun x => sv_wy p js x n) N) / Nat.gcd (nsum (fun x => sv_tm s p e js (fun r f => gnN b (mL A i) (nI f) (mo + r)) x n) N) (nsum (fun x => sv_wy p js x n) N)))) B F) ∧ True) (L := [some (.ref 51), some (.int (nI i)), some (.int (nI q)), some (.int (nI p)), some (.int (nI e)), none, none, none, none, none, none, none]) tX9_tellAsleep (Nat.le_of_ble_eq_true rfl) rfl (by
    refine q_lconst (v := 0) rfl rfl ?_
    refine q_lstore (L' := [_, _, _, _, _, _, _, _, _, _, _, _]) rfl rfl ?_
    refine q_lconst (v := 0) rfl rfl ?_
    refine q_lstore (L' := [_, _, _, _, _, _, _, _, _, _, _, _]) rfl rfl ?_
    refine q_iconst (v := nI 0) rfl rfl ?_
    refine q_istore (L' := [_, _, _, _, _, _, _, _, _, _, _, _]) rfl rfl ?_
    refine q_up (Inv := fun x L h => ∃ x1 x2 z10, L = [some (.ref 51), some (.int (nI i)), some (.int (nI q)), some (.int (nI p)), some (.int (nI e)), some (.long (lN (nsum (fun x => sv_tm s p e js (fun r f => gnN b (mL A i) (nI f) (mo + r)) x n) x))), none, some (.long (lN (nsum (fun x => sv_wy p js x n) x))), none, some (.int (nI x)), z10, none] ∧ h = HX (u2 (u2 I 51 31 x1) 51 32 x2) A J B F) (N) (fun x L h hk_x hi_x ih_x => ?_) (fun L h hi_x => ?_) (0) _ _ (by omega) (⟨_, _, _, rfl, by rw [u2_20]⟩)
    · obtain ⟨x1, x2, z10, rfl, rfl⟩ := hi_x
      refine q_iload rfl rfl ?_
      refine q_iconst (v := nI 1) rfl rfl ?_
      refine q_aload_n rfl rfl ?_
      refine q_getfield rfl hx_51 rfl ?_
      refine q_iload_n rfl rfl ?_
      refine q_iald rfl (by decide) hx_57 (by omega) (by decide) ((by exact hz)) ?_
      refine q_ishl rfl ?_
      refine q_cn ((sv_shl n n8).trans (congrArg nI hN)) ?_
      refine q_icmp_geN rfl (by omega) (by omega) (fun hcxs19 => ?_) (fun hcxs19 => ?_)
      · omega
      · refine q_aload_n rfl rfl ?_
        refine q_iload_n rfl rfl ?_
        refine q_iload rfl rfl ?_
        refine q_iload_n rfl rfl ?_
        refine q_callV3 rfl hx_51 (Nat.le_of_ble_eq_true rfl) (Nat.le_of_ble_eq_true rfl) (sX9_waysOf q n hq n8 hz x p (by omega) hp js hj) ?_
        refine q_lstore (L' := [_, _, _, _, _, _, _, _, _, _, _, _]) rfl rfl ?_
        refine q_aload_n rfl rfl ?_
        refine q_iload_n rfl rfl ?_
        refine q_iload_n rfl rfl ?_
        refine q_iload rfl rfl ?_
        refine q_callV3 rfl hx_51 (Nat.le_of_ble_eq_true rfl) (Nat.le_of_ble_eq_true rfl) (sX9_layAsleep b hb (by exact eb) mo em hmo s es hs i hi hl q n hq n8 hz x (by omega) js hj) ?_
        rw [u2_24]
        have hge := sv_ge_le (s0 := s) (js := js) (g := (fun r f => gnN b (mL A i) (nI f) (mo + r))) x n
        have hga := sv_ga_le (s0 := s) (js := js) (g := (fun r f => gnN b (mL A i) (nI f) (mo + r))) (fun k f => gnN_le (hl i hi).1.2) x n
        refine q_lload rfl rfl ?_
        refine q_iload rfl rfl ?_
        refine q_if_eqN rfl (by omega) (fun hcxs44 => ?_) (fun hcxs44 => ?_)
        · refine q_lload rfl rfl ?_
          refine q_aload_n rfl rfl ?_
          refine q_getI rfl hx_51 rfl ((show u2 (u2 I 51 31 _) 51 32 _ 51 31 = nI (sv_ga s js (fun r f => gnN b (mL A i) (nI f) (mo + r)) x n) from rfl)) ?_
          refine q_i2l rfl ?_
          refine q_cj (nI_l (by omega)) ?_
          refine q_lmul rfl ?_
          refine q_cj (show _ = lN (sv_tm s p e js (fun r f => gnN b (mL A i) (nI f) (mo + r)) x n) from by first | (rw [show sv_tm s p e js (fun r f => gnN b (mL A i) (nI f) (mo + r)) x n = sv_wy p js x n * sv_ga s js (fun r f => gnN b (mL A i) (nI f) (mo + r)) x n from if_pos (by omega)]; exact lN_mul _ _) | (exact congrArg lN ((if_neg (by omega)).trans (if_neg (by omega))).symm) | (exact congrArg lN ((if_neg (by omega)).trans (if_pos (by omega))).symm)) ?_
          refine q_ladd rfl ?_
          refine q_cj (show _ = lN (nsum (fun x => sv_tm s p e js (fun r f => gnN b (mL A i) (nI f) (mo + r)) x n) (x + 1)) from lN_add _ _) ?_
          refine q_lstore (L' := [_, _, _, _, _, _, _, _, _, _, _, _]) rfl rfl ?_
          refine q_lload rfl rfl ?_
          refine q_lload rfl rfl ?_
          refine q_ladd rfl ?_
          refine q_cj (show _ = lN (nsum (fun x => sv_wy p js x n) (x + 1)) from lN_add _ _) ?_
          refine q_lstore (L' := [_, _, _, _, _, _, _, _, _, _, _, _]) rfl rfl ?_
          refine q_iincN (c := 1) (L' := [_, _, _, _, _, _, _, _, _, _, _, _]) rfl rfl rfl rfl ?_
          refine q_goto rfl ?_
          exact ih_x _ _ (⟨_, _, _, rfl, rfl⟩)
        · refine q_aload_n rfl rfl ?_
          refine q_getI rfl hx_51 rfl ((show u2 (u2 I 51 31 _) 51 32 _ 51 32 = nI (sv_ge s js (fun r f => gnN b (mL A i) (nI f) (mo + r)) x n) from rfl)) ?_
          refine q_if_eqN rfl (by omega) (fun hcxs51 => ?_) (fun hcxs51 => ?_)
          · refine q_lconst (v := 0) rfl rfl ?_
            refine q_goto rfl ?_
            refine q_cj (show _ = lN (sv_tm s p e js (fun r f => gnN b (mL A i) (nI f) (mo + r)) x n) from by first | (rw [show sv_tm s p e js (fun r f => gnN b (mL A i) (nI f) (mo + r)) x n = sv_wy p js x n * sv_ga s js (fun r f => gnN b (mL A i) (nI f) (mo + r)) x n from if_pos (by omega)]; exact lN_mul _ _) | (exact congrArg lN ((if_neg (by omega)).trans (if_neg (by omega))).symm) | (exact congrArg lN ((if_neg (by omega)).trans (if_pos (by omega))).symm)) ?_
            refine q_ladd rfl ?_
            refine q_cj (show _ = lN (nsum (fun x => sv_tm s p e js (fun r f => gnN b (mL A i) (nI f) (mo + r)) x n) (x + 1)) from lN_add _ _) ?_
            refine q_lstore (L' := [_, _, _, _, _, _, _, _, _, _, _, _]) rfl rfl ?_
            refine q_lload rfl rfl ?_
            refine q_lload rfl rfl ?_
            refine q_ladd rfl ?_
            refine q_cj (show _ = lN (nsum (fun x => sv_wy p js x n) (x + 1)) from lN_add _ _) ?_
            refine q_lstore (L' := [_, _, _, _, _, _, _, _, _, _, _, _]) rfl rfl ?_
            refine q_iincN (c := 1) (L' := [_, _, _, _, _, _, _, _, _, _, _, _]) rfl rfl rfl rfl ?_
            refine q_goto rfl ?_
            exact ih_x _ _ (⟨_, _, _, rfl, rfl⟩)
          · refine q_lload rfl rfl ?_
            refine q_goto rfl ?_
            refine q_cj (show _ = lN (sv_tm s p e js (fun r f => gnN b (mL A i) (nI f) (mo + r)) x n) from by first | (rw [show sv_tm s p e js (fun r f => gnN b (mL A i) (nI f) (mo + r)) x n = sv_wy p js x n * sv_ga s js (fun r f => gnN b (mL A i) (nI f) (mo + r)) x n from if_pos (by omega)]; exact lN_mul _ _) | (exact congrArg lN ((if_neg (by omega)).trans (if_neg (by omega))).symm) | (exact congrArg lN ((if_neg (by omega)).trans (if_pos (by omega))).symm)) ?_
            refine q_ladd rfl ?_
            refine q_cj (show _ = lN (nsum (fun x => sv_tm s p e js (fun r f => gnN b (mL A i) (nI f) (mo + r)) x n) (x + 1)) from lN_add _ _) ?_
            refine q_lstore (L' := [_, _, _, _, _, _, _, _, _, _, _, _]) rfl rfl ?_
            refine q_lload rfl rfl ?_
            refine q_lload rfl rfl ?_
            refine q_ladd rfl ?_
            refine q_cj (show _ = lN (nsum (fun x => sv_wy p js x n) (x + 1)) from lN_add _ _) ?_
            refine q_lstore (L' := [_, _, _, _, _, _, _, _, _, _, _, _]) rfl rfl ?_
            refine q_iincN (c := 1) (L' := [_, _, _, _, _, _, _, _, _, _, _, _]) rfl rfl rfl rfl ?_
            refine q_goto rfl ?_
            exact ih_x _ _ (⟨_, _, _, rfl, rfl⟩)
    · obtain ⟨x1, x2, z10, rfl, rfl⟩ := hi_x
      refine q_iload rfl rfl ?_
      refine q_iconst (v := nI 1) rfl rfl ?_
      refine q_aload_n rfl rfl ?_
      refine q_getfield rfl hx_51 rfl ?_
      refine q_iload_n rfl rfl ?_
      refine q_iald rfl (by decide) hx_57 (by omega) (by decide) ((by exact hz)) ?_
      refine q_ishl rfl ?_
      refine q_cn ((sv_shl n n8).trans (congrArg nI hN)) ?_
      refine q_icmp_geN rfl (by omega) (by omega) (fun hcxf19 => ?_) (fun hcxf19 => ?_)
      · refine q_aload_n rfl rfl ?_
        refine q_lload rfl rfl ?_
        refine q_lload rfl rfl ?_
        refine q_callV2 rfl hx_51 (Nat.le_of_ble_eq_true rfl) (Nat.le_of_ble_eq_true rfl) (sX9_tellParts (nsum (fun x => sv_tm s p e js (fun r f => gnN b (mL A i) (nI f) (mo + r)) x n) N) (nsum (fun x => sv_wy p js x n) N) hu hlw hl0) ?_
        refine q_iret rfl rfl ?_
        exact ⟨x1, x2, rfl, rfl, trivial⟩
      · omega)
  subst hr_
  subst hh_
  exact ⟨x1, x2, he_, hf_⟩
theorem m_mid_b {X : XX} {I A : Nat → Nat → Int32} {J B : Nat → Nat → Int64} {F : Nat → Nat} (ln : Nat) (hln : ln ≤ 5) (eln : I 51 3 = nI ln) (x : Int32) (hx : x < 0 ∨ nI ln ≤ x) (y z : Int32) : x_ev X xT 6 237 [.ref 51, .int x, .int y, .int z] (HX I A J B F) (some (.int (-1))) (HX I A J B F) := by
  refine q_ev (L := [some (.ref 51), some (.int x), some (.int y), some (.int z), none]) tX9_mid (Nat.le_of_ble_eq_true rfl) rfl ?_
  refine q_aload_n rfl rfl ?_
  refine q_iload_n rfl rfl ?_
  refine q_callV1 rfl hx_51 (Nat.le_of_ble_eq_true rfl) (Nat.le_of_ble_eq_true rfl) (sX9_isLight_0 x ln hln eln hx) ?_
  refine q_if_eqN rfl (by omega) (fun hc5 => ?_) (fun hc5 => ?_)
  · refine q_iconst (v := (-1)) rfl rfl ?_
    refine q_iret rfl rfl ?_
    exact ⟨rfl, rfl⟩
  · exact absurd hc5 (by decide)
theorem m_mid_ob {X : XX} {I A : Nat → Nat → Int32} {J B : Nat → Nat → Int64} {F : Nat → Nat} (ln : Nat) (hln : ln ≤ 5) (eln : I 51 3 = nI ln) (k : Nat) (hk : k < ln) (y : Int32) (hy : y < 0 ∨ 6 ≤ y) (z : Int32) : x_ev X xT 6 237 [.ref 51, .int (nI k), .int y, .int z] (HX I A J B F) (some (.int (-1))) (HX I A J B F) := by
  refine q_ev (L := [some (.ref 51), some (.int (nI k)), some (.int y), some (.int z), none]) tX9_mid (Nat.le_of_ble_eq_true rfl) rfl ?_
  refine q_aload_n rfl rfl ?_
  refine q_iload_n rfl rfl ?_
  refine q_callV1 rfl hx_51 (Nat.le_of_ble_eq_true rfl) (Nat.le_of_ble_eq_true rfl) (sX9_isLight_1 k ln hk hln eln) ?_
  refine q_if_eqN rfl (by omega) (fun hc5 => ?_) (fun hc5 => ?_)
  · exact absurd hc5 (by decide)
  · refine q_iload_n rfl rfl ?_
    refine q_callS1 rfl rfl (Nat.le_of_ble_eq_true rfl) (Nat.le_of_ble_eq_true rfl) (sX9_isRow_0 y hy) ?_
    refine q_if_eqN rfl (by omega) (fun hc12 => ?_) (fun hc12 => ?_)
    · refine q_iconst (v := (-1)) rfl rfl ?_
      refine q_iret rfl rfl ?_
      exact ⟨rfl, rfl⟩
    · exact absurd hc12 (by decide)
theorem m_mid_p {X : XX} {I A : Nat → Nat → Int32} {J B : Nat → Nat → Int64} {F : Nat → Nat} (ln : Nat) (hln : ln ≤ 5) (eln : I 51 3 = nI ln) (k : Nat) (hk : k < ln) (q : Nat) (hr : q < 6) (z : Int32) (hzb : z < nI 0 ∨ nI 12 < z) : x_ev X xT 6 237 [.ref 51, .int (nI k), .int (nI q), .int z] (HX I A J B F) (some (.int (-1))) (HX I A J B F) := by
  refine q_ev (L := [some (.ref 51), some (.int (nI k)), some (.int (nI q)), some (.int z), none]) tX9_mid (Nat.le_of_ble_eq_true rfl) rfl ?_
  refine q_aload_n rfl rfl ?_
  refine q_iload_n rfl rfl ?_
  refine q_callV1 rfl hx_51 (Nat.le_of_ble_eq_true rfl) (Nat.le_of_ble_eq_true rfl) (sX9_isLight_1 k ln hk hln eln) ?_
  refine q_if_eqN rfl (by omega) (fun hc5 => ?_) (fun hc5 => ?_)
  · exact absurd hc5 (by decide)
  · refine q_iload_n rfl rfl ?_
    refine q_callS1 rfl rfl (Nat.le_of_ble_eq_true rfl) (Nat.le_of_ble_eq_true rfl) (sX9_isRow_1 q hr) ?_
    refine q_if_eqN rfl (by omega) (fun hc12 => ?_) (fun hc12 => ?_)
    · exact absurd hc12 (by decide)
    · refine q_iload_n rfl rfl ?_
      refine q_i2l rfl ?_
      refine q_lconst (v := 0) rfl rfl ?_
      refine q_ldc2_w (v := 12) rfl rfl ?_
      refine q_callS3 rfl rfl (Nat.le_of_ble_eq_true rfl) (Nat.le_of_ble_eq_true rfl) (sX9_in _ _ _) ?_
      refine q_cn (f_in_0 (lo := nI 0) (hi := nI 12) rfl rfl hzb) ?_
      refine q_if_neN rfl (by omega) (fun hc24 => ?_) (fun hc24 => ?_)
      · exact absurd hc24 (by decide)
      · refine q_iconst (v := (-1)) rfl rfl ?_
        refine q_iret rfl rfl ?_
        exact ⟨rfl, rfl⟩
theorem m_mid_M {X : XX} {I A : Nat → Nat → Int32} {J B : Nat → Nat → Int64} {F : Nat → Nat} (ln : Nat) (hln : ln ≤ 5) (eln : I 51 3 = nI ln) (k : Nat) (hk : k < ln) (q : Nat) (hr : q < 6) (hz : A 57 q = -1) (p : Nat) (hp : p ≤ 12)  : x_ev X xT 6 237 [.ref 51, .int (nI k), .int (nI q), .int (nI p)] (HX I A J B F) (some (.int (-3))) (HX (u2 I 51 15 (nI 1)) (f_cnt A 61 1) J B F) := by
  refine q_ev (L := [some (.ref 51), some (.int (nI k)), some (.int (nI q)), some (.int (nI p)), none]) tX9_mid (Nat.le_of_ble_eq_true rfl) rfl ?_
  refine q_aload_n rfl rfl ?_
  refine q_iload_n rfl rfl ?_
  refine q_callV1 rfl hx_51 (Nat.le_of_ble_eq_true rfl) (Nat.le_of_ble_eq_true rfl) (sX9_isLight_1 k ln hk hln eln) ?_
  refine q_if_eqN rfl (by omega) (fun hc5 => ?_) (fun hc5 => ?_)
  · exact absurd hc5 (by decide)
  · refine q_iload_n rfl rfl ?_
    refine q_callS1 rfl rfl (Nat.le_of_ble_eq_true rfl) (Nat.le_of_ble_eq_true rfl) (sX9_isRow_1 q hr) ?_
    refine q_if_eqN rfl (by omega) (fun hc12 => ?_) (fun hc12 => ?_)
    · exact absurd hc12 (by decide)
    · refine q_iload_n rfl rfl ?_
      refine q_i2l rfl ?_
      refine q_lconst (v := 0) rfl rfl ?_
      refine q_ldc2_w (v := 12) rfl rfl ?_
      refine q_callS3 rfl rfl (Nat.le_of_ble_eq_true rfl) (Nat.le_of_ble_eq_true rfl) (sX9_in _ _ _) ?_
      refine q_cn (f_in_1 (lo := nI 0) (hi := nI 12) rfl rfl (nI_nlt (by omega) (by omega)) (nI_nlt (by omega) (by omega))) ?_
      refine q_if_neN rfl (by omega) (fun hc24 => ?_) (fun hc24 => ?_)
      · refine q_aload_n rfl rfl ?_
        refine q_iload_n rfl rfl ?_
        refine q_callV1 rfl hx_51 (Nat.le_of_ble_eq_true rfl) (Nat.le_of_ble_eq_true rfl) (sX9_noTurns_M q hr hz) ?_
        refine q_istore (L' := [_, _, _, _, _]) rfl rfl ?_
        refine q_iload rfl rfl ?_
        refine q_if_eq rfl (fun hc38 => ?_) (fun hc38 => ?_)
        · exact absurd hc38 (by decide)
        · refine q_iload rfl rfl ?_
          refine q_goto rfl ?_
          refine q_iret rfl rfl ?_
          exact ⟨rfl, rfl⟩
      · exact absurd hc24 (by decide)
theorem m_mid_S {X : XX} {I A : Nat → Nat → Int32} {J B : Nat → Nat → Int64} {F : Nat → Nat} (ln : Nat) (hln : ln ≤ 5) (eln : I 51 3 = nI ln) (k : Nat) (hk : k < ln) (q : Nat) (hr : q < 6) (n : Nat) (hn : n ≤ 40) (hz : A 57 q = nI n) (hn8 : n < 1 ∨ 8 < n) (p : Nat) (hp : p ≤ 12)  : x_ev X xT 6 237 [.ref 51, .int (nI k), .int (nI q), .int (nI p)] (HX I A J B F) (some (.int (-3))) (HX (u2 I 51 15 (nI 5)) (f_cnt A 61 5) J B F) := by
  refine q_ev (L := [some (.ref 51), some (.int (nI k)), some (.int (nI q)), some (.int (nI p)), none]) tX9_mid (Nat.le_of_ble_eq_true rfl) rfl ?_
  refine q_aload_n rfl rfl ?_
  refine q_iload_n rfl rfl ?_
  refine q_callV1 rfl hx_51 (Nat.le_of_ble_eq_true rfl) (Nat.le_of_ble_eq_true rfl) (sX9_isLight_1 k ln hk hln eln) ?_
  refine q_if_eqN rfl (by omega) (fun hc5 => ?_) (fun hc5 => ?_)
  · exact absurd hc5 (by decide)
  · refine q_iload_n rfl rfl ?_
    refine q_callS1 rfl rfl (Nat.le_of_ble_eq_true rfl) (Nat.le_of_ble_eq_true rfl) (sX9_isRow_1 q hr) ?_
    refine q_if_eqN rfl (by omega) (fun hc12 => ?_) (fun hc12 => ?_)
    · exact absurd hc12 (by decide)
    · refine q_iload_n rfl rfl ?_
      refine q_i2l rfl ?_
      refine q_lconst (v := 0) rfl rfl ?_
      refine q_ldc2_w (v := 12) rfl rfl ?_
      refine q_callS3 rfl rfl (Nat.le_of_ble_eq_true rfl) (Nat.le_of_ble_eq_true rfl) (sX9_in _ _ _) ?_
      refine q_cn (f_in_1 (lo := nI 0) (hi := nI 12) rfl rfl (nI_nlt (by omega) (by omega)) (nI_nlt (by omega) (by omega))) ?_
      refine q_if_neN rfl (by omega) (fun hc24 => ?_) (fun hc24 => ?_)
      · refine q_aload_n rfl rfl ?_
        refine q_iload_n rfl rfl ?_
        refine q_callV1 rfl hx_51 (Nat.le_of_ble_eq_true rfl) (Nat.le_of_ble_eq_true rfl) (sX9_noTurns_S q hr n hn hz hn8) ?_
        refine q_istore (L' := [_, _, _, _, _]) rfl rfl ?_
        refine q_iload rfl rfl ?_
        refine q_if_eq rfl (fun hc38 => ?_) (fun hc38 => ?_)
        · exact absurd hc38 (by decide)
        · refine q_iload rfl rfl ?_
          refine q_goto rfl ?_
          refine q_iret rfl rfl ?_
          exact ⟨rfl, rfl⟩
      · exact absurd hc24 (by decide)
theorem m_mid_U {X : XX} {I A : Nat → Nat → Int32} {J B : Nat → Nat → Int64} {F : Nat → Nat} (ln : Nat) (hln : ln ≤ 5) (eln : I 51 3 = nI ln) (k : Nat) (hk : k < ln) (q : Nat) (hr : q < 6) (n : Nat) (hn : n ≤ 40) (hz : A 57 q = nI n) (n1 : 1 ≤ n) (n8 : n ≤ 8) (hno : ¬ ∀ k, k < n → okN (-6) (nI 6) ((fun x => A 58 (40 * q + x)) k)) (p : Nat) (hp : p ≤ 12)  : x_ev X xT 6 237 [.ref 51, .int (nI k), .int (nI q), .int (nI p)] (HX I A J B F) (some (.int (-3))) (HX (u2 I 51 15 (nI 3)) (f_cnt A 61 3) J B F) := by
  refine q_ev (L := [some (.ref 51), some (.int (nI k)), some (.int (nI q)), some (.int (nI p)), none]) tX9_mid (Nat.le_of_ble_eq_true rfl) rfl ?_
  refine q_aload_n rfl rfl ?_
  refine q_iload_n rfl rfl ?_
  refine q_callV1 rfl hx_51 (Nat.le_of_ble_eq_true rfl) (Nat.le_of_ble_eq_true rfl) (sX9_isLight_1 k ln hk hln eln) ?_
  refine q_if_eqN rfl (by omega) (fun hc5 => ?_) (fun hc5 => ?_)
  · exact absurd hc5 (by decide)
  · refine q_iload_n rfl rfl ?_
    refine q_callS1 rfl rfl (Nat.le_of_ble_eq_true rfl) (Nat.le_of_ble_eq_true rfl) (sX9_isRow_1 q hr) ?_
    refine q_if_eqN rfl (by omega) (fun hc12 => ?_) (fun hc12 => ?_)
    · exact absurd hc12 (by decide)
    · refine q_iload_n rfl rfl ?_
      refine q_i2l rfl ?_
      refine q_lconst (v := 0) rfl rfl ?_
      refine q_ldc2_w (v := 12) rfl rfl ?_
      refine q_callS3 rfl rfl (Nat.le_of_ble_eq_true rfl) (Nat.le_of_ble_eq_true rfl) (sX9_in _ _ _) ?_
      refine q_cn (f_in_1 (lo := nI 0) (hi := nI 12) rfl rfl (nI_nlt (by omega) (by omega)) (nI_nlt (by omega) (by omega))) ?_
      refine q_if_neN rfl (by omega) (fun hc24 => ?_) (fun hc24 => ?_)
      · refine q_aload_n rfl rfl ?_
        refine q_iload_n rfl rfl ?_
        refine q_callV1 rfl hx_51 (Nat.le_of_ble_eq_true rfl) (Nat.le_of_ble_eq_true rfl) (sX9_noTurns_U q hr n hn hz n1 n8 hno) ?_
        refine q_istore (L' := [_, _, _, _, _]) rfl rfl ?_
        refine q_iload rfl rfl ?_
        refine q_if_eq rfl (fun hc38 => ?_) (fun hc38 => ?_)
        · exact absurd hc38 (by decide)
        · refine q_iload rfl rfl ?_
          refine q_goto rfl ?_
          refine q_iret rfl rfl ?_
          exact ⟨rfl, rfl⟩
      · exact absurd hc24 (by decide)
set_option maxHeartbeats 1000000 in
theorem m_mid_0 {X : XX} {I A : Nat → Nat → Int32} {J B : Nat → Nat → Int64} {F : Nat → Nat} (b : Nat) (hb : b ≤ 5) (eb : I 51 1 = nI b) (m : Nat) (em : A 52 1 = nI m) (hm : m ≤ 40) (s : Nat) (es : A 52 2 = nI s) (hs : s < 24) (ln : Nat) (hln : ln ≤ 5) (eln : I 51 3 = nI ln) (hl : mLk A) (k : Nat) (hk : k < ln) (q : Nat) (hr : q < 6) (n : Nat) (hn : n ≤ 40) (hz : A 57 q = nI n) (n1 : 1 ≤ n) (n8 : n ≤ 8) (hok : ∀ k, k < n → okN (-6) (nI 6) ((fun x => A 58 (40 * q + x)) k)) (p : Nat) (hp : p ≤ 12) (hu : (nsum (fun x => sv_tm s p 0 (fun x => tn (A 58 (40 * q + x) + nI 6)) (fun r f => gnN b (mL A k) (nI f) (m + r)) x n) (2 ^ n)) < 2 ^ 63) (hlw : (nsum (fun x => sv_wy p (fun x => tn (A 58 (40 * q + x) + nI 6)) x n) (2 ^ n)) < 2 ^ 63) (hl0 : 0 < (nsum (fun x => sv_wy p (fun x => tn (A 58 (40 * q + x) + nI 6)) x n) (2 ^ n)))  : ∃ x1 x2, x_ev X xT 6 237 [.ref 51, .int (nI k), .int (nI q), .int (nI p)] (HX I A J B F) (some (.int (nI 1))) (HX (u2 (u2 I 51 31 x1) 51 32 x2) A (uj (uj J 51 13 (lN ((nsum (fun x => sv_tm s p 0 (fun x => tn (A 58 (40 * q + x) + nI 6)) (fun r f => gnN b (mL A k) (nI f) (m + r)) x n) (2 ^ n)) / Nat.gcd (nsum (fun x => sv_tm s p 0 (fun x => tn (A 58 (40 * q + x) + nI 6)) (fun r f => gnN b (mL A k) (nI f) (m + r)) x n) (2 ^ n)) (nsum (fun x => sv_wy p (fun x => tn (A 58 (40 * q + x) + nI 6)) x n) (2 ^ n))))) 51 14 (lN ((nsum (fun x => sv_wy p (fun x => tn (A 58 (40 * q + x) + nI 6)) x n) (2 ^ n)) / Nat.gcd (nsum (fun x => sv_tm s p 0 (fun x => tn (A 58 (40 * q + x) + nI 6)) (fun r f => gnN b (mL A k) (nI f) (m + r)) x n) (2 ^ n)) (nsum (fun x => sv_wy p (fun x => tn (A 58 (40 * q + x) + nI 6)) x n) (2 ^ n))))) B F) ∧ True := by
  have hN2 : 2 ^ n ≤ 256 := Nat.pow_le_pow_right (i := n) (j := 8) (by decide) n8
  obtain ⟨x1, x2, h9, _⟩ := sX9_tellAsleep (X := X) (I := I) (J := J) (B := B) (F := F) (A := A) b hb eb m em hm s es hs k (by omega) hl q n hr n8 hz (2 ^ n) rfl hN2 p 0 hp (by decide) (fun x => tn (A 58 (40 * q + x) + nI 6)) (fun x hx => sv_j (hok x hx)) hu hlw hl0
  obtain ⟨r_, h_, he_, x1, x2, hr_, hh_, hf_⟩ := q_evx (X := X) (d := 5) (as := [.ref 51, .int (nI k), .int (nI q), .int (nI p)]) (h := (HX I A J B F)) (P := fun r_ h_ => ∃ x1 x2, r_ = (some (.int (nI 1))) ∧ h_ = (HX (u2 (u2 I 51 31 x1) 51 32 x2) A (uj (uj J 51 13 (lN ((nsum (fun x => sv_tm s p 0 (fun x => tn (A 58 (40 * q + x) + nI 6)) (fun r f => gnN b (mL A k) (nI f) (m + r)) x n) (2 ^ n)) / Nat.gcd (nsum (fun x => sv_tm s p 0 (fun x => tn (A 58 (40 * q + x) + nI 6)) (fun r f => gnN b (mL A k) (nI f) (m + r)) x n) (2 ^ n)) (nsum (fun x => sv_wy p (fun x => tn (A 58 (40 * q + x) + nI 6)) x n) (2 ^ n))))) 51 14 (lN ((nsum (fun x => sv_wy p (fun x => tn (A 58 (40 * q + x) + nI 6)) x n) (2 ^ n)) / Nat.gcd (nsum (fun x => sv_tm s p 0 (fun x => tn (A 58 (40 * q + x) + nI 6)) (fun r f => gnN b (mL A k) (nI f) (m + r)) x n) (2 ^ n)) (nsum (fun x => sv_wy p (fun x => tn (A 58 (40 * q + x) + nI 6)) x n) (2 ^ n))))) B F) ∧ True) (L := [some (.ref 51), some (.int (nI k)), some (.int (nI q)), some (.int (nI p)), none]) tX9_mid (Nat.le_of_ble_eq_true rfl) rfl (by
    refine q_aload_n rfl rfl ?_
    refine q_iload_n rfl rfl ?_
    refine q_callV1 rfl hx_51 (Nat.le_of_ble_eq_true rfl) (Nat.le_of_ble_eq_true rfl) (sX9_isLight_1 k ln hk hln eln) ?_
    refine q_if_eqN rfl (by omega) (fun hc5 => ?_) (fun hc5 => ?_)
    · exact absurd hc5 (by decide)
    · refine q_iload_n rfl rfl ?_
      refine q_callS1 rfl rfl (Nat.le_of_ble_eq_true rfl) (Nat.le_of_ble_eq_true rfl) (sX9_isRow_1 q hr) ?_
      refine q_if_eqN rfl (by omega) (fun hc12 => ?_) (fun hc12 => ?_)
      · exact absurd hc12 (by decide)
      · refine q_iload_n rfl rfl ?_
        refine q_i2l rfl ?_
        refine q_lconst (v := 0) rfl rfl ?_
        refine q_ldc2_w (v := 12) rfl rfl ?_
        refine q_callS3 rfl rfl (Nat.le_of_ble_eq_true rfl) (Nat.le_of_ble_eq_true rfl) (sX9_in _ _ _) ?_
        refine q_cn (f_in_1 (lo := nI 0) (hi := nI 12) rfl rfl (nI_nlt (by omega) (by omega)) (nI_nlt (by omega) (by omega))) ?_
        refine q_if_neN rfl (by omega) (fun hc24 => ?_) (fun hc24 => ?_)
        · refine q_aload_n rfl rfl ?_
          refine q_iload_n rfl rfl ?_
          refine q_callV1 rfl hx_51 (Nat.le_of_ble_eq_true rfl) (Nat.le_of_ble_eq_true rfl) (sX9_noTurns_0 q hr n hn hz n1 n8 hok) ?_
          refine q_istore (L' := [_, _, _, _, _]) rfl rfl ?_
          refine q_iload rfl rfl ?_
          refine q_if_eqN rfl (by omega) (fun hc38 => ?_) (fun hc38 => ?_)
          · refine q_aload_n rfl rfl ?_
            refine q_iload_n rfl rfl ?_
            refine q_iload_n rfl rfl ?_
            refine q_iload_n rfl rfl ?_
            refine q_iconst (v := nI 0) rfl rfl ?_
            refine q_callV4 rfl hx_51 (Nat.le_of_ble_eq_true rfl) (Nat.le_of_ble_eq_true rfl) (h9) ?_
            refine q_iret rfl rfl ?_
            exact ⟨x1, x2, rfl, rfl, trivial⟩
          · exact absurd hc38 (by decide)
        · exact absurd hc24 (by decide))
  subst hr_
  subst hh_
  exact ⟨x1, x2, he_, hf_⟩
theorem m_odds_b {X : XX} {I A : Nat → Nat → Int32} {J B : Nat → Nat → Int64} {F : Nat → Nat} (ln : Nat) (hln : ln ≤ 5) (eln : I 51 3 = nI ln) (x : Int32) (hx : x < 0 ∨ nI ln ≤ x) (y z : Int32) : x_ev X xT 6 238 [.ref 51, .int x, .int y, .int z] (HX I A J B F) (some (.int (-1))) (HX I A J B F) := by
  refine q_ev (L := [some (.ref 51), some (.int x), some (.int y), some (.int z), none]) tX9_odds (Nat.le_of_ble_eq_true rfl) rfl ?_
  refine q_aload_n rfl rfl ?_
  refine q_iload_n rfl rfl ?_
  refine q_callV1 rfl hx_51 (Nat.le_of_ble_eq_true rfl) (Nat.le_of_ble_eq_true rfl) (sX9_isLight_0 x ln hln eln hx) ?_
  refine q_if_eqN rfl (by omega) (fun hc5 => ?_) (fun hc5 => ?_)
  · refine q_iconst (v := (-1)) rfl rfl ?_
    refine q_iret rfl rfl ?_
    exact ⟨rfl, rfl⟩
  · exact absurd hc5 (by decide)
theorem m_odds_ob {X : XX} {I A : Nat → Nat → Int32} {J B : Nat → Nat → Int64} {F : Nat → Nat} (ln : Nat) (hln : ln ≤ 5) (eln : I 51 3 = nI ln) (k : Nat) (hk : k < ln) (y : Int32) (hy : y < 0 ∨ 6 ≤ y) (z : Int32) : x_ev X xT 6 238 [.ref 51, .int (nI k), .int y, .int z] (HX I A J B F) (some (.int (-1))) (HX I A J B F) := by
  refine q_ev (L := [some (.ref 51), some (.int (nI k)), some (.int y), some (.int z), none]) tX9_odds (Nat.le_of_ble_eq_true rfl) rfl ?_
  refine q_aload_n rfl rfl ?_
  refine q_iload_n rfl rfl ?_
  refine q_callV1 rfl hx_51 (Nat.le_of_ble_eq_true rfl) (Nat.le_of_ble_eq_true rfl) (sX9_isLight_1 k ln hk hln eln) ?_
  refine q_if_eqN rfl (by omega) (fun hc5 => ?_) (fun hc5 => ?_)
  · exact absurd hc5 (by decide)
  · refine q_iload_n rfl rfl ?_
    refine q_callS1 rfl rfl (Nat.le_of_ble_eq_true rfl) (Nat.le_of_ble_eq_true rfl) (sX9_isRow_0 y hy) ?_
    refine q_if_eqN rfl (by omega) (fun hc12 => ?_) (fun hc12 => ?_)
    · refine q_iconst (v := (-1)) rfl rfl ?_
      refine q_iret rfl rfl ?_
      exact ⟨rfl, rfl⟩
    · exact absurd hc12 (by decide)
theorem m_odds_p {X : XX} {I A : Nat → Nat → Int32} {J B : Nat → Nat → Int64} {F : Nat → Nat} (ln : Nat) (hln : ln ≤ 5) (eln : I 51 3 = nI ln) (k : Nat) (hk : k < ln) (q : Nat) (hr : q < 6) (z : Int32) (hzb : z < nI 0 ∨ nI 12 < z) : x_ev X xT 6 238 [.ref 51, .int (nI k), .int (nI q), .int z] (HX I A J B F) (some (.int (-1))) (HX I A J B F) := by
  refine q_ev (L := [some (.ref 51), some (.int (nI k)), some (.int (nI q)), some (.int z), none]) tX9_odds (Nat.le_of_ble_eq_true rfl) rfl ?_
  refine q_aload_n rfl rfl ?_
  refine q_iload_n rfl rfl ?_
  refine q_callV1 rfl hx_51 (Nat.le_of_ble_eq_true rfl) (Nat.le_of_ble_eq_true rfl) (sX9_isLight_1 k ln hk hln eln) ?_
  refine q_if_eqN rfl (by omega) (fun hc5 => ?_) (fun hc5 => ?_)
  · exact absurd hc5 (by decide)
  · refine q_iload_n rfl rfl ?_
    refine q_callS1 rfl rfl (Nat.le_of_ble_eq_true rfl) (Nat.le_of_ble_eq_true rfl) (sX9_isRow_1 q hr) ?_
    refine q_if_eqN rfl (by omega) (fun hc12 => ?_) (fun hc12 => ?_)
    · exact absurd hc12 (by decide)
    · refine q_iload_n rfl rfl ?_
      refine q_i2l rfl ?_
      refine q_lconst (v := 0) rfl rfl ?_
      refine q_ldc2_w (v := 12) rfl rfl ?_
      refine q_callS3 rfl rfl (Nat.le_of_ble_eq_true rfl) (Nat.le_of_ble_eq_true rfl) (sX9_in _ _ _) ?_
      refine q_cn (f_in_0 (lo := nI 0) (hi := nI 12) rfl rfl hzb) ?_
      refine q_if_neN rfl (by omega) (fun hc24 => ?_) (fun hc24 => ?_)
      · exact absurd hc24 (by decide)
      · refine q_iconst (v := (-1)) rfl rfl ?_
        refine q_iret rfl rfl ?_
        exact ⟨rfl, rfl⟩
theorem m_odds_M {X : XX} {I A : Nat → Nat → Int32} {J B : Nat → Nat → Int64} {F : Nat → Nat} (ln : Nat) (hln : ln ≤ 5) (eln : I 51 3 = nI ln) (k : Nat) (hk : k < ln) (q : Nat) (hr : q < 6) (hz : A 57 q = -1) (p : Nat) (hp : p ≤ 12)  : x_ev X xT 6 238 [.ref 51, .int (nI k), .int (nI q), .int (nI p)] (HX I A J B F) (some (.int (-3))) (HX (u2 I 51 15 (nI 1)) (f_cnt A 61 1) J B F) := by
  refine q_ev (L := [some (.ref 51), some (.int (nI k)), some (.int (nI q)), some (.int (nI p)), none]) tX9_odds (Nat.le_of_ble_eq_true rfl) rfl ?_
  refine q_aload_n rfl rfl ?_
  refine q_iload_n rfl rfl ?_
  refine q_callV1 rfl hx_51 (Nat.le_of_ble_eq_true rfl) (Nat.le_of_ble_eq_true rfl) (sX9_isLight_1 k ln hk hln eln) ?_
  refine q_if_eqN rfl (by omega) (fun hc5 => ?_) (fun hc5 => ?_)
  · exact absurd hc5 (by decide)
  · refine q_iload_n rfl rfl ?_
    refine q_callS1 rfl rfl (Nat.le_of_ble_eq_true rfl) (Nat.le_of_ble_eq_true rfl) (sX9_isRow_1 q hr) ?_
    refine q_if_eqN rfl (by omega) (fun hc12 => ?_) (fun hc12 => ?_)
    · exact absurd hc12 (by decide)
    · refine q_iload_n rfl rfl ?_
      refine q_i2l rfl ?_
      refine q_lconst (v := 0) rfl rfl ?_
      refine q_ldc2_w (v := 12) rfl rfl ?_
      refine q_callS3 rfl rfl (Nat.le_of_ble_eq_true rfl) (Nat.le_of_ble_eq_true rfl) (sX9_in _ _ _) ?_
      refine q_cn (f_in_1 (lo := nI 0) (hi := nI 12) rfl rfl (nI_nlt (by omega) (by omega)) (nI_nlt (by omega) (by omega))) ?_
      refine q_if_neN rfl (by omega) (fun hc24 => ?_) (fun hc24 => ?_)
      · refine q_aload_n rfl rfl ?_
        refine q_iload_n rfl rfl ?_
        refine q_callV1 rfl hx_51 (Nat.le_of_ble_eq_true rfl) (Nat.le_of_ble_eq_true rfl) (sX9_noTurns_M q hr hz) ?_
        refine q_istore (L' := [_, _, _, _, _]) rfl rfl ?_
        refine q_iload rfl rfl ?_
        refine q_if_eq rfl (fun hc38 => ?_) (fun hc38 => ?_)
        · exact absurd hc38 (by decide)
        · refine q_iload rfl rfl ?_
          refine q_goto rfl ?_
          refine q_iret rfl rfl ?_
          exact ⟨rfl, rfl⟩
      · exact absurd hc24 (by decide)
theorem m_odds_S {X : XX} {I A : Nat → Nat → Int32} {J B : Nat → Nat → Int64} {F : Nat → Nat} (ln : Nat) (hln : ln ≤ 5) (eln : I 51 3 = nI ln) (k : Nat) (hk : k < ln) (q : Nat) (hr : q < 6) (n : Nat) (hn : n ≤ 40) (hz : A 57 q = nI n) (hn8 : n < 1 ∨ 8 < n) (p : Nat) (hp : p ≤ 12)  : x_ev X xT 6 238 [.ref 51, .int (nI k), .int (nI q), .int (nI p)] (HX I A J B F) (some (.int (-3))) (HX (u2 I 51 15 (nI 5)) (f_cnt A 61 5) J B F) := by
  refine q_ev (L := [some (.ref 51), some (.int (nI k)), some (.int (nI q)), some (.int (nI p)), none]) tX9_odds (Nat.le_of_ble_eq_true rfl) rfl ?_
  refine q_aload_n rfl rfl ?_
  refine q_iload_n rfl rfl ?_
  refine q_callV1 rfl hx_51 (Nat.le_of_ble_eq_true rfl) (Nat.le_of_ble_eq_true rfl) (sX9_isLight_1 k ln hk hln eln) ?_
  refine q_if_eqN rfl (by omega) (fun hc5 => ?_) (fun hc5 => ?_)
  · exact absurd hc5 (by decide)
  · refine q_iload_n rfl rfl ?_
    refine q_callS1 rfl rfl (Nat.le_of_ble_eq_true rfl) (Nat.le_of_ble_eq_true rfl) (sX9_isRow_1 q hr) ?_
    refine q_if_eqN rfl (by omega) (fun hc12 => ?_) (fun hc12 => ?_)
    · exact absurd hc12 (by decide)
    · refine q_iload_n rfl rfl ?_
      refine q_i2l rfl ?_
      refine q_lconst (v := 0) rfl rfl ?_
      refine q_ldc2_w (v := 12) rfl rfl ?_
      refine q_callS3 rfl rfl (Nat.le_of_ble_eq_true rfl) (Nat.le_of_ble_eq_true rfl) (sX9_in _ _ _) ?_
      refine q_cn (f_in_1 (lo := nI 0) (hi := nI 12) rfl rfl (nI_nlt (by omega) (by omega)) (nI_nlt (by omega) (by omega))) ?_
      refine q_if_neN rfl (by omega) (fun hc24 => ?_) (fun hc24 => ?_)
      · refine q_aload_n rfl rfl ?_
        refine q_iload_n rfl rfl ?_
        refine q_callV1 rfl hx_51 (Nat.le_of_ble_eq_true rfl) (Nat.le_of_ble_eq_true rfl) (sX9_noTurns_S q hr n hn hz hn8) ?_
        refine q_istore (L' := [_, _, _, _, _]) rfl rfl ?_
        refine q_iload rfl rfl ?_
        refine q_if_eq rfl (fun hc38 => ?_) (fun hc38 => ?_)
        · exact absurd hc38 (by decide)
        · refine q_iload rfl rfl ?_
          refine q_goto rfl ?_
          refine q_iret rfl rfl ?_
          exact ⟨rfl, rfl⟩
      · exact absurd hc24 (by decide)
theorem m_odds_U {X : XX} {I A : Nat → Nat → Int32} {J B : Nat → Nat → Int64} {F : Nat → Nat} (ln : Nat) (hln : ln ≤ 5) (eln : I 51 3 = nI ln) (k : Nat) (hk : k < ln) (q : Nat) (hr : q < 6) (n : Nat) (hn : n ≤ 40) (hz : A 57 q = nI n) (n1 : 1 ≤ n) (n8 : n ≤ 8) (hno : ¬ ∀ k, k < n → okN (-6) (nI 6) ((fun x => A 58 (40 * q + x)) k)) (p : Nat) (hp : p ≤ 12)  : x_ev X xT 6 238 [.ref 51, .int (nI k), .int (nI q), .int (nI p)] (HX I A J B F) (some (.int (-3))) (HX (u2 I 51 15 (nI 3)) (f_cnt A 61 3) J B F) := by
  refine q_ev (L := [some (.ref 51), some (.int (nI k)), some (.int (nI q)), some (.int (nI p)), none]) tX9_odds (Nat.le_of_ble_eq_true rfl) rfl ?_
  refine q_aload_n rfl rfl ?_
  refine q_iload_n rfl rfl ?_
  refine q_callV1 rfl hx_51 (Nat.le_of_ble_eq_true rfl) (Nat.le_of_ble_eq_true rfl) (sX9_isLight_1 k ln hk hln eln) ?_
  refine q_if_eqN rfl (by omega) (fun hc5 => ?_) (fun hc5 => ?_)
  · exact absurd hc5 (by decide)
  · refine q_iload_n rfl rfl ?_
    refine q_callS1 rfl rfl (Nat.le_of_ble_eq_true rfl) (Nat.le_of_ble_eq_true rfl) (sX9_isRow_1 q hr) ?_
    refine q_if_eqN rfl (by omega) (fun hc12 => ?_) (fun hc12 => ?_)
    · exact absurd hc12 (by decide)
    · refine q_iload_n rfl rfl ?_
      refine q_i2l rfl ?_
      refine q_lconst (v := 0) rfl rfl ?_
      refine q_ldc2_w (v := 12) rfl rfl ?_
      refine q_callS3 rfl rfl (Nat.le_of_ble_eq_true rfl) (Nat.le_of_ble_eq_true rfl) (sX9_in _ _ _) ?_
      refine q_cn (f_in_1 (lo := nI 0) (hi := nI 12) rfl rfl (nI_nlt (by omega) (by omega)) (nI_nlt (by omega) (by omega))) ?_
      refine q_if_neN rfl (by omega) (fun hc24 => ?_) (fun hc24 => ?_)
      · refine q_aload_n rfl rfl ?_
        refine q_iload_n rfl rfl ?_
        refine q_callV1 rfl hx_51 (Nat.le_of_ble_eq_true rfl) (Nat.le_of_ble_eq_true rfl) (sX9_noTurns_U q hr n hn hz n1 n8 hno) ?_
        refine q_istore (L' := [_, _, _, _, _]) rfl rfl ?_
        refine q_iload rfl rfl ?_
        refine q_if_eq rfl (fun hc38 => ?_) (fun hc38 => ?_)
        · exact absurd hc38 (by decide)
        · refine q_iload rfl rfl ?_
          refine q_goto rfl ?_
          refine q_iret rfl rfl ?_
          exact ⟨rfl, rfl⟩
      · exact absurd hc24 (by decide)
set_option maxHeartbeats 1000000 in
theorem m_odds_0 {X : XX} {I A : Nat → Nat → Int32} {J B : Nat → Nat → Int64} {F : Nat → Nat} (b : Nat) (hb : b ≤ 5) (eb : I 51 1 = nI b) (m : Nat) (em : A 52 1 = nI m) (hm : m ≤ 40) (s : Nat) (es : A 52 2 = nI s) (hs : s < 24) (ln : Nat) (hln : ln ≤ 5) (eln : I 51 3 = nI ln) (hl : mLk A) (k : Nat) (hk : k < ln) (q : Nat) (hr : q < 6) (n : Nat) (hn : n ≤ 40) (hz : A 57 q = nI n) (n1 : 1 ≤ n) (n8 : n ≤ 8) (hok : ∀ k, k < n → okN (-6) (nI 6) ((fun x => A 58 (40 * q + x)) k)) (p : Nat) (hp : p ≤ 12) (hu : (nsum (fun x => sv_tm s p 1 (fun x => tn (A 58 (40 * q + x) + nI 6)) (fun r f => gnN b (mL A k) (nI f) (m + r)) x n) (2 ^ n)) < 2 ^ 63) (hlw : (nsum (fun x => sv_wy p (fun x => tn (A 58 (40 * q + x) + nI 6)) x n) (2 ^ n)) < 2 ^ 63) (hl0 : 0 < (nsum (fun x => sv_wy p (fun x => tn (A 58 (40 * q + x) + nI 6)) x n) (2 ^ n)))  : ∃ x1 x2, x_ev X xT 6 238 [.ref 51, .int (nI k), .int (nI q), .int (nI p)] (HX I A J B F) (some (.int (nI 1))) (HX (u2 (u2 I 51 31 x1) 51 32 x2) A (uj (uj J 51 13 (lN ((nsum (fun x => sv_tm s p 1 (fun x => tn (A 58 (40 * q + x) + nI 6)) (fun r f => gnN b (mL A k) (nI f) (m + r)) x n) (2 ^ n)) / Nat.gcd (nsum (fun x => sv_tm s p 1 (fun x => tn (A 58 (40 * q + x) + nI 6)) (fun r f => gnN b (mL A k) (nI f) (m + r)) x n) (2 ^ n)) (nsum (fun x => sv_wy p (fun x => tn (A 58 (40 * q + x) + nI 6)) x n) (2 ^ n))))) 51 14 (lN ((nsum (fun x => sv_wy p (fun x => tn (A 58 (40 * q + x) + nI 6)) x n) (2 ^ n)) / Nat.gcd (nsum (fun x => sv_tm s p 1 (fun x => tn (A 58 (40 * q + x) + nI 6)) (fun r f => gnN b (mL A k) (nI f) (m + r)) x n) (2 ^ n)) (nsum (fun x => sv_wy p (fun x => tn (A 58 (40 * q + x) + nI 6)) x n) (2 ^ n))))) B F) ∧ True := by
  have hN2 : 2 ^ n ≤ 256 := Nat.pow_le_pow_right (i := n) (j := 8) (by decide) n8
  obtain ⟨x1, x2, h9, _⟩ := sX9_tellAsleep (X := X) (I := I) (J := J) (B := B) (F := F) (A := A) b hb eb m em hm s es hs k (by omega) hl q n hr n8 hz (2 ^ n) rfl hN2 p 1 hp (by decide) (fun x => tn (A 58 (40 * q + x) + nI 6)) (fun x hx => sv_j (hok x hx)) hu hlw hl0
  obtain ⟨r_, h_, he_, x1, x2, hr_, hh_, hf_⟩ := q_evx (X := X) (d := 5) (as := [.ref 51, .int (nI k), .int (nI q), .int (nI p)]) (h := (HX I A J B F)) (P := fun r_ h_ => ∃ x1 x2, r_ = (some (.int (nI 1))) ∧ h_ = (HX (u2 (u2 I 51 31 x1) 51 32 x2) A (uj (uj J 51 13 (lN ((nsum (fun x => sv_tm s p 1 (fun x => tn (A 58 (40 * q + x) + nI 6)) (fun r f => gnN b (mL A k) (nI f) (m + r)) x n) (2 ^ n)) / Nat.gcd (nsum (fun x => sv_tm s p 1 (fun x => tn (A 58 (40 * q + x) + nI 6)) (fun r f => gnN b (mL A k) (nI f) (m + r)) x n) (2 ^ n)) (nsum (fun x => sv_wy p (fun x => tn (A 58 (40 * q + x) + nI 6)) x n) (2 ^ n))))) 51 14 (lN ((nsum (fun x => sv_wy p (fun x => tn (A 58 (40 * q + x) + nI 6)) x n) (2 ^ n)) / Nat.gcd (nsum (fun x => sv_tm s p 1 (fun x => tn (A 58 (40 * q + x) + nI 6)) (fun r f => gnN b (mL A k) (nI f) (m + r)) x n) (2 ^ n)) (nsum (fun x => sv_wy p (fun x => tn (A 58 (40 * q + x) + nI 6)) x n) (2 ^ n))))) B F) ∧ True) (L := [some (.ref 51), some (.int (nI k)), some (.int (nI q)), some (.int (nI p)), none]) tX9_odds (Nat.le_of_ble_eq_true rfl) rfl (by
    refine q_aload_n rfl rfl ?_
    refine q_iload_n rfl rfl ?_
    refine q_callV1 rfl hx_51 (Nat.le_of_ble_eq_true rfl) (Nat.le_of_ble_eq_true rfl) (sX9_isLight_1 k ln hk hln eln) ?_
    refine q_if_eqN rfl (by omega) (fun hc5 => ?_) (fun hc5 => ?_)
    · exact absurd hc5 (by decide)
    · refine q_iload_n rfl rfl ?_
      refine q_callS1 rfl rfl (Nat.le_of_ble_eq_true rfl) (Nat.le_of_ble_eq_true rfl) (sX9_isRow_1 q hr) ?_
      refine q_if_eqN rfl (by omega) (fun hc12 => ?_) (fun hc12 => ?_)
      · exact absurd hc12 (by decide)
      · refine q_iload_n rfl rfl ?_
        refine q_i2l rfl ?_
        refine q_lconst (v := 0) rfl rfl ?_
        refine q_ldc2_w (v := 12) rfl rfl ?_
        refine q_callS3 rfl rfl (Nat.le_of_ble_eq_true rfl) (Nat.le_of_ble_eq_true rfl) (sX9_in _ _ _) ?_
        refine q_cn (f_in_1 (lo := nI 0) (hi := nI 12) rfl rfl (nI_nlt (by omega) (by omega)) (nI_nlt (by omega) (by omega))) ?_
        refine q_if_neN rfl (by omega) (fun hc24 => ?_) (fun hc24 => ?_)
        · refine q_aload_n rfl rfl ?_
          refine q_iload_n rfl rfl ?_
          refine q_callV1 rfl hx_51 (Nat.le_of_ble_eq_true rfl) (Nat.le_of_ble_eq_true rfl) (sX9_noTurns_0 q hr n hn hz n1 n8 hok) ?_
          refine q_istore (L' := [_, _, _, _, _]) rfl rfl ?_
          refine q_iload rfl rfl ?_
          refine q_if_eqN rfl (by omega) (fun hc38 => ?_) (fun hc38 => ?_)
          · refine q_aload_n rfl rfl ?_
            refine q_iload_n rfl rfl ?_
            refine q_iload_n rfl rfl ?_
            refine q_iload_n rfl rfl ?_
            refine q_iconst (v := nI 1) rfl rfl ?_
            refine q_callV4 rfl hx_51 (Nat.le_of_ble_eq_true rfl) (Nat.le_of_ble_eq_true rfl) (h9) ?_
            refine q_iret rfl rfl ?_
            exact ⟨x1, x2, rfl, rfl, trivial⟩
          · exact absurd hc38 (by decide)
        · exact absurd hc24 (by decide))
  subst hr_
  subst hh_
  exact ⟨x1, x2, he_, hf_⟩
theorem sv_fin {s0 p e : Nat} {js : Nat → Nat} {g : Nat → Nat → Nat} (hp : p ≤ 12) (hs0 : s0 < 24) (he : e ≤ 1) (hg : ∀ k s, g k s ≤ 24) (n : Nat) (n8 : n ≤ 8) : nsum (fun m => sv_tm s0 p e js g m n) (2 ^ n) < 2 ^ 63 ∧ nsum (fun m => sv_wy p js m n) (2 ^ n) < 2 ^ 63 ∧ 0 < nsum (fun m => sv_wy p js m n) (2 ^ n) ∧ (if e = 0 then sv_gt s0 p e js g n else nsum (sv_wt s0 p e js g n) 24) / Nat.gcd (12 ^ n) (if e = 0 then sv_gt s0 p e js g n else nsum (sv_wt s0 p e js g n) 24) = nsum (fun m => sv_tm s0 p e js g m n) (2 ^ n) / Nat.gcd (nsum (fun m => sv_tm s0 p e js g m n) (2 ^ n)) (nsum (fun m => sv_wy p js m n) (2 ^ n)) ∧ 12 ^ n / Nat.gcd (12 ^ n) (if e = 0 then sv_gt s0 p e js g n else nsum (sv_wt s0 p e js g n) 24) = nsum (fun m => sv_wy p js m n) (2 ^ n) / Nat.gcd (nsum (fun m => sv_tm s0 p e js g m n) (2 ^ n)) (nsum (fun m => sv_wy p js m n) (2 ^ n)) := by
  have hU : (if e = 0 then sv_gt s0 p e js g n else nsum (sv_wt s0 p e js g n) 24) ≤ 192 * 12 ^ 8 := by
    have h12 : 12 ^ n ≤ 12 ^ 8 := Nat.pow_le_pow_right (by decide) n8
    split
    · exact Nat.le_trans (sv_gt_le hp hs0 hg n) (Nat.mul_le_mul (by omega) h12)
    · refine Nat.le_trans (sv_wt_le hp hs0 n).1 ?_
      omega
  have h1 := sv_same (e := e) (js := js) (g := g) hp hs0 he n
  have h2 := sv_m3 (js := js) hp n
  have h3 : 12 ^ n ≤ 12 ^ 8 := Nat.pow_le_pow_right (by decide) n8
  have h4 : 0 < 12 ^ n := Nat.pow_pos (by decide)
  rw [h1] at hU
  rw [h1]
  generalize nsum (fun m => sv_tm s0 p e js g m n) (2 ^ n) = u at *
  generalize nsum (fun m => sv_wy p js m n) (2 ^ n) = l at *
  generalize sv_cz js n = c at *
  rw [h2] at h3 h4
  have hc : 0 < c := Nat.pos_of_ne_zero (fun z => by rw [z, Nat.zero_mul] at h4; omega)
  have hl : 0 < l := Nat.pos_of_ne_zero (fun z => by rw [z, Nat.mul_zero] at h4; omega)
  have hl2 : l ≤ c * l := Nat.le_mul_of_pos_left l hc
  have hu2 : u ≤ c * u := Nat.le_mul_of_pos_left u hc
  rw [h2]
  exact ⟨by omega, by omega, hl, sv_div hc⟩
set_option maxHeartbeats 4000000 in
theorem op_33 {X : XX} : Op_33 X RelR := by
  intro a1 a2 z I A J B F hr
  obtain ⟨ln, b, st, hL, hT, hK, hD, hN, hQ, hF, hU, hJ, hS⟩ := id hr
  obtain ⟨hln, hb, hst, eln, eln', eb, eb', e7, e7', hb1⟩ := id hD
  obtain ⟨d, hd, n1, q0, n2, n3, n9, q1, q2, q3, hp⟩ := id hN
  have hm : (rp st (A 9) d).1 ≤ 40 := Nat.le_trans (rp_1 st (A 9) d) hd
  have hs := rp_2 st (A 9) d
  have lks := RelK_lks hK
  have hl := RelK_hl hK
  have cLe := RelK_cL hK
  by_cases z0 : z < nI 0
  · rcases ix3 a1 ln (by first | decide | omega) with hk | hk | ⟨k, hk, rfl⟩
    · rcases ix3 a2 6 (by first | decide | omega) with hq | hq | ⟨q, hq, rfl⟩
      · exact opI_mk (by decide) (by decide) (c_mid_w (c_sl_bb a1 (Or.inl (by first | exact hk | (rw [eln]; exact hk))) a2 (Or.inl hq) z 0)) (m_mid_b ln hln (by exact eln') a1 (Or.inl hk) a2 z) (hr)
      · exact opI_mk (by decide) (by decide) (c_mid_w (c_sl_bb a1 (Or.inl (by first | exact hk | (rw [eln]; exact hk))) a2 (Or.inr hq) z 0)) (m_mid_b ln hln (by exact eln') a1 (Or.inl hk) a2 z) (hr)
      · exact opI_mk (by decide) (by decide) (c_mid_w (c_sl_bo a1 (Or.inl (by first | exact hk | (rw [eln]; exact hk))) q hq z 0)) (m_mid_b ln hln (by exact eln') a1 (Or.inl hk) (nI q) z) (hr)
    · rcases ix3 a2 6 (by first | decide | omega) with hq | hq | ⟨q, hq, rfl⟩
      · exact opI_mk (by decide) (by decide) (c_mid_w (c_sl_bb a1 (Or.inr (by first | exact hk | (rw [eln]; exact hk))) a2 (Or.inl hq) z 0)) (m_mid_b ln hln (by exact eln') a1 (Or.inr hk) a2 z) (hr)
      · exact opI_mk (by decide) (by decide) (c_mid_w (c_sl_bb a1 (Or.inr (by first | exact hk | (rw [eln]; exact hk))) a2 (Or.inr hq) z 0)) (m_mid_b ln hln (by exact eln') a1 (Or.inr hk) a2 z) (hr)
      · exact opI_mk (by decide) (by decide) (c_mid_w (c_sl_bo a1 (Or.inr (by first | exact hk | (rw [eln]; exact hk))) q hq z 0)) (m_mid_b ln hln (by exact eln') a1 (Or.inr hk) (nI q) z) (hr)
    · rcases ix3 a2 6 (by first | decide | omega) with hq | hq | ⟨q, hq, rfl⟩
      · exact opI_mk (by decide) (by decide) (c_mid_w (c_sl_ob ln hln eln k hk a2 (Or.inl hq) z 0)) (m_mid_ob ln hln (by exact eln') k hk a2 (Or.inl hq) z) (hr)
      · exact opI_mk (by decide) (by decide) (c_mid_w (c_sl_ob ln hln eln k hk a2 (Or.inr hq) z 0)) (m_mid_ob ln hln (by exact eln') k hk a2 (Or.inr hq) z) (hr)
      · exact opI_mk (by decide) (by decide) (c_mid_w (c_sl_p ln hln eln k hk q hq z 0 (Or.inl z0))) (m_mid_p ln hln (by exact eln') k hk q hq z (Or.inl z0)) (hr)
  by_cases z12 : nI 12 < z
  · rcases ix3 a1 ln (by first | decide | omega) with hk | hk | ⟨k, hk, rfl⟩
    · rcases ix3 a2 6 (by first | decide | omega) with hq | hq | ⟨q, hq, rfl⟩
      · exact opI_mk (by decide) (by decide) (c_mid_w (c_sl_bb a1 (Or.inl (by first | exact hk | (rw [eln]; exact hk))) a2 (Or.inl hq) z 0)) (m_mid_b ln hln (by exact eln') a1 (Or.inl hk) a2 z) (hr)
      · exact opI_mk (by decide) (by decide) (c_mid_w (c_sl_bb a1 (Or.inl (by first | exact hk | (rw [eln]; exact hk))) a2 (Or.inr hq) z 0)) (m_mid_b ln hln (by exact eln') a1 (Or.inl hk) a2 z) (hr)
      · exact opI_mk (by decide) (by decide) (c_mid_w (c_sl_bo a1 (Or.inl (by first | exact hk | (rw [eln]; exact hk))) q hq z 0)) (m_mid_b ln hln (by exact eln') a1 (Or.inl hk) (nI q) z) (hr)
    · rcases ix3 a2 6 (by first | decide | omega) with hq | hq | ⟨q, hq, rfl⟩
      · exact opI_mk (by decide) (by decide) (c_mid_w (c_sl_bb a1 (Or.inr (by first | exact hk | (rw [eln]; exact hk))) a2 (Or.inl hq) z 0)) (m_mid_b ln hln (by exact eln') a1 (Or.inr hk) a2 z) (hr)
      · exact opI_mk (by decide) (by decide) (c_mid_w (c_sl_bb a1 (Or.inr (by first | exact hk | (rw [eln]; exact hk))) a2 (Or.inr hq) z 0)) (m_mid_b ln hln (by exact eln') a1 (Or.inr hk) a2 z) (hr)
      · exact opI_mk (by decide) (by decide) (c_mid_w (c_sl_bo a1 (Or.inr (by first | exact hk | (rw [eln]; exact hk))) q hq z 0)) (m_mid_b ln hln (by exact eln') a1 (Or.inr hk) (nI q) z) (hr)
    · rcases ix3 a2 6 (by first | decide | omega) with hq | hq | ⟨q, hq, rfl⟩
      · exact opI_mk (by decide) (by decide) (c_mid_w (c_sl_ob ln hln eln k hk a2 (Or.inl hq) z 0)) (m_mid_ob ln hln (by exact eln') k hk a2 (Or.inl hq) z) (hr)
      · exact opI_mk (by decide) (by decide) (c_mid_w (c_sl_ob ln hln eln k hk a2 (Or.inr hq) z 0)) (m_mid_ob ln hln (by exact eln') k hk a2 (Or.inr hq) z) (hr)
      · exact opI_mk (by decide) (by decide) (c_mid_w (c_sl_p ln hln eln k hk q hq z 0 (Or.inr z12))) (m_mid_p ln hln (by exact eln') k hk q hq z (Or.inr z12)) (hr)
  obtain ⟨p, hp, rfl⟩ := nI_of2 (M := nI 12) (n := 12) rfl z0 (Int32.not_lt.mp z12)
  rcases ix3 a1 ln (by first | decide | omega) with hk | hk | ⟨k, hk, rfl⟩
  · rcases ix3 a2 6 (by first | decide | omega) with hq | hq | ⟨q, hq, rfl⟩
    · exact opI_mk (by decide) (by decide) (c_mid_w (c_sl_bb a1 (Or.inl (by first | exact hk | (rw [eln]; exact hk))) a2 (Or.inl hq) (nI p) 0)) (m_mid_b ln hln (by exact eln') a1 (Or.inl hk) a2 (nI p)) (hr)
    · exact opI_mk (by decide) (by decide) (c_mid_w (c_sl_bb a1 (Or.inl (by first | exact hk | (rw [eln]; exact hk))) a2 (Or.inr hq) (nI p) 0)) (m_mid_b ln hln (by exact eln') a1 (Or.inl hk) a2 (nI p)) (hr)
    · exact opI_mk (by decide) (by decide) (c_mid_w (c_sl_bo a1 (Or.inl (by first | exact hk | (rw [eln]; exact hk))) q hq (nI p) 0)) (m_mid_b ln hln (by exact eln') a1 (Or.inl hk) (nI q) (nI p)) (hr)
  · rcases ix3 a2 6 (by first | decide | omega) with hq | hq | ⟨q, hq, rfl⟩
    · exact opI_mk (by decide) (by decide) (c_mid_w (c_sl_bb a1 (Or.inr (by first | exact hk | (rw [eln]; exact hk))) a2 (Or.inl hq) (nI p) 0)) (m_mid_b ln hln (by exact eln') a1 (Or.inr hk) a2 (nI p)) (hr)
    · exact opI_mk (by decide) (by decide) (c_mid_w (c_sl_bb a1 (Or.inr (by first | exact hk | (rw [eln]; exact hk))) a2 (Or.inr hq) (nI p) 0)) (m_mid_b ln hln (by exact eln') a1 (Or.inr hk) a2 (nI p)) (hr)
    · exact opI_mk (by decide) (by decide) (c_mid_w (c_sl_bo a1 (Or.inr (by first | exact hk | (rw [eln]; exact hk))) q hq (nI p) 0)) (m_mid_b ln hln (by exact eln') a1 (Or.inr hk) (nI q) (nI p)) (hr)
  · rcases ix3 a2 6 (by first | decide | omega) with hq | hq | ⟨q, hq, rfl⟩
    · exact opI_mk (by decide) (by decide) (c_mid_w (c_sl_ob ln hln eln k hk a2 (Or.inl hq) (nI p) 0)) (m_mid_ob ln hln (by exact eln') k hk a2 (Or.inl hq) (nI p)) (hr)
    · exact opI_mk (by decide) (by decide) (c_mid_w (c_sl_ob ln hln eln k hk a2 (Or.inr hq) (nI p) 0)) (m_mid_ob ln hln (by exact eln') k hk a2 (Or.inr hq) (nI p)) (hr)
    · rcases (hL q hq).2.1 with hz | ⟨n, hn, hz⟩
      · exact opI_mk (by decide) (by decide) (c_mid_w (c_sl_M ln hln eln k hk q hq ((hL q hq).1.trans hz) p hp 0)) (m_mid_M ln hln (by exact eln') k hk q hq (by exact hz) p hp) (RelR_found 1 hr)
      · by_cases hn8 : n < 1 ∨ 8 < n
        · exact opI_mk (by decide) (by decide) (c_mid_w (c_sl_S ln hln eln k hk q hq n (by rw [rm_row hq]; exact hn) ((hL q hq).1.trans hz) hn8 p hp 0)) (m_mid_S ln hln (by exact eln') k hk q hq n hn (by exact hz) hn8 p hp) (RelR_found 5 hr)
        · by_cases hok : ∀ i, i < n → okN (-6) (nI 6) (A 58 (40 * q + i))
          · have hokC : ∀ i, i < n → okN (-6) (nI 6) (A (21 + 2 * q) i) := fun i hi => by rw [(hL q hq).2.2 i (by omega)]; exact hok i hi
            have hg9 : ∀ i f, (fun r f => gnN b (mL A k) (nI f) ((rp st (A 9) d).1 + r)) i f ≤ 24 := fun i f => gnN_le (hl k (by omega)).1.2
            obtain ⟨hu, hlw, hl0, hd1, hd2⟩ := sv_fin (s0 := (rp st (A 9) d).2.1) (e := 0) (js := (fun x => tn (A 58 (40 * q + x) + nI 6))) hp hs (by decide) hg9 n (by omega)
            obtain ⟨g1, G, w, v, h9, hG9, _, _⟩ := c_sl_0 (X := X) (A := A) (J := J) (B := B) (F := F) hS b hb eb (rp st (A 9) d).1 n2 hm (rp st (A 9) d).2.1 n3 hs ln hln eln lks k hk q hq n (by rw [rm_row hq]; exact hn) ((hL q hq).1.trans hz) (by omega) (by omega) hokC p hp 0 (by decide) (fun x => tn (A 58 (40 * q + x) + nI 6)) (fun i hi => by rw [(hL q hq).2.2 i (by omega)]; exact sv_j (hok i hi))
            have hF9 := F_lt hG9
            rw [cLe k (by omega)] at h9
            obtain ⟨x1, x2, h10, _⟩ := m_mid_0 (X := X) (I := I) (A := ua A 12 g1) (J := uj (uj (uj J 16 3 (lN (12 ^ n))) 0 15 (lN ((if 0 = 0 then sv_gt (rp st (A 9) d).2.1 p 0 (fun x => tn (A 58 (40 * q + x) + nI 6)) (fun r f => gnN b (mL A k) (nI f) ((rp st (A 9) d).1 + r)) n else nsum (sv_wt (rp st (A 9) d).2.1 p 0 (fun x => tn (A 58 (40 * q + x) + nI 6)) (fun r f => gnN b (mL A k) (nI f) ((rp st (A 9) d).1 + r)) n) 24) / Nat.gcd (12 ^ n) (if 0 = 0 then sv_gt (rp st (A 9) d).2.1 p 0 (fun x => tn (A 58 (40 * q + x) + nI 6)) (fun r f => gnN b (mL A k) (nI f) ((rp st (A 9) d).1 + r)) n else nsum (sv_wt (rp st (A 9) d).2.1 p 0 (fun x => tn (A 58 (40 * q + x) + nI 6)) (fun r f => gnN b (mL A k) (nI f) ((rp st (A 9) d).1 + r)) n) 24)))) 0 16 (lN (12 ^ n / Nat.gcd (12 ^ n) (if 0 = 0 then sv_gt (rp st (A 9) d).2.1 p 0 (fun x => tn (A 58 (40 * q + x) + nI 6)) (fun r f => gnN b (mL A k) (nI f) ((rp st (A 9) d).1 + r)) n else nsum (sv_wt (rp st (A 9) d).2.1 p 0 (fun x => tn (A 58 (40 * q + x) + nI 6)) (fun r f => gnN b (mL A k) (nI f) ((rp st (A 9) d).1 + r)) n) 24)))) (B := ub (ub B (G 2) w) (G 3) v) (F := G) b hb eb' (rp st (A 9) d).1 (by exact q1) hm (rp st (A 9) d).2.1 (by exact q2) hs ln hln eln' (by exact hl) k hk q hq n hn (by exact hz) (by omega) (by omega) (by exact hok) p hp hu hlw hl0
            exact opI_mk (by decide) (by decide) (c_mid_w h9) (h10) (⟨ln, b, st, (by repeat first | exact hL | refine RelL_n4 ?_ | refine RelL_u2 (by omega) ?_ | refine RelL_ua (by omega) ?_), (by repeat first | exact hT | refine RelT_n4 ?_ | refine RelT_u2 (by omega) ?_ | refine RelT_ua (by omega) ?_), (by repeat first | exact hK | refine RelK_n4 ?_ | refine RelK_u2 (by omega) ?_ | refine RelK_ua (by omega) ?_), (by repeat first | exact hD | refine RelD_n4 ?_ | refine RelD_u2 (by omega) ?_), (by repeat first | exact hN | refine RelN_u2 (by omega) ?_ | refine RelN_ua (by omega) ?_), (by repeat first | exact hQ | refine RelQ_n4 ?_ | refine RelQ_u2 (by omega) ?_ | refine RelQ_ua (by omega) ?_), (by repeat first | exact hF | refine RelF_n4 ?_ | refine RelF_u2 (by omega) ?_ | refine RelF_ua (by omega) ?_), (by repeat first | exact hU | refine RelU_n4 ?_ | refine RelU_u2 (by omega) ?_), ⟨congrArg lN hd1, congrArg lN hd2⟩, hG9⟩)
          · exact opI_mk (by decide) (by decide) (c_mid_w (c_sl_U ln hln eln k hk q hq n (by rw [rm_row hq]; exact hn) ((hL q hq).1.trans hz) (by omega) (by omega) (fun w => hok (fun i hi => by have h7 := w i hi; rw [(hL q hq).2.2 i (by omega)] at h7; exact h7)) p hp 0)) (m_mid_U ln hln (by exact eln') k hk q hq n hn (by exact hz) (by omega) (by omega) (by exact hok) p hp) (RelR_found 3 hr)
set_option maxHeartbeats 4000000 in
theorem op_34 {X : XX} : Op_34 X RelR := by
  intro a1 a2 z I A J B F hr
  obtain ⟨ln, b, st, hL, hT, hK, hD, hN, hQ, hF, hU, hJ, hS⟩ := id hr
  obtain ⟨hln, hb, hst, eln, eln', eb, eb', e7, e7', hb1⟩ := id hD
  obtain ⟨d, hd, n1, q0, n2, n3, n9, q1, q2, q3, hp⟩ := id hN
  have hm : (rp st (A 9) d).1 ≤ 40 := Nat.le_trans (rp_1 st (A 9) d) hd
  have hs := rp_2 st (A 9) d
  have lks := RelK_lks hK
  have hl := RelK_hl hK
  have cLe := RelK_cL hK
  by_cases z0 : z < nI 0
  · rcases ix3 a1 ln (by first | decide | omega) with hk | hk | ⟨k, hk, rfl⟩
    · rcases ix3 a2 6 (by first | decide | omega) with hq | hq | ⟨q, hq, rfl⟩
      · exact opI_mk (by decide) (by decide) (c_odds_w (c_sl_bb a1 (Or.inl (by first | exact hk | (rw [eln]; exact hk))) a2 (Or.inl hq) z 1)) (m_odds_b ln hln (by exact eln') a1 (Or.inl hk) a2 z) (hr)
      · exact opI_mk (by decide) (by decide) (c_odds_w (c_sl_bb a1 (Or.inl (by first | exact hk | (rw [eln]; exact hk))) a2 (Or.inr hq) z 1)) (m_odds_b ln hln (by exact eln') a1 (Or.inl hk) a2 z) (hr)
      · exact opI_mk (by decide) (by decide) (c_odds_w (c_sl_bo a1 (Or.inl (by first | exact hk | (rw [eln]; exact hk))) q hq z 1)) (m_odds_b ln hln (by exact eln') a1 (Or.inl hk) (nI q) z) (hr)
    · rcases ix3 a2 6 (by first | decide | omega) with hq | hq | ⟨q, hq, rfl⟩
      · exact opI_mk (by decide) (by decide) (c_odds_w (c_sl_bb a1 (Or.inr (by first | exact hk | (rw [eln]; exact hk))) a2 (Or.inl hq) z 1)) (m_odds_b ln hln (by exact eln') a1 (Or.inr hk) a2 z) (hr)
      · exact opI_mk (by decide) (by decide) (c_odds_w (c_sl_bb a1 (Or.inr (by first | exact hk | (rw [eln]; exact hk))) a2 (Or.inr hq) z 1)) (m_odds_b ln hln (by exact eln') a1 (Or.inr hk) a2 z) (hr)
      · exact opI_mk (by decide) (by decide) (c_odds_w (c_sl_bo a1 (Or.inr (by first | exact hk | (rw [eln]; exact hk))) q hq z 1)) (m_odds_b ln hln (by exact eln') a1 (Or.inr hk) (nI q) z) (hr)
    · rcases ix3 a2 6 (by first | decide | omega) with hq | hq | ⟨q, hq, rfl⟩
      · exact opI_mk (by decide) (by decide) (c_odds_w (c_sl_ob ln hln eln k hk a2 (Or.inl hq) z 1)) (m_odds_ob ln hln (by exact eln') k hk a2 (Or.inl hq) z) (hr)
      · exact opI_mk (by decide) (by decide) (c_odds_w (c_sl_ob ln hln eln k hk a2 (Or.inr hq) z 1)) (m_odds_ob ln hln (by exact eln') k hk a2 (Or.inr hq) z) (hr)
      · exact opI_mk (by decide) (by decide) (c_odds_w (c_sl_p ln hln eln k hk q hq z 1 (Or.inl z0))) (m_odds_p ln hln (by exact eln') k hk q hq z (Or.inl z0)) (hr)
  by_cases z12 : nI 12 < z
  · rcases ix3 a1 ln (by first | decide | omega) with hk | hk | ⟨k, hk, rfl⟩
    · rcases ix3 a2 6 (by first | decide | omega) with hq | hq | ⟨q, hq, rfl⟩
      · exact opI_mk (by decide) (by decide) (c_odds_w (c_sl_bb a1 (Or.inl (by first | exact hk | (rw [eln]; exact hk))) a2 (Or.inl hq) z 1)) (m_odds_b ln hln (by exact eln') a1 (Or.inl hk) a2 z) (hr)
      · exact opI_mk (by decide) (by decide) (c_odds_w (c_sl_bb a1 (Or.inl (by first | exact hk | (rw [eln]; exact hk))) a2 (Or.inr hq) z 1)) (m_odds_b ln hln (by exact eln') a1 (Or.inl hk) a2 z) (hr)
      · exact opI_mk (by decide) (by decide) (c_odds_w (c_sl_bo a1 (Or.inl (by first | exact hk | (rw [eln]; exact hk))) q hq z 1)) (m_odds_b ln hln (by exact eln') a1 (Or.inl hk) (nI q) z) (hr)
    · rcases ix3 a2 6 (by first | decide | omega) with hq | hq | ⟨q, hq, rfl⟩
      · exact opI_mk (by decide) (by decide) (c_odds_w (c_sl_bb a1 (Or.inr (by first | exact hk | (rw [eln]; exact hk))) a2 (Or.inl hq) z 1)) (m_odds_b ln hln (by exact eln') a1 (Or.inr hk) a2 z) (hr)
      · exact opI_mk (by decide) (by decide) (c_odds_w (c_sl_bb a1 (Or.inr (by first | exact hk | (rw [eln]; exact hk))) a2 (Or.inr hq) z 1)) (m_odds_b ln hln (by exact eln') a1 (Or.inr hk) a2 z) (hr)
      · exact opI_mk (by decide) (by decide) (c_odds_w (c_sl_bo a1 (Or.inr (by first | exact hk | (rw [eln]; exact hk))) q hq z 1)) (m_odds_b ln hln (by exact eln') a1 (Or.inr hk) (nI q) z) (hr)
    · rcases ix3 a2 6 (by first | decide | omega) with hq | hq | ⟨q, hq, rfl⟩
      · exact opI_mk (by decide) (by decide) (c_odds_w (c_sl_ob ln hln eln k hk a2 (Or.inl hq) z 1)) (m_odds_ob ln hln (by exact eln') k hk a2 (Or.inl hq) z) (hr)
      · exact opI_mk (by decide) (by decide) (c_odds_w (c_sl_ob ln hln eln k hk a2 (Or.inr hq) z 1)) (m_odds_ob ln hln (by exact eln') k hk a2 (Or.inr hq) z) (hr)
      · exact opI_mk (by decide) (by decide) (c_odds_w (c_sl_p ln hln eln k hk q hq z 1 (Or.inr z12))) (m_odds_p ln hln (by exact eln') k hk q hq z (Or.inr z12)) (hr)
  obtain ⟨p, hp, rfl⟩ := nI_of2 (M := nI 12) (n := 12) rfl z0 (Int32.not_lt.mp z12)
  rcases ix3 a1 ln (by first | decide | omega) with hk | hk | ⟨k, hk, rfl⟩
  · rcases ix3 a2 6 (by first | decide | omega) with hq | hq | ⟨q, hq, rfl⟩
    · exact opI_mk (by decide) (by decide) (c_odds_w (c_sl_bb a1 (Or.inl (by first | exact hk | (rw [eln]; exact hk))) a2 (Or.inl hq) (nI p) 1)) (m_odds_b ln hln (by exact eln') a1 (Or.inl hk) a2 (nI p)) (hr)
    · exact opI_mk (by decide) (by decide) (c_odds_w (c_sl_bb a1 (Or.inl (by first | exact hk | (rw [eln]; exact hk))) a2 (Or.inr hq) (nI p) 1)) (m_odds_b ln hln (by exact eln') a1 (Or.inl hk) a2 (nI p)) (hr)
    · exact opI_mk (by decide) (by decide) (c_odds_w (c_sl_bo a1 (Or.inl (by first | exact hk | (rw [eln]; exact hk))) q hq (nI p) 1)) (m_odds_b ln hln (by exact eln') a1 (Or.inl hk) (nI q) (nI p)) (hr)
  · rcases ix3 a2 6 (by first | decide | omega) with hq | hq | ⟨q, hq, rfl⟩
    · exact opI_mk (by decide) (by decide) (c_odds_w (c_sl_bb a1 (Or.inr (by first | exact hk | (rw [eln]; exact hk))) a2 (Or.inl hq) (nI p) 1)) (m_odds_b ln hln (by exact eln') a1 (Or.inr hk) a2 (nI p)) (hr)
    · exact opI_mk (by decide) (by decide) (c_odds_w (c_sl_bb a1 (Or.inr (by first | exact hk | (rw [eln]; exact hk))) a2 (Or.inr hq) (nI p) 1)) (m_odds_b ln hln (by exact eln') a1 (Or.inr hk) a2 (nI p)) (hr)
    · exact opI_mk (by decide) (by decide) (c_odds_w (c_sl_bo a1 (Or.inr (by first | exact hk | (rw [eln]; exact hk))) q hq (nI p) 1)) (m_odds_b ln hln (by exact eln') a1 (Or.inr hk) (nI q) (nI p)) (hr)
  · rcases ix3 a2 6 (by first | decide | omega) with hq | hq | ⟨q, hq, rfl⟩
    · exact opI_mk (by decide) (by decide) (c_odds_w (c_sl_ob ln hln eln k hk a2 (Or.inl hq) (nI p) 1)) (m_odds_ob ln hln (by exact eln') k hk a2 (Or.inl hq) (nI p)) (hr)
    · exact opI_mk (by decide) (by decide) (c_odds_w (c_sl_ob ln hln eln k hk a2 (Or.inr hq) (nI p) 1)) (m_odds_ob ln hln (by exact eln') k hk a2 (Or.inr hq) (nI p)) (hr)
    · rcases (hL q hq).2.1 with hz | ⟨n, hn, hz⟩
      · exact opI_mk (by decide) (by decide) (c_odds_w (c_sl_M ln hln eln k hk q hq ((hL q hq).1.trans hz) p hp 1)) (m_odds_M ln hln (by exact eln') k hk q hq (by exact hz) p hp) (RelR_found 1 hr)
      · by_cases hn8 : n < 1 ∨ 8 < n
        · exact opI_mk (by decide) (by decide) (c_odds_w (c_sl_S ln hln eln k hk q hq n (by rw [rm_row hq]; exact hn) ((hL q hq).1.trans hz) hn8 p hp 1)) (m_odds_S ln hln (by exact eln') k hk q hq n hn (by exact hz) hn8 p hp) (RelR_found 5 hr)
        · by_cases hok : ∀ i, i < n → okN (-6) (nI 6) (A 58 (40 * q + i))
          · have hokC : ∀ i, i < n → okN (-6) (nI 6) (A (21 + 2 * q) i) := fun i hi => by rw [(hL q hq).2.2 i (by omega)]; exact hok i hi
            have hg9 : ∀ i f, (fun r f => gnN b (mL A k) (nI f) ((rp st (A 9) d).1 + r)) i f ≤ 24 := fun i f => gnN_le (hl k (by omega)).1.2
            obtain ⟨hu, hlw, hl0, hd1, hd2⟩ := sv_fin (s0 := (rp st (A 9) d).2.1) (e := 1) (js := (fun x => tn (A 58 (40 * q + x) + nI 6))) hp hs (by decide) hg9 n (by omega)
            obtain ⟨g1, G, w, v, h9, hG9, _, _⟩ := c_sl_0 (X := X) (A := A) (J := J) (B := B) (F := F) hS b hb eb (rp st (A 9) d).1 n2 hm (rp st (A 9) d).2.1 n3 hs ln hln eln lks k hk q hq n (by rw [rm_row hq]; exact hn) ((hL q hq).1.trans hz) (by omega) (by omega) hokC p hp 1 (by decide) (fun x => tn (A 58 (40 * q + x) + nI 6)) (fun i hi => by rw [(hL q hq).2.2 i (by omega)]; exact sv_j (hok i hi))
            have hF9 := F_lt hG9
            rw [cLe k (by omega)] at h9
            obtain ⟨x1, x2, h10, _⟩ := m_odds_0 (X := X) (I := I) (A := ua A 12 g1) (J := uj (uj (uj J 16 3 (lN (12 ^ n))) 0 15 (lN ((if 1 = 0 then sv_gt (rp st (A 9) d).2.1 p 1 (fun x => tn (A 58 (40 * q + x) + nI 6)) (fun r f => gnN b (mL A k) (nI f) ((rp st (A 9) d).1 + r)) n else nsum (sv_wt (rp st (A 9) d).2.1 p 1 (fun x => tn (A 58 (40 * q + x) + nI 6)) (fun r f => gnN b (mL A k) (nI f) ((rp st (A 9) d).1 + r)) n) 24) / Nat.gcd (12 ^ n) (if 1 = 0 then sv_gt (rp st (A 9) d).2.1 p 1 (fun x => tn (A 58 (40 * q + x) + nI 6)) (fun r f => gnN b (mL A k) (nI f) ((rp st (A 9) d).1 + r)) n else nsum (sv_wt (rp st (A 9) d).2.1 p 1 (fun x => tn (A 58 (40 * q + x) + nI 6)) (fun r f => gnN b (mL A k) (nI f) ((rp st (A 9) d).1 + r)) n) 24)))) 0 16 (lN (12 ^ n / Nat.gcd (12 ^ n) (if 1 = 0 then sv_gt (rp st (A 9) d).2.1 p 1 (fun x => tn (A 58 (40 * q + x) + nI 6)) (fun r f => gnN b (mL A k) (nI f) ((rp st (A 9) d).1 + r)) n else nsum (sv_wt (rp st (A 9) d).2.1 p 1 (fun x => tn (A 58 (40 * q + x) + nI 6)) (fun r f => gnN b (mL A k) (nI f) ((rp st (A 9) d).1 + r)) n) 24)))) (B := ub (ub B (G 2) w) (G 3) v) (F := G) b hb eb' (rp st (A 9) d).1 (by exact q1) hm (rp st (A 9) d).2.1 (by exact q2) hs ln hln eln' (by exact hl) k hk q hq n hn (by exact hz) (by omega) (by omega) (by exact hok) p hp hu hlw hl0
            exact opI_mk (by decide) (by decide) (c_odds_w h9) (h10) (⟨ln, b, st, (by repeat first | exact hL | refine RelL_n4 ?_ | refine RelL_u2 (by omega) ?_ | refine RelL_ua (by omega) ?_), (by repeat first | exact hT | refine RelT_n4 ?_ | refine RelT_u2 (by omega) ?_ | refine RelT_ua (by omega) ?_), (by repeat first | exact hK | refine RelK_n4 ?_ | refine RelK_u2 (by omega) ?_ | refine RelK_ua (by omega) ?_), (by repeat first | exact hD | refine RelD_n4 ?_ | refine RelD_u2 (by omega) ?_), (by repeat first | exact hN | refine RelN_u2 (by omega) ?_ | refine RelN_ua (by omega) ?_), (by repeat first | exact hQ | refine RelQ_n4 ?_ | refine RelQ_u2 (by omega) ?_ | refine RelQ_ua (by omega) ?_), (by repeat first | exact hF | refine RelF_n4 ?_ | refine RelF_u2 (by omega) ?_ | refine RelF_ua (by omega) ?_), (by repeat first | exact hU | refine RelU_n4 ?_ | refine RelU_u2 (by omega) ?_), ⟨congrArg lN hd1, congrArg lN hd2⟩, hG9⟩)
          · exact opI_mk (by decide) (by decide) (c_odds_w (c_sl_U ln hln eln k hk q hq n (by rw [rm_row hq]; exact hn) ((hL q hq).1.trans hz) (by omega) (by omega) (fun w => hok (fun i hi => by have h7 := w i hi; rw [(hL q hq).2.2 i (by omega)] at h7; exact h7)) p hp 1)) (m_odds_U ln hln (by exact eln') k hk q hq n hn (by exact hz) (by omega) (by omega) (by exact hok) p hp) (RelR_found 3 hr)
