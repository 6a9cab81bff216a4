/-! the order of lights: the reference whole -/
def OA (X : Nat → Nat → Int32) (w7 g w57 w58 : Nat → Int32) : Nat → Nat → Int32 := ua (ua (ua (ua X 67 w7) 63 g) 57 w57) 58 w58
section OAs
variable {X : Nat → Nat → Int32} {k b s r f : Nat → Int32}
theorem OA_67 : ua (OA X k b s r) 67 f = OA X f b s r := by
  unfold OA
  rw [ua_comm (c := 58) (d := 67) (by decide), ua_comm (c := 57) (d := 67) (by decide), ua_comm (c := 63) (d := 67) (by decide), ua_ua]
theorem OA_63 : ua (OA X k b s r) 63 f = OA X k f s r := by
  unfold OA
  rw [ua_comm (c := 58) (d := 63) (by decide), ua_comm (c := 57) (d := 63) (by decide), ua_ua]
theorem OA_57 : ua (OA X k b s r) 57 f = OA X k b f r := by
  unfold OA
  rw [ua_comm (c := 58) (d := 57) (by decide), ua_ua]
theorem OA_58 : ua (OA X k b s r) 58 f = OA X k b s f := by
  unfold OA
  rw [ua_ua]
theorem OA_ne {x : Nat} (h : x ≠ 67 ∧ x ≠ 63 ∧ x ≠ 57 ∧ x ≠ 58) : OA X k b s r x = X x := by
  unfold OA
  rw [ua_ne (by omega), ua_ne (by omega), ua_ne (by omega), ua_ne (by omega)]
theorem OA_0 : OA X k (X 63) (X 57) (X 58) = ua X 67 k := by
  unfold OA
  rw [ua_self (A := ua X 67 k) (c := 63) (f := X 63) rfl, ua_self (A := ua X 67 k) (c := 57) (f := X 57) rfl, ua_self (A := ua X 67 k) (c := 58) (f := X 58) rfl]
end OAs
theorem upd_upd2 {f : Nat → Int32} {k : Nat} {v w : Int32} : upd (upd f k v) k w = upd f k w := by
  funext x
  by_cases h : x = k
  · rw [h, pk_us, pk_us]
  · rw [pk_un h, pk_un h, pk_un h]
/-- the first least of the orders ahead of place x -/
def FX (e : List Nat → Nat) (n x : Nat) : Nat × List Nat := od_f e (100000, []) ((od_q n n 0).take x)
theorem od_f_app {e : List Nat → Nat} (l : List (List Nat)) (p : List Nat) : ∀ a, od_f e a (l ++ [p]) = if e p < (od_f e a l).1 then (e p, p) else od_f e a l := by
  induction l with
  | nil => exact fun a => rfl
  | cons x l ih => exact fun a => ih _
theorem take_s {l : List (List Nat)} {x : Nat} (h : x < l.length) : l.take (x + 1) = l.take x ++ [l.getD x []] := by
  rw [List.getD_eq_getElem?_getD, List.getElem?_eq_getElem h, Option.getD_some, List.take_append_getElem h]
theorem fx_s {e : List Nat → Nat} {n x : Nat} (h : x < (od_q n n 0).length) : FX e n (x + 1) = if e ((od_q n n 0).getD x []) < (FX e n x).1 then (e ((od_q n n 0).getD x []), (od_q n n 0).getD x []) else FX e n x := by
  unfold FX
  rw [take_s h, od_f_app]
theorem fx_n {e : List Nat → Nat} {n x : Nat} (h : x < (od_q n n 0).length) (h2 : (FX e n x).1 ≤ e ((od_q n n 0).getD x [])) : FX e n (x + 1) = FX e n x := (fx_s h).trans (if_neg (Nat.not_lt.mpr h2))
theorem fx_y {e : List Nat → Nat} {n x : Nat} (h : x < (od_q n n 0).length) (h2 : ¬ (FX e n x).1 ≤ e ((od_q n n 0).getD x [])) : FX e n (x + 1) = (e ((od_q n n 0).getD x []), (od_q n n 0).getD x []) := (fx_s h).trans (if_pos (Nat.not_le.mp h2))
theorem fx_le (e : List Nat → Nat) (n x : Nat) : (FX e n x).1 ≤ 100000 := (od_f_le _ _).1
def RS (q n : Nat) (a57 a58 w57 w58 : Nat → Int32) (P : Nat × List Nat) : Prop := (P.1 = 100000 ∧ w57 = a57 ∧ w58 = a58) ∨ (P.1 < 100000 ∧ w57 = upd a57 q (nI n) ∧ (∀ y, y < n → w58 (40 * q + y) = nI (P.2.getD y 0)) ∧ (∀ y, n ≤ y → y < 40 → w58 (40 * q + y) = 0) ∧ ∀ z, z < 40 * q ∨ 40 * q + 40 ≤ z → w58 z = a58 z)
theorem RS_57 {q n : Nat} {a57 a58 w57 w58 : Nat → Int32} {P : Nat × List Nat} (h : RS q n a57 a58 w57 w58 P) : upd w57 q (nI n) = upd a57 q (nI n) := by
  rcases h with h | h
  · rw [h.2.1]
  · rw [h.2.1, upd_upd2]
theorem RS_58 {q n z : Nat} {a57 a58 w57 w58 : Nat → Int32} {P : Nat × List Nat} (h : RS q n a57 a58 w57 w58 P) (hz : z < 40 * q ∨ 40 * q + 40 ≤ z) : w58 z = a58 z := by
  rcases h with h | h
  · rw [h.2.2]
  · exact h.2.2.2.2 z hz
theorem nxo {X : XX} {I A : Nat → Nat → Int32} {J B : Nat → Nat → Int64} {F : Nat → Nat} (n : Nat) (n1 : 1 ≤ n) (n5 : n < 6) (x : Nat) (hx : x < (od_q n n 0).length) (hA : ∀ y, y < n → A 67 y = nI (od_P n x y)) : ∃ (v : Nat) (w : Nat → Int32), x_ev X xT 1 222 [.ref 51, .int (nI n)] (HX I A J B F) (some (.int (nI v))) (HX I (ua A 67 w) J B F) ∧ v ≤ 1 ∧ (x + 1 < (od_q n n 0).length → v = 1 ∧ ∀ y, y < n → w y = nI (od_P n (x + 1) y)) ∧ (x + 1 = (od_q n n 0).length → v = 0) := by
  have hlt : ∀ y, y < n → od_P n x y < 32 := fun y hy => by
    have := (od_q0 n n5 n1).2.2.2 x hx y hy
    omega
  by_cases h : x + 1 < (od_q n n 0).length
  · obtain ⟨hk, hn⟩ := od_nx1 n n5 n1 x (by omega)
    obtain ⟨w, h1, h2⟩ := nxo_1 (X := X) (I := I) (A := A) (J := J) (B := B) (F := F) n n1 n5 (od_P n x) hA hlt hk
    exact ⟨1, w, h1, Nat.le_refl _, fun _ => ⟨rfl, fun y hy => by rw [h2 y hy, hn y hy]⟩, fun z => absurd z (by omega)⟩
  · have e : x = (od_q n n 0).length - 1 := by omega
    have hk := od_nx2 n n5 n1
    rw [← e] at hk
    have h1 := nxo_0 (X := X) (I := I) (A := A) (J := J) (B := B) (F := F) n n1 n5 (od_P n x) hA hlt hk
    refine ⟨0, A 67, ?_, by decide, fun z => absurd z h, fun _ => rfl⟩
    rw [ua_self (A := A) (c := 67) rfl]
    exact h1
theorem od_e_P {G : Nat → Nat → Nat → Nat} {c : Nat → Nat → Nat} {n x s : Nat} (hx : x < (od_q n n 0).length) : dpR 100000 (fun k f => G (od_P n x k) k f) c n n s = od_e G c ((od_q n n 0).getD x []) 0 s := by
  have hm : (od_q n n 0).getD x [] ∈ od_q n n 0 := by
    rw [List.getD_eq_getElem?_getD, List.getElem?_eq_getElem hx]
    exact List.getElem_mem hx
  have hl := od_q_len n 0 _ hm
  have h := od_e_dp (G := G) (c := c) (o := od_P n x) n ((od_q n n 0).getD x []) 0 s (by omega) (fun i hi => by
    unfold od_P
    rw [Nat.zero_add, List.getD_eq_getElem?_getD (l := (od_q n n 0).getD x []), List.getElem?_eq_getElem hi]
    rfl)
  rw [hl] at h
  exact h
theorem m_order_bad {X : XX} {I A : Nat → Nat → Int32} {J B : Nat → Nat → Int64} {F : Nat → Nat} (y : Int32) (hy : y < 0 ∨ 6 ≤ y) : x_ev X xT 6 224 [.ref 51, .int y] (HX I A J B F) (some (.int (-1))) (HX I A J B F) := by
  refine q_ev (L := [some (.ref 51), some (.int y), none, none, none, none]) tX9_order (Nat.le_of_ble_eq_true rfl) rfl ?_
  refine q_iload_n rfl rfl ?_
  refine q_callS1 rfl rfl (Nat.le_of_ble_eq_true rfl) (Nat.le_of_ble_eq_true rfl) (sX9_isRow_0 y hy) ?_
  refine q_if_neN rfl (by omega) (fun hc4 => ?_) (fun hc4 => ?_)
  · exact absurd hc4 (by decide)
  · refine q_iconst (v := (-1)) rfl rfl ?_
    refine q_iret rfl rfl ?_
    exact ⟨rfl, rfl⟩
theorem m_order_S {X : XX} {I A : Nat → Nat → Int32} {J B : Nat → Nat → Int64} {F : Nat → Nat} (q : Nat) (hr : q < 6) (e0 : I 51 3 = nI 0) : x_ev X xT 6 224 [.ref 51, .int (nI q)] (HX I A J B F) (some (.int (-4))) (HX I A J B F) := by
  refine q_ev (L := [some (.ref 51), some (.int (nI q)), none, none, none, none]) tX9_order (Nat.le_of_ble_eq_true rfl) rfl ?_
  refine q_iload_n rfl rfl ?_
  refine q_callS1 rfl rfl (Nat.le_of_ble_eq_true rfl) (Nat.le_of_ble_eq_true rfl) (sX9_isRow_1 q hr) ?_
  refine q_if_neN rfl (by omega) (fun hc4 => ?_) (fun hc4 => ?_)
  · refine q_aload_n rfl rfl ?_
    refine q_getI rfl hx_51 rfl (e0) ?_
    refine q_if_neN rfl (by omega) (fun hc13 => ?_) (fun hc13 => ?_)
    · exact absurd hc13 (by decide)
    · refine q_bipush (v := (-4)) rfl rfl ?_
      refine q_iret rfl rfl ?_
      exact ⟨rfl, rfl⟩
  · exact absurd hc4 (by decide)
set_option maxHeartbeats 2000000 in
theorem m_order_0 {X : XX} {I A : Nat → Nat → Int32} {J B : Nat → Nat → Int64} {F : Nat → Nat} (b : Nat) (hb : b ≤ 5) (eb : I 51 1 = nI b) (m : Nat) (em : A 52 1 = nI m) (hm : m ≤ 40) (s : Nat) (es : A 52 2 = nI s) (hs : s < 24) (st : Nat) (hst : st < 24) (est : I 51 2 = nI st) (hl : mLk A) (ln : Nat) (l1 : 1 ≤ ln) (l5 : ln ≤ 5) (eln : I 51 3 = nI ln) (q : Nat) (hr : q < 6)  : ∃ e4 w7 g w57 w58, x_ev X xT 6 224 [.ref 51, .int (nI q)] (HX I A J B F) (some (.int (if (FX (fun p => od_e (fun i k f => gnN b (mL A i) (nI f) (m + k)) (cN 0 st) p 0 s) ln (od_q ln ln 0).length).1 < 100000 then nI (FX (fun p => od_e (fun i k f => gnN b (mL A i) (nI f) (m + k)) (cN 0 st) p 0 s) ln (od_q ln ln 0).length).1 else -9))) (HX I (OA (ua A 64 e4) w7 g w57 w58) J B F) ∧ RS q ln (A 57) (A 58) w57 w58 (FX (fun p => od_e (fun i k f => gnN b (mL A i) (nI f) (m + k)) (cN 0 st) p 0 s) ln (od_q ln ln 0).length) := by
  obtain ⟨e4, he4, hE⟩ := sX9_layEfforts (X := X) (I := I) (J := J) (B := B) (F := F) (A := A) st hst est
  have hQ0 := od_q0 ln (by omega) l1
  obtain ⟨r_, h_, he_, e4, w7, g, w57, w58, hr_, hh_, hf_⟩ := q_evx (X := X) (d := 5) (as := [.ref 51, .int (nI q)]) (h := (HX I A J B F)) (P := fun r_ h_ => ∃ e4 w7 g w57 w58, r_ = (some (.int (if (FX (fun p => od_e (fun i k f => gnN b (mL A i) (nI f) (m + k)) (cN 0 st) p 0 s) ln (od_q ln ln 0).length).1 < 100000 then nI (FX (fun p => od_e (fun i k f => gnN b (mL A i) (nI f) (m + k)) (cN 0 st) p 0 s) ln (od_q ln ln 0).length).1 else -9))) ∧ h_ = (HX I (OA (ua A 64 e4) w7 g w57 w58) J B F) ∧ RS q ln (A 57) (A 58) w57 w58 (FX (fun p => od_e (fun i k f => gnN b (mL A i) (nI f) (m + k)) (cN 0 st) p 0 s) ln (od_q ln ln 0).length)) (L := [some (.ref 51), some (.int (nI q)), none, none, none, none]) tX9_order (Nat.le_of_ble_eq_true rfl) rfl (by
    refine q_iload_n rfl rfl ?_
    refine q_callS1 rfl rfl (Nat.le_of_ble_eq_true rfl) (Nat.le_of_ble_eq_true rfl) (sX9_isRow_1 q hr) ?_
    refine q_if_neN rfl (by omega) (fun hc4 => ?_) (fun hc4 => ?_)
    · refine q_aload_n rfl rfl ?_
      refine q_getI rfl hx_51 rfl (eln) ?_
      refine q_if_neN rfl (by omega) (fun hc13 => ?_) (fun hc13 => ?_)
      · refine q_aload_n rfl rfl ?_
        refine q_callV0 rfl hx_51 (Nat.le_of_ble_eq_true rfl) (Nat.le_of_ble_eq_true rfl) (he4) ?_
        refine q_iconst (v := nI 0) rfl rfl ?_
        refine q_istore_n (L' := [_, _, _, _, _, _]) rfl rfl ?_
        refine q_up (Inv := fun k L h => ∃ w7, L = [some (.ref 51), some (.int (nI q)), some (.int (nI k)), none, none, none] ∧ h = HX I (ua (ua A 64 e4) 67 w7) J B F ∧ ∀ y, y < k → w7 y = nI y) (ln) (fun k L h hk_k hi_k ih_k => ?_) (fun L h hi_k => ?_) (0) _ _ (by omega) (⟨A 67, rfl, by rw [ua_self (A := ua A 64 e4) (c := 67) (f := A 67) rfl], fun y hy => absurd hy (Nat.not_lt_zero y)⟩)
        · obtain ⟨w7, rfl, rfl, hw⟩ := hi_k
          refine q_iload_n rfl rfl ?_
          refine q_aload_n rfl rfl ?_
          refine q_getI rfl hx_51 rfl (eln) ?_
          refine q_icmp_geN rfl (by omega) (by omega) (fun hcks30 => ?_) (fun hcks30 => ?_)
          · omega
          · refine q_aload_n rfl rfl ?_
            refine q_getfield rfl hx_51 rfl ?_
            refine q_iload_n rfl rfl ?_
            refine q_iload_n rfl rfl ?_
            refine q_iastN rfl hx_67 (by omega) (by decide) ?_
            refine q_heap (ha_67 _) ?_
            refine q_iincN (c := 1) (L' := [_, _, _, _, _, _]) rfl rfl rfl rfl ?_
            refine q_goto rfl ?_
            exact ih_k _ _ (⟨_, rfl, by rw [ua_ua, ua_eq], fun y hy => by by_cases e9 : y = k; subst e9; exact pk_us; rw [pk_un e9]; exact hw y (by omega)⟩)
        · obtain ⟨w7, rfl, rfl, hw⟩ := hi_k
          refine q_iload_n rfl rfl ?_
          refine q_aload_n rfl rfl ?_
          refine q_getI rfl hx_51 rfl (eln) ?_
          refine q_icmp_geN rfl (by omega) (by omega) (fun hckf30 => ?_) (fun hckf30 => ?_)
          · refine q_ldc (v := nI 100000) rfl rfl ?_
            refine q_istore_n (L' := [_, _, _, _, _, _]) rfl rfl ?_
            refine q_iconst (v := nI 1) rfl rfl ?_
            refine q_istore_n (L' := [_, _, _, _, _, _]) rfl rfl ?_
            refine q_up (Inv := fun x L h => ∃ w7 g w57 w58 v z4 z5, L = [some (.ref 51), some (.int (nI q)), some (.int (nI (FX (fun p => od_e (fun i k f => gnN b (mL A i) (nI f) (m + k)) (cN 0 st) p 0 s) ln x).1)), some (.int (nI v)), z4, z5] ∧ h = HX I (OA (ua A 64 e4) w7 g w57 w58) J B F ∧ (x < (od_q ln ln 0).length → v = 1 ∧ ∀ y, y < ln → w7 y = nI (od_P ln x y)) ∧ (x = (od_q ln ln 0).length → v = 0) ∧ v ≤ 1 ∧ RS q ln (A 57) (A 58) w57 w58 (FX (fun p => od_e (fun i k f => gnN b (mL A i) (nI f) (m + k)) (cN 0 st) p 0 s) ln x)) ((od_q ln ln 0).length) (fun x L h hk_x hi_x ih_x => ?_) (fun L h hi_x => ?_) (0) _ _ (by omega) (⟨w7, A 63, A 57, A 58, 1, _, _, rfl, by rw [show OA (ua A 64 e4) w7 (A 63) (A 57) (A 58) = ua (ua A 64 e4) 67 w7 from OA_0], fun _ => ⟨rfl, fun y hy => by rw [hw y hy, hQ0.2.2.1 y hy]⟩, fun z => absurd z (by omega), Nat.le_refl _, Or.inl ⟨rfl, rfl, rfl⟩⟩)
            · obtain ⟨w7, g, w57, w58, v, z4, z5, rfl, rfl, hv1, hv0, hvl, hRS⟩ := hi_x
              refine q_iload_n rfl rfl ?_
              refine q_if_eqN rfl (by omega) (fun hcxs52 => ?_) (fun hcxs52 => ?_)
              · (have h1 := (hv1 hk_x).1; omega)
              · refine q_aload_n rfl rfl ?_
                obtain ⟨rfl, hw7⟩ := hv1 hk_x
                obtain ⟨g2, hoe, _⟩ := sX9_orderEffort (X := X) (I := I) (A := (OA (ua A 64 e4) w7 g w57 w58)) (J := J) (B := B) (F := F) b hb eb m (by exact em) hm s (by exact es) hs (by exact hl) st (by exact hE) ln l1 l5 eln (od_P ln x) (fun k hk => ⟨hQ0.2.2.2 x hk_x k hk, hw7 k hk⟩)
                have hle := od_e_le (g := (fun i k f => gnN b (mL A i) (nI f) (m + k))) (c := cN 0 st) ((od_q ln ln 0).getD x []) 0 s
                have hfl := fx_le (fun p => od_e (fun i k f => gnN b (mL A i) (nI f) (m + k)) (cN 0 st) p 0 s) ln x
                refine q_callV0 rfl hx_51 (Nat.le_of_ble_eq_true rfl) (Nat.le_of_ble_eq_true rfl) (hoe) ?_
                refine q_cn (show _ = nI (od_e (fun i k f => gnN b (mL A i) (nI f) (m + k)) (cN 0 st) ((od_q ln ln 0).getD x []) 0 s) from congrArg nI (od_e_P (G := (fun i k f => gnN b (mL A i) (nI f) (m + k))) hk_x)) ?_
                refine q_heap (congrArg (fun z => HX I z J B F) OA_63) ?_
                refine q_istore (L' := [_, _, _, _, _, _]) rfl rfl ?_
                refine q_iload rfl rfl ?_
                refine q_iload_n rfl rfl ?_
                refine q_icmp_geN rfl (by omega) (by omega) (fun hcxs64 => ?_) (fun hcxs64 => ?_)
                · refine q_aload_n rfl rfl ?_
                  refine q_aload_n rfl rfl ?_
                  refine q_getI rfl hx_51 rfl (eln) ?_
                  obtain ⟨v2, w2, hnx, hv2, hn1, hn2⟩ := nxo (X := X) (I := I) (A := (OA (ua A 64 e4) w7 g2 w57 w58)) (J := J) (B := B) (F := F) ln l1 (by omega) x hk_x (by exact hw7)
                  refine q_callV1 rfl hx_51 (Nat.le_of_ble_eq_true rfl) (Nat.le_of_ble_eq_true rfl) (hnx) ?_
                  refine q_heap (congrArg (fun z => HX I z J B F) OA_67) ?_
                  refine q_istore_n (L' := [_, _, _, _, _, _]) rfl rfl ?_
                  refine q_goto rfl ?_
                  exact ih_x _ _ (⟨w2, g2, w57, w58, v2, _, _, by rw [fx_n hk_x hcxs64], rfl, hn1, hn2, hv2, by rw [fx_n hk_x hcxs64]; exact hRS⟩)
                · refine q_iload rfl rfl ?_
                  refine q_istore_n (L' := [_, _, _, _, _, _]) rfl rfl ?_
                  refine q_aload_n rfl rfl ?_
                  refine q_iload_n rfl rfl ?_
                  refine q_aload_n rfl rfl ?_
                  refine q_getI rfl hx_51 rfl (eln) ?_
                  refine q_callV2 rfl hx_51 (Nat.le_of_ble_eq_true rfl) (Nat.le_of_ble_eq_true rfl) (sX9_makeRow q hr _) ?_
                  refine q_heap (congrArg (fun z => HX I z J B F) ((congrArg (fun z => ua z 58 _) OA_57).trans OA_58)) ?_
                  refine q_iconst (v := nI 0) rfl rfl ?_
                  refine q_istore (L' := [_, _, _, _, _, _]) rfl rfl ?_
                  refine q_up (Inv := fun k L h => ∃ w8, L = [some (.ref 51), some (.int (nI q)), some (.int (nI (od_e (fun i k f => gnN b (mL A i) (nI f) (m + k)) (cN 0 st) ((od_q ln ln 0).getD x []) 0 s))), some (.int (nI 1)), some (.int (nI (od_e (fun i k f => gnN b (mL A i) (nI f) (m + k)) (cN 0 st) ((od_q ln ln 0).getD x []) 0 s))), some (.int (nI k))] ∧ h = HX I (OA (ua A 64 e4) w7 g2 (upd w57 q (nI ln)) w8) J B F ∧ (∀ y, y < k → w8 (40 * q + y) = nI (od_P ln x y)) ∧ (∀ y, k ≤ y → y < 40 → w8 (40 * q + y) = 0) ∧ ∀ z, z < 40 * q ∨ 40 * q + 40 ≤ z → w8 z = w58 z) (ln) (fun k L h hk_k hi_k ih_k => ?_) (fun L h hi_k => ?_) (0) _ _ (by omega) (⟨_, rfl, rfl, fun y hy => absurd hy (Nat.not_lt_zero y), fun y _ hy => by show f_fill w58 0 (40 * q) 40 (40 * q + y) = 0; unfold f_fill; rw [if_pos (by omega)], fun z hz => by show f_fill w58 0 (40 * q) 40 z = w58 z; unfold f_fill; rw [if_neg (by omega)]⟩)
                  · obtain ⟨w8, rfl, rfl, h8a, h8b, h8c⟩ := hi_k
                    refine q_iload rfl rfl ?_
                    refine q_aload_n rfl rfl ?_
                    refine q_getI rfl hx_51 rfl (eln) ?_
                    refine q_icmp_geN rfl (by omega) (by omega) (fun hcks88 => ?_) (fun hcks88 => ?_)
                    · omega
                    · refine q_aload_n rfl rfl ?_
                      refine q_getfield rfl hx_51 rfl ?_
                      refine q_bipush (v := nI 40) rfl rfl ?_
                      refine q_iload_n rfl rfl ?_
                      refine q_imulN rfl ?_
                      refine q_iload rfl rfl ?_
                      refine q_iaddN rfl ?_
                      refine q_aload_n rfl rfl ?_
                      refine q_getfield rfl hx_51 rfl ?_
                      refine q_iload rfl rfl ?_
                      refine q_iald rfl (by decide) hx_67 (by omega) (by decide) ((show OA (ua A 64 e4) w7 g2 (upd w57 q (nI ln)) w8 67 k = nI (od_P ln x k) from hw7 k hk_k)) ?_
                      refine q_iastN rfl hx_58 (by omega) (by decide) ?_
                      refine q_heap (ha_58 _) ?_
                      refine q_iincN (c := 1) (L' := [_, _, _, _, _, _]) rfl rfl rfl rfl ?_
                      refine q_goto rfl ?_
                      exact ih_k _ _ (⟨_, rfl, congrArg (fun z => HX I z J B F) OA_58, fun y hy => by by_cases e9 : y = k; subst e9; exact pk_us; rw [pk_un (by omega)]; exact h8a y (by omega), fun y hy hy2 => by rw [pk_un (by omega)]; exact h8b y (by omega) hy2, fun z hz => by rw [pk_un (by omega)]; exact h8c z hz⟩)
                  · obtain ⟨w8, rfl, rfl, h8a, h8b, h8c⟩ := hi_k
                    refine q_iload rfl rfl ?_
                    refine q_aload_n rfl rfl ?_
                    refine q_getI rfl hx_51 rfl (eln) ?_
                    refine q_icmp_geN rfl (by omega) (by omega) (fun hckf88 => ?_) (fun hckf88 => ?_)
                    · refine q_aload_n rfl rfl ?_
                      refine q_aload_n rfl rfl ?_
                      refine q_getI rfl hx_51 rfl (eln) ?_
                      obtain ⟨v2, w2, hnx, hv2, hn1, hn2⟩ := nxo (X := X) (I := I) (A := (OA (ua A 64 e4) w7 g2 (upd w57 q (nI ln)) w8)) (J := J) (B := B) (F := F) ln l1 (by omega) x hk_x (by exact hw7)
                      refine q_callV1 rfl hx_51 (Nat.le_of_ble_eq_true rfl) (Nat.le_of_ble_eq_true rfl) (hnx) ?_
                      refine q_heap (congrArg (fun z => HX I z J B F) OA_67) ?_
                      refine q_istore_n (L' := [_, _, _, _, _, _]) rfl rfl ?_
                      refine q_goto rfl ?_
                      exact ih_x _ _ (⟨w2, g2, upd w57 q (nI ln), w8, v2, _, _, by rw [fx_y hk_x hcxs64], rfl, hn1, hn2, hv2, by rw [fx_y hk_x hcxs64]; exact Or.inr ⟨by show (od_e (fun i k f => gnN b (mL A i) (nI f) (m + k)) (cN 0 st) ((od_q ln ln 0).getD x []) 0 s) < 100000; omega, RS_57 hRS, h8a, h8b, fun z hz => (h8c z hz).trans (RS_58 hRS hz)⟩⟩)
                    · omega
            · obtain ⟨w7, g, w57, w58, v, z4, z5, rfl, rfl, hv1, hv0, hvl, hRS⟩ := hi_x
              refine q_iload_n rfl rfl ?_
              refine q_if_eqN rfl (by omega) (fun hcxf52 => ?_) (fun hcxf52 => ?_)
              · refine q_iload_n rfl rfl ?_
                refine q_ldc (v := nI 100000) rfl rfl ?_
                refine q_icmp_ltN rfl (by have := fx_le (fun p => od_e (fun i k f => gnN b (mL A i) (nI f) (m + k)) (cN 0 st) p 0 s) ln (od_q ln ln 0).length; omega) (by omega) (fun hcxf131 => ?_) (fun hcxf131 => ?_)
                · refine q_iload_n rfl rfl ?_
                  refine q_iret rfl rfl ?_
                  exact ⟨e4, w7, g, w57, w58, by first | rw [if_pos hcxf131] | rw [if_neg hcxf131], rfl, hRS⟩
                · refine q_bipush (v := (-9)) rfl rfl ?_
                  refine q_goto rfl ?_
                  refine q_iret rfl rfl ?_
                  exact ⟨e4, w7, g, w57, w58, by first | rw [if_pos hcxf131] | rw [if_neg hcxf131], rfl, hRS⟩
              · (have h1 := hv0 rfl; omega)
          · omega
      · omega
    · exact absurd hc4 (by decide))
  subst hr_
  subst hh_
  exact ⟨e4, w7, g, w57, w58, he_, hf_⟩
