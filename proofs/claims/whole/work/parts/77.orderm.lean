/-! the order of lights: the reference -/
theorem od_e_dp {G : Nat → Nat → Nat → Nat} {c : Nat → Nat → Nat} {o : Nat → Nat} (n : Nat) : ∀ (q : List Nat) (k s : Nat), k + q.length = n → (∀ i, (h : i < q.length) → q[i] = o (k + i)) → dpR 100000 (fun k f => G (o k) k f) c n q.length s = od_e G c q k s := by
  intro q
  induction q with
  | nil => exact fun k s _ _ => rfl
  | cons i q ih =>
    intro k s hk ho
    have hk2 : k + (q.length + 1) = n := hk
    have h0 : i = o k := ho 0 (Nat.succ_pos _)
    show lMn 100000 (fun k f => G (o k) k f) c (dpR 100000 (fun k f => G (o k) k f) c n q.length) (n - (q.length + 1)) s 13 = lMn 100000 (G i) c (od_e G c q (k + 1)) k s 13
    rw [show n - (q.length + 1) = k by omega]
    have h1 : dpR 100000 (fun k f => G (o k) k f) c n q.length = od_e G c q (k + 1) := by
      funext s
      refine ih (k + 1) s (by omega) (fun j hj => ?_)
      have h2 := ho (j + 1) (Nat.succ_lt_succ hj)
      rw [show k + 1 + j = k + (j + 1) by omega]
      exact h2
    rw [h1]
    have h3 : ∀ j, lMn 100000 (fun k f => G (o k) k f) c (od_e G c q (k + 1)) k s j = lMn 100000 (G i) c (od_e G c q (k + 1)) k s j := by
      intro j
      induction j with
      | zero => rfl
      | succ j ihj =>
        show min _ _ = min _ _
        rw [ihj]
        refine congrArg (min _) ?_
        unfold lBk
        rw [h0]
    exact h3 13
def nx_k (f : Nat → Nat) : Nat → Nat
  | 0 => 0
  | k + 1 => if f (k + 1) < f k then nx_k f k else k + 1
def nx_l (f : Nat → Nat) (k : Nat) : Nat → Nat
  | 0 => 0
  | l + 1 => if f (l + 1) < f k then nx_l f k l else l + 1
def nx_u (f : Nat → Nat) (i v : Nat) : Nat → Nat := fun x => if x = i then v else f x
def nx_r (f : Nat → Nat) (i j t : Nat) : Nat → Nat := fun x => if (i ≤ x ∧ x < i + t) ∨ (x ≤ j ∧ j < x + t) then f (i + j - x) else f x
def nx_s (n : Nat) (f : Nat → Nat) : Nat → Nat := nx_u (nx_u f (nx_k f (n - 1) - 1) (f (nx_l f (nx_k f (n - 1) - 1) (n - 1)))) (nx_l f (nx_k f (n - 1) - 1) (n - 1)) (f (nx_k f (n - 1) - 1))
def nx (n : Nat) (f : Nat → Nat) : Nat → Nat := nx_r (nx_s n f) (nx_k f (n - 1)) (n - 1) ((n - nx_k f (n - 1)) / 2)
def od_P (n x y : Nat) : Nat := ((od_q n n 0).getD x []).getD y 0
theorem od_nx1 : ∀ n, n < 6 → 1 ≤ n → ∀ x, x < (od_q n n 0).length - 1 → ¬ nx_k (od_P n x) (n - 1) = 0 ∧ ∀ y, y < n → nx n (od_P n x) y = od_P n (x + 1) y := by decide +kernel
theorem od_nx2 : ∀ n, n < 6 → 1 ≤ n → nx_k (od_P n ((od_q n n 0).length - 1)) (n - 1) = 0 := by decide +kernel
theorem od_q0 : ∀ n, n < 6 → 1 ≤ n → (od_q n n 0).length ≤ 120 ∧ 0 < (od_q n n 0).length ∧ (∀ y, y < n → od_P n 0 y = y) ∧ (∀ x, x < (od_q n n 0).length → ∀ y, y < n → od_P n x y < n) := by decide +kernel
theorem od_qs : ∀ n, n < 6 → 1 ≤ n → (od_q n n 0).Pairwise (fun p q => od_n p ≤ od_n q) ∧ ∀ p, p ∈ od_q n n 0 → od_n p < 32768 ∧ ∀ k, k < n → od_n p / 2 ^ (3 * (n - 1 - k)) % 8 = p.getD k 0 := by decide +kernel
set_option maxHeartbeats 1000000 in
theorem sX9_orderEffort {X : XX} {I A : Nat → Nat → Int32} {J B : Nat → Nat → Int64} {F : Nat → Nat} (b : Nat) (hb : b ≤ 5) (eb : I 51 1 = nI b) (m : Nat) (em : A 52 1 = nI m) (hm : m ≤ 40) (s : Nat) (es : A 52 2 = nI s) (hs : s < 24) (hl : mLk A) (st : Nat) (hE : EV st A) (ln : Nat) (l1 : 1 ≤ ln) (l5 : ln ≤ 5) (eln : I 51 3 = nI ln) (o : Nat → Nat) (ho : ∀ k, k < ln → o k < ln ∧ A 67 k = nI (o k)) : ∃ g, x_ev X xT 5 223 [.ref 51] (HX I A J B F) (some (.int (nI (dpR 100000 (fun k f => gnN b (mL A (o k)) (nI f) (m + k)) (cN 0 st) ln ln s)))) (HX I (ua A 63 g) J B F) ∧ True := by
  obtain ⟨r_, h_, he_, g, hr_, hh_, hf_⟩ := q_evx (X := X) (d := 4) (as := [.ref 51]) (h := (HX I A J B F)) (P := fun r_ h_ => ∃ g, r_ = (some (.int (nI (dpR 100000 (fun k f => gnN b (mL A (o k)) (nI f) (m + k)) (cN 0 st) ln ln s)))) ∧ h_ = (HX I (ua A 63 g) J B F) ∧ True) (L := [some (.ref 51), none, none, none, none]) tX9_orderEffort (Nat.le_of_ble_eq_true rfl) rfl (by
    refine q_iconst (v := nI 0) rfl rfl ?_
    refine q_istore_n (L' := [_, _, _, _, _]) rfl rfl ?_
    refine q_up (Inv := fun x L h => ∃ g, L = [some (.ref 51), some (.int (nI x)), none, none, none] ∧ h = HX I (ua A 63 g) J B F ∧ ∀ f, f < x → g (24 * ln + f) = nI 0) (24) (fun x L h hk_x hi_x ih_x => ?_) (fun L h hi_x => ?_) (0) _ _ (by omega) (⟨A 63, rfl, by rw [ua_self rfl], fun f hf => absurd hf (Nat.not_lt_zero f)⟩)
    · obtain ⟨g, rfl, rfl, hg0⟩ := hi_x
      refine q_iload_n rfl rfl ?_
      refine q_bipush (v := nI 24) rfl rfl ?_
      refine q_icmp_geN rfl (by omega) (by omega) (fun hcxs5 => ?_) (fun hcxs5 => ?_)
      · omega
      · refine q_aload_n rfl rfl ?_
        refine q_getfield rfl hx_51 rfl ?_
        refine q_bipush (v := nI 24) rfl rfl ?_
        refine q_aload_n rfl rfl ?_
        refine q_getI rfl hx_51 rfl (eln) ?_
        refine q_imulN rfl ?_
        refine q_iload_n rfl rfl ?_
        refine q_iaddN rfl ?_
        refine q_iconst (v := nI 0) rfl rfl ?_
        refine q_iastN rfl hx_63 (by omega) (by decide) ?_
        refine q_heap (ha_63 _) ?_
        refine q_iincN (c := 1) (L' := [_, _, _, _, _]) rfl rfl rfl rfl ?_
        refine q_goto rfl ?_
        exact ih_x _ _ (⟨_, rfl, by rw [ua_ua, ua_eq], fun f hf => by by_cases e : f = x; subst e; exact pk_us; rw [pk_un (by omega)]; exact hg0 f (by omega)⟩)
    · obtain ⟨g, rfl, rfl, hg0⟩ := hi_x
      refine q_iload_n rfl rfl ?_
      refine q_bipush (v := nI 24) rfl rfl ?_
      refine q_icmp_geN rfl (by omega) (by omega) (fun hcxf5 => ?_) (fun hcxf5 => ?_)
      · refine q_aload_n rfl rfl ?_
        refine q_getI rfl hx_51 rfl (eln) ?_
        refine q_iconst (v := nI 1) rfl rfl ?_
        refine q_isubN rfl (l1) ?_
        refine q_istore_n (L' := [_, _, _, _, _]) rfl rfl ?_
        refine q_dn (Inv := fun k L h => ∃ g z2 z3 z4, L = [some (.ref 51), some (.int (dI k)), z2, z3, z4] ∧ h = HX I (ua A 63 g) J B F ∧ (∀ q, q ≤ ln → k ≤ ln - q → ∀ f, f < 24 → g (24 * (ln - q) + f) = nI (dpR 100000 (fun k f => gnN b (mL A (o k)) (nI f) (m + k)) (cN 0 st) ln q f))) (ln) (fun k L h hk_k hi_k ih_k => ?_) (fun L h hi_k => ?_) (ln) _ _ (by omega) (⟨g, _, _, _, by rw [show nI (ln - 1) = dI ln from (by rw [← dI_s, show ln - 1 + 1 = ln by omega])], rfl, fun q hq hk f hf => by have e0 : q = 0 := (by omega); subst e0; exact hg0 f hf⟩)
        · obtain ⟨g, z2, z3, z4, rfl, rfl, hg⟩ := hi_k
          rw [dI_s]
          refine q_iload_n rfl rfl ?_
          refine q_if_ltN rfl (by omega) (fun hcks37 => ?_) (fun hcks37 => ?_)
          · omega
          · refine q_iconst (v := nI 0) rfl rfl ?_
            refine q_istore_n (L' := [_, _, _, _, _]) rfl rfl ?_
            refine q_up (Inv := fun x L h => ∃ g z3 z4, L = [some (.ref 51), some (.int (nI k)), some (.int (nI x)), z3, z4] ∧ h = HX I (ua A 63 g) J B F ∧ (∀ q, q ≤ ln → k + 1 ≤ ln - q → ∀ f, f < 24 → g (24 * (ln - q) + f) = nI (dpR 100000 (fun k f => gnN b (mL A (o k)) (nI f) (m + k)) (cN 0 st) ln q f)) ∧ ∀ f, f < x → g (24 * k + f) = nI (lMn 100000 (fun k f => gnN b (mL A (o k)) (nI f) (m + k)) (cN 0 st) (dpR 100000 (fun k f => gnN b (mL A (o k)) (nI f) (m + k)) (cN 0 st) ln (ln - (k + 1))) k f 13)) (24) (fun x L h hk_x hi_x ih_x => ?_) (fun L h hi_x => ?_) (0) _ _ (by omega) (⟨g, _, _, rfl, rfl, hg, fun f hf => absurd hf (Nat.not_lt_zero f)⟩)
            · obtain ⟨g, z3, z4, rfl, rfl, hg, hg2⟩ := hi_x
              refine q_iload_n rfl rfl ?_
              refine q_bipush (v := nI 24) rfl rfl ?_
              refine q_icmp_geN rfl (by omega) (by omega) (fun hcxs45 => ?_) (fun hcxs45 => ?_)
              · omega
              · refine q_aload_n rfl rfl ?_
                refine q_getfield rfl hx_51 rfl ?_
                refine q_bipush (v := nI 24) rfl rfl ?_
                refine q_iload_n rfl rfl ?_
                refine q_imulN rfl ?_
                refine q_iload_n rfl rfl ?_
                refine q_iaddN rfl ?_
                refine q_ldc (v := nI 100000) rfl rfl ?_
                refine q_iastN rfl hx_63 (by omega) (by decide) ?_
                refine q_heap (ha_63 _) ?_
                refine q_bipush (v := (-6)) rfl rfl ?_
                refine q_istore_n (L' := [_, _, _, _, _]) rfl rfl ?_
                refine q_up (Inv := fun j L h => ∃ g z4, L = [some (.ref 51), some (.int (nI k)), some (.int (nI x)), some (.int (sI 6 j)), z4] ∧ h = HX I (ua A 63 g) J B F ∧ (∀ q, q ≤ ln → k + 1 ≤ ln - q → ∀ f, f < 24 → g (24 * (ln - q) + f) = nI (dpR 100000 (fun k f => gnN b (mL A (o k)) (nI f) (m + k)) (cN 0 st) ln q f)) ∧ (∀ f, f < x → g (24 * k + f) = nI (lMn 100000 (fun k f => gnN b (mL A (o k)) (nI f) (m + k)) (cN 0 st) (dpR 100000 (fun k f => gnN b (mL A (o k)) (nI f) (m + k)) (cN 0 st) ln (ln - (k + 1))) k f 13)) ∧ g (24 * k + x) = nI (lMn 100000 (fun k f => gnN b (mL A (o k)) (nI f) (m + k)) (cN 0 st) (dpR 100000 (fun k f => gnN b (mL A (o k)) (nI f) (m + k)) (cN 0 st) ln (ln - (k + 1))) k x j)) (13) (fun j L h hk_j hi_j ih_j => ?_) (fun L h hi_j => ?_) (0) _ _ (by omega) (⟨upd g (24 * k + x) (nI 100000), _, rfl, by rw [ua_ua, ua_eq], fun q hq hki f hf => by rw [pk_un (by omega)]; exact hg q hq hki f hf, fun f hf => by rw [pk_un (by omega)]; exact hg2 f hf, pk_us⟩)
                · obtain ⟨g, z4, rfl, rfl, hg, hg2, hg3⟩ := hi_j
                  refine q_iload_n rfl rfl ?_
                  refine q_bipush (v := nI 7) rfl rfl ?_
                  refine q_icmp_ge rfl (fun hcjs67 => ?_) (fun hcjs67 => ?_)
                  · exact absurd ((sI_lt (c := 6) (m := 7) (by omega) (by omega) (by omega)).mpr (by omega)) (Int32.not_lt.mpr hcjs67)
                  · refine q_aload_n rfl rfl ?_
                    refine q_aload_n rfl rfl ?_
                    refine q_getfield rfl hx_51 rfl ?_
                    refine q_iload_n rfl rfl ?_
                    refine q_iald rfl (by decide) hx_67 (by omega) (by decide) ((show ua A 63 g 67 k = nI (o k) from (ho k hk_k).2)) ?_
                    refine q_iload_n rfl rfl ?_
                    refine q_iload_n rfl rfl ?_
                    refine q_iload_n rfl rfl ?_
                    refine q_iconst (v := nI 0) rfl rfl ?_
                    refine q_callV5 rfl hx_51 (Nat.le_of_ble_eq_true rfl) (Nat.le_of_ble_eq_true rfl) (sX9_onBy b hb (by exact eb) m (by exact em) hm (o k) (by have := (ho k hk_k).1; omega) (by exact hl) st (by exact hE) k x j 0 ((dpR 100000 (fun k f => gnN b (mL A (o k)) (nI f) (m + k)) (cN 0 st) ln (ln - (k + 1)) (tN x j))) (by omega) hk_x (by omega) (by decide) (by rw [ua_eq]; have h7 := hg (ln - (k + 1)) (by omega) (by omega) (tN x j) (tN_lt x j); rw [show ln - (ln - (k + 1)) = k + 1 by omega] at h7; exact h7)) ?_
                    refine q_cn (show _ = nI (lBk 100000 (fun k f => gnN b (mL A (o k)) (nI f) (m + k)) (cN 0 st) (dpR 100000 (fun k f => gnN b (mL A (o k)) (nI f) (m + k)) (cN 0 st) ln (ln - (k + 1))) k x j) from rfl) ?_
                    refine q_istore (L' := [_, _, _, _, _]) rfl rfl ?_
                    refine q_aload_n rfl rfl ?_
                    refine q_getfield rfl hx_51 rfl ?_
                    refine q_bipush (v := nI 24) rfl rfl ?_
                    refine q_iload_n rfl rfl ?_
                    refine q_imulN rfl ?_
                    refine q_iload_n rfl rfl ?_
                    refine q_iaddN rfl ?_
                    refine q_iload rfl rfl ?_
                    refine q_aload_n rfl rfl ?_
                    refine q_getfield rfl hx_51 rfl ?_
                    refine q_bipush (v := nI 24) rfl rfl ?_
                    refine q_iload_n rfl rfl ?_
                    refine q_imulN rfl ?_
                    refine q_iload_n rfl rfl ?_
                    refine q_iaddN rfl ?_
                    refine q_iald rfl (by decide) hx_63 (by omega) (by decide) ((show ua A 63 g 63 (24 * k + x) = _ from hg3)) ?_
                    refine q_icmp_geN rfl (by have := lBk_le (N := 100000) (g := (fun k f => gnN b (mL A (o k)) (nI f) (m + k))) (c := cN 0 st) (D := (dpR 100000 (fun k f => gnN b (mL A (o k)) (nI f) (m + k)) (cN 0 st) ln (ln - (k + 1)))) (k := k) (s := x) (j := j) (cN_le 0 st x j (by omega)) (dpR_le _ _); show (lBk 100000 (fun k f => gnN b (mL A (o k)) (nI f) (m + k)) (cN 0 st) (dpR 100000 (fun k f => gnN b (mL A (o k)) (nI f) (m + k)) (cN 0 st) ln (ln - (k + 1))) k x j) < 2 ^ 31; omega) (by have := lMn_le (N := 100000) (g := (fun k f => gnN b (mL A (o k)) (nI f) (m + k))) (c := cN 0 st) (D := (dpR 100000 (fun k f => gnN b (mL A (o k)) (nI f) (m + k)) (cN 0 st) ln (ln - (k + 1)))) (k := k) (s := x) j; omega) (fun hcjs109 => ?_) (fun hcjs109 => ?_)
                    · refine q_aload_n rfl rfl ?_
                      refine q_getfield rfl hx_51 rfl ?_
                      refine q_bipush (v := nI 24) rfl rfl ?_
                      refine q_iload_n rfl rfl ?_
                      refine q_imulN rfl ?_
                      refine q_iload_n rfl rfl ?_
                      refine q_iaddN rfl ?_
                      refine q_iald rfl (by decide) hx_63 (by omega) (by decide) ((show ua A 63 g 63 (24 * k + x) = _ from hg3)) ?_
                      refine q_iastN rfl hx_63 (by omega) (by decide) ?_
                      refine q_heap (ha_63 _) ?_
                      refine q_iinc (v := sI 6 (j + 1)) (L' := [_, _, _, _, _]) rfl rfl (sI_inc 6 j) rfl ?_
                      refine q_goto rfl ?_
                      exact ih_j _ _ (⟨_, _, rfl, by rw [ua_ua, ua_eq], fun q hq hki f hf => by rw [pk_un (by omega)]; exact hg q hq hki f hf, fun f hf => by rw [pk_un (by omega)]; exact hg2 f hf, by rw [pk_us]; show _ = nI (min _ _); first | rw [Nat.min_eq_right (Nat.le_of_lt (Nat.not_le.mp hcjs109))] | rw [Nat.min_eq_left hcjs109]⟩)
                    · refine q_iload rfl rfl ?_
                      refine q_goto rfl ?_
                      refine q_iastN rfl hx_63 (by omega) (by decide) ?_
                      refine q_heap (ha_63 _) ?_
                      refine q_iinc (v := sI 6 (j + 1)) (L' := [_, _, _, _, _]) rfl rfl (sI_inc 6 j) rfl ?_
                      refine q_goto rfl ?_
                      exact ih_j _ _ (⟨_, _, rfl, by rw [ua_ua, ua_eq], fun q hq hki f hf => by rw [pk_un (by omega)]; exact hg q hq hki f hf, fun f hf => by rw [pk_un (by omega)]; exact hg2 f hf, by rw [pk_us]; show _ = nI (min _ _); first | rw [Nat.min_eq_right (Nat.le_of_lt (Nat.not_le.mp hcjs109))] | rw [Nat.min_eq_left hcjs109]⟩)
                · obtain ⟨g, z4, rfl, rfl, hg, hg2, hg3⟩ := hi_j
                  refine q_iload_n rfl rfl ?_
                  refine q_bipush (v := nI 7) rfl rfl ?_
                  refine q_icmp_ge rfl (fun hcjf67 => ?_) (fun hcjf67 => ?_)
                  · refine q_iincN (c := 1) (L' := [_, _, _, _, _]) rfl rfl rfl rfl ?_
                    refine q_goto rfl ?_
                    exact ih_x _ _ (⟨g, _, _, rfl, rfl, hg, fun f hf => by by_cases e : f = x; subst e; exact hg3; exact hg2 f (by omega)⟩)
                  · exact absurd (show nI 7 ≤ sI 6 13 by decide) hcjf67
            · obtain ⟨g, z3, z4, rfl, rfl, hg, hg2⟩ := hi_x
              refine q_iload_n rfl rfl ?_
              refine q_bipush (v := nI 24) rfl rfl ?_
              refine q_icmp_geN rfl (by omega) (by omega) (fun hcxf45 => ?_) (fun hcxf45 => ?_)
              · refine q_iinc (v := dI k) (L' := [_, _, _, _, _]) rfl rfl (dI_m k) rfl ?_
                refine q_goto rfl ?_
                exact ih_k _ _ (⟨_, _, _, _, rfl, rfl, fun q hq hki f hf => by by_cases e : q = ln - k; subst e; rw [show ln - (ln - k) = k by omega, dpR_row hk_k]; exact hg2 f hf; exact hg q hq (by omega) f hf⟩)
              · omega
        · obtain ⟨g, z2, z3, z4, rfl, rfl, hg⟩ := hi_k
          refine q_iload_n rfl rfl ?_
          refine q_if_lt rfl (fun hckf37 => ?_) (fun hckf37 => ?_)
          · refine q_aload_n rfl rfl ?_
            refine q_getfield rfl hx_51 rfl ?_
            refine q_aload_n rfl rfl ?_
            refine q_getfield rfl hx_51 rfl ?_
            refine q_iconst (v := nI 2) rfl rfl ?_
            refine q_iald rfl (by decide) hx_52 (by decide) (by decide) ((by exact es)) ?_
            refine q_iald rfl (by decide) hx_63 (by omega) (by decide) ((show ua A 63 g 63 s = nI (dpR 100000 (fun k f => gnN b (mL A (o k)) (nI f) (m + k)) (cN 0 st) ln ln s) from by rw [ua_eq]; have h7 := hg ln (Nat.le_refl _) (by omega) s hs; rw [Nat.sub_self, Nat.mul_zero, Nat.zero_add] at h7; exact h7)) ?_
            refine q_iret rfl rfl ?_
            exact ⟨g, rfl, rfl, trivial⟩
          · exact absurd (by decide) hckf37
      · omega)
  subst hr_
  subst hh_
  exact ⟨g, he_, hf_⟩
theorem dI_2 : ∀ n, n < 6 → 1 ≤ n → nI n - nI 2 = dI (n - 1) := by decide +kernel
theorem dI_p {x : Nat} (h : 1 ≤ x) : dI x = nI (x - 1) := by
  rw [← dI_s, Nat.sub_add_cancel h]
theorem nx_k_n {f : Nat → Nat} {k : Nat} (h : ¬ f k ≤ f (k + 1)) : nx_k f (k + 1) = nx_k f k := if_pos (by omega)
theorem nx_k_y {f : Nat → Nat} {k : Nat} (h : f k ≤ f (k + 1)) : nx_k f (k + 1) = k + 1 := if_neg (by omega)
theorem nx_l_n {f : Nat → Nat} {k l : Nat} (h : ¬ f k ≤ f (l + 1)) : nx_l f k (l + 1) = nx_l f k l := if_pos (by omega)
theorem nx_l_y {f : Nat → Nat} {k l : Nat} (h : f k ≤ f (l + 1)) : nx_l f k (l + 1) = l + 1 := if_neg (by omega)
theorem nx_s_e {f : Nat → Nat} {n k l : Nat} (hk : nx_k f (n - 1) = k + 1) (hl : nx_l f k (n - 1) = l + 1) : nx_s n f = nx_u (nx_u f k (f (l + 1))) (l + 1) (f k) := by
  unfold nx_s
  rw [hk, Nat.add_sub_cancel, hl]
theorem nx_e {f : Nat → Nat} {n k l : Nat} (hk : nx_k f (n - 1) = k + 1) (hl : nx_l f k (n - 1) = l + 1) : nx n f = nx_r (nx_u (nx_u f k (f (l + 1))) (l + 1) (f k)) (k + 1) (n - 1) ((n - (k + 1)) / 2) := by
  unfold nx
  rw [nx_s_e hk hl, hk]
theorem nx_r0 (f : Nat → Nat) (i j y : Nat) : nx_r f i j 0 y = f y := by
  unfold nx_r
  rw [if_neg (by omega)]
theorem nx_rs {f : Nat → Nat} {w : Nat → Int32} {a j t n : Nat} (h : a + t < j - t) (hj : j < n) (hw : ∀ y, y < n → w y = nI (nx_r f a j t y)) : ∀ y, y < n → upd (upd w (a + t) (nI (nx_r f a j t (j - t)))) (j - t) (nI (nx_r f a j t (a + t))) y = nI (nx_r f a j (t + 1) y) := by
  intro y hy
  by_cases e1 : y = j - t
  · subst e1
    rw [pk_us]
    unfold nx_r
    rw [if_neg (by omega), if_pos (by omega)]
    exact congrArg (fun z => nI (f z)) (by omega)
  · rw [pk_un e1]
    by_cases e2 : y = a + t
    · subst e2
      rw [pk_us]
      unfold nx_r
      rw [if_neg (by omega), if_pos (by omega)]
      exact congrArg (fun z => nI (f z)) (by omega)
    · rw [pk_un e2, hw y hy]
      unfold nx_r
      by_cases e3 : (a ≤ y ∧ y < a + t) ∨ (y ≤ j ∧ j < y + t)
      · rw [if_pos e3, if_pos (by omega)]
      · rw [if_neg e3, if_neg (by omega)]
theorem nxo_0 {X : XX} {I A : Nat → Nat → Int32} {J B : Nat → Nat → Int64} {F : Nat → Nat} (n : Nat) (n1 : 1 ≤ n) (n5 : n < 6) (f : Nat → Nat) (hf : ∀ k, k < n → A 67 k = nI (f k)) (hf2 : ∀ k, k < n → f k < 32) (hK : nx_k f (n - 1) = 0) : x_ev X xT 1 222 [.ref 51, .int (nI n)] (HX I A J B F) (some (.int (nI 0))) (HX I A J B F) := by
  refine q_ev (L := [some (.ref 51), some (.int (nI n)), none, none, none, none, none]) tX9_nextOrder (Nat.le_of_ble_eq_true rfl) rfl ?_
  refine q_iload_n rfl rfl ?_
  refine q_iconst (v := nI 2) rfl rfl ?_
  refine q_isub rfl ?_
  refine q_istore_n (L' := [_, _, _, _, _, _, _]) rfl rfl ?_
  refine q_dn (Inv := fun K L h => L = [some (.ref 51), some (.int (nI n)), some (.int (dI K)), none, none, none, none] ∧ h = HX I A J B F ∧ nx_k f K = nx_k f (n - 1) ∧ K ≤ n - 1) (n - 1) (fun K L h hk_K hi_K ih_K => ?_) (fun L h hi_K => ?_) (n - 1) _ _ (by omega) (⟨by rw [dI_2 n n5 n1], rfl, rfl, Nat.le_refl _⟩)
  · obtain ⟨rfl, rfl, hr, hKn⟩ := hi_K
    rw [dI_s]
    refine q_iload_n rfl rfl ?_
    refine q_if_ltN rfl (by omega) (fun hcKs5 => ?_) (fun hcKs5 => ?_)
    · omega
    · refine q_aload_n rfl rfl ?_
      refine q_getfield rfl hx_51 rfl ?_
      refine q_iload_n rfl rfl ?_
      refine q_iald rfl (by decide) hx_67 (by omega) (by decide) ((hf K (by omega))) ?_
      refine q_aload_n rfl rfl ?_
      refine q_getfield rfl hx_51 rfl ?_
      refine q_iload_n rfl rfl ?_
      refine q_iconst (v := nI 1) rfl rfl ?_
      refine q_iaddN rfl ?_
      refine q_iald rfl (by decide) hx_67 (by omega) (by decide) ((hf (K + 1) (by omega))) ?_
      refine q_icmp_leN rfl (by have := hf2 K (by omega); omega) (by have := hf2 (K + 1) (by omega); omega) (fun hcKs22 => ?_) (fun hcKs22 => ?_)
      · exact absurd ((nx_k_y hcKs22).symm.trans (hr.trans hK)) (by omega)
      · refine q_iinc (v := dI K) (L' := [_, _, _, _, _, _, _]) rfl rfl (dI_m K) rfl ?_
        refine q_goto rfl ?_
        exact ih_K _ _ (⟨rfl, rfl, (nx_k_n hcKs22).symm.trans hr, by omega⟩)
  · obtain ⟨rfl, rfl, hr, hKn⟩ := hi_K
    refine q_iload_n rfl rfl ?_
    refine q_if_lt rfl (fun hcKf5 => ?_) (fun hcKf5 => ?_)
    · refine q_iload_n rfl rfl ?_
      refine q_if_ge rfl (fun hcKf32 => ?_) (fun hcKf32 => ?_)
      · exact absurd hcKf32 (by decide)
      · refine q_iconst (v := nI 0) rfl rfl ?_
        refine q_zret rfl rfl (by decide) ?_
        exact ⟨rfl, rfl⟩
    · exact absurd (by decide) hcKf5
set_option maxHeartbeats 1000000 in
theorem nxo_1 {X : XX} {I A : Nat → Nat → Int32} {J B : Nat → Nat → Int64} {F : Nat → Nat} (n : Nat) (n1 : 1 ≤ n) (n5 : n < 6) (f : Nat → Nat) (hf : ∀ k, k < n → A 67 k = nI (f k)) (hf2 : ∀ k, k < n → f k < 32) (hK : ¬ nx_k f (n - 1) = 0) : ∃ w, x_ev X xT 1 222 [.ref 51, .int (nI n)] (HX I A J B F) (some (.int (nI 1))) (HX I (ua A 67 w) J B F) ∧ ∀ y, y < n → w y = nI (nx n f y) := by
  obtain ⟨r_, h_, he_, w, hr_, hh_, hf_⟩ := q_evx (X := X) (d := 0) (as := [.ref 51, .int (nI n)]) (h := (HX I A J B F)) (P := fun r_ h_ => ∃ w, r_ = (some (.int (nI 1))) ∧ h_ = (HX I (ua A 67 w) J B F) ∧ ∀ y, y < n → w y = nI (nx n f y)) (L := [some (.ref 51), some (.int (nI n)), none, none, none, none, none]) tX9_nextOrder (Nat.le_of_ble_eq_true rfl) rfl (by
    refine q_iload_n rfl rfl ?_
    refine q_iconst (v := nI 2) rfl rfl ?_
    refine q_isub rfl ?_
    refine q_istore_n (L' := [_, _, _, _, _, _, _]) rfl rfl ?_
    refine q_dn (Inv := fun K L h => L = [some (.ref 51), some (.int (nI n)), some (.int (dI K)), none, none, none, none] ∧ h = HX I A J B F ∧ nx_k f K = nx_k f (n - 1) ∧ K ≤ n - 1) (n - 1) (fun K L h hk_K hi_K ih_K => ?_) (fun L h hi_K => ?_) (n - 1) _ _ (by omega) (⟨by rw [dI_2 n n5 n1], rfl, rfl, Nat.le_refl _⟩)
    · obtain ⟨rfl, rfl, hr, hKn⟩ := hi_K
      rw [dI_s]
      refine q_iload_n rfl rfl ?_
      refine q_if_ltN rfl (by omega) (fun hcKs5 => ?_) (fun hcKs5 => ?_)
      · omega
      · refine q_aload_n rfl rfl ?_
        refine q_getfield rfl hx_51 rfl ?_
        refine q_iload_n rfl rfl ?_
        refine q_iald rfl (by decide) hx_67 (by omega) (by decide) ((hf K (by omega))) ?_
        refine q_aload_n rfl rfl ?_
        refine q_getfield rfl hx_51 rfl ?_
        refine q_iload_n rfl rfl ?_
        refine q_iconst (v := nI 1) rfl rfl ?_
        refine q_iaddN rfl ?_
        refine q_iald rfl (by decide) hx_67 (by omega) (by decide) ((hf (K + 1) (by omega))) ?_
        refine q_icmp_leN rfl (by have := hf2 K (by omega); omega) (by have := hf2 (K + 1) (by omega); omega) (fun hcKs22 => ?_) (fun hcKs22 => ?_)
        · have hKK : nx_k f (n - 1) = K + 1 := hr.symm.trans (nx_k_y hcKs22)
          refine q_iload_n rfl rfl ?_
          refine q_if_geN rfl (by omega) (fun hcKs32 => ?_) (fun hcKs32 => ?_)
          · refine q_iload_n rfl rfl ?_
            refine q_iconst (v := nI 1) rfl rfl ?_
            refine q_isubN rfl (n1) ?_
            refine q_istore_n (L' := [_, _, _, _, _, _, _]) rfl rfl ?_
            refine q_dn (Inv := fun l L h => L = [some (.ref 51), some (.int (nI n)), some (.int (nI K)), some (.int (nI l)), none, none, none] ∧ h = HX I A J B F ∧ nx_l f K l = nx_l f K (n - 1) ∧ K + 1 ≤ l ∧ l ≤ n - 1) (n - 1) (fun l L h hk_l hi_l ih_l => ?_) (fun L h hi_l => ?_) (n - 1) _ _ (by omega) (⟨rfl, rfl, rfl, by omega, Nat.le_refl _⟩)
            · obtain ⟨rfl, rfl, hr2, hKl, hln⟩ := hi_l
              refine q_aload_n rfl rfl ?_
              refine q_getfield rfl hx_51 rfl ?_
              refine q_iload_n rfl rfl ?_
              refine q_iald rfl (by decide) hx_67 (by omega) (by decide) ((hf (l + 1) (by omega))) ?_
              refine q_aload_n rfl rfl ?_
              refine q_getfield rfl hx_51 rfl ?_
              refine q_iload_n rfl rfl ?_
              refine q_iald rfl (by decide) hx_67 (by omega) (by decide) ((hf K (by omega))) ?_
              refine q_icmp_geN rfl (by have := hf2 (l + 1) (by omega); omega) (by have := hf2 K (by omega); omega) (fun hcls53 => ?_) (fun hcls53 => ?_)
              · have hLL : nx_l f K (n - 1) = l + 1 := hr2.symm.trans (nx_l_y hcls53)
                refine q_aload_n rfl rfl ?_
                refine q_getfield rfl hx_51 rfl ?_
                refine q_iload_n rfl rfl ?_
                refine q_iald rfl (by decide) hx_67 (by omega) (by decide) ((hf K (by omega))) ?_
                refine q_istore (L' := [_, _, _, _, _, _, _]) rfl rfl ?_
                refine q_aload_n rfl rfl ?_
                refine q_getfield rfl hx_51 rfl ?_
                refine q_iload_n rfl rfl ?_
                refine q_aload_n rfl rfl ?_
                refine q_getfield rfl hx_51 rfl ?_
                refine q_iload_n rfl rfl ?_
                refine q_iald rfl (by decide) hx_67 (by omega) (by decide) ((hf (l + 1) (by omega))) ?_
                refine q_iastN rfl hx_67 (by omega) (by decide) ?_
                refine q_heap (ha_67 _) ?_
                refine q_aload_n rfl rfl ?_
                refine q_getfield rfl hx_51 rfl ?_
                refine q_iload_n rfl rfl ?_
                refine q_iload rfl rfl ?_
                refine q_iastN rfl hx_67 (by omega) (by decide) ?_
                refine q_heap (ha_67 _) ?_
                refine q_iload_n rfl rfl ?_
                refine q_iconst (v := nI 1) rfl rfl ?_
                refine q_iaddN rfl ?_
                refine q_istore (L' := [_, _, _, _, _, _, _]) rfl rfl ?_
                refine q_iload_n rfl rfl ?_
                refine q_iconst (v := nI 1) rfl rfl ?_
                refine q_isubN rfl (n1) ?_
                refine q_istore (L' := [_, _, _, _, _, _, _]) rfl rfl ?_
                refine q_up (Inv := fun t L h => ∃ w z4, L = [some (.ref 51), some (.int (nI n)), some (.int (nI K)), some (.int (nI (l + 1))), z4, some (.int (nI (K + 1 + t))), some (.int (nI (n - 1 - t)))] ∧ h = HX I (ua A 67 w) J B F ∧ ∀ y, y < n → w y = nI (nx_r (nx_u (nx_u f K (f (l + 1))) (l + 1) (f K)) (K + 1) (n - 1) t y)) ((n - (K + 1)) / 2) (fun t L h hk_t hi_t ih_t => ?_) (fun L h hi_t => ?_) (0) _ _ (by omega) (⟨_, _, rfl, by rw [ua_ua, ua_eq], fun y hy => by
                      rw [nx_r0]
                      unfold nx_u
                      by_cases e1 : y = l + 1
                      · rw [if_pos e1, e1, pk_us]
                      · rw [if_neg e1, pk_un e1]
                        by_cases e2 : y = K
                        · rw [if_pos e2, e2, pk_us]
                        · rw [if_neg e2, pk_un e2]
                          exact hf y hy⟩)
                · obtain ⟨w, z4, rfl, rfl, hw⟩ := hi_t
                  refine q_iload rfl rfl ?_
                  refine q_iload rfl rfl ?_
                  refine q_icmp_geN rfl (by omega) (by omega) (fun hcts104 => ?_) (fun hcts104 => ?_)
                  · omega
                  · refine q_aload_n rfl rfl ?_
                    refine q_getfield rfl hx_51 rfl ?_
                    refine q_iload rfl rfl ?_
                    refine q_iald rfl (by decide) hx_67 (by omega) (by decide) ((show ua A 67 w 67 (K + 1 + t) = nI (nx_r (nx_u (nx_u f K (f (l + 1))) (l + 1) (f K)) (K + 1) (n - 1) t (K + 1 + t)) from by rw [ua_eq]; exact hw _ (by omega))) ?_
                    refine q_istore (L' := [_, _, _, _, _, _, _]) rfl rfl ?_
                    refine q_aload_n rfl rfl ?_
                    refine q_getfield rfl hx_51 rfl ?_
                    refine q_iload rfl rfl ?_
                    refine q_aload_n rfl rfl ?_
                    refine q_getfield rfl hx_51 rfl ?_
                    refine q_iload rfl rfl ?_
                    refine q_iald rfl (by decide) hx_67 (by omega) (by decide) ((show ua A 67 w 67 (n - 1 - t) = nI (nx_r (nx_u (nx_u f K (f (l + 1))) (l + 1) (f K)) (K + 1) (n - 1) t (n - 1 - t)) from by rw [ua_eq]; exact hw _ (by omega))) ?_
                    refine q_iastN rfl hx_67 (by omega) (by decide) ?_
                    refine q_heap (ha_67 _) ?_
                    refine q_aload_n rfl rfl ?_
                    refine q_getfield rfl hx_51 rfl ?_
                    refine q_iload rfl rfl ?_
                    refine q_iload rfl rfl ?_
                    refine q_iastN rfl hx_67 (by omega) (by decide) ?_
                    refine q_heap (ha_67 _) ?_
                    refine q_iincN (c := 1) (L' := [_, _, _, _, _, _, _]) rfl rfl rfl rfl ?_
                    refine q_iinc (v := nI (n - 1 - (t + 1))) (L' := [_, _, _, _, _, _, _]) rfl rfl ((dI_m _).trans ((dI_p (by omega)).trans (congrArg nI (by omega)))) rfl ?_
                    refine q_goto rfl ?_
                    exact ih_t _ _ (⟨_, _, rfl, by rw [ua_ua, ua_eq, ua_eq, ua_ua], by have h8 := nx_rs (f := (nx_u (nx_u f K (f (l + 1))) (l + 1) (f K))) (a := K + 1) (j := n - 1) (t := t) (by omega) (by omega) hw; exact h8⟩)
                · obtain ⟨w, z4, rfl, rfl, hw⟩ := hi_t
                  refine q_iload rfl rfl ?_
                  refine q_iload rfl rfl ?_
                  refine q_icmp_geN rfl (by omega) (by omega) (fun hctf104 => ?_) (fun hctf104 => ?_)
                  · refine q_iconst (v := nI 1) rfl rfl ?_
                    refine q_zret rfl rfl (by decide) ?_
                    exact ⟨w, rfl, rfl, fun y hy => by rw [nx_e hKK hLL]; exact hw y hy⟩
                  · omega
              · refine q_iinc (v := nI l) (L' := [_, _, _, _, _, _, _]) rfl rfl ((dI_m _).trans (dI_s l)) rfl ?_
                refine q_goto rfl ?_
                exact ih_l _ _ (⟨rfl, rfl, (nx_l_n hcls53).symm.trans hr2, by by_cases e9 : l = K; subst e9; exact absurd hcKs22 hcls53; omega, by omega⟩)
            · obtain ⟨rfl, rfl, hr2, hKl, hln⟩ := hi_l
              refine q_aload_n rfl rfl ?_
              refine q_getfield rfl hx_51 rfl ?_
              refine q_iload_n rfl rfl ?_
              refine q_iald rfl (by decide) hx_67 (by omega) (by decide) ((hf 0 (by omega))) ?_
              refine q_aload_n rfl rfl ?_
              refine q_getfield rfl hx_51 rfl ?_
              refine q_iload_n rfl rfl ?_
              refine q_iald rfl (by decide) hx_67 (by omega) (by decide) ((hf K (by omega))) ?_
              refine q_icmp_geN rfl (by omega) (by omega) (fun hclf53 => ?_) (fun hclf53 => ?_)
              · omega
              · omega
          · omega
        · refine q_iinc (v := dI K) (L' := [_, _, _, _, _, _, _]) rfl rfl (dI_m K) rfl ?_
          refine q_goto rfl ?_
          exact ih_K _ _ (⟨rfl, rfl, (nx_k_n hcKs22).symm.trans hr, by omega⟩)
    · obtain ⟨rfl, rfl, hr, hKn⟩ := hi_K
      refine q_iload_n rfl rfl ?_
      refine q_if_lt rfl (fun hcKf5 => ?_) (fun hcKf5 => ?_)
      · exact absurd hr.symm hK
      · exact absurd (by decide) hcKf5)
  subst hr_
  subst hh_
  exact ⟨w, he_, hf_⟩
