/-! what is told -/
def kth (g : Nat → Int32) (L : Nat) : Nat → Int32
  | 0 => 0
  | k + 1 => kth g L k + (if k < L then (if f_neg (g k) = 0 then 1 else 0) else 0)
theorem kth_congr {f g : Nat → Int32} {L n : Nat} (h : ∀ k, k < n → f k = g k) : kth f L n = kth g L n := by
  induction n with
  | zero => rfl
  | succ n ih =>
    unfold kth
    rw [ih (fun k hk => h k (by omega)), h n (by omega)]
theorem kth_over {g : Nat → Int32} {L n : Nat} (h : L ≤ n) : kth g L n = kth g L L := by
  induction n with
  | zero =>
    have e : L = 0 := by omega
    subst e
    rfl
  | succ n ih =>
    by_cases hn : L = n + 1
    · rw [hn]
    · rw [← ih (by omega)]
      show kth g L n + _ = _
      rw [if_neg (by omega)]
      exact Int32.add_zero _
theorem kmy_congr {f g : Nat → Int32} {n : Nat} (h : ∀ k, k < n → f k = g k) : kmy f n = kmy g n := by
  induction n with
  | zero => rfl
  | succ n ih =>
    unfold kmy
    rw [ih (fun k hk => h k (by omega)), h n (by omega)]
theorem f_neg_z {x : Int32} : f_neg x = 0 ↔ 0 ≤ x := by
  unfold f_neg
  by_cases h : 0 ≤ x
  · rw [if_pos h]
    exact ⟨fun _ => h, fun _ => rfl⟩
  · rw [if_neg h]
    exact ⟨fun z => absurd z (by decide), fun z => absurd z h⟩
theorem f_neg_y {x : Int32} : f_neg x = 0 ↔ ¬ x < 0 := f_neg_z.trans Int32.not_lt.symm
theorem f_nite1 (x : Int32) : (if f_neg x = 0 then (1 : Int32) else 0) = if 0 ≤ x then 1 else 0 := by
  by_cases h : 0 ≤ x
  · rw [if_pos h, if_pos (f_neg_z.mpr h)]
  · rw [if_neg h, if_neg (fun z => h (f_neg_z.mp z))]
theorem f_nite2 (x : Int32) : (if f_neg x = 0 then (1 : Int32) else 0) = if x < 0 then 0 else 1 := by
  by_cases h : x < 0
  · rw [if_pos h, if_neg (fun z => f_neg_y.mp z h)]
  · rw [if_neg h, if_pos (f_neg_y.mpr h)]
/-- the counts, by what they need: lights' kinds, sizes, lengths, kept, numbers -/
def cnN (ln : Nat) (m d s b e : Int32) (kd : Nat → Int32) (rs ts ks : Nat → Int32) : Nat → Int32
  | 0 => nI ln
  | 1 => m
  | 2 => d
  | 3 => s
  | 4 => b
  | 5 => kmy (fun i => f_of (kd i) 1) ln
  | 6 => kmy (fun i => f_of (kd i) 3) ln
  | 7 => kth rs 6 6
  | 8 => kth ts 4 4
  | 9 => kth ks 3 3
  | _ => e
theorem cnN_congr {ln : Nat} {m d s b e m' d' s' b' e' : Int32} {kd rs ts ks kd' rs' ts' ks' : Nat → Int32} (hm : m = m') (hd : d = d') (hs : s = s') (hb : b = b') (he : e = e') (hk : ∀ i, i < ln → kd i = kd' i) (hr : ∀ i, i < 6 → rs i = rs' i) (ht : ∀ i, i < 4 → ts i = ts' i) (hq : ∀ i, i < 3 → ks i = ks' i) : cnN ln m d s b e kd rs ts ks = cnN ln m' d' s' b' e' kd' rs' ts' ks' := by
  subst hm
  subst hd
  subst hs
  subst hb
  subst he
  have e5 : kmy (fun i => f_of (kd i) 1) ln = kmy (fun i => f_of (kd' i) 1) ln := kmy_congr (fun i hi => by rw [hk i hi])
  have e6 : kmy (fun i => f_of (kd i) 3) ln = kmy (fun i => f_of (kd' i) 3) ln := kmy_congr (fun i hi => by rw [hk i hi])
  have e7 : kth rs 6 6 = kth rs' 6 6 := kth_congr hr
  have e8 : kth ts 4 4 = kth ts' 4 4 := kth_congr ht
  have e9 : kth ks 3 3 = kth ks' 3 3 := kth_congr hq
  funext w
  unfold cnN
  rw [e5, e6, e7, e8, e9]
def dgN (g : Nat → Int32) (h : Int64) : Nat → Int64
  | 0 => h
  | k + 1 => 31 * dgN g h k + (g k).toInt64
theorem dgN_congr {f g : Nat → Int32} {h : Int64} {n : Nat} (e : ∀ k, k < n → f k = g k) : dgN f h n = dgN g h n := by
  induction n with
  | zero => rfl
  | succ n ih =>
    unfold dgN
    rw [ih (fun k hk => e k (by omega)), e n (by omega)]
def dgL (g : Nat → Nat → Int32) (h : Int64) : Nat → Int64
  | 0 => h
  | k + 1 => dgN (g k) (dgL g h k) 6
theorem dgL_flat (g : Nat → Nat → Int32) (h : Int64) (n : Nat) : dgN (fun k => g (k / 6) (k % 6)) h (6 * n) = dgL g h n := by
  induction n with
  | zero => rfl
  | succ n ih =>
    rw [show 6 * (n + 1) = 6 * n + 6 by omega]
    have key : ∀ j, j ≤ 6 → dgN (fun k => g (k / 6) (k % 6)) h (6 * n + j) = dgN (g n) (dgL g h n) j := by
      intro j
      induction j with
      | zero => intro _; exact ih
      | succ j ihj =>
        intro hj
        show 31 * dgN _ h (6 * n + j) + (g ((6 * n + j) / 6) ((6 * n + j) % 6)).toInt64 = 31 * dgN (g n) (dgL g h n) j + (g n j).toInt64
        rw [ihj (by omega), show (6 * n + j) / 6 = n by omega, show (6 * n + j) % 6 = j by omega]
    exact key 6 (Nat.le_refl _)
theorem dgL_congr {f g : Nat → Nat → Int32} {h : Int64} {n : Nat} (e : ∀ k, k < n → f k = g k) : dgL f h n = dgL g h n := by
  induction n with
  | zero => rfl
  | succ n ih =>
    unfold dgL
    rw [ih (fun k hk => e k (by omega)), e n (by omega)]
def mixS (z : Int32) (f : Nat → Int32) (h : Int64) : Int64 := f_mix f z.toNatClampNeg 0 (31 * h + z.toInt64)
theorem f_mix_congr {f g : Nat → Int32} : ∀ (n i : Nat) (s : Int64), (∀ k, i ≤ k → k < i + n → f k = g k) → f_mix f n i s = f_mix g n i s := by
  intro n
  induction n with
  | zero => intro i s h; rfl
  | succ n ih =>
    intro i s h
    unfold f_mix
    rw [h i (by omega) (by omega)]
    exact ih _ _ (fun k h1 h2 => h k (by omega) (by omega))
theorem mixS_congr {m : Nat} {z : Int32} {f g : Nat → Int32} {h : Int64} (hz : szOK m z) (hm : m < 2 ^ 31) (e : ∀ k, k < m → f k = g k) : mixS z f h = mixS z g h := by
  unfold mixS
  refine f_mix_congr _ _ _ (fun k _ hk => e k ?_)
  rcases hz with rfl | ⟨n, hn, rfl⟩
  · exact absurd hk (by rw [show (-1 : Int32).toNatClampNeg = 0 from rfl]; omega)
  · rw [nI_clamp (by omega)] at hk
    omega
def dgM (z : Nat → Int32) (f : Nat → Nat → Int32) (h : Int64) : Nat → Int64
  | 0 => h
  | k + 1 => mixS (z k) (f k) (dgM z f h k)
theorem dgM_congr {m : Nat} (hm : m < 2 ^ 31) {z z' : Nat → Int32} {f f' : Nat → Nat → Int32} {h : Int64} {n : Nat} (e1 : ∀ k, k < n → z k = z' k) (e2 : ∀ k, k < n → szOK m (z' k) ∧ ∀ x, x < m → f k x = f' k x) : dgM z f h n = dgM z' f' h n := by
  induction n with
  | zero => rfl
  | succ n ih =>
    unfold dgM
    rw [ih (fun k hk => e1 k (by omega)) (fun k hk => e2 k (by omega)), e1 n (by omega), mixS_congr (e2 n (by omega)).1 hm (e2 n (by omega)).2]
section LS
variable {X : XX} {I A : Nat → Nat → Int32} {J B : Nat → Nat → Int64} {F : Nat → Nat}
theorem sL_mixS (q : Nat) (hq : q < 10) (hz : szOK (rm q) (I (20 + 2 * q) 1)) (s : Int64) : x_ev X xT 1 38 [.ref (20 + 2 * q), .long s] (HX I A J B F) (some (.long (mixS (I (20 + 2 * q) 1) (A (21 + 2 * q)) s))) (HX I A J B F) := by
  unfold mixS
  have hr := rm_le q
  rcases hz with hz | ⟨n, hn, hz⟩
  · rw [hz]
    exact sL_mix0 q hq hz s
  · rw [hz, nI_clamp (by omega)]
    exact sL_mix q hq n hn hz s
theorem sL_miss (q : Nat) (hq : q < 10) : x_ev X xT 1 27 [.ref (20 + 2 * q)] (HX I A J B F) (some (.int (f_neg (I (20 + 2 * q) 1)))) (HX I A J B F) := sX2_isMissing (hx_line q hq)
end LS
theorem c_asked {X : XX} {I A : Nat → Nat → Int32} {J B : Nat → Nat → Int64} {F : Nat → Nat}  : x_ev X xT 1 116 [.ref 0] (HX I A J B F) (some (.int (I 0 14))) (HX I A J B F) := by
  refine q_ev (L := [some (.ref 0)]) tX8_asked (Nat.le_of_ble_eq_true rfl) rfl ?_
  refine q_aload_n rfl rfl ?_
  refine q_getfield rfl hx_0 rfl ?_
  refine q_iret rfl rfl ?_
  exact ⟨rfl, rfl⟩
theorem m_asked {X : XX} {I A : Nat → Nat → Int32} {J B : Nat → Nat → Int64} {F : Nat → Nat}  : x_ev X xT 1 240 [.ref 51] (HX I A J B F) (some (.int (I 51 12))) (HX I A J B F) := by
  refine q_ev (L := [some (.ref 51)]) tX9_asked (Nat.le_of_ble_eq_true rfl) rfl ?_
  refine q_aload_n rfl rfl ?_
  refine q_getfield rfl hx_51 rfl ?_
  refine q_iret rfl rfl ?_
  exact ⟨rfl, rfl⟩
theorem c_finding {X : XX} {I A : Nat → Nat → Int32} {J B : Nat → Nat → Int64} {F : Nat → Nat}  : x_ev X xT 1 120 [.ref 0] (HX I A J B F) (some (.int (I 0 13))) (HX I A J B F) := by
  refine q_ev (L := [some (.ref 0)]) tX8_finding (Nat.le_of_ble_eq_true rfl) rfl ?_
  refine q_aload_n rfl rfl ?_
  refine q_getfield rfl hx_0 rfl ?_
  refine q_iret rfl rfl ?_
  exact ⟨rfl, rfl⟩
theorem m_finding {X : XX} {I A : Nat → Nat → Int32} {J B : Nat → Nat → Int64} {F : Nat → Nat}  : x_ev X xT 1 247 [.ref 51] (HX I A J B F) (some (.int (I 51 15))) (HX I A J B F) := by
  refine q_ev (L := [some (.ref 51)]) tX9_finding (Nat.le_of_ble_eq_true rfl) rfl ?_
  refine q_aload_n rfl rfl ?_
  refine q_getfield rfl hx_51 rfl ?_
  refine q_iret rfl rfl ?_
  exact ⟨rfl, rfl⟩
theorem c_upper {X : XX} {I A : Nat → Nat → Int32} {J B : Nat → Nat → Int64} {F : Nat → Nat}  : x_ev X xT 1 117 [.ref 0] (HX I A J B F) (some (.long (J 0 15))) (HX I A J B F) := by
  refine q_ev (L := [some (.ref 0)]) tX8_upper (Nat.le_of_ble_eq_true rfl) rfl ?_
  refine q_aload_n rfl rfl ?_
  refine q_getfield rfl hx_0 rfl ?_
  refine q_lret rfl rfl ?_
  exact ⟨rfl, rfl⟩
theorem m_upper {X : XX} {I A : Nat → Nat → Int32} {J B : Nat → Nat → Int64} {F : Nat → Nat}  : x_ev X xT 1 241 [.ref 51] (HX I A J B F) (some (.long (J 51 13))) (HX I A J B F) := by
  refine q_ev (L := [some (.ref 51)]) tX9_upper (Nat.le_of_ble_eq_true rfl) rfl ?_
  refine q_aload_n rfl rfl ?_
  refine q_getfield rfl hx_51 rfl ?_
  refine q_lret rfl rfl ?_
  exact ⟨rfl, rfl⟩
theorem c_lower {X : XX} {I A : Nat → Nat → Int32} {J B : Nat → Nat → Int64} {F : Nat → Nat}  : x_ev X xT 1 118 [.ref 0] (HX I A J B F) (some (.long (J 0 16))) (HX I A J B F) := by
  refine q_ev (L := [some (.ref 0)]) tX8_lower (Nat.le_of_ble_eq_true rfl) rfl ?_
  refine q_aload_n rfl rfl ?_
  refine q_getfield rfl hx_0 rfl ?_
  refine q_lret rfl rfl ?_
  exact ⟨rfl, rfl⟩
theorem m_lower {X : XX} {I A : Nat → Nat → Int32} {J B : Nat → Nat → Int64} {F : Nat → Nat}  : x_ev X xT 1 242 [.ref 51] (HX I A J B F) (some (.long (J 51 14))) (HX I A J B F) := by
  refine q_ev (L := [some (.ref 51)]) tX9_lower (Nat.le_of_ble_eq_true rfl) rfl ?_
  refine q_aload_n rfl rfl ?_
  refine q_getfield rfl hx_51 rfl ?_
  refine q_lret rfl rfl ?_
  exact ⟨rfl, rfl⟩
theorem c_findings_bad {X : XX} {I A : Nat → Nat → Int32} {J B : Nat → Nat → Int64} {F : Nat → Nat} (x : Int32) (hx : x < nI 1 ∨ nI 5 < x) : x_ev X xT 1 121 [.ref 0, .int x] (HX I A J B F) (some (.int (-1))) (HX I A J B F) := by
  refine q_ev (L := [some (.ref 0), some (.int x)]) tX8_findings (Nat.le_of_ble_eq_true rfl) rfl ?_
  refine q_iload_n rfl rfl ?_
  refine q_iconst (v := nI 1) rfl rfl ?_
  refine q_icmp_lt rfl (fun hc2 => ?_) (fun hc2 => ?_)
  · refine q_iconst (v := (-1)) rfl rfl ?_
    refine q_iret rfl rfl ?_
    exact ⟨rfl, rfl⟩
  · refine q_iload_n rfl rfl ?_
    refine q_iconst (v := nI 5) rfl rfl ?_
    refine q_icmp_le rfl (fun hc7 => ?_) (fun hc7 => ?_)
    · exact absurd (hx.resolve_left hc2) (Int32.not_lt.mpr hc7)
    · refine q_iconst (v := (-1)) rfl rfl ?_
      refine q_iret rfl rfl ?_
      exact ⟨rfl, rfl⟩
theorem c_findings_0 {X : XX} {I A : Nat → Nat → Int32} {J B : Nat → Nat → Int64} {F : Nat → Nat} (n : Nat) (h1 : 1 ≤ n) (h5 : n ≤ 5) : x_ev X xT 1 121 [.ref 0, .int (nI n)] (HX I A J B F) (some (.int (A 19 n))) (HX I A J B F) := by
  refine q_ev (L := [some (.ref 0), some (.int (nI n))]) tX8_findings (Nat.le_of_ble_eq_true rfl) rfl ?_
  refine q_iload_n rfl rfl ?_
  refine q_iconst (v := nI 1) rfl rfl ?_
  refine q_icmp_ltN rfl (by omega) (by omega) (fun hc2 => ?_) (fun hc2 => ?_)
  · omega
  · refine q_iload_n rfl rfl ?_
    refine q_iconst (v := nI 5) rfl rfl ?_
    refine q_icmp_leN rfl (by omega) (by omega) (fun hc7 => ?_) (fun hc7 => ?_)
    · refine q_aload_n rfl rfl ?_
      refine q_getfield rfl hx_0 rfl ?_
      refine q_iload_n rfl rfl ?_
      refine q_iald rfl (by decide) hx_19 (by omega) (by decide) (rfl) ?_
      refine q_iret rfl rfl ?_
      exact ⟨rfl, rfl⟩
    · omega
theorem m_findings_bad {X : XX} {I A : Nat → Nat → Int32} {J B : Nat → Nat → Int64} {F : Nat → Nat} (x : Int32) (hx : x < nI 1 ∨ nI 5 < x) : x_ev X xT 2 248 [.ref 51, .int x] (HX I A J B F) (some (.int (-1))) (HX I A J B F) := by
  refine q_ev (L := [some (.ref 51), some (.int x)]) tX9_findings (Nat.le_of_ble_eq_true rfl) rfl ?_
  refine q_iload_n rfl rfl ?_
  refine q_i2l rfl ?_
  refine q_lconst (v := 1) rfl rfl ?_
  refine q_ldc2_w (v := 5) rfl rfl ?_
  refine q_callS3 rfl rfl (Nat.le_of_ble_eq_true rfl) (Nat.le_of_ble_eq_true rfl) (sX9_in _ _ _) ?_
  refine q_cn (f_in_0 (lo := nI 1) (hi := nI 5) rfl rfl hx) ?_
  refine q_if_eqN rfl (by omega) (fun hc9 => ?_) (fun hc9 => ?_)
  · refine q_iconst (v := (-1)) rfl rfl ?_
    refine q_iret rfl rfl ?_
    exact ⟨rfl, rfl⟩
  · exact absurd hc9 (by decide)
theorem m_findings_0 {X : XX} {I A : Nat → Nat → Int32} {J B : Nat → Nat → Int64} {F : Nat → Nat} (n : Nat) (h1 : 1 ≤ n) (h5 : n ≤ 5) : x_ev X xT 2 248 [.ref 51, .int (nI n)] (HX I A J B F) (some (.int (A 61 n))) (HX I A J B F) := by
  refine q_ev (L := [some (.ref 51), some (.int (nI n))]) tX9_findings (Nat.le_of_ble_eq_true rfl) rfl ?_
  refine q_iload_n rfl rfl ?_
  refine q_i2l rfl ?_
  refine q_lconst (v := 1) rfl rfl ?_
  refine q_ldc2_w (v := 5) rfl rfl ?_
  refine q_callS3 rfl rfl (Nat.le_of_ble_eq_true rfl) (Nat.le_of_ble_eq_true rfl) (sX9_in _ _ _) ?_
  refine q_cn (f_in_1 (lo := nI 1) (hi := nI 5) rfl rfl (nI_nlt (by omega) (by omega)) (nI_nlt (by omega) (by omega))) ?_
  refine q_if_eqN rfl (by omega) (fun hc9 => ?_) (fun hc9 => ?_)
  · exact absurd hc9 (by decide)
  · refine q_aload_n rfl rfl ?_
    refine q_getfield rfl hx_51 rfl ?_
    refine q_iload_n rfl rfl ?_
    refine q_iald rfl (by decide) hx_61 (by omega) (by decide) (rfl) ?_
    refine q_goto rfl ?_
    refine q_iret rfl rfl ?_
    exact ⟨rfl, rfl⟩
theorem sX8_linesThere_row {X : XX} {I A : Nat → Nat → Int32} {J B : Nat → Nat → Int64} {F : Nat → Nat}  : x_ev X xT 2 146 [.ref 1] (HX I A J B F) (some (.int (kth (fun k => I (20 + 2 * (k)) 1) 6 6))) (HX I A J B F) := by
  refine q_ev (L := [some (.ref 1), none, none]) tX8_linesThere (Nat.le_of_ble_eq_true rfl) rfl ?_
  refine q_iconst (v := nI 0) rfl rfl ?_
  refine q_istore_n (L' := [_, _, _]) rfl rfl ?_
  refine q_iconst (v := nI 0) rfl rfl ?_
  refine q_istore_n (L' := [_, _, _]) rfl rfl ?_
  refine q_up (Inv := fun k L h => L = [some (.ref 1), some (.int (kth (fun k => I (20 + 2 * (k)) 1) 6 k)), some (.int (nI k))] ∧ h = HX I A J B F) (6) (fun k L h hk_k hi_k ih_k => ?_) (fun L h hi_k => ?_) (0) _ _ (by omega) (⟨rfl, rfl⟩)
  · obtain ⟨rfl, rfl⟩ := hi_k
    refine q_iload_n rfl rfl ?_
    refine q_aload_n rfl rfl ?_
    refine q_alen rfl (by decide) hx_1 (by decide) (v := nI _) rfl ?_
    refine q_icmp_geN rfl (by omega) (by omega) (fun hcks7 => ?_) (fun hcks7 => ?_)
    · omega
    · refine q_iload_n rfl rfl ?_
      refine q_aload_n rfl rfl ?_
      refine q_iload_n rfl rfl ?_
      refine q_aald rfl hx_1 (by omega) (by decide) rfl (xr1_at k (by omega)) ?_
      refine q_callV0 rfl (hx_line (k) (by omega)) (Nat.le_of_ble_eq_true rfl) (Nat.le_of_ble_eq_true rfl) (sL_miss (k) (by omega)) ?_
      refine q_if_eq rfl (fun hcks17 => ?_) (fun hcks17 => ?_)
      · refine q_iconst (v := 1) rfl rfl ?_
        refine q_iadd rfl ?_
        refine q_istore_n (L' := [_, _, _]) rfl rfl ?_
        refine q_iincN (c := 1) (L' := [_, _, _]) rfl rfl rfl rfl ?_
        refine q_goto rfl ?_
        exact ih_k _ _ (⟨by rw [show ∀ g L j, kth g L (j + 1) = kth g L j + (if j < L then (if f_neg (g j) = 0 then 1 else 0) else 0) from fun _ _ _ => rfl]; rw [if_pos hk_k]; first | rw [if_pos hcks17] | rw [if_neg hcks17], rfl⟩)
      · refine q_iconst (v := 0) rfl rfl ?_
        refine q_goto rfl ?_
        refine q_iadd rfl ?_
        refine q_istore_n (L' := [_, _, _]) rfl rfl ?_
        refine q_iincN (c := 1) (L' := [_, _, _]) rfl rfl rfl rfl ?_
        refine q_goto rfl ?_
        exact ih_k _ _ (⟨by rw [show ∀ g L j, kth g L (j + 1) = kth g L j + (if j < L then (if f_neg (g j) = 0 then 1 else 0) else 0) from fun _ _ _ => rfl]; rw [if_pos hk_k]; first | rw [if_pos hcks17] | rw [if_neg hcks17], rfl⟩)
  · obtain ⟨rfl, rfl⟩ := hi_k
    refine q_iload_n rfl rfl ?_
    refine q_aload_n rfl rfl ?_
    refine q_alen rfl (by decide) hx_1 (by decide) (v := nI _) rfl ?_
    refine q_icmp_geN rfl (by omega) (by omega) (fun hckf7 => ?_) (fun hckf7 => ?_)
    · refine q_iload_n rfl rfl ?_
      refine q_iret rfl rfl ?_
      exact ⟨rfl, rfl⟩
    · omega
theorem sX8_linesThere_txt {X : XX} {I A : Nat → Nat → Int32} {J B : Nat → Nat → Int64} {F : Nat → Nat}  : x_ev X xT 2 146 [.ref 2] (HX I A J B F) (some (.int (kth (fun k => I (20 + 2 * (6 + k)) 1) 4 4))) (HX I A J B F) := by
  refine q_ev (L := [some (.ref 2), none, none]) tX8_linesThere (Nat.le_of_ble_eq_true rfl) rfl ?_
  refine q_iconst (v := nI 0) rfl rfl ?_
  refine q_istore_n (L' := [_, _, _]) rfl rfl ?_
  refine q_iconst (v := nI 0) rfl rfl ?_
  refine q_istore_n (L' := [_, _, _]) rfl rfl ?_
  refine q_up (Inv := fun k L h => L = [some (.ref 2), some (.int (kth (fun k => I (20 + 2 * (6 + k)) 1) 4 k)), some (.int (nI k))] ∧ h = HX I A J B F) (4) (fun k L h hk_k hi_k ih_k => ?_) (fun L h hi_k => ?_) (0) _ _ (by omega) (⟨rfl, rfl⟩)
  · obtain ⟨rfl, rfl⟩ := hi_k
    refine q_iload_n rfl rfl ?_
    refine q_aload_n rfl rfl ?_
    refine q_alen rfl (by decide) hx_2 (by decide) (v := nI _) rfl ?_
    refine q_icmp_geN rfl (by omega) (by omega) (fun hcks7 => ?_) (fun hcks7 => ?_)
    · omega
    · refine q_iload_n rfl rfl ?_
      refine q_aload_n rfl rfl ?_
      refine q_iload_n rfl rfl ?_
      refine q_aald rfl hx_2 (by omega) (by decide) rfl (show xr2 k = some (20 + 2 * (6 + k)) from by rw [xr2_at k (by omega), show 20 + 2 * (6 + k) = 32 + 2 * k by omega]) ?_
      refine q_callV0 rfl (hx_line (6 + k) (by omega)) (Nat.le_of_ble_eq_true rfl) (Nat.le_of_ble_eq_true rfl) (sL_miss (6 + k) (by omega)) ?_
      refine q_if_eq rfl (fun hcks17 => ?_) (fun hcks17 => ?_)
      · refine q_iconst (v := 1) rfl rfl ?_
        refine q_iadd rfl ?_
        refine q_istore_n (L' := [_, _, _]) rfl rfl ?_
        refine q_iincN (c := 1) (L' := [_, _, _]) rfl rfl rfl rfl ?_
        refine q_goto rfl ?_
        exact ih_k _ _ (⟨by rw [show ∀ g L j, kth g L (j + 1) = kth g L j + (if j < L then (if f_neg (g j) = 0 then 1 else 0) else 0) from fun _ _ _ => rfl]; rw [if_pos hk_k]; first | rw [if_pos hcks17] | rw [if_neg hcks17], rfl⟩)
      · refine q_iconst (v := 0) rfl rfl ?_
        refine q_goto rfl ?_
        refine q_iadd rfl ?_
        refine q_istore_n (L' := [_, _, _]) rfl rfl ?_
        refine q_iincN (c := 1) (L' := [_, _, _]) rfl rfl rfl rfl ?_
        refine q_goto rfl ?_
        exact ih_k _ _ (⟨by rw [show ∀ g L j, kth g L (j + 1) = kth g L j + (if j < L then (if f_neg (g j) = 0 then 1 else 0) else 0) from fun _ _ _ => rfl]; rw [if_pos hk_k]; first | rw [if_pos hcks17] | rw [if_neg hcks17], rfl⟩)
  · obtain ⟨rfl, rfl⟩ := hi_k
    refine q_iload_n rfl rfl ?_
    refine q_aload_n rfl rfl ?_
    refine q_alen rfl (by decide) hx_2 (by decide) (v := nI _) rfl ?_
    refine q_icmp_geN rfl (by omega) (by omega) (fun hckf7 => ?_) (fun hckf7 => ?_)
    · refine q_iload_n rfl rfl ?_
      refine q_iret rfl rfl ?_
      exact ⟨rfl, rfl⟩
    · omega
theorem sX8_keptThere {X : XX} {I A : Nat → Nat → Int32} {J B : Nat → Nat → Int64} {F : Nat → Nat}  : x_ev X xT 2 147 [.ref 0] (HX I A J B F) (some (.int (kth (fun k => I (45 + 2 * k) 1) 3 3))) (HX I A J B F) := by
  refine q_ev (L := [some (.ref 0), none, none]) tX8_keptThere (Nat.le_of_ble_eq_true rfl) rfl ?_
  refine q_iconst (v := nI 0) rfl rfl ?_
  refine q_istore_n (L' := [_, _, _]) rfl rfl ?_
  refine q_iconst (v := nI 0) rfl rfl ?_
  refine q_istore_n (L' := [_, _, _]) rfl rfl ?_
  refine q_up (Inv := fun k L h => L = [some (.ref 0), some (.int (kth (fun k => I (45 + 2 * k) 1) 3 k)), some (.int (nI k))] ∧ h = HX I A J B F) (3) (fun k L h hk_k hi_k ih_k => ?_) (fun L h hi_k => ?_) (0) _ _ (by omega) (⟨rfl, rfl⟩)
  · obtain ⟨rfl, rfl⟩ := hi_k
    refine q_iload_n rfl rfl ?_
    refine q_aload_n rfl rfl ?_
    refine q_getfield rfl hx_0 rfl ?_
    refine q_alen rfl (by decide) hx_10 (by decide) (v := nI _) rfl ?_
    refine q_icmp_geN rfl (by omega) (by omega) (fun hcks10 => ?_) (fun hcks10 => ?_)
    · omega
    · refine q_iload_n rfl rfl ?_
      refine q_aload_n rfl rfl ?_
      refine q_getfield rfl hx_0 rfl ?_
      refine q_iload_n rfl rfl ?_
      refine q_aald rfl hx_10 (by omega) (by decide) rfl (xr10_at k (by omega)) ?_
      refine q_callV0 rfl (hx_kept k (by omega)) (Nat.le_of_ble_eq_true rfl) (Nat.le_of_ble_eq_true rfl) (sX3_isForgotten (hx_kept k (by omega))) ?_
      refine q_if_eq rfl (fun hcks23 => ?_) (fun hcks23 => ?_)
      · refine q_iconst (v := 1) rfl rfl ?_
        refine q_iadd rfl ?_
        refine q_istore_n (L' := [_, _, _]) rfl rfl ?_
        refine q_iincN (c := 1) (L' := [_, _, _]) rfl rfl rfl rfl ?_
        refine q_goto rfl ?_
        exact ih_k _ _ (⟨by rw [show ∀ g L j, kth g L (j + 1) = kth g L j + (if j < L then (if f_neg (g j) = 0 then 1 else 0) else 0) from fun _ _ _ => rfl]; rw [if_pos hk_k]; first | rw [if_pos hcks23] | rw [if_neg hcks23], rfl⟩)
      · refine q_iconst (v := 0) rfl rfl ?_
        refine q_goto rfl ?_
        refine q_iadd rfl ?_
        refine q_istore_n (L' := [_, _, _]) rfl rfl ?_
        refine q_iincN (c := 1) (L' := [_, _, _]) rfl rfl rfl rfl ?_
        refine q_goto rfl ?_
        exact ih_k _ _ (⟨by rw [show ∀ g L j, kth g L (j + 1) = kth g L j + (if j < L then (if f_neg (g j) = 0 then 1 else 0) else 0) from fun _ _ _ => rfl]; rw [if_pos hk_k]; first | rw [if_pos hcks23] | rw [if_neg hcks23], rfl⟩)
  · obtain ⟨rfl, rfl⟩ := hi_k
    refine q_iload_n rfl rfl ?_
    refine q_aload_n rfl rfl ?_
    refine q_getfield rfl hx_0 rfl ?_
    refine q_alen rfl (by decide) hx_10 (by decide) (v := nI _) rfl ?_
    refine q_icmp_geN rfl (by omega) (by omega) (fun hckf10 => ?_) (fun hckf10 => ?_)
    · refine q_iload_n rfl rfl ?_
      refine q_iret rfl rfl ?_
      exact ⟨rfl, rfl⟩
    · omega
theorem sX8_counted {X : XX} {I A : Nat → Nat → Int32} {J B : Nat → Nat → Int64} {F : Nat → Nat} (ln : Nat) (hln : ln ≤ 5) (eln : I 0 12 = nI ln) (lks : ∀ i, i < 5 → lkOK I (40 + i)) (w : Nat) (hw : w < 11) : x_ev X xT 3 144 [.ref 0, .int (nI w)] (HX I A J B F) (some (.int (cnN ln (I 8 2) (I 8 1) (I 8 3) (I 7 0) (I 8 4) (fun i => I (40 + i) 0) (fun k => I (20 + 2 * k) 1) (fun k => I (20 + 2 * (6 + k)) 1) (fun k => I (45 + 2 * k) 1) w))) (HX I A J B F) := by
  refine q_ev (L := [some (.ref 0), some (.int (nI w))]) tX8_counted (Nat.le_of_ble_eq_true rfl) rfl ?_
  refine q_iload_n rfl rfl ?_
  rcases (show w = 0 ∨ w = 1 ∨ w = 2 ∨ w = 3 ∨ w = 4 ∨ w = 5 ∨ w = 6 ∨ w = 7 ∨ w = 8 ∨ w = 9 ∨ w = 10 by omega) with rfl | rfl | rfl | rfl | rfl | rfl | rfl | rfl | rfl | rfl | rfl
  · refine q_tsw (t := 56) rfl (by decide) ?_
    refine q_aload_n rfl rfl ?_
    refine q_getI rfl hx_0 rfl (eln) ?_
    refine q_iret rfl rfl ?_
    exact ⟨rfl, rfl⟩
  · refine q_tsw (t := 61) rfl (by decide) ?_
    refine q_aload_n rfl rfl ?_
    refine q_getfield rfl hx_0 rfl ?_
    refine q_callV0 rfl hx_8 (Nat.le_of_ble_eq_true rfl) (Nat.le_of_ble_eq_true rfl) (sX3_now hx_8) ?_
    refine q_iret rfl rfl ?_
    exact ⟨rfl, rfl⟩
  · refine q_tsw (t := 69) rfl (by decide) ?_
    refine q_aload_n rfl rfl ?_
    refine q_getfield rfl hx_0 rfl ?_
    refine q_callV0 rfl hx_8 (Nat.le_of_ble_eq_true rfl) (Nat.le_of_ble_eq_true rfl) (sX3_done hx_8) ?_
    refine q_iret rfl rfl ?_
    exact ⟨rfl, rfl⟩
  · refine q_tsw (t := 77) rfl (by decide) ?_
    refine q_aload_n rfl rfl ?_
    refine q_getfield rfl hx_0 rfl ?_
    refine q_callV0 rfl hx_8 (Nat.le_of_ble_eq_true rfl) (Nat.le_of_ble_eq_true rfl) (sX3_first hx_8) ?_
    refine q_iret rfl rfl ?_
    exact ⟨rfl, rfl⟩
  · refine q_tsw (t := 85) rfl (by decide) ?_
    refine q_aload_n rfl rfl ?_
    refine q_getfield rfl hx_0 rfl ?_
    refine q_callV0 rfl hx_7 (Nat.le_of_ble_eq_true rfl) (Nat.le_of_ble_eq_true rfl) (sX6_broad hx_7) ?_
    refine q_iret rfl rfl ?_
    exact ⟨rfl, rfl⟩
  · refine q_tsw (t := 93) rfl (by decide) ?_
    refine q_aload_n rfl rfl ?_
    refine q_iconst (v := 1) rfl rfl ?_
    refine q_callV1 rfl hx_0 (Nat.le_of_ble_eq_true rfl) (Nat.le_of_ble_eq_true rfl) (sX8_lightsOf ln hln eln lks _) ?_
    refine q_iret rfl rfl ?_
    exact ⟨rfl, rfl⟩
  · refine q_tsw (t := 99) rfl (by decide) ?_
    refine q_aload_n rfl rfl ?_
    refine q_iconst (v := 3) rfl rfl ?_
    refine q_callV1 rfl hx_0 (Nat.le_of_ble_eq_true rfl) (Nat.le_of_ble_eq_true rfl) (sX8_lightsOf ln hln eln lks _) ?_
    refine q_iret rfl rfl ?_
    exact ⟨rfl, rfl⟩
  · refine q_tsw (t := 105) rfl (by decide) ?_
    refine q_aload_n rfl rfl ?_
    refine q_getfield rfl hx_0 rfl ?_
    refine q_callS1 rfl rfl (Nat.le_of_ble_eq_true rfl) (Nat.le_of_ble_eq_true rfl) (sX8_linesThere_row) ?_
    refine q_iret rfl rfl ?_
    exact ⟨rfl, rfl⟩
  · refine q_tsw (t := 113) rfl (by decide) ?_
    refine q_aload_n rfl rfl ?_
    refine q_getfield rfl hx_0 rfl ?_
    refine q_callS1 rfl rfl (Nat.le_of_ble_eq_true rfl) (Nat.le_of_ble_eq_true rfl) (sX8_linesThere_txt) ?_
    refine q_iret rfl rfl ?_
    exact ⟨rfl, rfl⟩
  · refine q_tsw (t := 121) rfl (by decide) ?_
    refine q_aload_n rfl rfl ?_
    refine q_callV0 rfl hx_0 (Nat.le_of_ble_eq_true rfl) (Nat.le_of_ble_eq_true rfl) (sX8_keptThere) ?_
    refine q_iret rfl rfl ?_
    exact ⟨rfl, rfl⟩
  · refine q_tsw (t := 126) rfl (by decide) ?_
    refine q_aload_n rfl rfl ?_
    refine q_getfield rfl hx_0 rfl ?_
    refine q_callV0 rfl hx_8 (Nat.le_of_ble_eq_true rfl) (Nat.le_of_ble_eq_true rfl) (sX3_spent hx_8) ?_
    refine q_iret rfl rfl ?_
    exact ⟨rfl, rfl⟩
theorem c_count_bad {X : XX} {I A : Nat → Nat → Int32} {J B : Nat → Nat → Int64} {F : Nat → Nat} (x : Int32) (hx : x < 0 ∨ nI 11 ≤ x) : x_ev X xT 4 119 [.ref 0, .int x] (HX I A J B F) (some (.int (-1))) (HX I A J B F) := by
  refine q_ev (L := [some (.ref 0), some (.int x)]) tX8_count (Nat.le_of_ble_eq_true rfl) rfl ?_
  refine q_iload_n rfl rfl ?_
  refine q_if_lt rfl (fun hc1 => ?_) (fun hc1 => ?_)
  · refine q_iconst (v := (-1)) rfl rfl ?_
    refine q_iret rfl rfl ?_
    exact ⟨rfl, rfl⟩
  · refine q_iload_n rfl rfl ?_
    refine q_bipush (v := nI 11) rfl rfl ?_
    refine q_icmp_lt rfl (fun hc7 => ?_) (fun hc7 => ?_)
    · exact absurd hc7 (Int32.not_lt.mpr (hx.resolve_left hc1))
    · refine q_iconst (v := (-1)) rfl rfl ?_
      refine q_iret rfl rfl ?_
      exact ⟨rfl, rfl⟩
theorem c_count_0 {X : XX} {I A : Nat → Nat → Int32} {J B : Nat → Nat → Int64} {F : Nat → Nat} (ln : Nat) (hln : ln ≤ 5) (eln : I 0 12 = nI ln) (lks : ∀ i, i < 5 → lkOK I (40 + i)) (w : Nat) (hw : w < 11) : x_ev X xT 4 119 [.ref 0, .int (nI w)] (HX I A J B F) (some (.int (cnN ln (I 8 2) (I 8 1) (I 8 3) (I 7 0) (I 8 4) (fun i => I (40 + i) 0) (fun k => I (20 + 2 * k) 1) (fun k => I (20 + 2 * (6 + k)) 1) (fun k => I (45 + 2 * k) 1) w))) (HX I A J B F) := by
  refine q_ev (L := [some (.ref 0), some (.int (nI w))]) tX8_count (Nat.le_of_ble_eq_true rfl) rfl ?_
  refine q_iload_n rfl rfl ?_
  refine q_if_ltN rfl (by omega) (fun hc1 => ?_) (fun hc1 => ?_)
  · omega
  · refine q_iload_n rfl rfl ?_
    refine q_bipush (v := nI 11) rfl rfl ?_
    refine q_icmp_ltN rfl (by omega) (by omega) (fun hc7 => ?_) (fun hc7 => ?_)
    · refine q_aload_n rfl rfl ?_
      refine q_iload_n rfl rfl ?_
      refine q_callV1 rfl hx_0 (Nat.le_of_ble_eq_true rfl) (Nat.le_of_ble_eq_true rfl) (sX8_counted ln hln eln lks w hw) ?_
      refine q_iret rfl rfl ?_
      exact ⟨rfl, rfl⟩
    · omega
theorem sX9_kindMany {X : XX} {I A : Nat → Nat → Int32} {J B : Nat → Nat → Int64} {F : Nat → Nat} (ln : Nat) (hln : ln ≤ 5) (eln : I 51 3 = nI ln) (w : Int32) : x_ev X xT 2 243 [.ref 51, .int w] (HX I A J B F) (some (.int (kmy (fun i => f_of (A 53 i) w) ln))) (HX I A J B F) := by
  refine q_ev (L := [some (.ref 51), some (.int w), none, none]) tX9_kindMany (Nat.le_of_ble_eq_true rfl) rfl ?_
  refine q_iconst (v := 0) rfl rfl ?_
  refine q_istore_n (L' := [_, _, _, _]) rfl rfl ?_
  refine q_iconst (v := 0) rfl rfl ?_
  refine q_istore_n (L' := [_, _, _, _]) rfl rfl ?_
  refine q_up (Inv := fun k L h => L = [some (.ref 51), some (.int w), some (.int (kmy (fun i => f_of (A 53 i) w) k)), some (.int (nI k))] ∧ h = HX I A J B F) (ln) (fun k L h hk_k hi_k ih_k => ?_) (fun L h hi_k => ?_) (0) _ _ (by omega) (⟨rfl, rfl⟩)
  · obtain ⟨rfl, rfl⟩ := hi_k
    refine q_iload_n rfl rfl ?_
    refine q_aload_n rfl rfl ?_
    refine q_getI rfl hx_51 rfl (eln) ?_
    refine q_icmp_geN rfl (by omega) (by omega) (fun hcks9 => ?_) (fun hcks9 => ?_)
    · omega
    · refine q_iload_n rfl rfl ?_
      refine q_aload_n rfl rfl ?_
      refine q_iload_n rfl rfl ?_
      refine q_iload_n rfl rfl ?_
      refine q_callV2 rfl hx_51 (Nat.le_of_ble_eq_true rfl) (Nat.le_of_ble_eq_true rfl) (sX9_isOf k (by omega) w) ?_
      refine q_if_eq rfl (fun hcks19 => ?_) (fun hcks19 => ?_)
      · refine q_iconst (v := 0) rfl rfl ?_
        refine q_iadd rfl ?_
        refine q_istore_n (L' := [_, _, _, _]) rfl rfl ?_
        refine q_iincN (c := 1) (L' := [_, _, _, _]) rfl rfl rfl rfl ?_
        refine q_goto rfl ?_
        exact ih_k _ _ (⟨by rw [show ∀ g k, kmy g (k + 1) = kmy g k + (if g k = 0 then 0 else 1) from fun _ _ => rfl]; first | rw [if_pos hcks19] | rw [if_neg hcks19], rfl⟩)
      · refine q_iconst (v := 1) rfl rfl ?_
        refine q_goto rfl ?_
        refine q_iadd rfl ?_
        refine q_istore_n (L' := [_, _, _, _]) rfl rfl ?_
        refine q_iincN (c := 1) (L' := [_, _, _, _]) rfl rfl rfl rfl ?_
        refine q_goto rfl ?_
        exact ih_k _ _ (⟨by rw [show ∀ g k, kmy g (k + 1) = kmy g k + (if g k = 0 then 0 else 1) from fun _ _ => rfl]; first | rw [if_pos hcks19] | rw [if_neg hcks19], rfl⟩)
  · obtain ⟨rfl, rfl⟩ := hi_k
    refine q_iload_n rfl rfl ?_
    refine q_aload_n rfl rfl ?_
    refine q_getI rfl hx_51 rfl (eln) ?_
    refine q_icmp_geN rfl (by omega) (by omega) (fun hckf9 => ?_) (fun hckf9 => ?_)
    · refine q_iload_n rfl rfl ?_
      refine q_iret rfl rfl ?_
      exact ⟨rfl, rfl⟩
    · omega
theorem sX9_thereOf_7 {X : XX} {I A : Nat → Nat → Int32} {J B : Nat → Nat → Int64} {F : Nat → Nat}  : x_ev X xT 1 244 [.ref 51, .int (nI 7)] (HX I A J B F) (some (.int (kth (A 57) 6 6))) (HX I A J B F) := by
  refine q_ev (L := [some (.ref 51), some (.int (nI 7)), none, none]) tX9_thereOf (Nat.le_of_ble_eq_true rfl) rfl ?_
  refine q_iconst (v := nI 0) rfl rfl ?_
  refine q_istore_n (L' := [_, _, _, _]) rfl rfl ?_
  refine q_iconst (v := nI 0) rfl rfl ?_
  refine q_istore_n (L' := [_, _, _, _]) rfl rfl ?_
  refine q_up (Inv := fun k L h => L = [some (.ref 51), some (.int (nI 7)), some (.int (kth (A 57) 6 k)), some (.int (nI k))] ∧ h = HX I A J B F) (6) (fun k L h hk_k hi_k ih_k => ?_) (fun L h hi_k => ?_) (0) _ _ (by omega) (⟨rfl, rfl⟩)
  · obtain ⟨rfl, rfl⟩ := hi_k
    refine q_iload_n rfl rfl ?_
    refine q_bipush (v := nI 6) rfl rfl ?_
    refine q_icmp_geN rfl (by omega) (by omega) (fun hcks7 => ?_) (fun hcks7 => ?_)
    · omega
    · refine q_iload_n rfl rfl ?_
      refine q_iload_n rfl rfl ?_
      refine q_bipush (v := nI 7) rfl rfl ?_
      refine q_icmp_neN rfl (by omega) (by omega) (fun hcks14 => ?_) (fun hcks14 => ?_)
      · exact absurd hcks14 (by decide)
      · refine q_aload_n rfl rfl ?_
        refine q_getfield rfl hx_51 rfl ?_
        refine q_iload_n rfl rfl ?_
        refine q_iald rfl (by decide) hx_57 (by omega) (by decide) (rfl) ?_
        refine q_if_ge rfl (fun hcks23 => ?_) (fun hcks23 => ?_)
        · refine q_iconst (v := 1) rfl rfl ?_
          refine q_goto rfl ?_
          refine q_iadd rfl ?_
          refine q_istore_n (L' := [_, _, _, _]) rfl rfl ?_
          refine q_iincN (c := 1) (L' := [_, _, _, _]) rfl rfl rfl rfl ?_
          refine q_goto rfl ?_
          exact ih_k _ _ (⟨by rw [show ∀ g L j, kth g L (j + 1) = kth g L j + (if j < L then (if f_neg (g j) = 0 then 1 else 0) else 0) from fun _ _ _ => rfl, if_pos (by omega), f_nite1]; first | rw [if_pos hcks23] | rw [if_neg hcks23], rfl⟩)
        · refine q_iconst (v := 0) rfl rfl ?_
          refine q_goto rfl ?_
          refine q_iadd rfl ?_
          refine q_istore_n (L' := [_, _, _, _]) rfl rfl ?_
          refine q_iincN (c := 1) (L' := [_, _, _, _]) rfl rfl rfl rfl ?_
          refine q_goto rfl ?_
          exact ih_k _ _ (⟨by rw [show ∀ g L j, kth g L (j + 1) = kth g L j + (if j < L then (if f_neg (g j) = 0 then 1 else 0) else 0) from fun _ _ _ => rfl, if_pos (by omega), f_nite1]; first | rw [if_pos hcks23] | rw [if_neg hcks23], rfl⟩)
  · obtain ⟨rfl, rfl⟩ := hi_k
    refine q_iload_n rfl rfl ?_
    refine q_bipush (v := nI 6) rfl rfl ?_
    refine q_icmp_geN rfl (by omega) (by omega) (fun hckf7 => ?_) (fun hckf7 => ?_)
    · refine q_iload_n rfl rfl ?_
      refine q_iret rfl rfl ?_
      exact ⟨vI (kth_over (by decide)), rfl⟩
    · omega
theorem sX9_thereOf_8 {X : XX} {I A : Nat → Nat → Int32} {J B : Nat → Nat → Int64} {F : Nat → Nat}  : x_ev X xT 1 244 [.ref 51, .int (nI 8)] (HX I A J B F) (some (.int (kth (A 59) 4 4))) (HX I A J B F) := by
  refine q_ev (L := [some (.ref 51), some (.int (nI 8)), none, none]) tX9_thereOf (Nat.le_of_ble_eq_true rfl) rfl ?_
  refine q_iconst (v := nI 0) rfl rfl ?_
  refine q_istore_n (L' := [_, _, _, _]) rfl rfl ?_
  refine q_iconst (v := nI 0) rfl rfl ?_
  refine q_istore_n (L' := [_, _, _, _]) rfl rfl ?_
  refine q_up (Inv := fun k L h => L = [some (.ref 51), some (.int (nI 8)), some (.int (kth (A 59) 4 k)), some (.int (nI k))] ∧ h = HX I A J B F) (6) (fun k L h hk_k hi_k ih_k => ?_) (fun L h hi_k => ?_) (0) _ _ (by omega) (⟨rfl, rfl⟩)
  · obtain ⟨rfl, rfl⟩ := hi_k
    refine q_iload_n rfl rfl ?_
    refine q_bipush (v := nI 6) rfl rfl ?_
    refine q_icmp_geN rfl (by omega) (by omega) (fun hcks7 => ?_) (fun hcks7 => ?_)
    · omega
    · refine q_iload_n rfl rfl ?_
      refine q_iload_n rfl rfl ?_
      refine q_bipush (v := nI 7) rfl rfl ?_
      refine q_icmp_neN rfl (by omega) (by omega) (fun hcks14 => ?_) (fun hcks14 => ?_)
      · refine q_iload_n rfl rfl ?_
        refine q_bipush (v := nI 8) rfl rfl ?_
        refine q_icmp_neN rfl (by omega) (by omega) (fun hcks37 => ?_) (fun hcks37 => ?_)
        · exact absurd hcks37 (by decide)
        · refine q_iload_n rfl rfl ?_
          refine q_iconst (v := nI 4) rfl rfl ?_
          refine q_icmp_geN rfl (by omega) (by omega) (fun hcks42 => ?_) (fun hcks42 => ?_)
          · refine q_iconst (v := 0) rfl rfl ?_
            refine q_goto rfl ?_
            refine q_iadd rfl ?_
            refine q_istore_n (L' := [_, _, _, _]) rfl rfl ?_
            refine q_iincN (c := 1) (L' := [_, _, _, _]) rfl rfl rfl rfl ?_
            refine q_goto rfl ?_
            exact ih_k _ _ (⟨by rw [show ∀ g L j, kth g L (j + 1) = kth g L j + (if j < L then (if f_neg (g j) = 0 then 1 else 0) else 0) from fun _ _ _ => rfl]; first | rw [if_neg (show ¬ k < 4 by omega)] | (rw [if_pos (show k < 4 by omega), f_nite2]; first | rw [if_pos hcks51] | rw [if_neg hcks51]), rfl⟩)
          · refine q_aload_n rfl rfl ?_
            refine q_getfield rfl hx_51 rfl ?_
            refine q_iload_n rfl rfl ?_
            refine q_iald rfl (by decide) hx_59 (by omega) (by decide) (rfl) ?_
            refine q_if_lt rfl (fun hcks51 => ?_) (fun hcks51 => ?_)
            · refine q_iconst (v := 0) rfl rfl ?_
              refine q_goto rfl ?_
              refine q_iadd rfl ?_
              refine q_istore_n (L' := [_, _, _, _]) rfl rfl ?_
              refine q_iincN (c := 1) (L' := [_, _, _, _]) rfl rfl rfl rfl ?_
              refine q_goto rfl ?_
              exact ih_k _ _ (⟨by rw [show ∀ g L j, kth g L (j + 1) = kth g L j + (if j < L then (if f_neg (g j) = 0 then 1 else 0) else 0) from fun _ _ _ => rfl]; first | rw [if_neg (show ¬ k < 4 by omega)] | (rw [if_pos (show k < 4 by omega), f_nite2]; first | rw [if_pos hcks51] | rw [if_neg hcks51]), rfl⟩)
            · refine q_iconst (v := 1) rfl rfl ?_
              refine q_goto rfl ?_
              refine q_iadd rfl ?_
              refine q_istore_n (L' := [_, _, _, _]) rfl rfl ?_
              refine q_iincN (c := 1) (L' := [_, _, _, _]) rfl rfl rfl rfl ?_
              refine q_goto rfl ?_
              exact ih_k _ _ (⟨by rw [show ∀ g L j, kth g L (j + 1) = kth g L j + (if j < L then (if f_neg (g j) = 0 then 1 else 0) else 0) from fun _ _ _ => rfl]; first | rw [if_neg (show ¬ k < 4 by omega)] | (rw [if_pos (show k < 4 by omega), f_nite2]; first | rw [if_pos hcks51] | rw [if_neg hcks51]), rfl⟩)
      · exact absurd hcks14 (by decide)
  · obtain ⟨rfl, rfl⟩ := hi_k
    refine q_iload_n rfl rfl ?_
    refine q_bipush (v := nI 6) rfl rfl ?_
    refine q_icmp_geN rfl (by omega) (by omega) (fun hckf7 => ?_) (fun hckf7 => ?_)
    · refine q_iload_n rfl rfl ?_
      refine q_iret rfl rfl ?_
      exact ⟨vI (kth_over (by decide)), rfl⟩
    · omega
theorem sX9_thereOf_9 {X : XX} {I A : Nat → Nat → Int32} {J B : Nat → Nat → Int64} {F : Nat → Nat}  : x_ev X xT 1 244 [.ref 51, .int (nI 9)] (HX I A J B F) (some (.int (kth ((fun k => A 52 (124 * (1 + k) + 0))) 3 3))) (HX I A J B F) := by
  refine q_ev (L := [some (.ref 51), some (.int (nI 9)), none, none]) tX9_thereOf (Nat.le_of_ble_eq_true rfl) rfl ?_
  refine q_iconst (v := nI 0) rfl rfl ?_
  refine q_istore_n (L' := [_, _, _, _]) rfl rfl ?_
  refine q_iconst (v := nI 0) rfl rfl ?_
  refine q_istore_n (L' := [_, _, _, _]) rfl rfl ?_
  refine q_up (Inv := fun k L h => L = [some (.ref 51), some (.int (nI 9)), some (.int (kth ((fun k => A 52 (124 * (1 + k) + 0))) 3 k)), some (.int (nI k))] ∧ h = HX I A J B F) (6) (fun k L h hk_k hi_k ih_k => ?_) (fun L h hi_k => ?_) (0) _ _ (by omega) (⟨rfl, rfl⟩)
  · obtain ⟨rfl, rfl⟩ := hi_k
    refine q_iload_n rfl rfl ?_
    refine q_bipush (v := nI 6) rfl rfl ?_
    refine q_icmp_geN rfl (by omega) (by omega) (fun hcks7 => ?_) (fun hcks7 => ?_)
    · omega
    · refine q_iload_n rfl rfl ?_
      refine q_iload_n rfl rfl ?_
      refine q_bipush (v := nI 7) rfl rfl ?_
      refine q_icmp_neN rfl (by omega) (by omega) (fun hcks14 => ?_) (fun hcks14 => ?_)
      · refine q_iload_n rfl rfl ?_
        refine q_bipush (v := nI 8) rfl rfl ?_
        refine q_icmp_neN rfl (by omega) (by omega) (fun hcks37 => ?_) (fun hcks37 => ?_)
        · refine q_iload_n rfl rfl ?_
          refine q_iconst (v := nI 3) rfl rfl ?_
          refine q_icmp_geN rfl (by omega) (by omega) (fun hcks64 => ?_) (fun hcks64 => ?_)
          · refine q_iconst (v := 0) rfl rfl ?_
            refine q_iadd rfl ?_
            refine q_istore_n (L' := [_, _, _, _]) rfl rfl ?_
            refine q_iincN (c := 1) (L' := [_, _, _, _]) rfl rfl rfl rfl ?_
            refine q_goto rfl ?_
            exact ih_k _ _ (⟨by rw [show ∀ g L j, kth g L (j + 1) = kth g L j + (if j < L then (if f_neg (g j) = 0 then 1 else 0) else 0) from fun _ _ _ => rfl]; first | rw [if_neg (show ¬ k < 3 by omega)] | (rw [if_pos (show k < 3 by omega), f_nite2]; first | rw [if_pos hcks80] | rw [if_neg hcks80]), rfl⟩)
          · refine q_aload_n rfl rfl ?_
            refine q_getfield rfl hx_51 rfl ?_
            refine q_bipush (v := nI 124) rfl rfl ?_
            refine q_iconst (v := nI 1) rfl rfl ?_
            refine q_iload_n rfl rfl ?_
            refine q_iaddN rfl ?_
            refine q_imulN rfl ?_
            refine q_iconst (v := nI 0) rfl rfl ?_
            refine q_iaddN rfl ?_
            refine q_iald rfl (by decide) hx_52 (by omega) (by decide) (rfl) ?_
            refine q_if_lt rfl (fun hcks80 => ?_) (fun hcks80 => ?_)
            · refine q_iconst (v := 0) rfl rfl ?_
              refine q_iadd rfl ?_
              refine q_istore_n (L' := [_, _, _, _]) rfl rfl ?_
              refine q_iincN (c := 1) (L' := [_, _, _, _]) rfl rfl rfl rfl ?_
              refine q_goto rfl ?_
              exact ih_k _ _ (⟨by rw [show ∀ g L j, kth g L (j + 1) = kth g L j + (if j < L then (if f_neg (g j) = 0 then 1 else 0) else 0) from fun _ _ _ => rfl]; first | rw [if_neg (show ¬ k < 3 by omega)] | (rw [if_pos (show k < 3 by omega), f_nite2]; first | rw [if_pos hcks80] | rw [if_neg hcks80]), rfl⟩)
            · refine q_iconst (v := 1) rfl rfl ?_
              refine q_goto rfl ?_
              refine q_iadd rfl ?_
              refine q_istore_n (L' := [_, _, _, _]) rfl rfl ?_
              refine q_iincN (c := 1) (L' := [_, _, _, _]) rfl rfl rfl rfl ?_
              refine q_goto rfl ?_
              exact ih_k _ _ (⟨by rw [show ∀ g L j, kth g L (j + 1) = kth g L j + (if j < L then (if f_neg (g j) = 0 then 1 else 0) else 0) from fun _ _ _ => rfl]; first | rw [if_neg (show ¬ k < 3 by omega)] | (rw [if_pos (show k < 3 by omega), f_nite2]; first | rw [if_pos hcks80] | rw [if_neg hcks80]), rfl⟩)
        · exact absurd hcks37 (by decide)
      · exact absurd hcks14 (by decide)
  · obtain ⟨rfl, rfl⟩ := hi_k
    refine q_iload_n rfl rfl ?_
    refine q_bipush (v := nI 6) rfl rfl ?_
    refine q_icmp_geN rfl (by omega) (by omega) (fun hckf7 => ?_) (fun hckf7 => ?_)
    · refine q_iload_n rfl rfl ?_
      refine q_iret rfl rfl ?_
      exact ⟨vI (kth_over (by decide)), rfl⟩
    · omega
theorem sX9_countOf {X : XX} {I A : Nat → Nat → Int32} {J B : Nat → Nat → Int64} {F : Nat → Nat} (ln : Nat) (hln : ln ≤ 5) (eln : I 51 3 = nI ln) (w : Nat) (hw : w < 11) : x_ev X xT 3 245 [.ref 51, .int (nI w)] (HX I A J B F) (some (.int (cnN ln (A 52 1) (A 52 0) (A 52 2) (I 51 1) (A 52 3) (A 53) (A 57) (A 59) (fun k => A 52 (124 * (1 + k) + 0)) w))) (HX I A J B F) := by
  refine q_ev (L := [some (.ref 51), some (.int (nI w))]) tX9_countOf (Nat.le_of_ble_eq_true rfl) rfl ?_
  refine q_iload_n rfl rfl ?_
  rcases (show w = 0 ∨ w = 1 ∨ w = 2 ∨ w = 3 ∨ w = 4 ∨ w = 5 ∨ w = 6 ∨ w = 7 ∨ w = 8 ∨ w = 9 ∨ w = 10 by omega) with rfl | rfl | rfl | rfl | rfl | rfl | rfl | rfl | rfl | rfl | rfl
  · refine q_tsw (t := 60) rfl (by decide) ?_
    refine q_aload_n rfl rfl ?_
    refine q_getI rfl hx_51 rfl (eln) ?_
    refine q_iret rfl rfl ?_
    exact ⟨rfl, rfl⟩
  · refine q_tsw (t := 65) rfl (by decide) ?_
    refine q_aload_n rfl rfl ?_
    refine q_getfield rfl hx_51 rfl ?_
    refine q_iconst (v := nI 1) rfl rfl ?_
    refine q_iald rfl (by decide) hx_52 (by decide) (by decide) (rfl) ?_
    refine q_iret rfl rfl ?_
    exact ⟨rfl, rfl⟩
  · refine q_tsw (t := 72) rfl (by decide) ?_
    refine q_aload_n rfl rfl ?_
    refine q_getfield rfl hx_51 rfl ?_
    refine q_iconst (v := nI 0) rfl rfl ?_
    refine q_iald rfl (by decide) hx_52 (by decide) (by decide) (rfl) ?_
    refine q_iret rfl rfl ?_
    exact ⟨rfl, rfl⟩
  · refine q_tsw (t := 79) rfl (by decide) ?_
    refine q_aload_n rfl rfl ?_
    refine q_getfield rfl hx_51 rfl ?_
    refine q_iconst (v := nI 2) rfl rfl ?_
    refine q_iald rfl (by decide) hx_52 (by decide) (by decide) (rfl) ?_
    refine q_iret rfl rfl ?_
    exact ⟨rfl, rfl⟩
  · refine q_tsw (t := 86) rfl (by decide) ?_
    refine q_aload_n rfl rfl ?_
    refine q_getfield rfl hx_51 rfl ?_
    refine q_iret rfl rfl ?_
    exact ⟨rfl, rfl⟩
  · refine q_tsw (t := 91) rfl (by decide) ?_
    refine q_aload_n rfl rfl ?_
    refine q_iconst (v := 1) rfl rfl ?_
    refine q_callV1 rfl hx_51 (Nat.le_of_ble_eq_true rfl) (Nat.le_of_ble_eq_true rfl) (sX9_kindMany ln hln eln _) ?_
    refine q_iret rfl rfl ?_
    exact ⟨rfl, rfl⟩
  · refine q_tsw (t := 97) rfl (by decide) ?_
    refine q_aload_n rfl rfl ?_
    refine q_iconst (v := 3) rfl rfl ?_
    refine q_callV1 rfl hx_51 (Nat.le_of_ble_eq_true rfl) (Nat.le_of_ble_eq_true rfl) (sX9_kindMany ln hln eln _) ?_
    refine q_iret rfl rfl ?_
    exact ⟨rfl, rfl⟩
  · refine q_tsw (t := 110) rfl (by decide) ?_
    refine q_aload_n rfl rfl ?_
    refine q_iload_n rfl rfl ?_
    refine q_callV1 rfl hx_51 (Nat.le_of_ble_eq_true rfl) (Nat.le_of_ble_eq_true rfl) (by first | exact sX9_thereOf_7 | exact sX9_thereOf_8 | exact sX9_thereOf_9) ?_
    refine q_iret rfl rfl ?_
    exact ⟨rfl, rfl⟩
  · refine q_tsw (t := 110) rfl (by decide) ?_
    refine q_aload_n rfl rfl ?_
    refine q_iload_n rfl rfl ?_
    refine q_callV1 rfl hx_51 (Nat.le_of_ble_eq_true rfl) (Nat.le_of_ble_eq_true rfl) (by first | exact sX9_thereOf_7 | exact sX9_thereOf_8 | exact sX9_thereOf_9) ?_
    refine q_iret rfl rfl ?_
    exact ⟨rfl, rfl⟩
  · refine q_tsw (t := 110) rfl (by decide) ?_
    refine q_aload_n rfl rfl ?_
    refine q_iload_n rfl rfl ?_
    refine q_callV1 rfl hx_51 (Nat.le_of_ble_eq_true rfl) (Nat.le_of_ble_eq_true rfl) (by first | exact sX9_thereOf_7 | exact sX9_thereOf_8 | exact sX9_thereOf_9) ?_
    refine q_iret rfl rfl ?_
    exact ⟨rfl, rfl⟩
  · refine q_tsw (t := 103) rfl (by decide) ?_
    refine q_aload_n rfl rfl ?_
    refine q_getfield rfl hx_51 rfl ?_
    refine q_iconst (v := nI 3) rfl rfl ?_
    refine q_iald rfl (by decide) hx_52 (by decide) (by decide) (rfl) ?_
    refine q_iret rfl rfl ?_
    exact ⟨rfl, rfl⟩
theorem m_count_bad {X : XX} {I A : Nat → Nat → Int32} {J B : Nat → Nat → Int64} {F : Nat → Nat} (x : Int32) (hx : x < 0 ∨ nI 11 ≤ x) : x_ev X xT 4 246 [.ref 51, .int x] (HX I A J B F) (some (.int (-1))) (HX I A J B F) := by
  refine q_ev (L := [some (.ref 51), some (.int x)]) tX9_count (Nat.le_of_ble_eq_true rfl) rfl ?_
  refine q_iload_n rfl rfl ?_
  refine q_i2l rfl ?_
  refine q_lconst (v := 0) rfl rfl ?_
  refine q_ldc2_w (v := 10) rfl rfl ?_
  refine q_callS3 rfl rfl (Nat.le_of_ble_eq_true rfl) (Nat.le_of_ble_eq_true rfl) (sX9_in _ _ _) ?_
  refine q_cn (f_in_0 (lo := 0) (hi := nI 10) rfl rfl (hx.imp id (fun z => f_lt1 (n := 10) (by omega) z))) ?_
  refine q_if_eqN rfl (by omega) (fun hc9 => ?_) (fun hc9 => ?_)
  · refine q_iconst (v := (-1)) rfl rfl ?_
    refine q_iret rfl rfl ?_
    exact ⟨rfl, rfl⟩
  · exact absurd hc9 (by decide)
theorem m_count_0 {X : XX} {I A : Nat → Nat → Int32} {J B : Nat → Nat → Int64} {F : Nat → Nat} (ln : Nat) (hln : ln ≤ 5) (eln : I 51 3 = nI ln) (w : Nat) (hw : w < 11) : x_ev X xT 4 246 [.ref 51, .int (nI w)] (HX I A J B F) (some (.int (cnN ln (A 52 1) (A 52 0) (A 52 2) (I 51 1) (A 52 3) (A 53) (A 57) (A 59) (fun k => A 52 (124 * (1 + k) + 0)) w))) (HX I A J B F) := by
  refine q_ev (L := [some (.ref 51), some (.int (nI w))]) tX9_count (Nat.le_of_ble_eq_true rfl) rfl ?_
  refine q_iload_n rfl rfl ?_
  refine q_i2l rfl ?_
  refine q_lconst (v := 0) rfl rfl ?_
  refine q_ldc2_w (v := 10) rfl rfl ?_
  refine q_callS3 rfl rfl (Nat.le_of_ble_eq_true rfl) (Nat.le_of_ble_eq_true rfl) (sX9_in _ _ _) ?_
  refine q_cn (f_in_1 (lo := nI 0) (hi := nI 10) rfl rfl (nI_nlt (by omega) (by omega)) (nI_nlt (by omega) (by omega))) ?_
  refine q_if_eqN rfl (by omega) (fun hc9 => ?_) (fun hc9 => ?_)
  · exact absurd hc9 (by decide)
  · refine q_aload_n rfl rfl ?_
    refine q_iload_n rfl rfl ?_
    refine q_callV1 rfl hx_51 (Nat.le_of_ble_eq_true rfl) (Nat.le_of_ble_eq_true rfl) (sX9_countOf ln hln eln w hw) ?_
    refine q_goto rfl ?_
    refine q_iret rfl rfl ?_
    exact ⟨rfl, rfl⟩
