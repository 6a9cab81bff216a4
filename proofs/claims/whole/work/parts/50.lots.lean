/-! nights by lots -/
abbrev NS : Type := Nat × (Nat → Int32) × Nat × Nat × Int32
def nsT (st : Nat) (x : Int32) (t : NS) : NS := (t.1 + 1, upd t.2.1 t.1 x, t.2.2.1, rdN (nI t.2.2.2.1 + x), t.2.2.2.2 + f_ef (nI st) (nI t.2.2.2.1) x)
def nsP (t : NS) : NS := (t.1 + 1, upd t.2.1 t.1 0, t.2.2.1 + 1, t.2.2.2.1, t.2.2.2.2)
def lotK (u : Nat) : Nat → Nat
  | 0 => u
  | k + 1 => lotK u k * 48271 % 2147483647
def byK (u k : Nat) : Nat := lotK u (k + 1) / 16 % 5
def nsM (st u k : Nat) (t : NS) : NS := if byK u k = 2 then t else nsT st (sI 2 (byK u k)) t
def nsK (st u : Nat) (t : NS) : Nat → NS
  | 0 => t
  | k + 1 => nsP (nsM st u k (nsK st u t k))
def lgK (b ln : Nat) (L : Nat → LT) (st u : Nat) (t : NS) : Nat → Nat
  | 0 => 0
  | k + 1 => lgK b ln L st u t k + nsum (fun i => gnN b (L i) (nI (nsM st u k (nsK st u t k)).2.2.2.1) (nsM st u k (nsK st u t k)).2.2.1) ln
def bqT (st : Nat) (x : Int32) (t : NS) (g : Nat → Int32) : Nat → Int32 := upd (upd (kpd g t.1) 2 (nI (rdN (nI t.2.2.2.1 + x)))) 3 (g 3 + f_ef (nI st) (nI t.2.2.2.1) x)
def bqP (t : NS) (g : Nat → Int32) : Nat → Int32 := upd (kpd g t.1) 1 (nI (t.2.2.1 + 1))
def bqM (st u k : Nat) (t : NS) (g : Nat → Int32) : Nat → Int32 := if byK u k = 2 then g else bqT st (sI 2 (byK u k)) t g
def bqK (st u : Nat) (t : NS) (g : Nat → Int32) : Nat → Nat → Int32
  | 0 => g
  | k + 1 => bqP (nsM st u k (nsK st u t k)) (bqM st u k (nsK st u t k) (bqK st u t g k))
theorem lotK_lt {u : Nat} (hu : u < 2147483647) (k : Nat) : lotK u k < 2147483647 := by
  cases k with
  | zero => exact hu
  | succ k => exact Nat.mod_lt _ (by decide)
theorem byK_lt (u k : Nat) : byK u k < 5 := Nat.mod_lt _ (by decide)
theorem nsM_le (st u k : Nat) (t : NS) : (nsM st u k t).1 ≤ t.1 + 1 ∧ (nsM st u k t).2.2.1 = t.2.2.1 := by
  unfold nsM
  split
  · exact ⟨Nat.le_succ _, rfl⟩
  · exact ⟨Nat.le_refl _, rfl⟩
theorem nsK_le (st u : Nat) (t : NS) (k : Nat) : (nsK st u t k).1 ≤ t.1 + 2 * k ∧ (nsK st u t k).2.2.1 = t.2.2.1 + k := by
  induction k with
  | zero => exact ⟨Nat.le_refl _, rfl⟩
  | succ k ih =>
    have h := nsM_le st u k (nsK st u t k)
    have e1 : (nsK st u t (k + 1)).1 = (nsM st u k (nsK st u t k)).1 + 1 := rfl
    have e2 : (nsK st u t (k + 1)).2.2.1 = (nsM st u k (nsK st u t k)).2.2.1 + 1 := rfl
    rw [e1, e2]
    omega
theorem sI2_0 {j : Nat} (hj : j < 5) : sI 2 j = 0 ↔ j = 2 := by
  rcases (show j = 0 ∨ j = 1 ∨ j = 2 ∨ j = 3 ∨ j = 4 by omega) with rfl | rfl | rfl | rfl | rfl <;> decide
theorem ok_sI2 {j : Nat} (hj : j < 5) : okN (-6) (nI 6) (sI 2 j) := by
  unfold okN
  rcases (show j = 0 ∨ j = 1 ∨ j = 2 ∨ j = 3 ∨ j = 4 by omega) with rfl | rfl | rfl | rfl | rfl <;> decide
theorem lN_mulE (a c : Nat) : lN a * lN c = lN (a * c) := (Int64.ofNat_mul a c).symm
theorem lot_nx {u : Nat} (hu : u < 2147483647) : lN u * 48271 - lN u * 48271 / 2147483647 * 2147483647 = lN (u * 48271 % 2147483647) := by
  rw [show lN u * 48271 = lN (u * 48271) from lN_mulE u 48271]
  exact pk_lRem (b := 2147483647) (by omega) (by decide) (by decide)
theorem lot_by {u : Nat} (hu : u < 2147483647) : ((lN u / 16) - (lN u / 16) / 5 * 5).toInt32 = nI (u / 16 % 5) := by
  rw [show lN u / 16 = lN (u / 16) from pk_lDiv (b := 16) (by omega) (by decide) (by decide), show lN (u / 16) - lN (u / 16) / 5 * 5 = lN (u / 16 % 5) from pk_lRem (b := 5) (by omega) (by decide) (by decide), lN_i]
section NSr
variable {st d m s : Nat} {e : Int32} {f g : Nat → Int32} {I A : Nat → Nat → Int32}
theorem RelN_dT {x : Int32} (hx : ¬ x = 0) (hd : d < 40) (h : RelN st 8 0 (n4 I (nI d) (nI m) (nI s) e) (ua (ua A 9 f) 52 g)) : RelN st 8 0 (n4 I (nI (d + 1)) (nI m) (nI (rdN (nI s + x))) (e + f_ef (nI st) (nI s) x)) (ua (ua A 9 (upd f d x)) 52 (upd (upd (kpd g d) 2 (nI (rdN (nI s + x)))) 3 (g 3 + f_ef (nI st) (nI s) x))) := by
  obtain ⟨d', hd', n1, q0, n2, n3, n9, q1, q2, q3, hp⟩ := h
  have hdd : d = d' := (nI_eq (by omega) (by omega)).mp n1
  subst hdd
  have n2' : nI m = nI (rp st f d).1 := n2
  have n3' : nI s = nI (rp st f d).2.1 := n3
  have n9' : e = (rp st f d).2.2 := n9
  have q1' : g 1 = nI (rp st f d).1 := q1
  have q2' : g 2 = nI (rp st f d).2.1 := q2
  have q3' : g 3 = (rp st f d).2.2 := q3
  have hc : rp st (upd f d x) (d + 1) = ((rp st f d).1, rdN (nI (rp st f d).2.1 + x), (rp st f d).2.2 + f_ef (nI st) (nI (rp st f d).2.1) x) := by
    rw [rp_s1 (by rw [pk_us]; exact hx), pk_us, rp_congr (g := f) (fun k hk => pk_un (by omega))]
  refine RelN_deed (A := ua (ua A 9 f) 52 g) (x := x) (v1 := nI m) (v2 := nI (rdN (nI s + x))) (v3 := e + f_ef (nI st) (nI s) x) hd q1 q2 q3 (fun k hk => ?_) rfl rfl ?_ ?_ ?_ rfl rfl rfl rfl ?_ rfl ?_ (fun y hy => ?_)
  · have h := hp k hk
    rw [Nat.zero_add, Nat.zero_add, Nat.zero_add] at h
    exact h
  · show nI m = nI (rp st (upd f d x) (d + 1)).1
    rw [hc]
    exact n2'
  · show nI (rdN (nI s + x)) = nI (rp st (upd f d x) (d + 1)).2.1
    rw [hc, n3']
  · show e + f_ef (nI st) (nI s) x = (rp st (upd f d x) (d + 1)).2.2
    rw [hc, n9', n3']
  · rw [ua_eq, pk_un (by decide), pk_un (by decide), kpd_1 _ _ 1 (by decide) (by decide), n2']
    exact q1'
  · rw [ua_eq, pk_us, n9', q3']
  · rw [ua_eq, pk_un (by omega), pk_un (by omega), ua_eq]
theorem RelN_dP (hd : d < 40) (h : RelN st 8 0 (n4 I (nI d) (nI m) (nI s) e) (ua (ua A 9 f) 52 g)) : RelN st 8 0 (n4 I (nI (d + 1)) (nI (m + 1)) (nI s) e) (ua (ua A 9 (upd f d 0)) 52 (upd (kpd g d) 1 (nI (m + 1)))) := by
  obtain ⟨d', hd', n1, q0, n2, n3, n9, q1, q2, q3, hp⟩ := h
  have hdd : d = d' := (nI_eq (by omega) (by omega)).mp n1
  subst hdd
  have n2' : nI m = nI (rp st f d).1 := n2
  have n3' : nI s = nI (rp st f d).2.1 := n3
  have n9' : e = (rp st f d).2.2 := n9
  have q1' : g 1 = nI (rp st f d).1 := q1
  have q2' : g 2 = nI (rp st f d).2.1 := q2
  have q3' : g 3 = (rp st f d).2.2 := q3
  have hc : rp st (upd f d 0) (d + 1) = ((rp st f d).1 + 1, (rp st f d).2.1, (rp st f d).2.2) := by
    rw [rp_s0 pk_us, rp_congr (g := f) (fun k hk => pk_un (by omega))]
  refine RelN_deed (A := ua (ua A 9 f) 52 g) (x := 0) (v1 := nI (m + 1)) (v2 := nI s) (v3 := e) hd q1 q2 q3 (fun k hk => ?_) rfl rfl ?_ ?_ ?_ rfl rfl rfl rfl rfl ?_ ?_ (fun y hy => ?_)
  · have h := hp k hk
    rw [Nat.zero_add, Nat.zero_add, Nat.zero_add] at h
    exact h
  · show nI (m + 1) = nI (rp st (upd f d 0) (d + 1)).1
    rw [hc, nI_succ, n2', ← nI_succ]
  · show nI s = nI (rp st (upd f d 0) (d + 1)).2.1
    rw [hc]
    exact n3'
  · show e = (rp st (upd f d 0) (d + 1)).2.2
    rw [hc]
    exact n9'
  · rw [ua_eq, pk_un (by decide), kpd_1 _ _ 2 (by decide) (by decide), n3']
    exact q2'
  · rw [ua_eq, pk_un (by decide), kpd_1 _ _ 3 (by decide) (by decide), n9']
    exact q3'
  · rw [ua_eq, pk_un (by omega), ua_eq]
theorem RelN_lots {u n : Nat} {t : NS} {g : Nat → Int32} (hn : t.1 + 2 * n ≤ 40) (h : RelN st 8 0 (n4 I (nI t.1) (nI t.2.2.1) (nI t.2.2.2.1) t.2.2.2.2) (ua (ua A 9 t.2.1) 52 g)) (k : Nat) (hk : k ≤ n) : RelN st 8 0 (n4 I (nI (nsK st u t k).1) (nI (nsK st u t k).2.2.1) (nI (nsK st u t k).2.2.2.1) (nsK st u t k).2.2.2.2) (ua (ua A 9 (nsK st u t k).2.1) 52 (bqK st u t g k)) := by
  induction k with
  | zero => exact h
  | succ k ih =>
    have ih := ih (by omega)
    have hl := nsK_le st u t k
    have key : RelN st 8 0 (n4 I (nI (nsM st u k (nsK st u t k)).1) (nI (nsM st u k (nsK st u t k)).2.2.1) (nI (nsM st u k (nsK st u t k)).2.2.2.1) (nsM st u k (nsK st u t k)).2.2.2.2) (ua (ua A 9 (nsM st u k (nsK st u t k)).2.1) 52 (bqM st u k (nsK st u t k) (bqK st u t g k))) := by
      unfold nsM bqM
      by_cases h2 : byK u k = 2
      · rw [if_pos h2, if_pos h2]
        exact ih
      · rw [if_neg h2, if_neg h2]
        exact RelN_dT (fun z => h2 ((sI2_0 (byK_lt u k)).mp z)) (by omega) ih
    have hm := nsM_le st u k (nsK st u t k)
    exact RelN_dP (by omega) key
theorem bqK_far {u n : Nat} {t : NS} {g : Nat → Int32} (hn : t.1 + 2 * n ≤ 40) (k : Nat) (hk : k ≤ n) (x : Nat) (hx : 124 ≤ x) : bqK st u t g k x = g x := by
  induction k with
  | zero => rfl
  | succ k ih =>
    have hl := nsK_le st u t k
    have hm := nsM_le st u k (nsK st u t k)
    show bqP (nsM st u k (nsK st u t k)) (bqM st u k (nsK st u t k) (bqK st u t g k)) x = g x
    unfold bqP
    rw [pk_un (by omega), kpd_far _ _ _ (by omega) hx]
    unfold bqM
    split
    · exact ih (by omega)
    · unfold bqT
      rw [pk_un (by omega), pk_un (by omega), kpd_far _ _ _ (by omega) hx]
      exact ih (by omega)
end NSr
theorem lk_n4 {I : Nat → Nat → Int32} {v1 v2 v3 v4 : Int32} {i : Nat} (h : lkOK I (40 + i)) : lkOK (n4 I v1 v2 v3 v4) (40 + i) := by
  unfold lkOK cL n4
  rw [u2_ne (by omega), u2_ne (by omega), u2_ne (by omega), u2_ne (by omega), u2_ne (by omega), u2_ne (by omega), u2_ne (by omega), u2_ne (by omega), u2_ne (by omega), u2_ne (by omega), u2_ne (by omega), u2_ne (by omega), u2_ne (by omega), u2_ne (by omega), u2_ne (by omega), u2_ne (by omega)]
  exact h
theorem cL_n4 {I : Nat → Nat → Int32} {v1 v2 v3 v4 : Int32} {i : Nat} : cL (n4 I v1 v2 v3 v4) (40 + i) = cL I (40 + i) := by
  unfold cL n4
  rw [u2_ne (by omega), u2_ne (by omega), u2_ne (by omega), u2_ne (by omega), u2_ne (by omega), u2_ne (by omega), u2_ne (by omega), u2_ne (by omega), u2_ne (by omega), u2_ne (by omega), u2_ne (by omega), u2_ne (by omega), u2_ne (by omega), u2_ne (by omega), u2_ne (by omega), u2_ne (by omega)]
theorem lgK_congr {b ln st u n : Nat} {L L' : Nat → LT} {t : NS} (h : ∀ i, i < ln → L i = L' i) : lgK b ln L st u t n = lgK b ln L' st u t n := by
  induction n with
  | zero => rfl
  | succ n ih =>
    unfold lgK
    rw [ih, nsum_congr (fun i hi => by rw [h i hi])]
theorem c_lots_bad {X : XX} {I A : Nat → Nat → Int32} {J B : Nat → Nat → Int64} {F : Nat → Nat} (x y : Int32) (hx : x < nI 1 ∨ nI 20 < x ∨ y < nI 1 ∨ 2147483646 < y) : x_ev X xT 7 115 [.ref 0, .int x, .int y] (HX I A J B F) (some (.int (-1))) (HX I A J B F) := by
  refine q_ev (L := [some (.ref 0), some (.int x), some (.int y), none, none, none, none, none]) tX8_lots (Nat.le_of_ble_eq_true rfl) rfl ?_
  refine q_iload_n rfl rfl ?_
  refine q_iconst (v := nI 1) rfl rfl ?_
  refine q_icmp_lt rfl (fun hc2 => ?_) (fun hc2 => ?_)
  · refine q_iconst (v := (-1)) rfl rfl ?_
    refine q_iret rfl rfl ?_
    exact ⟨rfl, rfl⟩
  · refine q_iload_n rfl rfl ?_
    refine q_bipush (v := nI 20) rfl rfl ?_
    refine q_icmp_gt rfl (fun hc8 => ?_) (fun hc8 => ?_)
    · refine q_iconst (v := (-1)) rfl rfl ?_
      refine q_iret rfl rfl ?_
      exact ⟨rfl, rfl⟩
    · refine q_iload_n rfl rfl ?_
      refine q_iconst (v := nI 1) rfl rfl ?_
      refine q_icmp_lt rfl (fun hc13 => ?_) (fun hc13 => ?_)
      · refine q_iconst (v := (-1)) rfl rfl ?_
        refine q_iret rfl rfl ?_
        exact ⟨rfl, rfl⟩
      · refine q_iload_n rfl rfl ?_
        refine q_ldc_w (v := 2147483646) rfl rfl ?_
        refine q_icmp_le rfl (fun hc20 => ?_) (fun hc20 => ?_)
        · exact absurd (((hx.resolve_left hc2).resolve_left hc8).resolve_left hc13) (Int32.not_lt.mpr hc20)
        · refine q_iconst (v := (-1)) rfl rfl ?_
          refine q_iret rfl rfl ?_
          exact ⟨rfl, rfl⟩
theorem c_lots_S {X : XX} {I A : Nat → Nat → Int32} {J B : Nat → Nat → Int64} {F : Nat → Nat} (n u : Nat) (n1 : 1 ≤ n) (n20 : n ≤ 20) (u1 : 1 ≤ u) (hu : u < 2147483647) (eln : I 0 12 = nI 0) : x_ev X xT 7 115 [.ref 0, .int (nI n), .int (nI u)] (HX I A J B F) (some (.int (-4))) (HX I A J B F) := by
  refine q_ev (L := [some (.ref 0), some (.int (nI n)), some (.int (nI u)), none, none, none, none, none]) tX8_lots (Nat.le_of_ble_eq_true rfl) rfl ?_
  refine q_iload_n rfl rfl ?_
  refine q_iconst (v := nI 1) rfl rfl ?_
  refine q_icmp_ltN rfl (by omega) (by omega) (fun hc2 => ?_) (fun hc2 => ?_)
  · omega
  · refine q_iload_n rfl rfl ?_
    refine q_bipush (v := nI 20) rfl rfl ?_
    refine q_icmp_gtN rfl (by omega) (by omega) (fun hc8 => ?_) (fun hc8 => ?_)
    · omega
    · refine q_iload_n rfl rfl ?_
      refine q_iconst (v := nI 1) rfl rfl ?_
      refine q_icmp_ltN rfl (by omega) (by omega) (fun hc13 => ?_) (fun hc13 => ?_)
      · omega
      · refine q_iload_n rfl rfl ?_
        refine q_ldc_w (v := 2147483646) rfl rfl ?_
        refine q_icmp_le rfl (fun hc20 => ?_) (fun hc20 => ?_)
        · refine q_aload_n rfl rfl ?_
          refine q_getI rfl hx_0 rfl (eln) ?_
          refine q_if_neN rfl (by omega) (fun hc29 => ?_) (fun hc29 => ?_)
          · exact absurd hc29 (by decide)
          · refine q_bipush (v := (-4)) rfl rfl ?_
            refine q_iret rfl rfl ?_
            exact ⟨rfl, rfl⟩
        · exact absurd (nI_le (show u ≤ 2147483646 by omega) (by decide)) hc20
theorem c_lots_F {X : XX} {I A : Nat → Nat → Int32} {J B : Nat → Nat → Int64} {F : Nat → Nat} (n u : Nat) (n1 : 1 ≤ n) (n20 : n ≤ 20) (u1 : 1 ≤ u) (hu : u < 2147483647) (ln : Nat) (hln : ln ≤ 5) (eln : I 0 12 = nI ln) (h0 : 0 < ln) (d : Nat) (ed : I 8 1 = nI d) (hd : d ≤ 40) (hf : 40 < d + 2 * n) : x_ev X xT 7 115 [.ref 0, .int (nI n), .int (nI u)] (HX I A J B F) (some (.int (-2))) (HX I A J B F) := by
  refine q_ev (L := [some (.ref 0), some (.int (nI n)), some (.int (nI u)), none, none, none, none, none]) tX8_lots (Nat.le_of_ble_eq_true rfl) rfl ?_
  refine q_iload_n rfl rfl ?_
  refine q_iconst (v := nI 1) rfl rfl ?_
  refine q_icmp_ltN rfl (by omega) (by omega) (fun hc2 => ?_) (fun hc2 => ?_)
  · omega
  · refine q_iload_n rfl rfl ?_
    refine q_bipush (v := nI 20) rfl rfl ?_
    refine q_icmp_gtN rfl (by omega) (by omega) (fun hc8 => ?_) (fun hc8 => ?_)
    · omega
    · refine q_iload_n rfl rfl ?_
      refine q_iconst (v := nI 1) rfl rfl ?_
      refine q_icmp_ltN rfl (by omega) (by omega) (fun hc13 => ?_) (fun hc13 => ?_)
      · omega
      · refine q_iload_n rfl rfl ?_
        refine q_ldc_w (v := 2147483646) rfl rfl ?_
        refine q_icmp_le rfl (fun hc20 => ?_) (fun hc20 => ?_)
        · refine q_aload_n rfl rfl ?_
          refine q_getI rfl hx_0 rfl (eln) ?_
          refine q_if_neN rfl (by omega) (fun hc29 => ?_) (fun hc29 => ?_)
          · refine q_aload_n rfl rfl ?_
            refine q_getfield rfl hx_0 rfl ?_
            refine q_iconst (v := nI 2) rfl rfl ?_
            refine q_iload_n rfl rfl ?_
            refine q_imulN rfl ?_
            refine q_callV1 rfl hx_8 (Nat.le_of_ble_eq_true rfl) (Nat.le_of_ble_eq_true rfl) (sN_room0 ed hd (by omega) hf) ?_
            refine q_if_neN rfl (by omega) (fun hc45 => ?_) (fun hc45 => ?_)
            · exact absurd hc45 (by decide)
            · refine q_bipush (v := (-2)) rfl rfl ?_
              refine q_iret rfl rfl ?_
              exact ⟨rfl, rfl⟩
          · omega
        · exact absurd (nI_le (show u ≤ 2147483646 by omega) (by decide)) hc20
set_option maxHeartbeats 1000000 in
theorem c_lots_0 {X : XX} {I A : Nat → Nat → Int32} {J B : Nat → Nat → Int64} {F : Nat → Nat} (n u : Nat) (n1 : 1 ≤ n) (n20 : n ≤ 20) (u1 : 1 ≤ u) (hu : u < 2147483647) (b : Nat) (hb : b ≤ 5) (eb : I 7 0 = nI b) (m : Nat) (em : I 8 2 = nI m) (hm : m ≤ 40) (s : Nat) (es : I 8 3 = nI s) (hs : s < 24) (st : Nat) (hst : st < 24) (e7 : I 7 1 = nI st) (ln : Nat) (hln : ln ≤ 5) (eln : I 0 12 = nI ln) (h0 : 0 < ln) (lks : ∀ i, i < 5 → lkOK I (40 + i)) (d : Nat) (ed : I 8 1 = nI d) (hf : d + 2 * n ≤ 40) : x_ev X xT 7 115 [.ref 0, .int (nI n), .int (nI u)] (HX I A J B F) (some (.int (nI (lgK b ln (fun i => cL I (40 + i)) st u (d, A 9, m, s, I 8 4) n)))) (HX (n4 I (nI (nsK st u (d, A 9, m, s, I 8 4) n).1) (nI (nsK st u (d, A 9, m, s, I 8 4) n).2.2.1) (nI (nsK st u (d, A 9, m, s, I 8 4) n).2.2.2.1) (nsK st u (d, A 9, m, s, I 8 4) n).2.2.2.2) (ua A 9 (nsK st u (d, A 9, m, s, I 8 4) n).2.1) J B F) := by
  refine q_ev (L := [some (.ref 0), some (.int (nI n)), some (.int (nI u)), none, none, none, none, none]) tX8_lots (Nat.le_of_ble_eq_true rfl) rfl ?_
  refine q_iload_n rfl rfl ?_
  refine q_iconst (v := nI 1) rfl rfl ?_
  refine q_icmp_ltN rfl (by omega) (by omega) (fun hc2 => ?_) (fun hc2 => ?_)
  · omega
  · refine q_iload_n rfl rfl ?_
    refine q_bipush (v := nI 20) rfl rfl ?_
    refine q_icmp_gtN rfl (by omega) (by omega) (fun hc8 => ?_) (fun hc8 => ?_)
    · omega
    · refine q_iload_n rfl rfl ?_
      refine q_iconst (v := nI 1) rfl rfl ?_
      refine q_icmp_ltN rfl (by omega) (by omega) (fun hc13 => ?_) (fun hc13 => ?_)
      · omega
      · refine q_iload_n rfl rfl ?_
        refine q_ldc_w (v := 2147483646) rfl rfl ?_
        refine q_icmp_le rfl (fun hc20 => ?_) (fun hc20 => ?_)
        · refine q_aload_n rfl rfl ?_
          refine q_getI rfl hx_0 rfl (eln) ?_
          refine q_if_neN rfl (by omega) (fun hc29 => ?_) (fun hc29 => ?_)
          · refine q_aload_n rfl rfl ?_
            refine q_getfield rfl hx_0 rfl ?_
            refine q_iconst (v := nI 2) rfl rfl ?_
            refine q_iload_n rfl rfl ?_
            refine q_imulN rfl ?_
            refine q_callV1 rfl hx_8 (Nat.le_of_ble_eq_true rfl) (Nat.le_of_ble_eq_true rfl) (sN_room1 ed (by omega) (by omega) hf) ?_
            refine q_if_neN rfl (by omega) (fun hc45 => ?_) (fun hc45 => ?_)
            · refine q_iload_n rfl rfl ?_
              refine q_i2l rfl ?_
              refine q_lstore_n (L' := [_, _, _, _, _, _, _, _]) rfl rfl ?_
              refine q_iconst (v := nI 0) rfl rfl ?_
              refine q_istore (L' := [_, _, _, _, _, _, _, _]) rfl rfl ?_
              refine q_iconst (v := nI 0) rfl rfl ?_
              refine q_istore (L' := [_, _, _, _, _, _, _, _]) rfl rfl ?_
              refine q_up (Inv := fun k L h => ∃ z, L = [some (.ref 0), some (.int (nI n)), some (.int (nI u)), some (.long (lN (lotK u k))), none, some (.int (nI (lgK b ln (fun i => cL I (40 + i)) st u (d, A 9, m, s, I 8 4) k))), some (.int (nI k)), z] ∧ h = HX (n4 I (nI (nsK st u (d, A 9, m, s, I 8 4) k).1) (nI (nsK st u (d, A 9, m, s, I 8 4) k).2.2.1) (nI (nsK st u (d, A 9, m, s, I 8 4) k).2.2.2.1) (nsK st u (d, A 9, m, s, I 8 4) k).2.2.2.2) (ua A 9 (nsK st u (d, A 9, m, s, I 8 4) k).2.1) J B F) (n) (fun k L h hk_k hi_k ih_k => ?_) (fun L h hi_k => ?_) (0) _ _ (by omega) (⟨_, by rw [nI_l (by omega)]; rfl, by show _ = HX (n4 I (nI d) (nI m) (nI s) (I 8 4)) (ua A 9 (A 9)) J B F; rw [← ed, ← em, ← es, n4_same, ua_self rfl]⟩)
              · obtain ⟨z, rfl, rfl⟩ := hi_k
                refine q_iload rfl rfl ?_
                refine q_iload_n rfl rfl ?_
                refine q_icmp_geN rfl (by omega) (by omega) (fun hcks63 => ?_) (fun hcks63 => ?_)
                · omega
                · refine q_lload_n rfl rfl ?_
                  refine q_ldc2_w (v := 48271) rfl rfl ?_
                  refine q_lmul rfl ?_
                  refine q_ldc2_w (v := 2147483647) rfl rfl ?_
                  refine q_lrem rfl (by decide) ?_
                  refine q_cj (show _ = lN (lotK u (k + 1)) from lot_nx (lotK_lt hu k)) ?_
                  refine q_lstore_n (L' := [_, _, _, _, _, _, _, _]) rfl rfl ?_
                  refine q_lload_n rfl rfl ?_
                  refine q_ldc2_w (v := 16) rfl rfl ?_
                  refine q_ldiv rfl (by decide) ?_
                  refine q_ldc2_w (v := 5) rfl rfl ?_
                  refine q_lrem rfl (by decide) ?_
                  refine q_l2i rfl ?_
                  refine q_cn (show _ = nI (byK u k) from lot_by (lotK_lt hu (k + 1))) ?_
                  refine q_iconst (v := nI 2) rfl rfl ?_
                  refine q_isub rfl ?_
                  refine q_istore (L' := [_, _, _, _, _, _, _, _]) rfl rfl ?_
                  refine q_iload rfl rfl ?_
                  refine q_if_eq rfl (fun hcks92 => ?_) (fun hcks92 => ?_)
                  · refine q_heap (show _ = HX (n4 I (nI (nsM st u k (nsK st u (d, A 9, m, s, I 8 4) k)).1) (nI (nsM st u k (nsK st u (d, A 9, m, s, I 8 4) k)).2.2.1) (nI (nsM st u k (nsK st u (d, A 9, m, s, I 8 4) k)).2.2.2.1) (nsM st u k (nsK st u (d, A 9, m, s, I 8 4) k)).2.2.2.2) (ua A 9 (nsM st u k (nsK st u (d, A 9, m, s, I 8 4) k)).2.1) J B F from by first | rw [show (nsM st u k (nsK st u (d, A 9, m, s, I 8 4) k)) = (nsK st u (d, A 9, m, s, I 8 4) k) from if_pos ((sI2_0 (byK_lt u k)).mp hcks92)] | (rw [n4_n4, ua_ua, ua_eq, show (nsM st u k (nsK st u (d, A 9, m, s, I 8 4) k)) = nsT st (sI 2 (byK u k)) (nsK st u (d, A 9, m, s, I 8 4) k) from if_neg (fun z => hcks92 ((sI2_0 (byK_lt u k)).mpr z)), show n4 I _ _ _ _ 7 1 = nI st from e7]; rfl)) ?_
                    refine q_iload rfl rfl ?_
                    refine q_aload_n rfl rfl ?_
                    refine q_callV0 rfl hx_0 (Nat.le_of_ble_eq_true rfl) (Nat.le_of_ble_eq_true rfl) (sX8_passMoment b hb (by exact eb) (nsM st u k (nsK st u (d, A 9, m, s, I 8 4) k)).2.2.1 rfl (by have h1 : (nsK st u (d, A 9, m, s, I 8 4) k).1 ≤ d + 2 * k ∧ (nsK st u (d, A 9, m, s, I 8 4) k).2.2.1 = m + k := nsK_le st u (d, A 9, m, s, I 8 4) k; have h2 := nsM_le st u k (nsK st u (d, A 9, m, s, I 8 4) k); omega) (nsM st u k (nsK st u (d, A 9, m, s, I 8 4) k)).2.2.2.1 rfl ln hln (by exact eln) (fun i hi => lk_n4 (lks i hi)) (nsM st u k (nsK st u (d, A 9, m, s, I 8 4) k)).1 (by have h1 : (nsK st u (d, A 9, m, s, I 8 4) k).1 ≤ d + 2 * k ∧ (nsK st u (d, A 9, m, s, I 8 4) k).2.2.1 = m + k := nsK_le st u (d, A 9, m, s, I 8 4) k; have h2 := nsM_le st u k (nsK st u (d, A 9, m, s, I 8 4) k); omega) rfl) ?_
                    refine q_iaddN rfl ?_
                    refine q_istore (L' := [_, _, _, _, _, _, _, _]) rfl rfl ?_
                    refine q_iincN (c := 1) (L' := [_, _, _, _, _, _, _, _]) rfl rfl rfl rfl ?_
                    refine q_goto rfl ?_
                    exact ih_k _ _ (⟨_, by rw [show (lgK b ln (fun i => cL I (40 + i)) st u (d, A 9, m, s, I 8 4) (k + 1)) = (lgK b ln (fun i => cL I (40 + i)) st u (d, A 9, m, s, I 8 4) k) + nsum (fun i => gnN b (cL I (40 + i)) (nI (nsM st u k (nsK st u (d, A 9, m, s, I 8 4) k)).2.2.2.1) (nsM st u k (nsK st u (d, A 9, m, s, I 8 4) k)).2.2.1) ln from rfl]; exact congrArg (fun v => [some (Value.ref 0), some (Value.int (nI n)), some (Value.int (nI u)), some (Value.long (lN (lotK u (k + 1)))), none, some (Value.int (nI ((lgK b ln (fun i => cL I (40 + i)) st u (d, A 9, m, s, I 8 4) k) + v))), some (Value.int (nI (k + 1))), _]) (nsum_congr (fun i hi => by rw [cL_n4])), by rw [n4_n4, ua_ua, ua_eq]; rfl⟩)
                  · refine q_aload_n rfl rfl ?_
                    refine q_getfield rfl hx_0 rfl ?_
                    refine q_iload rfl rfl ?_
                    refine q_aload_n rfl rfl ?_
                    refine q_getfield rfl hx_0 rfl ?_
                    refine q_callV2 rfl hx_8 (Nat.le_of_ble_eq_true rfl) (Nat.le_of_ble_eq_true rfl) ((sN_turn (d := (nsK st u (d, A 9, m, s, I 8 4) k).1) (m := (nsK st u (d, A 9, m, s, I 8 4) k).2.2.1) (s := (nsK st u (d, A 9, m, s, I 8 4) k).2.2.2.1) rfl rfl rfl (by have h1 : (nsK st u (d, A 9, m, s, I 8 4) k).1 ≤ d + 2 * k ∧ (nsK st u (d, A 9, m, s, I 8 4) k).2.2.1 = m + k := nsK_le st u (d, A 9, m, s, I 8 4) k; omega) _)) ?_
                    refine q_popI rfl ?_
                    refine q_heap (show _ = HX (n4 I (nI (nsM st u k (nsK st u (d, A 9, m, s, I 8 4) k)).1) (nI (nsM st u k (nsK st u (d, A 9, m, s, I 8 4) k)).2.2.1) (nI (nsM st u k (nsK st u (d, A 9, m, s, I 8 4) k)).2.2.2.1) (nsM st u k (nsK st u (d, A 9, m, s, I 8 4) k)).2.2.2.2) (ua A 9 (nsM st u k (nsK st u (d, A 9, m, s, I 8 4) k)).2.1) J B F from by first | rw [show (nsM st u k (nsK st u (d, A 9, m, s, I 8 4) k)) = (nsK st u (d, A 9, m, s, I 8 4) k) from if_pos ((sI2_0 (byK_lt u k)).mp hcks92)] | (rw [n4_n4, ua_ua, ua_eq, show (nsM st u k (nsK st u (d, A 9, m, s, I 8 4) k)) = nsT st (sI 2 (byK u k)) (nsK st u (d, A 9, m, s, I 8 4) k) from if_neg (fun z => hcks92 ((sI2_0 (byK_lt u k)).mpr z)), show n4 I _ _ _ _ 7 1 = nI st from e7]; rfl)) ?_
                    refine q_iload rfl rfl ?_
                    refine q_aload_n rfl rfl ?_
                    refine q_callV0 rfl hx_0 (Nat.le_of_ble_eq_true rfl) (Nat.le_of_ble_eq_true rfl) (sX8_passMoment b hb (by exact eb) (nsM st u k (nsK st u (d, A 9, m, s, I 8 4) k)).2.2.1 rfl (by have h1 : (nsK st u (d, A 9, m, s, I 8 4) k).1 ≤ d + 2 * k ∧ (nsK st u (d, A 9, m, s, I 8 4) k).2.2.1 = m + k := nsK_le st u (d, A 9, m, s, I 8 4) k; have h2 := nsM_le st u k (nsK st u (d, A 9, m, s, I 8 4) k); omega) (nsM st u k (nsK st u (d, A 9, m, s, I 8 4) k)).2.2.2.1 rfl ln hln (by exact eln) (fun i hi => lk_n4 (lks i hi)) (nsM st u k (nsK st u (d, A 9, m, s, I 8 4) k)).1 (by have h1 : (nsK st u (d, A 9, m, s, I 8 4) k).1 ≤ d + 2 * k ∧ (nsK st u (d, A 9, m, s, I 8 4) k).2.2.1 = m + k := nsK_le st u (d, A 9, m, s, I 8 4) k; have h2 := nsM_le st u k (nsK st u (d, A 9, m, s, I 8 4) k); omega) rfl) ?_
                    refine q_iaddN rfl ?_
                    refine q_istore (L' := [_, _, _, _, _, _, _, _]) rfl rfl ?_
                    refine q_iincN (c := 1) (L' := [_, _, _, _, _, _, _, _]) rfl rfl rfl rfl ?_
                    refine q_goto rfl ?_
                    exact ih_k _ _ (⟨_, by rw [show (lgK b ln (fun i => cL I (40 + i)) st u (d, A 9, m, s, I 8 4) (k + 1)) = (lgK b ln (fun i => cL I (40 + i)) st u (d, A 9, m, s, I 8 4) k) + nsum (fun i => gnN b (cL I (40 + i)) (nI (nsM st u k (nsK st u (d, A 9, m, s, I 8 4) k)).2.2.2.1) (nsM st u k (nsK st u (d, A 9, m, s, I 8 4) k)).2.2.1) ln from rfl]; exact congrArg (fun v => [some (Value.ref 0), some (Value.int (nI n)), some (Value.int (nI u)), some (Value.long (lN (lotK u (k + 1)))), none, some (Value.int (nI ((lgK b ln (fun i => cL I (40 + i)) st u (d, A 9, m, s, I 8 4) k) + v))), some (Value.int (nI (k + 1))), _]) (nsum_congr (fun i hi => by rw [cL_n4])), by rw [n4_n4, ua_ua, ua_eq]; rfl⟩)
              · obtain ⟨z, rfl, rfl⟩ := hi_k
                refine q_iload rfl rfl ?_
                refine q_iload_n rfl rfl ?_
                refine q_icmp_geN rfl (by omega) (by omega) (fun hckf63 => ?_) (fun hckf63 => ?_)
                · refine q_iload rfl rfl ?_
                  refine q_iret rfl rfl ?_
                  exact ⟨rfl, rfl⟩
                · omega
            · exact absurd hc45 (by decide)
          · omega
        · exact absurd (nI_le (show u ≤ 2147483646 by omega) (by decide)) hc20
