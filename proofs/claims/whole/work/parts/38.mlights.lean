/-! lights, the slit, deeds: the reference's side -/
theorem rdN_rd {p x : Int32} (hp : 0 ≤ p.toInt ∧ p.toInt < 1000) (hx : -1000 ≤ x.toInt ∧ x.toInt < 1000) : rdN (p - nI (rdN x)) = rdN (p - x) := by
  unfold rdN
  rw [Int32.toInt_sub, Int32.toInt_sub, nI_toInt (by omega), f_small (by omega) (by omega), f_small (by omega) (by omega)]
  omega
theorem tmN_rd {b : Nat} {p x : Int32} (hp : 0 ≤ p.toInt ∧ p.toInt < 1000) (hx : -1000 ≤ x.toInt ∧ x.toInt < 1000) : tmN b (nI (rdN x)) p = tmN b x p := by
  unfold tmN
  rw [rdN_rd hp hx]
theorem wyP_a {b s p k : Nat} (hs : s < 24) (hp : p < 24) (hk : k < 100) : tmN b (nI (rdN (nI (s + k)))) (nI p) = tmN b (nI (s + k)) (nI p) := tmN_rd (by rw [nI_toInt (by omega)]; omega) (by rw [nI_toInt (by omega)]; omega)
theorem wyP_b {b s p k : Nat} (hs : s < 24) (hp : p < 24) (hk : k < 100) : tmN b (nI (rdN (nI s - nI k))) (nI p) = tmN b (nI s - nI k) (nI p) := tmN_rd (by rw [nI_toInt (by omega)]; omega) (by rw [pk_sub_toInt (by omega) (by omega)]; omega)
theorem tm_best {b p t : Nat} (hb : 1 ≤ b) (hp : p < 24) (ht : t = (p + (if 2 < b then 23 else 0)) % 24) : tmN b (nI t) (nI p) = best b := by
  have e : rdN (nI p - nI t) = if 2 < b then 1 else 0 := by
    unfold rdN
    rw [pk_sub_toInt (by omega) (by omega)]
    split at ht
    · rw [if_pos (by assumption)]
      omega
    · rw [if_neg (by assumption)]
      omega
  unfold tmN best
  rw [e]
  by_cases h : 2 < b
  · rw [if_pos h, if_pos h, if_pos (by omega), if_neg (by decide), if_neg (by omega)]
  · rw [if_neg h, if_neg h, if_pos (by omega), if_pos rfl]
theorem wy12 {b s p : Nat} (hb : 1 ≤ b) (hs : s < 24) (hp : p < 24) : ∃ j, j ≤ 12 ∧ wyP b s p j = false := by
  have key : ∀ t, t = (p + (if 2 < b then 23 else 0)) % 24 → ∃ j, j ≤ 12 ∧ wyP b s p j = false := by
    intro t ht
    have h1 := tm_best hb hp ht
    have ht24 : t < 24 := by rw [ht]; exact Nat.mod_lt _ (by decide)
    by_cases h : (t + 24 - s) % 24 ≤ 12
    · refine ⟨(t + 24 - s) % 24, h, decide_eq_false (fun z => z.1 ?_)⟩
      have e : rdN (nI (s + (t + 24 - s) % 24)) = t := by
        unfold rdN
        rw [nI_toInt (by omega)]
        omega
      rw [e]
      exact h1
    · refine ⟨24 - (t + 24 - s) % 24, by omega, decide_eq_false (fun z => z.2 ?_)⟩
      have e : rdN (nI s - nI (24 - (t + 24 - s) % 24)) = t := by
        unfold rdN
        rw [pk_sub_toInt (by omega) (by omega)]
        omega
      rw [e]
      exact h1
  exact key _ rfl
theorem sp6 {x : Int32} (h : spOK x) : x = -2 ∨ x = -1 ∨ x = 0 ∨ x = 1 ∨ x = 2 ∨ x = 3 := by
  obtain ⟨h1, h2⟩ := h
  rcases (show x.toInt = -2 ∨ x.toInt = -1 ∨ x.toInt = 0 ∨ x.toInt = 1 ∨ x.toInt = 2 ∨ x.toInt = 3 by omega) with e | e | e | e | e | e
  · exact Or.inl (Int32.toInt_inj.mp e)
  · exact Or.inr (Or.inl (Int32.toInt_inj.mp e))
  · exact Or.inr (Or.inr (Or.inl (Int32.toInt_inj.mp e)))
  · exact Or.inr (Or.inr (Or.inr (Or.inl (Int32.toInt_inj.mp e))))
  · exact Or.inr (Or.inr (Or.inr (Or.inr (Or.inl (Int32.toInt_inj.mp e)))))
  · exact Or.inr (Or.inr (Or.inr (Or.inr (Or.inr (Int32.toInt_inj.mp e)))))
/-- how far it has moved, as a whole number -/
def mvZ (kd : Int32) (z : Int) (m : Nat) : Int := if kd = 1 then z * ((m + 1) / 2 : Nat) else if kd = 2 then 2 * z * m else if kd = 4 then 0 else z * m
theorem mul_small {x : Int32} {n : Nat} (hx : -6 ≤ x.toInt ∧ x.toInt ≤ 6) (hn : n ≤ 100000) : (x * nI n).toInt = x.toInt * n := by
  rw [Int32.toInt_mul, nI_toInt (by omega)]
  have h : ∀ z : Int, -6 ≤ z → z ≤ 6 → -2 ^ 31 ≤ z * (n : Int) ∧ z * (n : Int) < 2 ^ 31 := by
    intro z h1 h2
    rcases (show z = -6 ∨ z = -5 ∨ z = -4 ∨ z = -3 ∨ z = -2 ∨ z = -1 ∨ z = 0 ∨ z = 1 ∨ z = 2 ∨ z = 3 ∨ z = 4 ∨ z = 5 ∨ z = 6 by omega) with e | e | e | e | e | e | e | e | e | e | e | e | e <;> subst e <;> omega
  have h1 := h x.toInt hx.1 hx.2
  exact f_small h1.1 h1.2
theorem mvZ_eq {kd sp : Int32} (hs : spOK sp) {m : Nat} (hm : m ≤ 1000) : (f_mv kd sp (nI m)).toInt = mvZ kd sp.toInt m := by
  obtain ⟨h1, h2⟩ := hs
  unfold f_mv mvZ
  split
  · rw [show nI m + 1 = nI (m + 1) from nI_1 m, show nI (m + 1) / 2 = nI ((m + 1) / 2) from pk_div (d := 2) (by omega) (by decide) (by decide), mul_small (by omega) (by omega)]
  · split
    · have e2 : (2 * sp).toInt = 2 * sp.toInt := by
        rw [Int32.toInt_mul]
        exact f_small (z := 2 * sp.toInt) (by omega) (by omega)
      rw [mul_small (by omega) (by omega), e2]
    · split
      · rfl
      · exact mul_small (by omega) (by omega)
theorem mvZ_le {kd : Int32} {z : Int} (hz : -2 ≤ z ∧ z ≤ 3) {m : Nat} (hm : m ≤ 1000) : -10000 ≤ mvZ kd z m ∧ mvZ kd z m ≤ 10000 := by
  unfold mvZ
  rcases (show z = -2 ∨ z = -1 ∨ z = 0 ∨ z = 1 ∨ z = 2 ∨ z = 3 by omega) with e | e | e | e | e | e <;> subst e <;> split <;> (try omega) <;> split <;> (try omega) <;> split <;> omega
theorem plN_Z {l : LT} (hs : spOK l.2.2.1) {p : Nat} (hp : p < 24) (e : l.2.1 = nI p) {m : Nat} (hm : m ≤ 1000) : (plN l m : Int) = ((p : Int) + mvZ l.1 l.2.2.1.toInt m) % 24 := by
  unfold plN rdN
  have h := mvZ_le (kd := l.1) hs hm
  rw [Int32.toInt_add, mvZ_eq hs hm, e, nI_toInt (by omega), f_small (by omega) (by omega)]
  omega
theorem pl24 {l : LT} (hs : spOK l.2.2.1) {p : Nat} (hp : p < 24) (e : l.2.1 = nI p) {m : Nat} (hm : m ≤ 900) (hk : l.1 = 2) : plN l (m + 24) = plN l m := by
  have h1 := plN_Z hs hp e (m := m + 24) (by omega)
  have h2 := plN_Z hs hp e (m := m) (by omega)
  unfold mvZ at h1 h2
  rw [hk, if_neg (by decide), if_pos rfl] at h1 h2
  have h3 := hs
  obtain ⟨h3, h4⟩ := h3
  generalize l.2.2.1.toInt = z at *
  rcases (show z = -2 ∨ z = -1 ∨ z = 0 ∨ z = 1 ∨ z = 2 ∨ z = 3 by omega) with e | e | e | e | e | e <;> subst e <;> omega
/-- the reference's block behind a past kept -/
def kpl (f : Nat → Int32) (d : Nat) : Nat → Nat → Int32
  | 0 => f
  | k + 1 => upd (kpl f d k) (4 + 3 * d + k) (kpl f d k (1 + k))
theorem kpl_ne {f : Nat → Int32} {d k x : Nat} (h : x < 4) : kpl f d k x = f x := by
  induction k with
  | zero => rfl
  | succ k ih =>
    unfold kpl
    rw [pk_un (by omega)]
    exact ih
def kpd (f : Nat → Int32) (d : Nat) : Nat → Int32 := upd (kpl f d 3) 0 (nI (d + 1))
def unl (f : Nat → Int32) (n : Nat) : Nat → Nat → Int32
  | 0 => f
  | k + 1 => upd (unl f n k) (1 + k) (unl f n k (4 + 3 * n + k))
def eN (st s j : Nat) : Nat := if j < 6 then (if 0 < (s + 24 - st) % 24 ∧ (s + 24 - st) % 24 ≤ 6 - j then 6 - j + 4 else 6 - j) else (if 0 < (st + 24 - s) % 24 ∧ (st + 24 - s) % 24 ≤ j - 6 then j - 6 + 4 else j - 6)
theorem eN_le (st s j : Nat) (hj : j < 13) : eN st s j ≤ 10 := by
  unfold eN
  split <;> split <;> omega
theorem sI_neg {j : Nat} (hj : j < 13) : sI 6 j < 0 ↔ j < 6 := sI_lt (c := 6) (m := 0) (by omega) (by omega) (by omega)
theorem sI_b1 {j : Nat} (hj : j < 13) (h : ¬ 0 ≤ sI 6 j) : j < 6 := (sI_neg hj).mp (Int32.not_le.mp h)
theorem sI_b0 {j : Nat} (hj : j < 13) (h : 0 ≤ sI 6 j) : ¬ j < 6 := fun z => absurd ((sI_neg hj).mpr z) (Int32.not_lt.mpr h)
theorem sI_nn {j : Nat} (hj : 6 ≤ j) : sI 6 j = nI (j - 6) := pk_sub hj
theorem sI_ng {j : Nat} (hj : j ≤ 6) : -(sI 6 j) = nI (6 - j) := by
  unfold sI
  rw [Int32.neg_sub]
  exact pk_sub hj
theorem ef_eq {st s j : Nat} (hst : st < 24) (hs : s < 24) (hj : j < 13) : f_ef (nI st) (nI s) (sI 6 j) = nI (eN st s j) := by
  unfold f_ef eN
  by_cases h : j < 6
  · have h0 : ¬ 0 ≤ sI 6 j := fun z => absurd ((sI_neg hj).mpr h) (Int32.not_lt.mpr z)
    have ea : f_abs (sI 6 j) = nI (6 - j) := by
      unfold f_abs
      rw [if_neg h0, sI_ng (by omega)]
    have er : f_rd (nI s - nI st) = nI ((s + 24 - st) % 24) := by
      rw [f_rd_eq]
      unfold rdN
      rw [pk_sub_toInt (by omega) (by omega)]
      congr 1
      omega
    rw [if_neg h0, ea, er, if_pos h]
    by_cases h1 : 0 < (s + 24 - st) % 24
    · rw [if_neg (show ¬ nI ((s + 24 - st) % 24) ≤ 0 from nI_nle h1 (by omega))]
      by_cases h2 : (s + 24 - st) % 24 ≤ 6 - j
      · rw [if_neg (nI_nlt h2 (by omega)), if_pos ⟨h1, h2⟩]
        exact nI_add _ 4
      · rw [if_pos (nI_lt (by omega) (by omega)), if_neg (fun z => h2 z.2)]
    · rw [if_pos (show nI ((s + 24 - st) % 24) ≤ 0 from nI_le (b := 0) (by omega) (by omega)), if_neg (fun z => h1 z.1)]
  · have h0 : 0 ≤ sI 6 j := Int32.not_lt.mp (fun z => h ((sI_neg hj).mp z))
    have ea : f_abs (sI 6 j) = nI (j - 6) := by
      unfold f_abs
      rw [if_pos h0, sI_nn (by omega)]
    have er : f_rd (nI st - nI s) = nI ((st + 24 - s) % 24) := by
      rw [f_rd_eq]
      unfold rdN
      rw [pk_sub_toInt (by omega) (by omega)]
      congr 1
      omega
    rw [if_pos h0, ea, er, if_neg h]
    by_cases h1 : 0 < (st + 24 - s) % 24
    · rw [if_neg (show ¬ nI ((st + 24 - s) % 24) ≤ 0 from nI_nle h1 (by omega))]
      by_cases h2 : (st + 24 - s) % 24 ≤ j - 6
      · rw [if_neg (nI_nlt h2 (by omega)), if_pos ⟨h1, h2⟩]
        exact nI_add _ 4
      · rw [if_pos (nI_lt (by omega) (by omega)), if_neg (fun z => h2 z.2)]
    · rw [if_pos (show nI ((st + 24 - s) % 24) ≤ 0 from nI_le (b := 0) (by omega) (by omega)), if_neg (fun z => h1 z.1)]
theorem by6 {x : Int32} (h1 : ¬ x < -6) (h2 : x ≤ 6) : ∃ j, j < 13 ∧ x = sI 6 j := by
  rw [Int32.lt_iff_toInt_lt] at h1
  rw [Int32.le_iff_toInt_le] at h2
  have e1 : (-6 : Int32).toInt = -6 := rfl
  have e2 : (6 : Int32).toInt = 6 := rfl
  refine ⟨(x.toInt + 6).toNat, by omega, Int32.toInt_inj.mp ?_⟩
  rw [sI_toInt (by omega) (by omega)]
  omega
/-- the effort, k places on -/
def ekk (st s j k : Nat) : Nat := if j < 6 then (if 0 < (s + 24 - st) % 24 ∧ (s + 24 - st) % 24 < k then 6 - j + 4 else 6 - j) else (if 0 < (st + 24 - s) % 24 ∧ (st + 24 - s) % 24 < k then j - 6 + 4 else j - 6)
def fr (j : Nat) : Nat := if j < 6 then 6 - j else j - 6
theorem ekk_1 (st s j : Nat) : ekk st s j 1 = fr j := by
  unfold ekk fr
  split <;> rw [if_neg (by omega)]
theorem ekk_e (st s j : Nat) : ekk st s j (fr j + 1) = eN st s j := by
  unfold ekk fr eN
  by_cases h : j < 6
  · rw [if_pos h, if_pos h, if_pos h]
    by_cases h1 : 0 < (s + 24 - st) % 24 ∧ (s + 24 - st) % 24 ≤ 6 - j
    · rw [if_pos h1, if_pos (by omega)]
    · rw [if_neg h1, if_neg (by omega)]
  · rw [if_neg h, if_neg h, if_neg h]
    by_cases h1 : 0 < (st + 24 - s) % 24 ∧ (st + 24 - s) % 24 ≤ j - 6
    · rw [if_pos h1, if_pos (by omega)]
    · rw [if_neg h1, if_neg (by omega)]
theorem ekk_u {st s j k : Nat} (hst : st < 24) (hs : s < 24) (hk1 : 1 ≤ k) (hk : k ≤ 6) : ekk st s j (k + 1) = ekk st s j k + (if rdN (if j < 6 then nI s - nI k else nI (s + k)) = st then 4 else 0) := by
  unfold ekk
  by_cases h : j < 6
  · rw [if_pos h, if_pos h, if_pos h]
    have e : rdN (nI s - nI k) = st ↔ (s + 24 - st) % 24 = k := by
      unfold rdN
      rw [pk_sub_toInt (by omega) (by omega)]
      omega
    by_cases h2 : rdN (nI s - nI k) = st
    · have h3 := e.mp h2
      rw [if_pos h2, if_pos (by omega), if_neg (by omega)]
    · have h3 := fun z => h2 (e.mpr z)
      rw [if_neg h2]
      by_cases h4 : 0 < (s + 24 - st) % 24 ∧ (s + 24 - st) % 24 < k
      · rw [if_pos h4, if_pos (by omega)]
      · rw [if_neg h4, if_neg (by omega)]
        rfl
  · rw [if_neg h, if_neg h, if_neg h]
    have e : rdN (nI (s + k)) = st ↔ (st + 24 - s) % 24 = k := by
      unfold rdN
      rw [nI_toInt (by omega)]
      omega
    by_cases h2 : rdN (nI (s + k)) = st
    · have h3 := e.mp h2
      rw [if_pos h2, if_pos (by omega), if_neg (by omega)]
    · have h3 := fun z => h2 (e.mpr z)
      rw [if_neg h2]
      by_cases h4 : 0 < (st + 24 - s) % 24 ∧ (st + 24 - s) % 24 < k
      · rw [if_pos h4, if_pos (by omega)]
      · rw [if_neg h4, if_neg (by omega)]
        rfl
theorem sX9_gotNow {X : XX} {I A : Nat → Nat → Int32} {J B : Nat → Nat → Int64} {F : Nat → Nat} (b : Nat) (hb : b ≤ 5) (eb : I 51 1 = nI b) (m : Nat) (em : A 52 1 = nI m) (hm : m ≤ 1000) (s : Nat) (es : A 52 2 = nI s) (hl : mLk A) (ln : Nat) (hln : ln ≤ 5) (eln : I 51 3 = nI ln) : x_ev X xT 4 185 [.ref 51] (HX I A J B F) (some (.int (nI (nsum (fun i => gnN b (mL A i) (nI s) m) ln)))) (HX I A J B F) := by
  refine q_ev (L := [some (.ref 51), none, none]) tX9_gotNow (Nat.le_of_ble_eq_true rfl) rfl ?_
  refine q_iconst (v := nI 0) rfl rfl ?_
  refine q_istore_n (L' := [_, _, _]) rfl rfl ?_
  refine q_iconst (v := nI 0) rfl rfl ?_
  refine q_istore_n (L' := [_, _, _]) rfl rfl ?_
  refine q_up (Inv := fun k L h => L = [some (.ref 51), some (.int (nI (nsum (fun i => gnN b (mL A i) (nI s) m) k))), some (.int (nI k))] ∧ h = HX I A J B F) (ln) (fun k L h hk_k hi_k ih_k => ?_) (fun L h hi_k => ?_) (0) _ _ (by omega) (⟨rfl, rfl⟩)
  · obtain ⟨rfl, rfl⟩ := hi_k
    refine q_iload_n rfl rfl ?_
    refine q_aload_n rfl rfl ?_
    refine q_getI rfl hx_51 rfl (eln) ?_
    refine q_icmp_geN rfl (by omega) (by omega) (fun hcks9 => ?_) (fun hcks9 => ?_)
    · omega
    · refine q_iload_n rfl rfl ?_
      refine q_aload_n rfl rfl ?_
      refine q_iload_n rfl rfl ?_
      refine q_aload_n rfl rfl ?_
      refine q_getfield rfl hx_51 rfl ?_
      refine q_iconst (v := nI 2) rfl rfl ?_
      refine q_iald rfl (by decide) hx_52 (by decide) (by decide) (es) ?_
      refine q_aload_n rfl rfl ?_
      refine q_getfield rfl hx_51 rfl ?_
      refine q_iconst (v := nI 1) rfl rfl ?_
      refine q_iald rfl (by decide) hx_52 (by decide) (by decide) (em) ?_
      refine q_callV3 rfl hx_51 (Nat.le_of_ble_eq_true rfl) (Nat.le_of_ble_eq_true rfl) (sX9_got k (by omega) hl b hb eb _ _ (by omega)) ?_
      refine q_iaddN rfl ?_
      refine q_istore_n (L' := [_, _, _]) rfl rfl ?_
      refine q_iincN (c := 1) (L' := [_, _, _]) rfl rfl rfl rfl ?_
      refine q_goto rfl ?_
      exact ih_k _ _ (⟨rfl, rfl⟩)
  · obtain ⟨rfl, rfl⟩ := hi_k
    refine q_iload_n rfl rfl ?_
    refine q_aload_n rfl rfl ?_
    refine q_getI rfl hx_51 rfl (eln) ?_
    refine q_icmp_geN rfl (by omega) (by omega) (fun hckf9 => ?_) (fun hckf9 => ?_)
    · refine q_iload_n rfl rfl ?_
      refine q_iret rfl rfl ?_
      exact ⟨rfl, rfl⟩
    · omega
theorem sX9_toldOf {X : XX} {I A : Nat → Nat → Int32} {J B : Nat → Nat → Int64} {F : Nat → Nat} (b : Nat) (hb : b ≤ 5) (eb : I 51 1 = nI b) (m : Nat) (em : A 52 1 = nI m) (hm : m ≤ 1000) (s : Nat) (es : A 52 2 = nI s) (i : Nat) (hi : i < 5) (hl : mLk A) (w : Nat) (hw : w < 6) : x_ev X xT 4 186 [.ref 51, .int (nI i), .int (nI w)] (HX I A J B F) (some (.int (fact b (mL A i) s m w))) (HX I A J B F) := by
  refine q_ev (L := [some (.ref 51), some (.int (nI i)), some (.int (nI w))]) tX9_toldOf (Nat.le_of_ble_eq_true rfl) rfl ?_
  refine q_iload_n rfl rfl ?_
  rcases (show w = 0 ∨ w = 1 ∨ w = 2 ∨ w = 3 ∨ w = 4 ∨ w = 5 by omega) with rfl | rfl | rfl | rfl | rfl | rfl
  · refine q_tsw (t := 36) rfl (by decide) ?_
    refine q_aload_n rfl rfl ?_
    refine q_getfield rfl hx_51 rfl ?_
    refine q_iload_n rfl rfl ?_
    refine q_iald rfl (by decide) hx_53 (by omega) (by decide) (rfl) ?_
    refine q_iret rfl rfl ?_
    exact ⟨rfl, rfl⟩
  · refine q_tsw (t := 43) rfl (by decide) ?_
    refine q_aload_n rfl rfl ?_
    refine q_iload_n rfl rfl ?_
    refine q_callV1 rfl hx_51 (Nat.le_of_ble_eq_true rfl) (Nat.le_of_ble_eq_true rfl) (sX9_now i hi hl m em) ?_
    refine q_iret rfl rfl ?_
    exact ⟨rfl, rfl⟩
  · refine q_tsw (t := 49) rfl (by decide) ?_
    refine q_aload_n rfl rfl ?_
    refine q_getfield rfl hx_51 rfl ?_
    refine q_iload_n rfl rfl ?_
    refine q_iald rfl (by decide) hx_55 (by omega) (by decide) (rfl) ?_
    refine q_iret rfl rfl ?_
    exact ⟨rfl, rfl⟩
  · refine q_tsw (t := 56) rfl (by decide) ?_
    refine q_aload_n rfl rfl ?_
    refine q_getfield rfl hx_51 rfl ?_
    refine q_iload_n rfl rfl ?_
    refine q_iald rfl (by decide) hx_56 (by omega) (by decide) (rfl) ?_
    refine q_iret rfl rfl ?_
    exact ⟨vI (hl i hi).2, rfl⟩
  · refine q_tsw (t := 63) rfl (by decide) ?_
    refine q_aload_n rfl rfl ?_
    refine q_iload_n rfl rfl ?_
    refine q_aload_n rfl rfl ?_
    refine q_getfield rfl hx_51 rfl ?_
    refine q_iconst (v := nI 1) rfl rfl ?_
    refine q_iald rfl (by decide) hx_52 (by decide) (by decide) (em) ?_
    refine q_callV2 rfl hx_51 (Nat.le_of_ble_eq_true rfl) (Nat.le_of_ble_eq_true rfl) (sX9_brightAt i hi hl m (by omega)) ?_
    refine q_iret rfl rfl ?_
    exact ⟨rfl, rfl⟩
  · refine q_tsw (t := 75) rfl (by decide) ?_
    refine q_aload_n rfl rfl ?_
    refine q_iload_n rfl rfl ?_
    refine q_aload_n rfl rfl ?_
    refine q_getfield rfl hx_51 rfl ?_
    refine q_iconst (v := nI 2) rfl rfl ?_
    refine q_iald rfl (by decide) hx_52 (by decide) (by decide) (es) ?_
    refine q_aload_n rfl rfl ?_
    refine q_getfield rfl hx_51 rfl ?_
    refine q_iconst (v := nI 1) rfl rfl ?_
    refine q_iald rfl (by decide) hx_52 (by decide) (by decide) (em) ?_
    refine q_callV3 rfl hx_51 (Nat.le_of_ble_eq_true rfl) (Nat.le_of_ble_eq_true rfl) (sX9_got i hi hl b hb eb _ _ (by omega)) ?_
    refine q_iret rfl rfl ?_
    exact ⟨rfl, rfl⟩
theorem sX9_isOf {X : XX} {I A : Nat → Nat → Int32} {J B : Nat → Nat → Int64} {F : Nat → Nat} (i : Nat) (hi : i < 5) (w : Int32) : x_ev X xT 1 188 [.ref 51, .int (nI i), .int w] (HX I A J B F) (some (.int (f_of (A 53 i) w))) (HX I A J B F) := by
  refine q_ev (L := [some (.ref 51), some (.int (nI i)), some (.int w)]) tX9_isOf (Nat.le_of_ble_eq_true rfl) rfl ?_
  refine q_aload_n rfl rfl ?_
  refine q_getfield rfl hx_51 rfl ?_
  refine q_iload_n rfl rfl ?_
  refine q_iald rfl (by decide) hx_53 (by omega) (by decide) (rfl) ?_
  refine q_iload_n rfl rfl ?_
  refine q_icmp_eq rfl (fun hc7 => ?_) (fun hc7 => ?_)
  · refine q_iconst (v := 1) rfl rfl ?_
    refine q_goto rfl ?_
    refine q_zret rfl rfl (by decide) ?_
    exact ⟨vI (by simp_all [f_of]), rfl⟩
  · refine q_iload_n rfl rfl ?_
    refine q_iconst (v := 1) rfl rfl ?_
    refine q_icmp_ne rfl (fun hc12 => ?_) (fun hc12 => ?_)
    · refine q_iload_n rfl rfl ?_
      refine q_iconst (v := 3) rfl rfl ?_
      refine q_icmp_ne rfl (fun hc27 => ?_) (fun hc27 => ?_)
      · refine q_iconst (v := 0) rfl rfl ?_
        refine q_zret rfl rfl (by decide) ?_
        exact ⟨vI (by simp_all [f_of]), rfl⟩
      · refine q_aload_n rfl rfl ?_
        refine q_getfield rfl hx_51 rfl ?_
        refine q_iload_n rfl rfl ?_
        refine q_iald rfl (by decide) hx_53 (by omega) (by decide) (rfl) ?_
        refine q_iconst (v := 5) rfl rfl ?_
        refine q_icmp_ne rfl (fun hc37 => ?_) (fun hc37 => ?_)
        · refine q_iconst (v := 0) rfl rfl ?_
          refine q_zret rfl rfl (by decide) ?_
          exact ⟨vI (by simp_all [f_of]), rfl⟩
        · refine q_iconst (v := 1) rfl rfl ?_
          refine q_goto rfl ?_
          refine q_zret rfl rfl (by decide) ?_
          exact ⟨vI (by simp_all [f_of]), rfl⟩
    · refine q_aload_n rfl rfl ?_
      refine q_getfield rfl hx_51 rfl ?_
      refine q_iload_n rfl rfl ?_
      refine q_iald rfl (by decide) hx_53 (by omega) (by decide) (rfl) ?_
      refine q_iconst (v := 4) rfl rfl ?_
      refine q_icmp_eq rfl (fun hc22 => ?_) (fun hc22 => ?_)
      · refine q_iconst (v := 1) rfl rfl ?_
        refine q_goto rfl ?_
        refine q_zret rfl rfl (by decide) ?_
        exact ⟨vI (by simp_all [f_of]), rfl⟩
      · refine q_iload_n rfl rfl ?_
        refine q_iconst (v := 3) rfl rfl ?_
        refine q_icmp_ne rfl (fun hc27 => ?_) (fun hc27 => ?_)
        · refine q_iconst (v := 0) rfl rfl ?_
          refine q_zret rfl rfl (by decide) ?_
          exact ⟨vI (by simp_all [f_of]), rfl⟩
        · refine q_aload_n rfl rfl ?_
          refine q_getfield rfl hx_51 rfl ?_
          refine q_iload_n rfl rfl ?_
          refine q_iald rfl (by decide) hx_53 (by omega) (by decide) (rfl) ?_
          refine q_iconst (v := 5) rfl rfl ?_
          refine q_icmp_ne rfl (fun hc37 => ?_) (fun hc37 => ?_)
          · refine q_iconst (v := 0) rfl rfl ?_
            refine q_zret rfl rfl (by decide) ?_
            exact ⟨vI (by simp_all [f_of]), rfl⟩
          · refine q_iconst (v := 1) rfl rfl ?_
            refine q_goto rfl ?_
            refine q_zret rfl rfl (by decide) ?_
            exact ⟨vI (by simp_all [f_of]), rfl⟩
theorem sX9_moves {X : XX} {I A : Nat → Nat → Int32} {J B : Nat → Nat → Int64} {F : Nat → Nat} (m : Nat) (em : A 52 1 = nI m) (hm : m ≤ 1000) (i : Nat) (hi : i < 5) (hl : mLk A)  : x_ev X xT 3 189 [.ref 51, .int (nI i)] (HX I A J B F) (some (.int (nI (nsum (mvN (mL A i) m) 8)))) (HX I A J B F) := by
  refine q_ev (L := [some (.ref 51), some (.int (nI i)), none, none]) tX9_moves (Nat.le_of_ble_eq_true rfl) rfl ?_
  refine q_iconst (v := nI 0) rfl rfl ?_
  refine q_istore_n (L' := [_, _, _, _]) rfl rfl ?_
  refine q_iconst (v := nI 0) rfl rfl ?_
  refine q_istore_n (L' := [_, _, _, _]) rfl rfl ?_
  refine q_up (Inv := fun k L h => L = [some (.ref 51), some (.int (nI i)), some (.int (nI (nsum (mvN (mL A i) m) k))), some (.int (nI k))] ∧ h = HX I A J B F) (8) (fun k L h hk_k hi_k ih_k => ?_) (fun L h hi_k => ?_) (0) _ _ (by omega) (⟨rfl, rfl⟩)
  · obtain ⟨rfl, rfl⟩ := hi_k
    refine q_iload_n rfl rfl ?_
    refine q_bipush (v := nI 8) rfl rfl ?_
    refine q_icmp_geN rfl (by omega) (by omega) (fun hcks7 => ?_) (fun hcks7 => ?_)
    · omega
    · refine q_iload_n rfl rfl ?_
      refine q_aload_n rfl rfl ?_
      refine q_iload_n rfl rfl ?_
      refine q_aload_n rfl rfl ?_
      refine q_getfield rfl hx_51 rfl ?_
      refine q_iconst (v := nI 1) rfl rfl ?_
      refine q_iald rfl (by decide) hx_52 (by decide) (by decide) (em) ?_
      refine q_iload_n rfl rfl ?_
      refine q_iaddN rfl ?_
      refine q_callV2 rfl hx_51 (Nat.le_of_ble_eq_true rfl) (Nat.le_of_ble_eq_true rfl) (sX9_placeAt i hi hl _) ?_
      refine q_aload_n rfl rfl ?_
      refine q_iload_n rfl rfl ?_
      refine q_aload_n rfl rfl ?_
      refine q_getfield rfl hx_51 rfl ?_
      refine q_iconst (v := nI 1) rfl rfl ?_
      refine q_iald rfl (by decide) hx_52 (by decide) (by decide) (em) ?_
      refine q_iload_n rfl rfl ?_
      refine q_iaddN rfl ?_
      refine q_iconst (v := nI 1) rfl rfl ?_
      refine q_iaddN rfl ?_
      refine q_callV2 rfl hx_51 (Nat.le_of_ble_eq_true rfl) (Nat.le_of_ble_eq_true rfl) (sX9_placeAt i hi hl _) ?_
      refine q_icmp_neN rfl (by have := plN_lt (mL A i) (m + k); omega) (by have := plN_lt (mL A i) (m + k + 1); omega) (fun hcks39 => ?_) (fun hcks39 => ?_)
      · refine q_iconst (v := nI 1) rfl rfl ?_
        refine q_iaddN rfl ?_
        refine q_istore_n (L' := [_, _, _, _]) rfl rfl ?_
        refine q_iincN (c := 1) (L' := [_, _, _, _]) rfl rfl rfl rfl ?_
        refine q_goto rfl ?_
        exact ih_k _ _ (⟨by rw [show nsum (mvN (mL A i) m) (k + 1) = nsum (mvN (mL A i) m) k + mvN (mL A i) m k from rfl]; unfold mvN; first | rw [if_pos hcks39] | rw [if_neg hcks39], rfl⟩)
      · refine q_iconst (v := nI 0) rfl rfl ?_
        refine q_goto rfl ?_
        refine q_iaddN rfl ?_
        refine q_istore_n (L' := [_, _, _, _]) rfl rfl ?_
        refine q_iincN (c := 1) (L' := [_, _, _, _]) rfl rfl rfl rfl ?_
        refine q_goto rfl ?_
        exact ih_k _ _ (⟨by rw [show nsum (mvN (mL A i) m) (k + 1) = nsum (mvN (mL A i) m) k + mvN (mL A i) m k from rfl]; unfold mvN; first | rw [if_pos hcks39] | rw [if_neg hcks39], rfl⟩)
  · obtain ⟨rfl, rfl⟩ := hi_k
    refine q_iload_n rfl rfl ?_
    refine q_bipush (v := nI 8) rfl rfl ?_
    refine q_icmp_geN rfl (by omega) (by omega) (fun hckf7 => ?_) (fun hckf7 => ?_)
    · refine q_iload_n rfl rfl ?_
      refine q_iret rfl rfl ?_
      exact ⟨rfl, rfl⟩
    · omega
theorem sX9_back {X : XX} {I A : Nat → Nat → Int32} {J B : Nat → Nat → Int64} {F : Nat → Nat} (m : Nat) (em : A 52 1 = nI m) (hm : m ≤ 1000) (i : Nat) (hi : i < 5) (hl : mLk A) (h24 : plN (mL A i) (m + 24) = plN (mL A i) m) : x_ev X xT 4 190 [.ref 51, .int (nI i)] (HX I A J B F) (some (.int (nI (lrun (bkP (mL A i) m) 23 1)))) (HX I A J B F) := by
  refine q_ev (L := [some (.ref 51), some (.int (nI i)), none]) tX9_back (Nat.le_of_ble_eq_true rfl) rfl ?_
  refine q_iconst (v := nI 1) rfl rfl ?_
  refine q_istore_n (L' := [_, _, _]) rfl rfl ?_
  refine q_up (Inv := fun k L h => L = [some (.ref 51), some (.int (nI i)), some (.int (nI k))] ∧ h = HX I A J B F ∧ lrun (bkP (mL A i) m) (24 - k) k = lrun (bkP (mL A i) m) 23 1) (24) (fun k L h hk_k hi_k ih_k => ?_) (fun L h hi_k => ?_) (1) _ _ (by omega) (⟨rfl, rfl, rfl⟩)
  · obtain ⟨rfl, rfl, hr⟩ := hi_k
    refine q_aload_n rfl rfl ?_
    refine q_iload_n rfl rfl ?_
    refine q_aload_n rfl rfl ?_
    refine q_getfield rfl hx_51 rfl ?_
    refine q_iconst (v := nI 1) rfl rfl ?_
    refine q_iald rfl (by decide) hx_52 (by decide) (by decide) (em) ?_
    refine q_iload_n rfl rfl ?_
    refine q_iaddN rfl ?_
    refine q_callV2 rfl hx_51 (Nat.le_of_ble_eq_true rfl) (Nat.le_of_ble_eq_true rfl) (sX9_placeAt i hi hl _) ?_
    refine q_aload_n rfl rfl ?_
    refine q_iload_n rfl rfl ?_
    refine q_callV1 rfl hx_51 (Nat.le_of_ble_eq_true rfl) (Nat.le_of_ble_eq_true rfl) (sX9_now i hi hl m em) ?_
    refine q_icmp_eqN rfl (by have := plN_lt (mL A i) (m + k); omega) (by have := plN_lt (mL A i) m; omega) (fun hcks20 => ?_) (fun hcks20 => ?_)
    · refine q_iload_n rfl rfl ?_
      refine q_iret rfl rfl ?_
      exact ⟨vI (by rw [← hr, lrun_f (decide_eq_false (fun z => z hcks20))]), rfl⟩
    · refine q_iincN (c := 1) (L' := [_, _, _]) rfl rfl rfl rfl ?_
      refine q_goto rfl ?_
      exact ih_k _ _ (⟨rfl, rfl, by rw [← hr, ← lrun_t hk_k (decide_eq_true hcks20)]⟩)
  · obtain ⟨rfl, rfl, hr⟩ := hi_k
    refine q_aload_n rfl rfl ?_
    refine q_iload_n rfl rfl ?_
    refine q_aload_n rfl rfl ?_
    refine q_getfield rfl hx_51 rfl ?_
    refine q_iconst (v := nI 1) rfl rfl ?_
    refine q_iald rfl (by decide) hx_52 (by decide) (by decide) (em) ?_
    refine q_iload_n rfl rfl ?_
    refine q_iaddN rfl ?_
    refine q_callV2 rfl hx_51 (Nat.le_of_ble_eq_true rfl) (Nat.le_of_ble_eq_true rfl) (sX9_placeAt i hi hl _) ?_
    refine q_aload_n rfl rfl ?_
    refine q_iload_n rfl rfl ?_
    refine q_callV1 rfl hx_51 (Nat.le_of_ble_eq_true rfl) (Nat.le_of_ble_eq_true rfl) (sX9_now i hi hl m em) ?_
    refine q_icmp_eqN rfl (by have := plN_lt (mL A i) (m + 24); omega) (by have := plN_lt (mL A i) m; omega) (fun hckf20 => ?_) (fun hckf20 => ?_)
    · refine q_iload_n rfl rfl ?_
      refine q_iret rfl rfl ?_
      exact ⟨vI (by rw [← hr]; rfl), rfl⟩
    · exact absurd h24 hckf20
theorem sX9_fourBrights {X : XX} {I A : Nat → Nat → Int32} {J B : Nat → Nat → Int64} {F : Nat → Nat} (m : Nat) (em : A 52 1 = nI m) (hm : m ≤ 1000) (i : Nat) (hi : i < 5) (hl : mLk A)  : x_ev X xT 3 191 [.ref 51, .int (nI i)] (HX I A J B F) (some (.int (nI (nsum (fun k => brN (mL A i) (m + k)) 4)))) (HX I A J B F) := by
  refine q_ev (L := [some (.ref 51), some (.int (nI i)), none, none]) tX9_fourBrights (Nat.le_of_ble_eq_true rfl) rfl ?_
  refine q_iconst (v := nI 0) rfl rfl ?_
  refine q_istore_n (L' := [_, _, _, _]) rfl rfl ?_
  refine q_iconst (v := nI 0) rfl rfl ?_
  refine q_istore_n (L' := [_, _, _, _]) rfl rfl ?_
  refine q_up (Inv := fun k L h => L = [some (.ref 51), some (.int (nI i)), some (.int (nI (nsum (fun k => brN (mL A i) (m + k)) k))), some (.int (nI k))] ∧ h = HX I A J B F) (4) (fun k L h hk_k hi_k ih_k => ?_) (fun L h hi_k => ?_) (0) _ _ (by omega) (⟨rfl, rfl⟩)
  · obtain ⟨rfl, rfl⟩ := hi_k
    refine q_iload_n rfl rfl ?_
    refine q_iconst (v := nI 4) rfl rfl ?_
    refine q_icmp_geN rfl (by omega) (by omega) (fun hcks6 => ?_) (fun hcks6 => ?_)
    · omega
    · refine q_iload_n rfl rfl ?_
      refine q_aload_n rfl rfl ?_
      refine q_iload_n rfl rfl ?_
      refine q_aload_n rfl rfl ?_
      refine q_getfield rfl hx_51 rfl ?_
      refine q_iconst (v := nI 1) rfl rfl ?_
      refine q_iald rfl (by decide) hx_52 (by decide) (by decide) (em) ?_
      refine q_iload_n rfl rfl ?_
      refine q_iaddN rfl ?_
      refine q_callV2 rfl hx_51 (Nat.le_of_ble_eq_true rfl) (Nat.le_of_ble_eq_true rfl) (sX9_brightAt i hi hl _ (by omega)) ?_
      refine q_iaddN rfl ?_
      refine q_istore_n (L' := [_, _, _, _]) rfl rfl ?_
      refine q_iincN (c := 1) (L' := [_, _, _, _]) rfl rfl rfl rfl ?_
      refine q_goto rfl ?_
      exact ih_k _ _ (⟨rfl, rfl⟩)
  · obtain ⟨rfl, rfl⟩ := hi_k
    refine q_iload_n rfl rfl ?_
    refine q_iconst (v := nI 4) rfl rfl ?_
    refine q_icmp_geN rfl (by omega) (by omega) (fun hckf6 => ?_) (fun hckf6 => ?_)
    · refine q_iload_n rfl rfl ?_
      refine q_iret rfl rfl ?_
      exact ⟨rfl, rfl⟩
    · omega
theorem sX9_offBest {X : XX} {I A : Nat → Nat → Int32} {J B : Nat → Nat → Int64} {F : Nat → Nat} (b : Nat) (hb : b ≤ 5) (eb : I 51 1 = nI b) (hb1 : 1 ≤ b) (m : Nat) (em : A 52 1 = nI m) (hm : m ≤ 1000) (s : Nat) (es : A 52 2 = nI s) (hs : s < 24) (i : Nat) (hi : i < 5) (hl : mLk A)  : x_ev X xT 4 192 [.ref 51, .int (nI i)] (HX I A J B F) (some (.int (nI (lrun (wyP b s (plN (mL A i) m)) 12 0)))) (HX I A J B F) := by
  have hp := plN_lt (mL A i) m
  refine q_ev (L := [some (.ref 51), some (.int (nI i)), none, none]) tX9_offBest (Nat.le_of_ble_eq_true rfl) rfl ?_
  refine q_aload_n rfl rfl ?_
  refine q_getI rfl hx_51 rfl (eb) ?_
  refine q_iconst (v := nI 2) rfl rfl ?_
  refine q_icmp_leN rfl (by omega) (by omega) (fun hc5 => ?_) (fun hc5 => ?_)
  · refine q_iconst (v := nI 1) rfl rfl ?_
    refine q_cn (show _ = nI (best b) from by unfold best; first | rw [if_pos (by omega)] | rw [if_neg (by omega)]) ?_
    refine q_istore_n (L' := [_, _, _, _]) rfl rfl ?_
    refine q_iconst (v := nI 0) rfl rfl ?_
    refine q_istore_n (L' := [_, _, _, _]) rfl rfl ?_
    refine q_up (Inv := fun k L h => L = [some (.ref 51), some (.int (nI i)), some (.int (nI (best b))), some (.int (nI k))] ∧ h = HX I A J B F ∧ lrun (wyP b s (plN (mL A i) m)) (12 - k) k = lrun (wyP b s (plN (mL A i) m)) 12 0 ∧ ∀ j, j < k → wyP b s (plN (mL A i) m) j = true) (12) (fun k L h hk_k hi_k ih_k => ?_) (fun L h hi_k => ?_) (0) _ _ (by omega) (⟨rfl, rfl, rfl, fun j hj => absurd hj (Nat.not_lt_zero j)⟩)
    · obtain ⟨rfl, rfl, hr, hj⟩ := hi_k
      refine q_aload_n rfl rfl ?_
      refine q_aload_n rfl rfl ?_
      refine q_iload_n rfl rfl ?_
      refine q_callV1 rfl hx_51 (Nat.le_of_ble_eq_true rfl) (Nat.le_of_ble_eq_true rfl) (sX9_now i hi hl m em) ?_
      refine q_aload_n rfl rfl ?_
      refine q_getfield rfl hx_51 rfl ?_
      refine q_iconst (v := nI 2) rfl rfl ?_
      refine q_iald rfl (by decide) hx_52 (by decide) (by decide) (es) ?_
      refine q_iload_n rfl rfl ?_
      refine q_iaddN rfl ?_
      refine q_callV2 rfl hx_51 (Nat.le_of_ble_eq_true rfl) (Nat.le_of_ble_eq_true rfl) (sX9_times b hb eb _ _) ?_
      refine q_iload_n rfl rfl ?_
      refine q_icmp_eqN rfl (by have := tmN_le b (nI (s + k)) (nI (plN (mL A i) m)); omega) (by unfold best; split <;> omega) (fun hcks34 => ?_) (fun hcks34 => ?_)
      · refine q_iload_n rfl rfl ?_
        refine q_iret rfl rfl ?_
        exact ⟨vI (by rw [← hr, lrun_f (decide_eq_false (fun z => by first | exact z.1 ((wyP_a hs hp (by omega)).trans hcks34) | exact z.2 ((wyP_b hs hp (by omega)).trans hcks55)))]), rfl⟩
      · refine q_aload_n rfl rfl ?_
        refine q_aload_n rfl rfl ?_
        refine q_iload_n rfl rfl ?_
        refine q_callV1 rfl hx_51 (Nat.le_of_ble_eq_true rfl) (Nat.le_of_ble_eq_true rfl) (sX9_now i hi hl m em) ?_
        refine q_aload_n rfl rfl ?_
        refine q_getfield rfl hx_51 rfl ?_
        refine q_iconst (v := nI 2) rfl rfl ?_
        refine q_iald rfl (by decide) hx_52 (by decide) (by decide) (es) ?_
        refine q_iload_n rfl rfl ?_
        refine q_isub rfl ?_
        refine q_callV2 rfl hx_51 (Nat.le_of_ble_eq_true rfl) (Nat.le_of_ble_eq_true rfl) (sX9_times b hb eb _ _) ?_
        refine q_iload_n rfl rfl ?_
        refine q_icmp_eqN rfl (by have := tmN_le b (nI s - nI k) (nI (plN (mL A i) m)); omega) (by unfold best; split <;> omega) (fun hcks55 => ?_) (fun hcks55 => ?_)
        · refine q_iload_n rfl rfl ?_
          refine q_iret rfl rfl ?_
          exact ⟨vI (by rw [← hr, lrun_f (decide_eq_false (fun z => by first | exact z.1 ((wyP_a hs hp (by omega)).trans hcks34) | exact z.2 ((wyP_b hs hp (by omega)).trans hcks55)))]), rfl⟩
        · refine q_iincN (c := 1) (L' := [_, _, _, _]) rfl rfl rfl rfl ?_
          refine q_goto rfl ?_
          exact ih_k _ _ (⟨rfl, rfl, by rw [← hr, ← lrun_t hk_k (show wyP b s (plN (mL A i) m) k = true from decide_eq_true ⟨by rw [wyP_a hs hp (by omega)]; exact hcks34, by rw [wyP_b hs hp (by omega)]; exact hcks55⟩)], fun j hj2 => by rcases Nat.lt_or_ge j k with z | z; exact hj j z; rw [show j = k by omega]; exact decide_eq_true ⟨by rw [wyP_a hs hp (by omega)]; exact hcks34, by rw [wyP_b hs hp (by omega)]; exact hcks55⟩⟩)
    · obtain ⟨rfl, rfl, hr, hj⟩ := hi_k
      refine q_aload_n rfl rfl ?_
      refine q_aload_n rfl rfl ?_
      refine q_iload_n rfl rfl ?_
      refine q_callV1 rfl hx_51 (Nat.le_of_ble_eq_true rfl) (Nat.le_of_ble_eq_true rfl) (sX9_now i hi hl m em) ?_
      refine q_aload_n rfl rfl ?_
      refine q_getfield rfl hx_51 rfl ?_
      refine q_iconst (v := nI 2) rfl rfl ?_
      refine q_iald rfl (by decide) hx_52 (by decide) (by decide) (es) ?_
      refine q_iload_n rfl rfl ?_
      refine q_iaddN rfl ?_
      refine q_callV2 rfl hx_51 (Nat.le_of_ble_eq_true rfl) (Nat.le_of_ble_eq_true rfl) (sX9_times b hb eb _ _) ?_
      refine q_iload_n rfl rfl ?_
      refine q_icmp_eqN rfl (by have := tmN_le b (nI (s + 12)) (nI (plN (mL A i) m)); omega) (by unfold best; split <;> omega) (fun hckf34 => ?_) (fun hckf34 => ?_)
      · refine q_iload_n rfl rfl ?_
        refine q_iret rfl rfl ?_
        exact ⟨vI (by rw [← hr]; rfl), rfl⟩
      · refine q_aload_n rfl rfl ?_
        refine q_aload_n rfl rfl ?_
        refine q_iload_n rfl rfl ?_
        refine q_callV1 rfl hx_51 (Nat.le_of_ble_eq_true rfl) (Nat.le_of_ble_eq_true rfl) (sX9_now i hi hl m em) ?_
        refine q_aload_n rfl rfl ?_
        refine q_getfield rfl hx_51 rfl ?_
        refine q_iconst (v := nI 2) rfl rfl ?_
        refine q_iald rfl (by decide) hx_52 (by decide) (by decide) (es) ?_
        refine q_iload_n rfl rfl ?_
        refine q_isub rfl ?_
        refine q_callV2 rfl hx_51 (Nat.le_of_ble_eq_true rfl) (Nat.le_of_ble_eq_true rfl) (sX9_times b hb eb _ _) ?_
        refine q_iload_n rfl rfl ?_
        refine q_icmp_eqN rfl (by have := tmN_le b (nI s - nI 12) (nI (plN (mL A i) m)); omega) (by unfold best; split <;> omega) (fun hckf55 => ?_) (fun hckf55 => ?_)
        · refine q_iload_n rfl rfl ?_
          refine q_iret rfl rfl ?_
          exact ⟨vI (by rw [← hr]; rfl), rfl⟩
        · exact absurd (wy12 hb1 hs hp) (fun ⟨j, hj1, hj2⟩ => by rcases Nat.lt_or_ge j 12 with z | z; rw [hj j z] at hj2; cases hj2; rw [show j = 12 by omega] at hj2; exact absurd (show wyP b s (plN (mL A i) m) 12 = true from decide_eq_true ⟨by rw [wyP_a hs hp (by omega)]; exact hckf34, by rw [wyP_b hs hp (by omega)]; exact hckf55⟩) (by rw [hj2]; decide))
  · refine q_iconst (v := nI 2) rfl rfl ?_
    refine q_goto rfl ?_
    refine q_cn (show _ = nI (best b) from by unfold best; first | rw [if_pos (by omega)] | rw [if_neg (by omega)]) ?_
    refine q_istore_n (L' := [_, _, _, _]) rfl rfl ?_
    refine q_iconst (v := nI 0) rfl rfl ?_
    refine q_istore_n (L' := [_, _, _, _]) rfl rfl ?_
    refine q_up (Inv := fun k L h => L = [some (.ref 51), some (.int (nI i)), some (.int (nI (best b))), some (.int (nI k))] ∧ h = HX I A J B F ∧ lrun (wyP b s (plN (mL A i) m)) (12 - k) k = lrun (wyP b s (plN (mL A i) m)) 12 0 ∧ ∀ j, j < k → wyP b s (plN (mL A i) m) j = true) (12) (fun k L h hk_k hi_k ih_k => ?_) (fun L h hi_k => ?_) (0) _ _ (by omega) (⟨rfl, rfl, rfl, fun j hj => absurd hj (Nat.not_lt_zero j)⟩)
    · obtain ⟨rfl, rfl, hr, hj⟩ := hi_k
      refine q_aload_n rfl rfl ?_
      refine q_aload_n rfl rfl ?_
      refine q_iload_n rfl rfl ?_
      refine q_callV1 rfl hx_51 (Nat.le_of_ble_eq_true rfl) (Nat.le_of_ble_eq_true rfl) (sX9_now i hi hl m em) ?_
      refine q_aload_n rfl rfl ?_
      refine q_getfield rfl hx_51 rfl ?_
      refine q_iconst (v := nI 2) rfl rfl ?_
      refine q_iald rfl (by decide) hx_52 (by decide) (by decide) (es) ?_
      refine q_iload_n rfl rfl ?_
      refine q_iaddN rfl ?_
      refine q_callV2 rfl hx_51 (Nat.le_of_ble_eq_true rfl) (Nat.le_of_ble_eq_true rfl) (sX9_times b hb eb _ _) ?_
      refine q_iload_n rfl rfl ?_
      refine q_icmp_eqN rfl (by have := tmN_le b (nI (s + k)) (nI (plN (mL A i) m)); omega) (by unfold best; split <;> omega) (fun hcks34 => ?_) (fun hcks34 => ?_)
      · refine q_iload_n rfl rfl ?_
        refine q_iret rfl rfl ?_
        exact ⟨vI (by rw [← hr, lrun_f (decide_eq_false (fun z => by first | exact z.1 ((wyP_a hs hp (by omega)).trans hcks34) | exact z.2 ((wyP_b hs hp (by omega)).trans hcks55)))]), rfl⟩
      · refine q_aload_n rfl rfl ?_
        refine q_aload_n rfl rfl ?_
        refine q_iload_n rfl rfl ?_
        refine q_callV1 rfl hx_51 (Nat.le_of_ble_eq_true rfl) (Nat.le_of_ble_eq_true rfl) (sX9_now i hi hl m em) ?_
        refine q_aload_n rfl rfl ?_
        refine q_getfield rfl hx_51 rfl ?_
        refine q_iconst (v := nI 2) rfl rfl ?_
        refine q_iald rfl (by decide) hx_52 (by decide) (by decide) (es) ?_
        refine q_iload_n rfl rfl ?_
        refine q_isub rfl ?_
        refine q_callV2 rfl hx_51 (Nat.le_of_ble_eq_true rfl) (Nat.le_of_ble_eq_true rfl) (sX9_times b hb eb _ _) ?_
        refine q_iload_n rfl rfl ?_
        refine q_icmp_eqN rfl (by have := tmN_le b (nI s - nI k) (nI (plN (mL A i) m)); omega) (by unfold best; split <;> omega) (fun hcks55 => ?_) (fun hcks55 => ?_)
        · refine q_iload_n rfl rfl ?_
          refine q_iret rfl rfl ?_
          exact ⟨vI (by rw [← hr, lrun_f (decide_eq_false (fun z => by first | exact z.1 ((wyP_a hs hp (by omega)).trans hcks34) | exact z.2 ((wyP_b hs hp (by omega)).trans hcks55)))]), rfl⟩
        · refine q_iincN (c := 1) (L' := [_, _, _, _]) rfl rfl rfl rfl ?_
          refine q_goto rfl ?_
          exact ih_k _ _ (⟨rfl, rfl, by rw [← hr, ← lrun_t hk_k (show wyP b s (plN (mL A i) m) k = true from decide_eq_true ⟨by rw [wyP_a hs hp (by omega)]; exact hcks34, by rw [wyP_b hs hp (by omega)]; exact hcks55⟩)], fun j hj2 => by rcases Nat.lt_or_ge j k with z | z; exact hj j z; rw [show j = k by omega]; exact decide_eq_true ⟨by rw [wyP_a hs hp (by omega)]; exact hcks34, by rw [wyP_b hs hp (by omega)]; exact hcks55⟩⟩)
    · obtain ⟨rfl, rfl, hr, hj⟩ := hi_k
      refine q_aload_n rfl rfl ?_
      refine q_aload_n rfl rfl ?_
      refine q_iload_n rfl rfl ?_
      refine q_callV1 rfl hx_51 (Nat.le_of_ble_eq_true rfl) (Nat.le_of_ble_eq_true rfl) (sX9_now i hi hl m em) ?_
      refine q_aload_n rfl rfl ?_
      refine q_getfield rfl hx_51 rfl ?_
      refine q_iconst (v := nI 2) rfl rfl ?_
      refine q_iald rfl (by decide) hx_52 (by decide) (by decide) (es) ?_
      refine q_iload_n rfl rfl ?_
      refine q_iaddN rfl ?_
      refine q_callV2 rfl hx_51 (Nat.le_of_ble_eq_true rfl) (Nat.le_of_ble_eq_true rfl) (sX9_times b hb eb _ _) ?_
      refine q_iload_n rfl rfl ?_
      refine q_icmp_eqN rfl (by have := tmN_le b (nI (s + 12)) (nI (plN (mL A i) m)); omega) (by unfold best; split <;> omega) (fun hckf34 => ?_) (fun hckf34 => ?_)
      · refine q_iload_n rfl rfl ?_
        refine q_iret rfl rfl ?_
        exact ⟨vI (by rw [← hr]; rfl), rfl⟩
      · refine q_aload_n rfl rfl ?_
        refine q_aload_n rfl rfl ?_
        refine q_iload_n rfl rfl ?_
        refine q_callV1 rfl hx_51 (Nat.le_of_ble_eq_true rfl) (Nat.le_of_ble_eq_true rfl) (sX9_now i hi hl m em) ?_
        refine q_aload_n rfl rfl ?_
        refine q_getfield rfl hx_51 rfl ?_
        refine q_iconst (v := nI 2) rfl rfl ?_
        refine q_iald rfl (by decide) hx_52 (by decide) (by decide) (es) ?_
        refine q_iload_n rfl rfl ?_
        refine q_isub rfl ?_
        refine q_callV2 rfl hx_51 (Nat.le_of_ble_eq_true rfl) (Nat.le_of_ble_eq_true rfl) (sX9_times b hb eb _ _) ?_
        refine q_iload_n rfl rfl ?_
        refine q_icmp_eqN rfl (by have := tmN_le b (nI s - nI 12) (nI (plN (mL A i) m)); omega) (by unfold best; split <;> omega) (fun hckf55 => ?_) (fun hckf55 => ?_)
        · refine q_iload_n rfl rfl ?_
          refine q_iret rfl rfl ?_
          exact ⟨vI (by rw [← hr]; rfl), rfl⟩
        · exact absurd (wy12 hb1 hs hp) (fun ⟨j, hj1, hj2⟩ => by rcases Nat.lt_or_ge j 12 with z | z; rw [hj j z] at hj2; cases hj2; rw [show j = 12 by omega] at hj2; exact absurd (show wyP b s (plN (mL A i) m) 12 = true from decide_eq_true ⟨by rw [wyP_a hs hp (by omega)]; exact hckf34, by rw [wyP_b hs hp (by omega)]; exact hckf55⟩) (by rw [hj2]; decide))
theorem sX9_keepPast {X : XX} {I A : Nat → Nat → Int32} {J B : Nat → Nat → Int64} {F : Nat → Nat} (d : Nat) (hd : d < 40) (ed : A 52 0 = nI d)  : x_ev X xT 1 194 [.ref 51] (HX I A J B F) none (HX I (ua A 52 (kpd (A 52) d)) J B F) := by
  refine q_ev (L := [some (.ref 51), none]) tX9_keepPast (Nat.le_of_ble_eq_true rfl) rfl ?_
  refine q_iconst (v := nI 0) rfl rfl ?_
  refine q_istore_n (L' := [_, _]) rfl rfl ?_
  refine q_up (Inv := fun k L h => L = [some (.ref 51), some (.int (nI k))] ∧ h = HX I (ua A 52 (kpl (A 52) d k)) J B F) (3) (fun k L h hk_k hi_k ih_k => ?_) (fun L h hi_k => ?_) (0) _ _ (by omega) (⟨rfl, by rw [ua_self (A := A) (c := 52) (f := kpl (A 52) d 0) rfl]⟩)
  · obtain ⟨rfl, rfl⟩ := hi_k
    refine q_iload_n rfl rfl ?_
    refine q_iconst (v := nI 3) rfl rfl ?_
    refine q_icmp_geN rfl (by omega) (by omega) (fun hcks4 => ?_) (fun hcks4 => ?_)
    · omega
    · refine q_aload_n rfl rfl ?_
      refine q_getfield rfl hx_51 rfl ?_
      refine q_iconst (v := nI 4) rfl rfl ?_
      refine q_iconst (v := nI 3) rfl rfl ?_
      refine q_aload_n rfl rfl ?_
      refine q_getfield rfl hx_51 rfl ?_
      refine q_iconst (v := nI 0) rfl rfl ?_
      refine q_iald rfl (by decide) hx_52 (by decide) (by decide) ((kpl_ne (by decide)).trans ed) ?_
      refine q_imulN rfl ?_
      refine q_iaddN rfl ?_
      refine q_iload_n rfl rfl ?_
      refine q_iaddN rfl ?_
      refine q_aload_n rfl rfl ?_
      refine q_getfield rfl hx_51 rfl ?_
      refine q_iconst (v := nI 1) rfl rfl ?_
      refine q_iload_n rfl rfl ?_
      refine q_iaddN rfl ?_
      refine q_iald rfl (by decide) hx_52 (by omega) (by decide) (rfl) ?_
      refine q_iastN rfl hx_52 (by omega) (by decide) ?_
      refine q_heap (ha_52 _) ?_
      refine q_iincN (c := 1) (L' := [_, _]) rfl rfl rfl rfl ?_
      refine q_goto rfl ?_
      exact ih_k _ _ (⟨rfl, by rw [ua_ua, ua_eq]; rfl⟩)
  · obtain ⟨rfl, rfl⟩ := hi_k
    refine q_iload_n rfl rfl ?_
    refine q_iconst (v := nI 3) rfl rfl ?_
    refine q_icmp_geN rfl (by omega) (by omega) (fun hckf4 => ?_) (fun hckf4 => ?_)
    · refine q_aload_n rfl rfl ?_
      refine q_getfield rfl hx_51 rfl ?_
      refine q_iconst (v := nI 0) rfl rfl ?_
      refine q_dup2 rfl ?_
      refine q_iald rfl (by decide) hx_52 (by decide) (by decide) ((kpl_ne (by decide)).trans ed) ?_
      refine q_iconst (v := nI 1) rfl rfl ?_
      refine q_iaddN rfl ?_
      refine q_iastN rfl hx_52 (by decide) (by decide) ?_
      refine q_heap (ha_52 _) ?_
      refine q_vret rfl rfl ?_
      exact ⟨rfl, by rw [ua_ua, ua_eq]; rfl⟩
    · omega
theorem sX9_doMoment {X : XX} {I A : Nat → Nat → Int32} {J B : Nat → Nat → Int64} {F : Nat → Nat} (b : Nat) (hb : b ≤ 5) (eb : I 51 1 = nI b) (m : Nat) (em : A 52 1 = nI m) (hm : m ≤ 1000) (s : Nat) (es : A 52 2 = nI s) (hl : mLk A) (ln : Nat) (hln : ln ≤ 5) (eln : I 51 3 = nI ln) (d : Nat) (hd : d < 40) (ed : A 52 0 = nI d)  : x_ev X xT 5 195 [.ref 51] (HX I A J B F) (some (.int (nI (nsum (fun i => gnN b (mL A i) (nI s) m) ln)))) (HX I (ua A 52 (upd (kpd (A 52) d) 1 (nI (m + 1)))) J B F) := by
  refine q_ev (L := [some (.ref 51), none]) tX9_doMoment (Nat.le_of_ble_eq_true rfl) rfl ?_
  refine q_aload_n rfl rfl ?_
  refine q_callV0 rfl hx_51 (Nat.le_of_ble_eq_true rfl) (Nat.le_of_ble_eq_true rfl) (sX9_gotNow b hb eb m em hm s es hl ln hln eln) ?_
  refine q_istore_n (L' := [_, _]) rfl rfl ?_
  refine q_aload_n rfl rfl ?_
  refine q_callV0 rfl hx_51 (Nat.le_of_ble_eq_true rfl) (Nat.le_of_ble_eq_true rfl) (sX9_keepPast d hd ed) ?_
  refine q_aload_n rfl rfl ?_
  refine q_getfield rfl hx_51 rfl ?_
  refine q_iconst (v := nI 1) rfl rfl ?_
  refine q_dup2 rfl ?_
  refine q_iald rfl (by decide) hx_52 (by decide) (by decide) ((show kpd (A 52) d 1 = nI m from (pk_un (by decide)).trans ((kpl_ne (by decide)).trans em))) ?_
  refine q_iconst (v := nI 1) rfl rfl ?_
  refine q_iaddN rfl ?_
  refine q_iastN rfl hx_52 (by decide) (by decide) ?_
  refine q_heap (ha_52 _) ?_
  refine q_iload_n rfl rfl ?_
  refine q_iret rfl rfl ?_
  exact ⟨rfl, by rw [ua_ua, ua_eq]⟩
theorem sX9_effortFrom {X : XX} {I A : Nat → Nat → Int32} {J B : Nat → Nat → Int64} {F : Nat → Nat} (st s j : Nat) (hst : st < 24) (hs : s < 24) (hj : j < 13) (est : I 51 2 = nI st) : x_ev X xT 2 197 [.ref 51, .int (nI s), .int (sI 6 j)] (HX I A J B F) (some (.int (nI (eN st s j)))) (HX I A J B F) := by
  refine q_ev (L := [some (.ref 51), some (.int (nI s)), some (.int (sI 6 j)), none, none, none]) tX9_effortFrom (Nat.le_of_ble_eq_true rfl) rfl ?_
  refine q_iload_n rfl rfl ?_
  refine q_if_ge rfl (fun hc1 => ?_) (fun hc1 => ?_)
  · refine q_iload_n rfl rfl ?_
    refine q_cn (show _ = nI (fr j) from by unfold fr; first | rw [if_pos (sI_b1 hj hc1), sI_ng (by have := sI_b1 hj hc1; omega)] | rw [if_neg (sI_b0 hj hc1), sI_nn (Nat.not_lt.mp (sI_b0 hj hc1))]) ?_
    refine q_istore_n (L' := [_, _, _, _, _, _]) rfl rfl ?_
    refine q_iload_n rfl rfl ?_
    refine q_istore (L' := [_, _, _, _, _, _]) rfl rfl ?_
    refine q_iconst (v := nI 1) rfl rfl ?_
    refine q_istore (L' := [_, _, _, _, _, _]) rfl rfl ?_
    refine q_up (Inv := fun k L h => L = [some (.ref 51), some (.int (nI s)), some (.int (sI 6 j)), some (.int (nI (fr j))), some (.int (nI (ekk st s j k))), some (.int (nI k))] ∧ h = HX I A J B F ∧ 1 ≤ k) (fr j + 1) (fun k L h hk_k hi_k ih_k => ?_) (fun L h hi_k => ?_) (1) _ _ (by omega) (⟨by rw [ekk_1], rfl, Nat.le_refl _⟩)
    · obtain ⟨rfl, rfl, hk1⟩ := hi_k
      have hfr : fr j ≤ 6 := by unfold fr; split <;> omega
      refine q_iload rfl rfl ?_
      refine q_iload_n rfl rfl ?_
      refine q_icmp_gtN rfl (by omega) (by unfold fr; split <;> omega) (fun hcks20 => ?_) (fun hcks20 => ?_)
      · omega
      · refine q_iload rfl rfl ?_
        refine q_iload_n rfl rfl ?_
        refine q_if_ge rfl (fun hcks26 => ?_) (fun hcks26 => ?_)
        · refine q_iload_n rfl rfl ?_
          refine q_iload rfl rfl ?_
          refine q_iaddN rfl ?_
          refine q_callS1 rfl rfl (Nat.le_of_ble_eq_true rfl) (Nat.le_of_ble_eq_true rfl) (sX9_ring _) ?_
          refine q_aload_n rfl rfl ?_
          refine q_getI rfl hx_51 rfl (est) ?_
          refine q_icmp_neN rfl (by have := rdN_lt (nI s - nI k); have := rdN_lt (nI (s + k)); omega) (by omega) (fun hcks47 => ?_) (fun hcks47 => ?_)
          · refine q_iconst (v := nI 0) rfl rfl ?_
            refine q_iaddN rfl ?_
            refine q_istore (L' := [_, _, _, _, _, _]) rfl rfl ?_
            refine q_iincN (c := 1) (L' := [_, _, _, _, _, _]) rfl rfl rfl rfl ?_
            refine q_goto rfl ?_
            exact ih_k _ _ (⟨by rw [ekk_u hst hs hk1 (by omega)]; first | rw [if_pos (sI_b1 hj hcks26), if_pos hcks47] | rw [if_pos (sI_b1 hj hcks26), if_neg hcks47] | rw [if_neg (sI_b0 hj hcks26), if_pos hcks47] | rw [if_neg (sI_b0 hj hcks26), if_neg hcks47], rfl, by omega⟩)
          · refine q_iconst (v := nI 4) rfl rfl ?_
            refine q_goto rfl ?_
            refine q_iaddN rfl ?_
            refine q_istore (L' := [_, _, _, _, _, _]) rfl rfl ?_
            refine q_iincN (c := 1) (L' := [_, _, _, _, _, _]) rfl rfl rfl rfl ?_
            refine q_goto rfl ?_
            exact ih_k _ _ (⟨by rw [ekk_u hst hs hk1 (by omega)]; first | rw [if_pos (sI_b1 hj hcks26), if_pos hcks47] | rw [if_pos (sI_b1 hj hcks26), if_neg hcks47] | rw [if_neg (sI_b0 hj hcks26), if_pos hcks47] | rw [if_neg (sI_b0 hj hcks26), if_neg hcks47], rfl, by omega⟩)
        · refine q_iload_n rfl rfl ?_
          refine q_iload rfl rfl ?_
          refine q_isub rfl ?_
          refine q_goto rfl ?_
          refine q_callS1 rfl rfl (Nat.le_of_ble_eq_true rfl) (Nat.le_of_ble_eq_true rfl) (sX9_ring _) ?_
          refine q_aload_n rfl rfl ?_
          refine q_getI rfl hx_51 rfl (est) ?_
          refine q_icmp_neN rfl (by have := rdN_lt (nI s - nI k); have := rdN_lt (nI (s + k)); omega) (by omega) (fun hcks47 => ?_) (fun hcks47 => ?_)
          · refine q_iconst (v := nI 0) rfl rfl ?_
            refine q_iaddN rfl ?_
            refine q_istore (L' := [_, _, _, _, _, _]) rfl rfl ?_
            refine q_iincN (c := 1) (L' := [_, _, _, _, _, _]) rfl rfl rfl rfl ?_
            refine q_goto rfl ?_
            exact ih_k _ _ (⟨by rw [ekk_u hst hs hk1 (by omega)]; first | rw [if_pos (sI_b1 hj hcks26), if_pos hcks47] | rw [if_pos (sI_b1 hj hcks26), if_neg hcks47] | rw [if_neg (sI_b0 hj hcks26), if_pos hcks47] | rw [if_neg (sI_b0 hj hcks26), if_neg hcks47], rfl, by omega⟩)
          · refine q_iconst (v := nI 4) rfl rfl ?_
            refine q_goto rfl ?_
            refine q_iaddN rfl ?_
            refine q_istore (L' := [_, _, _, _, _, _]) rfl rfl ?_
            refine q_iincN (c := 1) (L' := [_, _, _, _, _, _]) rfl rfl rfl rfl ?_
            refine q_goto rfl ?_
            exact ih_k _ _ (⟨by rw [ekk_u hst hs hk1 (by omega)]; first | rw [if_pos (sI_b1 hj hcks26), if_pos hcks47] | rw [if_pos (sI_b1 hj hcks26), if_neg hcks47] | rw [if_neg (sI_b0 hj hcks26), if_pos hcks47] | rw [if_neg (sI_b0 hj hcks26), if_neg hcks47], rfl, by omega⟩)
    · obtain ⟨rfl, rfl, hk1⟩ := hi_k
      have hfr : fr j ≤ 6 := by unfold fr; split <;> omega
      refine q_iload rfl rfl ?_
      refine q_iload_n rfl rfl ?_
      refine q_icmp_gtN rfl (by omega) (by unfold fr; split <;> omega) (fun hckf20 => ?_) (fun hckf20 => ?_)
      · refine q_iload rfl rfl ?_
        refine q_iret rfl rfl ?_
        exact ⟨vI (by rw [ekk_e]), rfl⟩
      · omega
  · refine q_iload_n rfl rfl ?_
    refine q_ineg rfl ?_
    refine q_goto rfl ?_
    refine q_cn (show _ = nI (fr j) from by unfold fr; first | rw [if_pos (sI_b1 hj hc1), sI_ng (by have := sI_b1 hj hc1; omega)] | rw [if_neg (sI_b0 hj hc1), sI_nn (Nat.not_lt.mp (sI_b0 hj hc1))]) ?_
    refine q_istore_n (L' := [_, _, _, _, _, _]) rfl rfl ?_
    refine q_iload_n rfl rfl ?_
    refine q_istore (L' := [_, _, _, _, _, _]) rfl rfl ?_
    refine q_iconst (v := nI 1) rfl rfl ?_
    refine q_istore (L' := [_, _, _, _, _, _]) rfl rfl ?_
    refine q_up (Inv := fun k L h => L = [some (.ref 51), some (.int (nI s)), some (.int (sI 6 j)), some (.int (nI (fr j))), some (.int (nI (ekk st s j k))), some (.int (nI k))] ∧ h = HX I A J B F ∧ 1 ≤ k) (fr j + 1) (fun k L h hk_k hi_k ih_k => ?_) (fun L h hi_k => ?_) (1) _ _ (by omega) (⟨by rw [ekk_1], rfl, Nat.le_refl _⟩)
    · obtain ⟨rfl, rfl, hk1⟩ := hi_k
      have hfr : fr j ≤ 6 := by unfold fr; split <;> omega
      refine q_iload rfl rfl ?_
      refine q_iload_n rfl rfl ?_
      refine q_icmp_gtN rfl (by omega) (by unfold fr; split <;> omega) (fun hcks20 => ?_) (fun hcks20 => ?_)
      · omega
      · refine q_iload rfl rfl ?_
        refine q_iload_n rfl rfl ?_
        refine q_if_ge rfl (fun hcks26 => ?_) (fun hcks26 => ?_)
        · refine q_iload_n rfl rfl ?_
          refine q_iload rfl rfl ?_
          refine q_iaddN rfl ?_
          refine q_callS1 rfl rfl (Nat.le_of_ble_eq_true rfl) (Nat.le_of_ble_eq_true rfl) (sX9_ring _) ?_
          refine q_aload_n rfl rfl ?_
          refine q_getI rfl hx_51 rfl (est) ?_
          refine q_icmp_neN rfl (by have := rdN_lt (nI s - nI k); have := rdN_lt (nI (s + k)); omega) (by omega) (fun hcks47 => ?_) (fun hcks47 => ?_)
          · refine q_iconst (v := nI 0) rfl rfl ?_
            refine q_iaddN rfl ?_
            refine q_istore (L' := [_, _, _, _, _, _]) rfl rfl ?_
            refine q_iincN (c := 1) (L' := [_, _, _, _, _, _]) rfl rfl rfl rfl ?_
            refine q_goto rfl ?_
            exact ih_k _ _ (⟨by rw [ekk_u hst hs hk1 (by omega)]; first | rw [if_pos (sI_b1 hj hcks26), if_pos hcks47] | rw [if_pos (sI_b1 hj hcks26), if_neg hcks47] | rw [if_neg (sI_b0 hj hcks26), if_pos hcks47] | rw [if_neg (sI_b0 hj hcks26), if_neg hcks47], rfl, by omega⟩)
          · refine q_iconst (v := nI 4) rfl rfl ?_
            refine q_goto rfl ?_
            refine q_iaddN rfl ?_
            refine q_istore (L' := [_, _, _, _, _, _]) rfl rfl ?_
            refine q_iincN (c := 1) (L' := [_, _, _, _, _, _]) rfl rfl rfl rfl ?_
            refine q_goto rfl ?_
            exact ih_k _ _ (⟨by rw [ekk_u hst hs hk1 (by omega)]; first | rw [if_pos (sI_b1 hj hcks26), if_pos hcks47] | rw [if_pos (sI_b1 hj hcks26), if_neg hcks47] | rw [if_neg (sI_b0 hj hcks26), if_pos hcks47] | rw [if_neg (sI_b0 hj hcks26), if_neg hcks47], rfl, by omega⟩)
        · refine q_iload_n rfl rfl ?_
          refine q_iload rfl rfl ?_
          refine q_isub rfl ?_
          refine q_goto rfl ?_
          refine q_callS1 rfl rfl (Nat.le_of_ble_eq_true rfl) (Nat.le_of_ble_eq_true rfl) (sX9_ring _) ?_
          refine q_aload_n rfl rfl ?_
          refine q_getI rfl hx_51 rfl (est) ?_
          refine q_icmp_neN rfl (by have := rdN_lt (nI s - nI k); have := rdN_lt (nI (s + k)); omega) (by omega) (fun hcks47 => ?_) (fun hcks47 => ?_)
          · refine q_iconst (v := nI 0) rfl rfl ?_
            refine q_iaddN rfl ?_
            refine q_istore (L' := [_, _, _, _, _, _]) rfl rfl ?_
            refine q_iincN (c := 1) (L' := [_, _, _, _, _, _]) rfl rfl rfl rfl ?_
            refine q_goto rfl ?_
            exact ih_k _ _ (⟨by rw [ekk_u hst hs hk1 (by omega)]; first | rw [if_pos (sI_b1 hj hcks26), if_pos hcks47] | rw [if_pos (sI_b1 hj hcks26), if_neg hcks47] | rw [if_neg (sI_b0 hj hcks26), if_pos hcks47] | rw [if_neg (sI_b0 hj hcks26), if_neg hcks47], rfl, by omega⟩)
          · refine q_iconst (v := nI 4) rfl rfl ?_
            refine q_goto rfl ?_
            refine q_iaddN rfl ?_
            refine q_istore (L' := [_, _, _, _, _, _]) rfl rfl ?_
            refine q_iincN (c := 1) (L' := [_, _, _, _, _, _]) rfl rfl rfl rfl ?_
            refine q_goto rfl ?_
            exact ih_k _ _ (⟨by rw [ekk_u hst hs hk1 (by omega)]; first | rw [if_pos (sI_b1 hj hcks26), if_pos hcks47] | rw [if_pos (sI_b1 hj hcks26), if_neg hcks47] | rw [if_neg (sI_b0 hj hcks26), if_pos hcks47] | rw [if_neg (sI_b0 hj hcks26), if_neg hcks47], rfl, by omega⟩)
    · obtain ⟨rfl, rfl, hk1⟩ := hi_k
      have hfr : fr j ≤ 6 := by unfold fr; split <;> omega
      refine q_iload rfl rfl ?_
      refine q_iload_n rfl rfl ?_
      refine q_icmp_gtN rfl (by omega) (by unfold fr; split <;> omega) (fun hckf20 => ?_) (fun hckf20 => ?_)
      · refine q_iload rfl rfl ?_
        refine q_iret rfl rfl ?_
        exact ⟨vI (by rw [ekk_e]), rfl⟩
      · omega
theorem sX9_doTurn {X : XX} {I A : Nat → Nat → Int32} {J B : Nat → Nat → Int64} {F : Nat → Nat} (st s j : Nat) (hst : st < 24) (hs : s < 24) (hj : j < 13) (est : I 51 2 = nI st) (es : A 52 2 = nI s) (d : Nat) (hd : d < 40) (ed : A 52 0 = nI d)  : x_ev X xT 3 198 [.ref 51, .int (sI 6 j)] (HX I A J B F) (some (.int (nI (eN st s j)))) (HX I (ua A 52 (upd (upd (kpd (A 52) d) 2 (nI (rdN (nI s + sI 6 j)))) 3 (A 52 3 + nI (eN st s j)))) J B F) := by
  refine q_ev (L := [some (.ref 51), some (.int (sI 6 j)), none]) tX9_doTurn (Nat.le_of_ble_eq_true rfl) rfl ?_
  refine q_aload_n rfl rfl ?_
  refine q_aload_n rfl rfl ?_
  refine q_getfield rfl hx_51 rfl ?_
  refine q_iconst (v := nI 2) rfl rfl ?_
  refine q_iald rfl (by decide) hx_52 (by decide) (by decide) (es) ?_
  refine q_iload_n rfl rfl ?_
  refine q_callV2 rfl hx_51 (Nat.le_of_ble_eq_true rfl) (Nat.le_of_ble_eq_true rfl) (sX9_effortFrom st s j hst hs hj est) ?_
  refine q_istore_n (L' := [_, _, _]) rfl rfl ?_
  refine q_aload_n rfl rfl ?_
  refine q_callV0 rfl hx_51 (Nat.le_of_ble_eq_true rfl) (Nat.le_of_ble_eq_true rfl) (sX9_keepPast d hd ed) ?_
  refine q_aload_n rfl rfl ?_
  refine q_getfield rfl hx_51 rfl ?_
  refine q_iconst (v := nI 2) rfl rfl ?_
  refine q_aload_n rfl rfl ?_
  refine q_getfield rfl hx_51 rfl ?_
  refine q_iconst (v := nI 2) rfl rfl ?_
  refine q_iald rfl (by decide) hx_52 (by decide) (by decide) ((show kpd (A 52) d 2 = nI s from (pk_un (by decide)).trans ((kpl_ne (by decide)).trans es))) ?_
  refine q_iload_n rfl rfl ?_
  refine q_iadd rfl ?_
  refine q_callS1 rfl rfl (Nat.le_of_ble_eq_true rfl) (Nat.le_of_ble_eq_true rfl) (sX9_ring _) ?_
  refine q_iastN rfl hx_52 (by decide) (by decide) ?_
  refine q_heap (ha_52 _) ?_
  rw [ua_ua, ua_eq]
  refine q_aload_n rfl rfl ?_
  refine q_getfield rfl hx_51 rfl ?_
  refine q_iconst (v := nI 3) rfl rfl ?_
  refine q_dup2 rfl ?_
  refine q_iald rfl (by decide) hx_52 (by decide) (by decide) ((show upd (kpd (A 52) d) 2 (nI (rdN (nI s + sI 6 j))) 3 = A 52 3 from (pk_un (by decide)).trans ((pk_un (by decide)).trans (kpl_ne (by decide))))) ?_
  refine q_iload_n rfl rfl ?_
  refine q_iadd rfl ?_
  refine q_iastN rfl hx_52 (by decide) (by decide) ?_
  refine q_heap (ha_52 _) ?_
  refine q_iload_n rfl rfl ?_
  refine q_iret rfl rfl ?_
  exact ⟨rfl, by rw [ua_ua, ua_eq]⟩
theorem m_undo_bad {X : XX} {I A : Nat → Nat → Int32} {J B : Nat → Nat → Int64} {F : Nat → Nat} (d : Nat) (x : Int32) (ed : A 52 0 = nI d) (hx : x < 0 ∨ nI d < x) : x_ev X xT 2 200 [.ref 51, .int x] (HX I A J B F) (some (.int (-1))) (HX I A J B F) := by
  refine q_ev (L := [some (.ref 51), some (.int x), none, none]) tX9_undo (Nat.le_of_ble_eq_true rfl) rfl ?_
  refine q_iload_n rfl rfl ?_
  refine q_i2l rfl ?_
  refine q_lconst (v := 0) rfl rfl ?_
  refine q_aload_n rfl rfl ?_
  refine q_getfield rfl hx_51 rfl ?_
  refine q_iconst (v := nI 0) rfl rfl ?_
  refine q_iald rfl (by decide) hx_52 (by decide) (by decide) (ed) ?_
  refine q_i2l rfl ?_
  refine q_callS3 rfl rfl (Nat.le_of_ble_eq_true rfl) (Nat.le_of_ble_eq_true rfl) (sX9_in _ _ _) ?_
  refine q_cn (f_in_0 (lo := 0) rfl rfl hx) ?_
  refine q_if_neN rfl (by omega) (fun hc13 => ?_) (fun hc13 => ?_)
  · exact absurd hc13 (by decide)
  · refine q_iconst (v := (-1)) rfl rfl ?_
    refine q_iret rfl rfl ?_
    exact ⟨rfl, rfl⟩
theorem m_undo_0 {X : XX} {I A : Nat → Nat → Int32} {J B : Nat → Nat → Int64} {F : Nat → Nat} (d n : Nat) (hd : d ≤ 40) (ed : A 52 0 = nI d) (hn : n = d) : x_ev X xT 2 200 [.ref 51, .int (nI n)] (HX I A J B F) (some (.int (nI 0))) (HX I (ua A 52 (upd (A 52) 0 (nI n))) J B F) := by
  refine q_ev (L := [some (.ref 51), some (.int (nI n)), none, none]) tX9_undo (Nat.le_of_ble_eq_true rfl) rfl ?_
  refine q_iload_n rfl rfl ?_
  refine q_i2l rfl ?_
  refine q_lconst (v := 0) rfl rfl ?_
  refine q_aload_n rfl rfl ?_
  refine q_getfield rfl hx_51 rfl ?_
  refine q_iconst (v := nI 0) rfl rfl ?_
  refine q_iald rfl (by decide) hx_52 (by decide) (by decide) (ed) ?_
  refine q_i2l rfl ?_
  refine q_callS3 rfl rfl (Nat.le_of_ble_eq_true rfl) (Nat.le_of_ble_eq_true rfl) (sX9_in _ _ _) ?_
  refine q_cn (f_in_1 (lo := nI 0) rfl rfl (nI_pos (by omega)) (nI_nlt (by omega) (by omega))) ?_
  refine q_if_neN rfl (by omega) (fun hc13 => ?_) (fun hc13 => ?_)
  · refine q_aload_n rfl rfl ?_
    refine q_getfield rfl hx_51 rfl ?_
    refine q_iconst (v := nI 0) rfl rfl ?_
    refine q_iald rfl (by decide) hx_52 (by decide) (by decide) (ed) ?_
    refine q_iload_n rfl rfl ?_
    refine q_isubN rfl (by omega) ?_
    refine q_istore_n (L' := [_, _, _, _]) rfl rfl ?_
    refine q_iconst (v := nI 0) rfl rfl ?_
    refine q_istore_n (L' := [_, _, _, _]) rfl rfl ?_
    rw [show d - n = 0 by omega]
    refine q_iload_n rfl rfl ?_
    refine q_iconst (v := nI 3) rfl rfl ?_
    refine q_icmp_geN rfl (by omega) (by omega) (fun hc31 => ?_) (fun hc31 => ?_)
    · exact absurd hc31 (by decide)
    · refine q_iload_n rfl rfl ?_
      refine q_if_leN rfl (by omega) (fun hc35 => ?_) (fun hc35 => ?_)
      · refine q_aload_n rfl rfl ?_
        refine q_getfield rfl hx_51 rfl ?_
        refine q_iconst (v := nI 0) rfl rfl ?_
        refine q_iload_n rfl rfl ?_
        refine q_iastN rfl hx_52 (by decide) (by decide) ?_
        refine q_heap (ha_52 _) ?_
        refine q_iload_n rfl rfl ?_
        refine q_iret rfl rfl ?_
        exact ⟨rfl, rfl⟩
      · omega
  · exact absurd hc13 (by decide)
theorem m_undo_1 {X : XX} {I A : Nat → Nat → Int32} {J B : Nat → Nat → Int64} {F : Nat → Nat} (d n : Nat) (hd : d ≤ 40) (ed : A 52 0 = nI d) (hn : n < d) : x_ev X xT 2 200 [.ref 51, .int (nI n)] (HX I A J B F) (some (.int (nI (d - n)))) (HX I (ua A 52 (upd (unl (A 52) n 3) 0 (nI n))) J B F) := by
  refine q_ev (L := [some (.ref 51), some (.int (nI n)), none, none]) tX9_undo (Nat.le_of_ble_eq_true rfl) rfl ?_
  refine q_iload_n rfl rfl ?_
  refine q_i2l rfl ?_
  refine q_lconst (v := 0) rfl rfl ?_
  refine q_aload_n rfl rfl ?_
  refine q_getfield rfl hx_51 rfl ?_
  refine q_iconst (v := nI 0) rfl rfl ?_
  refine q_iald rfl (by decide) hx_52 (by decide) (by decide) (ed) ?_
  refine q_i2l rfl ?_
  refine q_callS3 rfl rfl (Nat.le_of_ble_eq_true rfl) (Nat.le_of_ble_eq_true rfl) (sX9_in _ _ _) ?_
  refine q_cn (f_in_1 (lo := nI 0) rfl rfl (nI_pos (by omega)) (nI_nlt (by omega) (by omega))) ?_
  refine q_if_neN rfl (by omega) (fun hc13 => ?_) (fun hc13 => ?_)
  · refine q_aload_n rfl rfl ?_
    refine q_getfield rfl hx_51 rfl ?_
    refine q_iconst (v := nI 0) rfl rfl ?_
    refine q_iald rfl (by decide) hx_52 (by decide) (by decide) (ed) ?_
    refine q_iload_n rfl rfl ?_
    refine q_isubN rfl (by omega) ?_
    refine q_istore_n (L' := [_, _, _, _]) rfl rfl ?_
    refine q_iconst (v := nI 0) rfl rfl ?_
    refine q_istore_n (L' := [_, _, _, _]) rfl rfl ?_
    refine q_up (Inv := fun k L h => L = [some (.ref 51), some (.int (nI n)), some (.int (nI (d - n))), some (.int (nI k))] ∧ h = HX I (ua A 52 (unl (A 52) n k)) J B F) (3) (fun k L h hk_k hi_k ih_k => ?_) (fun L h hi_k => ?_) (0) _ _ (by omega) (⟨rfl, by rw [ua_self (A := A) (c := 52) (f := unl (A 52) n 0) rfl]⟩)
    · obtain ⟨rfl, rfl⟩ := hi_k
      refine q_iload_n rfl rfl ?_
      refine q_iconst (v := nI 3) rfl rfl ?_
      refine q_icmp_geN rfl (by omega) (by omega) (fun hcks31 => ?_) (fun hcks31 => ?_)
      · omega
      · refine q_iload_n rfl rfl ?_
        refine q_if_leN rfl (by omega) (fun hcks35 => ?_) (fun hcks35 => ?_)
        · omega
        · refine q_aload_n rfl rfl ?_
          refine q_getfield rfl hx_51 rfl ?_
          refine q_iconst (v := nI 1) rfl rfl ?_
          refine q_iload_n rfl rfl ?_
          refine q_iaddN rfl ?_
          refine q_aload_n rfl rfl ?_
          refine q_getfield rfl hx_51 rfl ?_
          refine q_iconst (v := nI 4) rfl rfl ?_
          refine q_iconst (v := nI 3) rfl rfl ?_
          refine q_iload_n rfl rfl ?_
          refine q_imulN rfl ?_
          refine q_iaddN rfl ?_
          refine q_iload_n rfl rfl ?_
          refine q_iaddN rfl ?_
          refine q_iald rfl (by decide) hx_52 (by omega) (by decide) (rfl) ?_
          refine q_iastN rfl hx_52 (by omega) (by decide) ?_
          refine q_heap (ha_52 _) ?_
          refine q_iincN (c := 1) (L' := [_, _, _, _]) rfl rfl rfl rfl ?_
          refine q_goto rfl ?_
          exact ih_k _ _ (⟨rfl, by rw [ua_ua, ua_eq]; rfl⟩)
    · obtain ⟨rfl, rfl⟩ := hi_k
      refine q_iload_n rfl rfl ?_
      refine q_iconst (v := nI 3) rfl rfl ?_
      refine q_icmp_geN rfl (by omega) (by omega) (fun hckf31 => ?_) (fun hckf31 => ?_)
      · refine q_aload_n rfl rfl ?_
        refine q_getfield rfl hx_51 rfl ?_
        refine q_iconst (v := nI 0) rfl rfl ?_
        refine q_iload_n rfl rfl ?_
        refine q_iastN rfl hx_52 (by decide) (by decide) ?_
        refine q_heap (ha_52 _) ?_
        refine q_iload_n rfl rfl ?_
        refine q_iret rfl rfl ?_
        exact ⟨rfl, by rw [ua_ua, ua_eq]⟩
      · omega
  · exact absurd hc13 (by decide)
theorem sX9_copyDome {X : XX} {I A : Nat → Nat → Int32} {J B : Nat → Nat → Int64} {F : Nat → Nat} (a c : Nat) (h : a + 124 ≤ c ∨ c + 124 ≤ a) (ha : a + 124 ≤ 496) (hc : c + 124 ≤ 496) : x_ev X xT 1 201 [.ref 51, .int (nI a), .int (nI c)] (HX I A J B F) none (HX I (ua A 52 (va_cpy (A 52) (A 52) a c 124)) J B F) := by
  refine q_ev (L := [some (.ref 51), some (.int (nI a)), some (.int (nI c)), none]) tX9_copyDome (Nat.le_of_ble_eq_true rfl) rfl ?_
  refine q_iconst (v := nI 0) rfl rfl ?_
  refine q_istore_n (L' := [_, _, _, _]) rfl rfl ?_
  refine q_up (Inv := fun k L h => L = [some (.ref 51), some (.int (nI a)), some (.int (nI c)), some (.int (nI k))] ∧ h = HX I (ua A 52 (f_mf (A 52) a c k)) J B F) (124) (fun k L h hk_k hi_k ih_k => ?_) (fun L h hi_k => ?_) (0) _ _ (by omega) (⟨rfl, by rw [f_mf_0, ua_self rfl]⟩)
  · obtain ⟨rfl, rfl⟩ := hi_k
    refine q_iload_n rfl rfl ?_
    refine q_bipush (v := nI 124) rfl rfl ?_
    refine q_icmp_geN rfl (by omega) (by omega) (fun hcks5 => ?_) (fun hcks5 => ?_)
    · omega
    · refine q_aload_n rfl rfl ?_
      refine q_getfield rfl hx_51 rfl ?_
      refine q_iload_n rfl rfl ?_
      refine q_iload_n rfl rfl ?_
      refine q_iaddN rfl ?_
      refine q_aload_n rfl rfl ?_
      refine q_getfield rfl hx_51 rfl ?_
      refine q_iload_n rfl rfl ?_
      refine q_iload_n rfl rfl ?_
      refine q_iaddN rfl ?_
      refine q_iald rfl (by decide) hx_52 (by omega) (by decide) (rfl) ?_
      refine q_iastN rfl hx_52 (by omega) (by decide) ?_
      refine q_heap (ha_52 _) ?_
      refine q_iincN (c := 1) (L' := [_, _, _, _]) rfl rfl rfl rfl ?_
      refine q_goto rfl ?_
      exact ih_k _ _ (⟨rfl, by rw [ua_ua, ua_eq, f_mf_u _ _ _ _ (by omega)]⟩)
  · obtain ⟨rfl, rfl⟩ := hi_k
    rw [f_mf_cpy]
    refine q_iload_n rfl rfl ?_
    refine q_bipush (v := nI 124) rfl rfl ?_
    refine q_icmp_geN rfl (by omega) (by omega) (fun hckf5 => ?_) (fun hckf5 => ?_)
    · refine q_vret rfl rfl ?_
      exact ⟨rfl, rfl⟩
    · omega
theorem sX9_over {X : XX} {I A : Nat → Nat → Int32} {J B : Nat → Nat → Int64} {F : Nat → Nat} (b : Nat) (hb : b ≤ 5) (eb : I 51 1 = nI b) (m : Nat) (em : A 52 1 = nI m) (hm : m ≤ 1000) (i : Nat) (hi : i < 5) (hl : mLk A) (f : Nat) : x_ev X xT 3 209 [.ref 51, .int (nI i), .int (nI f)] (HX I A J B F) (some (.int (nI (lrun (ovP b (mL A i) m f) 100 0)))) (HX I A J B F) := by
  refine q_ev (L := [some (.ref 51), some (.int (nI i)), some (.int (nI f)), none]) tX9_over (Nat.le_of_ble_eq_true rfl) rfl ?_
  refine q_iconst (v := nI 0) rfl rfl ?_
  refine q_istore_n (L' := [_, _, _, _]) rfl rfl ?_
  refine q_up (Inv := fun k L h => L = [some (.ref 51), some (.int (nI i)), some (.int (nI f)), some (.int (nI k))] ∧ h = HX I A J B F ∧ lrun (ovP b (mL A i) m f) (100 - k) k = lrun (ovP b (mL A i) m f) 100 0) (100) (fun k L h hk_k hi_k ih_k => ?_) (fun L h hi_k => ?_) (0) _ _ (by omega) (⟨rfl, rfl, rfl⟩)
  · obtain ⟨rfl, rfl, hr⟩ := hi_k
    refine q_iload_n rfl rfl ?_
    refine q_bipush (v := nI 100) rfl rfl ?_
    refine q_icmp_geN rfl (by omega) (by omega) (fun hcks5 => ?_) (fun hcks5 => ?_)
    · omega
    · refine q_aload_n rfl rfl ?_
      refine q_aload_n rfl rfl ?_
      refine q_iload_n rfl rfl ?_
      refine q_aload_n rfl rfl ?_
      refine q_getfield rfl hx_51 rfl ?_
      refine q_iconst (v := nI 1) rfl rfl ?_
      refine q_iald rfl (by decide) hx_52 (by decide) (by decide) (em) ?_
      refine q_iload_n rfl rfl ?_
      refine q_iaddN rfl ?_
      refine q_callV2 rfl hx_51 (Nat.le_of_ble_eq_true rfl) (Nat.le_of_ble_eq_true rfl) (sX9_placeAt i hi hl _) ?_
      refine q_iload_n rfl rfl ?_
      refine q_callV2 rfl hx_51 (Nat.le_of_ble_eq_true rfl) (Nat.le_of_ble_eq_true rfl) (sX9_times b hb eb _ _) ?_
      refine q_if_leN rfl (by have := tmN_le b (nI f) (nI (plN (mL A i) (m + k))); omega) (fun hcks26 => ?_) (fun hcks26 => ?_)
      · refine q_iload_n rfl rfl ?_
        refine q_iret rfl rfl ?_
        exact ⟨vI (by rw [← hr, lrun_f (decide_eq_false (by omega))]), rfl⟩
      · refine q_iincN (c := 1) (L' := [_, _, _, _]) rfl rfl rfl rfl ?_
        refine q_goto rfl ?_
        exact ih_k _ _ (⟨rfl, rfl, by rw [← hr, ← lrun_t hk_k (decide_eq_true (by omega))]⟩)
  · obtain ⟨rfl, rfl, hr⟩ := hi_k
    refine q_iload_n rfl rfl ?_
    refine q_bipush (v := nI 100) rfl rfl ?_
    refine q_icmp_geN rfl (by omega) (by omega) (fun hckf5 => ?_) (fun hckf5 => ?_)
    · refine q_iload_n rfl rfl ?_
      refine q_iret rfl rfl ?_
      exact ⟨vI (by rw [← hr]; rfl), rfl⟩
    · omega
