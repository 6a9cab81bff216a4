/-! the small language: what a text says (pure), and the class's reader -/
def pz_F (tx : Nat → Int32) (n lo hi p : Nat) : Nat := if p < n ∧ nI (48 + lo) ≤ tx p ∧ tx p ≤ nI (48 + hi) then 1 else 0
def pz_d (tx : Nat → Int32) (p : Nat) : Nat := tn (tx p) - 48
def pz_k (x : Int32) : Nat := if x = 115 then 0 else if x = 108 then 1 else if x = 104 then 2 else if x = 118 then 3 else if x = 112 then 4 else if x = 102 then 5 else 6
def pz_K (tx : Nat → Int32) (n p : Nat) : Nat := if p < n ∧ pz_k (tx p) < 6 then 1 else 0
def pz_O (tx : Nat → Int32) (n p : Nat) : Nat := if p < n ∧ tx p = 111 then 1 else 0
def pz_h (tx : Nat → Int32) (p : Nat) : Nat := if pz_d tx p = 2 then 3 else 9
def pz_hf (tx : Nat → Int32) (n p : Nat) : Nat := if pz_O tx n p = 1 then (if pz_F tx n 1 5 (p + 1) = 1 then (if pz_F tx n 0 2 (p + 2) = 1 then (if pz_F tx n 0 (pz_h tx (p + 2)) (p + 3) = 1 then 4 else 3) else 2) else 1) else 0
def pz_lf (tx : Nat → Int32) (n p : Nat) : Nat := if pz_K tx n p = 1 then (if pz_F tx n 0 2 (p + 1) = 1 then (if pz_F tx n 0 (pz_h tx (p + 1)) (p + 2) = 1 then (if pz_F tx n 0 5 (p + 3) = 1 then (if pz_F tx n 1 9 (p + 4) = 1 then 5 else 4) else 3) else 2) else 1) else 0
def pz_s (tx : Nat → Int32) (n p : Nat) : Nat := lrun (fun q => decide (tx q = 32)) (n - p) p
def pz_g (tx : Nat → Int32) (p k : Nat) (g : Nat → Int32) : Nat → Int32 := upd (upd (upd (upd g (4 * k) (nI (pz_k (tx p)))) (4 * k + 1) (nI (10 * pz_d tx (p + 1) + pz_d tx (p + 2)))) (4 * k + 2) (sI 2 (pz_d tx (p + 3)))) (4 * k + 3) (nI (pz_d tx (p + 4)))
def pz_l (tx : Nat → Int32) (n : Nat) : Nat → Nat → Nat → (Nat → Int32) → Nat ⊕ (Nat × (Nat → Int32))
  | 0, k, p, g => if p < n then .inl p else .inr (k, g)
  | r + 1, k, p, g => if k ≠ 0 ∧ ¬ p < n then .inr (k, g) else if pz_lf tx n p = 5 then pz_l tx n r (k + 1) (pz_s tx n (p + 5)) (pz_g tx p k g) else .inl (p + pz_lf tx n p)
/-! the class's flag and place -/
def pz_b (b f : Nat) : Nat := if b = 0 ∧ f = 1 then 0 else 1
def pz_p (p b f : Nat) : Nat := if b = 0 ∧ f = 1 then p + 1 else p
def pz_R (I : Nat → Nat → Int32) (p b : Nat) : Nat → Nat → Int32 := u2 (u2 I 3 5 (nI b)) 3 4 (nI p)
def pz_c (tx : Nat → Int32) (n p : Nat) : Int32 := if p < n then tx p else 0
def pz_v (tx : Nat → Int32) (n p : Nat) : Int32 := pz_c tx n p - nI 48
def pz_H (tx : Nat → Int32) (n p : Nat) : Nat := if pz_v tx n p = nI 2 then 3 else 9
theorem pz_b_le (b f : Nat) : pz_b b f ≤ 1 := by
  unfold pz_b
  split <;> decide
theorem pz_F_le (tx : Nat → Int32) (n lo hi p : Nat) : pz_F tx n lo hi p ≤ 1 := by
  unfold pz_F
  split <;> decide
theorem pz_K_le (tx : Nat → Int32) (n p : Nat) : pz_K tx n p ≤ 1 := by
  unfold pz_K
  split <;> decide
theorem pz_O_le (tx : Nat → Int32) (n p : Nat) : pz_O tx n p ≤ 1 := by
  unfold pz_O
  split <;> decide
theorem pz_H_le (tx : Nat → Int32) (n p : Nat) : pz_H tx n p ≤ 9 := by
  unfold pz_H
  split <;> decide
theorem pz_1 {p b f : Nat} (h : b = 0) (hf : f = 1) : pz_b b f = 0 ∧ pz_p p b f = p + 1 := ⟨if_pos ⟨h, hf⟩, if_pos ⟨h, hf⟩⟩
theorem pz_2 {p b f : Nat} (h : ¬ b = 0) : pz_b b f = 1 ∧ pz_p p b f = p := ⟨if_neg (fun z => h z.1), if_neg (fun z => h z.1)⟩
theorem pz_3 {p b f : Nat} (h : ¬ f = 1) : pz_b b f = 1 ∧ pz_p p b f = p := ⟨if_neg (fun z => h z.2), if_neg (fun z => h z.2)⟩
theorem pz_p_le {p b f n : Nat} (h : p < n ∨ ¬ f = 1) (hp : p ≤ n) : pz_p p b f ≤ n := by
  unfold pz_p
  split <;> omega
theorem pz_RR {I : Nat → Nat → Int32} {p b p' b' : Nat} : u2 (u2 (pz_R I p b) 3 5 (nI b')) 3 4 (nI p') = pz_R I p' b' := by
  funext c k
  unfold pz_R u2
  by_cases h4 : c = 3 ∧ k = 4
  · rw [if_pos h4, if_pos h4]
  · repeat rw [if_neg h4]
    by_cases h5 : c = 3 ∧ k = 5
    · repeat rw [if_pos h5]
    · repeat rw [if_neg h5]
      repeat rw [if_neg h4]
      repeat rw [if_neg h5]
theorem pz_R_n {I : Nat → Nat → Int32} {p b c k : Nat} (h : c ≠ 3) : pz_R I p b c k = I c k := by
  unfold pz_R u2
  rw [if_neg (by omega), if_neg (by omega)]
theorem pz_RU {I : Nat → Nat → Int32} {p b c k : Nat} {v : Int32} (h : c ≠ 3 ∨ (k ≠ 4 ∧ k ≠ 5)) : u2 (pz_R I p b) c k v = pz_R (u2 I c k v) p b := by
  funext x y
  unfold pz_R u2
  by_cases h1 : x = c ∧ y = k
  · rw [if_pos h1, if_neg (by omega), if_neg (by omega), if_pos h1]
  · repeat rw [if_neg h1]
theorem pz_R0 {I : Nat → Nat → Int32} : u2 (u2 (u2 I 3 4 (nI 0)) 3 5 (nI 0)) 3 3 (nI 0) = pz_R (u2 I 3 3 (nI 0)) 0 0 := by
  funext x y
  unfold pz_R u2
  by_cases h1 : x = 3 ∧ y = 3
  · rw [if_pos h1, if_neg (by omega), if_neg (by omega), if_pos h1]
  · rw [if_neg h1]
    by_cases h5 : x = 3 ∧ y = 5
    · rw [if_pos h5, if_neg (by omega), if_pos h5]
    · rw [if_neg h5]
      by_cases h4 : x = 3 ∧ y = 4
      · rw [if_pos h4, if_pos h4]
      · rw [if_neg h4, if_neg h4, if_neg h5, if_neg h1]
theorem pz_vi {c : Int32} (h : byOK c) : (c - nI 48).toInt = c.toInt - 48 := by
  rw [Int32.toInt_sub, nI_toInt (by decide), f_small (by have := h.1; omega) (by have := h.2; omega)]
  rfl
theorem pz_cb {tx : Nat → Int32} {n p : Nat} (hn : n ≤ 60) (hb : ∀ k, k < 60 → byOK (tx k)) : byOK (pz_c tx n p) := by
  unfold pz_c
  split
  · exact hb p (by omega)
  · exact ⟨by decide, by decide⟩
theorem pz_F1 {tx : Nat → Int32} {n lo hi p : Nat} (hl : lo ≤ 9) (hh : hi ≤ 9) (hb : byOK (pz_c tx n p)) (h1 : p < n) (h2 : ¬ pz_v tx n p < nI lo) (h3 : ¬ nI hi < pz_v tx n p) : nI 1 = nI (pz_F tx n lo hi p) := by
  unfold pz_v at h2 h3
  rw [Int32.lt_iff_toInt_lt, pz_vi hb, nI_toInt (by omega)] at h2 h3
  rw [show pz_c tx n p = tx p from if_pos h1] at h2 h3
  unfold pz_F
  rw [if_pos ⟨h1, by rw [Int32.le_iff_toInt_le, nI_toInt (by omega)]; omega, by rw [Int32.le_iff_toInt_le, nI_toInt (by omega)]; omega⟩]
theorem pz_F2 {tx : Nat → Int32} {n lo hi p : Nat} (h1 : n ≤ p) : nI 0 = nI (pz_F tx n lo hi p) := by
  unfold pz_F
  rw [if_neg (fun z => by omega)]
theorem pz_F3 {tx : Nat → Int32} {n lo hi p : Nat} (hl : lo ≤ 9) (hb : byOK (pz_c tx n p)) (h2 : pz_v tx n p < nI lo) : nI 0 = nI (pz_F tx n lo hi p) := by
  unfold pz_F
  rw [if_neg]
  intro z
  unfold pz_v at h2
  rw [Int32.lt_iff_toInt_lt, pz_vi hb, nI_toInt (by omega), show pz_c tx n p = tx p from if_pos z.1] at h2
  have h4 := z.2.1
  rw [Int32.le_iff_toInt_le, nI_toInt (by omega)] at h4
  omega
theorem pz_F4 {tx : Nat → Int32} {n lo hi p : Nat} (hh : hi ≤ 9) (hb : byOK (pz_c tx n p)) (h2 : nI hi < pz_v tx n p) : nI 0 = nI (pz_F tx n lo hi p) := by
  unfold pz_F
  rw [if_neg]
  intro z
  unfold pz_v at h2
  rw [Int32.lt_iff_toInt_lt, pz_vi hb, nI_toInt (by omega), show pz_c tx n p = tx p from if_pos z.1] at h2
  have h4 := z.2.2
  rw [Int32.le_iff_toInt_le, nI_toInt (by omega)] at h4
  omega
theorem pz_dig {tx : Nat → Int32} {n lo hi p : Nat} (hl : lo ≤ 9) (hh : hi ≤ 9) (h : pz_F tx n lo hi p = 1) : p < n ∧ lo ≤ pz_d tx p ∧ pz_d tx p ≤ hi ∧ tx p = nI (48 + pz_d tx p) ∧ pz_v tx n p = nI (pz_d tx p) := by
  unfold pz_F at h
  split at h
  · next z =>
    have h1 := z.2.1
    have h2 := z.2.2
    rw [Int32.le_iff_toInt_le, nI_toInt (by omega)] at h1 h2
    obtain ⟨a, ha, ea⟩ := nI_of (x := tx p) (fun w => by
      rw [Int32.lt_iff_toInt_lt, Int32.toInt_zero] at w
      omega)
    rw [ea, nI_toInt ha] at h1 h2
    have hd : pz_d tx p = a - 48 := by
      unfold pz_d
      rw [ea, tn_nI ha]
    refine ⟨z.1, by omega, by omega, by rw [hd, ea]; exact congrArg nI (by omega), ?_⟩
    unfold pz_v
    rw [show pz_c tx n p = tx p from if_pos z.1, ea, hd, pk_sub (by omega)]
  · exact absurd h (by decide)
theorem pz_Hh {tx : Nat → Int32} {n lo hi p : Nat} (hl : lo ≤ 9) (hh : hi ≤ 9) (h : pz_F tx n lo hi p = 1) : pz_H tx n p = pz_h tx p := by
  obtain ⟨_, _, h3, _, h5⟩ := pz_dig hl hh h
  unfold pz_H pz_h
  rw [h5]
  by_cases e : pz_d tx p = 2
  · rw [if_pos e, if_pos (by rw [e])]
  · rw [if_neg e, if_neg (fun z => e ((nI_eq (by omega) (by decide)).mp z))]
theorem pz_let {x : Int32} {k : Nat} (hk : k < 6) : x = x_let k ↔ pz_k x = k := by
  unfold pz_k
  by_cases h0 : x = 115
  · subst h0
    rw [if_pos rfl]
    revert k
    decide
  rw [if_neg h0]
  by_cases h1 : x = 108
  · subst h1
    rw [if_pos rfl]
    revert k
    decide
  rw [if_neg h1]
  by_cases h2 : x = 104
  · subst h2
    rw [if_pos rfl]
    revert k
    decide
  rw [if_neg h2]
  by_cases h3 : x = 118
  · subst h3
    rw [if_pos rfl]
    revert k
    decide
  rw [if_neg h3]
  by_cases h4 : x = 112
  · subst h4
    rw [if_pos rfl]
    revert k
    decide
  rw [if_neg h4]
  by_cases h5 : x = 102
  · subst h5
    rw [if_pos rfl]
    revert k
    decide
  rw [if_neg h5]
  constructor
  · intro z
    rcases (show k = 0 ∨ k = 1 ∨ k = 2 ∨ k = 3 ∨ k = 4 ∨ k = 5 by omega) with rfl | rfl | rfl | rfl | rfl | rfl
    · exact absurd z h0
    · exact absurd z h1
    · exact absurd z h2
    · exact absurd z h3
    · exact absurd z h4
    · exact absurd z h5
  · omega
theorem pz_k_le (x : Int32) : pz_k x ≤ 6 := by
  unfold pz_k
  repeat (first | omega | split)
theorem f_read_n0 {f : Nat → Int32} {j k : Nat} (hj : k ≤ j) (h : j < 2 ^ 31) : f_read f (nI k) (nI j) = 0 := by
  unfold f_read
  split
  · rfl
  · rw [if_pos (nI_le hj h)]
theorem sL_readA {X : XX} {I A : Nat → Nat → Int32} {J B : Nat → Nat → Int64} {F : Nat → Nat} (t n : Nat) (ht : t < 4) (hn : n ≤ 60) (hz : I (20 + 2 * (6 + t)) 1 = nI n) (tx : Nat → Int32) (htx : ∀ k, k < 60 → A (21 + 2 * (6 + t)) k = tx k) (p : Nat) (hp : p ≤ 100) : x_ev X xT 2 32 [.ref (20 + 2 * (6 + t)), .int (nI p)] (HX I A J B F) (some (.int (pz_c tx n p))) (HX I A J B F) := by
  have e := sX2_read (X := X) (hx_lineZ (A := A) (J := J) (B := B) (F := F) (6 + t) (by omega) hz) (hx_lineC (6 + t) (by omega)) (by omega) (nI_toI_le (m := rm (6 + t)) (by rw [rm_txt]; exact hn) (by omega)) (nI p)
  unfold pz_c
  by_cases h : p < n
  · rw [f_read_nI h (by omega), htx p (by omega)] at e
    rw [if_pos h]
    exact e
  · rw [f_read_n0 (by omega) (by omega)] at e
    rw [if_neg h]
    exact e
theorem pz_bits {b : Nat} (h : b ≤ 1) : fits .boolean (.int (nI b)) = true := by
  rcases (show b = 0 ∨ b = 1 by omega) with rfl | rfl <;> rfl

theorem sX4_goOnIf {X : XX} {I A : Nat → Nat → Int32} {J B : Nat → Nat → Int64} {F : Nat → Nat} (p b f : Nat) (hb : b ≤ 1) (hf : f ≤ 1) (hp : p ≤ 100) : x_ev X xT 1 62 [.ref 3, .int (nI f)] (HX (pz_R I p b) A J B F) none (HX (pz_R I (pz_p p b f) (pz_b b f)) A J B F) := by
  refine q_ev (L := [some (.ref 3), some (.int (nI f))]) tX4_goOnIf (Nat.le_of_ble_eq_true rfl) rfl ?_
  refine q_aload_n rfl rfl ?_
  refine q_aload_n rfl rfl ?_
  refine q_getI rfl hx_3 rfl ((show _ = nI b from rfl)) ?_
  refine q_if_neN rfl (by omega) (fun hc5 => ?_) (fun hc5 => ?_)
  · refine q_iconst (v := nI 1) rfl rfl ?_
    refine q_goto rfl ?_
    refine q_putfield rfl hx_3 rfl (Nat.le_of_ble_eq_true rfl) (rfl) (by decide +kernel) ?_
    refine q_heap (hs_3_5 _) ?_
    refine q_aload_n rfl rfl ?_
    refine q_dupA rfl ?_
    refine q_getI rfl hx_3 rfl ((show _ = nI p from rfl)) ?_
    refine q_aload_n rfl rfl ?_
    refine q_getI rfl hx_3 rfl (rfl) ?_
    refine q_if_eq rfl (fun hc29 => ?_) (fun hc29 => ?_)
    · refine q_iconst (v := nI 1) rfl rfl ?_
      refine q_iaddN rfl ?_
      refine q_putfield rfl hx_3 rfl (Nat.le_of_ble_eq_true rfl) (rfl) (by decide +kernel) ?_
      refine q_heap (hs_3_4 _) ?_
      refine q_vret rfl rfl ?_
      first | exact absurd (show nI 1 = 0 from hc29) (by decide) | exact absurd (show nI 0 = 0 from rfl) hc29 | (have h8 := pz_2 (p := p) (b := b) (f := f) hc5; refine ⟨rfl, ?_⟩; rw [h8.1, h8.2]; exact congrArg (fun z => HX z A J B F) pz_RR) | (have h8 := pz_1 (p := p) (b := b) (f := f) hc5 (Nat.le_antisymm hf (Nat.pos_of_ne_zero hc9)); refine ⟨rfl, ?_⟩; rw [h8.1, h8.2]; exact congrArg (fun z => HX z A J B F) pz_RR) | (have h8 := pz_3 (p := p) (b := b) (f := f) (fun z => absurd (hc9.symm.trans z) (by decide)); refine ⟨rfl, ?_⟩; rw [h8.1, h8.2]; exact congrArg (fun z => HX z A J B F) pz_RR)
    · refine q_iconst (v := nI 0) rfl rfl ?_
      refine q_goto rfl ?_
      refine q_iaddN rfl ?_
      refine q_putfield rfl hx_3 rfl (Nat.le_of_ble_eq_true rfl) (rfl) (by decide +kernel) ?_
      refine q_heap (hs_3_4 _) ?_
      refine q_vret rfl rfl ?_
      first | exact absurd (show nI 1 = 0 from hc29) (by decide) | exact absurd (show nI 0 = 0 from rfl) hc29 | (have h8 := pz_2 (p := p) (b := b) (f := f) hc5; refine ⟨rfl, ?_⟩; rw [h8.1, h8.2]; exact congrArg (fun z => HX z A J B F) pz_RR) | (have h8 := pz_1 (p := p) (b := b) (f := f) hc5 (Nat.le_antisymm hf (Nat.pos_of_ne_zero hc9)); refine ⟨rfl, ?_⟩; rw [h8.1, h8.2]; exact congrArg (fun z => HX z A J B F) pz_RR) | (have h8 := pz_3 (p := p) (b := b) (f := f) (fun z => absurd (hc9.symm.trans z) (by decide)); refine ⟨rfl, ?_⟩; rw [h8.1, h8.2]; exact congrArg (fun z => HX z A J B F) pz_RR)
  · refine q_iload_n rfl rfl ?_
    refine q_if_neN rfl (by omega) (fun hc9 => ?_) (fun hc9 => ?_)
    · refine q_iconst (v := nI 0) rfl rfl ?_
      refine q_putfield rfl hx_3 rfl (Nat.le_of_ble_eq_true rfl) (rfl) (by decide +kernel) ?_
      refine q_heap (hs_3_5 _) ?_
      refine q_aload_n rfl rfl ?_
      refine q_dupA rfl ?_
      refine q_getI rfl hx_3 rfl ((show _ = nI p from rfl)) ?_
      refine q_aload_n rfl rfl ?_
      refine q_getI rfl hx_3 rfl (rfl) ?_
      refine q_if_eq rfl (fun hc29 => ?_) (fun hc29 => ?_)
      · refine q_iconst (v := nI 1) rfl rfl ?_
        refine q_iaddN rfl ?_
        refine q_putfield rfl hx_3 rfl (Nat.le_of_ble_eq_true rfl) (rfl) (by decide +kernel) ?_
        refine q_heap (hs_3_4 _) ?_
        refine q_vret rfl rfl ?_
        first | exact absurd (show nI 1 = 0 from hc29) (by decide) | exact absurd (show nI 0 = 0 from rfl) hc29 | (have h8 := pz_2 (p := p) (b := b) (f := f) hc5; refine ⟨rfl, ?_⟩; rw [h8.1, h8.2]; exact congrArg (fun z => HX z A J B F) pz_RR) | (have h8 := pz_1 (p := p) (b := b) (f := f) hc5 (Nat.le_antisymm hf (Nat.pos_of_ne_zero hc9)); refine ⟨rfl, ?_⟩; rw [h8.1, h8.2]; exact congrArg (fun z => HX z A J B F) pz_RR) | (have h8 := pz_3 (p := p) (b := b) (f := f) (fun z => absurd (hc9.symm.trans z) (by decide)); refine ⟨rfl, ?_⟩; rw [h8.1, h8.2]; exact congrArg (fun z => HX z A J B F) pz_RR)
      · refine q_iconst (v := nI 0) rfl rfl ?_
        refine q_goto rfl ?_
        refine q_iaddN rfl ?_
        refine q_putfield rfl hx_3 rfl (Nat.le_of_ble_eq_true rfl) (rfl) (by decide +kernel) ?_
        refine q_heap (hs_3_4 _) ?_
        refine q_vret rfl rfl ?_
        first | exact absurd (show nI 1 = 0 from hc29) (by decide) | exact absurd (show nI 0 = 0 from rfl) hc29 | (have h8 := pz_2 (p := p) (b := b) (f := f) hc5; refine ⟨rfl, ?_⟩; rw [h8.1, h8.2]; exact congrArg (fun z => HX z A J B F) pz_RR) | (have h8 := pz_1 (p := p) (b := b) (f := f) hc5 (Nat.le_antisymm hf (Nat.pos_of_ne_zero hc9)); refine ⟨rfl, ?_⟩; rw [h8.1, h8.2]; exact congrArg (fun z => HX z A J B F) pz_RR) | (have h8 := pz_3 (p := p) (b := b) (f := f) (fun z => absurd (hc9.symm.trans z) (by decide)); refine ⟨rfl, ?_⟩; rw [h8.1, h8.2]; exact congrArg (fun z => HX z A J B F) pz_RR)
    · refine q_iconst (v := nI 1) rfl rfl ?_
      refine q_goto rfl ?_
      refine q_putfield rfl hx_3 rfl (Nat.le_of_ble_eq_true rfl) (rfl) (by decide +kernel) ?_
      refine q_heap (hs_3_5 _) ?_
      refine q_aload_n rfl rfl ?_
      refine q_dupA rfl ?_
      refine q_getI rfl hx_3 rfl ((show _ = nI p from rfl)) ?_
      refine q_aload_n rfl rfl ?_
      refine q_getI rfl hx_3 rfl (rfl) ?_
      refine q_if_eq rfl (fun hc29 => ?_) (fun hc29 => ?_)
      · refine q_iconst (v := nI 1) rfl rfl ?_
        refine q_iaddN rfl ?_
        refine q_putfield rfl hx_3 rfl (Nat.le_of_ble_eq_true rfl) (rfl) (by decide +kernel) ?_
        refine q_heap (hs_3_4 _) ?_
        refine q_vret rfl rfl ?_
        first | exact absurd (show nI 1 = 0 from hc29) (by decide) | exact absurd (show nI 0 = 0 from rfl) hc29 | (have h8 := pz_2 (p := p) (b := b) (f := f) hc5; refine ⟨rfl, ?_⟩; rw [h8.1, h8.2]; exact congrArg (fun z => HX z A J B F) pz_RR) | (have h8 := pz_1 (p := p) (b := b) (f := f) hc5 (Nat.le_antisymm hf (Nat.pos_of_ne_zero hc9)); refine ⟨rfl, ?_⟩; rw [h8.1, h8.2]; exact congrArg (fun z => HX z A J B F) pz_RR) | (have h8 := pz_3 (p := p) (b := b) (f := f) (fun z => absurd (hc9.symm.trans z) (by decide)); refine ⟨rfl, ?_⟩; rw [h8.1, h8.2]; exact congrArg (fun z => HX z A J B F) pz_RR)
      · refine q_iconst (v := nI 0) rfl rfl ?_
        refine q_goto rfl ?_
        refine q_iaddN rfl ?_
        refine q_putfield rfl hx_3 rfl (Nat.le_of_ble_eq_true rfl) (rfl) (by decide +kernel) ?_
        refine q_heap (hs_3_4 _) ?_
        refine q_vret rfl rfl ?_
        first | exact absurd (show nI 1 = 0 from hc29) (by decide) | exact absurd (show nI 0 = 0 from rfl) hc29 | (have h8 := pz_2 (p := p) (b := b) (f := f) hc5; refine ⟨rfl, ?_⟩; rw [h8.1, h8.2]; exact congrArg (fun z => HX z A J B F) pz_RR) | (have h8 := pz_1 (p := p) (b := b) (f := f) hc5 (Nat.le_antisymm hf (Nat.pos_of_ne_zero hc9)); refine ⟨rfl, ?_⟩; rw [h8.1, h8.2]; exact congrArg (fun z => HX z A J B F) pz_RR) | (have h8 := pz_3 (p := p) (b := b) (f := f) (fun z => absurd (hc9.symm.trans z) (by decide)); refine ⟨rfl, ?_⟩; rw [h8.1, h8.2]; exact congrArg (fun z => HX z A J B F) pz_RR)
theorem sX4_figure {X : XX} {I A : Nat → Nat → Int32} {J B : Nat → Nat → Int64} {F : Nat → Nat} (t n : Nat) (ht : t < 4) (hn : n ≤ 60) (hz : I (20 + 2 * (6 + t)) 1 = nI n) (tx : Nat → Int32) (htx : ∀ k, k < 60 → A (21 + 2 * (6 + t)) k = tx k) (hby : ∀ k, k < 60 → byOK (tx k)) (lo hi : Nat) (hl : lo ≤ 9) (hh : hi ≤ 9) (p b : Nat) (hb : b ≤ 1) (hp : p ≤ n)  : x_ev X xT 3 61 [.ref 3, .ref (20 + 2 * (6 + t)), .int (nI lo), .int (nI hi)] (HX (pz_R I p b) A J B F) (some (.int (pz_v tx n p))) (HX (pz_R I (pz_p p b (pz_F tx n lo hi p)) (pz_b b (pz_F tx n lo hi p))) A J B F) := by
  have hcb := pz_cb (p := p) hn hby
  refine q_ev (L := [some (.ref 3), some (.ref (20 + 2 * (6 + t))), some (.int (nI lo)), some (.int (nI hi)), none]) tX4_figure (Nat.le_of_ble_eq_true rfl) rfl ?_
  refine q_aload_n rfl rfl ?_
  refine q_aload_n rfl rfl ?_
  refine q_getI rfl hx_3 rfl ((show _ = nI p from rfl)) ?_
  refine q_callV1 rfl (hx_line (6 + t) (by omega)) (Nat.le_of_ble_eq_true rfl) (Nat.le_of_ble_eq_true rfl) (sL_readA t n ht hn ((pz_R_n (by omega)).trans hz) tx htx p (by omega)) ?_
  refine q_bipush (v := nI 48) rfl rfl ?_
  refine q_isub rfl ?_
  refine q_istore (L' := [_, _, _, _, _]) rfl rfl ?_
  refine q_aload_n rfl rfl ?_
  refine q_aload_n rfl rfl ?_
  refine q_getI rfl hx_3 rfl ((show _ = nI p from rfl)) ?_
  refine q_aload_n rfl rfl ?_
  refine q_callV0 rfl (hx_line (6 + t) (by omega)) (Nat.le_of_ble_eq_true rfl) (Nat.le_of_ble_eq_true rfl) (sL_size (6 + t) (by omega) ((pz_R_n (by omega)).trans hz)) ?_
  refine q_icmp_geN rfl (by omega) (by omega) (fun hc22 => ?_) (fun hc22 => ?_)
  · refine q_iconst (v := nI 0) rfl rfl ?_
    refine q_cn (show _ = nI (pz_F tx n lo hi p) from by first | exact pz_F2 hc22 | exact pz_F3 hl hcb hc28 | exact pz_F4 hh hcb hc34 | exact pz_F1 hl hh hcb (Nat.not_le.mp hc22) hc28 hc34) ?_
    refine q_callV1 rfl hx_3 (Nat.le_of_ble_eq_true rfl) (Nat.le_of_ble_eq_true rfl) (sX4_goOnIf p b (pz_F tx n lo hi p) hb (pz_F_le tx n lo hi p) (by omega)) ?_
    refine q_iload rfl rfl ?_
    refine q_iret rfl rfl ?_
    exact ⟨rfl, rfl⟩
  · refine q_iload rfl rfl ?_
    refine q_iload_n rfl rfl ?_
    refine q_icmp_lt rfl (fun hc28 => ?_) (fun hc28 => ?_)
    · refine q_iconst (v := nI 0) rfl rfl ?_
      refine q_cn (show _ = nI (pz_F tx n lo hi p) from by first | exact pz_F2 hc22 | exact pz_F3 hl hcb hc28 | exact pz_F4 hh hcb hc34 | exact pz_F1 hl hh hcb (Nat.not_le.mp hc22) hc28 hc34) ?_
      refine q_callV1 rfl hx_3 (Nat.le_of_ble_eq_true rfl) (Nat.le_of_ble_eq_true rfl) (sX4_goOnIf p b (pz_F tx n lo hi p) hb (pz_F_le tx n lo hi p) (by omega)) ?_
      refine q_iload rfl rfl ?_
      refine q_iret rfl rfl ?_
      exact ⟨rfl, rfl⟩
    · refine q_iload rfl rfl ?_
      refine q_iload_n rfl rfl ?_
      refine q_icmp_gt rfl (fun hc34 => ?_) (fun hc34 => ?_)
      · refine q_iconst (v := nI 0) rfl rfl ?_
        refine q_cn (show _ = nI (pz_F tx n lo hi p) from by first | exact pz_F2 hc22 | exact pz_F3 hl hcb hc28 | exact pz_F4 hh hcb hc34 | exact pz_F1 hl hh hcb (Nat.not_le.mp hc22) hc28 hc34) ?_
        refine q_callV1 rfl hx_3 (Nat.le_of_ble_eq_true rfl) (Nat.le_of_ble_eq_true rfl) (sX4_goOnIf p b (pz_F tx n lo hi p) hb (pz_F_le tx n lo hi p) (by omega)) ?_
        refine q_iload rfl rfl ?_
        refine q_iret rfl rfl ?_
        exact ⟨rfl, rfl⟩
      · refine q_iconst (v := nI 1) rfl rfl ?_
        refine q_goto rfl ?_
        refine q_cn (show _ = nI (pz_F tx n lo hi p) from by first | exact pz_F2 hc22 | exact pz_F3 hl hcb hc28 | exact pz_F4 hh hcb hc34 | exact pz_F1 hl hh hcb (Nat.not_le.mp hc22) hc28 hc34) ?_
        refine q_callV1 rfl hx_3 (Nat.le_of_ble_eq_true rfl) (Nat.le_of_ble_eq_true rfl) (sX4_goOnIf p b (pz_F tx n lo hi p) hb (pz_F_le tx n lo hi p) (by omega)) ?_
        refine q_iload rfl rfl ?_
        refine q_iret rfl rfl ?_
        exact ⟨rfl, rfl⟩
theorem pz_pF {tx : Nat → Int32} {n lo hi p b : Nat} (hp : p ≤ n) : pz_p p b (pz_F tx n lo hi p) ≤ n := by
  refine pz_p_le ?_ hp
  by_cases h : p < n
  · exact Or.inl h
  · refine Or.inr (fun z => ?_)
    unfold pz_F at z
    rw [if_neg (fun w => h w.1)] at z
    exact absurd z (by decide)
theorem sX4_placeFigures {X : XX} {I A : Nat → Nat → Int32} {J B : Nat → Nat → Int64} {F : Nat → Nat} (t n : Nat) (ht : t < 4) (hn : n ≤ 60) (hz : I (20 + 2 * (6 + t)) 1 = nI n) (tx : Nat → Int32) (htx : ∀ k, k < 60 → A (21 + 2 * (6 + t)) k = tx k) (hby : ∀ k, k < 60 → byOK (tx k)) (p b : Nat) (hb : b ≤ 1) (hp : p ≤ n)  : x_ev X xT 4 60 [.ref 3, .ref (20 + 2 * (6 + t))] (HX (pz_R I p b) A J B F) (some (.int (nI 10 * pz_v tx n p + pz_v tx n (pz_p p b (pz_F tx n 0 2 p))))) (HX (pz_R I (pz_p (pz_p p b (pz_F tx n 0 2 p)) (pz_b b (pz_F tx n 0 2 p)) (pz_F tx n 0 (pz_H tx n p) (pz_p p b (pz_F tx n 0 2 p)))) (pz_b (pz_b b (pz_F tx n 0 2 p)) (pz_F tx n 0 (pz_H tx n p) (pz_p p b (pz_F tx n 0 2 p))))) A J B F) := by
  refine q_ev (L := [some (.ref 3), some (.ref (20 + 2 * (6 + t))), none]) tX4_placeFigures (Nat.le_of_ble_eq_true rfl) rfl ?_
  refine q_aload_n rfl rfl ?_
  refine q_aload_n rfl rfl ?_
  refine q_iconst (v := nI 0) rfl rfl ?_
  refine q_iconst (v := nI 2) rfl rfl ?_
  refine q_callV3 rfl hx_3 (Nat.le_of_ble_eq_true rfl) (Nat.le_of_ble_eq_true rfl) (sX4_figure t n ht hn hz tx htx hby 0 2 (by decide) (by decide) p b hb hp) ?_
  refine q_istore_n (L' := [_, _, _]) rfl rfl ?_
  refine q_bipush (v := nI 10) rfl rfl ?_
  refine q_iload_n rfl rfl ?_
  refine q_imul rfl ?_
  refine q_aload_n rfl rfl ?_
  refine q_aload_n rfl rfl ?_
  refine q_iconst (v := nI 0) rfl rfl ?_
  refine q_iload_n rfl rfl ?_
  refine q_iconst (v := nI 2) rfl rfl ?_
  refine q_icmp_ne rfl (fun hc17 => ?_) (fun hc17 => ?_)
  · refine q_bipush (v := nI 9) rfl rfl ?_
    refine q_cn (show _ = nI (pz_H tx n p) from congrArg nI (by unfold pz_H; first | rw [if_pos hc17] | rw [if_neg hc17])) ?_
    refine q_callV3 rfl hx_3 (Nat.le_of_ble_eq_true rfl) (Nat.le_of_ble_eq_true rfl) (sX4_figure t n ht hn hz tx htx hby 0 (pz_H tx n p) (by decide) (pz_H_le tx n p) (pz_p p b (pz_F tx n 0 2 p)) (pz_b b (pz_F tx n 0 2 p)) (pz_b_le _ _) (pz_pF hp)) ?_
    refine q_iadd rfl ?_
    refine q_iret rfl rfl ?_
    exact ⟨rfl, rfl⟩
  · refine q_iconst (v := nI 3) rfl rfl ?_
    refine q_goto rfl ?_
    refine q_cn (show _ = nI (pz_H tx n p) from congrArg nI (by unfold pz_H; first | rw [if_pos hc17] | rw [if_neg hc17])) ?_
    refine q_callV3 rfl hx_3 (Nat.le_of_ble_eq_true rfl) (Nat.le_of_ble_eq_true rfl) (sX4_figure t n ht hn hz tx htx hby 0 (pz_H tx n p) (by decide) (pz_H_le tx n p) (pz_p p b (pz_F tx n 0 2 p)) (pz_b b (pz_F tx n 0 2 p)) (pz_b_le _ _) (pz_pF hp)) ?_
    refine q_iadd rfl ?_
    refine q_iret rfl rfl ?_
    exact ⟨rfl, rfl⟩
theorem pz_n9 {x : Nat} (h : x < 2 ^ 31) : ¬ nI x = -1 := by
  intro z
  have z2 := congrArg Int32.toInt z
  rw [nI_toInt h] at z2
  have : (-1 : Int32).toInt = -1 := by decide
  omega
def pz_kk (k : Nat) (x : Int32) : Int32 := if pz_k x < k then nI (pz_k x) else -1
theorem kindL_0 {X : XX} {I A : Nat → Nat → Int32} {J B : Nat → Nat → Int64} {F : Nat → Nat} (t n : Nat) (ht : t < 4) (hn : n ≤ 60) (hz : I (20 + 2 * (6 + t)) 1 = nI n) (tx : Nat → Int32) (htx : ∀ k, k < 60 → A (21 + 2 * (6 + t)) k = tx k) (hby : ∀ k, k < 60 → byOK (tx k)) (p b : Nat) (hb : b ≤ 1) (hp : p ≤ n) (hpn : n ≤ p)  : x_ev X xT 3 59 [.ref 3, .ref (20 + 2 * (6 + t))] (HX (pz_R I p b) A J B F) (some (.int (if pz_K tx n p = 1 then nI (pz_k (tx p)) else -1))) (HX (pz_R I (pz_p p b (pz_K tx n p)) (pz_b b (pz_K tx n p))) A J B F) := by
  have hK : pz_K tx n p = 0 := if_neg (fun z => absurd z.1 (by omega))
  refine q_ev (L := [some (.ref 3), some (.ref (20 + 2 * (6 + t))), none, none]) tX4_kindLetter (Nat.le_of_ble_eq_true rfl) rfl ?_
  refine q_iconst (v := (-1)) rfl rfl ?_
  refine q_istore_n (L' := [_, _, _, _]) rfl rfl ?_
  refine q_iconst (v := nI 0) rfl rfl ?_
  refine q_istore_n (L' := [_, _, _, _]) rfl rfl ?_
  refine q_iload_n rfl rfl ?_
  refine q_getstatic rfl ?_
  refine q_alen_l rfl ?_
  refine q_icmp_ge rfl (fun hc9 => ?_) (fun hc9 => ?_)
  · exact absurd hc9 (by decide)
  · refine q_aload_n rfl rfl ?_
    refine q_getI rfl hx_3 rfl ((show _ = nI p from rfl)) ?_
    refine q_aload_n rfl rfl ?_
    refine q_callV0 rfl (hx_line (6 + t) (by omega)) (Nat.le_of_ble_eq_true rfl) (Nat.le_of_ble_eq_true rfl) (sL_size (6 + t) (by omega) ((pz_R_n (by omega)).trans hz)) ?_
    refine q_icmp_geN rfl (by omega) (by omega) (fun hc20 => ?_) (fun hc20 => ?_)
    · refine q_aload_n rfl rfl ?_
      refine q_iload_n rfl rfl ?_
      refine q_iconst (v := (-1)) rfl rfl ?_
      refine q_icmp_eq rfl (fun hc50 => ?_) (fun hc50 => ?_)
      · refine q_iconst (v := nI 0) rfl rfl ?_
        refine q_cn (show _ = nI (pz_K tx n p) from congrArg nI hK.symm) ?_
        refine q_callV1 rfl hx_3 (Nat.le_of_ble_eq_true rfl) (Nat.le_of_ble_eq_true rfl) (sX4_goOnIf p b (pz_K tx n p) hb (pz_K_le tx n p) (by omega)) ?_
        refine q_iload_n rfl rfl ?_
        refine q_iret rfl rfl ?_
        exact ⟨vI (by rw [hK, if_neg (by decide)]), rfl⟩
      · exact absurd hc50 (by decide)
    · omega
theorem pz_kk1 {x : Int32} (h : pz_kk 6 x ≠ -1) : pz_k x < 6 := by
  unfold pz_kk at h
  by_cases e : pz_k x < 6
  · exact e
  · rw [if_neg e] at h
    exact absurd rfl h
theorem pz_kk0 {x : Int32} (h : pz_k x < 6) : pz_kk 6 x ≠ -1 := by
  unfold pz_kk
  rw [if_pos h]
  exact pz_n9 (by omega)
theorem pz_kk2 {tx : Nat → Int32} {n p : Nat} (h : p < n) : pz_kk 6 (tx p) = (if pz_K tx n p = 1 then nI (pz_k (tx p)) else -1) := by
  unfold pz_kk
  by_cases e : pz_k (tx p) < 6
  · rw [if_pos e, if_pos (show pz_K tx n p = 1 from if_pos ⟨h, e⟩)]
  · rw [if_neg e, show pz_K tx n p = 0 from if_neg (fun z => e z.2), if_neg (by decide)]
theorem pz_k1 {tx : Nat → Int32} {n p : Nat} (h : p < n) (h2 : ¬ pz_kk 6 (tx p) = -1) : nI 1 = nI (pz_K tx n p) := congrArg nI (if_pos ⟨h, pz_kk1 h2⟩).symm
theorem pz_k0 {tx : Nat → Int32} {n p : Nat} (h2 : pz_kk 6 (tx p) = -1) : nI 0 = nI (pz_K tx n p) := congrArg nI (if_neg (fun z => pz_kk0 z.2 h2)).symm
set_option maxHeartbeats 1000000 in
theorem kindL_1 {X : XX} {I A : Nat → Nat → Int32} {J B : Nat → Nat → Int64} {F : Nat → Nat} (t n : Nat) (ht : t < 4) (hn : n ≤ 60) (hz : I (20 + 2 * (6 + t)) 1 = nI n) (tx : Nat → Int32) (htx : ∀ k, k < 60 → A (21 + 2 * (6 + t)) k = tx k) (hby : ∀ k, k < 60 → byOK (tx k)) (p b : Nat) (hb : b ≤ 1) (hp : p ≤ n) (hpn : p < n)  : x_ev X xT 3 59 [.ref 3, .ref (20 + 2 * (6 + t))] (HX (pz_R I p b) A J B F) (some (.int (if pz_K tx n p = 1 then nI (pz_k (tx p)) else -1))) (HX (pz_R I (pz_p p b (pz_K tx n p)) (pz_b b (pz_K tx n p))) A J B F) := by
  have hc : pz_c tx n p = tx p := if_pos hpn
  refine q_ev (L := [some (.ref 3), some (.ref (20 + 2 * (6 + t))), none, none]) tX4_kindLetter (Nat.le_of_ble_eq_true rfl) rfl ?_
  refine q_iconst (v := (-1)) rfl rfl ?_
  refine q_istore_n (L' := [_, _, _, _]) rfl rfl ?_
  refine q_iconst (v := nI 0) rfl rfl ?_
  refine q_istore_n (L' := [_, _, _, _]) rfl rfl ?_
  refine q_up (Inv := fun k L h => L = [some (.ref 3), some (.ref (20 + 2 * (6 + t))), some (.int (pz_kk k (tx p))), some (.int (nI k))] ∧ h = HX (pz_R I p b) A J B F) (6) (fun k L h hk_k hi_k ih_k => ?_) (fun L h hi_k => ?_) (0) _ _ (by omega) (⟨by rw [show pz_kk 0 (tx p) = -1 from if_neg (Nat.not_lt_zero _)], rfl⟩)
  · obtain ⟨rfl, rfl⟩ := hi_k
    refine q_iload_n rfl rfl ?_
    refine q_getstatic rfl ?_
    refine q_alen_l rfl ?_
    refine q_icmp_ge rfl (fun hcks9 => ?_) (fun hcks9 => ?_)
    · exact absurd ((nI_leI (a := 6) (by omega) (by omega)).mp hcks9) (by omega)
    · refine q_aload_n rfl rfl ?_
      refine q_getI rfl hx_3 rfl ((show _ = nI p from rfl)) ?_
      refine q_aload_n rfl rfl ?_
      refine q_callV0 rfl (hx_line (6 + t) (by omega)) (Nat.le_of_ble_eq_true rfl) (Nat.le_of_ble_eq_true rfl) (sL_size (6 + t) (by omega) ((pz_R_n (by omega)).trans hz)) ?_
      refine q_icmp_geN rfl (by omega) (by omega) (fun hcks20 => ?_) (fun hcks20 => ?_)
      · omega
      · refine q_aload_n rfl rfl ?_
        refine q_aload_n rfl rfl ?_
        refine q_getI rfl hx_3 rfl ((show _ = nI p from rfl)) ?_
        refine q_callV1 rfl (hx_line (6 + t) (by omega)) (Nat.le_of_ble_eq_true rfl) (Nat.le_of_ble_eq_true rfl) (sL_readA t n ht hn ((pz_R_n (by omega)).trans hz) tx htx p (by omega)) ?_
        refine q_cn hc ?_
        refine q_getstatic rfl ?_
        refine q_iload_n rfl rfl ?_
        refine q_iaload_l rfl (f_ixk (show k < 6 by omega) (by decide)) ?_
        refine q_cn (show _ = x_let k from by rw [nI_clamp (by omega)]) ?_
        refine q_icmp_ne rfl (fun hcks36 => ?_) (fun hcks36 => ?_)
        · refine q_iincN (c := 1) (L' := [_, _, _, _]) rfl rfl rfl rfl ?_
          refine q_goto rfl ?_
          exact ih_k _ _ (⟨by first | rw [show pz_kk (k + 1) (tx p) = nI k from by unfold pz_kk; rw [if_pos (by rw [(pz_let hk_k).mp hcks36]; omega), (pz_let hk_k).mp hcks36]] | rw [show pz_kk (k + 1) (tx p) = pz_kk k (tx p) from by unfold pz_kk; by_cases e9 : pz_k (tx p) < k; rw [if_pos e9, if_pos (by omega)]; rw [if_neg e9, if_neg (fun z => hcks36 ((pz_let hk_k).mpr (by omega)))]], rfl⟩)
        · refine q_iload_n rfl rfl ?_
          refine q_istore_n (L' := [_, _, _, _]) rfl rfl ?_
          refine q_iincN (c := 1) (L' := [_, _, _, _]) rfl rfl rfl rfl ?_
          refine q_goto rfl ?_
          exact ih_k _ _ (⟨by first | rw [show pz_kk (k + 1) (tx p) = nI k from by unfold pz_kk; rw [if_pos (by rw [(pz_let hk_k).mp hcks36]; omega), (pz_let hk_k).mp hcks36]] | rw [show pz_kk (k + 1) (tx p) = pz_kk k (tx p) from by unfold pz_kk; by_cases e9 : pz_k (tx p) < k; rw [if_pos e9, if_pos (by omega)]; rw [if_neg e9, if_neg (fun z => hcks36 ((pz_let hk_k).mpr (by omega)))]], rfl⟩)
  · obtain ⟨rfl, rfl⟩ := hi_k
    refine q_iload_n rfl rfl ?_
    refine q_getstatic rfl ?_
    refine q_alen_l rfl ?_
    refine q_icmp_ge rfl (fun hckf9 => ?_) (fun hckf9 => ?_)
    · refine q_aload_n rfl rfl ?_
      refine q_iload_n rfl rfl ?_
      have hkl := pz_k_le (tx p)
      refine q_iconst (v := (-1)) rfl rfl ?_
      refine q_icmp_eq rfl (fun hckf50 => ?_) (fun hckf50 => ?_)
      · refine q_iconst (v := nI 0) rfl rfl ?_
        refine q_cn (show _ = nI (pz_K tx n p) from by first | exact pz_k1 hpn hckf50 | exact pz_k0 hckf50) ?_
        refine q_callV1 rfl hx_3 (Nat.le_of_ble_eq_true rfl) (Nat.le_of_ble_eq_true rfl) (sX4_goOnIf p b (pz_K tx n p) hb (pz_K_le tx n p) (by omega)) ?_
        refine q_iload_n rfl rfl ?_
        refine q_iret rfl rfl ?_
        exact ⟨vI (pz_kk2 hpn), rfl⟩
      · refine q_iconst (v := nI 1) rfl rfl ?_
        refine q_goto rfl ?_
        refine q_cn (show _ = nI (pz_K tx n p) from by first | exact pz_k1 hpn hckf50 | exact pz_k0 hckf50) ?_
        refine q_callV1 rfl hx_3 (Nat.le_of_ble_eq_true rfl) (Nat.le_of_ble_eq_true rfl) (sX4_goOnIf p b (pz_K tx n p) hb (pz_K_le tx n p) (by omega)) ?_
        refine q_iload_n rfl rfl ?_
        refine q_iret rfl rfl ?_
        exact ⟨vI (pz_kk2 hpn), rfl⟩
    · exact absurd (show (6 : Int32) ≤ nI 6 by decide) hckf9
theorem skip_1 {X : XX} {I A : Nat → Nat → Int32} {J B : Nat → Nat → Int64} {F : Nat → Nat} (t n : Nat) (ht : t < 4) (hn : n ≤ 60) (hz : I (20 + 2 * (6 + t)) 1 = nI n) (tx : Nat → Int32) (htx : ∀ k, k < 60 → A (21 + 2 * (6 + t)) k = tx k) (hby : ∀ k, k < 60 → byOK (tx k)) (p b : Nat) (hb1 : b = 1) (hp : p ≤ n) : x_ev X xT 3 57 [.ref 3, .ref (20 + 2 * (6 + t))] (HX (pz_R I p b) A J B F) none (HX (pz_R I p b) A J B F) := by
  have hb : b ≤ 1 := by omega
  refine q_ev (L := [some (.ref 3), some (.ref (20 + 2 * (6 + t)))]) tX4_skipBlanks (Nat.le_of_ble_eq_true rfl) rfl ?_
  refine q_aload_n rfl rfl ?_
  refine q_getI rfl hx_3 rfl ((show _ = nI b from rfl)) ?_
  refine q_if_neN rfl (by omega) (fun hc4 => ?_) (fun hc4 => ?_)
  · refine q_vret rfl rfl ?_
    exact ⟨rfl, rfl⟩
  · omega
theorem pz_up {I A : Nat → Nat → Int32} {J B : Nat → Nat → Int64} {F : Nat → Nat} {y b : Nat} : HX (u2 (pz_R I y b) 3 4 (nI (y + 1))) A J B F = HX (pz_R I (y + 1) b) A J B F := by
  unfold pz_R
  rw [u2_u2]
theorem skip_0 {X : XX} {I A : Nat → Nat → Int32} {J B : Nat → Nat → Int64} {F : Nat → Nat} (t n : Nat) (ht : t < 4) (hn : n ≤ 60) (hz : I (20 + 2 * (6 + t)) 1 = nI n) (tx : Nat → Int32) (htx : ∀ k, k < 60 → A (21 + 2 * (6 + t)) k = tx k) (hby : ∀ k, k < 60 → byOK (tx k)) (p : Nat) (hp : p ≤ n) : x_ev X xT 3 57 [.ref 3, .ref (20 + 2 * (6 + t))] (HX (pz_R I p 0) A J B F) none (HX (pz_R I (pz_s tx n p) 0) A J B F) := by
  refine q_ev (L := [some (.ref 3), some (.ref (20 + 2 * (6 + t)))]) tX4_skipBlanks (Nat.le_of_ble_eq_true rfl) rfl ?_
  refine q_up (Inv := fun y L h => L = [some (.ref 3), some (.ref (20 + 2 * (6 + t)))] ∧ h = HX (pz_R I y 0) A J B F ∧ p ≤ y ∧ lrun (fun q => decide (tx q = 32)) (n - y) y = pz_s tx n p) (n) (fun y L h hk_y hi_y ih_y => ?_) (fun L h hi_y => ?_) (p) _ _ (by omega) (⟨rfl, rfl, Nat.le_refl _, rfl⟩)
  · obtain ⟨rfl, rfl, hpy, hr⟩ := hi_y
    refine q_aload_n rfl rfl ?_
    refine q_getI rfl hx_3 rfl ((show _ = nI 0 from rfl)) ?_
    refine q_if_neN rfl (by omega) (fun hcys4 => ?_) (fun hcys4 => ?_)
    · exact absurd hcys4 (by decide)
    · refine q_aload_n rfl rfl ?_
      refine q_getI rfl hx_3 rfl ((show _ = nI y from rfl)) ?_
      refine q_aload_n rfl rfl ?_
      refine q_callV0 rfl (hx_line (6 + t) (by omega)) (Nat.le_of_ble_eq_true rfl) (Nat.le_of_ble_eq_true rfl) (sL_size (6 + t) (by omega) ((pz_R_n (by omega)).trans hz)) ?_
      refine q_icmp_geN rfl (by omega) (by omega) (fun hcys15 => ?_) (fun hcys15 => ?_)
      · omega
      · refine q_aload_n rfl rfl ?_
        refine q_aload_n rfl rfl ?_
        refine q_getI rfl hx_3 rfl ((show _ = nI y from rfl)) ?_
        refine q_callV1 rfl (hx_line (6 + t) (by omega)) (Nat.le_of_ble_eq_true rfl) (Nat.le_of_ble_eq_true rfl) (sL_readA t n ht hn ((pz_R_n (by omega)).trans hz) tx htx y (by omega)) ?_
        refine q_cn (show _ = tx y from if_pos (by omega)) ?_
        refine q_bipush (v := nI 32) rfl rfl ?_
        refine q_icmp_ne rfl (fun hcys28 => ?_) (fun hcys28 => ?_)
        · refine q_vret rfl rfl ?_
          exact ⟨rfl, by rw [← hr, lrun_f (decide_eq_false (fun z => hcys28 z))]⟩
        · refine q_aload_n rfl rfl ?_
          refine q_dupA rfl ?_
          refine q_getI rfl hx_3 rfl ((show _ = nI y from rfl)) ?_
          refine q_iconst (v := nI 1) rfl rfl ?_
          refine q_iaddN rfl ?_
          refine q_putfield rfl hx_3 rfl (Nat.le_of_ble_eq_true rfl) (rfl) (by decide +kernel) ?_
          refine q_heap (hs_3_4 _) ?_
          refine q_goto rfl ?_
          exact ih_y _ _ (⟨rfl, pz_up, by omega, by rw [← lrun_t hk_y (decide_eq_true (show tx y = 32 from hcys28))]; exact hr⟩)
  · obtain ⟨rfl, rfl, hpy, hr⟩ := hi_y
    refine q_aload_n rfl rfl ?_
    refine q_getI rfl hx_3 rfl ((show _ = nI 0 from rfl)) ?_
    refine q_if_neN rfl (by omega) (fun hcyf4 => ?_) (fun hcyf4 => ?_)
    · exact absurd hcyf4 (by decide)
    · refine q_aload_n rfl rfl ?_
      refine q_getI rfl hx_3 rfl ((show _ = nI n from rfl)) ?_
      refine q_aload_n rfl rfl ?_
      refine q_callV0 rfl (hx_line (6 + t) (by omega)) (Nat.le_of_ble_eq_true rfl) (Nat.le_of_ble_eq_true rfl) (sL_size (6 + t) (by omega) ((pz_R_n (by omega)).trans hz)) ?_
      refine q_icmp_geN rfl (by omega) (by omega) (fun hcyf15 => ?_) (fun hcyf15 => ?_)
      · refine q_vret rfl rfl ?_
        exact ⟨rfl, by rw [← hr, Nat.sub_self]; rfl⟩
      · omega
theorem pz_O1 {tx : Nat → Int32} {n p : Nat} (h : p < n) (h2 : tx p = 111) : nI 1 = nI (pz_O tx n p) := congrArg nI (if_pos ⟨h, h2⟩).symm
theorem pz_O2 {tx : Nat → Int32} {n p : Nat} (h : ¬ (p < n ∧ tx p = 111)) : nI 0 = nI (pz_O tx n p) := congrArg nI (if_neg h).symm
theorem sX4_readDomeLetter {X : XX} {I A : Nat → Nat → Int32} {J B : Nat → Nat → Int64} {F : Nat → Nat} (t n : Nat) (ht : t < 4) (hn : n ≤ 60) (hz : I (20 + 2 * (6 + t)) 1 = nI n) (tx : Nat → Int32) (htx : ∀ k, k < 60 → A (21 + 2 * (6 + t)) k = tx k) (hby : ∀ k, k < 60 → byOK (tx k)) (p b : Nat) (hb : b ≤ 1) (hp : p ≤ n)  : x_ev X xT 3 58 [.ref 3, .ref (20 + 2 * (6 + t))] (HX (pz_R I p b) A J B F) none (HX (pz_R I (pz_p p b (pz_O tx n p)) (pz_b b (pz_O tx n p))) A J B F) := by
  refine q_ev (L := [some (.ref 3), some (.ref (20 + 2 * (6 + t)))]) tX4_readDomeLetter (Nat.le_of_ble_eq_true rfl) rfl ?_
  refine q_aload_n rfl rfl ?_
  refine q_aload_n rfl rfl ?_
  refine q_getI rfl hx_3 rfl ((show _ = nI p from rfl)) ?_
  refine q_aload_n rfl rfl ?_
  refine q_callV0 rfl (hx_line (6 + t) (by omega)) (Nat.le_of_ble_eq_true rfl) (Nat.le_of_ble_eq_true rfl) (sL_size (6 + t) (by omega) ((pz_R_n (by omega)).trans hz)) ?_
  refine q_icmp_geN rfl (by omega) (by omega) (fun hc9 => ?_) (fun hc9 => ?_)
  · refine q_iconst (v := nI 0) rfl rfl ?_
    refine q_cn (show _ = nI (pz_O tx n p) from by first | exact pz_O1 (Nat.not_le.mp hc9) hc22 | exact pz_O2 (fun z => hc22 z.2) | exact pz_O2 (fun z => absurd z.1 (Nat.not_lt.mpr hc9))) ?_
    refine q_callV1 rfl hx_3 (Nat.le_of_ble_eq_true rfl) (Nat.le_of_ble_eq_true rfl) (sX4_goOnIf p b (pz_O tx n p) hb (pz_O_le tx n p) (by omega)) ?_
    refine q_vret rfl rfl ?_
    exact ⟨rfl, rfl⟩
  · refine q_aload_n rfl rfl ?_
    refine q_aload_n rfl rfl ?_
    refine q_getI rfl hx_3 rfl ((show _ = nI p from rfl)) ?_
    refine q_callV1 rfl (hx_line (6 + t) (by omega)) (Nat.le_of_ble_eq_true rfl) (Nat.le_of_ble_eq_true rfl) (sL_readA t n ht hn ((pz_R_n (by omega)).trans hz) tx htx p (by omega)) ?_
    refine q_cn (show _ = tx p from if_pos (by omega)) ?_
    refine q_bipush (v := 111) rfl rfl ?_
    refine q_icmp_ne rfl (fun hc22 => ?_) (fun hc22 => ?_)
    · refine q_iconst (v := nI 0) rfl rfl ?_
      refine q_cn (show _ = nI (pz_O tx n p) from by first | exact pz_O1 (Nat.not_le.mp hc9) hc22 | exact pz_O2 (fun z => hc22 z.2) | exact pz_O2 (fun z => absurd z.1 (Nat.not_lt.mpr hc9))) ?_
      refine q_callV1 rfl hx_3 (Nat.le_of_ble_eq_true rfl) (Nat.le_of_ble_eq_true rfl) (sX4_goOnIf p b (pz_O tx n p) hb (pz_O_le tx n p) (by omega)) ?_
      refine q_vret rfl rfl ?_
      exact ⟨rfl, rfl⟩
    · refine q_iconst (v := nI 1) rfl rfl ?_
      refine q_goto rfl ?_
      refine q_cn (show _ = nI (pz_O tx n p) from by first | exact pz_O1 (Nat.not_le.mp hc9) hc22 | exact pz_O2 (fun z => hc22 z.2) | exact pz_O2 (fun z => absurd z.1 (Nat.not_lt.mpr hc9))) ?_
      refine q_callV1 rfl hx_3 (Nat.le_of_ble_eq_true rfl) (Nat.le_of_ble_eq_true rfl) (sX4_goOnIf p b (pz_O tx n p) hb (pz_O_le tx n p) (by omega)) ?_
      refine q_vret rfl rfl ?_
      exact ⟨rfl, rfl⟩
