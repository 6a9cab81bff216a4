/-! THE RELATION between the class's cells and the reference's -/
def szOK (m : Nat) (z : Int32) : Prop := z = -1 ∨ ∃ k, k ≤ m ∧ z = nI k
def byOK (x : Int32) : Prop := -128 ≤ x.toInt ∧ x.toInt ≤ 127
def RL (I A : Nat → Nat → Int32) : Prop := ∀ q, q < 6 → I (20 + 2 * q) 1 = A 57 q ∧ szOK 40 (A 57 q) ∧ ∀ k, k < 40 → A (21 + 2 * q) k = A 58 (40 * q + k)
def RT (I A : Nat → Nat → Int32) : Prop := ∀ t, t < 4 → I (20 + 2 * (6 + t)) 1 = A 59 t ∧ szOK 60 (A 59 t) ∧ ∀ k, k < 60 → A (21 + 2 * (6 + t)) k = A 60 (60 * t + k) ∧ byOK (A 60 (60 * t + k))
def spOK (x : Int32) : Prop := -2 ≤ x.toInt ∧ x.toInt ≤ 3
def RK (I A : Nat → Nat → Int32) : Prop := ∀ i, i < 5 → I (40 + i) 0 = A 53 i ∧ I (40 + i) 1 = A 54 i ∧ I (40 + i) 2 = A 55 i ∧ I (40 + i) 3 = A 56 i ∧ lOK (mL A i) ∧ A 56 i = nI (tn (A 56 i)) ∧ spOK (A 55 i) ∧ ∃ p, p < 24 ∧ A 54 i = nI p
def RD (ln b st : Nat) (I : Nat → Nat → Int32) : Prop := ln ≤ 5 ∧ b ≤ 5 ∧ st < 24 ∧ I 0 12 = nI ln ∧ I 51 3 = nI ln ∧ I 7 0 = nI b ∧ I 51 1 = nI b ∧ I 7 1 = nI st ∧ I 51 2 = nI st
/-- the night behind the first e deeds: the moment, the first place, the effort -/
def rp (st : Nat) (f : Nat → Int32) : Nat → Nat × Nat × Int32
  | 0 => (0, 0, 0)
  | e + 1 => if f e = 0 then ((rp st f e).1 + 1, (rp st f e).2.1, (rp st f e).2.2) else ((rp st f e).1, rdN (nI (rp st f e).2.1 + f e), (rp st f e).2.2 + f_ef (nI st) (nI (rp st f e).2.1) (f e))
theorem rp_1 (st : Nat) (f : Nat → Int32) (e : Nat) : (rp st f e).1 ≤ e := by
  induction e with
  | zero => exact Nat.le_refl _
  | succ e ih =>
    unfold rp
    split
    · exact Nat.succ_le_succ ih
    · exact Nat.le_succ_of_le ih
theorem rp_2 (st : Nat) (f : Nat → Int32) (e : Nat) : (rp st f e).2.1 < 24 := by
  induction e with
  | zero => decide
  | succ e ih =>
    unfold rp
    split
    · exact ih
    · exact rdN_lt _
theorem rp_congr {st : Nat} {f g : Nat → Int32} {e : Nat} (h : ∀ k, k < e → f k = g k) : rp st f e = rp st g e := by
  induction e with
  | zero => rfl
  | succ e ih =>
    unfold rp
    rw [ih (fun k hk => h k (by omega)), h e (by omega)]
/-- a night at n (its deeds at n + 1) and the reference's block from a on -/
def RN (st n a : Nat) (I A : Nat → Nat → Int32) : Prop := ∃ d, d ≤ 40 ∧ I n 1 = nI d ∧ A 52 a = nI d ∧ I n 2 = nI (rp st (A (n + 1)) d).1 ∧ I n 3 = nI (rp st (A (n + 1)) d).2.1 ∧ I n 4 = (rp st (A (n + 1)) d).2.2 ∧ A 52 (a + 1) = nI (rp st (A (n + 1)) d).1 ∧ A 52 (a + 2) = nI (rp st (A (n + 1)) d).2.1 ∧ A 52 (a + 3) = (rp st (A (n + 1)) d).2.2 ∧ ∀ e, e < d → A 52 (a + 4 + 3 * e) = nI (rp st (A (n + 1)) e).1 ∧ A 52 (a + 5 + 3 * e) = nI (rp st (A (n + 1)) e).2.1 ∧ A 52 (a + 6 + 3 * e) = (rp st (A (n + 1)) e).2.2
def RQ (st : Nat) (I A : Nat → Nat → Int32) : Prop := ∀ k, k < 3 → (I (45 + 2 * k) 1 = -1 ∧ A 52 (124 + 124 * k) = -1) ∨ RN st (45 + 2 * k) (124 + 124 * k) I A
def RF (I A : Nat → Nat → Int32) : Prop := I 0 13 = I 51 15 ∧ ∀ k, k < 6 → A 19 k = A 61 k
def RU (I : Nat → Nat → Int32) : Prop := I 0 14 = I 51 12
def RJ (J : Nat → Nat → Int64) : Prop := J 0 15 = J 51 13 ∧ J 0 16 = J 51 14
def RS (F : Nat → Nat) : Prop := (F 0 = 14 ∧ F 1 = 15 ∨ F 0 = 15 ∧ F 1 = 14) ∧ (F 2 = 17 ∧ F 3 = 18 ∨ F 2 = 18 ∧ F 3 = 17)
def RR : XR := fun I A J _ F => ∃ ln b st, RL I A ∧ RT I A ∧ RK I A ∧ RD ln b st I ∧ RN st 8 0 I A ∧ RQ st I A ∧ RF I A ∧ RU I ∧ RJ J ∧ RS F
section Frames
variable {I A : Nat → Nat → Int32} {J : Nat → Nat → Int64} {F : Nat → Nat} {a k c : Nat} {v : Int32} {f : Nat → Int32} {ln b st n : Nat}
theorem u2_ne {x y : Nat} (h : x ≠ a ∨ y ≠ k) : u2 I a k v x y = I x y := if_neg (by omega)
theorem RL_u2 (h : k ≠ 1 ∨ a < 20 ∨ 31 < a) (hr : RL I A) : RL (u2 I a k v) A := by
  intro q hq
  rw [u2_ne (by omega)]
  exact hr q hq
theorem RL_ua (h : c < 21 ∨ (31 < c ∧ c ≠ 57 ∧ c ≠ 58)) (hr : RL I A) : RL I (ua A c f) := by
  intro q hq
  rw [ua_ne (by omega), ua_ne (by omega), ua_ne (by omega)]
  exact hr q hq
theorem RT_u2 (h : k ≠ 1 ∨ a < 32 ∨ 39 < a) (hr : RT I A) : RT (u2 I a k v) A := by
  intro q hq
  rw [u2_ne (by omega)]
  exact hr q hq
theorem RT_ua (h : c < 33 ∨ (39 < c ∧ c ≠ 59 ∧ c ≠ 60)) (hr : RT I A) : RT I (ua A c f) := by
  intro q hq
  rw [ua_ne (by omega), ua_ne (by omega), ua_ne (by omega)]
  exact hr q hq
theorem RK_u2 (h : a < 40 ∨ 44 < a) (hr : RK I A) : RK (u2 I a k v) A := by
  intro q hq
  rw [u2_ne (by omega), u2_ne (by omega), u2_ne (by omega), u2_ne (by omega)]
  exact hr q hq
theorem RK_ua (h : c < 53 ∨ 56 < c) (hr : RK I A) : RK I (ua A c f) := by
  intro q hq
  unfold mL
  rw [ua_ne (by omega), ua_ne (by omega), ua_ne (by omega), ua_ne (by omega)]
  exact hr q hq
theorem RD_u2 (h : (a ≠ 0 ∨ k ≠ 12) ∧ (a ≠ 51 ∨ 3 < k) ∧ a ≠ 7) (hr : RD ln b st I) : RD ln b st (u2 I a k v) := by
  unfold RD
  rw [u2_ne (by omega), u2_ne (by omega), u2_ne (by omega), u2_ne (by omega), u2_ne (by omega), u2_ne (by omega)]
  exact hr
theorem RN_u2 (h : a ≠ n) (hr : RN st n c I A) : RN st n c (u2 I a k v) A := by
  unfold RN
  rw [u2_ne (by omega), u2_ne (by omega), u2_ne (by omega), u2_ne (by omega)]
  exact hr
theorem RN_ua {x : Nat} (h : c ≠ n + 1 ∧ c ≠ 52) (hr : RN st n x I A) : RN st n x I (ua A c f) := by
  unfold RN
  rw [ua_ne (x := 52) (by omega), ua_ne (x := n + 1) (by omega)]
  exact hr
theorem RQ_u2 (h : a < 45 ∨ 49 < a) (hr : RQ st I A) : RQ st (u2 I a k v) A := by
  intro q hq
  rw [u2_ne (by omega)]
  exact (hr q hq).imp id (RN_u2 (by omega))
theorem RQ_ua (h : c < 46 ∨ (50 < c ∧ c ≠ 52)) (hr : RQ st I A) : RQ st I (ua A c f) := by
  intro q hq
  rw [ua_ne (x := 52) (by omega)]
  exact (hr q hq).imp id (RN_ua (by omega))
theorem RF_u2 (h : (a ≠ 0 ∨ k ≠ 13) ∧ (a ≠ 51 ∨ k ≠ 15)) (hr : RF I A) : RF (u2 I a k v) A := by
  unfold RF
  rw [u2_ne (by omega), u2_ne (by omega)]
  exact hr
theorem RF_ua (h : c ≠ 19 ∧ c ≠ 61) (hr : RF I A) : RF I (ua A c f) := by
  unfold RF
  rw [ua_ne (x := 19) (by omega), ua_ne (x := 61) (by omega)]
  exact hr
theorem RU_u2 (h : (a ≠ 0 ∨ k ≠ 14) ∧ (a ≠ 51 ∨ k ≠ 12)) (hr : RU I) : RU (u2 I a k v) := by
  unfold RU
  rw [u2_ne (by omega), u2_ne (by omega)]
  exact hr
theorem RU_told {w : Int32} (e : v = w) : RU (u2 (u2 I 0 14 v) 51 12 w) := by
  subst e
  exact rfl
theorem RF_found (n : Nat) (hr : RF I A) : RF (u2 (u2 I 0 13 (nI n)) 51 15 (nI n)) (f_cnt (f_cnt A 19 n) 61 n) := by
  refine ⟨rfl, fun k hk => ?_⟩
  have h := hr.2
  unfold f_cnt
  rw [ua_ne (x := 19) (by decide), ua_eq, ua_eq, ua_ne (x := 61) (c := 19) (by decide)]
  by_cases hkn : k = n
  · subst hkn
    rw [pk_us, pk_us, h k hk]
  · rw [pk_un hkn, pk_un hkn, h k hk]
end Frames
theorem RL_found {I A : Nat → Nat → Int32} {c n : Nat} (h : c = 19 ∨ c = 61) (hr : RL I A) : RL I (f_cnt A c n) := RL_ua (by omega) hr
theorem RT_found {I A : Nat → Nat → Int32} {c n : Nat} (h : c = 19 ∨ c = 61) (hr : RT I A) : RT I (f_cnt A c n) := RT_ua (by omega) hr
theorem RK_found {I A : Nat → Nat → Int32} {c n : Nat} (h : c = 19 ∨ c = 61) (hr : RK I A) : RK I (f_cnt A c n) := RK_ua (by omega) hr
theorem RN_found {I A : Nat → Nat → Int32} {c n st x m : Nat} (h : c = 19 ∨ c = 61) (hm : m = 8) (hr : RN st m x I A) : RN st m x I (f_cnt A c n) := RN_ua (by omega) hr
theorem RQ_found {I A : Nat → Nat → Int32} {c n st : Nat} (h : c = 19 ∨ c = 61) (hr : RQ st I A) : RQ st I (f_cnt A c n) := RQ_ua (by omega) hr
/-- a finding on both sides -/
theorem RR_found {I A : Nat → Nat → Int32} {J B : Nat → Nat → Int64} {F : Nat → Nat} (n : Nat) (hr : RR I A J B F) : RR (u2 (u2 I 0 13 (nI n)) 51 15 (nI n)) (f_cnt (f_cnt A 19 n) 61 n) J B F := by
  obtain ⟨ln, b, st, hL, hT, hK, hD, hN, hQ, hF, hU, hJ, hS⟩ := hr
  refine ⟨ln, b, st, RL_u2 (by omega) (RL_u2 (by omega) (RL_found (Or.inr rfl) (RL_found (Or.inl rfl) hL))), RT_u2 (by omega) (RT_u2 (by omega) (RT_found (Or.inr rfl) (RT_found (Or.inl rfl) hT))), RK_u2 (by omega) (RK_u2 (by omega) (RK_found (Or.inr rfl) (RK_found (Or.inl rfl) hK))), RD_u2 (by omega) (RD_u2 (by omega) hD), RN_u2 (by omega) (RN_u2 (by omega) (RN_found (Or.inr rfl) rfl (RN_found (Or.inl rfl) rfl hN))), RQ_u2 (by omega) (RQ_u2 (by omega) (RQ_found (Or.inr rfl) (RQ_found (Or.inl rfl) hQ))), RF_found n hF, RU_u2 (by omega) (RU_u2 (by omega) hU), hJ, hS⟩
theorem RR_init : RR x_I0 x_A0 x_J0 x_B0 x_F0 := by
  refine ⟨0, 0, 0, ?_, ?_, ?_, ?_, ?_, ?_, ?_, rfl, ⟨rfl, rfl⟩, Or.inl ⟨rfl, rfl⟩, Or.inl ⟨rfl, rfl⟩⟩
  · intro q hq
    rcases (show q = 0 ∨ q = 1 ∨ q = 2 ∨ q = 3 ∨ q = 4 ∨ q = 5 by omega) with rfl | rfl | rfl | rfl | rfl | rfl <;> exact ⟨rfl, Or.inl rfl, fun k hk => rfl⟩
  · intro q hq
    have hb : byOK 0 := by decide
    rcases (show q = 0 ∨ q = 1 ∨ q = 2 ∨ q = 3 by omega) with rfl | rfl | rfl | rfl <;> exact ⟨rfl, Or.inl rfl, fun k hk => ⟨rfl, hb⟩⟩
  · intro q hq
    have hk : f_kd 0 := Or.inl rfl
    have hs : spOK 0 := by decide
    have e : ∀ x, x_A0 53 x = 0 ∧ x_A0 54 x = 0 ∧ x_A0 55 x = 0 ∧ x_A0 56 x = 0 := fun x => ⟨rfl, rfl, rfl, rfl⟩
    rcases (show q = 0 ∨ q = 1 ∨ q = 2 ∨ q = 3 ∨ q = 4 by omega) with rfl | rfl | rfl | rfl | rfl <;> exact ⟨rfl, rfl, rfl, rfl, ⟨hk, Nat.zero_le _⟩, rfl, hs, 0, by decide, rfl⟩
  · exact ⟨by decide, by decide, by decide, rfl, rfl, rfl, rfl, rfl, rfl⟩
  · exact ⟨0, by decide, rfl, rfl, rfl, rfl, rfl, rfl, rfl, rfl, fun e he => absurd he (Nat.not_lt_zero e)⟩
  · intro q hq
    rcases (show q = 0 ∨ q = 1 ∨ q = 2 by omega) with rfl | rfl | rfl <;> exact Or.inl ⟨rfl, rfl⟩
  · exact ⟨rfl, fun k hk => rfl⟩
