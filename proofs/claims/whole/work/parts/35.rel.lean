/-! THE RELATION between the class's cells and the reference's -/
def szOK (m : Nat) (z : Int32) : Prop := z = -1 ∨ ∃ k, k ≤ m ∧ z = nI k
def byOK (x : Int32) : Prop := -128 ≤ x.toInt ∧ x.toInt ≤ 127
def RelL (I A : Nat → Nat → Int32) : Prop := ∀ q, q < 6 → I (20 + 2 * q) 1 = A 57 q ∧ szOK 40 (A 57 q) ∧ ∀ k, k < 40 → A (21 + 2 * q) k = A 58 (40 * q + k)
def RelT (I A : Nat → Nat → Int32) : Prop := ∀ t, t < 4 → I (20 + 2 * (6 + t)) 1 = A 59 t ∧ szOK 60 (A 59 t) ∧ ∀ k, k < 60 → A (21 + 2 * (6 + t)) k = A 60 (60 * t + k) ∧ byOK (A 60 (60 * t + k))
def spOK (x : Int32) : Prop := -2 ≤ x.toInt ∧ x.toInt ≤ 3
def RelK (I A : Nat → Nat → Int32) : Prop := ∀ i, i < 5 → I (40 + i) 0 = A 53 i ∧ I (40 + i) 1 = A 54 i ∧ I (40 + i) 2 = A 55 i ∧ I (40 + i) 3 = A 56 i ∧ lOK (mL A i) ∧ A 56 i = nI (tn (A 56 i)) ∧ spOK (A 55 i) ∧ ∃ p, p < 24 ∧ A 54 i = nI p
def RelD (ln b st : Nat) (I : Nat → Nat → Int32) : Prop := ln ≤ 5 ∧ b ≤ 5 ∧ st < 24 ∧ I 0 12 = nI ln ∧ I 51 3 = nI ln ∧ I 7 0 = nI b ∧ I 51 1 = nI b ∧ I 7 1 = nI st ∧ I 51 2 = nI st ∧ (ln = 0 ∨ 1 ≤ b)
/-- the night behind the first e deeds: the moment, the first place, the effort -/
def rp (st : Nat) (f : Nat → Int32) : Nat → Nat × Nat × Int32
  | 0 => (0, 0, 0)
  | e + 1 => if f e = 0 then ((rp st f e).1 + 1, (rp st f e).2.1, (rp st f e).2.2) else ((rp st f e).1, rdN (nI (rp st f e).2.1 + f e), (rp st f e).2.2 + f_ef (nI st) (nI (rp st f e).2.1) (f e))
theorem rp_1 (st : Nat) (f : Nat → Int32) (e : Nat) : (rp st f e).1 ≤ e := by
  induction e with
  | zero => exact Nat.le_refl _
  | succ e ih =>
    unfold rp
    split
    · exact Nat.succ_le_succ ih
    · exact Nat.le_succ_of_le ih
theorem rp_2 (st : Nat) (f : Nat → Int32) (e : Nat) : (rp st f e).2.1 < 24 := by
  induction e with
  | zero => exact Nat.zero_lt_succ _
  | succ e ih =>
    unfold rp
    split
    · exact ih
    · exact rdN_lt _
theorem rp_congr {st : Nat} {f g : Nat → Int32} {e : Nat} (h : ∀ k, k < e → f k = g k) : rp st f e = rp st g e := by
  induction e with
  | zero => rfl
  | succ e ih =>
    unfold rp
    rw [ih (fun k hk => h k (by omega)), h e (by omega)]
/-- a night at n (its deeds at n + 1) and the reference's block from a on -/
def RelN (st n a : Nat) (I A : Nat → Nat → Int32) : Prop := ∃ d, d ≤ 40 ∧ I n 1 = nI d ∧ A 52 a = nI d ∧ I n 2 = nI (rp st (A (n + 1)) d).1 ∧ I n 3 = nI (rp st (A (n + 1)) d).2.1 ∧ I n 4 = (rp st (A (n + 1)) d).2.2 ∧ A 52 (a + 1) = nI (rp st (A (n + 1)) d).1 ∧ A 52 (a + 2) = nI (rp st (A (n + 1)) d).2.1 ∧ A 52 (a + 3) = (rp st (A (n + 1)) d).2.2 ∧ ∀ e, e < d → A 52 (a + 4 + 3 * e) = nI (rp st (A (n + 1)) e).1 ∧ A 52 (a + 5 + 3 * e) = nI (rp st (A (n + 1)) e).2.1 ∧ A 52 (a + 6 + 3 * e) = (rp st (A (n + 1)) e).2.2
def RelQ (st : Nat) (I A : Nat → Nat → Int32) : Prop := ∀ k, k < 3 → (I (45 + 2 * k) 1 = -1 ∧ A 52 (124 + 124 * k) = -1) ∨ RelN st (45 + 2 * k) (124 + 124 * k) I A
def RelF (I A : Nat → Nat → Int32) : Prop := I 0 13 = I 51 15 ∧ ∀ k, k < 6 → A 19 k = A 61 k
def RelU (I : Nat → Nat → Int32) : Prop := I 0 14 = I 51 12
def RelJ (J : Nat → Nat → Int64) : Prop := J 0 15 = J 51 13 ∧ J 0 16 = J 51 14
def RelS (F : Nat → Nat) : Prop := (F 0 = 14 ∧ F 1 = 15 ∨ F 0 = 15 ∧ F 1 = 14) ∧ (F 2 = 17 ∧ F 3 = 18 ∨ F 2 = 18 ∧ F 3 = 17)
def RelR : XR := fun I A J _ F => ∃ ln b st, RelL I A ∧ RelT I A ∧ RelK I A ∧ RelD ln b st I ∧ RelN st 8 0 I A ∧ RelQ st I A ∧ RelF I A ∧ RelU I ∧ RelJ J ∧ RelS F
section Frames
variable {I A : Nat → Nat → Int32} {J : Nat → Nat → Int64} {F : Nat → Nat} {a k c : Nat} {v : Int32} {f : Nat → Int32} {ln b st n : Nat}
theorem u2_ne {x y : Nat} (h : x ≠ a ∨ y ≠ k) : u2 I a k v x y = I x y := if_neg (by omega)
theorem RelL_u2 (h : k ≠ 1 ∨ a < 20 ∨ 31 < a) (hr : RelL I A) : RelL (u2 I a k v) A := by
  intro q hq
  rw [u2_ne (by omega)]
  exact hr q hq
theorem RelL_ua (h : c < 21 ∨ (31 < c ∧ c ≠ 57 ∧ c ≠ 58)) (hr : RelL I A) : RelL I (ua A c f) := by
  intro q hq
  rw [ua_ne (by omega), ua_ne (by omega), ua_ne (by omega)]
  exact hr q hq
theorem RelT_u2 (h : k ≠ 1 ∨ a < 32 ∨ 39 < a) (hr : RelT I A) : RelT (u2 I a k v) A := by
  intro q hq
  rw [u2_ne (by omega)]
  exact hr q hq
theorem RelT_ua (h : c < 33 ∨ (39 < c ∧ c ≠ 59 ∧ c ≠ 60)) (hr : RelT I A) : RelT I (ua A c f) := by
  intro q hq
  rw [ua_ne (by omega), ua_ne (by omega), ua_ne (by omega)]
  exact hr q hq
theorem RelK_u2 (h : a < 40 ∨ 44 < a) (hr : RelK I A) : RelK (u2 I a k v) A := by
  intro q hq
  rw [u2_ne (by omega), u2_ne (by omega), u2_ne (by omega), u2_ne (by omega)]
  exact hr q hq
theorem RelK_ua (h : c < 53 ∨ 56 < c) (hr : RelK I A) : RelK I (ua A c f) := by
  intro q hq
  unfold mL
  rw [ua_ne (by omega), ua_ne (by omega), ua_ne (by omega), ua_ne (by omega)]
  exact hr q hq
theorem RelD_u2 (h : (a ≠ 0 ∨ k ≠ 12) ∧ (a ≠ 51 ∨ 3 < k) ∧ a ≠ 7) (hr : RelD ln b st I) : RelD ln b st (u2 I a k v) := by
  unfold RelD
  rw [u2_ne (by omega), u2_ne (by omega), u2_ne (by omega), u2_ne (by omega), u2_ne (by omega), u2_ne (by omega)]
  exact hr
theorem RelN_u2 (h : a ≠ n) (hr : RelN st n c I A) : RelN st n c (u2 I a k v) A := by
  unfold RelN
  rw [u2_ne (by omega), u2_ne (by omega), u2_ne (by omega), u2_ne (by omega)]
  exact hr
theorem RelN_ua {x : Nat} (h : c ≠ n + 1 ∧ c ≠ 52) (hr : RelN st n x I A) : RelN st n x I (ua A c f) := by
  unfold RelN
  rw [ua_ne (x := 52) (by omega), ua_ne (x := n + 1) (by omega)]
  exact hr
theorem RelQ_u2 (h : a < 45 ∨ 49 < a) (hr : RelQ st I A) : RelQ st (u2 I a k v) A := by
  intro q hq
  rw [u2_ne (by omega)]
  exact (hr q hq).imp id (RelN_u2 (by omega))
theorem RelQ_ua (h : c < 46 ∨ (50 < c ∧ c ≠ 52)) (hr : RelQ st I A) : RelQ st I (ua A c f) := by
  intro q hq
  rw [ua_ne (x := 52) (by omega)]
  exact (hr q hq).imp id (RelN_ua (by omega))
theorem RelF_u2 (h : (a ≠ 0 ∨ k ≠ 13) ∧ (a ≠ 51 ∨ k ≠ 15)) (hr : RelF I A) : RelF (u2 I a k v) A := by
  unfold RelF
  rw [u2_ne (by omega), u2_ne (by omega)]
  exact hr
theorem RelF_ua (h : c ≠ 19 ∧ c ≠ 61) (hr : RelF I A) : RelF I (ua A c f) := by
  unfold RelF
  rw [ua_ne (x := 19) (by omega), ua_ne (x := 61) (by omega)]
  exact hr
theorem RelU_u2 (h : (a ≠ 0 ∨ k ≠ 14) ∧ (a ≠ 51 ∨ k ≠ 12)) (hr : RelU I) : RelU (u2 I a k v) := by
  unfold RelU
  rw [u2_ne (by omega), u2_ne (by omega)]
  exact hr
theorem RelU_told {w : Int32} (e : v = w) : RelU (u2 (u2 I 0 14 v) 51 12 w) := by
  subst e
  exact rfl
theorem RelF_found (n : Nat) (hr : RelF I A) : RelF (u2 (u2 I 0 13 (nI n)) 51 15 (nI n)) (f_cnt (f_cnt A 19 n) 61 n) := by
  refine ⟨rfl, fun k hk => ?_⟩
  have h := hr.2
  unfold f_cnt
  rw [ua_ne (x := 19) (by decide), ua_eq, ua_eq, ua_ne (x := 61) (c := 19) (by decide)]
  by_cases hkn : k = n
  · subst hkn
    rw [pk_us, pk_us, h k hk]
  · rw [pk_un hkn, pk_un hkn, h k hk]
end Frames
theorem RelL_found {I A : Nat → Nat → Int32} {c n : Nat} (h : c = 19 ∨ c = 61) (hr : RelL I A) : RelL I (f_cnt A c n) := RelL_ua (by omega) hr
theorem RelT_found {I A : Nat → Nat → Int32} {c n : Nat} (h : c = 19 ∨ c = 61) (hr : RelT I A) : RelT I (f_cnt A c n) := RelT_ua (by omega) hr
theorem RelK_found {I A : Nat → Nat → Int32} {c n : Nat} (h : c = 19 ∨ c = 61) (hr : RelK I A) : RelK I (f_cnt A c n) := RelK_ua (by omega) hr
theorem RelN_found {I A : Nat → Nat → Int32} {c n st x m : Nat} (h : c = 19 ∨ c = 61) (hm : m = 8) (hr : RelN st m x I A) : RelN st m x I (f_cnt A c n) := RelN_ua (by omega) hr
theorem RelQ_found {I A : Nat → Nat → Int32} {c n st : Nat} (h : c = 19 ∨ c = 61) (hr : RelQ st I A) : RelQ st I (f_cnt A c n) := RelQ_ua (by omega) hr
/-- a finding on both sides -/
theorem RelR_found {I A : Nat → Nat → Int32} {J B : Nat → Nat → Int64} {F : Nat → Nat} (n : Nat) (hr : RelR I A J B F) : RelR (u2 (u2 I 0 13 (nI n)) 51 15 (nI n)) (f_cnt (f_cnt A 19 n) 61 n) J B F := by
  obtain ⟨ln, b, st, hL, hT, hK, hD, hN, hQ, hF, hU, hJ, hS⟩ := hr
  refine ⟨ln, b, st, RelL_u2 (by omega) (RelL_u2 (by omega) (RelL_found (Or.inr rfl) (RelL_found (Or.inl rfl) hL))), RelT_u2 (by omega) (RelT_u2 (by omega) (RelT_found (Or.inr rfl) (RelT_found (Or.inl rfl) hT))), RelK_u2 (by omega) (RelK_u2 (by omega) (RelK_found (Or.inr rfl) (RelK_found (Or.inl rfl) hK))), RelD_u2 (by omega) (RelD_u2 (by omega) hD), RelN_u2 (by omega) (RelN_u2 (by omega) (RelN_found (Or.inr rfl) rfl (RelN_found (Or.inl rfl) rfl hN))), RelQ_u2 (by omega) (RelQ_u2 (by omega) (RelQ_found (Or.inr rfl) (RelQ_found (Or.inl rfl) hQ))), RelF_found n hF, RelU_u2 (by omega) (RelU_u2 (by omega) hU), hJ, hS⟩
theorem RelR_init : RelR x_I0 x_A0 x_J0 x_B0 x_F0 := by
  refine ⟨0, 0, 0, ?_, ?_, ?_, ?_, ?_, ?_, ?_, rfl, ⟨rfl, rfl⟩, Or.inl ⟨rfl, rfl⟩, Or.inl ⟨rfl, rfl⟩⟩
  · intro q hq
    rcases (show q = 0 ∨ q = 1 ∨ q = 2 ∨ q = 3 ∨ q = 4 ∨ q = 5 by omega) with rfl | rfl | rfl | rfl | rfl | rfl <;> exact ⟨rfl, Or.inl rfl, fun k hk => rfl⟩
  · intro q hq
    have hb : byOK 0 := ⟨by decide, by decide⟩
    rcases (show q = 0 ∨ q = 1 ∨ q = 2 ∨ q = 3 by omega) with rfl | rfl | rfl | rfl <;> exact ⟨rfl, Or.inl rfl, fun k hk => ⟨rfl, hb⟩⟩
  · intro q hq
    have hk : f_kd 0 := Or.inl rfl
    have hs : spOK 0 := ⟨by decide, by decide⟩
    have e : ∀ x, x_A0 53 x = 0 ∧ x_A0 54 x = 0 ∧ x_A0 55 x = 0 ∧ x_A0 56 x = 0 := fun x => ⟨rfl, rfl, rfl, rfl⟩
    rcases (show q = 0 ∨ q = 1 ∨ q = 2 ∨ q = 3 ∨ q = 4 by omega) with rfl | rfl | rfl | rfl | rfl <;> exact ⟨rfl, rfl, rfl, rfl, ⟨hk, Nat.zero_le _⟩, rfl, hs, 0, by decide, rfl⟩
  · exact ⟨by decide, by decide, by decide, rfl, rfl, rfl, rfl, rfl, rfl, Or.inl rfl⟩
  · exact ⟨0, by decide, rfl, rfl, rfl, rfl, rfl, rfl, rfl, rfl, fun e he => absurd he (Nat.not_lt_zero e)⟩
  · intro q hq
    rcases (show q = 0 ∨ q = 1 ∨ q = 2 by omega) with rfl | rfl | rfl <;> exact Or.inl ⟨rfl, rfl⟩
  · exact ⟨rfl, fun k hk => rfl⟩
