/-! the calls of rows and texts, both sides -/
theorem opI_mk {X : XX} {R : XR} {μx μm d1 d2 : Nat} {as : List Value} {I A I1 A1 I2 A2 : Nat → Nat → Int32} {J B J1 B1 J2 B2 : Nat → Nat → Int64} {F F1 F2 : Nat → Nat} {r : Int32} (l1 : d1 ≤ 8) (l2 : d2 ≤ 8) (h1 : x_ev X xT d1 μx (.ref 0 :: as) (HX I A J B F) (some (.int r)) (HX I1 A1 J1 B1 F1)) (h2 : x_ev X xT d2 μm (.ref 51 :: as) (HX I1 A1 J1 B1 F1) (some (.int r)) (HX I2 A2 J2 B2 F2)) (hr : R I2 A2 J2 B2 F2) : ∃ (r : Int32) (I1 A1 : Nat → Nat → Int32) (J1 B1 : Nat → Nat → Int64) (F1 : Nat → Nat) (I2 A2 : Nat → Nat → Int32) (J2 B2 : Nat → Nat → Int64) (F2 : Nat → Nat), x_ev X xT 8 μx (.ref 0 :: as) (HX I A J B F) (some (.int r)) (HX I1 A1 J1 B1 F1) ∧ x_ev X xT 8 μm (.ref 51 :: as) (HX I1 A1 J1 B1 F1) (some (.int r)) (HX I2 A2 J2 B2 F2) ∧ R I2 A2 J2 B2 F2 := ⟨r, I1, A1, J1, B1, F1, I2, A2, J2, B2, F2, x_ev_le l1 h1, x_ev_le l2 h2, hr⟩
theorem opJ_mk {X : XX} {R : XR} {μx μm d1 d2 : Nat} {as : List Value} {I A I1 A1 I2 A2 : Nat → Nat → Int32} {J B J1 B1 J2 B2 : Nat → Nat → Int64} {F F1 F2 : Nat → Nat} {r : Int64} (l1 : d1 ≤ 8) (l2 : d2 ≤ 8) (h1 : x_ev X xT d1 μx (.ref 0 :: as) (HX I A J B F) (some (.long r)) (HX I1 A1 J1 B1 F1)) (h2 : x_ev X xT d2 μm (.ref 51 :: as) (HX I1 A1 J1 B1 F1) (some (.long r)) (HX I2 A2 J2 B2 F2)) (hr : R I2 A2 J2 B2 F2) : ∃ (r : Int64) (I1 A1 : Nat → Nat → Int32) (J1 B1 : Nat → Nat → Int64) (F1 : Nat → Nat) (I2 A2 : Nat → Nat → Int32) (J2 B2 : Nat → Nat → Int64) (F2 : Nat → Nat), x_ev X xT 8 μx (.ref 0 :: as) (HX I A J B F) (some (.long r)) (HX I1 A1 J1 B1 F1) ∧ x_ev X xT 8 μm (.ref 51 :: as) (HX I1 A1 J1 B1 F1) (some (.long r)) (HX I2 A2 J2 B2 F2) ∧ R I2 A2 J2 B2 F2 := ⟨r, I1, A1, J1, B1, F1, I2, A2, J2, B2, F2, x_ev_le l1 h1, x_ev_le l2 h2, hr⟩
theorem ua_comm {A : Nat → Nat → Int32} {c d : Nat} {f g : Nat → Int32} (h : c ≠ d) : ua (ua A c f) d g = ua (ua A d g) c f := by
  funext x
  unfold ua
  split
  · rw [if_neg (by omega)]
  · rfl
theorem ix3 (x : Int32) (n : Nat) (hn : n < 2 ^ 31) : x < 0 ∨ nI n ≤ x ∨ ∃ j, j < n ∧ x = nI j := pk_ix x hn
section RelLs
variable {I A : Nat → Nat → Int32}
theorem RelL_sz {q : Nat} (hq : q < 6) {z : Int32} (hz : szOK 40 z) (hr : RelL I A) : RelL (u2 I (20 + 2 * q) 1 z) (ua A 57 (upd (A 57) q z)) := by
  intro p hp
  rw [ua_eq, ua_ne (x := 21 + 2 * p) (by omega), ua_ne (x := 58) (by omega)]
  by_cases h : p = q
  · subst h
    rw [u2_eq, pk_us]
    exact ⟨rfl, hz, (hr p hp).2.2⟩
  · rw [u2_ne (by omega), pk_un h]
    exact hr p hp
theorem RelL_ce {q : Nat} (hq : q < 6) {g G : Nat → Int32} (h1 : ∀ k, k < 40 → g k = G (40 * q + k)) (h2 : ∀ x, x < 40 * q ∨ 40 * q + 40 ≤ x → G x = A 58 x) (hr : RelL I A) : RelL I (ua (ua A (21 + 2 * q) g) 58 G) := by
  intro p hp
  rw [ua_ne (x := 57) (c := 58) (by omega), ua_ne (x := 57) (by omega), ua_eq, ua_ne (x := 21 + 2 * p) (c := 58) (by omega)]
  by_cases h : p = q
  · subst h
    rw [ua_eq]
    exact ⟨(hr p hp).1, (hr p hp).2.1, h1⟩
  · rw [ua_ne (by omega)]
    refine ⟨(hr p hp).1, (hr p hp).2.1, fun k hk => ?_⟩
    rw [h2 _ (by rcases Nat.lt_or_gt_of_ne h with z | z <;> omega)]
    exact (hr p hp).2.2 k hk
theorem RelT_sz {t : Nat} (ht : t < 4) {z : Int32} (hz : szOK 60 z) (hr : RelT I A) : RelT (u2 I (20 + 2 * (6 + t)) 1 z) (ua A 59 (upd (A 59) t z)) := by
  intro p hp
  rw [ua_eq, ua_ne (x := 21 + 2 * (6 + p)) (by omega), ua_ne (x := 60) (by omega)]
  by_cases h : p = t
  · subst h
    rw [u2_eq, pk_us]
    exact ⟨rfl, hz, (hr p hp).2.2⟩
  · rw [u2_ne (by omega), pk_un h]
    exact hr p hp
theorem RelT_ce {q : Nat} (hq : q < 4) {g G : Nat → Int32} (h1 : ∀ k, k < 60 → g k = G (60 * q + k) ∧ byOK (G (60 * q + k))) (h2 : ∀ x, x < 60 * q ∨ 60 * q + 60 ≤ x → G x = A 60 x) (hr : RelT I A) : RelT I (ua (ua A (21 + 2 * (6 + q)) g) 60 G) := by
  intro p hp
  rw [ua_ne (x := 59) (c := 60) (by omega), ua_ne (x := 59) (by omega), ua_eq, ua_ne (x := 21 + 2 * (6 + p)) (c := 60) (by omega)]
  by_cases h : p = q
  · subst h
    rw [ua_eq]
    exact ⟨(hr p hp).1, (hr p hp).2.1, h1⟩
  · rw [ua_ne (by omega)]
    refine ⟨(hr p hp).1, (hr p hp).2.1, fun k hk => ?_⟩
    rw [h2 _ (by rcases Nat.lt_or_gt_of_ne h with z | z <;> omega)]
    exact (hr p hp).2.2 k hk
end RelLs
theorem byOK_i2b (x : Int32) : byOK x.toInt8.toInt32 := by
  unfold byOK
  rw [Int8.toInt_toInt32]
  have h1 := Int8.le_toInt x.toInt8
  have h2 := Int8.toInt_lt x.toInt8
  omega
theorem op_0 {X : XX} : Op_0 X RelR := by
  intro a1 a2 I A J B F hr
  obtain ⟨ln, b, st, hL, hT, hK, hD, hN, hQ, hF, hU, hJ, hS⟩ := id hr
  rcases ix3 a1 6 (by first | decide | omega) with hq | hq | ⟨q, hq, rfl⟩
  · exact opI_mk (by decide) (by decide) (c_row_bad a1 (Or.inl hq) a2) (m_row_bad a1 (Or.inl hq) a2) (hr)
  · exact opI_mk (by decide) (by decide) (c_row_bad a1 (Or.inr hq) a2) (m_row_bad a1 (Or.inr hq) a2) (hr)
  · by_cases hB : nI 40 < a2
    · exact opI_mk (by decide) (by decide) (c_row_B q hq a2 hB) (m_row_B q hq a2 hB) (hr)
    · by_cases hS0 : a2 < 0
      · exact opI_mk (by decide) (by decide) (c_row_S q hq a2 hS0) (m_row_S q hq a2 hS0) (RelR_found 5 hr)
      · obtain ⟨n, hn, rfl⟩ := nI_of2 (M := nI 40) (n := 40) rfl hS0 (Int32.not_lt.mp hB)
        exact opI_mk (by decide) (by decide) (c_row_0 q hq n hn) (m_row_0 q hq n hn) (⟨ln, b, st, (by
            rw [ua_ne (x := 57) (by omega), ua_ne (x := 58) (by omega), ua_comm (c := 21 + 2 * q) (d := 57) (by omega)]
            refine RelL_ce hq (fun k hk => ?_) (fun x hx => ?_) (RelL_sz hq (Or.inr ⟨n, hn, rfl⟩) hL)
            · rw [rm_row hq]
              unfold f_fill
              rw [if_pos (by omega), if_pos (by omega)]
            · unfold f_fill
              rw [if_neg (by omega)]
              exact (congrFun (ua_ne (by omega)) x).symm), (by repeat first | exact hT | refine RelT_u2 (by omega) ?_ | refine RelT_ua (by omega) ?_), (by repeat first | exact hK | refine RelK_u2 (by omega) ?_ | refine RelK_ua (by omega) ?_), (by repeat first | exact hD | refine RelD_u2 (by omega) ?_), (by repeat first | exact hN | refine RelN_u2 (by omega) ?_ | refine RelN_ua (by omega) ?_), (by repeat first | exact hQ | refine RelQ_u2 (by omega) ?_ | refine RelQ_ua (by omega) ?_), (by repeat first | exact hF | refine RelF_u2 (by omega) ?_ | refine RelF_ua (by omega) ?_), (by repeat first | exact hU | refine RelU_u2 (by omega) ?_), hJ, hS⟩)
theorem op_6 {X : XX} : Op_6 X RelR := by
  intro a1 a2 I A J B F hr
  obtain ⟨ln, b, st, hL, hT, hK, hD, hN, hQ, hF, hU, hJ, hS⟩ := id hr
  rcases ix3 a1 4 (by first | decide | omega) with hq | hq | ⟨q, hq, rfl⟩
  · exact opI_mk (by decide) (by decide) (c_text_bad a1 (Or.inl hq) a2) (m_text_bad a1 (Or.inl hq) a2) (hr)
  · exact opI_mk (by decide) (by decide) (c_text_bad a1 (Or.inr hq) a2) (m_text_bad a1 (Or.inr hq) a2) (hr)
  · by_cases hB : nI 60 < a2
    · exact opI_mk (by decide) (by decide) (c_text_B q hq a2 hB) (m_text_B q hq a2 hB) (hr)
    · by_cases hS0 : a2 < 0
      · exact opI_mk (by decide) (by decide) (c_text_S q hq a2 hS0) (m_text_S q hq a2 hS0) (RelR_found 5 hr)
      · obtain ⟨n, hn, rfl⟩ := nI_of2 (M := nI 60) (n := 60) rfl hS0 (Int32.not_lt.mp hB)
        exact opI_mk (by decide) (by decide) (c_text_0 q hq n hn) (m_text_0 q hq n hn) (⟨ln, b, st, (by repeat first | exact hL | refine RelL_u2 (by omega) ?_ | refine RelL_ua (by omega) ?_), (by
            rw [ua_ne (x := 59) (by omega), ua_ne (x := 60) (by omega), ua_comm (c := 21 + 2 * (6 + q)) (d := 59) (by omega)]
            refine RelT_ce hq (fun k hk => ?_) (fun x hx => ?_) (RelT_sz hq (Or.inr ⟨n, hn, rfl⟩) hT)
            · rw [rm_txt]
              unfold f_fill
              rw [if_pos (by omega), if_pos (by omega)]
              exact ⟨rfl, ⟨by decide, by decide⟩⟩
            · unfold f_fill
              rw [if_neg (by omega)]
              exact (congrFun (ua_ne (by omega)) x).symm), (by repeat first | exact hK | refine RelK_u2 (by omega) ?_ | refine RelK_ua (by omega) ?_), (by repeat first | exact hD | refine RelD_u2 (by omega) ?_), (by repeat first | exact hN | refine RelN_u2 (by omega) ?_ | refine RelN_ua (by omega) ?_), (by repeat first | exact hQ | refine RelQ_u2 (by omega) ?_ | refine RelQ_ua (by omega) ?_), (by repeat first | exact hF | refine RelF_u2 (by omega) ?_ | refine RelF_ua (by omega) ?_), (by repeat first | exact hU | refine RelU_u2 (by omega) ?_), hJ, hS⟩)
theorem op_2 {X : XX} : Op_2 X RelR := by
  intro a1 a2 I A J B F hr
  obtain ⟨ln, b, st, hL, hT, hK, hD, hN, hQ, hF, hU, hJ, hS⟩ := id hr
  rcases ix3 a1 6 (by first | decide | omega) with hq | hq | ⟨q, hq, rfl⟩
  · exact opI_mk (by decide) (by decide) (c_at_bad a1 (Or.inl hq) a2) (m_at_bad a1 (Or.inl hq) a2) (hr)
  · exact opI_mk (by decide) (by decide) (c_at_bad a1 (Or.inr hq) a2) (m_at_bad a1 (Or.inr hq) a2) (hr)
  · rcases (hL q hq).2.1 with hz | ⟨k, hk, hz⟩
    · exact opI_mk (by decide) (by decide) (c_at_M q hq ((hL q hq).1.trans hz) a2) (m_at_M q hq (by exact hz) a2) (RelR_found 1 hr)
    · rcases ix3 a2 k (by first | decide | omega) with hj | hj | ⟨j, hj, rfl⟩
      · exact opI_mk (by decide) (by decide) (c_at_B q hq k (by rw [rm_row hq]; exact hk) ((hL q hq).1.trans hz) a2 (Or.inl hj)) (m_at_B q hq k hk (by exact hz) a2 (Or.inl hj)) (RelR_found 2 hr)
      · exact opI_mk (by decide) (by decide) (c_at_B q hq k (by rw [rm_row hq]; exact hk) ((hL q hq).1.trans hz) a2 (Or.inr hj)) (m_at_B q hq k hk (by exact hz) a2 (Or.inr hj)) (RelR_found 2 hr)
      · exact opI_mk (by decide) (by decide) (c_at_0 q hq k (by rw [rm_row hq]; exact hk) ((hL q hq).1.trans hz) j hj) (m_at_0 q hq k hk (by exact hz) j hj) (⟨ln, b, st, (by repeat first | exact hL | refine RelL_u2 (by omega) ?_ | refine RelL_ua (by omega) ?_), (by repeat first | exact hT | refine RelT_u2 (by omega) ?_ | refine RelT_ua (by omega) ?_), (by repeat first | exact hK | refine RelK_u2 (by omega) ?_ | refine RelK_ua (by omega) ?_), (by repeat first | exact hD | refine RelD_u2 (by omega) ?_), (by repeat first | exact hN | refine RelN_u2 (by omega) ?_ | refine RelN_ua (by omega) ?_), (by repeat first | exact hQ | refine RelQ_u2 (by omega) ?_ | refine RelQ_ua (by omega) ?_), (by repeat first | exact hF | refine RelF_u2 (by omega) ?_ | refine RelF_ua (by omega) ?_), (RelU_told ((hL q hq).2.2 j (by omega))), hJ, hS⟩)
theorem op_1 {X : XX} : Op_1 X RelR := by
  intro a1 a2 a3 I A J B F hr
  obtain ⟨ln, b, st, hL, hT, hK, hD, hN, hQ, hF, hU, hJ, hS⟩ := id hr
  rcases ix3 a1 6 (by first | decide | omega) with hq | hq | ⟨q, hq, rfl⟩
  · exact opI_mk (by decide) (by decide) (c_lay_bad a1 (Or.inl hq) a2 a3) (m_lay_bad a1 (Or.inl hq) a2 a3) (hr)
  · exact opI_mk (by decide) (by decide) (c_lay_bad a1 (Or.inr hq) a2 a3) (m_lay_bad a1 (Or.inr hq) a2 a3) (hr)
  · rcases (hL q hq).2.1 with hz | ⟨k, hk, hz⟩
    · exact opI_mk (by decide) (by decide) (c_lay_M q hq ((hL q hq).1.trans hz) a2 a3) (m_lay_M q hq (by exact hz) a2 a3) (RelR_found 1 hr)
    · rcases ix3 a2 k (by first | decide | omega) with hj | hj | ⟨j, hj, rfl⟩
      · exact opI_mk (by decide) (by decide) (c_lay_B q hq k (by rw [rm_row hq]; exact hk) ((hL q hq).1.trans hz) a2 (Or.inl hj) a3) (m_lay_B q hq k hk (by exact hz) a2 (Or.inl hj) a3) (RelR_found 2 hr)
      · exact opI_mk (by decide) (by decide) (c_lay_B q hq k (by rw [rm_row hq]; exact hk) ((hL q hq).1.trans hz) a2 (Or.inr hj) a3) (m_lay_B q hq k hk (by exact hz) a2 (Or.inr hj) a3) (RelR_found 2 hr)
      · exact opI_mk (by decide) (by decide) (c_lay_0 q hq k (by rw [rm_row hq]; exact hk) ((hL q hq).1.trans hz) j hj a3) (m_lay_0 q hq k hk ((congrFun (ua_ne (by omega)) q).trans hz) j hj a3) (⟨ln, b, st, (by
                rw [ua_ne (x := 58) (by omega)]
                refine RelL_u2 (by omega) (RelL_u2 (by omega) (RelL_ce hq (fun i hi => ?_) (fun x hx => ?_) hL))
                · by_cases e : i = j
                  · subst e
                    rw [pk_us, pk_us]
                  · rw [pk_un e, pk_un (by omega)]
                    exact (hL q hq).2.2 i hi
                · exact pk_un (by omega)), (by repeat first | exact hT | refine RelT_u2 (by omega) ?_ | refine RelT_ua (by omega) ?_), (by repeat first | exact hK | refine RelK_u2 (by omega) ?_ | refine RelK_ua (by omega) ?_), (by repeat first | exact hD | refine RelD_u2 (by omega) ?_), (by repeat first | exact hN | refine RelN_u2 (by omega) ?_ | refine RelN_ua (by omega) ?_), (by repeat first | exact hQ | refine RelQ_u2 (by omega) ?_ | refine RelQ_ua (by omega) ?_), (by repeat first | exact hF | refine RelF_u2 (by omega) ?_ | refine RelF_ua (by omega) ?_), (RelU_told (by rw [ua_ne (x := 58) (by omega)]; exact (hL q hq).2.2 j (by omega))), hJ, hS⟩)
theorem op_3 {X : XX} : Op_3 X RelR := by
  intro a1 I A J B F hr
  obtain ⟨ln, b, st, hL, hT, hK, hD, hN, hQ, hF, hU, hJ, hS⟩ := id hr
  rcases ix3 a1 6 (by first | decide | omega) with hq | hq | ⟨q, hq, rfl⟩
  · exact opI_mk (by decide) (by decide) (c_tear_bad a1 (Or.inl hq)) (m_tear_bad a1 (Or.inl hq)) (hr)
  · exact opI_mk (by decide) (by decide) (c_tear_bad a1 (Or.inr hq)) (m_tear_bad a1 (Or.inr hq)) (hr)
  · rcases (hL q hq).2.1 with hz | ⟨k, hk, hz⟩
    · exact opI_mk (by decide) (by decide) (c_tear_M q hq ((hL q hq).1.trans hz)) (m_tear_M q hq (by exact hz)) (RelR_found 1 hr)
    · exact opI_mk (by decide) (by decide) (c_tear_0 q hq k (by rw [rm_row hq]; exact hk) ((hL q hq).1.trans hz)) (m_tear_0 q hq k hk (by exact hz)) (⟨ln, b, st, RelL_sz hq (Or.inl rfl) hL, (by repeat first | exact hT | refine RelT_u2 (by omega) ?_ | refine RelT_ua (by omega) ?_), (by repeat first | exact hK | refine RelK_u2 (by omega) ?_ | refine RelK_ua (by omega) ?_), (by repeat first | exact hD | refine RelD_u2 (by omega) ?_), (by repeat first | exact hN | refine RelN_u2 (by omega) ?_ | refine RelN_ua (by omega) ?_), (by repeat first | exact hQ | refine RelQ_u2 (by omega) ?_ | refine RelQ_ua (by omega) ?_), (by repeat first | exact hF | refine RelF_u2 (by omega) ?_ | refine RelF_ua (by omega) ?_), (by repeat first | exact hU | refine RelU_u2 (by omega) ?_), hJ, hS⟩)
theorem f_sum_congr {f g : Nat → Int32} : ∀ (n i : Nat) (s : Int64), (∀ k, i ≤ k → k < i + n → f k = g k) → f_sum f n i s = f_sum g n i s := by
  intro n
  induction n with
  | zero => intro i s h; rfl
  | succ n ih =>
    intro i s h
    unfold f_sum
    rw [h i (by omega) (by omega)]
    exact ih _ _ (fun k h1 h2 => h k (by omega) (by omega))
theorem op_5 {X : XX} : Op_5 X RelR := by
  intro a1 I A J B F hr
  obtain ⟨ln, b, st, hL, hT, hK, hD, hN, hQ, hF, hU, hJ, hS⟩ := id hr
  rcases ix3 a1 6 (by first | decide | omega) with hq | hq | ⟨q, hq, rfl⟩
  · exact opI_mk (by decide) (by decide) (c_mean_bad a1 (Or.inl hq)) (m_mean_bad a1 (Or.inl hq)) (hr)
  · exact opI_mk (by decide) (by decide) (c_mean_bad a1 (Or.inr hq)) (m_mean_bad a1 (Or.inr hq)) (hr)
  · rcases (hL q hq).2.1 with hz | ⟨k, hk, hz⟩
    · exact opI_mk (by decide) (by decide) (c_mean_M q hq ((hL q hq).1.trans hz)) (m_mean_M q hq (by exact hz)) (RelR_found 1 hr)
    · by_cases h0 : 0 < k
      · exact opI_mk (by decide) (by decide) (c_mean_0 q hq k (by rw [rm_row hq]; exact hk) ((hL q hq).1.trans hz) h0) (m_mean_0 q hq k hk (by exact hz) h0) (⟨ln, b, st, (by repeat first | exact hL | refine RelL_u2 (by omega) ?_ | refine RelL_ua (by omega) ?_), (by repeat first | exact hT | refine RelT_u2 (by omega) ?_ | refine RelT_ua (by omega) ?_), (by repeat first | exact hK | refine RelK_u2 (by omega) ?_ | refine RelK_ua (by omega) ?_), (by repeat first | exact hD | refine RelD_u2 (by omega) ?_), (by repeat first | exact hN | refine RelN_u2 (by omega) ?_ | refine RelN_ua (by omega) ?_), (by repeat first | exact hQ | refine RelQ_u2 (by omega) ?_ | refine RelQ_ua (by omega) ?_), (by repeat first | exact hF | refine RelF_u2 (by omega) ?_ | refine RelF_ua (by omega) ?_), (RelU_told (by rw [f_sum_congr (f := A (21 + 2 * q)) (g := fun x => A 58 (40 * q + x)) k 0 0 (fun x _ hx => (hL q hq).2.2 x (by omega))])), hJ, hS⟩)
      · have hk0 : k = 0 := by omega
        subst hk0
        exact opI_mk (by decide) (by decide) (c_mean_E q hq ((hL q hq).1.trans hz)) (m_mean_E q hq (by exact hz)) (RelR_found 4 hr)
theorem op_7 {X : XX} : Op_7 X RelR := by
  intro a1 a2 a3 I A J B F hr
  obtain ⟨ln, b, st, hL, hT, hK, hD, hN, hQ, hF, hU, hJ, hS⟩ := id hr
  rcases ix3 a1 4 (by first | decide | omega) with hq | hq | ⟨q, hq, rfl⟩
  · exact opI_mk (by decide) (by decide) (c_put_bad a1 (Or.inl hq) a2 a3) (m_put_bad a1 (Or.inl hq) a2 a3) (hr)
  · exact opI_mk (by decide) (by decide) (c_put_bad a1 (Or.inr hq) a2 a3) (m_put_bad a1 (Or.inr hq) a2 a3) (hr)
  · rcases (hT q hq).2.1 with hz | ⟨k, hk, hz⟩
    · exact opI_mk (by decide) (by decide) (c_put_M q hq ((hT q hq).1.trans hz) a2 a3) (m_put_M q hq (by exact hz) a2 a3) (RelR_found 1 hr)
    · rcases ix3 a2 k (by first | decide | omega) with hj | hj | ⟨j, hj, rfl⟩
      · exact opI_mk (by decide) (by decide) (c_put_B q hq k (by rw [rm_txt]; exact hk) ((hT q hq).1.trans hz) a2 a3 (Or.inl hj)) (m_put_B q hq k hk (by exact hz) a2 a3 (Or.inl hj)) (RelR_found 2 hr)
      · exact opI_mk (by decide) (by decide) (c_put_B q hq k (by rw [rm_txt]; exact hk) ((hT q hq).1.trans hz) a2 a3 (Or.inr hj)) (m_put_B q hq k hk (by exact hz) a2 a3 (Or.inr hj)) (RelR_found 2 hr)
      · have e9 := ((hT q hq).2.2 j (by omega)).1
        have c9 := c_put_0 (X := X) (A := A) (J := J) (B := B) (F := F) q hq k (by rw [rm_txt]; exact hk) ((hT q hq).1.trans hz) j hj a3
        rw [e9] at c9
        have m9 := m_put_0 (X := X) (I := I) (A := ua A (21 + 2 * (6 + q)) (upd (A (21 + 2 * (6 + q))) j a3.toInt8.toInt32)) (J := J) (B := B) (F := F) q hq k hk ((congrFun (ua_ne (by omega)) q).trans hz) j hj a3
        rw [ua_ne (x := 60) (by omega)] at m9
        exact opI_mk (by decide) (by decide) (c9) (m9) (⟨ln, b, st, (by repeat first | exact hL | refine RelL_u2 (by omega) ?_ | refine RelL_ua (by omega) ?_), (by
                refine RelT_ce hq (fun i hi => ?_) (fun x hx => ?_) hT
                · by_cases e : i = j
                  · subst e
                    rw [pk_us, pk_us]
                    exact ⟨rfl, byOK_i2b _⟩
                  · rw [pk_un e, pk_un (by omega)]
                    exact (hT q hq).2.2 i hi
                · exact pk_un (by omega)), (by repeat first | exact hK | refine RelK_u2 (by omega) ?_ | refine RelK_ua (by omega) ?_), (by repeat first | exact hD | refine RelD_u2 (by omega) ?_), (by repeat first | exact hN | refine RelN_u2 (by omega) ?_ | refine RelN_ua (by omega) ?_), (by repeat first | exact hQ | refine RelQ_u2 (by omega) ?_ | refine RelQ_ua (by omega) ?_), (by repeat first | exact hF | refine RelF_u2 (by omega) ?_ | refine RelF_ua (by omega) ?_), (by repeat first | exact hU | refine RelU_u2 (by omega) ?_), hJ, hS⟩)
theorem span3 (x : Int32) (n k : Nat) : (x < 0 ∨ ∃ a, a < 2 ^ 31 ∧ x = nI a ∧ k < a + n) ∨ ∃ a, a + n ≤ k ∧ x = nI a := by
  by_cases h : x < 0
  · exact Or.inl (Or.inl h)
  · obtain ⟨a, ha, rfl⟩ := nI_of h
    by_cases h2 : k < a + n
    · exact Or.inl (Or.inr ⟨a, ha, rfl, h2⟩)
    · exact Or.inr ⟨a, by omega, rfl⟩
theorem op_4 {X : XX} : Op_4 X RelR := by
  intro a1 a2 a3 a4 a5 I A J B F hr
  obtain ⟨ln, b, st, hL, hT, hK, hD, hN, hQ, hF, hU, hJ, hS⟩ := id hr
  rcases ix3 a1 6 (by first | decide | omega) with hq | hq | ⟨q, hq, rfl⟩
  · rcases ix3 a3 6 (by first | decide | omega) with hp | hp | ⟨p, hp, rfl⟩
    · exact opI_mk (by decide) (by decide) (c_copy_bb a1 (Or.inl hq) a3 a2 a4 a5 (Or.inl hp)) (m_copy_b a1 (Or.inl hq) a3 a2 a4 a5) (hr)
    · exact opI_mk (by decide) (by decide) (c_copy_bb a1 (Or.inl hq) a3 a2 a4 a5 (Or.inr hp)) (m_copy_b a1 (Or.inl hq) a3 a2 a4 a5) (hr)
    · exact opI_mk (by decide) (by decide) (c_copy_bo a1 (Or.inl hq) p hp a2 a4 a5) (m_copy_b a1 (Or.inl hq) (nI p) a2 a4 a5) (hr)
  · rcases ix3 a3 6 (by first | decide | omega) with hp | hp | ⟨p, hp, rfl⟩
    · exact opI_mk (by decide) (by decide) (c_copy_bb a1 (Or.inr hq) a3 a2 a4 a5 (Or.inl hp)) (m_copy_b a1 (Or.inr hq) a3 a2 a4 a5) (hr)
    · exact opI_mk (by decide) (by decide) (c_copy_bb a1 (Or.inr hq) a3 a2 a4 a5 (Or.inr hp)) (m_copy_b a1 (Or.inr hq) a3 a2 a4 a5) (hr)
    · exact opI_mk (by decide) (by decide) (c_copy_bo a1 (Or.inr hq) p hp a2 a4 a5) (m_copy_b a1 (Or.inr hq) (nI p) a2 a4 a5) (hr)
  · rcases ix3 a3 6 (by first | decide | omega) with hp | hp | ⟨p, hp, rfl⟩
    · exact opI_mk (by decide) (by decide) (c_copy_ob q hq a3 a2 a4 a5 (Or.inl hp)) (m_copy_ob q hq a3 a2 a4 a5 (Or.inl hp)) (hr)
    · exact opI_mk (by decide) (by decide) (c_copy_ob q hq a3 a2 a4 a5 (Or.inr hp)) (m_copy_ob q hq a3 a2 a4 a5 (Or.inr hp)) (hr)
    · by_cases hneg : a5 < 0
      · exact opI_mk (by decide) (by decide) (c_copy_S q hq p hp a2 a4 a5 hneg) (m_copy_S q hq p hp a2 a4 a5 hneg) (RelR_found 5 hr)
      · obtain ⟨n, hn, rfl⟩ := nI_of hneg
        rcases (hL q hq).2.1 with hz | ⟨k, hk, hz⟩
        · exact opI_mk (by decide) (by decide) (c_copy_M1 q hq p hp a2 a4 n hn ((hL q hq).1.trans hz)) (m_copy_M1 q hq p hp a2 a4 n hn (by exact hz)) (RelR_found 1 hr)
        · rcases (hL p hp).2.1 with hz2 | ⟨k2, hk2, hz2⟩
          · exact opI_mk (by decide) (by decide) (c_copy_M2 q hq p hp a2 a4 n hn k (by rw [rm_row hq]; exact hk) ((hL q hq).1.trans hz) ((hL p hp).1.trans hz2)) (m_copy_M2 q hq p hp a2 a4 n hn k hk (by exact hz) (by exact hz2)) (RelR_found 1 hr)
          · rcases span3 a2 n k with hi | ⟨i, hi, rfl⟩
            · exact opI_mk (by decide) (by decide) (c_copy_B1 q hq p hp a2 a4 n hn k (by rw [rm_row hq]; exact hk) ((hL q hq).1.trans hz) k2 (by rw [rm_row hp]; exact hk2) ((hL p hp).1.trans hz2) hi) (m_copy_B1 q hq p hp a2 a4 n hn k hk (by exact hz) k2 hk2 (by exact hz2) hi) (RelR_found 2 hr)
            · rcases span3 a4 n k2 with hj | ⟨j, hj, rfl⟩
              · exact opI_mk (by decide) (by decide) (c_copy_B2 q hq p hp i a4 n hn k (by rw [rm_row hq]; exact hk) ((hL q hq).1.trans hz) k2 (by rw [rm_row hp]; exact hk2) ((hL p hp).1.trans hz2) hi hj) (m_copy_B2 q hq p hp i a4 n hn k hk (by exact hz) k2 hk2 (by exact hz2) hi hj) (RelR_found 2 hr)
              · by_cases hb : i < j
                · exact opI_mk (by decide) (by decide) (c_copy_0 q hq p hp i j n hn k (by rw [rm_row hq]; exact hk) ((hL q hq).1.trans hz) k2 (by rw [rm_row hp]; exact hk2) ((hL p hp).1.trans hz2) hi hj) (m_copy_0b q hq p hp i j n k hk ((congrFun (ua_ne (by omega)) q).trans hz) k2 hk2 ((congrFun (ua_ne (by omega)) p).trans hz2) hi hj hb) (⟨ln, b, st, (by
                          rw [ua_ne (x := 58) (by omega)]
                          refine RelL_ce hp (fun x hx => ?_) (fun x hx => ?_) hL
                          · by_cases e : j ≤ x ∧ x < j + n
                            · rw [pk_cpy_in e.1 e.2, pk_cpy_in (by omega) (by omega), (hL q hq).2.2 _ (by omega)]
                              congr 1
                              omega
                            · rw [pk_cpy_out (by omega), pk_cpy_out (by omega)]
                              exact (hL p hp).2.2 x hx
                          · exact pk_cpy_out (by omega)), (by repeat first | exact hT | refine RelT_u2 (by omega) ?_ | refine RelT_ua (by omega) ?_), (by repeat first | exact hK | refine RelK_u2 (by omega) ?_ | refine RelK_ua (by omega) ?_), (by repeat first | exact hD | refine RelD_u2 (by omega) ?_), (by repeat first | exact hN | refine RelN_u2 (by omega) ?_ | refine RelN_ua (by omega) ?_), (by repeat first | exact hQ | refine RelQ_u2 (by omega) ?_ | refine RelQ_ua (by omega) ?_), (by repeat first | exact hF | refine RelF_u2 (by omega) ?_ | refine RelF_ua (by omega) ?_), (by repeat first | exact hU | refine RelU_u2 (by omega) ?_), hJ, hS⟩)
                · exact opI_mk (by decide) (by decide) (c_copy_0 q hq p hp i j n hn k (by rw [rm_row hq]; exact hk) ((hL q hq).1.trans hz) k2 (by rw [rm_row hp]; exact hk2) ((hL p hp).1.trans hz2) hi hj) (m_copy_0f q hq p hp i j n k hk ((congrFun (ua_ne (by omega)) q).trans hz) k2 hk2 ((congrFun (ua_ne (by omega)) p).trans hz2) hi hj (Nat.not_lt.mp hb)) (⟨ln, b, st, (by
                          rw [ua_ne (x := 58) (by omega)]
                          refine RelL_ce hp (fun x hx => ?_) (fun x hx => ?_) hL
                          · by_cases e : j ≤ x ∧ x < j + n
                            · rw [pk_cpy_in e.1 e.2, pk_cpy_in (by omega) (by omega), (hL q hq).2.2 _ (by omega)]
                              congr 1
                              omega
                            · rw [pk_cpy_out (by omega), pk_cpy_out (by omega)]
                              exact (hL p hp).2.2 x hx
                          · exact pk_cpy_out (by omega)), (by repeat first | exact hT | refine RelT_u2 (by omega) ?_ | refine RelT_ua (by omega) ?_), (by repeat first | exact hK | refine RelK_u2 (by omega) ?_ | refine RelK_ua (by omega) ?_), (by repeat first | exact hD | refine RelD_u2 (by omega) ?_), (by repeat first | exact hN | refine RelN_u2 (by omega) ?_ | refine RelN_ua (by omega) ?_), (by repeat first | exact hQ | refine RelQ_u2 (by omega) ?_ | refine RelQ_ua (by omega) ?_), (by repeat first | exact hF | refine RelF_u2 (by omega) ?_ | refine RelF_ua (by omega) ?_), (by repeat first | exact hU | refine RelU_u2 (by omega) ?_), hJ, hS⟩)
