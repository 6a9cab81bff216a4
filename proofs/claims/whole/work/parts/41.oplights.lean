/-! the calls of lights and deeds, both sides -/
section KLs
variable {I A : Nat → Nat → Int32}
theorem RelK_cL (h : RelK I A) : ∀ i, i < 5 → cL I (40 + i) = mL A i := by
  intro i hi
  obtain ⟨h0, h1, h2, h3, _⟩ := h i hi
  unfold cL mL
  rw [h0, h1, h2, h3]
theorem RelK_hl (h : RelK I A) : mLk A := fun i hi => ⟨(h i hi).2.2.2.2.1, (h i hi).2.2.2.2.2.1⟩
theorem RelK_lks (h : RelK I A) : ∀ i, i < 5 → lkOK I (40 + i) := by
  intro i hi
  unfold lkOK
  rw [RelK_cL h i hi, (h i hi).2.2.2.1]
  exact RelK_hl h i hi
theorem RelK_sp (h : RelK I A) : ∀ i, i < 5 → spOK (A 55 i) := fun i hi => (h i hi).2.2.2.2.2.2.1
theorem RelK_st (h : RelK I A) : ∀ i, i < 5 → ∃ p, p < 24 ∧ A 54 i = nI p := fun i hi => (h i hi).2.2.2.2.2.2.2
end KLs
theorem kpd_1 (f : Nat → Int32) (d x : Nat) (h1 : 1 ≤ x) (h : x < 4) : kpd f d x = f x := (pk_un (by omega)).trans (kpl_ne h)
theorem kpl3 (f : Nat → Int32) (d : Nat) : kpl f d 3 = upd (upd (upd f (4 + 3 * d) (f 1)) (5 + 3 * d) (f 2)) (6 + 3 * d) (f 3) := by
  rw [show kpl f d 3 = upd (kpl f d 2) (4 + 3 * d + 2) (kpl f d 2 (1 + 2)) from rfl, kpl_ne (k := 2) (x := 1 + 2) (by decide), show kpl f d 2 = upd (kpl f d 1) (4 + 3 * d + 1) (kpl f d 1 (1 + 1)) from rfl, kpl_ne (k := 1) (x := 1 + 1) (by decide), show kpl f d 1 = upd f (4 + 3 * d) (f 1) from rfl, show 4 + 3 * d + 2 = 6 + 3 * d by omega, show 4 + 3 * d + 1 = 5 + 3 * d by omega]
theorem kpd_old (f : Nat → Int32) (d x : Nat) (h1 : 4 ≤ x) (h : x < 4 + 3 * d) : kpd f d x = f x := by
  unfold kpd
  rw [pk_un (by omega), kpl3, pk_un (by omega), pk_un (by omega), pk_un (by omega)]
theorem kpd_n0 (f : Nat → Int32) (d : Nat) : kpd f d (4 + 3 * d) = f 1 := by
  unfold kpd
  rw [pk_un (by omega), kpl3, pk_un (by omega), pk_un (by omega), pk_us]
theorem kpd_n1 (f : Nat → Int32) (d : Nat) : kpd f d (5 + 3 * d) = f 2 := by
  unfold kpd
  rw [pk_un (by omega), kpl3, pk_un (by omega), pk_us]
theorem kpd_n2 (f : Nat → Int32) (d : Nat) : kpd f d (6 + 3 * d) = f 3 := by
  unfold kpd
  rw [pk_un (by omega), kpl3, pk_us]
/-- a deed on both sides -/
theorem RelN_deed {st d : Nat} {A I' A' : Nat → Nat → Int32} {x v1 v2 v3 : Int32} (hd : d < 40)
    (a1 : A 52 1 = nI (rp st (A 9) d).1) (a2 : A 52 2 = nI (rp st (A 9) d).2.1) (a3 : A 52 3 = (rp st (A 9) d).2.2)
    (hp : ∀ e, e < d → A 52 (4 + 3 * e) = nI (rp st (A 9) e).1 ∧ A 52 (5 + 3 * e) = nI (rp st (A 9) e).2.1 ∧ A 52 (6 + 3 * e) = (rp st (A 9) e).2.2)
    (h9 : A' 9 = upd (A 9) d x) (e1 : I' 8 1 = nI (d + 1))
    (r1 : v1 = nI (rp st (A' 9) (d + 1)).1) (r2 : v2 = nI (rp st (A' 9) (d + 1)).2.1) (r3 : v3 = (rp st (A' 9) (d + 1)).2.2)
    (e2 : I' 8 2 = v1) (e3 : I' 8 3 = v2) (e4 : I' 8 4 = v3)
    (b0 : A' 52 0 = nI (d + 1)) (b1 : A' 52 1 = v1) (b2 : A' 52 2 = v2) (b3 : A' 52 3 = v3) (bo : ∀ y, 4 ≤ y → A' 52 y = kpd (A 52) d y) : RelN st 8 0 I' A' := by
  have hc : ∀ e, e ≤ d → rp st (A' 9) e = rp st (A 9) e := by
    intro e he
    refine rp_congr (fun k hk => ?_)
    rw [h9, pk_un (by omega)]
  refine ⟨d + 1, by omega, e1, b0, e2.trans r1, e3.trans r2, e4.trans r3, b1.trans r1, b2.trans r2, b3.trans r3, fun e he => ?_⟩
  rw [Nat.zero_add, Nat.zero_add, Nat.zero_add, bo _ (by omega), bo _ (by omega), bo _ (by omega), hc e (by omega)]
  by_cases h : e = d
  · subst h
    rw [kpd_n0, kpd_n1, kpd_n2]
    exact ⟨a1, a2, a3⟩
  · rw [kpd_old _ _ _ (by omega) (by omega), kpd_old _ _ _ (by omega) (by omega), kpd_old _ _ _ (by omega) (by omega)]
    exact hp e (by omega)
section N4s
variable {I A : Nat → Nat → Int32} {v1 v2 v3 v4 : Int32} {ln b st : Nat}
theorem RelL_n4 (h : RelL I A) : RelL (n4 I v1 v2 v3 v4) A := RelL_u2 (by omega) (RelL_u2 (by omega) (RelL_u2 (by omega) (RelL_u2 (by omega) h)))
theorem RelT_n4 (h : RelT I A) : RelT (n4 I v1 v2 v3 v4) A := RelT_u2 (by omega) (RelT_u2 (by omega) (RelT_u2 (by omega) (RelT_u2 (by omega) h)))
theorem RelK_n4 (h : RelK I A) : RelK (n4 I v1 v2 v3 v4) A := RelK_u2 (by omega) (RelK_u2 (by omega) (RelK_u2 (by omega) (RelK_u2 (by omega) h)))
theorem RelD_n4 (h : RelD ln b st I) : RelD ln b st (n4 I v1 v2 v3 v4) := RelD_u2 (by omega) (RelD_u2 (by omega) (RelD_u2 (by omega) (RelD_u2 (by omega) h)))
theorem RelQ_n4 (h : RelQ st I A) : RelQ st (n4 I v1 v2 v3 v4) A := RelQ_u2 (by omega) (RelQ_u2 (by omega) (RelQ_u2 (by omega) (RelQ_u2 (by omega) h)))
theorem RelF_n4 (h : RelF I A) : RelF (n4 I v1 v2 v3 v4) A := RelF_u2 (by omega) (RelF_u2 (by omega) (RelF_u2 (by omega) (RelF_u2 (by omega) h)))
theorem RelU_n4 (h : RelU I) : RelU (n4 I v1 v2 v3 v4) := RelU_u2 (by omega) (RelU_u2 (by omega) (RelU_u2 (by omega) (RelU_u2 (by omega) h)))
/-- kept nights stay where only the present block is written -/
theorem RelQ_blk {g : Nat → Int32} (hg : ∀ x, 124 ≤ x → g x = A 52 x) (h : RelQ st I A) : RelQ st I (ua A 52 g) := by
  intro k hk
  rw [ua_eq, hg _ (by omega)]
  refine (h k hk).imp id (fun hn => ?_)
  unfold RelN
  rw [ua_eq, ua_ne (x := 45 + 2 * k + 1) (by omega), hg _ (by omega), hg _ (by omega), hg _ (by omega), hg _ (by omega)]
  obtain ⟨d, hd, q1, q2, q3, q4, q5, q6, q7, q8, hq⟩ := hn
  refine ⟨d, hd, q1, q2, q3, q4, q5, q6, q7, q8, fun e he => ?_⟩
  rw [hg _ (by omega), hg _ (by omega), hg _ (by omega)]
  exact hq e he
end N4s
theorem kpd_far (f : Nat → Int32) (d x : Nat) (hd : d < 40) (h : 124 ≤ x) : kpd f d x = f x := by
  unfold kpd
  rw [pk_un (by omega), kpl3, pk_un (by omega), pk_un (by omega), pk_un (by omega)]
set_option maxHeartbeats 1000000 in
theorem op_10 {X : XX} : Op_10 X RelR := by
  intro a1 a2 I A J B F hr
  obtain ⟨ln, b, st, hL, hT, hK, hD, hN, hQ, hF, hU, hJ, hS⟩ := id hr
  obtain ⟨hln, hb, hst, eln, eln', eb, eb', e7, e7', hb1⟩ := id hD
  obtain ⟨d, hd, n1, q0, n2, n3, n9, q1, q2, q3, hp⟩ := id hN
  have hm : (rp st (A 9) d).1 ≤ 40 := Nat.le_trans (rp_1 st (A 9) d) hd
  have hs := rp_2 st (A 9) d
  have lks := RelK_lks hK
  have hl := RelK_hl hK
  have cLe := RelK_cL hK
  rcases ix3 a1 ln (by first | decide | omega) with hk | hk | ⟨k, hk, rfl⟩
  · exact opI_mk (by decide) (by decide) (c_light_bad a1 (Or.inl (by first | exact hk | (rw [eln]; exact hk))) a2) (m_light_bad ln hln (by exact eln') a1 (Or.inl hk) a2) (hr)
  · exact opI_mk (by decide) (by decide) (c_light_bad a1 (Or.inr (by first | exact hk | (rw [eln]; exact hk))) a2) (m_light_bad ln hln (by exact eln') a1 (Or.inr hk) a2) (hr)
  · rcases ix3 a2 6 (by first | decide | omega) with hw | hw | ⟨w, hw, rfl⟩
    · exact opI_mk (by decide) (by decide) (c_light_w ln hln eln k hk a2 (Or.inl hw)) (m_light_w ln hln (by exact eln') k hk a2 (Or.inl (by exact hw))) (hr)
    · exact opI_mk (by decide) (by decide) (c_light_w ln hln eln k hk a2 (Or.inr hw)) (m_light_w ln hln (by exact eln') k hk a2 (Or.inr (by exact hw))) (hr)
    · exact opI_mk (by decide) (by decide) (c_light_0 b hb eb (rp st (A 9) d).1 n2 hm (rp st (A 9) d).2.1 n3 hs ln hln eln lks k hk w hw) (m_light_0 b hb (by exact eb') (rp st (A 9) d).1 (by exact q1) hm (rp st (A 9) d).2.1 (by exact q2) hs ln hln (by exact eln') (by exact hl) k hk w hw) (⟨ln, b, st, (by repeat first | exact hL | refine RelL_n4 ?_ | refine RelL_u2 (by omega) ?_ | refine RelL_ua (by omega) ?_), (by repeat first | exact hT | refine RelT_n4 ?_ | refine RelT_u2 (by omega) ?_ | refine RelT_ua (by omega) ?_), (by repeat first | exact hK | refine RelK_n4 ?_ | refine RelK_u2 (by omega) ?_ | refine RelK_ua (by omega) ?_), (by repeat first | exact hD | refine RelD_n4 ?_ | refine RelD_u2 (by omega) ?_), (by repeat first | exact hN | refine RelN_u2 (by omega) ?_ | refine RelN_ua (by omega) ?_), (by repeat first | exact hQ | refine RelQ_n4 ?_ | refine RelQ_u2 (by omega) ?_ | refine RelQ_ua (by omega) ?_), (by repeat first | exact hF | refine RelF_n4 ?_ | refine RelF_u2 (by omega) ?_ | refine RelF_ua (by omega) ?_), (RelU_told (by rw [cLe k (by omega)])), hJ, hS⟩)
set_option maxHeartbeats 1000000 in
theorem op_11 {X : XX} : Op_11 X RelR := by
  intro a1 a2 I A J B F hr
  obtain ⟨ln, b, st, hL, hT, hK, hD, hN, hQ, hF, hU, hJ, hS⟩ := id hr
  obtain ⟨hln, hb, hst, eln, eln', eb, eb', e7, e7', hb1⟩ := id hD
  obtain ⟨d, hd, n1, q0, n2, n3, n9, q1, q2, q3, hp⟩ := id hN
  have hm : (rp st (A 9) d).1 ≤ 40 := Nat.le_trans (rp_1 st (A 9) d) hd
  have hs := rp_2 st (A 9) d
  have lks := RelK_lks hK
  have hl := RelK_hl hK
  have cLe := RelK_cL hK
  rcases ix3 a1 ln (by first | decide | omega) with hk | hk | ⟨k, hk, rfl⟩
  · exact opI_mk (by decide) (by decide) (c_mark_bad a1 (Or.inl (by first | exact hk | (rw [eln]; exact hk))) a2) (m_mark_bad ln hln (by exact eln') a1 (Or.inl hk) a2) (hr)
  · exact opI_mk (by decide) (by decide) (c_mark_bad a1 (Or.inr (by first | exact hk | (rw [eln]; exact hk))) a2) (m_mark_bad ln hln (by exact eln') a1 (Or.inr hk) a2) (hr)
  · rcases ix3 a2 6 (by first | decide | omega) with hw | hw | ⟨w, hw, rfl⟩
    · exact opI_mk (by decide) (by decide) (c_mark_w ln hln eln k hk _ (Or.inl (Int32.lt_of_lt_of_le hw (by decide)))) (m_mark_w ln hln (by exact eln') k hk _ (Or.inl (Int32.lt_of_lt_of_le hw (by decide)))) (hr)
    · exact opI_mk (by decide) (by decide) (c_mark_w ln hln eln k hk _ (Or.inr hw)) (m_mark_w ln hln (by exact eln') k hk _ (Or.inr hw)) (hr)
    · by_cases hw0 : w = 0
      · subst hw0
        exact opI_mk (by decide) (by decide) (c_mark_w ln hln eln k hk _ (Or.inl (by decide))) (m_mark_w ln hln (by exact eln') k hk _ (Or.inl (by decide))) (hr)
      · have e53 := (hK k (by omega)).1
        by_cases hf : f_of (A 53 k) (nI w) = 0
        · exact opI_mk (by decide) (by decide) (c_mark_U ln hln eln k hk w (by omega) hw (by rw [e53]; exact hf)) (m_mark_U ln hln (by exact eln') k hk w (by omega) hw (by exact hf)) (RelR_found 3 hr)
        · have h9 := c_mark_0 (X := X) (A := A) (J := J) (B := B) (F := F) b hb eb (rp st (A 9) d).1 n2 hm (rp st (A 9) d).2.1 n3 hs ln hln eln lks k hk w (by omega) hw (by rw [e53]; exact hf)
          rw [cLe k (by omega)] at h9
          exact opI_mk (by decide) (by decide) (h9) (m_mark_0 b hb (by exact eb') (rp st (A 9) d).1 (by exact q1) hm (rp st (A 9) d).2.1 (by exact q2) hs ln hln (by exact eln') (by omega) (by exact hl) (RelK_sp hK) (RelK_st hK) k hk w (by omega) hw hf) (hr)
set_option maxHeartbeats 1000000 in
theorem op_12 {X : XX} : Op_12 X RelR := by
  intro I A J B F hr
  obtain ⟨ln, b, st, hL, hT, hK, hD, hN, hQ, hF, hU, hJ, hS⟩ := id hr
  obtain ⟨hln, hb, hst, eln, eln', eb, eb', e7, e7', hb1⟩ := id hD
  obtain ⟨d, hd, n1, q0, n2, n3, n9, q1, q2, q3, hp⟩ := id hN
  have hm : (rp st (A 9) d).1 ≤ 40 := Nat.le_trans (rp_1 st (A 9) d) hd
  have hs := rp_2 st (A 9) d
  have lks := RelK_lks hK
  have hl := RelK_hl hK
  have cLe := RelK_cL hK
  by_cases h0 : ln = 0
  · subst h0
    exact opI_mk (by decide) (by decide) (c_moment_S eln) (m_moment_S (by exact eln')) (hr)
  · by_cases h40 : d = 40
    · subst h40
      exact opI_mk (by decide) (by decide) (c_moment_F ln hln eln (by omega) n1) (m_moment_F ln hln (by exact eln') (by omega) (by exact q0)) (hr)
    · have h9 := c_moment_0 (X := X) (A := A) (J := J) (B := B) (F := F) b hb eb (rp st (A 9) d).1 n2 hm (rp st (A 9) d).2.1 n3 hs ln hln eln (by omega) lks d (by omega) n1
      rw [nsum_congr (g := fun i => gnN b (mL A i) (nI (rp st (A 9) d).2.1) (rp st (A 9) d).1) (fun i hi => by rw [cLe i (by omega)])] at h9
      exact opI_mk (by decide) (by decide) (h9) (m_moment_0 b hb (by exact eb') (rp st (A 9) d).1 (by exact q1) hm (rp st (A 9) d).2.1 (by exact q2) hs ln hln (by exact eln') (by omega) (by exact hl) d (by omega) (by exact q0)) (⟨ln, b, st, (by repeat first | exact hL | refine RelL_n4 ?_ | refine RelL_u2 (by omega) ?_ | refine RelL_ua (by omega) ?_), (by repeat first | exact hT | refine RelT_n4 ?_ | refine RelT_u2 (by omega) ?_ | refine RelT_ua (by omega) ?_), (by repeat first | exact hK | refine RelK_n4 ?_ | refine RelK_u2 (by omega) ?_ | refine RelK_ua (by omega) ?_), (by repeat first | exact hD | refine RelD_n4 ?_ | refine RelD_u2 (by omega) ?_), (RelN_deed (x := 0) (v1 := nI ((rp st (A 9) d).1 + 1)) (v2 := nI (rp st (A 9) d).2.1) (v3 := I 8 4) (by omega) q1 q2 q3 (fun e he => by have h := hp e he; rw [Nat.zero_add, Nat.zero_add, Nat.zero_add] at h; exact h) rfl rfl (by rw [show (ua (ua A 9 (upd (A 9) d 0)) 52 _) 9 = upd (A 9) d 0 from rfl, rp_s0 pk_us, rp_congr (g := A 9) (fun k hk => pk_un (by omega))]; try rfl) (by rw [show (ua (ua A 9 (upd (A 9) d 0)) 52 _) 9 = upd (A 9) d 0 from rfl, rp_s0 pk_us, rp_congr (g := A 9) (fun k hk => pk_un (by omega))]; try rfl) (by rw [show (ua (ua A 9 (upd (A 9) d 0)) 52 _) 9 = upd (A 9) d 0 from rfl, rp_s0 pk_us, rp_congr (g := A 9) (fun k hk => pk_un (by omega))]; exact n9) rfl rfl rfl rfl rfl
          (by rw [ua_eq, pk_un (by decide), kpd_1 _ _ 2 (by decide) (by decide)]; exact q2) (by rw [ua_eq, pk_un (by decide), kpd_1 _ _ 3 (by decide) (by decide), n9]; exact q3) (fun y hy => by rw [ua_eq, pk_un (by omega), ua_ne (x := 52) (by decide)])), (RelQ_blk (fun x hx => (pk_un (by omega)).trans ((kpd_far _ _ _ (by omega) hx).trans rfl)) (by repeat first | exact hQ | refine RelQ_n4 ?_ | refine RelQ_ua (by omega) ?_)), (by repeat first | exact hF | refine RelF_n4 ?_ | refine RelF_u2 (by omega) ?_ | refine RelF_ua (by omega) ?_), (by repeat first | exact hU | refine RelU_n4 ?_ | refine RelU_u2 (by omega) ?_), hJ, hS⟩)
set_option maxHeartbeats 1000000 in
theorem op_13 {X : XX} : Op_13 X RelR := by
  intro y I A J B F hr
  obtain ⟨ln, b, st, hL, hT, hK, hD, hN, hQ, hF, hU, hJ, hS⟩ := id hr
  obtain ⟨hln, hb, hst, eln, eln', eb, eb', e7, e7', hb1⟩ := id hD
  obtain ⟨d, hd, n1, q0, n2, n3, n9, q1, q2, q3, hp⟩ := id hN
  have hm : (rp st (A 9) d).1 ≤ 40 := Nat.le_trans (rp_1 st (A 9) d) hd
  have hs := rp_2 st (A 9) d
  have lks := RelK_lks hK
  have hl := RelK_hl hK
  have cLe := RelK_cL hK
  by_cases x0 : y = 0
  · subst x0
    exact opI_mk (by decide) (by decide) (c_turn_bad 0 (Or.inl rfl)) (m_turn_0z) (hr)
  by_cases x1 : y < -6
  · exact opI_mk (by decide) (by decide) (c_turn_bad y (Or.inr (Or.inl x1))) (m_turn_bad y (Or.inl x1)) (hr)
  by_cases x2 : nI 6 < y
  · exact opI_mk (by decide) (by decide) (c_turn_bad y (Or.inr (Or.inr x2))) (m_turn_bad y (Or.inr x2)) (hr)
  replace x2 := Int32.not_lt.mp x2
  by_cases h0 : ln = 0
  · subst h0
    exact opI_mk (by decide) (by decide) (c_turn_S y x0 x1 x2 eln) (m_turn_S y x0 x1 x2 (by exact eln')) (hr)
  · by_cases h40 : d = 40
    · subst h40
      exact opI_mk (by decide) (by decide) (c_turn_F y x0 x1 x2 ln hln eln (by omega) n1) (m_turn_F y x0 x1 x2 ln hln (by exact eln') (by omega) (by exact q0)) (hr)
    · obtain ⟨j, hj, ej⟩ := by6 x1 x2
      have h9 := c_turn_0 (X := X) (A := A) (J := J) (B := B) (F := F) y x0 x1 x2 (rp st (A 9) d).1 n2 hm (rp st (A 9) d).2.1 n3 hs ln hln eln (by omega) d (by omega) n1
      rw [e7] at h9
      exact opI_mk (by decide) (by decide) (h9) (m_turn_0 y x0 x1 x2 st (rp st (A 9) d).2.1 j hst hs hj (by exact e7') (by exact q2) ej ln hln (by exact eln') (by omega) d (by omega) (by exact q0)) (⟨ln, b, st, (by repeat first | exact hL | refine RelL_n4 ?_ | refine RelL_u2 (by omega) ?_ | refine RelL_ua (by omega) ?_), (by repeat first | exact hT | refine RelT_n4 ?_ | refine RelT_u2 (by omega) ?_ | refine RelT_ua (by omega) ?_), (by repeat first | exact hK | refine RelK_n4 ?_ | refine RelK_u2 (by omega) ?_ | refine RelK_ua (by omega) ?_), (by repeat first | exact hD | refine RelD_n4 ?_ | refine RelD_u2 (by omega) ?_), (RelN_deed (x := y) (v1 := nI (rp st (A 9) d).1) (v2 := nI (rdN (nI (rp st (A 9) d).2.1 + y))) (v3 := I 8 4 + f_ef (nI st) (nI (rp st (A 9) d).2.1) y) (by omega) q1 q2 q3 (fun e he => by have h := hp e he; rw [Nat.zero_add, Nat.zero_add, Nat.zero_add] at h; exact h) rfl rfl (by rw [show (ua (ua A 9 (upd (A 9) d y)) 52 _) 9 = upd (A 9) d y from rfl, rp_s1 (by rw [pk_us]; exact x0), pk_us, rp_congr (g := A 9) (fun k hk => pk_un (by omega))]; try rfl) (by rw [show (ua (ua A 9 (upd (A 9) d y)) 52 _) 9 = upd (A 9) d y from rfl, rp_s1 (by rw [pk_us]; exact x0), pk_us, rp_congr (g := A 9) (fun k hk => pk_un (by omega))]; try rfl) (by rw [show (ua (ua A 9 (upd (A 9) d y)) 52 _) 9 = upd (A 9) d y from rfl, rp_s1 (by rw [pk_us]; exact x0), pk_us, rp_congr (g := A 9) (fun k hk => pk_un (by omega))]; rw [n9]) rfl rfl rfl rfl
          (by rw [ua_eq, pk_un (by decide), pk_un (by decide), kpd_1 _ _ 1 (by decide) (by decide)]; exact q1) rfl (by show A 52 3 + f_ef (nI st) (nI (rp st (A 9) d).2.1) y = I 8 4 + f_ef (nI st) (nI (rp st (A 9) d).2.1) y; rw [n9, show A 52 3 = _ from q3]) (fun z hz => by rw [ua_eq, pk_un (by omega), pk_un (by omega), ua_ne (x := 52) (by decide)])), (RelQ_blk (fun x hx => (pk_un (by omega)).trans ((pk_un (by omega)).trans ((kpd_far _ _ _ (by omega) hx).trans rfl))) (by repeat first | exact hQ | refine RelQ_n4 ?_ | refine RelQ_ua (by omega) ?_)), (by repeat first | exact hF | refine RelF_n4 ?_ | refine RelF_u2 (by omega) ?_ | refine RelF_ua (by omega) ?_), (by repeat first | exact hU | refine RelU_n4 ?_ | refine RelU_u2 (by omega) ?_), hJ, hS⟩)
/-- back to the first n deeds -/
theorem RelN_undo {st n : Nat} {A I' A' : Nat → Nat → Int32} (hn : n ≤ 40) (h9 : A' 9 = A 9) (e1 : I' 8 1 = nI n) (e2 : I' 8 2 = nI (rp st (A 9) n).1) (e3 : I' 8 3 = nI (rp st (A 9) n).2.1) (e4 : I' 8 4 = (rp st (A 9) n).2.2)
    (b0 : A' 52 0 = nI n) (b1 : A' 52 1 = nI (rp st (A 9) n).1) (b2 : A' 52 2 = nI (rp st (A 9) n).2.1) (b3 : A' 52 3 = (rp st (A 9) n).2.2)
    (hp : ∀ e, e < n → A' 52 (4 + 3 * e) = nI (rp st (A 9) e).1 ∧ A' 52 (5 + 3 * e) = nI (rp st (A 9) e).2.1 ∧ A' 52 (6 + 3 * e) = (rp st (A 9) e).2.2) : RelN st 8 0 I' A' := by
  refine ⟨n, hn, e1, b0, ?_⟩
  rw [show A' (8 + 1) = A 9 from h9]
  refine ⟨e2, e3, e4, b1, b2, b3, fun e he => ?_⟩
  rw [Nat.zero_add, Nat.zero_add, Nat.zero_add]
  exact hp e he
theorem unl3 (f : Nat → Int32) (n : Nat) : unl f n 3 = upd (upd (upd f 1 (f (4 + 3 * n))) 2 (f (5 + 3 * n))) 3 (f (6 + 3 * n)) := by
  have e1 : unl f n 1 = upd f 1 (f (4 + 3 * n)) := rfl
  have e2 : unl f n 2 = upd (upd f 1 (f (4 + 3 * n))) 2 (f (5 + 3 * n)) := by
    rw [show unl f n 2 = upd (unl f n 1) 2 (unl f n 1 (4 + 3 * n + 1)) from rfl, e1, pk_un (by omega), show 4 + 3 * n + 1 = 5 + 3 * n by omega]
  rw [show unl f n 3 = upd (unl f n 2) 3 (unl f n 2 (4 + 3 * n + 2)) from rfl, e2, pk_un (by omega), pk_un (by omega), show 4 + 3 * n + 2 = 6 + 3 * n by omega]
set_option maxHeartbeats 1000000 in
theorem op_14 {X : XX} : Op_14 X RelR := by
  intro y I A J B F hr
  obtain ⟨ln, b, st, hL, hT, hK, hD, hN, hQ, hF, hU, hJ, hS⟩ := id hr
  obtain ⟨hln, hb, hst, eln, eln', eb, eb', e7, e7', hb1⟩ := id hD
  obtain ⟨d, hd, n1, q0, n2, n3, n9, q1, q2, q3, hp⟩ := id hN
  have hm : (rp st (A 9) d).1 ≤ 40 := Nat.le_trans (rp_1 st (A 9) d) hd
  have hs := rp_2 st (A 9) d
  have lks := RelK_lks hK
  have hl := RelK_hl hK
  have cLe := RelK_cL hK
  by_cases y0 : y < 0
  · exact opI_mk (by decide) (by decide) (c_undo_bad d hd n1 y (Or.inl y0)) (m_undo_bad d y (by exact q0) (Or.inl y0)) (hr)
  by_cases yd : nI d < y
  · exact opI_mk (by decide) (by decide) (c_undo_bad d hd n1 y (Or.inr yd)) (m_undo_bad d y (by exact q0) (Or.inr yd)) (hr)
  obtain ⟨n, hn9, rfl⟩ := nI_of2 (M := nI d) (n := d) (nI_toInt (by omega)) y0 (Int32.not_lt.mp yd)
  by_cases hn : n < d
  · exact opI_mk (by decide) (by decide) (c_undo_0 d hd n1 st e7 n (by omega)) (m_undo_1 d n hd (by exact q0) hn) (⟨ln, b, st, (by repeat first | exact hL | refine RelL_n4 ?_ | refine RelL_u2 (by omega) ?_ | refine RelL_ua (by omega) ?_), (by repeat first | exact hT | refine RelT_n4 ?_ | refine RelT_u2 (by omega) ?_ | refine RelT_ua (by omega) ?_), (by repeat first | exact hK | refine RelK_n4 ?_ | refine RelK_u2 (by omega) ?_ | refine RelK_ua (by omega) ?_), (by repeat first | exact hD | refine RelD_n4 ?_ | refine RelD_u2 (by omega) ?_), (RelN_undo (n := n) (by omega) rfl rfl rfl rfl rfl (by rw [ua_eq]; exact pk_us) (by rw [ua_eq, pk_un (by decide), unl3, pk_un (by decide), pk_un (by decide), pk_us]; exact (by have h := hp n hn; rw [Nat.zero_add, Nat.zero_add, Nat.zero_add] at h; exact h.1)) (by rw [ua_eq, pk_un (by decide), unl3, pk_un (by decide), pk_us]; exact (by have h := hp n hn; rw [Nat.zero_add, Nat.zero_add, Nat.zero_add] at h; exact h.2.1)) (by rw [ua_eq, pk_un (by decide), unl3, pk_us]; exact (by have h := hp n hn; rw [Nat.zero_add, Nat.zero_add, Nat.zero_add] at h; exact h.2.2)) (fun e he => by have h := hp e (by omega); rw [Nat.zero_add, Nat.zero_add, Nat.zero_add] at h; rw [ua_eq, pk_un (by omega), pk_un (by omega), pk_un (by omega), unl3, pk_un (by omega), pk_un (by omega), pk_un (by omega), pk_un (by omega), pk_un (by omega), pk_un (by omega), pk_un (by omega), pk_un (by omega), pk_un (by omega)]; exact h)), (RelQ_blk (fun x hx => by rw [pk_un (by omega), unl3, pk_un (by omega), pk_un (by omega), pk_un (by omega)]) (by repeat first | exact hQ | refine RelQ_n4 ?_ | refine RelQ_ua (by omega) ?_)), (by repeat first | exact hF | refine RelF_n4 ?_ | refine RelF_u2 (by omega) ?_ | refine RelF_ua (by omega) ?_), (by repeat first | exact hU | refine RelU_n4 ?_ | refine RelU_u2 (by omega) ?_), hJ, hS⟩)
  · have hn' : n = d := by omega
    subst hn'
    have h9 := c_undo_0 (X := X) (A := A) (J := J) (B := B) (F := F) n hd n1 st e7 n (by omega)
    rw [Nat.sub_self] at h9
    exact opI_mk (by decide) (by decide) (h9) (m_undo_0 n n hd (by exact q0) rfl) (⟨ln, b, st, (by repeat first | exact hL | refine RelL_n4 ?_ | refine RelL_u2 (by omega) ?_ | refine RelL_ua (by omega) ?_), (by repeat first | exact hT | refine RelT_n4 ?_ | refine RelT_u2 (by omega) ?_ | refine RelT_ua (by omega) ?_), (by repeat first | exact hK | refine RelK_n4 ?_ | refine RelK_u2 (by omega) ?_ | refine RelK_ua (by omega) ?_), (by repeat first | exact hD | refine RelD_n4 ?_ | refine RelD_u2 (by omega) ?_), (RelN_undo (n := n) (by omega) rfl rfl rfl rfl rfl (by rw [ua_eq]; exact pk_us) (by rw [ua_eq, pk_un (by decide)]; exact q1) (by rw [ua_eq, pk_un (by decide)]; exact q2) (by rw [ua_eq, pk_un (by decide)]; exact q3) (fun e he => by have h := hp e (by omega); rw [Nat.zero_add, Nat.zero_add, Nat.zero_add] at h; rw [ua_eq, pk_un (by omega), pk_un (by omega), pk_un (by omega)]; exact h)), (RelQ_blk (fun x hx => by rw [pk_un (by omega)]) (by repeat first | exact hQ | refine RelQ_n4 ?_ | refine RelQ_ua (by omega) ?_)), (by repeat first | exact hF | refine RelF_n4 ?_ | refine RelF_u2 (by omega) ?_ | refine RelF_ua (by omega) ?_), (by repeat first | exact hU | refine RelU_n4 ?_ | refine RelU_u2 (by omega) ?_), hJ, hS⟩)
theorem RelQ_keep {st k : Nat} {I A : Nat → Nat → Int32} (hk : k < 3) (hQ : RelQ st I A) (hN : RelN st 8 0 I A) : RelQ st (k4 I (45 + 2 * k) (I 8 1) (I 8 2) (I 8 3) (I 8 4)) (ua (ua A (46 + 2 * k) (va_cpy (A 9) (A (46 + 2 * k)) 0 0 40)) 52 (va_cpy (A 52) (A 52) 0 (124 * (1 + k)) 124)) := by
  intro j hj
  by_cases h : j = k
  · subst h
    refine Or.inr ?_
    obtain ⟨d, hd, n1, q0, n2, n3, n9, q1, q2, q3, hp⟩ := hN
    have hc : ∀ e, e ≤ 40 → rp st ((ua (ua A (46 + 2 * j) (va_cpy (A 9) (A (46 + 2 * j)) 0 0 40)) 52 (va_cpy (A 52) (A 52) 0 (124 * (1 + j)) 124)) (45 + 2 * j + 1)) e = rp st (A (8 + 1)) e := by
      intro e he
      rw [ua_ne (by omega), show 45 + 2 * j + 1 = 46 + 2 * j by omega, ua_eq]
      refine rp_congr (fun k hk => ?_)
      rw [pk_cpy_in (by omega) (by omega)]
      congr 1
      omega
    have hb : ∀ x, x < 124 → (ua (ua A (46 + 2 * j) (va_cpy (A 9) (A (46 + 2 * j)) 0 0 40)) 52 (va_cpy (A 52) (A 52) 0 (124 * (1 + j)) 124)) 52 (124 + 124 * j + x) = A 52 (0 + x) := by
      intro x hx
      rw [ua_eq, pk_cpy_in (by omega) (by omega)]
      congr 1
      omega
    refine ⟨d, hd, ?_, (hb 0 (by omega)).trans q0, ?_, ?_, ?_, ?_, ?_, ?_, fun e he => ?_⟩
    · unfold k4
      rw [u2_ne (by omega), u2_ne (by omega), u2_ne (by omega), u2_eq]
      exact n1
    · unfold k4
      rw [hc d hd, u2_ne (by omega), u2_ne (by omega), u2_eq]
      exact n2
    · unfold k4
      rw [hc d hd, u2_ne (by omega), u2_eq]
      exact n3
    · unfold k4
      rw [hc d hd, u2_eq]
      exact n9
    · rw [hc d hd, hb 1 (by omega)]
      exact q1
    · rw [hc d hd, hb 2 (by omega)]
      exact q2
    · rw [hc d hd, hb 3 (by omega)]
      exact q3
    · have h := hp e he
      rw [hc e (by omega), show 124 + 124 * j + 4 + 3 * e = 124 + 124 * j + (4 + 3 * e) by omega, show 124 + 124 * j + 5 + 3 * e = 124 + 124 * j + (5 + 3 * e) by omega, show 124 + 124 * j + 6 + 3 * e = 124 + 124 * j + (6 + 3 * e) by omega, hb _ (by omega), hb _ (by omega), hb _ (by omega)]
      rw [Nat.zero_add, Nat.zero_add, Nat.zero_add] at h
      rw [Nat.zero_add, Nat.zero_add, Nat.zero_add]
      exact h
  · have hx : ∀ x, x < 124 → (ua (ua A (46 + 2 * k) (va_cpy (A 9) (A (46 + 2 * k)) 0 0 40)) 52 (va_cpy (A 52) (A 52) 0 (124 * (1 + k)) 124)) 52 (124 + 124 * j + x) = A 52 (124 + 124 * j + x) := by
      intro x hx
      rw [ua_eq, pk_cpy_out (by omega)]
    have hI : ∀ y, k4 I (45 + 2 * k) (I 8 1) (I 8 2) (I 8 3) (I 8 4) (45 + 2 * j) y = I (45 + 2 * j) y := by
      intro y
      unfold k4
      rw [u2_ne (by omega), u2_ne (by omega), u2_ne (by omega), u2_ne (by omega)]
    refine (hQ j hj).imp (fun h => ⟨(hI 1).trans h.1, (hx 0 (by omega)).trans h.2⟩) (fun h => ?_)
    obtain ⟨d, hd, n1, q0, n2, n3, n9, q1, q2, q3, hp⟩ := h
    refine ⟨d, hd, (hI 1).trans n1, (hx 0 (by omega)).trans q0, ?_⟩
    rw [ua_ne (x := 45 + 2 * j + 1) (by omega), ua_ne (x := 45 + 2 * j + 1) (by omega)]
    refine ⟨(hI 2).trans n2, (hI 3).trans n3, (hI 4).trans n9, (hx 1 (by omega)).trans q1, (hx 2 (by omega)).trans q2, (hx 3 (by omega)).trans q3, fun e he => ?_⟩
    rw [show 124 + 124 * j + 4 + 3 * e = 124 + 124 * j + (4 + 3 * e) by omega, show 124 + 124 * j + 5 + 3 * e = 124 + 124 * j + (5 + 3 * e) by omega, show 124 + 124 * j + 6 + 3 * e = 124 + 124 * j + (6 + 3 * e) by omega, hx _ (by omega), hx _ (by omega), hx _ (by omega), ← Nat.add_assoc, ← Nat.add_assoc, ← Nat.add_assoc]
    exact hp e he
theorem RelN_keep {st k : Nat} {I A : Nat → Nat → Int32} (hk : k < 3) (hN : RelN st 8 0 I A) : RelN st 8 0 (k4 I (45 + 2 * k) (I 8 1) (I 8 2) (I 8 3) (I 8 4)) (ua (ua A (46 + 2 * k) (va_cpy (A 9) (A (46 + 2 * k)) 0 0 40)) 52 (va_cpy (A 52) (A 52) 0 (124 * (1 + k)) 124)) := by
  have hx : ∀ x, x < 124 → (ua (ua A (46 + 2 * k) (va_cpy (A 9) (A (46 + 2 * k)) 0 0 40)) 52 (va_cpy (A 52) (A 52) 0 (124 * (1 + k)) 124)) 52 (0 + x) = A 52 (0 + x) := by
    intro x hx
    rw [ua_eq, pk_cpy_out (by omega)]
  have hI : ∀ y, k4 I (45 + 2 * k) (I 8 1) (I 8 2) (I 8 3) (I 8 4) 8 y = I 8 y := by
    intro y
    unfold k4
    rw [u2_ne (by omega), u2_ne (by omega), u2_ne (by omega), u2_ne (by omega)]
  obtain ⟨d, hd, n1, q0, n2, n3, n9, q1, q2, q3, hp⟩ := hN
  refine ⟨d, hd, (hI 1).trans n1, (hx 0 (by omega)).trans q0, ?_⟩
  rw [ua_ne (x := 8 + 1) (by omega), ua_ne (x := 8 + 1) (by omega)]
  refine ⟨(hI 2).trans n2, (hI 3).trans n3, (hI 4).trans n9, (hx 1 (by omega)).trans q1, (hx 2 (by omega)).trans q2, (hx 3 (by omega)).trans q3, fun e he => ?_⟩
  rw [show 0 + 4 + 3 * e = 0 + (4 + 3 * e) by omega, show 0 + 5 + 3 * e = 0 + (5 + 3 * e) by omega, show 0 + 6 + 3 * e = 0 + (6 + 3 * e) by omega, hx _ (by omega), hx _ (by omega), hx _ (by omega), ← Nat.add_assoc, ← Nat.add_assoc, ← Nat.add_assoc]
  exact hp e he
theorem RelN_on {st k : Nat} {I A : Nat → Nat → Int32} (hk : k < 3) (hN : RelN st (45 + 2 * k) (124 + 124 * k) I A) : RelN st 8 0 (n4 I (I (45 + 2 * k) 1) (I (45 + 2 * k) 2) (I (45 + 2 * k) 3) (I (45 + 2 * k) 4)) (ua (ua A 9 (va_cpy (A (46 + 2 * k)) (A 9) 0 0 40)) 52 (va_cpy (A 52) (A 52) (124 * (1 + k)) 0 124)) := by
  obtain ⟨d, hd, n1, q0, n2, n3, n9, q1, q2, q3, hp⟩ := hN
  have hc : ∀ e, e ≤ 40 → rp st ((ua (ua A 9 (va_cpy (A (46 + 2 * k)) (A 9) 0 0 40)) 52 (va_cpy (A 52) (A 52) (124 * (1 + k)) 0 124)) (8 + 1)) e = rp st (A (45 + 2 * k + 1)) e := by
    intro e he
    rw [ua_ne (by omega), show 8 + 1 = 9 from rfl, ua_eq, show 45 + 2 * k + 1 = 46 + 2 * k by omega]
    refine rp_congr (fun j hj => ?_)
    rw [pk_cpy_in (by omega) (by omega)]
    congr 1
    omega
  have hb : ∀ x, x < 124 → (ua (ua A 9 (va_cpy (A (46 + 2 * k)) (A 9) 0 0 40)) 52 (va_cpy (A 52) (A 52) (124 * (1 + k)) 0 124)) 52 (0 + x) = A 52 (124 + 124 * k + x) := by
    intro x hx
    rw [ua_eq, pk_cpy_in (by omega) (by omega)]
    congr 1
    omega
  refine ⟨d, hd, n1, (hb 0 (by omega)).trans q0, ?_, ?_, ?_, ?_, ?_, ?_, fun e he => ?_⟩
  · rw [hc d hd]
    exact n2
  · rw [hc d hd]
    exact n3
  · rw [hc d hd]
    exact n9
  · rw [hc d hd, hb 1 (by omega)]
    exact q1
  · rw [hc d hd, hb 2 (by omega)]
    exact q2
  · rw [hc d hd, hb 3 (by omega)]
    exact q3
  · have h := hp e he
    rw [hc e (by omega), show 0 + 4 + 3 * e = 0 + (4 + 3 * e) by omega, show 0 + 5 + 3 * e = 0 + (5 + 3 * e) by omega, show 0 + 6 + 3 * e = 0 + (6 + 3 * e) by omega, hb _ (by omega), hb _ (by omega), hb _ (by omega), ← Nat.add_assoc, ← Nat.add_assoc, ← Nat.add_assoc]
    exact h
set_option maxHeartbeats 1000000 in
theorem op_15 {X : XX} : Op_15 X RelR := by
  intro y I A J B F hr
  obtain ⟨ln, b, st, hL, hT, hK, hD, hN, hQ, hF, hU, hJ, hS⟩ := id hr
  obtain ⟨hln, hb, hst, eln, eln', eb, eb', e7, e7', hb1⟩ := id hD
  obtain ⟨d, hd, n1, q0, n2, n3, n9, q1, q2, q3, hp⟩ := id hN
  have hm : (rp st (A 9) d).1 ≤ 40 := Nat.le_trans (rp_1 st (A 9) d) hd
  have hs := rp_2 st (A 9) d
  have lks := RelK_lks hK
  have hl := RelK_hl hK
  have cLe := RelK_cL hK
  rcases ix3 y 3 (by first | decide | omega) with h | h | ⟨k, h, rfl⟩
  · exact opI_mk (by decide) (by decide) (c_keep_bad y (Or.inl h)) (m_keep_bad y (Or.inl (by exact h))) (hr)
  · exact opI_mk (by decide) (by decide) (c_keep_bad y (Or.inr h)) (m_keep_bad y (Or.inr (by exact h))) (hr)
  · by_cases h0 : ln = 0
    · subst h0
      exact opI_mk (by decide) (by decide) (c_keep_S k h eln) (m_keep_S k h (by exact eln')) (hr)
    · exact opI_mk (by decide) (by decide) (c_keep_0 k h ln hln eln (by omega) d n1) (m_keep_0 k h ln hln (by unfold k4; rw [u2_ne (by omega), u2_ne (by omega), u2_ne (by omega), u2_ne (by omega)]; exact eln') (by omega) d ((congrFun (ua_ne (by omega)) 0).trans q0)) ((by rw [ua_ne (x := 52) (by omega)]; exact ⟨ln, b, st, (by unfold k4; repeat first | exact hL | refine RelL_u2 (by omega) ?_ | refine RelL_ua (by omega) ?_), (by unfold k4; repeat first | exact hT | refine RelT_u2 (by omega) ?_ | refine RelT_ua (by omega) ?_), (by unfold k4; repeat first | exact hK | refine RelK_u2 (by omega) ?_ | refine RelK_ua (by omega) ?_), (by unfold k4; repeat first | exact hD | refine RelD_u2 (by omega) ?_), (RelN_keep h hN), (RelQ_keep h hQ hN), (by unfold k4; repeat first | exact hF | refine RelF_u2 (by omega) ?_ | refine RelF_ua (by omega) ?_), (by unfold k4; repeat first | exact hU | refine RelU_u2 (by omega) ?_), hJ, hS⟩))
set_option maxHeartbeats 1000000 in
theorem op_16 {X : XX} : Op_16 X RelR := by
  intro y I A J B F hr
  obtain ⟨ln, b, st, hL, hT, hK, hD, hN, hQ, hF, hU, hJ, hS⟩ := id hr
  obtain ⟨hln, hb, hst, eln, eln', eb, eb', e7, e7', hb1⟩ := id hD
  obtain ⟨d, hd, n1, q0, n2, n3, n9, q1, q2, q3, hp⟩ := id hN
  have hm : (rp st (A 9) d).1 ≤ 40 := Nat.le_trans (rp_1 st (A 9) d) hd
  have hs := rp_2 st (A 9) d
  have lks := RelK_lks hK
  have hl := RelK_hl hK
  have cLe := RelK_cL hK
  rcases ix3 y 3 (by first | decide | omega) with h | h | ⟨k, h, rfl⟩
  · exact opI_mk (by decide) (by decide) (c_on_bad y (Or.inl h)) (m_on_bad y (Or.inl (by exact h))) (hr)
  · exact opI_mk (by decide) (by decide) (c_on_bad y (Or.inr h)) (m_on_bad y (Or.inr (by exact h))) (hr)
  · rcases hQ k h with ⟨hk1, hk2⟩ | hk
    · exact opI_mk (by decide) (by decide) (c_on_M k h hk1) (m_on_M k h (by rw [show 124 * (1 + k) + 0 = 124 + 124 * k by omega]; exact hk2)) (RelR_found 1 hr)
    · obtain ⟨d', hd', p1, p0, hrest⟩ := id hk
      exact opI_mk (by decide) (by decide) (c_on_0 k h d' hd' p1) (m_on_0 k h d' hd' (by rw [show 124 * (1 + k) + 0 = 124 + 124 * k by omega]; exact p0)) (⟨ln, b, st, (by repeat first | exact hL | refine RelL_n4 ?_ | refine RelL_u2 (by omega) ?_ | refine RelL_ua (by omega) ?_), (by repeat first | exact hT | refine RelT_n4 ?_ | refine RelT_u2 (by omega) ?_ | refine RelT_ua (by omega) ?_), (by repeat first | exact hK | refine RelK_n4 ?_ | refine RelK_u2 (by omega) ?_ | refine RelK_ua (by omega) ?_), (by repeat first | exact hD | refine RelD_n4 ?_ | refine RelD_u2 (by omega) ?_), (RelN_on h hk), (RelQ_blk (fun x hx => pk_cpy_out (by omega)) (by repeat first | exact hQ | refine RelQ_n4 ?_ | refine RelQ_ua (by omega) ?_)), (by repeat first | exact hF | refine RelF_n4 ?_ | refine RelF_u2 (by omega) ?_ | refine RelF_ua (by omega) ?_), (by repeat first | exact hU | refine RelU_n4 ?_ | refine RelU_u2 (by omega) ?_), hJ, hS⟩)
set_option maxHeartbeats 1000000 in
theorem op_17 {X : XX} : Op_17 X RelR := by
  intro a1 a2 I A J B F hr
  obtain ⟨ln, b, st, hL, hT, hK, hD, hN, hQ, hF, hU, hJ, hS⟩ := id hr
  obtain ⟨hln, hb, hst, eln, eln', eb, eb', e7, e7', hb1⟩ := id hD
  obtain ⟨d, hd, n1, q0, n2, n3, n9, q1, q2, q3, hp⟩ := id hN
  have hm : (rp st (A 9) d).1 ≤ 40 := Nat.le_trans (rp_1 st (A 9) d) hd
  have hs := rp_2 st (A 9) d
  have lks := RelK_lks hK
  have hl := RelK_hl hK
  have cLe := RelK_cL hK
  rcases ix3 a1 ln (by first | decide | omega) with hk | hk | ⟨k, hk, rfl⟩
  · exact opI_mk (by decide) (by decide) (c_place_bad a1 (Or.inl (by first | exact hk | (rw [eln]; exact hk))) a2) (m_place_bad ln hln (by exact eln') a1 (Or.inl hk) a2) (hr)
  · exact opI_mk (by decide) (by decide) (c_place_bad a1 (Or.inr (by first | exact hk | (rw [eln]; exact hk))) a2) (m_place_bad ln hln (by exact eln') a1 (Or.inr hk) a2) (hr)
  · rcases ix3 a2 100 (by first | decide | omega) with hw | hw | ⟨w, hw, rfl⟩
    · exact opI_mk (by decide) (by decide) (c_place_n ln hln eln k hk a2 (Or.inl hw)) (m_place_n ln hln (by exact eln') k hk a2 (Or.inl hw)) (hr)
    · exact opI_mk (by decide) (by decide) (c_place_n ln hln eln k hk a2 (Or.inr (f_lt1 (n := 99) (by omega) hw))) (m_place_n ln hln (by exact eln') k hk a2 (Or.inr hw)) (hr)
    · have h9 := c_place_0 (X := X) (A := A) (J := J) (B := B) (F := F) (rp st (A 9) d).1 n2 hm ln hln eln lks k hk w hw
      rw [cLe k (by omega)] at h9
      exact opI_mk (by decide) (by decide) (h9) (m_place_0 (rp st (A 9) d).1 (by exact q1) hm ln hln (by exact eln') (by exact hl) k hk w hw) (⟨ln, b, st, (by repeat first | exact hL | refine RelL_n4 ?_ | refine RelL_u2 (by omega) ?_ | refine RelL_ua (by omega) ?_), (by repeat first | exact hT | refine RelT_n4 ?_ | refine RelT_u2 (by omega) ?_ | refine RelT_ua (by omega) ?_), (by repeat first | exact hK | refine RelK_n4 ?_ | refine RelK_u2 (by omega) ?_ | refine RelK_ua (by omega) ?_), (by repeat first | exact hD | refine RelD_n4 ?_ | refine RelD_u2 (by omega) ?_), (by repeat first | exact hN | refine RelN_u2 (by omega) ?_ | refine RelN_ua (by omega) ?_), (by repeat first | exact hQ | refine RelQ_n4 ?_ | refine RelQ_u2 (by omega) ?_ | refine RelQ_ua (by omega) ?_), (by repeat first | exact hF | refine RelF_n4 ?_ | refine RelF_u2 (by omega) ?_ | refine RelF_ua (by omega) ?_), (RelU_told rfl), hJ, hS⟩)
set_option maxHeartbeats 1000000 in
theorem op_18 {X : XX} : Op_18 X RelR := by
  intro a1 a2 I A J B F hr
  obtain ⟨ln, b, st, hL, hT, hK, hD, hN, hQ, hF, hU, hJ, hS⟩ := id hr
  obtain ⟨hln, hb, hst, eln, eln', eb, eb', e7, e7', hb1⟩ := id hD
  obtain ⟨d, hd, n1, q0, n2, n3, n9, q1, q2, q3, hp⟩ := id hN
  have hm : (rp st (A 9) d).1 ≤ 40 := Nat.le_trans (rp_1 st (A 9) d) hd
  have hs := rp_2 st (A 9) d
  have lks := RelK_lks hK
  have hl := RelK_hl hK
  have cLe := RelK_cL hK
  rcases ix3 a1 ln (by first | decide | omega) with hk | hk | ⟨k, hk, rfl⟩
  · exact opI_mk (by decide) (by decide) (c_gets_bad a1 (Or.inl (by first | exact hk | (rw [eln]; exact hk))) a2) (m_gets_bad ln hln (by exact eln') a1 (Or.inl hk) a2) (hr)
  · exact opI_mk (by decide) (by decide) (c_gets_bad a1 (Or.inr (by first | exact hk | (rw [eln]; exact hk))) a2) (m_gets_bad ln hln (by exact eln') a1 (Or.inr hk) a2) (hr)
  · rcases ix3 a2 100 (by first | decide | omega) with hw | hw | ⟨w, hw, rfl⟩
    · exact opI_mk (by decide) (by decide) (c_gets_n ln hln eln k hk a2 (Or.inl hw)) (m_gets_n ln hln (by exact eln') k hk a2 (Or.inl hw)) (hr)
    · exact opI_mk (by decide) (by decide) (c_gets_n ln hln eln k hk a2 (Or.inr (f_lt1 (n := 99) (by omega) hw))) (m_gets_n ln hln (by exact eln') k hk a2 (Or.inr hw)) (hr)
    · have h9 := c_gets_0 (X := X) (A := A) (J := J) (B := B) (F := F) b hb eb (rp st (A 9) d).1 n2 hm (rp st (A 9) d).2.1 n3 hs ln hln eln lks k hk w hw
      rw [cLe k (by omega)] at h9
      exact opI_mk (by decide) (by decide) (h9) (m_gets_0 b hb (by exact eb') (rp st (A 9) d).1 (by exact q1) hm (rp st (A 9) d).2.1 (by exact q2) hs ln hln (by exact eln') (by exact hl) k hk w hw) (hr)
set_option maxHeartbeats 1000000 in
theorem op_19 {X : XX} : Op_19 X RelR := by
  intro a2 I A J B F hr
  obtain ⟨ln, b, st, hL, hT, hK, hD, hN, hQ, hF, hU, hJ, hS⟩ := id hr
  obtain ⟨hln, hb, hst, eln, eln', eb, eb', e7, e7', hb1⟩ := id hD
  obtain ⟨d, hd, n1, q0, n2, n3, n9, q1, q2, q3, hp⟩ := id hN
  have hm : (rp st (A 9) d).1 ≤ 40 := Nat.le_trans (rp_1 st (A 9) d) hd
  have hs := rp_2 st (A 9) d
  have lks := RelK_lks hK
  have hl := RelK_hl hK
  have cLe := RelK_cL hK
  rcases ix3 a2 100 (by first | decide | omega) with hw | hw | ⟨w, hw, rfl⟩
  · exact opI_mk (by decide) (by decide) (c_seen_n a2 (Or.inl hw)) (m_seen_n a2 (Or.inl hw)) (hr)
  · exact opI_mk (by decide) (by decide) (c_seen_n a2 (Or.inr (f_lt1 (n := 99) (by omega) hw))) (m_seen_n a2 (Or.inr hw)) (hr)
  · have h9 := c_seen_0 (X := X) (A := A) (J := J) (B := B) (F := F) b hb eb (rp st (A 9) d).1 n2 hm (rp st (A 9) d).2.1 n3 hs ln hln eln lks w hw
    rw [orf_congr (q := fun i => decide (0 < gnN b (mL A i) (nI (rp st (A 9) d).2.1) ((rp st (A 9) d).1 + w))) (fun i hi => by rw [cLe i (by omega)])] at h9
    exact opI_mk (by decide) (by decide) (h9) (m_seen_0 b hb (by exact eb') (rp st (A 9) d).1 (by exact q1) hm (rp st (A 9) d).2.1 (by exact q2) hs ln hln (by exact eln') (by exact hl) w hw) (hr)
set_option maxHeartbeats 1000000 in
theorem op_20 {X : XX} : Op_20 X RelR := by
  intro a1 I A J B F hr
  obtain ⟨ln, b, st, hL, hT, hK, hD, hN, hQ, hF, hU, hJ, hS⟩ := id hr
  obtain ⟨hln, hb, hst, eln, eln', eb, eb', e7, e7', hb1⟩ := id hD
  obtain ⟨d, hd, n1, q0, n2, n3, n9, q1, q2, q3, hp⟩ := id hN
  have hm : (rp st (A 9) d).1 ≤ 40 := Nat.le_trans (rp_1 st (A 9) d) hd
  have hs := rp_2 st (A 9) d
  have lks := RelK_lks hK
  have hl := RelK_hl hK
  have cLe := RelK_cL hK
  rcases ix3 a1 ln (by first | decide | omega) with hk | hk | ⟨k, hk, rfl⟩
  · exact opI_mk (by decide) (by decide) (c_stays_bad a1 (Or.inl (by first | exact hk | (rw [eln]; exact hk)))) (m_stays_bad ln hln (by exact eln') a1 (Or.inl hk)) (hr)
  · exact opI_mk (by decide) (by decide) (c_stays_bad a1 (Or.inr (by first | exact hk | (rw [eln]; exact hk)))) (m_stays_bad ln hln (by exact eln') a1 (Or.inr hk)) (hr)
  · have h9 := c_stays_0 (X := X) (A := A) (J := J) (B := B) (F := F) b hb eb (rp st (A 9) d).1 n2 hm (rp st (A 9) d).2.1 n3 hs ln hln eln lks k hk
    rw [cLe k (by omega)] at h9
    exact opI_mk (by decide) (by decide) (h9) (m_stays_0 b hb (by exact eb') (rp st (A 9) d).1 (by exact q1) hm (rp st (A 9) d).2.1 (by exact q2) hs ln hln (by exact eln') (by exact hl) k hk) (hr)
set_option maxHeartbeats 1000000 in
theorem op_21 {X : XX} : Op_21 X RelR := by
  intro a1 I A J B F hr
  obtain ⟨ln, b, st, hL, hT, hK, hD, hN, hQ, hF, hU, hJ, hS⟩ := id hr
  obtain ⟨hln, hb, hst, eln, eln', eb, eb', e7, e7', hb1⟩ := id hD
  obtain ⟨d, hd, n1, q0, n2, n3, n9, q1, q2, q3, hp⟩ := id hN
  have hm : (rp st (A 9) d).1 ≤ 40 := Nat.le_trans (rp_1 st (A 9) d) hd
  have hs := rp_2 st (A 9) d
  have lks := RelK_lks hK
  have hl := RelK_hl hK
  have cLe := RelK_cL hK
  rcases ix3 a1 ln (by first | decide | omega) with hk | hk | ⟨k, hk, rfl⟩
  · exact opI_mk (by decide) (by decide) (c_ahead_bad a1 (Or.inl (by first | exact hk | (rw [eln]; exact hk)))) (m_ahead_bad ln hln (by exact eln') a1 (Or.inl hk)) (hr)
  · exact opI_mk (by decide) (by decide) (c_ahead_bad a1 (Or.inr (by first | exact hk | (rw [eln]; exact hk)))) (m_ahead_bad ln hln (by exact eln') a1 (Or.inr hk)) (hr)
  · have h9 := c_ahead_0 (X := X) (A := A) (J := J) (B := B) (F := F) b hb eb (rp st (A 9) d).1 n2 hm ln hln eln lks k hk
    rw [cLe k (by omega)] at h9
    exact opI_mk (by decide) (by decide) (h9) (m_ahead_0 b hb (by exact eb') (rp st (A 9) d).1 (by exact q1) hm ln hln (by exact eln') (by exact hl) k hk) (⟨ln, b, st, (by repeat first | exact hL | refine RelL_n4 ?_ | refine RelL_u2 (by omega) ?_ | refine RelL_ua (by omega) ?_), (by repeat first | exact hT | refine RelT_n4 ?_ | refine RelT_u2 (by omega) ?_ | refine RelT_ua (by omega) ?_), (by repeat first | exact hK | refine RelK_n4 ?_ | refine RelK_u2 (by omega) ?_ | refine RelK_ua (by omega) ?_), (by repeat first | exact hD | refine RelD_n4 ?_ | refine RelD_u2 (by omega) ?_), (by repeat first | exact hN | refine RelN_u2 (by omega) ?_ | refine RelN_ua (by omega) ?_), (by repeat first | exact hQ | refine RelQ_n4 ?_ | refine RelQ_u2 (by omega) ?_ | refine RelQ_ua (by omega) ?_), (by repeat first | exact hF | refine RelF_n4 ?_ | refine RelF_u2 (by omega) ?_ | refine RelF_ua (by omega) ?_), (RelU_told rfl), hJ, hS⟩)
set_option maxHeartbeats 1000000 in
theorem op_22 {X : XX} : Op_22 X RelR := by
  intro y I A J B F hr
  obtain ⟨ln, b, st, hL, hT, hK, hD, hN, hQ, hF, hU, hJ, hS⟩ := id hr
  obtain ⟨hln, hb, hst, eln, eln', eb, eb', e7, e7', hb1⟩ := id hD
  obtain ⟨d, hd, n1, q0, n2, n3, n9, q1, q2, q3, hp⟩ := id hN
  have hm : (rp st (A 9) d).1 ≤ 40 := Nat.le_trans (rp_1 st (A 9) d) hd
  have hs := rp_2 st (A 9) d
  have lks := RelK_lks hK
  have hl := RelK_hl hK
  have cLe := RelK_cL hK
  by_cases x1 : y < -6
  · exact opI_mk (by decide) (by decide) (c_effort_bad y (Or.inl x1)) (m_effort_bad y (Or.inl x1)) (hr)
  by_cases x2 : nI 6 < y
  · exact opI_mk (by decide) (by decide) (c_effort_bad y (Or.inr x2)) (m_effort_bad y (Or.inr x2)) (hr)
  replace x2 := Int32.not_lt.mp x2
  obtain ⟨j, hj, ej⟩ := by6 x1 x2
  have h9 := c_effort_0 (X := X) (A := A) (J := J) (B := B) (F := F) (rp st (A 9) d).2.1 n3 hs y x1 x2
  rw [e7] at h9
  exact opI_mk (by decide) (by decide) (h9) (m_effort_0 y x1 x2 st (rp st (A 9) d).2.1 j hst hs hj (by exact e7') (by exact q2) ej) (hr)
