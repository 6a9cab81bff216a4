/-! fault, dome: the calls -/
theorem pz_same {tx : Nat → Int32} {n : Nat} {g0 g1 g g' : Nat → Int32} {v w : Int32} (hC : (∃ f, f ≤ 60 ∧ pz_r tx n g0 = .inl f ∧ v = nI f) ∨ (v = -9 ∧ ∃ kk, pz_r tx n g0 = .inr (kk, g))) (hD : (∃ f, f ≤ 60 ∧ pz_r tx n g1 = .inl f ∧ w = nI f) ∨ (w = -9 ∧ ∃ kk, pz_r tx n g1 = .inr (kk, g'))) : v = w := by
  rcases pz_2r tx n g0 g1 with ⟨f, e1, e2⟩ | ⟨kk, h, h', e1, e2, _⟩
  · rcases hC with ⟨f1, _, e3, rfl⟩ | ⟨_, k', e3⟩
    · rcases hD with ⟨f2, _, e4, rfl⟩ | ⟨_, k', e4⟩
      · rw [e1] at e3
        rw [e2] at e4
        cases e3
        cases e4
        rfl
      · rw [e2] at e4
        cases e4
    · rw [e1] at e3
      cases e3
  · rcases hC with ⟨f1, _, e3, _⟩ | ⟨rfl, k', e3⟩
    · rw [e1] at e3
      cases e3
    · rcases hD with ⟨f2, _, e4, _⟩ | ⟨rfl, k', e4⟩
      · rw [e2] at e4
        cases e4
      · rfl
theorem f_kd_nI {a : Nat} (h : a < 6) : f_kd (nI a) := by
  unfold f_kd
  rcases (show a = 0 ∨ a = 1 ∨ a = 2 ∨ a = 3 ∨ a = 4 ∨ a = 5 by omega) with rfl | rfl | rfl | rfl | rfl | rfl <;> decide
theorem spOK_s {c : Nat} (h : c < 6) : spOK (sI 2 c) := by
  unfold spOK
  rw [sI_toInt (by omega) (by omega)]
  omega
set_option maxHeartbeats 4000000 in
theorem op_8 {X : XX} : Op_8 X RelR := by
  intro a1 I A J B F hr
  obtain ⟨ln, b, st, hL, hT, hK, hD, hN, hQ, hF, hU, hJ, hS⟩ := id hr
  obtain ⟨hln, hb, hst, eln, eln', eb, eb', e7, e7', hb1⟩ := id hD
  obtain ⟨d, hd, n1, q0, n2, n3, n9, q1, q2, q3, hp⟩ := id hN
  have hm : (rp st (A 9) d).1 ≤ 40 := Nat.le_trans (rp_1 st (A 9) d) hd
  have hs := rp_2 st (A 9) d
  have lks := RelK_lks hK
  have hl := RelK_hl hK
  have cLe := RelK_cL hK
  rcases ix3 a1 4 (by first | decide | omega) with ht | ht | ⟨t, ht, rfl⟩
  · exact opI_mk (by decide) (by decide) (c_fault_bad a1 (Or.inl ht)) (m_fault_bad a1 (Or.inl ht)) (hr)
  · exact opI_mk (by decide) (by decide) (c_fault_bad a1 (Or.inr ht)) (m_fault_bad a1 (Or.inr ht)) (hr)
  · rcases (hT t ht).2.1 with hz | ⟨n, hn, hz⟩
    · exact opI_mk (by decide) (by decide) (c_fault_M t ht ((hT t ht).1.trans hz)) (m_fault_M t ht (by exact hz)) (RelR_found 1 hr)
    · obtain ⟨v, I2, g, h9, hfr, hC⟩ := c_fault_0 (X := X) (I := I) (A := A) (J := J) (B := B) (F := F) t n ht hn ((hT t ht).1.trans hz) (fun k => A 60 (60 * t + k)) (fun k hk => ((hT t ht).2.2 k hk).1) (fun k hk => ((hT t ht).2.2 k hk).2)
      obtain ⟨w, I3, g3, h10, hfr3, hC3⟩ := m_fault_0 (X := X) (I := I2) (A := ua A 4 g) (J := J) (B := B) (F := F) t n ht hn (by exact hz) (fun k => A 60 (60 * t + k)) (fun k hk => rfl)
      have hvw : v = w := pz_same hC hC3
      subst hvw
      have hFR : pz_fr I3 I := fun c k h3 h51 => (hfr3 c k h51).trans (hfr c k h3)
      exact opI_mk (by decide) (by decide) (h9) (h10) (⟨ln, b, st, (RelL_fr hFR (by repeat first | exact hL | refine RelL_n4 ?_ | refine RelL_u2 (by omega) ?_ | refine RelL_ua (by omega) ?_)), (RelT_fr hFR (by repeat first | exact hT | refine RelT_n4 ?_ | refine RelT_u2 (by omega) ?_ | refine RelT_ua (by omega) ?_)), (RelK_fr hFR (by repeat first | exact hK | refine RelK_n4 ?_ | refine RelK_u2 (by omega) ?_ | refine RelK_ua (by omega) ?_)), (RelD_fr hFR (by repeat first | exact hD | refine RelD_n4 ?_ | refine RelD_u2 (by omega) ?_)), (RelN_fr (by decide) (by decide) hFR (by repeat first | exact hN | refine RelN_ua (by omega) ?_)), (RelQ_fr hFR (by repeat first | exact hQ | refine RelQ_n4 ?_ | refine RelQ_u2 (by omega) ?_ | refine RelQ_ua (by omega) ?_)), (RelF_fr hFR (by repeat first | exact hF | refine RelF_n4 ?_ | refine RelF_u2 (by omega) ?_ | refine RelF_ua (by omega) ?_)), (RelU_fr hFR (by repeat first | exact hU | refine RelU_n4 ?_ | refine RelU_u2 (by omega) ?_)), hJ, hS⟩)
set_option maxHeartbeats 4000000 in
theorem op_9 {X : XX} : Op_9 X RelR := by
  intro a1 I A J B F hr
  obtain ⟨ln, b, st, hL, hT, hK, hD, hN, hQ, hF, hU, hJ, hS⟩ := id hr
  obtain ⟨hln, hb, hst, eln, eln', eb, eb', e7, e7', hb1⟩ := id hD
  obtain ⟨d, hd, n1, q0, n2, n3, n9, q1, q2, q3, hp⟩ := id hN
  have hm : (rp st (A 9) d).1 ≤ 40 := Nat.le_trans (rp_1 st (A 9) d) hd
  have hs := rp_2 st (A 9) d
  have lks := RelK_lks hK
  have hl := RelK_hl hK
  have cLe := RelK_cL hK
  rcases ix3 a1 4 (by first | decide | omega) with ht | ht | ⟨t, ht, rfl⟩
  · exact opI_mk (by decide) (by decide) (c_dome_bad a1 (Or.inl ht)) (m_dome_bad a1 (Or.inl ht)) (hr)
  · exact opI_mk (by decide) (by decide) (c_dome_bad a1 (Or.inr ht)) (m_dome_bad a1 (Or.inr ht)) (hr)
  · rcases (hT t ht).2.1 with hz | ⟨n, hn, hz⟩
    · exact opI_mk (by decide) (by decide) (c_dome_M t ht ((hT t ht).1.trans hz)) (m_dome_M t ht (by exact hz)) (RelR_found 1 hr)
    · rcases pz_2r (fun k => A 60 (60 * t + k)) n (A 4) (A 62) with ⟨f, e1, e2⟩ | ⟨kk, h, h', e1, e2, k1', k5, hx, ho, d1, d5, s24⟩
      · obtain ⟨I2, g, h9, hfr⟩ := c_dome_F (X := X) (I := I) (A := A) (J := J) (B := B) (F := F) t n ht hn ((hT t ht).1.trans hz) (fun k => A 60 (60 * t + k)) (fun k hk => ((hT t ht).2.2 k hk).1) (fun k hk => ((hT t ht).2.2 k hk).2) f e1
        obtain ⟨I3, g3, h10, hfr3⟩ := m_dome_F (X := X) (I := I2) (A := ua A 4 g) (J := J) (B := B) (F := F) t n ht hn (by exact hz) (fun k => A 60 (60 * t + k)) (fun k hk => rfl) f e2
        have hFR : pz_fr I3 I := fun c k h3 h51 => (hfr3 c k h51).trans (hfr c k h3)
        exact opI_mk (by decide) (by decide) (h9) (h10) (⟨ln, b, st, (RelL_fr hFR (by repeat first | exact hL | refine RelL_n4 ?_ | refine RelL_u2 (by omega) ?_ | refine RelL_ua (by omega) ?_)), (RelT_fr hFR (by repeat first | exact hT | refine RelT_n4 ?_ | refine RelT_u2 (by omega) ?_ | refine RelT_ua (by omega) ?_)), (RelK_fr hFR (by repeat first | exact hK | refine RelK_n4 ?_ | refine RelK_u2 (by omega) ?_ | refine RelK_ua (by omega) ?_)), (RelD_fr hFR (by repeat first | exact hD | refine RelD_n4 ?_ | refine RelD_u2 (by omega) ?_)), (RelN_fr (by decide) (by decide) hFR (by repeat first | exact hN | refine RelN_ua (by omega) ?_)), (RelQ_fr hFR (by repeat first | exact hQ | refine RelQ_n4 ?_ | refine RelQ_u2 (by omega) ?_ | refine RelQ_ua (by omega) ?_)), (RelF_fr hFR (by repeat first | exact hF | refine RelF_n4 ?_ | refine RelF_u2 (by omega) ?_ | refine RelF_ua (by omega) ?_)), (RelU_fr hFR (by repeat first | exact hU | refine RelU_n4 ?_ | refine RelU_u2 (by omega) ?_)), hJ, hS⟩)
      · obtain ⟨Ic, h9, hN9, hfr, c12, c70, c71, ⟨c81, c82, c83, c84⟩, hkp⟩ := c_dome_0 (X := X) (I := I) (A := A) (J := J) (B := B) (F := F) t n ht hn ((hT t ht).1.trans hz) (fun k => A 60 (60 * t + k)) (fun k hk => ((hT t ht).2.2 k hk).1) (fun k hk => ((hT t ht).2.2 k hk).2) kk k5 h e1
        obtain ⟨Im, k1, b1, s1, r1, w, h10, hfm, ⟨hKa, hKb⟩, hw, hw2⟩ := m_dome_0 (X := X) (I := Ic) (A := ua A 4 h) (J := J) (B := B) (F := F) t n ht hn (by exact hz) (fun k => A 60 (60 * t + k)) (fun k hk => rfl) kk k5 h' e2
        refine opI_mk (by decide) (by decide) h9 h10 ?_
        have hFF : ∀ c y, c ≠ 3 → c ≠ 7 → c ≠ 8 → (c ≠ 0 ∨ y ≠ 12) → (c < 40 ∨ 40 + kk ≤ c) → (c < 45 ∨ 49 < c) → (c ≠ 51 ∨ (3 < y ∧ y < 17)) → u2 (u2 (u2 Im 51 1 (nI (pz_d (fun k => A 60 (60 * t + k)) (pz_s (fun k => A 60 (60 * t + k)) n 0 + 1)))) 51 2 (nI (10 * pz_d (fun k => A 60 (60 * t + k)) (pz_s (fun k => A 60 (60 * t + k)) n 0 + 2) + pz_d (fun k => A 60 (60 * t + k)) (pz_s (fun k => A 60 (60 * t + k)) n 0 + 3)))) 51 3 (nI kk) c y = I c y := fun c y h3 h7 h8 h0 h4 h5 h51 => (u2_ne (by omega)).trans ((u2_ne (by omega)).trans ((u2_ne (by omega)).trans ((hfm c y (by omega)).trans (hfr c y h3 h7 h8 h0 h4 h5))))
        have hIc : ∀ c y, c ≠ 51 → u2 (u2 (u2 Im 51 1 (nI (pz_d (fun k => A 60 (60 * t + k)) (pz_s (fun k => A 60 (60 * t + k)) n 0 + 1)))) 51 2 (nI (10 * pz_d (fun k => A 60 (60 * t + k)) (pz_s (fun k => A 60 (60 * t + k)) n 0 + 2) + pz_d (fun k => A 60 (60 * t + k)) (pz_s (fun k => A 60 (60 * t + k)) n 0 + 3)))) 51 3 (nI kk) c y = Ic c y := fun c y h51 => (u2_ne (by omega)).trans ((u2_ne (by omega)).trans ((u2_ne (by omega)).trans (hfm c y (by omega))))
        have hA : ∀ x, x ≠ 4 → x ≠ 62 → x ≠ 52 → (x < 53 ∨ 56 < x) → ua (K4 (ua (ua A 4 h) 62 h') k1 b1 s1 r1) 52 w x = A x := fun x h4 h62 h52 h53 => (ua_ne h52).trans ((K4_ne h53).trans ((ua_ne h62).trans (ua_ne h4)))
        have hA52 : ua (K4 (ua (ua A 4 h) 62 h') k1 b1 s1 r1) 52 w 52 = w := ua_eq
        have hA53 : ua (K4 (ua (ua A 4 h) 62 h') k1 b1 s1 r1) 52 w 53 = k1 := rfl
        have hA54 : ua (K4 (ua (ua A 4 h) 62 h') k1 b1 s1 r1) 52 w 54 = b1 := rfl
        have hA55 : ua (K4 (ua (ua A 4 h) 62 h') k1 b1 s1 r1) 52 w 55 = s1 := rfl
        have hA56 : ua (K4 (ua (ua A 4 h) 62 h') k1 b1 s1 r1) 52 w 56 = r1 := rfl
        have hI511 : u2 (u2 (u2 Im 51 1 (nI (pz_d (fun k => A 60 (60 * t + k)) (pz_s (fun k => A 60 (60 * t + k)) n 0 + 1)))) 51 2 (nI (10 * pz_d (fun k => A 60 (60 * t + k)) (pz_s (fun k => A 60 (60 * t + k)) n 0 + 2) + pz_d (fun k => A 60 (60 * t + k)) (pz_s (fun k => A 60 (60 * t + k)) n 0 + 3)))) 51 3 (nI kk) 51 1 = nI (pz_d (fun k => A 60 (60 * t + k)) (pz_s (fun k => A 60 (60 * t + k)) n 0 + 1)) := (u2_ne (Or.inr (by decide))).trans ((u2_ne (Or.inr (by decide))).trans u2_eq)
        have hI512 : u2 (u2 (u2 Im 51 1 (nI (pz_d (fun k => A 60 (60 * t + k)) (pz_s (fun k => A 60 (60 * t + k)) n 0 + 1)))) 51 2 (nI (10 * pz_d (fun k => A 60 (60 * t + k)) (pz_s (fun k => A 60 (60 * t + k)) n 0 + 2) + pz_d (fun k => A 60 (60 * t + k)) (pz_s (fun k => A 60 (60 * t + k)) n 0 + 3)))) 51 3 (nI kk) 51 2 = nI (10 * pz_d (fun k => A 60 (60 * t + k)) (pz_s (fun k => A 60 (60 * t + k)) n 0 + 2) + pz_d (fun k => A 60 (60 * t + k)) (pz_s (fun k => A 60 (60 * t + k)) n 0 + 3)) := (u2_ne (Or.inr (by decide))).trans u2_eq
        have hI513 : u2 (u2 (u2 Im 51 1 (nI (pz_d (fun k => A 60 (60 * t + k)) (pz_s (fun k => A 60 (60 * t + k)) n 0 + 1)))) 51 2 (nI (10 * pz_d (fun k => A 60 (60 * t + k)) (pz_s (fun k => A 60 (60 * t + k)) n 0 + 2) + pz_d (fun k => A 60 (60 * t + k)) (pz_s (fun k => A 60 (60 * t + k)) n 0 + 3)))) 51 3 (nI kk) 51 3 = nI kk := u2_eq
        generalize u2 (u2 (u2 Im 51 1 (nI (pz_d (fun k => A 60 (60 * t + k)) (pz_s (fun k => A 60 (60 * t + k)) n 0 + 1)))) 51 2 (nI (10 * pz_d (fun k => A 60 (60 * t + k)) (pz_s (fun k => A 60 (60 * t + k)) n 0 + 2) + pz_d (fun k => A 60 (60 * t + k)) (pz_s (fun k => A 60 (60 * t + k)) n 0 + 3)))) 51 3 (nI kk) = I' at *
        generalize ua (K4 (ua (ua A 4 h) 62 h') k1 b1 s1 r1) 52 w = A' at *
        refine ⟨kk, (pz_d (fun k => A 60 (60 * t + k)) (pz_s (fun k => A 60 (60 * t + k)) n 0 + 1)), (10 * pz_d (fun k => A 60 (60 * t + k)) (pz_s (fun k => A 60 (60 * t + k)) n 0 + 2) + pz_d (fun k => A 60 (60 * t + k)) (pz_s (fun k => A 60 (60 * t + k)) n 0 + 3)), ?_, ?_, ?_, ⟨k5, d5, s24, (hIc 0 12 (by decide)).trans c12, hI513, (hIc 7 0 (by decide)).trans c70, hI511, (hIc 7 1 (by decide)).trans c71, hI512, Or.inr d1⟩, ?_, ?_, ?_, ?_, hJ, hS⟩
        · intro p hp
          rw [hFF _ _ (by omega) (by omega) (by omega) (by omega) (by omega) (by omega) (by omega), hA 57 (by decide) (by decide) (by decide) (by decide), hA (21 + 2 * p) (by omega) (by omega) (by omega) (by omega), hA 58 (by decide) (by decide) (by decide) (by decide)]
          exact hL p hp
        · intro p hp
          rw [hFF _ _ (by omega) (by omega) (by omega) (by omega) (by omega) (by omega) (by omega), hA 59 (by decide) (by decide) (by decide) (by decide), hA (21 + 2 * (6 + p)) (by omega) (by omega) (by omega) (by omega), hA 60 (by decide) (by decide) (by decide) (by decide)]
          exact hT p hp
        · intro i hi
          unfold mL
          rw [hIc (40 + i) 0 (by omega), hIc (40 + i) 1 (by omega), hIc (40 + i) 2 (by omega), hIc (40 + i) 3 (by omega), hA53, hA54, hA55, hA56]
          by_cases hik : i < kk
          · obtain ⟨n0, n1', n2', n3'⟩ := hN9 i hik
            obtain ⟨x0, x1, x2, x3⟩ := hKa i hik
            obtain ⟨a, b', c, d', ha, hb', hc, hd', e0, e1, e2, e3⟩ := ho i hik
            rw [n0, n1', n2', n3', x0, x1, x2, x3, ← hx _ (by omega), ← hx _ (by omega), ← hx _ (by omega), ← hx _ (by omega), e0, e1, e2, e3]
            exact ⟨rfl, rfl, rfl, rfl, ⟨f_kd_nI ha, by rw [tn_nI (by omega)]; exact hd'⟩, by rw [tn_nI (by omega)], spOK_s hc, b', hb', rfl⟩
          · obtain ⟨x0, x1, x2, x3⟩ := hKb i (by omega)
            rw [x0, x1, x2, x3, hfr (40 + i) 0 (by omega) (by omega) (by omega) (by omega) (by omega) (by omega), hfr (40 + i) 1 (by omega) (by omega) (by omega) (by omega) (by omega) (by omega), hfr (40 + i) 2 (by omega) (by omega) (by omega) (by omega) (by omega) (by omega), hfr (40 + i) 3 (by omega) (by omega) (by omega) (by omega) (by omega) (by omega)]
            exact hK i hi
        · refine ⟨0, by decide, (hIc 8 1 (by decide)).trans c81, ?_, (hIc 8 2 (by decide)).trans c82, (hIc 8 3 (by decide)).trans c83, (hIc 8 4 (by decide)).trans c84, ?_, ?_, ?_, fun e he => absurd he (Nat.not_lt_zero e)⟩ <;> rw [hA52] <;> exact hw _ (by decide)
        · intro k hk
          refine Or.inl ⟨(hIc _ _ (by omega)).trans (hkp k hk), ?_⟩
          rw [hA52, show 124 + 124 * k = 124 * (1 + k) by omega]
          exact hw2 (1 + k) (by omega) (by omega)
        · unfold RelF
          rw [hFF 0 13 (by decide) (by decide) (by decide) (by omega) (by omega) (by omega) (by omega), hFF 51 15 (by decide) (by decide) (by decide) (by omega) (by omega) (by omega) (by omega), hA 19 (by decide) (by decide) (by decide) (by decide), hA 61 (by decide) (by decide) (by decide) (by decide)]
          exact hF
        · unfold RelU
          rw [hFF 0 14 (by decide) (by decide) (by decide) (by omega) (by omega) (by omega) (by omega), hFF 51 12 (by decide) (by decide) (by decide) (by omega) (by omega) (by omega) (by omega)]
          exact hU
