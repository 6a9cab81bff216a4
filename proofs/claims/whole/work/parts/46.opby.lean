/-! by, fainter: the calls -/
set_option maxHeartbeats 1000000 in
theorem op_26 {X : XX} : Op_26 X RelR := by
  intro a1 a2 I A J B F hr
  obtain ⟨ln, b, st, hL, hT, hK, hD, hN, hQ, hF, hU, hJ, hS⟩ := id hr
  obtain ⟨hln, hb, hst, eln, eln', eb, eb', e7, e7', hb1⟩ := id hD
  obtain ⟨d, hd, n1, q0, n2, n3, n9, q1, q2, q3, hp⟩ := id hN
  have hm : (rp st (A 9) d).1 ≤ 40 := Nat.le_trans (rp_1 st (A 9) d) hd
  have hs := rp_2 st (A 9) d
  have lks := RelK_lks hK
  have hl := RelK_hl hK
  have cLe := RelK_cL hK
  rcases ix3 a1 ln (by first | decide | omega) with hk | hk | ⟨k, hk, rfl⟩
  · rcases ix3 a2 6 (by first | decide | omega) with hq | hq | ⟨q, hq, rfl⟩
    · exact opI_mk (by decide) (by decide) (c_by_bb a1 (Or.inl (by first | exact hk | (rw [eln]; exact hk))) a2 (Or.inl hq)) (m_by_b ln hln (by exact eln') a1 (Or.inl hk) a2) (hr)
    · exact opI_mk (by decide) (by decide) (c_by_bb a1 (Or.inl (by first | exact hk | (rw [eln]; exact hk))) a2 (Or.inr hq)) (m_by_b ln hln (by exact eln') a1 (Or.inl hk) a2) (hr)
    · exact opI_mk (by decide) (by decide) (c_by_bo a1 (Or.inl (by first | exact hk | (rw [eln]; exact hk))) q hq) (m_by_b ln hln (by exact eln') a1 (Or.inl hk) (nI q)) (hr)
  · rcases ix3 a2 6 (by first | decide | omega) with hq | hq | ⟨q, hq, rfl⟩
    · exact opI_mk (by decide) (by decide) (c_by_bb a1 (Or.inr (by first | exact hk | (rw [eln]; exact hk))) a2 (Or.inl hq)) (m_by_b ln hln (by exact eln') a1 (Or.inr hk) a2) (hr)
    · exact opI_mk (by decide) (by decide) (c_by_bb a1 (Or.inr (by first | exact hk | (rw [eln]; exact hk))) a2 (Or.inr hq)) (m_by_b ln hln (by exact eln') a1 (Or.inr hk) a2) (hr)
    · exact opI_mk (by decide) (by decide) (c_by_bo a1 (Or.inr (by first | exact hk | (rw [eln]; exact hk))) q hq) (m_by_b ln hln (by exact eln') a1 (Or.inr hk) (nI q)) (hr)
  · rcases ix3 a2 6 (by first | decide | omega) with hq | hq | ⟨q, hq, rfl⟩
    · exact opI_mk (by decide) (by decide) (c_by_ob ln hln eln k hk a2 (Or.inl hq)) (m_by_ob ln hln (by exact eln') k hk a2 (Or.inl hq)) (hr)
    · exact opI_mk (by decide) (by decide) (c_by_ob ln hln eln k hk a2 (Or.inr hq)) (m_by_ob ln hln (by exact eln') k hk a2 (Or.inr hq)) (hr)
    · rcases (hL q hq).2.1 with hz | ⟨n, hn, hz⟩
      · exact opI_mk (by decide) (by decide) (c_by_M ln hln eln k hk q hq ((hL q hq).1.trans hz)) (m_by_M ln hln (by exact eln') k hk q hq (by exact hz)) (RelR_found 1 hr)
      · by_cases hn8 : n < 1 ∨ 8 < n
        · exact opI_mk (by decide) (by decide) (c_by_S ln hln eln k hk q hq n (by rw [rm_row hq]; exact hn) ((hL q hq).1.trans hz) hn8) (m_by_S ln hln (by exact eln') k hk q hq n hn (by exact hz) hn8) (RelR_found 5 hr)
        · by_cases hok : ∀ i, i < n → okN (-6) (nI 6) (A 58 (40 * q + i))
          · have hokC : ∀ i, i < n → okN (-6) (nI 6) (A (21 + 2 * q) i) := fun i hi => by rw [(hL q hq).2.2 i (by omega)]; exact hok i hi
            have hc : ∀ i, i < n → A (21 + 2 * q) i = (fun x => A 58 (40 * q + x)) i := fun i hi => (hL q hq).2.2 i (by omega)
            have h9 := c_by_0 (X := X) (A := A) (J := J) (B := B) (F := F) b hb eb (rp st (A 9) d).1 n2 hm (rp st (A 9) d).2.1 n3 hs st hst e7 ln hln eln lks k hk q hq n (by rw [rm_row hq]; exact hn) ((hL q hq).1.trans hz) (by omega) (by omega) hokC
            rw [cLe k (by omega), pgN_congr hc, psN_congr hc] at h9
            exact opI_mk (by decide) (by decide) (h9) (m_by_0 b hb (by exact eb') (rp st (A 9) d).1 (by exact q1) hm (rp st (A 9) d).2.1 (by exact q2) hs st hst (by exact e7') ln hln (by exact eln') (by exact hl) k hk q hq n hn (by exact hz) (by omega) (by omega) (by exact hok)) (⟨ln, b, st, (by repeat first | exact hL | refine RelL_n4 ?_ | refine RelL_u2 (by omega) ?_ | refine RelL_ua (by omega) ?_), (by repeat first | exact hT | refine RelT_n4 ?_ | refine RelT_u2 (by omega) ?_ | refine RelT_ua (by omega) ?_), (by repeat first | exact hK | refine RelK_n4 ?_ | refine RelK_u2 (by omega) ?_ | refine RelK_ua (by omega) ?_), (by repeat first | exact hD | refine RelD_n4 ?_ | refine RelD_u2 (by omega) ?_), (by repeat first | exact hN | refine RelN_u2 (by omega) ?_ | refine RelN_ua (by omega) ?_), (by repeat first | exact hQ | refine RelQ_n4 ?_ | refine RelQ_u2 (by omega) ?_ | refine RelQ_ua (by omega) ?_), (by repeat first | exact hF | refine RelF_n4 ?_ | refine RelF_u2 (by omega) ?_ | refine RelF_ua (by omega) ?_), (RelU_told rfl), hJ, hS⟩)
          · exact opI_mk (by decide) (by decide) (c_by_U ln hln eln k hk q hq n (by rw [rm_row hq]; exact hn) ((hL q hq).1.trans hz) (by omega) (by omega) (fun z => hok (fun i hi => by have h7 := z i hi; rw [(hL q hq).2.2 i (by omega)] at h7; exact h7))) (m_by_U ln hln (by exact eln') k hk q hq n hn (by exact hz) (by omega) (by omega) (by exact hok)) (RelR_found 3 hr)
set_option maxHeartbeats 1000000 in
theorem op_31 {X : XX} : Op_31 X RelR := by
  intro a1 a2 I A J B F hr
  obtain ⟨ln, b, st, hL, hT, hK, hD, hN, hQ, hF, hU, hJ, hS⟩ := id hr
  obtain ⟨hln, hb, hst, eln, eln', eb, eb', e7, e7', hb1⟩ := id hD
  obtain ⟨d, hd, n1, q0, n2, n3, n9, q1, q2, q3, hp⟩ := id hN
  have hm : (rp st (A 9) d).1 ≤ 40 := Nat.le_trans (rp_1 st (A 9) d) hd
  have hs := rp_2 st (A 9) d
  have lks := RelK_lks hK
  have hl := RelK_hl hK
  have cLe := RelK_cL hK
  rcases ix3 a1 ln (by first | decide | omega) with hk | hk | ⟨k, hk, rfl⟩
  · rcases ix3 a2 6 (by first | decide | omega) with hq | hq | ⟨q, hq, rfl⟩
    · exact opI_mk (by decide) (by decide) (c_fainter_bb a1 (Or.inl (by first | exact hk | (rw [eln]; exact hk))) a2 (Or.inl hq)) (m_fainter_b ln hln (by exact eln') a1 (Or.inl hk) a2) (hr)
    · exact opI_mk (by decide) (by decide) (c_fainter_bb a1 (Or.inl (by first | exact hk | (rw [eln]; exact hk))) a2 (Or.inr hq)) (m_fainter_b ln hln (by exact eln') a1 (Or.inl hk) a2) (hr)
    · exact opI_mk (by decide) (by decide) (c_fainter_bo a1 (Or.inl (by first | exact hk | (rw [eln]; exact hk))) q hq) (m_fainter_b ln hln (by exact eln') a1 (Or.inl hk) (nI q)) (hr)
  · rcases ix3 a2 6 (by first | decide | omega) with hq | hq | ⟨q, hq, rfl⟩
    · exact opI_mk (by decide) (by decide) (c_fainter_bb a1 (Or.inr (by first | exact hk | (rw [eln]; exact hk))) a2 (Or.inl hq)) (m_fainter_b ln hln (by exact eln') a1 (Or.inr hk) a2) (hr)
    · exact opI_mk (by decide) (by decide) (c_fainter_bb a1 (Or.inr (by first | exact hk | (rw [eln]; exact hk))) a2 (Or.inr hq)) (m_fainter_b ln hln (by exact eln') a1 (Or.inr hk) a2) (hr)
    · exact opI_mk (by decide) (by decide) (c_fainter_bo a1 (Or.inr (by first | exact hk | (rw [eln]; exact hk))) q hq) (m_fainter_b ln hln (by exact eln') a1 (Or.inr hk) (nI q)) (hr)
  · rcases ix3 a2 6 (by first | decide | omega) with hq | hq | ⟨q, hq, rfl⟩
    · exact opI_mk (by decide) (by decide) (c_fainter_ob ln hln eln k hk a2 (Or.inl hq)) (m_fainter_ob ln hln (by exact eln') k hk a2 (Or.inl hq)) (hr)
    · exact opI_mk (by decide) (by decide) (c_fainter_ob ln hln eln k hk a2 (Or.inr hq)) (m_fainter_ob ln hln (by exact eln') k hk a2 (Or.inr hq)) (hr)
    · rcases (hL q hq).2.1 with hz | ⟨n, hn, hz⟩
      · exact opI_mk (by decide) (by decide) (c_fainter_M ln hln eln k hk q hq ((hL q hq).1.trans hz)) (m_fainter_M ln hln (by exact eln') k hk q hq (by exact hz)) (RelR_found 1 hr)
      · by_cases hn8 : 20 < n
        · exact opI_mk (by decide) (by decide) (c_fainter_S ln hln eln k hk q hq n (by rw [rm_row hq]; exact hn) ((hL q hq).1.trans hz) hn8) (m_fainter_S ln hln (by exact eln') k hk q hq n hn (by exact hz) hn8) (RelR_found 5 hr)
        · by_cases hok : ∀ i, i < n → okN (nI 0) 2147483647 (A 58 (40 * q + i))
          · have hokC : ∀ i, i < n → okN (nI 0) 2147483647 (A (21 + 2 * q) i) := fun i hi => by rw [(hL q hq).2.2 i (by omega)]; exact hok i hi
            have hc : ∀ i, i < n → A (21 + 2 * q) i = (fun x => A 58 (40 * q + x)) i := fun i hi => (hL q hq).2.2 i (by omega)
            by_cases hn0 : n = 0
            · subst hn0
              exact opI_mk (by decide) (by decide) (c_fainter_N ln hln eln k hk q hq 0 (by omega) ((hL q hq).1.trans hz) (by omega) hokC rfl) (m_fainter_E ln hln (by exact eln') k hk q hq (by exact hz)) (⟨ln, b, st, (by repeat first | exact hL | refine RelL_n4 ?_ | refine RelL_u2 (by omega) ?_ | refine RelL_ua (by omega) ?_), (by repeat first | exact hT | refine RelT_n4 ?_ | refine RelT_u2 (by omega) ?_ | refine RelT_ua (by omega) ?_), (by repeat first | exact hK | refine RelK_n4 ?_ | refine RelK_u2 (by omega) ?_ | refine RelK_ua (by omega) ?_), (by repeat first | exact hD | refine RelD_n4 ?_ | refine RelD_u2 (by omega) ?_), (by repeat first | exact hN | refine RelN_u2 (by omega) ?_ | refine RelN_ua (by omega) ?_), (by repeat first | exact hQ | refine RelQ_n4 ?_ | refine RelQ_u2 (by omega) ?_ | refine RelQ_ua (by omega) ?_), (by repeat first | exact hF | refine RelF_n4 ?_ | refine RelF_u2 (by omega) ?_ | refine RelF_ua (by omega) ?_), (RelU_told rfl), hJ, hS⟩)
            have hce := f_less_congr (f := A (21 + 2 * q)) (g := (fun x => A 58 (40 * q + x))) (n - 1) 1 (by omega) (fun i hi => hc i (by omega))
            rcases f_less_c (fun x => A 58 (40 * q + x)) (n - 1) 1 with hfl | ⟨j, j1, hj, hfl⟩
            · exact opI_mk (by decide) (by decide) (c_fainter_N ln hln eln k hk q hq n (by rw [rm_row hq]; exact hn) ((hL q hq).1.trans hz) (by omega) hokC (by rw [hce]; exact hfl)) (m_fainter_N ln hln (by exact eln') k hk q hq n hn (by exact hz) (by omega) (by exact hok) (by omega) hfl) (⟨ln, b, st, (by repeat first | exact hL | refine RelL_n4 ?_ | refine RelL_u2 (by omega) ?_ | refine RelL_ua (by omega) ?_), (by repeat first | exact hT | refine RelT_n4 ?_ | refine RelT_u2 (by omega) ?_ | refine RelT_ua (by omega) ?_), (by repeat first | exact hK | refine RelK_n4 ?_ | refine RelK_u2 (by omega) ?_ | refine RelK_ua (by omega) ?_), (by repeat first | exact hD | refine RelD_n4 ?_ | refine RelD_u2 (by omega) ?_), (by repeat first | exact hN | refine RelN_u2 (by omega) ?_ | refine RelN_ua (by omega) ?_), (by repeat first | exact hQ | refine RelQ_n4 ?_ | refine RelQ_u2 (by omega) ?_ | refine RelQ_ua (by omega) ?_), (by repeat first | exact hF | refine RelF_n4 ?_ | refine RelF_u2 (by omega) ?_ | refine RelF_ua (by omega) ?_), (RelU_told rfl), hJ, hS⟩)
            · have h9 := c_fainter_0 (X := X) (A := A) (J := J) (B := B) (F := F) b hb eb (rp st (A 9) d).1 n2 hm (rp st (A 9) d).2.1 n3 hs ln hln eln lks k hk q hq n (by rw [rm_row hq]; exact hn) ((hL q hq).1.trans hz) (by omega) hokC j j1 (by omega) (by rw [hce]; exact hfl)
              rw [cLe k (by omega)] at h9
              exact opI_mk (by decide) (by decide) (h9) (m_fainter_0 b hb (by exact eb') (rp st (A 9) d).1 (by exact q1) hm (rp st (A 9) d).2.1 (by exact q2) hs ln hln (by exact eln') (by exact hl) k hk q hq n hn (by exact hz) (by omega) (by exact hok) j j1 (by omega) hfl) (⟨ln, b, st, (by repeat first | exact hL | refine RelL_n4 ?_ | refine RelL_u2 (by omega) ?_ | refine RelL_ua (by omega) ?_), (by repeat first | exact hT | refine RelT_n4 ?_ | refine RelT_u2 (by omega) ?_ | refine RelT_ua (by omega) ?_), (by repeat first | exact hK | refine RelK_n4 ?_ | refine RelK_u2 (by omega) ?_ | refine RelK_ua (by omega) ?_), (by repeat first | exact hD | refine RelD_n4 ?_ | refine RelD_u2 (by omega) ?_), (by repeat first | exact hN | refine RelN_u2 (by omega) ?_ | refine RelN_ua (by omega) ?_), (by repeat first | exact hQ | refine RelQ_n4 ?_ | refine RelQ_u2 (by omega) ?_ | refine RelQ_ua (by omega) ?_), (by repeat first | exact hF | refine RelF_n4 ?_ | refine RelF_u2 (by omega) ?_ | refine RelF_ua (by omega) ?_), (RelU_told rfl), hJ, hS⟩)
          · exact opI_mk (by decide) (by decide) (c_fainter_U ln hln eln k hk q hq n (by rw [rm_row hq]; exact hn) ((hL q hq).1.trans hz) (by omega) (fun z => hok (fun i hi => by have h7 := z i hi; rw [(hL q hq).2.2 i (by omega)] at h7; exact h7))) (m_fainter_U ln hln (by exact eln') k hk q hq n hn (by exact hz) (by omega) (by exact hok)) (RelR_found 3 hr)
