/-! specs: Night (no loops), View.gain -/
theorem sX3_begin {X : XX} {h : XH} {n dd : Nat} {done moment first spent : Int32} (Na : h[n]? = some (.inr (3, [.ref dd, .int done, .int moment, .int first, .int spent])))  : x_ev X xT 1 40 [.ref n] h none (h.set n (.inr (3, [.ref dd, .int 0, .int 0, .int 0, .int 0]))) := by
  refine q_ev (L := [some (.ref n)]) tX3_begin (Nat.le_of_ble_eq_true rfl) rfl ?_
  refine q_aload_n rfl rfl ?_
  refine q_iconst (v := 0) rfl rfl ?_
  refine q_putX rfl Na rfl (Nat.le_of_ble_eq_true rfl) (rfl) (by decide +kernel) (fun h1 he1 Na_1 ho1 => ?_)
  refine q_aload_n rfl rfl ?_
  refine q_iconst (v := 0) rfl rfl ?_
  refine q_putX rfl Na_1 rfl (Nat.le_of_ble_eq_true rfl) (rfl) (by decide +kernel) (fun h2 he2 Na_2 ho2 => ?_)
  refine q_aload_n rfl rfl ?_
  refine q_iconst (v := 0) rfl rfl ?_
  refine q_putX rfl Na_2 rfl (Nat.le_of_ble_eq_true rfl) (rfl) (by decide +kernel) (fun h3 he3 Na_3 ho3 => ?_)
  refine q_aload_n rfl rfl ?_
  refine q_iconst (v := 0) rfl rfl ?_
  refine q_putX rfl Na_3 rfl (Nat.le_of_ble_eq_true rfl) (rfl) (by decide +kernel) (fun h4 he4 Na_4 ho4 => ?_)
  refine q_vret rfl rfl ?_
  exact ⟨rfl, by rw [he4, he3, he2, he1]; simp [List.set_set]⟩
theorem sX3_forget {X : XX} {h : XH} {n dd : Nat} {done moment first spent : Int32} (Na : h[n]? = some (.inr (3, [.ref dd, .int done, .int moment, .int first, .int spent])))  : x_ev X xT 1 41 [.ref n] h none (h.set n (.inr (3, [.ref dd, .int (-1), .int moment, .int first, .int spent]))) := by
  refine q_ev (L := [some (.ref n)]) tX3_forget (Nat.le_of_ble_eq_true rfl) rfl ?_
  refine q_aload_n rfl rfl ?_
  refine q_iconst (v := (-1)) rfl rfl ?_
  refine q_putX rfl Na rfl (Nat.le_of_ble_eq_true rfl) (rfl) (by decide +kernel) (fun h1 he1 Na_1 ho1 => ?_)
  refine q_vret rfl rfl ?_
  exact ⟨rfl, he1⟩
theorem sX3_isForgotten {X : XX} {h : XH} {n dd : Nat} {done moment first spent : Int32} (Na : h[n]? = some (.inr (3, [.ref dd, .int done, .int moment, .int first, .int spent])))  : x_ev X xT 1 42 [.ref n] h (some (.int (f_neg done))) h := by
  refine q_ev (L := [some (.ref n)]) tX3_isForgotten (Nat.le_of_ble_eq_true rfl) rfl ?_
  refine q_aload_n rfl rfl ?_
  refine q_getfield rfl Na rfl ?_
  refine q_if_ge rfl (fun hc4 => ?_) (fun hc4 => ?_)
  · refine q_iconst (v := 0) rfl rfl ?_
    refine q_zret rfl rfl (by decide) ?_
    exact ⟨by simp [f_neg, *], rfl⟩
  · refine q_iconst (v := 1) rfl rfl ?_
    refine q_goto rfl ?_
    refine q_zret rfl rfl (by decide) ?_
    exact ⟨by simp [f_neg, *], rfl⟩
theorem sX3_done {X : XX} {h : XH} {n dd : Nat} {done moment first spent : Int32} (Na : h[n]? = some (.inr (3, [.ref dd, .int done, .int moment, .int first, .int spent])))  : x_ev X xT 1 43 [.ref n] h (some (.int done)) h := by
  refine q_ev (L := [some (.ref n)]) tX3_done (Nat.le_of_ble_eq_true rfl) rfl ?_
  refine q_aload_n rfl rfl ?_
  refine q_getfield rfl Na rfl ?_
  refine q_iret rfl rfl ?_
  exact ⟨rfl, rfl⟩
theorem sX3_now {X : XX} {h : XH} {n dd : Nat} {done moment first spent : Int32} (Na : h[n]? = some (.inr (3, [.ref dd, .int done, .int moment, .int first, .int spent])))  : x_ev X xT 1 44 [.ref n] h (some (.int moment)) h := by
  refine q_ev (L := [some (.ref n)]) tX3_now (Nat.le_of_ble_eq_true rfl) rfl ?_
  refine q_aload_n rfl rfl ?_
  refine q_getfield rfl Na rfl ?_
  refine q_iret rfl rfl ?_
  exact ⟨rfl, rfl⟩
theorem sX3_first {X : XX} {h : XH} {n dd : Nat} {done moment first spent : Int32} (Na : h[n]? = some (.inr (3, [.ref dd, .int done, .int moment, .int first, .int spent])))  : x_ev X xT 1 45 [.ref n] h (some (.int first)) h := by
  refine q_ev (L := [some (.ref n)]) tX3_first (Nat.le_of_ble_eq_true rfl) rfl ?_
  refine q_aload_n rfl rfl ?_
  refine q_getfield rfl Na rfl ?_
  refine q_iret rfl rfl ?_
  exact ⟨rfl, rfl⟩
theorem sX3_spent {X : XX} {h : XH} {n dd : Nat} {done moment first spent : Int32} (Na : h[n]? = some (.inr (3, [.ref dd, .int done, .int moment, .int first, .int spent])))  : x_ev X xT 1 46 [.ref n] h (some (.int spent)) h := by
  refine q_ev (L := [some (.ref n)]) tX3_spent (Nat.le_of_ble_eq_true rfl) rfl ?_
  refine q_aload_n rfl rfl ?_
  refine q_getfield rfl Na rfl ?_
  refine q_iret rfl rfl ?_
  exact ⟨rfl, rfl⟩
def f_hrm (done x : Int32) : Int32 := if done < 0 then 0 else if 40 < done + x then 0 else 1
theorem sX3_hasRoom {X : XX} {h : XH} {n dd : Nat} {done moment first spent : Int32} (Na : h[n]? = some (.inr (3, [.ref dd, .int done, .int moment, .int first, .int spent]))) {df : Nat → Int32} (Nd : h[dd]? = some (.inl (0, 40, .inl df))) (ld : dd < 1000) (x : Int32) : x_ev X xT 1 47 [.ref n, .int x] h (some (.int (f_hrm done x))) h := by
  refine q_ev (L := [some (.ref n), some (.int x)]) tX3_hasRoom (Nat.le_of_ble_eq_true rfl) rfl ?_
  refine q_aload_n rfl rfl ?_
  refine q_getfield rfl Na rfl ?_
  refine q_if_lt rfl (fun hc4 => ?_) (fun hc4 => ?_)
  · refine q_iconst (v := 0) rfl rfl ?_
    refine q_zret rfl rfl (by decide) ?_
    exact ⟨by first | (simp [f_hrm, *]; done) | (have hc18 := hc18; simp only [show Int32.ofNat 40 = (40 : Int32) from rfl] at hc18; simp [f_hrm, *]; done), rfl⟩
  · refine q_aload_n rfl rfl ?_
    refine q_getfield rfl Na rfl ?_
    refine q_iload_n rfl rfl ?_
    refine q_iadd rfl ?_
    refine q_aload_n rfl rfl ?_
    refine q_getfield rfl Na rfl ?_
    refine q_alen rfl (ld) Nd (by decide) rfl ?_
    refine q_icmp_gt rfl (fun hc18 => ?_) (fun hc18 => ?_)
    · refine q_iconst (v := 0) rfl rfl ?_
      refine q_zret rfl rfl (by decide) ?_
      exact ⟨by first | (simp [f_hrm, *]; done) | (have hc18 := hc18; simp only [show Int32.ofNat 40 = (40 : Int32) from rfl] at hc18; simp [f_hrm, *]; done), rfl⟩
    · refine q_iconst (v := 1) rfl rfl ?_
      refine q_goto rfl ?_
      refine q_zret rfl rfl (by decide) ?_
      exact ⟨by first | (simp [f_hrm, *]; done) | (have hc18 := hc18; simp only [show Int32.ofNat 40 = (40 : Int32) from rfl] at hc18; simp [f_hrm, *]; done), rfl⟩
theorem f_hrm_1 {k : Nat} (hk : k < 40) : f_hrm (nI k) 1 = 1 := by
  have h1 : ¬ nI k < 0 := nI_pos (by omega)
  have h2 : ¬ (40 : Int32) < nI k + 1 := by
    rw [← nI_succ]
    exact nI_nlt (a := 40) (b := k + 1) (by omega) (by omega)
  simp [f_hrm, h1, h2]
theorem f_ixk {k m : Nat} (hk : k < m) (hm : m < 2 ^ 31) : ¬ (nI k < 0 ∨ m ≤ (nI k).toNatClampNeg) := nI_in hk hm
theorem sX3_note {X : XX} {h : XH} {n dd : Nat} {k : Nat} {moment first spent : Int32} {df : Nat → Int32} (Na : h[n]? = some (.inr (3, [.ref dd, .int (nI k), .int moment, .int first, .int spent]))) (Nd : h[dd]? = some (.inl (0, 40, .inl df))) (ld : dd < 1000) (hk : k < 40) (x : Int32) : x_ev X xT 2 52 [.ref n, .int x] h none ((h.set dd (.inl (0, 40, .inl (upd df k x)))).set n (.inr (3, [.ref dd, .int (nI (k + 1)), .int moment, .int first, .int spent]))) := by
  refine q_ev (L := [some (.ref n), some (.int x)]) tX3_note (Nat.le_of_ble_eq_true rfl) rfl ?_
  refine q_aload_n rfl rfl ?_
  refine q_iconst (v := 1) rfl rfl ?_
  refine q_callV1 rfl Na (Nat.le_of_ble_eq_true rfl) (Nat.le_of_ble_eq_true rfl) (sX3_hasRoom Na Nd ld 1) ?_
  refine q_if_eq rfl (fun hc5 => ?_) (fun hc5 => ?_)
  · exact absurd hc5 (by rw [f_hrm_1 hk]; decide)
  · refine q_aload_n rfl rfl ?_
    refine q_getfield rfl Na rfl ?_
    refine q_aload_n rfl rfl ?_
    refine q_getfield rfl Na rfl ?_
    refine q_iload_n rfl rfl ?_
    refine q_iastX rfl Nd (f_ixk hk (by omega)) (fun h1 he1 Nd_1 ho1 => ?_)
    have Na_1 := ho1 _ _ (x_ne2 Na Nd) Na
    refine q_aload_n rfl rfl ?_
    refine q_dupA rfl ?_
    refine q_getfield rfl Na_1 rfl ?_
    refine q_iconst (v := 1) rfl rfl ?_
    refine q_iadd rfl ?_
    refine q_putX rfl Na_1 rfl (Nat.le_of_ble_eq_true rfl) (rfl) (by decide +kernel) (fun h2 he2 Na_2 ho2 => ?_)
    have Nd_2 := ho2 _ _ (x_ne1 Na Nd) Nd_1
    refine q_vret rfl rfl ?_
    refine ⟨rfl, ?_⟩
    rw [he2, he1, nI_clamp (show k < 2 ^ 31 by omega), nI_succ]
    rfl
theorem sX3_pass {X : XX} {h : XH} {n dd : Nat} {k : Nat} {moment first spent : Int32} {df : Nat → Int32} (Na : h[n]? = some (.inr (3, [.ref dd, .int (nI k), .int moment, .int first, .int spent]))) (Nd : h[dd]? = some (.inl (0, 40, .inl df))) (ld : dd < 1000) (hk : k < 40)  : x_ev X xT 3 48 [.ref n] h none ((h.set dd (.inl (0, 40, .inl (upd df k 0)))).set n (.inr (3, [.ref dd, .int (nI (k + 1)), .int (moment + 1), .int first, .int spent]))) := by
  refine q_ev (L := [some (.ref n)]) tX3_pass (Nat.le_of_ble_eq_true rfl) rfl ?_
  refine q_aload_n rfl rfl ?_
  refine q_iconst (v := 0) rfl rfl ?_
  refine q_callV1 rfl Na (Nat.le_of_ble_eq_true rfl) (Nat.le_of_ble_eq_true rfl) (sX3_note Na Nd ld hk 0) ?_
  generalize hg : (List.set (List.set h dd (.inl (0, 40, .inl (upd df k 0)))) n (.inr (3, [.ref dd, .int (nI (k + 1)), .int moment, .int first, .int spent])) : XH) = g1
  have Ng : g1[n]? = some (.inr (3, [.ref dd, .int (nI (k + 1)), .int moment, .int first, .int spent])) := by rw [← hg]; exact x_gs (x_gn (x_ne2 Na Nd) Na)
  refine q_aload_n rfl rfl ?_
  refine q_dupA rfl ?_
  refine q_getfield rfl Ng rfl ?_
  refine q_iconst (v := 1) rfl rfl ?_
  refine q_iadd rfl ?_
  refine q_putX rfl Ng rfl (Nat.le_of_ble_eq_true rfl) (rfl) (by decide +kernel) (fun h1 he1 Na_1 ho1 => ?_)
  refine q_vret rfl rfl ?_
  refine ⟨rfl, ?_⟩
  rw [he1, ← hg]
  simp [List.set_set]
theorem sX3_turnBy {X : XX} {h : XH} {n dd : Nat} {k : Nat} {moment first spent : Int32} {df : Nat → Int32} (Na : h[n]? = some (.inr (3, [.ref dd, .int (nI k), .int moment, .int first, .int spent]))) (Nd : h[dd]? = some (.inl (0, 40, .inl df))) (ld : dd < 1000) (hk : k < 40) {b : Nat} {broad sticks : Int32} (Sb : h[b]? = some (.inr (6, [.int broad, .int sticks]))) (x : Int32) : x_ev X xT 4 49 [.ref n, .int x, .ref b] h (some (.int (f_ef sticks first x))) ((h.set dd (.inl (0, 40, .inl (upd df k x)))).set n (.inr (3, [.ref dd, .int (nI (k + 1)), .int moment, .int (f_rd (first + x)), .int (spent + f_ef sticks first x)]))) := by
  refine q_ev (L := [some (.ref n), some (.int x), some (.ref b), none]) tX3_turnBy (Nat.le_of_ble_eq_true rfl) rfl ?_
  refine q_aload_n rfl rfl ?_
  refine q_iload_n rfl rfl ?_
  refine q_callV1 rfl Na (Nat.le_of_ble_eq_true rfl) (Nat.le_of_ble_eq_true rfl) (sX3_note Na Nd ld hk x) ?_
  generalize hg : (List.set (List.set h dd (.inl (0, 40, .inl (upd df k x)))) n (.inr (3, [.ref dd, .int (nI (k + 1)), .int moment, .int first, .int spent])) : XH) = g1
  have Ng : g1[n]? = some (.inr (3, [.ref dd, .int (nI (k + 1)), .int moment, .int first, .int spent])) := by rw [← hg]; exact x_gs (x_gn (x_ne2 Na Nd) Na)
  have Sg : g1[b]? = some (.inr (6, [.int broad, .int sticks])) := by rw [← hg]; exact x_gn (x_ne3 Sb Na (by decide)) (x_gn (x_ne2 Sb Nd) Sb)
  refine q_aload_n rfl rfl ?_
  refine q_aload_n rfl rfl ?_
  refine q_getfield rfl Ng rfl ?_
  refine q_iload_n rfl rfl ?_
  refine q_callV2 rfl Sg (Nat.le_of_ble_eq_true rfl) (Nat.le_of_ble_eq_true rfl) (sX6_effortOf Sg first x) ?_
  refine q_istore_n (L' := [_, _, _, _]) rfl rfl ?_
  refine q_aload_n rfl rfl ?_
  refine q_aload_n rfl rfl ?_
  refine q_getfield rfl Ng rfl ?_
  refine q_iload_n rfl rfl ?_
  refine q_iadd rfl ?_
  refine q_callS1 rfl rfl (Nat.le_of_ble_eq_true rfl) (Nat.le_of_ble_eq_true rfl) (sX8_round _) ?_
  refine q_putX rfl Ng rfl (Nat.le_of_ble_eq_true rfl) (rfl) (by decide +kernel) (fun h1 he1 Na_1 ho1 => ?_)
  have Sb_1 := ho1 _ _ (x_ne3 Sb Na (by decide)) Sg
  refine q_aload_n rfl rfl ?_
  refine q_dupA rfl ?_
  refine q_getfield rfl Na_1 rfl ?_
  refine q_iload_n rfl rfl ?_
  refine q_iadd rfl ?_
  refine q_putX rfl Na_1 rfl (Nat.le_of_ble_eq_true rfl) (rfl) (by decide +kernel) (fun h2 he2 Na_2 ho2 => ?_)
  have Sb_2 := ho2 _ _ (x_ne3 Sb Na (by decide)) Sb_1
  refine q_iload_n rfl rfl ?_
  refine q_iret rfl rfl ?_
  refine ⟨rfl, ?_⟩
  rw [he2, he1, ← hg]
  simp [List.set_set]
theorem sX3_become {X : XX} {h : XH} {n dd n2 d2 : Nat} {done moment first spent done2 moment2 first2 spent2 : Int32} {df df2 : Nat → Int32} (Na : h[n]? = some (.inr (3, [.ref dd, .int done, .int moment, .int first, .int spent]))) (Nd : h[dd]? = some (.inl (0, 40, .inl df))) (Nb : h[n2]? = some (.inr (3, [.ref d2, .int done2, .int moment2, .int first2, .int spent2]))) (Ne : h[d2]? = some (.inl (0, 40, .inl df2))) (hne : n2 ≠ n) (hde : d2 ≠ dd)  : x_ev X xT 2 51 [.ref n, .ref n2] h none ((h.set dd (.inl (0, 40, .inl (va_cpy df2 df 0 0 40)))).set n (.inr (3, [.ref dd, .int done2, .int moment2, .int first2, .int spent2]))) := by
  refine q_ev (L := [some (.ref n), some (.ref n2)]) tX3_become (Nat.le_of_ble_eq_true rfl) rfl ?_
  refine q_aload_n rfl rfl ?_
  refine q_getfield rfl Nb rfl ?_
  refine q_iconst (v := 0) rfl rfl ?_
  refine q_aload_n rfl rfl ?_
  refine q_getfield rfl Na rfl ?_
  refine q_iconst (v := 0) rfl rfl ?_
  refine q_bipush (v := 40) rfl rfl ?_
  refine q_cpyX rfl rfl Ne Nd (by decide) (fun h1 he1 Nd_1 ho1 => ?_)
  have Na_1 := ho1 _ _ (x_ne2 Na Nd) Na
  have Nb_1 := ho1 _ _ (x_ne2 Nb Nd) Nb
  have Ne_1 := ho1 _ _ (hde) Ne
  refine q_aload_n rfl rfl ?_
  refine q_aload_n rfl rfl ?_
  refine q_getfield rfl Nb_1 rfl ?_
  refine q_putX rfl Na_1 rfl (Nat.le_of_ble_eq_true rfl) (rfl) (by decide +kernel) (fun h2 he2 Na_2 ho2 => ?_)
  have Nb_2 := ho2 _ _ (hne) Nb_1
  have Nd_2 := ho2 _ _ (x_ne1 Na Nd) Nd_1
  have Ne_2 := ho2 _ _ (x_ne1 Na Ne) Ne_1
  refine q_aload_n rfl rfl ?_
  refine q_aload_n rfl rfl ?_
  refine q_getfield rfl Nb_2 rfl ?_
  refine q_putX rfl Na_2 rfl (Nat.le_of_ble_eq_true rfl) (rfl) (by decide +kernel) (fun h3 he3 Na_3 ho3 => ?_)
  have Nb_3 := ho3 _ _ (hne) Nb_2
  have Nd_3 := ho3 _ _ (x_ne1 Na Nd) Nd_2
  have Ne_3 := ho3 _ _ (x_ne1 Na Ne) Ne_2
  refine q_aload_n rfl rfl ?_
  refine q_aload_n rfl rfl ?_
  refine q_getfield rfl Nb_3 rfl ?_
  refine q_putX rfl Na_3 rfl (Nat.le_of_ble_eq_true rfl) (rfl) (by decide +kernel) (fun h4 he4 Na_4 ho4 => ?_)
  have Nb_4 := ho4 _ _ (hne) Nb_3
  have Nd_4 := ho4 _ _ (x_ne1 Na Nd) Nd_3
  have Ne_4 := ho4 _ _ (x_ne1 Na Ne) Ne_3
  refine q_aload_n rfl rfl ?_
  refine q_aload_n rfl rfl ?_
  refine q_getfield rfl Nb_4 rfl ?_
  refine q_putX rfl Na_4 rfl (Nat.le_of_ble_eq_true rfl) (rfl) (by decide +kernel) (fun h5 he5 Na_5 ho5 => ?_)
  have Nb_5 := ho5 _ _ (hne) Nb_4
  have Nd_5 := ho5 _ _ (x_ne1 Na Nd) Nd_4
  have Ne_5 := ho5 _ _ (x_ne1 Na Ne) Ne_4
  refine q_vret rfl rfl ?_
  refine ⟨rfl, ?_⟩
  rw [he5, he4, he3, he2, he1]
  simp [List.set_set]
