/-! DomeSlit, what its calls share, over HX -/
theorem q_heap {X : XX} {d : Nat} {M : XM} {pc : Nat} {L : XL} {st : List Value} {h h2 : XH} {P : Option Value → XH → Prop} (e : h = h2) (k : Wp X xT d M pc L st h2 P) : Wp X xT d M pc L st h P := e ▸ k
theorem q_cnv {X : XX} {d : Nat} {M : XM} {pc pc2 : Nat} {L L2 : XL} {st st2 : List Value} {h h2 : XH} {P : Option Value → XH → Prop} (k : Wp X xT d M pc2 L2 st2 h2 P) (e1 : pc = pc2) (e2 : L = L2) (e3 : st = st2) (e4 : h = h2) : Wp X xT d M pc L st h P := by
  subst e1; subst e2; subst e3; subst e4; exact k
def f_cnt (A : Nat → Nat → Int32) (a n : Nat) : Nat → Nat → Int32 := ua A a (upd (A a) n (A a n + 1))
theorem sX8_found {X : XX} {I A : Nat → Nat → Int32} {J B : Nat → Nat → Int64} {F : Nat → Nat} (n : Nat) (hn : n < 6) : x_ev X xT 1 128 [.ref 0, .int (nI n)] (HX I A J B F) (some (.int (-3))) (HX (u2 I 0 13 (nI n)) (f_cnt A 19 n) J B F) := by
  refine q_ev (L := [some (.ref 0), some (.int (nI n))]) tX8_found (Nat.le_of_ble_eq_true rfl) rfl ?_
  refine q_aload_n rfl rfl ?_
  refine q_iload_n rfl rfl ?_
  refine q_putfield rfl hx_0 rfl (Nat.le_of_ble_eq_true rfl) (rfl) (by decide +kernel) ?_
  refine q_heap (hs_0_13 _) ?_
  refine q_iload_n rfl rfl ?_
  refine q_if_lt rfl (fun hc6 => ?_) (fun hc6 => ?_)
  · exact absurd hc6 (nI_pos (by omega))
  · refine q_iload_n rfl rfl ?_
    refine q_aload_n rfl rfl ?_
    refine q_getfield rfl hx_0 rfl ?_
    refine q_alen rfl (by first | assumption | decide | omega) hx_19 (by decide) rfl ?_
    refine q_icmp_ge rfl (fun hc15 => ?_) (fun hc15 => ?_)
    · exact absurd hc15 (nI_nge (a := n) (b := 6) hn (by omega))
    · refine q_aload_n rfl rfl ?_
      refine q_getfield rfl hx_0 rfl ?_
      refine q_iload_n rfl rfl ?_
      refine q_dup2 rfl ?_
      refine q_iaload rfl (by first | assumption | decide | omega) hx_19 (f_ixk hn (by omega)) ?_
      refine q_iconst (v := 1) rfl rfl ?_
      refine q_iadd rfl ?_
      refine q_iastore rfl hx_19 (f_ixk hn (by omega)) ?_
      refine q_heap (ha_19 _) ?_
      refine q_bipush (v := (-3)) rfl rfl ?_
      refine q_iret rfl rfl ?_
      exact ⟨rfl, by rw [nI_clamp (show n < 2 ^ 31 by omega)]; rfl⟩
theorem sX8_isTooFar {X : XX} {I A : Nat → Nat → Int32} {J B : Nat → Nat → Int64} {F : Nat → Nat} (x : Int32) : x_ev X xT 1 124 [.int x] (HX I A J B F) (some (.int (if x < 0 then 1 else if x ≤ 99 then 0 else 1))) (HX I A J B F) := by
  refine q_ev (L := [some (.int x)]) tX8_isTooFar (Nat.le_of_ble_eq_true rfl) rfl ?_
  refine q_iload_n rfl rfl ?_
  refine q_if_lt rfl (fun hc1 => ?_) (fun hc1 => ?_)
  · refine q_iconst (v := 1) rfl rfl ?_
    refine q_goto rfl ?_
    refine q_zret rfl rfl (by decide) ?_
    exact ⟨by simp [*], rfl⟩
  · refine q_iload_n rfl rfl ?_
    refine q_bipush (v := 99) rfl rfl ?_
    refine q_icmp_le rfl (fun hc7 => ?_) (fun hc7 => ?_)
    · refine q_iconst (v := 0) rfl rfl ?_
      refine q_zret rfl rfl (by decide) ?_
      exact ⟨by simp [*], rfl⟩
    · refine q_iconst (v := 1) rfl rfl ?_
      refine q_goto rfl ?_
      refine q_zret rfl rfl (by decide) ?_
      exact ⟨by simp [*], rfl⟩
theorem sX8_isNoFollowing {X : XX} {I A : Nat → Nat → Int32} {J B : Nat → Nat → Int64} {F : Nat → Nat} (x : Int32) : x_ev X xT 1 125 [.int x] (HX I A J B F) (some (.int (if x < 1 then 1 else if x ≤ 8 then 0 else 1))) (HX I A J B F) := by
  refine q_ev (L := [some (.int x)]) tX8_isNoFollowing (Nat.le_of_ble_eq_true rfl) rfl ?_
  refine q_iload_n rfl rfl ?_
  refine q_iconst (v := 1) rfl rfl ?_
  refine q_icmp_lt rfl (fun hc2 => ?_) (fun hc2 => ?_)
  · refine q_iconst (v := 1) rfl rfl ?_
    refine q_goto rfl ?_
    refine q_zret rfl rfl (by decide) ?_
    exact ⟨by simp [*], rfl⟩
  · refine q_iload_n rfl rfl ?_
    refine q_bipush (v := 8) rfl rfl ?_
    refine q_icmp_le rfl (fun hc8 => ?_) (fun hc8 => ?_)
    · refine q_iconst (v := 0) rfl rfl ?_
      refine q_zret rfl rfl (by decide) ?_
      exact ⟨by simp [*], rfl⟩
    · refine q_iconst (v := 1) rfl rfl ?_
      refine q_goto rfl ?_
      refine q_zret rfl rfl (by decide) ?_
      exact ⟨by simp [*], rfl⟩
theorem sX8_lineAt_row {X : XX} {I A : Nat → Nat → Int32} {J B : Nat → Nat → Int64} {F : Nat → Nat} (k : Nat) (hk : k < 6) : x_ev X xT 1 126 [.ref 1, .int (nI k)] (HX I A J B F) (some (.ref (20 + 2 * k))) (HX I A J B F) := by
  refine q_ev (L := [some (.ref 1), some (.int (nI k))]) tX8_lineAt (Nat.le_of_ble_eq_true rfl) rfl ?_
  refine q_iload_n rfl rfl ?_
  refine q_if_lt rfl (fun hc1 => ?_) (fun hc1 => ?_)
  · exact absurd hc1 (nI_pos (by omega))
  · refine q_iload_n rfl rfl ?_
    refine q_aload_n rfl rfl ?_
    refine q_alen rfl (by decide) hx_1 (by decide) rfl ?_
    refine q_icmp_ge rfl (fun hc7 => ?_) (fun hc7 => ?_)
    · exact absurd hc7 (nI_nge (a := k) (b := 6) hk (by omega))
    · refine q_aload_n rfl rfl ?_
      refine q_iload_n rfl rfl ?_
      refine q_aaload rfl hx_1 (f_ixk hk (by omega)) rfl (by rw [nI_clamp (show k < 2 ^ 31 by omega)]; exact xr1_at k hk) ?_
      refine q_goto rfl ?_
      refine q_aret rfl rfl ?_
      exact ⟨rfl, rfl⟩
theorem sX8_lineAt_rowN {X : XX} {I A : Nat → Nat → Int32} {J B : Nat → Nat → Int64} {F : Nat → Nat} (x : Int32) (hx : x < 0 ∨ 6 ≤ x) : x_ev X xT 1 126 [.ref 1, .int x] (HX I A J B F) (some (.null)) (HX I A J B F) := by
  refine q_ev (L := [some (.ref 1), some (.int x)]) tX8_lineAt (Nat.le_of_ble_eq_true rfl) rfl ?_
  refine q_iload_n rfl rfl ?_
  refine q_if_lt rfl (fun hc1 => ?_) (fun hc1 => ?_)
  · refine q_aconst_null rfl ?_
    refine q_aretN rfl rfl ?_
    exact ⟨rfl, rfl⟩
  · refine q_iload_n rfl rfl ?_
    refine q_aload_n rfl rfl ?_
    refine q_alen rfl (by decide) hx_1 (by decide) rfl ?_
    refine q_icmp_ge rfl (fun hc7 => ?_) (fun hc7 => ?_)
    · refine q_aconst_null rfl ?_
      refine q_aretN rfl rfl ?_
      exact ⟨rfl, rfl⟩
    · exact absurd (hx.resolve_left hc1) hc7
theorem sX8_lineAt_txt {X : XX} {I A : Nat → Nat → Int32} {J B : Nat → Nat → Int64} {F : Nat → Nat} (k : Nat) (hk : k < 4) : x_ev X xT 1 126 [.ref 2, .int (nI k)] (HX I A J B F) (some (.ref (32 + 2 * k))) (HX I A J B F) := by
  refine q_ev (L := [some (.ref 2), some (.int (nI k))]) tX8_lineAt (Nat.le_of_ble_eq_true rfl) rfl ?_
  refine q_iload_n rfl rfl ?_
  refine q_if_lt rfl (fun hc1 => ?_) (fun hc1 => ?_)
  · exact absurd hc1 (nI_pos (by omega))
  · refine q_iload_n rfl rfl ?_
    refine q_aload_n rfl rfl ?_
    refine q_alen rfl (by decide) hx_2 (by decide) rfl ?_
    refine q_icmp_ge rfl (fun hc7 => ?_) (fun hc7 => ?_)
    · exact absurd hc7 (nI_nge (a := k) (b := 4) hk (by omega))
    · refine q_aload_n rfl rfl ?_
      refine q_iload_n rfl rfl ?_
      refine q_aaload rfl hx_2 (f_ixk hk (by omega)) rfl (by rw [nI_clamp (show k < 2 ^ 31 by omega)]; exact xr2_at k hk) ?_
      refine q_goto rfl ?_
      refine q_aret rfl rfl ?_
      exact ⟨rfl, rfl⟩
theorem sX8_lineAt_txtN {X : XX} {I A : Nat → Nat → Int32} {J B : Nat → Nat → Int64} {F : Nat → Nat} (x : Int32) (hx : x < 0 ∨ 4 ≤ x) : x_ev X xT 1 126 [.ref 2, .int x] (HX I A J B F) (some (.null)) (HX I A J B F) := by
  refine q_ev (L := [some (.ref 2), some (.int x)]) tX8_lineAt (Nat.le_of_ble_eq_true rfl) rfl ?_
  refine q_iload_n rfl rfl ?_
  refine q_if_lt rfl (fun hc1 => ?_) (fun hc1 => ?_)
  · refine q_aconst_null rfl ?_
    refine q_aretN rfl rfl ?_
    exact ⟨rfl, rfl⟩
  · refine q_iload_n rfl rfl ?_
    refine q_aload_n rfl rfl ?_
    refine q_alen rfl (by decide) hx_2 (by decide) rfl ?_
    refine q_icmp_ge rfl (fun hc7 => ?_) (fun hc7 => ?_)
    · refine q_aconst_null rfl ?_
      refine q_aretN rfl rfl ?_
      exact ⟨rfl, rfl⟩
    · exact absurd (hx.resolve_left hc1) hc7
theorem sX8_lightAt {X : XX} {I A : Nat → Nat → Int32} {J B : Nat → Nat → Int64} {F : Nat → Nat} (k ln : Nat) (hk : k < ln) (hl : ln ≤ 5) (e : I 0 12 = nI ln) : x_ev X xT 1 127 [.ref 0, .int (nI k)] (HX I A J B F) (some (.ref (40 + k))) (HX I A J B F) := by
  refine q_ev (L := [some (.ref 0), some (.int (nI k))]) tX8_lightAt (Nat.le_of_ble_eq_true rfl) rfl ?_
  refine q_iload_n rfl rfl ?_
  refine q_if_lt rfl (fun hc1 => ?_) (fun hc1 => ?_)
  · exact absurd hc1 (nI_pos (by omega))
  · refine q_iload_n rfl rfl ?_
    refine q_aload_n rfl rfl ?_
    refine q_getfield rfl hx_0 rfl ?_
    refine q_icmp_ge rfl (fun hc9 => ?_) (fun hc9 => ?_)
    · rw [e] at hc9
      exact absurd hc9 (nI_nge (a := k) (b := ln) hk (by omega))
    · refine q_iload_n rfl rfl ?_
      refine q_aload_n rfl rfl ?_
      refine q_getfield rfl hx_0 rfl ?_
      refine q_alen rfl (by decide) hx_5 (by decide) rfl ?_
      refine q_icmp_ge rfl (fun hc18 => ?_) (fun hc18 => ?_)
      · exact absurd hc18 (nI_nge (a := k) (b := 5) (by omega) (by omega))
      · refine q_aload_n rfl rfl ?_
        refine q_getfield rfl hx_0 rfl ?_
        refine q_iload_n rfl rfl ?_
        refine q_aaload rfl hx_5 (f_ixk (show k < 5 by omega) (by omega)) rfl (by rw [nI_clamp (show k < 2 ^ 31 by omega)]; exact xr5_at k (by omega)) ?_
        refine q_goto rfl ?_
        refine q_aret rfl rfl ?_
        exact ⟨rfl, rfl⟩
theorem sX8_lightAtN {X : XX} {I A : Nat → Nat → Int32} {J B : Nat → Nat → Int64} {F : Nat → Nat} (x : Int32) (hx : x < 0 ∨ I 0 12 ≤ x) : x_ev X xT 1 127 [.ref 0, .int x] (HX I A J B F) (some (.null)) (HX I A J B F) := by
  refine q_ev (L := [some (.ref 0), some (.int x)]) tX8_lightAt (Nat.le_of_ble_eq_true rfl) rfl ?_
  refine q_iload_n rfl rfl ?_
  refine q_if_lt rfl (fun hc1 => ?_) (fun hc1 => ?_)
  · refine q_aconst_null rfl ?_
    refine q_aretN rfl rfl ?_
    exact ⟨rfl, rfl⟩
  · refine q_iload_n rfl rfl ?_
    refine q_aload_n rfl rfl ?_
    refine q_getfield rfl hx_0 rfl ?_
    refine q_icmp_ge rfl (fun hc9 => ?_) (fun hc9 => ?_)
    · refine q_aconst_null rfl ?_
      refine q_aretN rfl rfl ?_
      exact ⟨rfl, rfl⟩
    · exact absurd (hx.resolve_left hc1) hc9
