/-! sleep: both sides -/
section UB
variable {B : Nat → Nat → Int64} {a b c x : Nat} {f g f2 : Nat → Int64}
theorem ub_eq : ub B a f a = f := if_pos rfl
theorem ub_ne (h : x ≠ a) : ub B a f x = B x := if_neg h
theorem ub_ub : ub (ub B a f) a g = ub B a g := by
  funext y
  unfold ub
  split <;> rfl
theorem ub_comm (h : a ≠ b) : ub (ub B a f) b g = ub (ub B b g) a f := by
  funext y
  unfold ub
  split
  · rw [if_neg (by omega)]
  · rfl
theorem ub_self (h : f = B a) : ub B a f = B := by
  funext y
  unfold ub
  split
  · next z => rw [z, h]
  · rfl
theorem tc_s0 (h : a ≠ b) : ub (ub (ub B a f) b g) a f2 = ub (ub B a f2) b g := by rw [ub_comm (a := a) (b := b) h, ub_ub, ub_comm (a := b) (b := a) (fun z => h z.symm)]
theorem tc_l0 (h : a ≠ b) : (ub (ub B a f) b g) a = f := by rw [ub_ne h, ub_eq]
end UB
theorem ub2_col {B : Nat → Nat → Int64} {F G : Nat → Nat} {w v a b : Nat → Int64} (h1 : RelS F) (h2 : RelS G) : ub (ub (ub (ub B (F 2) w) (F 3) v) (G 2) a) (G 3) b = ub (ub B (G 2) a) (G 3) b := by
  funext y
  unfold ub
  by_cases y3 : y = G 3
  · rw [if_pos y3, if_pos y3]
  · rw [if_neg y3, if_neg y3]
    by_cases y2 : y = G 2
    · rw [if_pos y2, if_pos y2]
    · rw [if_neg y2, if_neg y2]
      rcases h1.2 with ⟨e2, e3⟩ | ⟨e2, e3⟩ <;> rcases h2.2 with ⟨e4, e5⟩ | ⟨e4, e5⟩ <;> rw [if_neg (by omega), if_neg (by omega)]
theorem uj_uj {J : Nat → Nat → Int64} {a k : Nat} {v w : Int64} : uj (uj J a k v) a k w = uj J a k w := by
  funext x y
  unfold uj
  split <;> rfl
theorem uj_self {J : Nat → Nat → Int64} {a k : Nat} : uj J a k (J a k) = J := by
  funext x y
  unfold uj
  split
  · next z => rw [z.1, z.2]
  · rfl
theorem u2_24 {I : Nat → Nat → Int32} {x y z w : Int32} : u2 (u2 (u2 (u2 I 51 31 x) 51 32 y) 51 31 z) 51 32 w = u2 (u2 I 51 31 z) 51 32 w := by
  funext c k
  unfold u2
  by_cases h2 : c = 51 ∧ k = 32
  · rw [if_pos h2, if_pos h2]
  · repeat rw [if_neg h2]
    by_cases h1 : c = 51 ∧ k = 31
    · repeat rw [if_pos h1]
      repeat rw [if_neg h2]
    · repeat rw [if_neg h1]
      repeat rw [if_neg h2]
      repeat rw [if_neg h1]
theorem u2_20 {I : Nat → Nat → Int32} : u2 (u2 I 51 31 (I 51 31)) 51 32 (I 51 32) = I := by
  funext c k
  unfold u2
  split
  · next z => rw [z.1, z.2]
  · split
    · next z => rw [z.1, z.2]
    · rfl
section SW
variable {I A : Nat → Nat → Int32} {J B : Nat → Nat → Int64} {F : Nat → Nat}
theorem hx_W (hS : RelS F) : (HX I A J B F)[F 2]? = some (.inl (1, 24, .inr (.inl (B (F 2))))) := by
  rcases hS.2 with ⟨e0, e1⟩ | ⟨e0, e1⟩
  · rw [e0]
    exact hx_17
  · rw [e0]
    exact hx_18
theorem hx_V (hS : RelS F) : (HX I A J B F)[F 3]? = some (.inl (1, 24, .inr (.inl (B (F 3))))) := by
  rcases hS.2 with ⟨e0, e1⟩ | ⟨e0, e1⟩
  · rw [e1]
    exact hx_18
  · rw [e1]
    exact hx_17
theorem hb_W (hS : RelS F) (f : Nat → Int64) : (HX I A J B F).set (F 2) (.inl (1, 24, .inr (.inl f))) = HX I A J (ub B (F 2) f) F := by
  rcases hS.2 with ⟨e0, e1⟩ | ⟨e0, e1⟩
  · rw [e0]
    exact ha_17 f
  · rw [e0]
    exact ha_18 f
theorem hb_V (hS : RelS F) (f : Nat → Int64) : (HX I A J B F).set (F 3) (.inl (1, 24, .inr (.inl f))) = HX I A J (ub B (F 3) f) F := by
  rcases hS.2 with ⟨e0, e1⟩ | ⟨e0, e1⟩
  · rw [e1]
    exact ha_18 f
  · rw [e1]
    exact ha_17 f
theorem hs_16_1 (v : Nat) : (HX I A J B F).set 16 (.inr (5, [.ref 11, .ref v, .ref (F 3), .long (J 16 3)])) = HX I A J B (uf F 2 v) := rfl
theorem hs_16_2 (v : Nat) : (HX I A J B F).set 16 (.inr (5, [.ref 11, .ref (F 2), .ref v, .long (J 16 3)])) = HX I A J B (uf F 3 v) := rfl
theorem FB_lt (hS : RelS F) : F 2 < 1000 ∧ F 3 < 1000 ∧ F 2 ≠ F 3 := by
  rcases hS.2 with ⟨e0, e1⟩ | ⟨e0, e1⟩ <;> rw [e0, e1] <;> decide
theorem RelS_sw2 (h : RelS F) : RelS (uf (uf F 3 (F 2)) 2 (F 3)) := by
  refine ⟨h.1, ?_⟩
  rcases h.2 with ⟨e0, e1⟩ | ⟨e0, e1⟩
  · exact Or.inr ⟨e1, e0⟩
  · exact Or.inl ⟨e1, e0⟩
end SW
def lfil (g : Nat → Int64) (v : Int64) (k : Nat) : Nat → Int64 := fun x => if x < k then v else g x
theorem lfil_0 {g : Nat → Int64} {v : Int64} : lfil g v 0 = g := by
  funext x
  exact if_neg (Nat.not_lt_zero x)
theorem lfil_s {g : Nat → Int64} {v : Int64} {k : Nat} : vp_updL (lfil g v k) k v = lfil g v (k + 1) := by
  funext x
  unfold vp_updL lfil
  by_cases h : x = k
  · rw [if_pos h, if_pos (by omega)]
  · rw [if_neg h]
    by_cases h2 : x < k
    · rw [if_pos h2, if_pos (by omega)]
    · rw [if_neg h2, if_neg (by omega)]
theorem fillW {X : XX} {I A : Nat → Nat → Int32} {J B : Nat → Nat → Int64} {F : Nat → Nat} (hS : RelS F) (v : Int64) : x_ev X xT 1 256 [.ref (F 2), .long v] (HX I A J B F) none (HX I A J (ub B (F 2) (lfil (B (F 2)) v 24)) F) := by
  refine q_ev (L := [some (.ref (F 2)), some (.long v), none, none, none]) tJ7_fill_d0a16 (Nat.le_of_ble_eq_true rfl) rfl ?_
  refine q_iconst (v := nI 0) rfl rfl ?_
  refine q_istore_n (L' := [_, _, _, _, _]) rfl rfl ?_
  refine q_aload_n rfl rfl ?_
  refine q_alen rfl ((FB_lt hS).1) (hx_W hS) (by decide) (v := nI _) rfl ?_
  refine q_istore (L' := [_, _, _, _, _]) rfl rfl ?_
  refine q_up (Inv := fun i L h => L = [some (.ref (F 2)), some (.long v), none, some (.int (nI i)), some (.int (nI 24))] ∧ h = HX I A J (ub B (F 2) (lfil (B (F 2)) v i)) F) (24) (fun i L h hk_i hi_i ih_i => ?_) (fun L h hi_i => ?_) (0) _ _ (by omega) (⟨rfl, by rw [lfil_0, ub_self rfl]⟩)
  · obtain ⟨rfl, rfl⟩ := hi_i
    refine q_iload_n rfl rfl ?_
    refine q_iload rfl rfl ?_
    refine q_icmp_geN rfl (by omega) (by omega) (fun hcis9 => ?_) (fun hcis9 => ?_)
    · omega
    · refine q_aload_n rfl rfl ?_
      refine q_iload_n rfl rfl ?_
      refine q_lload_n rfl rfl ?_
      refine q_lastN rfl (hx_W hS) (by omega) (by decide) ?_
      refine q_heap (hb_W hS _) ?_
      refine q_iincN (c := 1) (L' := [_, _, _, _, _]) rfl rfl rfl rfl ?_
      refine q_goto rfl ?_
      exact ih_i _ _ (⟨rfl, by rw [ub_ub, ub_eq, lfil_s]⟩)
  · obtain ⟨rfl, rfl⟩ := hi_i
    refine q_iload_n rfl rfl ?_
    refine q_iload rfl rfl ?_
    refine q_icmp_geN rfl (by omega) (by omega) (fun hcif9 => ?_) (fun hcif9 => ?_)
    · refine q_vret rfl rfl ?_
      exact ⟨rfl, rfl⟩
    · omega
theorem fillV {X : XX} {I A : Nat → Nat → Int32} {J B : Nat → Nat → Int64} {F : Nat → Nat} (hS : RelS F) (v : Int64) : x_ev X xT 1 256 [.ref (F 3), .long v] (HX I A J B F) none (HX I A J (ub B (F 3) (lfil (B (F 3)) v 24)) F) := by
  refine q_ev (L := [some (.ref (F 3)), some (.long v), none, none, none]) tJ7_fill_d0a16 (Nat.le_of_ble_eq_true rfl) rfl ?_
  refine q_iconst (v := nI 0) rfl rfl ?_
  refine q_istore_n (L' := [_, _, _, _, _]) rfl rfl ?_
  refine q_aload_n rfl rfl ?_
  refine q_alen rfl ((FB_lt hS).2.1) (hx_V hS) (by decide) (v := nI _) rfl ?_
  refine q_istore (L' := [_, _, _, _, _]) rfl rfl ?_
  refine q_up (Inv := fun i L h => L = [some (.ref (F 3)), some (.long v), none, some (.int (nI i)), some (.int (nI 24))] ∧ h = HX I A J (ub B (F 3) (lfil (B (F 3)) v i)) F) (24) (fun i L h hk_i hi_i ih_i => ?_) (fun L h hi_i => ?_) (0) _ _ (by omega) (⟨rfl, by rw [lfil_0, ub_self rfl]⟩)
  · obtain ⟨rfl, rfl⟩ := hi_i
    refine q_iload_n rfl rfl ?_
    refine q_iload rfl rfl ?_
    refine q_icmp_geN rfl (by omega) (by omega) (fun hcis9 => ?_) (fun hcis9 => ?_)
    · omega
    · refine q_aload_n rfl rfl ?_
      refine q_iload_n rfl rfl ?_
      refine q_lload_n rfl rfl ?_
      refine q_lastN rfl (hx_V hS) (by omega) (by decide) ?_
      refine q_heap (hb_V hS _) ?_
      refine q_iincN (c := 1) (L' := [_, _, _, _, _]) rfl rfl rfl rfl ?_
      refine q_goto rfl ?_
      exact ih_i _ _ (⟨rfl, by rw [ub_ub, ub_eq, lfil_s]⟩)
  · obtain ⟨rfl, rfl⟩ := hi_i
    refine q_iload_n rfl rfl ?_
    refine q_iload rfl rfl ?_
    refine q_icmp_geN rfl (by omega) (by omega) (fun hcif9 => ?_) (fun hcif9 => ?_)
    · refine q_vret rfl rfl ?_
      exact ⟨rfl, rfl⟩
    · omega
theorem sX5_spread {X : XX} {I A : Nat → Nat → Int32} {J B : Nat → Nat → Int64} {F : Nat → Nat} (hS : RelS F) (W : Nat → Nat) (hW : ∀ s, s < 24 → B (F 2) s = lN (W s)) (p j : Nat) (hp : p ≤ 12) (hj : j < 13) : ∃ v G, x_ev X xT 3 66 [.ref 16, .int (sI 6 j), .int (nI p)] (HX I A J B F) none (HX I A J (ub (ub B (G 2) v) (G 3) (B (F 2))) G) ∧ RelS G ∧ G 0 = F 0 ∧ G 1 = F 1 ∧ ∀ u, u < 24 → v u = lN (sv_w W p j 24 u) := by
  obtain ⟨r_, h_, he_, v, G, hr_, hh_, hf_⟩ := q_evx (X := X) (d := 2) (as := [.ref 16, .int (sI 6 j), .int (nI p)]) (h := (HX I A J B F)) (P := fun r_ h_ => ∃ v G, r_ = none ∧ h_ = (HX I A J (ub (ub B (G 2) v) (G 3) (B (F 2))) G) ∧ RelS G ∧ G 0 = F 0 ∧ G 1 = F 1 ∧ ∀ u, u < 24 → v u = lN (sv_w W p j 24 u)) (L := [some (.ref 16), some (.int (sI 6 j)), some (.int (nI p)), none]) tX5_spread (Nat.le_of_ble_eq_true rfl) rfl (by
    refine q_aload_n rfl rfl ?_
    refine q_getfield rfl hx_16 rfl ?_
    refine q_lconst (v := 0) rfl rfl ?_
    refine q_callS2 rfl rfl (Nat.le_of_ble_eq_true rfl) (Nat.le_of_ble_eq_true rfl) (fillV hS _) ?_
    refine q_iconst (v := nI 0) rfl rfl ?_
    refine q_istore_n (L' := [_, _, _, _]) rfl rfl ?_
    refine q_up (Inv := fun s L h => ∃ v, L = [some (.ref 16), some (.int (sI 6 j)), some (.int (nI p)), some (.int (nI s))] ∧ h = HX I A J (ub B (F 3) v) F ∧ ∀ u, u < 24 → v u = lN (sv_w W p j s u)) (24) (fun s L h hk_s hi_s ih_s => ?_) (fun L h hi_s => ?_) (0) _ _ (by omega) (⟨_, rfl, rfl, fun u hu => if_pos hu⟩)
    · obtain ⟨v, rfl, rfl, hv⟩ := hi_s
      refine q_iload_n rfl rfl ?_
      refine q_bipush (v := nI 24) rfl rfl ?_
      refine q_icmp_geN rfl (by omega) (by omega) (fun hcss13 => ?_) (fun hcss13 => ?_)
      · omega
      · refine q_aload_n rfl rfl ?_
        refine q_getfield rfl hx_16 rfl ?_
        refine q_iload_n rfl rfl ?_
        refine q_dup2 rfl ?_
        refine q_lald rfl (hx_V hS) (by omega) (by decide) ?_
        refine q_cj (show _ = lN (sv_w W p j s s) from by rw [ub_eq]; exact hv s hk_s) ?_
        refine q_aload_n rfl rfl ?_
        refine q_getfield rfl hx_16 rfl ?_
        refine q_iload_n rfl rfl ?_
        refine q_lald rfl (hx_W hS) (by omega) (by decide) ?_
        refine q_cj (show _ = lN (W s) from by rw [ub_ne (FB_lt hS).2.2]; exact hW s hk_s) ?_
        refine q_iload_n rfl rfl ?_
        refine q_i2l rfl ?_
        refine q_cj (nI_l (by omega)) ?_
        refine q_lmul rfl ?_
        refine q_cj (lN_mul _ _) ?_
        refine q_ladd rfl ?_
        refine q_cj (lN_add _ _) ?_
        refine q_lastN rfl (hx_V hS) (by omega) (by decide) ?_
        refine q_heap (hb_V hS _) ?_
        refine q_aload_n rfl rfl ?_
        refine q_getfield rfl hx_16 rfl ?_
        refine q_iload_n rfl rfl ?_
        refine q_iload_n rfl rfl ?_
        refine q_iadd rfl ?_
        refine q_callS1 rfl rfl (Nat.le_of_ble_eq_true rfl) (Nat.le_of_ble_eq_true rfl) (sK_round _) ?_
        refine q_cn (show _ = nI (tN s j) by rw [rdN_t hk_s hj]) ?_
        refine q_dup2 rfl ?_
        refine q_lald rfl (hx_V hS) (by have := tN_lt s j; omega) (by decide) ?_
        have hA : ∀ u, u < 24 → vp_updL (ub B (F 3) v (F 3)) s (lN (sv_w W p j s s + W s * p)) u = lN (sv_a W p s (sv_w W p j s) u) := by
          intro u hu
          by_cases e9 : u = s
          · subst e9
            rw [pk_uLs]
            exact congrArg lN sv_upd_s.symm
          · rw [pk_uLn e9, ub_eq, hv u hu]
            exact congrArg lN (sv_upd_n e9).symm
        refine q_cj (show _ = lN (sv_a W p s (sv_w W p j s) (tN s j)) from by rw [ub_eq]; exact hA _ (tN_lt s j)) ?_
        refine q_aload_n rfl rfl ?_
        refine q_getfield rfl hx_16 rfl ?_
        refine q_iload_n rfl rfl ?_
        refine q_lald rfl (hx_W hS) (by omega) (by decide) ?_
        refine q_cj (show _ = lN (W s) from by rw [ub_ne (FB_lt hS).2.2, ub_ne (FB_lt hS).2.2]; exact hW s hk_s) ?_
        refine q_bipush (v := nI 12) rfl rfl ?_
        refine q_iload_n rfl rfl ?_
        refine q_isubN rfl (by omega) ?_
        refine q_i2l rfl ?_
        refine q_cj (nI_l (by omega)) ?_
        refine q_lmul rfl ?_
        refine q_cj (lN_mul _ _) ?_
        refine q_ladd rfl ?_
        refine q_cj (lN_add _ _) ?_
        refine q_lastN rfl (hx_V hS) (by have := tN_lt s j; omega) (by decide) ?_
        refine q_heap (hb_V hS _) ?_
        refine q_iincN (c := 1) (L' := [_, _, _, _]) rfl rfl rfl rfl ?_
        refine q_goto rfl ?_
        exact ih_s _ _ (⟨_, rfl, by rw [ub_ub, ub_ub, ub_eq, ub_eq], fun u hu => by
              by_cases e9 : u = tN s j
              · subst e9
                rw [pk_uLs]
                exact congrArg lN sv_upd_s.symm
              · rw [pk_uLn e9, ← show ub B (F 3) v (F 3) = v from ub_eq, hA u hu]
                exact congrArg lN (sv_upd_n e9).symm⟩)
    · obtain ⟨v, rfl, rfl, hv⟩ := hi_s
      refine q_iload_n rfl rfl ?_
      refine q_bipush (v := nI 24) rfl rfl ?_
      refine q_icmp_geN rfl (by omega) (by omega) (fun hcsf13 => ?_) (fun hcsf13 => ?_)
      · refine q_aload_n rfl rfl ?_
        refine q_getfield rfl hx_16 rfl ?_
        refine q_astore_n (L' := [_, _, _, _]) rfl rfl ?_
        refine q_aload_n rfl rfl ?_
        refine q_aload_n rfl rfl ?_
        refine q_getfield rfl hx_16 rfl ?_
        refine q_putfield rfl hx_16 rfl (Nat.le_of_ble_eq_true rfl) (rfl) (by decide +kernel) ?_
        refine q_heap (hs_16_2 _) ?_
        refine q_aload_n rfl rfl ?_
        refine q_aload_n rfl rfl ?_
        refine q_putfield rfl hx_16 rfl (Nat.le_of_ble_eq_true rfl) (rfl) (by decide +kernel) ?_
        refine q_heap (hs_16_1 _) ?_
        refine q_vret rfl rfl ?_
        exact ⟨v, uf (uf F 3 (F 2)) 2 (F 3), rfl, (by show HX I A J (ub B (F 3) v) _ = HX I A J (ub (ub B (F 3) v) (F 2) (B (F 2))) _; rw [ub_self (B := ub B (F 3) v) (a := F 2) (ub_ne (FB_lt hS).2.2).symm]), RelS_sw2 hS, rfl, rfl, hv⟩
      · omega)
  subst hr_
  subst hh_
  exact ⟨v, G, he_, hf_⟩
theorem sX5_gotAt {X : XX} {I A : Nat → Nat → Int32} {J B : Nat → Nat → Int64} {F : Nat → Nat} (hS : RelS F) (b m n : Nat) (l : LT) (hl9 : l.2.2.2 ≤ 9) (hV : GV b l m n A) (n8 : n ≤ 8) (W : Nat → Nat) (hW : ∀ s, s < 24 → B (F 2) s = lN (W s)) (k e : Nat) (hk : k < n) (he : e ≤ 1) : ∃ w, x_ev X xT 4 67 [.ref 16, .int (nI k), .int (nI e)] (HX I A J B F) (some (.long (lN (nsum (fun s => W s * gnN b l (nI s) (m + k)) 24)))) (HX I A J (ub B (F 2) w) F) ∧ ∀ u, u < 24 → w u = lN (sv_z e (fun f => gnN b l (nI f) (m + k)) W u) := by
  obtain ⟨r_, h_, he_, w, hr_, hh_, hf_⟩ := q_evx (X := X) (d := 3) (as := [.ref 16, .int (nI k), .int (nI e)]) (h := (HX I A J B F)) (P := fun r_ h_ => ∃ w, r_ = (some (.long (lN (nsum (fun s => W s * gnN b l (nI s) (m + k)) 24)))) ∧ h_ = (HX I A J (ub B (F 2) w) F) ∧ ∀ u, u < 24 → w u = lN (sv_z e (fun f => gnN b l (nI f) (m + k)) W u)) (L := [some (.ref 16), some (.int (nI k)), some (.int (nI e)), none, none, none, none]) tX5_gotAt (Nat.le_of_ble_eq_true rfl) rfl (by
    refine q_lconst (v := 0) rfl rfl ?_
    refine q_lstore_n (L' := [_, _, _, _, _, _, _]) rfl rfl ?_
    refine q_iconst (v := nI 0) rfl rfl ?_
    refine q_istore (L' := [_, _, _, _, _, _, _]) rfl rfl ?_
    refine q_up (Inv := fun s L h => ∃ w z6, L = [some (.ref 16), some (.int (nI k)), some (.int (nI e)), some (.long (lN (nsum (fun s => W s * gnN b l (nI s) (m + k)) s))), none, some (.int (nI s)), z6] ∧ h = HX I A J (ub B (F 2) w) F ∧ (∀ u, u < s → w u = lN (sv_z e (fun f => gnN b l (nI f) (m + k)) W u)) ∧ ∀ u, s ≤ u → u < 24 → w u = lN (W u)) (24) (fun s L h hk_s hi_s ih_s => ?_) (fun L h hi_s => ?_) (0) _ _ (by omega) (⟨B (F 2), _, rfl, by rw [ub_self rfl], fun u hu => absurd hu (Nat.not_lt_zero u), fun u _ hu => hW u hu⟩)
    · obtain ⟨w, z6, rfl, rfl, hw1, hw2⟩ := hi_s
      refine q_iload rfl rfl ?_
      refine q_bipush (v := nI 24) rfl rfl ?_
      refine q_icmp_geN rfl (by omega) (by omega) (fun hcss9 => ?_) (fun hcss9 => ?_)
      · omega
      · refine q_aload_n rfl rfl ?_
        refine q_getfield rfl hx_16 rfl ?_
        refine q_iload_n rfl rfl ?_
        refine q_iload rfl rfl ?_
        refine q_callV2 rfl hx_11 (Nat.le_of_ble_eq_true rfl) (Nat.le_of_ble_eq_true rfl) (sX7_gain k s _ (by omega) hk_s (hV k hk _ hk_s)) ?_
        refine q_istore (L' := [_, _, _, _, _, _, _]) rfl rfl ?_
        refine q_lload_n rfl rfl ?_
        refine q_aload_n rfl rfl ?_
        refine q_getfield rfl hx_16 rfl ?_
        refine q_iload rfl rfl ?_
        refine q_lald rfl (hx_W hS) (by omega) (by decide) ?_
        refine q_cj (show _ = lN (W s) from by rw [ub_eq]; exact hw2 s (Nat.le_refl _) hk_s) ?_
        have hg9 := gnN_le (b := b) (l := l) (fi := nI s) (m := m + k) hl9
        refine q_iload rfl rfl ?_
        refine q_i2l rfl ?_
        refine q_cj (nI_l (by omega)) ?_
        refine q_lmul rfl ?_
        refine q_cj (lN_mul _ _) ?_
        refine q_ladd rfl ?_
        refine q_cj (show _ = lN (nsum (fun s => W s * gnN b l (nI s) (m + k)) (s + 1)) from lN_add _ _) ?_
        refine q_lstore_n (L' := [_, _, _, _, _, _, _]) rfl rfl ?_
        refine q_iload_n rfl rfl ?_
        refine q_if_eqN rfl (by omega) (fun hcss39 => ?_) (fun hcss39 => ?_)
        · refine q_iincN (c := 1) (L' := [_, _, _, _, _, _, _]) rfl rfl rfl rfl ?_
          refine q_goto rfl ?_
          exact ih_s _ _ (⟨_, _, rfl, by first | rfl | rw [ub_ub, ub_eq], fun u hu => by
                by_cases e9 : u = s
                · subst e9
                  first
                    | (rw [pk_uLs]; exact congrArg lN (if_pos ⟨by omega, by assumption⟩).symm)
                    | (rw [hw2 u (Nat.le_refl _) hk_s]; exact congrArg lN (if_neg (fun z => absurd z.1 (by omega))).symm)
                    | (rw [hw2 u (Nat.le_refl _) hk_s]; exact congrArg lN (if_neg (fun z => absurd z.2 (by assumption))).symm)
                · first
                    | exact hw1 u (by omega)
                    | (rw [pk_uLn e9]; exact hw1 u (by omega)), fun u hu hu2 => by first | exact hw2 u (by omega) hu2 | (rw [pk_uLn (by omega)]; exact hw2 u (by omega) hu2)⟩)
        · refine q_iload rfl rfl ?_
          refine q_if_neN rfl (by omega) (fun hcss44 => ?_) (fun hcss44 => ?_)
          · refine q_iincN (c := 1) (L' := [_, _, _, _, _, _, _]) rfl rfl rfl rfl ?_
            refine q_goto rfl ?_
            exact ih_s _ _ (⟨_, _, rfl, by first | rfl | rw [ub_ub, ub_eq], fun u hu => by
                  by_cases e9 : u = s
                  · subst e9
                    first
                      | (rw [pk_uLs]; exact congrArg lN (if_pos ⟨by omega, by assumption⟩).symm)
                      | (rw [hw2 u (Nat.le_refl _) hk_s]; exact congrArg lN (if_neg (fun z => absurd z.1 (by omega))).symm)
                      | (rw [hw2 u (Nat.le_refl _) hk_s]; exact congrArg lN (if_neg (fun z => absurd z.2 (by assumption))).symm)
                  · first
                      | exact hw1 u (by omega)
                      | (rw [pk_uLn e9]; exact hw1 u (by omega)), fun u hu hu2 => by first | exact hw2 u (by omega) hu2 | (rw [pk_uLn (by omega)]; exact hw2 u (by omega) hu2)⟩)
          · refine q_aload_n rfl rfl ?_
            refine q_getfield rfl hx_16 rfl ?_
            refine q_iload rfl rfl ?_
            refine q_lconst (v := 0) rfl rfl ?_
            refine q_lastN rfl (hx_W hS) (by omega) (by decide) ?_
            refine q_heap (hb_W hS _) ?_
            refine q_iincN (c := 1) (L' := [_, _, _, _, _, _, _]) rfl rfl rfl rfl ?_
            refine q_goto rfl ?_
            exact ih_s _ _ (⟨_, _, rfl, by first | rfl | rw [ub_ub, ub_eq], fun u hu => by
                  by_cases e9 : u = s
                  · subst e9
                    first
                      | (rw [pk_uLs]; exact congrArg lN (if_pos ⟨by omega, by assumption⟩).symm)
                      | (rw [hw2 u (Nat.le_refl _) hk_s]; exact congrArg lN (if_neg (fun z => absurd z.1 (by omega))).symm)
                      | (rw [hw2 u (Nat.le_refl _) hk_s]; exact congrArg lN (if_neg (fun z => absurd z.2 (by assumption))).symm)
                  · first
                      | exact hw1 u (by omega)
                      | (rw [pk_uLn e9]; exact hw1 u (by omega)), fun u hu hu2 => by first | exact hw2 u (by omega) hu2 | (rw [pk_uLn (by omega)]; exact hw2 u (by omega) hu2)⟩)
    · obtain ⟨w, z6, rfl, rfl, hw1, hw2⟩ := hi_s
      refine q_iload rfl rfl ?_
      refine q_bipush (v := nI 24) rfl rfl ?_
      refine q_icmp_geN rfl (by omega) (by omega) (fun hcsf9 => ?_) (fun hcsf9 => ?_)
      · refine q_lload_n rfl rfl ?_
        refine q_lret rfl rfl ?_
        exact ⟨w, rfl, rfl, hw1⟩
      · omega)
  subst hr_
  subst hh_
  exact ⟨w, he_, hf_⟩
theorem sX5_weightLeft {X : XX} {I A : Nat → Nat → Int32} {J B : Nat → Nat → Int64} {F : Nat → Nat} (hS : RelS F) (W : Nat → Nat) (hW : ∀ s, s < 24 → B (F 2) s = lN (W s)) : x_ev X xT 1 68 [.ref 16] (HX I A J B F) (some (.long (lN (nsum W 24)))) (HX I A J B F) := by
  refine q_ev (L := [some (.ref 16), none, none, none]) tX5_weightLeft (Nat.le_of_ble_eq_true rfl) rfl ?_
  refine q_lconst (v := 0) rfl rfl ?_
  refine q_lstore_n (L' := [_, _, _, _]) rfl rfl ?_
  refine q_iconst (v := nI 0) rfl rfl ?_
  refine q_istore_n (L' := [_, _, _, _]) rfl rfl ?_
  refine q_up (Inv := fun s L h => L = [some (.ref 16), some (.long (lN (nsum W s))), none, some (.int (nI s))] ∧ h = HX I A J B F) (24) (fun s L h hk_s hi_s ih_s => ?_) (fun L h hi_s => ?_) (0) _ _ (by omega) (⟨rfl, rfl⟩)
  · obtain ⟨rfl, rfl⟩ := hi_s
    refine q_iload_n rfl rfl ?_
    refine q_bipush (v := nI 24) rfl rfl ?_
    refine q_icmp_geN rfl (by omega) (by omega) (fun hcss7 => ?_) (fun hcss7 => ?_)
    · omega
    · refine q_lload_n rfl rfl ?_
      refine q_aload_n rfl rfl ?_
      refine q_getfield rfl hx_16 rfl ?_
      refine q_iload_n rfl rfl ?_
      refine q_lald rfl (hx_W hS) (by omega) (by decide) ?_
      refine q_cj (hW s hk_s) ?_
      refine q_ladd rfl ?_
      refine q_cj (show _ = lN (nsum W (s + 1)) from lN_add _ _) ?_
      refine q_lstore_n (L' := [_, _, _, _]) rfl rfl ?_
      refine q_iincN (c := 1) (L' := [_, _, _, _]) rfl rfl rfl rfl ?_
      refine q_goto rfl ?_
      exact ih_s _ _ (⟨rfl, rfl⟩)
  · obtain ⟨rfl, rfl⟩ := hi_s
    refine q_iload_n rfl rfl ?_
    refine q_bipush (v := nI 24) rfl rfl ?_
    refine q_icmp_geN rfl (by omega) (by omega) (fun hcsf7 => ?_) (fun hcsf7 => ?_)
    · refine q_lload_n rfl rfl ?_
      refine q_lret rfl rfl ?_
      exact ⟨rfl, rfl⟩
    · omega
theorem sX5_whole {X : XX} {I A : Nat → Nat → Int32} {J B : Nat → Nat → Int64} {F : Nat → Nat}  : x_ev X xT 1 64 [.ref 16] (HX I A J B F) (some (.long (J 16 3))) (HX I A J B F) := by
  refine q_ev (L := [some (.ref 16)]) tX5_whole (Nat.le_of_ble_eq_true rfl) rfl ?_
  refine q_aload_n rfl rfl ?_
  refine q_getfield rfl hx_16 rfl ?_
  refine q_lret rfl rfl ?_
  exact ⟨rfl, rfl⟩
set_option maxHeartbeats 1000000 in
theorem sX5_weigh {X : XX} {I A : Nat → Nat → Int32} {J B : Nat → Nat → Int64} {F : Nat → Nat} (hS : RelS F) (b m n : Nat) (l : LT) (hl9 : l.2.2.2 ≤ 9) (hV : GV b l m n A) (n8 : n ≤ 8) (s0 p e q : Nat) (hs0 : s0 < 24) (hp : p ≤ 12) (he : e ≤ 1) (hq : q < 6) (hn : n ≤ rm q) (hz : I (20 + 2 * q) 1 = nI n) (js : Nat → Nat) (hj : ∀ k, k < n → js k < 13 ∧ A (21 + 2 * q) k = sI 6 (js k)) : ∃ G w v, x_ev X xT 5 65 [.ref 16, .int (nI s0), .ref (20 + 2 * q), .int (nI p), .int (nI e)] (HX I A J B F) (some (.long (lN (if e = 0 then sv_gt s0 p e js (fun k f => gnN b l (nI f) (m + k)) n else nsum (sv_wt s0 p e js (fun k f => gnN b l (nI f) (m + k)) n) 24)))) (HX I A (uj J 16 3 (lN (12 ^ n))) (ub (ub B (G 2) w) (G 3) v) G) ∧ RelS G ∧ G 0 = F 0 ∧ G 1 = F 1 := by
  obtain ⟨r_, h_, he_, G, w, v, hr_, hh_, hf_⟩ := q_evx (X := X) (d := 4) (as := [.ref 16, .int (nI s0), .ref (20 + 2 * q), .int (nI p), .int (nI e)]) (h := (HX I A J B F)) (P := fun r_ h_ => ∃ G w v, r_ = (some (.long (lN (if e = 0 then sv_gt s0 p e js (fun k f => gnN b l (nI f) (m + k)) n else nsum (sv_wt s0 p e js (fun k f => gnN b l (nI f) (m + k)) n) 24)))) ∧ h_ = (HX I A (uj J 16 3 (lN (12 ^ n))) (ub (ub B (G 2) w) (G 3) v) G) ∧ RelS G ∧ G 0 = F 0 ∧ G 1 = F 1) (L := [some (.ref 16), some (.int (nI s0)), some (.ref (20 + 2 * q)), some (.int (nI p)), some (.int (nI e)), none, none, none]) tX5_weigh (Nat.le_of_ble_eq_true rfl) rfl (by
    refine q_aload_n rfl rfl ?_
    refine q_getfield rfl hx_16 rfl ?_
    refine q_lconst (v := 0) rfl rfl ?_
    refine q_callS2 rfl rfl (Nat.le_of_ble_eq_true rfl) (Nat.le_of_ble_eq_true rfl) (fillW hS _) ?_
    refine q_aload_n rfl rfl ?_
    refine q_getfield rfl hx_16 rfl ?_
    refine q_iload_n rfl rfl ?_
    refine q_callS1 rfl rfl (Nat.le_of_ble_eq_true rfl) (Nat.le_of_ble_eq_true rfl) (sK_round _) ?_
    refine q_cn (rdN_s hs0) ?_
    refine q_lconst (v := 1) rfl rfl ?_
    refine q_lastN rfl (hx_W hS) (by omega) (by decide) ?_
    refine q_heap (hb_W hS _) ?_
    refine q_aload_n rfl rfl ?_
    refine q_lconst (v := 1) rfl rfl ?_
    refine q_putfield rfl hx_16 rfl (Nat.le_of_ble_eq_true rfl) (rfl) (by decide +kernel) ?_
    refine q_heap (hs_16_3 _) ?_
    refine q_lconst (v := 0) rfl rfl ?_
    refine q_lstore (L' := [_, _, _, _, _, _, _, _]) rfl rfl ?_
    refine q_iconst (v := nI 0) rfl rfl ?_
    refine q_istore (L' := [_, _, _, _, _, _, _, _]) rfl rfl ?_
    refine q_up (Inv := fun k L h => ∃ G w v, L = [some (.ref 16), some (.int (nI s0)), some (.ref (20 + 2 * q)), some (.int (nI p)), some (.int (nI e)), some (.long (lN (sv_gt s0 p e js (fun k f => gnN b l (nI f) (m + k)) k))), none, some (.int (nI k))] ∧ h = HX I A (uj J 16 3 (lN (12 ^ k))) (ub (ub B (G 2) w) (G 3) v) G ∧ (RelS G ∧ G 0 = F 0 ∧ G 1 = F 1) ∧ ∀ s, s < 24 → w s = lN (sv_wt s0 p e js (fun k f => gnN b l (nI f) (m + k)) k s)) (n) (fun k L h hk_k hi_k ih_k => ?_) (fun L h hi_k => ?_) (0) _ _ (by omega) (⟨F, _, B (F 3), rfl, by rw [ub_ub, ub_eq, ub_self (B := ub B (F 2) _) (a := F 3) (ub_ne (fun z => (FB_lt hS).2.2 z.symm)).symm]; rfl, ⟨hS, rfl, rfl⟩, fun s hs => by
          by_cases e9 : s = s0
          · subst e9
            rw [pk_uLs]
            exact congrArg lN (show 1 = sv_upd (fun _ => 0) s (0 + 1) s from sv_upd_s.symm)
          · rw [pk_uLn e9]
            exact (if_pos hs).trans (congrArg lN (show 0 = sv_upd (fun _ => 0) s0 (0 + 1) s from (sv_upd_n (f := fun _ => 0) e9).symm))⟩)
    · obtain ⟨G, w, v, rfl, rfl, ⟨hS, hG0, hG1⟩, hw⟩ := hi_k
      refine q_iload rfl rfl ?_
      refine q_aload_n rfl rfl ?_
      refine q_callV0 rfl (hx_line q (by omega)) (Nat.le_of_ble_eq_true rfl) (Nat.le_of_ble_eq_true rfl) (sL_size q (by omega) hz) ?_
      refine q_icmp_geN rfl (by omega) (by omega) (fun hcks35 => ?_) (fun hcks35 => ?_)
      · omega
      · refine q_aload_n rfl rfl ?_
        refine q_aload_n rfl rfl ?_
        refine q_iload rfl rfl ?_
        refine q_callV1 rfl (hx_line q (by omega)) (Nat.le_of_ble_eq_true rfl) (Nat.le_of_ble_eq_true rfl) (sL_read q (by omega) n hn hz k hk_k) ?_
        refine q_cn (hj k hk_k).2 ?_
        refine q_iload_n rfl rfl ?_
        obtain ⟨v1, G1, hsp, hS1, g0, g1, hv1⟩ := sX5_spread (X := X) (I := I) (A := A) (J := uj J 16 3 (lN (12 ^ k))) (B := ub (ub B (G 2) w) (G 3) v) (F := G) hS (sv_wt s0 p e js (fun k f => gnN b l (nI f) (m + k)) k) (fun s hs => by rw [tc_l0 (FB_lt hS).2.2]; exact hw s hs) p (js k) hp (hj k hk_k).1
        refine q_callV2 rfl hx_16 (Nat.le_of_ble_eq_true rfl) (Nat.le_of_ble_eq_true rfl) (hsp) ?_
        refine q_aload_n rfl rfl ?_
        refine q_dupA rfl ?_
        refine q_getfield rfl hx_16 rfl ?_
        refine q_cj (show _ = lN (12 ^ k) from rfl) ?_
        refine q_ldc2_w (v := 12) rfl rfl ?_
        refine q_lmul rfl ?_
        refine q_cj (show _ = lN (12 ^ (k + 1)) from lN_mul _ _) ?_
        refine q_putfield rfl hx_16 rfl (Nat.le_of_ble_eq_true rfl) (rfl) (by decide +kernel) ?_
        refine q_heap (hs_16_3 _) ?_
        refine q_lload rfl rfl ?_
        refine q_ldc2_w (v := 12) rfl rfl ?_
        refine q_lmul rfl ?_
        refine q_cj (lN_mul _ _) ?_
        refine q_aload_n rfl rfl ?_
        refine q_iload rfl rfl ?_
        refine q_iload rfl rfl ?_
        obtain ⟨w2, hga, hw2⟩ := sX5_gotAt (X := X) (I := I) (A := A) (J := uj (uj J 16 3 (lN (12 ^ k))) 16 3 (lN (12 ^ (k + 1)))) (B := ub (ub (ub (ub B (G 2) w) (G 3) v) (G1 2) v1) (G1 3) (ub (ub B (G 2) w) (G 3) v (G 2))) (F := G1) hS1 b m n l hl9 hV n8 (sv_w (sv_wt s0 p e js (fun k f => gnN b l (nI f) (m + k)) k) p (js k) 24) (fun s hs => by rw [tc_l0 (FB_lt hS1).2.2]; exact hv1 s hs) k e hk_k he
        refine q_callV2 rfl hx_16 (Nat.le_of_ble_eq_true rfl) (Nat.le_of_ble_eq_true rfl) (hga) ?_
        refine q_ladd rfl ?_
        refine q_cj (show _ = lN (sv_gt s0 p e js (fun k f => gnN b l (nI f) (m + k)) (k + 1)) from lN_add _ _) ?_
        refine q_lstore (L' := [_, _, _, _, _, _, _, _]) rfl rfl ?_
        refine q_iincN (c := 1) (L' := [_, _, _, _, _, _, _, _]) rfl rfl rfl rfl ?_
        refine q_goto rfl ?_
        exact ih_k _ _ (⟨G1, w2, _, rfl, by rw [uj_uj, tc_s0 (FB_lt hS1).2.2, ub2_col hS hS1], ⟨hS1, g0.trans hG0, g1.trans hG1⟩, hw2⟩)
    · obtain ⟨G, w, v, rfl, rfl, ⟨hS, hG0, hG1⟩, hw⟩ := hi_k
      refine q_iload rfl rfl ?_
      refine q_aload_n rfl rfl ?_
      refine q_callV0 rfl (hx_line q (by omega)) (Nat.le_of_ble_eq_true rfl) (Nat.le_of_ble_eq_true rfl) (sL_size q (by omega) hz) ?_
      refine q_icmp_geN rfl (by omega) (by omega) (fun hckf35 => ?_) (fun hckf35 => ?_)
      · refine q_iload rfl rfl ?_
        refine q_if_eqN rfl (by omega) (fun hckf86 => ?_) (fun hckf86 => ?_)
        · refine q_lload rfl rfl ?_
          refine q_lret rfl rfl ?_
          exact ⟨G, w, v, by first | rw [if_pos (by omega)] | rw [if_neg (by omega)], rfl, hS, hG0, hG1⟩
        · refine q_aload_n rfl rfl ?_
          refine q_callV0 rfl hx_16 (Nat.le_of_ble_eq_true rfl) (Nat.le_of_ble_eq_true rfl) (sX5_weightLeft hS (sv_wt s0 p e js (fun k f => gnN b l (nI f) (m + k)) n) (fun s hs => by rw [tc_l0 (FB_lt hS).2.2]; exact hw s hs)) ?_
          refine q_goto rfl ?_
          refine q_lret rfl rfl ?_
          exact ⟨G, w, v, by first | rw [if_pos (by omega)] | rw [if_neg (by omega)], rfl, hS, hG0, hG1⟩
      · omega)
  subst hr_
  subst hh_
  exact ⟨G, w, v, he_, hf_⟩
theorem sX8_greatestCommon {X : XX} {h0 : XH} (a b : Nat) (ha : a < 2 ^ 63) (hb : b < 2 ^ 63) (hab : a * b ≤ 2 ^ 70) : x_ev X xT 1 142 [.long (lN a), .long (lN b)] h0 (some (.long (lN (Nat.gcd a b)))) h0 := by
  refine q_ev (L := [some (.long (lN a)), none, some (.long (lN b)), none, none, none, none]) tX8_greatestCommon (Nat.le_of_ble_eq_true rfl) rfl ?_
  refine q_iconst (v := nI 0) rfl rfl ?_
  refine q_istore (L' := [_, _, _, _, _, _, _]) rfl rfl ?_
  refine q_up (Inv := fun j L h => ∃ x y z5, L = [some (.long (lN x)), none, some (.long (lN y)), none, some (.int (nI j)), z5, none] ∧ h = h0 ∧ x < 2 ^ 63 ∧ y < 2 ^ 63 ∧ Nat.gcd x y = Nat.gcd a b ∧ euP j x y) (100) (fun j L h hk_j hi_j ih_j => ?_) (fun L h hi_j => ?_) (0) _ _ (by omega) (⟨a, b, _, rfl, rfl, ha, hb, rfl, by rw [Nat.pow_zero, Nat.mul_one]; exact hab, Or.inl rfl⟩)
  · obtain ⟨x, y, z5, rfl, rfl, hx, hy, hg, hP⟩ := hi_j
    refine q_iload rfl rfl ?_
    refine q_bipush (v := nI 100) rfl rfl ?_
    refine q_icmp_geN rfl (by omega) (by omega) (fun hcjs7 => ?_) (fun hcjs7 => ?_)
    · omega
    · refine q_lload_n rfl rfl ?_
      refine q_lconst (v := 0) rfl rfl ?_
      refine q_lcmp rfl ?_
      refine q_if_eq rfl (fun hcjs13 => ?_) (fun hcjs13 => ?_)
      · refine q_lload_n rfl rfl ?_
        refine q_lret rfl rfl ?_
        have hy1 : y = 0 := (lN_inj0 hy).mp ((lg_cmp_eq _ _).mp hcjs13)
        exact ⟨vJ (by rw [← hg, hy1, Nat.gcd_zero_right]), rfl⟩
      · refine q_lload_n rfl rfl ?_
        have hy0 : ¬ y = 0 := fun z => hcjs13 ((lg_cmp_eq _ _).mpr (by rw [z]; rfl))
        refine q_lload_n rfl rfl ?_
        refine q_lrem rfl (fun z => hy0 ((lN_inj0 hy).mp z)) ?_
        refine q_cj (pk_lRem hx (Nat.pos_of_ne_zero hy0) hy) ?_
        refine q_lstore (L' := [_, _, _, _, _, _, _]) rfl rfl ?_
        refine q_lload_n rfl rfl ?_
        refine q_lstore_n (L' := [_, _, _, _, _, _, _]) rfl rfl ?_
        refine q_lload rfl rfl ?_
        refine q_lstore_n (L' := [_, _, _, _, _, _, _]) rfl rfl ?_
        refine q_iincN (c := 1) (L' := [_, _, _, _, _, _, _]) rfl rfl rfl rfl ?_
        refine q_goto rfl ?_
        exact ih_j _ _ (⟨y, x % y, _, rfl, rfl, hy, Nat.lt_of_le_of_lt (Nat.mod_le x y) hx, (eu_gcd x y).trans hg, eu_st (Nat.pos_of_ne_zero hy0) hP⟩)
  · obtain ⟨x, y, z5, rfl, rfl, hx, hy, hg, hP⟩ := hi_j
    refine q_iload rfl rfl ?_
    refine q_bipush (v := nI 100) rfl rfl ?_
    refine q_icmp_geN rfl (by omega) (by omega) (fun hcjf7 => ?_) (fun hcjf7 => ?_)
    · refine q_lload_n rfl rfl ?_
      refine q_lret rfl rfl ?_
      exact ⟨vJ (by rw [← hg, eu_end hP, Nat.gcd_zero_right]), rfl⟩
    · omega
theorem eu_pos {a : Nat} (b : Nat) (ha : 0 < a) (h : a < 2 ^ 63) : 0 < Nat.gcd a b ∧ Nat.gcd a b < 2 ^ 63 := ⟨Nat.gcd_pos_of_pos_left b ha, Nat.lt_of_le_of_lt (Nat.le_of_dvd ha (Nat.gcd_dvd_left a b)) h⟩
theorem lN_pos {g : Nat} (h0 : 0 < g) (h : g < 2 ^ 63) : ¬ lN g ≤ 0 := by
  intro z
  rw [Int64.le_iff_toInt_le, pk_lT h] at z
  have h3 : (0 : Int64).toInt = 0 := by decide
  omega
theorem sX8_tellChances {X : XX} {I A : Nat → Nat → Int32} {J B : Nat → Nat → Int64} {F : Nat → Nat} (u l : Nat) (hu : u < 2 ^ 63) (hl : l < 2 ^ 63) (hl0 : 0 < l) (hab : l * u ≤ 2 ^ 70) : x_ev X xT 2 141 [.ref 0, .long (lN u), .long (lN l)] (HX I A J B F) none (HX I A (uj (uj J 0 15 (lN (u / Nat.gcd l u))) 0 16 (lN (l / Nat.gcd l u))) B F) := by
  obtain ⟨hg0, hg1⟩ := eu_pos u hl0 hl
  refine q_ev (L := [some (.ref 0), some (.long (lN u)), none, some (.long (lN l)), none, none, none]) tX8_tellChances (Nat.le_of_ble_eq_true rfl) rfl ?_
  refine q_lload_n rfl rfl ?_
  refine q_lload_n rfl rfl ?_
  refine q_callS2 rfl rfl (Nat.le_of_ble_eq_true rfl) (Nat.le_of_ble_eq_true rfl) (sX8_greatestCommon l u hl hu hab) ?_
  refine q_lstore (L' := [_, _, _, _, _, _, _]) rfl rfl ?_
  refine q_lload rfl rfl ?_
  refine q_lconst (v := 0) rfl rfl ?_
  refine q_lcmp rfl ?_
  refine q_if_le rfl (fun hc11 => ?_) (fun hc11 => ?_)
  · exact absurd ((lg_cmp_le _ _).mp hc11) (lN_pos hg0 hg1)
  · refine q_aload_n rfl rfl ?_
    refine q_lload_n rfl rfl ?_
    refine q_lload rfl rfl ?_
    refine q_ldiv rfl (fun z => absurd ((lN_inj0 hg1).mp z) (Nat.ne_of_gt hg0)) ?_
    refine q_cj (pk_lDiv hu hg0 hg1) ?_
    refine q_putfield rfl hx_0 rfl (Nat.le_of_ble_eq_true rfl) (rfl) (by decide +kernel) ?_
    refine q_heap (hs_0_15 _) ?_
    refine q_aload_n rfl rfl ?_
    refine q_lload_n rfl rfl ?_
    refine q_lload rfl rfl ?_
    refine q_ldiv rfl (fun z => absurd ((lN_inj0 hg1).mp z) (Nat.ne_of_gt hg0)) ?_
    refine q_cj (pk_lDiv hl hg0 hg1) ?_
    refine q_putfield rfl hx_0 rfl (Nat.le_of_ble_eq_true rfl) (rfl) (by decide +kernel) ?_
    refine q_heap (hs_0_16 _) ?_
    refine q_vret rfl rfl ?_
    exact ⟨rfl, rfl⟩
