theorem x_ld_at {L : XL} {i : Nat} {v : Value} (h : x_ld L i = some v) : L[i]? = some (some v) := by
  unfold x_ld at h
  split at h
  · rename_i y hy
    cases h
    exact hy
  · cases h
section XStep
variable {p : Program} {l : Launch} {e : Env} {R : Room} {s : State} {m : MethodId} {args : Array Value} {below : List Frame} {meth : Method} {c : Code} {H : Heap} {locs : List Loc} {Q : State → Prop}
variable {M : XM} {D : va_G} {g : XG} {X : XX} {pc : Nat} {e0 : XE} {L : XL} {st : List Value} {h : XH} {q : Nat × XL × List Value × XH} {ls : Array Slot} {k0 s0 : Nat}
set_option maxHeartbeats 16000000 in
theorem x_step (C0 : x_Ctx p s m args meth c M D g X) (hR : 1 ≤ R.frames ∧ 40 ≤ R.locals) (hok : x_okE M pc e0 = true) (hf : x_fun X M pc e0 L st h = some (.inl q)) (hW : x_Wd D g h H) (hS : va_S (x_A g) s.heap H locs) (hL : x_LR g ls L) (hlen : L.length = M.2.2.1) (hk : k0 ≤ h.length) (hs : s0 ≤ x_ss h) (hr : q.2.2.2.length - k0 ≤ R.cells ∧ x_ss q.2.2.2 - s0 ≤ R.slots)
    (kk : ∀ (H1 : Heap) (locs1 : List Loc) (ls1 : Array Slot), x_Wd D g q.2.2.2 H1 → va_S (x_A g) s.heap H1 locs1 → x_LR g ls1 q.2.1 → W p l e R s m args below meth c H1 locs1 (q.2.2.2.length - k0) (x_ss q.2.2.2 - s0) Q (F0 m q.1 ls1 (q.2.2.1.map (x_cv g)))) : W p l e R s m args below meth c H locs (h.length - k0) (x_ss h - s0) Q (F0 m pc ls (st.map (x_cv g))) := by
  obtain ⟨hx, hb, hml, hown, hts, hK, hRO, hNW, hin⟩ := C0
  obtain ⟨ins, n, a, b, ci, pos⟩ := e0
  cases ins
  case iadd =>
    obtain ⟨hn, hd, hv⟩ := x_ok_spec hok (by intro z; cases z) (by intro _ _ _ _ z; cases z)
    subst hn
    obtain ⟨st', h1, h2⟩ := x_nx_inv hf
    cases h2
    obtain ⟨x, y, r, rfl, rfl⟩ := x_bI_inv h1
    exact lv_iadd hx hb hd (kk H locs ls hW hS hL)
  case isub =>
    obtain ⟨hn, hd, hv⟩ := x_ok_spec hok (by intro z; cases z) (by intro _ _ _ _ z; cases z)
    subst hn
    obtain ⟨st', h1, h2⟩ := x_nx_inv hf
    cases h2
    obtain ⟨x, y, r, rfl, rfl⟩ := x_bI_inv h1
    exact lv_isub hx hb hd (kk H locs ls hW hS hL)
  case imul =>
    obtain ⟨hn, hd, hv⟩ := x_ok_spec hok (by intro z; cases z) (by intro _ _ _ _ z; cases z)
    subst hn
    obtain ⟨st', h1, h2⟩ := x_nx_inv hf
    cases h2
    obtain ⟨x, y, r, rfl, rfl⟩ := x_bI_inv h1
    exact lv_imul hx hb hd (kk H locs ls hW hS hL)
  case iand =>
    obtain ⟨hn, hd, hv⟩ := x_ok_spec hok (by intro z; cases z) (by intro _ _ _ _ z; cases z)
    subst hn
    obtain ⟨st', h1, h2⟩ := x_nx_inv hf
    cases h2
    obtain ⟨x, y, r, rfl, rfl⟩ := x_bI_inv h1
    exact lv_iand hx hb hd (kk H locs ls hW hS hL)
  case ior =>
    obtain ⟨hn, hd, hv⟩ := x_ok_spec hok (by intro z; cases z) (by intro _ _ _ _ z; cases z)
    subst hn
    obtain ⟨st', h1, h2⟩ := x_nx_inv hf
    cases h2
    obtain ⟨x, y, r, rfl, rfl⟩ := x_bI_inv h1
    exact lv_ior hx hb hd (kk H locs ls hW hS hL)
  case ixor =>
    obtain ⟨hn, hd, hv⟩ := x_ok_spec hok (by intro z; cases z) (by intro _ _ _ _ z; cases z)
    subst hn
    obtain ⟨st', h1, h2⟩ := x_nx_inv hf
    cases h2
    obtain ⟨x, y, r, rfl, rfl⟩ := x_bI_inv h1
    exact lv_ixor hx hb hd (kk H locs ls hW hS hL)
  case ishl =>
    obtain ⟨hn, hd, hv⟩ := x_ok_spec hok (by intro z; cases z) (by intro _ _ _ _ z; cases z)
    subst hn
    obtain ⟨st', h1, h2⟩ := x_nx_inv hf
    cases h2
    obtain ⟨x, y, r, rfl, rfl⟩ := x_bI_inv h1
    exact lv_ishl hx hb hd (kk H locs ls hW hS hL)
  case ishr =>
    obtain ⟨hn, hd, hv⟩ := x_ok_spec hok (by intro z; cases z) (by intro _ _ _ _ z; cases z)
    subst hn
    obtain ⟨st', h1, h2⟩ := x_nx_inv hf
    cases h2
    obtain ⟨x, y, r, rfl, rfl⟩ := x_bI_inv h1
    exact lv_ishr hx hb hd (kk H locs ls hW hS hL)
  case iushr =>
    obtain ⟨hn, hd, hv⟩ := x_ok_spec hok (by intro z; cases z) (by intro _ _ _ _ z; cases z)
    subst hn
    obtain ⟨st', h1, h2⟩ := x_nx_inv hf
    cases h2
    obtain ⟨x, y, r, rfl, rfl⟩ := x_bI_inv h1
    exact lv_iushr hx hb hd rfl (kk H locs ls hW hS hL)
  case idiv =>
    obtain ⟨hn, hd, hv⟩ := x_ok_spec hok (by intro z; cases z) (by intro _ _ _ _ z; cases z)
    subst hn
    obtain ⟨st', h1, h2⟩ := x_nx_inv hf
    cases h2
    obtain ⟨x, y, r, rfl, rfl, hy⟩ := x_dI_inv h1
    exact lv_idiv hx hb hd hy (kk H locs ls hW hS hL)
  case irem =>
    obtain ⟨hn, hd, hv⟩ := x_ok_spec hok (by intro z; cases z) (by intro _ _ _ _ z; cases z)
    subst hn
    obtain ⟨st', h1, h2⟩ := x_nx_inv hf
    cases h2
    obtain ⟨x, y, r, rfl, rfl, hy⟩ := x_dI_inv h1
    exact lv_irem hx hb hd hy (kk H locs ls hW hS hL)
  case ladd =>
    obtain ⟨hn, hd, hv⟩ := x_ok_spec hok (by intro z; cases z) (by intro _ _ _ _ z; cases z)
    subst hn
    obtain ⟨st', h1, h2⟩ := x_nx_inv hf
    cases h2
    obtain ⟨x, y, r, rfl, rfl⟩ := x_bL_inv h1
    exact lv_ladd hx hb hd (kk H locs ls hW hS hL)
  case lmul =>
    obtain ⟨hn, hd, hv⟩ := x_ok_spec hok (by intro z; cases z) (by intro _ _ _ _ z; cases z)
    subst hn
    obtain ⟨st', h1, h2⟩ := x_nx_inv hf
    cases h2
    obtain ⟨x, y, r, rfl, rfl⟩ := x_bL_inv h1
    exact lv_lmul hx hb hd (kk H locs ls hW hS hL)
  case ldiv =>
    obtain ⟨hn, hd, hv⟩ := x_ok_spec hok (by intro z; cases z) (by intro _ _ _ _ z; cases z)
    subst hn
    obtain ⟨st', h1, h2⟩ := x_nx_inv hf
    cases h2
    obtain ⟨x, y, r, rfl, rfl, hy⟩ := x_dL_inv h1
    exact lv_ldiv hx hb hd hy (kk H locs ls hW hS hL)
  case lrem =>
    obtain ⟨hn, hd, hv⟩ := x_ok_spec hok (by intro z; cases z) (by intro _ _ _ _ z; cases z)
    subst hn
    obtain ⟨st', h1, h2⟩ := x_nx_inv hf
    cases h2
    obtain ⟨x, y, r, rfl, rfl, hy⟩ := x_dL_inv h1
    exact lv_lrem hx hb hd hy (kk H locs ls hW hS hL)
  case ineg =>
    obtain ⟨hn, hd, hv⟩ := x_ok_spec hok (by intro z; cases z) (by intro _ _ _ _ z; cases z)
    subst hn
    obtain ⟨st', h1, h2⟩ := x_nx_inv hf
    cases h2
    obtain ⟨x, r, rfl, rfl⟩ := x_uI_inv h1
    exact lv_ineg hx hb hd (kk H locs ls hW hS hL)
  case i2l =>
    obtain ⟨hn, hd, hv⟩ := x_ok_spec hok (by intro z; cases z) (by intro _ _ _ _ z; cases z)
    subst hn
    obtain ⟨st', h1, h2⟩ := x_nx_inv hf
    cases h2
    obtain ⟨x, r, rfl, rfl⟩ := x_uI_inv h1
    exact lv_i2l hx hb hd rfl (kk H locs ls hW hS hL)
  case i2b =>
    obtain ⟨hn, hd, hv⟩ := x_ok_spec hok (by intro z; cases z) (by intro _ _ _ _ z; cases z)
    subst hn
    obtain ⟨st', h1, h2⟩ := x_nx_inv hf
    cases h2
    obtain ⟨x, r, rfl, rfl⟩ := x_uI_inv h1
    exact lv_i2b hx hb hd rfl (kk H locs ls hW hS hL)
  case l2i =>
    obtain ⟨hn, hd, hv⟩ := x_ok_spec hok (by intro z; cases z) (by intro _ _ _ _ z; cases z)
    subst hn
    obtain ⟨st', h1, h2⟩ := x_nx_inv hf
    cases h2
    obtain ⟨x, r, rfl, rfl⟩ := x_uL_inv h1
    exact lv_l2i hx hb hd rfl (kk H locs ls hW hS hL)
  case dup =>
    obtain ⟨hn, hd, hv⟩ := x_ok_spec hok (by intro z; cases z) (by intro _ _ _ _ z; cases z)
    subst hn
    obtain ⟨st', h1, h2⟩ := x_nx_inv hf
    cases h2
    obtain ⟨v, r, rfl, h3, rfl⟩ := x_dup_inv h1
    exact lv_dup hx hb hd (by rw [x_cat]; exact h3) (kk H locs ls hW hS hL)
  case dup2 =>
    obtain ⟨hn, hd, hv⟩ := x_ok_spec hok (by intro z; cases z) (by intro _ _ _ _ z; cases z)
    subst hn
    obtain ⟨st', h1, h2⟩ := x_nx_inv hf
    cases h2
    obtain ⟨v, y, r, rfl, h3, h4, rfl⟩ := x_dup2_inv h1
    exact lv_dup2_11 hx hb hd (by rw [x_cat]; exact h3) (by rw [x_cat]; exact h4) (kk H locs ls hW hS hL)
  case pop =>
    obtain ⟨hn, hd, hv⟩ := x_ok_spec hok (by intro z; cases z) (by intro _ _ _ _ z; cases z)
    subst hn
    obtain ⟨st', h1, h2⟩ := x_nx_inv hf
    cases h2
    obtain ⟨v, rfl, h3⟩ := x_pop_inv h1
    exact lv_pop hx hb hd (by rw [x_cat]; exact h3) (kk H locs ls hW hS hL)
  case aconst_null =>
    obtain ⟨hn, hd, hv⟩ := x_ok_spec hok (by intro z; cases z) (by intro _ _ _ _ z; cases z)
    subst hn
    cases hf
    exact lv_null hx hb hd (kk H locs ls hW hS hL)
  case iconst =>
    obtain ⟨hn, hd, hv⟩ := x_ok_spec hok (by intro z; cases z) (by intro _ _ _ _ z; cases z)
    subst hn
    cases hf
    exact lv_iconst hx hb hd rfl (kk H locs ls hW hS hL)
  case bipush =>
    obtain ⟨hn, hd, hv⟩ := x_ok_spec hok (by intro z; cases z) (by intro _ _ _ _ z; cases z)
    subst hn
    cases hf
    exact lv_bipush hx hb hd rfl (kk H locs ls hW hS hL)
  case sipush =>
    obtain ⟨hn, hd, hv⟩ := x_ok_spec hok (by intro z; cases z) (by intro _ _ _ _ z; cases z)
    subst hn
    cases hf
    exact lv_sipush hx hb hd rfl (kk H locs ls hW hS hL)
  case lconst =>
    obtain ⟨hn, hd, hv⟩ := x_ok_spec hok (by intro z; cases z) (by intro _ _ _ _ z; cases z)
    subst hn
    cases hf
    exact lv_lconst hx hb hd rfl (kk H locs ls hW hS hL)
  case ldc =>
    obtain ⟨hn, hd, hv⟩ := x_ok_spec hok (by intro z; cases z) (by intro _ _ _ _ z; cases z)
    subst hn
    cases hf
    exact lv_ldc hx hb hown (hts _ (x_lk_in hv)) hd (kk H locs ls hW hS hL)
  case ldc_w =>
    obtain ⟨hn, hd, hv⟩ := x_ok_spec hok (by intro z; cases z) (by intro _ _ _ _ z; cases z)
    subst hn
    cases hf
    exact lv_ldcw hx hb hown (hts _ (x_lk_in hv)) hd (kk H locs ls hW hS hL)
  case ldc2_w =>
    obtain ⟨hn, hd, hv⟩ := x_ok_spec hok (by intro z; cases z) (by intro _ _ _ _ z; cases z)
    subst hn
    cases hf
    exact lv_ldc2 hx hb hown (hts _ (x_lk_in hv)) hd (kk H locs ls hW hS hL)
  case iload =>
    obtain ⟨hn, hd, hv⟩ := x_ok_spec hok (by intro z; cases z) (by intro _ _ _ _ z; cases z)
    subst hn
    obtain ⟨st', h1, h2⟩ := x_nx_inv hf
    cases h2
    obtain ⟨v, h3, h4, rfl⟩ := x_lc_inv h1
    cases v with
    | int x => exact lv_iload hx hb hd (x_LR_ld hL h3) (kk H locs ls hW hS hL)
    | _ => cases h4
  case iload_n =>
    obtain ⟨hn, hd, hv⟩ := x_ok_spec hok (by intro z; cases z) (by intro _ _ _ _ z; cases z)
    subst hn
    obtain ⟨st', h1, h2⟩ := x_nx_inv hf
    cases h2
    obtain ⟨v, h3, h4, rfl⟩ := x_lc_inv h1
    cases v with
    | int x => exact lv_iload_n hx hb hd rfl (x_LR_ld hL h3) (kk H locs ls hW hS hL)
    | _ => cases h4
  case lload =>
    obtain ⟨hn, hd, hv⟩ := x_ok_spec hok (by intro z; cases z) (by intro _ _ _ _ z; cases z)
    subst hn
    obtain ⟨st', h1, h2⟩ := x_nx_inv hf
    cases h2
    obtain ⟨v, h3, h4, rfl⟩ := x_lc_inv h1
    cases v with
    | long x => exact lv_lload hx hb hd (x_LR_ld hL h3) (kk H locs ls hW hS hL)
    | _ => cases h4
  case lload_n =>
    obtain ⟨hn, hd, hv⟩ := x_ok_spec hok (by intro z; cases z) (by intro _ _ _ _ z; cases z)
    subst hn
    obtain ⟨st', h1, h2⟩ := x_nx_inv hf
    cases h2
    obtain ⟨v, h3, h4, rfl⟩ := x_lc_inv h1
    cases v with
    | long x => exact lv_lload_n hx hb hd rfl (x_LR_ld hL h3) (kk H locs ls hW hS hL)
    | _ => cases h4
  case aload =>
    obtain ⟨hn, hd, hv⟩ := x_ok_spec hok (by intro z; cases z) (by intro _ _ _ _ z; cases z)
    subst hn
    obtain ⟨st', h1, h2⟩ := x_nx_inv hf
    cases h2
    obtain ⟨v, h3, h4, rfl⟩ := x_lc_inv h1
    cases v with
    | ref x => exact lv_aload hx hb hd (x_LR_ld hL h3) (kk H locs ls hW hS hL)
    | null => exact lv_aloadN hx hb hd (x_LR_ld hL h3) (kk H locs ls hW hS hL)
    | _ => cases h4
  case aload_n =>
    obtain ⟨hn, hd, hv⟩ := x_ok_spec hok (by intro z; cases z) (by intro _ _ _ _ z; cases z)
    subst hn
    obtain ⟨st', h1, h2⟩ := x_nx_inv hf
    cases h2
    obtain ⟨v, h3, h4, rfl⟩ := x_lc_inv h1
    cases v with
    | ref x => exact lv_aload_n hx hb hd rfl (x_LR_ld hL h3) (kk H locs ls hW hS hL)
    | null => exact lv_aload_nN hx hb hd rfl (x_LR_ld hL h3) (kk H locs ls hW hS hL)
    | _ => cases h4
  case istore =>
    obtain ⟨hn, hd, hv⟩ := x_ok_spec hok (by intro z; cases z) (by intro _ _ _ _ z; cases z)
    subst hn
    obtain ⟨x, r, L', rfl, h1, h2⟩ := x_cI_inv hf
    cases h2
    exact lv_istore hx hb hd (x_LR_has hL) (x_st1_lt h1) rfl (fun ls1 hl1 => kk H locs ls1 hW hS (x_LR_st1 (ls := ls) h1 ls1 hl1))
  case lstore =>
    obtain ⟨hn, hd, hv⟩ := x_ok_spec hok (by intro z; cases z) (by intro _ _ _ _ z; cases z)
    subst hn
    obtain ⟨x, r, L', rfl, h1, h2⟩ := x_cL_inv hf
    cases h2
    exact lv_lstore hx hb hd (x_LR_has hL) (x_st2_lt h1) rfl (fun ls1 hl1 => kk H locs ls1 hW hS (x_LR_st2 (ls := ls) h1 ls1 hl1))
  case astore =>
    obtain ⟨hn, hd, hv⟩ := x_ok_spec hok (by intro z; cases z) (by intro _ _ _ _ z; cases z)
    subst hn
    rcases x_cA_inv hf with ⟨x, r, L', rfl, h1, h2⟩ | ⟨r, L', rfl, h1, h2⟩
    · cases h2
      exact lv_astore hx hb hd (x_LR_has hL) (x_st1_lt h1) rfl (fun ls1 hl1 => kk H locs ls1 hW hS (x_LR_st1 (ls := ls) h1 ls1 hl1))
    · cases h2
      exact lv_astoreN hx hb hd (x_LR_has hL) (x_st1_lt h1) rfl (fun ls1 hl1 => kk H locs ls1 hW hS (x_LR_st1 (ls := ls) h1 ls1 hl1))
  case istore_n =>
    obtain ⟨hn, hd, hv⟩ := x_ok_spec hok (by intro z; cases z) (by intro _ _ _ _ z; cases z)
    subst hn
    obtain ⟨x, r, L', rfl, h1, h2⟩ := x_cI_inv hf
    cases h2
    exact lv_istore_n hx hb hd rfl (x_LR_has hL) (x_st1_lt h1) rfl (fun ls1 hl1 => kk H locs ls1 hW hS (x_LR_st1 (ls := ls) h1 ls1 hl1))
  case lstore_n =>
    obtain ⟨hn, hd, hv⟩ := x_ok_spec hok (by intro z; cases z) (by intro _ _ _ _ z; cases z)
    subst hn
    obtain ⟨x, r, L', rfl, h1, h2⟩ := x_cL_inv hf
    cases h2
    exact lv_lstore_n hx hb hd rfl (x_LR_has hL) (x_st2_lt h1) rfl (fun ls1 hl1 => kk H locs ls1 hW hS (x_LR_st2 (ls := ls) h1 ls1 hl1))
  case astore_n =>
    obtain ⟨hn, hd, hv⟩ := x_ok_spec hok (by intro z; cases z) (by intro _ _ _ _ z; cases z)
    subst hn
    rcases x_cA_inv hf with ⟨x, r, L', rfl, h1, h2⟩ | ⟨r, L', rfl, h1, h2⟩
    · cases h2
      exact lv_astore_n hx hb hd rfl (x_LR_has hL) (x_st1_lt h1) rfl (fun ls1 hl1 => kk H locs ls1 hW hS (x_LR_st1 (ls := ls) h1 ls1 hl1))
    · cases h2
      exact lv_astore_nN hx hb hd rfl (x_LR_has hL) (x_st1_lt h1) rfl (fun ls1 hl1 => kk H locs ls1 hW hS (x_LR_st1 (ls := ls) h1 ls1 hl1))
  case iinc i k =>
    obtain ⟨hn, hd, hv⟩ := x_ok_spec hok (by intro z; cases z) (by intro _ _ _ _ z; cases z)
    subst hn
    obtain ⟨x, L', h0, h1, h2⟩ := x_inc_inv hf
    cases h2
    have hm : (i, Value.int x) ∈ x_pr g L := x_pr_in.mpr ⟨.int x, x_ld_at h0, rfl⟩
    obtain ⟨j, hj⟩ := List.getElem?_of_mem hm
    exact lv_iinc hx hb hd (x_LR_has hL) hj rfl (x_st1_lt h1) rfl (fun ls1 hl1 => kk H locs ls1 hW hS (x_LR_st1 (ls := ls) h1 ls1 hl1))
  case goto =>
    obtain ⟨hn, hd, hv⟩ := x_ok_spec hok (by intro z; cases z) (by intro _ _ _ _ z; cases z)
    subst hn
    cases hf
    exact lv_goto hx hb hd (of_decide_eq_true hv) (kk H locs ls hW hS hL)
  case lcmp =>
    obtain ⟨hn, hd, hv⟩ := x_ok_spec hok (by intro z; cases z) (by intro _ _ _ _ z; cases z)
    subst hn
    simp only [x_fun] at hf
    split at hf
    · cases hf
      exact W.lcmp hx hb hd (kk H locs ls hW hS hL)
    · cases hf
  case ifnull =>
    obtain ⟨hn, hd, hv⟩ := x_ok_spec hok (by intro z; cases z) (by intro _ _ _ _ z; cases z)
    subst hn
    simp only [x_fun] at hf
    split at hf
    · cases hf
      exact lv_ifnull hx hb hd (kk H locs ls hW hS hL)
    · cases hf
      exact lv_ifnullN hx hb hd (of_decide_eq_true hv) (kk H locs ls hW hS hL)
    · cases hf
  case ifnonnull =>
    obtain ⟨hn, hd, hv⟩ := x_ok_spec hok (by intro z; cases z) (by intro _ _ _ _ z; cases z)
    subst hn
    simp only [x_fun] at hf
    split at hf
    · cases hf
      exact lv_ifnonnull hx hb hd (of_decide_eq_true hv) (kk H locs ls hW hS hL)
    · cases hf
      exact lv_ifnonnullN hx hb hd (kk H locs ls hW hS hL)
    · cases hf
  case tableswitch d lo hi offs =>
    have hd := x_ok_sw hok
    simp only [x_fun] at hf
    split at hf
    · split at hf
      · rename_i x r t ht
        cases hf
        unfold x_sw at ht
        split at ht
        · rename_i hc
          exact lv_tableOut hx hb hd hc (x_tgt_inv ht) (kk H locs ls hW hS hL)
        · rename_i hc
          split at ht
          · rename_i off ho
            exact lv_tableIn hx hb hd (fun z => hc (Or.inl z)) (fun z => hc (Or.inr z)) ho (x_tgt_inv ht) (kk H locs ls hW hS hL)
          · cases ht
      · cases hf
    · cases hf
  case ifCond cd off =>
    obtain ⟨hn, hd, hv⟩ := x_ok_spec hok (by intro z; cases z) (by intro _ _ _ _ z; cases z)
    subst hn
    simp only [x_fun] at hf
    split at hf
    · rename_i x r
      cases hf
      have ht : (pc : Int) + off = (a : Int) := of_decide_eq_true hv
      cases cd
      case eq =>
        refine lv_if_eq hx hb hd ht (fun hc => ?_) (fun hc => ?_)
        · have kk := kk H locs ls hW hS hL
          rw [if_pos ((x_cdc_iff .eq x 0).mpr hc)] at kk
          exact kk
        · have kk := kk H locs ls hW hS hL
          rw [if_neg (fun z => by have z2 : x_cnd .eq x 0 := (x_cdc_iff .eq x 0).mp z; first | exact hc z2 | exact z2 hc)] at kk
          exact kk
      case ne =>
        refine lv_if_ne hx hb hd ht (fun hc => ?_) (fun hc => ?_)
        · have kk := kk H locs ls hW hS hL
          rw [if_pos ((x_cdc_iff .ne x 0).mpr hc)] at kk
          exact kk
        · have kk := kk H locs ls hW hS hL
          rw [if_neg (fun z => by have z2 : x_cnd .ne x 0 := (x_cdc_iff .ne x 0).mp z; first | exact hc z2 | exact z2 hc)] at kk
          exact kk
      case lt =>
        refine lv_if_lt hx hb hd ht (fun hc => ?_) (fun hc => ?_)
        · have kk := kk H locs ls hW hS hL
          rw [if_pos ((x_cdc_iff .lt x 0).mpr hc)] at kk
          exact kk
        · have kk := kk H locs ls hW hS hL
          rw [if_neg (fun z => by have z2 : x_cnd .lt x 0 := (x_cdc_iff .lt x 0).mp z; first | exact hc z2 | exact z2 hc)] at kk
          exact kk
      case ge =>
        refine lv_if_ge hx hb hd ht (fun hc => ?_) (fun hc => ?_)
        · have kk := kk H locs ls hW hS hL
          rw [if_pos ((x_cdc_iff .ge x 0).mpr hc)] at kk
          exact kk
        · have kk := kk H locs ls hW hS hL
          rw [if_neg (fun z => by have z2 : x_cnd .ge x 0 := (x_cdc_iff .ge x 0).mp z; first | exact hc z2 | exact z2 hc)] at kk
          exact kk
      case gt =>
        refine lv_if_gt hx hb hd ht (fun hc => ?_) (fun hc => ?_)
        · have kk := kk H locs ls hW hS hL
          rw [if_pos ((x_cdc_iff .gt x 0).mpr hc)] at kk
          exact kk
        · have kk := kk H locs ls hW hS hL
          rw [if_neg (fun z => by have z2 : x_cnd .gt x 0 := (x_cdc_iff .gt x 0).mp z; first | exact hc z2 | exact z2 hc)] at kk
          exact kk
      case le =>
        refine lv_if_le hx hb hd ht (fun hc => ?_) (fun hc => ?_)
        · have kk := kk H locs ls hW hS hL
          rw [if_pos ((x_cdc_iff .le x 0).mpr hc)] at kk
          exact kk
        · have kk := kk H locs ls hW hS hL
          rw [if_neg (fun z => by have z2 : x_cnd .le x 0 := (x_cdc_iff .le x 0).mp z; first | exact hc z2 | exact z2 hc)] at kk
          exact kk
    · cases hf
  case if_icmp cd off =>
    obtain ⟨hn, hd, hv⟩ := x_ok_spec hok (by intro z; cases z) (by intro _ _ _ _ z; cases z)
    subst hn
    simp only [x_fun] at hf
    split at hf
    · rename_i y x r
      cases hf
      have ht : (pc : Int) + off = (a : Int) := of_decide_eq_true hv
      cases cd
      case eq =>
        refine lv_icmp_eq hx hb hd ht (fun hc => ?_) (fun hc => ?_)
        · have kk := kk H locs ls hW hS hL
          rw [if_pos ((x_cdc_iff .eq x y).mpr hc)] at kk
          exact kk
        · have kk := kk H locs ls hW hS hL
          rw [if_neg (fun z => by have z2 : x_cnd .eq x y := (x_cdc_iff .eq x y).mp z; first | exact hc z2 | exact z2 hc)] at kk
          exact kk
      case ne =>
        refine lv_icmp_ne hx hb hd ht (fun hc => ?_) (fun hc => ?_)
        · have kk := kk H locs ls hW hS hL
          rw [if_pos ((x_cdc_iff .ne x y).mpr hc)] at kk
          exact kk
        · have kk := kk H locs ls hW hS hL
          rw [if_neg (fun z => by have z2 : x_cnd .ne x y := (x_cdc_iff .ne x y).mp z; first | exact hc z2 | exact z2 hc)] at kk
          exact kk
      case lt =>
        refine lv_icmp_lt hx hb hd ht (fun hc => ?_) (fun hc => ?_)
        · have kk := kk H locs ls hW hS hL
          rw [if_pos ((x_cdc_iff .lt x y).mpr hc)] at kk
          exact kk
        · have kk := kk H locs ls hW hS hL
          rw [if_neg (fun z => by have z2 : x_cnd .lt x y := (x_cdc_iff .lt x y).mp z; first | exact hc z2 | exact z2 hc)] at kk
          exact kk
      case ge =>
        refine lv_icmp_ge hx hb hd ht (fun hc => ?_) (fun hc => ?_)
        · have kk := kk H locs ls hW hS hL
          rw [if_pos ((x_cdc_iff .ge x y).mpr hc)] at kk
          exact kk
        · have kk := kk H locs ls hW hS hL
          rw [if_neg (fun z => by have z2 : x_cnd .ge x y := (x_cdc_iff .ge x y).mp z; first | exact hc z2 | exact z2 hc)] at kk
          exact kk
      case gt =>
        refine lv_icmp_gt hx hb hd ht (fun hc => ?_) (fun hc => ?_)
        · have kk := kk H locs ls hW hS hL
          rw [if_pos ((x_cdc_iff .gt x y).mpr hc)] at kk
          exact kk
        · have kk := kk H locs ls hW hS hL
          rw [if_neg (fun z => by have z2 : x_cnd .gt x y := (x_cdc_iff .gt x y).mp z; first | exact hc z2 | exact z2 hc)] at kk
          exact kk
      case le =>
        refine lv_icmp_le hx hb hd ht (fun hc => ?_) (fun hc => ?_)
        · have kk := kk H locs ls hW hS hL
          rw [if_pos ((x_cdc_iff .le x y).mpr hc)] at kk
          exact kk
        · have kk := kk H locs ls hW hS hL
          rw [if_neg (fun z => by have z2 : x_cnd .le x y := (x_cdc_iff .le x y).mp z; first | exact hc z2 | exact z2 hc)] at kk
          exact kk
    · cases hf
  case getstatic =>
    obtain ⟨hn, hd, hv⟩ := x_ok_spec hok (by intro z; cases z) (by intro _ _ _ _ z; cases z)
    subst hn
    cases hf
    have kk := kk H locs ls hW hS hL
    refine va_gets hx hb hRO.2.2.1 hS hown (hts _ (x_lk_in hv)) (fun _ h9 => h9) hd ?_
    simp only [List.map_cons, x_cv, x_ad_1] at kk
    exact kk
  case getfield =>
    obtain ⟨hn, hd, hv⟩ := x_ok_spec hok (by intro z; cases z) (by intro _ _ _ _ z; cases z)
    subst hn
    obtain ⟨aa, r, fs, v, rfl, h1, h2, h3⟩ := x_get_inv hf
    cases h3
    obtain ⟨C, T, N, hc, hkN, hl, -⟩ := x_okF_inv hv
    obtain ⟨ty, lf, -, -, -, -, -, hw, -, -⟩ := x_CI_at hc
    exact va_get hx hb hts hw hown hK hW.2.2 aa (x_W_at h1) hc b hkN (hts _ hl) (fun _ h9 => h9) (v := x_cv g v) (by simp [h2]) hd (kk H locs ls hW hS hL)
  case putfield =>
    obtain ⟨hn, hd, hv⟩ := x_ok_spec hok (by intro z; cases z) (by intro _ _ _ _ z; cases z)
    subst hn
    obtain ⟨aa, r, fs, v, ty, rfl, h1, h2, h3, h4, h5, h6⟩ := x_put_inv hf
    cases h6
    obtain ⟨C, T, N, hc, hkN, hl, hfin⟩ := x_okF_inv hv
    obtain ⟨ty0, lf, e1, e2, e3, e4, e5, hw, -, -⟩ := x_CI_at hc
    have ety : ty0 b = ty := by
      have e6 := e3 b hkN
      unfold x_ft at h2
      rw [e1] at h2
      simp only at h2
      rw [h2] at e6
      exact (Option.some.inj e6).symm
    have ess := x_ss_set (e' := .inr (ci, fs.set b v)) h1 (by simp [x_sse])
    refine x_Wput hx hb hts hw ty0 e4 e5 hown hK hW hS h1 hc b hkN (hts _ hl) (fun hz => ?_) (v0 := v) (by rw [ety]; exact x_narrow h4 (x_fts_kind h2)) (by rw [ety]; exact x_fits h4) rfl h3 hd (fun H1 locs1 hW1 hS1 => ?_)
    · have e7 : x_fin ci b = true := by unfold x_fin; rw [hc]; exact hz
      exact ⟨hin (by simpa using h5 e7), hfin rfl hz⟩
    · have k1 := kk H1 locs1 ls hW1 hS1 hL
      simp only [List.length_set, ess] at k1
      exact k1
  case iaload =>
    obtain ⟨hn, hd, hv⟩ := x_ok_spec hok (by intro z; cases z) (by intro _ _ _ _ z; cases z)
    subst hn
    obtain ⟨i, aa, r, x, rfl, h2, h3⟩ := x_iald_inv hf
    cases h2
    have k1 := kk H locs ls hW hS hL
    rcases h3 with ⟨rfl, h4, rfl⟩ | ⟨rfl, h4, rfl⟩ | ⟨mm, ff, h1, h4, rfl⟩
    · have e1 : x_cv g (.ref 1000) = .ref g.2.1 := by simp only [x_cv, x_ad_0]
      simp only [List.map_cons, e1]
      obtain ⟨scr, z1, -⟩ := id hRO.1
      exact va_sld hx hb hRO.1 (Array.getElem?_eq_some_iff.mp z1).1 (Nat.not_le.mpr hRO.2.1) hS h4 hd k1
    · have e1 : x_cv g (.ref 1001) = .ref g.2.2.1 := by simp only [x_cv, x_ad_1]
      simp only [List.map_cons, e1]
      obtain ⟨cell, z1, z2, z3, z4, z5, z6, z7⟩ := hRO.2.2.2
      have hlt : i.toNatClampNeg < 6 := Nat.not_le.mp fun z => h4 (Or.inr z)
      exact W.iald (v := .int (x_let i.toNatClampNeg)) hx hb (by rw [hS.2.1 _ (Array.getElem?_eq_some_iff.mp z1).1 z7]; exact z1) z2 z3 (fun z => z.elim (fun y => h4 (Or.inl y)) (fun y => by omega)) (z6 _ hlt) rfl rfl hd k1
    · exact va_iald hx hb hK hW.2.2 aa 0 (x_W_at h1) rfl h4 hd k1
  case iastore =>
    obtain ⟨hn, hd, hv⟩ := x_ok_spec hok (by intro z; cases z) (by intro _ _ _ _ z; cases z)
    subst hn
    obtain ⟨x, i, aa, r, mm, ff, rfl, h1, h4, h2⟩ := x_iast_inv hf
    cases h2
    have ess := x_ss_set (e' := .inl (0, mm, .inl (upd ff i.toNatClampNeg x))) h1 rfl
    refine x_Wiast hx hb hK hW hS h1 h4 hd (fun H1 locs1 hW1 hS1 => ?_)
    have k1 := kk H1 locs1 ls hW1 hS1 hL
    simp only [List.length_set, ess] at k1
    exact k1
  case laload =>
    obtain ⟨hn, hd, hv⟩ := x_ok_spec hok (by intro z; cases z) (by intro _ _ _ _ z; cases z)
    subst hn
    obtain ⟨i, aa, r, mm, ff, rfl, h1, h4, h2⟩ := x_lald_inv hf
    cases h2
    exact va_lald hx hb hK hW.2.2 aa 1 (x_W_at h1) rfl h4 hd (kk H locs ls hW hS hL)
  case lastore =>
    obtain ⟨hn, hd, hv⟩ := x_ok_spec hok (by intro z; cases z) (by intro _ _ _ _ z; cases z)
    subst hn
    obtain ⟨x, i, aa, r, mm, ff, rfl, h1, h4, h2⟩ := x_last_inv hf
    cases h2
    have ess := x_ss_set (e' := .inl (1, mm, .inr (.inl (vp_updL ff i.toNatClampNeg x)))) h1 rfl
    refine x_Wlast hx hb hK hW hS h1 h4 hd (fun H1 locs1 hW1 hS1 => ?_)
    have k1 := kk H1 locs1 ls hW1 hS1 hL
    simp only [List.length_set, ess] at k1
    exact k1
  case aaload =>
    obtain ⟨hn, hd, hv⟩ := x_ok_spec hok (by intro z; cases z) (by intro _ _ _ _ z; cases z)
    subst hn
    obtain ⟨i, aa, r, t, mm, ff, rfl, h1, h4, ⟨cc, h5⟩, h2⟩ := x_aald_inv hf
    cases h2
    have k1 := kk H locs ls hW hS hL
    simp only [List.map_cons, x_cv_rf] at k1
    have ht : ∃ C, (x_tys g)[t]? = some (g.2.2.2 t, .object C) := by
      unfold x_acl at h5
      split at h5 <;> first | exact ⟨_, rfl⟩ | cases h5
    obtain ⟨C, ht⟩ := ht
    exact va_aldq hx hb hK hW.2.2 aa t (x_W_at h1) ht h4 hd k1
  case aastore =>
    obtain ⟨hn, hd, hv⟩ := x_ok_spec hok (by intro z; cases z) (by intro _ _ _ _ z; cases z)
    subst hn
    obtain ⟨v, i, aa, r, t, mm, ff, cc, vs, rfl, h1, h3, h4, h5, h2⟩ := x_aast_inv hf
    cases h2
    have ess := x_ss_set (e' := .inl (t, mm, .inr (.inr (.inr (.inr (va_up ff i.toNatClampNeg (some v))))))) h1 rfl
    have ht : ∃ r1 : vw_C, vwCl[cc]? = some r1 ∧ (x_tys g)[t]? = some (g.2.2.2 t, .object r1.1) := by
      unfold x_acl at h5
      split at h5 <;> first | (cases h5; exact ⟨_, rfl, rfl⟩) | cases h5
    obtain ⟨r1, hc1, ht1⟩ := ht
    refine x_Waast hx hb hK hW hS h1 ht1 h3 hc1 h4 hd (fun H1 locs1 hW1 hS1 => ?_)
    have k1 := kk H1 locs1 ls hW1 hS1 hL
    simp only [List.length_set, ess] at k1
    exact k1
  case arraylength =>
    obtain ⟨hn, hd, hv⟩ := x_ok_spec hok (by intro z; cases z) (by intro _ _ _ _ z; cases z)
    subst hn
    obtain ⟨aa, r, x, rfl, h2, h3⟩ := x_alen_inv hf
    cases h2
    have k1 := kk H locs ls hW hS hL
    rcases h3 with ⟨rfl, rfl⟩ | ⟨rfl, rfl⟩ | ⟨t, y, h1, h4⟩
    · have e1 : x_cv g (.ref 1000) = .ref g.2.1 := by simp only [x_cv, x_ad_0]
      simp only [List.map_cons, e1]
      obtain ⟨scr, z1, -⟩ := id hRO.1
      exact va_slen hx hb hRO.1 (Array.getElem?_eq_some_iff.mp z1).1 (Nat.not_le.mpr hRO.2.1) hS hd k1
    · have e1 : x_cv g (.ref 1001) = .ref g.2.2.1 := by simp only [x_cv, x_ad_1]
      simp only [List.map_cons, e1]
      obtain ⟨cell, z1, z2, z3, z4, z5, z6, z7⟩ := hRO.2.2.2
      exact W.alen (n := Int32.ofNat 6) hx hb (by rw [hS.2.1 _ (Array.getElem?_eq_some_iff.mp z1).1 z7]; exact z1) z2 z5 rfl rfl hd k1
    · have ht : ∃ ty, (x_tys g)[t]? = some (g.2.2.2 t, ty) := by
        clear k1 h1 hr
        have key : ∀ t : Nat, t < 5 → t = 0 ∨ t = 1 ∨ t = 2 ∨ t = 3 ∨ t = 4 := by
          intro t ht
          omega
        rcases key t h4 with rfl | rfl | rfl | rfl | rfl <;> exact ⟨_, rfl⟩
      obtain ⟨ty, ht⟩ := ht
      have e2 : ∃ y2, x_ce g (.inl (t, x, y)) = .inl (g.2.2.2 t, x, y2) := by
        rcases y with y | y | y | y | y <;> exact ⟨_, rfl⟩
      obtain ⟨y2, e2⟩ := e2
      have hat := x_W_at (g := g) h1
      rw [e2] at hat
      exact va_alen hx hb hK hW.2.2 aa t hat ht rfl hd k1
  case new =>
    obtain ⟨hn, hd, hv⟩ := x_ok_spec hok (by intro z; cases z) (by intro _ _ _ _ z; cases z)
    subst hn
    obtain ⟨lf, h1, h3, h2⟩ := x_newo_inv hf
    cases h2
    simp only [x_okX] at hv
    split at hv
    · rename_i qc hc
      obtain ⟨C, T, N⟩ := qc
      obtain ⟨ty0, lf2, e1, e2, e3, e4, e5, hw, hi1, hi2⟩ := x_CI_at hc
      cases h1.symm.trans e1
      have k1 := fun H1 hW1 hS1 => kk H1 locs ls hW1 hS1 hL
      have z1 : (h ++ [(.inr (ci, lf.map x_def) : va_E)]).length - k0 = h.length - k0 + 1 := by simp; omega
      have z2 : x_ss (h ++ [.inr (ci, lf.map x_def)]) - s0 = x_ss h - s0 + N := by
        rw [x_ss_app]
        have : x_sse (.inr (ci, lf.map x_def)) = N := by simp [x_sse]; exact e2
        omega
      simp only [z1, z2] at k1 hr
      refine x_Wnew hx hb hts hw ty0 e4 hown (hts _ (x_lk_in hv)) (hts _ hi1) (hts _ hi2) hK hW hS hc (fs := lf.map x_def) (fun j hj => ?_) h3 hr.1 hr.2 hd k1
      have e6 := e3 j hj
      have hkd := x_fts_kind (ci := ci) (k := j) (ty := ty0 j) (by unfold x_ft; rw [e1]; exact e6)
      have e7 : vp_V ((lf.map x_def).map (x_cv g)) j = x_cv g (x_def (ty0 j)) := by simp [vp_V, List.getD, e6]
      rw [e7]
      rcases hkd with hkd | hkd | hkd | ⟨_, hkd⟩ | ⟨_, hkd⟩ <;> rw [hkd] <;> rfl
    · cases hv
  case newarray t =>
    obtain ⟨hn, hd, hv⟩ := x_ok_spec hok (by intro z; cases z) (by intro _ _ _ _ z; cases z)
    subst hn
    cases t
    case int =>
      simp only [x_fun] at hf
      obtain ⟨i, r, rfl, h1, h3, h4, h2⟩ := x_newa_inv hf
      cases h2
      have k1 := fun H1 hW1 hS1 => kk H1 locs ls hW1 hS1 hL
      have z1 : (h ++ [(.inl (0, i.toNatClampNeg, .inl (fun _ => 0)) : va_E)]).length - k0 = h.length - k0 + 1 := by simp; omega
      have z2 : x_ss (h ++ [.inl (0, i.toNatClampNeg, .inl (fun _ => 0))]) - s0 = x_ss h - s0 + i.toNatClampNeg := by
        rw [x_ss_app]
        have : x_sse (.inl (0, i.toNatClampNeg, .inl (fun _ => 0))) = i.toNatClampNeg := rfl
        omega
      simp only [z1, z2] at k1 hr
      exact x_Wnewa (t := 0) (atype := .int) hx hb (hts _ x_wint) hK rfl hW hS (by rfl) h1 rfl (by show _ * 4 ≤ _; omega) h4 hr.1 hr.2 hd k1
    case long =>
      simp only [x_fun] at hf
      obtain ⟨i, r, rfl, h1, h3, h4, h2⟩ := x_newa_inv hf
      cases h2
      have k1 := fun H1 hW1 hS1 => kk H1 locs ls hW1 hS1 hL
      have z1 : (h ++ [(.inl (1, i.toNatClampNeg, .inr (.inl (fun _ => 0))) : va_E)]).length - k0 = h.length - k0 + 1 := by simp; omega
      have z2 : x_ss (h ++ [.inl (1, i.toNatClampNeg, .inr (.inl (fun _ => 0)))]) - s0 = x_ss h - s0 + i.toNatClampNeg := by
        rw [x_ss_app]
        have : x_sse (.inl (1, i.toNatClampNeg, .inr (.inl (fun _ => 0)))) = i.toNatClampNeg := rfl
        omega
      simp only [z1, z2] at k1 hr
      exact x_Wnewa (t := 1) (atype := .long) hx hb (hts _ x_wlong) hK rfl hW hS (by rfl) h1 rfl (by show _ * 8 ≤ _; omega) h4 hr.1 hr.2 hd k1
    all_goals exact absurd hf (fun z => by cases z)
  case anewarray idx =>
    obtain ⟨hn, hd, hv⟩ := x_ok_spec hok (by intro z; cases z) (by intro _ _ _ _ z; cases z)
    subst hn
    simp only [x_fun] at hf
    split at hf
    · cases hf
    · obtain ⟨i, r, rfl, h1, h3, h4, h2⟩ := x_newa_inv hf
      cases h2
      have k1 := fun H1 hW1 hS1 => kk H1 locs ls hW1 hS1 hL
      have z1 : (h ++ [(.inl (a, i.toNatClampNeg, .inr (.inr (.inr (.inr (fun _ => none))))) : va_E)]).length - k0 = h.length - k0 + 1 := by simp; omega
      have z2 : x_ss (h ++ [.inl (a, i.toNatClampNeg, .inr (.inr (.inr (.inr (fun _ => none)))))]) - s0 = x_ss h - s0 + i.toNatClampNeg := by
        rw [x_ss_app]
        have : x_sse (.inl (a, i.toNatClampNeg, .inr (.inr (.inr (.inr (fun _ => none)))))) = i.toNatClampNeg := rfl
        omega
      simp only [z1, z2] at k1 hr
      simp only [x_okX] at hv
      have key : ∃ C, x_lk pos (.classLink M.1.cls idx C) = true ∧ va_AO C s ∧ (x_tys g)[a]? = some (g.2.2.2 a, .object C) := by
        split at hv
        · rename_i cc hc
          unfold x_acl at hc
          split at hc
          · cases hc
            exact ⟨_, hv, hNW.2.1, rfl⟩
          · cases hc
            exact ⟨_, hv, hNW.2.2.1, rfl⟩
          · cases hc
            exact ⟨_, hv, hNW.2.2.2, rfl⟩
          · cases hc
        · cases hv
      obtain ⟨C, y1, y2, y3⟩ := key
      exact x_Wnewq hx hb hown (hts _ (x_lk_in y1)) y2 hK y3 hW hS h1 rfl (by omega) h4 hr.1 hr.2 hd k1
  case invokestatic =>
    obtain ⟨hn, hd, hv⟩ := x_ok_spec hok (by intro z; cases z) (by intro _ _ _ _ z; cases z)
    subst hn
    simp only [x_fun] at hf
    split at hf
    · rename_i h9
      subst h9
      obtain ⟨k, dp, a1, sp, a0, r, m0, f, m1, f1, rfl, y1, y2, y3, y4, y5, y6, y7, y8, h2⟩ := x_cpy_inv hf
      cases h2
      have ess := x_ss_set (e' := .inl (0, m1, .inl (va_cpy f f1 sp.toNatClampNeg dp.toNatClampNeg k.toNatClampNeg))) y2 rfl
      simp only [x_okX, if_true] at hv
      have hcat : (r.map (x_cv g)).map (fun v => v.category) = r.map (fun v => v.category) := by
        rw [List.map_map]
        congr 1
        funext v
        exact x_cat g v
      refine x_Wcopy hx hb (by rw [hml, ← hlen, hL.1]) hown (hts _ (x_lk_in hv)) (hts _ x_wnat) (hts _ x_wsta) (hts _ x_wsys) hK hW hS y1 y2 y3 y4 y5 y6 y7 hR.1 (by rw [hcat, show nativeFrameWords "java/lang/System" "arraycopy" 5 = 7 from by decide +kernel]; omega) hd (fun H1 locs1 hW1 hS1 => ?_)
      have k1 := kk H1 locs1 ls hW1 hS1 hL
      simp only [List.length_set, ess] at k1
      exact k1
    · obtain ⟨-, -, h2⟩ := x_call_inv hf
      cases h2
  case invokespecial =>
    obtain ⟨hn, hd, hv⟩ := x_ok_spec hok (by intro z; cases z) (by intro _ _ _ _ z; cases z)
    subst hn
    simp only [x_fun] at hf
    split at hf
    · rename_i h9
      subst h9
      obtain ⟨aa, r, rfl, y1, h2⟩ := x_oin_inv hf
      cases h2
      simp only [x_okX, if_true] at hv
      have hcat : (r.map (x_cv g)).map (fun v => v.category) = r.map (fun v => v.category) := by
        rw [List.map_map]
        congr 1
        funext v
        exact x_cat g v
      exact W.objInit hx hb hown (hts _ (x_lk_in hv)) (hts _ x_woin) (hts _ x_woco) rfl (by show ls.size = _; rw [hml, ← hlen, hL.1]) rfl hd hR.1 (by show 2 * 0 + _ + 12 ≤ _; rw [hcat]; omega) (kk H locs ls hW hS hL)
    · obtain ⟨_, -, h3⟩ := x_callI_inv hf
      obtain ⟨-, -, h2⟩ := x_call_inv h3
      cases h2
  case invokevirtual =>
    obtain ⟨_, _, -, -, h3⟩ := x_callV_inv hf
    obtain ⟨-, -, h2⟩ := x_call_inv h3
    cases h2
  case ireturn =>
    simp only [x_fun, x_ret] at hf
    split at hf
    · split at hf <;> cases hf
    · cases hf
  case lreturn =>
    simp only [x_fun, x_retL] at hf
    split at hf <;> cases hf
  case areturn =>
    simp only [x_fun, x_retA] at hf
    split at hf <;> cases hf
  case return_ =>
    simp only [x_fun, x_retV] at hf
    split at hf <;> cases hf
  all_goals exact absurd hf (fun z => by cases z)
end XStep
