/-! A CALL OF OUR MACHINE IS A CONTRACT -/
theorem x_NW.same {U U' : State} (hvm : U'.vm = U.vm) (h : x_NW U) : x_NW U' := by
  obtain ⟨h1, h2, h3, h4⟩ := h
  have ha : U.vm.Alike U'.vm := by rw [hvm]; exact Vm.Alike.refl U.vm
  refine ⟨fun w hw => ?_, h2.moved ha, h3.moved ha, h4.moved ha⟩
  have h5 := h1 w hw
  have h6 := (List.mem_filter.mp hw).2
  cases w <;> first | (simp [x_isN] at h6; done) | exact va_tabs rfl hvm.symm h5
theorem x_blind {D : va_G} {g : XG} {X : XX} {as : List Value} {h : XH} : FrameBlind (x_Pc D g X as h) := by
  intro a U gf mk q
  obtain ⟨q0, q1, q2, q3, q4⟩ := q
  exact ⟨q0, q1, va_K.moved (u := U) (U := U.calling gf mk a) (Vm.Alike.refl U.vm) q2, x_RO.moved (u := U) (U := U.calling gf mk a) (Vm.Alike.refl U.vm) q3, x_NW.same (U := U) rfl q4⟩
section XSound
variable {p : Program} {l : Launch} {e : Env} {R : Room} {s : State} {m : MethodId} {args : Array Value} {below : List Frame} {meth : Method} {c : Code} {H : Heap} {locs : List Loc} {Q : State → Prop}
variable {M : XM} {D : va_G} {g : XG} {X : XX}
theorem x_goes {cells slots mc ms pc : Nat} {ls : Array Slot} {st0 rest : List Value} {a : Array Value} {r : Option Value} {h' : XH}
    (hr : va_Run p l e R s m args below meth c H locs cells slots mc ms (F0 m pc ls st0) rest (x_Qc D g r h' a) (x_A g)) (hS : va_S (x_A g) s.heap H locs)
    (kk : ∀ (H1 : Heap) (locs1 : List Loc), x_Wd D g h' H1 → va_S (x_A g) s.heap H1 locs1 → W p l e R s m args below meth c H1 locs1 (cells + mc) (slots + ms) Q (F0 m (pc + 3) ls ((r.map (x_cv g)).toList ++ rest))) : W p l e R s m args below meth c H locs cells slots Q (F0 m pc ls st0) := by
  intro T hT X
  obtain ⟨v, st₀, t, T', L, h0, X', hL, e1, e2, ⟨hv, hw, hz, hk⟩, st⟩ := hr T hT X
  cases hv
  rw [h0] at hz hk
  obtain ⟨t2, a1, b1⟩ := kk T'.heap (locs ++ L) (by rw [e1]; exact hw)
    ⟨Nat.le_trans hS.1 (by rw [e1]; exact hz), fun q h1 h2 => by rw [e1, hk q (Nat.lt_of_lt_of_le h1 hS.1) h2]; exact hS.2.1 q h1 h2, fun q hq => by
      rcases List.mem_append.mp hq with h | h
      · exact hS.2.2 q h
      · exact hL q h⟩ T' rfl X'
  exact ⟨t2, st t2 a1, b1⟩
theorem x_pre {h : XH} {as : List Value} (hK : va_K D vwCl (x_tys g) s) (hRO : x_RO g X s s.heap) (hNW : x_NW s) (hW : x_Wd D g h H) (hS : va_S (x_A g) s.heap H locs) : ∀ U : State, U.heap = H → s.WarmedH U.vm → x_Pc D g X as h (as.map (x_cv g)).toArray U := by
  intro U hU hWm
  refine ⟨rfl, by rw [hU]; exact hW, va_K.moved hWm.alike hK, ?_, hNW.warm hWm⟩
  have h1 := x_RO.moved (U := U) hWm.alike hRO
  rw [hU]
  exact h1.kept (fun a h2 h3 => hS.2.1 a h2 h3)
theorem x_gdIn {M : XM} (h : Jvm.Cond.code M.1 M.2.1 M.2.2.1 M.2.2.2.1 ∈ lw_gd) : GoodIn lw_gd (x_ws M) := by
  have key : ∀ w ∈ lw_gd, w ∈ lw_gd ∧ ((w.onTables && w.keeps) = true ∨ ∃ ty, w = .arrayClass ty) := fun w hw => ⟨hw, good_of_word (List.mem_filter.mp hw).2⟩
  intro w hw
  rcases List.mem_cons.mp hw with e | hw
  · rw [e]; exact key _ h
  · exact key w hw
theorem x_okM_inv {μ : Nat} {M : XM} (h : x_okM μ M = true) : ∃ pp, xP[μ]? = some pp ∧ Jvm.Cond.code M.1 M.2.1 M.2.2.1 M.2.2.2.1 ∈ lw_gd ∧ Jvm.Cond.initialized M.1.cls ∈ lw_gd ∧ M.1.cls ≠ "java/lang/invoke/MethodHandle" ∧ M.1.cls ≠ "java/lang/invoke/VarHandle" ∧ plainFor M.1 = true ∧ M.2.2.1 ≤ 13 := by
  unfold x_okM at h
  split at h
  · rename_i pp hp
    simp only [Bool.and_eq_true, decide_eq_true_eq] at h
    obtain ⟨h1, h2, h3, h4, h5, h6⟩ := h
    exact ⟨pp, hp, x_lk_in h1, x_lk_in h2, h3, h4, h5, h6⟩
  · cases h
theorem x_split : ∀ {b : Nat} {st : List Value} {v : Value}, st[b]? = some v → st = st.take b ++ v :: st.drop (b + 1) ∧ (st.take (b + 1)).reverse = v :: (st.take b).reverse
  | _, [], _, h => by simp at h
  | 0, u :: st, v, h => by
    simp at h
    subst h
    simp
  | b + 1, u :: st, v, h => by
    rw [List.getElem?_cons_succ] at h
    obtain ⟨h1, h2⟩ := x_split h
    constructor
    · simp only [List.take_succ_cons, List.drop_succ_cons, List.cons_append]
      rw [← h1]
    · rw [List.take_succ_cons, List.reverse_cons, h2, List.take_succ_cons, List.reverse_cons]
      rfl
theorem x_nxN {n : Nat} {L : XL} {h : XH} {o : Option (List Value)} {q : (Option Value × XH) ⊕ (Nat × List Value × List Value)} : ¬ x_nx n L h o = some (.inr q) := fun z => by
  obtain ⟨_, -, h2⟩ := x_nx_inv z
  cases h2
/-- only three instructions call, four return -/
theorem x_other {X : XX} {M : XM} {pc : Nat} {e : XE} {L : XL} {st : List Value} {h : XH} {q : (Option Value × XH) ⊕ (Nat × List Value × List Value)} (hf : x_fun X M pc e L st h = some (.inr q)) : (∃ i, e.1 = .invokestatic i) ∨ (∃ i, e.1 = .invokespecial i) ∨ (∃ i, e.1 = .invokevirtual i) ∨ ((e.1 = .ireturn ∨ e.1 = .lreturn ∨ e.1 = .areturn ∨ e.1 = .return_) ∧ ∃ r, q = .inl (r, h)) := by
  obtain ⟨ins, n, a, b, ci, pos⟩ := e
  cases ins
  case invokestatic i => exact Or.inl ⟨i, rfl⟩
  case invokespecial i => exact Or.inr (Or.inl ⟨i, rfl⟩)
  case invokevirtual i => exact Or.inr (Or.inr (Or.inl ⟨i, rfl⟩))
  case ireturn =>
    simp only [x_fun, x_ret] at hf
    split at hf
    · split at hf
      · cases hf
        exact Or.inr (Or.inr (Or.inr ⟨Or.inl rfl, _, rfl⟩))
      · cases hf
    · cases hf
  case lreturn =>
    simp only [x_fun, x_retL] at hf
    split at hf
    · cases hf
      exact Or.inr (Or.inr (Or.inr ⟨Or.inr (Or.inl rfl), _, rfl⟩))
    · cases hf
  case areturn =>
    simp only [x_fun, x_retA] at hf
    split at hf
    · cases hf
      exact Or.inr (Or.inr (Or.inr ⟨Or.inr (Or.inr (Or.inl rfl)), _, rfl⟩))
    · cases hf
      exact Or.inr (Or.inr (Or.inr ⟨Or.inr (Or.inr (Or.inl rfl)), _, rfl⟩))
    · cases hf
  case return_ =>
    simp only [x_fun, x_retV] at hf
    split at hf
    · cases hf
      exact Or.inr (Or.inr (Or.inr ⟨Or.inr (Or.inr (Or.inr rfl)), _, rfl⟩))
    · cases hf
  case iload => exact absurd hf x_nxN
  case iload_n => exact absurd hf x_nxN
  case lload => exact absurd hf x_nxN
  case lload_n => exact absurd hf x_nxN
  case aload => exact absurd hf x_nxN
  case aload_n => exact absurd hf x_nxN
  case iadd => exact absurd hf x_nxN
  case isub => exact absurd hf x_nxN
  case imul => exact absurd hf x_nxN
  case iand => exact absurd hf x_nxN
  case ior => exact absurd hf x_nxN
  case ixor => exact absurd hf x_nxN
  case ishl => exact absurd hf x_nxN
  case ishr => exact absurd hf x_nxN
  case iushr => exact absurd hf x_nxN
  case idiv => exact absurd hf x_nxN
  case irem => exact absurd hf x_nxN
  case ineg => exact absurd hf x_nxN
  case i2l => exact absurd hf x_nxN
  case i2b => exact absurd hf x_nxN
  case l2i => exact absurd hf x_nxN
  case ladd => exact absurd hf x_nxN
  case lmul => exact absurd hf x_nxN
  case ldiv => exact absurd hf x_nxN
  case lrem => exact absurd hf x_nxN
  case dup => exact absurd hf x_nxN
  case dup2 => exact absurd hf x_nxN
  case pop => exact absurd hf x_nxN
  case istore =>
    obtain ⟨_, _, _, -, -, h2⟩ := x_cI_inv hf
    cases h2
  case istore_n =>
    obtain ⟨_, _, _, -, -, h2⟩ := x_cI_inv hf
    cases h2
  case lstore =>
    obtain ⟨_, _, _, -, -, h2⟩ := x_cL_inv hf
    cases h2
  case lstore_n =>
    obtain ⟨_, _, _, -, -, h2⟩ := x_cL_inv hf
    cases h2
  case astore =>
    rcases x_cA_inv hf with ⟨_, _, _, -, -, h2⟩ | ⟨_, _, -, -, h2⟩ <;> cases h2
  case astore_n =>
    rcases x_cA_inv hf with ⟨_, _, _, -, -, h2⟩ | ⟨_, _, -, -, h2⟩ <;> cases h2
  case iinc =>
    obtain ⟨_, _, -, -, h2⟩ := x_inc_inv hf
    cases h2
  case getfield =>
    obtain ⟨_, _, _, _, -, -, -, h2⟩ := x_get_inv hf
    cases h2
  case putfield =>
    obtain ⟨_, _, _, _, _, -, -, -, -, -, -, h2⟩ := x_put_inv hf
    cases h2
  case iaload =>
    obtain ⟨_, _, _, _, -, h2, -⟩ := x_iald_inv hf
    cases h2
  case iastore =>
    obtain ⟨_, _, _, _, _, _, -, -, -, h2⟩ := x_iast_inv hf
    cases h2
  case laload =>
    obtain ⟨_, _, _, _, _, -, -, -, h2⟩ := x_lald_inv hf
    cases h2
  case lastore =>
    obtain ⟨_, _, _, _, _, _, -, -, -, h2⟩ := x_last_inv hf
    cases h2
  case aaload =>
    obtain ⟨_, _, _, _, _, _, -, -, -, -, h2⟩ := x_aald_inv hf
    cases h2
  case aastore =>
    obtain ⟨_, _, _, _, _, _, _, _, _, -, -, -, -, -, h2⟩ := x_aast_inv hf
    cases h2
  case arraylength =>
    obtain ⟨_, _, _, -, h2, -⟩ := x_alen_inv hf
    cases h2
  case new =>
    obtain ⟨_, -, -, h2⟩ := x_newo_inv hf
    cases h2
  case newarray t =>
    cases t
    case int =>
      simp only [x_fun] at hf
      obtain ⟨_, _, -, -, -, -, h2⟩ := x_newa_inv hf
      cases h2
    case long =>
      simp only [x_fun] at hf
      obtain ⟨_, _, -, -, -, -, h2⟩ := x_newa_inv hf
      cases h2
    all_goals exact absurd hf (fun z => by cases z)
  case anewarray =>
    simp only [x_fun] at hf
    split at hf
    · cases hf
    · obtain ⟨_, _, -, -, -, -, h2⟩ := x_newa_inv hf
      cases h2
  case lcmp =>
    simp only [x_fun] at hf
    split at hf <;> cases hf
  case ifCond =>
    simp only [x_fun] at hf
    split at hf <;> cases hf
  case if_icmp =>
    simp only [x_fun] at hf
    split at hf <;> cases hf
  case ifnull =>
    simp only [x_fun] at hf
    split at hf <;> cases hf
  case ifnonnull =>
    simp only [x_fun] at hf
    split at hf <;> cases hf
  case tableswitch =>
    simp only [x_fun] at hf
    split at hf
    · split at hf <;> cases hf
    · cases hf
  all_goals exact absurd hf (fun z => by cases z)
theorem x_fin_same {X : XX} {M : XM} {pc : Nat} {e : XE} {L : XL} {st : List Value} {h : XH} {q : Option Value × XH} (hf : x_fun X M pc e L st h = some (.inr (.inl q))) : q.2 = h := by
  rcases x_other hf with ⟨i, h1⟩ | ⟨i, h1⟩ | ⟨i, h1⟩ | ⟨-, r, h1⟩
  · obtain ⟨ins, n, a, b, ci, pos⟩ := e
    cases h1
    simp only [x_fun] at hf
    split at hf
    · obtain ⟨_, _, _, _, _, _, _, _, _, _, -, -, -, -, -, -, -, -, -, h2⟩ := x_cpy_inv hf
      cases h2
    · obtain ⟨-, -, h2⟩ := x_call_inv hf
      cases h2
  · obtain ⟨ins, n, a, b, ci, pos⟩ := e
    cases h1
    simp only [x_fun] at hf
    split at hf
    · obtain ⟨_, _, -, -, h2⟩ := x_oin_inv hf
      cases h2
    · obtain ⟨_, -, h3⟩ := x_callI_inv hf
      obtain ⟨-, -, h2⟩ := x_call_inv h3
      cases h2
  · obtain ⟨ins, n, a, b, ci, pos⟩ := e
    cases h1
    obtain ⟨_, _, -, -, h3⟩ := x_callV_inv hf
    obtain ⟨-, -, h2⟩ := x_call_inv h3
    cases h2
  · cases h1
    rfl
theorem x_nocall {X : XX} {M : XM} {pc n a b ci pos : Nat} {ins : Instr} {L : XL} {st : List Value} {h : XH} {q : Nat × List Value × List Value} (h1 : ∀ i, ins ≠ .invokestatic i) (h2 : ∀ i, ins ≠ .invokespecial i) (h3 : ∀ i, ins ≠ .invokevirtual i) : ¬ x_fun X M pc (ins, n, a, b, ci, pos) L st h = some (.inr (.inr q)) := by
  intro hf
  rcases x_other hf with ⟨i, h4⟩ | ⟨i, h4⟩ | ⟨i, h4⟩ | ⟨-, r, h4⟩
  · exact h1 i h4
  · exact h2 i h4
  · exact h3 i h4
  · cases h4
theorem x_noret {X : XX} {M : XM} {pc n a b ci pos : Nat} {ins : Instr} {L : XL} {st : List Value} {h : XH} {q : Option Value × XH} (h1 : ins ≠ .ireturn) (h2 : ins ≠ .lreturn) (h3 : ins ≠ .areturn) (h4 : ins ≠ .return_) : ¬ x_fun X M pc (ins, n, a, b, ci, pos) L st h = some (.inr (.inl q)) := by
  intro hf
  rcases x_other hf with ⟨i, h5⟩ | ⟨i, h5⟩ | ⟨i, h5⟩ | ⟨h5, -⟩
  · have h6 : ins = .invokestatic i := h5
    subst h6
    simp only [x_fun] at hf
    split at hf
    · obtain ⟨_, _, _, _, _, _, _, _, _, _, -, -, -, -, -, -, -, -, -, h2⟩ := x_cpy_inv hf
      cases h2
    · obtain ⟨-, -, h2⟩ := x_call_inv hf
      cases h2
  · have h6 : ins = .invokespecial i := h5
    subst h6
    simp only [x_fun] at hf
    split at hf
    · obtain ⟨_, _, -, -, h2⟩ := x_oin_inv hf
      cases h2
    · obtain ⟨_, -, h3⟩ := x_callI_inv hf
      obtain ⟨-, -, h2⟩ := x_call_inv h3
      cases h2
  · have h6 : ins = .invokevirtual i := h5
    subst h6
    obtain ⟨_, _, -, -, h3⟩ := x_callV_inv hf
    obtain ⟨-, -, h2⟩ := x_call_inv h3
    cases h2
  · rcases h5 with h5 | h5 | h5 | h5
    · exact h1 h5
    · exact h2 h5
    · exact h3 h5
    · exact h4 h5
/-- what a call's contract says -/
def x_Met (l : Launch) (D : va_G) (g : XG) (X : XX) (d μ : Nat) (as : List Value) (h : XH) (r : Option Value) (h' : XH) : Prop :=
  ∃ M, xT[μ]? = some M ∧ h.length ≤ h'.length ∧ x_ss h ≤ x_ss h' ∧ Met l M.1 (x_ws M) (x_rm d (h'.length - h.length) (x_ss h' - x_ss h)) (x_Pc D g X as h) (x_Qc D g r h') (h'.length - h.length) (x_ss h' - x_ss h) (x_A g)
set_option maxHeartbeats 4000000 in
/-- a call's step -/
theorem x_cstep {μ d pc n a b ci pos k0 s0 : Nat} {ins : Instr} {L : XL} {st st' as : List Value} {h h1 : XH} {r1 : Option Value} {ls : Array Slot} (C0 : x_Ctx p s m args meth c M D g X) (hR : d + 2 ≤ R.frames ∧ 32 * (d + 1) + 40 ≤ R.locals) (hok : x_okE M pc (ins, n, a, b, ci, pos) = true) (hf : x_fun X M pc (ins, n, a, b, ci, pos) L st h = some (.inr (.inr (μ, as, st')))) (hc : x_Met l D g X d μ as h r1 h1) (hW : x_Wd D g h H) (hS : va_S (x_A g) s.heap H locs) (hL : x_LR g ls L) (hlen : L.length = M.2.2.1) (hk : k0 ≤ h.length) (hs : s0 ≤ x_ss h) (hr : h1.length - k0 ≤ R.cells ∧ x_ss h1 - s0 ≤ R.slots)
    (kk : ∀ (H1 : Heap) (locs1 : List Loc), x_Wd D g h1 H1 → va_S (x_A g) s.heap H1 locs1 → W p l e R s m args below meth c H1 locs1 (h1.length - k0) (x_ss h1 - s0) Q (F0 m n ls ((r1.toList ++ st').map (x_cv g)))) : W p l e R s m args below meth c H locs (h.length - k0) (x_ss h - s0) Q (F0 m pc ls (st.map (x_cv g))) := by
  obtain ⟨hx, hb, hml, hown, hts, hK, hRO, hNW, hin⟩ := C0
  obtain ⟨M', hM', g1, g2, hMet⟩ := hc
  obtain ⟨-, hokM⟩ := xT_at hM'
  obtain ⟨pp, hpp, w1, w2, w3, w4, w5, w6⟩ := x_okM_inv hokM
  have hsz : ls.size = M.2.2.1 := by rw [hL.1, hlen]
  have hgd := x_gdIn w1
  have hroom : (x_rm d (h1.length - h.length) (x_ss h1 - x_ss h)).frames + 1 ≤ R.frames ∧ 8 + (M'.2.2.1 + 11) + (x_rm d (h1.length - h.length) (x_ss h1 - x_ss h)).locals ≤ R.locals := ⟨hR.1, by show 8 + (M'.2.2.1 + 11) + (32 * d + 40) ≤ _; omega⟩
  have hfit : h.length - k0 + (h1.length - h.length) ≤ R.cells ∧ x_ss h - s0 + (x_ss h1 - x_ss h) ≤ R.slots := ⟨by omega, by omega⟩
  have z1 : h1.length - k0 = h.length - k0 + (h1.length - h.length) := by omega
  have z2 : x_ss h1 - s0 = x_ss h - s0 + (x_ss h1 - x_ss h) := by omega
  rw [z1, z2] at kk
  have hmap : (r1.toList ++ st').map (x_cv g) = (r1.map (x_cv g)).toList ++ st'.map (x_cv g) := by cases r1 <;> simp
  rw [hmap] at kk
  have hcat : ∀ r : List Value, (r.map (x_cv g)).map (fun v => v.category) = r.map (fun v => v.category) := by
    intro r
    rw [List.map_map]
    congr 1
    funext v
    exact x_cat g v
  have hpre := x_pre (as := as) hK hRO hNW hW hS
  have hpar : ∀ b : Nat, x_npar M'.1 b = true → M'.1.cls ≠ "java/lang/invoke/MethodHandle" ∧ M'.1.cls ≠ "java/lang/invoke/VarHandle" ∧ (parseMethodDescriptor M'.1.desc).map (fun d => d.parameters.length) = some b := fun b hb => ⟨w3, w4, of_decide_eq_true hb⟩
  cases ins
  case invokestatic idx =>
    obtain ⟨hn, hd, hv⟩ := x_ok_spec hok (by intro z; cases z) (by intro _ _ _ _ z; cases z)
    subst hn
    simp only [x_fun] at hf
    simp only [x_okX] at hv
    split at hf
    · obtain ⟨_, _, _, _, _, _, _, _, _, _, -, -, -, -, -, -, -, -, -, h2⟩ := x_cpy_inv hf
      cases h2
    · rename_i hne
      rw [if_neg hne] at hv
      obtain ⟨y1, y2, y3⟩ := x_call_inv hf
      cases y3
      rw [hM', hpp] at hv
      simp only [Bool.and_eq_true, Bool.or_eq_true] at hv
      obtain ⟨v1, v2, v3⟩ := hv
      have hst : st.map (x_cv g) = ((st.take b).reverse.map (x_cv g)).reverse ++ (st.drop b).map (x_cv g) := by
        rw [← List.map_reverse, List.reverse_reverse, ← List.map_append, List.take_append_drop]
      have hnl : ((st.take b).reverse.map (x_cv g)).length = b := by simp; omega
      have hwd : 2 * (F0 m pc ls (st.map (x_cv g))).monitorRoom + (((st.drop b).map (x_cv g)).map fun v => v.category).sum ≤ 8 := lv_room (by rw [hcat]; exact y2)
      rcases v1 with v1 | v1
      · exact x_goes (va_runS (As := (st.take b).reverse.map (x_cv g)) (rest := (st.drop b).map (x_cv g)) ⟨hx, hb, hml, hown, hts⟩ hMet ⟨callB_of b hts hgd rfl rfl rfl (hts _ w2) (hts _ (x_lk_in v1)) (hpar b v3) hroom, hts _ (x_lk_in v2)⟩ ⟨x_blind, hpre⟩ rfl hnl hsz hst hwd hd hfit) hS kk
      · exact x_goes (va_runSN (As := (st.take b).reverse.map (x_cv g)) (rest := (st.drop b).map (x_cv g)) ⟨hx, hb, hml, hown, hts⟩ hMet ⟨va_cnB b hts hgd rfl rfl rfl (hNW.1 _ (x_lkN_in v1)) (hts _ w2) (hpar b v3) hroom, hts _ (x_lk_in v2), trivial⟩ ⟨x_blind, hpre⟩ rfl hnl hsz hst hwd hd hfit) hS kk
  case invokespecial idx =>
    obtain ⟨hn, hd, hv⟩ := x_ok_spec hok (by intro z; cases z) (by intro _ _ _ _ z; cases z)
    subst hn
    simp only [x_fun] at hf
    simp only [x_okX] at hv
    split at hf
    · obtain ⟨_, _, -, -, h2⟩ := x_oin_inv hf
      cases h2
    · rename_i hne
      rw [if_neg hne] at hv
      obtain ⟨aa, hrec, hf⟩ := x_callI_inv hf
      obtain ⟨y1, y2, y3⟩ := x_call_inv hf
      cases y3
      rw [hM', hpp] at hv
      simp only [Bool.and_eq_true, Bool.or_eq_true, decide_eq_true_eq] at hv
      obtain ⟨v1, v2, v3, v4, v5⟩ := hv
      obtain ⟨q1, q2⟩ := x_split hrec
      rw [q2] at hMet hpre
      have hst : st.map (x_cv g) = ((st.take b).reverse.map (x_cv g)).reverse ++ .ref (x_ad g aa) :: (st.drop (b + 1)).map (x_cv g) := by
        rw [← List.map_reverse, List.reverse_reverse]
        conv => lhs; rw [q1]
        simp [x_cv]
      have hnl : ((st.take b).reverse.map (x_cv g)).length = b := by simp; omega
      have hwd : 2 * (F0 m pc ls (st.map (x_cv g))).monitorRoom + (((st.drop (b + 1)).map (x_cv g)).map fun v => v.category).sum ≤ 8 := lv_room (by rw [hcat]; exact y2)
      have hws : x_ws M' = Jvm.Cond.code M'.1 M'.2.1 M'.2.2.1 none :: lw_gd := by unfold x_ws; rw [v5]
      rcases v1 with v1 | v1
      · exact x_goes (va_runI (b := x_ad g aa) (As := (st.take b).reverse.map (x_cv g)) (rest := (st.drop (b + 1)).map (x_cv g)) ⟨hx, hb, hml, hown, hts⟩ hMet ⟨callB_of b hts hgd hws rfl rfl (hts _ w2) (hts _ (x_lk_in v1)) (hpar b v3) hroom, v4, hts _ (x_lk_in v2)⟩ ⟨x_blind, hpre⟩ rfl hnl hsz hst hwd hd hfit) hS kk
      · exact x_goes (va_runIN (b := x_ad g aa) (As := (st.take b).reverse.map (x_cv g)) (rest := (st.drop (b + 1)).map (x_cv g)) ⟨hx, hb, hml, hown, hts⟩ hMet ⟨va_cnB b hts hgd hws rfl rfl (hNW.1 _ (x_lkN_in v1)) (hts _ w2) (hpar b v3) hroom, v4, hts _ (x_lk_in v2)⟩ ⟨x_blind, hpre⟩ rfl hnl hsz hst hwd hd hfit) hS kk
  case invokevirtual idx =>
    obtain ⟨hn, hd, hv⟩ := x_ok_spec hok (by intro z; cases z) (by intro _ _ _ _ z; cases z)
    subst hn
    obtain ⟨aa, fs, hrec, hcell, hf⟩ := x_callV_inv hf
    obtain ⟨y1, y2, y3⟩ := x_call_inv hf
    cases y3
    simp only [x_okX] at hv
    rw [hM', hpp] at hv
    split at hv
    · rename_i M2 p2 qc hM2 hp2 hqc
      cases hM2
      cases hp2
      simp only [Bool.and_eq_true, decide_eq_true_eq] at hv
      obtain ⟨v1, v2, v3, v4, v5⟩ := hv
      obtain ⟨q1, q2⟩ := x_split hrec
      rw [q2] at hMet hpre
      have hst : st.map (x_cv g) = ((st.take b).reverse.map (x_cv g)).reverse ++ .ref (x_ad g aa) :: (st.drop (b + 1)).map (x_cv g) := by
        rw [← List.map_reverse, List.reverse_reverse]
        conv => lhs; rw [q1]
        simp [x_cv]
      have hnl : ((st.take b).reverse.map (x_cv g)).length = b := by simp; omega
      have hwd : 2 * (F0 m pc ls (st.map (x_cv g))).monitorRoom + (((st.drop (b + 1)).map (x_cv g)).map fun v => v.category).sum ≤ 8 := lv_room (by rw [hcat]; exact y2)
      exact x_goes (va_runV (C := qc.1) (b := x_ad g aa) (As := (st.take b).reverse.map (x_cv g)) (rest := (st.drop (b + 1)).map (x_cv g)) ⟨hx, hb, hml, hown, hts⟩ hMet ⟨callB_of b hts hgd rfl rfl rfl (hts _ w2) (hts _ (x_lk_in v1)) (hpar b v4) hroom, hts _ (x_lk_in v2), hts _ (x_lk_in v3)⟩ ⟨x_blind, va_recv hK hW.2.2 (q0 := aa) hqc (x_W_at hcell), hpre⟩ rfl hnl hsz hst hwd hd hfit) hS kk
    · cases hv
  all_goals exact absurd hf (x_nocall (by intro _ z; cases z) (by intro _ z; cases z) (by intro _ z; cases z))
theorem x_run_mono {call : Nat → List Value → XH → Option Value → XH → Prop} (hcall : ∀ μ as h r h', call μ as h r h' → h.length ≤ h'.length ∧ x_ss h ≤ x_ss h') {r : Option Value} {h' : XH} : ∀ (n pc : Nat) (L : XL) (st : List Value) (h : XH), x_run X call M n pc L st h (fun r' h'' => r' = r ∧ h'' = h') → h.length ≤ h'.length ∧ x_ss h ≤ x_ss h' := by
  intro n
  induction n with
  | zero => intro pc L st h hr; exact hr.elim
  | succ n ih =>
    intro pc L st h hr
    obtain ⟨e1, he, hr⟩ := hr
    split at hr
    · rename_i q hq
      obtain ⟨-, h1, h2⟩ := x_mono hq
      obtain ⟨h3, h4⟩ := ih _ _ _ _ hr
      exact ⟨by omega, by omega⟩
    · rename_i q hq
      obtain ⟨-, h2⟩ := hr
      rw [← h2, x_fin_same hq]
      exact ⟨Nat.le_refl _, Nat.le_refl _⟩
    · rename_i q hq
      obtain ⟨r1, h1, hc, hr⟩ := hr
      obtain ⟨h3, h4⟩ := ih _ _ _ _ hr
      obtain ⟨h5, h6⟩ := hcall _ _ _ _ _ hc
      exact ⟨by omega, by omega⟩
    · exact hr.elim
/-- a run of our machine in a frame is a walk of the machine -/
theorem x_frame {d k0 s0 : Nat} {r : Option Value} {h' : XH} (IH : ∀ μ as h r h', x_ev X xT d μ as h r h' → x_Met l D g X d μ as h r h') (C0 : x_Ctx p s m args meth c M D g X) (hR : d + 2 ≤ R.frames ∧ 32 * (d + 1) + 40 ≤ R.locals) (hok : ∀ (pc : Nat) (e : XE), M.2.2.2.2[pc]? = some e → x_okE M pc e = true) (hcap : h'.length - k0 ≤ R.cells ∧ x_ss h' - s0 ≤ R.slots)
    (hret : ∀ (pc : Nat) (e0 : XE) (L : XL) (st : List Value), x_okE M pc e0 = true → x_fun X M pc e0 L st h' = some (.inr (.inl (r, h'))) → ∀ (H : Heap) (locs : List Loc) (ls : Array Slot), x_Wd D g h' H → va_S (x_A g) s.heap H locs → W p l e R s m args below meth c H locs (h'.length - k0) (x_ss h' - s0) Q (F0 m pc ls (st.map (x_cv g)))) :
    ∀ (n pc : Nat) (L : XL) (st : List Value) (h : XH), x_run X (x_ev X xT d) M n pc L st h (fun r' h'' => r' = r ∧ h'' = h') → ∀ (H : Heap) (locs : List Loc) (ls : Array Slot), x_Wd D g h H → va_S (x_A g) s.heap H locs → x_LR g ls L → L.length = M.2.2.1 → k0 ≤ h.length → s0 ≤ x_ss h → W p l e R s m args below meth c H locs (h.length - k0) (x_ss h - s0) Q (F0 m pc ls (st.map (x_cv g))) := by
  have hcm : ∀ μ as h r h', x_ev X xT d μ as h r h' → h.length ≤ h'.length ∧ x_ss h ≤ x_ss h' := by
    intro μ as h r h' he
    obtain ⟨_, -, h1, h2, -⟩ := IH μ as h r h' he
    exact ⟨h1, h2⟩
  intro n
  induction n with
  | zero => intro pc L st h hr; exact hr.elim
  | succ n ih =>
    intro pc L st h hr H locs ls hW hS hL hlen hk hs
    obtain ⟨e1, he, hr⟩ := hr
    split at hr
    · rename_i q hq
      obtain ⟨g1, g2, g3⟩ := x_mono hq
      obtain ⟨h3, h4⟩ := x_run_mono hcm _ _ _ _ _ hr
      exact x_step C0 ⟨by omega, by omega⟩ (hok pc e1 he) hq hW hS hL hlen hk hs ⟨by omega, by omega⟩ (fun H1 locs1 ls1 hW1 hS1 hL1 => ih _ _ _ _ hr H1 locs1 ls1 hW1 hS1 hL1 (by rw [g1]; exact hlen) (by omega) (by omega))
    · rename_i q hq
      obtain ⟨q1, q2⟩ := q
      obtain ⟨rfl, rfl⟩ := hr
      have e2 := x_fin_same hq
      simp only at e2
      subst e2
      exact hret pc e1 L st (hok pc e1 he) hq H locs ls hW hS
    · rename_i q hq
      obtain ⟨μ, as, st'⟩ := q
      obtain ⟨r1, h1, hc, hr⟩ := hr
      obtain ⟨h3, h4⟩ := x_run_mono hcm _ _ _ _ _ hr
      obtain ⟨h5, h6⟩ := hcm _ _ _ _ _ hc
      obtain ⟨ins, nx, a, b, ci, pos⟩ := e1
      exact x_cstep C0 hR (hok pc _ he) hq (IH _ _ _ _ _ hc) hW hS hL hlen hk hs ⟨by omega, by omega⟩ (fun H1 locs1 hW1 hS1 => ih _ _ _ _ hr H1 locs1 ls hW1 hS1 hL hlen (by omega) (by omega))
    · exact hr.elim
/-- a method's end -/
theorem x_rets {k0 s0 : Nat} {r : Option Value} {h' : XH} (hx : p.tables.exec = Jvm.exec) (hb : c.code = M.2.1) (hr : meth.sig.returnType = M.2.2.2.1) (hlocks : meth.locks = false) {pc : Nat} {e0 : XE} {L : XL} {st : List Value} (hok : x_okE M pc e0 = true) (hf : x_fun X M pc e0 L st h' = some (.inr (.inl (r, h')))) {ls : Array Slot} (hW : x_Wd D g h' H) (hS : va_S (x_A g) s.heap H locs) : W p l e R s m args below meth c H locs (h'.length - k0) (x_ss h' - s0) (MQ below (x_Qc D g r h') args s (h'.length - k0) (x_ss h' - s0) (x_A g)) (F0 m pc ls (st.map (x_cv g))) := by
  obtain ⟨ins, n, a, b, ci, pos⟩ := e0
  cases ins
  case ireturn =>
    obtain ⟨hn, hd, hv⟩ := x_ok_spec hok (by intro z; cases z) (by intro _ _ _ _ z; cases z)
    simp only [x_fun, x_ret] at hf
    split at hf
    · rename_i ty v hty
      split at hf
      · rename_i hnar
        cases hf
        exact W.zret hx hb (hr.trans hty) hnar (fun t ht hWm => ⟨rfl, by rw [ht]; exact hW, hS.F ht⟩) hS.2.2 hd
      · cases hf
    · cases hf
  case lreturn =>
    obtain ⟨hn, hd, hv⟩ := x_ok_spec hok (by intro z; cases z) (by intro _ _ _ _ z; cases z)
    simp only [x_fun, x_retL] at hf
    split at hf
    · rename_i v hty
      cases hf
      exact W.lret hx hb (hr.trans hty) (fun t ht hWm => ⟨rfl, by rw [ht]; exact hW, hS.F ht⟩) hS.2.2 hd
    · cases hf
  case areturn =>
    obtain ⟨hn, hd, hv⟩ := x_ok_spec hok (by intro z; cases z) (by intro _ _ _ _ z; cases z)
    simp only [x_fun, x_retA] at hf
    split at hf
    · rename_i nm v hty
      cases hf
      exact W.aret hx hb (hr.trans hty) (Or.inl ⟨_, rfl⟩) (Or.inr ⟨_, rfl⟩) (fun t ht hWm => ⟨rfl, by rw [ht]; exact hW, hS.F ht⟩) hS.2.2 hd
    · rename_i nm hty
      cases hf
      exact W.aret hx hb (hr.trans hty) (Or.inl ⟨_, rfl⟩) (Or.inl rfl) (fun t ht hWm => ⟨rfl, by rw [ht]; exact hW, hS.F ht⟩) hS.2.2 hd
    · cases hf
  case return_ =>
    obtain ⟨hn, hd, hv⟩ := x_ok_spec hok (by intro z; cases z) (by intro _ _ _ _ z; cases z)
    simp only [x_fun, x_retV] at hf
    split at hf
    · rename_i hty
      cases hf
      exact W.vret hx hb (hr.trans hty) (fun t ht hWm => ⟨rfl, by rw [ht]; exact hW, hS.F ht⟩) hS.2.2 hd
    · cases hf
  all_goals exact absurd hf (x_noret (by intro z; cases z) (by intro z; cases z) (by intro z; cases z) (by intro z; cases z))
theorem x_lgsl (g : XG) (as : List Value) : (lg_sl (as.map (x_cv g))).length = (as.flatMap x_exp).length := by
  induction as with
  | nil => rfl
  | cons v as ih =>
    have e1 : lg_sl (List.map (x_cv g) (v :: as)) = (if (x_cv g v).category = 2 then [.val (x_cv g v), .second] else [.val (x_cv g v)]) ++ lg_sl (as.map (x_cv g)) := by simp [lg_sl]
    rw [e1, List.length_append, ih, List.flatMap_cons, List.length_append, x_cat]
    unfold x_exp
    split <;> simp
theorem x_largs (g : XG) (N : Nat) : ∀ (as : List Value) (k i : Nat) (v : Value), (as.flatMap x_exp ++ List.replicate N none)[i]? = some (some v) → (k + i, x_cv g v) ∈ lv_args k (as.map (x_cv g))
  | [], k, i, v, h => by
    simp only [List.flatMap_nil, List.nil_append, List.getElem?_replicate] at h
    split at h <;> cases h
  | u :: as, k, i, v, h => by
    rw [List.flatMap_cons, List.append_assoc] at h
    simp only [List.map_cons, lv_args, x_cat]
    by_cases hc : u.category = 2
    · rw [show x_exp u = [some u, none] from if_pos hc] at h
      rw [if_pos hc]
      match i, h with
      | 0, h =>
        simp at h
        subst h
        exact List.mem_cons_self
      | 1, h => simp at h
      | i + 2, h =>
        simp at h
        have h2 := x_largs g N as (k + 2) i v (by simpa using h)
        rw [show k + (i + 2) = k + 2 + i by omega]
        exact List.mem_cons_of_mem _ h2
    · rw [show x_exp u = [some u] from if_neg hc] at h
      rw [if_neg hc]
      match i, h with
      | 0, h =>
        simp at h
        subst h
        exact List.mem_cons_self
      | i + 1, h =>
        simp at h
        have h2 := x_largs g N as (k + 1) i v (by simpa using h)
        rw [show k + (i + 1) = k + 1 + i by omega]
        exact List.mem_cons_of_mem _ h2
theorem x_LR_ent (g : XG) (as : List Value) (n : Nat) (h : (as.flatMap x_exp).length ≤ n) : x_LR g ((lg_sl (as.map (x_cv g)) ++ List.replicate (n - (lg_sl (as.map (x_cv g))).length) Slot.unset).toArray) (x_ent as n) := by
  have h1 := lv_entry (as.map (x_cv g)) (n := n) (by rw [x_lgsl]; exact h)
  refine ⟨?_, h1.2.1, fun i v hv => ?_⟩
  · rw [h1.1]
    unfold x_ent
    rw [List.length_append, List.length_replicate]
    omega
  · have h2 := x_largs g _ as 0 i v hv
    rw [Nat.zero_add] at h2
    exact h1.2.2 (i, x_cv g v) h2
theorem x_ent_len (as : List Value) (n : Nat) (h : (as.flatMap x_exp).length ≤ n) : (x_ent as n).length = n := by
  unfold x_ent
  rw [List.length_append, List.length_replicate]
  omega
end XSound
set_option maxHeartbeats 4000000 in
theorem x_sound (l : Launch) (D : va_G) (g : XG) (X : XX) : ∀ (d μ : Nat) (as : List Value) (h : XH) (r : Option Value) (h' : XH), x_ev X xT d μ as h r h' → x_Met l D g X d μ as h r h' := by
  intro d
  induction d with
  | zero => intro μ as h r h' he; exact he.elim
  | succ d IH =>
    intro μ as h r h' he
    obtain ⟨M, n, hM, hent, hrun⟩ := he
    obtain ⟨hok, hokM⟩ := xT_at hM
    obtain ⟨pp, hpp, w1, w2, w3, w4, w5, w6⟩ := x_okM_inv hokM
    have hcm : ∀ μ as h r h', x_ev X xT d μ as h r h' → h.length ≤ h'.length ∧ x_ss h ≤ x_ss h' := by
      intro μ as h r h' he
      obtain ⟨_, -, h1, h2, -⟩ := IH μ as h r h' he
      exact ⟨h1, h2⟩
    obtain ⟨m1, m2⟩ := x_run_mono hcm _ _ _ _ _ hrun
    refine ⟨M, hM, m1, m2, ?_⟩
    refine va_MetF (cc := M.2.1) (maxL := M.2.2.1) (ret := M.2.2.2.1) w5 rfl ?_
    intro p e s m args below meth c s₁ B hml hv
    obtain ⟨rfl, hWd, hK, hRO, hNW⟩ := hv
    have hts0 := atoms_spec (ws := x_ws M) B.pre
    have hts : ∀ w ∈ lw_gd, w.before (as.map (x_cv g)).toArray s = true := fun w hw => hts0 w (List.mem_cons_of_mem _ hw)
    have hown : s.vm.findClass M.1.cls = some m.cls := findClass_of_methodNamed B.named
    have hin : M.1.name = "<init>" → meth.name = "<init>" := fun h => (name_of_methodNamed B.named B.method).1.trans h
    rw [lg_entry_eq]
    have hS : va_S (x_A g) s.heap s.heap [] := va_S.rf
    have key := x_frame (l := l) (below := below) (Q := MQ below (x_Qc D g r h') (as.map (x_cv g)).toArray s (h'.length - h.length) (x_ss h' - x_ss h) (x_A g)) (R := (headSpec (x_ws M) (x_rm (d + 1) (h'.length - h.length) (x_ss h' - x_ss h))).room) (e := e) (k0 := h.length) (s0 := x_ss h) IH (⟨B.exec, B.bytes, hml, hown, hts, hK, hRO, hNW, hin⟩ : x_Ctx p s m (as.map (x_cv g)).toArray meth c M D g X) ⟨Nat.le_refl _, Nat.le_refl _⟩ hok ⟨Nat.le_refl _, Nat.le_refl _⟩ (fun pc e0 L st hk hf H locs ls hW hS => x_rets B.exec B.bytes B.returns B.notSynchronized hk hf hW hS) n 0 (x_ent as M.2.2.1) [] h hrun s.heap [] _ hWd hS (x_LR_ent g as M.2.2.1 hent) (x_ent_len as _ hent) (Nat.le_refl _) (Nat.le_refl _)
    rw [Nat.sub_self, Nat.sub_self] at key
    exact key
