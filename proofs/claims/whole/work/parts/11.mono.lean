/-! what a step keeps: the number of locals; the heap only grows -/
section XMono
variable {X : XX} {M : XM} {pc : Nat} {e : XE} {L : XL} {st : List Value} {h : XH} {q : Nat × XL × List Value × XH}
theorem x_st1_len {L L' : XL} {i : Nat} {v : Value} (h : x_st1 L i v = some L') : L'.length = L.length := by
  unfold x_st1 at h
  split at h
  · cases h; simp [x_clr_len]
  · cases h
theorem x_st2_len {L L' : XL} {i : Nat} {v : Value} (h : x_st2 L i v = some L') : L'.length = L.length := by
  unfold x_st2 at h
  split at h
  · cases h; simp [x_clr_len]
  · cases h
def x_gr (L : XL) (h : XH) (q : Nat × XL × List Value × XH) : Prop := q.2.1.length = L.length ∧ h.length ≤ q.2.2.2.length ∧ x_ss h ≤ x_ss q.2.2.2
theorem x_gr_nx {n : Nat} {o : Option (List Value)} (hf : x_nx n L h o = some (.inl q)) : x_gr L h q := by
  obtain ⟨st', -, h2⟩ := x_nx_inv hf
  cases h2
  exact ⟨rfl, Nat.le_refl _, Nat.le_refl _⟩
theorem x_gr_cI {n i : Nat} (hf : x_cI n L i st h = some (.inl q)) : x_gr L h q := by
  obtain ⟨x, r, L', -, h1, h2⟩ := x_cI_inv hf
  cases h2
  exact ⟨x_st1_len h1, Nat.le_refl _, Nat.le_refl _⟩
theorem x_gr_cL {n i : Nat} (hf : x_cL n L i st h = some (.inl q)) : x_gr L h q := by
  obtain ⟨x, r, L', -, h1, h2⟩ := x_cL_inv hf
  cases h2
  exact ⟨x_st2_len h1, Nat.le_refl _, Nat.le_refl _⟩
theorem x_gr_cA {n i : Nat} (hf : x_cA n L i st h = some (.inl q)) : x_gr L h q := by
  rcases x_cA_inv hf with ⟨x, r, L', -, h1, h2⟩ | ⟨r, L', -, h1, h2⟩
  · cases h2
    exact ⟨x_st1_len h1, Nat.le_refl _, Nat.le_refl _⟩
  · cases h2
    exact ⟨x_st1_len h1, Nat.le_refl _, Nat.le_refl _⟩
theorem x_gr_eq {n : Nat} {st' : List Value} (hf : (some (.inl (n, L, st', h)) : Option XO) = some (.inl q)) : x_gr L h q := by
  cases hf
  exact ⟨rfl, Nat.le_refl _, Nat.le_refl _⟩
theorem x_gr_set {n a : Nat} {st' : List Value} {e e' : va_E} (ha : h[a]? = some e) (he : x_sse e' = x_sse e) (hf : (Sum.inl q : XO) = .inl (n, L, st', h.set a e')) : x_gr L h q := by
  cases hf
  exact ⟨rfl, by simp, Nat.le_of_eq (x_ss_set ha he).symm⟩
theorem x_gr_app {n : Nat} {st' : List Value} {e' : va_E} (hf : (Sum.inl q : XO) = .inl (n, L, st', h ++ [e'])) : x_gr L h q := by
  cases hf
  exact ⟨rfl, by simp, by show x_ss h ≤ x_ss (h ++ [e']); rw [x_ss_app]; omega⟩
theorem x_gr_same {n : Nat} {st' : List Value} (hf : (Sum.inl q : XO) = .inl (n, L, st', h)) : x_gr L h q := by
  cases hf
  exact ⟨rfl, Nat.le_refl _, Nat.le_refl _⟩
set_option maxHeartbeats 4000000 in
theorem x_mono (hf : x_fun X M pc e L st h = some (.inl q)) : x_gr L h q := by
  obtain ⟨ins, n, a, b, ci, pos⟩ := e
  cases ins
  case iload => exact x_gr_nx hf
  case iload_n => exact x_gr_nx hf
  case lload => exact x_gr_nx hf
  case lload_n => exact x_gr_nx hf
  case aload => exact x_gr_nx hf
  case aload_n => exact x_gr_nx hf
  case iadd => exact x_gr_nx hf
  case isub => exact x_gr_nx hf
  case imul => exact x_gr_nx hf
  case iand => exact x_gr_nx hf
  case ior => exact x_gr_nx hf
  case ixor => exact x_gr_nx hf
  case ishl => exact x_gr_nx hf
  case ishr => exact x_gr_nx hf
  case iushr => exact x_gr_nx hf
  case idiv => exact x_gr_nx hf
  case irem => exact x_gr_nx hf
  case ineg => exact x_gr_nx hf
  case i2l => exact x_gr_nx hf
  case i2b => exact x_gr_nx hf
  case l2i => exact x_gr_nx hf
  case ladd => exact x_gr_nx hf
  case lmul => exact x_gr_nx hf
  case ldiv => exact x_gr_nx hf
  case lrem => exact x_gr_nx hf
  case dup => exact x_gr_nx hf
  case dup2 => exact x_gr_nx hf
  case pop => exact x_gr_nx hf
  case aconst_null => exact x_gr_eq hf
  case iconst => exact x_gr_eq hf
  case bipush => exact x_gr_eq hf
  case sipush => exact x_gr_eq hf
  case lconst => exact x_gr_eq hf
  case ldc => exact x_gr_eq hf
  case ldc_w => exact x_gr_eq hf
  case ldc2_w => exact x_gr_eq hf
  case goto => exact x_gr_eq hf
  case getstatic => exact x_gr_eq hf
  case istore => exact x_gr_cI hf
  case istore_n => exact x_gr_cI hf
  case lstore => exact x_gr_cL hf
  case lstore_n => exact x_gr_cL hf
  case astore => exact x_gr_cA hf
  case astore_n => exact x_gr_cA hf
  case iinc =>
    obtain ⟨x, L', -, h1, h2⟩ := x_inc_inv hf
    cases h2
    exact ⟨x_st1_len h1, Nat.le_refl _, Nat.le_refl _⟩
  case getfield =>
    obtain ⟨_, _, _, _, -, -, -, h2⟩ := x_get_inv hf
    exact x_gr_same h2
  case putfield =>
    obtain ⟨_, _, _, _, _, -, h1, -, -, -, -, h2⟩ := x_put_inv hf
    exact x_gr_set h1 (by simp [x_sse]) h2
  case iaload =>
    obtain ⟨_, _, _, _, -, h2, -⟩ := x_iald_inv hf
    exact x_gr_same h2
  case iastore =>
    obtain ⟨_, _, _, _, _, _, -, h1, -, h2⟩ := x_iast_inv hf
    exact x_gr_set h1 (by rfl) h2
  case laload =>
    obtain ⟨_, _, _, _, _, -, h1, -, h2⟩ := x_lald_inv hf
    exact x_gr_same h2
  case lastore =>
    obtain ⟨_, _, _, _, _, _, -, h1, -, h2⟩ := x_last_inv hf
    exact x_gr_set h1 (by rfl) h2
  case aaload =>
    obtain ⟨_, _, _, _, _, _, -, h1, -, -, h2⟩ := x_aald_inv hf
    exact x_gr_same h2
  case aastore =>
    obtain ⟨_, _, _, _, _, _, _, _, _, -, h1, -, -, -, h2⟩ := x_aast_inv hf
    exact x_gr_set h1 (by rfl) h2
  case arraylength =>
    obtain ⟨_, _, _, -, h2, -⟩ := x_alen_inv hf
    exact x_gr_same h2
  case new =>
    obtain ⟨_, -, -, h2⟩ := x_newo_inv hf
    exact x_gr_app h2
  case newarray t =>
    cases t
    case int =>
      simp only [x_fun] at hf
      obtain ⟨_, _, -, -, -, -, h2⟩ := x_newa_inv hf
      exact x_gr_app h2
    case long =>
      simp only [x_fun] at hf
      obtain ⟨_, _, -, -, -, -, h2⟩ := x_newa_inv hf
      exact x_gr_app h2
    all_goals exact absurd hf (fun z => by cases z)
  case anewarray idx =>
    change (if (x_acl a).isNone = true then none else x_newa n L st h _) = _ at hf
    split at hf
    · cases hf
    · obtain ⟨_, _, -, -, -, -, h2⟩ := x_newa_inv hf
      exact x_gr_app h2
  case invokestatic =>
    change (if a = 9999 then x_cpy n L st h else x_call a b st) = _ at hf
    split at hf
    · obtain ⟨_, _, _, _, _, _, _, _, _, _, -, -, h1, -, -, -, -, -, -, h2⟩ := x_cpy_inv hf
      exact x_gr_set h1 (by rfl) h2
    · obtain ⟨-, -, h2⟩ := x_call_inv hf
      cases h2
  case invokespecial =>
    change (if a = 9998 then x_oin n L st h else x_callI a b st) = _ at hf
    split at hf
    · obtain ⟨_, _, -, -, h2⟩ := x_oin_inv hf
      exact x_gr_same h2
    · obtain ⟨_, -, h3⟩ := x_callI_inv hf
      obtain ⟨-, -, h2⟩ := x_call_inv h3
      cases h2
  case invokevirtual =>
    obtain ⟨_, _, -, -, h3⟩ := x_callV_inv hf
    obtain ⟨-, -, h2⟩ := x_call_inv h3
    cases h2
  case lcmp =>
    simp only [x_fun] at hf
    split at hf
    · exact x_gr_eq hf
    · cases hf
  case ifCond =>
    simp only [x_fun] at hf
    split at hf
    · exact x_gr_eq hf
    · cases hf
  case if_icmp =>
    simp only [x_fun] at hf
    split at hf
    · exact x_gr_eq hf
    · cases hf
  case ifnull =>
    simp only [x_fun] at hf
    split at hf
    · exact x_gr_eq hf
    · exact x_gr_eq hf
    · cases hf
  case ifnonnull =>
    simp only [x_fun] at hf
    split at hf
    · exact x_gr_eq hf
    · exact x_gr_eq hf
    · cases hf
  case tableswitch =>
    simp only [x_fun] at hf
    split at hf
    · split at hf
      · exact x_gr_eq hf
      · cases hf
    · cases hf
  case ireturn =>
    simp only [x_fun, x_ret] at hf
    split at hf
    · split at hf <;> cases hf
    · cases hf
  case lreturn =>
    simp only [x_fun, x_retL] at hf
    split at hf <;> cases hf
  case areturn =>
    simp only [x_fun, x_retA] at hf
    split at hf <;> cases hf
  case return_ =>
    simp only [x_fun, x_retV] at hf
    split at hf <;> cases hf
  all_goals exact absurd hf (fun z => by cases z)
end XMono
