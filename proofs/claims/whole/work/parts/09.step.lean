/-! what the tables say of the classes -/
def x_tyf : List (Nat → FieldType) := [tyX0, tyX1, tyX2, tyX3, tyX4, tyX5, tyX6, tyX7, tyX8, tyX9]
def x_CI (ci : Nat) (q : vw_C) : Prop := ∃ (ty : Nat → FieldType) (l : List FieldType), x_fts[ci]? = some l ∧ l.length = q.2.2 ∧ (∀ k, k < q.2.2 → l[k]? = some (ty k)) ∧ (∀ k, k < q.2.2 → parseFieldDescriptor (q.2.1 k).2.2.1 = some (ty k)) ∧ (∀ a, a < q.2.2 → ∀ b, b < q.2.2 → a ≠ b → (q.2.1 a).2.1 ≠ (q.2.1 b).2.1) ∧ (∀ w ∈ u_ws q.1 q.2.1 q.2.2, w ∈ lw_gd) ∧ Jvm.Cond.instantiable q.1 q.2.2 ∈ lw_gd ∧ Jvm.Cond.initialized q.1 ∈ lw_gd
set_option maxRecDepth 100000 in
theorem x_CI0 : x_CI 0 (RX0, TX0, 4) := ⟨tyX0, _, rfl, rfl, by decide +kernel, tyX0_ok, nmX0, by decide +kernel, by decide +kernel, by decide +kernel⟩
set_option maxRecDepth 100000 in
theorem x_CI1 : x_CI 1 (RX1, TX1, 4) := ⟨tyX1, _, rfl, rfl, by decide +kernel, tyX1_ok, nmX1, by decide +kernel, by decide +kernel, by decide +kernel⟩
set_option maxRecDepth 100000 in
theorem x_CI2 : x_CI 2 (RX2, TX2, 2) := ⟨tyX2, _, rfl, rfl, by decide +kernel, tyX2_ok, nmX2, by decide +kernel, by decide +kernel, by decide +kernel⟩
set_option maxRecDepth 100000 in
theorem x_CI3 : x_CI 3 (RX3, TX3, 5) := ⟨tyX3, _, rfl, rfl, by decide +kernel, tyX3_ok, nmX3, by decide +kernel, by decide +kernel, by decide +kernel⟩
set_option maxRecDepth 100000 in
theorem x_CI4 : x_CI 4 (RX4, TX4, 6) := ⟨tyX4, _, rfl, rfl, by decide +kernel, tyX4_ok, nmX4, by decide +kernel, by decide +kernel, by decide +kernel⟩
set_option maxRecDepth 100000 in
theorem x_CI5 : x_CI 5 (RX5, TX5, 4) := ⟨tyX5, _, rfl, rfl, by decide +kernel, tyX5_ok, nmX5, by decide +kernel, by decide +kernel, by decide +kernel⟩
set_option maxRecDepth 100000 in
theorem x_CI6 : x_CI 6 (RX6, TX6, 2) := ⟨tyX6, _, rfl, rfl, by decide +kernel, tyX6_ok, nmX6, by decide +kernel, by decide +kernel, by decide +kernel⟩
set_option maxRecDepth 100000 in
theorem x_CI7 : x_CI 7 (RX7, TX7, 1) := ⟨tyX7, _, rfl, rfl, by decide +kernel, tyX7_ok, nmX7, by decide +kernel, by decide +kernel, by decide +kernel⟩
set_option maxRecDepth 100000 in
theorem x_CI8 : x_CI 8 (RX8, TX8, 17) := ⟨tyX8, _, rfl, rfl, by decide +kernel, tyX8_ok, nmX8, by decide +kernel, by decide +kernel, by decide +kernel⟩
set_option maxRecDepth 100000 in
theorem x_CI9 : x_CI 9 (RX9, TX9, 33) := ⟨tyX9, _, rfl, rfl, by decide +kernel, tyX9_ok, nmX9, by decide +kernel, by decide +kernel, by decide +kernel⟩
theorem x_CI_at {ci : Nat} {q : vw_C} (h : vwCl[ci]? = some q) : x_CI ci q := by
  match ci, h with
  | 0, h => cases h; exact x_CI0
  | 1, h => cases h; exact x_CI1
  | 2, h => cases h; exact x_CI2
  | 3, h => cases h; exact x_CI3
  | 4, h => cases h; exact x_CI4
  | 5, h => cases h; exact x_CI5
  | 6, h => cases h; exact x_CI6
  | 7, h => cases h; exact x_CI7
  | 8, h => cases h; exact x_CI8
  | 9, h => cases h; exact x_CI9
  | k + 10, h => simp [vwCl] at h
set_option maxRecDepth 100000 in
theorem x_wint : Jvm.Cond.arrayClass .int ∈ lw_gd := by decide +kernel
set_option maxRecDepth 100000 in
theorem x_wlong : Jvm.Cond.arrayClass .long ∈ lw_gd := by decide +kernel
set_option maxRecDepth 100000 in
theorem x_wnat : Jvm.Cond.native arraycopyName ∈ lw_gd := by decide +kernel
set_option maxRecDepth 100000 in
theorem x_wsta : Jvm.Cond.static arraycopyName ∈ lw_gd := by decide +kernel
set_option maxRecDepth 100000 in
theorem x_wsys : Jvm.Cond.initialized "java/lang/System" ∈ lw_gd := by decide +kernel
set_option maxRecDepth 100000 in
theorem x_woin : Jvm.Cond.instanceMethod objectInit ∈ lw_gd := by decide +kernel
set_option maxRecDepth 100000 in
theorem x_woco : Jvm.Cond.code objectInit ⟨#[0xb1]⟩ 1 none ∈ lw_gd := by decide +kernel
/-! inversions -/
theorem x_nx_inv {n : Nat} {L : XL} {h : XH} {o : Option (List Value)} {q : XO} (hf : x_nx n L h o = some q) : ∃ st, o = some st ∧ q = .inl (n, L, st, h) := by
  unfold x_nx at hf
  split at hf
  · cases hf; exact ⟨_, rfl, rfl⟩
  · cases hf
theorem x_sx_inv {n : Nat} {st : List Value} {h : XH} {o : Option XL} {q : XO} (hf : x_sx n st h o = some q) : ∃ L, o = some L ∧ q = .inl (n, L, st, h) := by
  unfold x_sx at hf
  split at hf
  · cases hf; exact ⟨_, rfl, rfl⟩
  · cases hf
theorem x_bI_inv {f : Int32 → Int32 → Int32} {st st' : List Value} (h : x_bI f st = some st') : ∃ x y r, st = .int y :: .int x :: r ∧ st' = .int (f x y) :: r := by
  unfold x_bI at h
  split at h
  · cases h; exact ⟨_, _, _, rfl, rfl⟩
  · cases h
theorem x_dI_inv {f : Int32 → Int32 → Int32} {st st' : List Value} (h : x_dI f st = some st') : ∃ x y r, st = .int y :: .int x :: r ∧ st' = .int (f x y) :: r ∧ ¬ y = 0 := by
  unfold x_dI at h
  split at h
  · split at h
    · cases h
    · rename_i hy
      cases h; exact ⟨_, _, _, rfl, rfl, hy⟩
  · cases h
theorem x_bL_inv {f : Int64 → Int64 → Int64} {st st' : List Value} (h : x_bL f st = some st') : ∃ x y r, st = .long y :: .long x :: r ∧ st' = .long (f x y) :: r := by
  unfold x_bL at h
  split at h
  · cases h; exact ⟨_, _, _, rfl, rfl⟩
  · cases h
theorem x_dL_inv {f : Int64 → Int64 → Int64} {st st' : List Value} (h : x_dL f st = some st') : ∃ x y r, st = .long y :: .long x :: r ∧ st' = .long (f x y) :: r ∧ ¬ y = 0 := by
  unfold x_dL at h
  split at h
  · split at h
    · cases h
    · rename_i hy
      cases h; exact ⟨_, _, _, rfl, rfl, hy⟩
  · cases h
theorem x_uI_inv {f : Int32 → Value} {st st' : List Value} (h : x_uI f st = some st') : ∃ x r, st = .int x :: r ∧ st' = f x :: r := by
  unfold x_uI at h
  split at h
  · cases h; exact ⟨_, _, rfl, rfl⟩
  · cases h
theorem x_uL_inv {f : Int64 → Value} {st st' : List Value} (h : x_uL f st = some st') : ∃ x r, st = .long x :: r ∧ st' = f x :: r := by
  unfold x_uL at h
  split at h
  · cases h; exact ⟨_, _, rfl, rfl⟩
  · cases h
theorem x_lc_inv {p : Value → Bool} {L : XL} {i : Nat} {st st' : List Value} (h : x_lc p L i st = some st') : ∃ v, x_ld L i = some v ∧ p v = true ∧ st' = v :: st := by
  unfold x_lc at h
  split at h
  · split at h
    · rename_i v hv hp
      cases h; exact ⟨_, hv, hp, rfl⟩
    · cases h
  · cases h
theorem x_cI_inv {n : Nat} {L : XL} {i : Nat} {st : List Value} {h : XH} {q : XO} (hf : x_cI n L i st h = some q) : ∃ x r L', st = .int x :: r ∧ x_st1 L i (.int x) = some L' ∧ q = .inl (n, L', r, h) := by
  unfold x_cI at hf
  split at hf
  · obtain ⟨L', h1, h2⟩ := x_sx_inv hf
    exact ⟨_, _, L', rfl, h1, h2⟩
  · cases hf
theorem x_cL_inv {n : Nat} {L : XL} {i : Nat} {st : List Value} {h : XH} {q : XO} (hf : x_cL n L i st h = some q) : ∃ x r L', st = .long x :: r ∧ x_st2 L i (.long x) = some L' ∧ q = .inl (n, L', r, h) := by
  unfold x_cL at hf
  split at hf
  · obtain ⟨L', h1, h2⟩ := x_sx_inv hf
    exact ⟨_, _, L', rfl, h1, h2⟩
  · cases hf
theorem x_cA_inv {n : Nat} {L : XL} {i : Nat} {st : List Value} {h : XH} {q : XO} (hf : x_cA n L i st h = some q) : (∃ x r L', st = .ref x :: r ∧ x_st1 L i (.ref x) = some L' ∧ q = .inl (n, L', r, h)) ∨ (∃ r L', st = .null :: r ∧ x_st1 L i .null = some L' ∧ q = .inl (n, L', r, h)) := by
  unfold x_cA at hf
  split at hf
  · obtain ⟨L', h1, h2⟩ := x_sx_inv hf
    exact Or.inl ⟨_, _, L', rfl, h1, h2⟩
  · obtain ⟨L', h1, h2⟩ := x_sx_inv hf
    exact Or.inr ⟨_, L', rfl, h1, h2⟩
  · cases hf
theorem x_st1_lt {L L' : XL} {i : Nat} {v : Value} (h : x_st1 L i v = some L') : i < L.length := by
  unfold x_st1 at h
  split at h
  · assumption
  · cases h
theorem x_st2_lt {L L' : XL} {i : Nat} {v : Value} (h : x_st2 L i v = some L') : i + 1 < L.length := by
  unfold x_st2 at h
  split at h
  · assumption
  · cases h
theorem x_ok_spec {M : XM} {pc n a b ci pos : Nat} {ins : Instr} (h : x_okE M pc (ins, n, a, b, ci, pos) = true) (h1 : ins ≠ .nop) (h2 : ∀ d lo hi o, ins ≠ .tableswitch d lo hi o) : n = pc + x_len ins ∧ decode M.2.1 pc = .ok (ins, x_len ins) ∧ x_okX M pc (ins, n, a, b, ci, pos) = true := by
  unfold x_okE at h
  simp only [Bool.or_eq_true, decide_eq_true_eq, h1, false_or, Bool.and_eq_true] at h
  obtain ⟨h3, h4⟩ := h
  exact ⟨h3.1, h3.2, h4⟩
theorem x_ok_sw {M : XM} {pc n a b ci pos : Nat} {d lo hi : Int} {o : Array Int} (h : x_okE M pc (.tableswitch d lo hi o, n, a, b, ci, pos) = true) : decode M.2.1 pc = .ok (.tableswitch d lo hi o, n - pc) := by
  unfold x_okE at h
  simp at h
  exact h.1
