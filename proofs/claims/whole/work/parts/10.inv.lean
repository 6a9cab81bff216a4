/-! ONE STEP OF OUR MACHINE IS STEPS OF THE MACHINE -/
def x_Ctx (p : Program) (s : State) (m : MethodId) (args : Array Value) (meth : Method) (c : Code) (M : XM) (D : va_G) (g : XG) (X : XX) : Prop :=
  p.tables.exec = Jvm.exec ∧ c.code = M.2.1 ∧ c.maxLocals = M.2.2.1 ∧ s.vm.findClass M.1.cls = some m.cls ∧ (∀ w ∈ lw_gd, w.before args s = true) ∧ va_K D vwCl (x_tys g) s ∧ x_RO g X s s.heap ∧ x_NW s ∧ (M.1.name = "<init>" → meth.name = "<init>")
theorem x_ad_0 (g : XG) : x_ad g 1000 = g.2.1 := by simp [x_ad]
theorem x_ad_1 (g : XG) : x_ad g 1001 = g.2.2.1 := by simp [x_ad]
theorem x_cv_rf (g : XG) (r : Option Nat) : x_cv g (va_rf r) = va_rf (r.map (x_ad g)) := by cases r <;> rfl
theorem x_fits {g : XG} {ty : FieldType} {v : Value} (h : fits ty v = true) : fits ty (x_cv g v) = true := by
  cases v <;> first | exact h | (cases ty <;> first | exact h | rfl | cases h)
theorem x_narrow {g : XG} {ty : FieldType} {v : Value} (h : fits ty v = true) (ht : ty = .int ∨ ty = .long ∨ ty = .boolean ∨ (∃ n, ty = .object n) ∨ ∃ t, ty = .array t) : narrow ty (x_cv g v) = x_cv g v := by
  rcases ht with rfl | rfl | rfl | ⟨n, rfl⟩ | ⟨t, rfl⟩
  · cases v <;> first | rfl | cases h
  · cases v <;> first | rfl | cases h
  · cases v with
    | int x =>
      simp only [fits, Bool.or_eq_true, beq_iff_eq] at h
      rcases h with rfl | rfl <;> rfl
    | _ => cases h
  · cases v <;> first | rfl | cases h
  · cases v <;> first | rfl | cases h
theorem x_fts_kind {ci k : Nat} {ty : FieldType} (h : x_ft ci k = some ty) : ty = .int ∨ ty = .long ∨ ty = .boolean ∨ (∃ n, ty = .object n) ∨ ∃ t, ty = .array t := by
  have key : ∀ l ∈ x_fts, ∀ ty ∈ l, (ty = .int ∨ ty = .long ∨ ty = .boolean ∨ (∃ n, ty = .object n) ∨ ∃ t, ty = .array t) := by
    simp [x_fts]
  unfold x_ft at h
  split at h
  · rename_i l hl
    exact key l (List.mem_of_getElem? hl) ty (List.mem_of_getElem? h)
  · cases h
theorem x_okF_inv {own : String} {idx ci k pos : Nat} {put : Bool} (h : x_okF own idx ci k pos put = true) : ∃ C T N, vwCl[ci]? = some (C, T, N) ∧ k < N ∧ Jvm.Cond.fieldLink own idx (T k).1 (T k).2.1 (T k).2.2.1 ∈ lw_gd ∧ (put = true → (T k).2.2.2 = true → (T k).1 = own) := by
  unfold x_okF at h
  split at h
  · rename_i q hq
    simp only [Bool.and_eq_true, decide_eq_true_eq, Bool.or_eq_true, Bool.not_eq_true'] at h
    obtain ⟨h1, h2, h3⟩ := h
    refine ⟨q.1, q.2.1, q.2.2, hq, h1, x_lk_in h2, fun hp hf => ?_⟩
    rcases h3 with h3 | h3 | h3
    · rw [hp] at h3; cases h3
    · rw [hf] at h3; cases h3
    · exact h3
  · cases h
theorem x_get_inv {n : Nat} {L : XL} {st : List Value} {h : XH} {ci k : Nat} {q : XO} (hf : x_get n L st h ci k = some q) : ∃ a r fs v, st = .ref a :: r ∧ h[a]? = some (.inr (ci, fs)) ∧ fs[k]? = some v ∧ q = .inl (n, L, v :: r, h) := by
  unfold x_get at hf
  split at hf
  · split at hf
    · split at hf
      · rename_i a r c fs ha hc
        obtain ⟨st', h1, h2⟩ := x_nx_inv hf
        subst hc
        cases hv : fs[k]? with
        | none => rw [hv] at h1; cases h1
        | some v =>
          rw [hv] at h1
          cases h1
          exact ⟨_, _, fs, v, rfl, ha, hv, h2⟩
      · cases hf
    · cases hf
  · cases hf
theorem x_put_inv {i : Bool} {n : Nat} {L : XL} {st : List Value} {h : XH} {ci k : Nat} {q : XO} (hf : x_put i n L st h ci k = some q) : ∃ a r fs v ty, st = v :: .ref a :: r ∧ h[a]? = some (.inr (ci, fs)) ∧ x_ft ci k = some ty ∧ k < fs.length ∧ fits ty v = true ∧ (x_fin ci k = true → i = true) ∧ q = .inl (n, L, r, h.set a (.inr (ci, fs.set k v))) := by
  unfold x_put at hf
  split at hf
  · split at hf
    · split at hf
      · split at hf
        · rename_i hc
          obtain ⟨rfl, h2, h3, h4⟩ := hc
          cases hf
          exact ⟨_, _, _, _, _, rfl, by assumption, by assumption, h2, h3, h4, rfl⟩
        · cases hf
      · cases hf
    · cases hf
  · cases hf
theorem x_iald_inv {X : XX} {n : Nat} {L : XL} {st : List Value} {h : XH} {q : XO} (hf : x_iald X n L st h = some q) : ∃ i a r x, st = .int i :: .ref a :: r ∧ q = .inl (n, L, .int x :: r, h) ∧ ((a = 1000 ∧ ¬ (i < 0 ∨ X.1 ≤ i.toNatClampNeg) ∧ x = X.2 i.toNatClampNeg) ∨ (a = 1001 ∧ ¬ (i < 0 ∨ 6 ≤ i.toNatClampNeg) ∧ x = x_let i.toNatClampNeg) ∨ ∃ m f, h[a]? = some (.inl (0, m, .inl f)) ∧ ¬ (i < 0 ∨ m ≤ i.toNatClampNeg) ∧ x = f i.toNatClampNeg) := by
  unfold x_iald at hf
  split at hf
  · rename_i i a r
    split at hf
    · rename_i qq hq
      split at hf
      · cases hf
      · rename_i hi
        cases hf
        refine ⟨i, a, r, _, rfl, rfl, ?_⟩
        unfold x_ro at hq
        split at hq
        · rename_i ha
          cases hq
          exact Or.inl ⟨ha, hi, rfl⟩
        · split at hq
          · rename_i ha
            cases hq
            exact Or.inr (Or.inl ⟨ha, hi, rfl⟩)
          · cases hq
    · split at hf
      · split at hf
        · cases hf
        · rename_i m f hm hi
          cases hf
          exact ⟨i, a, r, _, rfl, rfl, Or.inr (Or.inr ⟨m, f, hm, hi, rfl⟩)⟩
      · cases hf
  · cases hf
theorem x_alen_inv {X : XX} {n : Nat} {L : XL} {st : List Value} {h : XH} {q : XO} (hf : x_alen X n L st h = some q) : ∃ a r x, st = .ref a :: r ∧ q = .inl (n, L, .int (Int32.ofNat x) :: r, h) ∧ ((a = 1000 ∧ x = X.1) ∨ (a = 1001 ∧ x = 6) ∨ ∃ t y, h[a]? = some (.inl (t, x, y)) ∧ t < 5) := by
  unfold x_alen at hf
  split at hf
  · rename_i a r
    split at hf
    · rename_i qq hq
      cases hf
      refine ⟨a, r, _, rfl, rfl, ?_⟩
      unfold x_ro at hq
      split at hq
      · rename_i ha
        cases hq
        exact Or.inl ⟨ha, rfl⟩
      · split at hq
        · rename_i ha
          cases hq
          exact Or.inr (Or.inl ⟨ha, rfl⟩)
        · cases hq
    · split at hf
      · split at hf
        · rename_i t m y hm ht
          cases hf
          exact ⟨a, r, m, rfl, rfl, Or.inr (Or.inr ⟨t, y, hm, ht⟩)⟩
        · cases hf
      · cases hf
  · cases hf
theorem x_iast_inv {n : Nat} {L : XL} {st : List Value} {h : XH} {q : XO} (hf : x_iast n L st h = some q) : ∃ x i a r m f, st = .int x :: .int i :: .ref a :: r ∧ h[a]? = some (.inl (0, m, .inl f)) ∧ ¬ (i < 0 ∨ m ≤ i.toNatClampNeg) ∧ q = .inl (n, L, r, h.set a (.inl (0, m, .inl (upd f i.toNatClampNeg x)))) := by
  unfold x_iast at hf
  split at hf
  · split at hf
    · split at hf
      · cases hf
      · rename_i hi
        cases hf
        exact ⟨_, _, _, _, _, _, rfl, by assumption, hi, rfl⟩
    · cases hf
  · cases hf
theorem x_lald_inv {n : Nat} {L : XL} {st : List Value} {h : XH} {q : XO} (hf : x_lald n L st h = some q) : ∃ i a r m f, st = .int i :: .ref a :: r ∧ h[a]? = some (.inl (1, m, .inr (.inl f))) ∧ ¬ (i < 0 ∨ m ≤ i.toNatClampNeg) ∧ q = .inl (n, L, .long (f i.toNatClampNeg) :: r, h) := by
  unfold x_lald at hf
  split at hf
  · split at hf
    · split at hf
      · cases hf
      · rename_i hi
        cases hf
        exact ⟨_, _, _, _, _, rfl, by assumption, hi, rfl⟩
    · cases hf
  · cases hf
theorem x_last_inv {n : Nat} {L : XL} {st : List Value} {h : XH} {q : XO} (hf : x_last n L st h = some q) : ∃ x i a r m f, st = .long x :: .int i :: .ref a :: r ∧ h[a]? = some (.inl (1, m, .inr (.inl f))) ∧ ¬ (i < 0 ∨ m ≤ i.toNatClampNeg) ∧ q = .inl (n, L, r, h.set a (.inl (1, m, .inr (.inl (vp_updL f i.toNatClampNeg x))))) := by
  unfold x_last at hf
  split at hf
  · split at hf
    · split at hf
      · cases hf
      · rename_i hi
        cases hf
        exact ⟨_, _, _, _, _, _, rfl, by assumption, hi, rfl⟩
    · cases hf
  · cases hf
theorem x_aald_inv {n : Nat} {L : XL} {st : List Value} {h : XH} {q : XO} (hf : x_aald n L st h = some q) : ∃ i a r t m f, st = .int i :: .ref a :: r ∧ h[a]? = some (.inl (t, m, .inr (.inr (.inr (.inr f))))) ∧ ¬ (i < 0 ∨ m ≤ i.toNatClampNeg) ∧ (∃ c, x_acl t = some c) ∧ q = .inl (n, L, va_rf (f i.toNatClampNeg) :: r, h) := by
  unfold x_aald at hf
  split at hf
  · split at hf
    · split at hf
      · cases hf
      · rename_i t _ _ _ hi
        cases hf
        refine ⟨_, _, _, t, _, _, rfl, by assumption, fun z => hi (z.elim Or.inl (fun z => Or.inr (Or.inl z))), ?_, rfl⟩
        cases hc : x_acl t with
        | none => exact absurd (Or.inr (Or.inr (by rw [hc]; rfl))) hi
        | some c => exact ⟨c, rfl⟩
    · cases hf
  · cases hf
theorem x_aast_inv {n : Nat} {L : XL} {st : List Value} {h : XH} {q : XO} (hf : x_aast n L st h = some q) : ∃ v i a r t m f c vs, st = .ref v :: .int i :: .ref a :: r ∧ h[a]? = some (.inl (t, m, .inr (.inr (.inr (.inr f))))) ∧ h[v]? = some (.inr (c, vs)) ∧ ¬ (i < 0 ∨ m ≤ i.toNatClampNeg) ∧ x_acl t = some c ∧ q = .inl (n, L, r, h.set a (.inl (t, m, .inr (.inr (.inr (.inr (va_up f i.toNatClampNeg (some v)))))))) := by
  unfold x_aast at hf
  split at hf
  · split at hf
    · split at hf
      · split at hf
        · cases hf
        · rename_i hi
          cases hf
          exact ⟨_, _, _, _, _, _, _, _, _, rfl, by assumption, by assumption, fun z => hi (z.elim Or.inl (fun z => Or.inr (Or.inl z))), Classical.byContradiction fun z => hi (Or.inr (Or.inr z)), rfl⟩
      · cases hf
    · cases hf
  · cases hf
theorem x_newa_inv {n : Nat} {L : XL} {st : List Value} {h : XH} {a0 : Nat → va_E} {q : XO} (hf : x_newa n L st h a0 = some q) : ∃ i r, st = .int i :: r ∧ ¬ i < 0 ∧ i.toNatClampNeg ≤ 1000000 ∧ h.length < 1000 ∧ q = .inl (n, L, .ref h.length :: r, h ++ [a0 i.toNatClampNeg]) := by
  unfold x_newa at hf
  split at hf
  · split at hf
    · cases hf
    · rename_i i r hi
      cases hf
      exact ⟨i, r, rfl, fun z => hi (Or.inl z), Nat.not_lt.mp fun z => hi (Or.inr (Or.inl z)), Nat.not_le.mp fun z => hi (Or.inr (Or.inr z)), rfl⟩
  · cases hf
theorem x_newo_inv {n : Nat} {L : XL} {st : List Value} {h : XH} {ci : Nat} {q : XO} (hf : x_newo n L st h ci = some q) : ∃ l, x_fts[ci]? = some l ∧ h.length < 1000 ∧ q = .inl (n, L, .ref h.length :: st, h ++ [.inr (ci, l.map x_def)]) := by
  unfold x_newo at hf
  split at hf
  · split at hf
    · cases hf
    · rename_i l hl hi
      cases hf
      exact ⟨l, hl, Nat.not_le.mp hi, rfl⟩
  · cases hf
theorem x_cpy_inv {n : Nat} {L : XL} {st : List Value} {h : XH} {q : XO} (hf : x_cpy n L st h = some q) : ∃ k dp a1 sp a0 r m0 f m1 f1, st = .int k :: .int dp :: .ref a1 :: .int sp :: .ref a0 :: r ∧ h[a0]? = some (.inl (0, m0, .inl f)) ∧ h[a1]? = some (.inl (0, m1, .inl f1)) ∧ ¬ sp < 0 ∧ ¬ dp < 0 ∧ ¬ k < 0 ∧ sp.toNatClampNeg + k.toNatClampNeg ≤ m0 ∧ dp.toNatClampNeg + k.toNatClampNeg ≤ m1 ∧ (r.map fun v => v.category).sum ≤ 8 ∧ q = .inl (n, L, r, h.set a1 (.inl (0, m1, .inl (va_cpy f f1 sp.toNatClampNeg dp.toNatClampNeg k.toNatClampNeg)))) := by
  unfold x_cpy at hf
  split at hf
  · split at hf
    · split at hf
      · split at hf
        · cases hf
        · rename_i hi
          cases hf
          exact ⟨_, _, _, _, _, _, _, _, _, _, rfl, by assumption, by assumption, fun z => hi (Or.inl z), fun z => hi (Or.inr (Or.inl z)), fun z => hi (Or.inr (Or.inr (Or.inl z))), Nat.not_lt.mp fun z => hi (Or.inr (Or.inr (Or.inr (Or.inl z)))), Nat.not_lt.mp fun z => hi (Or.inr (Or.inr (Or.inr (Or.inr (Or.inl z))))), Nat.not_lt.mp fun z => hi (Or.inr (Or.inr (Or.inr (Or.inr (Or.inr z))))), rfl⟩
      · cases hf
    · cases hf
  · cases hf
theorem x_oin_inv {n : Nat} {L : XL} {st : List Value} {h : XH} {q : XO} (hf : x_oin n L st h = some q) : ∃ a r, st = .ref a :: r ∧ (r.map fun v => v.category).sum ≤ 8 ∧ q = .inl (n, L, r, h) := by
  unfold x_oin at hf
  split at hf
  · split at hf
    · cases hf
    · rename_i a r hi
      cases hf
      exact ⟨a, r, rfl, Nat.not_lt.mp hi, rfl⟩
  · cases hf
theorem x_call_inv {μ n : Nat} {st : List Value} {q : XO} (hf : x_call μ n st = some q) : ¬ st.length < n ∧ ((st.drop n).map fun v => v.category).sum ≤ 8 ∧ q = .inr (.inr (μ, (st.take n).reverse, st.drop n)) := by
  unfold x_call at hf
  split at hf
  · cases hf
  · rename_i hi
    cases hf
    exact ⟨fun z => hi (Or.inl z), Nat.not_lt.mp fun z => hi (Or.inr z), rfl⟩
theorem x_callV_inv {μ n ci : Nat} {st : List Value} {h : XH} {q : XO} (hf : x_callV μ n ci st h = some q) : ∃ a fs, st[n]? = some (.ref a) ∧ h[a]? = some (.inr (ci, fs)) ∧ x_call μ (n + 1) st = some q := by
  unfold x_callV at hf
  split at hf
  · split at hf
    · split at hf
      · rename_i he
        subst he
        exact ⟨_, _, by assumption, by assumption, hf⟩
      · cases hf
    · cases hf
  · cases hf
theorem x_callI_inv {μ n : Nat} {st : List Value} {q : XO} (hf : x_callI μ n st = some q) : ∃ a, st[n]? = some (.ref a) ∧ x_call μ (n + 1) st = some q := by
  unfold x_callI at hf
  split at hf
  · exact ⟨_, by assumption, hf⟩
  · cases hf
theorem x_dup_inv {st st' : List Value} (h : x_dup st = some st') : ∃ v r, st = v :: r ∧ v.category = 1 ∧ st' = v :: v :: r := by
  unfold x_dup at h
  split at h
  · split at h
    · rename_i v r hv
      cases h; exact ⟨v, r, rfl, hv, rfl⟩
    · cases h
  · cases h
theorem x_dup2_inv {st st' : List Value} (h : x_dup2 st = some st') : ∃ v y r, st = v :: y :: r ∧ v.category = 1 ∧ y.category = 1 ∧ st' = v :: y :: v :: y :: r := by
  unfold x_dup2 at h
  split at h
  · split at h
    · rename_i v y r hv
      cases h; exact ⟨v, y, r, rfl, hv.1, hv.2, rfl⟩
    · cases h
  · cases h
theorem x_pop_inv {st st' : List Value} (h : x_pop st = some st') : ∃ v, st = v :: st' ∧ v.category = 1 := by
  unfold x_pop at h
  split at h
  · split at h
    · rename_i v r hv
      cases h; exact ⟨v, rfl, hv⟩
    · cases h
  · cases h
theorem x_inc_inv {n : Nat} {L : XL} {st : List Value} {h : XH} {i : Nat} {k : Int} {q : XO} (hf : x_inc n L st h i k = some q) : ∃ x L', x_ld L i = some (.int x) ∧ x_st1 L i (.int (x + Int32.ofInt k)) = some L' ∧ q = .inl (n, L', st, h) := by
  unfold x_inc at hf
  split at hf
  · rename_i x hx
    obtain ⟨L', h1, h2⟩ := x_sx_inv hf
    exact ⟨x, L', hx, h1, h2⟩
  · cases hf
theorem x_tgt_inv {pc : Nat} {off : Int} {t : Nat} (h : x_tgt pc off = some t) : (pc : Int) + off = (t : Int) := by
  unfold x_tgt at h
  split at h
  · cases h
  · cases h
    omega
