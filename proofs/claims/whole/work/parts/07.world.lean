/-! the abstract heap on the machine's heap: cell i lies at z + i; two arrays that nobody writes lie below (the script, LETTERS) -/
abbrev XG : Type := Nat × Nat × Nat × (Nat → ClassId)
def x_ad (g : XG) (i : Nat) : Nat := if i < 1000 then g.1 + i else if i = 1000 then g.2.1 else g.2.2.1
def x_cv (g : XG) (v : Value) : Value := match v with
  | .ref i => .ref (x_ad g i)
  | .int x => .int x
  | .long x => .long x
  | .float x => .float x
  | .double x => .double x
  | .null => .null
  | .retAddr x => .retAddr x
def x_ce (g : XG) (e : va_E) : va_E := match e with
  | .inl (t, n, .inl f) => .inl (g.2.2.2 t, n, .inl f)
  | .inl (t, n, .inr (.inl f)) => .inl (g.2.2.2 t, n, .inr (.inl f))
  | .inl (t, n, .inr (.inr (.inl f))) => .inl (g.2.2.2 t, n, .inr (.inr (.inl f)))
  | .inl (t, n, .inr (.inr (.inr (.inl f)))) => .inl (g.2.2.2 t, n, .inr (.inr (.inr (.inl f))))
  | .inl (t, n, .inr (.inr (.inr (.inr f)))) => .inl (g.2.2.2 t, n, .inr (.inr (.inr (.inr (fun j => (f j).map (x_ad g))))))
  | .inr (c, fs) => .inr (c, fs.map (x_cv g))
def x_W (g : XG) (h : XH) : va_W := h.mapIdx (fun i e => (x_ad g i, x_ce g e))
theorem x_W_at {g : XG} {h : XH} {i : Nat} {e : va_E} (hi : h[i]? = some e) : (x_W g h)[i]? = some (x_ad g i, x_ce g e) := by
  simp [x_W, List.getElem?_mapIdx, hi]
theorem x_W_of {g : XG} {h : XH} {i : Nat} {q : Nat × va_E} (hi : (x_W g h)[i]? = some q) : ∃ e, h[i]? = some e ∧ q = (x_ad g i, x_ce g e) := by
  simp only [x_W, List.getElem?_mapIdx, Option.map_eq_some_iff] at hi
  obtain ⟨e, h1, h2⟩ := hi
  exact ⟨e, h1, h2.symm⟩
theorem x_W_set (g : XG) (h : XH) (i : Nat) (e : va_E) : x_W g (h.set i e) = (x_W g h).set i (x_ad g i, x_ce g e) := by
  apply List.ext_getElem?
  intro k
  simp only [x_W, List.getElem?_mapIdx, List.getElem?_set, List.length_mapIdx]
  by_cases hk : i = k
  · subst hk
    by_cases hl : i < h.length <;> simp [hl]
  · simp [hk]
theorem x_W_app (g : XG) (h : XH) (e : va_E) : x_W g (h ++ [e]) = x_W g h ++ [(x_ad g h.length, x_ce g e)] := by
  simp [x_W, List.mapIdx_append]
theorem x_ad_lt (g : XG) {i : Nat} (h : i < 1000) : x_ad g i = g.1 + i := by simp [x_ad, h]
def x_A (g : XG) : Nat → Prop := fun q => g.1 ≤ q
theorem x_WD (g : XG) (h : XH) (hl : h.length ≤ 1000) : va_D (x_A g) (x_W g h) := by
  refine ⟨fun i j p q hi hj hpq => ?_, fun k q hk => ?_⟩
  · obtain ⟨e1, a1, rfl⟩ := x_W_of hi
    obtain ⟨e2, a2, rfl⟩ := x_W_of hj
    have l1 := (List.getElem?_eq_some_iff.mp a1).1
    have l2 := (List.getElem?_eq_some_iff.mp a2).1
    have h3 : x_ad g i = x_ad g j := hpq
    rw [x_ad_lt g (by omega), x_ad_lt g (by omega)] at h3
    omega
  · obtain ⟨e1, a1, rfl⟩ := x_W_of hk
    have l1 := (List.getElem?_eq_some_iff.mp a1).1
    show g.1 ≤ x_ad g k
    rw [x_ad_lt g (by omega)]
    omega
def x_Wd (D : va_G) (g : XG) (h : XH) (H : Heap) : Prop := H.size = g.1 + h.length ∧ h.length ≤ 1000 ∧ va_P D vwCl (x_W g h) H
def x_tys (g : XG) : List (ClassId × FieldType) := [(g.2.2.2 0, .int), (g.2.2.2 1, .long), (g.2.2.2 2, .object RX2), (g.2.2.2 3, .object RX1), (g.2.2.2 4, .object RX3)]
def x_RO (g : XG) (X : XX) (U : State) (H : Heap) : Prop := va_X g.2.1 X.1 X.2 U H ∧ g.2.1 < g.1 ∧ va_Z RX4 "LETTERS" "[I" (.ref g.2.2.1) (x_A g) U H ∧ va_T .int g.2.2.1 6 (fun j => .int (x_let j)) (x_A g) U H
/-- words that are carried along: links between nest mates, arrays of references -/
def x_NW (U : State) : Prop := (∀ w ∈ lw_nest, va_Nw w U) ∧ va_AO RX2 U ∧ va_AO RX1 U ∧ va_AO RX3 U
theorem x_NW.warm {s U : State} (hW : s.WarmedH U.vm) (h : x_NW s) : x_NW U := by
  obtain ⟨h1, h2, h3, h4⟩ := h
  refine ⟨fun w hw => ?_, h2.moved hW.alike, h3.moved hW.alike, h4.moved hW.alike⟩
  have h5 := h1 w hw
  have h6 := (List.mem_filter.mp hw).2
  cases w <;> first | (simp [x_isN] at h6; done) | exact va_Nw.warmM hW h5
theorem x_RO.moved {g : XG} {X : XX} {u U : State} {H : Heap} (hvm : u.vm.Alike U.vm) (h : x_RO g X u H) : x_RO g X U H :=
  ⟨h.1.moved hvm, h.2.1, h.2.2.1.moved hvm, h.2.2.2.moved hvm⟩
theorem x_RO.kept {g : XG} {X : XX} {U : State} {H H1 : Heap} (h : x_RO g X U H) (hq : ∀ a : Nat, a < H.size → ¬ x_A g a → H1[a]? = H[a]?) : x_RO g X U H1 := by
  obtain ⟨h1, h2, h3, h4⟩ := h
  refine ⟨h1.kept (hq _ ?_ (Nat.not_le.mpr h2)), h2, h3.kept hq, h4.kept hq⟩
  obtain ⟨scr, hs, -⟩ := h1
  exact (Array.getElem?_eq_some_iff.mp hs).1
def x_Pc (D : va_G) (g : XG) (X : XX) (args : List Value) (h : XH) : Array Value → State → Prop := va_Pc (args.map (x_cv g)) (fun U => x_Wd D g h U.heap ∧ va_K D vwCl (x_tys g) U ∧ x_RO g X U U.heap ∧ x_NW U)
def x_Qc (D : va_G) (g : XG) (r : Option Value) (h' : XH) : Array Value → State → Outcome → State → Prop := fun _ st oc t => oc = .returned (r.map (x_cv g)) ∧ x_Wd D g h' t.heap ∧ va_F (x_A g) st t
def x_sse (e : va_E) : Nat := match e with
  | .inl a => a.2.1
  | .inr o => o.2.length
def x_ss (h : XH) : Nat := (h.map x_sse).sum
def x_ws (M : XM) : List Jvm.Cond := .code M.1 M.2.1 M.2.2.1 M.2.2.2.1 :: lw_gd
def x_rm (d mc ms : Nat) : Room := { frames := d + 1, cells := mc, slots := ms, locals := 32 * d + 40 }
theorem x_ss_set {h : XH} {i : Nat} {e e' : va_E} (hi : h[i]? = some e) (hs : x_sse e' = x_sse e) : x_ss (h.set i e') = x_ss h := by
  unfold x_ss
  rw [List.map_set, hs]
  congr 1
  apply List.ext_getElem?
  intro k
  rw [List.getElem?_set]
  by_cases hk : i = k
  · subst hk
    have hl := (List.getElem?_eq_some_iff.mp hi).1
    simp [hl, hi]
    rw [(List.getElem?_eq_some_iff.mp hi).2]
  · simp [hk]
theorem x_ss_app (h : XH) (e : va_E) : x_ss (h ++ [e]) = x_ss h + x_sse e := by
  simp [x_ss]
/-- locals -/
def x_LR (g : XG) (ls : Array Slot) (L : XL) : Prop := ls.size = L.length ∧ lv_wf ls ∧ ∀ (i : Nat) (v : Value), L[i]? = some (some v) → ls[i]? = some (.val (x_cv g v))
theorem x_LR_ld {g : XG} {ls : Array Slot} {L : XL} (h : x_LR g ls L) {i : Nat} {v : Value} (hv : x_ld L i = some v) : ls[i]? = some (.val (x_cv g v)) := by
  unfold x_ld at hv
  split at hv
  · rename_i w hw
    cases hv
    exact h.2.2 i _ hw
  · cases hv
def x_pr (g : XG) (L : XL) : List (Nat × Value) := (List.range L.length).filterMap (fun i => match L[i]? with
  | some (some v) => some (i, x_cv g v)
  | _ => none)
theorem x_pr_in {g : XG} {L : XL} {q : Nat × Value} : q ∈ x_pr g L ↔ ∃ v, L[q.1]? = some (some v) ∧ q.2 = x_cv g v := by
  unfold x_pr
  rw [List.mem_filterMap]
  constructor
  · rintro ⟨i, hi, h⟩
    split at h
    · rename_i v hv
      cases h
      exact ⟨v, hv, rfl⟩
    · cases h
  · rintro ⟨v, hv, h2⟩
    refine ⟨q.1, List.mem_range.mpr (List.getElem?_eq_some_iff.mp hv).1, ?_⟩
    rw [hv]
    simp only
    rw [← h2]
theorem x_LR_has {g : XG} {ls : Array Slot} {L : XL} (h : x_LR g ls L) : lv_has ls L.length (x_pr g L) := by
  refine ⟨h.1, h.2.1, fun q hq => ?_⟩
  obtain ⟨v, h1, h2⟩ := x_pr_in.mp hq
  rw [h2]
  exact h.2.2 _ v h1
theorem x_cat (g : XG) (v : Value) : (x_cv g v).category = v.category := by cases v <;> rfl
theorem x_clr_len (L : XL) (i : Nat) : (x_clr L i).length = L.length := by
  unfold x_clr
  split
  · rfl
  · split
    · split <;> simp
    · rfl
theorem x_clr_at {L : XL} {i k : Nat} {v : Value} (h : (x_clr L i)[k]? = some (some v)) : L[k]? = some (some v) ∧ ¬ (k + 1 = i ∧ v.category = 2) := by
  unfold x_clr at h
  split at h
  · exact ⟨h, fun q => by omega⟩
  · rename_i i
    split at h
    · rename_i w hw
      split at h
      · rename_i hc
        rw [List.getElem?_set] at h
        split at h
        · split at h <;> cases h
        · rename_i hk
          exact ⟨h, fun q => hk (by omega)⟩
      · rename_i hc
        refine ⟨h, fun q => ?_⟩
        have : k = i := by omega
        subst this
        rw [hw] at h
        cases h
        exact hc q.2
    · rename_i hw
      refine ⟨h, fun q => ?_⟩
      have : k = i := by omega
      subst this
      exact hw v h
theorem x_LR_st1 {g : XG} {ls : Array Slot} {L L' : XL} {i : Nat} {v : Value} (hs : x_st1 L i v = some L') (ls' : Array Slot) (h : lv_has ls' L.length ((i, x_cv g v) :: (x_pr g L).filter (fun q => !(q.1 == i) && !(q.1 + 1 == i && q.2.category == 2)))) : x_LR g ls' L' := by
  unfold x_st1 at hs
  split at hs
  · rename_i hl
    cases hs
    refine ⟨by rw [h.1]; simp [x_clr_len], h.2.1, fun k w hk => ?_⟩
    rw [List.getElem?_set] at hk
    split at hk
    · rename_i e
      subst e
      split at hk
      · cases hk
        exact h.2.2 (i, x_cv g v) List.mem_cons_self
      · cases hk
    · rename_i e
      obtain ⟨h1, h2⟩ := x_clr_at hk
      refine h.2.2 (k, x_cv g w) (List.mem_cons_of_mem _ (List.mem_filter.mpr ⟨x_pr_in.mpr ⟨w, h1, rfl⟩, ?_⟩))
      simp only [x_cat, Bool.and_eq_true, Bool.not_eq_true', beq_eq_false_iff_ne, ne_eq]
      refine ⟨fun q => e q.symm, ?_⟩
      by_cases hk1 : k + 1 = i
      · have : ¬ w.category = 2 := fun z => h2 ⟨hk1, z⟩
        simp [this]
      · simp [hk1]
  · cases hs
theorem x_LR_st2 {g : XG} {ls : Array Slot} {L L' : XL} {i : Nat} {v : Value} (hs : x_st2 L i v = some L') (ls' : Array Slot) (h : lv_has ls' L.length ((i, x_cv g v) :: (x_pr g L).filter (fun q => !(q.1 == i) && (!(q.1 == i + 1) && !(q.1 + 1 == i && q.2.category == 2))))) : x_LR g ls' L' := by
  unfold x_st2 at hs
  split at hs
  · rename_i hl
    cases hs
    refine ⟨by rw [h.1]; simp [x_clr_len], h.2.1, fun k w hk => ?_⟩
    rw [List.getElem?_set] at hk
    split at hk
    · rename_i e
      subst e
      split at hk
      · cases hk
        exact h.2.2 (i, x_cv g v) List.mem_cons_self
      · cases hk
    · rename_i e
      rw [List.getElem?_set] at hk
      split at hk
      · split at hk <;> cases hk
      · rename_i e2
        obtain ⟨h1, h2⟩ := x_clr_at hk
        refine h.2.2 (k, x_cv g w) (List.mem_cons_of_mem _ (List.mem_filter.mpr ⟨x_pr_in.mpr ⟨w, h1, rfl⟩, ?_⟩))
        simp only [x_cat, Bool.and_eq_true, Bool.not_eq_true', beq_eq_false_iff_ne, ne_eq]
        refine ⟨fun q => e q.symm, fun q => e2 q.symm, ?_⟩
        by_cases hk1 : k + 1 = i
        · have : ¬ w.category = 2 := fun z => h2 ⟨hk1, z⟩
          simp [this]
        · simp [hk1]
  · cases hs
