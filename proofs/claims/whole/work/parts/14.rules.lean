/-! RULES: how a method is walked in our machine -/
theorem x_run_call {X : XX} {M : XM} {c1 c2 : Nat → List Value → XH → Option Value → XH → Prop} (hc : ∀ μ as h r h', c1 μ as h r h' → c2 μ as h r h') {P : Option Value → XH → Prop} : ∀ (n pc : Nat) (L : XL) (st : List Value) (h : XH), x_run X c1 M n pc L st h P → x_run X c2 M n pc L st h P := by
  intro n
  induction n with
  | zero => intro pc L st h hr; exact hr.elim
  | succ n ih =>
    intro pc L st h hr
    obtain ⟨e, he, hr⟩ := hr
    refine ⟨e, he, ?_⟩
    split at hr
    · exact ih _ _ _ _ hr
    · exact hr
    · obtain ⟨r1, h1, h2, h3⟩ := hr
      exact ⟨r1, h1, hc _ _ _ _ _ h2, ih _ _ _ _ h3⟩
    · exact hr.elim
theorem x_ev_succ {X : XX} {T : List XM} : ∀ (d μ : Nat) (as : List Value) (h : XH) (r : Option Value) (h' : XH), x_ev X T d μ as h r h' → x_ev X T (d + 1) μ as h r h' := by
  intro d
  induction d with
  | zero => intro μ as h r h' he; exact he.elim
  | succ d ih =>
    intro μ as h r h' he
    obtain ⟨M, n, h1, h2, h3⟩ := he
    exact ⟨M, n, h1, h2, x_run_call ih n _ _ _ _ h3⟩
theorem x_ev_le {X : XX} {T : List XM} {d d' μ : Nat} {as : List Value} {h : XH} {r : Option Value} {h' : XH} (hd : d ≤ d') (he : x_ev X T d μ as h r h') : x_ev X T d' μ as h r h' := by
  induction hd with
  | refl => exact he
  | step _ ih => exact x_ev_succ _ _ _ _ _ _ ih
theorem x_det {X : XX} {M : XM} {call : Nat → List Value → XH → Option Value → XH → Prop} {P : Option Value → XH → Prop} : ∀ (n pc : Nat) (L : XL) (st : List Value) (h : XH), x_run X call M n pc L st h P → ∃ r h', P r h' ∧ x_run X call M n pc L st h (fun r' h'' => r' = r ∧ h'' = h') := by
  intro n
  induction n with
  | zero => intro pc L st h hr; exact hr.elim
  | succ n ih =>
    intro pc L st h hr
    obtain ⟨e, he, hr⟩ := hr
    split at hr
    · rename_i q hq
      obtain ⟨r, h', h1, h2⟩ := ih _ _ _ _ hr
      exact ⟨r, h', h1, e, he, by rw [hq]; exact h2⟩
    · rename_i q hq
      exact ⟨q.1, q.2, hr, e, he, by rw [hq]; exact ⟨rfl, rfl⟩⟩
    · rename_i q hq
      obtain ⟨r1, h1, h2, h3⟩ := hr
      obtain ⟨r, h', h4, h5⟩ := ih _ _ _ _ h3
      exact ⟨r, h', h4, e, he, by rw [hq]; exact ⟨r1, h1, h2, h5⟩⟩
    · exact hr.elim
theorem q_ev {X : XX} {d μ : Nat} {M : XM} {as : List Value} {h h' : XH} {r : Option Value} {L : XL} (hM : xT[μ]? = some M) (hl : (as.flatMap x_exp).length ≤ M.2.2.1) (hL : x_ent as M.2.2.1 = L) (k : Wp X xT d M 0 L [] h (fun r' h'' => r' = r ∧ h'' = h')) : x_ev X xT (d + 1) μ as h r h' := by
  subst hL
  obtain ⟨n, hn⟩ := k
  exact ⟨M, n, hM, hl, hn⟩
theorem q_evx {X : XX} {d μ : Nat} {M : XM} {as : List Value} {h : XH} {P : Option Value → XH → Prop} {L : XL} (hM : xT[μ]? = some M) (hl : (as.flatMap x_exp).length ≤ M.2.2.1) (hL : x_ent as M.2.2.1 = L) (k : Wp X xT d M 0 L [] h P) : ∃ r h', x_ev X xT (d + 1) μ as h r h' ∧ P r h' := by
  subst hL
  obtain ⟨n, hn⟩ := k
  obtain ⟨r, h', h1, h2⟩ := x_det _ _ _ _ _ hn
  exact ⟨r, h', ⟨M, n, hM, hl, h2⟩, h1⟩
theorem x_ro_none {X : XX} {x : Nat} (hx : x < 1000) : x_ro X x = none := by
  unfold x_ro
  rw [if_neg (by omega), if_neg (by omega)]
section QRules
variable {X : XX} {d : Nat} {M : XM} {pc n a b ci pos : Nat} {L L' : XL} {st r : List Value} {h : XH} {P : Option Value → XH → Prop}
theorem q_nx {e : XE} {q : Nat × XL × List Value × XH} (hc : M.2.2.2.2[pc]? = some e) (hf : x_fun X M pc e L st h = some (.inl q)) (k : Wp X xT d M q.1 q.2.1 q.2.2.1 q.2.2.2 P) : Wp X xT d M pc L st h P := by
  obtain ⟨n, hn⟩ := k
  exact ⟨n + 1, e, hc, by rw [hf]; exact hn⟩
theorem q_post {P' : Option Value → XH → Prop} (k : Wp X xT d M pc L st h P) (hP : ∀ r h', P r h' → P' r h') : Wp X xT d M pc L st h P' := by
  obtain ⟨n, hn⟩ := k
  obtain ⟨r, h', h1, h2⟩ := x_det _ _ _ _ _ hn
  have key : ∀ (n pc : Nat) (L : XL) (st : List Value) (h : XH), x_run X (x_ev X xT d) M n pc L st h (fun r' h'' => r' = r ∧ h'' = h') → x_run X (x_ev X xT d) M n pc L st h P' := by
    intro n
    induction n with
    | zero => intro pc L st h hr; exact hr.elim
    | succ n ih =>
      intro pc L st h hr
      obtain ⟨e, he, hr⟩ := hr
      refine ⟨e, he, ?_⟩
      split at hr
      · exact ih _ _ _ _ hr
      · obtain ⟨e1, e2⟩ := hr
        rw [e1, e2]
        exact hP r h' h1
      · obtain ⟨r1, h3, h4, h5⟩ := hr
        exact ⟨r1, h3, h4, ih _ _ _ _ h5⟩
      · exact hr.elim
  exact ⟨n, key _ _ _ _ _ h2⟩
theorem q_iadd {x y : Int32} (hc : M.2.2.2.2[pc]? = some (.iadd, n, a, b, ci, pos)) (k : Wp X xT d M n L (.int (x + y) :: r) h P) : Wp X xT d M pc L (.int y :: .int x :: r) h P := q_nx hc rfl k
theorem q_isub {x y : Int32} (hc : M.2.2.2.2[pc]? = some (.isub, n, a, b, ci, pos)) (k : Wp X xT d M n L (.int (x - y) :: r) h P) : Wp X xT d M pc L (.int y :: .int x :: r) h P := q_nx hc rfl k
theorem q_imul {x y : Int32} (hc : M.2.2.2.2[pc]? = some (.imul, n, a, b, ci, pos)) (k : Wp X xT d M n L (.int (x * y) :: r) h P) : Wp X xT d M pc L (.int y :: .int x :: r) h P := q_nx hc rfl k
theorem q_iand {x y : Int32} (hc : M.2.2.2.2[pc]? = some (.iand, n, a, b, ci, pos)) (k : Wp X xT d M n L (.int (x &&& y) :: r) h P) : Wp X xT d M pc L (.int y :: .int x :: r) h P := q_nx hc rfl k
theorem q_ior {x y : Int32} (hc : M.2.2.2.2[pc]? = some (.ior, n, a, b, ci, pos)) (k : Wp X xT d M n L (.int (x ||| y) :: r) h P) : Wp X xT d M pc L (.int y :: .int x :: r) h P := q_nx hc rfl k
theorem q_ixor {x y : Int32} (hc : M.2.2.2.2[pc]? = some (.ixor, n, a, b, ci, pos)) (k : Wp X xT d M n L (.int (x ^^^ y) :: r) h P) : Wp X xT d M pc L (.int y :: .int x :: r) h P := q_nx hc rfl k
theorem q_ishl {x y : Int32} (hc : M.2.2.2.2[pc]? = some (.ishl, n, a, b, ci, pos)) (k : Wp X xT d M n L (.int (x <<< (y &&& 31)) :: r) h P) : Wp X xT d M pc L (.int y :: .int x :: r) h P := q_nx hc rfl k
theorem q_ishr {x y : Int32} (hc : M.2.2.2.2[pc]? = some (.ishr, n, a, b, ci, pos)) (k : Wp X xT d M n L (.int (x >>> (y &&& 31)) :: r) h P) : Wp X xT d M pc L (.int y :: .int x :: r) h P := q_nx hc rfl k
theorem q_iushr {x y : Int32} (hc : M.2.2.2.2[pc]? = some (.iushr, n, a, b, ci, pos)) (k : Wp X xT d M n L (.int ((x.toUInt32 >>> (y.toUInt32 &&& Int32.toUInt32 31)).toInt32) :: r) h P) : Wp X xT d M pc L (.int y :: .int x :: r) h P := q_nx hc rfl k
theorem q_idiv {x y : Int32} (hc : M.2.2.2.2[pc]? = some (.idiv, n, a, b, ci, pos)) (hy : ¬ y = 0) (k : Wp X xT d M n L (.int (x / y) :: r) h P) : Wp X xT d M pc L (.int y :: .int x :: r) h P := q_nx (q := (n, L, .int (x / y) :: r, h)) hc (by simp [x_fun, x_dI, x_nx, hy]) k
theorem q_irem {x y : Int32} (hc : M.2.2.2.2[pc]? = some (.irem, n, a, b, ci, pos)) (hy : ¬ y = 0) (k : Wp X xT d M n L (.int (x - x / y * y) :: r) h P) : Wp X xT d M pc L (.int y :: .int x :: r) h P := q_nx (q := (n, L, .int (x - x / y * y) :: r, h)) hc (by simp [x_fun, x_dI, x_nx, hy]) k
theorem q_ladd {x y : Int64} (hc : M.2.2.2.2[pc]? = some (.ladd, n, a, b, ci, pos)) (k : Wp X xT d M n L (.long (x + y) :: r) h P) : Wp X xT d M pc L (.long y :: .long x :: r) h P := q_nx hc rfl k
theorem q_lmul {x y : Int64} (hc : M.2.2.2.2[pc]? = some (.lmul, n, a, b, ci, pos)) (k : Wp X xT d M n L (.long (x * y) :: r) h P) : Wp X xT d M pc L (.long y :: .long x :: r) h P := q_nx hc rfl k
theorem q_ldiv {x y : Int64} (hc : M.2.2.2.2[pc]? = some (.ldiv, n, a, b, ci, pos)) (hy : ¬ y = 0) (k : Wp X xT d M n L (.long (x / y) :: r) h P) : Wp X xT d M pc L (.long y :: .long x :: r) h P := q_nx (q := (n, L, .long (x / y) :: r, h)) hc (by simp [x_fun, x_dL, x_nx, hy]) k
theorem q_lrem {x y : Int64} (hc : M.2.2.2.2[pc]? = some (.lrem, n, a, b, ci, pos)) (hy : ¬ y = 0) (k : Wp X xT d M n L (.long (x - x / y * y) :: r) h P) : Wp X xT d M pc L (.long y :: .long x :: r) h P := q_nx (q := (n, L, .long (x - x / y * y) :: r, h)) hc (by simp [x_fun, x_dL, x_nx, hy]) k
theorem q_ineg {x : Int32} (hc : M.2.2.2.2[pc]? = some (.ineg, n, a, b, ci, pos)) (k : Wp X xT d M n L (.int (-x) :: r) h P) : Wp X xT d M pc L (.int x :: r) h P := q_nx hc rfl k
theorem q_i2l {x : Int32} (hc : M.2.2.2.2[pc]? = some (.i2l, n, a, b, ci, pos)) (k : Wp X xT d M n L (.long x.toInt64 :: r) h P) : Wp X xT d M pc L (.int x :: r) h P := q_nx hc rfl k
theorem q_i2b {x : Int32} (hc : M.2.2.2.2[pc]? = some (.i2b, n, a, b, ci, pos)) (k : Wp X xT d M n L (.int x.toInt8.toInt32 :: r) h P) : Wp X xT d M pc L (.int x :: r) h P := q_nx hc rfl k
theorem q_l2i {x : Int64} (hc : M.2.2.2.2[pc]? = some (.l2i, n, a, b, ci, pos)) (k : Wp X xT d M n L (.int x.toInt32 :: r) h P) : Wp X xT d M pc L (.long x :: r) h P := q_nx hc rfl k
theorem q_lcmp {x y : Int64} (hc : M.2.2.2.2[pc]? = some (.lcmp, n, a, b, ci, pos)) (k : Wp X xT d M n L (.int (lg_cmp x y) :: r) h P) : Wp X xT d M pc L (.long y :: .long x :: r) h P := q_nx hc rfl k
theorem q_aconst_null  (hc : M.2.2.2.2[pc]? = some (.aconst_null, n, a, b, ci, pos)) (k : Wp X xT d M n L (.null :: r) h P) : Wp X xT d M pc L (r) h P := q_nx hc rfl k
theorem q_iconst {k0 : Int} {v : Int32} (hc : M.2.2.2.2[pc]? = some (.iconst k0, n, a, b, ci, pos)) (hv : (Int32.ofInt k0) = v) (k : Wp X xT d M n L (.int v :: r) h P) : Wp X xT d M pc L (r) h P := by subst hv; exact q_nx hc rfl k
theorem q_bipush {k0 : Int} {v : Int32} (hc : M.2.2.2.2[pc]? = some (.bipush k0, n, a, b, ci, pos)) (hv : (Int8.ofInt k0).toInt32 = v) (k : Wp X xT d M n L (.int v :: r) h P) : Wp X xT d M pc L (r) h P := by subst hv; exact q_nx hc rfl k
theorem q_sipush {k0 : Int} {v : Int32} (hc : M.2.2.2.2[pc]? = some (.sipush k0, n, a, b, ci, pos)) (hv : (Int16.ofInt k0).toInt32 = v) (k : Wp X xT d M n L (.int v :: r) h P) : Wp X xT d M pc L (r) h P := by subst hv; exact q_nx hc rfl k
theorem q_lconst {k0 : Fin 2} {v : Int64} (hc : M.2.2.2.2[pc]? = some (.lconst k0, n, a, b, ci, pos)) (hv : Int64.ofNat (k0 : Nat) = v) (k : Wp X xT d M n L (.long v :: r) h P) : Wp X xT d M pc L (r) h P := by subst hv; exact q_nx hc rfl k
theorem q_ldc {k0 : Nat} {v : Int32} (hc : M.2.2.2.2[pc]? = some (.ldc k0, n, a, b, ci, pos)) (hv : Int32.ofNat a = v) (k : Wp X xT d M n L (.int v :: r) h P) : Wp X xT d M pc L (r) h P := by subst hv; exact q_nx hc rfl k
theorem q_ldc_w {k0 : Nat} {v : Int32} (hc : M.2.2.2.2[pc]? = some (.ldc_w k0, n, a, b, ci, pos)) (hv : Int32.ofNat a = v) (k : Wp X xT d M n L (.int v :: r) h P) : Wp X xT d M pc L (r) h P := by subst hv; exact q_nx hc rfl k
theorem q_ldc2_w {k0 : Nat} {v : Int64} (hc : M.2.2.2.2[pc]? = some (.ldc2_w k0, n, a, b, ci, pos)) (hv : Int64.ofNat a = v) (k : Wp X xT d M n L (.long v :: r) h P) : Wp X xT d M pc L (r) h P := by subst hv; exact q_nx hc rfl k
theorem q_iload {i : Nat} {x : Int32} (hc : M.2.2.2.2[pc]? = some (.iload i, n, a, b, ci, pos)) (hl : x_ld L i = some (.int x)) (k : Wp X xT d M n L (.int x :: r) h P) : Wp X xT d M pc L (r) h P := q_nx (q := (n, L, .int x :: r, h)) hc (by simp [x_fun, x_lc, hl, x_nx, x_isI]) k
theorem q_iload_n {i : Fin 4} {x : Int32} (hc : M.2.2.2.2[pc]? = some (.iload_n i, n, a, b, ci, pos)) (hl : x_ld L (i : Nat) = some (.int x)) (k : Wp X xT d M n L (.int x :: r) h P) : Wp X xT d M pc L (r) h P := q_nx (q := (n, L, .int x :: r, h)) hc (by simp [x_fun, x_lc, hl, x_nx, x_isI]) k
theorem q_lload {i : Nat} {x : Int64} (hc : M.2.2.2.2[pc]? = some (.lload i, n, a, b, ci, pos)) (hl : x_ld L i = some (.long x)) (k : Wp X xT d M n L (.long x :: r) h P) : Wp X xT d M pc L (r) h P := q_nx (q := (n, L, .long x :: r, h)) hc (by simp [x_fun, x_lc, hl, x_nx, x_isL]) k
theorem q_lload_n {i : Fin 4} {x : Int64} (hc : M.2.2.2.2[pc]? = some (.lload_n i, n, a, b, ci, pos)) (hl : x_ld L (i : Nat) = some (.long x)) (k : Wp X xT d M n L (.long x :: r) h P) : Wp X xT d M pc L (r) h P := q_nx (q := (n, L, .long x :: r, h)) hc (by simp [x_fun, x_lc, hl, x_nx, x_isL]) k
theorem q_aload {i : Nat} {x : Nat} (hc : M.2.2.2.2[pc]? = some (.aload i, n, a, b, ci, pos)) (hl : x_ld L i = some (.ref x)) (k : Wp X xT d M n L (.ref x :: r) h P) : Wp X xT d M pc L (r) h P := q_nx (q := (n, L, .ref x :: r, h)) hc (by simp [x_fun, x_lc, hl, x_nx, x_isA]) k
theorem q_aload_n {i : Fin 4} {x : Nat} (hc : M.2.2.2.2[pc]? = some (.aload_n i, n, a, b, ci, pos)) (hl : x_ld L (i : Nat) = some (.ref x)) (k : Wp X xT d M n L (.ref x :: r) h P) : Wp X xT d M pc L (r) h P := q_nx (q := (n, L, .ref x :: r, h)) hc (by simp [x_fun, x_lc, hl, x_nx, x_isA]) k
theorem q_aloadN {i : Nat} (hc : M.2.2.2.2[pc]? = some (.aload i, n, a, b, ci, pos)) (hl : x_ld L i = some .null) (k : Wp X xT d M n L (.null :: r) h P) : Wp X xT d M pc L (r) h P := q_nx (q := (n, L, .null :: r, h)) hc (by simp [x_fun, x_lc, hl, x_nx, x_isA]) k
theorem q_aload_nN {i : Fin 4} (hc : M.2.2.2.2[pc]? = some (.aload_n i, n, a, b, ci, pos)) (hl : x_ld L (i : Nat) = some .null) (k : Wp X xT d M n L (.null :: r) h P) : Wp X xT d M pc L (r) h P := q_nx (q := (n, L, .null :: r, h)) hc (by simp [x_fun, x_lc, hl, x_nx, x_isA]) k
theorem q_istore {i : Nat} {x : Int32} (hc : M.2.2.2.2[pc]? = some (.istore i, n, a, b, ci, pos)) (hl : x_st1 L i (.int x) = some L') (k : Wp X xT d M n L' (r) h P) : Wp X xT d M pc L (.int x :: r) h P := q_nx (q := (n, L', r, h)) hc (by simp [x_fun, x_cI, hl, x_sx]) k
theorem q_istore_n {i : Fin 4} {x : Int32} (hc : M.2.2.2.2[pc]? = some (.istore_n i, n, a, b, ci, pos)) (hl : x_st1 L (i : Nat) (.int x) = some L') (k : Wp X xT d M n L' (r) h P) : Wp X xT d M pc L (.int x :: r) h P := q_nx (q := (n, L', r, h)) hc (by simp [x_fun, x_cI, hl, x_sx]) k
theorem q_lstore {i : Nat} {x : Int64} (hc : M.2.2.2.2[pc]? = some (.lstore i, n, a, b, ci, pos)) (hl : x_st2 L i (.long x) = some L') (k : Wp X xT d M n L' (r) h P) : Wp X xT d M pc L (.long x :: r) h P := q_nx (q := (n, L', r, h)) hc (by simp [x_fun, x_cL, hl, x_sx]) k
theorem q_lstore_n {i : Fin 4} {x : Int64} (hc : M.2.2.2.2[pc]? = some (.lstore_n i, n, a, b, ci, pos)) (hl : x_st2 L (i : Nat) (.long x) = some L') (k : Wp X xT d M n L' (r) h P) : Wp X xT d M pc L (.long x :: r) h P := q_nx (q := (n, L', r, h)) hc (by simp [x_fun, x_cL, hl, x_sx]) k
theorem q_astore {i : Nat} {x : Nat} (hc : M.2.2.2.2[pc]? = some (.astore i, n, a, b, ci, pos)) (hl : x_st1 L i (.ref x) = some L') (k : Wp X xT d M n L' (r) h P) : Wp X xT d M pc L (.ref x :: r) h P := q_nx (q := (n, L', r, h)) hc (by simp [x_fun, x_cA, hl, x_sx]) k
theorem q_astore_n {i : Fin 4} {x : Nat} (hc : M.2.2.2.2[pc]? = some (.astore_n i, n, a, b, ci, pos)) (hl : x_st1 L (i : Nat) (.ref x) = some L') (k : Wp X xT d M n L' (r) h P) : Wp X xT d M pc L (.ref x :: r) h P := q_nx (q := (n, L', r, h)) hc (by simp [x_fun, x_cA, hl, x_sx]) k
theorem q_astoreN {i : Nat} (hc : M.2.2.2.2[pc]? = some (.astore i, n, a, b, ci, pos)) (hl : x_st1 L i .null = some L') (k : Wp X xT d M n L' (r) h P) : Wp X xT d M pc L (.null :: r) h P := q_nx (q := (n, L', r, h)) hc (by simp [x_fun, x_cA, hl, x_sx]) k
theorem q_astore_nN {i : Fin 4} (hc : M.2.2.2.2[pc]? = some (.astore_n i, n, a, b, ci, pos)) (hl : x_st1 L (i : Nat) .null = some L') (k : Wp X xT d M n L' (r) h P) : Wp X xT d M pc L (.null :: r) h P := q_nx (q := (n, L', r, h)) hc (by simp [x_fun, x_cA, hl, x_sx]) k
theorem q_iinc {i : Nat} {k0 : Int} {x v : Int32} (hc : M.2.2.2.2[pc]? = some (.iinc i k0, n, a, b, ci, pos)) (h0 : x_ld L i = some (.int x)) (hv : x + Int32.ofInt k0 = v) (hl : x_st1 L i (.int v) = some L') (k : Wp X xT d M n L' (r) h P) : Wp X xT d M pc L (r) h P := by subst hv; exact q_nx (q := (n, L', r, h)) hc (by simp [x_fun, x_inc, h0, hl, x_sx]) k
theorem q_dupI {x : Int32} (hc : M.2.2.2.2[pc]? = some (.dup, n, a, b, ci, pos)) (k : Wp X xT d M n L (.int x :: .int x :: r) h P) : Wp X xT d M pc L (.int x :: r) h P := q_nx hc rfl k
theorem q_dupA {x : Nat} (hc : M.2.2.2.2[pc]? = some (.dup, n, a, b, ci, pos)) (k : Wp X xT d M n L (.ref x :: .ref x :: r) h P) : Wp X xT d M pc L (.ref x :: r) h P := q_nx hc rfl k
theorem q_dup2 {x : Int32} {y : Nat} (hc : M.2.2.2.2[pc]? = some (.dup2, n, a, b, ci, pos)) (k : Wp X xT d M n L (.int x :: .ref y :: .int x :: .ref y :: r) h P) : Wp X xT d M pc L (.int x :: .ref y :: r) h P := q_nx hc rfl k
theorem q_popI {x : Int32} (hc : M.2.2.2.2[pc]? = some (.pop, n, a, b, ci, pos)) (k : Wp X xT d M n L (r) h P) : Wp X xT d M pc L (.int x :: r) h P := q_nx hc rfl k
theorem q_goto {o : Int} (hc : M.2.2.2.2[pc]? = some (.goto o, n, a, b, ci, pos)) (k : Wp X xT d M a L (r) h P) : Wp X xT d M pc L (r) h P := q_nx hc rfl k
theorem q_icmp_eq {x y : Int32} {o : Int} (hc : M.2.2.2.2[pc]? = some (.if_icmp .eq o, n, a, b, ci, pos)) (kt : x = y → Wp X xT d M a L r h P) (kf : ¬ x = y → Wp X xT d M n L r h P) : Wp X xT d M pc L (.int y :: .int x :: r) h P := by
  by_cases hx : x = y
  · exact q_nx (q := (a, L, r, h)) hc (by simp [x_fun, x_cdc, hx]) (kt hx)
  · exact q_nx (q := (n, L, r, h)) hc (by simp [x_fun, x_cdc, hx]) (kf hx)
theorem q_if_eq {x : Int32} {o : Int} (hc : M.2.2.2.2[pc]? = some (.ifCond .eq o, n, a, b, ci, pos)) (kt : x = 0 → Wp X xT d M a L r h P) (kf : ¬ x = 0 → Wp X xT d M n L r h P) : Wp X xT d M pc L (.int x :: r) h P := by
  by_cases hx : x = 0
  · exact q_nx (q := (a, L, r, h)) hc (by simp [x_fun, x_cdc, hx]) (kt hx)
  · exact q_nx (q := (n, L, r, h)) hc (by simp [x_fun, x_cdc, hx]) (kf hx)
theorem q_icmp_ne {x y : Int32} {o : Int} (hc : M.2.2.2.2[pc]? = some (.if_icmp .ne o, n, a, b, ci, pos)) (kt : ¬ x = y → Wp X xT d M a L r h P) (kf : x = y → Wp X xT d M n L r h P) : Wp X xT d M pc L (.int y :: .int x :: r) h P := by
  by_cases hx : ¬ x = y
  · exact q_nx (q := (a, L, r, h)) hc (by simp [x_fun, x_cdc, hx]) (kt hx)
  · exact q_nx (q := (n, L, r, h)) hc (by simp [x_fun, x_cdc, hx]) (kf (Classical.not_not.mp hx))
theorem q_if_ne {x : Int32} {o : Int} (hc : M.2.2.2.2[pc]? = some (.ifCond .ne o, n, a, b, ci, pos)) (kt : ¬ x = 0 → Wp X xT d M a L r h P) (kf : x = 0 → Wp X xT d M n L r h P) : Wp X xT d M pc L (.int x :: r) h P := by
  by_cases hx : ¬ x = 0
  · exact q_nx (q := (a, L, r, h)) hc (by simp [x_fun, x_cdc, hx]) (kt hx)
  · exact q_nx (q := (n, L, r, h)) hc (by simp [x_fun, x_cdc, hx]) (kf (Classical.not_not.mp hx))
theorem q_icmp_lt {x y : Int32} {o : Int} (hc : M.2.2.2.2[pc]? = some (.if_icmp .lt o, n, a, b, ci, pos)) (kt : x < y → Wp X xT d M a L r h P) (kf : ¬ x < y → Wp X xT d M n L r h P) : Wp X xT d M pc L (.int y :: .int x :: r) h P := by
  by_cases hx : x < y
  · exact q_nx (q := (a, L, r, h)) hc (by simp [x_fun, x_cdc, hx]) (kt hx)
  · exact q_nx (q := (n, L, r, h)) hc (by simp [x_fun, x_cdc, hx]) (kf hx)
theorem q_if_lt {x : Int32} {o : Int} (hc : M.2.2.2.2[pc]? = some (.ifCond .lt o, n, a, b, ci, pos)) (kt : x < 0 → Wp X xT d M a L r h P) (kf : ¬ x < 0 → Wp X xT d M n L r h P) : Wp X xT d M pc L (.int x :: r) h P := by
  by_cases hx : x < 0
  · exact q_nx (q := (a, L, r, h)) hc (by simp [x_fun, x_cdc, hx]) (kt hx)
  · exact q_nx (q := (n, L, r, h)) hc (by simp [x_fun, x_cdc, hx]) (kf hx)
theorem q_icmp_ge {x y : Int32} {o : Int} (hc : M.2.2.2.2[pc]? = some (.if_icmp .ge o, n, a, b, ci, pos)) (kt : y ≤ x → Wp X xT d M a L r h P) (kf : ¬ y ≤ x → Wp X xT d M n L r h P) : Wp X xT d M pc L (.int y :: .int x :: r) h P := by
  by_cases hx : y ≤ x
  · exact q_nx (q := (a, L, r, h)) hc (by simp [x_fun, x_cdc, hx]) (kt hx)
  · exact q_nx (q := (n, L, r, h)) hc (by simp [x_fun, x_cdc, hx]) (kf hx)
theorem q_if_ge {x : Int32} {o : Int} (hc : M.2.2.2.2[pc]? = some (.ifCond .ge o, n, a, b, ci, pos)) (kt : 0 ≤ x → Wp X xT d M a L r h P) (kf : ¬ 0 ≤ x → Wp X xT d M n L r h P) : Wp X xT d M pc L (.int x :: r) h P := by
  by_cases hx : 0 ≤ x
  · exact q_nx (q := (a, L, r, h)) hc (by simp [x_fun, x_cdc, hx]) (kt hx)
  · exact q_nx (q := (n, L, r, h)) hc (by simp [x_fun, x_cdc, hx]) (kf hx)
theorem q_icmp_gt {x y : Int32} {o : Int} (hc : M.2.2.2.2[pc]? = some (.if_icmp .gt o, n, a, b, ci, pos)) (kt : y < x → Wp X xT d M a L r h P) (kf : ¬ y < x → Wp X xT d M n L r h P) : Wp X xT d M pc L (.int y :: .int x :: r) h P := by
  by_cases hx : y < x
  · exact q_nx (q := (a, L, r, h)) hc (by simp [x_fun, x_cdc, hx]) (kt hx)
  · exact q_nx (q := (n, L, r, h)) hc (by simp [x_fun, x_cdc, hx]) (kf hx)
theorem q_if_gt {x : Int32} {o : Int} (hc : M.2.2.2.2[pc]? = some (.ifCond .gt o, n, a, b, ci, pos)) (kt : 0 < x → Wp X xT d M a L r h P) (kf : ¬ 0 < x → Wp X xT d M n L r h P) : Wp X xT d M pc L (.int x :: r) h P := by
  by_cases hx : 0 < x
  · exact q_nx (q := (a, L, r, h)) hc (by simp [x_fun, x_cdc, hx]) (kt hx)
  · exact q_nx (q := (n, L, r, h)) hc (by simp [x_fun, x_cdc, hx]) (kf hx)
theorem q_icmp_le {x y : Int32} {o : Int} (hc : M.2.2.2.2[pc]? = some (.if_icmp .le o, n, a, b, ci, pos)) (kt : x ≤ y → Wp X xT d M a L r h P) (kf : ¬ x ≤ y → Wp X xT d M n L r h P) : Wp X xT d M pc L (.int y :: .int x :: r) h P := by
  by_cases hx : x ≤ y
  · exact q_nx (q := (a, L, r, h)) hc (by simp [x_fun, x_cdc, hx]) (kt hx)
  · exact q_nx (q := (n, L, r, h)) hc (by simp [x_fun, x_cdc, hx]) (kf hx)
theorem q_if_le {x : Int32} {o : Int} (hc : M.2.2.2.2[pc]? = some (.ifCond .le o, n, a, b, ci, pos)) (kt : x ≤ 0 → Wp X xT d M a L r h P) (kf : ¬ x ≤ 0 → Wp X xT d M n L r h P) : Wp X xT d M pc L (.int x :: r) h P := by
  by_cases hx : x ≤ 0
  · exact q_nx (q := (a, L, r, h)) hc (by simp [x_fun, x_cdc, hx]) (kt hx)
  · exact q_nx (q := (n, L, r, h)) hc (by simp [x_fun, x_cdc, hx]) (kf hx)
theorem q_ifnull {o : Int} {x : Nat} (hc : M.2.2.2.2[pc]? = some (.ifnull o, n, a, b, ci, pos)) (k : Wp X xT d M n L (r) h P) : Wp X xT d M pc L (.ref x :: r) h P := q_nx hc rfl k
theorem q_ifnullN {o : Int} (hc : M.2.2.2.2[pc]? = some (.ifnull o, n, a, b, ci, pos)) (k : Wp X xT d M a L (r) h P) : Wp X xT d M pc L (.null :: r) h P := q_nx hc rfl k
theorem q_ifnonnull {o : Int} {x : Nat} (hc : M.2.2.2.2[pc]? = some (.ifnonnull o, n, a, b, ci, pos)) (k : Wp X xT d M a L (r) h P) : Wp X xT d M pc L (.ref x :: r) h P := q_nx hc rfl k
theorem q_ifnonnullN {o : Int} (hc : M.2.2.2.2[pc]? = some (.ifnonnull o, n, a, b, ci, pos)) (k : Wp X xT d M n L (r) h P) : Wp X xT d M pc L (.null :: r) h P := q_nx hc rfl k
theorem q_tsw {dd lo hi : Int} {offs : Array Int} {x : Int32} {t : Nat} (hc : M.2.2.2.2[pc]? = some (.tableswitch dd lo hi offs, n, a, b, ci, pos)) (hs : x_sw pc dd lo hi offs x = some t) (k : Wp X xT d M t L (r) h P) : Wp X xT d M pc L (.int x :: r) h P := q_nx (q := (t, L, r, h)) hc (by simp [x_fun, hs]) k
theorem q_getfield {i x : Nat} {fs : List Value} {v : Value} (hc : M.2.2.2.2[pc]? = some (.getfield i, n, a, b, ci, pos)) (ha : h[x]? = some (.inr (ci, fs))) (hv : fs[b]? = some v) (k : Wp X xT d M n L (v :: r) h P) : Wp X xT d M pc L (.ref x :: r) h P := q_nx (q := (n, L, v :: r, h)) hc (by simp [x_fun, x_get, ha, hv, x_nx]) k
theorem q_putfield {i x : Nat} {fs : List Value} {v : Value} {ty : FieldType} (hc : M.2.2.2.2[pc]? = some (.putfield i, n, a, b, ci, pos)) (ha : h[x]? = some (.inr (ci, fs))) (ht : x_ft ci b = some ty) (hb : b < fs.length) (hf : fits ty v = true) (hi : x_fin ci b = true → (M.1.name == "<init>") = true) (k : Wp X xT d M n L (r) (h.set x (.inr (ci, fs.set b v))) P) : Wp X xT d M pc L (v :: .ref x :: r) h P := q_nx (q := (n, L, r, h.set x (.inr (ci, fs.set b v)))) hc (by simp only [x_fun, x_put, ha, ht]; rw [if_pos ⟨trivial, hb, hf, hi⟩]) k
theorem q_getstatic {i : Nat} (hc : M.2.2.2.2[pc]? = some (.getstatic i, n, a, b, ci, pos)) (k : Wp X xT d M n L (.ref 1001 :: r) h P) : Wp X xT d M pc L (r) h P := q_nx hc rfl k
theorem q_iaload {i : Int32} {x m : Nat} {f : Nat → Int32} (hc : M.2.2.2.2[pc]? = some (.iaload, n, a, b, ci, pos)) (hx : x < 1000) (ha : h[x]? = some (.inl (0, m, .inl f))) (hi : ¬ (i < 0 ∨ m ≤ i.toNatClampNeg)) (k : Wp X xT d M n L (.int (f i.toNatClampNeg) :: r) h P) : Wp X xT d M pc L (.int i :: .ref x :: r) h P := q_nx (q := (n, L, .int (f i.toNatClampNeg) :: r, h)) hc (by simp only [x_fun, x_iald, x_ro_none (X := X) hx, ha, if_neg hi]) k
theorem q_iaload_s {i : Int32} (hc : M.2.2.2.2[pc]? = some (.iaload, n, a, b, ci, pos)) (hi : ¬ (i < 0 ∨ X.1 ≤ i.toNatClampNeg)) (k : Wp X xT d M n L (.int (X.2 i.toNatClampNeg) :: r) h P) : Wp X xT d M pc L (.int i :: .ref 1000 :: r) h P := q_nx (q := (n, L, .int (X.2 i.toNatClampNeg) :: r, h)) hc (by simp only [x_fun, x_iald, x_ro, if_true, if_neg hi]) k
theorem q_iaload_l {i : Int32} (hc : M.2.2.2.2[pc]? = some (.iaload, n, a, b, ci, pos)) (hi : ¬ (i < 0 ∨ 6 ≤ i.toNatClampNeg)) (k : Wp X xT d M n L (.int (x_let i.toNatClampNeg) :: r) h P) : Wp X xT d M pc L (.int i :: .ref 1001 :: r) h P := q_nx (q := (n, L, .int (x_let i.toNatClampNeg) :: r, h)) hc (by simp [x_fun, x_iald, x_ro, hi]) k
theorem q_iastore {x i : Int32} {y m : Nat} {f : Nat → Int32} (hc : M.2.2.2.2[pc]? = some (.iastore, n, a, b, ci, pos)) (ha : h[y]? = some (.inl (0, m, .inl f))) (hi : ¬ (i < 0 ∨ m ≤ i.toNatClampNeg)) (k : Wp X xT d M n L (r) (h.set y (.inl (0, m, .inl (upd f i.toNatClampNeg x)))) P) : Wp X xT d M pc L (.int x :: .int i :: .ref y :: r) h P := q_nx (q := (n, L, r, h.set y (.inl (0, m, .inl (upd f i.toNatClampNeg x))))) hc (by simp only [x_fun, x_iast, ha, if_neg hi]) k
theorem q_laload {i : Int32} {x m : Nat} {f : Nat → Int64} (hc : M.2.2.2.2[pc]? = some (.laload, n, a, b, ci, pos)) (ha : h[x]? = some (.inl (1, m, .inr (.inl f)))) (hi : ¬ (i < 0 ∨ m ≤ i.toNatClampNeg)) (k : Wp X xT d M n L (.long (f i.toNatClampNeg) :: r) h P) : Wp X xT d M pc L (.int i :: .ref x :: r) h P := q_nx (q := (n, L, .long (f i.toNatClampNeg) :: r, h)) hc (by simp only [x_fun, x_lald, ha, if_neg hi]) k
theorem q_lastore {x : Int64} {i : Int32} {y m : Nat} {f : Nat → Int64} (hc : M.2.2.2.2[pc]? = some (.lastore, n, a, b, ci, pos)) (ha : h[y]? = some (.inl (1, m, .inr (.inl f)))) (hi : ¬ (i < 0 ∨ m ≤ i.toNatClampNeg)) (k : Wp X xT d M n L (r) (h.set y (.inl (1, m, .inr (.inl (vp_updL f i.toNatClampNeg x))))) P) : Wp X xT d M pc L (.long x :: .int i :: .ref y :: r) h P := q_nx (q := (n, L, r, h.set y (.inl (1, m, .inr (.inl (vp_updL f i.toNatClampNeg x)))))) hc (by simp only [x_fun, x_last, ha, if_neg hi]) k
theorem q_aaload {i : Int32} {x t m y : Nat} {f : Nat → Option Nat} (hc : M.2.2.2.2[pc]? = some (.aaload, n, a, b, ci, pos)) (ha : h[x]? = some (.inl (t, m, .inr (.inr (.inr (.inr f)))))) (hi : ¬ (i < 0 ∨ m ≤ i.toNatClampNeg)) (ht : (x_acl t).isNone = false) (hy : f i.toNatClampNeg = some y) (k : Wp X xT d M n L (.ref y :: r) h P) : Wp X xT d M pc L (.int i :: .ref x :: r) h P := q_nx (q := (n, L, .ref y :: r, h)) hc (by simp only [x_fun, x_aald, ha]; rw [if_neg (fun z => z.elim (fun q => hi (Or.inl q)) (fun q => q.elim (fun q => hi (Or.inr q)) (fun q => by rw [ht] at q; cases q))), hy]; rfl) k
theorem q_aastore {v y t m c0 : Nat} {i : Int32} {vs : List Value} {f : Nat → Option Nat} (hc : M.2.2.2.2[pc]? = some (.aastore, n, a, b, ci, pos)) (ha : h[y]? = some (.inl (t, m, .inr (.inr (.inr (.inr f)))))) (hv : h[v]? = some (.inr (c0, vs))) (hi : ¬ (i < 0 ∨ m ≤ i.toNatClampNeg)) (ht : x_acl t = some c0) (k : Wp X xT d M n L (r) (h.set y (.inl (t, m, .inr (.inr (.inr (.inr (va_up f i.toNatClampNeg (some v)))))))) P) : Wp X xT d M pc L (.ref v :: .int i :: .ref y :: r) h P := q_nx (q := (n, L, r, h.set y (.inl (t, m, .inr (.inr (.inr (.inr (va_up f i.toNatClampNeg (some v))))))))) hc (by simp only [x_fun, x_aast, ha, hv]; rw [if_neg (fun z => z.elim (fun q => hi (Or.inl q)) (fun q => q.elim (fun q => hi (Or.inr q)) (fun q => q ht)))]) k
theorem q_alen {x t m : Nat} {y : ((Nat → Int32) ⊕ (Nat → Int64) ⊕ (Nat → UInt32) ⊕ (Nat → UInt64) ⊕ (Nat → Option Nat))} {v : Int32} (hc : M.2.2.2.2[pc]? = some (.arraylength, n, a, b, ci, pos)) (hx : x < 1000) (ha : h[x]? = some (.inl (t, m, y))) (ht : t < 5) (hv : Int32.ofNat m = v) (k : Wp X xT d M n L (.int v :: r) h P) : Wp X xT d M pc L (.ref x :: r) h P := by subst hv; exact q_nx (q := (n, L, .int (Int32.ofNat m) :: r, h)) hc (by simp only [x_fun, x_alen, x_ro_none (X := X) hx, ha, if_pos ht]) k
theorem q_alen_s  (hc : M.2.2.2.2[pc]? = some (.arraylength, n, a, b, ci, pos)) (k : Wp X xT d M n L (.int (Int32.ofNat X.1) :: r) h P) : Wp X xT d M pc L (.ref 1000 :: r) h P := q_nx hc rfl k
theorem q_alen_l  (hc : M.2.2.2.2[pc]? = some (.arraylength, n, a, b, ci, pos)) (k : Wp X xT d M n L (.int 6 :: r) h P) : Wp X xT d M pc L (.ref 1001 :: r) h P := q_nx hc rfl k
theorem q_cpy {i m0 m1 a0 a1 : Nat} {sp dp k0 : Int32} {f g : Nat → Int32} (hc : M.2.2.2.2[pc]? = some (.invokestatic i, n, a, b, ci, pos)) (ha9 : a = 9999) (h0 : h[a0]? = some (.inl (0, m0, .inl f))) (h1 : h[a1]? = some (.inl (0, m1, .inl g))) (hi : ¬ (sp < 0 ∨ dp < 0 ∨ k0 < 0 ∨ m0 < sp.toNatClampNeg + k0.toNatClampNeg ∨ m1 < dp.toNatClampNeg + k0.toNatClampNeg ∨ 8 < (r.map fun v => v.category).sum)) (k : Wp X xT d M n L (r) (h.set a1 (.inl (0, m1, .inl (va_cpy f g sp.toNatClampNeg dp.toNatClampNeg k0.toNatClampNeg)))) P) : Wp X xT d M pc L (.int k0 :: .int dp :: .ref a1 :: .int sp :: .ref a0 :: r) h P := q_nx (q := (n, L, r, h.set a1 (.inl (0, m1, .inl (va_cpy f g sp.toNatClampNeg dp.toNatClampNeg k0.toNatClampNeg))))) hc (by simp only [x_fun, if_pos ha9, x_cpy, h0, h1, if_neg hi]) k
theorem q_oin {i x : Nat} (hc : M.2.2.2.2[pc]? = some (.invokespecial i, n, a, b, ci, pos)) (ha9 : a = 9998) (hr : (r.map fun v => v.category).sum ≤ 8) (k : Wp X xT d M n L (r) h P) : Wp X xT d M pc L (.ref x :: r) h P := q_nx (q := (n, L, r, h)) hc (by simp only [x_fun, if_pos ha9, x_oin, if_neg (Nat.not_lt.mpr hr)]) k
theorem q_new {i : Nat} {fs : List FieldType} (hc : M.2.2.2.2[pc]? = some (.new i, n, a, b, ci, pos)) (hf : x_fts[ci]? = some fs) (hl : h.length < 1000) (k : Wp X xT d M n L (.ref h.length :: r) (h ++ [.inr (ci, fs.map x_def)]) P) : Wp X xT d M pc L (r) h P := q_nx (q := (n, L, .ref h.length :: r, h ++ [.inr (ci, fs.map x_def)])) hc (by simp only [x_fun, x_newo, hf, if_neg (Nat.not_le.mpr hl)]) k
theorem q_iret {v : Int32} (hc : M.2.2.2.2[pc]? = some (.ireturn, n, a, b, ci, pos)) (ht : M.2.2.2.1 = some .int) (hP : P (some (.int v)) h) : Wp X xT d M pc L [.int v] h P := ⟨1, _, hc, by simp only [x_fun, ht, x_ret, vp_nar_int, if_true]; exact hP⟩
theorem q_lret {v : Int64} (hc : M.2.2.2.2[pc]? = some (.lreturn, n, a, b, ci, pos)) (ht : M.2.2.2.1 = some .long) (hP : P (some (.long v)) h) : Wp X xT d M pc L [.long v] h P := ⟨1, _, hc, by simp only [x_fun, ht, x_retL]; exact hP⟩
theorem q_zret {v : Int32} (hc : M.2.2.2.2[pc]? = some (.ireturn, n, a, b, ci, pos)) (ht : M.2.2.2.1 = some .boolean) (hv : v = 0 ∨ v = 1) (hP : P (some (.int v)) h) : Wp X xT d M pc L [.int v] h P := ⟨1, _, hc, by have e1 : narrow .boolean (.int v) = .int v := (by rcases hv with rfl | rfl <;> rfl); simp only [x_fun, ht, x_ret, e1, if_true]; exact hP⟩
theorem q_aret {v : Nat} {nm : String} (hc : M.2.2.2.2[pc]? = some (.areturn, n, a, b, ci, pos)) (ht : M.2.2.2.1 = some (.object nm)) (hP : P (some (.ref v)) h) : Wp X xT d M pc L [.ref v] h P := ⟨1, _, hc, by simp only [x_fun, ht]; exact hP⟩
theorem q_aretN {nm : String} (hc : M.2.2.2.2[pc]? = some (.areturn, n, a, b, ci, pos)) (ht : M.2.2.2.1 = some (.object nm)) (hP : P (some .null) h) : Wp X xT d M pc L [.null] h P := ⟨1, _, hc, by simp only [x_fun, ht]; exact hP⟩
theorem q_vret (hc : M.2.2.2.2[pc]? = some (.return_, n, a, b, ci, pos)) (ht : M.2.2.2.1 = none) (hP : P none h) : Wp X xT d M pc L [] h P := ⟨1, _, hc, by simp only [x_fun, ht]; exact hP⟩
theorem q_call {e : XE} {μ d' : Nat} {as rest : List Value} {r1 : Option Value} {h1 : XH} (hc : M.2.2.2.2[pc]? = some e) (hf : x_fun X M pc e L st h = some (.inr (.inr (μ, as, rest)))) (hd : d' ≤ d) (he : x_ev X xT d' μ as h r1 h1) (k : Wp X xT d M e.2.1 L (r1.toList ++ rest) h1 P) : Wp X xT d M pc L st h P := by
  obtain ⟨n, hn⟩ := k
  exact ⟨n + 1, e, hc, by rw [hf]; exact ⟨r1, h1, x_ev_le hd he, hn⟩⟩
theorem q_callS0 {i d' : Nat} {r1 : Option Value} {h1 : XH} (hc : M.2.2.2.2[pc]? = some (.invokestatic i, n, a, 0, ci, pos)) (hne : (a == 9999) = false) (hr : (r.map fun v => v.category).sum ≤ 8) (hd : d' ≤ d) (he : x_ev X xT d' a [] h r1 h1) (k : Wp X xT d M n L (r1.toList ++ r) h1 P) : Wp X xT d M pc L (r) h P := q_call hc (by simp only [x_fun]; rw [if_neg (by simpa using hne)]; unfold x_call; rw [if_neg (fun z => z.elim (fun q => by simp at q <;> omega) (fun q => Nat.not_lt.mpr hr q))]; rfl) hd he k
theorem q_callV0 {i x d' : Nat} {fs : List Value} {r1 : Option Value} {h1 : XH} (hc : M.2.2.2.2[pc]? = some (.invokevirtual i, n, a, 0, ci, pos)) (ha : h[x]? = some (.inr (ci, fs))) (hr : (r.map fun v => v.category).sum ≤ 8) (hd : d' ≤ d) (he : x_ev X xT d' a [.ref x] h r1 h1) (k : Wp X xT d M n L (r1.toList ++ r) h1 P) : Wp X xT d M pc L (.ref x :: r) h P := q_call hc (by simp only [x_fun]; unfold x_callV; simp only [List.getElem?_cons_succ, List.getElem?_cons_zero, ha, if_true]; unfold x_call; rw [if_neg (fun z => z.elim (fun q => by simp at q <;> omega) (fun q => Nat.not_lt.mpr hr q))]; rfl) hd he k
theorem q_callI0 {i x d' : Nat} {r1 : Option Value} {h1 : XH} (hc : M.2.2.2.2[pc]? = some (.invokespecial i, n, a, 0, ci, pos)) (hne : (a == 9998) = false) (hr : (r.map fun v => v.category).sum ≤ 8) (hd : d' ≤ d) (he : x_ev X xT d' a [.ref x] h r1 h1) (k : Wp X xT d M n L (r1.toList ++ r) h1 P) : Wp X xT d M pc L (.ref x :: r) h P := q_call hc (by simp only [x_fun]; rw [if_neg (by simpa using hne)]; unfold x_callI; simp only [List.getElem?_cons_succ, List.getElem?_cons_zero]; unfold x_call; rw [if_neg (fun z => z.elim (fun q => by simp at q <;> omega) (fun q => Nat.not_lt.mpr hr q))]; rfl) hd he k
theorem q_callS1 {v1 : Value} {i d' : Nat} {r1 : Option Value} {h1 : XH} (hc : M.2.2.2.2[pc]? = some (.invokestatic i, n, a, 1, ci, pos)) (hne : (a == 9999) = false) (hr : (r.map fun v => v.category).sum ≤ 8) (hd : d' ≤ d) (he : x_ev X xT d' a [v1] h r1 h1) (k : Wp X xT d M n L (r1.toList ++ r) h1 P) : Wp X xT d M pc L (v1 :: r) h P := q_call hc (by simp only [x_fun]; rw [if_neg (by simpa using hne)]; unfold x_call; rw [if_neg (fun z => z.elim (fun q => by simp at q <;> omega) (fun q => Nat.not_lt.mpr hr q))]; rfl) hd he k
theorem q_callV1 {v1 : Value} {i x d' : Nat} {fs : List Value} {r1 : Option Value} {h1 : XH} (hc : M.2.2.2.2[pc]? = some (.invokevirtual i, n, a, 1, ci, pos)) (ha : h[x]? = some (.inr (ci, fs))) (hr : (r.map fun v => v.category).sum ≤ 8) (hd : d' ≤ d) (he : x_ev X xT d' a [.ref x, v1] h r1 h1) (k : Wp X xT d M n L (r1.toList ++ r) h1 P) : Wp X xT d M pc L (v1 :: .ref x :: r) h P := q_call hc (by simp only [x_fun]; unfold x_callV; simp only [List.getElem?_cons_succ, List.getElem?_cons_zero, ha, if_true]; unfold x_call; rw [if_neg (fun z => z.elim (fun q => by simp at q <;> omega) (fun q => Nat.not_lt.mpr hr q))]; rfl) hd he k
theorem q_callI1 {v1 : Value} {i x d' : Nat} {r1 : Option Value} {h1 : XH} (hc : M.2.2.2.2[pc]? = some (.invokespecial i, n, a, 1, ci, pos)) (hne : (a == 9998) = false) (hr : (r.map fun v => v.category).sum ≤ 8) (hd : d' ≤ d) (he : x_ev X xT d' a [.ref x, v1] h r1 h1) (k : Wp X xT d M n L (r1.toList ++ r) h1 P) : Wp X xT d M pc L (v1 :: .ref x :: r) h P := q_call hc (by simp only [x_fun]; rw [if_neg (by simpa using hne)]; unfold x_callI; simp only [List.getElem?_cons_succ, List.getElem?_cons_zero]; unfold x_call; rw [if_neg (fun z => z.elim (fun q => by simp at q <;> omega) (fun q => Nat.not_lt.mpr hr q))]; rfl) hd he k
theorem q_callS2 {v1 v2 : Value} {i d' : Nat} {r1 : Option Value} {h1 : XH} (hc : M.2.2.2.2[pc]? = some (.invokestatic i, n, a, 2, ci, pos)) (hne : (a == 9999) = false) (hr : (r.map fun v => v.category).sum ≤ 8) (hd : d' ≤ d) (he : x_ev X xT d' a [v1, v2] h r1 h1) (k : Wp X xT d M n L (r1.toList ++ r) h1 P) : Wp X xT d M pc L (v2 :: v1 :: r) h P := q_call hc (by simp only [x_fun]; rw [if_neg (by simpa using hne)]; unfold x_call; rw [if_neg (fun z => z.elim (fun q => by simp at q <;> omega) (fun q => Nat.not_lt.mpr hr q))]; rfl) hd he k
theorem q_callV2 {v1 v2 : Value} {i x d' : Nat} {fs : List Value} {r1 : Option Value} {h1 : XH} (hc : M.2.2.2.2[pc]? = some (.invokevirtual i, n, a, 2, ci, pos)) (ha : h[x]? = some (.inr (ci, fs))) (hr : (r.map fun v => v.category).sum ≤ 8) (hd : d' ≤ d) (he : x_ev X xT d' a [.ref x, v1, v2] h r1 h1) (k : Wp X xT d M n L (r1.toList ++ r) h1 P) : Wp X xT d M pc L (v2 :: v1 :: .ref x :: r) h P := q_call hc (by simp only [x_fun]; unfold x_callV; simp only [List.getElem?_cons_succ, List.getElem?_cons_zero, ha, if_true]; unfold x_call; rw [if_neg (fun z => z.elim (fun q => by simp at q <;> omega) (fun q => Nat.not_lt.mpr hr q))]; rfl) hd he k
theorem q_callI2 {v1 v2 : Value} {i x d' : Nat} {r1 : Option Value} {h1 : XH} (hc : M.2.2.2.2[pc]? = some (.invokespecial i, n, a, 2, ci, pos)) (hne : (a == 9998) = false) (hr : (r.map fun v => v.category).sum ≤ 8) (hd : d' ≤ d) (he : x_ev X xT d' a [.ref x, v1, v2] h r1 h1) (k : Wp X xT d M n L (r1.toList ++ r) h1 P) : Wp X xT d M pc L (v2 :: v1 :: .ref x :: r) h P := q_call hc (by simp only [x_fun]; rw [if_neg (by simpa using hne)]; unfold x_callI; simp only [List.getElem?_cons_succ, List.getElem?_cons_zero]; unfold x_call; rw [if_neg (fun z => z.elim (fun q => by simp at q <;> omega) (fun q => Nat.not_lt.mpr hr q))]; rfl) hd he k
theorem q_callS3 {v1 v2 v3 : Value} {i d' : Nat} {r1 : Option Value} {h1 : XH} (hc : M.2.2.2.2[pc]? = some (.invokestatic i, n, a, 3, ci, pos)) (hne : (a == 9999) = false) (hr : (r.map fun v => v.category).sum ≤ 8) (hd : d' ≤ d) (he : x_ev X xT d' a [v1, v2, v3] h r1 h1) (k : Wp X xT d M n L (r1.toList ++ r) h1 P) : Wp X xT d M pc L (v3 :: v2 :: v1 :: r) h P := q_call hc (by simp only [x_fun]; rw [if_neg (by simpa using hne)]; unfold x_call; rw [if_neg (fun z => z.elim (fun q => by simp at q <;> omega) (fun q => Nat.not_lt.mpr hr q))]; rfl) hd he k
theorem q_callV3 {v1 v2 v3 : Value} {i x d' : Nat} {fs : List Value} {r1 : Option Value} {h1 : XH} (hc : M.2.2.2.2[pc]? = some (.invokevirtual i, n, a, 3, ci, pos)) (ha : h[x]? = some (.inr (ci, fs))) (hr : (r.map fun v => v.category).sum ≤ 8) (hd : d' ≤ d) (he : x_ev X xT d' a [.ref x, v1, v2, v3] h r1 h1) (k : Wp X xT d M n L (r1.toList ++ r) h1 P) : Wp X xT d M pc L (v3 :: v2 :: v1 :: .ref x :: r) h P := q_call hc (by simp only [x_fun]; unfold x_callV; simp only [List.getElem?_cons_succ, List.getElem?_cons_zero, ha, if_true]; unfold x_call; rw [if_neg (fun z => z.elim (fun q => by simp at q <;> omega) (fun q => Nat.not_lt.mpr hr q))]; rfl) hd he k
theorem q_callS4 {v1 v2 v3 v4 : Value} {i d' : Nat} {r1 : Option Value} {h1 : XH} (hc : M.2.2.2.2[pc]? = some (.invokestatic i, n, a, 4, ci, pos)) (hne : (a == 9999) = false) (hr : (r.map fun v => v.category).sum ≤ 8) (hd : d' ≤ d) (he : x_ev X xT d' a [v1, v2, v3, v4] h r1 h1) (k : Wp X xT d M n L (r1.toList ++ r) h1 P) : Wp X xT d M pc L (v4 :: v3 :: v2 :: v1 :: r) h P := q_call hc (by simp only [x_fun]; rw [if_neg (by simpa using hne)]; unfold x_call; rw [if_neg (fun z => z.elim (fun q => by simp at q <;> omega) (fun q => Nat.not_lt.mpr hr q))]; rfl) hd he k
theorem q_callV4 {v1 v2 v3 v4 : Value} {i x d' : Nat} {fs : List Value} {r1 : Option Value} {h1 : XH} (hc : M.2.2.2.2[pc]? = some (.invokevirtual i, n, a, 4, ci, pos)) (ha : h[x]? = some (.inr (ci, fs))) (hr : (r.map fun v => v.category).sum ≤ 8) (hd : d' ≤ d) (he : x_ev X xT d' a [.ref x, v1, v2, v3, v4] h r1 h1) (k : Wp X xT d M n L (r1.toList ++ r) h1 P) : Wp X xT d M pc L (v4 :: v3 :: v2 :: v1 :: .ref x :: r) h P := q_call hc (by simp only [x_fun]; unfold x_callV; simp only [List.getElem?_cons_succ, List.getElem?_cons_zero, ha, if_true]; unfold x_call; rw [if_neg (fun z => z.elim (fun q => by simp at q <;> omega) (fun q => Nat.not_lt.mpr hr q))]; rfl) hd he k
theorem q_callS5 {v1 v2 v3 v4 v5 : Value} {i d' : Nat} {r1 : Option Value} {h1 : XH} (hc : M.2.2.2.2[pc]? = some (.invokestatic i, n, a, 5, ci, pos)) (hne : (a == 9999) = false) (hr : (r.map fun v => v.category).sum ≤ 8) (hd : d' ≤ d) (he : x_ev X xT d' a [v1, v2, v3, v4, v5] h r1 h1) (k : Wp X xT d M n L (r1.toList ++ r) h1 P) : Wp X xT d M pc L (v5 :: v4 :: v3 :: v2 :: v1 :: r) h P := q_call hc (by simp only [x_fun]; rw [if_neg (by simpa using hne)]; unfold x_call; rw [if_neg (fun z => z.elim (fun q => by simp at q <;> omega) (fun q => Nat.not_lt.mpr hr q))]; rfl) hd he k
theorem q_callV5 {v1 v2 v3 v4 v5 : Value} {i x d' : Nat} {fs : List Value} {r1 : Option Value} {h1 : XH} (hc : M.2.2.2.2[pc]? = some (.invokevirtual i, n, a, 5, ci, pos)) (ha : h[x]? = some (.inr (ci, fs))) (hr : (r.map fun v => v.category).sum ≤ 8) (hd : d' ≤ d) (he : x_ev X xT d' a [.ref x, v1, v2, v3, v4, v5] h r1 h1) (k : Wp X xT d M n L (r1.toList ++ r) h1 P) : Wp X xT d M pc L (v5 :: v4 :: v3 :: v2 :: v1 :: .ref x :: r) h P := q_call hc (by simp only [x_fun]; unfold x_callV; simp only [List.getElem?_cons_succ, List.getElem?_cons_zero, ha, if_true]; unfold x_call; rw [if_neg (fun z => z.elim (fun q => by simp at q <;> omega) (fun q => Nat.not_lt.mpr hr q))]; rfl) hd he k
theorem q_callS6 {v1 v2 v3 v4 v5 v6 : Value} {i d' : Nat} {r1 : Option Value} {h1 : XH} (hc : M.2.2.2.2[pc]? = some (.invokestatic i, n, a, 6, ci, pos)) (hne : (a == 9999) = false) (hr : (r.map fun v => v.category).sum ≤ 8) (hd : d' ≤ d) (he : x_ev X xT d' a [v1, v2, v3, v4, v5, v6] h r1 h1) (k : Wp X xT d M n L (r1.toList ++ r) h1 P) : Wp X xT d M pc L (v6 :: v5 :: v4 :: v3 :: v2 :: v1 :: r) h P := q_call hc (by simp only [x_fun]; rw [if_neg (by simpa using hne)]; unfold x_call; rw [if_neg (fun z => z.elim (fun q => by simp at q <;> omega) (fun q => Nat.not_lt.mpr hr q))]; rfl) hd he k
theorem q_callV6 {v1 v2 v3 v4 v5 v6 : Value} {i x d' : Nat} {fs : List Value} {r1 : Option Value} {h1 : XH} (hc : M.2.2.2.2[pc]? = some (.invokevirtual i, n, a, 6, ci, pos)) (ha : h[x]? = some (.inr (ci, fs))) (hr : (r.map fun v => v.category).sum ≤ 8) (hd : d' ≤ d) (he : x_ev X xT d' a [.ref x, v1, v2, v3, v4, v5, v6] h r1 h1) (k : Wp X xT d M n L (r1.toList ++ r) h1 P) : Wp X xT d M pc L (v6 :: v5 :: v4 :: v3 :: v2 :: v1 :: .ref x :: r) h P := q_call hc (by simp only [x_fun]; unfold x_callV; simp only [List.getElem?_cons_succ, List.getElem?_cons_zero, ha, if_true]; unfold x_call; rw [if_neg (fun z => z.elim (fun q => by simp at q <;> omega) (fun q => Nat.not_lt.mpr hr q))]; rfl) hd he k
end QRules
