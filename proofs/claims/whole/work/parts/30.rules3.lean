/-! RULES over natural numbers, loops by an invariant -/
section QRules3
variable {X : XX} {d : Nat} {M : XM} {pc n a b ci pos : Nat} {L L' : XL} {st r : List Value} {h : XH} {P : Option Value → XH → Prop}
theorem q_cn {v w : Int32} (e : v = w) (k : Wp X xT d M pc L (.int w :: r) h P) : Wp X xT d M pc L (.int v :: r) h P := by subst e; exact k
theorem q_cj {v w : Int64} (e : v = w) (k : Wp X xT d M pc L (.long w :: r) h P) : Wp X xT d M pc L (.long v :: r) h P := by subst e; exact k
theorem q_iaddN {x y : Nat} (hc : M.2.2.2.2[pc]? = some (.iadd, n, a, b, ci, pos)) (k : Wp X xT d M n L (.int (nI (x + y)) :: r) h P) : Wp X xT d M pc L (.int (nI y) :: .int (nI x) :: r) h P := q_iadd hc (by rw [nI_add]; exact k)
theorem q_imulN {x y : Nat} (hc : M.2.2.2.2[pc]? = some (.imul, n, a, b, ci, pos)) (k : Wp X xT d M n L (.int (nI (x * y)) :: r) h P) : Wp X xT d M pc L (.int (nI y) :: .int (nI x) :: r) h P := q_imul hc (by rw [pk_mul]; exact k)
theorem q_isubN {x y : Nat} (hc : M.2.2.2.2[pc]? = some (.isub, n, a, b, ci, pos)) (hy : y ≤ x) (k : Wp X xT d M n L (.int (nI (x - y)) :: r) h P) : Wp X xT d M pc L (.int (nI y) :: .int (nI x) :: r) h P := q_isub hc (by rw [pk_sub hy]; exact k)
theorem q_idivN {x y : Nat} (hc : M.2.2.2.2[pc]? = some (.idiv, n, a, b, ci, pos)) (hx : x < 2 ^ 31) (h0 : 0 < y) (hy : y < 2 ^ 31) (k : Wp X xT d M n L (.int (nI (x / y)) :: r) h P) : Wp X xT d M pc L (.int (nI y) :: .int (nI x) :: r) h P := q_idiv hc (nI_ne0 h0 hy) (by rw [pk_div hx h0 hy]; exact k)
theorem q_iremN {x y : Nat} (hc : M.2.2.2.2[pc]? = some (.irem, n, a, b, ci, pos)) (hx : x < 2 ^ 31) (h0 : 0 < y) (hy : y < 2 ^ 31) (k : Wp X xT d M n L (.int (nI (x % y)) :: r) h P) : Wp X xT d M pc L (.int (nI y) :: .int (nI x) :: r) h P := q_irem hc (nI_ne0 h0 hy) (by rw [pk_rem hx h0 hy]; exact k)
theorem q_iincN {i x c : Nat} {k0 : Int} (hc : M.2.2.2.2[pc]? = some (.iinc i k0, n, a, b, ci, pos)) (h0 : x_ld L i = some (.int (nI x))) (hv : Int32.ofInt k0 = nI c) (hl : x_st1 L i (.int (nI (x + c))) = some L') (k : Wp X xT d M n L' r h P) : Wp X xT d M pc L r h P := q_iinc hc h0 (by rw [hv, nI_add]) hl k
theorem q_icmp_eqN {x y : Nat} {o : Int} (hc : M.2.2.2.2[pc]? = some (.if_icmp .eq o, n, a, b, ci, pos)) (hx : x < 2 ^ 31) (hy : y < 2 ^ 31) (kt : x = y → Wp X xT d M a L r h P) (kf : ¬ (x = y) → Wp X xT d M n L r h P) : Wp X xT d M pc L (.int (nI y) :: .int (nI x) :: r) h P := q_icmp_eq hc (fun z => kt ((nI_eq hx hy).mp z)) (fun z => kf (fun w => z ((nI_eq hx hy).mpr w)))
theorem q_if_eqN {x : Nat} {o : Int} (hc : M.2.2.2.2[pc]? = some (.ifCond .eq o, n, a, b, ci, pos)) (hx : x < 2 ^ 31) (kt : x = 0 → Wp X xT d M a L r h P) (kf : ¬ (x = 0) → Wp X xT d M n L r h P) : Wp X xT d M pc L (.int (nI x) :: r) h P := by
  have hy : 0 < 2 ^ 31 := by decide
  refine q_if_eq hc (fun z => kt ?_) (fun z => kf ?_)
  · rw [← nI_0] at z
    exact (nI_eq hx hy).mp z
  · rw [← nI_0] at z
    exact fun w => z ((nI_eq hx hy).mpr w)
theorem q_icmp_neN {x y : Nat} {o : Int} (hc : M.2.2.2.2[pc]? = some (.if_icmp .ne o, n, a, b, ci, pos)) (hx : x < 2 ^ 31) (hy : y < 2 ^ 31) (kt : ¬ x = y → Wp X xT d M a L r h P) (kf : x = y → Wp X xT d M n L r h P) : Wp X xT d M pc L (.int (nI y) :: .int (nI x) :: r) h P := q_icmp_ne hc (fun z => kt ((not_congr (nI_eq hx hy)).mp z)) (fun z => kf ((nI_eq hx hy).mp z))
theorem q_if_neN {x : Nat} {o : Int} (hc : M.2.2.2.2[pc]? = some (.ifCond .ne o, n, a, b, ci, pos)) (hx : x < 2 ^ 31) (kt : ¬ x = 0 → Wp X xT d M a L r h P) (kf : x = 0 → Wp X xT d M n L r h P) : Wp X xT d M pc L (.int (nI x) :: r) h P := by
  have hy : 0 < 2 ^ 31 := by decide
  refine q_if_ne hc (fun z => kt ?_) (fun z => kf ?_)
  · rw [← nI_0] at z
    exact (not_congr (nI_eq hx hy)).mp z
  · rw [← nI_0] at z
    exact (nI_eq hx hy).mp z
theorem q_icmp_ltN {x y : Nat} {o : Int} (hc : M.2.2.2.2[pc]? = some (.if_icmp .lt o, n, a, b, ci, pos)) (hx : x < 2 ^ 31) (hy : y < 2 ^ 31) (kt : x < y → Wp X xT d M a L r h P) (kf : ¬ (x < y) → Wp X xT d M n L r h P) : Wp X xT d M pc L (.int (nI y) :: .int (nI x) :: r) h P := q_icmp_lt hc (fun z => kt ((nI_ltI hx hy).mp z)) (fun z => kf (fun w => z ((nI_ltI hx hy).mpr w)))
theorem q_if_ltN {x : Nat} {o : Int} (hc : M.2.2.2.2[pc]? = some (.ifCond .lt o, n, a, b, ci, pos)) (hx : x < 2 ^ 31) (kt : x < 0 → Wp X xT d M a L r h P) (kf : ¬ (x < 0) → Wp X xT d M n L r h P) : Wp X xT d M pc L (.int (nI x) :: r) h P := by
  have hy : 0 < 2 ^ 31 := by decide
  refine q_if_lt hc (fun z => kt ?_) (fun z => kf ?_)
  · rw [← nI_0] at z
    exact (nI_ltI hx hy).mp z
  · rw [← nI_0] at z
    exact fun w => z ((nI_ltI hx hy).mpr w)
theorem q_icmp_geN {x y : Nat} {o : Int} (hc : M.2.2.2.2[pc]? = some (.if_icmp .ge o, n, a, b, ci, pos)) (hx : x < 2 ^ 31) (hy : y < 2 ^ 31) (kt : y ≤ x → Wp X xT d M a L r h P) (kf : ¬ (y ≤ x) → Wp X xT d M n L r h P) : Wp X xT d M pc L (.int (nI y) :: .int (nI x) :: r) h P := q_icmp_ge hc (fun z => kt ((nI_leI hy hx).mp z)) (fun z => kf (fun w => z ((nI_leI hy hx).mpr w)))
theorem q_if_geN {x : Nat} {o : Int} (hc : M.2.2.2.2[pc]? = some (.ifCond .ge o, n, a, b, ci, pos)) (hx : x < 2 ^ 31) (kt : 0 ≤ x → Wp X xT d M a L r h P) (kf : ¬ (0 ≤ x) → Wp X xT d M n L r h P) : Wp X xT d M pc L (.int (nI x) :: r) h P := by
  have hy : 0 < 2 ^ 31 := by decide
  refine q_if_ge hc (fun z => kt ?_) (fun z => kf ?_)
  · rw [← nI_0] at z
    exact (nI_leI hy hx).mp z
  · rw [← nI_0] at z
    exact fun w => z ((nI_leI hy hx).mpr w)
theorem q_icmp_gtN {x y : Nat} {o : Int} (hc : M.2.2.2.2[pc]? = some (.if_icmp .gt o, n, a, b, ci, pos)) (hx : x < 2 ^ 31) (hy : y < 2 ^ 31) (kt : y < x → Wp X xT d M a L r h P) (kf : ¬ (y < x) → Wp X xT d M n L r h P) : Wp X xT d M pc L (.int (nI y) :: .int (nI x) :: r) h P := q_icmp_gt hc (fun z => kt ((nI_ltI hy hx).mp z)) (fun z => kf (fun w => z ((nI_ltI hy hx).mpr w)))
theorem q_if_gtN {x : Nat} {o : Int} (hc : M.2.2.2.2[pc]? = some (.ifCond .gt o, n, a, b, ci, pos)) (hx : x < 2 ^ 31) (kt : 0 < x → Wp X xT d M a L r h P) (kf : ¬ (0 < x) → Wp X xT d M n L r h P) : Wp X xT d M pc L (.int (nI x) :: r) h P := by
  have hy : 0 < 2 ^ 31 := by decide
  refine q_if_gt hc (fun z => kt ?_) (fun z => kf ?_)
  · rw [← nI_0] at z
    exact (nI_ltI hy hx).mp z
  · rw [← nI_0] at z
    exact fun w => z ((nI_ltI hy hx).mpr w)
theorem q_icmp_leN {x y : Nat} {o : Int} (hc : M.2.2.2.2[pc]? = some (.if_icmp .le o, n, a, b, ci, pos)) (hx : x < 2 ^ 31) (hy : y < 2 ^ 31) (kt : x ≤ y → Wp X xT d M a L r h P) (kf : ¬ (x ≤ y) → Wp X xT d M n L r h P) : Wp X xT d M pc L (.int (nI y) :: .int (nI x) :: r) h P := q_icmp_le hc (fun z => kt ((nI_leI hx hy).mp z)) (fun z => kf (fun w => z ((nI_leI hx hy).mpr w)))
theorem q_if_leN {x : Nat} {o : Int} (hc : M.2.2.2.2[pc]? = some (.ifCond .le o, n, a, b, ci, pos)) (hx : x < 2 ^ 31) (kt : x ≤ 0 → Wp X xT d M a L r h P) (kf : ¬ (x ≤ 0) → Wp X xT d M n L r h P) : Wp X xT d M pc L (.int (nI x) :: r) h P := by
  have hy : 0 < 2 ^ 31 := by decide
  refine q_if_le hc (fun z => kt ?_) (fun z => kf ?_)
  · rw [← nI_0] at z
    exact (nI_leI hx hy).mp z
  · rw [← nI_0] at z
    exact fun w => z ((nI_leI hx hy).mpr w)
theorem q_getI {i x : Nat} {fs : List Value} {v0 v : Int32} (hc : M.2.2.2.2[pc]? = some (.getfield i, n, a, b, ci, pos)) (ha : h[x]? = some (.inr (ci, fs))) (hv : fs[b]? = some (.int v0)) (he : v0 = v) (k : Wp X xT d M n L (.int v :: r) h P) : Wp X xT d M pc L (.ref x :: r) h P := by
  subst he
  exact q_getfield hc ha hv k
theorem q_getJ {i x : Nat} {fs : List Value} {v0 v : Int64} (hc : M.2.2.2.2[pc]? = some (.getfield i, n, a, b, ci, pos)) (ha : h[x]? = some (.inr (ci, fs))) (hv : fs[b]? = some (.long v0)) (he : v0 = v) (k : Wp X xT d M n L (.long v :: r) h P) : Wp X xT d M pc L (.ref x :: r) h P := by
  subst he
  exact q_getfield hc ha hv k
theorem q_iald {N x m : Nat} {f : Nat → Int32} {v : Int32} (hc : M.2.2.2.2[pc]? = some (.iaload, n, a, b, ci, pos)) (hx : x < 1000) (ha : h[x]? = some (.inl (0, m, .inl f))) (hN : N < m) (hm : m ≤ 100000) (he : f N = v) (k : Wp X xT d M n L (.int v :: r) h P) : Wp X xT d M pc L (.int (nI N) :: .ref x :: r) h P := by
  subst he
  refine q_iaload hc hx ha (f_ixk hN (by omega)) ?_
  rw [nI_clamp (show N < 2 ^ 31 by omega)]
  exact k
theorem q_iastN {N y m : Nat} {f : Nat → Int32} {v : Int32} (hc : M.2.2.2.2[pc]? = some (.iastore, n, a, b, ci, pos)) (ha : h[y]? = some (.inl (0, m, .inl f))) (hN : N < m) (hm : m ≤ 100000) (k : Wp X xT d M n L r (h.set y (.inl (0, m, .inl (upd f N v)))) P) : Wp X xT d M pc L (.int v :: .int (nI N) :: .ref y :: r) h P := by
  refine q_iastore hc ha (f_ixk hN (by omega)) ?_
  rw [nI_clamp (show N < 2 ^ 31 by omega)]
  exact k
theorem q_lald {N x m : Nat} {f : Nat → Int64} (hc : M.2.2.2.2[pc]? = some (.laload, n, a, b, ci, pos)) (ha : h[x]? = some (.inl (1, m, .inr (.inl f)))) (hN : N < m) (hm : m ≤ 100000) (k : Wp X xT d M n L (.long (f N) :: r) h P) : Wp X xT d M pc L (.int (nI N) :: .ref x :: r) h P := by
  refine q_laload hc ha (f_ixk hN (by omega)) ?_
  rw [nI_clamp (show N < 2 ^ 31 by omega)]
  exact k
theorem q_lastN {N y m : Nat} {f : Nat → Int64} {v : Int64} (hc : M.2.2.2.2[pc]? = some (.lastore, n, a, b, ci, pos)) (ha : h[y]? = some (.inl (1, m, .inr (.inl f)))) (hN : N < m) (hm : m ≤ 100000) (k : Wp X xT d M n L r (h.set y (.inl (1, m, .inr (.inl (vp_updL f N v))))) P) : Wp X xT d M pc L (.long v :: .int (nI N) :: .ref y :: r) h P := by
  refine q_lastore hc ha (f_ixk hN (by omega)) ?_
  rw [nI_clamp (show N < 2 ^ 31 by omega)]
  exact k
theorem q_aald {N x t m y : Nat} {f : Nat → Option Nat} (hc : M.2.2.2.2[pc]? = some (.aaload, n, a, b, ci, pos)) (ha : h[x]? = some (.inl (t, m, .inr (.inr (.inr (.inr f)))))) (hN : N < m) (hm : m ≤ 100000) (ht : (x_acl t).isNone = false) (hy : f N = some y) (k : Wp X xT d M n L (.ref y :: r) h P) : Wp X xT d M pc L (.int (nI N) :: .ref x :: r) h P :=
  q_aaload hc ha (f_ixk hN (by omega)) ht (by rw [nI_clamp (show N < 2 ^ 31 by omega)]; exact hy) k
theorem q_up {Inv : Nat → XL → XH → Prop} (e : Nat) (step : ∀ k L h, k < e → Inv k L h → (∀ L' h', Inv (k + 1) L' h' → Wp X xT d M pc L' st h' P) → Wp X xT d M pc L st h P) (fin : ∀ L h, Inv e L h → Wp X xT d M pc L st h P) (k : Nat) (L : XL) (h : XH) (hk : k ≤ e) (hi : Inv k L h) : Wp X xT d M pc L st h P := by
  have key : ∀ (m k : Nat) (L : XL) (h : XH), k + m = e → Inv k L h → Wp X xT d M pc L st h P := by
    intro m
    induction m with
    | zero =>
      intro k L h hk hi
      have hk' : k = e := by omega
      subst hk'
      exact fin L h hi
    | succ m ih =>
      intro k L h hk hi
      exact step k L h (by omega) hi (fun L' h' hi' => ih (k + 1) L' h' (by omega) hi')
  exact key (e - k) k L h (by omega) hi
theorem q_dn {Inv : Nat → XL → XH → Prop} (e : Nat) (step : ∀ k L h, k < e → Inv (k + 1) L h → (∀ L' h', Inv k L' h' → Wp X xT d M pc L' st h' P) → Wp X xT d M pc L st h P) (fin : ∀ L h, Inv 0 L h → Wp X xT d M pc L st h P) (k : Nat) (L : XL) (h : XH) (hk : k ≤ e) (hi : Inv k L h) : Wp X xT d M pc L st h P := by
  have key : ∀ (k : Nat) (L : XL) (h : XH), k ≤ e → Inv k L h → Wp X xT d M pc L st h P := by
    intro k
    induction k with
    | zero =>
      intro L h hk hi
      exact fin L h hi
    | succ k ih =>
      intro L h hk hi
      exact step k L h (by omega) hi (fun L' h' hi' => ih L' h' (by omega) hi')
  exact key k L h hk hi
end QRules3
/-! numbers that may be below 0 -/
def dI (j : Nat) : Int32 := nI j - 1
theorem dI_s (j : Nat) : dI (j + 1) = nI j := nI_pred j
theorem dI_m (j : Nat) : nI j + Int32.ofInt (-1) = dI j := by
  unfold dI
  rw [Int32.sub_eq_add_neg]
  rfl
/-- j less c -/
def sI (c j : Nat) : Int32 := nI j - nI c
theorem sI_inc (c j : Nat) : sI c j + Int32.ofInt 1 = sI c (j + 1) := by
  unfold sI
  rw [nI_succ, Int32.sub_eq_add_neg, Int32.sub_eq_add_neg, Int32.add_assoc, Int32.add_comm (-(nI c)), ← Int32.add_assoc]
  rfl
theorem sI_toInt {c j : Nat} (hc : c < 2 ^ 30) (hj : j < 2 ^ 30) : (sI c j).toInt = (j : Int) - c := pk_sub_toInt hj hc
theorem sI_le {c j m : Nat} (hc : c < 2 ^ 30) (hj : j < 2 ^ 30) (hm : m < 2 ^ 30) : sI c j ≤ nI m ↔ j ≤ m + c := by
  rw [Int32.le_iff_toInt_le, sI_toInt hc hj, nI_toInt (by omega)]
  omega
theorem sI_lt {c j m : Nat} (hc : c < 2 ^ 30) (hj : j < 2 ^ 30) (hm : m < 2 ^ 30) : sI c j < nI m ↔ j < m + c := by
  rw [Int32.lt_iff_toInt_lt, sI_toInt hc hj, nI_toInt (by omega)]
  omega
theorem f_small {z : Int} (h1 : -2 ^ 31 ≤ z) (h2 : z < 2 ^ 31) : z.bmod (2 ^ 32) = z := by
  rw [Int.bmod_eq_of_le] <;> omega
/-- the place in the ring -/
def rdN (x : Int32) : Nat := (x.toInt % 24).toNat
theorem rdN_lt (x : Int32) : rdN x < 24 := by
  unfold rdN
  omega
theorem tmod_pos {z : Int} (h : 0 ≤ z) : z.tmod 24 = z % 24 := Int.tmod_eq_emod_of_nonneg h
theorem tmod_neg {z : Int} (h : z < 0) : z.tmod 24 = z % 24 ∧ z % 24 = 0 ∨ z.tmod 24 = z % 24 - 24 ∧ ¬ z % 24 = 0 := by
  have e : z.tmod 24 = -((-z) % 24) := by
    rw [← tmod_pos (show 0 ≤ -z by omega), Int.neg_tmod, Int.neg_neg]
  rw [e]
  omega
theorem rdm_toInt (x : Int32) : (x - x / 24 * 24).toInt = x.toInt.tmod 24 := by
  have h1 := Int32.le_toInt x
  have h2 := Int32.toInt_lt x
  have e1 : (x / 24).toInt = x.toInt.tdiv 24 := by
    rw [Int32.toInt_div_of_ne_right _ _ (by decide)]
    rfl
  have e24 : (24 : Int32).toInt = 24 := rfl
  have h3 : x.toInt.tmod 24 = x.toInt - x.toInt.tdiv 24 * 24 := by
    rw [Int.tmod_def, Int.mul_comm]
  have h4 : -24 < x.toInt.tmod 24 ∧ x.toInt.tmod 24 < 24 := by
    constructor
    · exact Int.lt_tmod_of_pos _ (by decide)
    · exact Int.tmod_lt_of_pos _ (by decide)
  have h5 : (0 ≤ x.toInt ∧ 0 ≤ x.toInt.tmod 24) ∨ (x.toInt < 0 ∧ x.toInt.tmod 24 ≤ 0) := by
    by_cases hx : 0 ≤ x.toInt
    · exact Or.inl ⟨hx, by rw [tmod_pos hx]; omega⟩
    · exact Or.inr ⟨by omega, by have := tmod_neg (show x.toInt < 0 by omega); omega⟩
  rw [Int32.toInt_sub, Int32.toInt_mul, e1, e24, f_small (z := x.toInt.tdiv 24 * 24) (by omega) (by omega), f_small (by omega) (by omega), h3]
theorem nI_rdN (x : Int32) : (nI (rdN x)).toInt = x.toInt % 24 := by
  rw [nI_toInt (by have := rdN_lt x; omega)]
  unfold rdN
  omega
theorem xor24 (x : Int32) : 0 ≤ x ^^^ 24 ↔ 0 ≤ x := by
  rw [Int32.le_iff_toInt_le, Int32.le_iff_toInt_le, Int32.toInt_zero]
  have e1 : (x ^^^ 24).toInt = (x.toBitVec ^^^ (24 : BitVec 32)).toInt := rfl
  have e2 : x.toInt = x.toBitVec.toInt := rfl
  rw [e1, e2]
  have h1 : ∀ y : BitVec 32, 0 ≤ y.toInt ↔ y.msb = false := by
    intro y
    rw [BitVec.msb_eq_toInt]
    simp
  rw [h1, h1, BitVec.msb_xor]
  have h2 : (24 : BitVec 32).msb = false := by decide
  rw [h2]
  simp
theorem f_rd_eq (x : Int32) : f_rd x = nI (rdN x) := by
  apply Int32.toInt_inj.mp
  rw [nI_rdN]
  have h1 := Int32.le_toInt x
  have h2 := Int32.toInt_lt x
  have e0 : ∀ y : Int32, y = 0 ↔ y.toInt = 0 := by
    intro y
    constructor
    · intro z
      rw [z]
      rfl
    · intro z
      exact Int32.toInt_inj.mp z
  unfold f_rd f_fmod
  by_cases hx : 0 ≤ x
  · rw [if_pos ((xor24 x).mpr hx), rdm_toInt, tmod_pos]
    rw [Int32.le_iff_toInt_le] at hx
    exact hx
  · rw [if_neg (fun z => hx ((xor24 x).mp z))]
    have hx' : x.toInt < 0 := by
      rw [Int32.le_iff_toInt_le, Int32.toInt_zero] at hx
      omega
    have h3 := tmod_neg hx'
    by_cases h4 : x - x / 24 * 24 = 0
    · rw [if_pos h4, rdm_toInt]
      rw [e0, rdm_toInt] at h4
      omega
    · rw [if_neg h4, Int32.toInt_add, rdm_toInt]
      rw [e0, rdm_toInt] at h4
      have e24 : (24 : Int32).toInt = 24 := rfl
      rw [e24, f_small (by omega) (by omega)]
      omega
theorem f_ring_eq (x : Int32) : (x - x / 24 * 24 + 24) - (x - x / 24 * 24 + 24) / 24 * 24 = nI (rdN x) := by
  apply Int32.toInt_inj.mp
  rw [nI_rdN, rdm_toInt, Int32.toInt_add, rdm_toInt]
  have h1 := Int32.le_toInt x
  have h2 := Int32.toInt_lt x
  have e24 : (24 : Int32).toInt = 24 := rfl
  by_cases hx : 0 ≤ x.toInt
  · rw [tmod_pos hx, e24, f_small (by omega) (by omega), tmod_pos (by omega)]
    omega
  · have h3 := tmod_neg (show x.toInt < 0 by omega)
    rw [e24, f_small (by omega) (by omega), tmod_pos (by omega)]
    omega
theorem rdN_nI {s : Nat} (h : s < 24) : rdN (nI s) = s := by
  unfold rdN
  rw [nI_toInt (by omega)]
  omega
/-- a place and a turn by j less 6 -/
def tN (s j : Nat) : Nat := (s + j + 18) % 24
theorem tN_lt (s j : Nat) : tN s j < 24 := Nat.mod_lt _ (by decide)
theorem rdN_t {s j : Nat} (hs : s < 24) (hj : j < 13) : rdN (nI s + sI 6 j) = tN s j := by
  unfold rdN tN
  rw [Int32.toInt_add, nI_toInt (by omega), sI_toInt (by omega) (by omega), f_small (by omega) (by omega)]
  omega
theorem rdN_t2 {s j : Nat} (hs : s < 24) (hj : j < 5) : rdN (nI s + sI 2 j) = tN s (j + 4) := by
  unfold rdN tN
  rw [Int32.toInt_add, nI_toInt (by omega), sI_toInt (by omega) (by omega), f_small (by omega) (by omega)]
  omega
theorem vI {x y : Int32} (h : x = y) : some (Value.int x) = some (Value.int y) := by rw [h]
theorem vJ {x y : Int64} (h : x = y) : some (Value.long x) = some (Value.long y) := by rw [h]
theorem f_rd_lt (x : Int32) : ∃ j, j < 24 ∧ f_rd x = nI j := ⟨rdN x, rdN_lt x, f_rd_eq x⟩
