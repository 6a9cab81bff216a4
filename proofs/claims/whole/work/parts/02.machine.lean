/-! A small machine of our own over the abstract heap: a step of a method is a function (x_fun); a run goes by fuel (x_run), a call by depth (x_ev). -/
abbrev XE : Type := Instr × Nat × Nat × Nat × Nat × Nat
abbrev XM : Type := MethodName × ByteArray × Nat × Option FieldType × List XE
abbrev XH : Type := List va_E
abbrev XL : Type := List (Option Value)
abbrev XX : Type := Nat × (Nat → Int32)
abbrev XO : Type := (Nat × XL × List Value × XH) ⊕ ((Option Value × XH) ⊕ (Nat × List Value × List Value))
def x_let (j : Nat) : Int32 := match j with
  | 0 => 115
  | 1 => 108
  | 2 => 104
  | 3 => 118
  | 4 => 112
  | _ => 102
def x_ro (X : XX) (a : Nat) : Option (Nat × (Nat → Int32)) := if a = 1000 then some X else if a = 1001 then some (6, x_let) else none
def x_ld (L : XL) (i : Nat) : Option Value := match L[i]? with
  | some (some v) => some v
  | _ => none
def x_clr (L : XL) (i : Nat) : XL := match i with
  | 0 => L
  | i + 1 => match L[i]? with
    | some (some v) => if v.category = 2 then L.set i none else L
    | _ => L
def x_st1 (L : XL) (i : Nat) (v : Value) : Option XL := if i < L.length then some ((x_clr L i).set i (some v)) else none
def x_st2 (L : XL) (i : Nat) (v : Value) : Option XL := if i + 1 < L.length then some (((x_clr L i).set (i + 1) none).set i (some v)) else none
def x_nx (n : Nat) (L : XL) (h : XH) (o : Option (List Value)) : Option XO := match o with
  | some st => some (.inl (n, L, st, h))
  | none => none
def x_sx (n : Nat) (st : List Value) (h : XH) (o : Option XL) : Option XO := match o with
  | some L => some (.inl (n, L, st, h))
  | none => none
def x_bI (f : Int32 → Int32 → Int32) (st : List Value) : Option (List Value) := match st with
  | .int y :: .int x :: r => some (.int (f x y) :: r)
  | _ => none
def x_dI (f : Int32 → Int32 → Int32) (st : List Value) : Option (List Value) := match st with
  | .int y :: .int x :: r => if y = 0 then none else some (.int (f x y) :: r)
  | _ => none
def x_bL (f : Int64 → Int64 → Int64) (st : List Value) : Option (List Value) := match st with
  | .long y :: .long x :: r => some (.long (f x y) :: r)
  | _ => none
def x_dL (f : Int64 → Int64 → Int64) (st : List Value) : Option (List Value) := match st with
  | .long y :: .long x :: r => if y = 0 then none else some (.long (f x y) :: r)
  | _ => none
def x_uI (f : Int32 → Value) (st : List Value) : Option (List Value) := match st with
  | .int x :: r => some (f x :: r)
  | _ => none
def x_uL (f : Int64 → Value) (st : List Value) : Option (List Value) := match st with
  | .long x :: r => some (f x :: r)
  | _ => none
def x_isI : Value → Bool
  | .int _ => true
  | _ => false
def x_isL : Value → Bool
  | .long _ => true
  | _ => false
def x_isA : Value → Bool
  | .ref _ => true
  | .null => true
  | _ => false
def x_lc (p : Value → Bool) (L : XL) (i : Nat) (st : List Value) : Option (List Value) := match x_ld L i with
  | some v => if p v = true then some (v :: st) else none
  | none => none
def x_cI (n : Nat) (L : XL) (i : Nat) (st : List Value) (h : XH) : Option XO := match st with
  | .int x :: r => x_sx n r h (x_st1 L i (.int x))
  | _ => none
def x_cL (n : Nat) (L : XL) (i : Nat) (st : List Value) (h : XH) : Option XO := match st with
  | .long x :: r => x_sx n r h (x_st2 L i (.long x))
  | _ => none
def x_cA (n : Nat) (L : XL) (i : Nat) (st : List Value) (h : XH) : Option XO := match st with
  | .ref x :: r => x_sx n r h (x_st1 L i (.ref x))
  | .null :: r => x_sx n r h (x_st1 L i .null)
  | _ => none
def x_cnd (c : Jvm.ClassFile.Cond) (x y : Int32) : Prop := match c with
  | .eq => x = y
  | .ne => ¬ x = y
  | .lt => x < y
  | .ge => y ≤ x
  | .gt => y < x
  | .le => x ≤ y
def x_cdc (c : Jvm.ClassFile.Cond) (x y : Int32) : Bool := match c with
  | .eq => decide (x = y)
  | .ne => decide (¬ x = y)
  | .lt => decide (x < y)
  | .ge => decide (y ≤ x)
  | .gt => decide (y < x)
  | .le => decide (x ≤ y)
theorem x_cdc_iff (c : Jvm.ClassFile.Cond) (x y : Int32) : x_cdc c x y = true ↔ x_cnd c x y := by
  cases c <;> simp [x_cdc, x_cnd]
def x_tgt (pc : Nat) (off : Int) : Option Nat := if (pc : Int) + off < 0 then none else some ((pc : Int) + off).toNat
def x_sw (pc : Nat) (d lo hi : Int) (offs : Array Int) (x : Int32) : Option Nat :=
  if x.toInt < lo ∨ hi < x.toInt then x_tgt pc d else match offs[(x.toInt - lo).toNat]? with
    | some off => x_tgt pc off
    | none => none
/-- the fields' types, by class -/
def x_fts : List (List FieldType) := [[.object "DomeSlit$Slit", .object "DomeSlit$View", .array .int, .array .int], [.int, .int, .int, .int], [.array .int, .int], [.array .int, .int, .int, .int, .int], [.array .int, .int, .int, .int, .int, .boolean], [.object "DomeSlit$View", .array .long, .array .long, .long], [.int, .int], [.array .int], [.array (.object "DomeSlit$Line"), .array (.object "DomeSlit$Line"), .object "DomeSlit$Reader", .array (.object "DomeSlit$Light"), .object "DomeSlit$Light", .object "DomeSlit$Slit", .object "DomeSlit$Night", .array (.object "DomeSlit$Night"), .object "DomeSlit$View", .object "DomeSlit$Follower", .object "DomeSlit$Sleeper", .array .int, .int, .int, .int, .long, .long], [.array .int, .int, .int, .int, .array .int, .array .int, .array .int, .array .int, .array .int, .array .int, .array .int, .array .int, .int, .long, .long, .int, .array .int, .int, .int, .int, .int, .int, .array .int, .int, .array .int, .array .int, .array .int, .array .int, .array .int, .array .int, .array .int, .int, .boolean]]
def x_ft (ci k : Nat) : Option FieldType := match x_fts[ci]? with
  | some l => l[k]?
  | none => none
def x_def (ty : FieldType) : Value := match ty with
  | .long => .long 0
  | .object _ => .null
  | .array _ => .null
  | _ => .int 0
/-- which class's objects an array of references holds -/
def x_acl (t : Nat) : Option Nat := match t with
  | 2 => some 2
  | 3 => some 1
  | 4 => some 3
  | _ => none
def x_fin (ci k : Nat) : Bool := match vwCl[ci]? with
  | some q => (q.2.1 k).2.2.2
  | none => false
def x_get (n : Nat) (L : XL) (st : List Value) (h : XH) (ci k : Nat) : Option XO := match st with
  | .ref a :: r => match h[a]? with
    | some (.inr (c, fs)) => if c = ci then x_nx n L h ((fs[k]?).map (fun v => v :: r)) else none
    | _ => none
  | _ => none
def x_put (init : Bool) (n : Nat) (L : XL) (st : List Value) (h : XH) (ci k : Nat) : Option XO := match st with
  | v :: .ref a :: r => match h[a]? with
    | some (.inr (c, fs)) => match x_ft ci k with
      | some ty => if c = ci ∧ k < fs.length ∧ fits ty v = true ∧ (x_fin ci k = true → init = true) then some (.inl (n, L, r, h.set a (.inr (c, fs.set k v)))) else none
      | none => none
    | _ => none
  | _ => none
def x_iald (X : XX) (n : Nat) (L : XL) (st : List Value) (h : XH) : Option XO := match st with
  | .int i :: .ref a :: r => match x_ro X a with
    | some q => if i < 0 ∨ q.1 ≤ i.toNatClampNeg then none else some (.inl (n, L, .int (q.2 i.toNatClampNeg) :: r, h))
    | none => match h[a]? with
      | some (.inl (0, m, .inl f)) => if i < 0 ∨ m ≤ i.toNatClampNeg then none else some (.inl (n, L, .int (f i.toNatClampNeg) :: r, h))
      | _ => none
  | _ => none
def x_iast (n : Nat) (L : XL) (st : List Value) (h : XH) : Option XO := match st with
  | .int x :: .int i :: .ref a :: r => match h[a]? with
      | some (.inl (0, m, .inl f)) => if i < 0 ∨ m ≤ i.toNatClampNeg then none else some (.inl (n, L, r, h.set a (.inl (0, m, .inl (upd f i.toNatClampNeg x)))))
      | _ => none
  | _ => none
def x_lald (n : Nat) (L : XL) (st : List Value) (h : XH) : Option XO := match st with
  | .int i :: .ref a :: r => match h[a]? with
      | some (.inl (1, m, .inr (.inl f))) => if i < 0 ∨ m ≤ i.toNatClampNeg then none else some (.inl (n, L, .long (f i.toNatClampNeg) :: r, h))
      | _ => none
  | _ => none
def x_last (n : Nat) (L : XL) (st : List Value) (h : XH) : Option XO := match st with
  | .long x :: .int i :: .ref a :: r => match h[a]? with
      | some (.inl (1, m, .inr (.inl f))) => if i < 0 ∨ m ≤ i.toNatClampNeg then none else some (.inl (n, L, r, h.set a (.inl (1, m, .inr (.inl (vp_updL f i.toNatClampNeg x))))))
      | _ => none
  | _ => none
def x_aald (n : Nat) (L : XL) (st : List Value) (h : XH) : Option XO := match st with
  | .int i :: .ref a :: r => match h[a]? with
      | some (.inl (t, m, .inr (.inr (.inr (.inr f))))) => if i < 0 ∨ m ≤ i.toNatClampNeg ∨ (x_acl t).isNone = true then none else some (.inl (n, L, va_rf (f i.toNatClampNeg) :: r, h))
      | _ => none
  | _ => none
def x_aast (n : Nat) (L : XL) (st : List Value) (h : XH) : Option XO := match st with
  | .ref v :: .int i :: .ref a :: r => match h[a]? with
      | some (.inl (t, m, .inr (.inr (.inr (.inr f))))) => match h[v]? with
        | some (.inr (c, _)) => if i < 0 ∨ m ≤ i.toNatClampNeg ∨ ¬ x_acl t = some c then none else some (.inl (n, L, r, h.set a (.inl (t, m, .inr (.inr (.inr (.inr (va_up f i.toNatClampNeg (some v)))))))))
        | _ => none
      | _ => none
  | _ => none
def x_alen (X : XX) (n : Nat) (L : XL) (st : List Value) (h : XH) : Option XO := match st with
  | .ref a :: r => match x_ro X a with
    | some q => some (.inl (n, L, .int (Int32.ofNat q.1) :: r, h))
    | none => match h[a]? with
      | some (.inl (t, m, _)) => if t < 5 then some (.inl (n, L, .int (Int32.ofNat m) :: r, h)) else none
      | _ => none
  | _ => none
def x_newa (n : Nat) (L : XL) (st : List Value) (h : XH) (a0 : Nat → va_E) : Option XO := match st with
  | .int i :: r => if i < 0 ∨ 1000000 < i.toNatClampNeg ∨ 1000 ≤ h.length then none else some (.inl (n, L, .ref h.length :: r, h ++ [a0 i.toNatClampNeg]))
  | _ => none
def x_newo (n : Nat) (L : XL) (st : List Value) (h : XH) (ci : Nat) : Option XO := match x_fts[ci]? with
  | some l => if 1000 ≤ h.length then none else some (.inl (n, L, .ref h.length :: st, h ++ [.inr (ci, l.map x_def)]))
  | none => none
def x_cpy (n : Nat) (L : XL) (st : List Value) (h : XH) : Option XO := match st with
  | .int k :: .int dp :: .ref a1 :: .int sp :: .ref a0 :: r => match h[a0]? with
    | some (.inl (0, m0, .inl f)) => match h[a1]? with
      | some (.inl (0, m1, .inl g)) => if sp < 0 ∨ dp < 0 ∨ k < 0 ∨ m0 < sp.toNatClampNeg + k.toNatClampNeg ∨ m1 < dp.toNatClampNeg + k.toNatClampNeg ∨ 8 < (r.map fun v => v.category).sum then none else some (.inl (n, L, r, h.set a1 (.inl (0, m1, .inl (va_cpy f g sp.toNatClampNeg dp.toNatClampNeg k.toNatClampNeg)))))
      | _ => none
    | _ => none
  | _ => none
def x_call (μ n : Nat) (st : List Value) : Option XO := if st.length < n ∨ 8 < ((st.drop n).map fun v => v.category).sum then none else some (.inr (.inr (μ, (st.take n).reverse, st.drop n)))
def x_oin (n : Nat) (L : XL) (st : List Value) (h : XH) : Option XO := match st with
  | .ref _ :: r => if 8 < (r.map fun v => v.category).sum then none else some (.inl (n, L, r, h))
  | _ => none
def x_callV (μ n ci : Nat) (st : List Value) (h : XH) : Option XO := match st[n]? with
  | some (.ref a) => match h[a]? with
    | some (.inr (c, _)) => if c = ci then x_call μ (n + 1) st else none
    | _ => none
  | _ => none
def x_callI (μ n : Nat) (st : List Value) : Option XO := match st[n]? with
  | some (.ref _) => x_call μ (n + 1) st
  | _ => none
def x_dup (st : List Value) : Option (List Value) := match st with
  | v :: r => if v.category = 1 then some (v :: v :: r) else none
  | _ => none
def x_dup2 (st : List Value) : Option (List Value) := match st with
  | v :: w :: r => if v.category = 1 ∧ w.category = 1 then some (v :: w :: v :: w :: r) else none
  | _ => none
def x_pop (st : List Value) : Option (List Value) := match st with
  | v :: r => if v.category = 1 then some r else none
  | _ => none
def x_ret (ty : Option FieldType) (st : List Value) (h : XH) : Option XO := match ty, st with
  | some t, [.int v] => if narrow t (.int v) = .int v then some (.inr (.inl (some (.int v), h))) else none
  | _, _ => none
def x_retL (ty : Option FieldType) (st : List Value) (h : XH) : Option XO := match ty, st with
  | some .long, [.long v] => some (.inr (.inl (some (.long v), h)))
  | _, _ => none
def x_retA (ty : Option FieldType) (st : List Value) (h : XH) : Option XO := match ty, st with
  | some (.object _), [.ref v] => some (.inr (.inl (some (.ref v), h)))
  | some (.object _), [.null] => some (.inr (.inl (some .null, h)))
  | _, _ => none
def x_retV (ty : Option FieldType) (st : List Value) (h : XH) : Option XO := match ty, st with
  | none, [] => some (.inr (.inl (none, h)))
  | _, _ => none
def x_inc (n : Nat) (L : XL) (st : List Value) (h : XH) (i : Nat) (k : Int) : Option XO := match x_ld L i with
  | some (.int x) => x_sx n st h (x_st1 L i (.int (x + Int32.ofInt k)))
  | _ => none
def x_fun (X : XX) (M : XM) (pc : Nat) (e : XE) (L : XL) (st : List Value) (h : XH) : Option XO := match e with
  | (ins, n, a, b, ci, _) => match ins with
    | .aconst_null => some (.inl (n, L, .null :: st, h))
    | .iconst k => some (.inl (n, L, .int (Int32.ofInt k) :: st, h))
    | .bipush k => some (.inl (n, L, .int (Int8.ofInt k).toInt32 :: st, h))
    | .sipush k => some (.inl (n, L, .int (Int16.ofInt k).toInt32 :: st, h))
    | .lconst k => some (.inl (n, L, .long (Int64.ofNat (k : Nat)) :: st, h))
    | .ldc _ => some (.inl (n, L, .int (Int32.ofNat a) :: st, h))
    | .ldc_w _ => some (.inl (n, L, .int (Int32.ofNat a) :: st, h))
    | .ldc2_w _ => some (.inl (n, L, .long (Int64.ofNat a) :: st, h))
    | .iload i => x_nx n L h (x_lc x_isI L i st)
    | .iload_n i => x_nx n L h (x_lc x_isI L (i : Nat) st)
    | .lload i => x_nx n L h (x_lc x_isL L i st)
    | .lload_n i => x_nx n L h (x_lc x_isL L (i : Nat) st)
    | .aload i => x_nx n L h (x_lc x_isA L i st)
    | .aload_n i => x_nx n L h (x_lc x_isA L (i : Nat) st)
    | .istore i => x_cI n L i st h
    | .istore_n i => x_cI n L (i : Nat) st h
    | .lstore i => x_cL n L i st h
    | .lstore_n i => x_cL n L (i : Nat) st h
    | .astore i => x_cA n L i st h
    | .astore_n i => x_cA n L (i : Nat) st h
    | .iinc i k => x_inc n L st h i k
    | .iadd => x_nx n L h (x_bI (fun x y => x + y) st)
    | .isub => x_nx n L h (x_bI (fun x y => x - y) st)
    | .imul => x_nx n L h (x_bI (fun x y => x * y) st)
    | .iand => x_nx n L h (x_bI (fun x y => x &&& y) st)
    | .ior => x_nx n L h (x_bI (fun x y => x ||| y) st)
    | .ixor => x_nx n L h (x_bI (fun x y => x ^^^ y) st)
    | .ishl => x_nx n L h (x_bI (fun x y => x <<< (y &&& 31)) st)
    | .ishr => x_nx n L h (x_bI (fun x y => x >>> (y &&& 31)) st)
    | .iushr => x_nx n L h (x_bI (fun x y => (x.toUInt32 >>> (y.toUInt32 &&& Int32.toUInt32 31)).toInt32) st)
    | .idiv => x_nx n L h (x_dI (fun x y => x / y) st)
    | .irem => x_nx n L h (x_dI (fun x y => x - x / y * y) st)
    | .ineg => x_nx n L h (x_uI (fun x => .int (-x)) st)
    | .i2l => x_nx n L h (x_uI (fun x => .long x.toInt64) st)
    | .i2b => x_nx n L h (x_uI (fun x => .int x.toInt8.toInt32) st)
    | .l2i => x_nx n L h (x_uL (fun x => .int x.toInt32) st)
    | .ladd => x_nx n L h (x_bL (fun x y => x + y) st)
    | .lmul => x_nx n L h (x_bL (fun x y => x * y) st)
    | .ldiv => x_nx n L h (x_dL (fun x y => x / y) st)
    | .lrem => x_nx n L h (x_dL (fun x y => x - x / y * y) st)
    | .lcmp => match st with
      | .long y :: .long x :: r => some (.inl (n, L, .int (lg_cmp x y) :: r, h))
      | _ => none
    | .dup => x_nx n L h (x_dup st)
    | .dup2 => x_nx n L h (x_dup2 st)
    | .pop => x_nx n L h (x_pop st)
    | .ifCond c _ => match st with
      | .int x :: r => some (.inl (if x_cdc c x 0 = true then a else n, L, r, h))
      | _ => none
    | .if_icmp c _ => match st with
      | .int y :: .int x :: r => some (.inl (if x_cdc c x y = true then a else n, L, r, h))
      | _ => none
    | .goto _ => some (.inl (a, L, st, h))
    | .ifnull _ => match st with
      | .ref _ :: r => some (.inl (n, L, r, h))
      | .null :: r => some (.inl (a, L, r, h))
      | _ => none
    | .ifnonnull _ => match st with
      | .ref _ :: r => some (.inl (a, L, r, h))
      | .null :: r => some (.inl (n, L, r, h))
      | _ => none
    | .tableswitch d lo hi offs => match st with
      | .int x :: r => match x_sw pc d lo hi offs x with
        | some t => some (.inl (t, L, r, h))
        | none => none
      | _ => none
    | .iaload => x_iald X n L st h
    | .iastore => x_iast n L st h
    | .laload => x_lald n L st h
    | .lastore => x_last n L st h
    | .aaload => x_aald n L st h
    | .aastore => x_aast n L st h
    | .arraylength => x_alen X n L st h
    | .newarray .int => x_newa n L st h (fun m => .inl (0, m, .inl (fun _ => 0)))
    | .newarray .long => x_newa n L st h (fun m => .inl (1, m, .inr (.inl (fun _ => 0))))
    | .anewarray _ => if (x_acl a).isNone = true then none else x_newa n L st h (fun m => .inl (a, m, .inr (.inr (.inr (.inr (fun _ => none))))))
    | .new _ => x_newo n L st h ci
    | .getfield _ => x_get n L st h ci b
    | .putfield _ => x_put (M.1.name == "<init>") n L st h ci b
    | .getstatic _ => some (.inl (n, L, .ref 1001 :: st, h))
    | .invokestatic _ => if a = 9999 then x_cpy n L st h else x_call a b st
    | .invokespecial _ => if a = 9998 then x_oin n L st h else x_callI a b st
    | .invokevirtual _ => x_callV a b ci st h
    | .ireturn => x_ret M.2.2.2.1 st h
    | .lreturn => x_retL M.2.2.2.1 st h
    | .areturn => x_retA M.2.2.2.1 st h
    | .return_ => x_retV M.2.2.2.1 st h
    | _ => none
def x_run (X : XX) (call : Nat → List Value → XH → Option Value → XH → Prop) (M : XM) : Nat → Nat → XL → List Value → XH → (Option Value → XH → Prop) → Prop
  | 0, _, _, _, _, _ => False
  | n + 1, pc, L, st, h, P => ∃ e, M.2.2.2.2[pc]? = some e ∧ match x_fun X M pc e L st h with
    | some (.inl q) => x_run X call M n q.1 q.2.1 q.2.2.1 q.2.2.2 P
    | some (.inr (.inl q)) => P q.1 q.2
    | some (.inr (.inr q)) => ∃ r1 h1, call q.1 q.2.1 h r1 h1 ∧ x_run X call M n e.2.1 L (r1.toList ++ q.2.2) h1 P
    | none => False
def x_exp (v : Value) : List (Option Value) := if v.category = 2 then [some v, none] else [some v]
def x_ent (args : List Value) (maxL : Nat) : XL := args.flatMap x_exp ++ List.replicate (maxL - (args.flatMap x_exp).length) none
def x_ev (X : XX) (T : List XM) : Nat → Nat → List Value → XH → Option Value → XH → Prop
  | 0, _, _, _, _, _ => False
  | d + 1, μ, args, h, r, h' => ∃ M n, T[μ]? = some M ∧ (args.flatMap x_exp).length ≤ M.2.2.1 ∧ x_run X (x_ev X T d) M n 0 (x_ent args M.2.2.1) [] h (fun r' h'' => r' = r ∧ h'' = h')
/-- the judgement in which methods are proved -/
def Wp (X : XX) (T : List XM) (d : Nat) (M : XM) (pc : Nat) (L : XL) (st : List Value) (h : XH) (P : Option Value → XH → Prop) : Prop := ∃ n, x_run X (x_ev X T d) M n pc L st h P
