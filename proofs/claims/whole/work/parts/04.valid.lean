/-! what is to be checked of a method's table, by program -/
def lw_gd : List Jvm.Cond := lw_tbl.filter goodWord
def x_lk (pos : Nat) (w : Jvm.Cond) : Bool := match lw_tbl[pos]? with
  | some w' => decide (w' = w) && goodWord w
  | none => false
theorem x_lk_in {pos : Nat} {w : Jvm.Cond} (h : x_lk pos w = true) : w ∈ lw_gd := by
  unfold x_lk at h
  split at h
  · rename_i w' hw
    simp only [Bool.and_eq_true, decide_eq_true_eq] at h
    obtain ⟨rfl, h2⟩ := h
    exact List.mem_filter.mpr ⟨List.mem_of_getElem? hw, h2⟩
  · cases h
def x_isN (w : Jvm.Cond) : Bool := match w with
  | .methodLinkNest _ _ _ _ => true
  | _ => false
def lw_nest : List Jvm.Cond := lw_tbl.filter x_isN
def x_lkN (pos : Nat) (w : Jvm.Cond) : Bool := match lw_tbl[pos]? with
  | some w' => decide (w' = w) && x_isN w
  | none => false
theorem x_lkN_in {pos : Nat} {w : Jvm.Cond} (h : x_lkN pos w = true) : w ∈ lw_nest := by
  unfold x_lkN at h
  split at h
  · rename_i w' hw
    simp only [Bool.and_eq_true, decide_eq_true_eq] at h
    obtain ⟨rfl, h2⟩ := h
    exact List.mem_filter.mpr ⟨List.mem_of_getElem? hw, h2⟩
  · cases h
def x_len (i : Instr) : Nat := match i with
  | .bipush _ => 2
  | .ldc _ => 2
  | .iload _ => 2
  | .lload _ => 2
  | .aload _ => 2
  | .istore _ => 2
  | .lstore _ => 2
  | .astore _ => 2
  | .newarray _ => 2
  | .sipush _ => 3
  | .ldc_w _ => 3
  | .ldc2_w _ => 3
  | .iinc _ _ => 3
  | .ifCond _ _ => 3
  | .if_icmp _ _ => 3
  | .goto _ => 3
  | .ifnull _ => 3
  | .ifnonnull _ => 3
  | .anewarray _ => 3
  | .new _ => 3
  | .getfield _ => 3
  | .putfield _ => 3
  | .getstatic _ => 3
  | .invokestatic _ => 3
  | .invokespecial _ => 3
  | .invokevirtual _ => 3
  | _ => 1
def x_npar (y : MethodName) (n : Nat) : Bool := decide ((parseMethodDescriptor y.desc).map (fun d => d.parameters.length) = some n)
def x_okF (own : String) (idx ci k pos : Nat) (put : Bool) : Bool := match vwCl[ci]? with
  | some q => decide (k < q.2.2) && (x_lk pos (.fieldLink own idx (q.2.1 k).1 (q.2.1 k).2.1 (q.2.1 k).2.2.1) && (!put || (!(q.2.1 k).2.2.2 || decide ((q.2.1 k).1 = own))))
  | none => false
def x_okX (M : XM) (pc : Nat) (e : XE) : Bool := match e with
  | (ins, n, a, b, ci, pos) => match ins with
    | .ldc idx => x_lk pos (.constant M.1.cls idx (Int32.ofNat a))
    | .ldc_w idx => x_lk pos (.constant M.1.cls idx (Int32.ofNat a))
    | .ldc2_w idx => x_lk pos (.constantLong M.1.cls idx (Int64.ofNat a))
    | .ifCond _ off => decide ((pc : Int) + off = (a : Int))
    | .if_icmp _ off => decide ((pc : Int) + off = (a : Int))
    | .goto off => decide ((pc : Int) + off = (a : Int))
    | .ifnull off => decide ((pc : Int) + off = (a : Int))
    | .ifnonnull off => decide ((pc : Int) + off = (a : Int))
    | .getfield idx => x_okF M.1.cls idx ci b pos false
    | .putfield idx => x_okF M.1.cls idx ci b pos true
    | .getstatic idx => x_lk pos (.fieldLink M.1.cls idx RX4 "LETTERS" "[I")
    | .new idx => match vwCl[ci]? with
      | some q => x_lk pos (.classLink M.1.cls idx q.1)
      | none => false
    | .anewarray idx => match x_acl a with
      | some c => match vwCl[c]? with
        | some q => x_lk pos (.classLink M.1.cls idx q.1)
        | none => false
      | none => false
    | .invokestatic idx => if a = 9999 then x_lk pos (.methodLink M.1.cls idx arraycopyName) else match xT[a]?, xP[a]? with
      | some M', some p => (x_lk pos (.methodLink M.1.cls idx M'.1) || x_lkN pos (.methodLinkNest M.1.cls idx M'.1 "DomeSlit")) && (x_lk p.2.1 (.static M'.1) && x_npar M'.1 b)
      | _, _ => false
    | .invokespecial idx => if a = 9998 then x_lk pos (.methodLink M.1.cls idx objectInit) else match xT[a]?, xP[a]? with
      | some M', some p => (x_lk pos (.methodLink M.1.cls idx M'.1) || x_lkN pos (.methodLinkNest M.1.cls idx M'.1 "DomeSlit")) && (x_lk p.2.1 (.instanceMethod M'.1) && (x_npar M'.1 b && (decide (M'.1.name = "<init>") && decide (M'.2.2.2.1 = none))))
      | _, _ => false
    | .invokevirtual idx => match xT[a]?, xP[a]?, vwCl[ci]? with
      | some M', some p, some q => x_lk pos (.methodLink M.1.cls idx M'.1) && (x_lk p.2.1 (.instanceMethod M'.1) && (x_lk p.2.2.1 (.selects q.1 M'.1 M'.1) && (x_npar M'.1 b && decide (M'.1.cls = q.1))))
      | _, _, _ => false
    | _ => true
def x_okE (M : XM) (pc : Nat) (e : XE) : Bool := decide (e.1 = .nop) || ((match e.1 with
  | .tableswitch _ _ _ _ => decide (decode M.2.1 pc = .ok (e.1, e.2.1 - pc))
  | _ => decide (e.2.1 = pc + x_len e.1) && decide (decode M.2.1 pc = .ok (e.1, x_len e.1))) && x_okX M pc e)
def x_okL (M : XM) : Nat → List XE → Bool
  | _, [] => true
  | pc, e :: l => x_okE M pc e && x_okL M (pc + 1) l
theorem x_okL_at {M : XM} : ∀ (l : List XE) (k pc : Nat) (e : XE), x_okL M k l = true → l[pc]? = some e → x_okE M (k + pc) e = true
  | [], _, _, _, _, h => by simp at h
  | e0 :: l, k, pc, e, ho, h => by
    simp only [x_okL, Bool.and_eq_true] at ho
    cases pc with
    | zero =>
      rw [List.getElem?_cons_zero] at h
      cases h
      exact ho.1
    | succ pc =>
      rw [List.getElem?_cons_succ] at h
      have := x_okL_at l (k + 1) pc e ho.2 h
      rw [show k + (pc + 1) = k + 1 + pc by omega]
      exact this
/-- a method's own words -/
def x_okM (μ : Nat) (M : XM) : Bool := match xP[μ]? with
  | some p => x_lk p.1 (.code M.1 M.2.1 M.2.2.1 M.2.2.2.1) && (x_lk p.2.2.2 (.initialized M.1.cls) && (decide (M.1.cls ≠ "java/lang/invoke/MethodHandle") && (decide (M.1.cls ≠ "java/lang/invoke/VarHandle") && (plainFor M.1 && decide (M.2.2.1 ≤ 13)))))
  | none => false
