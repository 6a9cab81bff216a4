/-! stores once more, with a name for the new heap -/
theorem x_gs {h : XH} {a : Nat} {e e' : va_E} (ha : h[a]? = some e) : (h.set a e')[a]? = some e' := by
  have hl := (List.getElem?_eq_some_iff.mp ha).1
  simp [hl]
theorem x_gn {h : XH} {a y : Nat} {e : va_E} (hne : y ≠ a) {e' : va_E} (hb : h[y]? = some e') : (h.set a e)[y]? = some e' := by
  rw [List.getElem?_set_ne (Ne.symm hne)]
  exact hb
section QRules2
variable {X : XX} {d : Nat} {M : XM} {pc n a b ci pos : Nat} {L L' : XL} {st r : List Value} {h : XH} {P : Option Value → XH → Prop}
theorem q_putX {i x : Nat} {fs : List Value} {v : Value} {ty : FieldType} (hc : M.2.2.2.2[pc]? = some (.putfield i, n, a, b, ci, pos)) (ha : h[x]? = some (.inr (ci, fs))) (ht : x_ft ci b = some ty) (hb : b < fs.length) (hf : fits ty v = true) (hi : x_fin ci b = true → (M.1.name == "<init>") = true)
    (k : ∀ h1 : XH, h1 = h.set x (.inr (ci, fs.set b v)) → h1[x]? = some (.inr (ci, fs.set b v)) → (∀ (y : Nat) (e : va_E), y ≠ x → h[y]? = some e → h1[y]? = some e) → Wp X xT d M n L r h1 P) : Wp X xT d M pc L (v :: .ref x :: r) h P :=
  q_putfield hc ha ht hb hf hi (k _ rfl (x_gs ha) (fun _ _ hne hy => x_gn hne hy))
theorem q_iastX {x i : Int32} {y m : Nat} {f : Nat → Int32} (hc : M.2.2.2.2[pc]? = some (.iastore, n, a, b, ci, pos)) (ha : h[y]? = some (.inl (0, m, .inl f))) (hi : ¬ (i < 0 ∨ m ≤ i.toNatClampNeg))
    (k : ∀ h1 : XH, h1 = h.set y (.inl (0, m, .inl (upd f i.toNatClampNeg x))) → h1[y]? = some (.inl (0, m, .inl (upd f i.toNatClampNeg x))) → (∀ (z : Nat) (e : va_E), z ≠ y → h[z]? = some e → h1[z]? = some e) → Wp X xT d M n L r h1 P) : Wp X xT d M pc L (.int x :: .int i :: .ref y :: r) h P :=
  q_iastore hc ha hi (k _ rfl (x_gs ha) (fun _ _ hne hy => x_gn hne hy))
theorem q_lastX {x : Int64} {i : Int32} {y m : Nat} {f : Nat → Int64} (hc : M.2.2.2.2[pc]? = some (.lastore, n, a, b, ci, pos)) (ha : h[y]? = some (.inl (1, m, .inr (.inl f)))) (hi : ¬ (i < 0 ∨ m ≤ i.toNatClampNeg))
    (k : ∀ h1 : XH, h1 = h.set y (.inl (1, m, .inr (.inl (vp_updL f i.toNatClampNeg x)))) → h1[y]? = some (.inl (1, m, .inr (.inl (vp_updL f i.toNatClampNeg x)))) → (∀ (z : Nat) (e : va_E), z ≠ y → h[z]? = some e → h1[z]? = some e) → Wp X xT d M n L r h1 P) : Wp X xT d M pc L (.long x :: .int i :: .ref y :: r) h P :=
  q_lastore hc ha hi (k _ rfl (x_gs ha) (fun _ _ hne hy => x_gn hne hy))
theorem q_cpyX {i m0 m1 a0 a1 : Nat} {sp dp k0 : Int32} {f g : Nat → Int32} (hc : M.2.2.2.2[pc]? = some (.invokestatic i, n, a, b, ci, pos)) (ha9 : a = 9999) (h0 : h[a0]? = some (.inl (0, m0, .inl f))) (h1 : h[a1]? = some (.inl (0, m1, .inl g))) (hi : ¬ (sp < 0 ∨ dp < 0 ∨ k0 < 0 ∨ m0 < sp.toNatClampNeg + k0.toNatClampNeg ∨ m1 < dp.toNatClampNeg + k0.toNatClampNeg ∨ 8 < (r.map fun v => v.category).sum))
    (k : ∀ h2 : XH, h2 = h.set a1 (.inl (0, m1, .inl (va_cpy f g sp.toNatClampNeg dp.toNatClampNeg k0.toNatClampNeg))) → h2[a1]? = some (.inl (0, m1, .inl (va_cpy f g sp.toNatClampNeg dp.toNatClampNeg k0.toNatClampNeg))) → (∀ (z : Nat) (e : va_E), z ≠ a1 → h[z]? = some e → h2[z]? = some e) → Wp X xT d M n L r h2 P) : Wp X xT d M pc L (.int k0 :: .int dp :: .ref a1 :: .int sp :: .ref a0 :: r) h P :=
  q_cpy hc ha9 h0 h1 hi (k _ rfl (x_gs h1) (fun _ _ hne hy => x_gn hne hy))
end QRules2
/-- a switch by its number -/
def x_swI (pc : Nat) (d lo hi : Int) (offs : Array Int) (v : Int) : Option Nat :=
  if v < lo ∨ hi < v then x_tgt pc d else match offs[(v - lo).toNat]? with
    | some off => x_tgt pc off
    | none => none
theorem x_sw_i {pc : Nat} {d lo hi : Int} {offs : Array Int} {x : Int32} {v : Int} (h : x.toInt = v) : x_sw pc d lo hi offs x = x_swI pc d lo hi offs v := by
  subst h
  rfl
