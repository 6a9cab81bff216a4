/-! OUR MACHINE AS A FUNCTION, for runs without unknowns (the constructors); it never reads the two arrays that nobody writes -/
def x_X0 : XX := (0, fun _ => 0)
def x_funN (M : XM) (pc : Nat) (e : XE) (L : XL) (st : List Value) (h : XH) : Option XO := match e.1 with
  | .iaload => match st with
    | _ :: .ref a :: _ => if a < 1000 then x_fun x_X0 M pc e L st h else none
    | _ => none
  | .arraylength => match st with
    | .ref a :: _ => if a < 1000 then x_fun x_X0 M pc e L st h else none
    | _ => none
  | _ => x_fun x_X0 M pc e L st h
theorem x_funN_ok {X : XX} {M : XM} {pc : Nat} {e : XE} {L : XL} {st : List Value} {h : XH} {q : XO} (hf : x_funN M pc e L st h = some q) : x_fun X M pc e L st h = some q := by
  obtain ⟨ins, n, a, b, ci, pos⟩ := e
  cases ins
  case iaload =>
    simp only [x_funN] at hf
    split at hf
    · rename_i v a r
      split at hf
      · rename_i ha
        rw [← hf]
        simp only [x_fun, x_iald]
        cases v <;> simp [x_ro_none ha]
      · cases hf
    · cases hf
  case arraylength =>
    simp only [x_funN] at hf
    split at hf
    · rename_i a r
      split at hf
      · rename_i ha
        rw [← hf]
        simp only [x_fun, x_alen, x_ro_none ha]
      · cases hf
    · cases hf
  case newarray t => cases t <;> exact hf
  all_goals exact hf
def x_exF (call : Nat → List Value → XH → Option (Option Value × XH)) (M : XM) : Nat → Nat → XL → List Value → XH → Option (Option Value × XH)
  | 0, _, _, _, _ => none
  | n + 1, pc, L, st, h => match M.2.2.2.2[pc]? with
    | none => none
    | some e => match x_funN M pc e L st h with
      | some (.inl q) => x_exF call M n q.1 q.2.1 q.2.2.1 q.2.2.2
      | some (.inr (.inl q)) => some q
      | some (.inr (.inr q)) => match call q.1 q.2.1 h with
        | some r => x_exF call M n e.2.1 L (r.1.toList ++ q.2.2) r.2
        | none => none
      | none => none
def x_exC (T : List XM) (fuel : Nat) : Nat → Nat → List Value → XH → Option (Option Value × XH)
  | 0, _, _, _ => none
  | d + 1, μ, as, h => match T[μ]? with
    | none => none
    | some M => if (as.flatMap x_exp).length ≤ M.2.2.1 then x_exF (x_exC T fuel d) M fuel 0 (x_ent as M.2.2.1) [] h else none
theorem x_exF_ok {X : XX} {M : XM} {c1 : Nat → List Value → XH → Option (Option Value × XH)} {c2 : Nat → List Value → XH → Option Value → XH → Prop} (hc : ∀ μ as h q, c1 μ as h = some q → c2 μ as h q.1 q.2) {r : Option Value} {h' : XH} : ∀ (n pc : Nat) (L : XL) (st : List Value) (h : XH), x_exF c1 M n pc L st h = some (r, h') → x_run X c2 M n pc L st h (fun r' h'' => r' = r ∧ h'' = h') := by
  intro n
  induction n with
  | zero => intro pc L st h hr; cases hr
  | succ n ih =>
    intro pc L st h hr
    simp only [x_exF] at hr
    split at hr
    · cases hr
    · rename_i e he
      refine ⟨e, he, ?_⟩
      split at hr
      · rename_i q hq
        rw [x_funN_ok (X := X) hq]
        exact ih _ _ _ _ hr
      · rename_i q hq
        rw [x_funN_ok (X := X) hq]
        cases hr
        exact ⟨rfl, rfl⟩
      · rename_i q hq
        rw [x_funN_ok (X := X) hq]
        split at hr
        · rename_i r1 hr1
          exact ⟨_, _, hc _ _ _ _ hr1, ih _ _ _ _ hr⟩
        · cases hr
      · cases hr
theorem x_exC_ok {X : XX} {T : List XM} {fuel : Nat} : ∀ (d μ : Nat) (as : List Value) (h : XH) (q : Option Value × XH), x_exC T fuel d μ as h = some q → x_ev X T d μ as h q.1 q.2 := by
  intro d
  induction d with
  | zero => intro μ as h q hr; cases hr
  | succ d ih =>
    intro μ as h q hr
    simp only [x_exC] at hr
    split at hr
    · cases hr
    · rename_i M hM
      split at hr
      · rename_i hl
        exact ⟨M, fuel, hM, hl, x_exF_ok (fun μ as h q hq => ih μ as h q hq) _ _ _ _ _ hr⟩
      · cases hr
