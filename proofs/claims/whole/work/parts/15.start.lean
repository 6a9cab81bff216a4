-- ===== end of PART A; then your names; then what follows =====
/-! THE CLAIM OUT OF ONE WALK OF THE LAW'S BODY. Your part is whole_start (and what it stands on); all else here is the same for every law, but numbers. -/
def R_law : String := "DomeSlitLaw"
def lw_P (b : Addr) (xs : List Int32) (args : Array Value) (s : State) : Prop := args = #[.ref b] ∧ s.IntsAt b xs ∧ xs.length ≤ 384 ∧ (Jvm.Cond.and given_1 narrow_1).before args s = true
def lw_Q (_ : Array Value) (s : State) (o : Outcome) (t : State) : Prop := o = .returned (some (.int 1)) ∧ Framed s o t [] 600000 7302250
def lw_Z (below : List Frame) (a : Array Value) (s : State) : State → Prop := fun t => ∃ o, t.status = .running ∧ Ended t below o ∧ lw_Q a s o t
/-- the law's own end, with 1 on the stack, nothing written that was there before, its room as the claim has it -/
theorem lw_ret {p : Program} {l : Launch} {e : Env} {s : State} {m : MethodId} {below : List Frame} {meth : Method} {c : Code} {b : Nat} (hx : p.tables.exec = Jvm.exec) (hb : c.code = code) (hr : meth.sig.returnType = ret) (hlocks : meth.locks = false) {pc : Nat} {H : Heap} {ls : Array Slot} (hdg : decode code pc = .ok (.ireturn, 1)) : W p l e room_1 s m #[Value.ref b] below meth c H [] 600000 7302250 (lw_Z below #[Value.ref b] s) (F0 m pc ls [.int 1]) := by
  intro T hT X
  obtain ⟨fs, hret, hrun, hended, hW, hframe⟩ := X.leave (v := some (.int 1)) (hlocks := hlocks) (fun h => by rw [hr] at h; cases h)
  have hmeth' : T.vm.method? m = some meth := X.method'
  refine ⟨T.setFrames fs, ?_, .returned (some (.int 1)), hrun, hended, rfl, ⟨_, rfl⟩, hW, hframe⟩
  jvm_step X.here [X.here.top, hx, hb, hdg, hmeth', hr, ret, narrow_b1]
  (try refine ⟨rfl, ?_⟩); (try refine ⟨rfl, ?_⟩)
  first | (intro acts; rw [hret _ acts rfl rfl rfl]) | rw [hret _ _ rfl rfl rfl]
  exact Steps.refl _
/-- what holds at the law's entry: the machine, the code, the tables' words (any of lw_tbl by 'hts w (by decide +kernel)'), the script of L ints xs at the cell b, what the Statement gives of the start (any of its parts by flat_of_before) -/
def lw_At (p : Program) (s : State) (m : MethodId) (meth : Method) (c : Code) (b L : Nat) (xs : Nat → Int32) : Prop :=
  p.tables.exec = Jvm.exec ∧ c.code = code ∧ meth.sig.returnType = ret ∧ c.maxLocals = 4 ∧ s.vm.findClass R_law = some m.cls ∧ (∀ w ∈ lw_tbl, w.before #[Value.ref b] s = true) ∧ va_X b L xs s s.heap ∧ b < s.heap.size ∧ meth.locks = false ∧ (Jvm.Cond.and given_1 narrow_1).before #[Value.ref b] s = true
/-! THE LAW OUT OF A RUN OF OUR MACHINE -/
theorem x_arr {s : State} {args : Array Value} {ty : FieldType} (hty : ty = .int ∨ ty = .long) (h : (Jvm.Cond.arrayClass ty).before args s = true) : ∃ cA : ClassId, ArrOfT s cA ty ∧ va_RA s cA ty := by
  obtain ⟨cA, kA, comp, h1, h2, h3⟩ := Cond.arrayClass_spec h
  refine ⟨cA, fun n z => ⟨fun k h => (by cases h), kA, h2, comp, h3⟩, ?_⟩
  rcases hty with rfl | rfl <;> exact h1
theorem x_arro {s : State} {args : Array Value} {C : String} (h : (Jvm.Cond.arrayOver (.object C)).before args s = true) : ∃ cA : ClassId, ArrOfT s cA (.object C) ∧ va_RA s cA (.object C) := by
  obtain ⟨comp, cA, kA, h1, -, h3, h4, h5⟩ := Cond.arrayOver_spec h
  exact ⟨cA, fun n z => ⟨fun k h => (by cases h), kA, h3, comp, h4⟩, kA, comp, h3, h4, h1, h5⟩
set_option maxRecDepth 100000 in
theorem x_wl2 : Jvm.Cond.arrayOver (.object RX2) ∈ lw_tbl := by decide +kernel
set_option maxRecDepth 100000 in
theorem x_wl1 : Jvm.Cond.arrayOver (.object RX1) ∈ lw_tbl := by decide +kernel
set_option maxRecDepth 100000 in
theorem x_wl3 : Jvm.Cond.arrayOver (.object RX3) ∈ lw_tbl := by decide +kernel
set_option maxRecDepth 100000 in
theorem x_wls : Jvm.Cond.laysStatic RX4 "LETTERS" "[I" ∈ lw_tbl := by decide +kernel
theorem x_gdT {w : Jvm.Cond} (h : w ∈ lw_gd) : w ∈ lw_tbl := (List.mem_filter.mp h).1
theorem x_KC {s : State} {args : Array Value} (hts : ∀ w ∈ lw_gd, w.before args s = true) : ∃ (dC : Nat → ClassId) (dI : Nat → Nat → Nat), ∀ (k : Nat) (q : vw_C), vwCl[k]? = some q → u_Kn s q.1 q.2.1 q.2.2 (dC k) (dI k) := by
  have key : ∀ k : Nat, ∃ (c : ClassId) (i : Nat → Nat), ∀ q : vw_C, vwCl[k]? = some q → u_Kn s q.1 q.2.1 q.2.2 c i := by
    intro k
    cases hk : vwCl[k]? with
    | none => exact ⟨0, fun _ => 0, fun q h => by cases h⟩
    | some q =>
      obtain ⟨ty0, lf2, e1, e2, e3, e4, e5, hw, hi1, hi2⟩ := x_CI_at hk
      obtain ⟨c, i, h⟩ := u_known (C := q.1) (T := q.2.1) (N := q.2.2) (n := q.2.2) hts hw (hts _ hi1)
      exact ⟨c, i, fun q' h' => by cases h'; exact h⟩
  exact ⟨fun k => Classical.choose (key k), fun k => Classical.choose (Classical.choose_spec (key k)), fun k q h => Classical.choose_spec (Classical.choose_spec (key k)) q h⟩
set_option maxHeartbeats 4000000 in
set_option maxRecDepth 100000 in
theorem x_letters {s : State} {args : Array Value} (hgv : (Jvm.Cond.and given_1 narrow_1).before args s = true) {A : Nat → Prop} (hA : ∀ a : Nat, a < s.heap.size → ¬ A a) : ∃ t : Nat, (Term.static RX4 "LETTERS" "[I").eval args s none [] s = some (.ref t) ∧ va_T .int t 6 (fun j => .int (x_let j)) A s s.heap := by
  have hs := flat_of_before _ hgv
  refine va_Tof (Nat.le_of_ble_eq_true rfl) (hs (.arrayOf (.static RX4 "LETTERS" "[I") .int) (by decide +kernel)) (va_eqt (hs (.eq (.length (.static RX4 "LETTERS" "[I")) (.int 6)) (by decide +kernel))) (fun j hj => ?_) hA
  rcases (show j = 0 ∨ j = 1 ∨ j = 2 ∨ j = 3 ∨ j = 4 ∨ j = 5 by omega) with rfl | rfl | rfl | rfl | rfl | rfl
  · exact va_eqt (hs (.eq (.elem (.static RX4 "LETTERS" "[I") (.int 0)) (.int 115)) (by decide +kernel))
  · exact va_eqt (hs (.eq (.elem (.static RX4 "LETTERS" "[I") (.int 1)) (.int 108)) (by decide +kernel))
  · exact va_eqt (hs (.eq (.elem (.static RX4 "LETTERS" "[I") (.int 2)) (.int 104)) (by decide +kernel))
  · exact va_eqt (hs (.eq (.elem (.static RX4 "LETTERS" "[I") (.int 3)) (.int 118)) (by decide +kernel))
  · exact va_eqt (hs (.eq (.elem (.static RX4 "LETTERS" "[I") (.int 4)) (.int 112)) (by decide +kernel))
  · exact va_eqt (hs (.eq (.elem (.static RX4 "LETTERS" "[I") (.int 5)) (.int 102)) (by decide +kernel))
/-- what is to be shown of our machine's run of the law -/
def x_law : Prop := ∀ X : XX, X.1 ≤ 384 → Wp X xT 8 mL_law 0 [some (.ref 1000), none, none, none] [] [] (fun r h' => r = some (.int 1) ∧ h'.length ≤ 600000 ∧ x_ss h' ≤ 7302250)
set_option maxHeartbeats 4000000 in
set_option maxRecDepth 100000 in
theorem whole_start_of (hlaw : x_law) {p : Program} {e : Env} {s : State} {m : MethodId} {below : List Frame} {meth : Method} {c : Code} (l : Launch) {b L : Nat} {xs : Nat → Int32} (hL : L ≤ 384) (C0 : lw_At p s m meth c b L xs) : W p l e room_1 s m #[Value.ref b] below meth c s.heap [] 0 0 (lw_Z below #[Value.ref b] s) (entryFrame m ([Value.ref b] : List Value).toArray 4) := by
  obtain ⟨hx, hb, hr, hml, hown, hts, hX, hbl, hlocks, hgv⟩ := C0
  have htg : ∀ w ∈ lw_gd, w.before #[Value.ref b] s = true := fun w h => hts w (x_gdT h)
  obtain ⟨dC, dI, hKc⟩ := x_KC htg
  obtain ⟨a0, A0⟩ := x_arr (Or.inl rfl) (htg _ x_wint)
  obtain ⟨a1, A1⟩ := x_arr (Or.inr rfl) (htg _ x_wlong)
  obtain ⟨a2, A2⟩ := x_arro (hts _ x_wl2)
  obtain ⟨a3, A3⟩ := x_arro (hts _ x_wl1)
  obtain ⟨a4, A4⟩ := x_arro (hts _ x_wl3)
  obtain ⟨tL, hev, hT⟩ := x_letters hgv (A := fun q => s.heap.size ≤ q) (fun a h => Nat.not_le.mpr h)
  obtain ⟨g, hg⟩ : ∃ g : XG, g = (s.heap.size, b, tL, fun k => if k = 0 then a0 else if k = 1 then a1 else if k = 2 then a2 else if k = 3 then a3 else a4) := ⟨_, rfl⟩
  have hgz : g.1 = s.heap.size := by rw [hg]
  have hA : x_A g = fun q => s.heap.size ≤ q := by unfold x_A; rw [hgz]
  have hK : va_K (dC, dI) vwCl (x_tys g) s := by
    refine ⟨hKc, fun k q h => ?_⟩
    subst hg
    match k, h with
    | 0, h => cases h; exact A0
    | 1, h => cases h; exact A1
    | 2, h => cases h; exact A2
    | 3, h => cases h; exact A3
    | 4, h => cases h; exact A4
    | k + 5, h => simp [x_tys] at h
  have hRO : x_RO g (L, xs) s s.heap := by
    unfold x_RO
    rw [hA]
    subst hg
    exact ⟨hX, hbl, va_Zof (hts _ x_wls) (hts _ (x_gdT x_CI4.choose_spec.choose_spec.2.2.2.2.2.2.2)) hev (fun a h => Nat.not_le.mpr h), hT⟩
  have hNW : x_NW s := by
    refine ⟨fun w hw => ?_, va_AO.of (hts _ x_wl2), va_AO.of (hts _ x_wl1), va_AO.of (hts _ x_wl3)⟩
    have h1 := hts w (List.mem_filter.mp hw).1
    have h6 := (List.mem_filter.mp hw).2
    cases w <;> first | (simp [x_isN] at h6; done) | exact va_tabs rfl rfl h1
  obtain ⟨n, hn⟩ := hlaw (L, xs) hL
  obtain ⟨r, h', ⟨hr1, hc1, hc2⟩, hrun⟩ := x_det _ _ _ _ _ hn
  subst hr1
  have hS : va_S (x_A g) s.heap s.heap [] := va_S.rf
  have hmap : [Value.ref b] = ([.ref 1000] : List Value).map (x_cv g) := by
    subst hg
    rfl
  have C1 : x_Ctx p s m #[Value.ref b] meth c mL_law (dC, dI) g (L, xs) := ⟨hx, hb, hml, hown, htg, hK, hRO, hNW, fun h => absurd h (by decide)⟩
  have hW0 : x_Wd (dC, dI) g [] s.heap := ⟨by rw [hgz]; rfl, Nat.zero_le _, fun k q h => by simp [x_W] at h⟩
  rw [hmap, lg_entry_eq, ← hmap]
  have key := x_frame (l := l) (below := below) (e := e) (Q := lw_Z below #[Value.ref b] s) (R := room_1) (k0 := 0) (s0 := 0) (D := (dC, dI)) (g := g) (X := (L, xs)) (fun μ as h r h' he => x_sound l (dC, dI) g (L, xs) 8 μ as h r h' he) C1 ⟨by decide, by decide⟩ (fun pc e h => oL_at h) ⟨hc1, hc2⟩ (fun pc e0 L1 st hk hf H locs ls hW hS => ?_) n 0 [some (.ref 1000), none, none, none] [] [] hrun s.heap [] ((lg_sl ([.ref 1000].map (x_cv g)) ++ List.replicate (4 - (lg_sl ([.ref 1000].map (x_cv g))).length) Slot.unset).toArray) hW0 hS (x_LR_ent g [.ref 1000] 4 (by decide)) rfl (Nat.zero_le _) (Nat.zero_le _)
  · rw [← hmap] at key
    exact key
  · obtain ⟨ins, n1, a, b1, ci, pos⟩ := e0
    have h8 := x_other hf
    rcases h8 with ⟨i, h9⟩ | ⟨i, h9⟩ | ⟨i, h9⟩ | ⟨h9, -⟩
    · cases h9
      exact absurd hf (x_noret (by intro z; cases z) (by intro z; cases z) (by intro z; cases z) (by intro z; cases z))
    · cases h9
      exact absurd hf (x_noret (by intro z; cases z) (by intro z; cases z) (by intro z; cases z) (by intro z; cases z))
    · cases h9
      exact absurd hf (x_noret (by intro z; cases z) (by intro z; cases z) (by intro z; cases z) (by intro z; cases z))
    · rcases h9 with h9 | h9 | h9 | h9
      · have h10 : ins = .ireturn := h9
        subst h10
        obtain ⟨hn, hd, hv⟩ := x_ok_spec hk (by intro z; cases z) (by intro _ _ _ _ z; cases z)
        simp only [x_fun, x_ret] at hf
        split at hf
        · split at hf
          · cases hf
            refine va_forget (fun q hq => ?_) (W.widen (k := 600000) (n := 7302250) hc1 hc2 (lw_ret hx hb hr hlocks hd))
            have h11 := hS.2.2 q hq
            rw [hA] at h11
            exact h11
          · cases hf
        · cases hf
      · have h10 : ins = .lreturn := h9
        subst h10
        simp only [x_fun, x_retL] at hf
        split at hf <;> cases hf
      · have h10 : ins = .areturn := h9
        subst h10
        simp only [x_fun, x_retA] at hf
        split at hf <;> cases hf
      · have h10 : ins = .return_ := h9
        subst h10
        simp only [x_fun, x_retV] at hf
        split at hf <;> cases hf
