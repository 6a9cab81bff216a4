/-! rows of the kit once more, over the abstract heap, with the heap's size; classes' words -/
theorem x_in {D : va_G} {g : XG} {h : XH} {H : Heap} (hW : x_Wd D g h H) {a : Nat} {e : va_E} (ha : h[a]? = some e) : x_A g (x_ad g a) ∧ x_ad g a < H.size ∧ va_at D vwCl (x_ad g a, x_ce g e) H := by
  have h1 := hW.2.2 a _ (x_W_at (g := g) ha)
  exact ⟨(x_WD g h hW.2.1).2 a _ (x_W_at ha), h1.lt, h1⟩
theorem x_Wd.set {D : va_G} {g : XG} {h : XH} {H H1 : Heap} (hW : x_Wd D g h H) {a : Nat} {e0 e : va_E} (ha : h[a]? = some e0) (he : va_at D vwCl (x_ad g a, x_ce g e) H1) (z : H1.size = H.size) (oq : ∀ q : Nat, q ≠ x_ad g a → H1[q]? = H[q]?) : x_Wd D g (h.set a e) H1 := by
  refine ⟨by rw [z, hW.1, List.length_set], by rw [List.length_set]; exact hW.2.1, ?_⟩
  rw [x_W_set]
  exact hW.2.2.set (x_WD g h hW.2.1) (x_W_at ha) he oq
theorem x_Wd.push {D : va_G} {g : XG} {h : XH} {H H1 : Heap} (hW : x_Wd D g h H) {e : va_E} (hl : h.length < 1000) (he : va_at D vwCl (H.size, x_ce g e) H1) (z : H1.size = H.size + 1) (oq : ∀ q : Nat, q < H.size → H1[q]? = H[q]?) : x_Wd D g (h ++ [e]) H1 := by
  refine ⟨by rw [z, hW.1, List.length_append]; rfl, by rw [List.length_append]; exact hl, ?_⟩
  rw [x_W_app]
  refine (hW.2.2.kept (fun k q hk => oq q.1 ((hW.2.2 k q hk).lt))).app (fun k q hk => ?_)
  have hz : k < 1 := (List.getElem?_eq_some_iff.mp hk).1
  rw [show k = 0 by omega] at hk
  cases hk
  have e1 : x_ad g h.length = H.size := by rw [x_ad_lt g hl, hW.1]
  rw [e1]
  exact he
theorem x_S_push {A : Nat → Prop} {H0 H H1 : Heap} {locs : List Loc} (hS : va_S A H0 H locs) (z : H1.size = H.size + 1) (oq : ∀ q : Nat, q < H.size → H1[q]? = H[q]?) : va_S A H0 H1 locs :=
  ⟨Nat.le_trans hS.1 (by omega), fun x h1 h2 => (oq x (Nat.lt_of_lt_of_le h1 hS.1)).trans (hS.2.1 x h1 h2), hS.2.2⟩
section XRows
variable {p : Program} {l : Launch} {e : Env} {R : Room} {s : State} {m : MethodId} {args : Array Value} {below : List Frame} {meth : Method} {c : Code} {H : Heap} {locs : List Loc} {cells slots : Nat} {Q : State → Prop}
variable {cc : ByteArray} {pc : Nat} {ls : Array Slot} {rest : List Value} {D : va_G} {g : XG} {h : XH} {H0 : Heap}
theorem x_Wiast (hexec : p.tables.exec = Jvm.exec) (hb : c.code = cc) (hK : va_K D vwCl (x_tys g) s) (hW : x_Wd D g h H) (hS : va_S (x_A g) H0 H locs) {a n : Nat} {f : Nat → Int32} {i x : Int32} (ha : h[a]? = some (.inl (0, n, .inl f))) (hin : ¬ (i < 0 ∨ n ≤ i.toNatClampNeg)) (hdg : decode cc pc = .ok (.iastore, 1))
    (kk : ∀ (H1 : Heap) (locs1 : List Loc), x_Wd D g (h.set a (.inl (0, n, .inl (upd f i.toNatClampNeg x)))) H1 → va_S (x_A g) H0 H1 locs1 → W p l e R s m args below meth c H1 locs1 cells slots Q (F0 m (pc + 1) ls rest)) : W p l e R s m args below meth c H locs cells slots Q (F0 m pc ls (.int x :: .int i :: .ref (x_ad g a) :: rest)) := by
  obtain ⟨i1, i2, i3⟩ := x_in hW ha
  have hc : H[x_ad g a]? = some (vp_cell (g.2.2.2 0) (n, .inl f)) := i3
  refine W.iast hexec hb hc ((hK.2 0 _ rfl).1 n (fun j => .int (f j))) (fun q => by cases q) (by show ¬ (i < 0 ∨ (arrV _ _ _).slots.size ≤ _); rw [arrV_size]; exact hin) rfl rfl hdg fun H1 e z oq => ?_
  refine kk H1 _ (hW.set ha ?_ z oq) (hS.put z oq i1)
  show H1[x_ad g a]? = some (vp_cell _ _)
  rw [e]
  rw [vp_cell_i, vp_cell_i, arrV_store]
  congr 2
  funext q
  by_cases hq : q = i.toNatClampNeg
  · subst hq
    simp [updV, upd]
  · simp [updV, upd, hq]
theorem x_Wlast (hexec : p.tables.exec = Jvm.exec) (hb : c.code = cc) (hK : va_K D vwCl (x_tys g) s) (hW : x_Wd D g h H) (hS : va_S (x_A g) H0 H locs) {a n : Nat} {f : Nat → Int64} {i : Int32} {x : Int64} (ha : h[a]? = some (.inl (1, n, .inr (.inl f)))) (hin : ¬ (i < 0 ∨ n ≤ i.toNatClampNeg)) (hdg : decode cc pc = .ok (.lastore, 1))
    (kk : ∀ (H1 : Heap) (locs1 : List Loc), x_Wd D g (h.set a (.inl (1, n, .inr (.inl (vp_updL f i.toNatClampNeg x))))) H1 → va_S (x_A g) H0 H1 locs1 → W p l e R s m args below meth c H1 locs1 cells slots Q (F0 m (pc + 1) ls rest)) : W p l e R s m args below meth c H locs cells slots Q (F0 m pc ls (.long x :: .int i :: .ref (x_ad g a) :: rest)) := by
  obtain ⟨i1, i2, i3⟩ := x_in hW ha
  have hc : H[x_ad g a]? = some (vp_cell (g.2.2.2 1) (n, .inr (.inl f))) := i3
  refine W.last hexec hb hc ((hK.2 1 _ rfl).1 n (fun j => .long (f j))) (fun q => by cases q) (by show ¬ (i < 0 ∨ (arrV _ _ _).slots.size ≤ _); rw [arrV_size]; exact hin) rfl rfl hdg fun H1 e z oq => ?_
  refine kk H1 _ (hW.set ha ?_ z oq) (hS.put z oq i1)
  show H1[x_ad g a]? = some (vp_cell _ _)
  rw [e]
  rw [vp_cell_l, vp_cell_l, arrV_store]
  congr 2
  funext q
  by_cases hq : q = i.toNatClampNeg
  · subst hq
    simp [updV, vp_updL]
  · simp [updV, vp_updL, hq]
theorem x_Waast (hexec : p.tables.exec = Jvm.exec) (hb : c.code = cc) (hK : va_K D vwCl (x_tys g) s) (hW : x_Wd D g h H) (hS : va_S (x_A g) H0 H locs) {a n t v ci : Nat} {r : vw_C} {vs : List Value} {f : Nat → Option Nat} {i : Int32} (ha : h[a]? = some (.inl (t, n, .inr (.inr (.inr (.inr f)))))) (ht : (x_tys g)[t]? = some (g.2.2.2 t, .object r.1)) (hv : h[v]? = some (.inr (ci, vs))) (hc : vwCl[ci]? = some r) (hin : ¬ (i < 0 ∨ n ≤ i.toNatClampNeg)) (hdg : decode cc pc = .ok (.aastore, 1))
    (kk : ∀ (H1 : Heap) (locs1 : List Loc), x_Wd D g (h.set a (.inl (t, n, .inr (.inr (.inr (.inr (va_up f i.toNatClampNeg (some v)))))))) H1 → va_S (x_A g) H0 H1 locs1 → W p l e R s m args below meth c H1 locs1 cells slots Q (F0 m (pc + 1) ls rest)) : W p l e R s m args below meth c H locs cells slots Q (F0 m pc ls (.ref (x_ad g v) :: .int i :: .ref (x_ad g a) :: rest)) := by
  obtain ⟨i1, i2, i3⟩ := x_in hW ha
  have hcA : H[x_ad g a]? = some (vp_cell (g.2.2.2 t) (n, .inr (.inr (.inr (.inr (fun j => (f j).map (x_ad g))))))) := i3
  have hlt : i.toNatClampNeg < n := Nat.not_le.mp fun q => hin (Or.inr q)
  have h0 : ¬ i < 0 := fun q => hin (Or.inl q)
  obtain ⟨-, -, r', hr', cellV, g1, g2, g3, -⟩ := x_in hW hv
  have hcls := (hK.1 ci r hc).2
  obtain ⟨kA, comp, k1, k2, k3, -⟩ := (hK.2 t _ ht).2
  have hcomp : comp = D.1 ci := Option.some.inj (k3.symm.trans hcls.1)
  subst hcomp
  obtain ⟨kC, hkC, -⟩ := hcls.2
  refine W.aast hexec hb hcA (fun q h => by cases h) (fun h => by cases h) k1 k2 rfl hkC ⟨h0, by show _ < (arrV _ _ _).slots.size; rw [arrV_size]; exact hlt⟩ g1 (fun q h => by rw [g3] at h; cases h) (by rw [g2]; exact hkC) (by rw [g2]; exact va_assign hcls) rfl rfl hdg fun H1 e z oq => ?_
  refine kk H1 _ (hW.set ha ?_ z oq) (hS.put z oq i1)
  show H1[x_ad g a]? = some (vp_cell _ _)
  rw [e]
  rw [vp_cell_q, vp_cell_q, arrV_store]
  congr 2
  funext q
  by_cases hq : q = i.toNatClampNeg
  · subst hq
    simp [updV, va_up, va_rf]
  · simp [updV, va_up, hq]
theorem x_Wput (hexec : p.tables.exec = Jvm.exec) (hb : c.code = cc) {own C : String} {T : u_T} {N ci index : Nat} {Ts : List Jvm.Cond} (hts : ∀ w ∈ Ts, w.before args s = true) (hin : ∀ w ∈ u_ws C T N, w ∈ Ts) (ty0 : Nat → FieldType) (hty : ∀ k, k < N → parseFieldDescriptor (T k).2.2.1 = some (ty0 k)) (hnm : ∀ a, a < N → ∀ b, b < N → a ≠ b → (T a).2.1 ≠ (T b).2.1) (hown : s.vm.findClass own = some m.cls) (hK : va_K D vwCl (x_tys g) s) (hW : x_Wd D g h H) (hS0 : va_S (x_A g) H0 H locs) {a : Nat} {fs : List Value} (he : h[a]? = some (.inr (ci, fs))) (hc : vwCl[ci]? = some (C, T, N)) (k : Nat) (hk : k < N) (hlink : (Jvm.Cond.fieldLink own index (T k).1 (T k).2.1 (T k).2.2.1).before args s = true) (hfin : (T k).2.2.2 = true → meth.name = "<init>" ∧ (T k).1 = own) {v : Value} (hn : narrow (ty0 k) v = v) (hfit : fits (ty0 k) v = true) {v0 : Value} (hv0 : v = x_cv g v0) (hl : k < fs.length) (hdg : decode cc pc = .ok (.putfield index, 3))
    (kk : ∀ (H1 : Heap) (locs1 : List Loc), x_Wd D g (h.set a (.inr (ci, fs.set k v0))) H1 → va_S (x_A g) H0 H1 locs1 → W p l e R s m args below meth c H1 locs1 cells slots Q (F0 m (pc + 3) ls rest)) : W p l e R s m args below meth c H locs cells slots Q (F0 m pc ls (v :: .ref (x_ad g a) :: rest)) := by
  obtain ⟨i1, i2, i3⟩ := x_in hW he
  have hap := va_apart (own := own) hts hin ty0 hty hnm hK hc
  obtain ⟨r, h1, cell, q1, q2, q3, q4⟩ := i3
  have hr : r = (C, T, N) := Option.some.inj (h1.symm.trans hc)
  subst hr
  obtain ⟨hS, hfc, kC, hkC, hkind⟩ := hK.1 ci _ hc
  obtain ⟨cf, kf, fi, f, hi, hsl⟩ := hS k hk
  have hlay := hts _ (hin _ (u_in_lay hk))
  have hd := hty k hk
  unfold u_lay at hlay
  have hst := (u_facts hfc hkC (u_lays hts hin hk) hi).1
  have hend : ∀ H' : Heap, H'[x_ad g a]? = some (cell.setSlot f.slot v) → H'.size = H.size → (∀ q : Nat, q ≠ x_ad g a → H'[q]? = H[q]?) → x_Wd D g (h.set a (.inr (ci, fs.set k v0))) H' := by
    intro H' e1 e2 e3
    rw [hsl] at e1
    refine hW.set he ?_ e2 e3
    refine ⟨_, hc, t_OB.to (V := updV (vp_V (fs.map (x_cv g))) k v) ⟨_, e1, q2, q3, t_set q4 hap hk v⟩ (fun j _ => ?_)⟩
    rw [vp_updV_set (by simpa using hl) v j, List.map_set, hv0]
  by_cases hf : (T k).2.2.2 = true
  · rw [if_pos hf] at hlay
    obtain ⟨hin2, hdecl⟩ := hfin hf
    have hcf : m.cls = cf := by
      obtain ⟨_, _, c', _, _, _, -, -, hf', -, -, -, hown2, -⟩ := Cond.laysFinal_spec hlay
      have e1 : c' = cf := by have := hi.symm.trans hf'; simp at this; exact this.1.symm
      rw [hdecl] at hown2
      rw [← e1]; exact Option.some.inj (hown.symm.trans hown2)
    have h6 := u_fits hfc hkC hkind (Or.inr hlay) hi hd hn hfit
    exact W.putFinK hexec hb hown hlink hi hst hcf hin2 (by rw [q2]; exact h6) q1 q3 (by rw [hsl]; exact k2_hasslot (q4 k hk)) rfl rfl hdg fun H' e1 e2 e3 => kk H' _ (hend H' e1 e2 e3) (hS0.put e2 e3 i1)
  · rw [if_neg hf] at hlay
    have h6 := u_store hfc hkC hkind hlay hi hd hn hfit
    exact W.putK hexec hb (f := f) ⟨hown, hlink, ⟨_, _, _, hi⟩, hst⟩ (by rw [q2]; exact h6) q1 q3 (by rw [hsl]; exact k2_hasslot (q4 k hk)) rfl rfl hdg fun H' e1 e2 e3 => kk H' _ (hend H' e1 e2 e3) (hS0.put e2 e3 i1)
theorem x_Wnew (hexec : p.tables.exec = Jvm.exec) (hb : c.code = cc) {own C : String} {T : u_T} {N ci index : Nat} {Ts : List Jvm.Cond} (hts : ∀ w ∈ Ts, w.before args s = true) (hin : ∀ w ∈ u_ws C T N, w ∈ Ts) (ty : Nat → FieldType) (hty : ∀ k, k < N → parseFieldDescriptor (T k).2.2.1 = some (ty k)) (hown : s.vm.findClass own = some m.cls) (hcl : (Jvm.Cond.classLink own index C).before args s = true) (hinst : (Jvm.Cond.instantiable C N).before args s = true) (hini : (Jvm.Cond.initialized C).before args s = true)
    (hK : va_K D vwCl (x_tys g) s) (hW : x_Wd D g h H) (hS : va_S (x_A g) H0 H locs) (hc : vwCl[ci]? = some (C, T, N)) {fs : List Value} (hfs : ∀ j, j < N → defaultValue (ty j) = vp_V (fs.map (x_cv g)) j) (hlen : h.length < 1000) (hcells : cells + 1 ≤ R.cells) (hslots : slots + N ≤ R.slots) (hdg : decode cc pc = .ok (.new index, 3))
    (kk : ∀ (H1 : Heap), x_Wd D g (h ++ [.inr (ci, fs)]) H1 → va_S (x_A g) H0 H1 locs → W p l e R s m args below meth c H1 locs (cells + 1) (slots + N) Q (F0 m (pc + 3) ls (.ref (x_ad g h.length) :: rest))) : W p l e R s m args below meth c H locs cells slots Q (F0 m pc ls rest) := by
  have hKn := hK.1 ci _ hc
  have e1 : x_ad g h.length = H.size := by rw [x_ad_lt g hlen, hW.1]
  rw [e1] at kk
  refine W.newcK hexec hb hown hcl hinst hini rfl hdg hcells hslots hKn.2.1 rfl fun H1 kC hkC e1 z1 o1 => ?_
  exact kk H1 (hW.push hlen ⟨_, hc, (u_born ty hts hin hKn hkC e1 hty).to hfs⟩ z1 o1) (x_S_push hS z1 o1)
theorem x_Wnewa (hexec : p.tables.exec = Jvm.exec) (hb : c.code = cc) {atype : ArrayType} (harr : (Jvm.Cond.arrayClass (newarray.typeOf atype)).before args s = true) {t : Nat} (hK : va_K D vwCl (x_tys g) s) (ht : (x_tys g)[t]? = some (g.2.2.2 t, newarray.typeOf atype)) (hW : x_Wd D g h H) (hS : va_S (x_A g) H0 H locs)
    {n : Int32} {N' : Nat} {a0 : va_E} (ha : va_at D vwCl (H.size, x_ce g a0) = fun H1 => H1[H.size]? = some (arrV (g.2.2.2 t) N' (fun _ => defaultValue (newarray.typeOf atype)))) (hn : ¬ n < 0) (hN : n.toNatClampNeg = N') (hbytes : N' * componentBytes (newarray.typeOf atype) ≤ 536870912) (hlen : h.length < 1000) (hcells : cells + 1 ≤ R.cells) (hslots : slots + N' ≤ R.slots) (hdg : decode cc pc = .ok (.newarray atype, 2))
    (kk : ∀ (H1 : Heap), x_Wd D g (h ++ [a0]) H1 → va_S (x_A g) H0 H1 locs → W p l e R s m args below meth c H1 locs (cells + 1) (slots + N') Q (F0 m (pc + 2) ls (.ref (x_ad g h.length) :: rest))) : W p l e R s m args below meth c H locs cells slots Q (F0 m pc ls (.int n :: rest)) := by
  have e1 : x_ad g h.length = H.size := by rw [x_ad_lt g hlen, hW.1]
  rw [e1] at kk
  refine va_newaK hexec hb harr rfl hdg rfl hn hN hbytes hcells hslots rfl fun H1 cA e1 z1 o1 hAr hNm => ?_
  have hcA : cA = g.2.2.2 t := by
    have h9 := (hK.2 t _ ht).2
    have h8 : s.vm.findClass ("[" ++ (newarray.typeOf atype).toString) = some (g.2.2.2 t) := by cases atype <;> exact h9
    exact Option.some.inj (hNm.symm.trans h8)
  subst hcA
  exact kk H1 (hW.push hlen (by rw [ha]; exact e1) z1 o1) (x_S_push hS z1 o1)
theorem x_Wnewq (hexec : p.tables.exec = Jvm.exec) (hb : c.code = cc) {own C : String} {index t : Nat} (hown : s.vm.findClass own = some m.cls) (hclink : (Jvm.Cond.classLink own index C).before args s = true) (hover : va_AO C s) (hK : va_K D vwCl (x_tys g) s) (ht : (x_tys g)[t]? = some (g.2.2.2 t, .object C)) (hW : x_Wd D g h H) (hS : va_S (x_A g) H0 H locs)
    {n : Int32} {N' : Nat} (hn : ¬ n < 0) (hN : n.toNatClampNeg = N') (hbytes : N' * 4 ≤ 536870912) (hlen : h.length < 1000) (hcells : cells + 1 ≤ R.cells) (hslots : slots + N' ≤ R.slots) (hdg : decode cc pc = .ok (.anewarray index, 3))
    (kk : ∀ (H1 : Heap), x_Wd D g (h ++ [.inl (t, N', .inr (.inr (.inr (.inr (fun _ => none)))))]) H1 → va_S (x_A g) H0 H1 locs → W p l e R s m args below meth c H1 locs (cells + 1) (slots + N') Q (F0 m (pc + 3) ls (.ref (x_ad g h.length) :: rest))) : W p l e R s m args below meth c H locs cells slots Q (F0 m pc ls (.int n :: rest)) := by
  have e0 : x_ad g h.length = H.size := by rw [x_ad_lt g hlen, hW.1]
  rw [e0] at kk
  subst hN
  refine W.anew hexec hb hown hclink (va_AO.use hover) rfl hdg rfl hn hbytes hcells hslots fun cA kA comp f1 f2 f3 f4 => ?_
  have hcA : cA = g.2.2.2 t := by
    obtain ⟨kA2, comp2, -, -, -, h9⟩ := (hK.2 t _ ht).2
    exact Option.some.inj (f1.symm.trans h9)
  subst hcA
  generalize hH1 : H.push ({ cls := g.2.2.2 t, slots := Array.replicate n.toNatClampNeg .null, vm := .none } : Cell) = H1
  have z1 : H1.size = H.size + 1 := by rw [← hH1, Array.size_push]
  have e1 : H1[H.size]? = some (arrV (g.2.2.2 t) n.toNatClampNeg (fun _ => .null)) := by rw [← hH1, Array.getElem?_push_size, ← arrV_new]
  have o1 : ∀ q : Nat, q < H.size → H1[q]? = H[q]? := fun q hq => by rw [← hH1, Array.getElem?_push, if_neg (Nat.ne_of_lt hq)]
  refine kk H1 (hW.push hlen ?_ z1 o1) (x_S_push hS z1 o1)
  show H1[H.size]? = some (vp_cell _ _)
  rw [vp_cell_q]
  exact e1
theorem x_Wcopy (hexec : p.tables.exec = Jvm.exec) (hb : c.code = cc) (hml : c.maxLocals = ls.size) {own : String} {index : Nat} (hown : s.vm.findClass own = some m.cls) (hlink : (Jvm.Cond.methodLink own index arraycopyName).before args s = true) (hnat : (Jvm.Cond.native arraycopyName).before args s = true) (hstat : (Jvm.Cond.static arraycopyName).before args s = true) (hini : (Jvm.Cond.initialized "java/lang/System").before args s = true)
    (hK : va_K D vwCl (x_tys g) s) (hW : x_Wd D g h H) (hS : va_S (x_A g) H0 H locs) {a0 a1 n0 n1 : Nat} {f0 f1 : Nat → Int32} (ha0 : h[a0]? = some (.inl (0, n0, .inl f0))) (ha1 : h[a1]? = some (.inl (0, n1, .inl f1)))
    {sp dp n : Int32} (h1 : ¬ sp < 0) (h2 : ¬ dp < 0) (h3 : ¬ n < 0) (h4 : sp.toNatClampNeg + n.toNatClampNeg ≤ n0) (h5 : dp.toNatClampNeg + n.toNatClampNeg ≤ n1)
    (hframes : 1 ≤ R.frames) (hlocals : (rest.map fun v => v.category).sum + (nativeFrameWords "java/lang/System" "arraycopy" 5 + 11) ≤ R.locals) (hdg : decode cc pc = .ok (.invokestatic index, 3))
    (kk : ∀ (H1 : Heap) (locs1 : List Loc), x_Wd D g (h.set a1 (.inl (0, n1, .inl (va_cpy f0 f1 sp.toNatClampNeg dp.toNatClampNeg n.toNatClampNeg)))) H1 → va_S (x_A g) H0 H1 locs1 → W p l e R s m args below meth c H1 locs1 cells slots Q (F0 m (pc + 3) ls rest)) : W p l e R s m args below meth c H locs cells slots Q (F0 m pc ls (.int n :: .int dp :: .ref (x_ad g a1) :: .int sp :: .ref (x_ad g a0) :: rest)) := by
  have nn : ∀ z : Int32, ¬ z < 0 → z.toInt = (z.toNatClampNeg : Int) := by
    intro z hz
    have hz0 : (0 : Int) ≤ z.toInt := by
      have := Int32.not_lt.mp hz
      simpa using Int32.le_iff_toInt_le.mp this
    show z.toInt = ((z.toInt.toNat : Nat) : Int)
    omega
  intro T hT X
  obtain ⟨j1, j2, j3⟩ := x_in hW ha1
  have hc0 : H[x_ad g a0]? = some (vp_cell (g.2.2.2 0) (n0, .inl f0)) := (x_in hW ha0).2.2
  have hc1 : H[x_ad g a1]? = some (vp_cell (g.2.2.2 0) (n1, .inl f1)) := j3
  obtain ⟨-, k0, hk0, cm0, hkk0⟩ := (hK.2 0 _ rfl).1 n0 (fun j => .int (f0 j))
  obtain ⟨-, k1, hk1, cm1, hkk1⟩ := (hK.2 0 _ rfl).1 n1 (fun j => .int (f1 j))
  obtain ⟨vm', X', step⟩ := X.arraycopy hexec hown hlink hnat hstat hini (src := x_ad g a0) (dst := x_ad g a1) (cs := vp_cell (g.2.2.2 0) (n0, .inl f0)) (cd := vp_cell (g.2.2.2 0) (n1, .inl f1)) (srcPos := sp) (destPos := dp) (n := n) (by rw [hT]; exact hc0) (by rw [hT]; exact hc1)
    (fun _ h => by cases h) (fun _ h => by cases h) (fun h => by cases h) (fun h => by cases h) hk0 hk1 hkk0 hkk1 (by rfl) h1 h2 h3
    (by rw [nn sp h1, nn n h3]; show ¬ _ > ((arrV (g.2.2.2 0) n0 (fun j => .int (f0 j))).slots.size : Int); rw [arrV_size]; omega)
    (by rw [nn dp h2, nn n h3]; show ¬ _ > ((arrV (g.2.2.2 0) n1 (fun j => .int (f1 j))).slots.size : Int); rw [arrV_size]; omega)
    (fun vm₁ _ i hi => by
      have e : (vp_cell (g.2.2.2 0) (n0, .inl f0)).slots.getD (sp.toNatClampNeg + i) .null = .int (f0 (sp.toNatClampNeg + i)) := by
        show (arrV (g.2.2.2 0) n0 (fun j => .int (f0 j))).slots.getD _ _ = _
        rw [Array.getD_eq_getD_getElem?, arrV_read _ _ (by omega)]
        rfl
      refine ⟨?_, ?_⟩
      · rw [e]
        rfl
      · rw [e]
        exact trivial)
    (g := F0 m pc ls (.int n :: .int dp :: .ref (x_ad g a1) :: .int sp :: .ref (x_ad g a0) :: rest)) rfl (by rw [hml]) (rest := rest) rfl (by rw [hb]; exact hdg) hframes (by show 2 * 0 + _ + _ ≤ _; omega)
  have e1 : copied (vp_cell (g.2.2.2 0) (n0, .inl f0)) (vp_cell (g.2.2.2 0) (n1, .inl f1)) sp dp n = vp_cell (g.2.2.2 0) (n1, .inl (va_cpy f0 f1 sp.toNatClampNeg dp.toNatClampNeg n.toNatClampNeg)) := va_copied (fun z => .int z) _ _ f0 f1 h4
  rw [e1] at X' step
  have hheap : ((T.setVm vm').setCell (x_ad g a1) (vp_cell (g.2.2.2 0) (n1, .inl (va_cpy f0 f1 sp.toNatClampNeg dp.toNatClampNeg n.toNatClampNeg)))).heap = H.setIfInBounds (x_ad g a1) (vp_cell (g.2.2.2 0) (n1, .inl (va_cpy f0 f1 sp.toNatClampNeg dp.toNatClampNeg n.toNatClampNeg))) := by rw [← hT]; rfl
  have oq : ∀ q : Nat, q ≠ x_ad g a1 → (H.setIfInBounds (x_ad g a1) (vp_cell (g.2.2.2 0) (n1, .inl (va_cpy f0 f1 sp.toNatClampNeg dp.toNatClampNeg n.toNatClampNeg))))[q]? = H[q]? := fun q hq => by simp [Array.getElem?_setIfInBounds, Ne.symm hq]
  obtain ⟨t, b1, b2⟩ := kk _ _ (hW.set ha1 (show (H.setIfInBounds (x_ad g a1) _)[x_ad g a1]? = some _ by simp [Array.getElem?_setIfInBounds, j2]) (by simp) oq) ⟨by simp; exact hS.1, fun q g1 g2 => by
      rw [oq q (fun e => g2 (by rw [e]; exact j1))]
      exact hS.2.1 q g1 g2, fun q hq => by
      rcases List.mem_append.mp hq with hz | hz
      · exact hS.2.2 q hz
      · obtain ⟨z, -, hz⟩ := List.mem_map.mp hz
        rw [← hz]
        exact j1⟩ _ hheap X'
  exact ⟨t, step t b1, b2⟩
end XRows
