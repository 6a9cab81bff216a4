/-! specs: Line, Light, Slit, Night, View (no loops) -/
theorem x_ne1 {h : XH} {a c : Nat} {u : Nat × List Value} {q : ClassId × vp_A} (ha : h[a]? = some (.inr u)) (hc : h[c]? = some (.inl q)) : c ≠ a := by
  intro e
  subst e
  rw [ha] at hc
  cases hc
theorem x_ne2 {h : XH} {a c : Nat} {u : Nat × List Value} {q : ClassId × vp_A} (ha : h[a]? = some (.inr u)) (hc : h[c]? = some (.inl q)) : a ≠ c := fun e => x_ne1 ha hc e.symm
theorem x_ne3 {h : XH} {a c k j : Nat} {u v : List Value} (ha : h[a]? = some (.inr (k, u))) (hc : h[c]? = some (.inr (j, v))) (hkj : k ≠ j) : a ≠ c := by
  intro e
  subst e
  rw [ha] at hc
  cases hc
  exact hkj rfl
theorem x_ix {i sz : Int32} {m : Nat} (h1 : ¬ i < 0) (h2 : ¬ sz ≤ i) (hm : sz.toInt ≤ (m : Int)) : ¬ (i < 0 ∨ m ≤ i.toNatClampNeg) := by
  intro h
  rcases h with h | h
  · exact h1 h
  · have h3 := Int32.lt_iff_toInt_lt.mp (Int32.not_le.mp h2)
    have h4 : ¬ i.toInt < 0 := fun z => h1 (Int32.lt_iff_toInt_lt.mpr (by simpa using z))
    have h5 : i.toNatClampNeg = i.toInt.toNat := rfl
    rw [h5] at h
    omega
def f_hd (i sz : Int32) : Int32 := if i < 0 then 0 else if sz ≤ i then 0 else 1
theorem f_hd_ne {i sz : Int32} (h : ¬ f_hd i sz = 0) : ¬ i < 0 ∧ ¬ sz ≤ i := by
  unfold f_hd at h
  constructor
  · intro z; simp [z] at h
  · intro z; simp [z] at h
def f_read (f : Nat → Int32) (sz i : Int32) : Int32 := if i < 0 then 0 else if sz ≤ i then 0 else f i.toNatClampNeg
theorem f_read_0 {f : Nat → Int32} {sz i : Int32} (h : f_hd i sz = 0) : f_read f sz i = 0 := by
  unfold f_hd at h
  unfold f_read
  split at h
  · rw [if_pos (by assumption)]
  · rw [if_neg (by assumption)]
    split at h
    · rw [if_pos (by assumption)]
    · cases h
theorem f_read_1 {f : Nat → Int32} {sz i : Int32} (h : ¬ f_hd i sz = 0) : f_read f sz i = f i.toNatClampNeg := by
  obtain ⟨h1, h2⟩ := f_hd_ne h
  unfold f_read
  rw [if_neg h1, if_neg h2]
def f_hr (sz i n : Int32) : Int32 := if i < 0 then 0 else if sz < i then 0 else if n < 0 then 0 else if sz - i < n then 0 else 1
def f_rem (x y : Int32) : Int32 := x - x / y * y
theorem sX2_room {X : XX} {h : XH} {a c m : Nat} {sz : Int32} {f : Nat → Int32} (La : h[a]? = some (.inr (2, [.ref c, .int sz]))) (Lc : h[c]? = some (.inl (0, m, .inl f))) (lc : c < 1000)  : x_ev X xT 1 25 [.ref a] h (some (.int (Int32.ofNat m))) h := by
  refine q_ev (L := [some (.ref a)]) tX2_room (Nat.le_of_ble_eq_true rfl) rfl ?_
  refine q_aload_n rfl rfl ?_
  refine q_getfield rfl La rfl ?_
  refine q_alen rfl (lc) Lc (by decide) rfl ?_
  refine q_iret rfl rfl ?_
  exact ⟨rfl, rfl⟩
theorem sX2_size {X : XX} {h : XH} {a c : Nat} {sz : Int32} (La : h[a]? = some (.inr (2, [.ref c, .int sz])))  : x_ev X xT 1 26 [.ref a] h (some (.int sz)) h := by
  refine q_ev (L := [some (.ref a)]) tX2_size (Nat.le_of_ble_eq_true rfl) rfl ?_
  refine q_aload_n rfl rfl ?_
  refine q_getfield rfl La rfl ?_
  refine q_iret rfl rfl ?_
  exact ⟨rfl, rfl⟩
def f_neg (x : Int32) : Int32 := if 0 ≤ x then 0 else 1
theorem sX2_isMissing {X : XX} {h : XH} {a c : Nat} {sz : Int32} (La : h[a]? = some (.inr (2, [.ref c, .int sz])))  : x_ev X xT 1 27 [.ref a] h (some (.int (f_neg sz))) h := by
  refine q_ev (L := [some (.ref a)]) tX2_isMissing (Nat.le_of_ble_eq_true rfl) rfl ?_
  refine q_aload_n rfl rfl ?_
  refine q_getfield rfl La rfl ?_
  refine q_if_ge rfl (fun hc4 => ?_) (fun hc4 => ?_)
  · refine q_iconst (v := 0) rfl rfl ?_
    refine q_zret rfl rfl (by decide) ?_
    exact ⟨by simp [f_neg, *], rfl⟩
  · refine q_iconst (v := 1) rfl rfl ?_
    refine q_goto rfl ?_
    refine q_zret rfl rfl (by decide) ?_
    exact ⟨by simp [f_neg, *], rfl⟩
theorem sX2_remove {X : XX} {h : XH} {a c : Nat} {sz : Int32} (La : h[a]? = some (.inr (2, [.ref c, .int sz])))  : x_ev X xT 1 28 [.ref a] h none (h.set a (.inr (2, [.ref c, .int (-1)]))) := by
  refine q_ev (L := [some (.ref a)]) tX2_remove (Nat.le_of_ble_eq_true rfl) rfl ?_
  refine q_aload_n rfl rfl ?_
  refine q_iconst (v := (-1)) rfl rfl ?_
  refine q_putX rfl La rfl (Nat.le_of_ble_eq_true rfl) (rfl) (by decide +kernel) (fun h1 he1 La_1 ho1 => ?_)
  refine q_vret rfl rfl ?_
  exact ⟨rfl, he1⟩
theorem sX2_holds {X : XX} {h : XH} {a c : Nat} {sz : Int32} (La : h[a]? = some (.inr (2, [.ref c, .int sz]))) (i : Int32) : x_ev X xT 1 30 [.ref a, .int i] h (some (.int (f_hd i sz))) h := by
  refine q_ev (L := [some (.ref a), some (.int i)]) tX2_holds (Nat.le_of_ble_eq_true rfl) rfl ?_
  refine q_iload_n rfl rfl ?_
  refine q_if_lt rfl (fun hc1 => ?_) (fun hc1 => ?_)
  · refine q_iconst (v := 0) rfl rfl ?_
    refine q_zret rfl rfl (by decide) ?_
    exact ⟨by simp [f_hd, *], rfl⟩
  · refine q_iload_n rfl rfl ?_
    refine q_aload_n rfl rfl ?_
    refine q_getfield rfl La rfl ?_
    refine q_icmp_ge rfl (fun hc9 => ?_) (fun hc9 => ?_)
    · refine q_iconst (v := 0) rfl rfl ?_
      refine q_zret rfl rfl (by decide) ?_
      exact ⟨by simp [f_hd, *], rfl⟩
    · refine q_iconst (v := 1) rfl rfl ?_
      refine q_goto rfl ?_
      refine q_zret rfl rfl (by decide) ?_
      exact ⟨by simp [f_hd, *], rfl⟩
theorem sX2_holdsRun {X : XX} {h : XH} {a c : Nat} {sz : Int32} (La : h[a]? = some (.inr (2, [.ref c, .int sz]))) (i n : Int32) : x_ev X xT 1 31 [.ref a, .int i, .int n] h (some (.int (f_hr sz i n))) h := by
  refine q_ev (L := [some (.ref a), some (.int i), some (.int n)]) tX2_holdsRun (Nat.le_of_ble_eq_true rfl) rfl ?_
  refine q_iload_n rfl rfl ?_
  refine q_if_lt rfl (fun hc1 => ?_) (fun hc1 => ?_)
  · refine q_iconst (v := 0) rfl rfl ?_
    refine q_zret rfl rfl (by decide) ?_
    exact ⟨by simp [f_hr, *], rfl⟩
  · refine q_iload_n rfl rfl ?_
    refine q_aload_n rfl rfl ?_
    refine q_getfield rfl La rfl ?_
    refine q_icmp_gt rfl (fun hc9 => ?_) (fun hc9 => ?_)
    · refine q_iconst (v := 0) rfl rfl ?_
      refine q_zret rfl rfl (by decide) ?_
      exact ⟨by simp [f_hr, *], rfl⟩
    · refine q_iload_n rfl rfl ?_
      refine q_if_lt rfl (fun hc13 => ?_) (fun hc13 => ?_)
      · refine q_iconst (v := 0) rfl rfl ?_
        refine q_zret rfl rfl (by decide) ?_
        exact ⟨by simp [f_hr, *], rfl⟩
      · refine q_iload_n rfl rfl ?_
        refine q_aload_n rfl rfl ?_
        refine q_getfield rfl La rfl ?_
        refine q_iload_n rfl rfl ?_
        refine q_isub rfl ?_
        refine q_icmp_gt rfl (fun hc23 => ?_) (fun hc23 => ?_)
        · refine q_iconst (v := 0) rfl rfl ?_
          refine q_zret rfl rfl (by decide) ?_
          exact ⟨by simp [f_hr, *], rfl⟩
        · refine q_iconst (v := 1) rfl rfl ?_
          refine q_goto rfl ?_
          refine q_zret rfl rfl (by decide) ?_
          exact ⟨by simp [f_hr, *], rfl⟩
theorem sX2_read {X : XX} {h : XH} {a c m : Nat} {sz : Int32} {f : Nat → Int32} (La : h[a]? = some (.inr (2, [.ref c, .int sz]))) (Lc : h[c]? = some (.inl (0, m, .inl f))) (lc : c < 1000) (hm : sz.toInt ≤ (m : Int)) (i : Int32) : x_ev X xT 2 32 [.ref a, .int i] h (some (.int (f_read f sz i))) h := by
  refine q_ev (L := [some (.ref a), some (.int i)]) tX2_read (Nat.le_of_ble_eq_true rfl) rfl ?_
  refine q_aload_n rfl rfl ?_
  refine q_iload_n rfl rfl ?_
  refine q_callV1 rfl La (Nat.le_of_ble_eq_true rfl) (Nat.le_of_ble_eq_true rfl) (sX2_holds La i) ?_
  refine q_if_eq rfl (fun hc5 => ?_) (fun hc5 => ?_)
  · refine q_iconst (v := 0) rfl rfl ?_
    refine q_iret rfl rfl ?_
    exact ⟨by first | rw [f_read_0 hc5] | rw [f_read_1 hc5], rfl⟩
  · refine q_aload_n rfl rfl ?_
    refine q_getfield rfl La rfl ?_
    refine q_iload_n rfl rfl ?_
    refine q_iaload rfl (lc) Lc (x_ix (f_hd_ne hc5).1 (f_hd_ne hc5).2 hm) ?_
    refine q_goto rfl ?_
    refine q_iret rfl rfl ?_
    exact ⟨by first | rw [f_read_0 hc5] | rw [f_read_1 hc5], rfl⟩
def f_wr (f : Nat → Int32) (sz i v : Int32) : Nat → Int32 := if i < 0 then f else if sz ≤ i then f else upd f i.toNatClampNeg v
theorem f_wr_0 {f : Nat → Int32} {sz i v : Int32} (h : f_hd i sz = 0) : f_wr f sz i v = f := by
  unfold f_hd at h
  unfold f_wr
  split at h
  · rw [if_pos (by assumption)]
  · rw [if_neg (by assumption)]
    split at h
    · rw [if_pos (by assumption)]
    · cases h
theorem f_wr_1 {f : Nat → Int32} {sz i v : Int32} (h : ¬ f_hd i sz = 0) : f_wr f sz i v = upd f i.toNatClampNeg v := by
  obtain ⟨h1, h2⟩ := f_hd_ne h
  unfold f_wr
  rw [if_neg h1, if_neg h2]
theorem x_set_same {h : XH} {c : Nat} {e : va_E} (hc : h[c]? = some e) : h.set c e = h := by
  apply List.ext_getElem?
  intro k
  rw [List.getElem?_set]
  split
  · rename_i e1
    subst e1
    rw [if_pos (List.getElem?_eq_some_iff.mp hc).1, hc]
  · rfl
theorem sX2_write {X : XX} {h : XH} {a c m : Nat} {sz : Int32} {f : Nat → Int32} (La : h[a]? = some (.inr (2, [.ref c, .int sz]))) (Lc : h[c]? = some (.inl (0, m, .inl f))) (lc : c < 1000) (hm : sz.toInt ≤ (m : Int)) (i v : Int32) : x_ev X xT 2 33 [.ref a, .int i, .int v] h none (h.set c (.inl (0, m, .inl (f_wr f sz i v)))) := by
  refine q_ev (L := [some (.ref a), some (.int i), some (.int v)]) tX2_write (Nat.le_of_ble_eq_true rfl) rfl ?_
  refine q_aload_n rfl rfl ?_
  refine q_iload_n rfl rfl ?_
  refine q_callV1 rfl La (Nat.le_of_ble_eq_true rfl) (Nat.le_of_ble_eq_true rfl) (sX2_holds La i) ?_
  refine q_if_eq rfl (fun hc5 => ?_) (fun hc5 => ?_)
  · refine q_vret rfl rfl ?_
    first | (exact ⟨rfl, by rw [f_wr_0 hc5, x_set_same Lc]⟩) | (exact ⟨rfl, by rw [f_wr_1 hc5, he1]⟩)
  · refine q_aload_n rfl rfl ?_
    refine q_getfield rfl La rfl ?_
    refine q_iload_n rfl rfl ?_
    refine q_iload_n rfl rfl ?_
    refine q_iastX rfl Lc (x_ix (f_hd_ne hc5).1 (f_hd_ne hc5).2 hm) (fun h1 he1 Lc_1 ho1 => ?_)
    have La_1 := ho1 _ _ (x_ne2 La Lc) La
    refine q_vret rfl rfl ?_
    first | (exact ⟨rfl, by rw [f_wr_0 hc5, x_set_same Lc]⟩) | (exact ⟨rfl, by rw [f_wr_1 hc5, he1]⟩)
theorem sX1_kind {X : XX} {h : XH} {a : Nat} {kind start speed bright : Int32} (Ka : h[a]? = some (.inr (1, [.int kind, .int start, .int speed, .int bright])))  : x_ev X xT 1 14 [.ref a] h (some (.int kind)) h := by
  refine q_ev (L := [some (.ref a)]) tX1_kind (Nat.le_of_ble_eq_true rfl) rfl ?_
  refine q_aload_n rfl rfl ?_
  refine q_getfield rfl Ka rfl ?_
  refine q_iret rfl rfl ?_
  exact ⟨rfl, rfl⟩
theorem sX1_speed {X : XX} {h : XH} {a : Nat} {kind start speed bright : Int32} (Ka : h[a]? = some (.inr (1, [.int kind, .int start, .int speed, .int bright])))  : x_ev X xT 1 15 [.ref a] h (some (.int speed)) h := by
  refine q_ev (L := [some (.ref a)]) tX1_speed (Nat.le_of_ble_eq_true rfl) rfl ?_
  refine q_aload_n rfl rfl ?_
  refine q_getfield rfl Ka rfl ?_
  refine q_iret rfl rfl ?_
  exact ⟨rfl, rfl⟩
theorem sX1_toldBright {X : XX} {h : XH} {a : Nat} {kind start speed bright : Int32} (Ka : h[a]? = some (.inr (1, [.int kind, .int start, .int speed, .int bright])))  : x_ev X xT 1 16 [.ref a] h (some (.int bright)) h := by
  refine q_ev (L := [some (.ref a)]) tX1_toldBright (Nat.le_of_ble_eq_true rfl) rfl ?_
  refine q_aload_n rfl rfl ?_
  refine q_getfield rfl Ka rfl ?_
  refine q_iret rfl rfl ?_
  exact ⟨rfl, rfl⟩
theorem sX1_become {X : XX} {h : XH} {a : Nat} {kind start speed bright : Int32} (Ka : h[a]? = some (.inr (1, [.int kind, .int start, .int speed, .int bright]))) (k s p b : Int32) : x_ev X xT 1 12 [.ref a, .int k, .int s, .int p, .int b] h none (h.set a (.inr (1, [.int k, .int s, .int p, .int b]))) := by
  refine q_ev (L := [some (.ref a), some (.int k), some (.int s), some (.int p), some (.int b)]) tX1_become (Nat.le_of_ble_eq_true rfl) rfl ?_
  refine q_aload_n rfl rfl ?_
  refine q_iload_n rfl rfl ?_
  refine q_putX rfl Ka rfl (Nat.le_of_ble_eq_true rfl) (rfl) (by decide +kernel) (fun h1 he1 Ka_1 ho1 => ?_)
  refine q_aload_n rfl rfl ?_
  refine q_iload_n rfl rfl ?_
  refine q_putX rfl Ka_1 rfl (Nat.le_of_ble_eq_true rfl) (rfl) (by decide +kernel) (fun h2 he2 Ka_2 ho2 => ?_)
  refine q_aload_n rfl rfl ?_
  refine q_iload_n rfl rfl ?_
  refine q_putX rfl Ka_2 rfl (Nat.le_of_ble_eq_true rfl) (rfl) (by decide +kernel) (fun h3 he3 Ka_3 ho3 => ?_)
  refine q_aload_n rfl rfl ?_
  refine q_iload rfl rfl ?_
  refine q_putX rfl Ka_3 rfl (Nat.le_of_ble_eq_true rfl) (rfl) (by decide +kernel) (fun h4 he4 Ka_4 ho4 => ?_)
  refine q_vret rfl rfl ?_
  exact ⟨rfl, by rw [he4, he3, he2, he1]; simp [List.set_set]⟩
def f_of (kind other : Int32) : Int32 := if kind = other then 1 else if kind = 4 ∧ other = 1 then 1 else if kind = 5 ∧ other = 3 then 1 else 0
theorem sX1_isOf {X : XX} {h : XH} {a : Nat} {kind start speed bright : Int32} (Ka : h[a]? = some (.inr (1, [.int kind, .int start, .int speed, .int bright]))) (w : Int32) : x_ev X xT 1 17 [.ref a, .int w] h (some (.int (f_of kind w))) h := by
  refine q_ev (L := [some (.ref a), some (.int w)]) tX1_isOf (Nat.le_of_ble_eq_true rfl) rfl ?_
  refine q_aload_n rfl rfl ?_
  refine q_getfield rfl Ka rfl ?_
  refine q_iload_n rfl rfl ?_
  refine q_icmp_eq rfl (fun hc5 => ?_) (fun hc5 => ?_)
  · refine q_iconst (v := 1) rfl rfl ?_
    refine q_goto rfl ?_
    refine q_zret rfl rfl (by decide) ?_
    exact ⟨by simp_all [f_of], rfl⟩
  · refine q_aload_n rfl rfl ?_
    refine q_getfield rfl Ka rfl ?_
    refine q_iconst (v := 4) rfl rfl ?_
    refine q_icmp_ne rfl (fun hc13 => ?_) (fun hc13 => ?_)
    · refine q_aload_n rfl rfl ?_
      refine q_getfield rfl Ka rfl ?_
      refine q_iconst (v := 5) rfl rfl ?_
      refine q_icmp_ne rfl (fun hc26 => ?_) (fun hc26 => ?_)
      · refine q_iconst (v := 0) rfl rfl ?_
        refine q_zret rfl rfl (by decide) ?_
        exact ⟨by simp_all [f_of], rfl⟩
      · refine q_iload_n rfl rfl ?_
        refine q_iconst (v := 3) rfl rfl ?_
        refine q_icmp_ne rfl (fun hc31 => ?_) (fun hc31 => ?_)
        · refine q_iconst (v := 0) rfl rfl ?_
          refine q_zret rfl rfl (by decide) ?_
          exact ⟨by simp_all [f_of], rfl⟩
        · refine q_iconst (v := 1) rfl rfl ?_
          refine q_goto rfl ?_
          refine q_zret rfl rfl (by decide) ?_
          exact ⟨by simp_all [f_of], rfl⟩
    · refine q_iload_n rfl rfl ?_
      refine q_iconst (v := 1) rfl rfl ?_
      refine q_icmp_eq rfl (fun hc18 => ?_) (fun hc18 => ?_)
      · refine q_iconst (v := 1) rfl rfl ?_
        refine q_goto rfl ?_
        refine q_zret rfl rfl (by decide) ?_
        exact ⟨by simp_all [f_of], rfl⟩
      · refine q_aload_n rfl rfl ?_
        refine q_getfield rfl Ka rfl ?_
        refine q_iconst (v := 5) rfl rfl ?_
        refine q_icmp_ne rfl (fun hc26 => ?_) (fun hc26 => ?_)
        · refine q_iconst (v := 0) rfl rfl ?_
          refine q_zret rfl rfl (by decide) ?_
          exact ⟨by simp_all [f_of], rfl⟩
        · refine q_iload_n rfl rfl ?_
          refine q_iconst (v := 3) rfl rfl ?_
          refine q_icmp_ne rfl (fun hc31 => ?_) (fun hc31 => ?_)
          · refine q_iconst (v := 0) rfl rfl ?_
            refine q_zret rfl rfl (by decide) ?_
            exact ⟨by simp_all [f_of], rfl⟩
          · refine q_iconst (v := 1) rfl rfl ?_
            refine q_goto rfl ?_
            refine q_zret rfl rfl (by decide) ?_
            exact ⟨by simp_all [f_of], rfl⟩
def f_kd (k : Int32) : Prop := k = 0 ∨ k = 1 ∨ k = 2 ∨ k = 3 ∨ k = 4 ∨ k = 5
def f_mv (kind speed m : Int32) : Int32 := if kind = 1 then speed * ((m + 1) / 2) else if kind = 2 then 2 * speed * m else if kind = 4 then 0 else speed * m
theorem sX1_movedBy {X : XX} {h : XH} {a : Nat} {kind start speed bright : Int32} (Ka : h[a]? = some (.inr (1, [.int kind, .int start, .int speed, .int bright]))) (hk : f_kd kind) (m : Int32) : x_ev X xT 1 18 [.ref a, .int m] h (some (.int (f_mv kind speed m))) h := by
  refine q_ev (L := [some (.ref a), some (.int m)]) tX1_movedBy (Nat.le_of_ble_eq_true rfl) rfl ?_
  refine q_aload_n rfl rfl ?_
  refine q_getfield rfl Ka rfl ?_
  rcases hk with rfl | rfl | rfl | rfl | rfl | rfl
  · refine q_tsw (t := 58) rfl (by decide) ?_
    refine q_aload_n rfl rfl ?_
    refine q_getfield rfl Ka rfl ?_
    refine q_iload_n rfl rfl ?_
    refine q_imul rfl ?_
    refine q_iret rfl rfl ?_
    exact ⟨by rfl, rfl⟩
  · refine q_tsw (t := 36) rfl (by decide) ?_
    refine q_aload_n rfl rfl ?_
    refine q_getfield rfl Ka rfl ?_
    refine q_iload_n rfl rfl ?_
    refine q_iconst (v := 1) rfl rfl ?_
    refine q_iadd rfl ?_
    refine q_iconst (v := 2) rfl rfl ?_
    refine q_idiv rfl (by decide) ?_
    refine q_imul rfl ?_
    refine q_iret rfl rfl ?_
    exact ⟨by rfl, rfl⟩
  · refine q_tsw (t := 47) rfl (by decide) ?_
    refine q_iconst (v := 2) rfl rfl ?_
    refine q_aload_n rfl rfl ?_
    refine q_getfield rfl Ka rfl ?_
    refine q_imul rfl ?_
    refine q_iload_n rfl rfl ?_
    refine q_imul rfl ?_
    refine q_iret rfl rfl ?_
    exact ⟨by rfl, rfl⟩
  · refine q_tsw (t := 58) rfl (by decide) ?_
    refine q_aload_n rfl rfl ?_
    refine q_getfield rfl Ka rfl ?_
    refine q_iload_n rfl rfl ?_
    refine q_imul rfl ?_
    refine q_iret rfl rfl ?_
    exact ⟨by rfl, rfl⟩
  · refine q_tsw (t := 56) rfl (by decide) ?_
    refine q_iconst (v := 0) rfl rfl ?_
    refine q_iret rfl rfl ?_
    exact ⟨by rfl, rfl⟩
  · refine q_tsw (t := 58) rfl (by decide) ?_
    refine q_aload_n rfl rfl ?_
    refine q_getfield rfl Ka rfl ?_
    refine q_iload_n rfl rfl ?_
    refine q_imul rfl ?_
    refine q_iret rfl rfl ?_
    exact ⟨by rfl, rfl⟩
def f_pl (kind start speed m : Int32) : Int32 := f_rd (start + f_mv kind speed m)
theorem sX1_placeAt {X : XX} {h : XH} {a : Nat} {kind start speed bright : Int32} (Ka : h[a]? = some (.inr (1, [.int kind, .int start, .int speed, .int bright]))) (hk : f_kd kind) (m : Int32) : x_ev X xT 3 19 [.ref a, .int m] h (some (.int (f_pl kind start speed m))) h := by
  refine q_ev (L := [some (.ref a), some (.int m)]) tX1_placeAt (Nat.le_of_ble_eq_true rfl) rfl ?_
  refine q_aload_n rfl rfl ?_
  refine q_getfield rfl Ka rfl ?_
  refine q_aload_n rfl rfl ?_
  refine q_iload_n rfl rfl ?_
  refine q_callV1 rfl Ka (Nat.le_of_ble_eq_true rfl) (Nat.le_of_ble_eq_true rfl) (sX1_movedBy Ka hk m) ?_
  refine q_iadd rfl ?_
  refine q_callS1 rfl rfl (Nat.le_of_ble_eq_true rfl) (Nat.le_of_ble_eq_true rfl) (sX8_round _) ?_
  refine q_iret rfl rfl ?_
  exact ⟨rfl, rfl⟩
theorem sX1_standAt {X : XX} {h : XH} {a : Nat} {kind start speed bright : Int32} (Ka : h[a]? = some (.inr (1, [.int kind, .int start, .int speed, .int bright]))) (hk : f_kd kind) (p m : Int32) : x_ev X xT 3 13 [.ref a, .int p, .int m] h none (h.set a (.inr (1, [.int kind, .int (f_rd (p - f_mv kind speed m)), .int speed, .int bright]))) := by
  refine q_ev (L := [some (.ref a), some (.int p), some (.int m)]) tX1_standAt (Nat.le_of_ble_eq_true rfl) rfl ?_
  refine q_aload_n rfl rfl ?_
  refine q_iload_n rfl rfl ?_
  refine q_aload_n rfl rfl ?_
  refine q_iload_n rfl rfl ?_
  refine q_callV1 rfl Ka (Nat.le_of_ble_eq_true rfl) (Nat.le_of_ble_eq_true rfl) (sX1_movedBy Ka hk m) ?_
  refine q_isub rfl ?_
  refine q_callS1 rfl rfl (Nat.le_of_ble_eq_true rfl) (Nat.le_of_ble_eq_true rfl) (sX8_round _) ?_
  refine q_putX rfl Ka rfl (Nat.le_of_ble_eq_true rfl) (rfl) (by decide +kernel) (fun h1 he1 Ka_1 ho1 => ?_)
  refine q_vret rfl rfl ?_
  exact ⟨rfl, he1⟩
def f_br (kind bright m : Int32) : Int32 := if kind = 5 ∧ f_rem m 4 = 0 then (if ¬ f_of kind 3 = 0 ∧ ¬ f_rem m 2 = 0 then bright / 2 else bright) + 3 else (if ¬ f_of kind 3 = 0 ∧ ¬ f_rem m 2 = 0 then bright / 2 else bright)
theorem sX1_brightAt {X : XX} {h : XH} {a : Nat} {kind start speed bright : Int32} (Ka : h[a]? = some (.inr (1, [.int kind, .int start, .int speed, .int bright]))) (m : Int32) : x_ev X xT 2 20 [.ref a, .int m] h (some (.int (f_br kind bright m))) h := by
  refine q_ev (L := [some (.ref a), some (.int m), none]) tX1_brightAt (Nat.le_of_ble_eq_true rfl) rfl ?_
  refine q_aload_n rfl rfl ?_
  refine q_iconst (v := 3) rfl rfl ?_
  refine q_callV1 rfl Ka (Nat.le_of_ble_eq_true rfl) (Nat.le_of_ble_eq_true rfl) (sX1_isOf Ka 3) ?_
  refine q_if_eq rfl (fun hc5 => ?_) (fun hc5 => ?_)
  · refine q_aload_n rfl rfl ?_
    refine q_getfield rfl Ka rfl ?_
    refine q_istore_n (L' := [_, _, _]) rfl rfl ?_
    refine q_aload_n rfl rfl ?_
    refine q_getfield rfl Ka rfl ?_
    refine q_iconst (v := 5) rfl rfl ?_
    refine q_icmp_ne rfl (fun hc33 => ?_) (fun hc33 => ?_)
    · refine q_iload_n rfl rfl ?_
      refine q_iret rfl rfl ?_
      exact ⟨by simp_all [f_br, f_rem], rfl⟩
    · refine q_iload_n rfl rfl ?_
      refine q_iconst (v := 4) rfl rfl ?_
      refine q_irem rfl (by decide) ?_
      refine q_if_ne rfl (fun hc39 => ?_) (fun hc39 => ?_)
      · refine q_iload_n rfl rfl ?_
        refine q_iret rfl rfl ?_
        exact ⟨by simp_all [f_br, f_rem], rfl⟩
      · refine q_iload_n rfl rfl ?_
        refine q_iconst (v := 3) rfl rfl ?_
        refine q_iadd rfl ?_
        refine q_goto rfl ?_
        refine q_iret rfl rfl ?_
        exact ⟨by simp_all [f_br, f_rem], rfl⟩
  · refine q_iload_n rfl rfl ?_
    refine q_iconst (v := 2) rfl rfl ?_
    refine q_irem rfl (by decide) ?_
    refine q_if_eq rfl (fun hc11 => ?_) (fun hc11 => ?_)
    · refine q_aload_n rfl rfl ?_
      refine q_getfield rfl Ka rfl ?_
      refine q_istore_n (L' := [_, _, _]) rfl rfl ?_
      refine q_aload_n rfl rfl ?_
      refine q_getfield rfl Ka rfl ?_
      refine q_iconst (v := 5) rfl rfl ?_
      refine q_icmp_ne rfl (fun hc33 => ?_) (fun hc33 => ?_)
      · refine q_iload_n rfl rfl ?_
        refine q_iret rfl rfl ?_
        exact ⟨by simp_all [f_br, f_rem], rfl⟩
      · refine q_iload_n rfl rfl ?_
        refine q_iconst (v := 4) rfl rfl ?_
        refine q_irem rfl (by decide) ?_
        refine q_if_ne rfl (fun hc39 => ?_) (fun hc39 => ?_)
        · refine q_iload_n rfl rfl ?_
          refine q_iret rfl rfl ?_
          exact ⟨by simp_all [f_br, f_rem], rfl⟩
        · refine q_iload_n rfl rfl ?_
          refine q_iconst (v := 3) rfl rfl ?_
          refine q_iadd rfl ?_
          refine q_goto rfl ?_
          refine q_iret rfl rfl ?_
          exact ⟨by simp_all [f_br, f_rem], rfl⟩
    · refine q_aload_n rfl rfl ?_
      refine q_getfield rfl Ka rfl ?_
      refine q_iconst (v := 2) rfl rfl ?_
      refine q_idiv rfl (by decide) ?_
      refine q_goto rfl ?_
      refine q_istore_n (L' := [_, _, _]) rfl rfl ?_
      refine q_aload_n rfl rfl ?_
      refine q_getfield rfl Ka rfl ?_
      refine q_iconst (v := 5) rfl rfl ?_
      refine q_icmp_ne rfl (fun hc33 => ?_) (fun hc33 => ?_)
      · refine q_iload_n rfl rfl ?_
        refine q_iret rfl rfl ?_
        exact ⟨by simp_all [f_br, f_rem], rfl⟩
      · refine q_iload_n rfl rfl ?_
        refine q_iconst (v := 4) rfl rfl ?_
        refine q_irem rfl (by decide) ?_
        refine q_if_ne rfl (fun hc39 => ?_) (fun hc39 => ?_)
        · refine q_iload_n rfl rfl ?_
          refine q_iret rfl rfl ?_
          exact ⟨by simp_all [f_br, f_rem], rfl⟩
        · refine q_iload_n rfl rfl ?_
          refine q_iconst (v := 3) rfl rfl ?_
          refine q_iadd rfl ?_
          refine q_goto rfl ?_
          refine q_iret rfl rfl ?_
          exact ⟨by simp_all [f_br, f_rem], rfl⟩
theorem sX6_become {X : XX} {h : XH} {b : Nat} {broad sticks : Int32} (Sb : h[b]? = some (.inr (6, [.int broad, .int sticks]))) (x y : Int32) : x_ev X xT 1 70 [.ref b, .int x, .int y] h none (h.set b (.inr (6, [.int x, .int y]))) := by
  refine q_ev (L := [some (.ref b), some (.int x), some (.int y)]) tX6_become (Nat.le_of_ble_eq_true rfl) rfl ?_
  refine q_aload_n rfl rfl ?_
  refine q_iload_n rfl rfl ?_
  refine q_putX rfl Sb rfl (Nat.le_of_ble_eq_true rfl) (rfl) (by decide +kernel) (fun h1 he1 Sb_1 ho1 => ?_)
  refine q_aload_n rfl rfl ?_
  refine q_iload_n rfl rfl ?_
  refine q_putX rfl Sb_1 rfl (Nat.le_of_ble_eq_true rfl) (rfl) (by decide +kernel) (fun h2 he2 Sb_2 ho2 => ?_)
  refine q_vret rfl rfl ?_
  exact ⟨rfl, by rw [he2, he1]; simp [List.set_set]⟩
theorem sX6_broad {X : XX} {h : XH} {b : Nat} {broad sticks : Int32} (Sb : h[b]? = some (.inr (6, [.int broad, .int sticks])))  : x_ev X xT 1 71 [.ref b] h (some (.int broad)) h := by
  refine q_ev (L := [some (.ref b)]) tX6_broad (Nat.le_of_ble_eq_true rfl) rfl ?_
  refine q_aload_n rfl rfl ?_
  refine q_getfield rfl Sb rfl ?_
  refine q_iret rfl rfl ?_
  exact ⟨rfl, rfl⟩
def f_tm (broad first place : Int32) : Int32 := if f_rd (place - first) < broad then (if f_rd (place - first) = 0 then 1 else if f_rd (place - first) = broad - 1 then 1 else 2) else 0
theorem sX6_times {X : XX} {h : XH} {b : Nat} {broad sticks : Int32} (Sb : h[b]? = some (.inr (6, [.int broad, .int sticks]))) (fi pl : Int32) : x_ev X xT 3 72 [.ref b, .int fi, .int pl] h (some (.int (f_tm broad fi pl))) h := by
  refine q_ev (L := [some (.ref b), some (.int fi), some (.int pl), none]) tX6_times (Nat.le_of_ble_eq_true rfl) rfl ?_
  refine q_iload_n rfl rfl ?_
  refine q_iload_n rfl rfl ?_
  refine q_isub rfl ?_
  refine q_callS1 rfl rfl (Nat.le_of_ble_eq_true rfl) (Nat.le_of_ble_eq_true rfl) (sX8_round _) ?_
  refine q_istore_n (L' := [_, _, _, _]) rfl rfl ?_
  refine q_iload_n rfl rfl ?_
  refine q_aload_n rfl rfl ?_
  refine q_getfield rfl Sb rfl ?_
  refine q_icmp_lt rfl (fun hc12 => ?_) (fun hc12 => ?_)
  · refine q_iload_n rfl rfl ?_
    refine q_if_eq rfl (fun hc18 => ?_) (fun hc18 => ?_)
    · refine q_iconst (v := 1) rfl rfl ?_
      refine q_goto rfl ?_
      refine q_iret rfl rfl ?_
      exact ⟨by first | (simp_all [f_tm]; done) | (simp [f_tm, *]; done), rfl⟩
    · refine q_iload_n rfl rfl ?_
      refine q_aload_n rfl rfl ?_
      refine q_getfield rfl Sb rfl ?_
      refine q_iconst (v := 1) rfl rfl ?_
      refine q_isub rfl ?_
      refine q_icmp_ne rfl (fun hc28 => ?_) (fun hc28 => ?_)
      · refine q_iconst (v := 2) rfl rfl ?_
        refine q_iret rfl rfl ?_
        exact ⟨by first | (simp_all [f_tm]; done) | (simp [f_tm, *]; done), rfl⟩
      · refine q_iconst (v := 1) rfl rfl ?_
        refine q_goto rfl ?_
        refine q_iret rfl rfl ?_
        exact ⟨by first | (simp_all [f_tm]; done) | (simp [f_tm, *]; done), rfl⟩
  · refine q_iconst (v := 0) rfl rfl ?_
    refine q_iret rfl rfl ?_
    exact ⟨by first | (simp_all [f_tm]; done) | (simp [f_tm, *]; done), rfl⟩
theorem sX6_gain {X : XX} {h : XH} {b : Nat} {broad sticks : Int32} (Sb : h[b]? = some (.inr (6, [.int broad, .int sticks]))) {a : Nat} {kind start speed bright : Int32} (Ka : h[a]? = some (.inr (1, [.int kind, .int start, .int speed, .int bright]))) (hk : f_kd kind) (fi m : Int32) : x_ev X xT 4 73 [.ref b, .int fi, .ref a, .int m] h (some (.int (f_tm broad fi (f_pl kind start speed m) * f_br kind bright m))) h := by
  refine q_ev (L := [some (.ref b), some (.int fi), some (.ref a), some (.int m)]) tX6_gain (Nat.le_of_ble_eq_true rfl) rfl ?_
  refine q_aload_n rfl rfl ?_
  refine q_iload_n rfl rfl ?_
  refine q_aload_n rfl rfl ?_
  refine q_iload_n rfl rfl ?_
  refine q_callV1 rfl Ka (Nat.le_of_ble_eq_true rfl) (Nat.le_of_ble_eq_true rfl) (sX1_placeAt Ka hk m) ?_
  refine q_callV2 rfl Sb (Nat.le_of_ble_eq_true rfl) (Nat.le_of_ble_eq_true rfl) (sX6_times Sb fi _) ?_
  refine q_aload_n rfl rfl ?_
  refine q_iload_n rfl rfl ?_
  refine q_callV1 rfl Ka (Nat.le_of_ble_eq_true rfl) (Nat.le_of_ble_eq_true rfl) (sX1_brightAt Ka m) ?_
  refine q_imul rfl ?_
  refine q_iret rfl rfl ?_
  exact ⟨rfl, rfl⟩
def f_ef (sticks first bv : Int32) : Int32 := if f_rd (if 0 ≤ bv then sticks - first else first - sticks) ≤ 0 then f_abs bv else if f_abs bv < f_rd (if 0 ≤ bv then sticks - first else first - sticks) then f_abs bv else f_abs bv + 4
theorem sX6_effortOf {X : XX} {h : XH} {b : Nat} {broad sticks : Int32} (Sb : h[b]? = some (.inr (6, [.int broad, .int sticks]))) (fi bv : Int32) : x_ev X xT 3 74 [.ref b, .int fi, .int bv] h (some (.int (f_ef sticks fi bv))) h := by
  refine q_ev (L := [some (.ref b), some (.int fi), some (.int bv), none, none, none]) tX6_effortOf (Nat.le_of_ble_eq_true rfl) rfl ?_
  refine q_iload_n rfl rfl ?_
  refine q_callS1 rfl rfl (Nat.le_of_ble_eq_true rfl) (Nat.le_of_ble_eq_true rfl) (sJ9_abs_0f7a4 _) ?_
  refine q_istore_n (L' := [_, _, _, _, _, _]) rfl rfl ?_
  refine q_iload_n rfl rfl ?_
  refine q_if_ge rfl (fun hc6 => ?_) (fun hc6 => ?_)
  · refine q_aload_n rfl rfl ?_
    refine q_getfield rfl Sb rfl ?_
    refine q_iload_n rfl rfl ?_
    refine q_isub rfl ?_
    refine q_callS1 rfl rfl (Nat.le_of_ble_eq_true rfl) (Nat.le_of_ble_eq_true rfl) (sX8_round _) ?_
    refine q_istore (L' := [_, _, _, _, _, _]) rfl rfl ?_
    refine q_iload rfl rfl ?_
    refine q_if_le rfl (fun hc31 => ?_) (fun hc31 => ?_)
    · refine q_iconst (v := 0) rfl rfl ?_
      refine q_istore (L' := [_, _, _, _, _, _]) rfl rfl ?_
      refine q_iload rfl rfl ?_
      refine q_if_eq rfl (fun hc49 => ?_) (fun hc49 => ?_)
      · refine q_iload_n rfl rfl ?_
        refine q_iret rfl rfl ?_
        exact ⟨by simp [f_ef, *], rfl⟩
      · exact absurd hc49 (by decide)
    · refine q_iload rfl rfl ?_
      refine q_iload_n rfl rfl ?_
      refine q_icmp_gt rfl (fun hc37 => ?_) (fun hc37 => ?_)
      · refine q_iconst (v := 0) rfl rfl ?_
        refine q_istore (L' := [_, _, _, _, _, _]) rfl rfl ?_
        refine q_iload rfl rfl ?_
        refine q_if_eq rfl (fun hc49 => ?_) (fun hc49 => ?_)
        · refine q_iload_n rfl rfl ?_
          refine q_iret rfl rfl ?_
          exact ⟨by simp [f_ef, *], rfl⟩
        · exact absurd hc49 (by decide)
      · refine q_iconst (v := 1) rfl rfl ?_
        refine q_goto rfl ?_
        refine q_istore (L' := [_, _, _, _, _, _]) rfl rfl ?_
        refine q_iload rfl rfl ?_
        refine q_if_eq rfl (fun hc49 => ?_) (fun hc49 => ?_)
        · exact absurd hc49 (by decide)
        · refine q_iload_n rfl rfl ?_
          refine q_iconst (v := 4) rfl rfl ?_
          refine q_iadd rfl ?_
          refine q_goto rfl ?_
          refine q_iret rfl rfl ?_
          exact ⟨by simp [f_ef, *], rfl⟩
  · refine q_iload_n rfl rfl ?_
    refine q_aload_n rfl rfl ?_
    refine q_getfield rfl Sb rfl ?_
    refine q_isub rfl ?_
    refine q_goto rfl ?_
    refine q_callS1 rfl rfl (Nat.le_of_ble_eq_true rfl) (Nat.le_of_ble_eq_true rfl) (sX8_round _) ?_
    refine q_istore (L' := [_, _, _, _, _, _]) rfl rfl ?_
    refine q_iload rfl rfl ?_
    refine q_if_le rfl (fun hc31 => ?_) (fun hc31 => ?_)
    · refine q_iconst (v := 0) rfl rfl ?_
      refine q_istore (L' := [_, _, _, _, _, _]) rfl rfl ?_
      refine q_iload rfl rfl ?_
      refine q_if_eq rfl (fun hc49 => ?_) (fun hc49 => ?_)
      · refine q_iload_n rfl rfl ?_
        refine q_iret rfl rfl ?_
        exact ⟨by simp [f_ef, *], rfl⟩
      · exact absurd hc49 (by decide)
    · refine q_iload rfl rfl ?_
      refine q_iload_n rfl rfl ?_
      refine q_icmp_gt rfl (fun hc37 => ?_) (fun hc37 => ?_)
      · refine q_iconst (v := 0) rfl rfl ?_
        refine q_istore (L' := [_, _, _, _, _, _]) rfl rfl ?_
        refine q_iload rfl rfl ?_
        refine q_if_eq rfl (fun hc49 => ?_) (fun hc49 => ?_)
        · refine q_iload_n rfl rfl ?_
          refine q_iret rfl rfl ?_
          exact ⟨by simp [f_ef, *], rfl⟩
        · exact absurd hc49 (by decide)
      · refine q_iconst (v := 1) rfl rfl ?_
        refine q_goto rfl ?_
        refine q_istore (L' := [_, _, _, _, _, _]) rfl rfl ?_
        refine q_iload rfl rfl ?_
        refine q_if_eq rfl (fun hc49 => ?_) (fun hc49 => ?_)
        · exact absurd hc49 (by decide)
        · refine q_iload_n rfl rfl ?_
          refine q_iconst (v := 4) rfl rfl ?_
          refine q_iadd rfl ?_
          refine q_goto rfl ?_
          refine q_iret rfl rfl ?_
          exact ⟨by simp [f_ef, *], rfl⟩
