/-! specs of leaves: Math, Line, Light, Slit, View, Night -/
def f_abs (x : Int32) : Int32 := if 0 ≤ x then x else -x
def f_max (x y : Int32) : Int32 := if x < y then y else x
def f_min (x y : Int32) : Int32 := if y < x then y else x
def f_fmod (x y : Int32) : Int32 := if 0 ≤ x ^^^ y then x - x / y * y else if x - x / y * y = 0 then x - x / y * y else x - x / y * y + y
theorem sJ9_abs_0f7a4 {X : XX} {h : XH} (x : Int32) : x_ev X xT 1 252 [.int x] h (some (.int (f_abs x))) h := by
  refine q_ev (L := [some (.int x)]) tJ9_abs_0f7a4 (Nat.le_of_ble_eq_true rfl) rfl ?_
  refine q_iload_n rfl rfl ?_
  refine q_if_ge rfl (fun hc1 => ?_) (fun hc1 => ?_)
  · refine q_iload_n rfl rfl ?_
    refine q_iret rfl rfl ?_
    exact ⟨by simp [f_abs, *], rfl⟩
  · refine q_iload_n rfl rfl ?_
    refine q_ineg rfl ?_
    refine q_goto rfl ?_
    refine q_iret rfl rfl ?_
    exact ⟨by simp [f_abs, *], rfl⟩
theorem sJ9_max_7cf53 {X : XX} {h : XH} (x y : Int32) : x_ev X xT 1 253 [.int x, .int y] h (some (.int (f_max x y))) h := by
  refine q_ev (L := [some (.int x), some (.int y)]) tJ9_max_7cf53 (Nat.le_of_ble_eq_true rfl) rfl ?_
  refine q_iload_n rfl rfl ?_
  refine q_iload_n rfl rfl ?_
  refine q_icmp_lt rfl (fun hc2 => ?_) (fun hc2 => ?_)
  · refine q_iload_n rfl rfl ?_
    refine q_iret rfl rfl ?_
    exact ⟨by simp [f_max, *], rfl⟩
  · refine q_iload_n rfl rfl ?_
    refine q_goto rfl ?_
    refine q_iret rfl rfl ?_
    exact ⟨by simp [f_max, *], rfl⟩
theorem sJ9_min_7cf53 {X : XX} {h : XH} (x y : Int32) : x_ev X xT 1 254 [.int x, .int y] h (some (.int (f_min x y))) h := by
  refine q_ev (L := [some (.int x), some (.int y)]) tJ9_min_7cf53 (Nat.le_of_ble_eq_true rfl) rfl ?_
  refine q_iload_n rfl rfl ?_
  refine q_iload_n rfl rfl ?_
  refine q_icmp_gt rfl (fun hc2 => ?_) (fun hc2 => ?_)
  · refine q_iload_n rfl rfl ?_
    refine q_iret rfl rfl ?_
    exact ⟨by simp [f_min, *], rfl⟩
  · refine q_iload_n rfl rfl ?_
    refine q_goto rfl ?_
    refine q_iret rfl rfl ?_
    exact ⟨by simp [f_min, *], rfl⟩
theorem sJ9_floorMod_7cf53 {X : XX} {h : XH} (x y : Int32) (hy : ¬ y = 0) : x_ev X xT 1 251 [.int x, .int y] h (some (.int (f_fmod x y))) h := by
  refine q_ev (L := [some (.int x), some (.int y), none]) tJ9_floorMod_7cf53 (Nat.le_of_ble_eq_true rfl) rfl ?_
  refine q_iload_n rfl rfl ?_
  refine q_iload_n rfl rfl ?_
  refine q_irem rfl (hy) ?_
  refine q_istore_n (L' := [_, _, _]) rfl rfl ?_
  refine q_iload_n rfl rfl ?_
  refine q_iload_n rfl rfl ?_
  refine q_ixor rfl ?_
  refine q_if_ge rfl (fun hc7 => ?_) (fun hc7 => ?_)
  · refine q_iload_n rfl rfl ?_
    refine q_iret rfl rfl ?_
    exact ⟨by simp [f_fmod, *], rfl⟩
  · refine q_iload_n rfl rfl ?_
    refine q_if_eq rfl (fun hc11 => ?_) (fun hc11 => ?_)
    · refine q_iload_n rfl rfl ?_
      refine q_iret rfl rfl ?_
      exact ⟨by simp [f_fmod, *], rfl⟩
    · refine q_iload_n rfl rfl ?_
      refine q_iload_n rfl rfl ?_
      refine q_iadd rfl ?_
      refine q_iret rfl rfl ?_
      exact ⟨by simp [f_fmod, *], rfl⟩
def f_rd (x : Int32) : Int32 := f_fmod x 24
theorem sX8_round {X : XX} {h : XH} (x : Int32) : x_ev X xT 2 123 [.int x] h (some (.int (f_rd x))) h := by
  refine q_ev (L := [some (.int x)]) tX8_round (Nat.le_of_ble_eq_true rfl) rfl ?_
  refine q_iload_n rfl rfl ?_
  refine q_bipush (v := 24) rfl rfl ?_
  refine q_callS2 rfl rfl (Nat.le_of_ble_eq_true rfl) (Nat.le_of_ble_eq_true rfl) (sJ9_floorMod_7cf53 x 24 (by decide)) ?_
  refine q_iret rfl rfl ?_
  exact ⟨rfl, rfl⟩
