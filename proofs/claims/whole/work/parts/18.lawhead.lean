/-- the law's first steps: both objects are made -/
theorem x_law_head {X : XX} {P : Option Value → XH → Prop} (k : Wp X xT 8 mL_law 18 [some (.ref 1000), some (.ref 0), some (.ref 51), some (.int 0)] [] (HX x_I0 x_A0 x_J0 x_B0 x_F0) P) : Wp X xT 8 mL_law 0 [some (.ref 1000), none, none, none] [] [] P := by
  refine q_new rfl rfl (Nat.le_of_ble_eq_true rfl) ?_
  refine q_dupA rfl ?_
  refine q_callI0 rfl rfl (Nat.le_of_ble_eq_true rfl) (Nat.le_of_ble_eq_true rfl) (x_exC_ok 4 _ _ _ _ x_ctorC) ?_
  refine q_astore_n (L' := [_, _, _, _]) rfl rfl ?_
  refine q_new rfl rfl (Nat.le_of_ble_eq_true rfl) ?_
  refine q_dupA rfl ?_
  refine q_callI0 rfl rfl (Nat.le_of_ble_eq_true rfl) (Nat.le_of_ble_eq_true rfl) (x_exC_ok 3 _ _ _ _ x_ctorM) ?_
  refine q_astore_n (L' := [_, _, _, _]) rfl rfl ?_
  refine q_iconst (v := 0) rfl rfl ?_
  refine q_istore_n (L' := [_, _, _, _]) rfl rfl ?_
  exact k
