noncomputable def t_h0 : eH := e_push (1, 0, 0, 0, eall 10 (0, 0, fun _ => .inl 0)) (11, 18, e_dv 11) 18
noncomputable def t_B : eB := fun _ => (0, 4294967295)
theorem t_1 : (e_eval (opT 6) pgs t_B 10 86 [.inr (.inr 1)] (e_push (1, 0, 0, 0, eall 10 (0, 0, fun _ => .inl 0)) (12, 68, e_dv 12) 68)).isSome = true := by decide +kernel
theorem t_2 : (e_eval (opT 6) pgs t_B 10 41 [.inr (.inr 1)] t_h0).isSome = true := by decide +kernel
