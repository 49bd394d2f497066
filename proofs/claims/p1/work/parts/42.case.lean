set_option maxRecDepth 20000 in
theorem law_c3 {xs : Nat → Int32} : dw_ok (pr_law 6 xs) 335 599567 7247295 (dw_l1 0 none none) [] (435, SH1, IN1, JN1) := by
  refine dw_run 30 (fun pc => Nat.beq pc 1960) ?_
  refine dw_enter (by rfl) ?_
  refine dw_run 100 (fun _ => false) ?_
  refine dw_enter (by rfl) ?_
  refine dw_run 100 (fun _ => false) ?_
  exact law_z
