set_option maxRecDepth 20000 in
theorem law_c3 {xs : Nat → Int32} : dw_ok (pr_law 6 xs) 335 599567 7247295 (dw_l1 0 none none) [] (435, SH1, IN1, JN1) := by
  refine dw_runB 30 (fun pc => [336, 340, 1960].any (Nat.beq pc)) (fun B hB => ?_)
  refine hB _ _ _ _ _ _ ?_
  refine dw_okV rfl rfl (by decide +kernel) rfl (by decide) rfl rfl ?_
  refine dw_enter rfl ?_
  refine dw_runB 100 (fun _ => false) (fun B hB => ?_)
  refine dw_runB 30 (fun pc => [336, 340, 1960].any (Nat.beq pc)) (fun B hB => ?_)
  refine hB _ _ _ _ _ _ ?_
  refine dw_okV rfl rfl (by decide +kernel) rfl (by decide) rfl rfl ?_
  refine dw_enter rfl ?_
  refine dw_runB 100 (fun _ => false) (fun B hB => ?_)
  refine dw_runB 30 (fun pc => [336, 340, 1960].any (Nat.beq pc)) (fun B hB => ?_)
  refine hB _ _ _ _ _ _ ?_
  exact law_z
