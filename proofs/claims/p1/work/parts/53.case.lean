set_option maxHeartbeats 20000000 in
set_option maxRecDepth 20000 in
theorem law_c11 {xs : Nat → Int32} : dw_ok (pr_law 6 xs) 657 599567 7247295 (dw_l1 0 none none) [] (435, SH1, IN1, JN1) := by
  refine rB_law (fun B hB => ?_)
  refine hB _ _ _ _ _ _ ?_
  refine dw_okV (a := 0) rfl rfl (show (SH1 0).1 = 11 by decide +kernel) rfl (by decide) rfl rfl ?_
  refine dw_enter rfl ?_
  refine rB_X11_plan (fun B hB => ?_)
  refine hB _ _ _ _ _ _ ?_
  refine dw_okV (a := 131) rfl rfl (show (SH1 131).1 = 6 by decide +kernel) rfl (by decide) rfl rfl ?_
  refine dw_enter rfl ?_
  refine rB_X6_readText (fun B hB => ?_)
  refine hB _ _ _ _ _ _ ?_
  refine dw_okV (a := 1) rfl rfl (show (SH1 1).1 = 9 by decide +kernel) rfl (by decide) rfl rfl ?_
  refine dw_enter rfl ?_
  refine rB_X9_open (fun B hB => ?_)
  refine rB_X6_readText (fun B hB => ?_)
  refine hB _ _ _ _ _ _ ?_
  refine dw_okV (a := 1) rfl rfl (show (SH1 1).1 = 9 by decide +kernel) rfl (by decide) rfl rfl ?_
  refine dw_enter rfl ?_
  refine rB_X9_take (fun B hB => ?_)
  refine rB_X6_readText (fun B hB => ?_)
  refine rB_X11_plan (fun B hB => ?_)
  refine hB _ _ _ _ _ _ ?_
  refine dw_okV (a := 11) rfl rfl (show (SH1 11).1 = 5 by decide +kernel) rfl (by decide) rfl rfl ?_
  refine dw_enter rfl ?_
  refine rB_X5_copyFrom (fun B hB => ?_)
  refine rB_X11_plan (fun B hB => ?_)
  refine rB_law (fun B hB => ?_)
  refine hB _ _ _ _ _ _ ?_
  refine dw_okV (a := 404) rfl rfl (show (SH1 404).1 = 12 by decide +kernel) rfl (by decide) rfl rfl ?_
  refine dw_enter rfl ?_
  refine rB_X12_plan (fun B hB => ?_)
  refine hB _ _ _ _ _ _ ?_
  refine dw_okV (a := 404) rfl rfl (show (SH1 404).1 = 12 by decide +kernel) rfl (by decide) rfl rfl ?_
  refine dw_enter rfl ?_
  refine rB_X12_taken (fun B hB => ?_)
  refine rB_X12_plan (fun B hB => ?_)
  refine hB _ _ _ _ _ _ ?_
  refine dw_okV (a := 404) rfl rfl (show (SH1 404).1 = 12 by decide +kernel) rfl (by decide) rfl rfl ?_
  refine dw_enter rfl ?_
  refine rB_X12_next (fun B hB => ?_)
  refine hB _ _ _ _ _ _ ?_
  refine dw_okV (a := 404) rfl rfl (show (SH1 404).1 = 12 by decide +kernel) rfl (by decide) rfl rfl ?_
  refine dw_enter rfl ?_
  refine rB_X12_peek (fun B hB => ?_)
  refine rB_X12_next (fun B hB => ?_)
  refine hB _ _ _ _ _ _ ?_
  refine dw_okV (a := 404) rfl rfl (show (SH1 404).1 = 12 by decide +kernel) rfl (by decide) rfl rfl ?_
  refine dw_enter rfl ?_
  refine rB_X12_peek (fun B hB => ?_)
  refine rB_X12_next (fun B hB => ?_)
  refine hB _ _ _ _ _ _ ?_
  refine dw_okV (a := 404) rfl rfl (show (SH1 404).1 = 12 by decide +kernel) rfl (by decide) rfl rfl ?_
  refine dw_enter rfl ?_
  refine rB_X12_peek (fun B hB => ?_)
  refine rB_X12_next (fun B hB => ?_)
  refine rB_X12_plan (fun B hB => ?_)
  refine rB_law (fun B hB => ?_)
  refine hB _ _ _ _ _ _ ?_
  exact law_z
