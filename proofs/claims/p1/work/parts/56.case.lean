set_option maxHeartbeats 20000000 in
set_option maxRecDepth 20000 in
theorem law_c2 {xs : Nat → Int32} : dw_ok (pr_law 6 xs) 322 599567 7247295 (dw_l1 0 none none) [] (435, SH1, IN1, JN1) := by
  refine rB_law (fun B hB => ?_)
  refine hB _ _ _ _ _ _ ?_
  refine dw_okV (a := 0) rfl rfl (show (SH1 0).1 = 11 by decide +kernel) rfl (by decide) rfl rfl ?_
  refine dw_enter rfl ?_
  refine rB_X11_ground (fun B hB => ?_)
  refine hB _ _ _ _ _ _ ?_
  refine dw_okV (a := 101) rfl rfl (show (SH1 101).1 = 1 by decide +kernel) rfl (by decide) rfl rfl ?_
  refine dw_enter rfl ?_
  refine rB_X1_readText (fun B hB => ?_)
  refine hB _ _ _ _ _ _ ?_
  refine dw_okV (a := 102) rfl rfl (show (SH1 102).1 = 0 by decide +kernel) rfl (by decide) rfl rfl ?_
  refine dw_enter rfl ?_
  refine rB_X0_clear (fun B hB => ?_)
  refine rB_X1_readText (fun B hB => ?_)
  refine hB _ _ _ _ _ _ ?_
  refine dw_okV (a := 1) rfl rfl (show (SH1 1).1 = 9 by decide +kernel) rfl (by decide) rfl rfl ?_
  refine dw_enter rfl ?_
  refine rB_X9_open (fun B hB => ?_)
  refine rB_X1_readText (fun B hB => ?_)
  refine hB _ _ _ _ _ _ ?_
  refine dw_okV (a := 1) rfl rfl (show (SH1 1).1 = 9 by decide +kernel) rfl (by decide) rfl rfl ?_
  refine dw_enter rfl ?_
  refine rB_X9_take (fun B hB => ?_)
  refine rB_X1_readText (fun B hB => ?_)
  refine hB _ _ _ _ _ _ ?_
  refine dw_okV (a := 101) rfl rfl (show (SH1 101).1 = 1 by decide +kernel) rfl (by decide) rfl rfl ?_
  refine dw_enter rfl ?_
  refine rB_X1_setSky (fun B hB => ?_)
  refine rB_X1_readText (fun B hB => ?_)
  refine rB_X11_ground (fun B hB => ?_)
  refine hB _ _ _ _ _ _ ?_
  refine dw_okV (a := 3) rfl rfl (show (SH1 3).1 = 8 by decide +kernel) rfl (by decide) rfl rfl ?_
  refine dw_enter rfl ?_
  refine rB_X8_take (fun B hB => ?_)
  refine hB _ _ _ _ _ _ ?_
  refine dw_okV (a := 4) rfl rfl (show (SH1 4).1 = 0 by decide +kernel) rfl (by decide) rfl rfl ?_
  refine dw_enter rfl ?_
  refine rB_X0_copyFrom (fun B hB => ?_)
  refine rB_X8_take (fun B hB => ?_)
  refine hB _ _ _ _ _ _ ?_
  refine dw_okV (a := 3) rfl rfl (show (SH1 3).1 = 8 by decide +kernel) rfl (by decide) rfl rfl ?_
  refine dw_enter rfl ?_
  refine rB_X8_nightOf (fun B hB => ?_)
  refine rB_X8_take (fun B hB => ?_)
  refine hB _ _ _ _ _ _ ?_
  refine dw_okV (a := 3) rfl rfl (show (SH1 3).1 = 8 by decide +kernel) rfl (by decide) rfl rfl ?_
  refine dw_enter rfl ?_
  refine rB_X8_nightOf (fun B hB => ?_)
  refine rB_X8_take (fun B hB => ?_)
  refine hB _ _ _ _ _ _ ?_
  refine dw_okV (a := 3) rfl rfl (show (SH1 3).1 = 8 by decide +kernel) rfl (by decide) rfl rfl ?_
  refine dw_enter rfl ?_
  refine rB_X8_nightOf (fun B hB => ?_)
  refine rB_X8_take (fun B hB => ?_)
  refine hB _ _ _ _ _ _ ?_
  refine dw_okV (a := 3) rfl rfl (show (SH1 3).1 = 8 by decide +kernel) rfl (by decide) rfl rfl ?_
  refine dw_enter rfl ?_
  refine rB_X8_nightOf (fun B hB => ?_)
  refine rB_X8_take (fun B hB => ?_)
  refine hB _ _ _ _ _ _ ?_
  refine dw_okV (a := 3) rfl rfl (show (SH1 3).1 = 8 by decide +kernel) rfl (by decide) rfl rfl ?_
  refine dw_enter rfl ?_
  refine rB_X8_nightOf (fun B hB => ?_)
  refine rB_X8_take (fun B hB => ?_)
  refine hB _ _ _ _ _ _ ?_
  refine dw_okV (a := 3) rfl rfl (show (SH1 3).1 = 8 by decide +kernel) rfl (by decide) rfl rfl ?_
  refine dw_enter rfl ?_
  refine rB_X8_nightOf (fun B hB => ?_)
  refine rB_X8_take (fun B hB => ?_)
  refine rB_X11_ground (fun B hB => ?_)
  refine rB_law (fun B hB => ?_)
  refine hB _ _ _ _ _ _ ?_
  refine dw_okV (a := 404) rfl rfl (show (SH1 404).1 = 12 by decide +kernel) rfl (by decide) rfl rfl ?_
  refine dw_enter rfl ?_
  refine rC_X12_ground (fun B hB => ?_)
  refine hB _ _ _ _ _ _ ?_
  refine dw_okV (a := 404) rfl rfl (show (SH1 404).1 = 12 by decide +kernel) rfl (by decide) rfl rfl ?_
  refine dw_enter rfl ?_
  refine rB_X12_taken (fun B hB => ?_)
  refine rC_X12_ground (fun B hB => ?_)
  refine hB _ _ _ _ _ _ ?_
  refine l_g1s ?_
  refine rC_X12_ground (fun B hB => ?_)
  refine hB _ _ _ _ _ _ ?_
  refine dw_okV (a := 404) rfl rfl (show (SH1 404).1 = 12 by decide +kernel) rfl (by decide) rfl rfl ?_
  refine dw_enter rfl ?_
  refine rB_X12_next (fun B hB => ?_)
  refine hB _ _ _ _ _ _ ?_
  refine dw_okV (a := 404) rfl rfl (show (SH1 404).1 = 12 by decide +kernel) rfl (by decide) rfl rfl ?_
  refine dw_enter rfl ?_
  refine rB_X12_peek (fun B hB => ?_)
  refine rB_X12_next (fun B hB => ?_)
  refine hB _ _ _ _ _ _ ?_
  refine dw_okV (a := 404) rfl rfl (show (SH1 404).1 = 12 by decide +kernel) rfl (by decide) rfl rfl ?_
  refine dw_enter rfl ?_
  refine rB_X12_peek (fun B hB => ?_)
  refine rB_X12_next (fun B hB => ?_)
  refine hB _ _ _ _ _ _ ?_
  refine dw_okV (a := 404) rfl rfl (show (SH1 404).1 = 12 by decide +kernel) rfl (by decide) rfl rfl ?_
  refine dw_enter rfl ?_
  refine rB_X12_peek (fun B hB => ?_)
  refine rB_X12_next (fun B hB => ?_)
  refine rC_X12_ground (fun B hB => ?_)
  refine hB _ _ _ _ _ _ ?_
  refine l_g2s ?_
  refine rC_X12_ground (fun B hB => ?_)
  refine rB_law (fun B hB => ?_)
  refine hB _ _ _ _ _ _ ?_
  exact law_z
