set_option maxHeartbeats 20000000 in
set_option maxRecDepth 20000 in
theorem law_c26 {xs : Nat → Int32} : dw_ok (pr_law 6 xs) 1308 599567 7247295 (dw_l1 0 none none) [] (435, SH1, IN1, JN1) := by
  refine rB_law (fun B hB => ?_)
  refine hB _ _ _ _ _ _ ?_
  refine dw_okV (a := 0) rfl rfl (show (SH1 0).1 = 11 by decide +kernel) rfl (by decide) rfl rfl ?_
  refine dw_enter rfl ?_
  refine rB_X11_lawn (fun B hB => ?_)
  refine hB _ _ _ _ _ _ ?_
  refine dw_okV (a := 0) rfl rfl (show (SH1 0).1 = 11 by decide +kernel) rfl (by decide) rfl rfl ?_
  refine dw_enter rfl ?_
  refine rB_X11_isLawn (fun B hB => ?_)
  refine hB _ _ _ _ _ _ ?_
  refine dw_okV (a := 4) rfl rfl (show (SH1 4).1 = 0 by decide +kernel) rfl (by decide) rfl rfl ?_
  refine dw_enter rfl ?_
  refine rB_X0_size (fun B hB => ?_)
  refine rB_X11_isLawn (fun B hB => ?_)
  refine rB_X11_lawn (fun B hB => ?_)
  refine hB _ _ _ _ _ _ ?_
  refine dw_okV (a := 0) rfl rfl (show (SH1 0).1 = 11 by decide +kernel) rfl (by decide) rfl rfl ?_
  refine dw_enter rfl ?_
  refine rB_X11_runBehind (fun B hB => ?_)
  refine hB _ _ _ _ _ _ ?_
  refine dw_okS rfl rfl rfl (by decide) rfl rfl ?_
  refine dw_enter rfl ?_
  refine rB_X11_isStep (fun B hB => ?_)
  refine rB_X11_runBehind (fun B hB => ?_)
  refine hB _ _ _ _ _ _ ?_
  refine dw_okV (a := 0) rfl rfl (show (SH1 0).1 = 11 by decide +kernel) rfl (by decide) rfl rfl ?_
  refine dw_enter rfl ?_
  refine rB_X11_start (fun B hB => ?_)
  refine hB _ _ _ _ _ _ ?_
  refine dw_okV (a := 3) rfl rfl (show (SH1 3).1 = 8 by decide +kernel) rfl (by decide) rfl rfl ?_
  refine dw_enter rfl ?_
  refine rB_X8_nightOf (fun B hB => ?_)
  refine rB_X11_start (fun B hB => ?_)
  refine (fun (_ : _ ∨ _) => ?_)
  refine rB_X11_runBehind (fun B hB => ?_)
  refine rB_X11_lawn (fun B hB => ?_)
  refine hB _ _ _ _ _ _ ?_
  refine dw_okV (a := 0) rfl rfl (show (SH1 0).1 = 11 by decide +kernel) rfl (by decide) rfl rfl ?_
  refine dw_enter rfl ?_
  refine rB_X11_runBehind (fun B hB => ?_)
  refine hB _ _ _ _ _ _ ?_
  refine dw_okS rfl rfl rfl (by decide) rfl rfl ?_
  refine dw_enter rfl ?_
  refine rB_X11_isStep (fun B hB => ?_)
  refine rB_X11_runBehind (fun B hB => ?_)
  refine hB _ _ _ _ _ _ ?_
  refine dw_okV (a := 0) rfl rfl (show (SH1 0).1 = 11 by decide +kernel) rfl (by decide) rfl rfl ?_
  refine dw_enter rfl ?_
  refine rB_X11_start (fun B hB => ?_)
  refine hB _ _ _ _ _ _ ?_
  refine dw_okV (a := 3) rfl rfl (show (SH1 3).1 = 8 by decide +kernel) rfl (by decide) rfl rfl ?_
  refine dw_enter rfl ?_
  refine rB_X8_nightOf (fun B hB => ?_)
  refine rB_X11_start (fun B hB => ?_)
  refine (fun (_ : _ ∨ _) => ?_)
  refine rB_X11_runBehind (fun B hB => ?_)
  refine rB_X11_lawn (fun B hB => ?_)
  refine hB _ _ _ _ _ _ ?_
  refine dw_okV (a := 0) rfl rfl (show (SH1 0).1 = 11 by decide +kernel) rfl (by decide) rfl rfl ?_
  refine dw_enter rfl ?_
  refine rB_X11_runBehind (fun B hB => ?_)
  refine hB _ _ _ _ _ _ ?_
  refine dw_okS rfl rfl rfl (by decide) rfl rfl ?_
  refine dw_enter rfl ?_
  refine rB_X11_isStep (fun B hB => ?_)
  refine rB_X11_runBehind (fun B hB => ?_)
  refine hB _ _ _ _ _ _ ?_
  refine dw_okV (a := 0) rfl rfl (show (SH1 0).1 = 11 by decide +kernel) rfl (by decide) rfl rfl ?_
  refine dw_enter rfl ?_
  refine rB_X11_start (fun B hB => ?_)
  refine hB _ _ _ _ _ _ ?_
  refine dw_okV (a := 3) rfl rfl (show (SH1 3).1 = 8 by decide +kernel) rfl (by decide) rfl rfl ?_
  refine dw_enter rfl ?_
  refine rB_X8_nightOf (fun B hB => ?_)
  refine rB_X11_start (fun B hB => ?_)
  refine (fun (_ : _ ∨ _) => ?_)
  refine rB_X11_runBehind (fun B hB => ?_)
  refine rB_X11_lawn (fun B hB => ?_)
  refine hB _ _ _ _ _ _ ?_
  refine dw_okV (a := 0) rfl rfl (show (SH1 0).1 = 11 by decide +kernel) rfl (by decide) rfl rfl ?_
  refine dw_enter rfl ?_
  refine rB_X11_runBehind (fun B hB => ?_)
  refine hB _ _ _ _ _ _ ?_
  refine dw_okS rfl rfl rfl (by decide) rfl rfl ?_
  refine dw_enter rfl ?_
  refine rB_X11_isStep (fun B hB => ?_)
  refine rB_X11_runBehind (fun B hB => ?_)
  refine hB _ _ _ _ _ _ ?_
  refine dw_okV (a := 0) rfl rfl (show (SH1 0).1 = 11 by decide +kernel) rfl (by decide) rfl rfl ?_
  refine dw_enter rfl ?_
  refine rB_X11_start (fun B hB => ?_)
  refine hB _ _ _ _ _ _ ?_
  refine dw_okV (a := 3) rfl rfl (show (SH1 3).1 = 8 by decide +kernel) rfl (by decide) rfl rfl ?_
  refine dw_enter rfl ?_
  refine rB_X8_nightOf (fun B hB => ?_)
  refine rB_X11_start (fun B hB => ?_)
  refine (fun (_ : _ ∨ _) => ?_)
  refine rB_X11_runBehind (fun B hB => ?_)
  refine rB_X11_lawn (fun B hB => ?_)
  refine hB _ _ _ _ _ _ ?_
  refine dw_okV (a := 0) rfl rfl (show (SH1 0).1 = 11 by decide +kernel) rfl (by decide) rfl rfl ?_
  refine dw_enter rfl ?_
  refine rB_X11_runBehind (fun B hB => ?_)
  refine hB _ _ _ _ _ _ ?_
  refine dw_okS rfl rfl rfl (by decide) rfl rfl ?_
  refine dw_enter rfl ?_
  refine rB_X11_isStep (fun B hB => ?_)
  refine rB_X11_runBehind (fun B hB => ?_)
  refine hB _ _ _ _ _ _ ?_
  refine dw_okV (a := 0) rfl rfl (show (SH1 0).1 = 11 by decide +kernel) rfl (by decide) rfl rfl ?_
  refine dw_enter rfl ?_
  refine rB_X11_start (fun B hB => ?_)
  refine hB _ _ _ _ _ _ ?_
  refine dw_okV (a := 3) rfl rfl (show (SH1 3).1 = 8 by decide +kernel) rfl (by decide) rfl rfl ?_
  refine dw_enter rfl ?_
  refine rB_X8_nightOf (fun B hB => ?_)
  refine rB_X11_start (fun B hB => ?_)
  refine (fun (_ : _ ∨ _) => ?_)
  refine rB_X11_runBehind (fun B hB => ?_)
  refine rB_X11_lawn (fun B hB => ?_)
  refine hB _ _ _ _ _ _ ?_
  refine dw_okV (a := 0) rfl rfl (show (SH1 0).1 = 11 by decide +kernel) rfl (by decide) rfl rfl ?_
  refine dw_enter rfl ?_
  refine rB_X11_runBehind (fun B hB => ?_)
  refine hB _ _ _ _ _ _ ?_
  refine dw_okS rfl rfl rfl (by decide) rfl rfl ?_
  refine dw_enter rfl ?_
  refine rB_X11_isStep (fun B hB => ?_)
  refine rB_X11_runBehind (fun B hB => ?_)
  refine hB _ _ _ _ _ _ ?_
  refine dw_okV (a := 0) rfl rfl (show (SH1 0).1 = 11 by decide +kernel) rfl (by decide) rfl rfl ?_
  refine dw_enter rfl ?_
  refine rB_X11_start (fun B hB => ?_)
  refine hB _ _ _ _ _ _ ?_
  refine dw_okV (a := 3) rfl rfl (show (SH1 3).1 = 8 by decide +kernel) rfl (by decide) rfl rfl ?_
  refine dw_enter rfl ?_
  refine rB_X8_nightOf (fun B hB => ?_)
  refine rB_X11_start (fun B hB => ?_)
  refine (fun (_ : _ ∨ _) => ?_)
  refine rB_X11_runBehind (fun B hB => ?_)
  refine rB_X11_lawn (fun B hB => ?_)
  refine rB_law (fun B hB => ?_)
  refine hB _ _ _ _ _ _ ?_
  refine dw_okV (a := 404) rfl rfl (show (SH1 404).1 = 12 by decide +kernel) rfl (by decide) rfl rfl ?_
  refine dw_enter rfl ?_
  refine rB_X12_lawn (fun B hB => ?_)
  refine hB _ _ _ _ _ _ ?_
  refine dw_okV (a := 404) rfl rfl (show (SH1 404).1 = 12 by decide +kernel) rfl (by decide) rfl rfl ?_
  refine dw_enter rfl ?_
  refine rB_X12_takesLawn (fun B hB => ?_)
  refine hB _ _ _ _ _ _ ?_
  refine dw_okV (a := 404) rfl rfl (show (SH1 404).1 = 12 by decide +kernel) rfl (by decide) rfl rfl ?_
  refine dw_enter rfl ?_
  refine rB_X12_taken (fun B hB => ?_)
  refine rB_X12_takesLawn (fun B hB => ?_)
  refine hB _ _ _ _ _ _ ?_
  refine dw_okV (a := 404) rfl rfl (show (SH1 404).1 = 12 by decide +kernel) rfl (by decide) rfl rfl ?_
  refine dw_enter rfl ?_
  refine rB_X12_cells (fun B hB => ?_)
  refine rB_X12_takesLawn (fun B hB => ?_)
  refine rB_X12_lawn (fun B hB => ?_)
  refine hB _ _ _ _ _ _ ?_
  refine dw_okV (a := 404) rfl rfl (show (SH1 404).1 = 12 by decide +kernel) rfl (by decide) rfl rfl ?_
  refine dw_enter rfl ?_
  refine rB_X12_isNight (fun B hB => ?_)
  refine hB _ _ _ _ _ _ ?_
  refine dw_okS rfl rfl rfl (by decide) rfl rfl ?_
  refine dw_enter rfl ?_
  refine rB_X12_isIn (fun B hB => ?_)
  refine rB_X12_isNight (fun B hB => ?_)
  refine rB_X12_lawn (fun B hB => ?_)
  refine hB _ _ _ _ _ _ ?_
  refine dw_okV (a := 404) rfl rfl (show (SH1 404).1 = 12 by decide +kernel) rfl (by decide) rfl rfl ?_
  refine dw_enter rfl ?_
  refine rB_X12_isNight (fun B hB => ?_)
  refine hB _ _ _ _ _ _ ?_
  refine dw_okS rfl rfl rfl (by decide) rfl rfl ?_
  refine dw_enter rfl ?_
  refine rB_X12_isIn (fun B hB => ?_)
  refine rB_X12_isNight (fun B hB => ?_)
  refine rB_X12_lawn (fun B hB => ?_)
  refine hB _ _ _ _ _ _ ?_
  refine dw_okV (a := 404) rfl rfl (show (SH1 404).1 = 12 by decide +kernel) rfl (by decide) rfl rfl ?_
  refine dw_enter rfl ?_
  refine rB_X12_isNight (fun B hB => ?_)
  refine hB _ _ _ _ _ _ ?_
  refine dw_okS rfl rfl rfl (by decide) rfl rfl ?_
  refine dw_enter rfl ?_
  refine rB_X12_isIn (fun B hB => ?_)
  refine rB_X12_isNight (fun B hB => ?_)
  refine rB_X12_lawn (fun B hB => ?_)
  refine hB _ _ _ _ _ _ ?_
  refine dw_okV (a := 404) rfl rfl (show (SH1 404).1 = 12 by decide +kernel) rfl (by decide) rfl rfl ?_
  refine dw_enter rfl ?_
  refine rB_X12_isNight (fun B hB => ?_)
  refine hB _ _ _ _ _ _ ?_
  refine dw_okS rfl rfl rfl (by decide) rfl rfl ?_
  refine dw_enter rfl ?_
  refine rB_X12_isIn (fun B hB => ?_)
  refine rB_X12_isNight (fun B hB => ?_)
  refine rB_X12_lawn (fun B hB => ?_)
  refine hB _ _ _ _ _ _ ?_
  refine dw_okV (a := 404) rfl rfl (show (SH1 404).1 = 12 by decide +kernel) rfl (by decide) rfl rfl ?_
  refine dw_enter rfl ?_
  refine rB_X12_isNight (fun B hB => ?_)
  refine hB _ _ _ _ _ _ ?_
  refine dw_okS rfl rfl rfl (by decide) rfl rfl ?_
  refine dw_enter rfl ?_
  refine rB_X12_isIn (fun B hB => ?_)
  refine rB_X12_isNight (fun B hB => ?_)
  refine rB_X12_lawn (fun B hB => ?_)
  refine hB _ _ _ _ _ _ ?_
  refine dw_okV (a := 404) rfl rfl (show (SH1 404).1 = 12 by decide +kernel) rfl (by decide) rfl rfl ?_
  refine dw_enter rfl ?_
  refine rB_X12_isNight (fun B hB => ?_)
  refine hB _ _ _ _ _ _ ?_
  refine dw_okS rfl rfl rfl (by decide) rfl rfl ?_
  refine dw_enter rfl ?_
  refine rB_X12_isIn (fun B hB => ?_)
  refine rB_X12_isNight (fun B hB => ?_)
  refine rB_X12_lawn (fun B hB => ?_)
  refine rB_law (fun B hB => ?_)
  refine hB _ _ _ _ _ _ ?_
  exact law_z
