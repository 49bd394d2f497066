set_option maxRecDepth 20000 in
theorem law_c1 {xs : Nat → Int32} : dw_ok (pr_law 6 xs) 297 599567 7247295 (dw_l1 0 none none) [] (435, SH1, IN1, JN1) := by
  refine rB_law (fun B hB => ?_)
  refine hB _ _ _ _ _ _ ?_
  refine dw_okV rfl rfl (show (SH1 _).1 = _ by decide +kernel) rfl (by decide) rfl rfl ?_
  refine dw_enter rfl ?_
  refine rB_X11_end (fun B hB => ?_)
  refine dw_ite (fun h1 => ?_) (fun h1 => ?_)
  · refine rB_law (fun B hB => ?_)
    refine hB _ _ _ _ _ _ ?_
    refine dw_okV rfl rfl (show (SH1 _).1 = _ by decide +kernel) rfl (by decide) rfl rfl ?_
    refine dw_enter rfl ?_
    refine rB_X12_end (fun B hB => ?_)
    refine dw_itp h1 ?_
    refine rB_law (fun B hB => ?_)
    refine hB _ _ _ _ _ _ ?_
    exact law_z
  · refine dw_ite (fun h2 => ?_) (fun h2 => ?_)
    · refine rB_law (fun B hB => ?_)
      refine hB _ _ _ _ _ _ ?_
      refine dw_okV rfl rfl (show (SH1 _).1 = _ by decide +kernel) rfl (by decide) rfl rfl ?_
      refine dw_enter rfl ?_
      refine rB_X12_end (fun B hB => ?_)
      refine dw_itn h1 ?_
      refine dw_itp h2 ?_
      refine rB_law (fun B hB => ?_)
      refine hB _ _ _ _ _ _ ?_
      exact law_z
    · refine rB_law (fun B hB => ?_)
      refine hB _ _ _ _ _ _ ?_
      refine dw_okV rfl rfl (show (SH1 _).1 = _ by decide +kernel) rfl (by decide) rfl rfl ?_
      refine dw_enter rfl ?_
      refine rB_X12_end (fun B hB => ?_)
      refine dw_itn h1 ?_
      refine dw_itn h2 ?_
      refine rB_law (fun B hB => ?_)
      refine hB _ _ _ _ _ _ ?_
      exact law_z
set_option maxRecDepth 20000 in
theorem law_c2 {xs : Nat → Int32} : dw_ok (pr_law 6 xs) 322 599567 7247295 (dw_l1 0 none none) [] (435, SH1, IN1, JN1) := by
  refine rB_law (fun B hB => ?_)
  refine hB _ _ _ _ _ _ ?_
  refine dw_okV rfl rfl (show (SH1 _).1 = _ by decide +kernel) rfl (by decide) rfl rfl ?_
  refine dw_enter rfl ?_
  refine rB_X11_ground (fun B hB => ?_)
  refine hB _ _ _ _ _ _ ?_
  refine dw_okV rfl rfl (show (SH1 _).1 = _ by decide +kernel) rfl (by decide) rfl rfl ?_
  refine dw_enter rfl ?_
  refine rB_X1_readText (fun B hB => ?_)
  refine hB _ _ _ _ _ _ ?_
  refine dw_okV rfl rfl (show (SH1 _).1 = _ by decide +kernel) rfl (by decide) rfl rfl ?_
  refine dw_enter rfl ?_
  refine rB_X0_clear (fun B hB => ?_)
  refine rB_X1_readText (fun B hB => ?_)
  refine hB _ _ _ _ _ _ ?_
  refine dw_okV rfl rfl (show (SH1 _).1 = _ by decide +kernel) rfl (by decide) rfl rfl ?_
  refine dw_enter rfl ?_
  refine rB_X9_open (fun B hB => ?_)
  refine rB_X1_readText (fun B hB => ?_)
  refine hB _ _ _ _ _ _ ?_
  refine dw_okV rfl rfl (show (SH1 _).1 = _ by decide +kernel) rfl (by decide) rfl rfl ?_
  refine dw_enter rfl ?_
  refine rB_X9_take (fun B hB => ?_)
  refine rB_X1_readText (fun B hB => ?_)
  refine hB _ _ _ _ _ _ ?_
  refine dw_okV rfl rfl (show (SH1 _).1 = _ by decide +kernel) rfl (by decide) rfl rfl ?_
  refine dw_enter rfl ?_
  refine rB_X1_setSky (fun B hB => ?_)
  refine rB_X1_readText (fun B hB => ?_)
  refine rB_X11_ground (fun B hB => ?_)
  refine hB _ _ _ _ _ _ ?_
  refine dw_okV rfl rfl (show (SH1 _).1 = _ by decide +kernel) rfl (by decide) rfl rfl ?_
  refine dw_enter rfl ?_
  refine rB_X8_take (fun B hB => ?_)
  refine hB _ _ _ _ _ _ ?_
  refine dw_okV rfl rfl (show (SH1 _).1 = _ by decide +kernel) rfl (by decide) rfl rfl ?_
  refine dw_enter rfl ?_
  refine rB_X0_copyFrom (fun B hB => ?_)
  refine rB_X8_take (fun B hB => ?_)
  refine hB _ _ _ _ _ _ ?_
  refine dw_okV rfl rfl (show (SH1 _).1 = _ by decide +kernel) rfl (by decide) rfl rfl ?_
  refine dw_enter rfl ?_
  refine rB_X8_nightOf (fun B hB => ?_)
  refine rB_X8_take (fun B hB => ?_)
  refine hB _ _ _ _ _ _ ?_
  refine dw_okV rfl rfl (show (SH1 _).1 = _ by decide +kernel) rfl (by decide) rfl rfl ?_
  refine dw_enter rfl ?_
  refine rB_X8_nightOf (fun B hB => ?_)
  refine rB_X8_take (fun B hB => ?_)
  refine hB _ _ _ _ _ _ ?_
  refine dw_okV rfl rfl (show (SH1 _).1 = _ by decide +kernel) rfl (by decide) rfl rfl ?_
  refine dw_enter rfl ?_
  refine rB_X8_nightOf (fun B hB => ?_)
  refine rB_X8_take (fun B hB => ?_)
  refine hB _ _ _ _ _ _ ?_
  refine dw_okV rfl rfl (show (SH1 _).1 = _ by decide +kernel) rfl (by decide) rfl rfl ?_
  refine dw_enter rfl ?_
  refine rB_X8_nightOf (fun B hB => ?_)
  refine rB_X8_take (fun B hB => ?_)
  refine hB _ _ _ _ _ _ ?_
  refine dw_okV rfl rfl (show (SH1 _).1 = _ by decide +kernel) rfl (by decide) rfl rfl ?_
  refine dw_enter rfl ?_
  refine rB_X8_nightOf (fun B hB => ?_)
  refine rB_X8_take (fun B hB => ?_)
  refine hB _ _ _ _ _ _ ?_
  refine dw_okV rfl rfl (show (SH1 _).1 = _ by decide +kernel) rfl (by decide) rfl rfl ?_
  refine dw_enter rfl ?_
  refine rB_X8_nightOf (fun B hB => ?_)
  refine rB_X8_take (fun B hB => ?_)
  refine rB_X11_ground (fun B hB => ?_)
  refine rB_law (fun B hB => ?_)
  refine hB _ _ _ _ _ _ ?_
  refine dw_okV rfl rfl (show (SH1 _).1 = _ by decide +kernel) rfl (by decide) rfl rfl ?_
  refine dw_enter rfl ?_
  refine rB_X12_ground (fun B hB => ?_)
  refine hB _ _ _ _ _ _ ?_
  refine dw_okV rfl rfl (show (SH1 _).1 = _ by decide +kernel) rfl (by decide) rfl rfl ?_
  refine dw_enter rfl ?_
  refine rB_X12_taken (fun B hB => ?_)
  refine rB_X12_ground (fun B hB => ?_)
  refine hB _ _ _ _ _ _ ?_
  refine rB_X12_ground (fun B hB => ?_)
  refine hB _ _ _ _ _ _ ?_
  refine dw_okV rfl rfl (show (SH1 _).1 = _ by decide +kernel) rfl (by decide) rfl rfl ?_
  refine dw_enter rfl ?_
  refine rB_X12_next (fun B hB => ?_)
  refine hB _ _ _ _ _ _ ?_
  refine dw_okV rfl rfl (show (SH1 _).1 = _ by decide +kernel) rfl (by decide) rfl rfl ?_
  refine dw_enter rfl ?_
  refine rB_X12_peek (fun B hB => ?_)
  refine rB_X12_next (fun B hB => ?_)
  refine hB _ _ _ _ _ _ ?_
  refine dw_okV rfl rfl (show (SH1 _).1 = _ by decide +kernel) rfl (by decide) rfl rfl ?_
  refine dw_enter rfl ?_
  refine rB_X12_peek (fun B hB => ?_)
  refine rB_X12_next (fun B hB => ?_)
  refine hB _ _ _ _ _ _ ?_
  refine dw_okV rfl rfl (show (SH1 _).1 = _ by decide +kernel) rfl (by decide) rfl rfl ?_
  refine dw_enter rfl ?_
  refine rB_X12_peek (fun B hB => ?_)
  refine rB_X12_next (fun B hB => ?_)
  refine rB_X12_ground (fun B hB => ?_)
  refine hB _ _ _ _ _ _ ?_
  refine rB_X12_ground (fun B hB => ?_)
  refine hB _ _ _ _ _ _ ?_
  refine rB_X12_ground (fun B hB => ?_)
  refine hB _ _ _ _ _ _ ?_
  refine rB_X12_ground (fun B hB => ?_)
  refine hB _ _ _ _ _ _ ?_
  refine rB_X12_ground (fun B hB => ?_)
  refine hB _ _ _ _ _ _ ?_
  refine rB_X12_ground (fun B hB => ?_)
  refine hB _ _ _ _ _ _ ?_
  refine rB_X12_ground (fun B hB => ?_)
  refine hB _ _ _ _ _ _ ?_
  refine rB_X12_ground (fun B hB => ?_)
  refine hB _ _ _ _ _ _ ?_
  refine rB_X12_ground (fun B hB => ?_)
  refine hB _ _ _ _ _ _ ?_
  refine rB_X12_ground (fun B hB => ?_)
  refine hB _ _ _ _ _ _ ?_
  refine rB_X12_ground (fun B hB => ?_)
  refine hB _ _ _ _ _ _ ?_
  refine rB_X12_ground (fun B hB => ?_)
  refine hB _ _ _ _ _ _ ?_
  refine rB_X12_ground (fun B hB => ?_)
  refine hB _ _ _ _ _ _ ?_
  refine rB_X12_ground (fun B hB => ?_)
  refine rB_law (fun B hB => ?_)
  refine hB _ _ _ _ _ _ ?_
  exact law_z
set_option maxRecDepth 20000 in
theorem law_c3 {xs : Nat → Int32} : dw_ok (pr_law 6 xs) 335 599567 7247295 (dw_l1 0 none none) [] (435, SH1, IN1, JN1) := by
  refine rB_law (fun B hB => ?_)
  refine hB _ _ _ _ _ _ ?_
  refine dw_okV rfl rfl (show (SH1 _).1 = _ by decide +kernel) rfl (by decide) rfl rfl ?_
  refine dw_enter rfl ?_
  refine rB_X11_fault (fun B hB => ?_)
  refine rB_law (fun B hB => ?_)
  refine hB _ _ _ _ _ _ ?_
  refine dw_okV rfl rfl (show (SH1 _).1 = _ by decide +kernel) rfl (by decide) rfl rfl ?_
  refine dw_enter rfl ?_
  refine rB_X12_fault (fun B hB => ?_)
  refine rB_law (fun B hB => ?_)
  refine hB _ _ _ _ _ _ ?_
  exact law_z
set_option maxRecDepth 20000 in
theorem law_c8 {xs : Nat → Int32} : dw_ok (pr_law 6 xs) 527 599567 7247295 (dw_l1 0 none none) [] (435, SH1, IN1, JN1) := by
  refine rB_law (fun B hB => ?_)
  refine hB _ _ _ _ _ _ ?_
  refine dw_okV rfl rfl (show (SH1 _).1 = _ by decide +kernel) rfl (by decide) rfl rfl ?_
  refine dw_enter rfl ?_
  refine rB_X11_on (fun B hB => ?_)
  refine (fun (_ : _ ∨ _) => ?_)
  refine rB_law (fun B hB => ?_)
  refine hB _ _ _ _ _ _ ?_
  refine dw_okV rfl rfl (show (SH1 _).1 = _ by decide +kernel) rfl (by decide) rfl rfl ?_
  refine dw_enter rfl ?_
  refine rB_X12_on (fun B hB => ?_)
  refine rB_law (fun B hB => ?_)
  refine hB _ _ _ _ _ _ ?_
  exact law_z
set_option maxRecDepth 20000 in
theorem law_c10 {xs : Nat → Int32} : dw_ok (pr_law 6 xs) 632 599567 7247295 (dw_l1 0 none none) [] (435, SH1, IN1, JN1) := by
  refine rB_law (fun B hB => ?_)
  refine hB _ _ _ _ _ _ ?_
  refine dw_okV rfl rfl (show (SH1 _).1 = _ by decide +kernel) rfl (by decide) rfl rfl ?_
  refine dw_enter rfl ?_
  refine rB_X11_now (fun B hB => ?_)
  refine (fun (_ : _ ∨ _) => ?_)
  refine rB_law (fun B hB => ?_)
  refine hB _ _ _ _ _ _ ?_
  refine dw_okV rfl rfl (show (SH1 _).1 = _ by decide +kernel) rfl (by decide) rfl rfl ?_
  refine dw_enter rfl ?_
  refine rB_X12_now (fun B hB => ?_)
  refine rB_law (fun B hB => ?_)
  refine hB _ _ _ _ _ _ ?_
  exact law_z
set_option maxRecDepth 20000 in
theorem law_c11 {xs : Nat → Int32} : dw_ok (pr_law 6 xs) 657 599567 7247295 (dw_l1 0 none none) [] (435, SH1, IN1, JN1) := by
  refine rB_law (fun B hB => ?_)
  refine hB _ _ _ _ _ _ ?_
  refine dw_okV rfl rfl (show (SH1 _).1 = _ by decide +kernel) rfl (by decide) rfl rfl ?_
  refine dw_enter rfl ?_
  refine rB_X11_plan (fun B hB => ?_)
  refine hB _ _ _ _ _ _ ?_
  refine dw_okV rfl rfl (show (SH1 _).1 = _ by decide +kernel) rfl (by decide) rfl rfl ?_
  refine dw_enter rfl ?_
  refine rB_X6_readText (fun B hB => ?_)
  refine hB _ _ _ _ _ _ ?_
  refine dw_okV rfl rfl (show (SH1 _).1 = _ by decide +kernel) rfl (by decide) rfl rfl ?_
  refine dw_enter rfl ?_
  refine rB_X9_open (fun B hB => ?_)
  refine rB_X6_readText (fun B hB => ?_)
  refine hB _ _ _ _ _ _ ?_
  refine dw_okV rfl rfl (show (SH1 _).1 = _ by decide +kernel) rfl (by decide) rfl rfl ?_
  refine dw_enter rfl ?_
  refine rB_X9_take (fun B hB => ?_)
  refine rB_X6_readText (fun B hB => ?_)
  refine rB_X11_plan (fun B hB => ?_)
  refine hB _ _ _ _ _ _ ?_
  refine dw_okV rfl rfl (show (SH1 _).1 = _ by decide +kernel) rfl (by decide) rfl rfl ?_
  refine dw_enter rfl ?_
  refine rB_X5_copyFrom (fun B hB => ?_)
  refine rB_X11_plan (fun B hB => ?_)
  refine rB_law (fun B hB => ?_)
  refine hB _ _ _ _ _ _ ?_
  refine dw_okV rfl rfl (show (SH1 _).1 = _ by decide +kernel) rfl (by decide) rfl rfl ?_
  refine dw_enter rfl ?_
  refine rB_X12_plan (fun B hB => ?_)
  refine hB _ _ _ _ _ _ ?_
  refine dw_okV rfl rfl (show (SH1 _).1 = _ by decide +kernel) rfl (by decide) rfl rfl ?_
  refine dw_enter rfl ?_
  refine rB_X12_taken (fun B hB => ?_)
  refine rB_X12_plan (fun B hB => ?_)
  refine hB _ _ _ _ _ _ ?_
  refine dw_okV rfl rfl (show (SH1 _).1 = _ by decide +kernel) rfl (by decide) rfl rfl ?_
  refine dw_enter rfl ?_
  refine rB_X12_next (fun B hB => ?_)
  refine hB _ _ _ _ _ _ ?_
  refine dw_okV rfl rfl (show (SH1 _).1 = _ by decide +kernel) rfl (by decide) rfl rfl ?_
  refine dw_enter rfl ?_
  refine rB_X12_peek (fun B hB => ?_)
  refine rB_X12_next (fun B hB => ?_)
  refine hB _ _ _ _ _ _ ?_
  refine dw_okV rfl rfl (show (SH1 _).1 = _ by decide +kernel) rfl (by decide) rfl rfl ?_
  refine dw_enter rfl ?_
  refine rB_X12_peek (fun B hB => ?_)
  refine rB_X12_next (fun B hB => ?_)
  refine hB _ _ _ _ _ _ ?_
  refine dw_okV rfl rfl (show (SH1 _).1 = _ by decide +kernel) rfl (by decide) rfl rfl ?_
  refine dw_enter rfl ?_
  refine rB_X12_peek (fun B hB => ?_)
  refine rB_X12_next (fun B hB => ?_)
  refine rB_X12_plan (fun B hB => ?_)
  refine rB_law (fun B hB => ?_)
  refine hB _ _ _ _ _ _ ?_
  exact law_z
set_option maxRecDepth 20000 in
theorem law_c12 {xs : Nat → Int32} : dw_ok (pr_law 6 xs) 670 599567 7247295 (dw_l1 0 none none) [] (435, SH1, IN1, JN1) := by
  refine rB_law (fun B hB => ?_)
  refine hB _ _ _ _ _ _ ?_
  refine dw_okV rfl rfl (show (SH1 _).1 = _ by decide +kernel) rfl (by decide) rfl rfl ?_
  refine dw_enter rfl ?_
  refine rB_X11_go (fun B hB => ?_)
  refine (fun (_ : _ ∨ _) => ?_)
  refine rB_law (fun B hB => ?_)
  refine hB _ _ _ _ _ _ ?_
  refine dw_okV rfl rfl (show (SH1 _).1 = _ by decide +kernel) rfl (by decide) rfl rfl ?_
  refine dw_enter rfl ?_
  refine rB_X12_go (fun B hB => ?_)
  refine rB_law (fun B hB => ?_)
  refine hB _ _ _ _ _ _ ?_
  exact law_z
set_option maxRecDepth 20000 in
theorem law_c13 {xs : Nat → Int32} : dw_ok (pr_law 6 xs) 695 599567 7247295 (dw_l1 0 none none) [] (435, SH1, IN1, JN1) := by
  refine rB_law (fun B hB => ?_)
  refine hB _ _ _ _ _ _ ?_
  refine dw_okV rfl rfl (show (SH1 _).1 = _ by decide +kernel) rfl (by decide) rfl rfl ?_
  refine dw_enter rfl ?_
  refine rB_X11_went (fun B hB => ?_)
  refine (fun (_ : _ ∨ _) => ?_)
  refine rB_law (fun B hB => ?_)
  refine hB _ _ _ _ _ _ ?_
  refine dw_okV rfl rfl (show (SH1 _).1 = _ by decide +kernel) rfl (by decide) rfl rfl ?_
  refine dw_enter rfl ?_
  refine rB_X12_went (fun B hB => ?_)
  refine (fun (_ : _ ∨ _) => ?_)
  refine rB_law (fun B hB => ?_)
  refine hB _ _ _ _ _ _ ?_
  exact law_z
set_option maxRecDepth 20000 in
theorem law_c26 {xs : Nat → Int32} : dw_ok (pr_law 6 xs) 1308 599567 7247295 (dw_l1 0 none none) [] (435, SH1, IN1, JN1) := by
  refine rB_law (fun B hB => ?_)
  refine hB _ _ _ _ _ _ ?_
  refine dw_okV rfl rfl (show (SH1 _).1 = _ by decide +kernel) rfl (by decide) rfl rfl ?_
  refine dw_enter rfl ?_
  refine rB_X11_lawn (fun B hB => ?_)
  refine hB _ _ _ _ _ _ ?_
  refine dw_okV rfl rfl (show (SH1 _).1 = _ by decide +kernel) rfl (by decide) rfl rfl ?_
  refine dw_enter rfl ?_
  refine rB_X11_isLawn (fun B hB => ?_)
  refine hB _ _ _ _ _ _ ?_
  refine dw_okV rfl rfl (show (SH1 _).1 = _ by decide +kernel) rfl (by decide) rfl rfl ?_
  refine dw_enter rfl ?_
  refine rB_X0_size (fun B hB => ?_)
  refine rB_X11_isLawn (fun B hB => ?_)
  refine rB_X11_lawn (fun B hB => ?_)
  refine hB _ _ _ _ _ _ ?_
  refine dw_okV rfl rfl (show (SH1 _).1 = _ by decide +kernel) rfl (by decide) rfl rfl ?_
  refine dw_enter rfl ?_
  refine rB_X11_runBehind (fun B hB => ?_)
  refine hB _ _ _ _ _ _ ?_
  refine dw_okS rfl rfl rfl (by decide) rfl rfl ?_
  refine dw_enter rfl ?_
  refine rB_X11_isStep (fun B hB => ?_)
  refine rB_X11_runBehind (fun B hB => ?_)
  refine hB _ _ _ _ _ _ ?_
  refine dw_okV rfl rfl (show (SH1 _).1 = _ by decide +kernel) rfl (by decide) rfl rfl ?_
  refine dw_enter rfl ?_
  refine rB_X11_start (fun B hB => ?_)
  refine hB _ _ _ _ _ _ ?_
  refine dw_okV rfl rfl (show (SH1 _).1 = _ by decide +kernel) rfl (by decide) rfl rfl ?_
  refine dw_enter rfl ?_
  refine rB_X8_nightOf (fun B hB => ?_)
  refine rB_X11_start (fun B hB => ?_)
  refine (fun (_ : _ ∨ _) => ?_)
  refine rB_X11_runBehind (fun B hB => ?_)
  refine rB_X11_lawn (fun B hB => ?_)
  refine hB _ _ _ _ _ _ ?_
  refine dw_okV rfl rfl (show (SH1 _).1 = _ by decide +kernel) rfl (by decide) rfl rfl ?_
  refine dw_enter rfl ?_
  refine rB_X11_runBehind (fun B hB => ?_)
  refine hB _ _ _ _ _ _ ?_
  refine dw_okS rfl rfl rfl (by decide) rfl rfl ?_
  refine dw_enter rfl ?_
  refine rB_X11_isStep (fun B hB => ?_)
  refine rB_X11_runBehind (fun B hB => ?_)
  refine hB _ _ _ _ _ _ ?_
  refine dw_okV rfl rfl (show (SH1 _).1 = _ by decide +kernel) rfl (by decide) rfl rfl ?_
  refine dw_enter rfl ?_
  refine rB_X11_start (fun B hB => ?_)
  refine hB _ _ _ _ _ _ ?_
  refine dw_okV rfl rfl (show (SH1 _).1 = _ by decide +kernel) rfl (by decide) rfl rfl ?_
  refine dw_enter rfl ?_
  refine rB_X8_nightOf (fun B hB => ?_)
  refine rB_X11_start (fun B hB => ?_)
  refine (fun (_ : _ ∨ _) => ?_)
  refine rB_X11_runBehind (fun B hB => ?_)
  refine rB_X11_lawn (fun B hB => ?_)
  refine hB _ _ _ _ _ _ ?_
  refine dw_okV rfl rfl (show (SH1 _).1 = _ by decide +kernel) rfl (by decide) rfl rfl ?_
  refine dw_enter rfl ?_
  refine rB_X11_runBehind (fun B hB => ?_)
  refine hB _ _ _ _ _ _ ?_
  refine dw_okS rfl rfl rfl (by decide) rfl rfl ?_
  refine dw_enter rfl ?_
  refine rB_X11_isStep (fun B hB => ?_)
  refine rB_X11_runBehind (fun B hB => ?_)
  refine hB _ _ _ _ _ _ ?_
  refine dw_okV rfl rfl (show (SH1 _).1 = _ by decide +kernel) rfl (by decide) rfl rfl ?_
  refine dw_enter rfl ?_
  refine rB_X11_start (fun B hB => ?_)
  refine hB _ _ _ _ _ _ ?_
  refine dw_okV rfl rfl (show (SH1 _).1 = _ by decide +kernel) rfl (by decide) rfl rfl ?_
  refine dw_enter rfl ?_
  refine rB_X8_nightOf (fun B hB => ?_)
  refine rB_X11_start (fun B hB => ?_)
  refine (fun (_ : _ ∨ _) => ?_)
  refine rB_X11_runBehind (fun B hB => ?_)
  refine rB_X11_lawn (fun B hB => ?_)
  refine hB _ _ _ _ _ _ ?_
  refine dw_okV rfl rfl (show (SH1 _).1 = _ by decide +kernel) rfl (by decide) rfl rfl ?_
  refine dw_enter rfl ?_
  refine rB_X11_runBehind (fun B hB => ?_)
  refine hB _ _ _ _ _ _ ?_
  refine dw_okS rfl rfl rfl (by decide) rfl rfl ?_
  refine dw_enter rfl ?_
  refine rB_X11_isStep (fun B hB => ?_)
  refine rB_X11_runBehind (fun B hB => ?_)
  refine hB _ _ _ _ _ _ ?_
  refine dw_okV rfl rfl (show (SH1 _).1 = _ by decide +kernel) rfl (by decide) rfl rfl ?_
  refine dw_enter rfl ?_
  refine rB_X11_start (fun B hB => ?_)
  refine hB _ _ _ _ _ _ ?_
  refine dw_okV rfl rfl (show (SH1 _).1 = _ by decide +kernel) rfl (by decide) rfl rfl ?_
  refine dw_enter rfl ?_
  refine rB_X8_nightOf (fun B hB => ?_)
  refine rB_X11_start (fun B hB => ?_)
  refine (fun (_ : _ ∨ _) => ?_)
  refine rB_X11_runBehind (fun B hB => ?_)
  refine rB_X11_lawn (fun B hB => ?_)
  refine hB _ _ _ _ _ _ ?_
  refine dw_okV rfl rfl (show (SH1 _).1 = _ by decide +kernel) rfl (by decide) rfl rfl ?_
  refine dw_enter rfl ?_
  refine rB_X11_runBehind (fun B hB => ?_)
  refine hB _ _ _ _ _ _ ?_
  refine dw_okS rfl rfl rfl (by decide) rfl rfl ?_
  refine dw_enter rfl ?_
  refine rB_X11_isStep (fun B hB => ?_)
  refine rB_X11_runBehind (fun B hB => ?_)
  refine hB _ _ _ _ _ _ ?_
  refine dw_okV rfl rfl (show (SH1 _).1 = _ by decide +kernel) rfl (by decide) rfl rfl ?_
  refine dw_enter rfl ?_
  refine rB_X11_start (fun B hB => ?_)
  refine hB _ _ _ _ _ _ ?_
  refine dw_okV rfl rfl (show (SH1 _).1 = _ by decide +kernel) rfl (by decide) rfl rfl ?_
  refine dw_enter rfl ?_
  refine rB_X8_nightOf (fun B hB => ?_)
  refine rB_X11_start (fun B hB => ?_)
  refine (fun (_ : _ ∨ _) => ?_)
  refine rB_X11_runBehind (fun B hB => ?_)
  refine rB_X11_lawn (fun B hB => ?_)
  refine hB _ _ _ _ _ _ ?_
  refine dw_okV rfl rfl (show (SH1 _).1 = _ by decide +kernel) rfl (by decide) rfl rfl ?_
  refine dw_enter rfl ?_
  refine rB_X11_runBehind (fun B hB => ?_)
  refine hB _ _ _ _ _ _ ?_
  refine dw_okS rfl rfl rfl (by decide) rfl rfl ?_
  refine dw_enter rfl ?_
  refine rB_X11_isStep (fun B hB => ?_)
  refine rB_X11_runBehind (fun B hB => ?_)
  refine hB _ _ _ _ _ _ ?_
  refine dw_okV rfl rfl (show (SH1 _).1 = _ by decide +kernel) rfl (by decide) rfl rfl ?_
  refine dw_enter rfl ?_
  refine rB_X11_start (fun B hB => ?_)
  refine hB _ _ _ _ _ _ ?_
  refine dw_okV rfl rfl (show (SH1 _).1 = _ by decide +kernel) rfl (by decide) rfl rfl ?_
  refine dw_enter rfl ?_
  refine rB_X8_nightOf (fun B hB => ?_)
  refine rB_X11_start (fun B hB => ?_)
  refine (fun (_ : _ ∨ _) => ?_)
  refine rB_X11_runBehind (fun B hB => ?_)
  refine rB_X11_lawn (fun B hB => ?_)
  refine rB_law (fun B hB => ?_)
  refine hB _ _ _ _ _ _ ?_
  refine dw_okV rfl rfl (show (SH1 _).1 = _ by decide +kernel) rfl (by decide) rfl rfl ?_
  refine dw_enter rfl ?_
  refine rB_X12_lawn (fun B hB => ?_)
  refine hB _ _ _ _ _ _ ?_
  refine dw_okV rfl rfl (show (SH1 _).1 = _ by decide +kernel) rfl (by decide) rfl rfl ?_
  refine dw_enter rfl ?_
  refine rB_X12_takesLawn (fun B hB => ?_)
  refine hB _ _ _ _ _ _ ?_
  refine dw_okV rfl rfl (show (SH1 _).1 = _ by decide +kernel) rfl (by decide) rfl rfl ?_
  refine dw_enter rfl ?_
  refine rB_X12_taken (fun B hB => ?_)
  refine rB_X12_takesLawn (fun B hB => ?_)
  refine hB _ _ _ _ _ _ ?_
  refine dw_okV rfl rfl (show (SH1 _).1 = _ by decide +kernel) rfl (by decide) rfl rfl ?_
  refine dw_enter rfl ?_
  refine rB_X12_cells (fun B hB => ?_)
  refine rB_X12_takesLawn (fun B hB => ?_)
  refine rB_X12_lawn (fun B hB => ?_)
  refine hB _ _ _ _ _ _ ?_
  refine dw_okV rfl rfl (show (SH1 _).1 = _ by decide +kernel) rfl (by decide) rfl rfl ?_
  refine dw_enter rfl ?_
  refine rB_X12_isNight (fun B hB => ?_)
  refine hB _ _ _ _ _ _ ?_
  refine dw_okS rfl rfl rfl (by decide) rfl rfl ?_
  refine dw_enter rfl ?_
  refine rB_X12_isIn (fun B hB => ?_)
  refine rB_X12_isNight (fun B hB => ?_)
  refine rB_X12_lawn (fun B hB => ?_)
  refine hB _ _ _ _ _ _ ?_
  refine dw_okV rfl rfl (show (SH1 _).1 = _ by decide +kernel) rfl (by decide) rfl rfl ?_
  refine dw_enter rfl ?_
  refine rB_X12_isNight (fun B hB => ?_)
  refine hB _ _ _ _ _ _ ?_
  refine dw_okS rfl rfl rfl (by decide) rfl rfl ?_
  refine dw_enter rfl ?_
  refine rB_X12_isIn (fun B hB => ?_)
  refine rB_X12_isNight (fun B hB => ?_)
  refine rB_X12_lawn (fun B hB => ?_)
  refine hB _ _ _ _ _ _ ?_
  refine dw_okV rfl rfl (show (SH1 _).1 = _ by decide +kernel) rfl (by decide) rfl rfl ?_
  refine dw_enter rfl ?_
  refine rB_X12_isNight (fun B hB => ?_)
  refine hB _ _ _ _ _ _ ?_
  refine dw_okS rfl rfl rfl (by decide) rfl rfl ?_
  refine dw_enter rfl ?_
  refine rB_X12_isIn (fun B hB => ?_)
  refine rB_X12_isNight (fun B hB => ?_)
  refine rB_X12_lawn (fun B hB => ?_)
  refine hB _ _ _ _ _ _ ?_
  refine dw_okV rfl rfl (show (SH1 _).1 = _ by decide +kernel) rfl (by decide) rfl rfl ?_
  refine dw_enter rfl ?_
  refine rB_X12_isNight (fun B hB => ?_)
  refine hB _ _ _ _ _ _ ?_
  refine dw_okS rfl rfl rfl (by decide) rfl rfl ?_
  refine dw_enter rfl ?_
  refine rB_X12_isIn (fun B hB => ?_)
  refine rB_X12_isNight (fun B hB => ?_)
  refine rB_X12_lawn (fun B hB => ?_)
  refine hB _ _ _ _ _ _ ?_
  refine dw_okV rfl rfl (show (SH1 _).1 = _ by decide +kernel) rfl (by decide) rfl rfl ?_
  refine dw_enter rfl ?_
  refine rB_X12_isNight (fun B hB => ?_)
  refine hB _ _ _ _ _ _ ?_
  refine dw_okS rfl rfl rfl (by decide) rfl rfl ?_
  refine dw_enter rfl ?_
  refine rB_X12_isIn (fun B hB => ?_)
  refine rB_X12_isNight (fun B hB => ?_)
  refine rB_X12_lawn (fun B hB => ?_)
  refine hB _ _ _ _ _ _ ?_
  refine dw_okV rfl rfl (show (SH1 _).1 = _ by decide +kernel) rfl (by decide) rfl rfl ?_
  refine dw_enter rfl ?_
  refine rB_X12_isNight (fun B hB => ?_)
  refine hB _ _ _ _ _ _ ?_
  refine dw_okS rfl rfl rfl (by decide) rfl rfl ?_
  refine dw_enter rfl ?_
  refine rB_X12_isIn (fun B hB => ?_)
  refine rB_X12_isNight (fun B hB => ?_)
  refine rB_X12_lawn (fun B hB => ?_)
  refine rB_law (fun B hB => ?_)
  refine hB _ _ _ _ _ _ ?_
  exact law_z
set_option maxRecDepth 20000 in
theorem law_c38 {xs : Nat → Int32} : dw_ok (pr_law 6 xs) 1860 599567 7247295 (dw_l1 0 none none) [] (435, SH1, IN1, JN1) := by
  refine rB_law (fun B hB => ?_)
  refine hB _ _ _ _ _ _ ?_
  refine dw_okV rfl rfl (show (SH1 _).1 = _ by decide +kernel) rfl (by decide) rfl rfl ?_
  refine dw_enter rfl ?_
  refine rB_X11_drawnBy (fun B hB => ?_)
  refine (fun (_ : _ ∨ _) => ?_)
  refine rB_law (fun B hB => ?_)
  refine hB _ _ _ _ _ _ ?_
  refine dw_okV rfl rfl (show (SH1 _).1 = _ by decide +kernel) rfl (by decide) rfl rfl ?_
  refine dw_enter rfl ?_
  refine rB_X12_drawnBy (fun B hB => ?_)
  refine (fun (_ : _ ∨ _) => ?_)
  refine rB_law (fun B hB => ?_)
  refine hB _ _ _ _ _ _ ?_
  exact law_z
