set_option maxHeartbeats 2000000 in
set_option maxRecDepth 20000 in
theorem law_c1 {xs : Nat → Int32} : dw_ok (pr_law 6 xs) 297 599567 7247295 (dw_l1 0 none none) [] (435, SH1, IN1, JN1) := by
  refine rB_law (fun B hB => ?_)
  refine hB _ _ _ _ _ _ ?_
  refine dw_okV (a := 0) (as := [.int (xs 1)]) rfl rfl (show (SH1 0).1 = 11 by decide +kernel) rfl (by decide) rfl rfl ?_
  refine dw_enter rfl ?_
  refine rB_X11_end (fun B hB => ?_)
  refine dw_ite (fun h1 => ?_) (fun h1 => ?_)
  · refine rB_law (fun B hB => ?_)
    refine hB _ _ _ _ _ _ ?_
    refine dw_okV (a := 404) (as := [.int (xs 1)]) rfl rfl (show (SH1 404).1 = 12 by decide +kernel) rfl (by decide) rfl rfl ?_
    refine dw_enter rfl ?_
    refine rB_X12_end (fun B hB => ?_)
    refine dw_itp h1 ?_
    refine rB_law (fun B hB => ?_)
    refine hB _ _ _ _ _ _ ?_
    exact law_z
  · refine dw_ite (fun h2 => ?_) (fun h2 => ?_)
    · refine rB_law (fun B hB => ?_)
      refine hB _ _ _ _ _ _ ?_
      refine dw_okV (a := 404) (as := [.int (xs 1)]) rfl rfl (show (SH1 404).1 = 12 by decide +kernel) rfl (by decide) rfl rfl ?_
      refine dw_enter rfl ?_
      refine rB_X12_end (fun B hB => ?_)
      refine dw_itn h1 ?_
      refine dw_itp h2 ?_
      refine rB_law (fun B hB => ?_)
      refine hB _ _ _ _ _ _ ?_
      exact law_z
    · refine rB_law (fun B hB => ?_)
      refine hB _ _ _ _ _ _ ?_
      refine dw_okV (a := 404) (as := [.int (xs 1)]) rfl rfl (show (SH1 404).1 = 12 by decide +kernel) rfl (by decide) rfl rfl ?_
      refine dw_enter rfl ?_
      refine rB_X12_end (fun B hB => ?_)
      refine dw_itn h1 ?_
      refine dw_itn h2 ?_
      refine rB_law (fun B hB => ?_)
      refine hB _ _ _ _ _ _ ?_
      exact law_z
set_option maxHeartbeats 2000000 in
set_option maxRecDepth 20000 in
theorem law_c3 {xs : Nat → Int32} : dw_ok (pr_law 6 xs) 335 599567 7247295 (dw_l1 0 none none) [] (435, SH1, IN1, JN1) := by
  refine rB_law (fun B hB => ?_)
  refine hB _ _ _ _ _ _ ?_
  refine dw_okV (a := 0) rfl rfl (show (SH1 0).1 = 11 by decide +kernel) rfl (by decide) rfl rfl ?_
  refine dw_enter rfl ?_
  refine rB_X11_fault (fun B hB => ?_)
  refine rB_law (fun B hB => ?_)
  refine hB _ _ _ _ _ _ ?_
  refine dw_okV (a := 404) rfl rfl (show (SH1 404).1 = 12 by decide +kernel) rfl (by decide) rfl rfl ?_
  refine dw_enter rfl ?_
  refine rB_X12_fault (fun B hB => ?_)
  refine rB_law (fun B hB => ?_)
  refine hB _ _ _ _ _ _ ?_
  exact law_z
set_option maxHeartbeats 2000000 in
set_option maxRecDepth 20000 in
theorem law_c8 {xs : Nat → Int32} : dw_ok (pr_law 6 xs) 527 599567 7247295 (dw_l1 0 none none) [] (435, SH1, IN1, JN1) := by
  refine rB_law (fun B hB => ?_)
  refine hB _ _ _ _ _ _ ?_
  refine dw_okV (a := 0) (as := [.int (xs 1)]) rfl rfl (show (SH1 0).1 = 11 by decide +kernel) rfl (by decide) rfl rfl ?_
  refine dw_enter rfl ?_
  refine rB_X11_on (fun B hB => ?_)
  refine (fun (_ : _ ∨ _) => ?_)
  refine rB_law (fun B hB => ?_)
  refine hB _ _ _ _ _ _ ?_
  refine dw_okV (a := 404) (as := [.int (xs 1)]) rfl rfl (show (SH1 404).1 = 12 by decide +kernel) rfl (by decide) rfl rfl ?_
  refine dw_enter rfl ?_
  refine rB_X12_on (fun B hB => ?_)
  refine rB_law (fun B hB => ?_)
  refine hB _ _ _ _ _ _ ?_
  exact law_z
set_option maxHeartbeats 2000000 in
set_option maxRecDepth 20000 in
theorem law_c10 {xs : Nat → Int32} : dw_ok (pr_law 6 xs) 632 599567 7247295 (dw_l1 0 none none) [] (435, SH1, IN1, JN1) := by
  refine rB_law (fun B hB => ?_)
  refine hB _ _ _ _ _ _ ?_
  refine dw_okV (a := 0) (as := [.int (xs 1)]) rfl rfl (show (SH1 0).1 = 11 by decide +kernel) rfl (by decide) rfl rfl ?_
  refine dw_enter rfl ?_
  refine rB_X11_now (fun B hB => ?_)
  refine (fun (_ : _ ∨ _) => ?_)
  refine rB_law (fun B hB => ?_)
  refine hB _ _ _ _ _ _ ?_
  refine dw_okV (a := 404) (as := [.int (xs 1)]) rfl rfl (show (SH1 404).1 = 12 by decide +kernel) rfl (by decide) rfl rfl ?_
  refine dw_enter rfl ?_
  refine rB_X12_now (fun B hB => ?_)
  refine rB_law (fun B hB => ?_)
  refine hB _ _ _ _ _ _ ?_
  exact law_z
set_option maxHeartbeats 2000000 in
set_option maxRecDepth 20000 in
theorem law_c12 {xs : Nat → Int32} : dw_ok (pr_law 6 xs) 670 599567 7247295 (dw_l1 0 none none) [] (435, SH1, IN1, JN1) := by
  refine rB_law (fun B hB => ?_)
  refine hB _ _ _ _ _ _ ?_
  refine dw_okV (a := 0) (as := [.int (xs 1)]) rfl rfl (show (SH1 0).1 = 11 by decide +kernel) rfl (by decide) rfl rfl ?_
  refine dw_enter rfl ?_
  refine rB_X11_go (fun B hB => ?_)
  refine (fun (_ : _ ∨ _) => ?_)
  refine rB_law (fun B hB => ?_)
  refine hB _ _ _ _ _ _ ?_
  refine dw_okV (a := 404) (as := [.int (xs 1)]) rfl rfl (show (SH1 404).1 = 12 by decide +kernel) rfl (by decide) rfl rfl ?_
  refine dw_enter rfl ?_
  refine rB_X12_go (fun B hB => ?_)
  refine rB_law (fun B hB => ?_)
  refine hB _ _ _ _ _ _ ?_
  exact law_z
set_option maxHeartbeats 2000000 in
set_option maxRecDepth 20000 in
theorem law_c13 {xs : Nat → Int32} : dw_ok (pr_law 6 xs) 695 599567 7247295 (dw_l1 0 none none) [] (435, SH1, IN1, JN1) := by
  refine rB_law (fun B hB => ?_)
  refine hB _ _ _ _ _ _ ?_
  refine dw_okV (a := 0) (as := [.int (xs 1)]) rfl rfl (show (SH1 0).1 = 11 by decide +kernel) rfl (by decide) rfl rfl ?_
  refine dw_enter rfl ?_
  refine rB_X11_went (fun B hB => ?_)
  refine (fun (_ : _ ∨ _) => ?_)
  refine rB_law (fun B hB => ?_)
  refine hB _ _ _ _ _ _ ?_
  refine dw_okV (a := 404) (as := [.int (xs 1)]) rfl rfl (show (SH1 404).1 = 12 by decide +kernel) rfl (by decide) rfl rfl ?_
  refine dw_enter rfl ?_
  refine rB_X12_went (fun B hB => ?_)
  refine (fun (_ : _ ∨ _) => ?_)
  refine rB_law (fun B hB => ?_)
  refine hB _ _ _ _ _ _ ?_
  exact law_z
set_option maxHeartbeats 2000000 in
set_option maxRecDepth 20000 in
theorem law_c38 {xs : Nat → Int32} : dw_ok (pr_law 6 xs) 1860 599567 7247295 (dw_l1 0 none none) [] (435, SH1, IN1, JN1) := by
  refine rB_law (fun B hB => ?_)
  refine hB _ _ _ _ _ _ ?_
  refine dw_okV (a := 0) (as := [.int (xs 1)]) rfl rfl (show (SH1 0).1 = 11 by decide +kernel) rfl (by decide) rfl rfl ?_
  refine dw_enter rfl ?_
  refine rB_X11_drawnBy (fun B hB => ?_)
  refine (fun (_ : _ ∨ _) => ?_)
  refine rB_law (fun B hB => ?_)
  refine hB _ _ _ _ _ _ ?_
  refine dw_okV (a := 404) (as := [.int (xs 1)]) rfl rfl (show (SH1 404).1 = 12 by decide +kernel) rfl (by decide) rfl rfl ?_
  refine dw_enter rfl ?_
  refine rB_X12_drawnBy (fun B hB => ?_)
  refine (fun (_ : _ ∨ _) => ?_)
  refine rB_law (fun B hB => ?_)
  refine hB _ _ _ _ _ _ ?_
  exact law_z
