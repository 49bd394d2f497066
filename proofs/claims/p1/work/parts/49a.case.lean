set_option maxHeartbeats 2000000 in
set_option maxRecDepth 20000 in
theorem law_c4 {xs : Nat → Int32} : dw_ok (pr_law 6 xs) 348 599567 7247295 (dw_l1 0 none none) [] (435, SH1, IN1, JN1) := by
  refine rB_law (fun B hB => ?_)
  refine hB _ _ _ _ _ _ ?_
  refine dw_okS (as := [.ref 0, .int (xs 1), .int (xs 2), .int (xs 3), .ref 434]) rfl rfl rfl (by decide) rfl rfl ?_
  refine dw_enter rfl ?_
  refine rC_L_cell (fun B hB => ?_)
  refine hB _ _ _ _ _ _ ?_
  refine okX_L_cell (a := 0) (as := [.int (xs 1), .int (xs 2), .int (xs 3)]) (rest := [.int 0, .ref 434]) rfl (show (SH1 0).1 = 11 by decide +kernel) rfl (by decide) rfl rfl ?_
  refine dw_enter rfl ?_
  refine rC_X11_cell (fun B hB => ?_)
  refine hB _ _ _ _ _ _ ?_
  refine dw_okV (a := 4) rfl rfl (show (SH1 4).1 = 0 by decide +kernel) rfl (by decide) rfl rfl ?_
  refine dw_enter rfl ?_
  refine rB_X0_cellAt (fun B hB => ?_)
  refine dw_ite (fun h1 => ?_) (fun h1 => ?_)
  · refine rC_X11_cell (fun B hB => ?_)
    refine hB _ _ _ _ _ _ ?_
    refine rT_X11_cell (Nat.le_refl _) rfl rfl (by decide) (fun w9 hw9 => ?_)
    refine rB_law (fun B hB => ?_)
    refine hB _ _ _ _ _ _ ?_
    refine dw_okV (a := 404) (as := [.int (xs 1), .int (xs 2), .int (xs 3)]) rfl rfl (show (SH1 404).1 = 12 by decide +kernel) rfl (by decide) rfl rfl ?_
    refine dw_enter rfl ?_
    refine rB_X12_cell (fun B hB => ?_)
    refine hB _ _ _ _ _ _ ?_
    refine dw_okV (a := 404) rfl rfl (show (SH1 404).1 = 12 by decide +kernel) rfl (by decide) rfl rfl ?_
    refine dw_enter rfl ?_
    refine rB_X12_isCell (fun B hB => ?_)
    refine hB _ _ _ _ _ _ ?_
    refine dw_okS rfl rfl rfl (by decide) rfl rfl ?_
    refine dw_enter rfl ?_
    refine rB_X12_isIn (fun B hB => ?_)
    refine dw_itp h1 ?_
    refine rB_X12_isCell (fun B hB => ?_)
    refine rB_X12_cell (fun B hB => ?_)
    refine hB _ _ _ _ _ _ ?_
    refine dw_okV (a := 404) rfl rfl (show (SH1 404).1 = 12 by decide +kernel) rfl (by decide) rfl rfl ?_
    refine dw_enter rfl ?_
    refine rB_X12_throwsIf (fun B hB => ?_)
    refine rB_X12_cell (fun B hB => ?_)
    refine rB_law (fun B hB => ?_)
    refine hB _ _ _ _ _ _ ?_
    refine dw_okV (a := 404) rfl rfl (show (SH1 404).1 = 12 by decide +kernel) rfl (by decide) rfl rfl ?_
    refine dw_enter rfl ?_
    refine rB_X12_thrown (fun B hB => ?_)
    refine rB_law (fun B hB => ?_)
    refine hB _ _ _ _ _ _ ?_
    exact law_z
  · refine dw_itp (Int32.not_lt.mp h1) ?_
    refine rC_X11_cell (fun B hB => ?_)
    refine hB _ _ _ _ _ _ ?_
    refine rT_X11_cell (Nat.le_refl _) rfl rfl (by decide) (fun w9 hw9 => ?_)
    refine rB_law (fun B hB => ?_)
    refine hB _ _ _ _ _ _ ?_
    refine dw_okV (a := 404) (as := [.int (xs 1), .int (xs 2), .int (xs 3)]) rfl rfl (show (SH1 404).1 = 12 by decide +kernel) rfl (by decide) rfl rfl ?_
    refine dw_enter rfl ?_
    refine rB_X12_cell (fun B hB => ?_)
    refine hB _ _ _ _ _ _ ?_
    refine dw_okV (a := 404) rfl rfl (show (SH1 404).1 = 12 by decide +kernel) rfl (by decide) rfl rfl ?_
    refine dw_enter rfl ?_
    refine rB_X12_isCell (fun B hB => ?_)
    refine hB _ _ _ _ _ _ ?_
    refine dw_okS rfl rfl rfl (by decide) rfl rfl ?_
    refine dw_enter rfl ?_
    refine rB_X12_isIn (fun B hB => ?_)
    refine dw_itn h1 ?_
    refine dw_itp (dw_nm2 (Int32.not_lt.mp h1)) ?_
    refine rB_X12_isCell (fun B hB => ?_)
    refine rB_X12_cell (fun B hB => ?_)
    refine hB _ _ _ _ _ _ ?_
    refine dw_okV (a := 404) rfl rfl (show (SH1 404).1 = 12 by decide +kernel) rfl (by decide) rfl rfl ?_
    refine dw_enter rfl ?_
    refine rB_X12_throwsIf (fun B hB => ?_)
    refine rB_X12_cell (fun B hB => ?_)
    refine rB_law (fun B hB => ?_)
    refine hB _ _ _ _ _ _ ?_
    refine dw_okV (a := 404) rfl rfl (show (SH1 404).1 = 12 by decide +kernel) rfl (by decide) rfl rfl ?_
    refine dw_enter rfl ?_
    refine rB_X12_thrown (fun B hB => ?_)
    refine rB_law (fun B hB => ?_)
    refine hB _ _ _ _ _ _ ?_
    exact law_z
set_option maxHeartbeats 2000000 in
set_option maxRecDepth 20000 in
theorem law_c9 {xs : Nat → Int32} : dw_ok (pr_law 6 xs) 552 599567 7247295 (dw_l1 0 none none) [] (435, SH1, IN1, JN1) := by
  refine rB_law (fun B hB => ?_)
  refine hB _ _ _ _ _ _ ?_
  refine dw_okS (as := [.ref 0, .int (xs 1), .int (xs 2), .int (xs 3), .ref 434]) rfl rfl rfl (by decide) rfl rfl ?_
  refine dw_enter rfl ?_
  refine rC_L_is (fun B hB => ?_)
  refine hB _ _ _ _ _ _ ?_
  refine okX_L_is (a := 0) (as := [.int (xs 1), .int (xs 2), .int (xs 3)]) (rest := [.int 0, .ref 434]) rfl (show (SH1 0).1 = 11 by decide +kernel) rfl (by decide) rfl rfl ?_
  refine dw_enter rfl ?_
  refine rC_X11_is (fun B hB => ?_)
  refine hB _ _ _ _ _ _ ?_
  refine dw_okV (a := 4) rfl rfl (show (SH1 4).1 = 0 by decide +kernel) rfl (by decide) rfl rfl ?_
  refine dw_enter rfl ?_
  refine rB_X0_cellAt (fun B hB => ?_)
  refine dw_ite (fun h1 => ?_) (fun h1 => ?_)
  · refine rC_X11_is (fun B hB => ?_)
    refine hB _ _ _ _ _ _ ?_
    refine rT_X11_is (Nat.le_refl _) rfl rfl (by decide) (fun w9 hw9 => ?_)
    refine rB_law (fun B hB => ?_)
    refine hB _ _ _ _ _ _ ?_
    refine dw_okV (a := 404) (as := [.int (xs 1), .int (xs 2), .int (xs 3)]) rfl rfl (show (SH1 404).1 = 12 by decide +kernel) rfl (by decide) rfl rfl ?_
    refine dw_enter rfl ?_
    refine rB_X12_is (fun B hB => ?_)
    refine hB _ _ _ _ _ _ ?_
    refine dw_okV (a := 404) rfl rfl (show (SH1 404).1 = 12 by decide +kernel) rfl (by decide) rfl rfl ?_
    refine dw_enter rfl ?_
    refine rB_X12_throwsIf (fun B hB => ?_)
    refine rB_X12_is (fun B hB => ?_)
    refine rB_law (fun B hB => ?_)
    refine hB _ _ _ _ _ _ ?_
    refine dw_okV (a := 404) rfl rfl (show (SH1 404).1 = 12 by decide +kernel) rfl (by decide) rfl rfl ?_
    refine dw_enter rfl ?_
    refine rB_X12_thrown (fun B hB => ?_)
    refine rB_law (fun B hB => ?_)
    refine hB _ _ _ _ _ _ ?_
    exact law_z
  · refine dw_itp (Int32.not_lt.mp h1) ?_
    refine rC_X11_is (fun B hB => ?_)
    refine hB _ _ _ _ _ _ ?_
    refine rT_X11_is (Nat.le_refl _) rfl rfl (by decide) (fun w9 hw9 => ?_)
    refine rB_law (fun B hB => ?_)
    refine hB _ _ _ _ _ _ ?_
    refine dw_okV (a := 404) (as := [.int (xs 1), .int (xs 2), .int (xs 3)]) rfl rfl (show (SH1 404).1 = 12 by decide +kernel) rfl (by decide) rfl rfl ?_
    refine dw_enter rfl ?_
    refine rB_X12_is (fun B hB => ?_)
    refine hB _ _ _ _ _ _ ?_
    refine dw_okV (a := 404) rfl rfl (show (SH1 404).1 = 12 by decide +kernel) rfl (by decide) rfl rfl ?_
    refine dw_enter rfl ?_
    refine rB_X12_throwsIf (fun B hB => ?_)
    refine rB_X12_is (fun B hB => ?_)
    refine rB_law (fun B hB => ?_)
    refine hB _ _ _ _ _ _ ?_
    refine dw_okV (a := 404) rfl rfl (show (SH1 404).1 = 12 by decide +kernel) rfl (by decide) rfl rfl ?_
    refine dw_enter rfl ?_
    refine rB_X12_thrown (fun B hB => ?_)
    refine rB_law (fun B hB => ?_)
    refine hB _ _ _ _ _ _ ?_
    exact law_z
set_option maxHeartbeats 2000000 in
set_option maxRecDepth 20000 in
theorem law_c29 {xs : Nat → Int32} : dw_ok (pr_law 6 xs) 1407 599567 7247295 (dw_l1 0 none none) [] (435, SH1, IN1, JN1) := by
  rcases dw_rng2 (xs 1) with hs | hs | ⟨n0, n1⟩ | ⟨n0, n1, n2, n3, n4, n5, n6⟩
  · refine rB_law (fun B hB => ?_)
    refine hB _ _ _ _ _ _ ?_
    refine dw_okV (a := 0) (as := [.int (xs 1)]) rfl rfl (show (SH1 0).1 = 11 by decide +kernel) rfl (by decide) rfl rfl ?_
    rw [hs]
    refine dw_enter rfl ?_
    refine rC_X11_cameAt (fun B hB => ?_)
    refine hB _ _ _ _ _ _ ?_
    refine dw_okL rfl (show _ = 28 from rfl) ?_
    refine rC_X11_cameAt (fun B hB => ?_)
    refine rB_law (fun B hB => ?_)
    refine hB _ _ _ _ _ _ ?_
    refine dw_okV (a := 404) (as := [.int (xs 1)]) rfl rfl (show (SH1 404).1 = 12 by decide +kernel) rfl (by decide) rfl rfl ?_
    rw [hs]
    refine dw_enter rfl ?_
    refine rB_X12_cameAt (fun B hB => ?_)
    refine (fun (_ : _ ∨ _) => ?_)
    refine rB_law (fun B hB => ?_)
    refine hB _ _ _ _ _ _ ?_
    exact law_z
  · refine rB_law (fun B hB => ?_)
    refine hB _ _ _ _ _ _ ?_
    refine dw_okV (a := 0) (as := [.int (xs 1)]) rfl rfl (show (SH1 0).1 = 11 by decide +kernel) rfl (by decide) rfl rfl ?_
    rw [hs]
    refine dw_enter rfl ?_
    refine rC_X11_cameAt (fun B hB => ?_)
    refine hB _ _ _ _ _ _ ?_
    refine dw_okL rfl (show _ = 33 from rfl) ?_
    refine rC_X11_cameAt (fun B hB => ?_)
    refine rB_law (fun B hB => ?_)
    refine hB _ _ _ _ _ _ ?_
    refine dw_okV (a := 404) (as := [.int (xs 1)]) rfl rfl (show (SH1 404).1 = 12 by decide +kernel) rfl (by decide) rfl rfl ?_
    rw [hs]
    refine dw_enter rfl ?_
    refine rB_X12_cameAt (fun B hB => ?_)
    refine (fun (_ : _ ∨ _) => ?_)
    refine rB_law (fun B hB => ?_)
    refine hB _ _ _ _ _ _ ?_
    exact law_z
  · have m6 : (xs 1).toInt < 0 := Int32.lt_iff_toInt_lt.mp n0
    refine rB_law (fun B hB => ?_)
    refine hB _ _ _ _ _ _ ?_
    refine dw_okV (a := 0) (as := [.int (xs 1)]) rfl rfl (show (SH1 0).1 = 11 by decide +kernel) rfl (by decide) rfl rfl ?_
    refine dw_enter rfl ?_
    refine rC_X11_cameAt (fun B hB => ?_)
    refine hB _ _ _ _ _ _ ?_
    refine dw_okL rfl (show _ = 38 by unfold dw_pick dw_pick dw_pick; rw [if_neg (by omega), if_neg (by omega)]) ?_
    refine rC_X11_cameAt (fun B hB => ?_)
    refine rB_law (fun B hB => ?_)
    refine hB _ _ _ _ _ _ ?_
    refine dw_okV (a := 404) (as := [.int (xs 1)]) rfl rfl (show (SH1 404).1 = 12 by decide +kernel) rfl (by decide) rfl rfl ?_
    refine dw_enter rfl ?_
    refine rB_X12_cameAt (fun B hB => ?_)
    refine (fun (_ : _ ∨ _) => ?_)
    refine rB_law (fun B hB => ?_)
    refine hB _ _ _ _ _ _ ?_
    exact law_z
  · refine rB_law (fun B hB => ?_)
    refine hB _ _ _ _ _ _ ?_
    refine dw_okV (a := 0) (as := [.int (xs 1)]) rfl rfl (show (SH1 0).1 = 11 by decide +kernel) rfl (by decide) rfl rfl ?_
    refine dw_enter rfl ?_
    refine rC_X11_cameAt (fun B hB => ?_)
    refine hB _ _ _ _ _ _ ?_
    refine dw_okL rfl (show _ = 38 by unfold dw_pick dw_pick dw_pick; rw [if_neg (by omega), if_neg (by omega)]) ?_
    refine rC_X11_cameAt (fun B hB => ?_)
    refine rB_law (fun B hB => ?_)
    refine hB _ _ _ _ _ _ ?_
    refine dw_okV (a := 404) (as := [.int (xs 1)]) rfl rfl (show (SH1 404).1 = 12 by decide +kernel) rfl (by decide) rfl rfl ?_
    refine dw_enter rfl ?_
    refine rB_X12_cameAt (fun B hB => ?_)
    refine (fun (_ : _ ∨ _) => ?_)
    refine rB_law (fun B hB => ?_)
    refine hB _ _ _ _ _ _ ?_
    exact law_z
