set_option maxHeartbeats 20000000 in
set_option maxRecDepth 20000 in
theorem law_c39 {xs : Nat → Int32} : dw_ok (pr_law 6 xs) 1885 599567 7247295 (dw_l1 0 none none) [] (435, SH1, IN1, JN1) := by
  rcases dw_rng2 (xs 1) with hs | hs | ⟨n0, n1⟩ | ⟨n0, n1, n2, n3, n4, n5, n6⟩
  · refine rB_law (fun B hB => ?_)
    refine hB _ _ _ _ _ _ ?_
    refine dw_okV (a := 0) (as := [.int (xs 1)]) rfl rfl (show (SH1 0).1 = 11 by decide +kernel) rfl (by decide) rfl rfl ?_
    rw [hs]
    refine dw_enter rfl ?_
    refine rB_X11_image (fun B hB => ?_)
    refine hB _ _ _ _ _ _ ?_
    refine dw_okV (a := 210) rfl rfl (show (SH1 210).1 = 8 by decide +kernel) rfl (by decide) rfl rfl ?_
    refine dw_enter rfl ?_
    refine rB_X8_copyFrom (fun B hB => ?_)
    refine hB _ _ _ _ _ _ ?_
    refine dw_okV (a := 211) rfl rfl (show (SH1 211).1 = 0 by decide +kernel) rfl (by decide) rfl rfl ?_
    refine dw_enter rfl ?_
    refine rB_X0_copyFrom (fun B hB => ?_)
    refine rB_X8_copyFrom (fun B hB => ?_)
    refine hB _ _ _ _ _ _ ?_
    refine dw_okV (a := 218) rfl rfl (show (SH1 218).1 = 5 by decide +kernel) rfl (by decide) rfl rfl ?_
    refine dw_enter rfl ?_
    refine rB_X5_copyFrom (fun B hB => ?_)
    refine rB_X8_copyFrom (fun B hB => ?_)
    refine hB _ _ _ _ _ _ ?_
    refine dw_okV (a := 250) rfl rfl (show (SH1 250).1 = 7 by decide +kernel) rfl (by decide) rfl rfl ?_
    refine dw_enter rfl ?_
    refine rB_X7_copyFrom (fun B hB => ?_)
    refine (fun (_ : _ ∨ _) => ?_)
    refine hB _ _ _ _ _ _ ?_
    refine dw_okV (a := 251) rfl rfl (show (SH1 251).1 = 2 by decide +kernel) rfl (by decide) rfl rfl ?_
    refine dw_enter rfl ?_
    refine rB_X2_copyFrom (fun B hB => ?_)
    refine (fun (_ : _ ∨ _) => ?_)
    refine rB_X7_copyFrom (fun B hB => ?_)
    refine rB_X8_copyFrom (fun B hB => ?_)
    refine hB _ _ _ _ _ _ ?_
    refine dw_okV (a := 210) rfl rfl (show (SH1 210).1 = 8 by decide +kernel) rfl (by decide) rfl rfl ?_
    refine dw_enter rfl ?_
    refine rB_X8_nightOf (fun B hB => ?_)
    refine rB_X8_copyFrom (fun B hB => ?_)
    refine hB _ _ _ _ _ _ ?_
    refine dw_okV (a := 3) rfl rfl (show (SH1 3).1 = 8 by decide +kernel) rfl (by decide) rfl rfl ?_
    refine dw_enter rfl ?_
    refine rB_X8_nightOf (fun B hB => ?_)
    refine rB_X8_copyFrom (fun B hB => ?_)
    refine hB _ _ _ _ _ _ ?_
    refine dw_okV (a := 265) rfl rfl (show (SH1 265).1 = 2 by decide +kernel) rfl (by decide) rfl rfl ?_
    refine dw_enter rfl ?_
    refine rB_X2_copyFrom (fun B hB => ?_)
    refine (fun (_ : _ ∨ _) => ?_)
    refine rB_X8_copyFrom (fun B hB => ?_)
    refine hB _ _ _ _ _ _ ?_
    refine dw_okV (a := 210) rfl rfl (show (SH1 210).1 = 8 by decide +kernel) rfl (by decide) rfl rfl ?_
    refine dw_enter rfl ?_
    refine rB_X8_nightOf (fun B hB => ?_)
    refine rB_X8_copyFrom (fun B hB => ?_)
    refine hB _ _ _ _ _ _ ?_
    refine dw_okV (a := 3) rfl rfl (show (SH1 3).1 = 8 by decide +kernel) rfl (by decide) rfl rfl ?_
    refine dw_enter rfl ?_
    refine rB_X8_nightOf (fun B hB => ?_)
    refine rB_X8_copyFrom (fun B hB => ?_)
    refine hB _ _ _ _ _ _ ?_
    refine dw_okV (a := 272) rfl rfl (show (SH1 272).1 = 2 by decide +kernel) rfl (by decide) rfl rfl ?_
    refine dw_enter rfl ?_
    refine rB_X2_copyFrom (fun B hB => ?_)
    refine (fun (_ : _ ∨ _) => ?_)
    refine rB_X8_copyFrom (fun B hB => ?_)
    refine hB _ _ _ _ _ _ ?_
    refine dw_okV (a := 210) rfl rfl (show (SH1 210).1 = 8 by decide +kernel) rfl (by decide) rfl rfl ?_
    refine dw_enter rfl ?_
    refine rB_X8_nightOf (fun B hB => ?_)
    refine rB_X8_copyFrom (fun B hB => ?_)
    refine hB _ _ _ _ _ _ ?_
    refine dw_okV (a := 3) rfl rfl (show (SH1 3).1 = 8 by decide +kernel) rfl (by decide) rfl rfl ?_
    refine dw_enter rfl ?_
    refine rB_X8_nightOf (fun B hB => ?_)
    refine rB_X8_copyFrom (fun B hB => ?_)
    refine hB _ _ _ _ _ _ ?_
    refine dw_okV (a := 279) rfl rfl (show (SH1 279).1 = 2 by decide +kernel) rfl (by decide) rfl rfl ?_
    refine dw_enter rfl ?_
    refine rB_X2_copyFrom (fun B hB => ?_)
    refine (fun (_ : _ ∨ _) => ?_)
    refine rB_X8_copyFrom (fun B hB => ?_)
    refine hB _ _ _ _ _ _ ?_
    refine dw_okV (a := 210) rfl rfl (show (SH1 210).1 = 8 by decide +kernel) rfl (by decide) rfl rfl ?_
    refine dw_enter rfl ?_
    refine rB_X8_nightOf (fun B hB => ?_)
    refine rB_X8_copyFrom (fun B hB => ?_)
    refine hB _ _ _ _ _ _ ?_
    refine dw_okV (a := 3) rfl rfl (show (SH1 3).1 = 8 by decide +kernel) rfl (by decide) rfl rfl ?_
    refine dw_enter rfl ?_
    refine rB_X8_nightOf (fun B hB => ?_)
    refine rB_X8_copyFrom (fun B hB => ?_)
    refine hB _ _ _ _ _ _ ?_
    refine dw_okV (a := 286) rfl rfl (show (SH1 286).1 = 2 by decide +kernel) rfl (by decide) rfl rfl ?_
    refine dw_enter rfl ?_
    refine rB_X2_copyFrom (fun B hB => ?_)
    refine (fun (_ : _ ∨ _) => ?_)
    refine rB_X8_copyFrom (fun B hB => ?_)
    refine hB _ _ _ _ _ _ ?_
    refine dw_okV (a := 210) rfl rfl (show (SH1 210).1 = 8 by decide +kernel) rfl (by decide) rfl rfl ?_
    refine dw_enter rfl ?_
    refine rB_X8_nightOf (fun B hB => ?_)
    refine rB_X8_copyFrom (fun B hB => ?_)
    refine hB _ _ _ _ _ _ ?_
    refine dw_okV (a := 3) rfl rfl (show (SH1 3).1 = 8 by decide +kernel) rfl (by decide) rfl rfl ?_
    refine dw_enter rfl ?_
    refine rB_X8_nightOf (fun B hB => ?_)
    refine rB_X8_copyFrom (fun B hB => ?_)
    refine hB _ _ _ _ _ _ ?_
    refine dw_okV (a := 293) rfl rfl (show (SH1 293).1 = 2 by decide +kernel) rfl (by decide) rfl rfl ?_
    refine dw_enter rfl ?_
    refine rB_X2_copyFrom (fun B hB => ?_)
    refine (fun (_ : _ ∨ _) => ?_)
    refine rB_X8_copyFrom (fun B hB => ?_)
    refine hB _ _ _ _ _ _ ?_
    refine dw_okV (a := 210) rfl rfl (show (SH1 210).1 = 8 by decide +kernel) rfl (by decide) rfl rfl ?_
    refine dw_enter rfl ?_
    refine rB_X8_nightOf (fun B hB => ?_)
    refine rB_X8_copyFrom (fun B hB => ?_)
    refine hB _ _ _ _ _ _ ?_
    refine dw_okV (a := 3) rfl rfl (show (SH1 3).1 = 8 by decide +kernel) rfl (by decide) rfl rfl ?_
    refine dw_enter rfl ?_
    refine rB_X8_nightOf (fun B hB => ?_)
    refine rB_X8_copyFrom (fun B hB => ?_)
    refine hB _ _ _ _ _ _ ?_
    refine dw_okV (a := 300) rfl rfl (show (SH1 300).1 = 2 by decide +kernel) rfl (by decide) rfl rfl ?_
    refine dw_enter rfl ?_
    refine rB_X2_copyFrom (fun B hB => ?_)
    refine (fun (_ : _ ∨ _) => ?_)
    refine rB_X8_copyFrom (fun B hB => ?_)
    refine rB_X11_image (fun B hB => ?_)
    refine rB_law (fun B hB => ?_)
    refine hB _ _ _ _ _ _ ?_
    refine dw_okV (a := 404) (as := [.int (xs 1)]) rfl rfl (show (SH1 404).1 = 12 by decide +kernel) rfl (by decide) rfl rfl ?_
    rw [hs]
    refine dw_enter rfl ?_
    refine rC_X12_image (fun B hB => ?_)
    refine hB _ _ _ _ _ _ ?_
    refine dw_okS rfl rfl rfl (by decide) rfl rfl ?_
    refine dw_enter rfl ?_
    refine rB_X12_isIn (fun B hB => ?_)
    refine rC_X12_image (fun B hB => ?_)
    refine hB _ _ _ _ _ _ ?_
    refine l_image0 (fun I9 => ?_) 1427 0 _ rfl
    refine rC_X12_image (fun B hB => ?_)
    refine rB_law (fun B hB => ?_)
    refine hB _ _ _ _ _ _ ?_
    exact law_z
  · refine rB_law (fun B hB => ?_)
    refine hB _ _ _ _ _ _ ?_
    refine dw_okV (a := 0) (as := [.int (xs 1)]) rfl rfl (show (SH1 0).1 = 11 by decide +kernel) rfl (by decide) rfl rfl ?_
    rw [hs]
    refine dw_enter rfl ?_
    refine rB_X11_image (fun B hB => ?_)
    refine hB _ _ _ _ _ _ ?_
    refine dw_okV (a := 307) rfl rfl (show (SH1 307).1 = 8 by decide +kernel) rfl (by decide) rfl rfl ?_
    refine dw_enter rfl ?_
    refine rB_X8_copyFrom (fun B hB => ?_)
    refine hB _ _ _ _ _ _ ?_
    refine dw_okV (a := 308) rfl rfl (show (SH1 308).1 = 0 by decide +kernel) rfl (by decide) rfl rfl ?_
    refine dw_enter rfl ?_
    refine rB_X0_copyFrom (fun B hB => ?_)
    refine rB_X8_copyFrom (fun B hB => ?_)
    refine hB _ _ _ _ _ _ ?_
    refine dw_okV (a := 315) rfl rfl (show (SH1 315).1 = 5 by decide +kernel) rfl (by decide) rfl rfl ?_
    refine dw_enter rfl ?_
    refine rB_X5_copyFrom (fun B hB => ?_)
    refine rB_X8_copyFrom (fun B hB => ?_)
    refine hB _ _ _ _ _ _ ?_
    refine dw_okV (a := 347) rfl rfl (show (SH1 347).1 = 7 by decide +kernel) rfl (by decide) rfl rfl ?_
    refine dw_enter rfl ?_
    refine rB_X7_copyFrom (fun B hB => ?_)
    refine (fun (_ : _ ∨ _) => ?_)
    refine hB _ _ _ _ _ _ ?_
    refine dw_okV (a := 348) rfl rfl (show (SH1 348).1 = 2 by decide +kernel) rfl (by decide) rfl rfl ?_
    refine dw_enter rfl ?_
    refine rB_X2_copyFrom (fun B hB => ?_)
    refine (fun (_ : _ ∨ _) => ?_)
    refine rB_X7_copyFrom (fun B hB => ?_)
    refine rB_X8_copyFrom (fun B hB => ?_)
    refine hB _ _ _ _ _ _ ?_
    refine dw_okV (a := 307) rfl rfl (show (SH1 307).1 = 8 by decide +kernel) rfl (by decide) rfl rfl ?_
    refine dw_enter rfl ?_
    refine rB_X8_nightOf (fun B hB => ?_)
    refine rB_X8_copyFrom (fun B hB => ?_)
    refine hB _ _ _ _ _ _ ?_
    refine dw_okV (a := 3) rfl rfl (show (SH1 3).1 = 8 by decide +kernel) rfl (by decide) rfl rfl ?_
    refine dw_enter rfl ?_
    refine rB_X8_nightOf (fun B hB => ?_)
    refine rB_X8_copyFrom (fun B hB => ?_)
    refine hB _ _ _ _ _ _ ?_
    refine dw_okV (a := 362) rfl rfl (show (SH1 362).1 = 2 by decide +kernel) rfl (by decide) rfl rfl ?_
    refine dw_enter rfl ?_
    refine rB_X2_copyFrom (fun B hB => ?_)
    refine (fun (_ : _ ∨ _) => ?_)
    refine rB_X8_copyFrom (fun B hB => ?_)
    refine hB _ _ _ _ _ _ ?_
    refine dw_okV (a := 307) rfl rfl (show (SH1 307).1 = 8 by decide +kernel) rfl (by decide) rfl rfl ?_
    refine dw_enter rfl ?_
    refine rB_X8_nightOf (fun B hB => ?_)
    refine rB_X8_copyFrom (fun B hB => ?_)
    refine hB _ _ _ _ _ _ ?_
    refine dw_okV (a := 3) rfl rfl (show (SH1 3).1 = 8 by decide +kernel) rfl (by decide) rfl rfl ?_
    refine dw_enter rfl ?_
    refine rB_X8_nightOf (fun B hB => ?_)
    refine rB_X8_copyFrom (fun B hB => ?_)
    refine hB _ _ _ _ _ _ ?_
    refine dw_okV (a := 369) rfl rfl (show (SH1 369).1 = 2 by decide +kernel) rfl (by decide) rfl rfl ?_
    refine dw_enter rfl ?_
    refine rB_X2_copyFrom (fun B hB => ?_)
    refine (fun (_ : _ ∨ _) => ?_)
    refine rB_X8_copyFrom (fun B hB => ?_)
    refine hB _ _ _ _ _ _ ?_
    refine dw_okV (a := 307) rfl rfl (show (SH1 307).1 = 8 by decide +kernel) rfl (by decide) rfl rfl ?_
    refine dw_enter rfl ?_
    refine rB_X8_nightOf (fun B hB => ?_)
    refine rB_X8_copyFrom (fun B hB => ?_)
    refine hB _ _ _ _ _ _ ?_
    refine dw_okV (a := 3) rfl rfl (show (SH1 3).1 = 8 by decide +kernel) rfl (by decide) rfl rfl ?_
    refine dw_enter rfl ?_
    refine rB_X8_nightOf (fun B hB => ?_)
    refine rB_X8_copyFrom (fun B hB => ?_)
    refine hB _ _ _ _ _ _ ?_
    refine dw_okV (a := 376) rfl rfl (show (SH1 376).1 = 2 by decide +kernel) rfl (by decide) rfl rfl ?_
    refine dw_enter rfl ?_
    refine rB_X2_copyFrom (fun B hB => ?_)
    refine (fun (_ : _ ∨ _) => ?_)
    refine rB_X8_copyFrom (fun B hB => ?_)
    refine hB _ _ _ _ _ _ ?_
    refine dw_okV (a := 307) rfl rfl (show (SH1 307).1 = 8 by decide +kernel) rfl (by decide) rfl rfl ?_
    refine dw_enter rfl ?_
    refine rB_X8_nightOf (fun B hB => ?_)
    refine rB_X8_copyFrom (fun B hB => ?_)
    refine hB _ _ _ _ _ _ ?_
    refine dw_okV (a := 3) rfl rfl (show (SH1 3).1 = 8 by decide +kernel) rfl (by decide) rfl rfl ?_
    refine dw_enter rfl ?_
    refine rB_X8_nightOf (fun B hB => ?_)
    refine rB_X8_copyFrom (fun B hB => ?_)
    refine hB _ _ _ _ _ _ ?_
    refine dw_okV (a := 383) rfl rfl (show (SH1 383).1 = 2 by decide +kernel) rfl (by decide) rfl rfl ?_
    refine dw_enter rfl ?_
    refine rB_X2_copyFrom (fun B hB => ?_)
    refine (fun (_ : _ ∨ _) => ?_)
    refine rB_X8_copyFrom (fun B hB => ?_)
    refine hB _ _ _ _ _ _ ?_
    refine dw_okV (a := 307) rfl rfl (show (SH1 307).1 = 8 by decide +kernel) rfl (by decide) rfl rfl ?_
    refine dw_enter rfl ?_
    refine rB_X8_nightOf (fun B hB => ?_)
    refine rB_X8_copyFrom (fun B hB => ?_)
    refine hB _ _ _ _ _ _ ?_
    refine dw_okV (a := 3) rfl rfl (show (SH1 3).1 = 8 by decide +kernel) rfl (by decide) rfl rfl ?_
    refine dw_enter rfl ?_
    refine rB_X8_nightOf (fun B hB => ?_)
    refine rB_X8_copyFrom (fun B hB => ?_)
    refine hB _ _ _ _ _ _ ?_
    refine dw_okV (a := 390) rfl rfl (show (SH1 390).1 = 2 by decide +kernel) rfl (by decide) rfl rfl ?_
    refine dw_enter rfl ?_
    refine rB_X2_copyFrom (fun B hB => ?_)
    refine (fun (_ : _ ∨ _) => ?_)
    refine rB_X8_copyFrom (fun B hB => ?_)
    refine hB _ _ _ _ _ _ ?_
    refine dw_okV (a := 307) rfl rfl (show (SH1 307).1 = 8 by decide +kernel) rfl (by decide) rfl rfl ?_
    refine dw_enter rfl ?_
    refine rB_X8_nightOf (fun B hB => ?_)
    refine rB_X8_copyFrom (fun B hB => ?_)
    refine hB _ _ _ _ _ _ ?_
    refine dw_okV (a := 3) rfl rfl (show (SH1 3).1 = 8 by decide +kernel) rfl (by decide) rfl rfl ?_
    refine dw_enter rfl ?_
    refine rB_X8_nightOf (fun B hB => ?_)
    refine rB_X8_copyFrom (fun B hB => ?_)
    refine hB _ _ _ _ _ _ ?_
    refine dw_okV (a := 397) rfl rfl (show (SH1 397).1 = 2 by decide +kernel) rfl (by decide) rfl rfl ?_
    refine dw_enter rfl ?_
    refine rB_X2_copyFrom (fun B hB => ?_)
    refine (fun (_ : _ ∨ _) => ?_)
    refine rB_X8_copyFrom (fun B hB => ?_)
    refine rB_X11_image (fun B hB => ?_)
    refine rB_law (fun B hB => ?_)
    refine hB _ _ _ _ _ _ ?_
    refine dw_okV (a := 404) (as := [.int (xs 1)]) rfl rfl (show (SH1 404).1 = 12 by decide +kernel) rfl (by decide) rfl rfl ?_
    rw [hs]
    refine dw_enter rfl ?_
    refine rC_X12_image (fun B hB => ?_)
    refine hB _ _ _ _ _ _ ?_
    refine dw_okS rfl rfl rfl (by decide) rfl rfl ?_
    refine dw_enter rfl ?_
    refine rB_X12_isIn (fun B hB => ?_)
    refine rC_X12_image (fun B hB => ?_)
    refine hB _ _ _ _ _ _ ?_
    refine l_image1 (fun I9 => ?_) 1427 0 _ rfl
    refine rC_X12_image (fun B hB => ?_)
    refine rB_law (fun B hB => ?_)
    refine hB _ _ _ _ _ _ ?_
    exact law_z
  · refine rB_law (fun B hB => ?_)
    refine hB _ _ _ _ _ _ ?_
    refine dw_okV (a := 0) (as := [.int (xs 1)]) rfl rfl (show (SH1 0).1 = 11 by decide +kernel) rfl (by decide) rfl rfl ?_
    refine dw_enter rfl ?_
    refine rB_X11_image (fun B hB => ?_)
    refine dw_itp n0 ?_
    refine rB_law (fun B hB => ?_)
    refine hB _ _ _ _ _ _ ?_
    refine dw_okV (a := 404) (as := [.int (xs 1)]) rfl rfl (show (SH1 404).1 = 12 by decide +kernel) rfl (by decide) rfl rfl ?_
    refine dw_enter rfl ?_
    refine rC_X12_image (fun B hB => ?_)
    refine hB _ _ _ _ _ _ ?_
    refine dw_okS rfl rfl rfl (by decide) rfl rfl ?_
    refine dw_enter rfl ?_
    refine rB_X12_isIn (fun B hB => ?_)
    refine dw_itp n0 ?_
    refine rC_X12_image (fun B hB => ?_)
    refine rB_law (fun B hB => ?_)
    refine hB _ _ _ _ _ _ ?_
    exact law_z
  · refine rB_law (fun B hB => ?_)
    refine hB _ _ _ _ _ _ ?_
    refine dw_okV (a := 0) (as := [.int (xs 1)]) rfl rfl (show (SH1 0).1 = 11 by decide +kernel) rfl (by decide) rfl rfl ?_
    refine dw_enter rfl ?_
    refine rB_X11_image (fun B hB => ?_)
    refine dw_itn n1 ?_
    refine dw_itp n3 ?_
    refine rB_law (fun B hB => ?_)
    refine hB _ _ _ _ _ _ ?_
    refine dw_okV (a := 404) (as := [.int (xs 1)]) rfl rfl (show (SH1 404).1 = 12 by decide +kernel) rfl (by decide) rfl rfl ?_
    refine dw_enter rfl ?_
    refine rC_X12_image (fun B hB => ?_)
    refine hB _ _ _ _ _ _ ?_
    refine dw_okS rfl rfl rfl (by decide) rfl rfl ?_
    refine dw_enter rfl ?_
    refine rB_X12_isIn (fun B hB => ?_)
    refine dw_itn n1 ?_
    refine dw_itp n2 ?_
    refine rC_X12_image (fun B hB => ?_)
    refine rB_law (fun B hB => ?_)
    refine hB _ _ _ _ _ _ ?_
    exact law_z
