set_option maxHeartbeats 20000000 in
set_option maxRecDepth 20000 in
theorem law_c5 {xs : Nat → Int32} : dw_ok (pr_law 6 xs) 428 599567 7247295 (dw_l1 0 none none) [] (435, SH1, IN1, JN1) := by
  rcases dw_rng6 (xs 1) with hs | hs | hs | hs | hs | hs | ⟨n0, n1⟩ | ⟨n0, n1, n2, n3, n4, n5, n6⟩
  · refine rB_law (fun B hB => ?_)
    refine hB _ _ _ _ _ _ ?_
    refine dw_okV (a := 0) (as := [.int (xs 1)]) rfl rfl (show (SH1 0).1 = 11 by decide +kernel) rfl (by decide) rfl rfl ?_
    rw [hs]
    refine dw_enter rfl ?_
    refine rB_X11_night (fun B hB => ?_)
    refine hB _ _ _ _ _ _ ?_
    refine dw_okV (a := 3) rfl rfl (show (SH1 3).1 = 8 by decide +kernel) rfl (by decide) rfl rfl ?_
    refine dw_enter rfl ?_
    refine rB_X8_nightOf (fun B hB => ?_)
    refine rB_X11_night (fun B hB => ?_)
    refine hB _ _ _ _ _ _ ?_
    refine dw_okV (a := 123) rfl rfl (show (SH1 123).1 = 3 by decide +kernel) rfl (by decide) rfl rfl ?_
    refine dw_enter rfl ?_
    refine rB_X3_readText (fun B hB => ?_)
    refine hB _ _ _ _ _ _ ?_
    refine dw_okV (a := 124) rfl rfl (show (SH1 124).1 = 2 by decide +kernel) rfl (by decide) rfl rfl ?_
    refine dw_enter rfl ?_
    refine rB_X2_clear (fun B hB => ?_)
    refine hB _ _ _ _ _ _ ?_
    refine dw_okV (a := 124) rfl rfl (show (SH1 124).1 = 2 by decide +kernel) rfl (by decide) rfl rfl ?_
    refine dw_enter rfl ?_
    refine rC_X2_set (fun B hB => ?_)
    refine hB _ _ _ _ _ _ ?_
    refine l_set124_0s ?_
    refine rC_X2_set (fun B hB => ?_)
    refine rB_X2_clear (fun B hB => ?_)
    refine hB _ _ _ _ _ _ ?_
    refine dw_okV (a := 124) rfl rfl (show (SH1 124).1 = 2 by decide +kernel) rfl (by decide) rfl rfl ?_
    refine dw_enter rfl ?_
    refine rC_X2_set (fun B hB => ?_)
    refine hB _ _ _ _ _ _ ?_
    refine l_set124_1s ?_
    refine rC_X2_set (fun B hB => ?_)
    refine rB_X2_clear (fun B hB => ?_)
    refine hB _ _ _ _ _ _ ?_
    refine dw_okV (a := 124) rfl rfl (show (SH1 124).1 = 2 by decide +kernel) rfl (by decide) rfl rfl ?_
    refine dw_enter rfl ?_
    refine rC_X2_set (fun B hB => ?_)
    refine hB _ _ _ _ _ _ ?_
    refine l_set124_2s ?_
    refine rC_X2_set (fun B hB => ?_)
    refine rB_X2_clear (fun B hB => ?_)
    refine hB _ _ _ _ _ _ ?_
    refine dw_okV (a := 124) rfl rfl (show (SH1 124).1 = 2 by decide +kernel) rfl (by decide) rfl rfl ?_
    refine dw_enter rfl ?_
    refine rC_X2_set (fun B hB => ?_)
    refine hB _ _ _ _ _ _ ?_
    refine l_set124_3s ?_
    refine rC_X2_set (fun B hB => ?_)
    refine rB_X2_clear (fun B hB => ?_)
    refine hB _ _ _ _ _ _ ?_
    refine dw_okV (a := 124) rfl rfl (show (SH1 124).1 = 2 by decide +kernel) rfl (by decide) rfl rfl ?_
    refine dw_enter rfl ?_
    refine rC_X2_set (fun B hB => ?_)
    refine hB _ _ _ _ _ _ ?_
    refine l_set124_4s ?_
    refine rC_X2_set (fun B hB => ?_)
    refine rB_X2_clear (fun B hB => ?_)
    refine rB_X3_readText (fun B hB => ?_)
    refine hB _ _ _ _ _ _ ?_
    refine dw_okV (a := 1) rfl rfl (show (SH1 1).1 = 9 by decide +kernel) rfl (by decide) rfl rfl ?_
    refine dw_enter rfl ?_
    refine rB_X9_open (fun B hB => ?_)
    refine rB_X3_readText (fun B hB => ?_)
    refine hB _ _ _ _ _ _ ?_
    refine dw_okV (a := 1) rfl rfl (show (SH1 1).1 = 9 by decide +kernel) rfl (by decide) rfl rfl ?_
    refine dw_enter rfl ?_
    refine rB_X9_take (fun B hB => ?_)
    refine rB_X3_readText (fun B hB => ?_)
    refine rB_X11_night (fun B hB => ?_)
    refine hB _ _ _ _ _ _ ?_
    refine dw_okV (a := 58) rfl rfl (show (SH1 58).1 = 2 by decide +kernel) rfl (by decide) rfl rfl ?_
    refine dw_enter rfl ?_
    refine rB_X2_copyFrom (fun B hB => ?_)
    refine (fun (_ : _ ∨ _) => ?_)
    refine rB_X11_night (fun B hB => ?_)
    refine rB_law (fun B hB => ?_)
    refine hB _ _ _ _ _ _ ?_
    refine dw_okV (a := 404) (as := [.int (xs 1)]) rfl rfl (show (SH1 404).1 = 12 by decide +kernel) rfl (by decide) rfl rfl ?_
    rw [hs]
    refine dw_enter rfl ?_
    refine rB_X12_night (fun B hB => ?_)
    refine hB _ _ _ _ _ _ ?_
    refine dw_okV (a := 404) rfl rfl (show (SH1 404).1 = 12 by decide +kernel) rfl (by decide) rfl rfl ?_
    refine dw_enter rfl ?_
    refine rB_X12_taken (fun B hB => ?_)
    refine rB_X12_night (fun B hB => ?_)
    refine hB _ _ _ _ _ _ ?_
    refine dw_okS rfl rfl rfl (by decide) rfl rfl ?_
    refine dw_enter rfl ?_
    refine rB_X12_isIn (fun B hB => ?_)
    refine rB_X12_night (fun B hB => ?_)
    refine hB _ _ _ _ _ _ ?_
    refine dw_okV (a := 404) rfl rfl (show (SH1 404).1 = 12 by decide +kernel) rfl (by decide) rfl rfl ?_
    refine dw_enter rfl ?_
    refine rB_X12_next (fun B hB => ?_)
    refine hB _ _ _ _ _ _ ?_
    refine dw_okV (a := 404) rfl rfl (show (SH1 404).1 = 12 by decide +kernel) rfl (by decide) rfl rfl ?_
    refine dw_enter rfl ?_
    refine rB_X12_peek (fun B hB => ?_)
    refine rB_X12_next (fun B hB => ?_)
    refine hB _ _ _ _ _ _ ?_
    refine dw_okV (a := 404) rfl rfl (show (SH1 404).1 = 12 by decide +kernel) rfl (by decide) rfl rfl ?_
    refine dw_enter rfl ?_
    refine rB_X12_peek (fun B hB => ?_)
    refine rB_X12_next (fun B hB => ?_)
    refine hB _ _ _ _ _ _ ?_
    refine dw_okV (a := 404) rfl rfl (show (SH1 404).1 = 12 by decide +kernel) rfl (by decide) rfl rfl ?_
    refine dw_enter rfl ?_
    refine rB_X12_peek (fun B hB => ?_)
    refine rB_X12_next (fun B hB => ?_)
    refine rB_X12_night (fun B hB => ?_)
    refine rB_law (fun B hB => ?_)
    refine hB _ _ _ _ _ _ ?_
    exact law_z
  · refine rB_law (fun B hB => ?_)
    refine hB _ _ _ _ _ _ ?_
    refine dw_okV (a := 0) (as := [.int (xs 1)]) rfl rfl (show (SH1 0).1 = 11 by decide +kernel) rfl (by decide) rfl rfl ?_
    rw [hs]
    refine dw_enter rfl ?_
    refine rB_X11_night (fun B hB => ?_)
    refine hB _ _ _ _ _ _ ?_
    refine dw_okV (a := 3) rfl rfl (show (SH1 3).1 = 8 by decide +kernel) rfl (by decide) rfl rfl ?_
    refine dw_enter rfl ?_
    refine rB_X8_nightOf (fun B hB => ?_)
    refine rB_X11_night (fun B hB => ?_)
    refine hB _ _ _ _ _ _ ?_
    refine dw_okV (a := 123) rfl rfl (show (SH1 123).1 = 3 by decide +kernel) rfl (by decide) rfl rfl ?_
    refine dw_enter rfl ?_
    refine rB_X3_readText (fun B hB => ?_)
    refine hB _ _ _ _ _ _ ?_
    refine dw_okV (a := 124) rfl rfl (show (SH1 124).1 = 2 by decide +kernel) rfl (by decide) rfl rfl ?_
    refine dw_enter rfl ?_
    refine rB_X2_clear (fun B hB => ?_)
    refine hB _ _ _ _ _ _ ?_
    refine dw_okV (a := 124) rfl rfl (show (SH1 124).1 = 2 by decide +kernel) rfl (by decide) rfl rfl ?_
    refine dw_enter rfl ?_
    refine rC_X2_set (fun B hB => ?_)
    refine hB _ _ _ _ _ _ ?_
    refine l_set124_0s ?_
    refine rC_X2_set (fun B hB => ?_)
    refine rB_X2_clear (fun B hB => ?_)
    refine hB _ _ _ _ _ _ ?_
    refine dw_okV (a := 124) rfl rfl (show (SH1 124).1 = 2 by decide +kernel) rfl (by decide) rfl rfl ?_
    refine dw_enter rfl ?_
    refine rC_X2_set (fun B hB => ?_)
    refine hB _ _ _ _ _ _ ?_
    refine l_set124_1s ?_
    refine rC_X2_set (fun B hB => ?_)
    refine rB_X2_clear (fun B hB => ?_)
    refine hB _ _ _ _ _ _ ?_
    refine dw_okV (a := 124) rfl rfl (show (SH1 124).1 = 2 by decide +kernel) rfl (by decide) rfl rfl ?_
    refine dw_enter rfl ?_
    refine rC_X2_set (fun B hB => ?_)
    refine hB _ _ _ _ _ _ ?_
    refine l_set124_2s ?_
    refine rC_X2_set (fun B hB => ?_)
    refine rB_X2_clear (fun B hB => ?_)
    refine hB _ _ _ _ _ _ ?_
    refine dw_okV (a := 124) rfl rfl (show (SH1 124).1 = 2 by decide +kernel) rfl (by decide) rfl rfl ?_
    refine dw_enter rfl ?_
    refine rC_X2_set (fun B hB => ?_)
    refine hB _ _ _ _ _ _ ?_
    refine l_set124_3s ?_
    refine rC_X2_set (fun B hB => ?_)
    refine rB_X2_clear (fun B hB => ?_)
    refine hB _ _ _ _ _ _ ?_
    refine dw_okV (a := 124) rfl rfl (show (SH1 124).1 = 2 by decide +kernel) rfl (by decide) rfl rfl ?_
    refine dw_enter rfl ?_
    refine rC_X2_set (fun B hB => ?_)
    refine hB _ _ _ _ _ _ ?_
    refine l_set124_4s ?_
    refine rC_X2_set (fun B hB => ?_)
    refine rB_X2_clear (fun B hB => ?_)
    refine rB_X3_readText (fun B hB => ?_)
    refine hB _ _ _ _ _ _ ?_
    refine dw_okV (a := 1) rfl rfl (show (SH1 1).1 = 9 by decide +kernel) rfl (by decide) rfl rfl ?_
    refine dw_enter rfl ?_
    refine rB_X9_open (fun B hB => ?_)
    refine rB_X3_readText (fun B hB => ?_)
    refine hB _ _ _ _ _ _ ?_
    refine dw_okV (a := 1) rfl rfl (show (SH1 1).1 = 9 by decide +kernel) rfl (by decide) rfl rfl ?_
    refine dw_enter rfl ?_
    refine rB_X9_take (fun B hB => ?_)
    refine rB_X3_readText (fun B hB => ?_)
    refine rB_X11_night (fun B hB => ?_)
    refine hB _ _ _ _ _ _ ?_
    refine dw_okV (a := 65) rfl rfl (show (SH1 65).1 = 2 by decide +kernel) rfl (by decide) rfl rfl ?_
    refine dw_enter rfl ?_
    refine rB_X2_copyFrom (fun B hB => ?_)
    refine (fun (_ : _ ∨ _) => ?_)
    refine rB_X11_night (fun B hB => ?_)
    refine rB_law (fun B hB => ?_)
    refine hB _ _ _ _ _ _ ?_
    refine dw_okV (a := 404) (as := [.int (xs 1)]) rfl rfl (show (SH1 404).1 = 12 by decide +kernel) rfl (by decide) rfl rfl ?_
    rw [hs]
    refine dw_enter rfl ?_
    refine rB_X12_night (fun B hB => ?_)
    refine hB _ _ _ _ _ _ ?_
    refine dw_okV (a := 404) rfl rfl (show (SH1 404).1 = 12 by decide +kernel) rfl (by decide) rfl rfl ?_
    refine dw_enter rfl ?_
    refine rB_X12_taken (fun B hB => ?_)
    refine rB_X12_night (fun B hB => ?_)
    refine hB _ _ _ _ _ _ ?_
    refine dw_okS rfl rfl rfl (by decide) rfl rfl ?_
    refine dw_enter rfl ?_
    refine rB_X12_isIn (fun B hB => ?_)
    refine rB_X12_night (fun B hB => ?_)
    refine hB _ _ _ _ _ _ ?_
    refine dw_okV (a := 404) rfl rfl (show (SH1 404).1 = 12 by decide +kernel) rfl (by decide) rfl rfl ?_
    refine dw_enter rfl ?_
    refine rB_X12_next (fun B hB => ?_)
    refine hB _ _ _ _ _ _ ?_
    refine dw_okV (a := 404) rfl rfl (show (SH1 404).1 = 12 by decide +kernel) rfl (by decide) rfl rfl ?_
    refine dw_enter rfl ?_
    refine rB_X12_peek (fun B hB => ?_)
    refine rB_X12_next (fun B hB => ?_)
    refine hB _ _ _ _ _ _ ?_
    refine dw_okV (a := 404) rfl rfl (show (SH1 404).1 = 12 by decide +kernel) rfl (by decide) rfl rfl ?_
    refine dw_enter rfl ?_
    refine rB_X12_peek (fun B hB => ?_)
    refine rB_X12_next (fun B hB => ?_)
    refine hB _ _ _ _ _ _ ?_
    refine dw_okV (a := 404) rfl rfl (show (SH1 404).1 = 12 by decide +kernel) rfl (by decide) rfl rfl ?_
    refine dw_enter rfl ?_
    refine rB_X12_peek (fun B hB => ?_)
    refine rB_X12_next (fun B hB => ?_)
    refine rB_X12_night (fun B hB => ?_)
    refine rB_law (fun B hB => ?_)
    refine hB _ _ _ _ _ _ ?_
    exact law_z
  · refine rB_law (fun B hB => ?_)
    refine hB _ _ _ _ _ _ ?_
    refine dw_okV (a := 0) (as := [.int (xs 1)]) rfl rfl (show (SH1 0).1 = 11 by decide +kernel) rfl (by decide) rfl rfl ?_
    rw [hs]
    refine dw_enter rfl ?_
    refine rB_X11_night (fun B hB => ?_)
    refine hB _ _ _ _ _ _ ?_
    refine dw_okV (a := 3) rfl rfl (show (SH1 3).1 = 8 by decide +kernel) rfl (by decide) rfl rfl ?_
    refine dw_enter rfl ?_
    refine rB_X8_nightOf (fun B hB => ?_)
    refine rB_X11_night (fun B hB => ?_)
    refine hB _ _ _ _ _ _ ?_
    refine dw_okV (a := 123) rfl rfl (show (SH1 123).1 = 3 by decide +kernel) rfl (by decide) rfl rfl ?_
    refine dw_enter rfl ?_
    refine rB_X3_readText (fun B hB => ?_)
    refine hB _ _ _ _ _ _ ?_
    refine dw_okV (a := 124) rfl rfl (show (SH1 124).1 = 2 by decide +kernel) rfl (by decide) rfl rfl ?_
    refine dw_enter rfl ?_
    refine rB_X2_clear (fun B hB => ?_)
    refine hB _ _ _ _ _ _ ?_
    refine dw_okV (a := 124) rfl rfl (show (SH1 124).1 = 2 by decide +kernel) rfl (by decide) rfl rfl ?_
    refine dw_enter rfl ?_
    refine rC_X2_set (fun B hB => ?_)
    refine hB _ _ _ _ _ _ ?_
    refine l_set124_0s ?_
    refine rC_X2_set (fun B hB => ?_)
    refine rB_X2_clear (fun B hB => ?_)
    refine hB _ _ _ _ _ _ ?_
    refine dw_okV (a := 124) rfl rfl (show (SH1 124).1 = 2 by decide +kernel) rfl (by decide) rfl rfl ?_
    refine dw_enter rfl ?_
    refine rC_X2_set (fun B hB => ?_)
    refine hB _ _ _ _ _ _ ?_
    refine l_set124_1s ?_
    refine rC_X2_set (fun B hB => ?_)
    refine rB_X2_clear (fun B hB => ?_)
    refine hB _ _ _ _ _ _ ?_
    refine dw_okV (a := 124) rfl rfl (show (SH1 124).1 = 2 by decide +kernel) rfl (by decide) rfl rfl ?_
    refine dw_enter rfl ?_
    refine rC_X2_set (fun B hB => ?_)
    refine hB _ _ _ _ _ _ ?_
    refine l_set124_2s ?_
    refine rC_X2_set (fun B hB => ?_)
    refine rB_X2_clear (fun B hB => ?_)
    refine hB _ _ _ _ _ _ ?_
    refine dw_okV (a := 124) rfl rfl (show (SH1 124).1 = 2 by decide +kernel) rfl (by decide) rfl rfl ?_
    refine dw_enter rfl ?_
    refine rC_X2_set (fun B hB => ?_)
    refine hB _ _ _ _ _ _ ?_
    refine l_set124_3s ?_
    refine rC_X2_set (fun B hB => ?_)
    refine rB_X2_clear (fun B hB => ?_)
    refine hB _ _ _ _ _ _ ?_
    refine dw_okV (a := 124) rfl rfl (show (SH1 124).1 = 2 by decide +kernel) rfl (by decide) rfl rfl ?_
    refine dw_enter rfl ?_
    refine rC_X2_set (fun B hB => ?_)
    refine hB _ _ _ _ _ _ ?_
    refine l_set124_4s ?_
    refine rC_X2_set (fun B hB => ?_)
    refine rB_X2_clear (fun B hB => ?_)
    refine rB_X3_readText (fun B hB => ?_)
    refine hB _ _ _ _ _ _ ?_
    refine dw_okV (a := 1) rfl rfl (show (SH1 1).1 = 9 by decide +kernel) rfl (by decide) rfl rfl ?_
    refine dw_enter rfl ?_
    refine rB_X9_open (fun B hB => ?_)
    refine rB_X3_readText (fun B hB => ?_)
    refine hB _ _ _ _ _ _ ?_
    refine dw_okV (a := 1) rfl rfl (show (SH1 1).1 = 9 by decide +kernel) rfl (by decide) rfl rfl ?_
    refine dw_enter rfl ?_
    refine rB_X9_take (fun B hB => ?_)
    refine rB_X3_readText (fun B hB => ?_)
    refine rB_X11_night (fun B hB => ?_)
    refine hB _ _ _ _ _ _ ?_
    refine dw_okV (a := 72) rfl rfl (show (SH1 72).1 = 2 by decide +kernel) rfl (by decide) rfl rfl ?_
    refine dw_enter rfl ?_
    refine rB_X2_copyFrom (fun B hB => ?_)
    refine (fun (_ : _ ∨ _) => ?_)
    refine rB_X11_night (fun B hB => ?_)
    refine rB_law (fun B hB => ?_)
    refine hB _ _ _ _ _ _ ?_
    refine dw_okV (a := 404) (as := [.int (xs 1)]) rfl rfl (show (SH1 404).1 = 12 by decide +kernel) rfl (by decide) rfl rfl ?_
    rw [hs]
    refine dw_enter rfl ?_
    refine rB_X12_night (fun B hB => ?_)
    refine hB _ _ _ _ _ _ ?_
    refine dw_okV (a := 404) rfl rfl (show (SH1 404).1 = 12 by decide +kernel) rfl (by decide) rfl rfl ?_
    refine dw_enter rfl ?_
    refine rB_X12_taken (fun B hB => ?_)
    refine rB_X12_night (fun B hB => ?_)
    refine hB _ _ _ _ _ _ ?_
    refine dw_okS rfl rfl rfl (by decide) rfl rfl ?_
    refine dw_enter rfl ?_
    refine rB_X12_isIn (fun B hB => ?_)
    refine rB_X12_night (fun B hB => ?_)
    refine hB _ _ _ _ _ _ ?_
    refine dw_okV (a := 404) rfl rfl (show (SH1 404).1 = 12 by decide +kernel) rfl (by decide) rfl rfl ?_
    refine dw_enter rfl ?_
    refine rB_X12_next (fun B hB => ?_)
    refine hB _ _ _ _ _ _ ?_
    refine dw_okV (a := 404) rfl rfl (show (SH1 404).1 = 12 by decide +kernel) rfl (by decide) rfl rfl ?_
    refine dw_enter rfl ?_
    refine rB_X12_peek (fun B hB => ?_)
    refine rB_X12_next (fun B hB => ?_)
    refine hB _ _ _ _ _ _ ?_
    refine dw_okV (a := 404) rfl rfl (show (SH1 404).1 = 12 by decide +kernel) rfl (by decide) rfl rfl ?_
    refine dw_enter rfl ?_
    refine rB_X12_peek (fun B hB => ?_)
    refine rB_X12_next (fun B hB => ?_)
    refine hB _ _ _ _ _ _ ?_
    refine dw_okV (a := 404) rfl rfl (show (SH1 404).1 = 12 by decide +kernel) rfl (by decide) rfl rfl ?_
    refine dw_enter rfl ?_
    refine rB_X12_peek (fun B hB => ?_)
    refine rB_X12_next (fun B hB => ?_)
    refine rB_X12_night (fun B hB => ?_)
    refine rB_law (fun B hB => ?_)
    refine hB _ _ _ _ _ _ ?_
    exact law_z
  · refine rB_law (fun B hB => ?_)
    refine hB _ _ _ _ _ _ ?_
    refine dw_okV (a := 0) (as := [.int (xs 1)]) rfl rfl (show (SH1 0).1 = 11 by decide +kernel) rfl (by decide) rfl rfl ?_
    rw [hs]
    refine dw_enter rfl ?_
    refine rB_X11_night (fun B hB => ?_)
    refine hB _ _ _ _ _ _ ?_
    refine dw_okV (a := 3) rfl rfl (show (SH1 3).1 = 8 by decide +kernel) rfl (by decide) rfl rfl ?_
    refine dw_enter rfl ?_
    refine rB_X8_nightOf (fun B hB => ?_)
    refine rB_X11_night (fun B hB => ?_)
    refine hB _ _ _ _ _ _ ?_
    refine dw_okV (a := 123) rfl rfl (show (SH1 123).1 = 3 by decide +kernel) rfl (by decide) rfl rfl ?_
    refine dw_enter rfl ?_
    refine rB_X3_readText (fun B hB => ?_)
    refine hB _ _ _ _ _ _ ?_
    refine dw_okV (a := 124) rfl rfl (show (SH1 124).1 = 2 by decide +kernel) rfl (by decide) rfl rfl ?_
    refine dw_enter rfl ?_
    refine rB_X2_clear (fun B hB => ?_)
    refine hB _ _ _ _ _ _ ?_
    refine dw_okV (a := 124) rfl rfl (show (SH1 124).1 = 2 by decide +kernel) rfl (by decide) rfl rfl ?_
    refine dw_enter rfl ?_
    refine rC_X2_set (fun B hB => ?_)
    refine hB _ _ _ _ _ _ ?_
    refine l_set124_0s ?_
    refine rC_X2_set (fun B hB => ?_)
    refine rB_X2_clear (fun B hB => ?_)
    refine hB _ _ _ _ _ _ ?_
    refine dw_okV (a := 124) rfl rfl (show (SH1 124).1 = 2 by decide +kernel) rfl (by decide) rfl rfl ?_
    refine dw_enter rfl ?_
    refine rC_X2_set (fun B hB => ?_)
    refine hB _ _ _ _ _ _ ?_
    refine l_set124_1s ?_
    refine rC_X2_set (fun B hB => ?_)
    refine rB_X2_clear (fun B hB => ?_)
    refine hB _ _ _ _ _ _ ?_
    refine dw_okV (a := 124) rfl rfl (show (SH1 124).1 = 2 by decide +kernel) rfl (by decide) rfl rfl ?_
    refine dw_enter rfl ?_
    refine rC_X2_set (fun B hB => ?_)
    refine hB _ _ _ _ _ _ ?_
    refine l_set124_2s ?_
    refine rC_X2_set (fun B hB => ?_)
    refine rB_X2_clear (fun B hB => ?_)
    refine hB _ _ _ _ _ _ ?_
    refine dw_okV (a := 124) rfl rfl (show (SH1 124).1 = 2 by decide +kernel) rfl (by decide) rfl rfl ?_
    refine dw_enter rfl ?_
    refine rC_X2_set (fun B hB => ?_)
    refine hB _ _ _ _ _ _ ?_
    refine l_set124_3s ?_
    refine rC_X2_set (fun B hB => ?_)
    refine rB_X2_clear (fun B hB => ?_)
    refine hB _ _ _ _ _ _ ?_
    refine dw_okV (a := 124) rfl rfl (show (SH1 124).1 = 2 by decide +kernel) rfl (by decide) rfl rfl ?_
    refine dw_enter rfl ?_
    refine rC_X2_set (fun B hB => ?_)
    refine hB _ _ _ _ _ _ ?_
    refine l_set124_4s ?_
    refine rC_X2_set (fun B hB => ?_)
    refine rB_X2_clear (fun B hB => ?_)
    refine rB_X3_readText (fun B hB => ?_)
    refine hB _ _ _ _ _ _ ?_
    refine dw_okV (a := 1) rfl rfl (show (SH1 1).1 = 9 by decide +kernel) rfl (by decide) rfl rfl ?_
    refine dw_enter rfl ?_
    refine rB_X9_open (fun B hB => ?_)
    refine rB_X3_readText (fun B hB => ?_)
    refine hB _ _ _ _ _ _ ?_
    refine dw_okV (a := 1) rfl rfl (show (SH1 1).1 = 9 by decide +kernel) rfl (by decide) rfl rfl ?_
    refine dw_enter rfl ?_
    refine rB_X9_take (fun B hB => ?_)
    refine rB_X3_readText (fun B hB => ?_)
    refine rB_X11_night (fun B hB => ?_)
    refine hB _ _ _ _ _ _ ?_
    refine dw_okV (a := 79) rfl rfl (show (SH1 79).1 = 2 by decide +kernel) rfl (by decide) rfl rfl ?_
    refine dw_enter rfl ?_
    refine rB_X2_copyFrom (fun B hB => ?_)
    refine (fun (_ : _ ∨ _) => ?_)
    refine rB_X11_night (fun B hB => ?_)
    refine rB_law (fun B hB => ?_)
    refine hB _ _ _ _ _ _ ?_
    refine dw_okV (a := 404) (as := [.int (xs 1)]) rfl rfl (show (SH1 404).1 = 12 by decide +kernel) rfl (by decide) rfl rfl ?_
    rw [hs]
    refine dw_enter rfl ?_
    refine rB_X12_night (fun B hB => ?_)
    refine hB _ _ _ _ _ _ ?_
    refine dw_okV (a := 404) rfl rfl (show (SH1 404).1 = 12 by decide +kernel) rfl (by decide) rfl rfl ?_
    refine dw_enter rfl ?_
    refine rB_X12_taken (fun B hB => ?_)
    refine rB_X12_night (fun B hB => ?_)
    refine hB _ _ _ _ _ _ ?_
    refine dw_okS rfl rfl rfl (by decide) rfl rfl ?_
    refine dw_enter rfl ?_
    refine rB_X12_isIn (fun B hB => ?_)
    refine rB_X12_night (fun B hB => ?_)
    refine hB _ _ _ _ _ _ ?_
    refine dw_okV (a := 404) rfl rfl (show (SH1 404).1 = 12 by decide +kernel) rfl (by decide) rfl rfl ?_
    refine dw_enter rfl ?_
    refine rB_X12_next (fun B hB => ?_)
    refine hB _ _ _ _ _ _ ?_
    refine dw_okV (a := 404) rfl rfl (show (SH1 404).1 = 12 by decide +kernel) rfl (by decide) rfl rfl ?_
    refine dw_enter rfl ?_
    refine rB_X12_peek (fun B hB => ?_)
    refine rB_X12_next (fun B hB => ?_)
    refine hB _ _ _ _ _ _ ?_
    refine dw_okV (a := 404) rfl rfl (show (SH1 404).1 = 12 by decide +kernel) rfl (by decide) rfl rfl ?_
    refine dw_enter rfl ?_
    refine rB_X12_peek (fun B hB => ?_)
    refine rB_X12_next (fun B hB => ?_)
    refine hB _ _ _ _ _ _ ?_
    refine dw_okV (a := 404) rfl rfl (show (SH1 404).1 = 12 by decide +kernel) rfl (by decide) rfl rfl ?_
    refine dw_enter rfl ?_
    refine rB_X12_peek (fun B hB => ?_)
    refine rB_X12_next (fun B hB => ?_)
    refine rB_X12_night (fun B hB => ?_)
    refine rB_law (fun B hB => ?_)
    refine hB _ _ _ _ _ _ ?_
    exact law_z
  · refine rB_law (fun B hB => ?_)
    refine hB _ _ _ _ _ _ ?_
    refine dw_okV (a := 0) (as := [.int (xs 1)]) rfl rfl (show (SH1 0).1 = 11 by decide +kernel) rfl (by decide) rfl rfl ?_
    rw [hs]
    refine dw_enter rfl ?_
    refine rB_X11_night (fun B hB => ?_)
    refine hB _ _ _ _ _ _ ?_
    refine dw_okV (a := 3) rfl rfl (show (SH1 3).1 = 8 by decide +kernel) rfl (by decide) rfl rfl ?_
    refine dw_enter rfl ?_
    refine rB_X8_nightOf (fun B hB => ?_)
    refine rB_X11_night (fun B hB => ?_)
    refine hB _ _ _ _ _ _ ?_
    refine dw_okV (a := 123) rfl rfl (show (SH1 123).1 = 3 by decide +kernel) rfl (by decide) rfl rfl ?_
    refine dw_enter rfl ?_
    refine rB_X3_readText (fun B hB => ?_)
    refine hB _ _ _ _ _ _ ?_
    refine dw_okV (a := 124) rfl rfl (show (SH1 124).1 = 2 by decide +kernel) rfl (by decide) rfl rfl ?_
    refine dw_enter rfl ?_
    refine rB_X2_clear (fun B hB => ?_)
    refine hB _ _ _ _ _ _ ?_
    refine dw_okV (a := 124) rfl rfl (show (SH1 124).1 = 2 by decide +kernel) rfl (by decide) rfl rfl ?_
    refine dw_enter rfl ?_
    refine rC_X2_set (fun B hB => ?_)
    refine hB _ _ _ _ _ _ ?_
    refine l_set124_0s ?_
    refine rC_X2_set (fun B hB => ?_)
    refine rB_X2_clear (fun B hB => ?_)
    refine hB _ _ _ _ _ _ ?_
    refine dw_okV (a := 124) rfl rfl (show (SH1 124).1 = 2 by decide +kernel) rfl (by decide) rfl rfl ?_
    refine dw_enter rfl ?_
    refine rC_X2_set (fun B hB => ?_)
    refine hB _ _ _ _ _ _ ?_
    refine l_set124_1s ?_
    refine rC_X2_set (fun B hB => ?_)
    refine rB_X2_clear (fun B hB => ?_)
    refine hB _ _ _ _ _ _ ?_
    refine dw_okV (a := 124) rfl rfl (show (SH1 124).1 = 2 by decide +kernel) rfl (by decide) rfl rfl ?_
    refine dw_enter rfl ?_
    refine rC_X2_set (fun B hB => ?_)
    refine hB _ _ _ _ _ _ ?_
    refine l_set124_2s ?_
    refine rC_X2_set (fun B hB => ?_)
    refine rB_X2_clear (fun B hB => ?_)
    refine hB _ _ _ _ _ _ ?_
    refine dw_okV (a := 124) rfl rfl (show (SH1 124).1 = 2 by decide +kernel) rfl (by decide) rfl rfl ?_
    refine dw_enter rfl ?_
    refine rC_X2_set (fun B hB => ?_)
    refine hB _ _ _ _ _ _ ?_
    refine l_set124_3s ?_
    refine rC_X2_set (fun B hB => ?_)
    refine rB_X2_clear (fun B hB => ?_)
    refine hB _ _ _ _ _ _ ?_
    refine dw_okV (a := 124) rfl rfl (show (SH1 124).1 = 2 by decide +kernel) rfl (by decide) rfl rfl ?_
    refine dw_enter rfl ?_
    refine rC_X2_set (fun B hB => ?_)
    refine hB _ _ _ _ _ _ ?_
    refine l_set124_4s ?_
    refine rC_X2_set (fun B hB => ?_)
    refine rB_X2_clear (fun B hB => ?_)
    refine rB_X3_readText (fun B hB => ?_)
    refine hB _ _ _ _ _ _ ?_
    refine dw_okV (a := 1) rfl rfl (show (SH1 1).1 = 9 by decide +kernel) rfl (by decide) rfl rfl ?_
    refine dw_enter rfl ?_
    refine rB_X9_open (fun B hB => ?_)
    refine rB_X3_readText (fun B hB => ?_)
    refine hB _ _ _ _ _ _ ?_
    refine dw_okV (a := 1) rfl rfl (show (SH1 1).1 = 9 by decide +kernel) rfl (by decide) rfl rfl ?_
    refine dw_enter rfl ?_
    refine rB_X9_take (fun B hB => ?_)
    refine rB_X3_readText (fun B hB => ?_)
    refine rB_X11_night (fun B hB => ?_)
    refine hB _ _ _ _ _ _ ?_
    refine dw_okV (a := 86) rfl rfl (show (SH1 86).1 = 2 by decide +kernel) rfl (by decide) rfl rfl ?_
    refine dw_enter rfl ?_
    refine rB_X2_copyFrom (fun B hB => ?_)
    refine (fun (_ : _ ∨ _) => ?_)
    refine rB_X11_night (fun B hB => ?_)
    refine rB_law (fun B hB => ?_)
    refine hB _ _ _ _ _ _ ?_
    refine dw_okV (a := 404) (as := [.int (xs 1)]) rfl rfl (show (SH1 404).1 = 12 by decide +kernel) rfl (by decide) rfl rfl ?_
    rw [hs]
    refine dw_enter rfl ?_
    refine rB_X12_night (fun B hB => ?_)
    refine hB _ _ _ _ _ _ ?_
    refine dw_okV (a := 404) rfl rfl (show (SH1 404).1 = 12 by decide +kernel) rfl (by decide) rfl rfl ?_
    refine dw_enter rfl ?_
    refine rB_X12_taken (fun B hB => ?_)
    refine rB_X12_night (fun B hB => ?_)
    refine hB _ _ _ _ _ _ ?_
    refine dw_okS rfl rfl rfl (by decide) rfl rfl ?_
    refine dw_enter rfl ?_
    refine rB_X12_isIn (fun B hB => ?_)
    refine rB_X12_night (fun B hB => ?_)
    refine hB _ _ _ _ _ _ ?_
    refine dw_okV (a := 404) rfl rfl (show (SH1 404).1 = 12 by decide +kernel) rfl (by decide) rfl rfl ?_
    refine dw_enter rfl ?_
    refine rB_X12_next (fun B hB => ?_)
    refine hB _ _ _ _ _ _ ?_
    refine dw_okV (a := 404) rfl rfl (show (SH1 404).1 = 12 by decide +kernel) rfl (by decide) rfl rfl ?_
    refine dw_enter rfl ?_
    refine rB_X12_peek (fun B hB => ?_)
    refine rB_X12_next (fun B hB => ?_)
    refine hB _ _ _ _ _ _ ?_
    refine dw_okV (a := 404) rfl rfl (show (SH1 404).1 = 12 by decide +kernel) rfl (by decide) rfl rfl ?_
    refine dw_enter rfl ?_
    refine rB_X12_peek (fun B hB => ?_)
    refine rB_X12_next (fun B hB => ?_)
    refine hB _ _ _ _ _ _ ?_
    refine dw_okV (a := 404) rfl rfl (show (SH1 404).1 = 12 by decide +kernel) rfl (by decide) rfl rfl ?_
    refine dw_enter rfl ?_
    refine rB_X12_peek (fun B hB => ?_)
    refine rB_X12_next (fun B hB => ?_)
    refine rB_X12_night (fun B hB => ?_)
    refine rB_law (fun B hB => ?_)
    refine hB _ _ _ _ _ _ ?_
    exact law_z
  · refine rB_law (fun B hB => ?_)
    refine hB _ _ _ _ _ _ ?_
    refine dw_okV (a := 0) (as := [.int (xs 1)]) rfl rfl (show (SH1 0).1 = 11 by decide +kernel) rfl (by decide) rfl rfl ?_
    rw [hs]
    refine dw_enter rfl ?_
    refine rB_X11_night (fun B hB => ?_)
    refine hB _ _ _ _ _ _ ?_
    refine dw_okV (a := 3) rfl rfl (show (SH1 3).1 = 8 by decide +kernel) rfl (by decide) rfl rfl ?_
    refine dw_enter rfl ?_
    refine rB_X8_nightOf (fun B hB => ?_)
    refine rB_X11_night (fun B hB => ?_)
    refine hB _ _ _ _ _ _ ?_
    refine dw_okV (a := 123) rfl rfl (show (SH1 123).1 = 3 by decide +kernel) rfl (by decide) rfl rfl ?_
    refine dw_enter rfl ?_
    refine rB_X3_readText (fun B hB => ?_)
    refine hB _ _ _ _ _ _ ?_
    refine dw_okV (a := 124) rfl rfl (show (SH1 124).1 = 2 by decide +kernel) rfl (by decide) rfl rfl ?_
    refine dw_enter rfl ?_
    refine rB_X2_clear (fun B hB => ?_)
    refine hB _ _ _ _ _ _ ?_
    refine dw_okV (a := 124) rfl rfl (show (SH1 124).1 = 2 by decide +kernel) rfl (by decide) rfl rfl ?_
    refine dw_enter rfl ?_
    refine rC_X2_set (fun B hB => ?_)
    refine hB _ _ _ _ _ _ ?_
    refine l_set124_0s ?_
    refine rC_X2_set (fun B hB => ?_)
    refine rB_X2_clear (fun B hB => ?_)
    refine hB _ _ _ _ _ _ ?_
    refine dw_okV (a := 124) rfl rfl (show (SH1 124).1 = 2 by decide +kernel) rfl (by decide) rfl rfl ?_
    refine dw_enter rfl ?_
    refine rC_X2_set (fun B hB => ?_)
    refine hB _ _ _ _ _ _ ?_
    refine l_set124_1s ?_
    refine rC_X2_set (fun B hB => ?_)
    refine rB_X2_clear (fun B hB => ?_)
    refine hB _ _ _ _ _ _ ?_
    refine dw_okV (a := 124) rfl rfl (show (SH1 124).1 = 2 by decide +kernel) rfl (by decide) rfl rfl ?_
    refine dw_enter rfl ?_
    refine rC_X2_set (fun B hB => ?_)
    refine hB _ _ _ _ _ _ ?_
    refine l_set124_2s ?_
    refine rC_X2_set (fun B hB => ?_)
    refine rB_X2_clear (fun B hB => ?_)
    refine hB _ _ _ _ _ _ ?_
    refine dw_okV (a := 124) rfl rfl (show (SH1 124).1 = 2 by decide +kernel) rfl (by decide) rfl rfl ?_
    refine dw_enter rfl ?_
    refine rC_X2_set (fun B hB => ?_)
    refine hB _ _ _ _ _ _ ?_
    refine l_set124_3s ?_
    refine rC_X2_set (fun B hB => ?_)
    refine rB_X2_clear (fun B hB => ?_)
    refine hB _ _ _ _ _ _ ?_
    refine dw_okV (a := 124) rfl rfl (show (SH1 124).1 = 2 by decide +kernel) rfl (by decide) rfl rfl ?_
    refine dw_enter rfl ?_
    refine rC_X2_set (fun B hB => ?_)
    refine hB _ _ _ _ _ _ ?_
    refine l_set124_4s ?_
    refine rC_X2_set (fun B hB => ?_)
    refine rB_X2_clear (fun B hB => ?_)
    refine rB_X3_readText (fun B hB => ?_)
    refine hB _ _ _ _ _ _ ?_
    refine dw_okV (a := 1) rfl rfl (show (SH1 1).1 = 9 by decide +kernel) rfl (by decide) rfl rfl ?_
    refine dw_enter rfl ?_
    refine rB_X9_open (fun B hB => ?_)
    refine rB_X3_readText (fun B hB => ?_)
    refine hB _ _ _ _ _ _ ?_
    refine dw_okV (a := 1) rfl rfl (show (SH1 1).1 = 9 by decide +kernel) rfl (by decide) rfl rfl ?_
    refine dw_enter rfl ?_
    refine rB_X9_take (fun B hB => ?_)
    refine rB_X3_readText (fun B hB => ?_)
    refine rB_X11_night (fun B hB => ?_)
    refine hB _ _ _ _ _ _ ?_
    refine dw_okV (a := 93) rfl rfl (show (SH1 93).1 = 2 by decide +kernel) rfl (by decide) rfl rfl ?_
    refine dw_enter rfl ?_
    refine rB_X2_copyFrom (fun B hB => ?_)
    refine (fun (_ : _ ∨ _) => ?_)
    refine rB_X11_night (fun B hB => ?_)
    refine rB_law (fun B hB => ?_)
    refine hB _ _ _ _ _ _ ?_
    refine dw_okV (a := 404) (as := [.int (xs 1)]) rfl rfl (show (SH1 404).1 = 12 by decide +kernel) rfl (by decide) rfl rfl ?_
    rw [hs]
    refine dw_enter rfl ?_
    refine rB_X12_night (fun B hB => ?_)
    refine hB _ _ _ _ _ _ ?_
    refine dw_okV (a := 404) rfl rfl (show (SH1 404).1 = 12 by decide +kernel) rfl (by decide) rfl rfl ?_
    refine dw_enter rfl ?_
    refine rB_X12_taken (fun B hB => ?_)
    refine rB_X12_night (fun B hB => ?_)
    refine hB _ _ _ _ _ _ ?_
    refine dw_okS rfl rfl rfl (by decide) rfl rfl ?_
    refine dw_enter rfl ?_
    refine rB_X12_isIn (fun B hB => ?_)
    refine rB_X12_night (fun B hB => ?_)
    refine hB _ _ _ _ _ _ ?_
    refine dw_okV (a := 404) rfl rfl (show (SH1 404).1 = 12 by decide +kernel) rfl (by decide) rfl rfl ?_
    refine dw_enter rfl ?_
    refine rB_X12_next (fun B hB => ?_)
    refine hB _ _ _ _ _ _ ?_
    refine dw_okV (a := 404) rfl rfl (show (SH1 404).1 = 12 by decide +kernel) rfl (by decide) rfl rfl ?_
    refine dw_enter rfl ?_
    refine rB_X12_peek (fun B hB => ?_)
    refine rB_X12_next (fun B hB => ?_)
    refine hB _ _ _ _ _ _ ?_
    refine dw_okV (a := 404) rfl rfl (show (SH1 404).1 = 12 by decide +kernel) rfl (by decide) rfl rfl ?_
    refine dw_enter rfl ?_
    refine rB_X12_peek (fun B hB => ?_)
    refine rB_X12_next (fun B hB => ?_)
    refine hB _ _ _ _ _ _ ?_
    refine dw_okV (a := 404) rfl rfl (show (SH1 404).1 = 12 by decide +kernel) rfl (by decide) rfl rfl ?_
    refine dw_enter rfl ?_
    refine rB_X12_peek (fun B hB => ?_)
    refine rB_X12_next (fun B hB => ?_)
    refine rB_X12_night (fun B hB => ?_)
    refine rB_law (fun B hB => ?_)
    refine hB _ _ _ _ _ _ ?_
    exact law_z
  · refine rB_law (fun B hB => ?_)
    refine hB _ _ _ _ _ _ ?_
    refine dw_okV (a := 0) (as := [.int (xs 1)]) rfl rfl (show (SH1 0).1 = 11 by decide +kernel) rfl (by decide) rfl rfl ?_
    refine dw_enter rfl ?_
    refine rB_X11_night (fun B hB => ?_)
    refine hB _ _ _ _ _ _ ?_
    refine dw_okV (a := 3) rfl rfl (show (SH1 3).1 = 8 by decide +kernel) rfl (by decide) rfl rfl ?_
    refine dw_enter rfl ?_
    refine rB_X8_nightOf (fun B hB => ?_)
    refine dw_itp n0 ?_
    refine rB_X11_night (fun B hB => ?_)
    refine rB_law (fun B hB => ?_)
    refine hB _ _ _ _ _ _ ?_
    refine dw_okV (a := 404) (as := [.int (xs 1)]) rfl rfl (show (SH1 404).1 = 12 by decide +kernel) rfl (by decide) rfl rfl ?_
    refine dw_enter rfl ?_
    refine rB_X12_night (fun B hB => ?_)
    refine hB _ _ _ _ _ _ ?_
    refine dw_okV (a := 404) rfl rfl (show (SH1 404).1 = 12 by decide +kernel) rfl (by decide) rfl rfl ?_
    refine dw_enter rfl ?_
    refine rB_X12_taken (fun B hB => ?_)
    refine rB_X12_night (fun B hB => ?_)
    refine hB _ _ _ _ _ _ ?_
    refine dw_okS rfl rfl rfl (by decide) rfl rfl ?_
    refine dw_enter rfl ?_
    refine rB_X12_isIn (fun B hB => ?_)
    refine dw_itp n0 ?_
    refine rB_X12_night (fun B hB => ?_)
    refine rB_law (fun B hB => ?_)
    refine hB _ _ _ _ _ _ ?_
    exact law_z
  · refine rB_law (fun B hB => ?_)
    refine hB _ _ _ _ _ _ ?_
    refine dw_okV (a := 0) (as := [.int (xs 1)]) rfl rfl (show (SH1 0).1 = 11 by decide +kernel) rfl (by decide) rfl rfl ?_
    refine dw_enter rfl ?_
    refine rB_X11_night (fun B hB => ?_)
    refine hB _ _ _ _ _ _ ?_
    refine dw_okV (a := 3) rfl rfl (show (SH1 3).1 = 8 by decide +kernel) rfl (by decide) rfl rfl ?_
    refine dw_enter rfl ?_
    refine rB_X8_nightOf (fun B hB => ?_)
    refine dw_itn n1 ?_
    refine dw_itp n3 ?_
    refine rB_X11_night (fun B hB => ?_)
    refine rB_law (fun B hB => ?_)
    refine hB _ _ _ _ _ _ ?_
    refine dw_okV (a := 404) (as := [.int (xs 1)]) rfl rfl (show (SH1 404).1 = 12 by decide +kernel) rfl (by decide) rfl rfl ?_
    refine dw_enter rfl ?_
    refine rB_X12_night (fun B hB => ?_)
    refine hB _ _ _ _ _ _ ?_
    refine dw_okV (a := 404) rfl rfl (show (SH1 404).1 = 12 by decide +kernel) rfl (by decide) rfl rfl ?_
    refine dw_enter rfl ?_
    refine rB_X12_taken (fun B hB => ?_)
    refine rB_X12_night (fun B hB => ?_)
    refine hB _ _ _ _ _ _ ?_
    refine dw_okS rfl rfl rfl (by decide) rfl rfl ?_
    refine dw_enter rfl ?_
    refine rB_X12_isIn (fun B hB => ?_)
    refine dw_itn n1 ?_
    refine dw_itp n2 ?_
    refine rB_X12_night (fun B hB => ?_)
    refine rB_law (fun B hB => ?_)
    refine hB _ _ _ _ _ _ ?_
    exact law_z
