set_option maxHeartbeats 2000000 in
set_option maxRecDepth 20000 in
theorem law_c15 {xs : Nat → Int32} : dw_ok (pr_law 6 xs) 781 599567 7247295 (dw_l1 0 none none) [] (435, SH1, IN1, JN1) := by
  rcases dw_rng6 (xs 1) with hs | hs | hs | hs | hs | hs | ⟨n0, n1⟩ | ⟨n0, n1, n2, n3, n4, n5, n6⟩
  · refine rB_law (fun B hB => ?_)
    refine hB _ _ _ _ _ _ ?_
    refine dw_okV (a := 0) (as := [.int (xs 1), .int (xs 2), .int (xs 3)]) rfl rfl (show (SH1 0).1 = 11 by decide +kernel) rfl (by decide) rfl rfl ?_
    rw [hs]
    refine dw_enter rfl ?_
    refine rB_X11_where (fun B hB => ?_)
    refine dw_ite (fun h1 => ?_) (fun h1 => ?_)
    · refine rB_law (fun B hB => ?_)
      refine hB _ _ _ _ _ _ ?_
      refine dw_okV (a := 404) (as := [.int (xs 1), .int (xs 2), .int (xs 3)]) rfl rfl (show (SH1 404).1 = 12 by decide +kernel) rfl (by decide) rfl rfl ?_
      rw [hs]
      refine dw_enter rfl ?_
      refine rB_X12_where (fun B hB => ?_)
      refine hB _ _ _ _ _ _ ?_
      refine dw_okV (a := 404) rfl rfl (show (SH1 404).1 = 12 by decide +kernel) rfl (by decide) rfl rfl ?_
      refine dw_enter rfl ?_
      refine rB_X12_isNight (fun B hB => ?_)
      refine hB _ _ _ _ _ _ ?_
      refine dw_okS rfl rfl rfl (by decide) rfl rfl ?_
      refine dw_enter rfl ?_
      refine rB_X12_isIn (fun B hB => ?_)
      refine rB_X12_isNight (fun B hB => ?_)
      refine rB_X12_where (fun B hB => ?_)
      refine rB_law (fun B hB => ?_)
      refine hB _ _ _ _ _ _ ?_
      exact law_z
    · refine dw_ite (fun h2 => ?_) (fun h2 => ?_)
      · refine rB_law (fun B hB => ?_)
        refine hB _ _ _ _ _ _ ?_
        refine dw_okV (a := 404) (as := [.int (xs 1), .int (xs 2), .int (xs 3)]) rfl rfl (show (SH1 404).1 = 12 by decide +kernel) rfl (by decide) rfl rfl ?_
        rw [hs]
        refine dw_enter rfl ?_
        refine rB_X12_where (fun B hB => ?_)
        refine hB _ _ _ _ _ _ ?_
        refine dw_okV (a := 404) rfl rfl (show (SH1 404).1 = 12 by decide +kernel) rfl (by decide) rfl rfl ?_
        refine dw_enter rfl ?_
        refine rB_X12_isNight (fun B hB => ?_)
        refine hB _ _ _ _ _ _ ?_
        refine dw_okS rfl rfl rfl (by decide) rfl rfl ?_
        refine dw_enter rfl ?_
        refine rB_X12_isIn (fun B hB => ?_)
        refine rB_X12_isNight (fun B hB => ?_)
        refine rB_X12_where (fun B hB => ?_)
        refine rB_law (fun B hB => ?_)
        refine hB _ _ _ _ _ _ ?_
        exact law_z
      · refine hB _ _ _ _ _ _ ?_
        refine dw_okV (a := 0) rfl rfl (show (SH1 0).1 = 11 by decide +kernel) rfl (by decide) rfl rfl ?_
        refine dw_enter rfl ?_
        refine rB_X11_runBehind (fun B hB => ?_)
        refine hB _ _ _ _ _ _ ?_
        refine dw_okS rfl rfl rfl (by decide) rfl rfl ?_
        refine dw_enter rfl ?_
        refine rB_X11_isStep (fun B hB => ?_)
        refine dw_ite (fun h3 => ?_) (fun h3 => ?_)
        · refine rB_X11_runBehind (fun B hB => ?_)
          refine rB_X11_where (fun B hB => ?_)
          refine rB_law (fun B hB => ?_)
          refine hB _ _ _ _ _ _ ?_
          refine dw_okV (a := 404) (as := [.int (xs 1), .int (xs 2), .int (xs 3)]) rfl rfl (show (SH1 404).1 = 12 by decide +kernel) rfl (by decide) rfl rfl ?_
          rw [hs]
          refine dw_enter rfl ?_
          refine rB_X12_where (fun B hB => ?_)
          refine hB _ _ _ _ _ _ ?_
          refine dw_okV (a := 404) rfl rfl (show (SH1 404).1 = 12 by decide +kernel) rfl (by decide) rfl rfl ?_
          refine dw_enter rfl ?_
          refine rB_X12_isNight (fun B hB => ?_)
          refine hB _ _ _ _ _ _ ?_
          refine dw_okS rfl rfl rfl (by decide) rfl rfl ?_
          refine dw_enter rfl ?_
          refine rB_X12_isIn (fun B hB => ?_)
          refine rB_X12_isNight (fun B hB => ?_)
          refine rB_X12_where (fun B hB => ?_)
          refine rB_law (fun B hB => ?_)
          refine hB _ _ _ _ _ _ ?_
          exact law_z
        · refine dw_ite (fun h4 => ?_) (fun h4 => ?_)
          · refine rB_X11_runBehind (fun B hB => ?_)
            refine rB_X11_where (fun B hB => ?_)
            refine rB_law (fun B hB => ?_)
            refine hB _ _ _ _ _ _ ?_
            refine dw_okV (a := 404) (as := [.int (xs 1), .int (xs 2), .int (xs 3)]) rfl rfl (show (SH1 404).1 = 12 by decide +kernel) rfl (by decide) rfl rfl ?_
            rw [hs]
            refine dw_enter rfl ?_
            refine rB_X12_where (fun B hB => ?_)
            refine hB _ _ _ _ _ _ ?_
            refine dw_okV (a := 404) rfl rfl (show (SH1 404).1 = 12 by decide +kernel) rfl (by decide) rfl rfl ?_
            refine dw_enter rfl ?_
            refine rB_X12_isNight (fun B hB => ?_)
            refine hB _ _ _ _ _ _ ?_
            refine dw_okS rfl rfl rfl (by decide) rfl rfl ?_
            refine dw_enter rfl ?_
            refine rB_X12_isIn (fun B hB => ?_)
            refine rB_X12_isNight (fun B hB => ?_)
            refine rB_X12_where (fun B hB => ?_)
            refine rB_law (fun B hB => ?_)
            refine hB _ _ _ _ _ _ ?_
            exact law_z
          · refine rB_X11_runBehind (fun B hB => ?_)
            refine hB _ _ _ _ _ _ ?_
            refine dw_okV (a := 0) rfl rfl (show (SH1 0).1 = 11 by decide +kernel) rfl (by decide) rfl rfl ?_
            refine dw_enter rfl ?_
            refine rB_X11_start (fun B hB => ?_)
            refine hB _ _ _ _ _ _ ?_
            refine dw_okV (a := 3) rfl rfl (show (SH1 3).1 = 8 by decide +kernel) rfl (by decide) rfl rfl ?_
            refine dw_enter rfl ?_
            refine rB_X8_nightOf (fun B hB => ?_)
            refine rB_X11_start (fun B hB => ?_)
            refine (fun (_ : _ ∨ _) => ?_)
            refine rB_X11_runBehind (fun B hB => ?_)
            refine rB_X11_where (fun B hB => ?_)
            refine rB_law (fun B hB => ?_)
            refine hB _ _ _ _ _ _ ?_
            refine dw_okV (a := 404) (as := [.int (xs 1), .int (xs 2), .int (xs 3)]) rfl rfl (show (SH1 404).1 = 12 by decide +kernel) rfl (by decide) rfl rfl ?_
            rw [hs]
            refine dw_enter rfl ?_
            refine rB_X12_where (fun B hB => ?_)
            refine hB _ _ _ _ _ _ ?_
            refine dw_okV (a := 404) rfl rfl (show (SH1 404).1 = 12 by decide +kernel) rfl (by decide) rfl rfl ?_
            refine dw_enter rfl ?_
            refine rB_X12_isNight (fun B hB => ?_)
            refine hB _ _ _ _ _ _ ?_
            refine dw_okS rfl rfl rfl (by decide) rfl rfl ?_
            refine dw_enter rfl ?_
            refine rB_X12_isIn (fun B hB => ?_)
            refine rB_X12_isNight (fun B hB => ?_)
            refine rB_X12_where (fun B hB => ?_)
            refine rB_law (fun B hB => ?_)
            refine hB _ _ _ _ _ _ ?_
            exact law_z
  · refine rB_law (fun B hB => ?_)
    refine hB _ _ _ _ _ _ ?_
    refine dw_okV (a := 0) (as := [.int (xs 1), .int (xs 2), .int (xs 3)]) rfl rfl (show (SH1 0).1 = 11 by decide +kernel) rfl (by decide) rfl rfl ?_
    rw [hs]
    refine dw_enter rfl ?_
    refine rB_X11_where (fun B hB => ?_)
    refine dw_ite (fun h5 => ?_) (fun h5 => ?_)
    · refine rB_law (fun B hB => ?_)
      refine hB _ _ _ _ _ _ ?_
      refine dw_okV (a := 404) (as := [.int (xs 1), .int (xs 2), .int (xs 3)]) rfl rfl (show (SH1 404).1 = 12 by decide +kernel) rfl (by decide) rfl rfl ?_
      rw [hs]
      refine dw_enter rfl ?_
      refine rB_X12_where (fun B hB => ?_)
      refine hB _ _ _ _ _ _ ?_
      refine dw_okV (a := 404) rfl rfl (show (SH1 404).1 = 12 by decide +kernel) rfl (by decide) rfl rfl ?_
      refine dw_enter rfl ?_
      refine rB_X12_isNight (fun B hB => ?_)
      refine hB _ _ _ _ _ _ ?_
      refine dw_okS rfl rfl rfl (by decide) rfl rfl ?_
      refine dw_enter rfl ?_
      refine rB_X12_isIn (fun B hB => ?_)
      refine rB_X12_isNight (fun B hB => ?_)
      refine rB_X12_where (fun B hB => ?_)
      refine rB_law (fun B hB => ?_)
      refine hB _ _ _ _ _ _ ?_
      exact law_z
    · refine dw_ite (fun h6 => ?_) (fun h6 => ?_)
      · refine rB_law (fun B hB => ?_)
        refine hB _ _ _ _ _ _ ?_
        refine dw_okV (a := 404) (as := [.int (xs 1), .int (xs 2), .int (xs 3)]) rfl rfl (show (SH1 404).1 = 12 by decide +kernel) rfl (by decide) rfl rfl ?_
        rw [hs]
        refine dw_enter rfl ?_
        refine rB_X12_where (fun B hB => ?_)
        refine hB _ _ _ _ _ _ ?_
        refine dw_okV (a := 404) rfl rfl (show (SH1 404).1 = 12 by decide +kernel) rfl (by decide) rfl rfl ?_
        refine dw_enter rfl ?_
        refine rB_X12_isNight (fun B hB => ?_)
        refine hB _ _ _ _ _ _ ?_
        refine dw_okS rfl rfl rfl (by decide) rfl rfl ?_
        refine dw_enter rfl ?_
        refine rB_X12_isIn (fun B hB => ?_)
        refine rB_X12_isNight (fun B hB => ?_)
        refine rB_X12_where (fun B hB => ?_)
        refine rB_law (fun B hB => ?_)
        refine hB _ _ _ _ _ _ ?_
        exact law_z
      · refine hB _ _ _ _ _ _ ?_
        refine dw_okV (a := 0) rfl rfl (show (SH1 0).1 = 11 by decide +kernel) rfl (by decide) rfl rfl ?_
        refine dw_enter rfl ?_
        refine rB_X11_runBehind (fun B hB => ?_)
        refine hB _ _ _ _ _ _ ?_
        refine dw_okS rfl rfl rfl (by decide) rfl rfl ?_
        refine dw_enter rfl ?_
        refine rB_X11_isStep (fun B hB => ?_)
        refine dw_ite (fun h7 => ?_) (fun h7 => ?_)
        · refine rB_X11_runBehind (fun B hB => ?_)
          refine rB_X11_where (fun B hB => ?_)
          refine rB_law (fun B hB => ?_)
          refine hB _ _ _ _ _ _ ?_
          refine dw_okV (a := 404) (as := [.int (xs 1), .int (xs 2), .int (xs 3)]) rfl rfl (show (SH1 404).1 = 12 by decide +kernel) rfl (by decide) rfl rfl ?_
          rw [hs]
          refine dw_enter rfl ?_
          refine rB_X12_where (fun B hB => ?_)
          refine hB _ _ _ _ _ _ ?_
          refine dw_okV (a := 404) rfl rfl (show (SH1 404).1 = 12 by decide +kernel) rfl (by decide) rfl rfl ?_
          refine dw_enter rfl ?_
          refine rB_X12_isNight (fun B hB => ?_)
          refine hB _ _ _ _ _ _ ?_
          refine dw_okS rfl rfl rfl (by decide) rfl rfl ?_
          refine dw_enter rfl ?_
          refine rB_X12_isIn (fun B hB => ?_)
          refine rB_X12_isNight (fun B hB => ?_)
          refine rB_X12_where (fun B hB => ?_)
          refine rB_law (fun B hB => ?_)
          refine hB _ _ _ _ _ _ ?_
          exact law_z
        · refine dw_ite (fun h8 => ?_) (fun h8 => ?_)
          · refine rB_X11_runBehind (fun B hB => ?_)
            refine rB_X11_where (fun B hB => ?_)
            refine rB_law (fun B hB => ?_)
            refine hB _ _ _ _ _ _ ?_
            refine dw_okV (a := 404) (as := [.int (xs 1), .int (xs 2), .int (xs 3)]) rfl rfl (show (SH1 404).1 = 12 by decide +kernel) rfl (by decide) rfl rfl ?_
            rw [hs]
            refine dw_enter rfl ?_
            refine rB_X12_where (fun B hB => ?_)
            refine hB _ _ _ _ _ _ ?_
            refine dw_okV (a := 404) rfl rfl (show (SH1 404).1 = 12 by decide +kernel) rfl (by decide) rfl rfl ?_
            refine dw_enter rfl ?_
            refine rB_X12_isNight (fun B hB => ?_)
            refine hB _ _ _ _ _ _ ?_
            refine dw_okS rfl rfl rfl (by decide) rfl rfl ?_
            refine dw_enter rfl ?_
            refine rB_X12_isIn (fun B hB => ?_)
            refine rB_X12_isNight (fun B hB => ?_)
            refine rB_X12_where (fun B hB => ?_)
            refine rB_law (fun B hB => ?_)
            refine hB _ _ _ _ _ _ ?_
            exact law_z
          · refine rB_X11_runBehind (fun B hB => ?_)
            refine hB _ _ _ _ _ _ ?_
            refine dw_okV (a := 0) rfl rfl (show (SH1 0).1 = 11 by decide +kernel) rfl (by decide) rfl rfl ?_
            refine dw_enter rfl ?_
            refine rB_X11_start (fun B hB => ?_)
            refine hB _ _ _ _ _ _ ?_
            refine dw_okV (a := 3) rfl rfl (show (SH1 3).1 = 8 by decide +kernel) rfl (by decide) rfl rfl ?_
            refine dw_enter rfl ?_
            refine rB_X8_nightOf (fun B hB => ?_)
            refine rB_X11_start (fun B hB => ?_)
            refine (fun (_ : _ ∨ _) => ?_)
            refine rB_X11_runBehind (fun B hB => ?_)
            refine rB_X11_where (fun B hB => ?_)
            refine rB_law (fun B hB => ?_)
            refine hB _ _ _ _ _ _ ?_
            refine dw_okV (a := 404) (as := [.int (xs 1), .int (xs 2), .int (xs 3)]) rfl rfl (show (SH1 404).1 = 12 by decide +kernel) rfl (by decide) rfl rfl ?_
            rw [hs]
            refine dw_enter rfl ?_
            refine rB_X12_where (fun B hB => ?_)
            refine hB _ _ _ _ _ _ ?_
            refine dw_okV (a := 404) rfl rfl (show (SH1 404).1 = 12 by decide +kernel) rfl (by decide) rfl rfl ?_
            refine dw_enter rfl ?_
            refine rB_X12_isNight (fun B hB => ?_)
            refine hB _ _ _ _ _ _ ?_
            refine dw_okS rfl rfl rfl (by decide) rfl rfl ?_
            refine dw_enter rfl ?_
            refine rB_X12_isIn (fun B hB => ?_)
            refine rB_X12_isNight (fun B hB => ?_)
            refine rB_X12_where (fun B hB => ?_)
            refine rB_law (fun B hB => ?_)
            refine hB _ _ _ _ _ _ ?_
            exact law_z
  · refine rB_law (fun B hB => ?_)
    refine hB _ _ _ _ _ _ ?_
    refine dw_okV (a := 0) (as := [.int (xs 1), .int (xs 2), .int (xs 3)]) rfl rfl (show (SH1 0).1 = 11 by decide +kernel) rfl (by decide) rfl rfl ?_
    rw [hs]
    refine dw_enter rfl ?_
    refine rB_X11_where (fun B hB => ?_)
    refine dw_ite (fun h9 => ?_) (fun h9 => ?_)
    · refine rB_law (fun B hB => ?_)
      refine hB _ _ _ _ _ _ ?_
      refine dw_okV (a := 404) (as := [.int (xs 1), .int (xs 2), .int (xs 3)]) rfl rfl (show (SH1 404).1 = 12 by decide +kernel) rfl (by decide) rfl rfl ?_
      rw [hs]
      refine dw_enter rfl ?_
      refine rB_X12_where (fun B hB => ?_)
      refine hB _ _ _ _ _ _ ?_
      refine dw_okV (a := 404) rfl rfl (show (SH1 404).1 = 12 by decide +kernel) rfl (by decide) rfl rfl ?_
      refine dw_enter rfl ?_
      refine rB_X12_isNight (fun B hB => ?_)
      refine hB _ _ _ _ _ _ ?_
      refine dw_okS rfl rfl rfl (by decide) rfl rfl ?_
      refine dw_enter rfl ?_
      refine rB_X12_isIn (fun B hB => ?_)
      refine rB_X12_isNight (fun B hB => ?_)
      refine rB_X12_where (fun B hB => ?_)
      refine rB_law (fun B hB => ?_)
      refine hB _ _ _ _ _ _ ?_
      exact law_z
    · refine dw_ite (fun h10 => ?_) (fun h10 => ?_)
      · refine rB_law (fun B hB => ?_)
        refine hB _ _ _ _ _ _ ?_
        refine dw_okV (a := 404) (as := [.int (xs 1), .int (xs 2), .int (xs 3)]) rfl rfl (show (SH1 404).1 = 12 by decide +kernel) rfl (by decide) rfl rfl ?_
        rw [hs]
        refine dw_enter rfl ?_
        refine rB_X12_where (fun B hB => ?_)
        refine hB _ _ _ _ _ _ ?_
        refine dw_okV (a := 404) rfl rfl (show (SH1 404).1 = 12 by decide +kernel) rfl (by decide) rfl rfl ?_
        refine dw_enter rfl ?_
        refine rB_X12_isNight (fun B hB => ?_)
        refine hB _ _ _ _ _ _ ?_
        refine dw_okS rfl rfl rfl (by decide) rfl rfl ?_
        refine dw_enter rfl ?_
        refine rB_X12_isIn (fun B hB => ?_)
        refine rB_X12_isNight (fun B hB => ?_)
        refine rB_X12_where (fun B hB => ?_)
        refine rB_law (fun B hB => ?_)
        refine hB _ _ _ _ _ _ ?_
        exact law_z
      · refine hB _ _ _ _ _ _ ?_
        refine dw_okV (a := 0) rfl rfl (show (SH1 0).1 = 11 by decide +kernel) rfl (by decide) rfl rfl ?_
        refine dw_enter rfl ?_
        refine rB_X11_runBehind (fun B hB => ?_)
        refine hB _ _ _ _ _ _ ?_
        refine dw_okS rfl rfl rfl (by decide) rfl rfl ?_
        refine dw_enter rfl ?_
        refine rB_X11_isStep (fun B hB => ?_)
        refine dw_ite (fun h11 => ?_) (fun h11 => ?_)
        · refine rB_X11_runBehind (fun B hB => ?_)
          refine rB_X11_where (fun B hB => ?_)
          refine rB_law (fun B hB => ?_)
          refine hB _ _ _ _ _ _ ?_
          refine dw_okV (a := 404) (as := [.int (xs 1), .int (xs 2), .int (xs 3)]) rfl rfl (show (SH1 404).1 = 12 by decide +kernel) rfl (by decide) rfl rfl ?_
          rw [hs]
          refine dw_enter rfl ?_
          refine rB_X12_where (fun B hB => ?_)
          refine hB _ _ _ _ _ _ ?_
          refine dw_okV (a := 404) rfl rfl (show (SH1 404).1 = 12 by decide +kernel) rfl (by decide) rfl rfl ?_
          refine dw_enter rfl ?_
          refine rB_X12_isNight (fun B hB => ?_)
          refine hB _ _ _ _ _ _ ?_
          refine dw_okS rfl rfl rfl (by decide) rfl rfl ?_
          refine dw_enter rfl ?_
          refine rB_X12_isIn (fun B hB => ?_)
          refine rB_X12_isNight (fun B hB => ?_)
          refine rB_X12_where (fun B hB => ?_)
          refine rB_law (fun B hB => ?_)
          refine hB _ _ _ _ _ _ ?_
          exact law_z
        · refine dw_ite (fun h12 => ?_) (fun h12 => ?_)
          · refine rB_X11_runBehind (fun B hB => ?_)
            refine rB_X11_where (fun B hB => ?_)
            refine rB_law (fun B hB => ?_)
            refine hB _ _ _ _ _ _ ?_
            refine dw_okV (a := 404) (as := [.int (xs 1), .int (xs 2), .int (xs 3)]) rfl rfl (show (SH1 404).1 = 12 by decide +kernel) rfl (by decide) rfl rfl ?_
            rw [hs]
            refine dw_enter rfl ?_
            refine rB_X12_where (fun B hB => ?_)
            refine hB _ _ _ _ _ _ ?_
            refine dw_okV (a := 404) rfl rfl (show (SH1 404).1 = 12 by decide +kernel) rfl (by decide) rfl rfl ?_
            refine dw_enter rfl ?_
            refine rB_X12_isNight (fun B hB => ?_)
            refine hB _ _ _ _ _ _ ?_
            refine dw_okS rfl rfl rfl (by decide) rfl rfl ?_
            refine dw_enter rfl ?_
            refine rB_X12_isIn (fun B hB => ?_)
            refine rB_X12_isNight (fun B hB => ?_)
            refine rB_X12_where (fun B hB => ?_)
            refine rB_law (fun B hB => ?_)
            refine hB _ _ _ _ _ _ ?_
            exact law_z
          · refine rB_X11_runBehind (fun B hB => ?_)
            refine hB _ _ _ _ _ _ ?_
            refine dw_okV (a := 0) rfl rfl (show (SH1 0).1 = 11 by decide +kernel) rfl (by decide) rfl rfl ?_
            refine dw_enter rfl ?_
            refine rB_X11_start (fun B hB => ?_)
            refine hB _ _ _ _ _ _ ?_
            refine dw_okV (a := 3) rfl rfl (show (SH1 3).1 = 8 by decide +kernel) rfl (by decide) rfl rfl ?_
            refine dw_enter rfl ?_
            refine rB_X8_nightOf (fun B hB => ?_)
            refine rB_X11_start (fun B hB => ?_)
            refine (fun (_ : _ ∨ _) => ?_)
            refine rB_X11_runBehind (fun B hB => ?_)
            refine rB_X11_where (fun B hB => ?_)
            refine rB_law (fun B hB => ?_)
            refine hB _ _ _ _ _ _ ?_
            refine dw_okV (a := 404) (as := [.int (xs 1), .int (xs 2), .int (xs 3)]) rfl rfl (show (SH1 404).1 = 12 by decide +kernel) rfl (by decide) rfl rfl ?_
            rw [hs]
            refine dw_enter rfl ?_
            refine rB_X12_where (fun B hB => ?_)
            refine hB _ _ _ _ _ _ ?_
            refine dw_okV (a := 404) rfl rfl (show (SH1 404).1 = 12 by decide +kernel) rfl (by decide) rfl rfl ?_
            refine dw_enter rfl ?_
            refine rB_X12_isNight (fun B hB => ?_)
            refine hB _ _ _ _ _ _ ?_
            refine dw_okS rfl rfl rfl (by decide) rfl rfl ?_
            refine dw_enter rfl ?_
            refine rB_X12_isIn (fun B hB => ?_)
            refine rB_X12_isNight (fun B hB => ?_)
            refine rB_X12_where (fun B hB => ?_)
            refine rB_law (fun B hB => ?_)
            refine hB _ _ _ _ _ _ ?_
            exact law_z
  · refine rB_law (fun B hB => ?_)
    refine hB _ _ _ _ _ _ ?_
    refine dw_okV (a := 0) (as := [.int (xs 1), .int (xs 2), .int (xs 3)]) rfl rfl (show (SH1 0).1 = 11 by decide +kernel) rfl (by decide) rfl rfl ?_
    rw [hs]
    refine dw_enter rfl ?_
    refine rB_X11_where (fun B hB => ?_)
    refine dw_ite (fun h13 => ?_) (fun h13 => ?_)
    · refine rB_law (fun B hB => ?_)
      refine hB _ _ _ _ _ _ ?_
      refine dw_okV (a := 404) (as := [.int (xs 1), .int (xs 2), .int (xs 3)]) rfl rfl (show (SH1 404).1 = 12 by decide +kernel) rfl (by decide) rfl rfl ?_
      rw [hs]
      refine dw_enter rfl ?_
      refine rB_X12_where (fun B hB => ?_)
      refine hB _ _ _ _ _ _ ?_
      refine dw_okV (a := 404) rfl rfl (show (SH1 404).1 = 12 by decide +kernel) rfl (by decide) rfl rfl ?_
      refine dw_enter rfl ?_
      refine rB_X12_isNight (fun B hB => ?_)
      refine hB _ _ _ _ _ _ ?_
      refine dw_okS rfl rfl rfl (by decide) rfl rfl ?_
      refine dw_enter rfl ?_
      refine rB_X12_isIn (fun B hB => ?_)
      refine rB_X12_isNight (fun B hB => ?_)
      refine rB_X12_where (fun B hB => ?_)
      refine rB_law (fun B hB => ?_)
      refine hB _ _ _ _ _ _ ?_
      exact law_z
    · refine dw_ite (fun h14 => ?_) (fun h14 => ?_)
      · refine rB_law (fun B hB => ?_)
        refine hB _ _ _ _ _ _ ?_
        refine dw_okV (a := 404) (as := [.int (xs 1), .int (xs 2), .int (xs 3)]) rfl rfl (show (SH1 404).1 = 12 by decide +kernel) rfl (by decide) rfl rfl ?_
        rw [hs]
        refine dw_enter rfl ?_
        refine rB_X12_where (fun B hB => ?_)
        refine hB _ _ _ _ _ _ ?_
        refine dw_okV (a := 404) rfl rfl (show (SH1 404).1 = 12 by decide +kernel) rfl (by decide) rfl rfl ?_
        refine dw_enter rfl ?_
        refine rB_X12_isNight (fun B hB => ?_)
        refine hB _ _ _ _ _ _ ?_
        refine dw_okS rfl rfl rfl (by decide) rfl rfl ?_
        refine dw_enter rfl ?_
        refine rB_X12_isIn (fun B hB => ?_)
        refine rB_X12_isNight (fun B hB => ?_)
        refine rB_X12_where (fun B hB => ?_)
        refine rB_law (fun B hB => ?_)
        refine hB _ _ _ _ _ _ ?_
        exact law_z
      · refine hB _ _ _ _ _ _ ?_
        refine dw_okV (a := 0) rfl rfl (show (SH1 0).1 = 11 by decide +kernel) rfl (by decide) rfl rfl ?_
        refine dw_enter rfl ?_
        refine rB_X11_runBehind (fun B hB => ?_)
        refine hB _ _ _ _ _ _ ?_
        refine dw_okS rfl rfl rfl (by decide) rfl rfl ?_
        refine dw_enter rfl ?_
        refine rB_X11_isStep (fun B hB => ?_)
        refine dw_ite (fun h15 => ?_) (fun h15 => ?_)
        · refine rB_X11_runBehind (fun B hB => ?_)
          refine rB_X11_where (fun B hB => ?_)
          refine rB_law (fun B hB => ?_)
          refine hB _ _ _ _ _ _ ?_
          refine dw_okV (a := 404) (as := [.int (xs 1), .int (xs 2), .int (xs 3)]) rfl rfl (show (SH1 404).1 = 12 by decide +kernel) rfl (by decide) rfl rfl ?_
          rw [hs]
          refine dw_enter rfl ?_
          refine rB_X12_where (fun B hB => ?_)
          refine hB _ _ _ _ _ _ ?_
          refine dw_okV (a := 404) rfl rfl (show (SH1 404).1 = 12 by decide +kernel) rfl (by decide) rfl rfl ?_
          refine dw_enter rfl ?_
          refine rB_X12_isNight (fun B hB => ?_)
          refine hB _ _ _ _ _ _ ?_
          refine dw_okS rfl rfl rfl (by decide) rfl rfl ?_
          refine dw_enter rfl ?_
          refine rB_X12_isIn (fun B hB => ?_)
          refine rB_X12_isNight (fun B hB => ?_)
          refine rB_X12_where (fun B hB => ?_)
          refine rB_law (fun B hB => ?_)
          refine hB _ _ _ _ _ _ ?_
          exact law_z
        · refine dw_ite (fun h16 => ?_) (fun h16 => ?_)
          · refine rB_X11_runBehind (fun B hB => ?_)
            refine rB_X11_where (fun B hB => ?_)
            refine rB_law (fun B hB => ?_)
            refine hB _ _ _ _ _ _ ?_
            refine dw_okV (a := 404) (as := [.int (xs 1), .int (xs 2), .int (xs 3)]) rfl rfl (show (SH1 404).1 = 12 by decide +kernel) rfl (by decide) rfl rfl ?_
            rw [hs]
            refine dw_enter rfl ?_
            refine rB_X12_where (fun B hB => ?_)
            refine hB _ _ _ _ _ _ ?_
            refine dw_okV (a := 404) rfl rfl (show (SH1 404).1 = 12 by decide +kernel) rfl (by decide) rfl rfl ?_
            refine dw_enter rfl ?_
            refine rB_X12_isNight (fun B hB => ?_)
            refine hB _ _ _ _ _ _ ?_
            refine dw_okS rfl rfl rfl (by decide) rfl rfl ?_
            refine dw_enter rfl ?_
            refine rB_X12_isIn (fun B hB => ?_)
            refine rB_X12_isNight (fun B hB => ?_)
            refine rB_X12_where (fun B hB => ?_)
            refine rB_law (fun B hB => ?_)
            refine hB _ _ _ _ _ _ ?_
            exact law_z
          · refine rB_X11_runBehind (fun B hB => ?_)
            refine hB _ _ _ _ _ _ ?_
            refine dw_okV (a := 0) rfl rfl (show (SH1 0).1 = 11 by decide +kernel) rfl (by decide) rfl rfl ?_
            refine dw_enter rfl ?_
            refine rB_X11_start (fun B hB => ?_)
            refine hB _ _ _ _ _ _ ?_
            refine dw_okV (a := 3) rfl rfl (show (SH1 3).1 = 8 by decide +kernel) rfl (by decide) rfl rfl ?_
            refine dw_enter rfl ?_
            refine rB_X8_nightOf (fun B hB => ?_)
            refine rB_X11_start (fun B hB => ?_)
            refine (fun (_ : _ ∨ _) => ?_)
            refine rB_X11_runBehind (fun B hB => ?_)
            refine rB_X11_where (fun B hB => ?_)
            refine rB_law (fun B hB => ?_)
            refine hB _ _ _ _ _ _ ?_
            refine dw_okV (a := 404) (as := [.int (xs 1), .int (xs 2), .int (xs 3)]) rfl rfl (show (SH1 404).1 = 12 by decide +kernel) rfl (by decide) rfl rfl ?_
            rw [hs]
            refine dw_enter rfl ?_
            refine rB_X12_where (fun B hB => ?_)
            refine hB _ _ _ _ _ _ ?_
            refine dw_okV (a := 404) rfl rfl (show (SH1 404).1 = 12 by decide +kernel) rfl (by decide) rfl rfl ?_
            refine dw_enter rfl ?_
            refine rB_X12_isNight (fun B hB => ?_)
            refine hB _ _ _ _ _ _ ?_
            refine dw_okS rfl rfl rfl (by decide) rfl rfl ?_
            refine dw_enter rfl ?_
            refine rB_X12_isIn (fun B hB => ?_)
            refine rB_X12_isNight (fun B hB => ?_)
            refine rB_X12_where (fun B hB => ?_)
            refine rB_law (fun B hB => ?_)
            refine hB _ _ _ _ _ _ ?_
            exact law_z
  · refine rB_law (fun B hB => ?_)
    refine hB _ _ _ _ _ _ ?_
    refine dw_okV (a := 0) (as := [.int (xs 1), .int (xs 2), .int (xs 3)]) rfl rfl (show (SH1 0).1 = 11 by decide +kernel) rfl (by decide) rfl rfl ?_
    rw [hs]
    refine dw_enter rfl ?_
    refine rB_X11_where (fun B hB => ?_)
    refine dw_ite (fun h17 => ?_) (fun h17 => ?_)
    · refine rB_law (fun B hB => ?_)
      refine hB _ _ _ _ _ _ ?_
      refine dw_okV (a := 404) (as := [.int (xs 1), .int (xs 2), .int (xs 3)]) rfl rfl (show (SH1 404).1 = 12 by decide +kernel) rfl (by decide) rfl rfl ?_
      rw [hs]
      refine dw_enter rfl ?_
      refine rB_X12_where (fun B hB => ?_)
      refine hB _ _ _ _ _ _ ?_
      refine dw_okV (a := 404) rfl rfl (show (SH1 404).1 = 12 by decide +kernel) rfl (by decide) rfl rfl ?_
      refine dw_enter rfl ?_
      refine rB_X12_isNight (fun B hB => ?_)
      refine hB _ _ _ _ _ _ ?_
      refine dw_okS rfl rfl rfl (by decide) rfl rfl ?_
      refine dw_enter rfl ?_
      refine rB_X12_isIn (fun B hB => ?_)
      refine rB_X12_isNight (fun B hB => ?_)
      refine rB_X12_where (fun B hB => ?_)
      refine rB_law (fun B hB => ?_)
      refine hB _ _ _ _ _ _ ?_
      exact law_z
    · refine dw_ite (fun h18 => ?_) (fun h18 => ?_)
      · refine rB_law (fun B hB => ?_)
        refine hB _ _ _ _ _ _ ?_
        refine dw_okV (a := 404) (as := [.int (xs 1), .int (xs 2), .int (xs 3)]) rfl rfl (show (SH1 404).1 = 12 by decide +kernel) rfl (by decide) rfl rfl ?_
        rw [hs]
        refine dw_enter rfl ?_
        refine rB_X12_where (fun B hB => ?_)
        refine hB _ _ _ _ _ _ ?_
        refine dw_okV (a := 404) rfl rfl (show (SH1 404).1 = 12 by decide +kernel) rfl (by decide) rfl rfl ?_
        refine dw_enter rfl ?_
        refine rB_X12_isNight (fun B hB => ?_)
        refine hB _ _ _ _ _ _ ?_
        refine dw_okS rfl rfl rfl (by decide) rfl rfl ?_
        refine dw_enter rfl ?_
        refine rB_X12_isIn (fun B hB => ?_)
        refine rB_X12_isNight (fun B hB => ?_)
        refine rB_X12_where (fun B hB => ?_)
        refine rB_law (fun B hB => ?_)
        refine hB _ _ _ _ _ _ ?_
        exact law_z
      · refine hB _ _ _ _ _ _ ?_
        refine dw_okV (a := 0) rfl rfl (show (SH1 0).1 = 11 by decide +kernel) rfl (by decide) rfl rfl ?_
        refine dw_enter rfl ?_
        refine rB_X11_runBehind (fun B hB => ?_)
        refine hB _ _ _ _ _ _ ?_
        refine dw_okS rfl rfl rfl (by decide) rfl rfl ?_
        refine dw_enter rfl ?_
        refine rB_X11_isStep (fun B hB => ?_)
        refine dw_ite (fun h19 => ?_) (fun h19 => ?_)
        · refine rB_X11_runBehind (fun B hB => ?_)
          refine rB_X11_where (fun B hB => ?_)
          refine rB_law (fun B hB => ?_)
          refine hB _ _ _ _ _ _ ?_
          refine dw_okV (a := 404) (as := [.int (xs 1), .int (xs 2), .int (xs 3)]) rfl rfl (show (SH1 404).1 = 12 by decide +kernel) rfl (by decide) rfl rfl ?_
          rw [hs]
          refine dw_enter rfl ?_
          refine rB_X12_where (fun B hB => ?_)
          refine hB _ _ _ _ _ _ ?_
          refine dw_okV (a := 404) rfl rfl (show (SH1 404).1 = 12 by decide +kernel) rfl (by decide) rfl rfl ?_
          refine dw_enter rfl ?_
          refine rB_X12_isNight (fun B hB => ?_)
          refine hB _ _ _ _ _ _ ?_
          refine dw_okS rfl rfl rfl (by decide) rfl rfl ?_
          refine dw_enter rfl ?_
          refine rB_X12_isIn (fun B hB => ?_)
          refine rB_X12_isNight (fun B hB => ?_)
          refine rB_X12_where (fun B hB => ?_)
          refine rB_law (fun B hB => ?_)
          refine hB _ _ _ _ _ _ ?_
          exact law_z
        · refine dw_ite (fun h20 => ?_) (fun h20 => ?_)
          · refine rB_X11_runBehind (fun B hB => ?_)
            refine rB_X11_where (fun B hB => ?_)
            refine rB_law (fun B hB => ?_)
            refine hB _ _ _ _ _ _ ?_
            refine dw_okV (a := 404) (as := [.int (xs 1), .int (xs 2), .int (xs 3)]) rfl rfl (show (SH1 404).1 = 12 by decide +kernel) rfl (by decide) rfl rfl ?_
            rw [hs]
            refine dw_enter rfl ?_
            refine rB_X12_where (fun B hB => ?_)
            refine hB _ _ _ _ _ _ ?_
            refine dw_okV (a := 404) rfl rfl (show (SH1 404).1 = 12 by decide +kernel) rfl (by decide) rfl rfl ?_
            refine dw_enter rfl ?_
            refine rB_X12_isNight (fun B hB => ?_)
            refine hB _ _ _ _ _ _ ?_
            refine dw_okS rfl rfl rfl (by decide) rfl rfl ?_
            refine dw_enter rfl ?_
            refine rB_X12_isIn (fun B hB => ?_)
            refine rB_X12_isNight (fun B hB => ?_)
            refine rB_X12_where (fun B hB => ?_)
            refine rB_law (fun B hB => ?_)
            refine hB _ _ _ _ _ _ ?_
            exact law_z
          · refine rB_X11_runBehind (fun B hB => ?_)
            refine hB _ _ _ _ _ _ ?_
            refine dw_okV (a := 0) rfl rfl (show (SH1 0).1 = 11 by decide +kernel) rfl (by decide) rfl rfl ?_
            refine dw_enter rfl ?_
            refine rB_X11_start (fun B hB => ?_)
            refine hB _ _ _ _ _ _ ?_
            refine dw_okV (a := 3) rfl rfl (show (SH1 3).1 = 8 by decide +kernel) rfl (by decide) rfl rfl ?_
            refine dw_enter rfl ?_
            refine rB_X8_nightOf (fun B hB => ?_)
            refine rB_X11_start (fun B hB => ?_)
            refine (fun (_ : _ ∨ _) => ?_)
            refine rB_X11_runBehind (fun B hB => ?_)
            refine rB_X11_where (fun B hB => ?_)
            refine rB_law (fun B hB => ?_)
            refine hB _ _ _ _ _ _ ?_
            refine dw_okV (a := 404) (as := [.int (xs 1), .int (xs 2), .int (xs 3)]) rfl rfl (show (SH1 404).1 = 12 by decide +kernel) rfl (by decide) rfl rfl ?_
            rw [hs]
            refine dw_enter rfl ?_
            refine rB_X12_where (fun B hB => ?_)
            refine hB _ _ _ _ _ _ ?_
            refine dw_okV (a := 404) rfl rfl (show (SH1 404).1 = 12 by decide +kernel) rfl (by decide) rfl rfl ?_
            refine dw_enter rfl ?_
            refine rB_X12_isNight (fun B hB => ?_)
            refine hB _ _ _ _ _ _ ?_
            refine dw_okS rfl rfl rfl (by decide) rfl rfl ?_
            refine dw_enter rfl ?_
            refine rB_X12_isIn (fun B hB => ?_)
            refine rB_X12_isNight (fun B hB => ?_)
            refine rB_X12_where (fun B hB => ?_)
            refine rB_law (fun B hB => ?_)
            refine hB _ _ _ _ _ _ ?_
            exact law_z
  · refine rB_law (fun B hB => ?_)
    refine hB _ _ _ _ _ _ ?_
    refine dw_okV (a := 0) (as := [.int (xs 1), .int (xs 2), .int (xs 3)]) rfl rfl (show (SH1 0).1 = 11 by decide +kernel) rfl (by decide) rfl rfl ?_
    rw [hs]
    refine dw_enter rfl ?_
    refine rB_X11_where (fun B hB => ?_)
    refine dw_ite (fun h21 => ?_) (fun h21 => ?_)
    · refine rB_law (fun B hB => ?_)
      refine hB _ _ _ _ _ _ ?_
      refine dw_okV (a := 404) (as := [.int (xs 1), .int (xs 2), .int (xs 3)]) rfl rfl (show (SH1 404).1 = 12 by decide +kernel) rfl (by decide) rfl rfl ?_
      rw [hs]
      refine dw_enter rfl ?_
      refine rB_X12_where (fun B hB => ?_)
      refine hB _ _ _ _ _ _ ?_
      refine dw_okV (a := 404) rfl rfl (show (SH1 404).1 = 12 by decide +kernel) rfl (by decide) rfl rfl ?_
      refine dw_enter rfl ?_
      refine rB_X12_isNight (fun B hB => ?_)
      refine hB _ _ _ _ _ _ ?_
      refine dw_okS rfl rfl rfl (by decide) rfl rfl ?_
      refine dw_enter rfl ?_
      refine rB_X12_isIn (fun B hB => ?_)
      refine rB_X12_isNight (fun B hB => ?_)
      refine rB_X12_where (fun B hB => ?_)
      refine rB_law (fun B hB => ?_)
      refine hB _ _ _ _ _ _ ?_
      exact law_z
    · refine dw_ite (fun h22 => ?_) (fun h22 => ?_)
      · refine rB_law (fun B hB => ?_)
        refine hB _ _ _ _ _ _ ?_
        refine dw_okV (a := 404) (as := [.int (xs 1), .int (xs 2), .int (xs 3)]) rfl rfl (show (SH1 404).1 = 12 by decide +kernel) rfl (by decide) rfl rfl ?_
        rw [hs]
        refine dw_enter rfl ?_
        refine rB_X12_where (fun B hB => ?_)
        refine hB _ _ _ _ _ _ ?_
        refine dw_okV (a := 404) rfl rfl (show (SH1 404).1 = 12 by decide +kernel) rfl (by decide) rfl rfl ?_
        refine dw_enter rfl ?_
        refine rB_X12_isNight (fun B hB => ?_)
        refine hB _ _ _ _ _ _ ?_
        refine dw_okS rfl rfl rfl (by decide) rfl rfl ?_
        refine dw_enter rfl ?_
        refine rB_X12_isIn (fun B hB => ?_)
        refine rB_X12_isNight (fun B hB => ?_)
        refine rB_X12_where (fun B hB => ?_)
        refine rB_law (fun B hB => ?_)
        refine hB _ _ _ _ _ _ ?_
        exact law_z
      · refine hB _ _ _ _ _ _ ?_
        refine dw_okV (a := 0) rfl rfl (show (SH1 0).1 = 11 by decide +kernel) rfl (by decide) rfl rfl ?_
        refine dw_enter rfl ?_
        refine rB_X11_runBehind (fun B hB => ?_)
        refine hB _ _ _ _ _ _ ?_
        refine dw_okS rfl rfl rfl (by decide) rfl rfl ?_
        refine dw_enter rfl ?_
        refine rB_X11_isStep (fun B hB => ?_)
        refine dw_ite (fun h23 => ?_) (fun h23 => ?_)
        · refine rB_X11_runBehind (fun B hB => ?_)
          refine rB_X11_where (fun B hB => ?_)
          refine rB_law (fun B hB => ?_)
          refine hB _ _ _ _ _ _ ?_
          refine dw_okV (a := 404) (as := [.int (xs 1), .int (xs 2), .int (xs 3)]) rfl rfl (show (SH1 404).1 = 12 by decide +kernel) rfl (by decide) rfl rfl ?_
          rw [hs]
          refine dw_enter rfl ?_
          refine rB_X12_where (fun B hB => ?_)
          refine hB _ _ _ _ _ _ ?_
          refine dw_okV (a := 404) rfl rfl (show (SH1 404).1 = 12 by decide +kernel) rfl (by decide) rfl rfl ?_
          refine dw_enter rfl ?_
          refine rB_X12_isNight (fun B hB => ?_)
          refine hB _ _ _ _ _ _ ?_
          refine dw_okS rfl rfl rfl (by decide) rfl rfl ?_
          refine dw_enter rfl ?_
          refine rB_X12_isIn (fun B hB => ?_)
          refine rB_X12_isNight (fun B hB => ?_)
          refine rB_X12_where (fun B hB => ?_)
          refine rB_law (fun B hB => ?_)
          refine hB _ _ _ _ _ _ ?_
          exact law_z
        · refine dw_ite (fun h24 => ?_) (fun h24 => ?_)
          · refine rB_X11_runBehind (fun B hB => ?_)
            refine rB_X11_where (fun B hB => ?_)
            refine rB_law (fun B hB => ?_)
            refine hB _ _ _ _ _ _ ?_
            refine dw_okV (a := 404) (as := [.int (xs 1), .int (xs 2), .int (xs 3)]) rfl rfl (show (SH1 404).1 = 12 by decide +kernel) rfl (by decide) rfl rfl ?_
            rw [hs]
            refine dw_enter rfl ?_
            refine rB_X12_where (fun B hB => ?_)
            refine hB _ _ _ _ _ _ ?_
            refine dw_okV (a := 404) rfl rfl (show (SH1 404).1 = 12 by decide +kernel) rfl (by decide) rfl rfl ?_
            refine dw_enter rfl ?_
            refine rB_X12_isNight (fun B hB => ?_)
            refine hB _ _ _ _ _ _ ?_
            refine dw_okS rfl rfl rfl (by decide) rfl rfl ?_
            refine dw_enter rfl ?_
            refine rB_X12_isIn (fun B hB => ?_)
            refine rB_X12_isNight (fun B hB => ?_)
            refine rB_X12_where (fun B hB => ?_)
            refine rB_law (fun B hB => ?_)
            refine hB _ _ _ _ _ _ ?_
            exact law_z
          · refine rB_X11_runBehind (fun B hB => ?_)
            refine hB _ _ _ _ _ _ ?_
            refine dw_okV (a := 0) rfl rfl (show (SH1 0).1 = 11 by decide +kernel) rfl (by decide) rfl rfl ?_
            refine dw_enter rfl ?_
            refine rB_X11_start (fun B hB => ?_)
            refine hB _ _ _ _ _ _ ?_
            refine dw_okV (a := 3) rfl rfl (show (SH1 3).1 = 8 by decide +kernel) rfl (by decide) rfl rfl ?_
            refine dw_enter rfl ?_
            refine rB_X8_nightOf (fun B hB => ?_)
            refine rB_X11_start (fun B hB => ?_)
            refine (fun (_ : _ ∨ _) => ?_)
            refine rB_X11_runBehind (fun B hB => ?_)
            refine rB_X11_where (fun B hB => ?_)
            refine rB_law (fun B hB => ?_)
            refine hB _ _ _ _ _ _ ?_
            refine dw_okV (a := 404) (as := [.int (xs 1), .int (xs 2), .int (xs 3)]) rfl rfl (show (SH1 404).1 = 12 by decide +kernel) rfl (by decide) rfl rfl ?_
            rw [hs]
            refine dw_enter rfl ?_
            refine rB_X12_where (fun B hB => ?_)
            refine hB _ _ _ _ _ _ ?_
            refine dw_okV (a := 404) rfl rfl (show (SH1 404).1 = 12 by decide +kernel) rfl (by decide) rfl rfl ?_
            refine dw_enter rfl ?_
            refine rB_X12_isNight (fun B hB => ?_)
            refine hB _ _ _ _ _ _ ?_
            refine dw_okS rfl rfl rfl (by decide) rfl rfl ?_
            refine dw_enter rfl ?_
            refine rB_X12_isIn (fun B hB => ?_)
            refine rB_X12_isNight (fun B hB => ?_)
            refine rB_X12_where (fun B hB => ?_)
            refine rB_law (fun B hB => ?_)
            refine hB _ _ _ _ _ _ ?_
            exact law_z
  · refine rB_law (fun B hB => ?_)
    refine hB _ _ _ _ _ _ ?_
    refine dw_okV (a := 0) (as := [.int (xs 1), .int (xs 2), .int (xs 3)]) rfl rfl (show (SH1 0).1 = 11 by decide +kernel) rfl (by decide) rfl rfl ?_
    refine dw_enter rfl ?_
    refine rB_X11_where (fun B hB => ?_)
    refine dw_ite (fun h25 => ?_) (fun h25 => ?_)
    · refine rB_law (fun B hB => ?_)
      refine hB _ _ _ _ _ _ ?_
      refine dw_okV (a := 404) (as := [.int (xs 1), .int (xs 2), .int (xs 3)]) rfl rfl (show (SH1 404).1 = 12 by decide +kernel) rfl (by decide) rfl rfl ?_
      refine dw_enter rfl ?_
      refine rB_X12_where (fun B hB => ?_)
      refine hB _ _ _ _ _ _ ?_
      refine dw_okV (a := 404) rfl rfl (show (SH1 404).1 = 12 by decide +kernel) rfl (by decide) rfl rfl ?_
      refine dw_enter rfl ?_
      refine rB_X12_isNight (fun B hB => ?_)
      refine hB _ _ _ _ _ _ ?_
      refine dw_okS rfl rfl rfl (by decide) rfl rfl ?_
      refine dw_enter rfl ?_
      refine rB_X12_isIn (fun B hB => ?_)
      refine dw_itp n0 ?_
      refine rB_X12_isNight (fun B hB => ?_)
      refine rB_X12_where (fun B hB => ?_)
      refine rB_law (fun B hB => ?_)
      refine hB _ _ _ _ _ _ ?_
      exact law_z
    · refine dw_ite (fun h26 => ?_) (fun h26 => ?_)
      · refine rB_law (fun B hB => ?_)
        refine hB _ _ _ _ _ _ ?_
        refine dw_okV (a := 404) (as := [.int (xs 1), .int (xs 2), .int (xs 3)]) rfl rfl (show (SH1 404).1 = 12 by decide +kernel) rfl (by decide) rfl rfl ?_
        refine dw_enter rfl ?_
        refine rB_X12_where (fun B hB => ?_)
        refine hB _ _ _ _ _ _ ?_
        refine dw_okV (a := 404) rfl rfl (show (SH1 404).1 = 12 by decide +kernel) rfl (by decide) rfl rfl ?_
        refine dw_enter rfl ?_
        refine rB_X12_isNight (fun B hB => ?_)
        refine hB _ _ _ _ _ _ ?_
        refine dw_okS rfl rfl rfl (by decide) rfl rfl ?_
        refine dw_enter rfl ?_
        refine rB_X12_isIn (fun B hB => ?_)
        refine dw_itp n0 ?_
        refine rB_X12_isNight (fun B hB => ?_)
        refine rB_X12_where (fun B hB => ?_)
        refine rB_law (fun B hB => ?_)
        refine hB _ _ _ _ _ _ ?_
        exact law_z
      · refine hB _ _ _ _ _ _ ?_
        refine dw_okV (a := 0) rfl rfl (show (SH1 0).1 = 11 by decide +kernel) rfl (by decide) rfl rfl ?_
        refine dw_enter rfl ?_
        refine rB_X11_runBehind (fun B hB => ?_)
        refine hB _ _ _ _ _ _ ?_
        refine dw_okS rfl rfl rfl (by decide) rfl rfl ?_
        refine dw_enter rfl ?_
        refine rB_X11_isStep (fun B hB => ?_)
        refine dw_ite (fun h27 => ?_) (fun h27 => ?_)
        · refine rB_X11_runBehind (fun B hB => ?_)
          refine rB_X11_where (fun B hB => ?_)
          refine rB_law (fun B hB => ?_)
          refine hB _ _ _ _ _ _ ?_
          refine dw_okV (a := 404) (as := [.int (xs 1), .int (xs 2), .int (xs 3)]) rfl rfl (show (SH1 404).1 = 12 by decide +kernel) rfl (by decide) rfl rfl ?_
          refine dw_enter rfl ?_
          refine rB_X12_where (fun B hB => ?_)
          refine hB _ _ _ _ _ _ ?_
          refine dw_okV (a := 404) rfl rfl (show (SH1 404).1 = 12 by decide +kernel) rfl (by decide) rfl rfl ?_
          refine dw_enter rfl ?_
          refine rB_X12_isNight (fun B hB => ?_)
          refine hB _ _ _ _ _ _ ?_
          refine dw_okS rfl rfl rfl (by decide) rfl rfl ?_
          refine dw_enter rfl ?_
          refine rB_X12_isIn (fun B hB => ?_)
          refine dw_itp n0 ?_
          refine rB_X12_isNight (fun B hB => ?_)
          refine rB_X12_where (fun B hB => ?_)
          refine rB_law (fun B hB => ?_)
          refine hB _ _ _ _ _ _ ?_
          exact law_z
        · refine dw_ite (fun h28 => ?_) (fun h28 => ?_)
          · refine rB_X11_runBehind (fun B hB => ?_)
            refine rB_X11_where (fun B hB => ?_)
            refine rB_law (fun B hB => ?_)
            refine hB _ _ _ _ _ _ ?_
            refine dw_okV (a := 404) (as := [.int (xs 1), .int (xs 2), .int (xs 3)]) rfl rfl (show (SH1 404).1 = 12 by decide +kernel) rfl (by decide) rfl rfl ?_
            refine dw_enter rfl ?_
            refine rB_X12_where (fun B hB => ?_)
            refine hB _ _ _ _ _ _ ?_
            refine dw_okV (a := 404) rfl rfl (show (SH1 404).1 = 12 by decide +kernel) rfl (by decide) rfl rfl ?_
            refine dw_enter rfl ?_
            refine rB_X12_isNight (fun B hB => ?_)
            refine hB _ _ _ _ _ _ ?_
            refine dw_okS rfl rfl rfl (by decide) rfl rfl ?_
            refine dw_enter rfl ?_
            refine rB_X12_isIn (fun B hB => ?_)
            refine dw_itp n0 ?_
            refine rB_X12_isNight (fun B hB => ?_)
            refine rB_X12_where (fun B hB => ?_)
            refine rB_law (fun B hB => ?_)
            refine hB _ _ _ _ _ _ ?_
            exact law_z
          · refine rB_X11_runBehind (fun B hB => ?_)
            refine hB _ _ _ _ _ _ ?_
            refine dw_okV (a := 0) rfl rfl (show (SH1 0).1 = 11 by decide +kernel) rfl (by decide) rfl rfl ?_
            refine dw_enter rfl ?_
            refine rB_X11_start (fun B hB => ?_)
            refine hB _ _ _ _ _ _ ?_
            refine dw_okV (a := 3) rfl rfl (show (SH1 3).1 = 8 by decide +kernel) rfl (by decide) rfl rfl ?_
            refine dw_enter rfl ?_
            refine rB_X8_nightOf (fun B hB => ?_)
            refine dw_itp n0 ?_
            refine rB_X11_start (fun B hB => ?_)
            refine rB_X11_runBehind (fun B hB => ?_)
            refine rB_X11_where (fun B hB => ?_)
            refine rB_law (fun B hB => ?_)
            refine hB _ _ _ _ _ _ ?_
            refine dw_okV (a := 404) (as := [.int (xs 1), .int (xs 2), .int (xs 3)]) rfl rfl (show (SH1 404).1 = 12 by decide +kernel) rfl (by decide) rfl rfl ?_
            refine dw_enter rfl ?_
            refine rB_X12_where (fun B hB => ?_)
            refine hB _ _ _ _ _ _ ?_
            refine dw_okV (a := 404) rfl rfl (show (SH1 404).1 = 12 by decide +kernel) rfl (by decide) rfl rfl ?_
            refine dw_enter rfl ?_
            refine rB_X12_isNight (fun B hB => ?_)
            refine hB _ _ _ _ _ _ ?_
            refine dw_okS rfl rfl rfl (by decide) rfl rfl ?_
            refine dw_enter rfl ?_
            refine rB_X12_isIn (fun B hB => ?_)
            refine dw_itp n0 ?_
            refine rB_X12_isNight (fun B hB => ?_)
            refine rB_X12_where (fun B hB => ?_)
            refine rB_law (fun B hB => ?_)
            refine hB _ _ _ _ _ _ ?_
            exact law_z
  · refine rB_law (fun B hB => ?_)
    refine hB _ _ _ _ _ _ ?_
    refine dw_okV (a := 0) (as := [.int (xs 1), .int (xs 2), .int (xs 3)]) rfl rfl (show (SH1 0).1 = 11 by decide +kernel) rfl (by decide) rfl rfl ?_
    refine dw_enter rfl ?_
    refine rB_X11_where (fun B hB => ?_)
    refine dw_ite (fun h29 => ?_) (fun h29 => ?_)
    · refine rB_law (fun B hB => ?_)
      refine hB _ _ _ _ _ _ ?_
      refine dw_okV (a := 404) (as := [.int (xs 1), .int (xs 2), .int (xs 3)]) rfl rfl (show (SH1 404).1 = 12 by decide +kernel) rfl (by decide) rfl rfl ?_
      refine dw_enter rfl ?_
      refine rB_X12_where (fun B hB => ?_)
      refine hB _ _ _ _ _ _ ?_
      refine dw_okV (a := 404) rfl rfl (show (SH1 404).1 = 12 by decide +kernel) rfl (by decide) rfl rfl ?_
      refine dw_enter rfl ?_
      refine rB_X12_isNight (fun B hB => ?_)
      refine hB _ _ _ _ _ _ ?_
      refine dw_okS rfl rfl rfl (by decide) rfl rfl ?_
      refine dw_enter rfl ?_
      refine rB_X12_isIn (fun B hB => ?_)
      refine dw_itn n1 ?_
      refine dw_itp n2 ?_
      refine rB_X12_isNight (fun B hB => ?_)
      refine rB_X12_where (fun B hB => ?_)
      refine rB_law (fun B hB => ?_)
      refine hB _ _ _ _ _ _ ?_
      exact law_z
    · refine dw_ite (fun h30 => ?_) (fun h30 => ?_)
      · refine rB_law (fun B hB => ?_)
        refine hB _ _ _ _ _ _ ?_
        refine dw_okV (a := 404) (as := [.int (xs 1), .int (xs 2), .int (xs 3)]) rfl rfl (show (SH1 404).1 = 12 by decide +kernel) rfl (by decide) rfl rfl ?_
        refine dw_enter rfl ?_
        refine rB_X12_where (fun B hB => ?_)
        refine hB _ _ _ _ _ _ ?_
        refine dw_okV (a := 404) rfl rfl (show (SH1 404).1 = 12 by decide +kernel) rfl (by decide) rfl rfl ?_
        refine dw_enter rfl ?_
        refine rB_X12_isNight (fun B hB => ?_)
        refine hB _ _ _ _ _ _ ?_
        refine dw_okS rfl rfl rfl (by decide) rfl rfl ?_
        refine dw_enter rfl ?_
        refine rB_X12_isIn (fun B hB => ?_)
        refine dw_itn n1 ?_
        refine dw_itp n2 ?_
        refine rB_X12_isNight (fun B hB => ?_)
        refine rB_X12_where (fun B hB => ?_)
        refine rB_law (fun B hB => ?_)
        refine hB _ _ _ _ _ _ ?_
        exact law_z
      · refine hB _ _ _ _ _ _ ?_
        refine dw_okV (a := 0) rfl rfl (show (SH1 0).1 = 11 by decide +kernel) rfl (by decide) rfl rfl ?_
        refine dw_enter rfl ?_
        refine rB_X11_runBehind (fun B hB => ?_)
        refine hB _ _ _ _ _ _ ?_
        refine dw_okS rfl rfl rfl (by decide) rfl rfl ?_
        refine dw_enter rfl ?_
        refine rB_X11_isStep (fun B hB => ?_)
        refine dw_ite (fun h31 => ?_) (fun h31 => ?_)
        · refine rB_X11_runBehind (fun B hB => ?_)
          refine rB_X11_where (fun B hB => ?_)
          refine rB_law (fun B hB => ?_)
          refine hB _ _ _ _ _ _ ?_
          refine dw_okV (a := 404) (as := [.int (xs 1), .int (xs 2), .int (xs 3)]) rfl rfl (show (SH1 404).1 = 12 by decide +kernel) rfl (by decide) rfl rfl ?_
          refine dw_enter rfl ?_
          refine rB_X12_where (fun B hB => ?_)
          refine hB _ _ _ _ _ _ ?_
          refine dw_okV (a := 404) rfl rfl (show (SH1 404).1 = 12 by decide +kernel) rfl (by decide) rfl rfl ?_
          refine dw_enter rfl ?_
          refine rB_X12_isNight (fun B hB => ?_)
          refine hB _ _ _ _ _ _ ?_
          refine dw_okS rfl rfl rfl (by decide) rfl rfl ?_
          refine dw_enter rfl ?_
          refine rB_X12_isIn (fun B hB => ?_)
          refine dw_itn n1 ?_
          refine dw_itp n2 ?_
          refine rB_X12_isNight (fun B hB => ?_)
          refine rB_X12_where (fun B hB => ?_)
          refine rB_law (fun B hB => ?_)
          refine hB _ _ _ _ _ _ ?_
          exact law_z
        · refine dw_ite (fun h32 => ?_) (fun h32 => ?_)
          · refine rB_X11_runBehind (fun B hB => ?_)
            refine rB_X11_where (fun B hB => ?_)
            refine rB_law (fun B hB => ?_)
            refine hB _ _ _ _ _ _ ?_
            refine dw_okV (a := 404) (as := [.int (xs 1), .int (xs 2), .int (xs 3)]) rfl rfl (show (SH1 404).1 = 12 by decide +kernel) rfl (by decide) rfl rfl ?_
            refine dw_enter rfl ?_
            refine rB_X12_where (fun B hB => ?_)
            refine hB _ _ _ _ _ _ ?_
            refine dw_okV (a := 404) rfl rfl (show (SH1 404).1 = 12 by decide +kernel) rfl (by decide) rfl rfl ?_
            refine dw_enter rfl ?_
            refine rB_X12_isNight (fun B hB => ?_)
            refine hB _ _ _ _ _ _ ?_
            refine dw_okS rfl rfl rfl (by decide) rfl rfl ?_
            refine dw_enter rfl ?_
            refine rB_X12_isIn (fun B hB => ?_)
            refine dw_itn n1 ?_
            refine dw_itp n2 ?_
            refine rB_X12_isNight (fun B hB => ?_)
            refine rB_X12_where (fun B hB => ?_)
            refine rB_law (fun B hB => ?_)
            refine hB _ _ _ _ _ _ ?_
            exact law_z
          · refine rB_X11_runBehind (fun B hB => ?_)
            refine hB _ _ _ _ _ _ ?_
            refine dw_okV (a := 0) rfl rfl (show (SH1 0).1 = 11 by decide +kernel) rfl (by decide) rfl rfl ?_
            refine dw_enter rfl ?_
            refine rB_X11_start (fun B hB => ?_)
            refine hB _ _ _ _ _ _ ?_
            refine dw_okV (a := 3) rfl rfl (show (SH1 3).1 = 8 by decide +kernel) rfl (by decide) rfl rfl ?_
            refine dw_enter rfl ?_
            refine rB_X8_nightOf (fun B hB => ?_)
            refine dw_itn n1 ?_
            refine dw_itp n3 ?_
            refine rB_X11_start (fun B hB => ?_)
            refine rB_X11_runBehind (fun B hB => ?_)
            refine rB_X11_where (fun B hB => ?_)
            refine rB_law (fun B hB => ?_)
            refine hB _ _ _ _ _ _ ?_
            refine dw_okV (a := 404) (as := [.int (xs 1), .int (xs 2), .int (xs 3)]) rfl rfl (show (SH1 404).1 = 12 by decide +kernel) rfl (by decide) rfl rfl ?_
            refine dw_enter rfl ?_
            refine rB_X12_where (fun B hB => ?_)
            refine hB _ _ _ _ _ _ ?_
            refine dw_okV (a := 404) rfl rfl (show (SH1 404).1 = 12 by decide +kernel) rfl (by decide) rfl rfl ?_
            refine dw_enter rfl ?_
            refine rB_X12_isNight (fun B hB => ?_)
            refine hB _ _ _ _ _ _ ?_
            refine dw_okS rfl rfl rfl (by decide) rfl rfl ?_
            refine dw_enter rfl ?_
            refine rB_X12_isIn (fun B hB => ?_)
            refine dw_itn n1 ?_
            refine dw_itp n2 ?_
            refine rB_X12_isNight (fun B hB => ?_)
            refine rB_X12_where (fun B hB => ?_)
            refine rB_law (fun B hB => ?_)
            refine hB _ _ _ _ _ _ ?_
            exact law_z
set_option maxHeartbeats 2000000 in
set_option maxRecDepth 20000 in
theorem law_c16 {xs : Nat → Int32} : dw_ok (pr_law 6 xs) 830 599567 7247295 (dw_l1 0 none none) [] (435, SH1, IN1, JN1) := by
  rcases dw_rng6 (xs 1) with hs | hs | hs | hs | hs | hs | ⟨n0, n1⟩ | ⟨n0, n1, n2, n3, n4, n5, n6⟩
  · refine rB_law (fun B hB => ?_)
    refine hB _ _ _ _ _ _ ?_
    refine dw_okV (a := 0) (as := [.int (xs 1), .int (xs 2), .int (xs 3)]) rfl rfl (show (SH1 0).1 = 11 by decide +kernel) rfl (by decide) rfl rfl ?_
    rw [hs]
    refine dw_enter rfl ?_
    refine rB_X11_begins (fun B hB => ?_)
    refine hB _ _ _ _ _ _ ?_
    refine dw_okV (a := 4) rfl rfl (show (SH1 4).1 = 0 by decide +kernel) rfl (by decide) rfl rfl ?_
    refine dw_enter rfl ?_
    refine rB_X0_cellAt (fun B hB => ?_)
    refine dw_ite (fun h1 => ?_) (fun h1 => ?_)
    · refine rB_X11_begins (fun B hB => ?_)
      refine rB_law (fun B hB => ?_)
      refine hB _ _ _ _ _ _ ?_
      refine dw_okV (a := 404) (as := [.int (xs 1), .int (xs 2), .int (xs 3)]) rfl rfl (show (SH1 404).1 = 12 by decide +kernel) rfl (by decide) rfl rfl ?_
      rw [hs]
      refine dw_enter rfl ?_
      refine rB_X12_begins (fun B hB => ?_)
      refine hB _ _ _ _ _ _ ?_
      refine dw_okV (a := 404) rfl rfl (show (SH1 404).1 = 12 by decide +kernel) rfl (by decide) rfl rfl ?_
      refine dw_enter rfl ?_
      refine rB_X12_asks (fun B hB => ?_)
      refine hB _ _ _ _ _ _ ?_
      refine dw_okV (a := 404) rfl rfl (show (SH1 404).1 = 12 by decide +kernel) rfl (by decide) rfl rfl ?_
      refine dw_enter rfl ?_
      refine rB_X12_isNight (fun B hB => ?_)
      refine hB _ _ _ _ _ _ ?_
      refine dw_okS rfl rfl rfl (by decide) rfl rfl ?_
      refine dw_enter rfl ?_
      refine rB_X12_isIn (fun B hB => ?_)
      refine rB_X12_isNight (fun B hB => ?_)
      refine rB_X12_asks (fun B hB => ?_)
      refine rB_X12_begins (fun B hB => ?_)
      refine rB_law (fun B hB => ?_)
      refine hB _ _ _ _ _ _ ?_
      exact law_z
    · refine dw_ite (fun h2 => ?_) (fun h2 => ?_)
      · refine rB_X11_begins (fun B hB => ?_)
        refine rB_law (fun B hB => ?_)
        refine hB _ _ _ _ _ _ ?_
        refine dw_okV (a := 404) (as := [.int (xs 1), .int (xs 2), .int (xs 3)]) rfl rfl (show (SH1 404).1 = 12 by decide +kernel) rfl (by decide) rfl rfl ?_
        rw [hs]
        refine dw_enter rfl ?_
        refine rB_X12_begins (fun B hB => ?_)
        refine hB _ _ _ _ _ _ ?_
        refine dw_okV (a := 404) rfl rfl (show (SH1 404).1 = 12 by decide +kernel) rfl (by decide) rfl rfl ?_
        refine dw_enter rfl ?_
        refine rB_X12_asks (fun B hB => ?_)
        refine hB _ _ _ _ _ _ ?_
        refine dw_okV (a := 404) rfl rfl (show (SH1 404).1 = 12 by decide +kernel) rfl (by decide) rfl rfl ?_
        refine dw_enter rfl ?_
        refine rB_X12_isNight (fun B hB => ?_)
        refine hB _ _ _ _ _ _ ?_
        refine dw_okS rfl rfl rfl (by decide) rfl rfl ?_
        refine dw_enter rfl ?_
        refine rB_X12_isIn (fun B hB => ?_)
        refine rB_X12_isNight (fun B hB => ?_)
        refine rB_X12_asks (fun B hB => ?_)
        refine rB_X12_begins (fun B hB => ?_)
        refine rB_law (fun B hB => ?_)
        refine hB _ _ _ _ _ _ ?_
        exact law_z
      · refine dw_ite (fun h3 => ?_) (fun h3 => ?_)
        · refine rB_X11_begins (fun B hB => ?_)
          refine rB_law (fun B hB => ?_)
          refine hB _ _ _ _ _ _ ?_
          refine dw_okV (a := 404) (as := [.int (xs 1), .int (xs 2), .int (xs 3)]) rfl rfl (show (SH1 404).1 = 12 by decide +kernel) rfl (by decide) rfl rfl ?_
          rw [hs]
          refine dw_enter rfl ?_
          refine rB_X12_begins (fun B hB => ?_)
          refine hB _ _ _ _ _ _ ?_
          refine dw_okV (a := 404) rfl rfl (show (SH1 404).1 = 12 by decide +kernel) rfl (by decide) rfl rfl ?_
          refine dw_enter rfl ?_
          refine rB_X12_asks (fun B hB => ?_)
          refine hB _ _ _ _ _ _ ?_
          refine dw_okV (a := 404) rfl rfl (show (SH1 404).1 = 12 by decide +kernel) rfl (by decide) rfl rfl ?_
          refine dw_enter rfl ?_
          refine rB_X12_isNight (fun B hB => ?_)
          refine hB _ _ _ _ _ _ ?_
          refine dw_okS rfl rfl rfl (by decide) rfl rfl ?_
          refine dw_enter rfl ?_
          refine rB_X12_isIn (fun B hB => ?_)
          refine rB_X12_isNight (fun B hB => ?_)
          refine rB_X12_asks (fun B hB => ?_)
          refine rB_X12_begins (fun B hB => ?_)
          refine rB_law (fun B hB => ?_)
          refine hB _ _ _ _ _ _ ?_
          exact law_z
        · refine dw_ite (fun h4 => ?_) (fun h4 => ?_)
          · refine rB_X11_begins (fun B hB => ?_)
            refine rB_law (fun B hB => ?_)
            refine hB _ _ _ _ _ _ ?_
            refine dw_okV (a := 404) (as := [.int (xs 1), .int (xs 2), .int (xs 3)]) rfl rfl (show (SH1 404).1 = 12 by decide +kernel) rfl (by decide) rfl rfl ?_
            rw [hs]
            refine dw_enter rfl ?_
            refine rB_X12_begins (fun B hB => ?_)
            refine hB _ _ _ _ _ _ ?_
            refine dw_okV (a := 404) rfl rfl (show (SH1 404).1 = 12 by decide +kernel) rfl (by decide) rfl rfl ?_
            refine dw_enter rfl ?_
            refine rB_X12_asks (fun B hB => ?_)
            refine hB _ _ _ _ _ _ ?_
            refine dw_okV (a := 404) rfl rfl (show (SH1 404).1 = 12 by decide +kernel) rfl (by decide) rfl rfl ?_
            refine dw_enter rfl ?_
            refine rB_X12_isNight (fun B hB => ?_)
            refine hB _ _ _ _ _ _ ?_
            refine dw_okS rfl rfl rfl (by decide) rfl rfl ?_
            refine dw_enter rfl ?_
            refine rB_X12_isIn (fun B hB => ?_)
            refine rB_X12_isNight (fun B hB => ?_)
            refine rB_X12_asks (fun B hB => ?_)
            refine rB_X12_begins (fun B hB => ?_)
            refine rB_law (fun B hB => ?_)
            refine hB _ _ _ _ _ _ ?_
            exact law_z
          · refine rB_X11_begins (fun B hB => ?_)
            refine dw_ite (fun h5 => ?_) (fun h5 => ?_)
            · refine rB_law (fun B hB => ?_)
              refine hB _ _ _ _ _ _ ?_
              refine dw_okV (a := 404) (as := [.int (xs 1), .int (xs 2), .int (xs 3)]) rfl rfl (show (SH1 404).1 = 12 by decide +kernel) rfl (by decide) rfl rfl ?_
              rw [hs]
              refine dw_enter rfl ?_
              refine rB_X12_begins (fun B hB => ?_)
              refine hB _ _ _ _ _ _ ?_
              refine dw_okV (a := 404) rfl rfl (show (SH1 404).1 = 12 by decide +kernel) rfl (by decide) rfl rfl ?_
              refine dw_enter rfl ?_
              refine rB_X12_asks (fun B hB => ?_)
              refine hB _ _ _ _ _ _ ?_
              refine dw_okV (a := 404) rfl rfl (show (SH1 404).1 = 12 by decide +kernel) rfl (by decide) rfl rfl ?_
              refine dw_enter rfl ?_
              refine rB_X12_isNight (fun B hB => ?_)
              refine hB _ _ _ _ _ _ ?_
              refine dw_okS rfl rfl rfl (by decide) rfl rfl ?_
              refine dw_enter rfl ?_
              refine rB_X12_isIn (fun B hB => ?_)
              refine rB_X12_isNight (fun B hB => ?_)
              refine rB_X12_asks (fun B hB => ?_)
              refine rB_X12_begins (fun B hB => ?_)
              refine rB_law (fun B hB => ?_)
              refine hB _ _ _ _ _ _ ?_
              exact law_z
            · refine hB _ _ _ _ _ _ ?_
              refine dw_okV (a := 0) rfl rfl (show (SH1 0).1 = 11 by decide +kernel) rfl (by decide) rfl rfl ?_
              refine dw_enter rfl ?_
              refine rB_X11_watched (fun B hB => ?_)
              refine hB _ _ _ _ _ _ ?_
              refine dw_okV (a := 0) rfl rfl (show (SH1 0).1 = 11 by decide +kernel) rfl (by decide) rfl rfl ?_
              refine dw_enter rfl ?_
              refine rB_X11_start (fun B hB => ?_)
              refine hB _ _ _ _ _ _ ?_
              refine dw_okV (a := 3) rfl rfl (show (SH1 3).1 = 8 by decide +kernel) rfl (by decide) rfl rfl ?_
              refine dw_enter rfl ?_
              refine rB_X8_nightOf (fun B hB => ?_)
              refine rB_X11_start (fun B hB => ?_)
              refine (fun (_ : _ ∨ _) => ?_)
              refine rB_X11_watched (fun B hB => ?_)
              refine rB_X11_begins (fun B hB => ?_)
              refine rB_law (fun B hB => ?_)
              refine hB _ _ _ _ _ _ ?_
              refine dw_okV (a := 404) (as := [.int (xs 1), .int (xs 2), .int (xs 3)]) rfl rfl (show (SH1 404).1 = 12 by decide +kernel) rfl (by decide) rfl rfl ?_
              rw [hs]
              refine dw_enter rfl ?_
              refine rB_X12_begins (fun B hB => ?_)
              refine hB _ _ _ _ _ _ ?_
              refine dw_okV (a := 404) rfl rfl (show (SH1 404).1 = 12 by decide +kernel) rfl (by decide) rfl rfl ?_
              refine dw_enter rfl ?_
              refine rB_X12_asks (fun B hB => ?_)
              refine hB _ _ _ _ _ _ ?_
              refine dw_okV (a := 404) rfl rfl (show (SH1 404).1 = 12 by decide +kernel) rfl (by decide) rfl rfl ?_
              refine dw_enter rfl ?_
              refine rB_X12_isNight (fun B hB => ?_)
              refine hB _ _ _ _ _ _ ?_
              refine dw_okS rfl rfl rfl (by decide) rfl rfl ?_
              refine dw_enter rfl ?_
              refine rB_X12_isIn (fun B hB => ?_)
              refine rB_X12_isNight (fun B hB => ?_)
              refine rB_X12_asks (fun B hB => ?_)
              refine rB_X12_begins (fun B hB => ?_)
              refine rB_law (fun B hB => ?_)
              refine hB _ _ _ _ _ _ ?_
              exact law_z
  · refine rB_law (fun B hB => ?_)
    refine hB _ _ _ _ _ _ ?_
    refine dw_okV (a := 0) (as := [.int (xs 1), .int (xs 2), .int (xs 3)]) rfl rfl (show (SH1 0).1 = 11 by decide +kernel) rfl (by decide) rfl rfl ?_
    rw [hs]
    refine dw_enter rfl ?_
    refine rB_X11_begins (fun B hB => ?_)
    refine hB _ _ _ _ _ _ ?_
    refine dw_okV (a := 4) rfl rfl (show (SH1 4).1 = 0 by decide +kernel) rfl (by decide) rfl rfl ?_
    refine dw_enter rfl ?_
    refine rB_X0_cellAt (fun B hB => ?_)
    refine dw_ite (fun h6 => ?_) (fun h6 => ?_)
    · refine rB_X11_begins (fun B hB => ?_)
      refine rB_law (fun B hB => ?_)
      refine hB _ _ _ _ _ _ ?_
      refine dw_okV (a := 404) (as := [.int (xs 1), .int (xs 2), .int (xs 3)]) rfl rfl (show (SH1 404).1 = 12 by decide +kernel) rfl (by decide) rfl rfl ?_
      rw [hs]
      refine dw_enter rfl ?_
      refine rB_X12_begins (fun B hB => ?_)
      refine hB _ _ _ _ _ _ ?_
      refine dw_okV (a := 404) rfl rfl (show (SH1 404).1 = 12 by decide +kernel) rfl (by decide) rfl rfl ?_
      refine dw_enter rfl ?_
      refine rB_X12_asks (fun B hB => ?_)
      refine hB _ _ _ _ _ _ ?_
      refine dw_okV (a := 404) rfl rfl (show (SH1 404).1 = 12 by decide +kernel) rfl (by decide) rfl rfl ?_
      refine dw_enter rfl ?_
      refine rB_X12_isNight (fun B hB => ?_)
      refine hB _ _ _ _ _ _ ?_
      refine dw_okS rfl rfl rfl (by decide) rfl rfl ?_
      refine dw_enter rfl ?_
      refine rB_X12_isIn (fun B hB => ?_)
      refine rB_X12_isNight (fun B hB => ?_)
      refine rB_X12_asks (fun B hB => ?_)
      refine rB_X12_begins (fun B hB => ?_)
      refine rB_law (fun B hB => ?_)
      refine hB _ _ _ _ _ _ ?_
      exact law_z
    · refine dw_ite (fun h7 => ?_) (fun h7 => ?_)
      · refine rB_X11_begins (fun B hB => ?_)
        refine rB_law (fun B hB => ?_)
        refine hB _ _ _ _ _ _ ?_
        refine dw_okV (a := 404) (as := [.int (xs 1), .int (xs 2), .int (xs 3)]) rfl rfl (show (SH1 404).1 = 12 by decide +kernel) rfl (by decide) rfl rfl ?_
        rw [hs]
        refine dw_enter rfl ?_
        refine rB_X12_begins (fun B hB => ?_)
        refine hB _ _ _ _ _ _ ?_
        refine dw_okV (a := 404) rfl rfl (show (SH1 404).1 = 12 by decide +kernel) rfl (by decide) rfl rfl ?_
        refine dw_enter rfl ?_
        refine rB_X12_asks (fun B hB => ?_)
        refine hB _ _ _ _ _ _ ?_
        refine dw_okV (a := 404) rfl rfl (show (SH1 404).1 = 12 by decide +kernel) rfl (by decide) rfl rfl ?_
        refine dw_enter rfl ?_
        refine rB_X12_isNight (fun B hB => ?_)
        refine hB _ _ _ _ _ _ ?_
        refine dw_okS rfl rfl rfl (by decide) rfl rfl ?_
        refine dw_enter rfl ?_
        refine rB_X12_isIn (fun B hB => ?_)
        refine rB_X12_isNight (fun B hB => ?_)
        refine rB_X12_asks (fun B hB => ?_)
        refine rB_X12_begins (fun B hB => ?_)
        refine rB_law (fun B hB => ?_)
        refine hB _ _ _ _ _ _ ?_
        exact law_z
      · refine dw_ite (fun h8 => ?_) (fun h8 => ?_)
        · refine rB_X11_begins (fun B hB => ?_)
          refine rB_law (fun B hB => ?_)
          refine hB _ _ _ _ _ _ ?_
          refine dw_okV (a := 404) (as := [.int (xs 1), .int (xs 2), .int (xs 3)]) rfl rfl (show (SH1 404).1 = 12 by decide +kernel) rfl (by decide) rfl rfl ?_
          rw [hs]
          refine dw_enter rfl ?_
          refine rB_X12_begins (fun B hB => ?_)
          refine hB _ _ _ _ _ _ ?_
          refine dw_okV (a := 404) rfl rfl (show (SH1 404).1 = 12 by decide +kernel) rfl (by decide) rfl rfl ?_
          refine dw_enter rfl ?_
          refine rB_X12_asks (fun B hB => ?_)
          refine hB _ _ _ _ _ _ ?_
          refine dw_okV (a := 404) rfl rfl (show (SH1 404).1 = 12 by decide +kernel) rfl (by decide) rfl rfl ?_
          refine dw_enter rfl ?_
          refine rB_X12_isNight (fun B hB => ?_)
          refine hB _ _ _ _ _ _ ?_
          refine dw_okS rfl rfl rfl (by decide) rfl rfl ?_
          refine dw_enter rfl ?_
          refine rB_X12_isIn (fun B hB => ?_)
          refine rB_X12_isNight (fun B hB => ?_)
          refine rB_X12_asks (fun B hB => ?_)
          refine rB_X12_begins (fun B hB => ?_)
          refine rB_law (fun B hB => ?_)
          refine hB _ _ _ _ _ _ ?_
          exact law_z
        · refine dw_ite (fun h9 => ?_) (fun h9 => ?_)
          · refine rB_X11_begins (fun B hB => ?_)
            refine rB_law (fun B hB => ?_)
            refine hB _ _ _ _ _ _ ?_
            refine dw_okV (a := 404) (as := [.int (xs 1), .int (xs 2), .int (xs 3)]) rfl rfl (show (SH1 404).1 = 12 by decide +kernel) rfl (by decide) rfl rfl ?_
            rw [hs]
            refine dw_enter rfl ?_
            refine rB_X12_begins (fun B hB => ?_)
            refine hB _ _ _ _ _ _ ?_
            refine dw_okV (a := 404) rfl rfl (show (SH1 404).1 = 12 by decide +kernel) rfl (by decide) rfl rfl ?_
            refine dw_enter rfl ?_
            refine rB_X12_asks (fun B hB => ?_)
            refine hB _ _ _ _ _ _ ?_
            refine dw_okV (a := 404) rfl rfl (show (SH1 404).1 = 12 by decide +kernel) rfl (by decide) rfl rfl ?_
            refine dw_enter rfl ?_
            refine rB_X12_isNight (fun B hB => ?_)
            refine hB _ _ _ _ _ _ ?_
            refine dw_okS rfl rfl rfl (by decide) rfl rfl ?_
            refine dw_enter rfl ?_
            refine rB_X12_isIn (fun B hB => ?_)
            refine rB_X12_isNight (fun B hB => ?_)
            refine rB_X12_asks (fun B hB => ?_)
            refine rB_X12_begins (fun B hB => ?_)
            refine rB_law (fun B hB => ?_)
            refine hB _ _ _ _ _ _ ?_
            exact law_z
          · refine rB_X11_begins (fun B hB => ?_)
            refine dw_ite (fun h10 => ?_) (fun h10 => ?_)
            · refine rB_law (fun B hB => ?_)
              refine hB _ _ _ _ _ _ ?_
              refine dw_okV (a := 404) (as := [.int (xs 1), .int (xs 2), .int (xs 3)]) rfl rfl (show (SH1 404).1 = 12 by decide +kernel) rfl (by decide) rfl rfl ?_
              rw [hs]
              refine dw_enter rfl ?_
              refine rB_X12_begins (fun B hB => ?_)
              refine hB _ _ _ _ _ _ ?_
              refine dw_okV (a := 404) rfl rfl (show (SH1 404).1 = 12 by decide +kernel) rfl (by decide) rfl rfl ?_
              refine dw_enter rfl ?_
              refine rB_X12_asks (fun B hB => ?_)
              refine hB _ _ _ _ _ _ ?_
              refine dw_okV (a := 404) rfl rfl (show (SH1 404).1 = 12 by decide +kernel) rfl (by decide) rfl rfl ?_
              refine dw_enter rfl ?_
              refine rB_X12_isNight (fun B hB => ?_)
              refine hB _ _ _ _ _ _ ?_
              refine dw_okS rfl rfl rfl (by decide) rfl rfl ?_
              refine dw_enter rfl ?_
              refine rB_X12_isIn (fun B hB => ?_)
              refine rB_X12_isNight (fun B hB => ?_)
              refine rB_X12_asks (fun B hB => ?_)
              refine rB_X12_begins (fun B hB => ?_)
              refine rB_law (fun B hB => ?_)
              refine hB _ _ _ _ _ _ ?_
              exact law_z
            · refine hB _ _ _ _ _ _ ?_
              refine dw_okV (a := 0) rfl rfl (show (SH1 0).1 = 11 by decide +kernel) rfl (by decide) rfl rfl ?_
              refine dw_enter rfl ?_
              refine rB_X11_watched (fun B hB => ?_)
              refine hB _ _ _ _ _ _ ?_
              refine dw_okV (a := 0) rfl rfl (show (SH1 0).1 = 11 by decide +kernel) rfl (by decide) rfl rfl ?_
              refine dw_enter rfl ?_
              refine rB_X11_start (fun B hB => ?_)
              refine hB _ _ _ _ _ _ ?_
              refine dw_okV (a := 3) rfl rfl (show (SH1 3).1 = 8 by decide +kernel) rfl (by decide) rfl rfl ?_
              refine dw_enter rfl ?_
              refine rB_X8_nightOf (fun B hB => ?_)
              refine rB_X11_start (fun B hB => ?_)
              refine (fun (_ : _ ∨ _) => ?_)
              refine rB_X11_watched (fun B hB => ?_)
              refine rB_X11_begins (fun B hB => ?_)
              refine rB_law (fun B hB => ?_)
              refine hB _ _ _ _ _ _ ?_
              refine dw_okV (a := 404) (as := [.int (xs 1), .int (xs 2), .int (xs 3)]) rfl rfl (show (SH1 404).1 = 12 by decide +kernel) rfl (by decide) rfl rfl ?_
              rw [hs]
              refine dw_enter rfl ?_
              refine rB_X12_begins (fun B hB => ?_)
              refine hB _ _ _ _ _ _ ?_
              refine dw_okV (a := 404) rfl rfl (show (SH1 404).1 = 12 by decide +kernel) rfl (by decide) rfl rfl ?_
              refine dw_enter rfl ?_
              refine rB_X12_asks (fun B hB => ?_)
              refine hB _ _ _ _ _ _ ?_
              refine dw_okV (a := 404) rfl rfl (show (SH1 404).1 = 12 by decide +kernel) rfl (by decide) rfl rfl ?_
              refine dw_enter rfl ?_
              refine rB_X12_isNight (fun B hB => ?_)
              refine hB _ _ _ _ _ _ ?_
              refine dw_okS rfl rfl rfl (by decide) rfl rfl ?_
              refine dw_enter rfl ?_
              refine rB_X12_isIn (fun B hB => ?_)
              refine rB_X12_isNight (fun B hB => ?_)
              refine rB_X12_asks (fun B hB => ?_)
              refine rB_X12_begins (fun B hB => ?_)
              refine rB_law (fun B hB => ?_)
              refine hB _ _ _ _ _ _ ?_
              exact law_z
  · refine rB_law (fun B hB => ?_)
    refine hB _ _ _ _ _ _ ?_
    refine dw_okV (a := 0) (as := [.int (xs 1), .int (xs 2), .int (xs 3)]) rfl rfl (show (SH1 0).1 = 11 by decide +kernel) rfl (by decide) rfl rfl ?_
    rw [hs]
    refine dw_enter rfl ?_
    refine rB_X11_begins (fun B hB => ?_)
    refine hB _ _ _ _ _ _ ?_
    refine dw_okV (a := 4) rfl rfl (show (SH1 4).1 = 0 by decide +kernel) rfl (by decide) rfl rfl ?_
    refine dw_enter rfl ?_
    refine rB_X0_cellAt (fun B hB => ?_)
    refine dw_ite (fun h11 => ?_) (fun h11 => ?_)
    · refine rB_X11_begins (fun B hB => ?_)
      refine rB_law (fun B hB => ?_)
      refine hB _ _ _ _ _ _ ?_
      refine dw_okV (a := 404) (as := [.int (xs 1), .int (xs 2), .int (xs 3)]) rfl rfl (show (SH1 404).1 = 12 by decide +kernel) rfl (by decide) rfl rfl ?_
      rw [hs]
      refine dw_enter rfl ?_
      refine rB_X12_begins (fun B hB => ?_)
      refine hB _ _ _ _ _ _ ?_
      refine dw_okV (a := 404) rfl rfl (show (SH1 404).1 = 12 by decide +kernel) rfl (by decide) rfl rfl ?_
      refine dw_enter rfl ?_
      refine rB_X12_asks (fun B hB => ?_)
      refine hB _ _ _ _ _ _ ?_
      refine dw_okV (a := 404) rfl rfl (show (SH1 404).1 = 12 by decide +kernel) rfl (by decide) rfl rfl ?_
      refine dw_enter rfl ?_
      refine rB_X12_isNight (fun B hB => ?_)
      refine hB _ _ _ _ _ _ ?_
      refine dw_okS rfl rfl rfl (by decide) rfl rfl ?_
      refine dw_enter rfl ?_
      refine rB_X12_isIn (fun B hB => ?_)
      refine rB_X12_isNight (fun B hB => ?_)
      refine rB_X12_asks (fun B hB => ?_)
      refine rB_X12_begins (fun B hB => ?_)
      refine rB_law (fun B hB => ?_)
      refine hB _ _ _ _ _ _ ?_
      exact law_z
    · refine dw_ite (fun h12 => ?_) (fun h12 => ?_)
      · refine rB_X11_begins (fun B hB => ?_)
        refine rB_law (fun B hB => ?_)
        refine hB _ _ _ _ _ _ ?_
        refine dw_okV (a := 404) (as := [.int (xs 1), .int (xs 2), .int (xs 3)]) rfl rfl (show (SH1 404).1 = 12 by decide +kernel) rfl (by decide) rfl rfl ?_
        rw [hs]
        refine dw_enter rfl ?_
        refine rB_X12_begins (fun B hB => ?_)
        refine hB _ _ _ _ _ _ ?_
        refine dw_okV (a := 404) rfl rfl (show (SH1 404).1 = 12 by decide +kernel) rfl (by decide) rfl rfl ?_
        refine dw_enter rfl ?_
        refine rB_X12_asks (fun B hB => ?_)
        refine hB _ _ _ _ _ _ ?_
        refine dw_okV (a := 404) rfl rfl (show (SH1 404).1 = 12 by decide +kernel) rfl (by decide) rfl rfl ?_
        refine dw_enter rfl ?_
        refine rB_X12_isNight (fun B hB => ?_)
        refine hB _ _ _ _ _ _ ?_
        refine dw_okS rfl rfl rfl (by decide) rfl rfl ?_
        refine dw_enter rfl ?_
        refine rB_X12_isIn (fun B hB => ?_)
        refine rB_X12_isNight (fun B hB => ?_)
        refine rB_X12_asks (fun B hB => ?_)
        refine rB_X12_begins (fun B hB => ?_)
        refine rB_law (fun B hB => ?_)
        refine hB _ _ _ _ _ _ ?_
        exact law_z
      · refine dw_ite (fun h13 => ?_) (fun h13 => ?_)
        · refine rB_X11_begins (fun B hB => ?_)
          refine rB_law (fun B hB => ?_)
          refine hB _ _ _ _ _ _ ?_
          refine dw_okV (a := 404) (as := [.int (xs 1), .int (xs 2), .int (xs 3)]) rfl rfl (show (SH1 404).1 = 12 by decide +kernel) rfl (by decide) rfl rfl ?_
          rw [hs]
          refine dw_enter rfl ?_
          refine rB_X12_begins (fun B hB => ?_)
          refine hB _ _ _ _ _ _ ?_
          refine dw_okV (a := 404) rfl rfl (show (SH1 404).1 = 12 by decide +kernel) rfl (by decide) rfl rfl ?_
          refine dw_enter rfl ?_
          refine rB_X12_asks (fun B hB => ?_)
          refine hB _ _ _ _ _ _ ?_
          refine dw_okV (a := 404) rfl rfl (show (SH1 404).1 = 12 by decide +kernel) rfl (by decide) rfl rfl ?_
          refine dw_enter rfl ?_
          refine rB_X12_isNight (fun B hB => ?_)
          refine hB _ _ _ _ _ _ ?_
          refine dw_okS rfl rfl rfl (by decide) rfl rfl ?_
          refine dw_enter rfl ?_
          refine rB_X12_isIn (fun B hB => ?_)
          refine rB_X12_isNight (fun B hB => ?_)
          refine rB_X12_asks (fun B hB => ?_)
          refine rB_X12_begins (fun B hB => ?_)
          refine rB_law (fun B hB => ?_)
          refine hB _ _ _ _ _ _ ?_
          exact law_z
        · refine dw_ite (fun h14 => ?_) (fun h14 => ?_)
          · refine rB_X11_begins (fun B hB => ?_)
            refine rB_law (fun B hB => ?_)
            refine hB _ _ _ _ _ _ ?_
            refine dw_okV (a := 404) (as := [.int (xs 1), .int (xs 2), .int (xs 3)]) rfl rfl (show (SH1 404).1 = 12 by decide +kernel) rfl (by decide) rfl rfl ?_
            rw [hs]
            refine dw_enter rfl ?_
            refine rB_X12_begins (fun B hB => ?_)
            refine hB _ _ _ _ _ _ ?_
            refine dw_okV (a := 404) rfl rfl (show (SH1 404).1 = 12 by decide +kernel) rfl (by decide) rfl rfl ?_
            refine dw_enter rfl ?_
            refine rB_X12_asks (fun B hB => ?_)
            refine hB _ _ _ _ _ _ ?_
            refine dw_okV (a := 404) rfl rfl (show (SH1 404).1 = 12 by decide +kernel) rfl (by decide) rfl rfl ?_
            refine dw_enter rfl ?_
            refine rB_X12_isNight (fun B hB => ?_)
            refine hB _ _ _ _ _ _ ?_
            refine dw_okS rfl rfl rfl (by decide) rfl rfl ?_
            refine dw_enter rfl ?_
            refine rB_X12_isIn (fun B hB => ?_)
            refine rB_X12_isNight (fun B hB => ?_)
            refine rB_X12_asks (fun B hB => ?_)
            refine rB_X12_begins (fun B hB => ?_)
            refine rB_law (fun B hB => ?_)
            refine hB _ _ _ _ _ _ ?_
            exact law_z
          · refine rB_X11_begins (fun B hB => ?_)
            refine dw_ite (fun h15 => ?_) (fun h15 => ?_)
            · refine rB_law (fun B hB => ?_)
              refine hB _ _ _ _ _ _ ?_
              refine dw_okV (a := 404) (as := [.int (xs 1), .int (xs 2), .int (xs 3)]) rfl rfl (show (SH1 404).1 = 12 by decide +kernel) rfl (by decide) rfl rfl ?_
              rw [hs]
              refine dw_enter rfl ?_
              refine rB_X12_begins (fun B hB => ?_)
              refine hB _ _ _ _ _ _ ?_
              refine dw_okV (a := 404) rfl rfl (show (SH1 404).1 = 12 by decide +kernel) rfl (by decide) rfl rfl ?_
              refine dw_enter rfl ?_
              refine rB_X12_asks (fun B hB => ?_)
              refine hB _ _ _ _ _ _ ?_
              refine dw_okV (a := 404) rfl rfl (show (SH1 404).1 = 12 by decide +kernel) rfl (by decide) rfl rfl ?_
              refine dw_enter rfl ?_
              refine rB_X12_isNight (fun B hB => ?_)
              refine hB _ _ _ _ _ _ ?_
              refine dw_okS rfl rfl rfl (by decide) rfl rfl ?_
              refine dw_enter rfl ?_
              refine rB_X12_isIn (fun B hB => ?_)
              refine rB_X12_isNight (fun B hB => ?_)
              refine rB_X12_asks (fun B hB => ?_)
              refine rB_X12_begins (fun B hB => ?_)
              refine rB_law (fun B hB => ?_)
              refine hB _ _ _ _ _ _ ?_
              exact law_z
            · refine hB _ _ _ _ _ _ ?_
              refine dw_okV (a := 0) rfl rfl (show (SH1 0).1 = 11 by decide +kernel) rfl (by decide) rfl rfl ?_
              refine dw_enter rfl ?_
              refine rB_X11_watched (fun B hB => ?_)
              refine hB _ _ _ _ _ _ ?_
              refine dw_okV (a := 0) rfl rfl (show (SH1 0).1 = 11 by decide +kernel) rfl (by decide) rfl rfl ?_
              refine dw_enter rfl ?_
              refine rB_X11_start (fun B hB => ?_)
              refine hB _ _ _ _ _ _ ?_
              refine dw_okV (a := 3) rfl rfl (show (SH1 3).1 = 8 by decide +kernel) rfl (by decide) rfl rfl ?_
              refine dw_enter rfl ?_
              refine rB_X8_nightOf (fun B hB => ?_)
              refine rB_X11_start (fun B hB => ?_)
              refine (fun (_ : _ ∨ _) => ?_)
              refine rB_X11_watched (fun B hB => ?_)
              refine rB_X11_begins (fun B hB => ?_)
              refine rB_law (fun B hB => ?_)
              refine hB _ _ _ _ _ _ ?_
              refine dw_okV (a := 404) (as := [.int (xs 1), .int (xs 2), .int (xs 3)]) rfl rfl (show (SH1 404).1 = 12 by decide +kernel) rfl (by decide) rfl rfl ?_
              rw [hs]
              refine dw_enter rfl ?_
              refine rB_X12_begins (fun B hB => ?_)
              refine hB _ _ _ _ _ _ ?_
              refine dw_okV (a := 404) rfl rfl (show (SH1 404).1 = 12 by decide +kernel) rfl (by decide) rfl rfl ?_
              refine dw_enter rfl ?_
              refine rB_X12_asks (fun B hB => ?_)
              refine hB _ _ _ _ _ _ ?_
              refine dw_okV (a := 404) rfl rfl (show (SH1 404).1 = 12 by decide +kernel) rfl (by decide) rfl rfl ?_
              refine dw_enter rfl ?_
              refine rB_X12_isNight (fun B hB => ?_)
              refine hB _ _ _ _ _ _ ?_
              refine dw_okS rfl rfl rfl (by decide) rfl rfl ?_
              refine dw_enter rfl ?_
              refine rB_X12_isIn (fun B hB => ?_)
              refine rB_X12_isNight (fun B hB => ?_)
              refine rB_X12_asks (fun B hB => ?_)
              refine rB_X12_begins (fun B hB => ?_)
              refine rB_law (fun B hB => ?_)
              refine hB _ _ _ _ _ _ ?_
              exact law_z
  · refine rB_law (fun B hB => ?_)
    refine hB _ _ _ _ _ _ ?_
    refine dw_okV (a := 0) (as := [.int (xs 1), .int (xs 2), .int (xs 3)]) rfl rfl (show (SH1 0).1 = 11 by decide +kernel) rfl (by decide) rfl rfl ?_
    rw [hs]
    refine dw_enter rfl ?_
    refine rB_X11_begins (fun B hB => ?_)
    refine hB _ _ _ _ _ _ ?_
    refine dw_okV (a := 4) rfl rfl (show (SH1 4).1 = 0 by decide +kernel) rfl (by decide) rfl rfl ?_
    refine dw_enter rfl ?_
    refine rB_X0_cellAt (fun B hB => ?_)
    refine dw_ite (fun h16 => ?_) (fun h16 => ?_)
    · refine rB_X11_begins (fun B hB => ?_)
      refine rB_law (fun B hB => ?_)
      refine hB _ _ _ _ _ _ ?_
      refine dw_okV (a := 404) (as := [.int (xs 1), .int (xs 2), .int (xs 3)]) rfl rfl (show (SH1 404).1 = 12 by decide +kernel) rfl (by decide) rfl rfl ?_
      rw [hs]
      refine dw_enter rfl ?_
      refine rB_X12_begins (fun B hB => ?_)
      refine hB _ _ _ _ _ _ ?_
      refine dw_okV (a := 404) rfl rfl (show (SH1 404).1 = 12 by decide +kernel) rfl (by decide) rfl rfl ?_
      refine dw_enter rfl ?_
      refine rB_X12_asks (fun B hB => ?_)
      refine hB _ _ _ _ _ _ ?_
      refine dw_okV (a := 404) rfl rfl (show (SH1 404).1 = 12 by decide +kernel) rfl (by decide) rfl rfl ?_
      refine dw_enter rfl ?_
      refine rB_X12_isNight (fun B hB => ?_)
      refine hB _ _ _ _ _ _ ?_
      refine dw_okS rfl rfl rfl (by decide) rfl rfl ?_
      refine dw_enter rfl ?_
      refine rB_X12_isIn (fun B hB => ?_)
      refine rB_X12_isNight (fun B hB => ?_)
      refine rB_X12_asks (fun B hB => ?_)
      refine rB_X12_begins (fun B hB => ?_)
      refine rB_law (fun B hB => ?_)
      refine hB _ _ _ _ _ _ ?_
      exact law_z
    · refine dw_ite (fun h17 => ?_) (fun h17 => ?_)
      · refine rB_X11_begins (fun B hB => ?_)
        refine rB_law (fun B hB => ?_)
        refine hB _ _ _ _ _ _ ?_
        refine dw_okV (a := 404) (as := [.int (xs 1), .int (xs 2), .int (xs 3)]) rfl rfl (show (SH1 404).1 = 12 by decide +kernel) rfl (by decide) rfl rfl ?_
        rw [hs]
        refine dw_enter rfl ?_
        refine rB_X12_begins (fun B hB => ?_)
        refine hB _ _ _ _ _ _ ?_
        refine dw_okV (a := 404) rfl rfl (show (SH1 404).1 = 12 by decide +kernel) rfl (by decide) rfl rfl ?_
        refine dw_enter rfl ?_
        refine rB_X12_asks (fun B hB => ?_)
        refine hB _ _ _ _ _ _ ?_
        refine dw_okV (a := 404) rfl rfl (show (SH1 404).1 = 12 by decide +kernel) rfl (by decide) rfl rfl ?_
        refine dw_enter rfl ?_
        refine rB_X12_isNight (fun B hB => ?_)
        refine hB _ _ _ _ _ _ ?_
        refine dw_okS rfl rfl rfl (by decide) rfl rfl ?_
        refine dw_enter rfl ?_
        refine rB_X12_isIn (fun B hB => ?_)
        refine rB_X12_isNight (fun B hB => ?_)
        refine rB_X12_asks (fun B hB => ?_)
        refine rB_X12_begins (fun B hB => ?_)
        refine rB_law (fun B hB => ?_)
        refine hB _ _ _ _ _ _ ?_
        exact law_z
      · refine dw_ite (fun h18 => ?_) (fun h18 => ?_)
        · refine rB_X11_begins (fun B hB => ?_)
          refine rB_law (fun B hB => ?_)
          refine hB _ _ _ _ _ _ ?_
          refine dw_okV (a := 404) (as := [.int (xs 1), .int (xs 2), .int (xs 3)]) rfl rfl (show (SH1 404).1 = 12 by decide +kernel) rfl (by decide) rfl rfl ?_
          rw [hs]
          refine dw_enter rfl ?_
          refine rB_X12_begins (fun B hB => ?_)
          refine hB _ _ _ _ _ _ ?_
          refine dw_okV (a := 404) rfl rfl (show (SH1 404).1 = 12 by decide +kernel) rfl (by decide) rfl rfl ?_
          refine dw_enter rfl ?_
          refine rB_X12_asks (fun B hB => ?_)
          refine hB _ _ _ _ _ _ ?_
          refine dw_okV (a := 404) rfl rfl (show (SH1 404).1 = 12 by decide +kernel) rfl (by decide) rfl rfl ?_
          refine dw_enter rfl ?_
          refine rB_X12_isNight (fun B hB => ?_)
          refine hB _ _ _ _ _ _ ?_
          refine dw_okS rfl rfl rfl (by decide) rfl rfl ?_
          refine dw_enter rfl ?_
          refine rB_X12_isIn (fun B hB => ?_)
          refine rB_X12_isNight (fun B hB => ?_)
          refine rB_X12_asks (fun B hB => ?_)
          refine rB_X12_begins (fun B hB => ?_)
          refine rB_law (fun B hB => ?_)
          refine hB _ _ _ _ _ _ ?_
          exact law_z
        · refine dw_ite (fun h19 => ?_) (fun h19 => ?_)
          · refine rB_X11_begins (fun B hB => ?_)
            refine rB_law (fun B hB => ?_)
            refine hB _ _ _ _ _ _ ?_
            refine dw_okV (a := 404) (as := [.int (xs 1), .int (xs 2), .int (xs 3)]) rfl rfl (show (SH1 404).1 = 12 by decide +kernel) rfl (by decide) rfl rfl ?_
            rw [hs]
            refine dw_enter rfl ?_
            refine rB_X12_begins (fun B hB => ?_)
            refine hB _ _ _ _ _ _ ?_
            refine dw_okV (a := 404) rfl rfl (show (SH1 404).1 = 12 by decide +kernel) rfl (by decide) rfl rfl ?_
            refine dw_enter rfl ?_
            refine rB_X12_asks (fun B hB => ?_)
            refine hB _ _ _ _ _ _ ?_
            refine dw_okV (a := 404) rfl rfl (show (SH1 404).1 = 12 by decide +kernel) rfl (by decide) rfl rfl ?_
            refine dw_enter rfl ?_
            refine rB_X12_isNight (fun B hB => ?_)
            refine hB _ _ _ _ _ _ ?_
            refine dw_okS rfl rfl rfl (by decide) rfl rfl ?_
            refine dw_enter rfl ?_
            refine rB_X12_isIn (fun B hB => ?_)
            refine rB_X12_isNight (fun B hB => ?_)
            refine rB_X12_asks (fun B hB => ?_)
            refine rB_X12_begins (fun B hB => ?_)
            refine rB_law (fun B hB => ?_)
            refine hB _ _ _ _ _ _ ?_
            exact law_z
          · refine rB_X11_begins (fun B hB => ?_)
            refine dw_ite (fun h20 => ?_) (fun h20 => ?_)
            · refine rB_law (fun B hB => ?_)
              refine hB _ _ _ _ _ _ ?_
              refine dw_okV (a := 404) (as := [.int (xs 1), .int (xs 2), .int (xs 3)]) rfl rfl (show (SH1 404).1 = 12 by decide +kernel) rfl (by decide) rfl rfl ?_
              rw [hs]
              refine dw_enter rfl ?_
              refine rB_X12_begins (fun B hB => ?_)
              refine hB _ _ _ _ _ _ ?_
              refine dw_okV (a := 404) rfl rfl (show (SH1 404).1 = 12 by decide +kernel) rfl (by decide) rfl rfl ?_
              refine dw_enter rfl ?_
              refine rB_X12_asks (fun B hB => ?_)
              refine hB _ _ _ _ _ _ ?_
              refine dw_okV (a := 404) rfl rfl (show (SH1 404).1 = 12 by decide +kernel) rfl (by decide) rfl rfl ?_
              refine dw_enter rfl ?_
              refine rB_X12_isNight (fun B hB => ?_)
              refine hB _ _ _ _ _ _ ?_
              refine dw_okS rfl rfl rfl (by decide) rfl rfl ?_
              refine dw_enter rfl ?_
              refine rB_X12_isIn (fun B hB => ?_)
              refine rB_X12_isNight (fun B hB => ?_)
              refine rB_X12_asks (fun B hB => ?_)
              refine rB_X12_begins (fun B hB => ?_)
              refine rB_law (fun B hB => ?_)
              refine hB _ _ _ _ _ _ ?_
              exact law_z
            · refine hB _ _ _ _ _ _ ?_
              refine dw_okV (a := 0) rfl rfl (show (SH1 0).1 = 11 by decide +kernel) rfl (by decide) rfl rfl ?_
              refine dw_enter rfl ?_
              refine rB_X11_watched (fun B hB => ?_)
              refine hB _ _ _ _ _ _ ?_
              refine dw_okV (a := 0) rfl rfl (show (SH1 0).1 = 11 by decide +kernel) rfl (by decide) rfl rfl ?_
              refine dw_enter rfl ?_
              refine rB_X11_start (fun B hB => ?_)
              refine hB _ _ _ _ _ _ ?_
              refine dw_okV (a := 3) rfl rfl (show (SH1 3).1 = 8 by decide +kernel) rfl (by decide) rfl rfl ?_
              refine dw_enter rfl ?_
              refine rB_X8_nightOf (fun B hB => ?_)
              refine rB_X11_start (fun B hB => ?_)
              refine (fun (_ : _ ∨ _) => ?_)
              refine rB_X11_watched (fun B hB => ?_)
              refine rB_X11_begins (fun B hB => ?_)
              refine rB_law (fun B hB => ?_)
              refine hB _ _ _ _ _ _ ?_
              refine dw_okV (a := 404) (as := [.int (xs 1), .int (xs 2), .int (xs 3)]) rfl rfl (show (SH1 404).1 = 12 by decide +kernel) rfl (by decide) rfl rfl ?_
              rw [hs]
              refine dw_enter rfl ?_
              refine rB_X12_begins (fun B hB => ?_)
              refine hB _ _ _ _ _ _ ?_
              refine dw_okV (a := 404) rfl rfl (show (SH1 404).1 = 12 by decide +kernel) rfl (by decide) rfl rfl ?_
              refine dw_enter rfl ?_
              refine rB_X12_asks (fun B hB => ?_)
              refine hB _ _ _ _ _ _ ?_
              refine dw_okV (a := 404) rfl rfl (show (SH1 404).1 = 12 by decide +kernel) rfl (by decide) rfl rfl ?_
              refine dw_enter rfl ?_
              refine rB_X12_isNight (fun B hB => ?_)
              refine hB _ _ _ _ _ _ ?_
              refine dw_okS rfl rfl rfl (by decide) rfl rfl ?_
              refine dw_enter rfl ?_
              refine rB_X12_isIn (fun B hB => ?_)
              refine rB_X12_isNight (fun B hB => ?_)
              refine rB_X12_asks (fun B hB => ?_)
              refine rB_X12_begins (fun B hB => ?_)
              refine rB_law (fun B hB => ?_)
              refine hB _ _ _ _ _ _ ?_
              exact law_z
  · refine rB_law (fun B hB => ?_)
    refine hB _ _ _ _ _ _ ?_
    refine dw_okV (a := 0) (as := [.int (xs 1), .int (xs 2), .int (xs 3)]) rfl rfl (show (SH1 0).1 = 11 by decide +kernel) rfl (by decide) rfl rfl ?_
    rw [hs]
    refine dw_enter rfl ?_
    refine rB_X11_begins (fun B hB => ?_)
    refine hB _ _ _ _ _ _ ?_
    refine dw_okV (a := 4) rfl rfl (show (SH1 4).1 = 0 by decide +kernel) rfl (by decide) rfl rfl ?_
    refine dw_enter rfl ?_
    refine rB_X0_cellAt (fun B hB => ?_)
    refine dw_ite (fun h21 => ?_) (fun h21 => ?_)
    · refine rB_X11_begins (fun B hB => ?_)
      refine rB_law (fun B hB => ?_)
      refine hB _ _ _ _ _ _ ?_
      refine dw_okV (a := 404) (as := [.int (xs 1), .int (xs 2), .int (xs 3)]) rfl rfl (show (SH1 404).1 = 12 by decide +kernel) rfl (by decide) rfl rfl ?_
      rw [hs]
      refine dw_enter rfl ?_
      refine rB_X12_begins (fun B hB => ?_)
      refine hB _ _ _ _ _ _ ?_
      refine dw_okV (a := 404) rfl rfl (show (SH1 404).1 = 12 by decide +kernel) rfl (by decide) rfl rfl ?_
      refine dw_enter rfl ?_
      refine rB_X12_asks (fun B hB => ?_)
      refine hB _ _ _ _ _ _ ?_
      refine dw_okV (a := 404) rfl rfl (show (SH1 404).1 = 12 by decide +kernel) rfl (by decide) rfl rfl ?_
      refine dw_enter rfl ?_
      refine rB_X12_isNight (fun B hB => ?_)
      refine hB _ _ _ _ _ _ ?_
      refine dw_okS rfl rfl rfl (by decide) rfl rfl ?_
      refine dw_enter rfl ?_
      refine rB_X12_isIn (fun B hB => ?_)
      refine rB_X12_isNight (fun B hB => ?_)
      refine rB_X12_asks (fun B hB => ?_)
      refine rB_X12_begins (fun B hB => ?_)
      refine rB_law (fun B hB => ?_)
      refine hB _ _ _ _ _ _ ?_
      exact law_z
    · refine dw_ite (fun h22 => ?_) (fun h22 => ?_)
      · refine rB_X11_begins (fun B hB => ?_)
        refine rB_law (fun B hB => ?_)
        refine hB _ _ _ _ _ _ ?_
        refine dw_okV (a := 404) (as := [.int (xs 1), .int (xs 2), .int (xs 3)]) rfl rfl (show (SH1 404).1 = 12 by decide +kernel) rfl (by decide) rfl rfl ?_
        rw [hs]
        refine dw_enter rfl ?_
        refine rB_X12_begins (fun B hB => ?_)
        refine hB _ _ _ _ _ _ ?_
        refine dw_okV (a := 404) rfl rfl (show (SH1 404).1 = 12 by decide +kernel) rfl (by decide) rfl rfl ?_
        refine dw_enter rfl ?_
        refine rB_X12_asks (fun B hB => ?_)
        refine hB _ _ _ _ _ _ ?_
        refine dw_okV (a := 404) rfl rfl (show (SH1 404).1 = 12 by decide +kernel) rfl (by decide) rfl rfl ?_
        refine dw_enter rfl ?_
        refine rB_X12_isNight (fun B hB => ?_)
        refine hB _ _ _ _ _ _ ?_
        refine dw_okS rfl rfl rfl (by decide) rfl rfl ?_
        refine dw_enter rfl ?_
        refine rB_X12_isIn (fun B hB => ?_)
        refine rB_X12_isNight (fun B hB => ?_)
        refine rB_X12_asks (fun B hB => ?_)
        refine rB_X12_begins (fun B hB => ?_)
        refine rB_law (fun B hB => ?_)
        refine hB _ _ _ _ _ _ ?_
        exact law_z
      · refine dw_ite (fun h23 => ?_) (fun h23 => ?_)
        · refine rB_X11_begins (fun B hB => ?_)
          refine rB_law (fun B hB => ?_)
          refine hB _ _ _ _ _ _ ?_
          refine dw_okV (a := 404) (as := [.int (xs 1), .int (xs 2), .int (xs 3)]) rfl rfl (show (SH1 404).1 = 12 by decide +kernel) rfl (by decide) rfl rfl ?_
          rw [hs]
          refine dw_enter rfl ?_
          refine rB_X12_begins (fun B hB => ?_)
          refine hB _ _ _ _ _ _ ?_
          refine dw_okV (a := 404) rfl rfl (show (SH1 404).1 = 12 by decide +kernel) rfl (by decide) rfl rfl ?_
          refine dw_enter rfl ?_
          refine rB_X12_asks (fun B hB => ?_)
          refine hB _ _ _ _ _ _ ?_
          refine dw_okV (a := 404) rfl rfl (show (SH1 404).1 = 12 by decide +kernel) rfl (by decide) rfl rfl ?_
          refine dw_enter rfl ?_
          refine rB_X12_isNight (fun B hB => ?_)
          refine hB _ _ _ _ _ _ ?_
          refine dw_okS rfl rfl rfl (by decide) rfl rfl ?_
          refine dw_enter rfl ?_
          refine rB_X12_isIn (fun B hB => ?_)
          refine rB_X12_isNight (fun B hB => ?_)
          refine rB_X12_asks (fun B hB => ?_)
          refine rB_X12_begins (fun B hB => ?_)
          refine rB_law (fun B hB => ?_)
          refine hB _ _ _ _ _ _ ?_
          exact law_z
        · refine dw_ite (fun h24 => ?_) (fun h24 => ?_)
          · refine rB_X11_begins (fun B hB => ?_)
            refine rB_law (fun B hB => ?_)
            refine hB _ _ _ _ _ _ ?_
            refine dw_okV (a := 404) (as := [.int (xs 1), .int (xs 2), .int (xs 3)]) rfl rfl (show (SH1 404).1 = 12 by decide +kernel) rfl (by decide) rfl rfl ?_
            rw [hs]
            refine dw_enter rfl ?_
            refine rB_X12_begins (fun B hB => ?_)
            refine hB _ _ _ _ _ _ ?_
            refine dw_okV (a := 404) rfl rfl (show (SH1 404).1 = 12 by decide +kernel) rfl (by decide) rfl rfl ?_
            refine dw_enter rfl ?_
            refine rB_X12_asks (fun B hB => ?_)
            refine hB _ _ _ _ _ _ ?_
            refine dw_okV (a := 404) rfl rfl (show (SH1 404).1 = 12 by decide +kernel) rfl (by decide) rfl rfl ?_
            refine dw_enter rfl ?_
            refine rB_X12_isNight (fun B hB => ?_)
            refine hB _ _ _ _ _ _ ?_
            refine dw_okS rfl rfl rfl (by decide) rfl rfl ?_
            refine dw_enter rfl ?_
            refine rB_X12_isIn (fun B hB => ?_)
            refine rB_X12_isNight (fun B hB => ?_)
            refine rB_X12_asks (fun B hB => ?_)
            refine rB_X12_begins (fun B hB => ?_)
            refine rB_law (fun B hB => ?_)
            refine hB _ _ _ _ _ _ ?_
            exact law_z
          · refine rB_X11_begins (fun B hB => ?_)
            refine dw_ite (fun h25 => ?_) (fun h25 => ?_)
            · refine rB_law (fun B hB => ?_)
              refine hB _ _ _ _ _ _ ?_
              refine dw_okV (a := 404) (as := [.int (xs 1), .int (xs 2), .int (xs 3)]) rfl rfl (show (SH1 404).1 = 12 by decide +kernel) rfl (by decide) rfl rfl ?_
              rw [hs]
              refine dw_enter rfl ?_
              refine rB_X12_begins (fun B hB => ?_)
              refine hB _ _ _ _ _ _ ?_
              refine dw_okV (a := 404) rfl rfl (show (SH1 404).1 = 12 by decide +kernel) rfl (by decide) rfl rfl ?_
              refine dw_enter rfl ?_
              refine rB_X12_asks (fun B hB => ?_)
              refine hB _ _ _ _ _ _ ?_
              refine dw_okV (a := 404) rfl rfl (show (SH1 404).1 = 12 by decide +kernel) rfl (by decide) rfl rfl ?_
              refine dw_enter rfl ?_
              refine rB_X12_isNight (fun B hB => ?_)
              refine hB _ _ _ _ _ _ ?_
              refine dw_okS rfl rfl rfl (by decide) rfl rfl ?_
              refine dw_enter rfl ?_
              refine rB_X12_isIn (fun B hB => ?_)
              refine rB_X12_isNight (fun B hB => ?_)
              refine rB_X12_asks (fun B hB => ?_)
              refine rB_X12_begins (fun B hB => ?_)
              refine rB_law (fun B hB => ?_)
              refine hB _ _ _ _ _ _ ?_
              exact law_z
            · refine hB _ _ _ _ _ _ ?_
              refine dw_okV (a := 0) rfl rfl (show (SH1 0).1 = 11 by decide +kernel) rfl (by decide) rfl rfl ?_
              refine dw_enter rfl ?_
              refine rB_X11_watched (fun B hB => ?_)
              refine hB _ _ _ _ _ _ ?_
              refine dw_okV (a := 0) rfl rfl (show (SH1 0).1 = 11 by decide +kernel) rfl (by decide) rfl rfl ?_
              refine dw_enter rfl ?_
              refine rB_X11_start (fun B hB => ?_)
              refine hB _ _ _ _ _ _ ?_
              refine dw_okV (a := 3) rfl rfl (show (SH1 3).1 = 8 by decide +kernel) rfl (by decide) rfl rfl ?_
              refine dw_enter rfl ?_
              refine rB_X8_nightOf (fun B hB => ?_)
              refine rB_X11_start (fun B hB => ?_)
              refine (fun (_ : _ ∨ _) => ?_)
              refine rB_X11_watched (fun B hB => ?_)
              refine rB_X11_begins (fun B hB => ?_)
              refine rB_law (fun B hB => ?_)
              refine hB _ _ _ _ _ _ ?_
              refine dw_okV (a := 404) (as := [.int (xs 1), .int (xs 2), .int (xs 3)]) rfl rfl (show (SH1 404).1 = 12 by decide +kernel) rfl (by decide) rfl rfl ?_
              rw [hs]
              refine dw_enter rfl ?_
              refine rB_X12_begins (fun B hB => ?_)
              refine hB _ _ _ _ _ _ ?_
              refine dw_okV (a := 404) rfl rfl (show (SH1 404).1 = 12 by decide +kernel) rfl (by decide) rfl rfl ?_
              refine dw_enter rfl ?_
              refine rB_X12_asks (fun B hB => ?_)
              refine hB _ _ _ _ _ _ ?_
              refine dw_okV (a := 404) rfl rfl (show (SH1 404).1 = 12 by decide +kernel) rfl (by decide) rfl rfl ?_
              refine dw_enter rfl ?_
              refine rB_X12_isNight (fun B hB => ?_)
              refine hB _ _ _ _ _ _ ?_
              refine dw_okS rfl rfl rfl (by decide) rfl rfl ?_
              refine dw_enter rfl ?_
              refine rB_X12_isIn (fun B hB => ?_)
              refine rB_X12_isNight (fun B hB => ?_)
              refine rB_X12_asks (fun B hB => ?_)
              refine rB_X12_begins (fun B hB => ?_)
              refine rB_law (fun B hB => ?_)
              refine hB _ _ _ _ _ _ ?_
              exact law_z
  · refine rB_law (fun B hB => ?_)
    refine hB _ _ _ _ _ _ ?_
    refine dw_okV (a := 0) (as := [.int (xs 1), .int (xs 2), .int (xs 3)]) rfl rfl (show (SH1 0).1 = 11 by decide +kernel) rfl (by decide) rfl rfl ?_
    rw [hs]
    refine dw_enter rfl ?_
    refine rB_X11_begins (fun B hB => ?_)
    refine hB _ _ _ _ _ _ ?_
    refine dw_okV (a := 4) rfl rfl (show (SH1 4).1 = 0 by decide +kernel) rfl (by decide) rfl rfl ?_
    refine dw_enter rfl ?_
    refine rB_X0_cellAt (fun B hB => ?_)
    refine dw_ite (fun h26 => ?_) (fun h26 => ?_)
    · refine rB_X11_begins (fun B hB => ?_)
      refine rB_law (fun B hB => ?_)
      refine hB _ _ _ _ _ _ ?_
      refine dw_okV (a := 404) (as := [.int (xs 1), .int (xs 2), .int (xs 3)]) rfl rfl (show (SH1 404).1 = 12 by decide +kernel) rfl (by decide) rfl rfl ?_
      rw [hs]
      refine dw_enter rfl ?_
      refine rB_X12_begins (fun B hB => ?_)
      refine hB _ _ _ _ _ _ ?_
      refine dw_okV (a := 404) rfl rfl (show (SH1 404).1 = 12 by decide +kernel) rfl (by decide) rfl rfl ?_
      refine dw_enter rfl ?_
      refine rB_X12_asks (fun B hB => ?_)
      refine hB _ _ _ _ _ _ ?_
      refine dw_okV (a := 404) rfl rfl (show (SH1 404).1 = 12 by decide +kernel) rfl (by decide) rfl rfl ?_
      refine dw_enter rfl ?_
      refine rB_X12_isNight (fun B hB => ?_)
      refine hB _ _ _ _ _ _ ?_
      refine dw_okS rfl rfl rfl (by decide) rfl rfl ?_
      refine dw_enter rfl ?_
      refine rB_X12_isIn (fun B hB => ?_)
      refine rB_X12_isNight (fun B hB => ?_)
      refine rB_X12_asks (fun B hB => ?_)
      refine rB_X12_begins (fun B hB => ?_)
      refine rB_law (fun B hB => ?_)
      refine hB _ _ _ _ _ _ ?_
      exact law_z
    · refine dw_ite (fun h27 => ?_) (fun h27 => ?_)
      · refine rB_X11_begins (fun B hB => ?_)
        refine rB_law (fun B hB => ?_)
        refine hB _ _ _ _ _ _ ?_
        refine dw_okV (a := 404) (as := [.int (xs 1), .int (xs 2), .int (xs 3)]) rfl rfl (show (SH1 404).1 = 12 by decide +kernel) rfl (by decide) rfl rfl ?_
        rw [hs]
        refine dw_enter rfl ?_
        refine rB_X12_begins (fun B hB => ?_)
        refine hB _ _ _ _ _ _ ?_
        refine dw_okV (a := 404) rfl rfl (show (SH1 404).1 = 12 by decide +kernel) rfl (by decide) rfl rfl ?_
        refine dw_enter rfl ?_
        refine rB_X12_asks (fun B hB => ?_)
        refine hB _ _ _ _ _ _ ?_
        refine dw_okV (a := 404) rfl rfl (show (SH1 404).1 = 12 by decide +kernel) rfl (by decide) rfl rfl ?_
        refine dw_enter rfl ?_
        refine rB_X12_isNight (fun B hB => ?_)
        refine hB _ _ _ _ _ _ ?_
        refine dw_okS rfl rfl rfl (by decide) rfl rfl ?_
        refine dw_enter rfl ?_
        refine rB_X12_isIn (fun B hB => ?_)
        refine rB_X12_isNight (fun B hB => ?_)
        refine rB_X12_asks (fun B hB => ?_)
        refine rB_X12_begins (fun B hB => ?_)
        refine rB_law (fun B hB => ?_)
        refine hB _ _ _ _ _ _ ?_
        exact law_z
      · refine dw_ite (fun h28 => ?_) (fun h28 => ?_)
        · refine rB_X11_begins (fun B hB => ?_)
          refine rB_law (fun B hB => ?_)
          refine hB _ _ _ _ _ _ ?_
          refine dw_okV (a := 404) (as := [.int (xs 1), .int (xs 2), .int (xs 3)]) rfl rfl (show (SH1 404).1 = 12 by decide +kernel) rfl (by decide) rfl rfl ?_
          rw [hs]
          refine dw_enter rfl ?_
          refine rB_X12_begins (fun B hB => ?_)
          refine hB _ _ _ _ _ _ ?_
          refine dw_okV (a := 404) rfl rfl (show (SH1 404).1 = 12 by decide +kernel) rfl (by decide) rfl rfl ?_
          refine dw_enter rfl ?_
          refine rB_X12_asks (fun B hB => ?_)
          refine hB _ _ _ _ _ _ ?_
          refine dw_okV (a := 404) rfl rfl (show (SH1 404).1 = 12 by decide +kernel) rfl (by decide) rfl rfl ?_
          refine dw_enter rfl ?_
          refine rB_X12_isNight (fun B hB => ?_)
          refine hB _ _ _ _ _ _ ?_
          refine dw_okS rfl rfl rfl (by decide) rfl rfl ?_
          refine dw_enter rfl ?_
          refine rB_X12_isIn (fun B hB => ?_)
          refine rB_X12_isNight (fun B hB => ?_)
          refine rB_X12_asks (fun B hB => ?_)
          refine rB_X12_begins (fun B hB => ?_)
          refine rB_law (fun B hB => ?_)
          refine hB _ _ _ _ _ _ ?_
          exact law_z
        · refine dw_ite (fun h29 => ?_) (fun h29 => ?_)
          · refine rB_X11_begins (fun B hB => ?_)
            refine rB_law (fun B hB => ?_)
            refine hB _ _ _ _ _ _ ?_
            refine dw_okV (a := 404) (as := [.int (xs 1), .int (xs 2), .int (xs 3)]) rfl rfl (show (SH1 404).1 = 12 by decide +kernel) rfl (by decide) rfl rfl ?_
            rw [hs]
            refine dw_enter rfl ?_
            refine rB_X12_begins (fun B hB => ?_)
            refine hB _ _ _ _ _ _ ?_
            refine dw_okV (a := 404) rfl rfl (show (SH1 404).1 = 12 by decide +kernel) rfl (by decide) rfl rfl ?_
            refine dw_enter rfl ?_
            refine rB_X12_asks (fun B hB => ?_)
            refine hB _ _ _ _ _ _ ?_
            refine dw_okV (a := 404) rfl rfl (show (SH1 404).1 = 12 by decide +kernel) rfl (by decide) rfl rfl ?_
            refine dw_enter rfl ?_
            refine rB_X12_isNight (fun B hB => ?_)
            refine hB _ _ _ _ _ _ ?_
            refine dw_okS rfl rfl rfl (by decide) rfl rfl ?_
            refine dw_enter rfl ?_
            refine rB_X12_isIn (fun B hB => ?_)
            refine rB_X12_isNight (fun B hB => ?_)
            refine rB_X12_asks (fun B hB => ?_)
            refine rB_X12_begins (fun B hB => ?_)
            refine rB_law (fun B hB => ?_)
            refine hB _ _ _ _ _ _ ?_
            exact law_z
          · refine rB_X11_begins (fun B hB => ?_)
            refine dw_ite (fun h30 => ?_) (fun h30 => ?_)
            · refine rB_law (fun B hB => ?_)
              refine hB _ _ _ _ _ _ ?_
              refine dw_okV (a := 404) (as := [.int (xs 1), .int (xs 2), .int (xs 3)]) rfl rfl (show (SH1 404).1 = 12 by decide +kernel) rfl (by decide) rfl rfl ?_
              rw [hs]
              refine dw_enter rfl ?_
              refine rB_X12_begins (fun B hB => ?_)
              refine hB _ _ _ _ _ _ ?_
              refine dw_okV (a := 404) rfl rfl (show (SH1 404).1 = 12 by decide +kernel) rfl (by decide) rfl rfl ?_
              refine dw_enter rfl ?_
              refine rB_X12_asks (fun B hB => ?_)
              refine hB _ _ _ _ _ _ ?_
              refine dw_okV (a := 404) rfl rfl (show (SH1 404).1 = 12 by decide +kernel) rfl (by decide) rfl rfl ?_
              refine dw_enter rfl ?_
              refine rB_X12_isNight (fun B hB => ?_)
              refine hB _ _ _ _ _ _ ?_
              refine dw_okS rfl rfl rfl (by decide) rfl rfl ?_
              refine dw_enter rfl ?_
              refine rB_X12_isIn (fun B hB => ?_)
              refine rB_X12_isNight (fun B hB => ?_)
              refine rB_X12_asks (fun B hB => ?_)
              refine rB_X12_begins (fun B hB => ?_)
              refine rB_law (fun B hB => ?_)
              refine hB _ _ _ _ _ _ ?_
              exact law_z
            · refine hB _ _ _ _ _ _ ?_
              refine dw_okV (a := 0) rfl rfl (show (SH1 0).1 = 11 by decide +kernel) rfl (by decide) rfl rfl ?_
              refine dw_enter rfl ?_
              refine rB_X11_watched (fun B hB => ?_)
              refine hB _ _ _ _ _ _ ?_
              refine dw_okV (a := 0) rfl rfl (show (SH1 0).1 = 11 by decide +kernel) rfl (by decide) rfl rfl ?_
              refine dw_enter rfl ?_
              refine rB_X11_start (fun B hB => ?_)
              refine hB _ _ _ _ _ _ ?_
              refine dw_okV (a := 3) rfl rfl (show (SH1 3).1 = 8 by decide +kernel) rfl (by decide) rfl rfl ?_
              refine dw_enter rfl ?_
              refine rB_X8_nightOf (fun B hB => ?_)
              refine rB_X11_start (fun B hB => ?_)
              refine (fun (_ : _ ∨ _) => ?_)
              refine rB_X11_watched (fun B hB => ?_)
              refine rB_X11_begins (fun B hB => ?_)
              refine rB_law (fun B hB => ?_)
              refine hB _ _ _ _ _ _ ?_
              refine dw_okV (a := 404) (as := [.int (xs 1), .int (xs 2), .int (xs 3)]) rfl rfl (show (SH1 404).1 = 12 by decide +kernel) rfl (by decide) rfl rfl ?_
              rw [hs]
              refine dw_enter rfl ?_
              refine rB_X12_begins (fun B hB => ?_)
              refine hB _ _ _ _ _ _ ?_
              refine dw_okV (a := 404) rfl rfl (show (SH1 404).1 = 12 by decide +kernel) rfl (by decide) rfl rfl ?_
              refine dw_enter rfl ?_
              refine rB_X12_asks (fun B hB => ?_)
              refine hB _ _ _ _ _ _ ?_
              refine dw_okV (a := 404) rfl rfl (show (SH1 404).1 = 12 by decide +kernel) rfl (by decide) rfl rfl ?_
              refine dw_enter rfl ?_
              refine rB_X12_isNight (fun B hB => ?_)
              refine hB _ _ _ _ _ _ ?_
              refine dw_okS rfl rfl rfl (by decide) rfl rfl ?_
              refine dw_enter rfl ?_
              refine rB_X12_isIn (fun B hB => ?_)
              refine rB_X12_isNight (fun B hB => ?_)
              refine rB_X12_asks (fun B hB => ?_)
              refine rB_X12_begins (fun B hB => ?_)
              refine rB_law (fun B hB => ?_)
              refine hB _ _ _ _ _ _ ?_
              exact law_z
  · refine rB_law (fun B hB => ?_)
    refine hB _ _ _ _ _ _ ?_
    refine dw_okV (a := 0) (as := [.int (xs 1), .int (xs 2), .int (xs 3)]) rfl rfl (show (SH1 0).1 = 11 by decide +kernel) rfl (by decide) rfl rfl ?_
    refine dw_enter rfl ?_
    refine rB_X11_begins (fun B hB => ?_)
    refine hB _ _ _ _ _ _ ?_
    refine dw_okV (a := 4) rfl rfl (show (SH1 4).1 = 0 by decide +kernel) rfl (by decide) rfl rfl ?_
    refine dw_enter rfl ?_
    refine rB_X0_cellAt (fun B hB => ?_)
    refine dw_ite (fun h31 => ?_) (fun h31 => ?_)
    · refine rB_X11_begins (fun B hB => ?_)
      refine rB_law (fun B hB => ?_)
      refine hB _ _ _ _ _ _ ?_
      refine dw_okV (a := 404) (as := [.int (xs 1), .int (xs 2), .int (xs 3)]) rfl rfl (show (SH1 404).1 = 12 by decide +kernel) rfl (by decide) rfl rfl ?_
      refine dw_enter rfl ?_
      refine rB_X12_begins (fun B hB => ?_)
      refine hB _ _ _ _ _ _ ?_
      refine dw_okV (a := 404) rfl rfl (show (SH1 404).1 = 12 by decide +kernel) rfl (by decide) rfl rfl ?_
      refine dw_enter rfl ?_
      refine rB_X12_asks (fun B hB => ?_)
      refine hB _ _ _ _ _ _ ?_
      refine dw_okV (a := 404) rfl rfl (show (SH1 404).1 = 12 by decide +kernel) rfl (by decide) rfl rfl ?_
      refine dw_enter rfl ?_
      refine rB_X12_isNight (fun B hB => ?_)
      refine hB _ _ _ _ _ _ ?_
      refine dw_okS rfl rfl rfl (by decide) rfl rfl ?_
      refine dw_enter rfl ?_
      refine rB_X12_isIn (fun B hB => ?_)
      refine dw_itp n0 ?_
      refine rB_X12_isNight (fun B hB => ?_)
      refine rB_X12_asks (fun B hB => ?_)
      refine rB_X12_begins (fun B hB => ?_)
      refine rB_law (fun B hB => ?_)
      refine hB _ _ _ _ _ _ ?_
      exact law_z
    · refine dw_ite (fun h32 => ?_) (fun h32 => ?_)
      · refine rB_X11_begins (fun B hB => ?_)
        refine rB_law (fun B hB => ?_)
        refine hB _ _ _ _ _ _ ?_
        refine dw_okV (a := 404) (as := [.int (xs 1), .int (xs 2), .int (xs 3)]) rfl rfl (show (SH1 404).1 = 12 by decide +kernel) rfl (by decide) rfl rfl ?_
        refine dw_enter rfl ?_
        refine rB_X12_begins (fun B hB => ?_)
        refine hB _ _ _ _ _ _ ?_
        refine dw_okV (a := 404) rfl rfl (show (SH1 404).1 = 12 by decide +kernel) rfl (by decide) rfl rfl ?_
        refine dw_enter rfl ?_
        refine rB_X12_asks (fun B hB => ?_)
        refine hB _ _ _ _ _ _ ?_
        refine dw_okV (a := 404) rfl rfl (show (SH1 404).1 = 12 by decide +kernel) rfl (by decide) rfl rfl ?_
        refine dw_enter rfl ?_
        refine rB_X12_isNight (fun B hB => ?_)
        refine hB _ _ _ _ _ _ ?_
        refine dw_okS rfl rfl rfl (by decide) rfl rfl ?_
        refine dw_enter rfl ?_
        refine rB_X12_isIn (fun B hB => ?_)
        refine dw_itp n0 ?_
        refine rB_X12_isNight (fun B hB => ?_)
        refine rB_X12_asks (fun B hB => ?_)
        refine rB_X12_begins (fun B hB => ?_)
        refine rB_law (fun B hB => ?_)
        refine hB _ _ _ _ _ _ ?_
        exact law_z
      · refine dw_ite (fun h33 => ?_) (fun h33 => ?_)
        · refine rB_X11_begins (fun B hB => ?_)
          refine rB_law (fun B hB => ?_)
          refine hB _ _ _ _ _ _ ?_
          refine dw_okV (a := 404) (as := [.int (xs 1), .int (xs 2), .int (xs 3)]) rfl rfl (show (SH1 404).1 = 12 by decide +kernel) rfl (by decide) rfl rfl ?_
          refine dw_enter rfl ?_
          refine rB_X12_begins (fun B hB => ?_)
          refine hB _ _ _ _ _ _ ?_
          refine dw_okV (a := 404) rfl rfl (show (SH1 404).1 = 12 by decide +kernel) rfl (by decide) rfl rfl ?_
          refine dw_enter rfl ?_
          refine rB_X12_asks (fun B hB => ?_)
          refine hB _ _ _ _ _ _ ?_
          refine dw_okV (a := 404) rfl rfl (show (SH1 404).1 = 12 by decide +kernel) rfl (by decide) rfl rfl ?_
          refine dw_enter rfl ?_
          refine rB_X12_isNight (fun B hB => ?_)
          refine hB _ _ _ _ _ _ ?_
          refine dw_okS rfl rfl rfl (by decide) rfl rfl ?_
          refine dw_enter rfl ?_
          refine rB_X12_isIn (fun B hB => ?_)
          refine dw_itp n0 ?_
          refine rB_X12_isNight (fun B hB => ?_)
          refine rB_X12_asks (fun B hB => ?_)
          refine rB_X12_begins (fun B hB => ?_)
          refine rB_law (fun B hB => ?_)
          refine hB _ _ _ _ _ _ ?_
          exact law_z
        · refine dw_ite (fun h34 => ?_) (fun h34 => ?_)
          · refine rB_X11_begins (fun B hB => ?_)
            refine rB_law (fun B hB => ?_)
            refine hB _ _ _ _ _ _ ?_
            refine dw_okV (a := 404) (as := [.int (xs 1), .int (xs 2), .int (xs 3)]) rfl rfl (show (SH1 404).1 = 12 by decide +kernel) rfl (by decide) rfl rfl ?_
            refine dw_enter rfl ?_
            refine rB_X12_begins (fun B hB => ?_)
            refine hB _ _ _ _ _ _ ?_
            refine dw_okV (a := 404) rfl rfl (show (SH1 404).1 = 12 by decide +kernel) rfl (by decide) rfl rfl ?_
            refine dw_enter rfl ?_
            refine rB_X12_asks (fun B hB => ?_)
            refine hB _ _ _ _ _ _ ?_
            refine dw_okV (a := 404) rfl rfl (show (SH1 404).1 = 12 by decide +kernel) rfl (by decide) rfl rfl ?_
            refine dw_enter rfl ?_
            refine rB_X12_isNight (fun B hB => ?_)
            refine hB _ _ _ _ _ _ ?_
            refine dw_okS rfl rfl rfl (by decide) rfl rfl ?_
            refine dw_enter rfl ?_
            refine rB_X12_isIn (fun B hB => ?_)
            refine dw_itp n0 ?_
            refine rB_X12_isNight (fun B hB => ?_)
            refine rB_X12_asks (fun B hB => ?_)
            refine rB_X12_begins (fun B hB => ?_)
            refine rB_law (fun B hB => ?_)
            refine hB _ _ _ _ _ _ ?_
            exact law_z
          · refine rB_X11_begins (fun B hB => ?_)
            refine dw_ite (fun h35 => ?_) (fun h35 => ?_)
            · refine rB_law (fun B hB => ?_)
              refine hB _ _ _ _ _ _ ?_
              refine dw_okV (a := 404) (as := [.int (xs 1), .int (xs 2), .int (xs 3)]) rfl rfl (show (SH1 404).1 = 12 by decide +kernel) rfl (by decide) rfl rfl ?_
              refine dw_enter rfl ?_
              refine rB_X12_begins (fun B hB => ?_)
              refine hB _ _ _ _ _ _ ?_
              refine dw_okV (a := 404) rfl rfl (show (SH1 404).1 = 12 by decide +kernel) rfl (by decide) rfl rfl ?_
              refine dw_enter rfl ?_
              refine rB_X12_asks (fun B hB => ?_)
              refine hB _ _ _ _ _ _ ?_
              refine dw_okV (a := 404) rfl rfl (show (SH1 404).1 = 12 by decide +kernel) rfl (by decide) rfl rfl ?_
              refine dw_enter rfl ?_
              refine rB_X12_isNight (fun B hB => ?_)
              refine hB _ _ _ _ _ _ ?_
              refine dw_okS rfl rfl rfl (by decide) rfl rfl ?_
              refine dw_enter rfl ?_
              refine rB_X12_isIn (fun B hB => ?_)
              refine dw_itp n0 ?_
              refine rB_X12_isNight (fun B hB => ?_)
              refine rB_X12_asks (fun B hB => ?_)
              refine rB_X12_begins (fun B hB => ?_)
              refine rB_law (fun B hB => ?_)
              refine hB _ _ _ _ _ _ ?_
              exact law_z
            · refine hB _ _ _ _ _ _ ?_
              refine dw_okV (a := 0) rfl rfl (show (SH1 0).1 = 11 by decide +kernel) rfl (by decide) rfl rfl ?_
              refine dw_enter rfl ?_
              refine rB_X11_watched (fun B hB => ?_)
              refine hB _ _ _ _ _ _ ?_
              refine dw_okV (a := 0) rfl rfl (show (SH1 0).1 = 11 by decide +kernel) rfl (by decide) rfl rfl ?_
              refine dw_enter rfl ?_
              refine rB_X11_start (fun B hB => ?_)
              refine hB _ _ _ _ _ _ ?_
              refine dw_okV (a := 3) rfl rfl (show (SH1 3).1 = 8 by decide +kernel) rfl (by decide) rfl rfl ?_
              refine dw_enter rfl ?_
              refine rB_X8_nightOf (fun B hB => ?_)
              refine dw_itp n0 ?_
              refine rB_X11_start (fun B hB => ?_)
              refine rB_X11_watched (fun B hB => ?_)
              refine rB_X11_begins (fun B hB => ?_)
              refine rB_law (fun B hB => ?_)
              refine hB _ _ _ _ _ _ ?_
              refine dw_okV (a := 404) (as := [.int (xs 1), .int (xs 2), .int (xs 3)]) rfl rfl (show (SH1 404).1 = 12 by decide +kernel) rfl (by decide) rfl rfl ?_
              refine dw_enter rfl ?_
              refine rB_X12_begins (fun B hB => ?_)
              refine hB _ _ _ _ _ _ ?_
              refine dw_okV (a := 404) rfl rfl (show (SH1 404).1 = 12 by decide +kernel) rfl (by decide) rfl rfl ?_
              refine dw_enter rfl ?_
              refine rB_X12_asks (fun B hB => ?_)
              refine hB _ _ _ _ _ _ ?_
              refine dw_okV (a := 404) rfl rfl (show (SH1 404).1 = 12 by decide +kernel) rfl (by decide) rfl rfl ?_
              refine dw_enter rfl ?_
              refine rB_X12_isNight (fun B hB => ?_)
              refine hB _ _ _ _ _ _ ?_
              refine dw_okS rfl rfl rfl (by decide) rfl rfl ?_
              refine dw_enter rfl ?_
              refine rB_X12_isIn (fun B hB => ?_)
              refine dw_itp n0 ?_
              refine rB_X12_isNight (fun B hB => ?_)
              refine rB_X12_asks (fun B hB => ?_)
              refine rB_X12_begins (fun B hB => ?_)
              refine rB_law (fun B hB => ?_)
              refine hB _ _ _ _ _ _ ?_
              exact law_z
  · refine rB_law (fun B hB => ?_)
    refine hB _ _ _ _ _ _ ?_
    refine dw_okV (a := 0) (as := [.int (xs 1), .int (xs 2), .int (xs 3)]) rfl rfl (show (SH1 0).1 = 11 by decide +kernel) rfl (by decide) rfl rfl ?_
    refine dw_enter rfl ?_
    refine rB_X11_begins (fun B hB => ?_)
    refine hB _ _ _ _ _ _ ?_
    refine dw_okV (a := 4) rfl rfl (show (SH1 4).1 = 0 by decide +kernel) rfl (by decide) rfl rfl ?_
    refine dw_enter rfl ?_
    refine rB_X0_cellAt (fun B hB => ?_)
    refine dw_ite (fun h36 => ?_) (fun h36 => ?_)
    · refine rB_X11_begins (fun B hB => ?_)
      refine rB_law (fun B hB => ?_)
      refine hB _ _ _ _ _ _ ?_
      refine dw_okV (a := 404) (as := [.int (xs 1), .int (xs 2), .int (xs 3)]) rfl rfl (show (SH1 404).1 = 12 by decide +kernel) rfl (by decide) rfl rfl ?_
      refine dw_enter rfl ?_
      refine rB_X12_begins (fun B hB => ?_)
      refine hB _ _ _ _ _ _ ?_
      refine dw_okV (a := 404) rfl rfl (show (SH1 404).1 = 12 by decide +kernel) rfl (by decide) rfl rfl ?_
      refine dw_enter rfl ?_
      refine rB_X12_asks (fun B hB => ?_)
      refine hB _ _ _ _ _ _ ?_
      refine dw_okV (a := 404) rfl rfl (show (SH1 404).1 = 12 by decide +kernel) rfl (by decide) rfl rfl ?_
      refine dw_enter rfl ?_
      refine rB_X12_isNight (fun B hB => ?_)
      refine hB _ _ _ _ _ _ ?_
      refine dw_okS rfl rfl rfl (by decide) rfl rfl ?_
      refine dw_enter rfl ?_
      refine rB_X12_isIn (fun B hB => ?_)
      refine dw_itn n1 ?_
      refine dw_itp n2 ?_
      refine rB_X12_isNight (fun B hB => ?_)
      refine rB_X12_asks (fun B hB => ?_)
      refine rB_X12_begins (fun B hB => ?_)
      refine rB_law (fun B hB => ?_)
      refine hB _ _ _ _ _ _ ?_
      exact law_z
    · refine dw_ite (fun h37 => ?_) (fun h37 => ?_)
      · refine rB_X11_begins (fun B hB => ?_)
        refine rB_law (fun B hB => ?_)
        refine hB _ _ _ _ _ _ ?_
        refine dw_okV (a := 404) (as := [.int (xs 1), .int (xs 2), .int (xs 3)]) rfl rfl (show (SH1 404).1 = 12 by decide +kernel) rfl (by decide) rfl rfl ?_
        refine dw_enter rfl ?_
        refine rB_X12_begins (fun B hB => ?_)
        refine hB _ _ _ _ _ _ ?_
        refine dw_okV (a := 404) rfl rfl (show (SH1 404).1 = 12 by decide +kernel) rfl (by decide) rfl rfl ?_
        refine dw_enter rfl ?_
        refine rB_X12_asks (fun B hB => ?_)
        refine hB _ _ _ _ _ _ ?_
        refine dw_okV (a := 404) rfl rfl (show (SH1 404).1 = 12 by decide +kernel) rfl (by decide) rfl rfl ?_
        refine dw_enter rfl ?_
        refine rB_X12_isNight (fun B hB => ?_)
        refine hB _ _ _ _ _ _ ?_
        refine dw_okS rfl rfl rfl (by decide) rfl rfl ?_
        refine dw_enter rfl ?_
        refine rB_X12_isIn (fun B hB => ?_)
        refine dw_itn n1 ?_
        refine dw_itp n2 ?_
        refine rB_X12_isNight (fun B hB => ?_)
        refine rB_X12_asks (fun B hB => ?_)
        refine rB_X12_begins (fun B hB => ?_)
        refine rB_law (fun B hB => ?_)
        refine hB _ _ _ _ _ _ ?_
        exact law_z
      · refine dw_ite (fun h38 => ?_) (fun h38 => ?_)
        · refine rB_X11_begins (fun B hB => ?_)
          refine rB_law (fun B hB => ?_)
          refine hB _ _ _ _ _ _ ?_
          refine dw_okV (a := 404) (as := [.int (xs 1), .int (xs 2), .int (xs 3)]) rfl rfl (show (SH1 404).1 = 12 by decide +kernel) rfl (by decide) rfl rfl ?_
          refine dw_enter rfl ?_
          refine rB_X12_begins (fun B hB => ?_)
          refine hB _ _ _ _ _ _ ?_
          refine dw_okV (a := 404) rfl rfl (show (SH1 404).1 = 12 by decide +kernel) rfl (by decide) rfl rfl ?_
          refine dw_enter rfl ?_
          refine rB_X12_asks (fun B hB => ?_)
          refine hB _ _ _ _ _ _ ?_
          refine dw_okV (a := 404) rfl rfl (show (SH1 404).1 = 12 by decide +kernel) rfl (by decide) rfl rfl ?_
          refine dw_enter rfl ?_
          refine rB_X12_isNight (fun B hB => ?_)
          refine hB _ _ _ _ _ _ ?_
          refine dw_okS rfl rfl rfl (by decide) rfl rfl ?_
          refine dw_enter rfl ?_
          refine rB_X12_isIn (fun B hB => ?_)
          refine dw_itn n1 ?_
          refine dw_itp n2 ?_
          refine rB_X12_isNight (fun B hB => ?_)
          refine rB_X12_asks (fun B hB => ?_)
          refine rB_X12_begins (fun B hB => ?_)
          refine rB_law (fun B hB => ?_)
          refine hB _ _ _ _ _ _ ?_
          exact law_z
        · refine dw_ite (fun h39 => ?_) (fun h39 => ?_)
          · refine rB_X11_begins (fun B hB => ?_)
            refine rB_law (fun B hB => ?_)
            refine hB _ _ _ _ _ _ ?_
            refine dw_okV (a := 404) (as := [.int (xs 1), .int (xs 2), .int (xs 3)]) rfl rfl (show (SH1 404).1 = 12 by decide +kernel) rfl (by decide) rfl rfl ?_
            refine dw_enter rfl ?_
            refine rB_X12_begins (fun B hB => ?_)
            refine hB _ _ _ _ _ _ ?_
            refine dw_okV (a := 404) rfl rfl (show (SH1 404).1 = 12 by decide +kernel) rfl (by decide) rfl rfl ?_
            refine dw_enter rfl ?_
            refine rB_X12_asks (fun B hB => ?_)
            refine hB _ _ _ _ _ _ ?_
            refine dw_okV (a := 404) rfl rfl (show (SH1 404).1 = 12 by decide +kernel) rfl (by decide) rfl rfl ?_
            refine dw_enter rfl ?_
            refine rB_X12_isNight (fun B hB => ?_)
            refine hB _ _ _ _ _ _ ?_
            refine dw_okS rfl rfl rfl (by decide) rfl rfl ?_
            refine dw_enter rfl ?_
            refine rB_X12_isIn (fun B hB => ?_)
            refine dw_itn n1 ?_
            refine dw_itp n2 ?_
            refine rB_X12_isNight (fun B hB => ?_)
            refine rB_X12_asks (fun B hB => ?_)
            refine rB_X12_begins (fun B hB => ?_)
            refine rB_law (fun B hB => ?_)
            refine hB _ _ _ _ _ _ ?_
            exact law_z
          · refine rB_X11_begins (fun B hB => ?_)
            refine dw_ite (fun h40 => ?_) (fun h40 => ?_)
            · refine rB_law (fun B hB => ?_)
              refine hB _ _ _ _ _ _ ?_
              refine dw_okV (a := 404) (as := [.int (xs 1), .int (xs 2), .int (xs 3)]) rfl rfl (show (SH1 404).1 = 12 by decide +kernel) rfl (by decide) rfl rfl ?_
              refine dw_enter rfl ?_
              refine rB_X12_begins (fun B hB => ?_)
              refine hB _ _ _ _ _ _ ?_
              refine dw_okV (a := 404) rfl rfl (show (SH1 404).1 = 12 by decide +kernel) rfl (by decide) rfl rfl ?_
              refine dw_enter rfl ?_
              refine rB_X12_asks (fun B hB => ?_)
              refine hB _ _ _ _ _ _ ?_
              refine dw_okV (a := 404) rfl rfl (show (SH1 404).1 = 12 by decide +kernel) rfl (by decide) rfl rfl ?_
              refine dw_enter rfl ?_
              refine rB_X12_isNight (fun B hB => ?_)
              refine hB _ _ _ _ _ _ ?_
              refine dw_okS rfl rfl rfl (by decide) rfl rfl ?_
              refine dw_enter rfl ?_
              refine rB_X12_isIn (fun B hB => ?_)
              refine dw_itn n1 ?_
              refine dw_itp n2 ?_
              refine rB_X12_isNight (fun B hB => ?_)
              refine rB_X12_asks (fun B hB => ?_)
              refine rB_X12_begins (fun B hB => ?_)
              refine rB_law (fun B hB => ?_)
              refine hB _ _ _ _ _ _ ?_
              exact law_z
            · refine hB _ _ _ _ _ _ ?_
              refine dw_okV (a := 0) rfl rfl (show (SH1 0).1 = 11 by decide +kernel) rfl (by decide) rfl rfl ?_
              refine dw_enter rfl ?_
              refine rB_X11_watched (fun B hB => ?_)
              refine hB _ _ _ _ _ _ ?_
              refine dw_okV (a := 0) rfl rfl (show (SH1 0).1 = 11 by decide +kernel) rfl (by decide) rfl rfl ?_
              refine dw_enter rfl ?_
              refine rB_X11_start (fun B hB => ?_)
              refine hB _ _ _ _ _ _ ?_
              refine dw_okV (a := 3) rfl rfl (show (SH1 3).1 = 8 by decide +kernel) rfl (by decide) rfl rfl ?_
              refine dw_enter rfl ?_
              refine rB_X8_nightOf (fun B hB => ?_)
              refine dw_itn n1 ?_
              refine dw_itp n3 ?_
              refine rB_X11_start (fun B hB => ?_)
              refine rB_X11_watched (fun B hB => ?_)
              refine rB_X11_begins (fun B hB => ?_)
              refine rB_law (fun B hB => ?_)
              refine hB _ _ _ _ _ _ ?_
              refine dw_okV (a := 404) (as := [.int (xs 1), .int (xs 2), .int (xs 3)]) rfl rfl (show (SH1 404).1 = 12 by decide +kernel) rfl (by decide) rfl rfl ?_
              refine dw_enter rfl ?_
              refine rB_X12_begins (fun B hB => ?_)
              refine hB _ _ _ _ _ _ ?_
              refine dw_okV (a := 404) rfl rfl (show (SH1 404).1 = 12 by decide +kernel) rfl (by decide) rfl rfl ?_
              refine dw_enter rfl ?_
              refine rB_X12_asks (fun B hB => ?_)
              refine hB _ _ _ _ _ _ ?_
              refine dw_okV (a := 404) rfl rfl (show (SH1 404).1 = 12 by decide +kernel) rfl (by decide) rfl rfl ?_
              refine dw_enter rfl ?_
              refine rB_X12_isNight (fun B hB => ?_)
              refine hB _ _ _ _ _ _ ?_
              refine dw_okS rfl rfl rfl (by decide) rfl rfl ?_
              refine dw_enter rfl ?_
              refine rB_X12_isIn (fun B hB => ?_)
              refine dw_itn n1 ?_
              refine dw_itp n2 ?_
              refine rB_X12_isNight (fun B hB => ?_)
              refine rB_X12_asks (fun B hB => ?_)
              refine rB_X12_begins (fun B hB => ?_)
              refine rB_law (fun B hB => ?_)
              refine hB _ _ _ _ _ _ ?_
              exact law_z
set_option maxHeartbeats 2000000 in
set_option maxRecDepth 20000 in
theorem law_c17 {xs : Nat → Int32} : dw_ok (pr_law 6 xs) 879 599567 7247295 (dw_l1 0 none none) [] (435, SH1, IN1, JN1) := by
  rcases dw_rng6 (xs 1) with hs | hs | hs | hs | hs | hs | ⟨n0, n1⟩ | ⟨n0, n1, n2, n3, n4, n5, n6⟩
  · refine rB_law (fun B hB => ?_)
    refine hB _ _ _ _ _ _ ?_
    refine dw_okV (a := 0) (as := [.int (xs 1), .int (xs 2), .int (xs 3)]) rfl rfl (show (SH1 0).1 = 11 by decide +kernel) rfl (by decide) rfl rfl ?_
    rw [hs]
    refine dw_enter rfl ?_
    refine rB_X11_gone (fun B hB => ?_)
    refine hB _ _ _ _ _ _ ?_
    refine dw_okV (a := 4) rfl rfl (show (SH1 4).1 = 0 by decide +kernel) rfl (by decide) rfl rfl ?_
    refine dw_enter rfl ?_
    refine rB_X0_cellAt (fun B hB => ?_)
    refine dw_ite (fun h1 => ?_) (fun h1 => ?_)
    · refine rB_X11_gone (fun B hB => ?_)
      refine rB_law (fun B hB => ?_)
      refine hB _ _ _ _ _ _ ?_
      refine dw_okV (a := 404) (as := [.int (xs 1), .int (xs 2), .int (xs 3)]) rfl rfl (show (SH1 404).1 = 12 by decide +kernel) rfl (by decide) rfl rfl ?_
      rw [hs]
      refine dw_enter rfl ?_
      refine rB_X12_gone (fun B hB => ?_)
      refine hB _ _ _ _ _ _ ?_
      refine dw_okV (a := 404) rfl rfl (show (SH1 404).1 = 12 by decide +kernel) rfl (by decide) rfl rfl ?_
      refine dw_enter rfl ?_
      refine rB_X12_asks (fun B hB => ?_)
      refine hB _ _ _ _ _ _ ?_
      refine dw_okV (a := 404) rfl rfl (show (SH1 404).1 = 12 by decide +kernel) rfl (by decide) rfl rfl ?_
      refine dw_enter rfl ?_
      refine rB_X12_isNight (fun B hB => ?_)
      refine hB _ _ _ _ _ _ ?_
      refine dw_okS rfl rfl rfl (by decide) rfl rfl ?_
      refine dw_enter rfl ?_
      refine rB_X12_isIn (fun B hB => ?_)
      refine rB_X12_isNight (fun B hB => ?_)
      refine rB_X12_asks (fun B hB => ?_)
      refine rB_X12_gone (fun B hB => ?_)
      refine rB_law (fun B hB => ?_)
      refine hB _ _ _ _ _ _ ?_
      exact law_z
    · refine dw_ite (fun h2 => ?_) (fun h2 => ?_)
      · refine rB_X11_gone (fun B hB => ?_)
        refine rB_law (fun B hB => ?_)
        refine hB _ _ _ _ _ _ ?_
        refine dw_okV (a := 404) (as := [.int (xs 1), .int (xs 2), .int (xs 3)]) rfl rfl (show (SH1 404).1 = 12 by decide +kernel) rfl (by decide) rfl rfl ?_
        rw [hs]
        refine dw_enter rfl ?_
        refine rB_X12_gone (fun B hB => ?_)
        refine hB _ _ _ _ _ _ ?_
        refine dw_okV (a := 404) rfl rfl (show (SH1 404).1 = 12 by decide +kernel) rfl (by decide) rfl rfl ?_
        refine dw_enter rfl ?_
        refine rB_X12_asks (fun B hB => ?_)
        refine hB _ _ _ _ _ _ ?_
        refine dw_okV (a := 404) rfl rfl (show (SH1 404).1 = 12 by decide +kernel) rfl (by decide) rfl rfl ?_
        refine dw_enter rfl ?_
        refine rB_X12_isNight (fun B hB => ?_)
        refine hB _ _ _ _ _ _ ?_
        refine dw_okS rfl rfl rfl (by decide) rfl rfl ?_
        refine dw_enter rfl ?_
        refine rB_X12_isIn (fun B hB => ?_)
        refine rB_X12_isNight (fun B hB => ?_)
        refine rB_X12_asks (fun B hB => ?_)
        refine rB_X12_gone (fun B hB => ?_)
        refine rB_law (fun B hB => ?_)
        refine hB _ _ _ _ _ _ ?_
        exact law_z
      · refine dw_ite (fun h3 => ?_) (fun h3 => ?_)
        · refine rB_X11_gone (fun B hB => ?_)
          refine rB_law (fun B hB => ?_)
          refine hB _ _ _ _ _ _ ?_
          refine dw_okV (a := 404) (as := [.int (xs 1), .int (xs 2), .int (xs 3)]) rfl rfl (show (SH1 404).1 = 12 by decide +kernel) rfl (by decide) rfl rfl ?_
          rw [hs]
          refine dw_enter rfl ?_
          refine rB_X12_gone (fun B hB => ?_)
          refine hB _ _ _ _ _ _ ?_
          refine dw_okV (a := 404) rfl rfl (show (SH1 404).1 = 12 by decide +kernel) rfl (by decide) rfl rfl ?_
          refine dw_enter rfl ?_
          refine rB_X12_asks (fun B hB => ?_)
          refine hB _ _ _ _ _ _ ?_
          refine dw_okV (a := 404) rfl rfl (show (SH1 404).1 = 12 by decide +kernel) rfl (by decide) rfl rfl ?_
          refine dw_enter rfl ?_
          refine rB_X12_isNight (fun B hB => ?_)
          refine hB _ _ _ _ _ _ ?_
          refine dw_okS rfl rfl rfl (by decide) rfl rfl ?_
          refine dw_enter rfl ?_
          refine rB_X12_isIn (fun B hB => ?_)
          refine rB_X12_isNight (fun B hB => ?_)
          refine rB_X12_asks (fun B hB => ?_)
          refine rB_X12_gone (fun B hB => ?_)
          refine rB_law (fun B hB => ?_)
          refine hB _ _ _ _ _ _ ?_
          exact law_z
        · refine dw_ite (fun h4 => ?_) (fun h4 => ?_)
          · refine rB_X11_gone (fun B hB => ?_)
            refine rB_law (fun B hB => ?_)
            refine hB _ _ _ _ _ _ ?_
            refine dw_okV (a := 404) (as := [.int (xs 1), .int (xs 2), .int (xs 3)]) rfl rfl (show (SH1 404).1 = 12 by decide +kernel) rfl (by decide) rfl rfl ?_
            rw [hs]
            refine dw_enter rfl ?_
            refine rB_X12_gone (fun B hB => ?_)
            refine hB _ _ _ _ _ _ ?_
            refine dw_okV (a := 404) rfl rfl (show (SH1 404).1 = 12 by decide +kernel) rfl (by decide) rfl rfl ?_
            refine dw_enter rfl ?_
            refine rB_X12_asks (fun B hB => ?_)
            refine hB _ _ _ _ _ _ ?_
            refine dw_okV (a := 404) rfl rfl (show (SH1 404).1 = 12 by decide +kernel) rfl (by decide) rfl rfl ?_
            refine dw_enter rfl ?_
            refine rB_X12_isNight (fun B hB => ?_)
            refine hB _ _ _ _ _ _ ?_
            refine dw_okS rfl rfl rfl (by decide) rfl rfl ?_
            refine dw_enter rfl ?_
            refine rB_X12_isIn (fun B hB => ?_)
            refine rB_X12_isNight (fun B hB => ?_)
            refine rB_X12_asks (fun B hB => ?_)
            refine rB_X12_gone (fun B hB => ?_)
            refine rB_law (fun B hB => ?_)
            refine hB _ _ _ _ _ _ ?_
            exact law_z
          · refine rB_X11_gone (fun B hB => ?_)
            refine dw_ite (fun h5 => ?_) (fun h5 => ?_)
            · refine rB_law (fun B hB => ?_)
              refine hB _ _ _ _ _ _ ?_
              refine dw_okV (a := 404) (as := [.int (xs 1), .int (xs 2), .int (xs 3)]) rfl rfl (show (SH1 404).1 = 12 by decide +kernel) rfl (by decide) rfl rfl ?_
              rw [hs]
              refine dw_enter rfl ?_
              refine rB_X12_gone (fun B hB => ?_)
              refine hB _ _ _ _ _ _ ?_
              refine dw_okV (a := 404) rfl rfl (show (SH1 404).1 = 12 by decide +kernel) rfl (by decide) rfl rfl ?_
              refine dw_enter rfl ?_
              refine rB_X12_asks (fun B hB => ?_)
              refine hB _ _ _ _ _ _ ?_
              refine dw_okV (a := 404) rfl rfl (show (SH1 404).1 = 12 by decide +kernel) rfl (by decide) rfl rfl ?_
              refine dw_enter rfl ?_
              refine rB_X12_isNight (fun B hB => ?_)
              refine hB _ _ _ _ _ _ ?_
              refine dw_okS rfl rfl rfl (by decide) rfl rfl ?_
              refine dw_enter rfl ?_
              refine rB_X12_isIn (fun B hB => ?_)
              refine rB_X12_isNight (fun B hB => ?_)
              refine rB_X12_asks (fun B hB => ?_)
              refine rB_X12_gone (fun B hB => ?_)
              refine rB_law (fun B hB => ?_)
              refine hB _ _ _ _ _ _ ?_
              exact law_z
            · refine hB _ _ _ _ _ _ ?_
              refine dw_okV (a := 0) rfl rfl (show (SH1 0).1 = 11 by decide +kernel) rfl (by decide) rfl rfl ?_
              refine dw_enter rfl ?_
              refine rB_X11_watched (fun B hB => ?_)
              refine hB _ _ _ _ _ _ ?_
              refine dw_okV (a := 0) rfl rfl (show (SH1 0).1 = 11 by decide +kernel) rfl (by decide) rfl rfl ?_
              refine dw_enter rfl ?_
              refine rB_X11_start (fun B hB => ?_)
              refine hB _ _ _ _ _ _ ?_
              refine dw_okV (a := 3) rfl rfl (show (SH1 3).1 = 8 by decide +kernel) rfl (by decide) rfl rfl ?_
              refine dw_enter rfl ?_
              refine rB_X8_nightOf (fun B hB => ?_)
              refine rB_X11_start (fun B hB => ?_)
              refine (fun (_ : _ ∨ _) => ?_)
              refine rB_X11_watched (fun B hB => ?_)
              refine rB_X11_gone (fun B hB => ?_)
              refine rB_law (fun B hB => ?_)
              refine hB _ _ _ _ _ _ ?_
              refine dw_okV (a := 404) (as := [.int (xs 1), .int (xs 2), .int (xs 3)]) rfl rfl (show (SH1 404).1 = 12 by decide +kernel) rfl (by decide) rfl rfl ?_
              rw [hs]
              refine dw_enter rfl ?_
              refine rB_X12_gone (fun B hB => ?_)
              refine hB _ _ _ _ _ _ ?_
              refine dw_okV (a := 404) rfl rfl (show (SH1 404).1 = 12 by decide +kernel) rfl (by decide) rfl rfl ?_
              refine dw_enter rfl ?_
              refine rB_X12_asks (fun B hB => ?_)
              refine hB _ _ _ _ _ _ ?_
              refine dw_okV (a := 404) rfl rfl (show (SH1 404).1 = 12 by decide +kernel) rfl (by decide) rfl rfl ?_
              refine dw_enter rfl ?_
              refine rB_X12_isNight (fun B hB => ?_)
              refine hB _ _ _ _ _ _ ?_
              refine dw_okS rfl rfl rfl (by decide) rfl rfl ?_
              refine dw_enter rfl ?_
              refine rB_X12_isIn (fun B hB => ?_)
              refine rB_X12_isNight (fun B hB => ?_)
              refine rB_X12_asks (fun B hB => ?_)
              refine rB_X12_gone (fun B hB => ?_)
              refine rB_law (fun B hB => ?_)
              refine hB _ _ _ _ _ _ ?_
              exact law_z
  · refine rB_law (fun B hB => ?_)
    refine hB _ _ _ _ _ _ ?_
    refine dw_okV (a := 0) (as := [.int (xs 1), .int (xs 2), .int (xs 3)]) rfl rfl (show (SH1 0).1 = 11 by decide +kernel) rfl (by decide) rfl rfl ?_
    rw [hs]
    refine dw_enter rfl ?_
    refine rB_X11_gone (fun B hB => ?_)
    refine hB _ _ _ _ _ _ ?_
    refine dw_okV (a := 4) rfl rfl (show (SH1 4).1 = 0 by decide +kernel) rfl (by decide) rfl rfl ?_
    refine dw_enter rfl ?_
    refine rB_X0_cellAt (fun B hB => ?_)
    refine dw_ite (fun h6 => ?_) (fun h6 => ?_)
    · refine rB_X11_gone (fun B hB => ?_)
      refine rB_law (fun B hB => ?_)
      refine hB _ _ _ _ _ _ ?_
      refine dw_okV (a := 404) (as := [.int (xs 1), .int (xs 2), .int (xs 3)]) rfl rfl (show (SH1 404).1 = 12 by decide +kernel) rfl (by decide) rfl rfl ?_
      rw [hs]
      refine dw_enter rfl ?_
      refine rB_X12_gone (fun B hB => ?_)
      refine hB _ _ _ _ _ _ ?_
      refine dw_okV (a := 404) rfl rfl (show (SH1 404).1 = 12 by decide +kernel) rfl (by decide) rfl rfl ?_
      refine dw_enter rfl ?_
      refine rB_X12_asks (fun B hB => ?_)
      refine hB _ _ _ _ _ _ ?_
      refine dw_okV (a := 404) rfl rfl (show (SH1 404).1 = 12 by decide +kernel) rfl (by decide) rfl rfl ?_
      refine dw_enter rfl ?_
      refine rB_X12_isNight (fun B hB => ?_)
      refine hB _ _ _ _ _ _ ?_
      refine dw_okS rfl rfl rfl (by decide) rfl rfl ?_
      refine dw_enter rfl ?_
      refine rB_X12_isIn (fun B hB => ?_)
      refine rB_X12_isNight (fun B hB => ?_)
      refine rB_X12_asks (fun B hB => ?_)
      refine rB_X12_gone (fun B hB => ?_)
      refine rB_law (fun B hB => ?_)
      refine hB _ _ _ _ _ _ ?_
      exact law_z
    · refine dw_ite (fun h7 => ?_) (fun h7 => ?_)
      · refine rB_X11_gone (fun B hB => ?_)
        refine rB_law (fun B hB => ?_)
        refine hB _ _ _ _ _ _ ?_
        refine dw_okV (a := 404) (as := [.int (xs 1), .int (xs 2), .int (xs 3)]) rfl rfl (show (SH1 404).1 = 12 by decide +kernel) rfl (by decide) rfl rfl ?_
        rw [hs]
        refine dw_enter rfl ?_
        refine rB_X12_gone (fun B hB => ?_)
        refine hB _ _ _ _ _ _ ?_
        refine dw_okV (a := 404) rfl rfl (show (SH1 404).1 = 12 by decide +kernel) rfl (by decide) rfl rfl ?_
        refine dw_enter rfl ?_
        refine rB_X12_asks (fun B hB => ?_)
        refine hB _ _ _ _ _ _ ?_
        refine dw_okV (a := 404) rfl rfl (show (SH1 404).1 = 12 by decide +kernel) rfl (by decide) rfl rfl ?_
        refine dw_enter rfl ?_
        refine rB_X12_isNight (fun B hB => ?_)
        refine hB _ _ _ _ _ _ ?_
        refine dw_okS rfl rfl rfl (by decide) rfl rfl ?_
        refine dw_enter rfl ?_
        refine rB_X12_isIn (fun B hB => ?_)
        refine rB_X12_isNight (fun B hB => ?_)
        refine rB_X12_asks (fun B hB => ?_)
        refine rB_X12_gone (fun B hB => ?_)
        refine rB_law (fun B hB => ?_)
        refine hB _ _ _ _ _ _ ?_
        exact law_z
      · refine dw_ite (fun h8 => ?_) (fun h8 => ?_)
        · refine rB_X11_gone (fun B hB => ?_)
          refine rB_law (fun B hB => ?_)
          refine hB _ _ _ _ _ _ ?_
          refine dw_okV (a := 404) (as := [.int (xs 1), .int (xs 2), .int (xs 3)]) rfl rfl (show (SH1 404).1 = 12 by decide +kernel) rfl (by decide) rfl rfl ?_
          rw [hs]
          refine dw_enter rfl ?_
          refine rB_X12_gone (fun B hB => ?_)
          refine hB _ _ _ _ _ _ ?_
          refine dw_okV (a := 404) rfl rfl (show (SH1 404).1 = 12 by decide +kernel) rfl (by decide) rfl rfl ?_
          refine dw_enter rfl ?_
          refine rB_X12_asks (fun B hB => ?_)
          refine hB _ _ _ _ _ _ ?_
          refine dw_okV (a := 404) rfl rfl (show (SH1 404).1 = 12 by decide +kernel) rfl (by decide) rfl rfl ?_
          refine dw_enter rfl ?_
          refine rB_X12_isNight (fun B hB => ?_)
          refine hB _ _ _ _ _ _ ?_
          refine dw_okS rfl rfl rfl (by decide) rfl rfl ?_
          refine dw_enter rfl ?_
          refine rB_X12_isIn (fun B hB => ?_)
          refine rB_X12_isNight (fun B hB => ?_)
          refine rB_X12_asks (fun B hB => ?_)
          refine rB_X12_gone (fun B hB => ?_)
          refine rB_law (fun B hB => ?_)
          refine hB _ _ _ _ _ _ ?_
          exact law_z
        · refine dw_ite (fun h9 => ?_) (fun h9 => ?_)
          · refine rB_X11_gone (fun B hB => ?_)
            refine rB_law (fun B hB => ?_)
            refine hB _ _ _ _ _ _ ?_
            refine dw_okV (a := 404) (as := [.int (xs 1), .int (xs 2), .int (xs 3)]) rfl rfl (show (SH1 404).1 = 12 by decide +kernel) rfl (by decide) rfl rfl ?_
            rw [hs]
            refine dw_enter rfl ?_
            refine rB_X12_gone (fun B hB => ?_)
            refine hB _ _ _ _ _ _ ?_
            refine dw_okV (a := 404) rfl rfl (show (SH1 404).1 = 12 by decide +kernel) rfl (by decide) rfl rfl ?_
            refine dw_enter rfl ?_
            refine rB_X12_asks (fun B hB => ?_)
            refine hB _ _ _ _ _ _ ?_
            refine dw_okV (a := 404) rfl rfl (show (SH1 404).1 = 12 by decide +kernel) rfl (by decide) rfl rfl ?_
            refine dw_enter rfl ?_
            refine rB_X12_isNight (fun B hB => ?_)
            refine hB _ _ _ _ _ _ ?_
            refine dw_okS rfl rfl rfl (by decide) rfl rfl ?_
            refine dw_enter rfl ?_
            refine rB_X12_isIn (fun B hB => ?_)
            refine rB_X12_isNight (fun B hB => ?_)
            refine rB_X12_asks (fun B hB => ?_)
            refine rB_X12_gone (fun B hB => ?_)
            refine rB_law (fun B hB => ?_)
            refine hB _ _ _ _ _ _ ?_
            exact law_z
          · refine rB_X11_gone (fun B hB => ?_)
            refine dw_ite (fun h10 => ?_) (fun h10 => ?_)
            · refine rB_law (fun B hB => ?_)
              refine hB _ _ _ _ _ _ ?_
              refine dw_okV (a := 404) (as := [.int (xs 1), .int (xs 2), .int (xs 3)]) rfl rfl (show (SH1 404).1 = 12 by decide +kernel) rfl (by decide) rfl rfl ?_
              rw [hs]
              refine dw_enter rfl ?_
              refine rB_X12_gone (fun B hB => ?_)
              refine hB _ _ _ _ _ _ ?_
              refine dw_okV (a := 404) rfl rfl (show (SH1 404).1 = 12 by decide +kernel) rfl (by decide) rfl rfl ?_
              refine dw_enter rfl ?_
              refine rB_X12_asks (fun B hB => ?_)
              refine hB _ _ _ _ _ _ ?_
              refine dw_okV (a := 404) rfl rfl (show (SH1 404).1 = 12 by decide +kernel) rfl (by decide) rfl rfl ?_
              refine dw_enter rfl ?_
              refine rB_X12_isNight (fun B hB => ?_)
              refine hB _ _ _ _ _ _ ?_
              refine dw_okS rfl rfl rfl (by decide) rfl rfl ?_
              refine dw_enter rfl ?_
              refine rB_X12_isIn (fun B hB => ?_)
              refine rB_X12_isNight (fun B hB => ?_)
              refine rB_X12_asks (fun B hB => ?_)
              refine rB_X12_gone (fun B hB => ?_)
              refine rB_law (fun B hB => ?_)
              refine hB _ _ _ _ _ _ ?_
              exact law_z
            · refine hB _ _ _ _ _ _ ?_
              refine dw_okV (a := 0) rfl rfl (show (SH1 0).1 = 11 by decide +kernel) rfl (by decide) rfl rfl ?_
              refine dw_enter rfl ?_
              refine rB_X11_watched (fun B hB => ?_)
              refine hB _ _ _ _ _ _ ?_
              refine dw_okV (a := 0) rfl rfl (show (SH1 0).1 = 11 by decide +kernel) rfl (by decide) rfl rfl ?_
              refine dw_enter rfl ?_
              refine rB_X11_start (fun B hB => ?_)
              refine hB _ _ _ _ _ _ ?_
              refine dw_okV (a := 3) rfl rfl (show (SH1 3).1 = 8 by decide +kernel) rfl (by decide) rfl rfl ?_
              refine dw_enter rfl ?_
              refine rB_X8_nightOf (fun B hB => ?_)
              refine rB_X11_start (fun B hB => ?_)
              refine (fun (_ : _ ∨ _) => ?_)
              refine rB_X11_watched (fun B hB => ?_)
              refine rB_X11_gone (fun B hB => ?_)
              refine rB_law (fun B hB => ?_)
              refine hB _ _ _ _ _ _ ?_
              refine dw_okV (a := 404) (as := [.int (xs 1), .int (xs 2), .int (xs 3)]) rfl rfl (show (SH1 404).1 = 12 by decide +kernel) rfl (by decide) rfl rfl ?_
              rw [hs]
              refine dw_enter rfl ?_
              refine rB_X12_gone (fun B hB => ?_)
              refine hB _ _ _ _ _ _ ?_
              refine dw_okV (a := 404) rfl rfl (show (SH1 404).1 = 12 by decide +kernel) rfl (by decide) rfl rfl ?_
              refine dw_enter rfl ?_
              refine rB_X12_asks (fun B hB => ?_)
              refine hB _ _ _ _ _ _ ?_
              refine dw_okV (a := 404) rfl rfl (show (SH1 404).1 = 12 by decide +kernel) rfl (by decide) rfl rfl ?_
              refine dw_enter rfl ?_
              refine rB_X12_isNight (fun B hB => ?_)
              refine hB _ _ _ _ _ _ ?_
              refine dw_okS rfl rfl rfl (by decide) rfl rfl ?_
              refine dw_enter rfl ?_
              refine rB_X12_isIn (fun B hB => ?_)
              refine rB_X12_isNight (fun B hB => ?_)
              refine rB_X12_asks (fun B hB => ?_)
              refine rB_X12_gone (fun B hB => ?_)
              refine rB_law (fun B hB => ?_)
              refine hB _ _ _ _ _ _ ?_
              exact law_z
  · refine rB_law (fun B hB => ?_)
    refine hB _ _ _ _ _ _ ?_
    refine dw_okV (a := 0) (as := [.int (xs 1), .int (xs 2), .int (xs 3)]) rfl rfl (show (SH1 0).1 = 11 by decide +kernel) rfl (by decide) rfl rfl ?_
    rw [hs]
    refine dw_enter rfl ?_
    refine rB_X11_gone (fun B hB => ?_)
    refine hB _ _ _ _ _ _ ?_
    refine dw_okV (a := 4) rfl rfl (show (SH1 4).1 = 0 by decide +kernel) rfl (by decide) rfl rfl ?_
    refine dw_enter rfl ?_
    refine rB_X0_cellAt (fun B hB => ?_)
    refine dw_ite (fun h11 => ?_) (fun h11 => ?_)
    · refine rB_X11_gone (fun B hB => ?_)
      refine rB_law (fun B hB => ?_)
      refine hB _ _ _ _ _ _ ?_
      refine dw_okV (a := 404) (as := [.int (xs 1), .int (xs 2), .int (xs 3)]) rfl rfl (show (SH1 404).1 = 12 by decide +kernel) rfl (by decide) rfl rfl ?_
      rw [hs]
      refine dw_enter rfl ?_
      refine rB_X12_gone (fun B hB => ?_)
      refine hB _ _ _ _ _ _ ?_
      refine dw_okV (a := 404) rfl rfl (show (SH1 404).1 = 12 by decide +kernel) rfl (by decide) rfl rfl ?_
      refine dw_enter rfl ?_
      refine rB_X12_asks (fun B hB => ?_)
      refine hB _ _ _ _ _ _ ?_
      refine dw_okV (a := 404) rfl rfl (show (SH1 404).1 = 12 by decide +kernel) rfl (by decide) rfl rfl ?_
      refine dw_enter rfl ?_
      refine rB_X12_isNight (fun B hB => ?_)
      refine hB _ _ _ _ _ _ ?_
      refine dw_okS rfl rfl rfl (by decide) rfl rfl ?_
      refine dw_enter rfl ?_
      refine rB_X12_isIn (fun B hB => ?_)
      refine rB_X12_isNight (fun B hB => ?_)
      refine rB_X12_asks (fun B hB => ?_)
      refine rB_X12_gone (fun B hB => ?_)
      refine rB_law (fun B hB => ?_)
      refine hB _ _ _ _ _ _ ?_
      exact law_z
    · refine dw_ite (fun h12 => ?_) (fun h12 => ?_)
      · refine rB_X11_gone (fun B hB => ?_)
        refine rB_law (fun B hB => ?_)
        refine hB _ _ _ _ _ _ ?_
        refine dw_okV (a := 404) (as := [.int (xs 1), .int (xs 2), .int (xs 3)]) rfl rfl (show (SH1 404).1 = 12 by decide +kernel) rfl (by decide) rfl rfl ?_
        rw [hs]
        refine dw_enter rfl ?_
        refine rB_X12_gone (fun B hB => ?_)
        refine hB _ _ _ _ _ _ ?_
        refine dw_okV (a := 404) rfl rfl (show (SH1 404).1 = 12 by decide +kernel) rfl (by decide) rfl rfl ?_
        refine dw_enter rfl ?_
        refine rB_X12_asks (fun B hB => ?_)
        refine hB _ _ _ _ _ _ ?_
        refine dw_okV (a := 404) rfl rfl (show (SH1 404).1 = 12 by decide +kernel) rfl (by decide) rfl rfl ?_
        refine dw_enter rfl ?_
        refine rB_X12_isNight (fun B hB => ?_)
        refine hB _ _ _ _ _ _ ?_
        refine dw_okS rfl rfl rfl (by decide) rfl rfl ?_
        refine dw_enter rfl ?_
        refine rB_X12_isIn (fun B hB => ?_)
        refine rB_X12_isNight (fun B hB => ?_)
        refine rB_X12_asks (fun B hB => ?_)
        refine rB_X12_gone (fun B hB => ?_)
        refine rB_law (fun B hB => ?_)
        refine hB _ _ _ _ _ _ ?_
        exact law_z
      · refine dw_ite (fun h13 => ?_) (fun h13 => ?_)
        · refine rB_X11_gone (fun B hB => ?_)
          refine rB_law (fun B hB => ?_)
          refine hB _ _ _ _ _ _ ?_
          refine dw_okV (a := 404) (as := [.int (xs 1), .int (xs 2), .int (xs 3)]) rfl rfl (show (SH1 404).1 = 12 by decide +kernel) rfl (by decide) rfl rfl ?_
          rw [hs]
          refine dw_enter rfl ?_
          refine rB_X12_gone (fun B hB => ?_)
          refine hB _ _ _ _ _ _ ?_
          refine dw_okV (a := 404) rfl rfl (show (SH1 404).1 = 12 by decide +kernel) rfl (by decide) rfl rfl ?_
          refine dw_enter rfl ?_
          refine rB_X12_asks (fun B hB => ?_)
          refine hB _ _ _ _ _ _ ?_
          refine dw_okV (a := 404) rfl rfl (show (SH1 404).1 = 12 by decide +kernel) rfl (by decide) rfl rfl ?_
          refine dw_enter rfl ?_
          refine rB_X12_isNight (fun B hB => ?_)
          refine hB _ _ _ _ _ _ ?_
          refine dw_okS rfl rfl rfl (by decide) rfl rfl ?_
          refine dw_enter rfl ?_
          refine rB_X12_isIn (fun B hB => ?_)
          refine rB_X12_isNight (fun B hB => ?_)
          refine rB_X12_asks (fun B hB => ?_)
          refine rB_X12_gone (fun B hB => ?_)
          refine rB_law (fun B hB => ?_)
          refine hB _ _ _ _ _ _ ?_
          exact law_z
        · refine dw_ite (fun h14 => ?_) (fun h14 => ?_)
          · refine rB_X11_gone (fun B hB => ?_)
            refine rB_law (fun B hB => ?_)
            refine hB _ _ _ _ _ _ ?_
            refine dw_okV (a := 404) (as := [.int (xs 1), .int (xs 2), .int (xs 3)]) rfl rfl (show (SH1 404).1 = 12 by decide +kernel) rfl (by decide) rfl rfl ?_
            rw [hs]
            refine dw_enter rfl ?_
            refine rB_X12_gone (fun B hB => ?_)
            refine hB _ _ _ _ _ _ ?_
            refine dw_okV (a := 404) rfl rfl (show (SH1 404).1 = 12 by decide +kernel) rfl (by decide) rfl rfl ?_
            refine dw_enter rfl ?_
            refine rB_X12_asks (fun B hB => ?_)
            refine hB _ _ _ _ _ _ ?_
            refine dw_okV (a := 404) rfl rfl (show (SH1 404).1 = 12 by decide +kernel) rfl (by decide) rfl rfl ?_
            refine dw_enter rfl ?_
            refine rB_X12_isNight (fun B hB => ?_)
            refine hB _ _ _ _ _ _ ?_
            refine dw_okS rfl rfl rfl (by decide) rfl rfl ?_
            refine dw_enter rfl ?_
            refine rB_X12_isIn (fun B hB => ?_)
            refine rB_X12_isNight (fun B hB => ?_)
            refine rB_X12_asks (fun B hB => ?_)
            refine rB_X12_gone (fun B hB => ?_)
            refine rB_law (fun B hB => ?_)
            refine hB _ _ _ _ _ _ ?_
            exact law_z
          · refine rB_X11_gone (fun B hB => ?_)
            refine dw_ite (fun h15 => ?_) (fun h15 => ?_)
            · refine rB_law (fun B hB => ?_)
              refine hB _ _ _ _ _ _ ?_
              refine dw_okV (a := 404) (as := [.int (xs 1), .int (xs 2), .int (xs 3)]) rfl rfl (show (SH1 404).1 = 12 by decide +kernel) rfl (by decide) rfl rfl ?_
              rw [hs]
              refine dw_enter rfl ?_
              refine rB_X12_gone (fun B hB => ?_)
              refine hB _ _ _ _ _ _ ?_
              refine dw_okV (a := 404) rfl rfl (show (SH1 404).1 = 12 by decide +kernel) rfl (by decide) rfl rfl ?_
              refine dw_enter rfl ?_
              refine rB_X12_asks (fun B hB => ?_)
              refine hB _ _ _ _ _ _ ?_
              refine dw_okV (a := 404) rfl rfl (show (SH1 404).1 = 12 by decide +kernel) rfl (by decide) rfl rfl ?_
              refine dw_enter rfl ?_
              refine rB_X12_isNight (fun B hB => ?_)
              refine hB _ _ _ _ _ _ ?_
              refine dw_okS rfl rfl rfl (by decide) rfl rfl ?_
              refine dw_enter rfl ?_
              refine rB_X12_isIn (fun B hB => ?_)
              refine rB_X12_isNight (fun B hB => ?_)
              refine rB_X12_asks (fun B hB => ?_)
              refine rB_X12_gone (fun B hB => ?_)
              refine rB_law (fun B hB => ?_)
              refine hB _ _ _ _ _ _ ?_
              exact law_z
            · refine hB _ _ _ _ _ _ ?_
              refine dw_okV (a := 0) rfl rfl (show (SH1 0).1 = 11 by decide +kernel) rfl (by decide) rfl rfl ?_
              refine dw_enter rfl ?_
              refine rB_X11_watched (fun B hB => ?_)
              refine hB _ _ _ _ _ _ ?_
              refine dw_okV (a := 0) rfl rfl (show (SH1 0).1 = 11 by decide +kernel) rfl (by decide) rfl rfl ?_
              refine dw_enter rfl ?_
              refine rB_X11_start (fun B hB => ?_)
              refine hB _ _ _ _ _ _ ?_
              refine dw_okV (a := 3) rfl rfl (show (SH1 3).1 = 8 by decide +kernel) rfl (by decide) rfl rfl ?_
              refine dw_enter rfl ?_
              refine rB_X8_nightOf (fun B hB => ?_)
              refine rB_X11_start (fun B hB => ?_)
              refine (fun (_ : _ ∨ _) => ?_)
              refine rB_X11_watched (fun B hB => ?_)
              refine rB_X11_gone (fun B hB => ?_)
              refine rB_law (fun B hB => ?_)
              refine hB _ _ _ _ _ _ ?_
              refine dw_okV (a := 404) (as := [.int (xs 1), .int (xs 2), .int (xs 3)]) rfl rfl (show (SH1 404).1 = 12 by decide +kernel) rfl (by decide) rfl rfl ?_
              rw [hs]
              refine dw_enter rfl ?_
              refine rB_X12_gone (fun B hB => ?_)
              refine hB _ _ _ _ _ _ ?_
              refine dw_okV (a := 404) rfl rfl (show (SH1 404).1 = 12 by decide +kernel) rfl (by decide) rfl rfl ?_
              refine dw_enter rfl ?_
              refine rB_X12_asks (fun B hB => ?_)
              refine hB _ _ _ _ _ _ ?_
              refine dw_okV (a := 404) rfl rfl (show (SH1 404).1 = 12 by decide +kernel) rfl (by decide) rfl rfl ?_
              refine dw_enter rfl ?_
              refine rB_X12_isNight (fun B hB => ?_)
              refine hB _ _ _ _ _ _ ?_
              refine dw_okS rfl rfl rfl (by decide) rfl rfl ?_
              refine dw_enter rfl ?_
              refine rB_X12_isIn (fun B hB => ?_)
              refine rB_X12_isNight (fun B hB => ?_)
              refine rB_X12_asks (fun B hB => ?_)
              refine rB_X12_gone (fun B hB => ?_)
              refine rB_law (fun B hB => ?_)
              refine hB _ _ _ _ _ _ ?_
              exact law_z
  · refine rB_law (fun B hB => ?_)
    refine hB _ _ _ _ _ _ ?_
    refine dw_okV (a := 0) (as := [.int (xs 1), .int (xs 2), .int (xs 3)]) rfl rfl (show (SH1 0).1 = 11 by decide +kernel) rfl (by decide) rfl rfl ?_
    rw [hs]
    refine dw_enter rfl ?_
    refine rB_X11_gone (fun B hB => ?_)
    refine hB _ _ _ _ _ _ ?_
    refine dw_okV (a := 4) rfl rfl (show (SH1 4).1 = 0 by decide +kernel) rfl (by decide) rfl rfl ?_
    refine dw_enter rfl ?_
    refine rB_X0_cellAt (fun B hB => ?_)
    refine dw_ite (fun h16 => ?_) (fun h16 => ?_)
    · refine rB_X11_gone (fun B hB => ?_)
      refine rB_law (fun B hB => ?_)
      refine hB _ _ _ _ _ _ ?_
      refine dw_okV (a := 404) (as := [.int (xs 1), .int (xs 2), .int (xs 3)]) rfl rfl (show (SH1 404).1 = 12 by decide +kernel) rfl (by decide) rfl rfl ?_
      rw [hs]
      refine dw_enter rfl ?_
      refine rB_X12_gone (fun B hB => ?_)
      refine hB _ _ _ _ _ _ ?_
      refine dw_okV (a := 404) rfl rfl (show (SH1 404).1 = 12 by decide +kernel) rfl (by decide) rfl rfl ?_
      refine dw_enter rfl ?_
      refine rB_X12_asks (fun B hB => ?_)
      refine hB _ _ _ _ _ _ ?_
      refine dw_okV (a := 404) rfl rfl (show (SH1 404).1 = 12 by decide +kernel) rfl (by decide) rfl rfl ?_
      refine dw_enter rfl ?_
      refine rB_X12_isNight (fun B hB => ?_)
      refine hB _ _ _ _ _ _ ?_
      refine dw_okS rfl rfl rfl (by decide) rfl rfl ?_
      refine dw_enter rfl ?_
      refine rB_X12_isIn (fun B hB => ?_)
      refine rB_X12_isNight (fun B hB => ?_)
      refine rB_X12_asks (fun B hB => ?_)
      refine rB_X12_gone (fun B hB => ?_)
      refine rB_law (fun B hB => ?_)
      refine hB _ _ _ _ _ _ ?_
      exact law_z
    · refine dw_ite (fun h17 => ?_) (fun h17 => ?_)
      · refine rB_X11_gone (fun B hB => ?_)
        refine rB_law (fun B hB => ?_)
        refine hB _ _ _ _ _ _ ?_
        refine dw_okV (a := 404) (as := [.int (xs 1), .int (xs 2), .int (xs 3)]) rfl rfl (show (SH1 404).1 = 12 by decide +kernel) rfl (by decide) rfl rfl ?_
        rw [hs]
        refine dw_enter rfl ?_
        refine rB_X12_gone (fun B hB => ?_)
        refine hB _ _ _ _ _ _ ?_
        refine dw_okV (a := 404) rfl rfl (show (SH1 404).1 = 12 by decide +kernel) rfl (by decide) rfl rfl ?_
        refine dw_enter rfl ?_
        refine rB_X12_asks (fun B hB => ?_)
        refine hB _ _ _ _ _ _ ?_
        refine dw_okV (a := 404) rfl rfl (show (SH1 404).1 = 12 by decide +kernel) rfl (by decide) rfl rfl ?_
        refine dw_enter rfl ?_
        refine rB_X12_isNight (fun B hB => ?_)
        refine hB _ _ _ _ _ _ ?_
        refine dw_okS rfl rfl rfl (by decide) rfl rfl ?_
        refine dw_enter rfl ?_
        refine rB_X12_isIn (fun B hB => ?_)
        refine rB_X12_isNight (fun B hB => ?_)
        refine rB_X12_asks (fun B hB => ?_)
        refine rB_X12_gone (fun B hB => ?_)
        refine rB_law (fun B hB => ?_)
        refine hB _ _ _ _ _ _ ?_
        exact law_z
      · refine dw_ite (fun h18 => ?_) (fun h18 => ?_)
        · refine rB_X11_gone (fun B hB => ?_)
          refine rB_law (fun B hB => ?_)
          refine hB _ _ _ _ _ _ ?_
          refine dw_okV (a := 404) (as := [.int (xs 1), .int (xs 2), .int (xs 3)]) rfl rfl (show (SH1 404).1 = 12 by decide +kernel) rfl (by decide) rfl rfl ?_
          rw [hs]
          refine dw_enter rfl ?_
          refine rB_X12_gone (fun B hB => ?_)
          refine hB _ _ _ _ _ _ ?_
          refine dw_okV (a := 404) rfl rfl (show (SH1 404).1 = 12 by decide +kernel) rfl (by decide) rfl rfl ?_
          refine dw_enter rfl ?_
          refine rB_X12_asks (fun B hB => ?_)
          refine hB _ _ _ _ _ _ ?_
          refine dw_okV (a := 404) rfl rfl (show (SH1 404).1 = 12 by decide +kernel) rfl (by decide) rfl rfl ?_
          refine dw_enter rfl ?_
          refine rB_X12_isNight (fun B hB => ?_)
          refine hB _ _ _ _ _ _ ?_
          refine dw_okS rfl rfl rfl (by decide) rfl rfl ?_
          refine dw_enter rfl ?_
          refine rB_X12_isIn (fun B hB => ?_)
          refine rB_X12_isNight (fun B hB => ?_)
          refine rB_X12_asks (fun B hB => ?_)
          refine rB_X12_gone (fun B hB => ?_)
          refine rB_law (fun B hB => ?_)
          refine hB _ _ _ _ _ _ ?_
          exact law_z
        · refine dw_ite (fun h19 => ?_) (fun h19 => ?_)
          · refine rB_X11_gone (fun B hB => ?_)
            refine rB_law (fun B hB => ?_)
            refine hB _ _ _ _ _ _ ?_
            refine dw_okV (a := 404) (as := [.int (xs 1), .int (xs 2), .int (xs 3)]) rfl rfl (show (SH1 404).1 = 12 by decide +kernel) rfl (by decide) rfl rfl ?_
            rw [hs]
            refine dw_enter rfl ?_
            refine rB_X12_gone (fun B hB => ?_)
            refine hB _ _ _ _ _ _ ?_
            refine dw_okV (a := 404) rfl rfl (show (SH1 404).1 = 12 by decide +kernel) rfl (by decide) rfl rfl ?_
            refine dw_enter rfl ?_
            refine rB_X12_asks (fun B hB => ?_)
            refine hB _ _ _ _ _ _ ?_
            refine dw_okV (a := 404) rfl rfl (show (SH1 404).1 = 12 by decide +kernel) rfl (by decide) rfl rfl ?_
            refine dw_enter rfl ?_
            refine rB_X12_isNight (fun B hB => ?_)
            refine hB _ _ _ _ _ _ ?_
            refine dw_okS rfl rfl rfl (by decide) rfl rfl ?_
            refine dw_enter rfl ?_
            refine rB_X12_isIn (fun B hB => ?_)
            refine rB_X12_isNight (fun B hB => ?_)
            refine rB_X12_asks (fun B hB => ?_)
            refine rB_X12_gone (fun B hB => ?_)
            refine rB_law (fun B hB => ?_)
            refine hB _ _ _ _ _ _ ?_
            exact law_z
          · refine rB_X11_gone (fun B hB => ?_)
            refine dw_ite (fun h20 => ?_) (fun h20 => ?_)
            · refine rB_law (fun B hB => ?_)
              refine hB _ _ _ _ _ _ ?_
              refine dw_okV (a := 404) (as := [.int (xs 1), .int (xs 2), .int (xs 3)]) rfl rfl (show (SH1 404).1 = 12 by decide +kernel) rfl (by decide) rfl rfl ?_
              rw [hs]
              refine dw_enter rfl ?_
              refine rB_X12_gone (fun B hB => ?_)
              refine hB _ _ _ _ _ _ ?_
              refine dw_okV (a := 404) rfl rfl (show (SH1 404).1 = 12 by decide +kernel) rfl (by decide) rfl rfl ?_
              refine dw_enter rfl ?_
              refine rB_X12_asks (fun B hB => ?_)
              refine hB _ _ _ _ _ _ ?_
              refine dw_okV (a := 404) rfl rfl (show (SH1 404).1 = 12 by decide +kernel) rfl (by decide) rfl rfl ?_
              refine dw_enter rfl ?_
              refine rB_X12_isNight (fun B hB => ?_)
              refine hB _ _ _ _ _ _ ?_
              refine dw_okS rfl rfl rfl (by decide) rfl rfl ?_
              refine dw_enter rfl ?_
              refine rB_X12_isIn (fun B hB => ?_)
              refine rB_X12_isNight (fun B hB => ?_)
              refine rB_X12_asks (fun B hB => ?_)
              refine rB_X12_gone (fun B hB => ?_)
              refine rB_law (fun B hB => ?_)
              refine hB _ _ _ _ _ _ ?_
              exact law_z
            · refine hB _ _ _ _ _ _ ?_
              refine dw_okV (a := 0) rfl rfl (show (SH1 0).1 = 11 by decide +kernel) rfl (by decide) rfl rfl ?_
              refine dw_enter rfl ?_
              refine rB_X11_watched (fun B hB => ?_)
              refine hB _ _ _ _ _ _ ?_
              refine dw_okV (a := 0) rfl rfl (show (SH1 0).1 = 11 by decide +kernel) rfl (by decide) rfl rfl ?_
              refine dw_enter rfl ?_
              refine rB_X11_start (fun B hB => ?_)
              refine hB _ _ _ _ _ _ ?_
              refine dw_okV (a := 3) rfl rfl (show (SH1 3).1 = 8 by decide +kernel) rfl (by decide) rfl rfl ?_
              refine dw_enter rfl ?_
              refine rB_X8_nightOf (fun B hB => ?_)
              refine rB_X11_start (fun B hB => ?_)
              refine (fun (_ : _ ∨ _) => ?_)
              refine rB_X11_watched (fun B hB => ?_)
              refine rB_X11_gone (fun B hB => ?_)
              refine rB_law (fun B hB => ?_)
              refine hB _ _ _ _ _ _ ?_
              refine dw_okV (a := 404) (as := [.int (xs 1), .int (xs 2), .int (xs 3)]) rfl rfl (show (SH1 404).1 = 12 by decide +kernel) rfl (by decide) rfl rfl ?_
              rw [hs]
              refine dw_enter rfl ?_
              refine rB_X12_gone (fun B hB => ?_)
              refine hB _ _ _ _ _ _ ?_
              refine dw_okV (a := 404) rfl rfl (show (SH1 404).1 = 12 by decide +kernel) rfl (by decide) rfl rfl ?_
              refine dw_enter rfl ?_
              refine rB_X12_asks (fun B hB => ?_)
              refine hB _ _ _ _ _ _ ?_
              refine dw_okV (a := 404) rfl rfl (show (SH1 404).1 = 12 by decide +kernel) rfl (by decide) rfl rfl ?_
              refine dw_enter rfl ?_
              refine rB_X12_isNight (fun B hB => ?_)
              refine hB _ _ _ _ _ _ ?_
              refine dw_okS rfl rfl rfl (by decide) rfl rfl ?_
              refine dw_enter rfl ?_
              refine rB_X12_isIn (fun B hB => ?_)
              refine rB_X12_isNight (fun B hB => ?_)
              refine rB_X12_asks (fun B hB => ?_)
              refine rB_X12_gone (fun B hB => ?_)
              refine rB_law (fun B hB => ?_)
              refine hB _ _ _ _ _ _ ?_
              exact law_z
  · refine rB_law (fun B hB => ?_)
    refine hB _ _ _ _ _ _ ?_
    refine dw_okV (a := 0) (as := [.int (xs 1), .int (xs 2), .int (xs 3)]) rfl rfl (show (SH1 0).1 = 11 by decide +kernel) rfl (by decide) rfl rfl ?_
    rw [hs]
    refine dw_enter rfl ?_
    refine rB_X11_gone (fun B hB => ?_)
    refine hB _ _ _ _ _ _ ?_
    refine dw_okV (a := 4) rfl rfl (show (SH1 4).1 = 0 by decide +kernel) rfl (by decide) rfl rfl ?_
    refine dw_enter rfl ?_
    refine rB_X0_cellAt (fun B hB => ?_)
    refine dw_ite (fun h21 => ?_) (fun h21 => ?_)
    · refine rB_X11_gone (fun B hB => ?_)
      refine rB_law (fun B hB => ?_)
      refine hB _ _ _ _ _ _ ?_
      refine dw_okV (a := 404) (as := [.int (xs 1), .int (xs 2), .int (xs 3)]) rfl rfl (show (SH1 404).1 = 12 by decide +kernel) rfl (by decide) rfl rfl ?_
      rw [hs]
      refine dw_enter rfl ?_
      refine rB_X12_gone (fun B hB => ?_)
      refine hB _ _ _ _ _ _ ?_
      refine dw_okV (a := 404) rfl rfl (show (SH1 404).1 = 12 by decide +kernel) rfl (by decide) rfl rfl ?_
      refine dw_enter rfl ?_
      refine rB_X12_asks (fun B hB => ?_)
      refine hB _ _ _ _ _ _ ?_
      refine dw_okV (a := 404) rfl rfl (show (SH1 404).1 = 12 by decide +kernel) rfl (by decide) rfl rfl ?_
      refine dw_enter rfl ?_
      refine rB_X12_isNight (fun B hB => ?_)
      refine hB _ _ _ _ _ _ ?_
      refine dw_okS rfl rfl rfl (by decide) rfl rfl ?_
      refine dw_enter rfl ?_
      refine rB_X12_isIn (fun B hB => ?_)
      refine rB_X12_isNight (fun B hB => ?_)
      refine rB_X12_asks (fun B hB => ?_)
      refine rB_X12_gone (fun B hB => ?_)
      refine rB_law (fun B hB => ?_)
      refine hB _ _ _ _ _ _ ?_
      exact law_z
    · refine dw_ite (fun h22 => ?_) (fun h22 => ?_)
      · refine rB_X11_gone (fun B hB => ?_)
        refine rB_law (fun B hB => ?_)
        refine hB _ _ _ _ _ _ ?_
        refine dw_okV (a := 404) (as := [.int (xs 1), .int (xs 2), .int (xs 3)]) rfl rfl (show (SH1 404).1 = 12 by decide +kernel) rfl (by decide) rfl rfl ?_
        rw [hs]
        refine dw_enter rfl ?_
        refine rB_X12_gone (fun B hB => ?_)
        refine hB _ _ _ _ _ _ ?_
        refine dw_okV (a := 404) rfl rfl (show (SH1 404).1 = 12 by decide +kernel) rfl (by decide) rfl rfl ?_
        refine dw_enter rfl ?_
        refine rB_X12_asks (fun B hB => ?_)
        refine hB _ _ _ _ _ _ ?_
        refine dw_okV (a := 404) rfl rfl (show (SH1 404).1 = 12 by decide +kernel) rfl (by decide) rfl rfl ?_
        refine dw_enter rfl ?_
        refine rB_X12_isNight (fun B hB => ?_)
        refine hB _ _ _ _ _ _ ?_
        refine dw_okS rfl rfl rfl (by decide) rfl rfl ?_
        refine dw_enter rfl ?_
        refine rB_X12_isIn (fun B hB => ?_)
        refine rB_X12_isNight (fun B hB => ?_)
        refine rB_X12_asks (fun B hB => ?_)
        refine rB_X12_gone (fun B hB => ?_)
        refine rB_law (fun B hB => ?_)
        refine hB _ _ _ _ _ _ ?_
        exact law_z
      · refine dw_ite (fun h23 => ?_) (fun h23 => ?_)
        · refine rB_X11_gone (fun B hB => ?_)
          refine rB_law (fun B hB => ?_)
          refine hB _ _ _ _ _ _ ?_
          refine dw_okV (a := 404) (as := [.int (xs 1), .int (xs 2), .int (xs 3)]) rfl rfl (show (SH1 404).1 = 12 by decide +kernel) rfl (by decide) rfl rfl ?_
          rw [hs]
          refine dw_enter rfl ?_
          refine rB_X12_gone (fun B hB => ?_)
          refine hB _ _ _ _ _ _ ?_
          refine dw_okV (a := 404) rfl rfl (show (SH1 404).1 = 12 by decide +kernel) rfl (by decide) rfl rfl ?_
          refine dw_enter rfl ?_
          refine rB_X12_asks (fun B hB => ?_)
          refine hB _ _ _ _ _ _ ?_
          refine dw_okV (a := 404) rfl rfl (show (SH1 404).1 = 12 by decide +kernel) rfl (by decide) rfl rfl ?_
          refine dw_enter rfl ?_
          refine rB_X12_isNight (fun B hB => ?_)
          refine hB _ _ _ _ _ _ ?_
          refine dw_okS rfl rfl rfl (by decide) rfl rfl ?_
          refine dw_enter rfl ?_
          refine rB_X12_isIn (fun B hB => ?_)
          refine rB_X12_isNight (fun B hB => ?_)
          refine rB_X12_asks (fun B hB => ?_)
          refine rB_X12_gone (fun B hB => ?_)
          refine rB_law (fun B hB => ?_)
          refine hB _ _ _ _ _ _ ?_
          exact law_z
        · refine dw_ite (fun h24 => ?_) (fun h24 => ?_)
          · refine rB_X11_gone (fun B hB => ?_)
            refine rB_law (fun B hB => ?_)
            refine hB _ _ _ _ _ _ ?_
            refine dw_okV (a := 404) (as := [.int (xs 1), .int (xs 2), .int (xs 3)]) rfl rfl (show (SH1 404).1 = 12 by decide +kernel) rfl (by decide) rfl rfl ?_
            rw [hs]
            refine dw_enter rfl ?_
            refine rB_X12_gone (fun B hB => ?_)
            refine hB _ _ _ _ _ _ ?_
            refine dw_okV (a := 404) rfl rfl (show (SH1 404).1 = 12 by decide +kernel) rfl (by decide) rfl rfl ?_
            refine dw_enter rfl ?_
            refine rB_X12_asks (fun B hB => ?_)
            refine hB _ _ _ _ _ _ ?_
            refine dw_okV (a := 404) rfl rfl (show (SH1 404).1 = 12 by decide +kernel) rfl (by decide) rfl rfl ?_
            refine dw_enter rfl ?_
            refine rB_X12_isNight (fun B hB => ?_)
            refine hB _ _ _ _ _ _ ?_
            refine dw_okS rfl rfl rfl (by decide) rfl rfl ?_
            refine dw_enter rfl ?_
            refine rB_X12_isIn (fun B hB => ?_)
            refine rB_X12_isNight (fun B hB => ?_)
            refine rB_X12_asks (fun B hB => ?_)
            refine rB_X12_gone (fun B hB => ?_)
            refine rB_law (fun B hB => ?_)
            refine hB _ _ _ _ _ _ ?_
            exact law_z
          · refine rB_X11_gone (fun B hB => ?_)
            refine dw_ite (fun h25 => ?_) (fun h25 => ?_)
            · refine rB_law (fun B hB => ?_)
              refine hB _ _ _ _ _ _ ?_
              refine dw_okV (a := 404) (as := [.int (xs 1), .int (xs 2), .int (xs 3)]) rfl rfl (show (SH1 404).1 = 12 by decide +kernel) rfl (by decide) rfl rfl ?_
              rw [hs]
              refine dw_enter rfl ?_
              refine rB_X12_gone (fun B hB => ?_)
              refine hB _ _ _ _ _ _ ?_
              refine dw_okV (a := 404) rfl rfl (show (SH1 404).1 = 12 by decide +kernel) rfl (by decide) rfl rfl ?_
              refine dw_enter rfl ?_
              refine rB_X12_asks (fun B hB => ?_)
              refine hB _ _ _ _ _ _ ?_
              refine dw_okV (a := 404) rfl rfl (show (SH1 404).1 = 12 by decide +kernel) rfl (by decide) rfl rfl ?_
              refine dw_enter rfl ?_
              refine rB_X12_isNight (fun B hB => ?_)
              refine hB _ _ _ _ _ _ ?_
              refine dw_okS rfl rfl rfl (by decide) rfl rfl ?_
              refine dw_enter rfl ?_
              refine rB_X12_isIn (fun B hB => ?_)
              refine rB_X12_isNight (fun B hB => ?_)
              refine rB_X12_asks (fun B hB => ?_)
              refine rB_X12_gone (fun B hB => ?_)
              refine rB_law (fun B hB => ?_)
              refine hB _ _ _ _ _ _ ?_
              exact law_z
            · refine hB _ _ _ _ _ _ ?_
              refine dw_okV (a := 0) rfl rfl (show (SH1 0).1 = 11 by decide +kernel) rfl (by decide) rfl rfl ?_
              refine dw_enter rfl ?_
              refine rB_X11_watched (fun B hB => ?_)
              refine hB _ _ _ _ _ _ ?_
              refine dw_okV (a := 0) rfl rfl (show (SH1 0).1 = 11 by decide +kernel) rfl (by decide) rfl rfl ?_
              refine dw_enter rfl ?_
              refine rB_X11_start (fun B hB => ?_)
              refine hB _ _ _ _ _ _ ?_
              refine dw_okV (a := 3) rfl rfl (show (SH1 3).1 = 8 by decide +kernel) rfl (by decide) rfl rfl ?_
              refine dw_enter rfl ?_
              refine rB_X8_nightOf (fun B hB => ?_)
              refine rB_X11_start (fun B hB => ?_)
              refine (fun (_ : _ ∨ _) => ?_)
              refine rB_X11_watched (fun B hB => ?_)
              refine rB_X11_gone (fun B hB => ?_)
              refine rB_law (fun B hB => ?_)
              refine hB _ _ _ _ _ _ ?_
              refine dw_okV (a := 404) (as := [.int (xs 1), .int (xs 2), .int (xs 3)]) rfl rfl (show (SH1 404).1 = 12 by decide +kernel) rfl (by decide) rfl rfl ?_
              rw [hs]
              refine dw_enter rfl ?_
              refine rB_X12_gone (fun B hB => ?_)
              refine hB _ _ _ _ _ _ ?_
              refine dw_okV (a := 404) rfl rfl (show (SH1 404).1 = 12 by decide +kernel) rfl (by decide) rfl rfl ?_
              refine dw_enter rfl ?_
              refine rB_X12_asks (fun B hB => ?_)
              refine hB _ _ _ _ _ _ ?_
              refine dw_okV (a := 404) rfl rfl (show (SH1 404).1 = 12 by decide +kernel) rfl (by decide) rfl rfl ?_
              refine dw_enter rfl ?_
              refine rB_X12_isNight (fun B hB => ?_)
              refine hB _ _ _ _ _ _ ?_
              refine dw_okS rfl rfl rfl (by decide) rfl rfl ?_
              refine dw_enter rfl ?_
              refine rB_X12_isIn (fun B hB => ?_)
              refine rB_X12_isNight (fun B hB => ?_)
              refine rB_X12_asks (fun B hB => ?_)
              refine rB_X12_gone (fun B hB => ?_)
              refine rB_law (fun B hB => ?_)
              refine hB _ _ _ _ _ _ ?_
              exact law_z
  · refine rB_law (fun B hB => ?_)
    refine hB _ _ _ _ _ _ ?_
    refine dw_okV (a := 0) (as := [.int (xs 1), .int (xs 2), .int (xs 3)]) rfl rfl (show (SH1 0).1 = 11 by decide +kernel) rfl (by decide) rfl rfl ?_
    rw [hs]
    refine dw_enter rfl ?_
    refine rB_X11_gone (fun B hB => ?_)
    refine hB _ _ _ _ _ _ ?_
    refine dw_okV (a := 4) rfl rfl (show (SH1 4).1 = 0 by decide +kernel) rfl (by decide) rfl rfl ?_
    refine dw_enter rfl ?_
    refine rB_X0_cellAt (fun B hB => ?_)
    refine dw_ite (fun h26 => ?_) (fun h26 => ?_)
    · refine rB_X11_gone (fun B hB => ?_)
      refine rB_law (fun B hB => ?_)
      refine hB _ _ _ _ _ _ ?_
      refine dw_okV (a := 404) (as := [.int (xs 1), .int (xs 2), .int (xs 3)]) rfl rfl (show (SH1 404).1 = 12 by decide +kernel) rfl (by decide) rfl rfl ?_
      rw [hs]
      refine dw_enter rfl ?_
      refine rB_X12_gone (fun B hB => ?_)
      refine hB _ _ _ _ _ _ ?_
      refine dw_okV (a := 404) rfl rfl (show (SH1 404).1 = 12 by decide +kernel) rfl (by decide) rfl rfl ?_
      refine dw_enter rfl ?_
      refine rB_X12_asks (fun B hB => ?_)
      refine hB _ _ _ _ _ _ ?_
      refine dw_okV (a := 404) rfl rfl (show (SH1 404).1 = 12 by decide +kernel) rfl (by decide) rfl rfl ?_
      refine dw_enter rfl ?_
      refine rB_X12_isNight (fun B hB => ?_)
      refine hB _ _ _ _ _ _ ?_
      refine dw_okS rfl rfl rfl (by decide) rfl rfl ?_
      refine dw_enter rfl ?_
      refine rB_X12_isIn (fun B hB => ?_)
      refine rB_X12_isNight (fun B hB => ?_)
      refine rB_X12_asks (fun B hB => ?_)
      refine rB_X12_gone (fun B hB => ?_)
      refine rB_law (fun B hB => ?_)
      refine hB _ _ _ _ _ _ ?_
      exact law_z
    · refine dw_ite (fun h27 => ?_) (fun h27 => ?_)
      · refine rB_X11_gone (fun B hB => ?_)
        refine rB_law (fun B hB => ?_)
        refine hB _ _ _ _ _ _ ?_
        refine dw_okV (a := 404) (as := [.int (xs 1), .int (xs 2), .int (xs 3)]) rfl rfl (show (SH1 404).1 = 12 by decide +kernel) rfl (by decide) rfl rfl ?_
        rw [hs]
        refine dw_enter rfl ?_
        refine rB_X12_gone (fun B hB => ?_)
        refine hB _ _ _ _ _ _ ?_
        refine dw_okV (a := 404) rfl rfl (show (SH1 404).1 = 12 by decide +kernel) rfl (by decide) rfl rfl ?_
        refine dw_enter rfl ?_
        refine rB_X12_asks (fun B hB => ?_)
        refine hB _ _ _ _ _ _ ?_
        refine dw_okV (a := 404) rfl rfl (show (SH1 404).1 = 12 by decide +kernel) rfl (by decide) rfl rfl ?_
        refine dw_enter rfl ?_
        refine rB_X12_isNight (fun B hB => ?_)
        refine hB _ _ _ _ _ _ ?_
        refine dw_okS rfl rfl rfl (by decide) rfl rfl ?_
        refine dw_enter rfl ?_
        refine rB_X12_isIn (fun B hB => ?_)
        refine rB_X12_isNight (fun B hB => ?_)
        refine rB_X12_asks (fun B hB => ?_)
        refine rB_X12_gone (fun B hB => ?_)
        refine rB_law (fun B hB => ?_)
        refine hB _ _ _ _ _ _ ?_
        exact law_z
      · refine dw_ite (fun h28 => ?_) (fun h28 => ?_)
        · refine rB_X11_gone (fun B hB => ?_)
          refine rB_law (fun B hB => ?_)
          refine hB _ _ _ _ _ _ ?_
          refine dw_okV (a := 404) (as := [.int (xs 1), .int (xs 2), .int (xs 3)]) rfl rfl (show (SH1 404).1 = 12 by decide +kernel) rfl (by decide) rfl rfl ?_
          rw [hs]
          refine dw_enter rfl ?_
          refine rB_X12_gone (fun B hB => ?_)
          refine hB _ _ _ _ _ _ ?_
          refine dw_okV (a := 404) rfl rfl (show (SH1 404).1 = 12 by decide +kernel) rfl (by decide) rfl rfl ?_
          refine dw_enter rfl ?_
          refine rB_X12_asks (fun B hB => ?_)
          refine hB _ _ _ _ _ _ ?_
          refine dw_okV (a := 404) rfl rfl (show (SH1 404).1 = 12 by decide +kernel) rfl (by decide) rfl rfl ?_
          refine dw_enter rfl ?_
          refine rB_X12_isNight (fun B hB => ?_)
          refine hB _ _ _ _ _ _ ?_
          refine dw_okS rfl rfl rfl (by decide) rfl rfl ?_
          refine dw_enter rfl ?_
          refine rB_X12_isIn (fun B hB => ?_)
          refine rB_X12_isNight (fun B hB => ?_)
          refine rB_X12_asks (fun B hB => ?_)
          refine rB_X12_gone (fun B hB => ?_)
          refine rB_law (fun B hB => ?_)
          refine hB _ _ _ _ _ _ ?_
          exact law_z
        · refine dw_ite (fun h29 => ?_) (fun h29 => ?_)
          · refine rB_X11_gone (fun B hB => ?_)
            refine rB_law (fun B hB => ?_)
            refine hB _ _ _ _ _ _ ?_
            refine dw_okV (a := 404) (as := [.int (xs 1), .int (xs 2), .int (xs 3)]) rfl rfl (show (SH1 404).1 = 12 by decide +kernel) rfl (by decide) rfl rfl ?_
            rw [hs]
            refine dw_enter rfl ?_
            refine rB_X12_gone (fun B hB => ?_)
            refine hB _ _ _ _ _ _ ?_
            refine dw_okV (a := 404) rfl rfl (show (SH1 404).1 = 12 by decide +kernel) rfl (by decide) rfl rfl ?_
            refine dw_enter rfl ?_
            refine rB_X12_asks (fun B hB => ?_)
            refine hB _ _ _ _ _ _ ?_
            refine dw_okV (a := 404) rfl rfl (show (SH1 404).1 = 12 by decide +kernel) rfl (by decide) rfl rfl ?_
            refine dw_enter rfl ?_
            refine rB_X12_isNight (fun B hB => ?_)
            refine hB _ _ _ _ _ _ ?_
            refine dw_okS rfl rfl rfl (by decide) rfl rfl ?_
            refine dw_enter rfl ?_
            refine rB_X12_isIn (fun B hB => ?_)
            refine rB_X12_isNight (fun B hB => ?_)
            refine rB_X12_asks (fun B hB => ?_)
            refine rB_X12_gone (fun B hB => ?_)
            refine rB_law (fun B hB => ?_)
            refine hB _ _ _ _ _ _ ?_
            exact law_z
          · refine rB_X11_gone (fun B hB => ?_)
            refine dw_ite (fun h30 => ?_) (fun h30 => ?_)
            · refine rB_law (fun B hB => ?_)
              refine hB _ _ _ _ _ _ ?_
              refine dw_okV (a := 404) (as := [.int (xs 1), .int (xs 2), .int (xs 3)]) rfl rfl (show (SH1 404).1 = 12 by decide +kernel) rfl (by decide) rfl rfl ?_
              rw [hs]
              refine dw_enter rfl ?_
              refine rB_X12_gone (fun B hB => ?_)
              refine hB _ _ _ _ _ _ ?_
              refine dw_okV (a := 404) rfl rfl (show (SH1 404).1 = 12 by decide +kernel) rfl (by decide) rfl rfl ?_
              refine dw_enter rfl ?_
              refine rB_X12_asks (fun B hB => ?_)
              refine hB _ _ _ _ _ _ ?_
              refine dw_okV (a := 404) rfl rfl (show (SH1 404).1 = 12 by decide +kernel) rfl (by decide) rfl rfl ?_
              refine dw_enter rfl ?_
              refine rB_X12_isNight (fun B hB => ?_)
              refine hB _ _ _ _ _ _ ?_
              refine dw_okS rfl rfl rfl (by decide) rfl rfl ?_
              refine dw_enter rfl ?_
              refine rB_X12_isIn (fun B hB => ?_)
              refine rB_X12_isNight (fun B hB => ?_)
              refine rB_X12_asks (fun B hB => ?_)
              refine rB_X12_gone (fun B hB => ?_)
              refine rB_law (fun B hB => ?_)
              refine hB _ _ _ _ _ _ ?_
              exact law_z
            · refine hB _ _ _ _ _ _ ?_
              refine dw_okV (a := 0) rfl rfl (show (SH1 0).1 = 11 by decide +kernel) rfl (by decide) rfl rfl ?_
              refine dw_enter rfl ?_
              refine rB_X11_watched (fun B hB => ?_)
              refine hB _ _ _ _ _ _ ?_
              refine dw_okV (a := 0) rfl rfl (show (SH1 0).1 = 11 by decide +kernel) rfl (by decide) rfl rfl ?_
              refine dw_enter rfl ?_
              refine rB_X11_start (fun B hB => ?_)
              refine hB _ _ _ _ _ _ ?_
              refine dw_okV (a := 3) rfl rfl (show (SH1 3).1 = 8 by decide +kernel) rfl (by decide) rfl rfl ?_
              refine dw_enter rfl ?_
              refine rB_X8_nightOf (fun B hB => ?_)
              refine rB_X11_start (fun B hB => ?_)
              refine (fun (_ : _ ∨ _) => ?_)
              refine rB_X11_watched (fun B hB => ?_)
              refine rB_X11_gone (fun B hB => ?_)
              refine rB_law (fun B hB => ?_)
              refine hB _ _ _ _ _ _ ?_
              refine dw_okV (a := 404) (as := [.int (xs 1), .int (xs 2), .int (xs 3)]) rfl rfl (show (SH1 404).1 = 12 by decide +kernel) rfl (by decide) rfl rfl ?_
              rw [hs]
              refine dw_enter rfl ?_
              refine rB_X12_gone (fun B hB => ?_)
              refine hB _ _ _ _ _ _ ?_
              refine dw_okV (a := 404) rfl rfl (show (SH1 404).1 = 12 by decide +kernel) rfl (by decide) rfl rfl ?_
              refine dw_enter rfl ?_
              refine rB_X12_asks (fun B hB => ?_)
              refine hB _ _ _ _ _ _ ?_
              refine dw_okV (a := 404) rfl rfl (show (SH1 404).1 = 12 by decide +kernel) rfl (by decide) rfl rfl ?_
              refine dw_enter rfl ?_
              refine rB_X12_isNight (fun B hB => ?_)
              refine hB _ _ _ _ _ _ ?_
              refine dw_okS rfl rfl rfl (by decide) rfl rfl ?_
              refine dw_enter rfl ?_
              refine rB_X12_isIn (fun B hB => ?_)
              refine rB_X12_isNight (fun B hB => ?_)
              refine rB_X12_asks (fun B hB => ?_)
              refine rB_X12_gone (fun B hB => ?_)
              refine rB_law (fun B hB => ?_)
              refine hB _ _ _ _ _ _ ?_
              exact law_z
  · refine rB_law (fun B hB => ?_)
    refine hB _ _ _ _ _ _ ?_
    refine dw_okV (a := 0) (as := [.int (xs 1), .int (xs 2), .int (xs 3)]) rfl rfl (show (SH1 0).1 = 11 by decide +kernel) rfl (by decide) rfl rfl ?_
    refine dw_enter rfl ?_
    refine rB_X11_gone (fun B hB => ?_)
    refine hB _ _ _ _ _ _ ?_
    refine dw_okV (a := 4) rfl rfl (show (SH1 4).1 = 0 by decide +kernel) rfl (by decide) rfl rfl ?_
    refine dw_enter rfl ?_
    refine rB_X0_cellAt (fun B hB => ?_)
    refine dw_ite (fun h31 => ?_) (fun h31 => ?_)
    · refine rB_X11_gone (fun B hB => ?_)
      refine rB_law (fun B hB => ?_)
      refine hB _ _ _ _ _ _ ?_
      refine dw_okV (a := 404) (as := [.int (xs 1), .int (xs 2), .int (xs 3)]) rfl rfl (show (SH1 404).1 = 12 by decide +kernel) rfl (by decide) rfl rfl ?_
      refine dw_enter rfl ?_
      refine rB_X12_gone (fun B hB => ?_)
      refine hB _ _ _ _ _ _ ?_
      refine dw_okV (a := 404) rfl rfl (show (SH1 404).1 = 12 by decide +kernel) rfl (by decide) rfl rfl ?_
      refine dw_enter rfl ?_
      refine rB_X12_asks (fun B hB => ?_)
      refine hB _ _ _ _ _ _ ?_
      refine dw_okV (a := 404) rfl rfl (show (SH1 404).1 = 12 by decide +kernel) rfl (by decide) rfl rfl ?_
      refine dw_enter rfl ?_
      refine rB_X12_isNight (fun B hB => ?_)
      refine hB _ _ _ _ _ _ ?_
      refine dw_okS rfl rfl rfl (by decide) rfl rfl ?_
      refine dw_enter rfl ?_
      refine rB_X12_isIn (fun B hB => ?_)
      refine dw_itp n0 ?_
      refine rB_X12_isNight (fun B hB => ?_)
      refine rB_X12_asks (fun B hB => ?_)
      refine rB_X12_gone (fun B hB => ?_)
      refine rB_law (fun B hB => ?_)
      refine hB _ _ _ _ _ _ ?_
      exact law_z
    · refine dw_ite (fun h32 => ?_) (fun h32 => ?_)
      · refine rB_X11_gone (fun B hB => ?_)
        refine rB_law (fun B hB => ?_)
        refine hB _ _ _ _ _ _ ?_
        refine dw_okV (a := 404) (as := [.int (xs 1), .int (xs 2), .int (xs 3)]) rfl rfl (show (SH1 404).1 = 12 by decide +kernel) rfl (by decide) rfl rfl ?_
        refine dw_enter rfl ?_
        refine rB_X12_gone (fun B hB => ?_)
        refine hB _ _ _ _ _ _ ?_
        refine dw_okV (a := 404) rfl rfl (show (SH1 404).1 = 12 by decide +kernel) rfl (by decide) rfl rfl ?_
        refine dw_enter rfl ?_
        refine rB_X12_asks (fun B hB => ?_)
        refine hB _ _ _ _ _ _ ?_
        refine dw_okV (a := 404) rfl rfl (show (SH1 404).1 = 12 by decide +kernel) rfl (by decide) rfl rfl ?_
        refine dw_enter rfl ?_
        refine rB_X12_isNight (fun B hB => ?_)
        refine hB _ _ _ _ _ _ ?_
        refine dw_okS rfl rfl rfl (by decide) rfl rfl ?_
        refine dw_enter rfl ?_
        refine rB_X12_isIn (fun B hB => ?_)
        refine dw_itp n0 ?_
        refine rB_X12_isNight (fun B hB => ?_)
        refine rB_X12_asks (fun B hB => ?_)
        refine rB_X12_gone (fun B hB => ?_)
        refine rB_law (fun B hB => ?_)
        refine hB _ _ _ _ _ _ ?_
        exact law_z
      · refine dw_ite (fun h33 => ?_) (fun h33 => ?_)
        · refine rB_X11_gone (fun B hB => ?_)
          refine rB_law (fun B hB => ?_)
          refine hB _ _ _ _ _ _ ?_
          refine dw_okV (a := 404) (as := [.int (xs 1), .int (xs 2), .int (xs 3)]) rfl rfl (show (SH1 404).1 = 12 by decide +kernel) rfl (by decide) rfl rfl ?_
          refine dw_enter rfl ?_
          refine rB_X12_gone (fun B hB => ?_)
          refine hB _ _ _ _ _ _ ?_
          refine dw_okV (a := 404) rfl rfl (show (SH1 404).1 = 12 by decide +kernel) rfl (by decide) rfl rfl ?_
          refine dw_enter rfl ?_
          refine rB_X12_asks (fun B hB => ?_)
          refine hB _ _ _ _ _ _ ?_
          refine dw_okV (a := 404) rfl rfl (show (SH1 404).1 = 12 by decide +kernel) rfl (by decide) rfl rfl ?_
          refine dw_enter rfl ?_
          refine rB_X12_isNight (fun B hB => ?_)
          refine hB _ _ _ _ _ _ ?_
          refine dw_okS rfl rfl rfl (by decide) rfl rfl ?_
          refine dw_enter rfl ?_
          refine rB_X12_isIn (fun B hB => ?_)
          refine dw_itp n0 ?_
          refine rB_X12_isNight (fun B hB => ?_)
          refine rB_X12_asks (fun B hB => ?_)
          refine rB_X12_gone (fun B hB => ?_)
          refine rB_law (fun B hB => ?_)
          refine hB _ _ _ _ _ _ ?_
          exact law_z
        · refine dw_ite (fun h34 => ?_) (fun h34 => ?_)
          · refine rB_X11_gone (fun B hB => ?_)
            refine rB_law (fun B hB => ?_)
            refine hB _ _ _ _ _ _ ?_
            refine dw_okV (a := 404) (as := [.int (xs 1), .int (xs 2), .int (xs 3)]) rfl rfl (show (SH1 404).1 = 12 by decide +kernel) rfl (by decide) rfl rfl ?_
            refine dw_enter rfl ?_
            refine rB_X12_gone (fun B hB => ?_)
            refine hB _ _ _ _ _ _ ?_
            refine dw_okV (a := 404) rfl rfl (show (SH1 404).1 = 12 by decide +kernel) rfl (by decide) rfl rfl ?_
            refine dw_enter rfl ?_
            refine rB_X12_asks (fun B hB => ?_)
            refine hB _ _ _ _ _ _ ?_
            refine dw_okV (a := 404) rfl rfl (show (SH1 404).1 = 12 by decide +kernel) rfl (by decide) rfl rfl ?_
            refine dw_enter rfl ?_
            refine rB_X12_isNight (fun B hB => ?_)
            refine hB _ _ _ _ _ _ ?_
            refine dw_okS rfl rfl rfl (by decide) rfl rfl ?_
            refine dw_enter rfl ?_
            refine rB_X12_isIn (fun B hB => ?_)
            refine dw_itp n0 ?_
            refine rB_X12_isNight (fun B hB => ?_)
            refine rB_X12_asks (fun B hB => ?_)
            refine rB_X12_gone (fun B hB => ?_)
            refine rB_law (fun B hB => ?_)
            refine hB _ _ _ _ _ _ ?_
            exact law_z
          · refine rB_X11_gone (fun B hB => ?_)
            refine dw_ite (fun h35 => ?_) (fun h35 => ?_)
            · refine rB_law (fun B hB => ?_)
              refine hB _ _ _ _ _ _ ?_
              refine dw_okV (a := 404) (as := [.int (xs 1), .int (xs 2), .int (xs 3)]) rfl rfl (show (SH1 404).1 = 12 by decide +kernel) rfl (by decide) rfl rfl ?_
              refine dw_enter rfl ?_
              refine rB_X12_gone (fun B hB => ?_)
              refine hB _ _ _ _ _ _ ?_
              refine dw_okV (a := 404) rfl rfl (show (SH1 404).1 = 12 by decide +kernel) rfl (by decide) rfl rfl ?_
              refine dw_enter rfl ?_
              refine rB_X12_asks (fun B hB => ?_)
              refine hB _ _ _ _ _ _ ?_
              refine dw_okV (a := 404) rfl rfl (show (SH1 404).1 = 12 by decide +kernel) rfl (by decide) rfl rfl ?_
              refine dw_enter rfl ?_
              refine rB_X12_isNight (fun B hB => ?_)
              refine hB _ _ _ _ _ _ ?_
              refine dw_okS rfl rfl rfl (by decide) rfl rfl ?_
              refine dw_enter rfl ?_
              refine rB_X12_isIn (fun B hB => ?_)
              refine dw_itp n0 ?_
              refine rB_X12_isNight (fun B hB => ?_)
              refine rB_X12_asks (fun B hB => ?_)
              refine rB_X12_gone (fun B hB => ?_)
              refine rB_law (fun B hB => ?_)
              refine hB _ _ _ _ _ _ ?_
              exact law_z
            · refine hB _ _ _ _ _ _ ?_
              refine dw_okV (a := 0) rfl rfl (show (SH1 0).1 = 11 by decide +kernel) rfl (by decide) rfl rfl ?_
              refine dw_enter rfl ?_
              refine rB_X11_watched (fun B hB => ?_)
              refine hB _ _ _ _ _ _ ?_
              refine dw_okV (a := 0) rfl rfl (show (SH1 0).1 = 11 by decide +kernel) rfl (by decide) rfl rfl ?_
              refine dw_enter rfl ?_
              refine rB_X11_start (fun B hB => ?_)
              refine hB _ _ _ _ _ _ ?_
              refine dw_okV (a := 3) rfl rfl (show (SH1 3).1 = 8 by decide +kernel) rfl (by decide) rfl rfl ?_
              refine dw_enter rfl ?_
              refine rB_X8_nightOf (fun B hB => ?_)
              refine dw_itp n0 ?_
              refine rB_X11_start (fun B hB => ?_)
              refine rB_X11_watched (fun B hB => ?_)
              refine rB_X11_gone (fun B hB => ?_)
              refine rB_law (fun B hB => ?_)
              refine hB _ _ _ _ _ _ ?_
              refine dw_okV (a := 404) (as := [.int (xs 1), .int (xs 2), .int (xs 3)]) rfl rfl (show (SH1 404).1 = 12 by decide +kernel) rfl (by decide) rfl rfl ?_
              refine dw_enter rfl ?_
              refine rB_X12_gone (fun B hB => ?_)
              refine hB _ _ _ _ _ _ ?_
              refine dw_okV (a := 404) rfl rfl (show (SH1 404).1 = 12 by decide +kernel) rfl (by decide) rfl rfl ?_
              refine dw_enter rfl ?_
              refine rB_X12_asks (fun B hB => ?_)
              refine hB _ _ _ _ _ _ ?_
              refine dw_okV (a := 404) rfl rfl (show (SH1 404).1 = 12 by decide +kernel) rfl (by decide) rfl rfl ?_
              refine dw_enter rfl ?_
              refine rB_X12_isNight (fun B hB => ?_)
              refine hB _ _ _ _ _ _ ?_
              refine dw_okS rfl rfl rfl (by decide) rfl rfl ?_
              refine dw_enter rfl ?_
              refine rB_X12_isIn (fun B hB => ?_)
              refine dw_itp n0 ?_
              refine rB_X12_isNight (fun B hB => ?_)
              refine rB_X12_asks (fun B hB => ?_)
              refine rB_X12_gone (fun B hB => ?_)
              refine rB_law (fun B hB => ?_)
              refine hB _ _ _ _ _ _ ?_
              exact law_z
  · refine rB_law (fun B hB => ?_)
    refine hB _ _ _ _ _ _ ?_
    refine dw_okV (a := 0) (as := [.int (xs 1), .int (xs 2), .int (xs 3)]) rfl rfl (show (SH1 0).1 = 11 by decide +kernel) rfl (by decide) rfl rfl ?_
    refine dw_enter rfl ?_
    refine rB_X11_gone (fun B hB => ?_)
    refine hB _ _ _ _ _ _ ?_
    refine dw_okV (a := 4) rfl rfl (show (SH1 4).1 = 0 by decide +kernel) rfl (by decide) rfl rfl ?_
    refine dw_enter rfl ?_
    refine rB_X0_cellAt (fun B hB => ?_)
    refine dw_ite (fun h36 => ?_) (fun h36 => ?_)
    · refine rB_X11_gone (fun B hB => ?_)
      refine rB_law (fun B hB => ?_)
      refine hB _ _ _ _ _ _ ?_
      refine dw_okV (a := 404) (as := [.int (xs 1), .int (xs 2), .int (xs 3)]) rfl rfl (show (SH1 404).1 = 12 by decide +kernel) rfl (by decide) rfl rfl ?_
      refine dw_enter rfl ?_
      refine rB_X12_gone (fun B hB => ?_)
      refine hB _ _ _ _ _ _ ?_
      refine dw_okV (a := 404) rfl rfl (show (SH1 404).1 = 12 by decide +kernel) rfl (by decide) rfl rfl ?_
      refine dw_enter rfl ?_
      refine rB_X12_asks (fun B hB => ?_)
      refine hB _ _ _ _ _ _ ?_
      refine dw_okV (a := 404) rfl rfl (show (SH1 404).1 = 12 by decide +kernel) rfl (by decide) rfl rfl ?_
      refine dw_enter rfl ?_
      refine rB_X12_isNight (fun B hB => ?_)
      refine hB _ _ _ _ _ _ ?_
      refine dw_okS rfl rfl rfl (by decide) rfl rfl ?_
      refine dw_enter rfl ?_
      refine rB_X12_isIn (fun B hB => ?_)
      refine dw_itn n1 ?_
      refine dw_itp n2 ?_
      refine rB_X12_isNight (fun B hB => ?_)
      refine rB_X12_asks (fun B hB => ?_)
      refine rB_X12_gone (fun B hB => ?_)
      refine rB_law (fun B hB => ?_)
      refine hB _ _ _ _ _ _ ?_
      exact law_z
    · refine dw_ite (fun h37 => ?_) (fun h37 => ?_)
      · refine rB_X11_gone (fun B hB => ?_)
        refine rB_law (fun B hB => ?_)
        refine hB _ _ _ _ _ _ ?_
        refine dw_okV (a := 404) (as := [.int (xs 1), .int (xs 2), .int (xs 3)]) rfl rfl (show (SH1 404).1 = 12 by decide +kernel) rfl (by decide) rfl rfl ?_
        refine dw_enter rfl ?_
        refine rB_X12_gone (fun B hB => ?_)
        refine hB _ _ _ _ _ _ ?_
        refine dw_okV (a := 404) rfl rfl (show (SH1 404).1 = 12 by decide +kernel) rfl (by decide) rfl rfl ?_
        refine dw_enter rfl ?_
        refine rB_X12_asks (fun B hB => ?_)
        refine hB _ _ _ _ _ _ ?_
        refine dw_okV (a := 404) rfl rfl (show (SH1 404).1 = 12 by decide +kernel) rfl (by decide) rfl rfl ?_
        refine dw_enter rfl ?_
        refine rB_X12_isNight (fun B hB => ?_)
        refine hB _ _ _ _ _ _ ?_
        refine dw_okS rfl rfl rfl (by decide) rfl rfl ?_
        refine dw_enter rfl ?_
        refine rB_X12_isIn (fun B hB => ?_)
        refine dw_itn n1 ?_
        refine dw_itp n2 ?_
        refine rB_X12_isNight (fun B hB => ?_)
        refine rB_X12_asks (fun B hB => ?_)
        refine rB_X12_gone (fun B hB => ?_)
        refine rB_law (fun B hB => ?_)
        refine hB _ _ _ _ _ _ ?_
        exact law_z
      · refine dw_ite (fun h38 => ?_) (fun h38 => ?_)
        · refine rB_X11_gone (fun B hB => ?_)
          refine rB_law (fun B hB => ?_)
          refine hB _ _ _ _ _ _ ?_
          refine dw_okV (a := 404) (as := [.int (xs 1), .int (xs 2), .int (xs 3)]) rfl rfl (show (SH1 404).1 = 12 by decide +kernel) rfl (by decide) rfl rfl ?_
          refine dw_enter rfl ?_
          refine rB_X12_gone (fun B hB => ?_)
          refine hB _ _ _ _ _ _ ?_
          refine dw_okV (a := 404) rfl rfl (show (SH1 404).1 = 12 by decide +kernel) rfl (by decide) rfl rfl ?_
          refine dw_enter rfl ?_
          refine rB_X12_asks (fun B hB => ?_)
          refine hB _ _ _ _ _ _ ?_
          refine dw_okV (a := 404) rfl rfl (show (SH1 404).1 = 12 by decide +kernel) rfl (by decide) rfl rfl ?_
          refine dw_enter rfl ?_
          refine rB_X12_isNight (fun B hB => ?_)
          refine hB _ _ _ _ _ _ ?_
          refine dw_okS rfl rfl rfl (by decide) rfl rfl ?_
          refine dw_enter rfl ?_
          refine rB_X12_isIn (fun B hB => ?_)
          refine dw_itn n1 ?_
          refine dw_itp n2 ?_
          refine rB_X12_isNight (fun B hB => ?_)
          refine rB_X12_asks (fun B hB => ?_)
          refine rB_X12_gone (fun B hB => ?_)
          refine rB_law (fun B hB => ?_)
          refine hB _ _ _ _ _ _ ?_
          exact law_z
        · refine dw_ite (fun h39 => ?_) (fun h39 => ?_)
          · refine rB_X11_gone (fun B hB => ?_)
            refine rB_law (fun B hB => ?_)
            refine hB _ _ _ _ _ _ ?_
            refine dw_okV (a := 404) (as := [.int (xs 1), .int (xs 2), .int (xs 3)]) rfl rfl (show (SH1 404).1 = 12 by decide +kernel) rfl (by decide) rfl rfl ?_
            refine dw_enter rfl ?_
            refine rB_X12_gone (fun B hB => ?_)
            refine hB _ _ _ _ _ _ ?_
            refine dw_okV (a := 404) rfl rfl (show (SH1 404).1 = 12 by decide +kernel) rfl (by decide) rfl rfl ?_
            refine dw_enter rfl ?_
            refine rB_X12_asks (fun B hB => ?_)
            refine hB _ _ _ _ _ _ ?_
            refine dw_okV (a := 404) rfl rfl (show (SH1 404).1 = 12 by decide +kernel) rfl (by decide) rfl rfl ?_
            refine dw_enter rfl ?_
            refine rB_X12_isNight (fun B hB => ?_)
            refine hB _ _ _ _ _ _ ?_
            refine dw_okS rfl rfl rfl (by decide) rfl rfl ?_
            refine dw_enter rfl ?_
            refine rB_X12_isIn (fun B hB => ?_)
            refine dw_itn n1 ?_
            refine dw_itp n2 ?_
            refine rB_X12_isNight (fun B hB => ?_)
            refine rB_X12_asks (fun B hB => ?_)
            refine rB_X12_gone (fun B hB => ?_)
            refine rB_law (fun B hB => ?_)
            refine hB _ _ _ _ _ _ ?_
            exact law_z
          · refine rB_X11_gone (fun B hB => ?_)
            refine dw_ite (fun h40 => ?_) (fun h40 => ?_)
            · refine rB_law (fun B hB => ?_)
              refine hB _ _ _ _ _ _ ?_
              refine dw_okV (a := 404) (as := [.int (xs 1), .int (xs 2), .int (xs 3)]) rfl rfl (show (SH1 404).1 = 12 by decide +kernel) rfl (by decide) rfl rfl ?_
              refine dw_enter rfl ?_
              refine rB_X12_gone (fun B hB => ?_)
              refine hB _ _ _ _ _ _ ?_
              refine dw_okV (a := 404) rfl rfl (show (SH1 404).1 = 12 by decide +kernel) rfl (by decide) rfl rfl ?_
              refine dw_enter rfl ?_
              refine rB_X12_asks (fun B hB => ?_)
              refine hB _ _ _ _ _ _ ?_
              refine dw_okV (a := 404) rfl rfl (show (SH1 404).1 = 12 by decide +kernel) rfl (by decide) rfl rfl ?_
              refine dw_enter rfl ?_
              refine rB_X12_isNight (fun B hB => ?_)
              refine hB _ _ _ _ _ _ ?_
              refine dw_okS rfl rfl rfl (by decide) rfl rfl ?_
              refine dw_enter rfl ?_
              refine rB_X12_isIn (fun B hB => ?_)
              refine dw_itn n1 ?_
              refine dw_itp n2 ?_
              refine rB_X12_isNight (fun B hB => ?_)
              refine rB_X12_asks (fun B hB => ?_)
              refine rB_X12_gone (fun B hB => ?_)
              refine rB_law (fun B hB => ?_)
              refine hB _ _ _ _ _ _ ?_
              exact law_z
            · refine hB _ _ _ _ _ _ ?_
              refine dw_okV (a := 0) rfl rfl (show (SH1 0).1 = 11 by decide +kernel) rfl (by decide) rfl rfl ?_
              refine dw_enter rfl ?_
              refine rB_X11_watched (fun B hB => ?_)
              refine hB _ _ _ _ _ _ ?_
              refine dw_okV (a := 0) rfl rfl (show (SH1 0).1 = 11 by decide +kernel) rfl (by decide) rfl rfl ?_
              refine dw_enter rfl ?_
              refine rB_X11_start (fun B hB => ?_)
              refine hB _ _ _ _ _ _ ?_
              refine dw_okV (a := 3) rfl rfl (show (SH1 3).1 = 8 by decide +kernel) rfl (by decide) rfl rfl ?_
              refine dw_enter rfl ?_
              refine rB_X8_nightOf (fun B hB => ?_)
              refine dw_itn n1 ?_
              refine dw_itp n3 ?_
              refine rB_X11_start (fun B hB => ?_)
              refine rB_X11_watched (fun B hB => ?_)
              refine rB_X11_gone (fun B hB => ?_)
              refine rB_law (fun B hB => ?_)
              refine hB _ _ _ _ _ _ ?_
              refine dw_okV (a := 404) (as := [.int (xs 1), .int (xs 2), .int (xs 3)]) rfl rfl (show (SH1 404).1 = 12 by decide +kernel) rfl (by decide) rfl rfl ?_
              refine dw_enter rfl ?_
              refine rB_X12_gone (fun B hB => ?_)
              refine hB _ _ _ _ _ _ ?_
              refine dw_okV (a := 404) rfl rfl (show (SH1 404).1 = 12 by decide +kernel) rfl (by decide) rfl rfl ?_
              refine dw_enter rfl ?_
              refine rB_X12_asks (fun B hB => ?_)
              refine hB _ _ _ _ _ _ ?_
              refine dw_okV (a := 404) rfl rfl (show (SH1 404).1 = 12 by decide +kernel) rfl (by decide) rfl rfl ?_
              refine dw_enter rfl ?_
              refine rB_X12_isNight (fun B hB => ?_)
              refine hB _ _ _ _ _ _ ?_
              refine dw_okS rfl rfl rfl (by decide) rfl rfl ?_
              refine dw_enter rfl ?_
              refine rB_X12_isIn (fun B hB => ?_)
              refine dw_itn n1 ?_
              refine dw_itp n2 ?_
              refine rB_X12_isNight (fun B hB => ?_)
              refine rB_X12_asks (fun B hB => ?_)
              refine rB_X12_gone (fun B hB => ?_)
              refine rB_law (fun B hB => ?_)
              refine hB _ _ _ _ _ _ ?_
              exact law_z
set_option maxHeartbeats 2000000 in
set_option maxRecDepth 20000 in
theorem law_c18 {xs : Nat → Int32} : dw_ok (pr_law 6 xs) 928 599567 7247295 (dw_l1 0 none none) [] (435, SH1, IN1, JN1) := by
  rcases dw_rng6 (xs 1) with hs | hs | hs | hs | hs | hs | ⟨n0, n1⟩ | ⟨n0, n1, n2, n3, n4, n5, n6⟩
  · refine rB_law (fun B hB => ?_)
    refine hB _ _ _ _ _ _ ?_
    refine dw_okV (a := 0) (as := [.int (xs 1), .int (xs 2), .int (xs 3)]) rfl rfl (show (SH1 0).1 = 11 by decide +kernel) rfl (by decide) rfl rfl ?_
    rw [hs]
    refine dw_enter rfl ?_
    refine rB_X11_wet (fun B hB => ?_)
    refine hB _ _ _ _ _ _ ?_
    refine dw_okV (a := 4) rfl rfl (show (SH1 4).1 = 0 by decide +kernel) rfl (by decide) rfl rfl ?_
    refine dw_enter rfl ?_
    refine rB_X0_cellAt (fun B hB => ?_)
    refine dw_ite (fun h1 => ?_) (fun h1 => ?_)
    · refine rB_X11_wet (fun B hB => ?_)
      refine rB_law (fun B hB => ?_)
      refine hB _ _ _ _ _ _ ?_
      refine dw_okV (a := 404) (as := [.int (xs 1), .int (xs 2), .int (xs 3)]) rfl rfl (show (SH1 404).1 = 12 by decide +kernel) rfl (by decide) rfl rfl ?_
      rw [hs]
      refine dw_enter rfl ?_
      refine rB_X12_wet (fun B hB => ?_)
      refine hB _ _ _ _ _ _ ?_
      refine dw_okV (a := 404) rfl rfl (show (SH1 404).1 = 12 by decide +kernel) rfl (by decide) rfl rfl ?_
      refine dw_enter rfl ?_
      refine rB_X12_asks (fun B hB => ?_)
      refine hB _ _ _ _ _ _ ?_
      refine dw_okV (a := 404) rfl rfl (show (SH1 404).1 = 12 by decide +kernel) rfl (by decide) rfl rfl ?_
      refine dw_enter rfl ?_
      refine rB_X12_isNight (fun B hB => ?_)
      refine hB _ _ _ _ _ _ ?_
      refine dw_okS rfl rfl rfl (by decide) rfl rfl ?_
      refine dw_enter rfl ?_
      refine rB_X12_isIn (fun B hB => ?_)
      refine rB_X12_isNight (fun B hB => ?_)
      refine rB_X12_asks (fun B hB => ?_)
      refine rB_X12_wet (fun B hB => ?_)
      refine rB_law (fun B hB => ?_)
      refine hB _ _ _ _ _ _ ?_
      exact law_z
    · refine dw_ite (fun h2 => ?_) (fun h2 => ?_)
      · refine rB_X11_wet (fun B hB => ?_)
        refine rB_law (fun B hB => ?_)
        refine hB _ _ _ _ _ _ ?_
        refine dw_okV (a := 404) (as := [.int (xs 1), .int (xs 2), .int (xs 3)]) rfl rfl (show (SH1 404).1 = 12 by decide +kernel) rfl (by decide) rfl rfl ?_
        rw [hs]
        refine dw_enter rfl ?_
        refine rB_X12_wet (fun B hB => ?_)
        refine hB _ _ _ _ _ _ ?_
        refine dw_okV (a := 404) rfl rfl (show (SH1 404).1 = 12 by decide +kernel) rfl (by decide) rfl rfl ?_
        refine dw_enter rfl ?_
        refine rB_X12_asks (fun B hB => ?_)
        refine hB _ _ _ _ _ _ ?_
        refine dw_okV (a := 404) rfl rfl (show (SH1 404).1 = 12 by decide +kernel) rfl (by decide) rfl rfl ?_
        refine dw_enter rfl ?_
        refine rB_X12_isNight (fun B hB => ?_)
        refine hB _ _ _ _ _ _ ?_
        refine dw_okS rfl rfl rfl (by decide) rfl rfl ?_
        refine dw_enter rfl ?_
        refine rB_X12_isIn (fun B hB => ?_)
        refine rB_X12_isNight (fun B hB => ?_)
        refine rB_X12_asks (fun B hB => ?_)
        refine rB_X12_wet (fun B hB => ?_)
        refine rB_law (fun B hB => ?_)
        refine hB _ _ _ _ _ _ ?_
        exact law_z
      · refine dw_ite (fun h3 => ?_) (fun h3 => ?_)
        · refine rB_X11_wet (fun B hB => ?_)
          refine rB_law (fun B hB => ?_)
          refine hB _ _ _ _ _ _ ?_
          refine dw_okV (a := 404) (as := [.int (xs 1), .int (xs 2), .int (xs 3)]) rfl rfl (show (SH1 404).1 = 12 by decide +kernel) rfl (by decide) rfl rfl ?_
          rw [hs]
          refine dw_enter rfl ?_
          refine rB_X12_wet (fun B hB => ?_)
          refine hB _ _ _ _ _ _ ?_
          refine dw_okV (a := 404) rfl rfl (show (SH1 404).1 = 12 by decide +kernel) rfl (by decide) rfl rfl ?_
          refine dw_enter rfl ?_
          refine rB_X12_asks (fun B hB => ?_)
          refine hB _ _ _ _ _ _ ?_
          refine dw_okV (a := 404) rfl rfl (show (SH1 404).1 = 12 by decide +kernel) rfl (by decide) rfl rfl ?_
          refine dw_enter rfl ?_
          refine rB_X12_isNight (fun B hB => ?_)
          refine hB _ _ _ _ _ _ ?_
          refine dw_okS rfl rfl rfl (by decide) rfl rfl ?_
          refine dw_enter rfl ?_
          refine rB_X12_isIn (fun B hB => ?_)
          refine rB_X12_isNight (fun B hB => ?_)
          refine rB_X12_asks (fun B hB => ?_)
          refine rB_X12_wet (fun B hB => ?_)
          refine rB_law (fun B hB => ?_)
          refine hB _ _ _ _ _ _ ?_
          exact law_z
        · refine dw_ite (fun h4 => ?_) (fun h4 => ?_)
          · refine rB_X11_wet (fun B hB => ?_)
            refine rB_law (fun B hB => ?_)
            refine hB _ _ _ _ _ _ ?_
            refine dw_okV (a := 404) (as := [.int (xs 1), .int (xs 2), .int (xs 3)]) rfl rfl (show (SH1 404).1 = 12 by decide +kernel) rfl (by decide) rfl rfl ?_
            rw [hs]
            refine dw_enter rfl ?_
            refine rB_X12_wet (fun B hB => ?_)
            refine hB _ _ _ _ _ _ ?_
            refine dw_okV (a := 404) rfl rfl (show (SH1 404).1 = 12 by decide +kernel) rfl (by decide) rfl rfl ?_
            refine dw_enter rfl ?_
            refine rB_X12_asks (fun B hB => ?_)
            refine hB _ _ _ _ _ _ ?_
            refine dw_okV (a := 404) rfl rfl (show (SH1 404).1 = 12 by decide +kernel) rfl (by decide) rfl rfl ?_
            refine dw_enter rfl ?_
            refine rB_X12_isNight (fun B hB => ?_)
            refine hB _ _ _ _ _ _ ?_
            refine dw_okS rfl rfl rfl (by decide) rfl rfl ?_
            refine dw_enter rfl ?_
            refine rB_X12_isIn (fun B hB => ?_)
            refine rB_X12_isNight (fun B hB => ?_)
            refine rB_X12_asks (fun B hB => ?_)
            refine rB_X12_wet (fun B hB => ?_)
            refine rB_law (fun B hB => ?_)
            refine hB _ _ _ _ _ _ ?_
            exact law_z
          · refine rB_X11_wet (fun B hB => ?_)
            refine dw_ite (fun h5 => ?_) (fun h5 => ?_)
            · refine rB_law (fun B hB => ?_)
              refine hB _ _ _ _ _ _ ?_
              refine dw_okV (a := 404) (as := [.int (xs 1), .int (xs 2), .int (xs 3)]) rfl rfl (show (SH1 404).1 = 12 by decide +kernel) rfl (by decide) rfl rfl ?_
              rw [hs]
              refine dw_enter rfl ?_
              refine rB_X12_wet (fun B hB => ?_)
              refine hB _ _ _ _ _ _ ?_
              refine dw_okV (a := 404) rfl rfl (show (SH1 404).1 = 12 by decide +kernel) rfl (by decide) rfl rfl ?_
              refine dw_enter rfl ?_
              refine rB_X12_asks (fun B hB => ?_)
              refine hB _ _ _ _ _ _ ?_
              refine dw_okV (a := 404) rfl rfl (show (SH1 404).1 = 12 by decide +kernel) rfl (by decide) rfl rfl ?_
              refine dw_enter rfl ?_
              refine rB_X12_isNight (fun B hB => ?_)
              refine hB _ _ _ _ _ _ ?_
              refine dw_okS rfl rfl rfl (by decide) rfl rfl ?_
              refine dw_enter rfl ?_
              refine rB_X12_isIn (fun B hB => ?_)
              refine rB_X12_isNight (fun B hB => ?_)
              refine rB_X12_asks (fun B hB => ?_)
              refine rB_X12_wet (fun B hB => ?_)
              refine rB_law (fun B hB => ?_)
              refine hB _ _ _ _ _ _ ?_
              exact law_z
            · refine hB _ _ _ _ _ _ ?_
              refine dw_okV (a := 0) rfl rfl (show (SH1 0).1 = 11 by decide +kernel) rfl (by decide) rfl rfl ?_
              refine dw_enter rfl ?_
              refine rB_X11_watched (fun B hB => ?_)
              refine hB _ _ _ _ _ _ ?_
              refine dw_okV (a := 0) rfl rfl (show (SH1 0).1 = 11 by decide +kernel) rfl (by decide) rfl rfl ?_
              refine dw_enter rfl ?_
              refine rB_X11_start (fun B hB => ?_)
              refine hB _ _ _ _ _ _ ?_
              refine dw_okV (a := 3) rfl rfl (show (SH1 3).1 = 8 by decide +kernel) rfl (by decide) rfl rfl ?_
              refine dw_enter rfl ?_
              refine rB_X8_nightOf (fun B hB => ?_)
              refine rB_X11_start (fun B hB => ?_)
              refine (fun (_ : _ ∨ _) => ?_)
              refine rB_X11_watched (fun B hB => ?_)
              refine rB_X11_wet (fun B hB => ?_)
              refine rB_law (fun B hB => ?_)
              refine hB _ _ _ _ _ _ ?_
              refine dw_okV (a := 404) (as := [.int (xs 1), .int (xs 2), .int (xs 3)]) rfl rfl (show (SH1 404).1 = 12 by decide +kernel) rfl (by decide) rfl rfl ?_
              rw [hs]
              refine dw_enter rfl ?_
              refine rB_X12_wet (fun B hB => ?_)
              refine hB _ _ _ _ _ _ ?_
              refine dw_okV (a := 404) rfl rfl (show (SH1 404).1 = 12 by decide +kernel) rfl (by decide) rfl rfl ?_
              refine dw_enter rfl ?_
              refine rB_X12_asks (fun B hB => ?_)
              refine hB _ _ _ _ _ _ ?_
              refine dw_okV (a := 404) rfl rfl (show (SH1 404).1 = 12 by decide +kernel) rfl (by decide) rfl rfl ?_
              refine dw_enter rfl ?_
              refine rB_X12_isNight (fun B hB => ?_)
              refine hB _ _ _ _ _ _ ?_
              refine dw_okS rfl rfl rfl (by decide) rfl rfl ?_
              refine dw_enter rfl ?_
              refine rB_X12_isIn (fun B hB => ?_)
              refine rB_X12_isNight (fun B hB => ?_)
              refine rB_X12_asks (fun B hB => ?_)
              refine rB_X12_wet (fun B hB => ?_)
              refine rB_law (fun B hB => ?_)
              refine hB _ _ _ _ _ _ ?_
              exact law_z
  · refine rB_law (fun B hB => ?_)
    refine hB _ _ _ _ _ _ ?_
    refine dw_okV (a := 0) (as := [.int (xs 1), .int (xs 2), .int (xs 3)]) rfl rfl (show (SH1 0).1 = 11 by decide +kernel) rfl (by decide) rfl rfl ?_
    rw [hs]
    refine dw_enter rfl ?_
    refine rB_X11_wet (fun B hB => ?_)
    refine hB _ _ _ _ _ _ ?_
    refine dw_okV (a := 4) rfl rfl (show (SH1 4).1 = 0 by decide +kernel) rfl (by decide) rfl rfl ?_
    refine dw_enter rfl ?_
    refine rB_X0_cellAt (fun B hB => ?_)
    refine dw_ite (fun h6 => ?_) (fun h6 => ?_)
    · refine rB_X11_wet (fun B hB => ?_)
      refine rB_law (fun B hB => ?_)
      refine hB _ _ _ _ _ _ ?_
      refine dw_okV (a := 404) (as := [.int (xs 1), .int (xs 2), .int (xs 3)]) rfl rfl (show (SH1 404).1 = 12 by decide +kernel) rfl (by decide) rfl rfl ?_
      rw [hs]
      refine dw_enter rfl ?_
      refine rB_X12_wet (fun B hB => ?_)
      refine hB _ _ _ _ _ _ ?_
      refine dw_okV (a := 404) rfl rfl (show (SH1 404).1 = 12 by decide +kernel) rfl (by decide) rfl rfl ?_
      refine dw_enter rfl ?_
      refine rB_X12_asks (fun B hB => ?_)
      refine hB _ _ _ _ _ _ ?_
      refine dw_okV (a := 404) rfl rfl (show (SH1 404).1 = 12 by decide +kernel) rfl (by decide) rfl rfl ?_
      refine dw_enter rfl ?_
      refine rB_X12_isNight (fun B hB => ?_)
      refine hB _ _ _ _ _ _ ?_
      refine dw_okS rfl rfl rfl (by decide) rfl rfl ?_
      refine dw_enter rfl ?_
      refine rB_X12_isIn (fun B hB => ?_)
      refine rB_X12_isNight (fun B hB => ?_)
      refine rB_X12_asks (fun B hB => ?_)
      refine rB_X12_wet (fun B hB => ?_)
      refine rB_law (fun B hB => ?_)
      refine hB _ _ _ _ _ _ ?_
      exact law_z
    · refine dw_ite (fun h7 => ?_) (fun h7 => ?_)
      · refine rB_X11_wet (fun B hB => ?_)
        refine rB_law (fun B hB => ?_)
        refine hB _ _ _ _ _ _ ?_
        refine dw_okV (a := 404) (as := [.int (xs 1), .int (xs 2), .int (xs 3)]) rfl rfl (show (SH1 404).1 = 12 by decide +kernel) rfl (by decide) rfl rfl ?_
        rw [hs]
        refine dw_enter rfl ?_
        refine rB_X12_wet (fun B hB => ?_)
        refine hB _ _ _ _ _ _ ?_
        refine dw_okV (a := 404) rfl rfl (show (SH1 404).1 = 12 by decide +kernel) rfl (by decide) rfl rfl ?_
        refine dw_enter rfl ?_
        refine rB_X12_asks (fun B hB => ?_)
        refine hB _ _ _ _ _ _ ?_
        refine dw_okV (a := 404) rfl rfl (show (SH1 404).1 = 12 by decide +kernel) rfl (by decide) rfl rfl ?_
        refine dw_enter rfl ?_
        refine rB_X12_isNight (fun B hB => ?_)
        refine hB _ _ _ _ _ _ ?_
        refine dw_okS rfl rfl rfl (by decide) rfl rfl ?_
        refine dw_enter rfl ?_
        refine rB_X12_isIn (fun B hB => ?_)
        refine rB_X12_isNight (fun B hB => ?_)
        refine rB_X12_asks (fun B hB => ?_)
        refine rB_X12_wet (fun B hB => ?_)
        refine rB_law (fun B hB => ?_)
        refine hB _ _ _ _ _ _ ?_
        exact law_z
      · refine dw_ite (fun h8 => ?_) (fun h8 => ?_)
        · refine rB_X11_wet (fun B hB => ?_)
          refine rB_law (fun B hB => ?_)
          refine hB _ _ _ _ _ _ ?_
          refine dw_okV (a := 404) (as := [.int (xs 1), .int (xs 2), .int (xs 3)]) rfl rfl (show (SH1 404).1 = 12 by decide +kernel) rfl (by decide) rfl rfl ?_
          rw [hs]
          refine dw_enter rfl ?_
          refine rB_X12_wet (fun B hB => ?_)
          refine hB _ _ _ _ _ _ ?_
          refine dw_okV (a := 404) rfl rfl (show (SH1 404).1 = 12 by decide +kernel) rfl (by decide) rfl rfl ?_
          refine dw_enter rfl ?_
          refine rB_X12_asks (fun B hB => ?_)
          refine hB _ _ _ _ _ _ ?_
          refine dw_okV (a := 404) rfl rfl (show (SH1 404).1 = 12 by decide +kernel) rfl (by decide) rfl rfl ?_
          refine dw_enter rfl ?_
          refine rB_X12_isNight (fun B hB => ?_)
          refine hB _ _ _ _ _ _ ?_
          refine dw_okS rfl rfl rfl (by decide) rfl rfl ?_
          refine dw_enter rfl ?_
          refine rB_X12_isIn (fun B hB => ?_)
          refine rB_X12_isNight (fun B hB => ?_)
          refine rB_X12_asks (fun B hB => ?_)
          refine rB_X12_wet (fun B hB => ?_)
          refine rB_law (fun B hB => ?_)
          refine hB _ _ _ _ _ _ ?_
          exact law_z
        · refine dw_ite (fun h9 => ?_) (fun h9 => ?_)
          · refine rB_X11_wet (fun B hB => ?_)
            refine rB_law (fun B hB => ?_)
            refine hB _ _ _ _ _ _ ?_
            refine dw_okV (a := 404) (as := [.int (xs 1), .int (xs 2), .int (xs 3)]) rfl rfl (show (SH1 404).1 = 12 by decide +kernel) rfl (by decide) rfl rfl ?_
            rw [hs]
            refine dw_enter rfl ?_
            refine rB_X12_wet (fun B hB => ?_)
            refine hB _ _ _ _ _ _ ?_
            refine dw_okV (a := 404) rfl rfl (show (SH1 404).1 = 12 by decide +kernel) rfl (by decide) rfl rfl ?_
            refine dw_enter rfl ?_
            refine rB_X12_asks (fun B hB => ?_)
            refine hB _ _ _ _ _ _ ?_
            refine dw_okV (a := 404) rfl rfl (show (SH1 404).1 = 12 by decide +kernel) rfl (by decide) rfl rfl ?_
            refine dw_enter rfl ?_
            refine rB_X12_isNight (fun B hB => ?_)
            refine hB _ _ _ _ _ _ ?_
            refine dw_okS rfl rfl rfl (by decide) rfl rfl ?_
            refine dw_enter rfl ?_
            refine rB_X12_isIn (fun B hB => ?_)
            refine rB_X12_isNight (fun B hB => ?_)
            refine rB_X12_asks (fun B hB => ?_)
            refine rB_X12_wet (fun B hB => ?_)
            refine rB_law (fun B hB => ?_)
            refine hB _ _ _ _ _ _ ?_
            exact law_z
          · refine rB_X11_wet (fun B hB => ?_)
            refine dw_ite (fun h10 => ?_) (fun h10 => ?_)
            · refine rB_law (fun B hB => ?_)
              refine hB _ _ _ _ _ _ ?_
              refine dw_okV (a := 404) (as := [.int (xs 1), .int (xs 2), .int (xs 3)]) rfl rfl (show (SH1 404).1 = 12 by decide +kernel) rfl (by decide) rfl rfl ?_
              rw [hs]
              refine dw_enter rfl ?_
              refine rB_X12_wet (fun B hB => ?_)
              refine hB _ _ _ _ _ _ ?_
              refine dw_okV (a := 404) rfl rfl (show (SH1 404).1 = 12 by decide +kernel) rfl (by decide) rfl rfl ?_
              refine dw_enter rfl ?_
              refine rB_X12_asks (fun B hB => ?_)
              refine hB _ _ _ _ _ _ ?_
              refine dw_okV (a := 404) rfl rfl (show (SH1 404).1 = 12 by decide +kernel) rfl (by decide) rfl rfl ?_
              refine dw_enter rfl ?_
              refine rB_X12_isNight (fun B hB => ?_)
              refine hB _ _ _ _ _ _ ?_
              refine dw_okS rfl rfl rfl (by decide) rfl rfl ?_
              refine dw_enter rfl ?_
              refine rB_X12_isIn (fun B hB => ?_)
              refine rB_X12_isNight (fun B hB => ?_)
              refine rB_X12_asks (fun B hB => ?_)
              refine rB_X12_wet (fun B hB => ?_)
              refine rB_law (fun B hB => ?_)
              refine hB _ _ _ _ _ _ ?_
              exact law_z
            · refine hB _ _ _ _ _ _ ?_
              refine dw_okV (a := 0) rfl rfl (show (SH1 0).1 = 11 by decide +kernel) rfl (by decide) rfl rfl ?_
              refine dw_enter rfl ?_
              refine rB_X11_watched (fun B hB => ?_)
              refine hB _ _ _ _ _ _ ?_
              refine dw_okV (a := 0) rfl rfl (show (SH1 0).1 = 11 by decide +kernel) rfl (by decide) rfl rfl ?_
              refine dw_enter rfl ?_
              refine rB_X11_start (fun B hB => ?_)
              refine hB _ _ _ _ _ _ ?_
              refine dw_okV (a := 3) rfl rfl (show (SH1 3).1 = 8 by decide +kernel) rfl (by decide) rfl rfl ?_
              refine dw_enter rfl ?_
              refine rB_X8_nightOf (fun B hB => ?_)
              refine rB_X11_start (fun B hB => ?_)
              refine (fun (_ : _ ∨ _) => ?_)
              refine rB_X11_watched (fun B hB => ?_)
              refine rB_X11_wet (fun B hB => ?_)
              refine rB_law (fun B hB => ?_)
              refine hB _ _ _ _ _ _ ?_
              refine dw_okV (a := 404) (as := [.int (xs 1), .int (xs 2), .int (xs 3)]) rfl rfl (show (SH1 404).1 = 12 by decide +kernel) rfl (by decide) rfl rfl ?_
              rw [hs]
              refine dw_enter rfl ?_
              refine rB_X12_wet (fun B hB => ?_)
              refine hB _ _ _ _ _ _ ?_
              refine dw_okV (a := 404) rfl rfl (show (SH1 404).1 = 12 by decide +kernel) rfl (by decide) rfl rfl ?_
              refine dw_enter rfl ?_
              refine rB_X12_asks (fun B hB => ?_)
              refine hB _ _ _ _ _ _ ?_
              refine dw_okV (a := 404) rfl rfl (show (SH1 404).1 = 12 by decide +kernel) rfl (by decide) rfl rfl ?_
              refine dw_enter rfl ?_
              refine rB_X12_isNight (fun B hB => ?_)
              refine hB _ _ _ _ _ _ ?_
              refine dw_okS rfl rfl rfl (by decide) rfl rfl ?_
              refine dw_enter rfl ?_
              refine rB_X12_isIn (fun B hB => ?_)
              refine rB_X12_isNight (fun B hB => ?_)
              refine rB_X12_asks (fun B hB => ?_)
              refine rB_X12_wet (fun B hB => ?_)
              refine rB_law (fun B hB => ?_)
              refine hB _ _ _ _ _ _ ?_
              exact law_z
  · refine rB_law (fun B hB => ?_)
    refine hB _ _ _ _ _ _ ?_
    refine dw_okV (a := 0) (as := [.int (xs 1), .int (xs 2), .int (xs 3)]) rfl rfl (show (SH1 0).1 = 11 by decide +kernel) rfl (by decide) rfl rfl ?_
    rw [hs]
    refine dw_enter rfl ?_
    refine rB_X11_wet (fun B hB => ?_)
    refine hB _ _ _ _ _ _ ?_
    refine dw_okV (a := 4) rfl rfl (show (SH1 4).1 = 0 by decide +kernel) rfl (by decide) rfl rfl ?_
    refine dw_enter rfl ?_
    refine rB_X0_cellAt (fun B hB => ?_)
    refine dw_ite (fun h11 => ?_) (fun h11 => ?_)
    · refine rB_X11_wet (fun B hB => ?_)
      refine rB_law (fun B hB => ?_)
      refine hB _ _ _ _ _ _ ?_
      refine dw_okV (a := 404) (as := [.int (xs 1), .int (xs 2), .int (xs 3)]) rfl rfl (show (SH1 404).1 = 12 by decide +kernel) rfl (by decide) rfl rfl ?_
      rw [hs]
      refine dw_enter rfl ?_
      refine rB_X12_wet (fun B hB => ?_)
      refine hB _ _ _ _ _ _ ?_
      refine dw_okV (a := 404) rfl rfl (show (SH1 404).1 = 12 by decide +kernel) rfl (by decide) rfl rfl ?_
      refine dw_enter rfl ?_
      refine rB_X12_asks (fun B hB => ?_)
      refine hB _ _ _ _ _ _ ?_
      refine dw_okV (a := 404) rfl rfl (show (SH1 404).1 = 12 by decide +kernel) rfl (by decide) rfl rfl ?_
      refine dw_enter rfl ?_
      refine rB_X12_isNight (fun B hB => ?_)
      refine hB _ _ _ _ _ _ ?_
      refine dw_okS rfl rfl rfl (by decide) rfl rfl ?_
      refine dw_enter rfl ?_
      refine rB_X12_isIn (fun B hB => ?_)
      refine rB_X12_isNight (fun B hB => ?_)
      refine rB_X12_asks (fun B hB => ?_)
      refine rB_X12_wet (fun B hB => ?_)
      refine rB_law (fun B hB => ?_)
      refine hB _ _ _ _ _ _ ?_
      exact law_z
    · refine dw_ite (fun h12 => ?_) (fun h12 => ?_)
      · refine rB_X11_wet (fun B hB => ?_)
        refine rB_law (fun B hB => ?_)
        refine hB _ _ _ _ _ _ ?_
        refine dw_okV (a := 404) (as := [.int (xs 1), .int (xs 2), .int (xs 3)]) rfl rfl (show (SH1 404).1 = 12 by decide +kernel) rfl (by decide) rfl rfl ?_
        rw [hs]
        refine dw_enter rfl ?_
        refine rB_X12_wet (fun B hB => ?_)
        refine hB _ _ _ _ _ _ ?_
        refine dw_okV (a := 404) rfl rfl (show (SH1 404).1 = 12 by decide +kernel) rfl (by decide) rfl rfl ?_
        refine dw_enter rfl ?_
        refine rB_X12_asks (fun B hB => ?_)
        refine hB _ _ _ _ _ _ ?_
        refine dw_okV (a := 404) rfl rfl (show (SH1 404).1 = 12 by decide +kernel) rfl (by decide) rfl rfl ?_
        refine dw_enter rfl ?_
        refine rB_X12_isNight (fun B hB => ?_)
        refine hB _ _ _ _ _ _ ?_
        refine dw_okS rfl rfl rfl (by decide) rfl rfl ?_
        refine dw_enter rfl ?_
        refine rB_X12_isIn (fun B hB => ?_)
        refine rB_X12_isNight (fun B hB => ?_)
        refine rB_X12_asks (fun B hB => ?_)
        refine rB_X12_wet (fun B hB => ?_)
        refine rB_law (fun B hB => ?_)
        refine hB _ _ _ _ _ _ ?_
        exact law_z
      · refine dw_ite (fun h13 => ?_) (fun h13 => ?_)
        · refine rB_X11_wet (fun B hB => ?_)
          refine rB_law (fun B hB => ?_)
          refine hB _ _ _ _ _ _ ?_
          refine dw_okV (a := 404) (as := [.int (xs 1), .int (xs 2), .int (xs 3)]) rfl rfl (show (SH1 404).1 = 12 by decide +kernel) rfl (by decide) rfl rfl ?_
          rw [hs]
          refine dw_enter rfl ?_
          refine rB_X12_wet (fun B hB => ?_)
          refine hB _ _ _ _ _ _ ?_
          refine dw_okV (a := 404) rfl rfl (show (SH1 404).1 = 12 by decide +kernel) rfl (by decide) rfl rfl ?_
          refine dw_enter rfl ?_
          refine rB_X12_asks (fun B hB => ?_)
          refine hB _ _ _ _ _ _ ?_
          refine dw_okV (a := 404) rfl rfl (show (SH1 404).1 = 12 by decide +kernel) rfl (by decide) rfl rfl ?_
          refine dw_enter rfl ?_
          refine rB_X12_isNight (fun B hB => ?_)
          refine hB _ _ _ _ _ _ ?_
          refine dw_okS rfl rfl rfl (by decide) rfl rfl ?_
          refine dw_enter rfl ?_
          refine rB_X12_isIn (fun B hB => ?_)
          refine rB_X12_isNight (fun B hB => ?_)
          refine rB_X12_asks (fun B hB => ?_)
          refine rB_X12_wet (fun B hB => ?_)
          refine rB_law (fun B hB => ?_)
          refine hB _ _ _ _ _ _ ?_
          exact law_z
        · refine dw_ite (fun h14 => ?_) (fun h14 => ?_)
          · refine rB_X11_wet (fun B hB => ?_)
            refine rB_law (fun B hB => ?_)
            refine hB _ _ _ _ _ _ ?_
            refine dw_okV (a := 404) (as := [.int (xs 1), .int (xs 2), .int (xs 3)]) rfl rfl (show (SH1 404).1 = 12 by decide +kernel) rfl (by decide) rfl rfl ?_
            rw [hs]
            refine dw_enter rfl ?_
            refine rB_X12_wet (fun B hB => ?_)
            refine hB _ _ _ _ _ _ ?_
            refine dw_okV (a := 404) rfl rfl (show (SH1 404).1 = 12 by decide +kernel) rfl (by decide) rfl rfl ?_
            refine dw_enter rfl ?_
            refine rB_X12_asks (fun B hB => ?_)
            refine hB _ _ _ _ _ _ ?_
            refine dw_okV (a := 404) rfl rfl (show (SH1 404).1 = 12 by decide +kernel) rfl (by decide) rfl rfl ?_
            refine dw_enter rfl ?_
            refine rB_X12_isNight (fun B hB => ?_)
            refine hB _ _ _ _ _ _ ?_
            refine dw_okS rfl rfl rfl (by decide) rfl rfl ?_
            refine dw_enter rfl ?_
            refine rB_X12_isIn (fun B hB => ?_)
            refine rB_X12_isNight (fun B hB => ?_)
            refine rB_X12_asks (fun B hB => ?_)
            refine rB_X12_wet (fun B hB => ?_)
            refine rB_law (fun B hB => ?_)
            refine hB _ _ _ _ _ _ ?_
            exact law_z
          · refine rB_X11_wet (fun B hB => ?_)
            refine dw_ite (fun h15 => ?_) (fun h15 => ?_)
            · refine rB_law (fun B hB => ?_)
              refine hB _ _ _ _ _ _ ?_
              refine dw_okV (a := 404) (as := [.int (xs 1), .int (xs 2), .int (xs 3)]) rfl rfl (show (SH1 404).1 = 12 by decide +kernel) rfl (by decide) rfl rfl ?_
              rw [hs]
              refine dw_enter rfl ?_
              refine rB_X12_wet (fun B hB => ?_)
              refine hB _ _ _ _ _ _ ?_
              refine dw_okV (a := 404) rfl rfl (show (SH1 404).1 = 12 by decide +kernel) rfl (by decide) rfl rfl ?_
              refine dw_enter rfl ?_
              refine rB_X12_asks (fun B hB => ?_)
              refine hB _ _ _ _ _ _ ?_
              refine dw_okV (a := 404) rfl rfl (show (SH1 404).1 = 12 by decide +kernel) rfl (by decide) rfl rfl ?_
              refine dw_enter rfl ?_
              refine rB_X12_isNight (fun B hB => ?_)
              refine hB _ _ _ _ _ _ ?_
              refine dw_okS rfl rfl rfl (by decide) rfl rfl ?_
              refine dw_enter rfl ?_
              refine rB_X12_isIn (fun B hB => ?_)
              refine rB_X12_isNight (fun B hB => ?_)
              refine rB_X12_asks (fun B hB => ?_)
              refine rB_X12_wet (fun B hB => ?_)
              refine rB_law (fun B hB => ?_)
              refine hB _ _ _ _ _ _ ?_
              exact law_z
            · refine hB _ _ _ _ _ _ ?_
              refine dw_okV (a := 0) rfl rfl (show (SH1 0).1 = 11 by decide +kernel) rfl (by decide) rfl rfl ?_
              refine dw_enter rfl ?_
              refine rB_X11_watched (fun B hB => ?_)
              refine hB _ _ _ _ _ _ ?_
              refine dw_okV (a := 0) rfl rfl (show (SH1 0).1 = 11 by decide +kernel) rfl (by decide) rfl rfl ?_
              refine dw_enter rfl ?_
              refine rB_X11_start (fun B hB => ?_)
              refine hB _ _ _ _ _ _ ?_
              refine dw_okV (a := 3) rfl rfl (show (SH1 3).1 = 8 by decide +kernel) rfl (by decide) rfl rfl ?_
              refine dw_enter rfl ?_
              refine rB_X8_nightOf (fun B hB => ?_)
              refine rB_X11_start (fun B hB => ?_)
              refine (fun (_ : _ ∨ _) => ?_)
              refine rB_X11_watched (fun B hB => ?_)
              refine rB_X11_wet (fun B hB => ?_)
              refine rB_law (fun B hB => ?_)
              refine hB _ _ _ _ _ _ ?_
              refine dw_okV (a := 404) (as := [.int (xs 1), .int (xs 2), .int (xs 3)]) rfl rfl (show (SH1 404).1 = 12 by decide +kernel) rfl (by decide) rfl rfl ?_
              rw [hs]
              refine dw_enter rfl ?_
              refine rB_X12_wet (fun B hB => ?_)
              refine hB _ _ _ _ _ _ ?_
              refine dw_okV (a := 404) rfl rfl (show (SH1 404).1 = 12 by decide +kernel) rfl (by decide) rfl rfl ?_
              refine dw_enter rfl ?_
              refine rB_X12_asks (fun B hB => ?_)
              refine hB _ _ _ _ _ _ ?_
              refine dw_okV (a := 404) rfl rfl (show (SH1 404).1 = 12 by decide +kernel) rfl (by decide) rfl rfl ?_
              refine dw_enter rfl ?_
              refine rB_X12_isNight (fun B hB => ?_)
              refine hB _ _ _ _ _ _ ?_
              refine dw_okS rfl rfl rfl (by decide) rfl rfl ?_
              refine dw_enter rfl ?_
              refine rB_X12_isIn (fun B hB => ?_)
              refine rB_X12_isNight (fun B hB => ?_)
              refine rB_X12_asks (fun B hB => ?_)
              refine rB_X12_wet (fun B hB => ?_)
              refine rB_law (fun B hB => ?_)
              refine hB _ _ _ _ _ _ ?_
              exact law_z
  · refine rB_law (fun B hB => ?_)
    refine hB _ _ _ _ _ _ ?_
    refine dw_okV (a := 0) (as := [.int (xs 1), .int (xs 2), .int (xs 3)]) rfl rfl (show (SH1 0).1 = 11 by decide +kernel) rfl (by decide) rfl rfl ?_
    rw [hs]
    refine dw_enter rfl ?_
    refine rB_X11_wet (fun B hB => ?_)
    refine hB _ _ _ _ _ _ ?_
    refine dw_okV (a := 4) rfl rfl (show (SH1 4).1 = 0 by decide +kernel) rfl (by decide) rfl rfl ?_
    refine dw_enter rfl ?_
    refine rB_X0_cellAt (fun B hB => ?_)
    refine dw_ite (fun h16 => ?_) (fun h16 => ?_)
    · refine rB_X11_wet (fun B hB => ?_)
      refine rB_law (fun B hB => ?_)
      refine hB _ _ _ _ _ _ ?_
      refine dw_okV (a := 404) (as := [.int (xs 1), .int (xs 2), .int (xs 3)]) rfl rfl (show (SH1 404).1 = 12 by decide +kernel) rfl (by decide) rfl rfl ?_
      rw [hs]
      refine dw_enter rfl ?_
      refine rB_X12_wet (fun B hB => ?_)
      refine hB _ _ _ _ _ _ ?_
      refine dw_okV (a := 404) rfl rfl (show (SH1 404).1 = 12 by decide +kernel) rfl (by decide) rfl rfl ?_
      refine dw_enter rfl ?_
      refine rB_X12_asks (fun B hB => ?_)
      refine hB _ _ _ _ _ _ ?_
      refine dw_okV (a := 404) rfl rfl (show (SH1 404).1 = 12 by decide +kernel) rfl (by decide) rfl rfl ?_
      refine dw_enter rfl ?_
      refine rB_X12_isNight (fun B hB => ?_)
      refine hB _ _ _ _ _ _ ?_
      refine dw_okS rfl rfl rfl (by decide) rfl rfl ?_
      refine dw_enter rfl ?_
      refine rB_X12_isIn (fun B hB => ?_)
      refine rB_X12_isNight (fun B hB => ?_)
      refine rB_X12_asks (fun B hB => ?_)
      refine rB_X12_wet (fun B hB => ?_)
      refine rB_law (fun B hB => ?_)
      refine hB _ _ _ _ _ _ ?_
      exact law_z
    · refine dw_ite (fun h17 => ?_) (fun h17 => ?_)
      · refine rB_X11_wet (fun B hB => ?_)
        refine rB_law (fun B hB => ?_)
        refine hB _ _ _ _ _ _ ?_
        refine dw_okV (a := 404) (as := [.int (xs 1), .int (xs 2), .int (xs 3)]) rfl rfl (show (SH1 404).1 = 12 by decide +kernel) rfl (by decide) rfl rfl ?_
        rw [hs]
        refine dw_enter rfl ?_
        refine rB_X12_wet (fun B hB => ?_)
        refine hB _ _ _ _ _ _ ?_
        refine dw_okV (a := 404) rfl rfl (show (SH1 404).1 = 12 by decide +kernel) rfl (by decide) rfl rfl ?_
        refine dw_enter rfl ?_
        refine rB_X12_asks (fun B hB => ?_)
        refine hB _ _ _ _ _ _ ?_
        refine dw_okV (a := 404) rfl rfl (show (SH1 404).1 = 12 by decide +kernel) rfl (by decide) rfl rfl ?_
        refine dw_enter rfl ?_
        refine rB_X12_isNight (fun B hB => ?_)
        refine hB _ _ _ _ _ _ ?_
        refine dw_okS rfl rfl rfl (by decide) rfl rfl ?_
        refine dw_enter rfl ?_
        refine rB_X12_isIn (fun B hB => ?_)
        refine rB_X12_isNight (fun B hB => ?_)
        refine rB_X12_asks (fun B hB => ?_)
        refine rB_X12_wet (fun B hB => ?_)
        refine rB_law (fun B hB => ?_)
        refine hB _ _ _ _ _ _ ?_
        exact law_z
      · refine dw_ite (fun h18 => ?_) (fun h18 => ?_)
        · refine rB_X11_wet (fun B hB => ?_)
          refine rB_law (fun B hB => ?_)
          refine hB _ _ _ _ _ _ ?_
          refine dw_okV (a := 404) (as := [.int (xs 1), .int (xs 2), .int (xs 3)]) rfl rfl (show (SH1 404).1 = 12 by decide +kernel) rfl (by decide) rfl rfl ?_
          rw [hs]
          refine dw_enter rfl ?_
          refine rB_X12_wet (fun B hB => ?_)
          refine hB _ _ _ _ _ _ ?_
          refine dw_okV (a := 404) rfl rfl (show (SH1 404).1 = 12 by decide +kernel) rfl (by decide) rfl rfl ?_
          refine dw_enter rfl ?_
          refine rB_X12_asks (fun B hB => ?_)
          refine hB _ _ _ _ _ _ ?_
          refine dw_okV (a := 404) rfl rfl (show (SH1 404).1 = 12 by decide +kernel) rfl (by decide) rfl rfl ?_
          refine dw_enter rfl ?_
          refine rB_X12_isNight (fun B hB => ?_)
          refine hB _ _ _ _ _ _ ?_
          refine dw_okS rfl rfl rfl (by decide) rfl rfl ?_
          refine dw_enter rfl ?_
          refine rB_X12_isIn (fun B hB => ?_)
          refine rB_X12_isNight (fun B hB => ?_)
          refine rB_X12_asks (fun B hB => ?_)
          refine rB_X12_wet (fun B hB => ?_)
          refine rB_law (fun B hB => ?_)
          refine hB _ _ _ _ _ _ ?_
          exact law_z
        · refine dw_ite (fun h19 => ?_) (fun h19 => ?_)
          · refine rB_X11_wet (fun B hB => ?_)
            refine rB_law (fun B hB => ?_)
            refine hB _ _ _ _ _ _ ?_
            refine dw_okV (a := 404) (as := [.int (xs 1), .int (xs 2), .int (xs 3)]) rfl rfl (show (SH1 404).1 = 12 by decide +kernel) rfl (by decide) rfl rfl ?_
            rw [hs]
            refine dw_enter rfl ?_
            refine rB_X12_wet (fun B hB => ?_)
            refine hB _ _ _ _ _ _ ?_
            refine dw_okV (a := 404) rfl rfl (show (SH1 404).1 = 12 by decide +kernel) rfl (by decide) rfl rfl ?_
            refine dw_enter rfl ?_
            refine rB_X12_asks (fun B hB => ?_)
            refine hB _ _ _ _ _ _ ?_
            refine dw_okV (a := 404) rfl rfl (show (SH1 404).1 = 12 by decide +kernel) rfl (by decide) rfl rfl ?_
            refine dw_enter rfl ?_
            refine rB_X12_isNight (fun B hB => ?_)
            refine hB _ _ _ _ _ _ ?_
            refine dw_okS rfl rfl rfl (by decide) rfl rfl ?_
            refine dw_enter rfl ?_
            refine rB_X12_isIn (fun B hB => ?_)
            refine rB_X12_isNight (fun B hB => ?_)
            refine rB_X12_asks (fun B hB => ?_)
            refine rB_X12_wet (fun B hB => ?_)
            refine rB_law (fun B hB => ?_)
            refine hB _ _ _ _ _ _ ?_
            exact law_z
          · refine rB_X11_wet (fun B hB => ?_)
            refine dw_ite (fun h20 => ?_) (fun h20 => ?_)
            · refine rB_law (fun B hB => ?_)
              refine hB _ _ _ _ _ _ ?_
              refine dw_okV (a := 404) (as := [.int (xs 1), .int (xs 2), .int (xs 3)]) rfl rfl (show (SH1 404).1 = 12 by decide +kernel) rfl (by decide) rfl rfl ?_
              rw [hs]
              refine dw_enter rfl ?_
              refine rB_X12_wet (fun B hB => ?_)
              refine hB _ _ _ _ _ _ ?_
              refine dw_okV (a := 404) rfl rfl (show (SH1 404).1 = 12 by decide +kernel) rfl (by decide) rfl rfl ?_
              refine dw_enter rfl ?_
              refine rB_X12_asks (fun B hB => ?_)
              refine hB _ _ _ _ _ _ ?_
              refine dw_okV (a := 404) rfl rfl (show (SH1 404).1 = 12 by decide +kernel) rfl (by decide) rfl rfl ?_
              refine dw_enter rfl ?_
              refine rB_X12_isNight (fun B hB => ?_)
              refine hB _ _ _ _ _ _ ?_
              refine dw_okS rfl rfl rfl (by decide) rfl rfl ?_
              refine dw_enter rfl ?_
              refine rB_X12_isIn (fun B hB => ?_)
              refine rB_X12_isNight (fun B hB => ?_)
              refine rB_X12_asks (fun B hB => ?_)
              refine rB_X12_wet (fun B hB => ?_)
              refine rB_law (fun B hB => ?_)
              refine hB _ _ _ _ _ _ ?_
              exact law_z
            · refine hB _ _ _ _ _ _ ?_
              refine dw_okV (a := 0) rfl rfl (show (SH1 0).1 = 11 by decide +kernel) rfl (by decide) rfl rfl ?_
              refine dw_enter rfl ?_
              refine rB_X11_watched (fun B hB => ?_)
              refine hB _ _ _ _ _ _ ?_
              refine dw_okV (a := 0) rfl rfl (show (SH1 0).1 = 11 by decide +kernel) rfl (by decide) rfl rfl ?_
              refine dw_enter rfl ?_
              refine rB_X11_start (fun B hB => ?_)
              refine hB _ _ _ _ _ _ ?_
              refine dw_okV (a := 3) rfl rfl (show (SH1 3).1 = 8 by decide +kernel) rfl (by decide) rfl rfl ?_
              refine dw_enter rfl ?_
              refine rB_X8_nightOf (fun B hB => ?_)
              refine rB_X11_start (fun B hB => ?_)
              refine (fun (_ : _ ∨ _) => ?_)
              refine rB_X11_watched (fun B hB => ?_)
              refine rB_X11_wet (fun B hB => ?_)
              refine rB_law (fun B hB => ?_)
              refine hB _ _ _ _ _ _ ?_
              refine dw_okV (a := 404) (as := [.int (xs 1), .int (xs 2), .int (xs 3)]) rfl rfl (show (SH1 404).1 = 12 by decide +kernel) rfl (by decide) rfl rfl ?_
              rw [hs]
              refine dw_enter rfl ?_
              refine rB_X12_wet (fun B hB => ?_)
              refine hB _ _ _ _ _ _ ?_
              refine dw_okV (a := 404) rfl rfl (show (SH1 404).1 = 12 by decide +kernel) rfl (by decide) rfl rfl ?_
              refine dw_enter rfl ?_
              refine rB_X12_asks (fun B hB => ?_)
              refine hB _ _ _ _ _ _ ?_
              refine dw_okV (a := 404) rfl rfl (show (SH1 404).1 = 12 by decide +kernel) rfl (by decide) rfl rfl ?_
              refine dw_enter rfl ?_
              refine rB_X12_isNight (fun B hB => ?_)
              refine hB _ _ _ _ _ _ ?_
              refine dw_okS rfl rfl rfl (by decide) rfl rfl ?_
              refine dw_enter rfl ?_
              refine rB_X12_isIn (fun B hB => ?_)
              refine rB_X12_isNight (fun B hB => ?_)
              refine rB_X12_asks (fun B hB => ?_)
              refine rB_X12_wet (fun B hB => ?_)
              refine rB_law (fun B hB => ?_)
              refine hB _ _ _ _ _ _ ?_
              exact law_z
  · refine rB_law (fun B hB => ?_)
    refine hB _ _ _ _ _ _ ?_
    refine dw_okV (a := 0) (as := [.int (xs 1), .int (xs 2), .int (xs 3)]) rfl rfl (show (SH1 0).1 = 11 by decide +kernel) rfl (by decide) rfl rfl ?_
    rw [hs]
    refine dw_enter rfl ?_
    refine rB_X11_wet (fun B hB => ?_)
    refine hB _ _ _ _ _ _ ?_
    refine dw_okV (a := 4) rfl rfl (show (SH1 4).1 = 0 by decide +kernel) rfl (by decide) rfl rfl ?_
    refine dw_enter rfl ?_
    refine rB_X0_cellAt (fun B hB => ?_)
    refine dw_ite (fun h21 => ?_) (fun h21 => ?_)
    · refine rB_X11_wet (fun B hB => ?_)
      refine rB_law (fun B hB => ?_)
      refine hB _ _ _ _ _ _ ?_
      refine dw_okV (a := 404) (as := [.int (xs 1), .int (xs 2), .int (xs 3)]) rfl rfl (show (SH1 404).1 = 12 by decide +kernel) rfl (by decide) rfl rfl ?_
      rw [hs]
      refine dw_enter rfl ?_
      refine rB_X12_wet (fun B hB => ?_)
      refine hB _ _ _ _ _ _ ?_
      refine dw_okV (a := 404) rfl rfl (show (SH1 404).1 = 12 by decide +kernel) rfl (by decide) rfl rfl ?_
      refine dw_enter rfl ?_
      refine rB_X12_asks (fun B hB => ?_)
      refine hB _ _ _ _ _ _ ?_
      refine dw_okV (a := 404) rfl rfl (show (SH1 404).1 = 12 by decide +kernel) rfl (by decide) rfl rfl ?_
      refine dw_enter rfl ?_
      refine rB_X12_isNight (fun B hB => ?_)
      refine hB _ _ _ _ _ _ ?_
      refine dw_okS rfl rfl rfl (by decide) rfl rfl ?_
      refine dw_enter rfl ?_
      refine rB_X12_isIn (fun B hB => ?_)
      refine rB_X12_isNight (fun B hB => ?_)
      refine rB_X12_asks (fun B hB => ?_)
      refine rB_X12_wet (fun B hB => ?_)
      refine rB_law (fun B hB => ?_)
      refine hB _ _ _ _ _ _ ?_
      exact law_z
    · refine dw_ite (fun h22 => ?_) (fun h22 => ?_)
      · refine rB_X11_wet (fun B hB => ?_)
        refine rB_law (fun B hB => ?_)
        refine hB _ _ _ _ _ _ ?_
        refine dw_okV (a := 404) (as := [.int (xs 1), .int (xs 2), .int (xs 3)]) rfl rfl (show (SH1 404).1 = 12 by decide +kernel) rfl (by decide) rfl rfl ?_
        rw [hs]
        refine dw_enter rfl ?_
        refine rB_X12_wet (fun B hB => ?_)
        refine hB _ _ _ _ _ _ ?_
        refine dw_okV (a := 404) rfl rfl (show (SH1 404).1 = 12 by decide +kernel) rfl (by decide) rfl rfl ?_
        refine dw_enter rfl ?_
        refine rB_X12_asks (fun B hB => ?_)
        refine hB _ _ _ _ _ _ ?_
        refine dw_okV (a := 404) rfl rfl (show (SH1 404).1 = 12 by decide +kernel) rfl (by decide) rfl rfl ?_
        refine dw_enter rfl ?_
        refine rB_X12_isNight (fun B hB => ?_)
        refine hB _ _ _ _ _ _ ?_
        refine dw_okS rfl rfl rfl (by decide) rfl rfl ?_
        refine dw_enter rfl ?_
        refine rB_X12_isIn (fun B hB => ?_)
        refine rB_X12_isNight (fun B hB => ?_)
        refine rB_X12_asks (fun B hB => ?_)
        refine rB_X12_wet (fun B hB => ?_)
        refine rB_law (fun B hB => ?_)
        refine hB _ _ _ _ _ _ ?_
        exact law_z
      · refine dw_ite (fun h23 => ?_) (fun h23 => ?_)
        · refine rB_X11_wet (fun B hB => ?_)
          refine rB_law (fun B hB => ?_)
          refine hB _ _ _ _ _ _ ?_
          refine dw_okV (a := 404) (as := [.int (xs 1), .int (xs 2), .int (xs 3)]) rfl rfl (show (SH1 404).1 = 12 by decide +kernel) rfl (by decide) rfl rfl ?_
          rw [hs]
          refine dw_enter rfl ?_
          refine rB_X12_wet (fun B hB => ?_)
          refine hB _ _ _ _ _ _ ?_
          refine dw_okV (a := 404) rfl rfl (show (SH1 404).1 = 12 by decide +kernel) rfl (by decide) rfl rfl ?_
          refine dw_enter rfl ?_
          refine rB_X12_asks (fun B hB => ?_)
          refine hB _ _ _ _ _ _ ?_
          refine dw_okV (a := 404) rfl rfl (show (SH1 404).1 = 12 by decide +kernel) rfl (by decide) rfl rfl ?_
          refine dw_enter rfl ?_
          refine rB_X12_isNight (fun B hB => ?_)
          refine hB _ _ _ _ _ _ ?_
          refine dw_okS rfl rfl rfl (by decide) rfl rfl ?_
          refine dw_enter rfl ?_
          refine rB_X12_isIn (fun B hB => ?_)
          refine rB_X12_isNight (fun B hB => ?_)
          refine rB_X12_asks (fun B hB => ?_)
          refine rB_X12_wet (fun B hB => ?_)
          refine rB_law (fun B hB => ?_)
          refine hB _ _ _ _ _ _ ?_
          exact law_z
        · refine dw_ite (fun h24 => ?_) (fun h24 => ?_)
          · refine rB_X11_wet (fun B hB => ?_)
            refine rB_law (fun B hB => ?_)
            refine hB _ _ _ _ _ _ ?_
            refine dw_okV (a := 404) (as := [.int (xs 1), .int (xs 2), .int (xs 3)]) rfl rfl (show (SH1 404).1 = 12 by decide +kernel) rfl (by decide) rfl rfl ?_
            rw [hs]
            refine dw_enter rfl ?_
            refine rB_X12_wet (fun B hB => ?_)
            refine hB _ _ _ _ _ _ ?_
            refine dw_okV (a := 404) rfl rfl (show (SH1 404).1 = 12 by decide +kernel) rfl (by decide) rfl rfl ?_
            refine dw_enter rfl ?_
            refine rB_X12_asks (fun B hB => ?_)
            refine hB _ _ _ _ _ _ ?_
            refine dw_okV (a := 404) rfl rfl (show (SH1 404).1 = 12 by decide +kernel) rfl (by decide) rfl rfl ?_
            refine dw_enter rfl ?_
            refine rB_X12_isNight (fun B hB => ?_)
            refine hB _ _ _ _ _ _ ?_
            refine dw_okS rfl rfl rfl (by decide) rfl rfl ?_
            refine dw_enter rfl ?_
            refine rB_X12_isIn (fun B hB => ?_)
            refine rB_X12_isNight (fun B hB => ?_)
            refine rB_X12_asks (fun B hB => ?_)
            refine rB_X12_wet (fun B hB => ?_)
            refine rB_law (fun B hB => ?_)
            refine hB _ _ _ _ _ _ ?_
            exact law_z
          · refine rB_X11_wet (fun B hB => ?_)
            refine dw_ite (fun h25 => ?_) (fun h25 => ?_)
            · refine rB_law (fun B hB => ?_)
              refine hB _ _ _ _ _ _ ?_
              refine dw_okV (a := 404) (as := [.int (xs 1), .int (xs 2), .int (xs 3)]) rfl rfl (show (SH1 404).1 = 12 by decide +kernel) rfl (by decide) rfl rfl ?_
              rw [hs]
              refine dw_enter rfl ?_
              refine rB_X12_wet (fun B hB => ?_)
              refine hB _ _ _ _ _ _ ?_
              refine dw_okV (a := 404) rfl rfl (show (SH1 404).1 = 12 by decide +kernel) rfl (by decide) rfl rfl ?_
              refine dw_enter rfl ?_
              refine rB_X12_asks (fun B hB => ?_)
              refine hB _ _ _ _ _ _ ?_
              refine dw_okV (a := 404) rfl rfl (show (SH1 404).1 = 12 by decide +kernel) rfl (by decide) rfl rfl ?_
              refine dw_enter rfl ?_
              refine rB_X12_isNight (fun B hB => ?_)
              refine hB _ _ _ _ _ _ ?_
              refine dw_okS rfl rfl rfl (by decide) rfl rfl ?_
              refine dw_enter rfl ?_
              refine rB_X12_isIn (fun B hB => ?_)
              refine rB_X12_isNight (fun B hB => ?_)
              refine rB_X12_asks (fun B hB => ?_)
              refine rB_X12_wet (fun B hB => ?_)
              refine rB_law (fun B hB => ?_)
              refine hB _ _ _ _ _ _ ?_
              exact law_z
            · refine hB _ _ _ _ _ _ ?_
              refine dw_okV (a := 0) rfl rfl (show (SH1 0).1 = 11 by decide +kernel) rfl (by decide) rfl rfl ?_
              refine dw_enter rfl ?_
              refine rB_X11_watched (fun B hB => ?_)
              refine hB _ _ _ _ _ _ ?_
              refine dw_okV (a := 0) rfl rfl (show (SH1 0).1 = 11 by decide +kernel) rfl (by decide) rfl rfl ?_
              refine dw_enter rfl ?_
              refine rB_X11_start (fun B hB => ?_)
              refine hB _ _ _ _ _ _ ?_
              refine dw_okV (a := 3) rfl rfl (show (SH1 3).1 = 8 by decide +kernel) rfl (by decide) rfl rfl ?_
              refine dw_enter rfl ?_
              refine rB_X8_nightOf (fun B hB => ?_)
              refine rB_X11_start (fun B hB => ?_)
              refine (fun (_ : _ ∨ _) => ?_)
              refine rB_X11_watched (fun B hB => ?_)
              refine rB_X11_wet (fun B hB => ?_)
              refine rB_law (fun B hB => ?_)
              refine hB _ _ _ _ _ _ ?_
              refine dw_okV (a := 404) (as := [.int (xs 1), .int (xs 2), .int (xs 3)]) rfl rfl (show (SH1 404).1 = 12 by decide +kernel) rfl (by decide) rfl rfl ?_
              rw [hs]
              refine dw_enter rfl ?_
              refine rB_X12_wet (fun B hB => ?_)
              refine hB _ _ _ _ _ _ ?_
              refine dw_okV (a := 404) rfl rfl (show (SH1 404).1 = 12 by decide +kernel) rfl (by decide) rfl rfl ?_
              refine dw_enter rfl ?_
              refine rB_X12_asks (fun B hB => ?_)
              refine hB _ _ _ _ _ _ ?_
              refine dw_okV (a := 404) rfl rfl (show (SH1 404).1 = 12 by decide +kernel) rfl (by decide) rfl rfl ?_
              refine dw_enter rfl ?_
              refine rB_X12_isNight (fun B hB => ?_)
              refine hB _ _ _ _ _ _ ?_
              refine dw_okS rfl rfl rfl (by decide) rfl rfl ?_
              refine dw_enter rfl ?_
              refine rB_X12_isIn (fun B hB => ?_)
              refine rB_X12_isNight (fun B hB => ?_)
              refine rB_X12_asks (fun B hB => ?_)
              refine rB_X12_wet (fun B hB => ?_)
              refine rB_law (fun B hB => ?_)
              refine hB _ _ _ _ _ _ ?_
              exact law_z
  · refine rB_law (fun B hB => ?_)
    refine hB _ _ _ _ _ _ ?_
    refine dw_okV (a := 0) (as := [.int (xs 1), .int (xs 2), .int (xs 3)]) rfl rfl (show (SH1 0).1 = 11 by decide +kernel) rfl (by decide) rfl rfl ?_
    rw [hs]
    refine dw_enter rfl ?_
    refine rB_X11_wet (fun B hB => ?_)
    refine hB _ _ _ _ _ _ ?_
    refine dw_okV (a := 4) rfl rfl (show (SH1 4).1 = 0 by decide +kernel) rfl (by decide) rfl rfl ?_
    refine dw_enter rfl ?_
    refine rB_X0_cellAt (fun B hB => ?_)
    refine dw_ite (fun h26 => ?_) (fun h26 => ?_)
    · refine rB_X11_wet (fun B hB => ?_)
      refine rB_law (fun B hB => ?_)
      refine hB _ _ _ _ _ _ ?_
      refine dw_okV (a := 404) (as := [.int (xs 1), .int (xs 2), .int (xs 3)]) rfl rfl (show (SH1 404).1 = 12 by decide +kernel) rfl (by decide) rfl rfl ?_
      rw [hs]
      refine dw_enter rfl ?_
      refine rB_X12_wet (fun B hB => ?_)
      refine hB _ _ _ _ _ _ ?_
      refine dw_okV (a := 404) rfl rfl (show (SH1 404).1 = 12 by decide +kernel) rfl (by decide) rfl rfl ?_
      refine dw_enter rfl ?_
      refine rB_X12_asks (fun B hB => ?_)
      refine hB _ _ _ _ _ _ ?_
      refine dw_okV (a := 404) rfl rfl (show (SH1 404).1 = 12 by decide +kernel) rfl (by decide) rfl rfl ?_
      refine dw_enter rfl ?_
      refine rB_X12_isNight (fun B hB => ?_)
      refine hB _ _ _ _ _ _ ?_
      refine dw_okS rfl rfl rfl (by decide) rfl rfl ?_
      refine dw_enter rfl ?_
      refine rB_X12_isIn (fun B hB => ?_)
      refine rB_X12_isNight (fun B hB => ?_)
      refine rB_X12_asks (fun B hB => ?_)
      refine rB_X12_wet (fun B hB => ?_)
      refine rB_law (fun B hB => ?_)
      refine hB _ _ _ _ _ _ ?_
      exact law_z
    · refine dw_ite (fun h27 => ?_) (fun h27 => ?_)
      · refine rB_X11_wet (fun B hB => ?_)
        refine rB_law (fun B hB => ?_)
        refine hB _ _ _ _ _ _ ?_
        refine dw_okV (a := 404) (as := [.int (xs 1), .int (xs 2), .int (xs 3)]) rfl rfl (show (SH1 404).1 = 12 by decide +kernel) rfl (by decide) rfl rfl ?_
        rw [hs]
        refine dw_enter rfl ?_
        refine rB_X12_wet (fun B hB => ?_)
        refine hB _ _ _ _ _ _ ?_
        refine dw_okV (a := 404) rfl rfl (show (SH1 404).1 = 12 by decide +kernel) rfl (by decide) rfl rfl ?_
        refine dw_enter rfl ?_
        refine rB_X12_asks (fun B hB => ?_)
        refine hB _ _ _ _ _ _ ?_
        refine dw_okV (a := 404) rfl rfl (show (SH1 404).1 = 12 by decide +kernel) rfl (by decide) rfl rfl ?_
        refine dw_enter rfl ?_
        refine rB_X12_isNight (fun B hB => ?_)
        refine hB _ _ _ _ _ _ ?_
        refine dw_okS rfl rfl rfl (by decide) rfl rfl ?_
        refine dw_enter rfl ?_
        refine rB_X12_isIn (fun B hB => ?_)
        refine rB_X12_isNight (fun B hB => ?_)
        refine rB_X12_asks (fun B hB => ?_)
        refine rB_X12_wet (fun B hB => ?_)
        refine rB_law (fun B hB => ?_)
        refine hB _ _ _ _ _ _ ?_
        exact law_z
      · refine dw_ite (fun h28 => ?_) (fun h28 => ?_)
        · refine rB_X11_wet (fun B hB => ?_)
          refine rB_law (fun B hB => ?_)
          refine hB _ _ _ _ _ _ ?_
          refine dw_okV (a := 404) (as := [.int (xs 1), .int (xs 2), .int (xs 3)]) rfl rfl (show (SH1 404).1 = 12 by decide +kernel) rfl (by decide) rfl rfl ?_
          rw [hs]
          refine dw_enter rfl ?_
          refine rB_X12_wet (fun B hB => ?_)
          refine hB _ _ _ _ _ _ ?_
          refine dw_okV (a := 404) rfl rfl (show (SH1 404).1 = 12 by decide +kernel) rfl (by decide) rfl rfl ?_
          refine dw_enter rfl ?_
          refine rB_X12_asks (fun B hB => ?_)
          refine hB _ _ _ _ _ _ ?_
          refine dw_okV (a := 404) rfl rfl (show (SH1 404).1 = 12 by decide +kernel) rfl (by decide) rfl rfl ?_
          refine dw_enter rfl ?_
          refine rB_X12_isNight (fun B hB => ?_)
          refine hB _ _ _ _ _ _ ?_
          refine dw_okS rfl rfl rfl (by decide) rfl rfl ?_
          refine dw_enter rfl ?_
          refine rB_X12_isIn (fun B hB => ?_)
          refine rB_X12_isNight (fun B hB => ?_)
          refine rB_X12_asks (fun B hB => ?_)
          refine rB_X12_wet (fun B hB => ?_)
          refine rB_law (fun B hB => ?_)
          refine hB _ _ _ _ _ _ ?_
          exact law_z
        · refine dw_ite (fun h29 => ?_) (fun h29 => ?_)
          · refine rB_X11_wet (fun B hB => ?_)
            refine rB_law (fun B hB => ?_)
            refine hB _ _ _ _ _ _ ?_
            refine dw_okV (a := 404) (as := [.int (xs 1), .int (xs 2), .int (xs 3)]) rfl rfl (show (SH1 404).1 = 12 by decide +kernel) rfl (by decide) rfl rfl ?_
            rw [hs]
            refine dw_enter rfl ?_
            refine rB_X12_wet (fun B hB => ?_)
            refine hB _ _ _ _ _ _ ?_
            refine dw_okV (a := 404) rfl rfl (show (SH1 404).1 = 12 by decide +kernel) rfl (by decide) rfl rfl ?_
            refine dw_enter rfl ?_
            refine rB_X12_asks (fun B hB => ?_)
            refine hB _ _ _ _ _ _ ?_
            refine dw_okV (a := 404) rfl rfl (show (SH1 404).1 = 12 by decide +kernel) rfl (by decide) rfl rfl ?_
            refine dw_enter rfl ?_
            refine rB_X12_isNight (fun B hB => ?_)
            refine hB _ _ _ _ _ _ ?_
            refine dw_okS rfl rfl rfl (by decide) rfl rfl ?_
            refine dw_enter rfl ?_
            refine rB_X12_isIn (fun B hB => ?_)
            refine rB_X12_isNight (fun B hB => ?_)
            refine rB_X12_asks (fun B hB => ?_)
            refine rB_X12_wet (fun B hB => ?_)
            refine rB_law (fun B hB => ?_)
            refine hB _ _ _ _ _ _ ?_
            exact law_z
          · refine rB_X11_wet (fun B hB => ?_)
            refine dw_ite (fun h30 => ?_) (fun h30 => ?_)
            · refine rB_law (fun B hB => ?_)
              refine hB _ _ _ _ _ _ ?_
              refine dw_okV (a := 404) (as := [.int (xs 1), .int (xs 2), .int (xs 3)]) rfl rfl (show (SH1 404).1 = 12 by decide +kernel) rfl (by decide) rfl rfl ?_
              rw [hs]
              refine dw_enter rfl ?_
              refine rB_X12_wet (fun B hB => ?_)
              refine hB _ _ _ _ _ _ ?_
              refine dw_okV (a := 404) rfl rfl (show (SH1 404).1 = 12 by decide +kernel) rfl (by decide) rfl rfl ?_
              refine dw_enter rfl ?_
              refine rB_X12_asks (fun B hB => ?_)
              refine hB _ _ _ _ _ _ ?_
              refine dw_okV (a := 404) rfl rfl (show (SH1 404).1 = 12 by decide +kernel) rfl (by decide) rfl rfl ?_
              refine dw_enter rfl ?_
              refine rB_X12_isNight (fun B hB => ?_)
              refine hB _ _ _ _ _ _ ?_
              refine dw_okS rfl rfl rfl (by decide) rfl rfl ?_
              refine dw_enter rfl ?_
              refine rB_X12_isIn (fun B hB => ?_)
              refine rB_X12_isNight (fun B hB => ?_)
              refine rB_X12_asks (fun B hB => ?_)
              refine rB_X12_wet (fun B hB => ?_)
              refine rB_law (fun B hB => ?_)
              refine hB _ _ _ _ _ _ ?_
              exact law_z
            · refine hB _ _ _ _ _ _ ?_
              refine dw_okV (a := 0) rfl rfl (show (SH1 0).1 = 11 by decide +kernel) rfl (by decide) rfl rfl ?_
              refine dw_enter rfl ?_
              refine rB_X11_watched (fun B hB => ?_)
              refine hB _ _ _ _ _ _ ?_
              refine dw_okV (a := 0) rfl rfl (show (SH1 0).1 = 11 by decide +kernel) rfl (by decide) rfl rfl ?_
              refine dw_enter rfl ?_
              refine rB_X11_start (fun B hB => ?_)
              refine hB _ _ _ _ _ _ ?_
              refine dw_okV (a := 3) rfl rfl (show (SH1 3).1 = 8 by decide +kernel) rfl (by decide) rfl rfl ?_
              refine dw_enter rfl ?_
              refine rB_X8_nightOf (fun B hB => ?_)
              refine rB_X11_start (fun B hB => ?_)
              refine (fun (_ : _ ∨ _) => ?_)
              refine rB_X11_watched (fun B hB => ?_)
              refine rB_X11_wet (fun B hB => ?_)
              refine rB_law (fun B hB => ?_)
              refine hB _ _ _ _ _ _ ?_
              refine dw_okV (a := 404) (as := [.int (xs 1), .int (xs 2), .int (xs 3)]) rfl rfl (show (SH1 404).1 = 12 by decide +kernel) rfl (by decide) rfl rfl ?_
              rw [hs]
              refine dw_enter rfl ?_
              refine rB_X12_wet (fun B hB => ?_)
              refine hB _ _ _ _ _ _ ?_
              refine dw_okV (a := 404) rfl rfl (show (SH1 404).1 = 12 by decide +kernel) rfl (by decide) rfl rfl ?_
              refine dw_enter rfl ?_
              refine rB_X12_asks (fun B hB => ?_)
              refine hB _ _ _ _ _ _ ?_
              refine dw_okV (a := 404) rfl rfl (show (SH1 404).1 = 12 by decide +kernel) rfl (by decide) rfl rfl ?_
              refine dw_enter rfl ?_
              refine rB_X12_isNight (fun B hB => ?_)
              refine hB _ _ _ _ _ _ ?_
              refine dw_okS rfl rfl rfl (by decide) rfl rfl ?_
              refine dw_enter rfl ?_
              refine rB_X12_isIn (fun B hB => ?_)
              refine rB_X12_isNight (fun B hB => ?_)
              refine rB_X12_asks (fun B hB => ?_)
              refine rB_X12_wet (fun B hB => ?_)
              refine rB_law (fun B hB => ?_)
              refine hB _ _ _ _ _ _ ?_
              exact law_z
  · refine rB_law (fun B hB => ?_)
    refine hB _ _ _ _ _ _ ?_
    refine dw_okV (a := 0) (as := [.int (xs 1), .int (xs 2), .int (xs 3)]) rfl rfl (show (SH1 0).1 = 11 by decide +kernel) rfl (by decide) rfl rfl ?_
    refine dw_enter rfl ?_
    refine rB_X11_wet (fun B hB => ?_)
    refine hB _ _ _ _ _ _ ?_
    refine dw_okV (a := 4) rfl rfl (show (SH1 4).1 = 0 by decide +kernel) rfl (by decide) rfl rfl ?_
    refine dw_enter rfl ?_
    refine rB_X0_cellAt (fun B hB => ?_)
    refine dw_ite (fun h31 => ?_) (fun h31 => ?_)
    · refine rB_X11_wet (fun B hB => ?_)
      refine rB_law (fun B hB => ?_)
      refine hB _ _ _ _ _ _ ?_
      refine dw_okV (a := 404) (as := [.int (xs 1), .int (xs 2), .int (xs 3)]) rfl rfl (show (SH1 404).1 = 12 by decide +kernel) rfl (by decide) rfl rfl ?_
      refine dw_enter rfl ?_
      refine rB_X12_wet (fun B hB => ?_)
      refine hB _ _ _ _ _ _ ?_
      refine dw_okV (a := 404) rfl rfl (show (SH1 404).1 = 12 by decide +kernel) rfl (by decide) rfl rfl ?_
      refine dw_enter rfl ?_
      refine rB_X12_asks (fun B hB => ?_)
      refine hB _ _ _ _ _ _ ?_
      refine dw_okV (a := 404) rfl rfl (show (SH1 404).1 = 12 by decide +kernel) rfl (by decide) rfl rfl ?_
      refine dw_enter rfl ?_
      refine rB_X12_isNight (fun B hB => ?_)
      refine hB _ _ _ _ _ _ ?_
      refine dw_okS rfl rfl rfl (by decide) rfl rfl ?_
      refine dw_enter rfl ?_
      refine rB_X12_isIn (fun B hB => ?_)
      refine dw_itp n0 ?_
      refine rB_X12_isNight (fun B hB => ?_)
      refine rB_X12_asks (fun B hB => ?_)
      refine rB_X12_wet (fun B hB => ?_)
      refine rB_law (fun B hB => ?_)
      refine hB _ _ _ _ _ _ ?_
      exact law_z
    · refine dw_ite (fun h32 => ?_) (fun h32 => ?_)
      · refine rB_X11_wet (fun B hB => ?_)
        refine rB_law (fun B hB => ?_)
        refine hB _ _ _ _ _ _ ?_
        refine dw_okV (a := 404) (as := [.int (xs 1), .int (xs 2), .int (xs 3)]) rfl rfl (show (SH1 404).1 = 12 by decide +kernel) rfl (by decide) rfl rfl ?_
        refine dw_enter rfl ?_
        refine rB_X12_wet (fun B hB => ?_)
        refine hB _ _ _ _ _ _ ?_
        refine dw_okV (a := 404) rfl rfl (show (SH1 404).1 = 12 by decide +kernel) rfl (by decide) rfl rfl ?_
        refine dw_enter rfl ?_
        refine rB_X12_asks (fun B hB => ?_)
        refine hB _ _ _ _ _ _ ?_
        refine dw_okV (a := 404) rfl rfl (show (SH1 404).1 = 12 by decide +kernel) rfl (by decide) rfl rfl ?_
        refine dw_enter rfl ?_
        refine rB_X12_isNight (fun B hB => ?_)
        refine hB _ _ _ _ _ _ ?_
        refine dw_okS rfl rfl rfl (by decide) rfl rfl ?_
        refine dw_enter rfl ?_
        refine rB_X12_isIn (fun B hB => ?_)
        refine dw_itp n0 ?_
        refine rB_X12_isNight (fun B hB => ?_)
        refine rB_X12_asks (fun B hB => ?_)
        refine rB_X12_wet (fun B hB => ?_)
        refine rB_law (fun B hB => ?_)
        refine hB _ _ _ _ _ _ ?_
        exact law_z
      · refine dw_ite (fun h33 => ?_) (fun h33 => ?_)
        · refine rB_X11_wet (fun B hB => ?_)
          refine rB_law (fun B hB => ?_)
          refine hB _ _ _ _ _ _ ?_
          refine dw_okV (a := 404) (as := [.int (xs 1), .int (xs 2), .int (xs 3)]) rfl rfl (show (SH1 404).1 = 12 by decide +kernel) rfl (by decide) rfl rfl ?_
          refine dw_enter rfl ?_
          refine rB_X12_wet (fun B hB => ?_)
          refine hB _ _ _ _ _ _ ?_
          refine dw_okV (a := 404) rfl rfl (show (SH1 404).1 = 12 by decide +kernel) rfl (by decide) rfl rfl ?_
          refine dw_enter rfl ?_
          refine rB_X12_asks (fun B hB => ?_)
          refine hB _ _ _ _ _ _ ?_
          refine dw_okV (a := 404) rfl rfl (show (SH1 404).1 = 12 by decide +kernel) rfl (by decide) rfl rfl ?_
          refine dw_enter rfl ?_
          refine rB_X12_isNight (fun B hB => ?_)
          refine hB _ _ _ _ _ _ ?_
          refine dw_okS rfl rfl rfl (by decide) rfl rfl ?_
          refine dw_enter rfl ?_
          refine rB_X12_isIn (fun B hB => ?_)
          refine dw_itp n0 ?_
          refine rB_X12_isNight (fun B hB => ?_)
          refine rB_X12_asks (fun B hB => ?_)
          refine rB_X12_wet (fun B hB => ?_)
          refine rB_law (fun B hB => ?_)
          refine hB _ _ _ _ _ _ ?_
          exact law_z
        · refine dw_ite (fun h34 => ?_) (fun h34 => ?_)
          · refine rB_X11_wet (fun B hB => ?_)
            refine rB_law (fun B hB => ?_)
            refine hB _ _ _ _ _ _ ?_
            refine dw_okV (a := 404) (as := [.int (xs 1), .int (xs 2), .int (xs 3)]) rfl rfl (show (SH1 404).1 = 12 by decide +kernel) rfl (by decide) rfl rfl ?_
            refine dw_enter rfl ?_
            refine rB_X12_wet (fun B hB => ?_)
            refine hB _ _ _ _ _ _ ?_
            refine dw_okV (a := 404) rfl rfl (show (SH1 404).1 = 12 by decide +kernel) rfl (by decide) rfl rfl ?_
            refine dw_enter rfl ?_
            refine rB_X12_asks (fun B hB => ?_)
            refine hB _ _ _ _ _ _ ?_
            refine dw_okV (a := 404) rfl rfl (show (SH1 404).1 = 12 by decide +kernel) rfl (by decide) rfl rfl ?_
            refine dw_enter rfl ?_
            refine rB_X12_isNight (fun B hB => ?_)
            refine hB _ _ _ _ _ _ ?_
            refine dw_okS rfl rfl rfl (by decide) rfl rfl ?_
            refine dw_enter rfl ?_
            refine rB_X12_isIn (fun B hB => ?_)
            refine dw_itp n0 ?_
            refine rB_X12_isNight (fun B hB => ?_)
            refine rB_X12_asks (fun B hB => ?_)
            refine rB_X12_wet (fun B hB => ?_)
            refine rB_law (fun B hB => ?_)
            refine hB _ _ _ _ _ _ ?_
            exact law_z
          · refine rB_X11_wet (fun B hB => ?_)
            refine dw_ite (fun h35 => ?_) (fun h35 => ?_)
            · refine rB_law (fun B hB => ?_)
              refine hB _ _ _ _ _ _ ?_
              refine dw_okV (a := 404) (as := [.int (xs 1), .int (xs 2), .int (xs 3)]) rfl rfl (show (SH1 404).1 = 12 by decide +kernel) rfl (by decide) rfl rfl ?_
              refine dw_enter rfl ?_
              refine rB_X12_wet (fun B hB => ?_)
              refine hB _ _ _ _ _ _ ?_
              refine dw_okV (a := 404) rfl rfl (show (SH1 404).1 = 12 by decide +kernel) rfl (by decide) rfl rfl ?_
              refine dw_enter rfl ?_
              refine rB_X12_asks (fun B hB => ?_)
              refine hB _ _ _ _ _ _ ?_
              refine dw_okV (a := 404) rfl rfl (show (SH1 404).1 = 12 by decide +kernel) rfl (by decide) rfl rfl ?_
              refine dw_enter rfl ?_
              refine rB_X12_isNight (fun B hB => ?_)
              refine hB _ _ _ _ _ _ ?_
              refine dw_okS rfl rfl rfl (by decide) rfl rfl ?_
              refine dw_enter rfl ?_
              refine rB_X12_isIn (fun B hB => ?_)
              refine dw_itp n0 ?_
              refine rB_X12_isNight (fun B hB => ?_)
              refine rB_X12_asks (fun B hB => ?_)
              refine rB_X12_wet (fun B hB => ?_)
              refine rB_law (fun B hB => ?_)
              refine hB _ _ _ _ _ _ ?_
              exact law_z
            · refine hB _ _ _ _ _ _ ?_
              refine dw_okV (a := 0) rfl rfl (show (SH1 0).1 = 11 by decide +kernel) rfl (by decide) rfl rfl ?_
              refine dw_enter rfl ?_
              refine rB_X11_watched (fun B hB => ?_)
              refine hB _ _ _ _ _ _ ?_
              refine dw_okV (a := 0) rfl rfl (show (SH1 0).1 = 11 by decide +kernel) rfl (by decide) rfl rfl ?_
              refine dw_enter rfl ?_
              refine rB_X11_start (fun B hB => ?_)
              refine hB _ _ _ _ _ _ ?_
              refine dw_okV (a := 3) rfl rfl (show (SH1 3).1 = 8 by decide +kernel) rfl (by decide) rfl rfl ?_
              refine dw_enter rfl ?_
              refine rB_X8_nightOf (fun B hB => ?_)
              refine dw_itp n0 ?_
              refine rB_X11_start (fun B hB => ?_)
              refine rB_X11_watched (fun B hB => ?_)
              refine rB_X11_wet (fun B hB => ?_)
              refine rB_law (fun B hB => ?_)
              refine hB _ _ _ _ _ _ ?_
              refine dw_okV (a := 404) (as := [.int (xs 1), .int (xs 2), .int (xs 3)]) rfl rfl (show (SH1 404).1 = 12 by decide +kernel) rfl (by decide) rfl rfl ?_
              refine dw_enter rfl ?_
              refine rB_X12_wet (fun B hB => ?_)
              refine hB _ _ _ _ _ _ ?_
              refine dw_okV (a := 404) rfl rfl (show (SH1 404).1 = 12 by decide +kernel) rfl (by decide) rfl rfl ?_
              refine dw_enter rfl ?_
              refine rB_X12_asks (fun B hB => ?_)
              refine hB _ _ _ _ _ _ ?_
              refine dw_okV (a := 404) rfl rfl (show (SH1 404).1 = 12 by decide +kernel) rfl (by decide) rfl rfl ?_
              refine dw_enter rfl ?_
              refine rB_X12_isNight (fun B hB => ?_)
              refine hB _ _ _ _ _ _ ?_
              refine dw_okS rfl rfl rfl (by decide) rfl rfl ?_
              refine dw_enter rfl ?_
              refine rB_X12_isIn (fun B hB => ?_)
              refine dw_itp n0 ?_
              refine rB_X12_isNight (fun B hB => ?_)
              refine rB_X12_asks (fun B hB => ?_)
              refine rB_X12_wet (fun B hB => ?_)
              refine rB_law (fun B hB => ?_)
              refine hB _ _ _ _ _ _ ?_
              exact law_z
  · refine rB_law (fun B hB => ?_)
    refine hB _ _ _ _ _ _ ?_
    refine dw_okV (a := 0) (as := [.int (xs 1), .int (xs 2), .int (xs 3)]) rfl rfl (show (SH1 0).1 = 11 by decide +kernel) rfl (by decide) rfl rfl ?_
    refine dw_enter rfl ?_
    refine rB_X11_wet (fun B hB => ?_)
    refine hB _ _ _ _ _ _ ?_
    refine dw_okV (a := 4) rfl rfl (show (SH1 4).1 = 0 by decide +kernel) rfl (by decide) rfl rfl ?_
    refine dw_enter rfl ?_
    refine rB_X0_cellAt (fun B hB => ?_)
    refine dw_ite (fun h36 => ?_) (fun h36 => ?_)
    · refine rB_X11_wet (fun B hB => ?_)
      refine rB_law (fun B hB => ?_)
      refine hB _ _ _ _ _ _ ?_
      refine dw_okV (a := 404) (as := [.int (xs 1), .int (xs 2), .int (xs 3)]) rfl rfl (show (SH1 404).1 = 12 by decide +kernel) rfl (by decide) rfl rfl ?_
      refine dw_enter rfl ?_
      refine rB_X12_wet (fun B hB => ?_)
      refine hB _ _ _ _ _ _ ?_
      refine dw_okV (a := 404) rfl rfl (show (SH1 404).1 = 12 by decide +kernel) rfl (by decide) rfl rfl ?_
      refine dw_enter rfl ?_
      refine rB_X12_asks (fun B hB => ?_)
      refine hB _ _ _ _ _ _ ?_
      refine dw_okV (a := 404) rfl rfl (show (SH1 404).1 = 12 by decide +kernel) rfl (by decide) rfl rfl ?_
      refine dw_enter rfl ?_
      refine rB_X12_isNight (fun B hB => ?_)
      refine hB _ _ _ _ _ _ ?_
      refine dw_okS rfl rfl rfl (by decide) rfl rfl ?_
      refine dw_enter rfl ?_
      refine rB_X12_isIn (fun B hB => ?_)
      refine dw_itn n1 ?_
      refine dw_itp n2 ?_
      refine rB_X12_isNight (fun B hB => ?_)
      refine rB_X12_asks (fun B hB => ?_)
      refine rB_X12_wet (fun B hB => ?_)
      refine rB_law (fun B hB => ?_)
      refine hB _ _ _ _ _ _ ?_
      exact law_z
    · refine dw_ite (fun h37 => ?_) (fun h37 => ?_)
      · refine rB_X11_wet (fun B hB => ?_)
        refine rB_law (fun B hB => ?_)
        refine hB _ _ _ _ _ _ ?_
        refine dw_okV (a := 404) (as := [.int (xs 1), .int (xs 2), .int (xs 3)]) rfl rfl (show (SH1 404).1 = 12 by decide +kernel) rfl (by decide) rfl rfl ?_
        refine dw_enter rfl ?_
        refine rB_X12_wet (fun B hB => ?_)
        refine hB _ _ _ _ _ _ ?_
        refine dw_okV (a := 404) rfl rfl (show (SH1 404).1 = 12 by decide +kernel) rfl (by decide) rfl rfl ?_
        refine dw_enter rfl ?_
        refine rB_X12_asks (fun B hB => ?_)
        refine hB _ _ _ _ _ _ ?_
        refine dw_okV (a := 404) rfl rfl (show (SH1 404).1 = 12 by decide +kernel) rfl (by decide) rfl rfl ?_
        refine dw_enter rfl ?_
        refine rB_X12_isNight (fun B hB => ?_)
        refine hB _ _ _ _ _ _ ?_
        refine dw_okS rfl rfl rfl (by decide) rfl rfl ?_
        refine dw_enter rfl ?_
        refine rB_X12_isIn (fun B hB => ?_)
        refine dw_itn n1 ?_
        refine dw_itp n2 ?_
        refine rB_X12_isNight (fun B hB => ?_)
        refine rB_X12_asks (fun B hB => ?_)
        refine rB_X12_wet (fun B hB => ?_)
        refine rB_law (fun B hB => ?_)
        refine hB _ _ _ _ _ _ ?_
        exact law_z
      · refine dw_ite (fun h38 => ?_) (fun h38 => ?_)
        · refine rB_X11_wet (fun B hB => ?_)
          refine rB_law (fun B hB => ?_)
          refine hB _ _ _ _ _ _ ?_
          refine dw_okV (a := 404) (as := [.int (xs 1), .int (xs 2), .int (xs 3)]) rfl rfl (show (SH1 404).1 = 12 by decide +kernel) rfl (by decide) rfl rfl ?_
          refine dw_enter rfl ?_
          refine rB_X12_wet (fun B hB => ?_)
          refine hB _ _ _ _ _ _ ?_
          refine dw_okV (a := 404) rfl rfl (show (SH1 404).1 = 12 by decide +kernel) rfl (by decide) rfl rfl ?_
          refine dw_enter rfl ?_
          refine rB_X12_asks (fun B hB => ?_)
          refine hB _ _ _ _ _ _ ?_
          refine dw_okV (a := 404) rfl rfl (show (SH1 404).1 = 12 by decide +kernel) rfl (by decide) rfl rfl ?_
          refine dw_enter rfl ?_
          refine rB_X12_isNight (fun B hB => ?_)
          refine hB _ _ _ _ _ _ ?_
          refine dw_okS rfl rfl rfl (by decide) rfl rfl ?_
          refine dw_enter rfl ?_
          refine rB_X12_isIn (fun B hB => ?_)
          refine dw_itn n1 ?_
          refine dw_itp n2 ?_
          refine rB_X12_isNight (fun B hB => ?_)
          refine rB_X12_asks (fun B hB => ?_)
          refine rB_X12_wet (fun B hB => ?_)
          refine rB_law (fun B hB => ?_)
          refine hB _ _ _ _ _ _ ?_
          exact law_z
        · refine dw_ite (fun h39 => ?_) (fun h39 => ?_)
          · refine rB_X11_wet (fun B hB => ?_)
            refine rB_law (fun B hB => ?_)
            refine hB _ _ _ _ _ _ ?_
            refine dw_okV (a := 404) (as := [.int (xs 1), .int (xs 2), .int (xs 3)]) rfl rfl (show (SH1 404).1 = 12 by decide +kernel) rfl (by decide) rfl rfl ?_
            refine dw_enter rfl ?_
            refine rB_X12_wet (fun B hB => ?_)
            refine hB _ _ _ _ _ _ ?_
            refine dw_okV (a := 404) rfl rfl (show (SH1 404).1 = 12 by decide +kernel) rfl (by decide) rfl rfl ?_
            refine dw_enter rfl ?_
            refine rB_X12_asks (fun B hB => ?_)
            refine hB _ _ _ _ _ _ ?_
            refine dw_okV (a := 404) rfl rfl (show (SH1 404).1 = 12 by decide +kernel) rfl (by decide) rfl rfl ?_
            refine dw_enter rfl ?_
            refine rB_X12_isNight (fun B hB => ?_)
            refine hB _ _ _ _ _ _ ?_
            refine dw_okS rfl rfl rfl (by decide) rfl rfl ?_
            refine dw_enter rfl ?_
            refine rB_X12_isIn (fun B hB => ?_)
            refine dw_itn n1 ?_
            refine dw_itp n2 ?_
            refine rB_X12_isNight (fun B hB => ?_)
            refine rB_X12_asks (fun B hB => ?_)
            refine rB_X12_wet (fun B hB => ?_)
            refine rB_law (fun B hB => ?_)
            refine hB _ _ _ _ _ _ ?_
            exact law_z
          · refine rB_X11_wet (fun B hB => ?_)
            refine dw_ite (fun h40 => ?_) (fun h40 => ?_)
            · refine rB_law (fun B hB => ?_)
              refine hB _ _ _ _ _ _ ?_
              refine dw_okV (a := 404) (as := [.int (xs 1), .int (xs 2), .int (xs 3)]) rfl rfl (show (SH1 404).1 = 12 by decide +kernel) rfl (by decide) rfl rfl ?_
              refine dw_enter rfl ?_
              refine rB_X12_wet (fun B hB => ?_)
              refine hB _ _ _ _ _ _ ?_
              refine dw_okV (a := 404) rfl rfl (show (SH1 404).1 = 12 by decide +kernel) rfl (by decide) rfl rfl ?_
              refine dw_enter rfl ?_
              refine rB_X12_asks (fun B hB => ?_)
              refine hB _ _ _ _ _ _ ?_
              refine dw_okV (a := 404) rfl rfl (show (SH1 404).1 = 12 by decide +kernel) rfl (by decide) rfl rfl ?_
              refine dw_enter rfl ?_
              refine rB_X12_isNight (fun B hB => ?_)
              refine hB _ _ _ _ _ _ ?_
              refine dw_okS rfl rfl rfl (by decide) rfl rfl ?_
              refine dw_enter rfl ?_
              refine rB_X12_isIn (fun B hB => ?_)
              refine dw_itn n1 ?_
              refine dw_itp n2 ?_
              refine rB_X12_isNight (fun B hB => ?_)
              refine rB_X12_asks (fun B hB => ?_)
              refine rB_X12_wet (fun B hB => ?_)
              refine rB_law (fun B hB => ?_)
              refine hB _ _ _ _ _ _ ?_
              exact law_z
            · refine hB _ _ _ _ _ _ ?_
              refine dw_okV (a := 0) rfl rfl (show (SH1 0).1 = 11 by decide +kernel) rfl (by decide) rfl rfl ?_
              refine dw_enter rfl ?_
              refine rB_X11_watched (fun B hB => ?_)
              refine hB _ _ _ _ _ _ ?_
              refine dw_okV (a := 0) rfl rfl (show (SH1 0).1 = 11 by decide +kernel) rfl (by decide) rfl rfl ?_
              refine dw_enter rfl ?_
              refine rB_X11_start (fun B hB => ?_)
              refine hB _ _ _ _ _ _ ?_
              refine dw_okV (a := 3) rfl rfl (show (SH1 3).1 = 8 by decide +kernel) rfl (by decide) rfl rfl ?_
              refine dw_enter rfl ?_
              refine rB_X8_nightOf (fun B hB => ?_)
              refine dw_itn n1 ?_
              refine dw_itp n3 ?_
              refine rB_X11_start (fun B hB => ?_)
              refine rB_X11_watched (fun B hB => ?_)
              refine rB_X11_wet (fun B hB => ?_)
              refine rB_law (fun B hB => ?_)
              refine hB _ _ _ _ _ _ ?_
              refine dw_okV (a := 404) (as := [.int (xs 1), .int (xs 2), .int (xs 3)]) rfl rfl (show (SH1 404).1 = 12 by decide +kernel) rfl (by decide) rfl rfl ?_
              refine dw_enter rfl ?_
              refine rB_X12_wet (fun B hB => ?_)
              refine hB _ _ _ _ _ _ ?_
              refine dw_okV (a := 404) rfl rfl (show (SH1 404).1 = 12 by decide +kernel) rfl (by decide) rfl rfl ?_
              refine dw_enter rfl ?_
              refine rB_X12_asks (fun B hB => ?_)
              refine hB _ _ _ _ _ _ ?_
              refine dw_okV (a := 404) rfl rfl (show (SH1 404).1 = 12 by decide +kernel) rfl (by decide) rfl rfl ?_
              refine dw_enter rfl ?_
              refine rB_X12_isNight (fun B hB => ?_)
              refine hB _ _ _ _ _ _ ?_
              refine dw_okS rfl rfl rfl (by decide) rfl rfl ?_
              refine dw_enter rfl ?_
              refine rB_X12_isIn (fun B hB => ?_)
              refine dw_itn n1 ?_
              refine dw_itp n2 ?_
              refine rB_X12_isNight (fun B hB => ?_)
              refine rB_X12_asks (fun B hB => ?_)
              refine rB_X12_wet (fun B hB => ?_)
              refine rB_law (fun B hB => ?_)
              refine hB _ _ _ _ _ _ ?_
              exact law_z
set_option maxHeartbeats 2000000 in
set_option maxRecDepth 20000 in
theorem law_c19 {xs : Nat → Int32} : dw_ok (pr_law 6 xs) 977 599567 7247295 (dw_l1 0 none none) [] (435, SH1, IN1, JN1) := by
  rcases dw_rng6 (xs 1) with hs | hs | hs | hs | hs | hs | ⟨n0, n1⟩ | ⟨n0, n1, n2, n3, n4, n5, n6⟩
  · refine rB_law (fun B hB => ?_)
    refine hB _ _ _ _ _ _ ?_
    refine dw_okV (a := 0) (as := [.int (xs 1), .int (xs 2), .int (xs 3)]) rfl rfl (show (SH1 0).1 = 11 by decide +kernel) rfl (by decide) rfl rfl ?_
    rw [hs]
    refine dw_enter rfl ?_
    refine rB_X11_spell (fun B hB => ?_)
    refine hB _ _ _ _ _ _ ?_
    refine dw_okV (a := 4) rfl rfl (show (SH1 4).1 = 0 by decide +kernel) rfl (by decide) rfl rfl ?_
    refine dw_enter rfl ?_
    refine rB_X0_cellAt (fun B hB => ?_)
    refine dw_ite (fun h1 => ?_) (fun h1 => ?_)
    · refine rB_X11_spell (fun B hB => ?_)
      refine rB_law (fun B hB => ?_)
      refine hB _ _ _ _ _ _ ?_
      refine dw_okV (a := 404) (as := [.int (xs 1), .int (xs 2), .int (xs 3)]) rfl rfl (show (SH1 404).1 = 12 by decide +kernel) rfl (by decide) rfl rfl ?_
      rw [hs]
      refine dw_enter rfl ?_
      refine rB_X12_spell (fun B hB => ?_)
      refine hB _ _ _ _ _ _ ?_
      refine dw_okV (a := 404) rfl rfl (show (SH1 404).1 = 12 by decide +kernel) rfl (by decide) rfl rfl ?_
      refine dw_enter rfl ?_
      refine rB_X12_asks (fun B hB => ?_)
      refine hB _ _ _ _ _ _ ?_
      refine dw_okV (a := 404) rfl rfl (show (SH1 404).1 = 12 by decide +kernel) rfl (by decide) rfl rfl ?_
      refine dw_enter rfl ?_
      refine rB_X12_isNight (fun B hB => ?_)
      refine hB _ _ _ _ _ _ ?_
      refine dw_okS rfl rfl rfl (by decide) rfl rfl ?_
      refine dw_enter rfl ?_
      refine rB_X12_isIn (fun B hB => ?_)
      refine rB_X12_isNight (fun B hB => ?_)
      refine rB_X12_asks (fun B hB => ?_)
      refine rB_X12_spell (fun B hB => ?_)
      refine rB_law (fun B hB => ?_)
      refine hB _ _ _ _ _ _ ?_
      exact law_z
    · refine dw_ite (fun h2 => ?_) (fun h2 => ?_)
      · refine rB_X11_spell (fun B hB => ?_)
        refine rB_law (fun B hB => ?_)
        refine hB _ _ _ _ _ _ ?_
        refine dw_okV (a := 404) (as := [.int (xs 1), .int (xs 2), .int (xs 3)]) rfl rfl (show (SH1 404).1 = 12 by decide +kernel) rfl (by decide) rfl rfl ?_
        rw [hs]
        refine dw_enter rfl ?_
        refine rB_X12_spell (fun B hB => ?_)
        refine hB _ _ _ _ _ _ ?_
        refine dw_okV (a := 404) rfl rfl (show (SH1 404).1 = 12 by decide +kernel) rfl (by decide) rfl rfl ?_
        refine dw_enter rfl ?_
        refine rB_X12_asks (fun B hB => ?_)
        refine hB _ _ _ _ _ _ ?_
        refine dw_okV (a := 404) rfl rfl (show (SH1 404).1 = 12 by decide +kernel) rfl (by decide) rfl rfl ?_
        refine dw_enter rfl ?_
        refine rB_X12_isNight (fun B hB => ?_)
        refine hB _ _ _ _ _ _ ?_
        refine dw_okS rfl rfl rfl (by decide) rfl rfl ?_
        refine dw_enter rfl ?_
        refine rB_X12_isIn (fun B hB => ?_)
        refine rB_X12_isNight (fun B hB => ?_)
        refine rB_X12_asks (fun B hB => ?_)
        refine rB_X12_spell (fun B hB => ?_)
        refine rB_law (fun B hB => ?_)
        refine hB _ _ _ _ _ _ ?_
        exact law_z
      · refine dw_ite (fun h3 => ?_) (fun h3 => ?_)
        · refine rB_X11_spell (fun B hB => ?_)
          refine rB_law (fun B hB => ?_)
          refine hB _ _ _ _ _ _ ?_
          refine dw_okV (a := 404) (as := [.int (xs 1), .int (xs 2), .int (xs 3)]) rfl rfl (show (SH1 404).1 = 12 by decide +kernel) rfl (by decide) rfl rfl ?_
          rw [hs]
          refine dw_enter rfl ?_
          refine rB_X12_spell (fun B hB => ?_)
          refine hB _ _ _ _ _ _ ?_
          refine dw_okV (a := 404) rfl rfl (show (SH1 404).1 = 12 by decide +kernel) rfl (by decide) rfl rfl ?_
          refine dw_enter rfl ?_
          refine rB_X12_asks (fun B hB => ?_)
          refine hB _ _ _ _ _ _ ?_
          refine dw_okV (a := 404) rfl rfl (show (SH1 404).1 = 12 by decide +kernel) rfl (by decide) rfl rfl ?_
          refine dw_enter rfl ?_
          refine rB_X12_isNight (fun B hB => ?_)
          refine hB _ _ _ _ _ _ ?_
          refine dw_okS rfl rfl rfl (by decide) rfl rfl ?_
          refine dw_enter rfl ?_
          refine rB_X12_isIn (fun B hB => ?_)
          refine rB_X12_isNight (fun B hB => ?_)
          refine rB_X12_asks (fun B hB => ?_)
          refine rB_X12_spell (fun B hB => ?_)
          refine rB_law (fun B hB => ?_)
          refine hB _ _ _ _ _ _ ?_
          exact law_z
        · refine dw_ite (fun h4 => ?_) (fun h4 => ?_)
          · refine rB_X11_spell (fun B hB => ?_)
            refine rB_law (fun B hB => ?_)
            refine hB _ _ _ _ _ _ ?_
            refine dw_okV (a := 404) (as := [.int (xs 1), .int (xs 2), .int (xs 3)]) rfl rfl (show (SH1 404).1 = 12 by decide +kernel) rfl (by decide) rfl rfl ?_
            rw [hs]
            refine dw_enter rfl ?_
            refine rB_X12_spell (fun B hB => ?_)
            refine hB _ _ _ _ _ _ ?_
            refine dw_okV (a := 404) rfl rfl (show (SH1 404).1 = 12 by decide +kernel) rfl (by decide) rfl rfl ?_
            refine dw_enter rfl ?_
            refine rB_X12_asks (fun B hB => ?_)
            refine hB _ _ _ _ _ _ ?_
            refine dw_okV (a := 404) rfl rfl (show (SH1 404).1 = 12 by decide +kernel) rfl (by decide) rfl rfl ?_
            refine dw_enter rfl ?_
            refine rB_X12_isNight (fun B hB => ?_)
            refine hB _ _ _ _ _ _ ?_
            refine dw_okS rfl rfl rfl (by decide) rfl rfl ?_
            refine dw_enter rfl ?_
            refine rB_X12_isIn (fun B hB => ?_)
            refine rB_X12_isNight (fun B hB => ?_)
            refine rB_X12_asks (fun B hB => ?_)
            refine rB_X12_spell (fun B hB => ?_)
            refine rB_law (fun B hB => ?_)
            refine hB _ _ _ _ _ _ ?_
            exact law_z
          · refine rB_X11_spell (fun B hB => ?_)
            refine dw_ite (fun h5 => ?_) (fun h5 => ?_)
            · refine rB_law (fun B hB => ?_)
              refine hB _ _ _ _ _ _ ?_
              refine dw_okV (a := 404) (as := [.int (xs 1), .int (xs 2), .int (xs 3)]) rfl rfl (show (SH1 404).1 = 12 by decide +kernel) rfl (by decide) rfl rfl ?_
              rw [hs]
              refine dw_enter rfl ?_
              refine rB_X12_spell (fun B hB => ?_)
              refine hB _ _ _ _ _ _ ?_
              refine dw_okV (a := 404) rfl rfl (show (SH1 404).1 = 12 by decide +kernel) rfl (by decide) rfl rfl ?_
              refine dw_enter rfl ?_
              refine rB_X12_asks (fun B hB => ?_)
              refine hB _ _ _ _ _ _ ?_
              refine dw_okV (a := 404) rfl rfl (show (SH1 404).1 = 12 by decide +kernel) rfl (by decide) rfl rfl ?_
              refine dw_enter rfl ?_
              refine rB_X12_isNight (fun B hB => ?_)
              refine hB _ _ _ _ _ _ ?_
              refine dw_okS rfl rfl rfl (by decide) rfl rfl ?_
              refine dw_enter rfl ?_
              refine rB_X12_isIn (fun B hB => ?_)
              refine rB_X12_isNight (fun B hB => ?_)
              refine rB_X12_asks (fun B hB => ?_)
              refine rB_X12_spell (fun B hB => ?_)
              refine rB_law (fun B hB => ?_)
              refine hB _ _ _ _ _ _ ?_
              exact law_z
            · refine hB _ _ _ _ _ _ ?_
              refine dw_okV (a := 0) rfl rfl (show (SH1 0).1 = 11 by decide +kernel) rfl (by decide) rfl rfl ?_
              refine dw_enter rfl ?_
              refine rB_X11_watched (fun B hB => ?_)
              refine hB _ _ _ _ _ _ ?_
              refine dw_okV (a := 0) rfl rfl (show (SH1 0).1 = 11 by decide +kernel) rfl (by decide) rfl rfl ?_
              refine dw_enter rfl ?_
              refine rB_X11_start (fun B hB => ?_)
              refine hB _ _ _ _ _ _ ?_
              refine dw_okV (a := 3) rfl rfl (show (SH1 3).1 = 8 by decide +kernel) rfl (by decide) rfl rfl ?_
              refine dw_enter rfl ?_
              refine rB_X8_nightOf (fun B hB => ?_)
              refine rB_X11_start (fun B hB => ?_)
              refine (fun (_ : _ ∨ _) => ?_)
              refine rB_X11_watched (fun B hB => ?_)
              refine rB_X11_spell (fun B hB => ?_)
              refine rB_law (fun B hB => ?_)
              refine hB _ _ _ _ _ _ ?_
              refine dw_okV (a := 404) (as := [.int (xs 1), .int (xs 2), .int (xs 3)]) rfl rfl (show (SH1 404).1 = 12 by decide +kernel) rfl (by decide) rfl rfl ?_
              rw [hs]
              refine dw_enter rfl ?_
              refine rB_X12_spell (fun B hB => ?_)
              refine hB _ _ _ _ _ _ ?_
              refine dw_okV (a := 404) rfl rfl (show (SH1 404).1 = 12 by decide +kernel) rfl (by decide) rfl rfl ?_
              refine dw_enter rfl ?_
              refine rB_X12_asks (fun B hB => ?_)
              refine hB _ _ _ _ _ _ ?_
              refine dw_okV (a := 404) rfl rfl (show (SH1 404).1 = 12 by decide +kernel) rfl (by decide) rfl rfl ?_
              refine dw_enter rfl ?_
              refine rB_X12_isNight (fun B hB => ?_)
              refine hB _ _ _ _ _ _ ?_
              refine dw_okS rfl rfl rfl (by decide) rfl rfl ?_
              refine dw_enter rfl ?_
              refine rB_X12_isIn (fun B hB => ?_)
              refine rB_X12_isNight (fun B hB => ?_)
              refine rB_X12_asks (fun B hB => ?_)
              refine rB_X12_spell (fun B hB => ?_)
              refine rB_law (fun B hB => ?_)
              refine hB _ _ _ _ _ _ ?_
              exact law_z
  · refine rB_law (fun B hB => ?_)
    refine hB _ _ _ _ _ _ ?_
    refine dw_okV (a := 0) (as := [.int (xs 1), .int (xs 2), .int (xs 3)]) rfl rfl (show (SH1 0).1 = 11 by decide +kernel) rfl (by decide) rfl rfl ?_
    rw [hs]
    refine dw_enter rfl ?_
    refine rB_X11_spell (fun B hB => ?_)
    refine hB _ _ _ _ _ _ ?_
    refine dw_okV (a := 4) rfl rfl (show (SH1 4).1 = 0 by decide +kernel) rfl (by decide) rfl rfl ?_
    refine dw_enter rfl ?_
    refine rB_X0_cellAt (fun B hB => ?_)
    refine dw_ite (fun h6 => ?_) (fun h6 => ?_)
    · refine rB_X11_spell (fun B hB => ?_)
      refine rB_law (fun B hB => ?_)
      refine hB _ _ _ _ _ _ ?_
      refine dw_okV (a := 404) (as := [.int (xs 1), .int (xs 2), .int (xs 3)]) rfl rfl (show (SH1 404).1 = 12 by decide +kernel) rfl (by decide) rfl rfl ?_
      rw [hs]
      refine dw_enter rfl ?_
      refine rB_X12_spell (fun B hB => ?_)
      refine hB _ _ _ _ _ _ ?_
      refine dw_okV (a := 404) rfl rfl (show (SH1 404).1 = 12 by decide +kernel) rfl (by decide) rfl rfl ?_
      refine dw_enter rfl ?_
      refine rB_X12_asks (fun B hB => ?_)
      refine hB _ _ _ _ _ _ ?_
      refine dw_okV (a := 404) rfl rfl (show (SH1 404).1 = 12 by decide +kernel) rfl (by decide) rfl rfl ?_
      refine dw_enter rfl ?_
      refine rB_X12_isNight (fun B hB => ?_)
      refine hB _ _ _ _ _ _ ?_
      refine dw_okS rfl rfl rfl (by decide) rfl rfl ?_
      refine dw_enter rfl ?_
      refine rB_X12_isIn (fun B hB => ?_)
      refine rB_X12_isNight (fun B hB => ?_)
      refine rB_X12_asks (fun B hB => ?_)
      refine rB_X12_spell (fun B hB => ?_)
      refine rB_law (fun B hB => ?_)
      refine hB _ _ _ _ _ _ ?_
      exact law_z
    · refine dw_ite (fun h7 => ?_) (fun h7 => ?_)
      · refine rB_X11_spell (fun B hB => ?_)
        refine rB_law (fun B hB => ?_)
        refine hB _ _ _ _ _ _ ?_
        refine dw_okV (a := 404) (as := [.int (xs 1), .int (xs 2), .int (xs 3)]) rfl rfl (show (SH1 404).1 = 12 by decide +kernel) rfl (by decide) rfl rfl ?_
        rw [hs]
        refine dw_enter rfl ?_
        refine rB_X12_spell (fun B hB => ?_)
        refine hB _ _ _ _ _ _ ?_
        refine dw_okV (a := 404) rfl rfl (show (SH1 404).1 = 12 by decide +kernel) rfl (by decide) rfl rfl ?_
        refine dw_enter rfl ?_
        refine rB_X12_asks (fun B hB => ?_)
        refine hB _ _ _ _ _ _ ?_
        refine dw_okV (a := 404) rfl rfl (show (SH1 404).1 = 12 by decide +kernel) rfl (by decide) rfl rfl ?_
        refine dw_enter rfl ?_
        refine rB_X12_isNight (fun B hB => ?_)
        refine hB _ _ _ _ _ _ ?_
        refine dw_okS rfl rfl rfl (by decide) rfl rfl ?_
        refine dw_enter rfl ?_
        refine rB_X12_isIn (fun B hB => ?_)
        refine rB_X12_isNight (fun B hB => ?_)
        refine rB_X12_asks (fun B hB => ?_)
        refine rB_X12_spell (fun B hB => ?_)
        refine rB_law (fun B hB => ?_)
        refine hB _ _ _ _ _ _ ?_
        exact law_z
      · refine dw_ite (fun h8 => ?_) (fun h8 => ?_)
        · refine rB_X11_spell (fun B hB => ?_)
          refine rB_law (fun B hB => ?_)
          refine hB _ _ _ _ _ _ ?_
          refine dw_okV (a := 404) (as := [.int (xs 1), .int (xs 2), .int (xs 3)]) rfl rfl (show (SH1 404).1 = 12 by decide +kernel) rfl (by decide) rfl rfl ?_
          rw [hs]
          refine dw_enter rfl ?_
          refine rB_X12_spell (fun B hB => ?_)
          refine hB _ _ _ _ _ _ ?_
          refine dw_okV (a := 404) rfl rfl (show (SH1 404).1 = 12 by decide +kernel) rfl (by decide) rfl rfl ?_
          refine dw_enter rfl ?_
          refine rB_X12_asks (fun B hB => ?_)
          refine hB _ _ _ _ _ _ ?_
          refine dw_okV (a := 404) rfl rfl (show (SH1 404).1 = 12 by decide +kernel) rfl (by decide) rfl rfl ?_
          refine dw_enter rfl ?_
          refine rB_X12_isNight (fun B hB => ?_)
          refine hB _ _ _ _ _ _ ?_
          refine dw_okS rfl rfl rfl (by decide) rfl rfl ?_
          refine dw_enter rfl ?_
          refine rB_X12_isIn (fun B hB => ?_)
          refine rB_X12_isNight (fun B hB => ?_)
          refine rB_X12_asks (fun B hB => ?_)
          refine rB_X12_spell (fun B hB => ?_)
          refine rB_law (fun B hB => ?_)
          refine hB _ _ _ _ _ _ ?_
          exact law_z
        · refine dw_ite (fun h9 => ?_) (fun h9 => ?_)
          · refine rB_X11_spell (fun B hB => ?_)
            refine rB_law (fun B hB => ?_)
            refine hB _ _ _ _ _ _ ?_
            refine dw_okV (a := 404) (as := [.int (xs 1), .int (xs 2), .int (xs 3)]) rfl rfl (show (SH1 404).1 = 12 by decide +kernel) rfl (by decide) rfl rfl ?_
            rw [hs]
            refine dw_enter rfl ?_
            refine rB_X12_spell (fun B hB => ?_)
            refine hB _ _ _ _ _ _ ?_
            refine dw_okV (a := 404) rfl rfl (show (SH1 404).1 = 12 by decide +kernel) rfl (by decide) rfl rfl ?_
            refine dw_enter rfl ?_
            refine rB_X12_asks (fun B hB => ?_)
            refine hB _ _ _ _ _ _ ?_
            refine dw_okV (a := 404) rfl rfl (show (SH1 404).1 = 12 by decide +kernel) rfl (by decide) rfl rfl ?_
            refine dw_enter rfl ?_
            refine rB_X12_isNight (fun B hB => ?_)
            refine hB _ _ _ _ _ _ ?_
            refine dw_okS rfl rfl rfl (by decide) rfl rfl ?_
            refine dw_enter rfl ?_
            refine rB_X12_isIn (fun B hB => ?_)
            refine rB_X12_isNight (fun B hB => ?_)
            refine rB_X12_asks (fun B hB => ?_)
            refine rB_X12_spell (fun B hB => ?_)
            refine rB_law (fun B hB => ?_)
            refine hB _ _ _ _ _ _ ?_
            exact law_z
          · refine rB_X11_spell (fun B hB => ?_)
            refine dw_ite (fun h10 => ?_) (fun h10 => ?_)
            · refine rB_law (fun B hB => ?_)
              refine hB _ _ _ _ _ _ ?_
              refine dw_okV (a := 404) (as := [.int (xs 1), .int (xs 2), .int (xs 3)]) rfl rfl (show (SH1 404).1 = 12 by decide +kernel) rfl (by decide) rfl rfl ?_
              rw [hs]
              refine dw_enter rfl ?_
              refine rB_X12_spell (fun B hB => ?_)
              refine hB _ _ _ _ _ _ ?_
              refine dw_okV (a := 404) rfl rfl (show (SH1 404).1 = 12 by decide +kernel) rfl (by decide) rfl rfl ?_
              refine dw_enter rfl ?_
              refine rB_X12_asks (fun B hB => ?_)
              refine hB _ _ _ _ _ _ ?_
              refine dw_okV (a := 404) rfl rfl (show (SH1 404).1 = 12 by decide +kernel) rfl (by decide) rfl rfl ?_
              refine dw_enter rfl ?_
              refine rB_X12_isNight (fun B hB => ?_)
              refine hB _ _ _ _ _ _ ?_
              refine dw_okS rfl rfl rfl (by decide) rfl rfl ?_
              refine dw_enter rfl ?_
              refine rB_X12_isIn (fun B hB => ?_)
              refine rB_X12_isNight (fun B hB => ?_)
              refine rB_X12_asks (fun B hB => ?_)
              refine rB_X12_spell (fun B hB => ?_)
              refine rB_law (fun B hB => ?_)
              refine hB _ _ _ _ _ _ ?_
              exact law_z
            · refine hB _ _ _ _ _ _ ?_
              refine dw_okV (a := 0) rfl rfl (show (SH1 0).1 = 11 by decide +kernel) rfl (by decide) rfl rfl ?_
              refine dw_enter rfl ?_
              refine rB_X11_watched (fun B hB => ?_)
              refine hB _ _ _ _ _ _ ?_
              refine dw_okV (a := 0) rfl rfl (show (SH1 0).1 = 11 by decide +kernel) rfl (by decide) rfl rfl ?_
              refine dw_enter rfl ?_
              refine rB_X11_start (fun B hB => ?_)
              refine hB _ _ _ _ _ _ ?_
              refine dw_okV (a := 3) rfl rfl (show (SH1 3).1 = 8 by decide +kernel) rfl (by decide) rfl rfl ?_
              refine dw_enter rfl ?_
              refine rB_X8_nightOf (fun B hB => ?_)
              refine rB_X11_start (fun B hB => ?_)
              refine (fun (_ : _ ∨ _) => ?_)
              refine rB_X11_watched (fun B hB => ?_)
              refine rB_X11_spell (fun B hB => ?_)
              refine rB_law (fun B hB => ?_)
              refine hB _ _ _ _ _ _ ?_
              refine dw_okV (a := 404) (as := [.int (xs 1), .int (xs 2), .int (xs 3)]) rfl rfl (show (SH1 404).1 = 12 by decide +kernel) rfl (by decide) rfl rfl ?_
              rw [hs]
              refine dw_enter rfl ?_
              refine rB_X12_spell (fun B hB => ?_)
              refine hB _ _ _ _ _ _ ?_
              refine dw_okV (a := 404) rfl rfl (show (SH1 404).1 = 12 by decide +kernel) rfl (by decide) rfl rfl ?_
              refine dw_enter rfl ?_
              refine rB_X12_asks (fun B hB => ?_)
              refine hB _ _ _ _ _ _ ?_
              refine dw_okV (a := 404) rfl rfl (show (SH1 404).1 = 12 by decide +kernel) rfl (by decide) rfl rfl ?_
              refine dw_enter rfl ?_
              refine rB_X12_isNight (fun B hB => ?_)
              refine hB _ _ _ _ _ _ ?_
              refine dw_okS rfl rfl rfl (by decide) rfl rfl ?_
              refine dw_enter rfl ?_
              refine rB_X12_isIn (fun B hB => ?_)
              refine rB_X12_isNight (fun B hB => ?_)
              refine rB_X12_asks (fun B hB => ?_)
              refine rB_X12_spell (fun B hB => ?_)
              refine rB_law (fun B hB => ?_)
              refine hB _ _ _ _ _ _ ?_
              exact law_z
  · refine rB_law (fun B hB => ?_)
    refine hB _ _ _ _ _ _ ?_
    refine dw_okV (a := 0) (as := [.int (xs 1), .int (xs 2), .int (xs 3)]) rfl rfl (show (SH1 0).1 = 11 by decide +kernel) rfl (by decide) rfl rfl ?_
    rw [hs]
    refine dw_enter rfl ?_
    refine rB_X11_spell (fun B hB => ?_)
    refine hB _ _ _ _ _ _ ?_
    refine dw_okV (a := 4) rfl rfl (show (SH1 4).1 = 0 by decide +kernel) rfl (by decide) rfl rfl ?_
    refine dw_enter rfl ?_
    refine rB_X0_cellAt (fun B hB => ?_)
    refine dw_ite (fun h11 => ?_) (fun h11 => ?_)
    · refine rB_X11_spell (fun B hB => ?_)
      refine rB_law (fun B hB => ?_)
      refine hB _ _ _ _ _ _ ?_
      refine dw_okV (a := 404) (as := [.int (xs 1), .int (xs 2), .int (xs 3)]) rfl rfl (show (SH1 404).1 = 12 by decide +kernel) rfl (by decide) rfl rfl ?_
      rw [hs]
      refine dw_enter rfl ?_
      refine rB_X12_spell (fun B hB => ?_)
      refine hB _ _ _ _ _ _ ?_
      refine dw_okV (a := 404) rfl rfl (show (SH1 404).1 = 12 by decide +kernel) rfl (by decide) rfl rfl ?_
      refine dw_enter rfl ?_
      refine rB_X12_asks (fun B hB => ?_)
      refine hB _ _ _ _ _ _ ?_
      refine dw_okV (a := 404) rfl rfl (show (SH1 404).1 = 12 by decide +kernel) rfl (by decide) rfl rfl ?_
      refine dw_enter rfl ?_
      refine rB_X12_isNight (fun B hB => ?_)
      refine hB _ _ _ _ _ _ ?_
      refine dw_okS rfl rfl rfl (by decide) rfl rfl ?_
      refine dw_enter rfl ?_
      refine rB_X12_isIn (fun B hB => ?_)
      refine rB_X12_isNight (fun B hB => ?_)
      refine rB_X12_asks (fun B hB => ?_)
      refine rB_X12_spell (fun B hB => ?_)
      refine rB_law (fun B hB => ?_)
      refine hB _ _ _ _ _ _ ?_
      exact law_z
    · refine dw_ite (fun h12 => ?_) (fun h12 => ?_)
      · refine rB_X11_spell (fun B hB => ?_)
        refine rB_law (fun B hB => ?_)
        refine hB _ _ _ _ _ _ ?_
        refine dw_okV (a := 404) (as := [.int (xs 1), .int (xs 2), .int (xs 3)]) rfl rfl (show (SH1 404).1 = 12 by decide +kernel) rfl (by decide) rfl rfl ?_
        rw [hs]
        refine dw_enter rfl ?_
        refine rB_X12_spell (fun B hB => ?_)
        refine hB _ _ _ _ _ _ ?_
        refine dw_okV (a := 404) rfl rfl (show (SH1 404).1 = 12 by decide +kernel) rfl (by decide) rfl rfl ?_
        refine dw_enter rfl ?_
        refine rB_X12_asks (fun B hB => ?_)
        refine hB _ _ _ _ _ _ ?_
        refine dw_okV (a := 404) rfl rfl (show (SH1 404).1 = 12 by decide +kernel) rfl (by decide) rfl rfl ?_
        refine dw_enter rfl ?_
        refine rB_X12_isNight (fun B hB => ?_)
        refine hB _ _ _ _ _ _ ?_
        refine dw_okS rfl rfl rfl (by decide) rfl rfl ?_
        refine dw_enter rfl ?_
        refine rB_X12_isIn (fun B hB => ?_)
        refine rB_X12_isNight (fun B hB => ?_)
        refine rB_X12_asks (fun B hB => ?_)
        refine rB_X12_spell (fun B hB => ?_)
        refine rB_law (fun B hB => ?_)
        refine hB _ _ _ _ _ _ ?_
        exact law_z
      · refine dw_ite (fun h13 => ?_) (fun h13 => ?_)
        · refine rB_X11_spell (fun B hB => ?_)
          refine rB_law (fun B hB => ?_)
          refine hB _ _ _ _ _ _ ?_
          refine dw_okV (a := 404) (as := [.int (xs 1), .int (xs 2), .int (xs 3)]) rfl rfl (show (SH1 404).1 = 12 by decide +kernel) rfl (by decide) rfl rfl ?_
          rw [hs]
          refine dw_enter rfl ?_
          refine rB_X12_spell (fun B hB => ?_)
          refine hB _ _ _ _ _ _ ?_
          refine dw_okV (a := 404) rfl rfl (show (SH1 404).1 = 12 by decide +kernel) rfl (by decide) rfl rfl ?_
          refine dw_enter rfl ?_
          refine rB_X12_asks (fun B hB => ?_)
          refine hB _ _ _ _ _ _ ?_
          refine dw_okV (a := 404) rfl rfl (show (SH1 404).1 = 12 by decide +kernel) rfl (by decide) rfl rfl ?_
          refine dw_enter rfl ?_
          refine rB_X12_isNight (fun B hB => ?_)
          refine hB _ _ _ _ _ _ ?_
          refine dw_okS rfl rfl rfl (by decide) rfl rfl ?_
          refine dw_enter rfl ?_
          refine rB_X12_isIn (fun B hB => ?_)
          refine rB_X12_isNight (fun B hB => ?_)
          refine rB_X12_asks (fun B hB => ?_)
          refine rB_X12_spell (fun B hB => ?_)
          refine rB_law (fun B hB => ?_)
          refine hB _ _ _ _ _ _ ?_
          exact law_z
        · refine dw_ite (fun h14 => ?_) (fun h14 => ?_)
          · refine rB_X11_spell (fun B hB => ?_)
            refine rB_law (fun B hB => ?_)
            refine hB _ _ _ _ _ _ ?_
            refine dw_okV (a := 404) (as := [.int (xs 1), .int (xs 2), .int (xs 3)]) rfl rfl (show (SH1 404).1 = 12 by decide +kernel) rfl (by decide) rfl rfl ?_
            rw [hs]
            refine dw_enter rfl ?_
            refine rB_X12_spell (fun B hB => ?_)
            refine hB _ _ _ _ _ _ ?_
            refine dw_okV (a := 404) rfl rfl (show (SH1 404).1 = 12 by decide +kernel) rfl (by decide) rfl rfl ?_
            refine dw_enter rfl ?_
            refine rB_X12_asks (fun B hB => ?_)
            refine hB _ _ _ _ _ _ ?_
            refine dw_okV (a := 404) rfl rfl (show (SH1 404).1 = 12 by decide +kernel) rfl (by decide) rfl rfl ?_
            refine dw_enter rfl ?_
            refine rB_X12_isNight (fun B hB => ?_)
            refine hB _ _ _ _ _ _ ?_
            refine dw_okS rfl rfl rfl (by decide) rfl rfl ?_
            refine dw_enter rfl ?_
            refine rB_X12_isIn (fun B hB => ?_)
            refine rB_X12_isNight (fun B hB => ?_)
            refine rB_X12_asks (fun B hB => ?_)
            refine rB_X12_spell (fun B hB => ?_)
            refine rB_law (fun B hB => ?_)
            refine hB _ _ _ _ _ _ ?_
            exact law_z
          · refine rB_X11_spell (fun B hB => ?_)
            refine dw_ite (fun h15 => ?_) (fun h15 => ?_)
            · refine rB_law (fun B hB => ?_)
              refine hB _ _ _ _ _ _ ?_
              refine dw_okV (a := 404) (as := [.int (xs 1), .int (xs 2), .int (xs 3)]) rfl rfl (show (SH1 404).1 = 12 by decide +kernel) rfl (by decide) rfl rfl ?_
              rw [hs]
              refine dw_enter rfl ?_
              refine rB_X12_spell (fun B hB => ?_)
              refine hB _ _ _ _ _ _ ?_
              refine dw_okV (a := 404) rfl rfl (show (SH1 404).1 = 12 by decide +kernel) rfl (by decide) rfl rfl ?_
              refine dw_enter rfl ?_
              refine rB_X12_asks (fun B hB => ?_)
              refine hB _ _ _ _ _ _ ?_
              refine dw_okV (a := 404) rfl rfl (show (SH1 404).1 = 12 by decide +kernel) rfl (by decide) rfl rfl ?_
              refine dw_enter rfl ?_
              refine rB_X12_isNight (fun B hB => ?_)
              refine hB _ _ _ _ _ _ ?_
              refine dw_okS rfl rfl rfl (by decide) rfl rfl ?_
              refine dw_enter rfl ?_
              refine rB_X12_isIn (fun B hB => ?_)
              refine rB_X12_isNight (fun B hB => ?_)
              refine rB_X12_asks (fun B hB => ?_)
              refine rB_X12_spell (fun B hB => ?_)
              refine rB_law (fun B hB => ?_)
              refine hB _ _ _ _ _ _ ?_
              exact law_z
            · refine hB _ _ _ _ _ _ ?_
              refine dw_okV (a := 0) rfl rfl (show (SH1 0).1 = 11 by decide +kernel) rfl (by decide) rfl rfl ?_
              refine dw_enter rfl ?_
              refine rB_X11_watched (fun B hB => ?_)
              refine hB _ _ _ _ _ _ ?_
              refine dw_okV (a := 0) rfl rfl (show (SH1 0).1 = 11 by decide +kernel) rfl (by decide) rfl rfl ?_
              refine dw_enter rfl ?_
              refine rB_X11_start (fun B hB => ?_)
              refine hB _ _ _ _ _ _ ?_
              refine dw_okV (a := 3) rfl rfl (show (SH1 3).1 = 8 by decide +kernel) rfl (by decide) rfl rfl ?_
              refine dw_enter rfl ?_
              refine rB_X8_nightOf (fun B hB => ?_)
              refine rB_X11_start (fun B hB => ?_)
              refine (fun (_ : _ ∨ _) => ?_)
              refine rB_X11_watched (fun B hB => ?_)
              refine rB_X11_spell (fun B hB => ?_)
              refine rB_law (fun B hB => ?_)
              refine hB _ _ _ _ _ _ ?_
              refine dw_okV (a := 404) (as := [.int (xs 1), .int (xs 2), .int (xs 3)]) rfl rfl (show (SH1 404).1 = 12 by decide +kernel) rfl (by decide) rfl rfl ?_
              rw [hs]
              refine dw_enter rfl ?_
              refine rB_X12_spell (fun B hB => ?_)
              refine hB _ _ _ _ _ _ ?_
              refine dw_okV (a := 404) rfl rfl (show (SH1 404).1 = 12 by decide +kernel) rfl (by decide) rfl rfl ?_
              refine dw_enter rfl ?_
              refine rB_X12_asks (fun B hB => ?_)
              refine hB _ _ _ _ _ _ ?_
              refine dw_okV (a := 404) rfl rfl (show (SH1 404).1 = 12 by decide +kernel) rfl (by decide) rfl rfl ?_
              refine dw_enter rfl ?_
              refine rB_X12_isNight (fun B hB => ?_)
              refine hB _ _ _ _ _ _ ?_
              refine dw_okS rfl rfl rfl (by decide) rfl rfl ?_
              refine dw_enter rfl ?_
              refine rB_X12_isIn (fun B hB => ?_)
              refine rB_X12_isNight (fun B hB => ?_)
              refine rB_X12_asks (fun B hB => ?_)
              refine rB_X12_spell (fun B hB => ?_)
              refine rB_law (fun B hB => ?_)
              refine hB _ _ _ _ _ _ ?_
              exact law_z
  · refine rB_law (fun B hB => ?_)
    refine hB _ _ _ _ _ _ ?_
    refine dw_okV (a := 0) (as := [.int (xs 1), .int (xs 2), .int (xs 3)]) rfl rfl (show (SH1 0).1 = 11 by decide +kernel) rfl (by decide) rfl rfl ?_
    rw [hs]
    refine dw_enter rfl ?_
    refine rB_X11_spell (fun B hB => ?_)
    refine hB _ _ _ _ _ _ ?_
    refine dw_okV (a := 4) rfl rfl (show (SH1 4).1 = 0 by decide +kernel) rfl (by decide) rfl rfl ?_
    refine dw_enter rfl ?_
    refine rB_X0_cellAt (fun B hB => ?_)
    refine dw_ite (fun h16 => ?_) (fun h16 => ?_)
    · refine rB_X11_spell (fun B hB => ?_)
      refine rB_law (fun B hB => ?_)
      refine hB _ _ _ _ _ _ ?_
      refine dw_okV (a := 404) (as := [.int (xs 1), .int (xs 2), .int (xs 3)]) rfl rfl (show (SH1 404).1 = 12 by decide +kernel) rfl (by decide) rfl rfl ?_
      rw [hs]
      refine dw_enter rfl ?_
      refine rB_X12_spell (fun B hB => ?_)
      refine hB _ _ _ _ _ _ ?_
      refine dw_okV (a := 404) rfl rfl (show (SH1 404).1 = 12 by decide +kernel) rfl (by decide) rfl rfl ?_
      refine dw_enter rfl ?_
      refine rB_X12_asks (fun B hB => ?_)
      refine hB _ _ _ _ _ _ ?_
      refine dw_okV (a := 404) rfl rfl (show (SH1 404).1 = 12 by decide +kernel) rfl (by decide) rfl rfl ?_
      refine dw_enter rfl ?_
      refine rB_X12_isNight (fun B hB => ?_)
      refine hB _ _ _ _ _ _ ?_
      refine dw_okS rfl rfl rfl (by decide) rfl rfl ?_
      refine dw_enter rfl ?_
      refine rB_X12_isIn (fun B hB => ?_)
      refine rB_X12_isNight (fun B hB => ?_)
      refine rB_X12_asks (fun B hB => ?_)
      refine rB_X12_spell (fun B hB => ?_)
      refine rB_law (fun B hB => ?_)
      refine hB _ _ _ _ _ _ ?_
      exact law_z
    · refine dw_ite (fun h17 => ?_) (fun h17 => ?_)
      · refine rB_X11_spell (fun B hB => ?_)
        refine rB_law (fun B hB => ?_)
        refine hB _ _ _ _ _ _ ?_
        refine dw_okV (a := 404) (as := [.int (xs 1), .int (xs 2), .int (xs 3)]) rfl rfl (show (SH1 404).1 = 12 by decide +kernel) rfl (by decide) rfl rfl ?_
        rw [hs]
        refine dw_enter rfl ?_
        refine rB_X12_spell (fun B hB => ?_)
        refine hB _ _ _ _ _ _ ?_
        refine dw_okV (a := 404) rfl rfl (show (SH1 404).1 = 12 by decide +kernel) rfl (by decide) rfl rfl ?_
        refine dw_enter rfl ?_
        refine rB_X12_asks (fun B hB => ?_)
        refine hB _ _ _ _ _ _ ?_
        refine dw_okV (a := 404) rfl rfl (show (SH1 404).1 = 12 by decide +kernel) rfl (by decide) rfl rfl ?_
        refine dw_enter rfl ?_
        refine rB_X12_isNight (fun B hB => ?_)
        refine hB _ _ _ _ _ _ ?_
        refine dw_okS rfl rfl rfl (by decide) rfl rfl ?_
        refine dw_enter rfl ?_
        refine rB_X12_isIn (fun B hB => ?_)
        refine rB_X12_isNight (fun B hB => ?_)
        refine rB_X12_asks (fun B hB => ?_)
        refine rB_X12_spell (fun B hB => ?_)
        refine rB_law (fun B hB => ?_)
        refine hB _ _ _ _ _ _ ?_
        exact law_z
      · refine dw_ite (fun h18 => ?_) (fun h18 => ?_)
        · refine rB_X11_spell (fun B hB => ?_)
          refine rB_law (fun B hB => ?_)
          refine hB _ _ _ _ _ _ ?_
          refine dw_okV (a := 404) (as := [.int (xs 1), .int (xs 2), .int (xs 3)]) rfl rfl (show (SH1 404).1 = 12 by decide +kernel) rfl (by decide) rfl rfl ?_
          rw [hs]
          refine dw_enter rfl ?_
          refine rB_X12_spell (fun B hB => ?_)
          refine hB _ _ _ _ _ _ ?_
          refine dw_okV (a := 404) rfl rfl (show (SH1 404).1 = 12 by decide +kernel) rfl (by decide) rfl rfl ?_
          refine dw_enter rfl ?_
          refine rB_X12_asks (fun B hB => ?_)
          refine hB _ _ _ _ _ _ ?_
          refine dw_okV (a := 404) rfl rfl (show (SH1 404).1 = 12 by decide +kernel) rfl (by decide) rfl rfl ?_
          refine dw_enter rfl ?_
          refine rB_X12_isNight (fun B hB => ?_)
          refine hB _ _ _ _ _ _ ?_
          refine dw_okS rfl rfl rfl (by decide) rfl rfl ?_
          refine dw_enter rfl ?_
          refine rB_X12_isIn (fun B hB => ?_)
          refine rB_X12_isNight (fun B hB => ?_)
          refine rB_X12_asks (fun B hB => ?_)
          refine rB_X12_spell (fun B hB => ?_)
          refine rB_law (fun B hB => ?_)
          refine hB _ _ _ _ _ _ ?_
          exact law_z
        · refine dw_ite (fun h19 => ?_) (fun h19 => ?_)
          · refine rB_X11_spell (fun B hB => ?_)
            refine rB_law (fun B hB => ?_)
            refine hB _ _ _ _ _ _ ?_
            refine dw_okV (a := 404) (as := [.int (xs 1), .int (xs 2), .int (xs 3)]) rfl rfl (show (SH1 404).1 = 12 by decide +kernel) rfl (by decide) rfl rfl ?_
            rw [hs]
            refine dw_enter rfl ?_
            refine rB_X12_spell (fun B hB => ?_)
            refine hB _ _ _ _ _ _ ?_
            refine dw_okV (a := 404) rfl rfl (show (SH1 404).1 = 12 by decide +kernel) rfl (by decide) rfl rfl ?_
            refine dw_enter rfl ?_
            refine rB_X12_asks (fun B hB => ?_)
            refine hB _ _ _ _ _ _ ?_
            refine dw_okV (a := 404) rfl rfl (show (SH1 404).1 = 12 by decide +kernel) rfl (by decide) rfl rfl ?_
            refine dw_enter rfl ?_
            refine rB_X12_isNight (fun B hB => ?_)
            refine hB _ _ _ _ _ _ ?_
            refine dw_okS rfl rfl rfl (by decide) rfl rfl ?_
            refine dw_enter rfl ?_
            refine rB_X12_isIn (fun B hB => ?_)
            refine rB_X12_isNight (fun B hB => ?_)
            refine rB_X12_asks (fun B hB => ?_)
            refine rB_X12_spell (fun B hB => ?_)
            refine rB_law (fun B hB => ?_)
            refine hB _ _ _ _ _ _ ?_
            exact law_z
          · refine rB_X11_spell (fun B hB => ?_)
            refine dw_ite (fun h20 => ?_) (fun h20 => ?_)
            · refine rB_law (fun B hB => ?_)
              refine hB _ _ _ _ _ _ ?_
              refine dw_okV (a := 404) (as := [.int (xs 1), .int (xs 2), .int (xs 3)]) rfl rfl (show (SH1 404).1 = 12 by decide +kernel) rfl (by decide) rfl rfl ?_
              rw [hs]
              refine dw_enter rfl ?_
              refine rB_X12_spell (fun B hB => ?_)
              refine hB _ _ _ _ _ _ ?_
              refine dw_okV (a := 404) rfl rfl (show (SH1 404).1 = 12 by decide +kernel) rfl (by decide) rfl rfl ?_
              refine dw_enter rfl ?_
              refine rB_X12_asks (fun B hB => ?_)
              refine hB _ _ _ _ _ _ ?_
              refine dw_okV (a := 404) rfl rfl (show (SH1 404).1 = 12 by decide +kernel) rfl (by decide) rfl rfl ?_
              refine dw_enter rfl ?_
              refine rB_X12_isNight (fun B hB => ?_)
              refine hB _ _ _ _ _ _ ?_
              refine dw_okS rfl rfl rfl (by decide) rfl rfl ?_
              refine dw_enter rfl ?_
              refine rB_X12_isIn (fun B hB => ?_)
              refine rB_X12_isNight (fun B hB => ?_)
              refine rB_X12_asks (fun B hB => ?_)
              refine rB_X12_spell (fun B hB => ?_)
              refine rB_law (fun B hB => ?_)
              refine hB _ _ _ _ _ _ ?_
              exact law_z
            · refine hB _ _ _ _ _ _ ?_
              refine dw_okV (a := 0) rfl rfl (show (SH1 0).1 = 11 by decide +kernel) rfl (by decide) rfl rfl ?_
              refine dw_enter rfl ?_
              refine rB_X11_watched (fun B hB => ?_)
              refine hB _ _ _ _ _ _ ?_
              refine dw_okV (a := 0) rfl rfl (show (SH1 0).1 = 11 by decide +kernel) rfl (by decide) rfl rfl ?_
              refine dw_enter rfl ?_
              refine rB_X11_start (fun B hB => ?_)
              refine hB _ _ _ _ _ _ ?_
              refine dw_okV (a := 3) rfl rfl (show (SH1 3).1 = 8 by decide +kernel) rfl (by decide) rfl rfl ?_
              refine dw_enter rfl ?_
              refine rB_X8_nightOf (fun B hB => ?_)
              refine rB_X11_start (fun B hB => ?_)
              refine (fun (_ : _ ∨ _) => ?_)
              refine rB_X11_watched (fun B hB => ?_)
              refine rB_X11_spell (fun B hB => ?_)
              refine rB_law (fun B hB => ?_)
              refine hB _ _ _ _ _ _ ?_
              refine dw_okV (a := 404) (as := [.int (xs 1), .int (xs 2), .int (xs 3)]) rfl rfl (show (SH1 404).1 = 12 by decide +kernel) rfl (by decide) rfl rfl ?_
              rw [hs]
              refine dw_enter rfl ?_
              refine rB_X12_spell (fun B hB => ?_)
              refine hB _ _ _ _ _ _ ?_
              refine dw_okV (a := 404) rfl rfl (show (SH1 404).1 = 12 by decide +kernel) rfl (by decide) rfl rfl ?_
              refine dw_enter rfl ?_
              refine rB_X12_asks (fun B hB => ?_)
              refine hB _ _ _ _ _ _ ?_
              refine dw_okV (a := 404) rfl rfl (show (SH1 404).1 = 12 by decide +kernel) rfl (by decide) rfl rfl ?_
              refine dw_enter rfl ?_
              refine rB_X12_isNight (fun B hB => ?_)
              refine hB _ _ _ _ _ _ ?_
              refine dw_okS rfl rfl rfl (by decide) rfl rfl ?_
              refine dw_enter rfl ?_
              refine rB_X12_isIn (fun B hB => ?_)
              refine rB_X12_isNight (fun B hB => ?_)
              refine rB_X12_asks (fun B hB => ?_)
              refine rB_X12_spell (fun B hB => ?_)
              refine rB_law (fun B hB => ?_)
              refine hB _ _ _ _ _ _ ?_
              exact law_z
  · refine rB_law (fun B hB => ?_)
    refine hB _ _ _ _ _ _ ?_
    refine dw_okV (a := 0) (as := [.int (xs 1), .int (xs 2), .int (xs 3)]) rfl rfl (show (SH1 0).1 = 11 by decide +kernel) rfl (by decide) rfl rfl ?_
    rw [hs]
    refine dw_enter rfl ?_
    refine rB_X11_spell (fun B hB => ?_)
    refine hB _ _ _ _ _ _ ?_
    refine dw_okV (a := 4) rfl rfl (show (SH1 4).1 = 0 by decide +kernel) rfl (by decide) rfl rfl ?_
    refine dw_enter rfl ?_
    refine rB_X0_cellAt (fun B hB => ?_)
    refine dw_ite (fun h21 => ?_) (fun h21 => ?_)
    · refine rB_X11_spell (fun B hB => ?_)
      refine rB_law (fun B hB => ?_)
      refine hB _ _ _ _ _ _ ?_
      refine dw_okV (a := 404) (as := [.int (xs 1), .int (xs 2), .int (xs 3)]) rfl rfl (show (SH1 404).1 = 12 by decide +kernel) rfl (by decide) rfl rfl ?_
      rw [hs]
      refine dw_enter rfl ?_
      refine rB_X12_spell (fun B hB => ?_)
      refine hB _ _ _ _ _ _ ?_
      refine dw_okV (a := 404) rfl rfl (show (SH1 404).1 = 12 by decide +kernel) rfl (by decide) rfl rfl ?_
      refine dw_enter rfl ?_
      refine rB_X12_asks (fun B hB => ?_)
      refine hB _ _ _ _ _ _ ?_
      refine dw_okV (a := 404) rfl rfl (show (SH1 404).1 = 12 by decide +kernel) rfl (by decide) rfl rfl ?_
      refine dw_enter rfl ?_
      refine rB_X12_isNight (fun B hB => ?_)
      refine hB _ _ _ _ _ _ ?_
      refine dw_okS rfl rfl rfl (by decide) rfl rfl ?_
      refine dw_enter rfl ?_
      refine rB_X12_isIn (fun B hB => ?_)
      refine rB_X12_isNight (fun B hB => ?_)
      refine rB_X12_asks (fun B hB => ?_)
      refine rB_X12_spell (fun B hB => ?_)
      refine rB_law (fun B hB => ?_)
      refine hB _ _ _ _ _ _ ?_
      exact law_z
    · refine dw_ite (fun h22 => ?_) (fun h22 => ?_)
      · refine rB_X11_spell (fun B hB => ?_)
        refine rB_law (fun B hB => ?_)
        refine hB _ _ _ _ _ _ ?_
        refine dw_okV (a := 404) (as := [.int (xs 1), .int (xs 2), .int (xs 3)]) rfl rfl (show (SH1 404).1 = 12 by decide +kernel) rfl (by decide) rfl rfl ?_
        rw [hs]
        refine dw_enter rfl ?_
        refine rB_X12_spell (fun B hB => ?_)
        refine hB _ _ _ _ _ _ ?_
        refine dw_okV (a := 404) rfl rfl (show (SH1 404).1 = 12 by decide +kernel) rfl (by decide) rfl rfl ?_
        refine dw_enter rfl ?_
        refine rB_X12_asks (fun B hB => ?_)
        refine hB _ _ _ _ _ _ ?_
        refine dw_okV (a := 404) rfl rfl (show (SH1 404).1 = 12 by decide +kernel) rfl (by decide) rfl rfl ?_
        refine dw_enter rfl ?_
        refine rB_X12_isNight (fun B hB => ?_)
        refine hB _ _ _ _ _ _ ?_
        refine dw_okS rfl rfl rfl (by decide) rfl rfl ?_
        refine dw_enter rfl ?_
        refine rB_X12_isIn (fun B hB => ?_)
        refine rB_X12_isNight (fun B hB => ?_)
        refine rB_X12_asks (fun B hB => ?_)
        refine rB_X12_spell (fun B hB => ?_)
        refine rB_law (fun B hB => ?_)
        refine hB _ _ _ _ _ _ ?_
        exact law_z
      · refine dw_ite (fun h23 => ?_) (fun h23 => ?_)
        · refine rB_X11_spell (fun B hB => ?_)
          refine rB_law (fun B hB => ?_)
          refine hB _ _ _ _ _ _ ?_
          refine dw_okV (a := 404) (as := [.int (xs 1), .int (xs 2), .int (xs 3)]) rfl rfl (show (SH1 404).1 = 12 by decide +kernel) rfl (by decide) rfl rfl ?_
          rw [hs]
          refine dw_enter rfl ?_
          refine rB_X12_spell (fun B hB => ?_)
          refine hB _ _ _ _ _ _ ?_
          refine dw_okV (a := 404) rfl rfl (show (SH1 404).1 = 12 by decide +kernel) rfl (by decide) rfl rfl ?_
          refine dw_enter rfl ?_
          refine rB_X12_asks (fun B hB => ?_)
          refine hB _ _ _ _ _ _ ?_
          refine dw_okV (a := 404) rfl rfl (show (SH1 404).1 = 12 by decide +kernel) rfl (by decide) rfl rfl ?_
          refine dw_enter rfl ?_
          refine rB_X12_isNight (fun B hB => ?_)
          refine hB _ _ _ _ _ _ ?_
          refine dw_okS rfl rfl rfl (by decide) rfl rfl ?_
          refine dw_enter rfl ?_
          refine rB_X12_isIn (fun B hB => ?_)
          refine rB_X12_isNight (fun B hB => ?_)
          refine rB_X12_asks (fun B hB => ?_)
          refine rB_X12_spell (fun B hB => ?_)
          refine rB_law (fun B hB => ?_)
          refine hB _ _ _ _ _ _ ?_
          exact law_z
        · refine dw_ite (fun h24 => ?_) (fun h24 => ?_)
          · refine rB_X11_spell (fun B hB => ?_)
            refine rB_law (fun B hB => ?_)
            refine hB _ _ _ _ _ _ ?_
            refine dw_okV (a := 404) (as := [.int (xs 1), .int (xs 2), .int (xs 3)]) rfl rfl (show (SH1 404).1 = 12 by decide +kernel) rfl (by decide) rfl rfl ?_
            rw [hs]
            refine dw_enter rfl ?_
            refine rB_X12_spell (fun B hB => ?_)
            refine hB _ _ _ _ _ _ ?_
            refine dw_okV (a := 404) rfl rfl (show (SH1 404).1 = 12 by decide +kernel) rfl (by decide) rfl rfl ?_
            refine dw_enter rfl ?_
            refine rB_X12_asks (fun B hB => ?_)
            refine hB _ _ _ _ _ _ ?_
            refine dw_okV (a := 404) rfl rfl (show (SH1 404).1 = 12 by decide +kernel) rfl (by decide) rfl rfl ?_
            refine dw_enter rfl ?_
            refine rB_X12_isNight (fun B hB => ?_)
            refine hB _ _ _ _ _ _ ?_
            refine dw_okS rfl rfl rfl (by decide) rfl rfl ?_
            refine dw_enter rfl ?_
            refine rB_X12_isIn (fun B hB => ?_)
            refine rB_X12_isNight (fun B hB => ?_)
            refine rB_X12_asks (fun B hB => ?_)
            refine rB_X12_spell (fun B hB => ?_)
            refine rB_law (fun B hB => ?_)
            refine hB _ _ _ _ _ _ ?_
            exact law_z
          · refine rB_X11_spell (fun B hB => ?_)
            refine dw_ite (fun h25 => ?_) (fun h25 => ?_)
            · refine rB_law (fun B hB => ?_)
              refine hB _ _ _ _ _ _ ?_
              refine dw_okV (a := 404) (as := [.int (xs 1), .int (xs 2), .int (xs 3)]) rfl rfl (show (SH1 404).1 = 12 by decide +kernel) rfl (by decide) rfl rfl ?_
              rw [hs]
              refine dw_enter rfl ?_
              refine rB_X12_spell (fun B hB => ?_)
              refine hB _ _ _ _ _ _ ?_
              refine dw_okV (a := 404) rfl rfl (show (SH1 404).1 = 12 by decide +kernel) rfl (by decide) rfl rfl ?_
              refine dw_enter rfl ?_
              refine rB_X12_asks (fun B hB => ?_)
              refine hB _ _ _ _ _ _ ?_
              refine dw_okV (a := 404) rfl rfl (show (SH1 404).1 = 12 by decide +kernel) rfl (by decide) rfl rfl ?_
              refine dw_enter rfl ?_
              refine rB_X12_isNight (fun B hB => ?_)
              refine hB _ _ _ _ _ _ ?_
              refine dw_okS rfl rfl rfl (by decide) rfl rfl ?_
              refine dw_enter rfl ?_
              refine rB_X12_isIn (fun B hB => ?_)
              refine rB_X12_isNight (fun B hB => ?_)
              refine rB_X12_asks (fun B hB => ?_)
              refine rB_X12_spell (fun B hB => ?_)
              refine rB_law (fun B hB => ?_)
              refine hB _ _ _ _ _ _ ?_
              exact law_z
            · refine hB _ _ _ _ _ _ ?_
              refine dw_okV (a := 0) rfl rfl (show (SH1 0).1 = 11 by decide +kernel) rfl (by decide) rfl rfl ?_
              refine dw_enter rfl ?_
              refine rB_X11_watched (fun B hB => ?_)
              refine hB _ _ _ _ _ _ ?_
              refine dw_okV (a := 0) rfl rfl (show (SH1 0).1 = 11 by decide +kernel) rfl (by decide) rfl rfl ?_
              refine dw_enter rfl ?_
              refine rB_X11_start (fun B hB => ?_)
              refine hB _ _ _ _ _ _ ?_
              refine dw_okV (a := 3) rfl rfl (show (SH1 3).1 = 8 by decide +kernel) rfl (by decide) rfl rfl ?_
              refine dw_enter rfl ?_
              refine rB_X8_nightOf (fun B hB => ?_)
              refine rB_X11_start (fun B hB => ?_)
              refine (fun (_ : _ ∨ _) => ?_)
              refine rB_X11_watched (fun B hB => ?_)
              refine rB_X11_spell (fun B hB => ?_)
              refine rB_law (fun B hB => ?_)
              refine hB _ _ _ _ _ _ ?_
              refine dw_okV (a := 404) (as := [.int (xs 1), .int (xs 2), .int (xs 3)]) rfl rfl (show (SH1 404).1 = 12 by decide +kernel) rfl (by decide) rfl rfl ?_
              rw [hs]
              refine dw_enter rfl ?_
              refine rB_X12_spell (fun B hB => ?_)
              refine hB _ _ _ _ _ _ ?_
              refine dw_okV (a := 404) rfl rfl (show (SH1 404).1 = 12 by decide +kernel) rfl (by decide) rfl rfl ?_
              refine dw_enter rfl ?_
              refine rB_X12_asks (fun B hB => ?_)
              refine hB _ _ _ _ _ _ ?_
              refine dw_okV (a := 404) rfl rfl (show (SH1 404).1 = 12 by decide +kernel) rfl (by decide) rfl rfl ?_
              refine dw_enter rfl ?_
              refine rB_X12_isNight (fun B hB => ?_)
              refine hB _ _ _ _ _ _ ?_
              refine dw_okS rfl rfl rfl (by decide) rfl rfl ?_
              refine dw_enter rfl ?_
              refine rB_X12_isIn (fun B hB => ?_)
              refine rB_X12_isNight (fun B hB => ?_)
              refine rB_X12_asks (fun B hB => ?_)
              refine rB_X12_spell (fun B hB => ?_)
              refine rB_law (fun B hB => ?_)
              refine hB _ _ _ _ _ _ ?_
              exact law_z
  · refine rB_law (fun B hB => ?_)
    refine hB _ _ _ _ _ _ ?_
    refine dw_okV (a := 0) (as := [.int (xs 1), .int (xs 2), .int (xs 3)]) rfl rfl (show (SH1 0).1 = 11 by decide +kernel) rfl (by decide) rfl rfl ?_
    rw [hs]
    refine dw_enter rfl ?_
    refine rB_X11_spell (fun B hB => ?_)
    refine hB _ _ _ _ _ _ ?_
    refine dw_okV (a := 4) rfl rfl (show (SH1 4).1 = 0 by decide +kernel) rfl (by decide) rfl rfl ?_
    refine dw_enter rfl ?_
    refine rB_X0_cellAt (fun B hB => ?_)
    refine dw_ite (fun h26 => ?_) (fun h26 => ?_)
    · refine rB_X11_spell (fun B hB => ?_)
      refine rB_law (fun B hB => ?_)
      refine hB _ _ _ _ _ _ ?_
      refine dw_okV (a := 404) (as := [.int (xs 1), .int (xs 2), .int (xs 3)]) rfl rfl (show (SH1 404).1 = 12 by decide +kernel) rfl (by decide) rfl rfl ?_
      rw [hs]
      refine dw_enter rfl ?_
      refine rB_X12_spell (fun B hB => ?_)
      refine hB _ _ _ _ _ _ ?_
      refine dw_okV (a := 404) rfl rfl (show (SH1 404).1 = 12 by decide +kernel) rfl (by decide) rfl rfl ?_
      refine dw_enter rfl ?_
      refine rB_X12_asks (fun B hB => ?_)
      refine hB _ _ _ _ _ _ ?_
      refine dw_okV (a := 404) rfl rfl (show (SH1 404).1 = 12 by decide +kernel) rfl (by decide) rfl rfl ?_
      refine dw_enter rfl ?_
      refine rB_X12_isNight (fun B hB => ?_)
      refine hB _ _ _ _ _ _ ?_
      refine dw_okS rfl rfl rfl (by decide) rfl rfl ?_
      refine dw_enter rfl ?_
      refine rB_X12_isIn (fun B hB => ?_)
      refine rB_X12_isNight (fun B hB => ?_)
      refine rB_X12_asks (fun B hB => ?_)
      refine rB_X12_spell (fun B hB => ?_)
      refine rB_law (fun B hB => ?_)
      refine hB _ _ _ _ _ _ ?_
      exact law_z
    · refine dw_ite (fun h27 => ?_) (fun h27 => ?_)
      · refine rB_X11_spell (fun B hB => ?_)
        refine rB_law (fun B hB => ?_)
        refine hB _ _ _ _ _ _ ?_
        refine dw_okV (a := 404) (as := [.int (xs 1), .int (xs 2), .int (xs 3)]) rfl rfl (show (SH1 404).1 = 12 by decide +kernel) rfl (by decide) rfl rfl ?_
        rw [hs]
        refine dw_enter rfl ?_
        refine rB_X12_spell (fun B hB => ?_)
        refine hB _ _ _ _ _ _ ?_
        refine dw_okV (a := 404) rfl rfl (show (SH1 404).1 = 12 by decide +kernel) rfl (by decide) rfl rfl ?_
        refine dw_enter rfl ?_
        refine rB_X12_asks (fun B hB => ?_)
        refine hB _ _ _ _ _ _ ?_
        refine dw_okV (a := 404) rfl rfl (show (SH1 404).1 = 12 by decide +kernel) rfl (by decide) rfl rfl ?_
        refine dw_enter rfl ?_
        refine rB_X12_isNight (fun B hB => ?_)
        refine hB _ _ _ _ _ _ ?_
        refine dw_okS rfl rfl rfl (by decide) rfl rfl ?_
        refine dw_enter rfl ?_
        refine rB_X12_isIn (fun B hB => ?_)
        refine rB_X12_isNight (fun B hB => ?_)
        refine rB_X12_asks (fun B hB => ?_)
        refine rB_X12_spell (fun B hB => ?_)
        refine rB_law (fun B hB => ?_)
        refine hB _ _ _ _ _ _ ?_
        exact law_z
      · refine dw_ite (fun h28 => ?_) (fun h28 => ?_)
        · refine rB_X11_spell (fun B hB => ?_)
          refine rB_law (fun B hB => ?_)
          refine hB _ _ _ _ _ _ ?_
          refine dw_okV (a := 404) (as := [.int (xs 1), .int (xs 2), .int (xs 3)]) rfl rfl (show (SH1 404).1 = 12 by decide +kernel) rfl (by decide) rfl rfl ?_
          rw [hs]
          refine dw_enter rfl ?_
          refine rB_X12_spell (fun B hB => ?_)
          refine hB _ _ _ _ _ _ ?_
          refine dw_okV (a := 404) rfl rfl (show (SH1 404).1 = 12 by decide +kernel) rfl (by decide) rfl rfl ?_
          refine dw_enter rfl ?_
          refine rB_X12_asks (fun B hB => ?_)
          refine hB _ _ _ _ _ _ ?_
          refine dw_okV (a := 404) rfl rfl (show (SH1 404).1 = 12 by decide +kernel) rfl (by decide) rfl rfl ?_
          refine dw_enter rfl ?_
          refine rB_X12_isNight (fun B hB => ?_)
          refine hB _ _ _ _ _ _ ?_
          refine dw_okS rfl rfl rfl (by decide) rfl rfl ?_
          refine dw_enter rfl ?_
          refine rB_X12_isIn (fun B hB => ?_)
          refine rB_X12_isNight (fun B hB => ?_)
          refine rB_X12_asks (fun B hB => ?_)
          refine rB_X12_spell (fun B hB => ?_)
          refine rB_law (fun B hB => ?_)
          refine hB _ _ _ _ _ _ ?_
          exact law_z
        · refine dw_ite (fun h29 => ?_) (fun h29 => ?_)
          · refine rB_X11_spell (fun B hB => ?_)
            refine rB_law (fun B hB => ?_)
            refine hB _ _ _ _ _ _ ?_
            refine dw_okV (a := 404) (as := [.int (xs 1), .int (xs 2), .int (xs 3)]) rfl rfl (show (SH1 404).1 = 12 by decide +kernel) rfl (by decide) rfl rfl ?_
            rw [hs]
            refine dw_enter rfl ?_
            refine rB_X12_spell (fun B hB => ?_)
            refine hB _ _ _ _ _ _ ?_
            refine dw_okV (a := 404) rfl rfl (show (SH1 404).1 = 12 by decide +kernel) rfl (by decide) rfl rfl ?_
            refine dw_enter rfl ?_
            refine rB_X12_asks (fun B hB => ?_)
            refine hB _ _ _ _ _ _ ?_
            refine dw_okV (a := 404) rfl rfl (show (SH1 404).1 = 12 by decide +kernel) rfl (by decide) rfl rfl ?_
            refine dw_enter rfl ?_
            refine rB_X12_isNight (fun B hB => ?_)
            refine hB _ _ _ _ _ _ ?_
            refine dw_okS rfl rfl rfl (by decide) rfl rfl ?_
            refine dw_enter rfl ?_
            refine rB_X12_isIn (fun B hB => ?_)
            refine rB_X12_isNight (fun B hB => ?_)
            refine rB_X12_asks (fun B hB => ?_)
            refine rB_X12_spell (fun B hB => ?_)
            refine rB_law (fun B hB => ?_)
            refine hB _ _ _ _ _ _ ?_
            exact law_z
          · refine rB_X11_spell (fun B hB => ?_)
            refine dw_ite (fun h30 => ?_) (fun h30 => ?_)
            · refine rB_law (fun B hB => ?_)
              refine hB _ _ _ _ _ _ ?_
              refine dw_okV (a := 404) (as := [.int (xs 1), .int (xs 2), .int (xs 3)]) rfl rfl (show (SH1 404).1 = 12 by decide +kernel) rfl (by decide) rfl rfl ?_
              rw [hs]
              refine dw_enter rfl ?_
              refine rB_X12_spell (fun B hB => ?_)
              refine hB _ _ _ _ _ _ ?_
              refine dw_okV (a := 404) rfl rfl (show (SH1 404).1 = 12 by decide +kernel) rfl (by decide) rfl rfl ?_
              refine dw_enter rfl ?_
              refine rB_X12_asks (fun B hB => ?_)
              refine hB _ _ _ _ _ _ ?_
              refine dw_okV (a := 404) rfl rfl (show (SH1 404).1 = 12 by decide +kernel) rfl (by decide) rfl rfl ?_
              refine dw_enter rfl ?_
              refine rB_X12_isNight (fun B hB => ?_)
              refine hB _ _ _ _ _ _ ?_
              refine dw_okS rfl rfl rfl (by decide) rfl rfl ?_
              refine dw_enter rfl ?_
              refine rB_X12_isIn (fun B hB => ?_)
              refine rB_X12_isNight (fun B hB => ?_)
              refine rB_X12_asks (fun B hB => ?_)
              refine rB_X12_spell (fun B hB => ?_)
              refine rB_law (fun B hB => ?_)
              refine hB _ _ _ _ _ _ ?_
              exact law_z
            · refine hB _ _ _ _ _ _ ?_
              refine dw_okV (a := 0) rfl rfl (show (SH1 0).1 = 11 by decide +kernel) rfl (by decide) rfl rfl ?_
              refine dw_enter rfl ?_
              refine rB_X11_watched (fun B hB => ?_)
              refine hB _ _ _ _ _ _ ?_
              refine dw_okV (a := 0) rfl rfl (show (SH1 0).1 = 11 by decide +kernel) rfl (by decide) rfl rfl ?_
              refine dw_enter rfl ?_
              refine rB_X11_start (fun B hB => ?_)
              refine hB _ _ _ _ _ _ ?_
              refine dw_okV (a := 3) rfl rfl (show (SH1 3).1 = 8 by decide +kernel) rfl (by decide) rfl rfl ?_
              refine dw_enter rfl ?_
              refine rB_X8_nightOf (fun B hB => ?_)
              refine rB_X11_start (fun B hB => ?_)
              refine (fun (_ : _ ∨ _) => ?_)
              refine rB_X11_watched (fun B hB => ?_)
              refine rB_X11_spell (fun B hB => ?_)
              refine rB_law (fun B hB => ?_)
              refine hB _ _ _ _ _ _ ?_
              refine dw_okV (a := 404) (as := [.int (xs 1), .int (xs 2), .int (xs 3)]) rfl rfl (show (SH1 404).1 = 12 by decide +kernel) rfl (by decide) rfl rfl ?_
              rw [hs]
              refine dw_enter rfl ?_
              refine rB_X12_spell (fun B hB => ?_)
              refine hB _ _ _ _ _ _ ?_
              refine dw_okV (a := 404) rfl rfl (show (SH1 404).1 = 12 by decide +kernel) rfl (by decide) rfl rfl ?_
              refine dw_enter rfl ?_
              refine rB_X12_asks (fun B hB => ?_)
              refine hB _ _ _ _ _ _ ?_
              refine dw_okV (a := 404) rfl rfl (show (SH1 404).1 = 12 by decide +kernel) rfl (by decide) rfl rfl ?_
              refine dw_enter rfl ?_
              refine rB_X12_isNight (fun B hB => ?_)
              refine hB _ _ _ _ _ _ ?_
              refine dw_okS rfl rfl rfl (by decide) rfl rfl ?_
              refine dw_enter rfl ?_
              refine rB_X12_isIn (fun B hB => ?_)
              refine rB_X12_isNight (fun B hB => ?_)
              refine rB_X12_asks (fun B hB => ?_)
              refine rB_X12_spell (fun B hB => ?_)
              refine rB_law (fun B hB => ?_)
              refine hB _ _ _ _ _ _ ?_
              exact law_z
  · refine rB_law (fun B hB => ?_)
    refine hB _ _ _ _ _ _ ?_
    refine dw_okV (a := 0) (as := [.int (xs 1), .int (xs 2), .int (xs 3)]) rfl rfl (show (SH1 0).1 = 11 by decide +kernel) rfl (by decide) rfl rfl ?_
    refine dw_enter rfl ?_
    refine rB_X11_spell (fun B hB => ?_)
    refine hB _ _ _ _ _ _ ?_
    refine dw_okV (a := 4) rfl rfl (show (SH1 4).1 = 0 by decide +kernel) rfl (by decide) rfl rfl ?_
    refine dw_enter rfl ?_
    refine rB_X0_cellAt (fun B hB => ?_)
    refine dw_ite (fun h31 => ?_) (fun h31 => ?_)
    · refine rB_X11_spell (fun B hB => ?_)
      refine rB_law (fun B hB => ?_)
      refine hB _ _ _ _ _ _ ?_
      refine dw_okV (a := 404) (as := [.int (xs 1), .int (xs 2), .int (xs 3)]) rfl rfl (show (SH1 404).1 = 12 by decide +kernel) rfl (by decide) rfl rfl ?_
      refine dw_enter rfl ?_
      refine rB_X12_spell (fun B hB => ?_)
      refine hB _ _ _ _ _ _ ?_
      refine dw_okV (a := 404) rfl rfl (show (SH1 404).1 = 12 by decide +kernel) rfl (by decide) rfl rfl ?_
      refine dw_enter rfl ?_
      refine rB_X12_asks (fun B hB => ?_)
      refine hB _ _ _ _ _ _ ?_
      refine dw_okV (a := 404) rfl rfl (show (SH1 404).1 = 12 by decide +kernel) rfl (by decide) rfl rfl ?_
      refine dw_enter rfl ?_
      refine rB_X12_isNight (fun B hB => ?_)
      refine hB _ _ _ _ _ _ ?_
      refine dw_okS rfl rfl rfl (by decide) rfl rfl ?_
      refine dw_enter rfl ?_
      refine rB_X12_isIn (fun B hB => ?_)
      refine dw_itp n0 ?_
      refine rB_X12_isNight (fun B hB => ?_)
      refine rB_X12_asks (fun B hB => ?_)
      refine rB_X12_spell (fun B hB => ?_)
      refine rB_law (fun B hB => ?_)
      refine hB _ _ _ _ _ _ ?_
      exact law_z
    · refine dw_ite (fun h32 => ?_) (fun h32 => ?_)
      · refine rB_X11_spell (fun B hB => ?_)
        refine rB_law (fun B hB => ?_)
        refine hB _ _ _ _ _ _ ?_
        refine dw_okV (a := 404) (as := [.int (xs 1), .int (xs 2), .int (xs 3)]) rfl rfl (show (SH1 404).1 = 12 by decide +kernel) rfl (by decide) rfl rfl ?_
        refine dw_enter rfl ?_
        refine rB_X12_spell (fun B hB => ?_)
        refine hB _ _ _ _ _ _ ?_
        refine dw_okV (a := 404) rfl rfl (show (SH1 404).1 = 12 by decide +kernel) rfl (by decide) rfl rfl ?_
        refine dw_enter rfl ?_
        refine rB_X12_asks (fun B hB => ?_)
        refine hB _ _ _ _ _ _ ?_
        refine dw_okV (a := 404) rfl rfl (show (SH1 404).1 = 12 by decide +kernel) rfl (by decide) rfl rfl ?_
        refine dw_enter rfl ?_
        refine rB_X12_isNight (fun B hB => ?_)
        refine hB _ _ _ _ _ _ ?_
        refine dw_okS rfl rfl rfl (by decide) rfl rfl ?_
        refine dw_enter rfl ?_
        refine rB_X12_isIn (fun B hB => ?_)
        refine dw_itp n0 ?_
        refine rB_X12_isNight (fun B hB => ?_)
        refine rB_X12_asks (fun B hB => ?_)
        refine rB_X12_spell (fun B hB => ?_)
        refine rB_law (fun B hB => ?_)
        refine hB _ _ _ _ _ _ ?_
        exact law_z
      · refine dw_ite (fun h33 => ?_) (fun h33 => ?_)
        · refine rB_X11_spell (fun B hB => ?_)
          refine rB_law (fun B hB => ?_)
          refine hB _ _ _ _ _ _ ?_
          refine dw_okV (a := 404) (as := [.int (xs 1), .int (xs 2), .int (xs 3)]) rfl rfl (show (SH1 404).1 = 12 by decide +kernel) rfl (by decide) rfl rfl ?_
          refine dw_enter rfl ?_
          refine rB_X12_spell (fun B hB => ?_)
          refine hB _ _ _ _ _ _ ?_
          refine dw_okV (a := 404) rfl rfl (show (SH1 404).1 = 12 by decide +kernel) rfl (by decide) rfl rfl ?_
          refine dw_enter rfl ?_
          refine rB_X12_asks (fun B hB => ?_)
          refine hB _ _ _ _ _ _ ?_
          refine dw_okV (a := 404) rfl rfl (show (SH1 404).1 = 12 by decide +kernel) rfl (by decide) rfl rfl ?_
          refine dw_enter rfl ?_
          refine rB_X12_isNight (fun B hB => ?_)
          refine hB _ _ _ _ _ _ ?_
          refine dw_okS rfl rfl rfl (by decide) rfl rfl ?_
          refine dw_enter rfl ?_
          refine rB_X12_isIn (fun B hB => ?_)
          refine dw_itp n0 ?_
          refine rB_X12_isNight (fun B hB => ?_)
          refine rB_X12_asks (fun B hB => ?_)
          refine rB_X12_spell (fun B hB => ?_)
          refine rB_law (fun B hB => ?_)
          refine hB _ _ _ _ _ _ ?_
          exact law_z
        · refine dw_ite (fun h34 => ?_) (fun h34 => ?_)
          · refine rB_X11_spell (fun B hB => ?_)
            refine rB_law (fun B hB => ?_)
            refine hB _ _ _ _ _ _ ?_
            refine dw_okV (a := 404) (as := [.int (xs 1), .int (xs 2), .int (xs 3)]) rfl rfl (show (SH1 404).1 = 12 by decide +kernel) rfl (by decide) rfl rfl ?_
            refine dw_enter rfl ?_
            refine rB_X12_spell (fun B hB => ?_)
            refine hB _ _ _ _ _ _ ?_
            refine dw_okV (a := 404) rfl rfl (show (SH1 404).1 = 12 by decide +kernel) rfl (by decide) rfl rfl ?_
            refine dw_enter rfl ?_
            refine rB_X12_asks (fun B hB => ?_)
            refine hB _ _ _ _ _ _ ?_
            refine dw_okV (a := 404) rfl rfl (show (SH1 404).1 = 12 by decide +kernel) rfl (by decide) rfl rfl ?_
            refine dw_enter rfl ?_
            refine rB_X12_isNight (fun B hB => ?_)
            refine hB _ _ _ _ _ _ ?_
            refine dw_okS rfl rfl rfl (by decide) rfl rfl ?_
            refine dw_enter rfl ?_
            refine rB_X12_isIn (fun B hB => ?_)
            refine dw_itp n0 ?_
            refine rB_X12_isNight (fun B hB => ?_)
            refine rB_X12_asks (fun B hB => ?_)
            refine rB_X12_spell (fun B hB => ?_)
            refine rB_law (fun B hB => ?_)
            refine hB _ _ _ _ _ _ ?_
            exact law_z
          · refine rB_X11_spell (fun B hB => ?_)
            refine dw_ite (fun h35 => ?_) (fun h35 => ?_)
            · refine rB_law (fun B hB => ?_)
              refine hB _ _ _ _ _ _ ?_
              refine dw_okV (a := 404) (as := [.int (xs 1), .int (xs 2), .int (xs 3)]) rfl rfl (show (SH1 404).1 = 12 by decide +kernel) rfl (by decide) rfl rfl ?_
              refine dw_enter rfl ?_
              refine rB_X12_spell (fun B hB => ?_)
              refine hB _ _ _ _ _ _ ?_
              refine dw_okV (a := 404) rfl rfl (show (SH1 404).1 = 12 by decide +kernel) rfl (by decide) rfl rfl ?_
              refine dw_enter rfl ?_
              refine rB_X12_asks (fun B hB => ?_)
              refine hB _ _ _ _ _ _ ?_
              refine dw_okV (a := 404) rfl rfl (show (SH1 404).1 = 12 by decide +kernel) rfl (by decide) rfl rfl ?_
              refine dw_enter rfl ?_
              refine rB_X12_isNight (fun B hB => ?_)
              refine hB _ _ _ _ _ _ ?_
              refine dw_okS rfl rfl rfl (by decide) rfl rfl ?_
              refine dw_enter rfl ?_
              refine rB_X12_isIn (fun B hB => ?_)
              refine dw_itp n0 ?_
              refine rB_X12_isNight (fun B hB => ?_)
              refine rB_X12_asks (fun B hB => ?_)
              refine rB_X12_spell (fun B hB => ?_)
              refine rB_law (fun B hB => ?_)
              refine hB _ _ _ _ _ _ ?_
              exact law_z
            · refine hB _ _ _ _ _ _ ?_
              refine dw_okV (a := 0) rfl rfl (show (SH1 0).1 = 11 by decide +kernel) rfl (by decide) rfl rfl ?_
              refine dw_enter rfl ?_
              refine rB_X11_watched (fun B hB => ?_)
              refine hB _ _ _ _ _ _ ?_
              refine dw_okV (a := 0) rfl rfl (show (SH1 0).1 = 11 by decide +kernel) rfl (by decide) rfl rfl ?_
              refine dw_enter rfl ?_
              refine rB_X11_start (fun B hB => ?_)
              refine hB _ _ _ _ _ _ ?_
              refine dw_okV (a := 3) rfl rfl (show (SH1 3).1 = 8 by decide +kernel) rfl (by decide) rfl rfl ?_
              refine dw_enter rfl ?_
              refine rB_X8_nightOf (fun B hB => ?_)
              refine dw_itp n0 ?_
              refine rB_X11_start (fun B hB => ?_)
              refine rB_X11_watched (fun B hB => ?_)
              refine rB_X11_spell (fun B hB => ?_)
              refine rB_law (fun B hB => ?_)
              refine hB _ _ _ _ _ _ ?_
              refine dw_okV (a := 404) (as := [.int (xs 1), .int (xs 2), .int (xs 3)]) rfl rfl (show (SH1 404).1 = 12 by decide +kernel) rfl (by decide) rfl rfl ?_
              refine dw_enter rfl ?_
              refine rB_X12_spell (fun B hB => ?_)
              refine hB _ _ _ _ _ _ ?_
              refine dw_okV (a := 404) rfl rfl (show (SH1 404).1 = 12 by decide +kernel) rfl (by decide) rfl rfl ?_
              refine dw_enter rfl ?_
              refine rB_X12_asks (fun B hB => ?_)
              refine hB _ _ _ _ _ _ ?_
              refine dw_okV (a := 404) rfl rfl (show (SH1 404).1 = 12 by decide +kernel) rfl (by decide) rfl rfl ?_
              refine dw_enter rfl ?_
              refine rB_X12_isNight (fun B hB => ?_)
              refine hB _ _ _ _ _ _ ?_
              refine dw_okS rfl rfl rfl (by decide) rfl rfl ?_
              refine dw_enter rfl ?_
              refine rB_X12_isIn (fun B hB => ?_)
              refine dw_itp n0 ?_
              refine rB_X12_isNight (fun B hB => ?_)
              refine rB_X12_asks (fun B hB => ?_)
              refine rB_X12_spell (fun B hB => ?_)
              refine rB_law (fun B hB => ?_)
              refine hB _ _ _ _ _ _ ?_
              exact law_z
  · refine rB_law (fun B hB => ?_)
    refine hB _ _ _ _ _ _ ?_
    refine dw_okV (a := 0) (as := [.int (xs 1), .int (xs 2), .int (xs 3)]) rfl rfl (show (SH1 0).1 = 11 by decide +kernel) rfl (by decide) rfl rfl ?_
    refine dw_enter rfl ?_
    refine rB_X11_spell (fun B hB => ?_)
    refine hB _ _ _ _ _ _ ?_
    refine dw_okV (a := 4) rfl rfl (show (SH1 4).1 = 0 by decide +kernel) rfl (by decide) rfl rfl ?_
    refine dw_enter rfl ?_
    refine rB_X0_cellAt (fun B hB => ?_)
    refine dw_ite (fun h36 => ?_) (fun h36 => ?_)
    · refine rB_X11_spell (fun B hB => ?_)
      refine rB_law (fun B hB => ?_)
      refine hB _ _ _ _ _ _ ?_
      refine dw_okV (a := 404) (as := [.int (xs 1), .int (xs 2), .int (xs 3)]) rfl rfl (show (SH1 404).1 = 12 by decide +kernel) rfl (by decide) rfl rfl ?_
      refine dw_enter rfl ?_
      refine rB_X12_spell (fun B hB => ?_)
      refine hB _ _ _ _ _ _ ?_
      refine dw_okV (a := 404) rfl rfl (show (SH1 404).1 = 12 by decide +kernel) rfl (by decide) rfl rfl ?_
      refine dw_enter rfl ?_
      refine rB_X12_asks (fun B hB => ?_)
      refine hB _ _ _ _ _ _ ?_
      refine dw_okV (a := 404) rfl rfl (show (SH1 404).1 = 12 by decide +kernel) rfl (by decide) rfl rfl ?_
      refine dw_enter rfl ?_
      refine rB_X12_isNight (fun B hB => ?_)
      refine hB _ _ _ _ _ _ ?_
      refine dw_okS rfl rfl rfl (by decide) rfl rfl ?_
      refine dw_enter rfl ?_
      refine rB_X12_isIn (fun B hB => ?_)
      refine dw_itn n1 ?_
      refine dw_itp n2 ?_
      refine rB_X12_isNight (fun B hB => ?_)
      refine rB_X12_asks (fun B hB => ?_)
      refine rB_X12_spell (fun B hB => ?_)
      refine rB_law (fun B hB => ?_)
      refine hB _ _ _ _ _ _ ?_
      exact law_z
    · refine dw_ite (fun h37 => ?_) (fun h37 => ?_)
      · refine rB_X11_spell (fun B hB => ?_)
        refine rB_law (fun B hB => ?_)
        refine hB _ _ _ _ _ _ ?_
        refine dw_okV (a := 404) (as := [.int (xs 1), .int (xs 2), .int (xs 3)]) rfl rfl (show (SH1 404).1 = 12 by decide +kernel) rfl (by decide) rfl rfl ?_
        refine dw_enter rfl ?_
        refine rB_X12_spell (fun B hB => ?_)
        refine hB _ _ _ _ _ _ ?_
        refine dw_okV (a := 404) rfl rfl (show (SH1 404).1 = 12 by decide +kernel) rfl (by decide) rfl rfl ?_
        refine dw_enter rfl ?_
        refine rB_X12_asks (fun B hB => ?_)
        refine hB _ _ _ _ _ _ ?_
        refine dw_okV (a := 404) rfl rfl (show (SH1 404).1 = 12 by decide +kernel) rfl (by decide) rfl rfl ?_
        refine dw_enter rfl ?_
        refine rB_X12_isNight (fun B hB => ?_)
        refine hB _ _ _ _ _ _ ?_
        refine dw_okS rfl rfl rfl (by decide) rfl rfl ?_
        refine dw_enter rfl ?_
        refine rB_X12_isIn (fun B hB => ?_)
        refine dw_itn n1 ?_
        refine dw_itp n2 ?_
        refine rB_X12_isNight (fun B hB => ?_)
        refine rB_X12_asks (fun B hB => ?_)
        refine rB_X12_spell (fun B hB => ?_)
        refine rB_law (fun B hB => ?_)
        refine hB _ _ _ _ _ _ ?_
        exact law_z
      · refine dw_ite (fun h38 => ?_) (fun h38 => ?_)
        · refine rB_X11_spell (fun B hB => ?_)
          refine rB_law (fun B hB => ?_)
          refine hB _ _ _ _ _ _ ?_
          refine dw_okV (a := 404) (as := [.int (xs 1), .int (xs 2), .int (xs 3)]) rfl rfl (show (SH1 404).1 = 12 by decide +kernel) rfl (by decide) rfl rfl ?_
          refine dw_enter rfl ?_
          refine rB_X12_spell (fun B hB => ?_)
          refine hB _ _ _ _ _ _ ?_
          refine dw_okV (a := 404) rfl rfl (show (SH1 404).1 = 12 by decide +kernel) rfl (by decide) rfl rfl ?_
          refine dw_enter rfl ?_
          refine rB_X12_asks (fun B hB => ?_)
          refine hB _ _ _ _ _ _ ?_
          refine dw_okV (a := 404) rfl rfl (show (SH1 404).1 = 12 by decide +kernel) rfl (by decide) rfl rfl ?_
          refine dw_enter rfl ?_
          refine rB_X12_isNight (fun B hB => ?_)
          refine hB _ _ _ _ _ _ ?_
          refine dw_okS rfl rfl rfl (by decide) rfl rfl ?_
          refine dw_enter rfl ?_
          refine rB_X12_isIn (fun B hB => ?_)
          refine dw_itn n1 ?_
          refine dw_itp n2 ?_
          refine rB_X12_isNight (fun B hB => ?_)
          refine rB_X12_asks (fun B hB => ?_)
          refine rB_X12_spell (fun B hB => ?_)
          refine rB_law (fun B hB => ?_)
          refine hB _ _ _ _ _ _ ?_
          exact law_z
        · refine dw_ite (fun h39 => ?_) (fun h39 => ?_)
          · refine rB_X11_spell (fun B hB => ?_)
            refine rB_law (fun B hB => ?_)
            refine hB _ _ _ _ _ _ ?_
            refine dw_okV (a := 404) (as := [.int (xs 1), .int (xs 2), .int (xs 3)]) rfl rfl (show (SH1 404).1 = 12 by decide +kernel) rfl (by decide) rfl rfl ?_
            refine dw_enter rfl ?_
            refine rB_X12_spell (fun B hB => ?_)
            refine hB _ _ _ _ _ _ ?_
            refine dw_okV (a := 404) rfl rfl (show (SH1 404).1 = 12 by decide +kernel) rfl (by decide) rfl rfl ?_
            refine dw_enter rfl ?_
            refine rB_X12_asks (fun B hB => ?_)
            refine hB _ _ _ _ _ _ ?_
            refine dw_okV (a := 404) rfl rfl (show (SH1 404).1 = 12 by decide +kernel) rfl (by decide) rfl rfl ?_
            refine dw_enter rfl ?_
            refine rB_X12_isNight (fun B hB => ?_)
            refine hB _ _ _ _ _ _ ?_
            refine dw_okS rfl rfl rfl (by decide) rfl rfl ?_
            refine dw_enter rfl ?_
            refine rB_X12_isIn (fun B hB => ?_)
            refine dw_itn n1 ?_
            refine dw_itp n2 ?_
            refine rB_X12_isNight (fun B hB => ?_)
            refine rB_X12_asks (fun B hB => ?_)
            refine rB_X12_spell (fun B hB => ?_)
            refine rB_law (fun B hB => ?_)
            refine hB _ _ _ _ _ _ ?_
            exact law_z
          · refine rB_X11_spell (fun B hB => ?_)
            refine dw_ite (fun h40 => ?_) (fun h40 => ?_)
            · refine rB_law (fun B hB => ?_)
              refine hB _ _ _ _ _ _ ?_
              refine dw_okV (a := 404) (as := [.int (xs 1), .int (xs 2), .int (xs 3)]) rfl rfl (show (SH1 404).1 = 12 by decide +kernel) rfl (by decide) rfl rfl ?_
              refine dw_enter rfl ?_
              refine rB_X12_spell (fun B hB => ?_)
              refine hB _ _ _ _ _ _ ?_
              refine dw_okV (a := 404) rfl rfl (show (SH1 404).1 = 12 by decide +kernel) rfl (by decide) rfl rfl ?_
              refine dw_enter rfl ?_
              refine rB_X12_asks (fun B hB => ?_)
              refine hB _ _ _ _ _ _ ?_
              refine dw_okV (a := 404) rfl rfl (show (SH1 404).1 = 12 by decide +kernel) rfl (by decide) rfl rfl ?_
              refine dw_enter rfl ?_
              refine rB_X12_isNight (fun B hB => ?_)
              refine hB _ _ _ _ _ _ ?_
              refine dw_okS rfl rfl rfl (by decide) rfl rfl ?_
              refine dw_enter rfl ?_
              refine rB_X12_isIn (fun B hB => ?_)
              refine dw_itn n1 ?_
              refine dw_itp n2 ?_
              refine rB_X12_isNight (fun B hB => ?_)
              refine rB_X12_asks (fun B hB => ?_)
              refine rB_X12_spell (fun B hB => ?_)
              refine rB_law (fun B hB => ?_)
              refine hB _ _ _ _ _ _ ?_
              exact law_z
            · refine hB _ _ _ _ _ _ ?_
              refine dw_okV (a := 0) rfl rfl (show (SH1 0).1 = 11 by decide +kernel) rfl (by decide) rfl rfl ?_
              refine dw_enter rfl ?_
              refine rB_X11_watched (fun B hB => ?_)
              refine hB _ _ _ _ _ _ ?_
              refine dw_okV (a := 0) rfl rfl (show (SH1 0).1 = 11 by decide +kernel) rfl (by decide) rfl rfl ?_
              refine dw_enter rfl ?_
              refine rB_X11_start (fun B hB => ?_)
              refine hB _ _ _ _ _ _ ?_
              refine dw_okV (a := 3) rfl rfl (show (SH1 3).1 = 8 by decide +kernel) rfl (by decide) rfl rfl ?_
              refine dw_enter rfl ?_
              refine rB_X8_nightOf (fun B hB => ?_)
              refine dw_itn n1 ?_
              refine dw_itp n3 ?_
              refine rB_X11_start (fun B hB => ?_)
              refine rB_X11_watched (fun B hB => ?_)
              refine rB_X11_spell (fun B hB => ?_)
              refine rB_law (fun B hB => ?_)
              refine hB _ _ _ _ _ _ ?_
              refine dw_okV (a := 404) (as := [.int (xs 1), .int (xs 2), .int (xs 3)]) rfl rfl (show (SH1 404).1 = 12 by decide +kernel) rfl (by decide) rfl rfl ?_
              refine dw_enter rfl ?_
              refine rB_X12_spell (fun B hB => ?_)
              refine hB _ _ _ _ _ _ ?_
              refine dw_okV (a := 404) rfl rfl (show (SH1 404).1 = 12 by decide +kernel) rfl (by decide) rfl rfl ?_
              refine dw_enter rfl ?_
              refine rB_X12_asks (fun B hB => ?_)
              refine hB _ _ _ _ _ _ ?_
              refine dw_okV (a := 404) rfl rfl (show (SH1 404).1 = 12 by decide +kernel) rfl (by decide) rfl rfl ?_
              refine dw_enter rfl ?_
              refine rB_X12_isNight (fun B hB => ?_)
              refine hB _ _ _ _ _ _ ?_
              refine dw_okS rfl rfl rfl (by decide) rfl rfl ?_
              refine dw_enter rfl ?_
              refine rB_X12_isIn (fun B hB => ?_)
              refine dw_itn n1 ?_
              refine dw_itp n2 ?_
              refine rB_X12_isNight (fun B hB => ?_)
              refine rB_X12_asks (fun B hB => ?_)
              refine rB_X12_spell (fun B hB => ?_)
              refine rB_law (fun B hB => ?_)
              refine hB _ _ _ _ _ _ ?_
              exact law_z
