set_option maxHeartbeats 2000000 in
set_option maxRecDepth 20000 in
theorem law_c34 {xs : Nat → Int32} : dw_ok (pr_law 6 xs) 1640 599567 7247295 (dw_l1 0 none none) [] (435, SH1, IN1, JN1) := by
  rcases dw_rng6 (xs 1) with hs | hs | hs | hs | hs | hs | ⟨n0, n1⟩ | ⟨n0, n1, n2, n3, n4, n5, n6⟩
  · refine rB_law (fun B hB => ?_)
    refine hB _ _ _ _ _ _ ?_
    refine dw_okV (a := 0) (as := [.int (xs 1), .int (xs 2), .int (xs 3), .int (xs 4), .int (xs 5)]) rfl rfl (show (SH1 0).1 = 11 by decide +kernel) rfl (by decide) rfl rfl ?_
    rw [hs]
    refine dw_enter rfl ?_
    refine rB_X11_part (fun B hB => ?_)
    refine hB _ _ _ _ _ _ ?_
    refine dw_okV (a := 4) rfl rfl (show (SH1 4).1 = 0 by decide +kernel) rfl (by decide) rfl rfl ?_
    refine dw_enter rfl ?_
    refine rB_X0_cellAt (fun B hB => ?_)
    refine dw_ite (fun h1 => ?_) (fun h1 => ?_)
    · refine rB_X11_part (fun B hB => ?_)
      refine rB_law (fun B hB => ?_)
      refine hB _ _ _ _ _ _ ?_
      refine dw_okV (a := 404) (as := [.int (xs 1), .int (xs 2), .int (xs 3), .int (xs 4), .int (xs 5)]) rfl rfl (show (SH1 404).1 = 12 by decide +kernel) rfl (by decide) rfl rfl ?_
      rw [hs]
      refine dw_enter rfl ?_
      refine rB_X12_part (fun B hB => ?_)
      refine hB _ _ _ _ _ _ ?_
      refine dw_okV (a := 404) rfl rfl (show (SH1 404).1 = 12 by decide +kernel) rfl (by decide) rfl rfl ?_
      refine dw_enter rfl ?_
      refine rB_X12_isNight (fun B hB => ?_)
      refine hB _ _ _ _ _ _ ?_
      refine dw_okS rfl rfl rfl (by decide) rfl rfl ?_
      refine dw_enter rfl ?_
      refine rB_X12_isIn (fun B hB => ?_)
      refine rB_X12_isNight (fun B hB => ?_)
      refine rB_X12_part (fun B hB => ?_)
      refine rB_law (fun B hB => ?_)
      refine hB _ _ _ _ _ _ ?_
      exact law_z
    · refine dw_ite (fun h2 => ?_) (fun h2 => ?_)
      · refine rB_X11_part (fun B hB => ?_)
        refine rB_law (fun B hB => ?_)
        refine hB _ _ _ _ _ _ ?_
        refine dw_okV (a := 404) (as := [.int (xs 1), .int (xs 2), .int (xs 3), .int (xs 4), .int (xs 5)]) rfl rfl (show (SH1 404).1 = 12 by decide +kernel) rfl (by decide) rfl rfl ?_
        rw [hs]
        refine dw_enter rfl ?_
        refine rB_X12_part (fun B hB => ?_)
        refine hB _ _ _ _ _ _ ?_
        refine dw_okV (a := 404) rfl rfl (show (SH1 404).1 = 12 by decide +kernel) rfl (by decide) rfl rfl ?_
        refine dw_enter rfl ?_
        refine rB_X12_isNight (fun B hB => ?_)
        refine hB _ _ _ _ _ _ ?_
        refine dw_okS rfl rfl rfl (by decide) rfl rfl ?_
        refine dw_enter rfl ?_
        refine rB_X12_isIn (fun B hB => ?_)
        refine rB_X12_isNight (fun B hB => ?_)
        refine rB_X12_part (fun B hB => ?_)
        refine rB_law (fun B hB => ?_)
        refine hB _ _ _ _ _ _ ?_
        exact law_z
      · refine dw_ite (fun h3 => ?_) (fun h3 => ?_)
        · refine rB_X11_part (fun B hB => ?_)
          refine rB_law (fun B hB => ?_)
          refine hB _ _ _ _ _ _ ?_
          refine dw_okV (a := 404) (as := [.int (xs 1), .int (xs 2), .int (xs 3), .int (xs 4), .int (xs 5)]) rfl rfl (show (SH1 404).1 = 12 by decide +kernel) rfl (by decide) rfl rfl ?_
          rw [hs]
          refine dw_enter rfl ?_
          refine rB_X12_part (fun B hB => ?_)
          refine hB _ _ _ _ _ _ ?_
          refine dw_okV (a := 404) rfl rfl (show (SH1 404).1 = 12 by decide +kernel) rfl (by decide) rfl rfl ?_
          refine dw_enter rfl ?_
          refine rB_X12_isNight (fun B hB => ?_)
          refine hB _ _ _ _ _ _ ?_
          refine dw_okS rfl rfl rfl (by decide) rfl rfl ?_
          refine dw_enter rfl ?_
          refine rB_X12_isIn (fun B hB => ?_)
          refine rB_X12_isNight (fun B hB => ?_)
          refine rB_X12_part (fun B hB => ?_)
          refine rB_law (fun B hB => ?_)
          refine hB _ _ _ _ _ _ ?_
          exact law_z
        · refine dw_ite (fun h4 => ?_) (fun h4 => ?_)
          · refine rB_X11_part (fun B hB => ?_)
            refine rB_law (fun B hB => ?_)
            refine hB _ _ _ _ _ _ ?_
            refine dw_okV (a := 404) (as := [.int (xs 1), .int (xs 2), .int (xs 3), .int (xs 4), .int (xs 5)]) rfl rfl (show (SH1 404).1 = 12 by decide +kernel) rfl (by decide) rfl rfl ?_
            rw [hs]
            refine dw_enter rfl ?_
            refine rB_X12_part (fun B hB => ?_)
            refine hB _ _ _ _ _ _ ?_
            refine dw_okV (a := 404) rfl rfl (show (SH1 404).1 = 12 by decide +kernel) rfl (by decide) rfl rfl ?_
            refine dw_enter rfl ?_
            refine rB_X12_isNight (fun B hB => ?_)
            refine hB _ _ _ _ _ _ ?_
            refine dw_okS rfl rfl rfl (by decide) rfl rfl ?_
            refine dw_enter rfl ?_
            refine rB_X12_isIn (fun B hB => ?_)
            refine rB_X12_isNight (fun B hB => ?_)
            refine rB_X12_part (fun B hB => ?_)
            refine rB_law (fun B hB => ?_)
            refine hB _ _ _ _ _ _ ?_
            exact law_z
          · refine rB_X11_part (fun B hB => ?_)
            refine dw_ite (fun h5 => ?_) (fun h5 => ?_)
            · refine rB_law (fun B hB => ?_)
              refine hB _ _ _ _ _ _ ?_
              refine dw_okV (a := 404) (as := [.int (xs 1), .int (xs 2), .int (xs 3), .int (xs 4), .int (xs 5)]) rfl rfl (show (SH1 404).1 = 12 by decide +kernel) rfl (by decide) rfl rfl ?_
              rw [hs]
              refine dw_enter rfl ?_
              refine rB_X12_part (fun B hB => ?_)
              refine hB _ _ _ _ _ _ ?_
              refine dw_okV (a := 404) rfl rfl (show (SH1 404).1 = 12 by decide +kernel) rfl (by decide) rfl rfl ?_
              refine dw_enter rfl ?_
              refine rB_X12_isNight (fun B hB => ?_)
              refine hB _ _ _ _ _ _ ?_
              refine dw_okS rfl rfl rfl (by decide) rfl rfl ?_
              refine dw_enter rfl ?_
              refine rB_X12_isIn (fun B hB => ?_)
              refine rB_X12_isNight (fun B hB => ?_)
              refine rB_X12_part (fun B hB => ?_)
              refine rB_law (fun B hB => ?_)
              refine hB _ _ _ _ _ _ ?_
              exact law_z
            · refine hB _ _ _ _ _ _ ?_
              refine dw_okS rfl rfl rfl (by decide) rfl rfl ?_
              refine dw_enter rfl ?_
              refine rB_X11_isStory (fun B hB => ?_)
              refine dw_ite (fun h6 => ?_) (fun h6 => ?_)
              · refine rB_X11_part (fun B hB => ?_)
                refine rB_law (fun B hB => ?_)
                refine hB _ _ _ _ _ _ ?_
                refine dw_okV (a := 404) (as := [.int (xs 1), .int (xs 2), .int (xs 3), .int (xs 4), .int (xs 5)]) rfl rfl (show (SH1 404).1 = 12 by decide +kernel) rfl (by decide) rfl rfl ?_
                rw [hs]
                refine dw_enter rfl ?_
                refine rB_X12_part (fun B hB => ?_)
                refine hB _ _ _ _ _ _ ?_
                refine dw_okV (a := 404) rfl rfl (show (SH1 404).1 = 12 by decide +kernel) rfl (by decide) rfl rfl ?_
                refine dw_enter rfl ?_
                refine rB_X12_isNight (fun B hB => ?_)
                refine hB _ _ _ _ _ _ ?_
                refine dw_okS rfl rfl rfl (by decide) rfl rfl ?_
                refine dw_enter rfl ?_
                refine rB_X12_isIn (fun B hB => ?_)
                refine rB_X12_isNight (fun B hB => ?_)
                refine rB_X12_part (fun B hB => ?_)
                refine rB_law (fun B hB => ?_)
                refine hB _ _ _ _ _ _ ?_
                exact law_z
              · refine dw_ite (fun h7 => ?_) (fun h7 => ?_)
                · refine rB_X11_part (fun B hB => ?_)
                  refine rB_law (fun B hB => ?_)
                  refine hB _ _ _ _ _ _ ?_
                  refine dw_okV (a := 404) (as := [.int (xs 1), .int (xs 2), .int (xs 3), .int (xs 4), .int (xs 5)]) rfl rfl (show (SH1 404).1 = 12 by decide +kernel) rfl (by decide) rfl rfl ?_
                  rw [hs]
                  refine dw_enter rfl ?_
                  refine rB_X12_part (fun B hB => ?_)
                  refine hB _ _ _ _ _ _ ?_
                  refine dw_okV (a := 404) rfl rfl (show (SH1 404).1 = 12 by decide +kernel) rfl (by decide) rfl rfl ?_
                  refine dw_enter rfl ?_
                  refine rB_X12_isNight (fun B hB => ?_)
                  refine hB _ _ _ _ _ _ ?_
                  refine dw_okS rfl rfl rfl (by decide) rfl rfl ?_
                  refine dw_enter rfl ?_
                  refine rB_X12_isIn (fun B hB => ?_)
                  refine rB_X12_isNight (fun B hB => ?_)
                  refine rB_X12_part (fun B hB => ?_)
                  refine rB_law (fun B hB => ?_)
                  refine hB _ _ _ _ _ _ ?_
                  exact law_z
                · refine rB_X11_part (fun B hB => ?_)
                  refine hB _ _ _ _ _ _ ?_
                  refine dw_okS rfl rfl rfl (by decide) rfl rfl ?_
                  refine dw_enter rfl ?_
                  refine rB_X11_isStory (fun B hB => ?_)
                  refine dw_ite (fun h8 => ?_) (fun h8 => ?_)
                  · refine rB_X11_part (fun B hB => ?_)
                    refine rB_law (fun B hB => ?_)
                    refine hB _ _ _ _ _ _ ?_
                    refine dw_okV (a := 404) (as := [.int (xs 1), .int (xs 2), .int (xs 3), .int (xs 4), .int (xs 5)]) rfl rfl (show (SH1 404).1 = 12 by decide +kernel) rfl (by decide) rfl rfl ?_
                    rw [hs]
                    refine dw_enter rfl ?_
                    refine rB_X12_part (fun B hB => ?_)
                    refine hB _ _ _ _ _ _ ?_
                    refine dw_okV (a := 404) rfl rfl (show (SH1 404).1 = 12 by decide +kernel) rfl (by decide) rfl rfl ?_
                    refine dw_enter rfl ?_
                    refine rB_X12_isNight (fun B hB => ?_)
                    refine hB _ _ _ _ _ _ ?_
                    refine dw_okS rfl rfl rfl (by decide) rfl rfl ?_
                    refine dw_enter rfl ?_
                    refine rB_X12_isIn (fun B hB => ?_)
                    refine rB_X12_isNight (fun B hB => ?_)
                    refine rB_X12_part (fun B hB => ?_)
                    refine rB_law (fun B hB => ?_)
                    refine hB _ _ _ _ _ _ ?_
                    exact law_z
                  · refine dw_ite (fun h9 => ?_) (fun h9 => ?_)
                    · refine rB_X11_part (fun B hB => ?_)
                      refine rB_law (fun B hB => ?_)
                      refine hB _ _ _ _ _ _ ?_
                      refine dw_okV (a := 404) (as := [.int (xs 1), .int (xs 2), .int (xs 3), .int (xs 4), .int (xs 5)]) rfl rfl (show (SH1 404).1 = 12 by decide +kernel) rfl (by decide) rfl rfl ?_
                      rw [hs]
                      refine dw_enter rfl ?_
                      refine rB_X12_part (fun B hB => ?_)
                      refine hB _ _ _ _ _ _ ?_
                      refine dw_okV (a := 404) rfl rfl (show (SH1 404).1 = 12 by decide +kernel) rfl (by decide) rfl rfl ?_
                      refine dw_enter rfl ?_
                      refine rB_X12_isNight (fun B hB => ?_)
                      refine hB _ _ _ _ _ _ ?_
                      refine dw_okS rfl rfl rfl (by decide) rfl rfl ?_
                      refine dw_enter rfl ?_
                      refine rB_X12_isIn (fun B hB => ?_)
                      refine rB_X12_isNight (fun B hB => ?_)
                      refine rB_X12_part (fun B hB => ?_)
                      refine rB_law (fun B hB => ?_)
                      refine hB _ _ _ _ _ _ ?_
                      exact law_z
                    · refine rB_X11_part (fun B hB => ?_)
                      refine hB _ _ _ _ _ _ ?_
                      refine dw_okV (a := 0) rfl rfl (show (SH1 0).1 = 11 by decide +kernel) rfl (by decide) rfl rfl ?_
                      refine dw_enter rfl ?_
                      refine rB_X11_start (fun B hB => ?_)
                      refine hB _ _ _ _ _ _ ?_
                      refine dw_okV (a := 3) rfl rfl (show (SH1 3).1 = 8 by decide +kernel) rfl (by decide) rfl rfl ?_
                      refine dw_enter rfl ?_
                      refine rB_X8_nightOf (fun B hB => ?_)
                      refine rB_X11_start (fun B hB => ?_)
                      refine (fun (_ : _ ∨ _) => ?_)
                      refine rB_X11_part (fun B hB => ?_)
                      refine rB_law (fun B hB => ?_)
                      refine hB _ _ _ _ _ _ ?_
                      refine dw_okV (a := 404) (as := [.int (xs 1), .int (xs 2), .int (xs 3), .int (xs 4), .int (xs 5)]) rfl rfl (show (SH1 404).1 = 12 by decide +kernel) rfl (by decide) rfl rfl ?_
                      rw [hs]
                      refine dw_enter rfl ?_
                      refine rB_X12_part (fun B hB => ?_)
                      refine hB _ _ _ _ _ _ ?_
                      refine dw_okV (a := 404) rfl rfl (show (SH1 404).1 = 12 by decide +kernel) rfl (by decide) rfl rfl ?_
                      refine dw_enter rfl ?_
                      refine rB_X12_isNight (fun B hB => ?_)
                      refine hB _ _ _ _ _ _ ?_
                      refine dw_okS rfl rfl rfl (by decide) rfl rfl ?_
                      refine dw_enter rfl ?_
                      refine rB_X12_isIn (fun B hB => ?_)
                      refine rB_X12_isNight (fun B hB => ?_)
                      refine rB_X12_part (fun B hB => ?_)
                      refine rB_law (fun B hB => ?_)
                      refine hB _ _ _ _ _ _ ?_
                      exact law_z
  · refine rB_law (fun B hB => ?_)
    refine hB _ _ _ _ _ _ ?_
    refine dw_okV (a := 0) (as := [.int (xs 1), .int (xs 2), .int (xs 3), .int (xs 4), .int (xs 5)]) rfl rfl (show (SH1 0).1 = 11 by decide +kernel) rfl (by decide) rfl rfl ?_
    rw [hs]
    refine dw_enter rfl ?_
    refine rB_X11_part (fun B hB => ?_)
    refine hB _ _ _ _ _ _ ?_
    refine dw_okV (a := 4) rfl rfl (show (SH1 4).1 = 0 by decide +kernel) rfl (by decide) rfl rfl ?_
    refine dw_enter rfl ?_
    refine rB_X0_cellAt (fun B hB => ?_)
    refine dw_ite (fun h10 => ?_) (fun h10 => ?_)
    · refine rB_X11_part (fun B hB => ?_)
      refine rB_law (fun B hB => ?_)
      refine hB _ _ _ _ _ _ ?_
      refine dw_okV (a := 404) (as := [.int (xs 1), .int (xs 2), .int (xs 3), .int (xs 4), .int (xs 5)]) rfl rfl (show (SH1 404).1 = 12 by decide +kernel) rfl (by decide) rfl rfl ?_
      rw [hs]
      refine dw_enter rfl ?_
      refine rB_X12_part (fun B hB => ?_)
      refine hB _ _ _ _ _ _ ?_
      refine dw_okV (a := 404) rfl rfl (show (SH1 404).1 = 12 by decide +kernel) rfl (by decide) rfl rfl ?_
      refine dw_enter rfl ?_
      refine rB_X12_isNight (fun B hB => ?_)
      refine hB _ _ _ _ _ _ ?_
      refine dw_okS rfl rfl rfl (by decide) rfl rfl ?_
      refine dw_enter rfl ?_
      refine rB_X12_isIn (fun B hB => ?_)
      refine rB_X12_isNight (fun B hB => ?_)
      refine rB_X12_part (fun B hB => ?_)
      refine rB_law (fun B hB => ?_)
      refine hB _ _ _ _ _ _ ?_
      exact law_z
    · refine dw_ite (fun h11 => ?_) (fun h11 => ?_)
      · refine rB_X11_part (fun B hB => ?_)
        refine rB_law (fun B hB => ?_)
        refine hB _ _ _ _ _ _ ?_
        refine dw_okV (a := 404) (as := [.int (xs 1), .int (xs 2), .int (xs 3), .int (xs 4), .int (xs 5)]) rfl rfl (show (SH1 404).1 = 12 by decide +kernel) rfl (by decide) rfl rfl ?_
        rw [hs]
        refine dw_enter rfl ?_
        refine rB_X12_part (fun B hB => ?_)
        refine hB _ _ _ _ _ _ ?_
        refine dw_okV (a := 404) rfl rfl (show (SH1 404).1 = 12 by decide +kernel) rfl (by decide) rfl rfl ?_
        refine dw_enter rfl ?_
        refine rB_X12_isNight (fun B hB => ?_)
        refine hB _ _ _ _ _ _ ?_
        refine dw_okS rfl rfl rfl (by decide) rfl rfl ?_
        refine dw_enter rfl ?_
        refine rB_X12_isIn (fun B hB => ?_)
        refine rB_X12_isNight (fun B hB => ?_)
        refine rB_X12_part (fun B hB => ?_)
        refine rB_law (fun B hB => ?_)
        refine hB _ _ _ _ _ _ ?_
        exact law_z
      · refine dw_ite (fun h12 => ?_) (fun h12 => ?_)
        · refine rB_X11_part (fun B hB => ?_)
          refine rB_law (fun B hB => ?_)
          refine hB _ _ _ _ _ _ ?_
          refine dw_okV (a := 404) (as := [.int (xs 1), .int (xs 2), .int (xs 3), .int (xs 4), .int (xs 5)]) rfl rfl (show (SH1 404).1 = 12 by decide +kernel) rfl (by decide) rfl rfl ?_
          rw [hs]
          refine dw_enter rfl ?_
          refine rB_X12_part (fun B hB => ?_)
          refine hB _ _ _ _ _ _ ?_
          refine dw_okV (a := 404) rfl rfl (show (SH1 404).1 = 12 by decide +kernel) rfl (by decide) rfl rfl ?_
          refine dw_enter rfl ?_
          refine rB_X12_isNight (fun B hB => ?_)
          refine hB _ _ _ _ _ _ ?_
          refine dw_okS rfl rfl rfl (by decide) rfl rfl ?_
          refine dw_enter rfl ?_
          refine rB_X12_isIn (fun B hB => ?_)
          refine rB_X12_isNight (fun B hB => ?_)
          refine rB_X12_part (fun B hB => ?_)
          refine rB_law (fun B hB => ?_)
          refine hB _ _ _ _ _ _ ?_
          exact law_z
        · refine dw_ite (fun h13 => ?_) (fun h13 => ?_)
          · refine rB_X11_part (fun B hB => ?_)
            refine rB_law (fun B hB => ?_)
            refine hB _ _ _ _ _ _ ?_
            refine dw_okV (a := 404) (as := [.int (xs 1), .int (xs 2), .int (xs 3), .int (xs 4), .int (xs 5)]) rfl rfl (show (SH1 404).1 = 12 by decide +kernel) rfl (by decide) rfl rfl ?_
            rw [hs]
            refine dw_enter rfl ?_
            refine rB_X12_part (fun B hB => ?_)
            refine hB _ _ _ _ _ _ ?_
            refine dw_okV (a := 404) rfl rfl (show (SH1 404).1 = 12 by decide +kernel) rfl (by decide) rfl rfl ?_
            refine dw_enter rfl ?_
            refine rB_X12_isNight (fun B hB => ?_)
            refine hB _ _ _ _ _ _ ?_
            refine dw_okS rfl rfl rfl (by decide) rfl rfl ?_
            refine dw_enter rfl ?_
            refine rB_X12_isIn (fun B hB => ?_)
            refine rB_X12_isNight (fun B hB => ?_)
            refine rB_X12_part (fun B hB => ?_)
            refine rB_law (fun B hB => ?_)
            refine hB _ _ _ _ _ _ ?_
            exact law_z
          · refine rB_X11_part (fun B hB => ?_)
            refine dw_ite (fun h14 => ?_) (fun h14 => ?_)
            · refine rB_law (fun B hB => ?_)
              refine hB _ _ _ _ _ _ ?_
              refine dw_okV (a := 404) (as := [.int (xs 1), .int (xs 2), .int (xs 3), .int (xs 4), .int (xs 5)]) rfl rfl (show (SH1 404).1 = 12 by decide +kernel) rfl (by decide) rfl rfl ?_
              rw [hs]
              refine dw_enter rfl ?_
              refine rB_X12_part (fun B hB => ?_)
              refine hB _ _ _ _ _ _ ?_
              refine dw_okV (a := 404) rfl rfl (show (SH1 404).1 = 12 by decide +kernel) rfl (by decide) rfl rfl ?_
              refine dw_enter rfl ?_
              refine rB_X12_isNight (fun B hB => ?_)
              refine hB _ _ _ _ _ _ ?_
              refine dw_okS rfl rfl rfl (by decide) rfl rfl ?_
              refine dw_enter rfl ?_
              refine rB_X12_isIn (fun B hB => ?_)
              refine rB_X12_isNight (fun B hB => ?_)
              refine rB_X12_part (fun B hB => ?_)
              refine rB_law (fun B hB => ?_)
              refine hB _ _ _ _ _ _ ?_
              exact law_z
            · refine hB _ _ _ _ _ _ ?_
              refine dw_okS rfl rfl rfl (by decide) rfl rfl ?_
              refine dw_enter rfl ?_
              refine rB_X11_isStory (fun B hB => ?_)
              refine dw_ite (fun h15 => ?_) (fun h15 => ?_)
              · refine rB_X11_part (fun B hB => ?_)
                refine rB_law (fun B hB => ?_)
                refine hB _ _ _ _ _ _ ?_
                refine dw_okV (a := 404) (as := [.int (xs 1), .int (xs 2), .int (xs 3), .int (xs 4), .int (xs 5)]) rfl rfl (show (SH1 404).1 = 12 by decide +kernel) rfl (by decide) rfl rfl ?_
                rw [hs]
                refine dw_enter rfl ?_
                refine rB_X12_part (fun B hB => ?_)
                refine hB _ _ _ _ _ _ ?_
                refine dw_okV (a := 404) rfl rfl (show (SH1 404).1 = 12 by decide +kernel) rfl (by decide) rfl rfl ?_
                refine dw_enter rfl ?_
                refine rB_X12_isNight (fun B hB => ?_)
                refine hB _ _ _ _ _ _ ?_
                refine dw_okS rfl rfl rfl (by decide) rfl rfl ?_
                refine dw_enter rfl ?_
                refine rB_X12_isIn (fun B hB => ?_)
                refine rB_X12_isNight (fun B hB => ?_)
                refine rB_X12_part (fun B hB => ?_)
                refine rB_law (fun B hB => ?_)
                refine hB _ _ _ _ _ _ ?_
                exact law_z
              · refine dw_ite (fun h16 => ?_) (fun h16 => ?_)
                · refine rB_X11_part (fun B hB => ?_)
                  refine rB_law (fun B hB => ?_)
                  refine hB _ _ _ _ _ _ ?_
                  refine dw_okV (a := 404) (as := [.int (xs 1), .int (xs 2), .int (xs 3), .int (xs 4), .int (xs 5)]) rfl rfl (show (SH1 404).1 = 12 by decide +kernel) rfl (by decide) rfl rfl ?_
                  rw [hs]
                  refine dw_enter rfl ?_
                  refine rB_X12_part (fun B hB => ?_)
                  refine hB _ _ _ _ _ _ ?_
                  refine dw_okV (a := 404) rfl rfl (show (SH1 404).1 = 12 by decide +kernel) rfl (by decide) rfl rfl ?_
                  refine dw_enter rfl ?_
                  refine rB_X12_isNight (fun B hB => ?_)
                  refine hB _ _ _ _ _ _ ?_
                  refine dw_okS rfl rfl rfl (by decide) rfl rfl ?_
                  refine dw_enter rfl ?_
                  refine rB_X12_isIn (fun B hB => ?_)
                  refine rB_X12_isNight (fun B hB => ?_)
                  refine rB_X12_part (fun B hB => ?_)
                  refine rB_law (fun B hB => ?_)
                  refine hB _ _ _ _ _ _ ?_
                  exact law_z
                · refine rB_X11_part (fun B hB => ?_)
                  refine hB _ _ _ _ _ _ ?_
                  refine dw_okS rfl rfl rfl (by decide) rfl rfl ?_
                  refine dw_enter rfl ?_
                  refine rB_X11_isStory (fun B hB => ?_)
                  refine dw_ite (fun h17 => ?_) (fun h17 => ?_)
                  · refine rB_X11_part (fun B hB => ?_)
                    refine rB_law (fun B hB => ?_)
                    refine hB _ _ _ _ _ _ ?_
                    refine dw_okV (a := 404) (as := [.int (xs 1), .int (xs 2), .int (xs 3), .int (xs 4), .int (xs 5)]) rfl rfl (show (SH1 404).1 = 12 by decide +kernel) rfl (by decide) rfl rfl ?_
                    rw [hs]
                    refine dw_enter rfl ?_
                    refine rB_X12_part (fun B hB => ?_)
                    refine hB _ _ _ _ _ _ ?_
                    refine dw_okV (a := 404) rfl rfl (show (SH1 404).1 = 12 by decide +kernel) rfl (by decide) rfl rfl ?_
                    refine dw_enter rfl ?_
                    refine rB_X12_isNight (fun B hB => ?_)
                    refine hB _ _ _ _ _ _ ?_
                    refine dw_okS rfl rfl rfl (by decide) rfl rfl ?_
                    refine dw_enter rfl ?_
                    refine rB_X12_isIn (fun B hB => ?_)
                    refine rB_X12_isNight (fun B hB => ?_)
                    refine rB_X12_part (fun B hB => ?_)
                    refine rB_law (fun B hB => ?_)
                    refine hB _ _ _ _ _ _ ?_
                    exact law_z
                  · refine dw_ite (fun h18 => ?_) (fun h18 => ?_)
                    · refine rB_X11_part (fun B hB => ?_)
                      refine rB_law (fun B hB => ?_)
                      refine hB _ _ _ _ _ _ ?_
                      refine dw_okV (a := 404) (as := [.int (xs 1), .int (xs 2), .int (xs 3), .int (xs 4), .int (xs 5)]) rfl rfl (show (SH1 404).1 = 12 by decide +kernel) rfl (by decide) rfl rfl ?_
                      rw [hs]
                      refine dw_enter rfl ?_
                      refine rB_X12_part (fun B hB => ?_)
                      refine hB _ _ _ _ _ _ ?_
                      refine dw_okV (a := 404) rfl rfl (show (SH1 404).1 = 12 by decide +kernel) rfl (by decide) rfl rfl ?_
                      refine dw_enter rfl ?_
                      refine rB_X12_isNight (fun B hB => ?_)
                      refine hB _ _ _ _ _ _ ?_
                      refine dw_okS rfl rfl rfl (by decide) rfl rfl ?_
                      refine dw_enter rfl ?_
                      refine rB_X12_isIn (fun B hB => ?_)
                      refine rB_X12_isNight (fun B hB => ?_)
                      refine rB_X12_part (fun B hB => ?_)
                      refine rB_law (fun B hB => ?_)
                      refine hB _ _ _ _ _ _ ?_
                      exact law_z
                    · refine rB_X11_part (fun B hB => ?_)
                      refine hB _ _ _ _ _ _ ?_
                      refine dw_okV (a := 0) rfl rfl (show (SH1 0).1 = 11 by decide +kernel) rfl (by decide) rfl rfl ?_
                      refine dw_enter rfl ?_
                      refine rB_X11_start (fun B hB => ?_)
                      refine hB _ _ _ _ _ _ ?_
                      refine dw_okV (a := 3) rfl rfl (show (SH1 3).1 = 8 by decide +kernel) rfl (by decide) rfl rfl ?_
                      refine dw_enter rfl ?_
                      refine rB_X8_nightOf (fun B hB => ?_)
                      refine rB_X11_start (fun B hB => ?_)
                      refine (fun (_ : _ ∨ _) => ?_)
                      refine rB_X11_part (fun B hB => ?_)
                      refine rB_law (fun B hB => ?_)
                      refine hB _ _ _ _ _ _ ?_
                      refine dw_okV (a := 404) (as := [.int (xs 1), .int (xs 2), .int (xs 3), .int (xs 4), .int (xs 5)]) rfl rfl (show (SH1 404).1 = 12 by decide +kernel) rfl (by decide) rfl rfl ?_
                      rw [hs]
                      refine dw_enter rfl ?_
                      refine rB_X12_part (fun B hB => ?_)
                      refine hB _ _ _ _ _ _ ?_
                      refine dw_okV (a := 404) rfl rfl (show (SH1 404).1 = 12 by decide +kernel) rfl (by decide) rfl rfl ?_
                      refine dw_enter rfl ?_
                      refine rB_X12_isNight (fun B hB => ?_)
                      refine hB _ _ _ _ _ _ ?_
                      refine dw_okS rfl rfl rfl (by decide) rfl rfl ?_
                      refine dw_enter rfl ?_
                      refine rB_X12_isIn (fun B hB => ?_)
                      refine rB_X12_isNight (fun B hB => ?_)
                      refine rB_X12_part (fun B hB => ?_)
                      refine rB_law (fun B hB => ?_)
                      refine hB _ _ _ _ _ _ ?_
                      exact law_z
  · refine rB_law (fun B hB => ?_)
    refine hB _ _ _ _ _ _ ?_
    refine dw_okV (a := 0) (as := [.int (xs 1), .int (xs 2), .int (xs 3), .int (xs 4), .int (xs 5)]) rfl rfl (show (SH1 0).1 = 11 by decide +kernel) rfl (by decide) rfl rfl ?_
    rw [hs]
    refine dw_enter rfl ?_
    refine rB_X11_part (fun B hB => ?_)
    refine hB _ _ _ _ _ _ ?_
    refine dw_okV (a := 4) rfl rfl (show (SH1 4).1 = 0 by decide +kernel) rfl (by decide) rfl rfl ?_
    refine dw_enter rfl ?_
    refine rB_X0_cellAt (fun B hB => ?_)
    refine dw_ite (fun h19 => ?_) (fun h19 => ?_)
    · refine rB_X11_part (fun B hB => ?_)
      refine rB_law (fun B hB => ?_)
      refine hB _ _ _ _ _ _ ?_
      refine dw_okV (a := 404) (as := [.int (xs 1), .int (xs 2), .int (xs 3), .int (xs 4), .int (xs 5)]) rfl rfl (show (SH1 404).1 = 12 by decide +kernel) rfl (by decide) rfl rfl ?_
      rw [hs]
      refine dw_enter rfl ?_
      refine rB_X12_part (fun B hB => ?_)
      refine hB _ _ _ _ _ _ ?_
      refine dw_okV (a := 404) rfl rfl (show (SH1 404).1 = 12 by decide +kernel) rfl (by decide) rfl rfl ?_
      refine dw_enter rfl ?_
      refine rB_X12_isNight (fun B hB => ?_)
      refine hB _ _ _ _ _ _ ?_
      refine dw_okS rfl rfl rfl (by decide) rfl rfl ?_
      refine dw_enter rfl ?_
      refine rB_X12_isIn (fun B hB => ?_)
      refine rB_X12_isNight (fun B hB => ?_)
      refine rB_X12_part (fun B hB => ?_)
      refine rB_law (fun B hB => ?_)
      refine hB _ _ _ _ _ _ ?_
      exact law_z
    · refine dw_ite (fun h20 => ?_) (fun h20 => ?_)
      · refine rB_X11_part (fun B hB => ?_)
        refine rB_law (fun B hB => ?_)
        refine hB _ _ _ _ _ _ ?_
        refine dw_okV (a := 404) (as := [.int (xs 1), .int (xs 2), .int (xs 3), .int (xs 4), .int (xs 5)]) rfl rfl (show (SH1 404).1 = 12 by decide +kernel) rfl (by decide) rfl rfl ?_
        rw [hs]
        refine dw_enter rfl ?_
        refine rB_X12_part (fun B hB => ?_)
        refine hB _ _ _ _ _ _ ?_
        refine dw_okV (a := 404) rfl rfl (show (SH1 404).1 = 12 by decide +kernel) rfl (by decide) rfl rfl ?_
        refine dw_enter rfl ?_
        refine rB_X12_isNight (fun B hB => ?_)
        refine hB _ _ _ _ _ _ ?_
        refine dw_okS rfl rfl rfl (by decide) rfl rfl ?_
        refine dw_enter rfl ?_
        refine rB_X12_isIn (fun B hB => ?_)
        refine rB_X12_isNight (fun B hB => ?_)
        refine rB_X12_part (fun B hB => ?_)
        refine rB_law (fun B hB => ?_)
        refine hB _ _ _ _ _ _ ?_
        exact law_z
      · refine dw_ite (fun h21 => ?_) (fun h21 => ?_)
        · refine rB_X11_part (fun B hB => ?_)
          refine rB_law (fun B hB => ?_)
          refine hB _ _ _ _ _ _ ?_
          refine dw_okV (a := 404) (as := [.int (xs 1), .int (xs 2), .int (xs 3), .int (xs 4), .int (xs 5)]) rfl rfl (show (SH1 404).1 = 12 by decide +kernel) rfl (by decide) rfl rfl ?_
          rw [hs]
          refine dw_enter rfl ?_
          refine rB_X12_part (fun B hB => ?_)
          refine hB _ _ _ _ _ _ ?_
          refine dw_okV (a := 404) rfl rfl (show (SH1 404).1 = 12 by decide +kernel) rfl (by decide) rfl rfl ?_
          refine dw_enter rfl ?_
          refine rB_X12_isNight (fun B hB => ?_)
          refine hB _ _ _ _ _ _ ?_
          refine dw_okS rfl rfl rfl (by decide) rfl rfl ?_
          refine dw_enter rfl ?_
          refine rB_X12_isIn (fun B hB => ?_)
          refine rB_X12_isNight (fun B hB => ?_)
          refine rB_X12_part (fun B hB => ?_)
          refine rB_law (fun B hB => ?_)
          refine hB _ _ _ _ _ _ ?_
          exact law_z
        · refine dw_ite (fun h22 => ?_) (fun h22 => ?_)
          · refine rB_X11_part (fun B hB => ?_)
            refine rB_law (fun B hB => ?_)
            refine hB _ _ _ _ _ _ ?_
            refine dw_okV (a := 404) (as := [.int (xs 1), .int (xs 2), .int (xs 3), .int (xs 4), .int (xs 5)]) rfl rfl (show (SH1 404).1 = 12 by decide +kernel) rfl (by decide) rfl rfl ?_
            rw [hs]
            refine dw_enter rfl ?_
            refine rB_X12_part (fun B hB => ?_)
            refine hB _ _ _ _ _ _ ?_
            refine dw_okV (a := 404) rfl rfl (show (SH1 404).1 = 12 by decide +kernel) rfl (by decide) rfl rfl ?_
            refine dw_enter rfl ?_
            refine rB_X12_isNight (fun B hB => ?_)
            refine hB _ _ _ _ _ _ ?_
            refine dw_okS rfl rfl rfl (by decide) rfl rfl ?_
            refine dw_enter rfl ?_
            refine rB_X12_isIn (fun B hB => ?_)
            refine rB_X12_isNight (fun B hB => ?_)
            refine rB_X12_part (fun B hB => ?_)
            refine rB_law (fun B hB => ?_)
            refine hB _ _ _ _ _ _ ?_
            exact law_z
          · refine rB_X11_part (fun B hB => ?_)
            refine dw_ite (fun h23 => ?_) (fun h23 => ?_)
            · refine rB_law (fun B hB => ?_)
              refine hB _ _ _ _ _ _ ?_
              refine dw_okV (a := 404) (as := [.int (xs 1), .int (xs 2), .int (xs 3), .int (xs 4), .int (xs 5)]) rfl rfl (show (SH1 404).1 = 12 by decide +kernel) rfl (by decide) rfl rfl ?_
              rw [hs]
              refine dw_enter rfl ?_
              refine rB_X12_part (fun B hB => ?_)
              refine hB _ _ _ _ _ _ ?_
              refine dw_okV (a := 404) rfl rfl (show (SH1 404).1 = 12 by decide +kernel) rfl (by decide) rfl rfl ?_
              refine dw_enter rfl ?_
              refine rB_X12_isNight (fun B hB => ?_)
              refine hB _ _ _ _ _ _ ?_
              refine dw_okS rfl rfl rfl (by decide) rfl rfl ?_
              refine dw_enter rfl ?_
              refine rB_X12_isIn (fun B hB => ?_)
              refine rB_X12_isNight (fun B hB => ?_)
              refine rB_X12_part (fun B hB => ?_)
              refine rB_law (fun B hB => ?_)
              refine hB _ _ _ _ _ _ ?_
              exact law_z
            · refine hB _ _ _ _ _ _ ?_
              refine dw_okS rfl rfl rfl (by decide) rfl rfl ?_
              refine dw_enter rfl ?_
              refine rB_X11_isStory (fun B hB => ?_)
              refine dw_ite (fun h24 => ?_) (fun h24 => ?_)
              · refine rB_X11_part (fun B hB => ?_)
                refine rB_law (fun B hB => ?_)
                refine hB _ _ _ _ _ _ ?_
                refine dw_okV (a := 404) (as := [.int (xs 1), .int (xs 2), .int (xs 3), .int (xs 4), .int (xs 5)]) rfl rfl (show (SH1 404).1 = 12 by decide +kernel) rfl (by decide) rfl rfl ?_
                rw [hs]
                refine dw_enter rfl ?_
                refine rB_X12_part (fun B hB => ?_)
                refine hB _ _ _ _ _ _ ?_
                refine dw_okV (a := 404) rfl rfl (show (SH1 404).1 = 12 by decide +kernel) rfl (by decide) rfl rfl ?_
                refine dw_enter rfl ?_
                refine rB_X12_isNight (fun B hB => ?_)
                refine hB _ _ _ _ _ _ ?_
                refine dw_okS rfl rfl rfl (by decide) rfl rfl ?_
                refine dw_enter rfl ?_
                refine rB_X12_isIn (fun B hB => ?_)
                refine rB_X12_isNight (fun B hB => ?_)
                refine rB_X12_part (fun B hB => ?_)
                refine rB_law (fun B hB => ?_)
                refine hB _ _ _ _ _ _ ?_
                exact law_z
              · refine dw_ite (fun h25 => ?_) (fun h25 => ?_)
                · refine rB_X11_part (fun B hB => ?_)
                  refine rB_law (fun B hB => ?_)
                  refine hB _ _ _ _ _ _ ?_
                  refine dw_okV (a := 404) (as := [.int (xs 1), .int (xs 2), .int (xs 3), .int (xs 4), .int (xs 5)]) rfl rfl (show (SH1 404).1 = 12 by decide +kernel) rfl (by decide) rfl rfl ?_
                  rw [hs]
                  refine dw_enter rfl ?_
                  refine rB_X12_part (fun B hB => ?_)
                  refine hB _ _ _ _ _ _ ?_
                  refine dw_okV (a := 404) rfl rfl (show (SH1 404).1 = 12 by decide +kernel) rfl (by decide) rfl rfl ?_
                  refine dw_enter rfl ?_
                  refine rB_X12_isNight (fun B hB => ?_)
                  refine hB _ _ _ _ _ _ ?_
                  refine dw_okS rfl rfl rfl (by decide) rfl rfl ?_
                  refine dw_enter rfl ?_
                  refine rB_X12_isIn (fun B hB => ?_)
                  refine rB_X12_isNight (fun B hB => ?_)
                  refine rB_X12_part (fun B hB => ?_)
                  refine rB_law (fun B hB => ?_)
                  refine hB _ _ _ _ _ _ ?_
                  exact law_z
                · refine rB_X11_part (fun B hB => ?_)
                  refine hB _ _ _ _ _ _ ?_
                  refine dw_okS rfl rfl rfl (by decide) rfl rfl ?_
                  refine dw_enter rfl ?_
                  refine rB_X11_isStory (fun B hB => ?_)
                  refine dw_ite (fun h26 => ?_) (fun h26 => ?_)
                  · refine rB_X11_part (fun B hB => ?_)
                    refine rB_law (fun B hB => ?_)
                    refine hB _ _ _ _ _ _ ?_
                    refine dw_okV (a := 404) (as := [.int (xs 1), .int (xs 2), .int (xs 3), .int (xs 4), .int (xs 5)]) rfl rfl (show (SH1 404).1 = 12 by decide +kernel) rfl (by decide) rfl rfl ?_
                    rw [hs]
                    refine dw_enter rfl ?_
                    refine rB_X12_part (fun B hB => ?_)
                    refine hB _ _ _ _ _ _ ?_
                    refine dw_okV (a := 404) rfl rfl (show (SH1 404).1 = 12 by decide +kernel) rfl (by decide) rfl rfl ?_
                    refine dw_enter rfl ?_
                    refine rB_X12_isNight (fun B hB => ?_)
                    refine hB _ _ _ _ _ _ ?_
                    refine dw_okS rfl rfl rfl (by decide) rfl rfl ?_
                    refine dw_enter rfl ?_
                    refine rB_X12_isIn (fun B hB => ?_)
                    refine rB_X12_isNight (fun B hB => ?_)
                    refine rB_X12_part (fun B hB => ?_)
                    refine rB_law (fun B hB => ?_)
                    refine hB _ _ _ _ _ _ ?_
                    exact law_z
                  · refine dw_ite (fun h27 => ?_) (fun h27 => ?_)
                    · refine rB_X11_part (fun B hB => ?_)
                      refine rB_law (fun B hB => ?_)
                      refine hB _ _ _ _ _ _ ?_
                      refine dw_okV (a := 404) (as := [.int (xs 1), .int (xs 2), .int (xs 3), .int (xs 4), .int (xs 5)]) rfl rfl (show (SH1 404).1 = 12 by decide +kernel) rfl (by decide) rfl rfl ?_
                      rw [hs]
                      refine dw_enter rfl ?_
                      refine rB_X12_part (fun B hB => ?_)
                      refine hB _ _ _ _ _ _ ?_
                      refine dw_okV (a := 404) rfl rfl (show (SH1 404).1 = 12 by decide +kernel) rfl (by decide) rfl rfl ?_
                      refine dw_enter rfl ?_
                      refine rB_X12_isNight (fun B hB => ?_)
                      refine hB _ _ _ _ _ _ ?_
                      refine dw_okS rfl rfl rfl (by decide) rfl rfl ?_
                      refine dw_enter rfl ?_
                      refine rB_X12_isIn (fun B hB => ?_)
                      refine rB_X12_isNight (fun B hB => ?_)
                      refine rB_X12_part (fun B hB => ?_)
                      refine rB_law (fun B hB => ?_)
                      refine hB _ _ _ _ _ _ ?_
                      exact law_z
                    · refine rB_X11_part (fun B hB => ?_)
                      refine hB _ _ _ _ _ _ ?_
                      refine dw_okV (a := 0) rfl rfl (show (SH1 0).1 = 11 by decide +kernel) rfl (by decide) rfl rfl ?_
                      refine dw_enter rfl ?_
                      refine rB_X11_start (fun B hB => ?_)
                      refine hB _ _ _ _ _ _ ?_
                      refine dw_okV (a := 3) rfl rfl (show (SH1 3).1 = 8 by decide +kernel) rfl (by decide) rfl rfl ?_
                      refine dw_enter rfl ?_
                      refine rB_X8_nightOf (fun B hB => ?_)
                      refine rB_X11_start (fun B hB => ?_)
                      refine (fun (_ : _ ∨ _) => ?_)
                      refine rB_X11_part (fun B hB => ?_)
                      refine rB_law (fun B hB => ?_)
                      refine hB _ _ _ _ _ _ ?_
                      refine dw_okV (a := 404) (as := [.int (xs 1), .int (xs 2), .int (xs 3), .int (xs 4), .int (xs 5)]) rfl rfl (show (SH1 404).1 = 12 by decide +kernel) rfl (by decide) rfl rfl ?_
                      rw [hs]
                      refine dw_enter rfl ?_
                      refine rB_X12_part (fun B hB => ?_)
                      refine hB _ _ _ _ _ _ ?_
                      refine dw_okV (a := 404) rfl rfl (show (SH1 404).1 = 12 by decide +kernel) rfl (by decide) rfl rfl ?_
                      refine dw_enter rfl ?_
                      refine rB_X12_isNight (fun B hB => ?_)
                      refine hB _ _ _ _ _ _ ?_
                      refine dw_okS rfl rfl rfl (by decide) rfl rfl ?_
                      refine dw_enter rfl ?_
                      refine rB_X12_isIn (fun B hB => ?_)
                      refine rB_X12_isNight (fun B hB => ?_)
                      refine rB_X12_part (fun B hB => ?_)
                      refine rB_law (fun B hB => ?_)
                      refine hB _ _ _ _ _ _ ?_
                      exact law_z
  · refine rB_law (fun B hB => ?_)
    refine hB _ _ _ _ _ _ ?_
    refine dw_okV (a := 0) (as := [.int (xs 1), .int (xs 2), .int (xs 3), .int (xs 4), .int (xs 5)]) rfl rfl (show (SH1 0).1 = 11 by decide +kernel) rfl (by decide) rfl rfl ?_
    rw [hs]
    refine dw_enter rfl ?_
    refine rB_X11_part (fun B hB => ?_)
    refine hB _ _ _ _ _ _ ?_
    refine dw_okV (a := 4) rfl rfl (show (SH1 4).1 = 0 by decide +kernel) rfl (by decide) rfl rfl ?_
    refine dw_enter rfl ?_
    refine rB_X0_cellAt (fun B hB => ?_)
    refine dw_ite (fun h28 => ?_) (fun h28 => ?_)
    · refine rB_X11_part (fun B hB => ?_)
      refine rB_law (fun B hB => ?_)
      refine hB _ _ _ _ _ _ ?_
      refine dw_okV (a := 404) (as := [.int (xs 1), .int (xs 2), .int (xs 3), .int (xs 4), .int (xs 5)]) rfl rfl (show (SH1 404).1 = 12 by decide +kernel) rfl (by decide) rfl rfl ?_
      rw [hs]
      refine dw_enter rfl ?_
      refine rB_X12_part (fun B hB => ?_)
      refine hB _ _ _ _ _ _ ?_
      refine dw_okV (a := 404) rfl rfl (show (SH1 404).1 = 12 by decide +kernel) rfl (by decide) rfl rfl ?_
      refine dw_enter rfl ?_
      refine rB_X12_isNight (fun B hB => ?_)
      refine hB _ _ _ _ _ _ ?_
      refine dw_okS rfl rfl rfl (by decide) rfl rfl ?_
      refine dw_enter rfl ?_
      refine rB_X12_isIn (fun B hB => ?_)
      refine rB_X12_isNight (fun B hB => ?_)
      refine rB_X12_part (fun B hB => ?_)
      refine rB_law (fun B hB => ?_)
      refine hB _ _ _ _ _ _ ?_
      exact law_z
    · refine dw_ite (fun h29 => ?_) (fun h29 => ?_)
      · refine rB_X11_part (fun B hB => ?_)
        refine rB_law (fun B hB => ?_)
        refine hB _ _ _ _ _ _ ?_
        refine dw_okV (a := 404) (as := [.int (xs 1), .int (xs 2), .int (xs 3), .int (xs 4), .int (xs 5)]) rfl rfl (show (SH1 404).1 = 12 by decide +kernel) rfl (by decide) rfl rfl ?_
        rw [hs]
        refine dw_enter rfl ?_
        refine rB_X12_part (fun B hB => ?_)
        refine hB _ _ _ _ _ _ ?_
        refine dw_okV (a := 404) rfl rfl (show (SH1 404).1 = 12 by decide +kernel) rfl (by decide) rfl rfl ?_
        refine dw_enter rfl ?_
        refine rB_X12_isNight (fun B hB => ?_)
        refine hB _ _ _ _ _ _ ?_
        refine dw_okS rfl rfl rfl (by decide) rfl rfl ?_
        refine dw_enter rfl ?_
        refine rB_X12_isIn (fun B hB => ?_)
        refine rB_X12_isNight (fun B hB => ?_)
        refine rB_X12_part (fun B hB => ?_)
        refine rB_law (fun B hB => ?_)
        refine hB _ _ _ _ _ _ ?_
        exact law_z
      · refine dw_ite (fun h30 => ?_) (fun h30 => ?_)
        · refine rB_X11_part (fun B hB => ?_)
          refine rB_law (fun B hB => ?_)
          refine hB _ _ _ _ _ _ ?_
          refine dw_okV (a := 404) (as := [.int (xs 1), .int (xs 2), .int (xs 3), .int (xs 4), .int (xs 5)]) rfl rfl (show (SH1 404).1 = 12 by decide +kernel) rfl (by decide) rfl rfl ?_
          rw [hs]
          refine dw_enter rfl ?_
          refine rB_X12_part (fun B hB => ?_)
          refine hB _ _ _ _ _ _ ?_
          refine dw_okV (a := 404) rfl rfl (show (SH1 404).1 = 12 by decide +kernel) rfl (by decide) rfl rfl ?_
          refine dw_enter rfl ?_
          refine rB_X12_isNight (fun B hB => ?_)
          refine hB _ _ _ _ _ _ ?_
          refine dw_okS rfl rfl rfl (by decide) rfl rfl ?_
          refine dw_enter rfl ?_
          refine rB_X12_isIn (fun B hB => ?_)
          refine rB_X12_isNight (fun B hB => ?_)
          refine rB_X12_part (fun B hB => ?_)
          refine rB_law (fun B hB => ?_)
          refine hB _ _ _ _ _ _ ?_
          exact law_z
        · refine dw_ite (fun h31 => ?_) (fun h31 => ?_)
          · refine rB_X11_part (fun B hB => ?_)
            refine rB_law (fun B hB => ?_)
            refine hB _ _ _ _ _ _ ?_
            refine dw_okV (a := 404) (as := [.int (xs 1), .int (xs 2), .int (xs 3), .int (xs 4), .int (xs 5)]) rfl rfl (show (SH1 404).1 = 12 by decide +kernel) rfl (by decide) rfl rfl ?_
            rw [hs]
            refine dw_enter rfl ?_
            refine rB_X12_part (fun B hB => ?_)
            refine hB _ _ _ _ _ _ ?_
            refine dw_okV (a := 404) rfl rfl (show (SH1 404).1 = 12 by decide +kernel) rfl (by decide) rfl rfl ?_
            refine dw_enter rfl ?_
            refine rB_X12_isNight (fun B hB => ?_)
            refine hB _ _ _ _ _ _ ?_
            refine dw_okS rfl rfl rfl (by decide) rfl rfl ?_
            refine dw_enter rfl ?_
            refine rB_X12_isIn (fun B hB => ?_)
            refine rB_X12_isNight (fun B hB => ?_)
            refine rB_X12_part (fun B hB => ?_)
            refine rB_law (fun B hB => ?_)
            refine hB _ _ _ _ _ _ ?_
            exact law_z
          · refine rB_X11_part (fun B hB => ?_)
            refine dw_ite (fun h32 => ?_) (fun h32 => ?_)
            · refine rB_law (fun B hB => ?_)
              refine hB _ _ _ _ _ _ ?_
              refine dw_okV (a := 404) (as := [.int (xs 1), .int (xs 2), .int (xs 3), .int (xs 4), .int (xs 5)]) rfl rfl (show (SH1 404).1 = 12 by decide +kernel) rfl (by decide) rfl rfl ?_
              rw [hs]
              refine dw_enter rfl ?_
              refine rB_X12_part (fun B hB => ?_)
              refine hB _ _ _ _ _ _ ?_
              refine dw_okV (a := 404) rfl rfl (show (SH1 404).1 = 12 by decide +kernel) rfl (by decide) rfl rfl ?_
              refine dw_enter rfl ?_
              refine rB_X12_isNight (fun B hB => ?_)
              refine hB _ _ _ _ _ _ ?_
              refine dw_okS rfl rfl rfl (by decide) rfl rfl ?_
              refine dw_enter rfl ?_
              refine rB_X12_isIn (fun B hB => ?_)
              refine rB_X12_isNight (fun B hB => ?_)
              refine rB_X12_part (fun B hB => ?_)
              refine rB_law (fun B hB => ?_)
              refine hB _ _ _ _ _ _ ?_
              exact law_z
            · refine hB _ _ _ _ _ _ ?_
              refine dw_okS rfl rfl rfl (by decide) rfl rfl ?_
              refine dw_enter rfl ?_
              refine rB_X11_isStory (fun B hB => ?_)
              refine dw_ite (fun h33 => ?_) (fun h33 => ?_)
              · refine rB_X11_part (fun B hB => ?_)
                refine rB_law (fun B hB => ?_)
                refine hB _ _ _ _ _ _ ?_
                refine dw_okV (a := 404) (as := [.int (xs 1), .int (xs 2), .int (xs 3), .int (xs 4), .int (xs 5)]) rfl rfl (show (SH1 404).1 = 12 by decide +kernel) rfl (by decide) rfl rfl ?_
                rw [hs]
                refine dw_enter rfl ?_
                refine rB_X12_part (fun B hB => ?_)
                refine hB _ _ _ _ _ _ ?_
                refine dw_okV (a := 404) rfl rfl (show (SH1 404).1 = 12 by decide +kernel) rfl (by decide) rfl rfl ?_
                refine dw_enter rfl ?_
                refine rB_X12_isNight (fun B hB => ?_)
                refine hB _ _ _ _ _ _ ?_
                refine dw_okS rfl rfl rfl (by decide) rfl rfl ?_
                refine dw_enter rfl ?_
                refine rB_X12_isIn (fun B hB => ?_)
                refine rB_X12_isNight (fun B hB => ?_)
                refine rB_X12_part (fun B hB => ?_)
                refine rB_law (fun B hB => ?_)
                refine hB _ _ _ _ _ _ ?_
                exact law_z
              · refine dw_ite (fun h34 => ?_) (fun h34 => ?_)
                · refine rB_X11_part (fun B hB => ?_)
                  refine rB_law (fun B hB => ?_)
                  refine hB _ _ _ _ _ _ ?_
                  refine dw_okV (a := 404) (as := [.int (xs 1), .int (xs 2), .int (xs 3), .int (xs 4), .int (xs 5)]) rfl rfl (show (SH1 404).1 = 12 by decide +kernel) rfl (by decide) rfl rfl ?_
                  rw [hs]
                  refine dw_enter rfl ?_
                  refine rB_X12_part (fun B hB => ?_)
                  refine hB _ _ _ _ _ _ ?_
                  refine dw_okV (a := 404) rfl rfl (show (SH1 404).1 = 12 by decide +kernel) rfl (by decide) rfl rfl ?_
                  refine dw_enter rfl ?_
                  refine rB_X12_isNight (fun B hB => ?_)
                  refine hB _ _ _ _ _ _ ?_
                  refine dw_okS rfl rfl rfl (by decide) rfl rfl ?_
                  refine dw_enter rfl ?_
                  refine rB_X12_isIn (fun B hB => ?_)
                  refine rB_X12_isNight (fun B hB => ?_)
                  refine rB_X12_part (fun B hB => ?_)
                  refine rB_law (fun B hB => ?_)
                  refine hB _ _ _ _ _ _ ?_
                  exact law_z
                · refine rB_X11_part (fun B hB => ?_)
                  refine hB _ _ _ _ _ _ ?_
                  refine dw_okS rfl rfl rfl (by decide) rfl rfl ?_
                  refine dw_enter rfl ?_
                  refine rB_X11_isStory (fun B hB => ?_)
                  refine dw_ite (fun h35 => ?_) (fun h35 => ?_)
                  · refine rB_X11_part (fun B hB => ?_)
                    refine rB_law (fun B hB => ?_)
                    refine hB _ _ _ _ _ _ ?_
                    refine dw_okV (a := 404) (as := [.int (xs 1), .int (xs 2), .int (xs 3), .int (xs 4), .int (xs 5)]) rfl rfl (show (SH1 404).1 = 12 by decide +kernel) rfl (by decide) rfl rfl ?_
                    rw [hs]
                    refine dw_enter rfl ?_
                    refine rB_X12_part (fun B hB => ?_)
                    refine hB _ _ _ _ _ _ ?_
                    refine dw_okV (a := 404) rfl rfl (show (SH1 404).1 = 12 by decide +kernel) rfl (by decide) rfl rfl ?_
                    refine dw_enter rfl ?_
                    refine rB_X12_isNight (fun B hB => ?_)
                    refine hB _ _ _ _ _ _ ?_
                    refine dw_okS rfl rfl rfl (by decide) rfl rfl ?_
                    refine dw_enter rfl ?_
                    refine rB_X12_isIn (fun B hB => ?_)
                    refine rB_X12_isNight (fun B hB => ?_)
                    refine rB_X12_part (fun B hB => ?_)
                    refine rB_law (fun B hB => ?_)
                    refine hB _ _ _ _ _ _ ?_
                    exact law_z
                  · refine dw_ite (fun h36 => ?_) (fun h36 => ?_)
                    · refine rB_X11_part (fun B hB => ?_)
                      refine rB_law (fun B hB => ?_)
                      refine hB _ _ _ _ _ _ ?_
                      refine dw_okV (a := 404) (as := [.int (xs 1), .int (xs 2), .int (xs 3), .int (xs 4), .int (xs 5)]) rfl rfl (show (SH1 404).1 = 12 by decide +kernel) rfl (by decide) rfl rfl ?_
                      rw [hs]
                      refine dw_enter rfl ?_
                      refine rB_X12_part (fun B hB => ?_)
                      refine hB _ _ _ _ _ _ ?_
                      refine dw_okV (a := 404) rfl rfl (show (SH1 404).1 = 12 by decide +kernel) rfl (by decide) rfl rfl ?_
                      refine dw_enter rfl ?_
                      refine rB_X12_isNight (fun B hB => ?_)
                      refine hB _ _ _ _ _ _ ?_
                      refine dw_okS rfl rfl rfl (by decide) rfl rfl ?_
                      refine dw_enter rfl ?_
                      refine rB_X12_isIn (fun B hB => ?_)
                      refine rB_X12_isNight (fun B hB => ?_)
                      refine rB_X12_part (fun B hB => ?_)
                      refine rB_law (fun B hB => ?_)
                      refine hB _ _ _ _ _ _ ?_
                      exact law_z
                    · refine rB_X11_part (fun B hB => ?_)
                      refine hB _ _ _ _ _ _ ?_
                      refine dw_okV (a := 0) rfl rfl (show (SH1 0).1 = 11 by decide +kernel) rfl (by decide) rfl rfl ?_
                      refine dw_enter rfl ?_
                      refine rB_X11_start (fun B hB => ?_)
                      refine hB _ _ _ _ _ _ ?_
                      refine dw_okV (a := 3) rfl rfl (show (SH1 3).1 = 8 by decide +kernel) rfl (by decide) rfl rfl ?_
                      refine dw_enter rfl ?_
                      refine rB_X8_nightOf (fun B hB => ?_)
                      refine rB_X11_start (fun B hB => ?_)
                      refine (fun (_ : _ ∨ _) => ?_)
                      refine rB_X11_part (fun B hB => ?_)
                      refine rB_law (fun B hB => ?_)
                      refine hB _ _ _ _ _ _ ?_
                      refine dw_okV (a := 404) (as := [.int (xs 1), .int (xs 2), .int (xs 3), .int (xs 4), .int (xs 5)]) rfl rfl (show (SH1 404).1 = 12 by decide +kernel) rfl (by decide) rfl rfl ?_
                      rw [hs]
                      refine dw_enter rfl ?_
                      refine rB_X12_part (fun B hB => ?_)
                      refine hB _ _ _ _ _ _ ?_
                      refine dw_okV (a := 404) rfl rfl (show (SH1 404).1 = 12 by decide +kernel) rfl (by decide) rfl rfl ?_
                      refine dw_enter rfl ?_
                      refine rB_X12_isNight (fun B hB => ?_)
                      refine hB _ _ _ _ _ _ ?_
                      refine dw_okS rfl rfl rfl (by decide) rfl rfl ?_
                      refine dw_enter rfl ?_
                      refine rB_X12_isIn (fun B hB => ?_)
                      refine rB_X12_isNight (fun B hB => ?_)
                      refine rB_X12_part (fun B hB => ?_)
                      refine rB_law (fun B hB => ?_)
                      refine hB _ _ _ _ _ _ ?_
                      exact law_z
  · refine rB_law (fun B hB => ?_)
    refine hB _ _ _ _ _ _ ?_
    refine dw_okV (a := 0) (as := [.int (xs 1), .int (xs 2), .int (xs 3), .int (xs 4), .int (xs 5)]) rfl rfl (show (SH1 0).1 = 11 by decide +kernel) rfl (by decide) rfl rfl ?_
    rw [hs]
    refine dw_enter rfl ?_
    refine rB_X11_part (fun B hB => ?_)
    refine hB _ _ _ _ _ _ ?_
    refine dw_okV (a := 4) rfl rfl (show (SH1 4).1 = 0 by decide +kernel) rfl (by decide) rfl rfl ?_
    refine dw_enter rfl ?_
    refine rB_X0_cellAt (fun B hB => ?_)
    refine dw_ite (fun h37 => ?_) (fun h37 => ?_)
    · refine rB_X11_part (fun B hB => ?_)
      refine rB_law (fun B hB => ?_)
      refine hB _ _ _ _ _ _ ?_
      refine dw_okV (a := 404) (as := [.int (xs 1), .int (xs 2), .int (xs 3), .int (xs 4), .int (xs 5)]) rfl rfl (show (SH1 404).1 = 12 by decide +kernel) rfl (by decide) rfl rfl ?_
      rw [hs]
      refine dw_enter rfl ?_
      refine rB_X12_part (fun B hB => ?_)
      refine hB _ _ _ _ _ _ ?_
      refine dw_okV (a := 404) rfl rfl (show (SH1 404).1 = 12 by decide +kernel) rfl (by decide) rfl rfl ?_
      refine dw_enter rfl ?_
      refine rB_X12_isNight (fun B hB => ?_)
      refine hB _ _ _ _ _ _ ?_
      refine dw_okS rfl rfl rfl (by decide) rfl rfl ?_
      refine dw_enter rfl ?_
      refine rB_X12_isIn (fun B hB => ?_)
      refine rB_X12_isNight (fun B hB => ?_)
      refine rB_X12_part (fun B hB => ?_)
      refine rB_law (fun B hB => ?_)
      refine hB _ _ _ _ _ _ ?_
      exact law_z
    · refine dw_ite (fun h38 => ?_) (fun h38 => ?_)
      · refine rB_X11_part (fun B hB => ?_)
        refine rB_law (fun B hB => ?_)
        refine hB _ _ _ _ _ _ ?_
        refine dw_okV (a := 404) (as := [.int (xs 1), .int (xs 2), .int (xs 3), .int (xs 4), .int (xs 5)]) rfl rfl (show (SH1 404).1 = 12 by decide +kernel) rfl (by decide) rfl rfl ?_
        rw [hs]
        refine dw_enter rfl ?_
        refine rB_X12_part (fun B hB => ?_)
        refine hB _ _ _ _ _ _ ?_
        refine dw_okV (a := 404) rfl rfl (show (SH1 404).1 = 12 by decide +kernel) rfl (by decide) rfl rfl ?_
        refine dw_enter rfl ?_
        refine rB_X12_isNight (fun B hB => ?_)
        refine hB _ _ _ _ _ _ ?_
        refine dw_okS rfl rfl rfl (by decide) rfl rfl ?_
        refine dw_enter rfl ?_
        refine rB_X12_isIn (fun B hB => ?_)
        refine rB_X12_isNight (fun B hB => ?_)
        refine rB_X12_part (fun B hB => ?_)
        refine rB_law (fun B hB => ?_)
        refine hB _ _ _ _ _ _ ?_
        exact law_z
      · refine dw_ite (fun h39 => ?_) (fun h39 => ?_)
        · refine rB_X11_part (fun B hB => ?_)
          refine rB_law (fun B hB => ?_)
          refine hB _ _ _ _ _ _ ?_
          refine dw_okV (a := 404) (as := [.int (xs 1), .int (xs 2), .int (xs 3), .int (xs 4), .int (xs 5)]) rfl rfl (show (SH1 404).1 = 12 by decide +kernel) rfl (by decide) rfl rfl ?_
          rw [hs]
          refine dw_enter rfl ?_
          refine rB_X12_part (fun B hB => ?_)
          refine hB _ _ _ _ _ _ ?_
          refine dw_okV (a := 404) rfl rfl (show (SH1 404).1 = 12 by decide +kernel) rfl (by decide) rfl rfl ?_
          refine dw_enter rfl ?_
          refine rB_X12_isNight (fun B hB => ?_)
          refine hB _ _ _ _ _ _ ?_
          refine dw_okS rfl rfl rfl (by decide) rfl rfl ?_
          refine dw_enter rfl ?_
          refine rB_X12_isIn (fun B hB => ?_)
          refine rB_X12_isNight (fun B hB => ?_)
          refine rB_X12_part (fun B hB => ?_)
          refine rB_law (fun B hB => ?_)
          refine hB _ _ _ _ _ _ ?_
          exact law_z
        · refine dw_ite (fun h40 => ?_) (fun h40 => ?_)
          · refine rB_X11_part (fun B hB => ?_)
            refine rB_law (fun B hB => ?_)
            refine hB _ _ _ _ _ _ ?_
            refine dw_okV (a := 404) (as := [.int (xs 1), .int (xs 2), .int (xs 3), .int (xs 4), .int (xs 5)]) rfl rfl (show (SH1 404).1 = 12 by decide +kernel) rfl (by decide) rfl rfl ?_
            rw [hs]
            refine dw_enter rfl ?_
            refine rB_X12_part (fun B hB => ?_)
            refine hB _ _ _ _ _ _ ?_
            refine dw_okV (a := 404) rfl rfl (show (SH1 404).1 = 12 by decide +kernel) rfl (by decide) rfl rfl ?_
            refine dw_enter rfl ?_
            refine rB_X12_isNight (fun B hB => ?_)
            refine hB _ _ _ _ _ _ ?_
            refine dw_okS rfl rfl rfl (by decide) rfl rfl ?_
            refine dw_enter rfl ?_
            refine rB_X12_isIn (fun B hB => ?_)
            refine rB_X12_isNight (fun B hB => ?_)
            refine rB_X12_part (fun B hB => ?_)
            refine rB_law (fun B hB => ?_)
            refine hB _ _ _ _ _ _ ?_
            exact law_z
          · refine rB_X11_part (fun B hB => ?_)
            refine dw_ite (fun h41 => ?_) (fun h41 => ?_)
            · refine rB_law (fun B hB => ?_)
              refine hB _ _ _ _ _ _ ?_
              refine dw_okV (a := 404) (as := [.int (xs 1), .int (xs 2), .int (xs 3), .int (xs 4), .int (xs 5)]) rfl rfl (show (SH1 404).1 = 12 by decide +kernel) rfl (by decide) rfl rfl ?_
              rw [hs]
              refine dw_enter rfl ?_
              refine rB_X12_part (fun B hB => ?_)
              refine hB _ _ _ _ _ _ ?_
              refine dw_okV (a := 404) rfl rfl (show (SH1 404).1 = 12 by decide +kernel) rfl (by decide) rfl rfl ?_
              refine dw_enter rfl ?_
              refine rB_X12_isNight (fun B hB => ?_)
              refine hB _ _ _ _ _ _ ?_
              refine dw_okS rfl rfl rfl (by decide) rfl rfl ?_
              refine dw_enter rfl ?_
              refine rB_X12_isIn (fun B hB => ?_)
              refine rB_X12_isNight (fun B hB => ?_)
              refine rB_X12_part (fun B hB => ?_)
              refine rB_law (fun B hB => ?_)
              refine hB _ _ _ _ _ _ ?_
              exact law_z
            · refine hB _ _ _ _ _ _ ?_
              refine dw_okS rfl rfl rfl (by decide) rfl rfl ?_
              refine dw_enter rfl ?_
              refine rB_X11_isStory (fun B hB => ?_)
              refine dw_ite (fun h42 => ?_) (fun h42 => ?_)
              · refine rB_X11_part (fun B hB => ?_)
                refine rB_law (fun B hB => ?_)
                refine hB _ _ _ _ _ _ ?_
                refine dw_okV (a := 404) (as := [.int (xs 1), .int (xs 2), .int (xs 3), .int (xs 4), .int (xs 5)]) rfl rfl (show (SH1 404).1 = 12 by decide +kernel) rfl (by decide) rfl rfl ?_
                rw [hs]
                refine dw_enter rfl ?_
                refine rB_X12_part (fun B hB => ?_)
                refine hB _ _ _ _ _ _ ?_
                refine dw_okV (a := 404) rfl rfl (show (SH1 404).1 = 12 by decide +kernel) rfl (by decide) rfl rfl ?_
                refine dw_enter rfl ?_
                refine rB_X12_isNight (fun B hB => ?_)
                refine hB _ _ _ _ _ _ ?_
                refine dw_okS rfl rfl rfl (by decide) rfl rfl ?_
                refine dw_enter rfl ?_
                refine rB_X12_isIn (fun B hB => ?_)
                refine rB_X12_isNight (fun B hB => ?_)
                refine rB_X12_part (fun B hB => ?_)
                refine rB_law (fun B hB => ?_)
                refine hB _ _ _ _ _ _ ?_
                exact law_z
              · refine dw_ite (fun h43 => ?_) (fun h43 => ?_)
                · refine rB_X11_part (fun B hB => ?_)
                  refine rB_law (fun B hB => ?_)
                  refine hB _ _ _ _ _ _ ?_
                  refine dw_okV (a := 404) (as := [.int (xs 1), .int (xs 2), .int (xs 3), .int (xs 4), .int (xs 5)]) rfl rfl (show (SH1 404).1 = 12 by decide +kernel) rfl (by decide) rfl rfl ?_
                  rw [hs]
                  refine dw_enter rfl ?_
                  refine rB_X12_part (fun B hB => ?_)
                  refine hB _ _ _ _ _ _ ?_
                  refine dw_okV (a := 404) rfl rfl (show (SH1 404).1 = 12 by decide +kernel) rfl (by decide) rfl rfl ?_
                  refine dw_enter rfl ?_
                  refine rB_X12_isNight (fun B hB => ?_)
                  refine hB _ _ _ _ _ _ ?_
                  refine dw_okS rfl rfl rfl (by decide) rfl rfl ?_
                  refine dw_enter rfl ?_
                  refine rB_X12_isIn (fun B hB => ?_)
                  refine rB_X12_isNight (fun B hB => ?_)
                  refine rB_X12_part (fun B hB => ?_)
                  refine rB_law (fun B hB => ?_)
                  refine hB _ _ _ _ _ _ ?_
                  exact law_z
                · refine rB_X11_part (fun B hB => ?_)
                  refine hB _ _ _ _ _ _ ?_
                  refine dw_okS rfl rfl rfl (by decide) rfl rfl ?_
                  refine dw_enter rfl ?_
                  refine rB_X11_isStory (fun B hB => ?_)
                  refine dw_ite (fun h44 => ?_) (fun h44 => ?_)
                  · refine rB_X11_part (fun B hB => ?_)
                    refine rB_law (fun B hB => ?_)
                    refine hB _ _ _ _ _ _ ?_
                    refine dw_okV (a := 404) (as := [.int (xs 1), .int (xs 2), .int (xs 3), .int (xs 4), .int (xs 5)]) rfl rfl (show (SH1 404).1 = 12 by decide +kernel) rfl (by decide) rfl rfl ?_
                    rw [hs]
                    refine dw_enter rfl ?_
                    refine rB_X12_part (fun B hB => ?_)
                    refine hB _ _ _ _ _ _ ?_
                    refine dw_okV (a := 404) rfl rfl (show (SH1 404).1 = 12 by decide +kernel) rfl (by decide) rfl rfl ?_
                    refine dw_enter rfl ?_
                    refine rB_X12_isNight (fun B hB => ?_)
                    refine hB _ _ _ _ _ _ ?_
                    refine dw_okS rfl rfl rfl (by decide) rfl rfl ?_
                    refine dw_enter rfl ?_
                    refine rB_X12_isIn (fun B hB => ?_)
                    refine rB_X12_isNight (fun B hB => ?_)
                    refine rB_X12_part (fun B hB => ?_)
                    refine rB_law (fun B hB => ?_)
                    refine hB _ _ _ _ _ _ ?_
                    exact law_z
                  · refine dw_ite (fun h45 => ?_) (fun h45 => ?_)
                    · refine rB_X11_part (fun B hB => ?_)
                      refine rB_law (fun B hB => ?_)
                      refine hB _ _ _ _ _ _ ?_
                      refine dw_okV (a := 404) (as := [.int (xs 1), .int (xs 2), .int (xs 3), .int (xs 4), .int (xs 5)]) rfl rfl (show (SH1 404).1 = 12 by decide +kernel) rfl (by decide) rfl rfl ?_
                      rw [hs]
                      refine dw_enter rfl ?_
                      refine rB_X12_part (fun B hB => ?_)
                      refine hB _ _ _ _ _ _ ?_
                      refine dw_okV (a := 404) rfl rfl (show (SH1 404).1 = 12 by decide +kernel) rfl (by decide) rfl rfl ?_
                      refine dw_enter rfl ?_
                      refine rB_X12_isNight (fun B hB => ?_)
                      refine hB _ _ _ _ _ _ ?_
                      refine dw_okS rfl rfl rfl (by decide) rfl rfl ?_
                      refine dw_enter rfl ?_
                      refine rB_X12_isIn (fun B hB => ?_)
                      refine rB_X12_isNight (fun B hB => ?_)
                      refine rB_X12_part (fun B hB => ?_)
                      refine rB_law (fun B hB => ?_)
                      refine hB _ _ _ _ _ _ ?_
                      exact law_z
                    · refine rB_X11_part (fun B hB => ?_)
                      refine hB _ _ _ _ _ _ ?_
                      refine dw_okV (a := 0) rfl rfl (show (SH1 0).1 = 11 by decide +kernel) rfl (by decide) rfl rfl ?_
                      refine dw_enter rfl ?_
                      refine rB_X11_start (fun B hB => ?_)
                      refine hB _ _ _ _ _ _ ?_
                      refine dw_okV (a := 3) rfl rfl (show (SH1 3).1 = 8 by decide +kernel) rfl (by decide) rfl rfl ?_
                      refine dw_enter rfl ?_
                      refine rB_X8_nightOf (fun B hB => ?_)
                      refine rB_X11_start (fun B hB => ?_)
                      refine (fun (_ : _ ∨ _) => ?_)
                      refine rB_X11_part (fun B hB => ?_)
                      refine rB_law (fun B hB => ?_)
                      refine hB _ _ _ _ _ _ ?_
                      refine dw_okV (a := 404) (as := [.int (xs 1), .int (xs 2), .int (xs 3), .int (xs 4), .int (xs 5)]) rfl rfl (show (SH1 404).1 = 12 by decide +kernel) rfl (by decide) rfl rfl ?_
                      rw [hs]
                      refine dw_enter rfl ?_
                      refine rB_X12_part (fun B hB => ?_)
                      refine hB _ _ _ _ _ _ ?_
                      refine dw_okV (a := 404) rfl rfl (show (SH1 404).1 = 12 by decide +kernel) rfl (by decide) rfl rfl ?_
                      refine dw_enter rfl ?_
                      refine rB_X12_isNight (fun B hB => ?_)
                      refine hB _ _ _ _ _ _ ?_
                      refine dw_okS rfl rfl rfl (by decide) rfl rfl ?_
                      refine dw_enter rfl ?_
                      refine rB_X12_isIn (fun B hB => ?_)
                      refine rB_X12_isNight (fun B hB => ?_)
                      refine rB_X12_part (fun B hB => ?_)
                      refine rB_law (fun B hB => ?_)
                      refine hB _ _ _ _ _ _ ?_
                      exact law_z
  · refine rB_law (fun B hB => ?_)
    refine hB _ _ _ _ _ _ ?_
    refine dw_okV (a := 0) (as := [.int (xs 1), .int (xs 2), .int (xs 3), .int (xs 4), .int (xs 5)]) rfl rfl (show (SH1 0).1 = 11 by decide +kernel) rfl (by decide) rfl rfl ?_
    rw [hs]
    refine dw_enter rfl ?_
    refine rB_X11_part (fun B hB => ?_)
    refine hB _ _ _ _ _ _ ?_
    refine dw_okV (a := 4) rfl rfl (show (SH1 4).1 = 0 by decide +kernel) rfl (by decide) rfl rfl ?_
    refine dw_enter rfl ?_
    refine rB_X0_cellAt (fun B hB => ?_)
    refine dw_ite (fun h46 => ?_) (fun h46 => ?_)
    · refine rB_X11_part (fun B hB => ?_)
      refine rB_law (fun B hB => ?_)
      refine hB _ _ _ _ _ _ ?_
      refine dw_okV (a := 404) (as := [.int (xs 1), .int (xs 2), .int (xs 3), .int (xs 4), .int (xs 5)]) rfl rfl (show (SH1 404).1 = 12 by decide +kernel) rfl (by decide) rfl rfl ?_
      rw [hs]
      refine dw_enter rfl ?_
      refine rB_X12_part (fun B hB => ?_)
      refine hB _ _ _ _ _ _ ?_
      refine dw_okV (a := 404) rfl rfl (show (SH1 404).1 = 12 by decide +kernel) rfl (by decide) rfl rfl ?_
      refine dw_enter rfl ?_
      refine rB_X12_isNight (fun B hB => ?_)
      refine hB _ _ _ _ _ _ ?_
      refine dw_okS rfl rfl rfl (by decide) rfl rfl ?_
      refine dw_enter rfl ?_
      refine rB_X12_isIn (fun B hB => ?_)
      refine rB_X12_isNight (fun B hB => ?_)
      refine rB_X12_part (fun B hB => ?_)
      refine rB_law (fun B hB => ?_)
      refine hB _ _ _ _ _ _ ?_
      exact law_z
    · refine dw_ite (fun h47 => ?_) (fun h47 => ?_)
      · refine rB_X11_part (fun B hB => ?_)
        refine rB_law (fun B hB => ?_)
        refine hB _ _ _ _ _ _ ?_
        refine dw_okV (a := 404) (as := [.int (xs 1), .int (xs 2), .int (xs 3), .int (xs 4), .int (xs 5)]) rfl rfl (show (SH1 404).1 = 12 by decide +kernel) rfl (by decide) rfl rfl ?_
        rw [hs]
        refine dw_enter rfl ?_
        refine rB_X12_part (fun B hB => ?_)
        refine hB _ _ _ _ _ _ ?_
        refine dw_okV (a := 404) rfl rfl (show (SH1 404).1 = 12 by decide +kernel) rfl (by decide) rfl rfl ?_
        refine dw_enter rfl ?_
        refine rB_X12_isNight (fun B hB => ?_)
        refine hB _ _ _ _ _ _ ?_
        refine dw_okS rfl rfl rfl (by decide) rfl rfl ?_
        refine dw_enter rfl ?_
        refine rB_X12_isIn (fun B hB => ?_)
        refine rB_X12_isNight (fun B hB => ?_)
        refine rB_X12_part (fun B hB => ?_)
        refine rB_law (fun B hB => ?_)
        refine hB _ _ _ _ _ _ ?_
        exact law_z
      · refine dw_ite (fun h48 => ?_) (fun h48 => ?_)
        · refine rB_X11_part (fun B hB => ?_)
          refine rB_law (fun B hB => ?_)
          refine hB _ _ _ _ _ _ ?_
          refine dw_okV (a := 404) (as := [.int (xs 1), .int (xs 2), .int (xs 3), .int (xs 4), .int (xs 5)]) rfl rfl (show (SH1 404).1 = 12 by decide +kernel) rfl (by decide) rfl rfl ?_
          rw [hs]
          refine dw_enter rfl ?_
          refine rB_X12_part (fun B hB => ?_)
          refine hB _ _ _ _ _ _ ?_
          refine dw_okV (a := 404) rfl rfl (show (SH1 404).1 = 12 by decide +kernel) rfl (by decide) rfl rfl ?_
          refine dw_enter rfl ?_
          refine rB_X12_isNight (fun B hB => ?_)
          refine hB _ _ _ _ _ _ ?_
          refine dw_okS rfl rfl rfl (by decide) rfl rfl ?_
          refine dw_enter rfl ?_
          refine rB_X12_isIn (fun B hB => ?_)
          refine rB_X12_isNight (fun B hB => ?_)
          refine rB_X12_part (fun B hB => ?_)
          refine rB_law (fun B hB => ?_)
          refine hB _ _ _ _ _ _ ?_
          exact law_z
        · refine dw_ite (fun h49 => ?_) (fun h49 => ?_)
          · refine rB_X11_part (fun B hB => ?_)
            refine rB_law (fun B hB => ?_)
            refine hB _ _ _ _ _ _ ?_
            refine dw_okV (a := 404) (as := [.int (xs 1), .int (xs 2), .int (xs 3), .int (xs 4), .int (xs 5)]) rfl rfl (show (SH1 404).1 = 12 by decide +kernel) rfl (by decide) rfl rfl ?_
            rw [hs]
            refine dw_enter rfl ?_
            refine rB_X12_part (fun B hB => ?_)
            refine hB _ _ _ _ _ _ ?_
            refine dw_okV (a := 404) rfl rfl (show (SH1 404).1 = 12 by decide +kernel) rfl (by decide) rfl rfl ?_
            refine dw_enter rfl ?_
            refine rB_X12_isNight (fun B hB => ?_)
            refine hB _ _ _ _ _ _ ?_
            refine dw_okS rfl rfl rfl (by decide) rfl rfl ?_
            refine dw_enter rfl ?_
            refine rB_X12_isIn (fun B hB => ?_)
            refine rB_X12_isNight (fun B hB => ?_)
            refine rB_X12_part (fun B hB => ?_)
            refine rB_law (fun B hB => ?_)
            refine hB _ _ _ _ _ _ ?_
            exact law_z
          · refine rB_X11_part (fun B hB => ?_)
            refine dw_ite (fun h50 => ?_) (fun h50 => ?_)
            · refine rB_law (fun B hB => ?_)
              refine hB _ _ _ _ _ _ ?_
              refine dw_okV (a := 404) (as := [.int (xs 1), .int (xs 2), .int (xs 3), .int (xs 4), .int (xs 5)]) rfl rfl (show (SH1 404).1 = 12 by decide +kernel) rfl (by decide) rfl rfl ?_
              rw [hs]
              refine dw_enter rfl ?_
              refine rB_X12_part (fun B hB => ?_)
              refine hB _ _ _ _ _ _ ?_
              refine dw_okV (a := 404) rfl rfl (show (SH1 404).1 = 12 by decide +kernel) rfl (by decide) rfl rfl ?_
              refine dw_enter rfl ?_
              refine rB_X12_isNight (fun B hB => ?_)
              refine hB _ _ _ _ _ _ ?_
              refine dw_okS rfl rfl rfl (by decide) rfl rfl ?_
              refine dw_enter rfl ?_
              refine rB_X12_isIn (fun B hB => ?_)
              refine rB_X12_isNight (fun B hB => ?_)
              refine rB_X12_part (fun B hB => ?_)
              refine rB_law (fun B hB => ?_)
              refine hB _ _ _ _ _ _ ?_
              exact law_z
            · refine hB _ _ _ _ _ _ ?_
              refine dw_okS rfl rfl rfl (by decide) rfl rfl ?_
              refine dw_enter rfl ?_
              refine rB_X11_isStory (fun B hB => ?_)
              refine dw_ite (fun h51 => ?_) (fun h51 => ?_)
              · refine rB_X11_part (fun B hB => ?_)
                refine rB_law (fun B hB => ?_)
                refine hB _ _ _ _ _ _ ?_
                refine dw_okV (a := 404) (as := [.int (xs 1), .int (xs 2), .int (xs 3), .int (xs 4), .int (xs 5)]) rfl rfl (show (SH1 404).1 = 12 by decide +kernel) rfl (by decide) rfl rfl ?_
                rw [hs]
                refine dw_enter rfl ?_
                refine rB_X12_part (fun B hB => ?_)
                refine hB _ _ _ _ _ _ ?_
                refine dw_okV (a := 404) rfl rfl (show (SH1 404).1 = 12 by decide +kernel) rfl (by decide) rfl rfl ?_
                refine dw_enter rfl ?_
                refine rB_X12_isNight (fun B hB => ?_)
                refine hB _ _ _ _ _ _ ?_
                refine dw_okS rfl rfl rfl (by decide) rfl rfl ?_
                refine dw_enter rfl ?_
                refine rB_X12_isIn (fun B hB => ?_)
                refine rB_X12_isNight (fun B hB => ?_)
                refine rB_X12_part (fun B hB => ?_)
                refine rB_law (fun B hB => ?_)
                refine hB _ _ _ _ _ _ ?_
                exact law_z
              · refine dw_ite (fun h52 => ?_) (fun h52 => ?_)
                · refine rB_X11_part (fun B hB => ?_)
                  refine rB_law (fun B hB => ?_)
                  refine hB _ _ _ _ _ _ ?_
                  refine dw_okV (a := 404) (as := [.int (xs 1), .int (xs 2), .int (xs 3), .int (xs 4), .int (xs 5)]) rfl rfl (show (SH1 404).1 = 12 by decide +kernel) rfl (by decide) rfl rfl ?_
                  rw [hs]
                  refine dw_enter rfl ?_
                  refine rB_X12_part (fun B hB => ?_)
                  refine hB _ _ _ _ _ _ ?_
                  refine dw_okV (a := 404) rfl rfl (show (SH1 404).1 = 12 by decide +kernel) rfl (by decide) rfl rfl ?_
                  refine dw_enter rfl ?_
                  refine rB_X12_isNight (fun B hB => ?_)
                  refine hB _ _ _ _ _ _ ?_
                  refine dw_okS rfl rfl rfl (by decide) rfl rfl ?_
                  refine dw_enter rfl ?_
                  refine rB_X12_isIn (fun B hB => ?_)
                  refine rB_X12_isNight (fun B hB => ?_)
                  refine rB_X12_part (fun B hB => ?_)
                  refine rB_law (fun B hB => ?_)
                  refine hB _ _ _ _ _ _ ?_
                  exact law_z
                · refine rB_X11_part (fun B hB => ?_)
                  refine hB _ _ _ _ _ _ ?_
                  refine dw_okS rfl rfl rfl (by decide) rfl rfl ?_
                  refine dw_enter rfl ?_
                  refine rB_X11_isStory (fun B hB => ?_)
                  refine dw_ite (fun h53 => ?_) (fun h53 => ?_)
                  · refine rB_X11_part (fun B hB => ?_)
                    refine rB_law (fun B hB => ?_)
                    refine hB _ _ _ _ _ _ ?_
                    refine dw_okV (a := 404) (as := [.int (xs 1), .int (xs 2), .int (xs 3), .int (xs 4), .int (xs 5)]) rfl rfl (show (SH1 404).1 = 12 by decide +kernel) rfl (by decide) rfl rfl ?_
                    rw [hs]
                    refine dw_enter rfl ?_
                    refine rB_X12_part (fun B hB => ?_)
                    refine hB _ _ _ _ _ _ ?_
                    refine dw_okV (a := 404) rfl rfl (show (SH1 404).1 = 12 by decide +kernel) rfl (by decide) rfl rfl ?_
                    refine dw_enter rfl ?_
                    refine rB_X12_isNight (fun B hB => ?_)
                    refine hB _ _ _ _ _ _ ?_
                    refine dw_okS rfl rfl rfl (by decide) rfl rfl ?_
                    refine dw_enter rfl ?_
                    refine rB_X12_isIn (fun B hB => ?_)
                    refine rB_X12_isNight (fun B hB => ?_)
                    refine rB_X12_part (fun B hB => ?_)
                    refine rB_law (fun B hB => ?_)
                    refine hB _ _ _ _ _ _ ?_
                    exact law_z
                  · refine dw_ite (fun h54 => ?_) (fun h54 => ?_)
                    · refine rB_X11_part (fun B hB => ?_)
                      refine rB_law (fun B hB => ?_)
                      refine hB _ _ _ _ _ _ ?_
                      refine dw_okV (a := 404) (as := [.int (xs 1), .int (xs 2), .int (xs 3), .int (xs 4), .int (xs 5)]) rfl rfl (show (SH1 404).1 = 12 by decide +kernel) rfl (by decide) rfl rfl ?_
                      rw [hs]
                      refine dw_enter rfl ?_
                      refine rB_X12_part (fun B hB => ?_)
                      refine hB _ _ _ _ _ _ ?_
                      refine dw_okV (a := 404) rfl rfl (show (SH1 404).1 = 12 by decide +kernel) rfl (by decide) rfl rfl ?_
                      refine dw_enter rfl ?_
                      refine rB_X12_isNight (fun B hB => ?_)
                      refine hB _ _ _ _ _ _ ?_
                      refine dw_okS rfl rfl rfl (by decide) rfl rfl ?_
                      refine dw_enter rfl ?_
                      refine rB_X12_isIn (fun B hB => ?_)
                      refine rB_X12_isNight (fun B hB => ?_)
                      refine rB_X12_part (fun B hB => ?_)
                      refine rB_law (fun B hB => ?_)
                      refine hB _ _ _ _ _ _ ?_
                      exact law_z
                    · refine rB_X11_part (fun B hB => ?_)
                      refine hB _ _ _ _ _ _ ?_
                      refine dw_okV (a := 0) rfl rfl (show (SH1 0).1 = 11 by decide +kernel) rfl (by decide) rfl rfl ?_
                      refine dw_enter rfl ?_
                      refine rB_X11_start (fun B hB => ?_)
                      refine hB _ _ _ _ _ _ ?_
                      refine dw_okV (a := 3) rfl rfl (show (SH1 3).1 = 8 by decide +kernel) rfl (by decide) rfl rfl ?_
                      refine dw_enter rfl ?_
                      refine rB_X8_nightOf (fun B hB => ?_)
                      refine rB_X11_start (fun B hB => ?_)
                      refine (fun (_ : _ ∨ _) => ?_)
                      refine rB_X11_part (fun B hB => ?_)
                      refine rB_law (fun B hB => ?_)
                      refine hB _ _ _ _ _ _ ?_
                      refine dw_okV (a := 404) (as := [.int (xs 1), .int (xs 2), .int (xs 3), .int (xs 4), .int (xs 5)]) rfl rfl (show (SH1 404).1 = 12 by decide +kernel) rfl (by decide) rfl rfl ?_
                      rw [hs]
                      refine dw_enter rfl ?_
                      refine rB_X12_part (fun B hB => ?_)
                      refine hB _ _ _ _ _ _ ?_
                      refine dw_okV (a := 404) rfl rfl (show (SH1 404).1 = 12 by decide +kernel) rfl (by decide) rfl rfl ?_
                      refine dw_enter rfl ?_
                      refine rB_X12_isNight (fun B hB => ?_)
                      refine hB _ _ _ _ _ _ ?_
                      refine dw_okS rfl rfl rfl (by decide) rfl rfl ?_
                      refine dw_enter rfl ?_
                      refine rB_X12_isIn (fun B hB => ?_)
                      refine rB_X12_isNight (fun B hB => ?_)
                      refine rB_X12_part (fun B hB => ?_)
                      refine rB_law (fun B hB => ?_)
                      refine hB _ _ _ _ _ _ ?_
                      exact law_z
  · refine rB_law (fun B hB => ?_)
    refine hB _ _ _ _ _ _ ?_
    refine dw_okV (a := 0) (as := [.int (xs 1), .int (xs 2), .int (xs 3), .int (xs 4), .int (xs 5)]) rfl rfl (show (SH1 0).1 = 11 by decide +kernel) rfl (by decide) rfl rfl ?_
    refine dw_enter rfl ?_
    refine rB_X11_part (fun B hB => ?_)
    refine hB _ _ _ _ _ _ ?_
    refine dw_okV (a := 4) rfl rfl (show (SH1 4).1 = 0 by decide +kernel) rfl (by decide) rfl rfl ?_
    refine dw_enter rfl ?_
    refine rB_X0_cellAt (fun B hB => ?_)
    refine dw_ite (fun h55 => ?_) (fun h55 => ?_)
    · refine rB_X11_part (fun B hB => ?_)
      refine rB_law (fun B hB => ?_)
      refine hB _ _ _ _ _ _ ?_
      refine dw_okV (a := 404) (as := [.int (xs 1), .int (xs 2), .int (xs 3), .int (xs 4), .int (xs 5)]) rfl rfl (show (SH1 404).1 = 12 by decide +kernel) rfl (by decide) rfl rfl ?_
      refine dw_enter rfl ?_
      refine rB_X12_part (fun B hB => ?_)
      refine hB _ _ _ _ _ _ ?_
      refine dw_okV (a := 404) rfl rfl (show (SH1 404).1 = 12 by decide +kernel) rfl (by decide) rfl rfl ?_
      refine dw_enter rfl ?_
      refine rB_X12_isNight (fun B hB => ?_)
      refine hB _ _ _ _ _ _ ?_
      refine dw_okS rfl rfl rfl (by decide) rfl rfl ?_
      refine dw_enter rfl ?_
      refine rB_X12_isIn (fun B hB => ?_)
      refine dw_itp n0 ?_
      refine rB_X12_isNight (fun B hB => ?_)
      refine rB_X12_part (fun B hB => ?_)
      refine rB_law (fun B hB => ?_)
      refine hB _ _ _ _ _ _ ?_
      exact law_z
    · refine dw_ite (fun h56 => ?_) (fun h56 => ?_)
      · refine rB_X11_part (fun B hB => ?_)
        refine rB_law (fun B hB => ?_)
        refine hB _ _ _ _ _ _ ?_
        refine dw_okV (a := 404) (as := [.int (xs 1), .int (xs 2), .int (xs 3), .int (xs 4), .int (xs 5)]) rfl rfl (show (SH1 404).1 = 12 by decide +kernel) rfl (by decide) rfl rfl ?_
        refine dw_enter rfl ?_
        refine rB_X12_part (fun B hB => ?_)
        refine hB _ _ _ _ _ _ ?_
        refine dw_okV (a := 404) rfl rfl (show (SH1 404).1 = 12 by decide +kernel) rfl (by decide) rfl rfl ?_
        refine dw_enter rfl ?_
        refine rB_X12_isNight (fun B hB => ?_)
        refine hB _ _ _ _ _ _ ?_
        refine dw_okS rfl rfl rfl (by decide) rfl rfl ?_
        refine dw_enter rfl ?_
        refine rB_X12_isIn (fun B hB => ?_)
        refine dw_itp n0 ?_
        refine rB_X12_isNight (fun B hB => ?_)
        refine rB_X12_part (fun B hB => ?_)
        refine rB_law (fun B hB => ?_)
        refine hB _ _ _ _ _ _ ?_
        exact law_z
      · refine dw_ite (fun h57 => ?_) (fun h57 => ?_)
        · refine rB_X11_part (fun B hB => ?_)
          refine rB_law (fun B hB => ?_)
          refine hB _ _ _ _ _ _ ?_
          refine dw_okV (a := 404) (as := [.int (xs 1), .int (xs 2), .int (xs 3), .int (xs 4), .int (xs 5)]) rfl rfl (show (SH1 404).1 = 12 by decide +kernel) rfl (by decide) rfl rfl ?_
          refine dw_enter rfl ?_
          refine rB_X12_part (fun B hB => ?_)
          refine hB _ _ _ _ _ _ ?_
          refine dw_okV (a := 404) rfl rfl (show (SH1 404).1 = 12 by decide +kernel) rfl (by decide) rfl rfl ?_
          refine dw_enter rfl ?_
          refine rB_X12_isNight (fun B hB => ?_)
          refine hB _ _ _ _ _ _ ?_
          refine dw_okS rfl rfl rfl (by decide) rfl rfl ?_
          refine dw_enter rfl ?_
          refine rB_X12_isIn (fun B hB => ?_)
          refine dw_itp n0 ?_
          refine rB_X12_isNight (fun B hB => ?_)
          refine rB_X12_part (fun B hB => ?_)
          refine rB_law (fun B hB => ?_)
          refine hB _ _ _ _ _ _ ?_
          exact law_z
        · refine dw_ite (fun h58 => ?_) (fun h58 => ?_)
          · refine rB_X11_part (fun B hB => ?_)
            refine rB_law (fun B hB => ?_)
            refine hB _ _ _ _ _ _ ?_
            refine dw_okV (a := 404) (as := [.int (xs 1), .int (xs 2), .int (xs 3), .int (xs 4), .int (xs 5)]) rfl rfl (show (SH1 404).1 = 12 by decide +kernel) rfl (by decide) rfl rfl ?_
            refine dw_enter rfl ?_
            refine rB_X12_part (fun B hB => ?_)
            refine hB _ _ _ _ _ _ ?_
            refine dw_okV (a := 404) rfl rfl (show (SH1 404).1 = 12 by decide +kernel) rfl (by decide) rfl rfl ?_
            refine dw_enter rfl ?_
            refine rB_X12_isNight (fun B hB => ?_)
            refine hB _ _ _ _ _ _ ?_
            refine dw_okS rfl rfl rfl (by decide) rfl rfl ?_
            refine dw_enter rfl ?_
            refine rB_X12_isIn (fun B hB => ?_)
            refine dw_itp n0 ?_
            refine rB_X12_isNight (fun B hB => ?_)
            refine rB_X12_part (fun B hB => ?_)
            refine rB_law (fun B hB => ?_)
            refine hB _ _ _ _ _ _ ?_
            exact law_z
          · refine rB_X11_part (fun B hB => ?_)
            refine dw_ite (fun h59 => ?_) (fun h59 => ?_)
            · refine rB_law (fun B hB => ?_)
              refine hB _ _ _ _ _ _ ?_
              refine dw_okV (a := 404) (as := [.int (xs 1), .int (xs 2), .int (xs 3), .int (xs 4), .int (xs 5)]) rfl rfl (show (SH1 404).1 = 12 by decide +kernel) rfl (by decide) rfl rfl ?_
              refine dw_enter rfl ?_
              refine rB_X12_part (fun B hB => ?_)
              refine hB _ _ _ _ _ _ ?_
              refine dw_okV (a := 404) rfl rfl (show (SH1 404).1 = 12 by decide +kernel) rfl (by decide) rfl rfl ?_
              refine dw_enter rfl ?_
              refine rB_X12_isNight (fun B hB => ?_)
              refine hB _ _ _ _ _ _ ?_
              refine dw_okS rfl rfl rfl (by decide) rfl rfl ?_
              refine dw_enter rfl ?_
              refine rB_X12_isIn (fun B hB => ?_)
              refine dw_itp n0 ?_
              refine rB_X12_isNight (fun B hB => ?_)
              refine rB_X12_part (fun B hB => ?_)
              refine rB_law (fun B hB => ?_)
              refine hB _ _ _ _ _ _ ?_
              exact law_z
            · refine hB _ _ _ _ _ _ ?_
              refine dw_okS rfl rfl rfl (by decide) rfl rfl ?_
              refine dw_enter rfl ?_
              refine rB_X11_isStory (fun B hB => ?_)
              refine dw_ite (fun h60 => ?_) (fun h60 => ?_)
              · refine rB_X11_part (fun B hB => ?_)
                refine rB_law (fun B hB => ?_)
                refine hB _ _ _ _ _ _ ?_
                refine dw_okV (a := 404) (as := [.int (xs 1), .int (xs 2), .int (xs 3), .int (xs 4), .int (xs 5)]) rfl rfl (show (SH1 404).1 = 12 by decide +kernel) rfl (by decide) rfl rfl ?_
                refine dw_enter rfl ?_
                refine rB_X12_part (fun B hB => ?_)
                refine hB _ _ _ _ _ _ ?_
                refine dw_okV (a := 404) rfl rfl (show (SH1 404).1 = 12 by decide +kernel) rfl (by decide) rfl rfl ?_
                refine dw_enter rfl ?_
                refine rB_X12_isNight (fun B hB => ?_)
                refine hB _ _ _ _ _ _ ?_
                refine dw_okS rfl rfl rfl (by decide) rfl rfl ?_
                refine dw_enter rfl ?_
                refine rB_X12_isIn (fun B hB => ?_)
                refine dw_itp n0 ?_
                refine rB_X12_isNight (fun B hB => ?_)
                refine rB_X12_part (fun B hB => ?_)
                refine rB_law (fun B hB => ?_)
                refine hB _ _ _ _ _ _ ?_
                exact law_z
              · refine dw_ite (fun h61 => ?_) (fun h61 => ?_)
                · refine rB_X11_part (fun B hB => ?_)
                  refine rB_law (fun B hB => ?_)
                  refine hB _ _ _ _ _ _ ?_
                  refine dw_okV (a := 404) (as := [.int (xs 1), .int (xs 2), .int (xs 3), .int (xs 4), .int (xs 5)]) rfl rfl (show (SH1 404).1 = 12 by decide +kernel) rfl (by decide) rfl rfl ?_
                  refine dw_enter rfl ?_
                  refine rB_X12_part (fun B hB => ?_)
                  refine hB _ _ _ _ _ _ ?_
                  refine dw_okV (a := 404) rfl rfl (show (SH1 404).1 = 12 by decide +kernel) rfl (by decide) rfl rfl ?_
                  refine dw_enter rfl ?_
                  refine rB_X12_isNight (fun B hB => ?_)
                  refine hB _ _ _ _ _ _ ?_
                  refine dw_okS rfl rfl rfl (by decide) rfl rfl ?_
                  refine dw_enter rfl ?_
                  refine rB_X12_isIn (fun B hB => ?_)
                  refine dw_itp n0 ?_
                  refine rB_X12_isNight (fun B hB => ?_)
                  refine rB_X12_part (fun B hB => ?_)
                  refine rB_law (fun B hB => ?_)
                  refine hB _ _ _ _ _ _ ?_
                  exact law_z
                · refine rB_X11_part (fun B hB => ?_)
                  refine hB _ _ _ _ _ _ ?_
                  refine dw_okS rfl rfl rfl (by decide) rfl rfl ?_
                  refine dw_enter rfl ?_
                  refine rB_X11_isStory (fun B hB => ?_)
                  refine dw_ite (fun h62 => ?_) (fun h62 => ?_)
                  · refine rB_X11_part (fun B hB => ?_)
                    refine rB_law (fun B hB => ?_)
                    refine hB _ _ _ _ _ _ ?_
                    refine dw_okV (a := 404) (as := [.int (xs 1), .int (xs 2), .int (xs 3), .int (xs 4), .int (xs 5)]) rfl rfl (show (SH1 404).1 = 12 by decide +kernel) rfl (by decide) rfl rfl ?_
                    refine dw_enter rfl ?_
                    refine rB_X12_part (fun B hB => ?_)
                    refine hB _ _ _ _ _ _ ?_
                    refine dw_okV (a := 404) rfl rfl (show (SH1 404).1 = 12 by decide +kernel) rfl (by decide) rfl rfl ?_
                    refine dw_enter rfl ?_
                    refine rB_X12_isNight (fun B hB => ?_)
                    refine hB _ _ _ _ _ _ ?_
                    refine dw_okS rfl rfl rfl (by decide) rfl rfl ?_
                    refine dw_enter rfl ?_
                    refine rB_X12_isIn (fun B hB => ?_)
                    refine dw_itp n0 ?_
                    refine rB_X12_isNight (fun B hB => ?_)
                    refine rB_X12_part (fun B hB => ?_)
                    refine rB_law (fun B hB => ?_)
                    refine hB _ _ _ _ _ _ ?_
                    exact law_z
                  · refine dw_ite (fun h63 => ?_) (fun h63 => ?_)
                    · refine rB_X11_part (fun B hB => ?_)
                      refine rB_law (fun B hB => ?_)
                      refine hB _ _ _ _ _ _ ?_
                      refine dw_okV (a := 404) (as := [.int (xs 1), .int (xs 2), .int (xs 3), .int (xs 4), .int (xs 5)]) rfl rfl (show (SH1 404).1 = 12 by decide +kernel) rfl (by decide) rfl rfl ?_
                      refine dw_enter rfl ?_
                      refine rB_X12_part (fun B hB => ?_)
                      refine hB _ _ _ _ _ _ ?_
                      refine dw_okV (a := 404) rfl rfl (show (SH1 404).1 = 12 by decide +kernel) rfl (by decide) rfl rfl ?_
                      refine dw_enter rfl ?_
                      refine rB_X12_isNight (fun B hB => ?_)
                      refine hB _ _ _ _ _ _ ?_
                      refine dw_okS rfl rfl rfl (by decide) rfl rfl ?_
                      refine dw_enter rfl ?_
                      refine rB_X12_isIn (fun B hB => ?_)
                      refine dw_itp n0 ?_
                      refine rB_X12_isNight (fun B hB => ?_)
                      refine rB_X12_part (fun B hB => ?_)
                      refine rB_law (fun B hB => ?_)
                      refine hB _ _ _ _ _ _ ?_
                      exact law_z
                    · refine rB_X11_part (fun B hB => ?_)
                      refine hB _ _ _ _ _ _ ?_
                      refine dw_okV (a := 0) rfl rfl (show (SH1 0).1 = 11 by decide +kernel) rfl (by decide) rfl rfl ?_
                      refine dw_enter rfl ?_
                      refine rB_X11_start (fun B hB => ?_)
                      refine hB _ _ _ _ _ _ ?_
                      refine dw_okV (a := 3) rfl rfl (show (SH1 3).1 = 8 by decide +kernel) rfl (by decide) rfl rfl ?_
                      refine dw_enter rfl ?_
                      refine rB_X8_nightOf (fun B hB => ?_)
                      refine dw_itp n0 ?_
                      refine rB_X11_start (fun B hB => ?_)
                      refine rB_X11_part (fun B hB => ?_)
                      refine rB_law (fun B hB => ?_)
                      refine hB _ _ _ _ _ _ ?_
                      refine dw_okV (a := 404) (as := [.int (xs 1), .int (xs 2), .int (xs 3), .int (xs 4), .int (xs 5)]) rfl rfl (show (SH1 404).1 = 12 by decide +kernel) rfl (by decide) rfl rfl ?_
                      refine dw_enter rfl ?_
                      refine rB_X12_part (fun B hB => ?_)
                      refine hB _ _ _ _ _ _ ?_
                      refine dw_okV (a := 404) rfl rfl (show (SH1 404).1 = 12 by decide +kernel) rfl (by decide) rfl rfl ?_
                      refine dw_enter rfl ?_
                      refine rB_X12_isNight (fun B hB => ?_)
                      refine hB _ _ _ _ _ _ ?_
                      refine dw_okS rfl rfl rfl (by decide) rfl rfl ?_
                      refine dw_enter rfl ?_
                      refine rB_X12_isIn (fun B hB => ?_)
                      refine dw_itp n0 ?_
                      refine rB_X12_isNight (fun B hB => ?_)
                      refine rB_X12_part (fun B hB => ?_)
                      refine rB_law (fun B hB => ?_)
                      refine hB _ _ _ _ _ _ ?_
                      exact law_z
  · refine rB_law (fun B hB => ?_)
    refine hB _ _ _ _ _ _ ?_
    refine dw_okV (a := 0) (as := [.int (xs 1), .int (xs 2), .int (xs 3), .int (xs 4), .int (xs 5)]) rfl rfl (show (SH1 0).1 = 11 by decide +kernel) rfl (by decide) rfl rfl ?_
    refine dw_enter rfl ?_
    refine rB_X11_part (fun B hB => ?_)
    refine hB _ _ _ _ _ _ ?_
    refine dw_okV (a := 4) rfl rfl (show (SH1 4).1 = 0 by decide +kernel) rfl (by decide) rfl rfl ?_
    refine dw_enter rfl ?_
    refine rB_X0_cellAt (fun B hB => ?_)
    refine dw_ite (fun h64 => ?_) (fun h64 => ?_)
    · refine rB_X11_part (fun B hB => ?_)
      refine rB_law (fun B hB => ?_)
      refine hB _ _ _ _ _ _ ?_
      refine dw_okV (a := 404) (as := [.int (xs 1), .int (xs 2), .int (xs 3), .int (xs 4), .int (xs 5)]) rfl rfl (show (SH1 404).1 = 12 by decide +kernel) rfl (by decide) rfl rfl ?_
      refine dw_enter rfl ?_
      refine rB_X12_part (fun B hB => ?_)
      refine hB _ _ _ _ _ _ ?_
      refine dw_okV (a := 404) rfl rfl (show (SH1 404).1 = 12 by decide +kernel) rfl (by decide) rfl rfl ?_
      refine dw_enter rfl ?_
      refine rB_X12_isNight (fun B hB => ?_)
      refine hB _ _ _ _ _ _ ?_
      refine dw_okS rfl rfl rfl (by decide) rfl rfl ?_
      refine dw_enter rfl ?_
      refine rB_X12_isIn (fun B hB => ?_)
      refine dw_itn n1 ?_
      refine dw_itp n2 ?_
      refine rB_X12_isNight (fun B hB => ?_)
      refine rB_X12_part (fun B hB => ?_)
      refine rB_law (fun B hB => ?_)
      refine hB _ _ _ _ _ _ ?_
      exact law_z
    · refine dw_ite (fun h65 => ?_) (fun h65 => ?_)
      · refine rB_X11_part (fun B hB => ?_)
        refine rB_law (fun B hB => ?_)
        refine hB _ _ _ _ _ _ ?_
        refine dw_okV (a := 404) (as := [.int (xs 1), .int (xs 2), .int (xs 3), .int (xs 4), .int (xs 5)]) rfl rfl (show (SH1 404).1 = 12 by decide +kernel) rfl (by decide) rfl rfl ?_
        refine dw_enter rfl ?_
        refine rB_X12_part (fun B hB => ?_)
        refine hB _ _ _ _ _ _ ?_
        refine dw_okV (a := 404) rfl rfl (show (SH1 404).1 = 12 by decide +kernel) rfl (by decide) rfl rfl ?_
        refine dw_enter rfl ?_
        refine rB_X12_isNight (fun B hB => ?_)
        refine hB _ _ _ _ _ _ ?_
        refine dw_okS rfl rfl rfl (by decide) rfl rfl ?_
        refine dw_enter rfl ?_
        refine rB_X12_isIn (fun B hB => ?_)
        refine dw_itn n1 ?_
        refine dw_itp n2 ?_
        refine rB_X12_isNight (fun B hB => ?_)
        refine rB_X12_part (fun B hB => ?_)
        refine rB_law (fun B hB => ?_)
        refine hB _ _ _ _ _ _ ?_
        exact law_z
      · refine dw_ite (fun h66 => ?_) (fun h66 => ?_)
        · refine rB_X11_part (fun B hB => ?_)
          refine rB_law (fun B hB => ?_)
          refine hB _ _ _ _ _ _ ?_
          refine dw_okV (a := 404) (as := [.int (xs 1), .int (xs 2), .int (xs 3), .int (xs 4), .int (xs 5)]) rfl rfl (show (SH1 404).1 = 12 by decide +kernel) rfl (by decide) rfl rfl ?_
          refine dw_enter rfl ?_
          refine rB_X12_part (fun B hB => ?_)
          refine hB _ _ _ _ _ _ ?_
          refine dw_okV (a := 404) rfl rfl (show (SH1 404).1 = 12 by decide +kernel) rfl (by decide) rfl rfl ?_
          refine dw_enter rfl ?_
          refine rB_X12_isNight (fun B hB => ?_)
          refine hB _ _ _ _ _ _ ?_
          refine dw_okS rfl rfl rfl (by decide) rfl rfl ?_
          refine dw_enter rfl ?_
          refine rB_X12_isIn (fun B hB => ?_)
          refine dw_itn n1 ?_
          refine dw_itp n2 ?_
          refine rB_X12_isNight (fun B hB => ?_)
          refine rB_X12_part (fun B hB => ?_)
          refine rB_law (fun B hB => ?_)
          refine hB _ _ _ _ _ _ ?_
          exact law_z
        · refine dw_ite (fun h67 => ?_) (fun h67 => ?_)
          · refine rB_X11_part (fun B hB => ?_)
            refine rB_law (fun B hB => ?_)
            refine hB _ _ _ _ _ _ ?_
            refine dw_okV (a := 404) (as := [.int (xs 1), .int (xs 2), .int (xs 3), .int (xs 4), .int (xs 5)]) rfl rfl (show (SH1 404).1 = 12 by decide +kernel) rfl (by decide) rfl rfl ?_
            refine dw_enter rfl ?_
            refine rB_X12_part (fun B hB => ?_)
            refine hB _ _ _ _ _ _ ?_
            refine dw_okV (a := 404) rfl rfl (show (SH1 404).1 = 12 by decide +kernel) rfl (by decide) rfl rfl ?_
            refine dw_enter rfl ?_
            refine rB_X12_isNight (fun B hB => ?_)
            refine hB _ _ _ _ _ _ ?_
            refine dw_okS rfl rfl rfl (by decide) rfl rfl ?_
            refine dw_enter rfl ?_
            refine rB_X12_isIn (fun B hB => ?_)
            refine dw_itn n1 ?_
            refine dw_itp n2 ?_
            refine rB_X12_isNight (fun B hB => ?_)
            refine rB_X12_part (fun B hB => ?_)
            refine rB_law (fun B hB => ?_)
            refine hB _ _ _ _ _ _ ?_
            exact law_z
          · refine rB_X11_part (fun B hB => ?_)
            refine dw_ite (fun h68 => ?_) (fun h68 => ?_)
            · refine rB_law (fun B hB => ?_)
              refine hB _ _ _ _ _ _ ?_
              refine dw_okV (a := 404) (as := [.int (xs 1), .int (xs 2), .int (xs 3), .int (xs 4), .int (xs 5)]) rfl rfl (show (SH1 404).1 = 12 by decide +kernel) rfl (by decide) rfl rfl ?_
              refine dw_enter rfl ?_
              refine rB_X12_part (fun B hB => ?_)
              refine hB _ _ _ _ _ _ ?_
              refine dw_okV (a := 404) rfl rfl (show (SH1 404).1 = 12 by decide +kernel) rfl (by decide) rfl rfl ?_
              refine dw_enter rfl ?_
              refine rB_X12_isNight (fun B hB => ?_)
              refine hB _ _ _ _ _ _ ?_
              refine dw_okS rfl rfl rfl (by decide) rfl rfl ?_
              refine dw_enter rfl ?_
              refine rB_X12_isIn (fun B hB => ?_)
              refine dw_itn n1 ?_
              refine dw_itp n2 ?_
              refine rB_X12_isNight (fun B hB => ?_)
              refine rB_X12_part (fun B hB => ?_)
              refine rB_law (fun B hB => ?_)
              refine hB _ _ _ _ _ _ ?_
              exact law_z
            · refine hB _ _ _ _ _ _ ?_
              refine dw_okS rfl rfl rfl (by decide) rfl rfl ?_
              refine dw_enter rfl ?_
              refine rB_X11_isStory (fun B hB => ?_)
              refine dw_ite (fun h69 => ?_) (fun h69 => ?_)
              · refine rB_X11_part (fun B hB => ?_)
                refine rB_law (fun B hB => ?_)
                refine hB _ _ _ _ _ _ ?_
                refine dw_okV (a := 404) (as := [.int (xs 1), .int (xs 2), .int (xs 3), .int (xs 4), .int (xs 5)]) rfl rfl (show (SH1 404).1 = 12 by decide +kernel) rfl (by decide) rfl rfl ?_
                refine dw_enter rfl ?_
                refine rB_X12_part (fun B hB => ?_)
                refine hB _ _ _ _ _ _ ?_
                refine dw_okV (a := 404) rfl rfl (show (SH1 404).1 = 12 by decide +kernel) rfl (by decide) rfl rfl ?_
                refine dw_enter rfl ?_
                refine rB_X12_isNight (fun B hB => ?_)
                refine hB _ _ _ _ _ _ ?_
                refine dw_okS rfl rfl rfl (by decide) rfl rfl ?_
                refine dw_enter rfl ?_
                refine rB_X12_isIn (fun B hB => ?_)
                refine dw_itn n1 ?_
                refine dw_itp n2 ?_
                refine rB_X12_isNight (fun B hB => ?_)
                refine rB_X12_part (fun B hB => ?_)
                refine rB_law (fun B hB => ?_)
                refine hB _ _ _ _ _ _ ?_
                exact law_z
              · refine dw_ite (fun h70 => ?_) (fun h70 => ?_)
                · refine rB_X11_part (fun B hB => ?_)
                  refine rB_law (fun B hB => ?_)
                  refine hB _ _ _ _ _ _ ?_
                  refine dw_okV (a := 404) (as := [.int (xs 1), .int (xs 2), .int (xs 3), .int (xs 4), .int (xs 5)]) rfl rfl (show (SH1 404).1 = 12 by decide +kernel) rfl (by decide) rfl rfl ?_
                  refine dw_enter rfl ?_
                  refine rB_X12_part (fun B hB => ?_)
                  refine hB _ _ _ _ _ _ ?_
                  refine dw_okV (a := 404) rfl rfl (show (SH1 404).1 = 12 by decide +kernel) rfl (by decide) rfl rfl ?_
                  refine dw_enter rfl ?_
                  refine rB_X12_isNight (fun B hB => ?_)
                  refine hB _ _ _ _ _ _ ?_
                  refine dw_okS rfl rfl rfl (by decide) rfl rfl ?_
                  refine dw_enter rfl ?_
                  refine rB_X12_isIn (fun B hB => ?_)
                  refine dw_itn n1 ?_
                  refine dw_itp n2 ?_
                  refine rB_X12_isNight (fun B hB => ?_)
                  refine rB_X12_part (fun B hB => ?_)
                  refine rB_law (fun B hB => ?_)
                  refine hB _ _ _ _ _ _ ?_
                  exact law_z
                · refine rB_X11_part (fun B hB => ?_)
                  refine hB _ _ _ _ _ _ ?_
                  refine dw_okS rfl rfl rfl (by decide) rfl rfl ?_
                  refine dw_enter rfl ?_
                  refine rB_X11_isStory (fun B hB => ?_)
                  refine dw_ite (fun h71 => ?_) (fun h71 => ?_)
                  · refine rB_X11_part (fun B hB => ?_)
                    refine rB_law (fun B hB => ?_)
                    refine hB _ _ _ _ _ _ ?_
                    refine dw_okV (a := 404) (as := [.int (xs 1), .int (xs 2), .int (xs 3), .int (xs 4), .int (xs 5)]) rfl rfl (show (SH1 404).1 = 12 by decide +kernel) rfl (by decide) rfl rfl ?_
                    refine dw_enter rfl ?_
                    refine rB_X12_part (fun B hB => ?_)
                    refine hB _ _ _ _ _ _ ?_
                    refine dw_okV (a := 404) rfl rfl (show (SH1 404).1 = 12 by decide +kernel) rfl (by decide) rfl rfl ?_
                    refine dw_enter rfl ?_
                    refine rB_X12_isNight (fun B hB => ?_)
                    refine hB _ _ _ _ _ _ ?_
                    refine dw_okS rfl rfl rfl (by decide) rfl rfl ?_
                    refine dw_enter rfl ?_
                    refine rB_X12_isIn (fun B hB => ?_)
                    refine dw_itn n1 ?_
                    refine dw_itp n2 ?_
                    refine rB_X12_isNight (fun B hB => ?_)
                    refine rB_X12_part (fun B hB => ?_)
                    refine rB_law (fun B hB => ?_)
                    refine hB _ _ _ _ _ _ ?_
                    exact law_z
                  · refine dw_ite (fun h72 => ?_) (fun h72 => ?_)
                    · refine rB_X11_part (fun B hB => ?_)
                      refine rB_law (fun B hB => ?_)
                      refine hB _ _ _ _ _ _ ?_
                      refine dw_okV (a := 404) (as := [.int (xs 1), .int (xs 2), .int (xs 3), .int (xs 4), .int (xs 5)]) rfl rfl (show (SH1 404).1 = 12 by decide +kernel) rfl (by decide) rfl rfl ?_
                      refine dw_enter rfl ?_
                      refine rB_X12_part (fun B hB => ?_)
                      refine hB _ _ _ _ _ _ ?_
                      refine dw_okV (a := 404) rfl rfl (show (SH1 404).1 = 12 by decide +kernel) rfl (by decide) rfl rfl ?_
                      refine dw_enter rfl ?_
                      refine rB_X12_isNight (fun B hB => ?_)
                      refine hB _ _ _ _ _ _ ?_
                      refine dw_okS rfl rfl rfl (by decide) rfl rfl ?_
                      refine dw_enter rfl ?_
                      refine rB_X12_isIn (fun B hB => ?_)
                      refine dw_itn n1 ?_
                      refine dw_itp n2 ?_
                      refine rB_X12_isNight (fun B hB => ?_)
                      refine rB_X12_part (fun B hB => ?_)
                      refine rB_law (fun B hB => ?_)
                      refine hB _ _ _ _ _ _ ?_
                      exact law_z
                    · refine rB_X11_part (fun B hB => ?_)
                      refine hB _ _ _ _ _ _ ?_
                      refine dw_okV (a := 0) rfl rfl (show (SH1 0).1 = 11 by decide +kernel) rfl (by decide) rfl rfl ?_
                      refine dw_enter rfl ?_
                      refine rB_X11_start (fun B hB => ?_)
                      refine hB _ _ _ _ _ _ ?_
                      refine dw_okV (a := 3) rfl rfl (show (SH1 3).1 = 8 by decide +kernel) rfl (by decide) rfl rfl ?_
                      refine dw_enter rfl ?_
                      refine rB_X8_nightOf (fun B hB => ?_)
                      refine dw_itn n1 ?_
                      refine dw_itp n3 ?_
                      refine rB_X11_start (fun B hB => ?_)
                      refine rB_X11_part (fun B hB => ?_)
                      refine rB_law (fun B hB => ?_)
                      refine hB _ _ _ _ _ _ ?_
                      refine dw_okV (a := 404) (as := [.int (xs 1), .int (xs 2), .int (xs 3), .int (xs 4), .int (xs 5)]) rfl rfl (show (SH1 404).1 = 12 by decide +kernel) rfl (by decide) rfl rfl ?_
                      refine dw_enter rfl ?_
                      refine rB_X12_part (fun B hB => ?_)
                      refine hB _ _ _ _ _ _ ?_
                      refine dw_okV (a := 404) rfl rfl (show (SH1 404).1 = 12 by decide +kernel) rfl (by decide) rfl rfl ?_
                      refine dw_enter rfl ?_
                      refine rB_X12_isNight (fun B hB => ?_)
                      refine hB _ _ _ _ _ _ ?_
                      refine dw_okS rfl rfl rfl (by decide) rfl rfl ?_
                      refine dw_enter rfl ?_
                      refine rB_X12_isIn (fun B hB => ?_)
                      refine dw_itn n1 ?_
                      refine dw_itp n2 ?_
                      refine rB_X12_isNight (fun B hB => ?_)
                      refine rB_X12_part (fun B hB => ?_)
                      refine rB_law (fun B hB => ?_)
                      refine hB _ _ _ _ _ _ ?_
                      exact law_z
set_option maxHeartbeats 2000000 in
set_option maxRecDepth 20000 in
theorem law_c37 {xs : Nat → Int32} : dw_ok (pr_law 6 xs) 1787 599567 7247295 (dw_l1 0 none none) [] (435, SH1, IN1, JN1) := by
  rcases dw_rng6 (xs 1) with hs | hs | hs | hs | hs | hs | ⟨n0, n1⟩ | ⟨n0, n1, n2, n3, n4, n5, n6⟩
  · refine rB_law (fun B hB => ?_)
    refine hB _ _ _ _ _ _ ?_
    refine dw_okV (a := 0) (as := [.int (xs 1), .int (xs 2), .int (xs 3), .int (xs 4), .int (xs 5)]) rfl rfl (show (SH1 0).1 = 11 by decide +kernel) rfl (by decide) rfl rfl ?_
    rw [hs]
    refine dw_enter rfl ?_
    refine rB_X11_drawn (fun B hB => ?_)
    refine hB _ _ _ _ _ _ ?_
    refine dw_okV (a := 4) rfl rfl (show (SH1 4).1 = 0 by decide +kernel) rfl (by decide) rfl rfl ?_
    refine dw_enter rfl ?_
    refine rB_X0_cellAt (fun B hB => ?_)
    refine dw_ite (fun h1 => ?_) (fun h1 => ?_)
    · refine rB_X11_drawn (fun B hB => ?_)
      refine rB_law (fun B hB => ?_)
      refine hB _ _ _ _ _ _ ?_
      refine dw_okV (a := 404) (as := [.int (xs 1), .int (xs 2), .int (xs 3), .int (xs 4), .int (xs 5)]) rfl rfl (show (SH1 404).1 = 12 by decide +kernel) rfl (by decide) rfl rfl ?_
      rw [hs]
      refine dw_enter rfl ?_
      refine rB_X12_drawn (fun B hB => ?_)
      refine hB _ _ _ _ _ _ ?_
      refine dw_okV (a := 404) rfl rfl (show (SH1 404).1 = 12 by decide +kernel) rfl (by decide) rfl rfl ?_
      refine dw_enter rfl ?_
      refine rB_X12_isNight (fun B hB => ?_)
      refine hB _ _ _ _ _ _ ?_
      refine dw_okS rfl rfl rfl (by decide) rfl rfl ?_
      refine dw_enter rfl ?_
      refine rB_X12_isIn (fun B hB => ?_)
      refine rB_X12_isNight (fun B hB => ?_)
      refine rB_X12_drawn (fun B hB => ?_)
      refine rB_law (fun B hB => ?_)
      refine hB _ _ _ _ _ _ ?_
      exact law_z
    · refine dw_ite (fun h2 => ?_) (fun h2 => ?_)
      · refine rB_X11_drawn (fun B hB => ?_)
        refine rB_law (fun B hB => ?_)
        refine hB _ _ _ _ _ _ ?_
        refine dw_okV (a := 404) (as := [.int (xs 1), .int (xs 2), .int (xs 3), .int (xs 4), .int (xs 5)]) rfl rfl (show (SH1 404).1 = 12 by decide +kernel) rfl (by decide) rfl rfl ?_
        rw [hs]
        refine dw_enter rfl ?_
        refine rB_X12_drawn (fun B hB => ?_)
        refine hB _ _ _ _ _ _ ?_
        refine dw_okV (a := 404) rfl rfl (show (SH1 404).1 = 12 by decide +kernel) rfl (by decide) rfl rfl ?_
        refine dw_enter rfl ?_
        refine rB_X12_isNight (fun B hB => ?_)
        refine hB _ _ _ _ _ _ ?_
        refine dw_okS rfl rfl rfl (by decide) rfl rfl ?_
        refine dw_enter rfl ?_
        refine rB_X12_isIn (fun B hB => ?_)
        refine rB_X12_isNight (fun B hB => ?_)
        refine rB_X12_drawn (fun B hB => ?_)
        refine rB_law (fun B hB => ?_)
        refine hB _ _ _ _ _ _ ?_
        exact law_z
      · refine dw_ite (fun h3 => ?_) (fun h3 => ?_)
        · refine rB_X11_drawn (fun B hB => ?_)
          refine rB_law (fun B hB => ?_)
          refine hB _ _ _ _ _ _ ?_
          refine dw_okV (a := 404) (as := [.int (xs 1), .int (xs 2), .int (xs 3), .int (xs 4), .int (xs 5)]) rfl rfl (show (SH1 404).1 = 12 by decide +kernel) rfl (by decide) rfl rfl ?_
          rw [hs]
          refine dw_enter rfl ?_
          refine rB_X12_drawn (fun B hB => ?_)
          refine hB _ _ _ _ _ _ ?_
          refine dw_okV (a := 404) rfl rfl (show (SH1 404).1 = 12 by decide +kernel) rfl (by decide) rfl rfl ?_
          refine dw_enter rfl ?_
          refine rB_X12_isNight (fun B hB => ?_)
          refine hB _ _ _ _ _ _ ?_
          refine dw_okS rfl rfl rfl (by decide) rfl rfl ?_
          refine dw_enter rfl ?_
          refine rB_X12_isIn (fun B hB => ?_)
          refine rB_X12_isNight (fun B hB => ?_)
          refine rB_X12_drawn (fun B hB => ?_)
          refine rB_law (fun B hB => ?_)
          refine hB _ _ _ _ _ _ ?_
          exact law_z
        · refine dw_ite (fun h4 => ?_) (fun h4 => ?_)
          · refine rB_X11_drawn (fun B hB => ?_)
            refine rB_law (fun B hB => ?_)
            refine hB _ _ _ _ _ _ ?_
            refine dw_okV (a := 404) (as := [.int (xs 1), .int (xs 2), .int (xs 3), .int (xs 4), .int (xs 5)]) rfl rfl (show (SH1 404).1 = 12 by decide +kernel) rfl (by decide) rfl rfl ?_
            rw [hs]
            refine dw_enter rfl ?_
            refine rB_X12_drawn (fun B hB => ?_)
            refine hB _ _ _ _ _ _ ?_
            refine dw_okV (a := 404) rfl rfl (show (SH1 404).1 = 12 by decide +kernel) rfl (by decide) rfl rfl ?_
            refine dw_enter rfl ?_
            refine rB_X12_isNight (fun B hB => ?_)
            refine hB _ _ _ _ _ _ ?_
            refine dw_okS rfl rfl rfl (by decide) rfl rfl ?_
            refine dw_enter rfl ?_
            refine rB_X12_isIn (fun B hB => ?_)
            refine rB_X12_isNight (fun B hB => ?_)
            refine rB_X12_drawn (fun B hB => ?_)
            refine rB_law (fun B hB => ?_)
            refine hB _ _ _ _ _ _ ?_
            exact law_z
          · refine rB_X11_drawn (fun B hB => ?_)
            refine dw_ite (fun h5 => ?_) (fun h5 => ?_)
            · refine rB_law (fun B hB => ?_)
              refine hB _ _ _ _ _ _ ?_
              refine dw_okV (a := 404) (as := [.int (xs 1), .int (xs 2), .int (xs 3), .int (xs 4), .int (xs 5)]) rfl rfl (show (SH1 404).1 = 12 by decide +kernel) rfl (by decide) rfl rfl ?_
              rw [hs]
              refine dw_enter rfl ?_
              refine rB_X12_drawn (fun B hB => ?_)
              refine hB _ _ _ _ _ _ ?_
              refine dw_okV (a := 404) rfl rfl (show (SH1 404).1 = 12 by decide +kernel) rfl (by decide) rfl rfl ?_
              refine dw_enter rfl ?_
              refine rB_X12_isNight (fun B hB => ?_)
              refine hB _ _ _ _ _ _ ?_
              refine dw_okS rfl rfl rfl (by decide) rfl rfl ?_
              refine dw_enter rfl ?_
              refine rB_X12_isIn (fun B hB => ?_)
              refine rB_X12_isNight (fun B hB => ?_)
              refine rB_X12_drawn (fun B hB => ?_)
              refine rB_law (fun B hB => ?_)
              refine hB _ _ _ _ _ _ ?_
              exact law_z
            · refine dw_ite (fun h6 => ?_) (fun h6 => ?_)
              · refine rB_law (fun B hB => ?_)
                refine hB _ _ _ _ _ _ ?_
                refine dw_okV (a := 404) (as := [.int (xs 1), .int (xs 2), .int (xs 3), .int (xs 4), .int (xs 5)]) rfl rfl (show (SH1 404).1 = 12 by decide +kernel) rfl (by decide) rfl rfl ?_
                rw [hs]
                refine dw_enter rfl ?_
                refine rB_X12_drawn (fun B hB => ?_)
                refine hB _ _ _ _ _ _ ?_
                refine dw_okV (a := 404) rfl rfl (show (SH1 404).1 = 12 by decide +kernel) rfl (by decide) rfl rfl ?_
                refine dw_enter rfl ?_
                refine rB_X12_isNight (fun B hB => ?_)
                refine hB _ _ _ _ _ _ ?_
                refine dw_okS rfl rfl rfl (by decide) rfl rfl ?_
                refine dw_enter rfl ?_
                refine rB_X12_isIn (fun B hB => ?_)
                refine rB_X12_isNight (fun B hB => ?_)
                refine rB_X12_drawn (fun B hB => ?_)
                refine rB_law (fun B hB => ?_)
                refine hB _ _ _ _ _ _ ?_
                exact law_z
              · refine dw_ite (fun h7 => ?_) (fun h7 => ?_)
                · refine rB_law (fun B hB => ?_)
                  refine hB _ _ _ _ _ _ ?_
                  refine dw_okV (a := 404) (as := [.int (xs 1), .int (xs 2), .int (xs 3), .int (xs 4), .int (xs 5)]) rfl rfl (show (SH1 404).1 = 12 by decide +kernel) rfl (by decide) rfl rfl ?_
                  rw [hs]
                  refine dw_enter rfl ?_
                  refine rB_X12_drawn (fun B hB => ?_)
                  refine hB _ _ _ _ _ _ ?_
                  refine dw_okV (a := 404) rfl rfl (show (SH1 404).1 = 12 by decide +kernel) rfl (by decide) rfl rfl ?_
                  refine dw_enter rfl ?_
                  refine rB_X12_isNight (fun B hB => ?_)
                  refine hB _ _ _ _ _ _ ?_
                  refine dw_okS rfl rfl rfl (by decide) rfl rfl ?_
                  refine dw_enter rfl ?_
                  refine rB_X12_isIn (fun B hB => ?_)
                  refine rB_X12_isNight (fun B hB => ?_)
                  refine rB_X12_drawn (fun B hB => ?_)
                  refine rB_law (fun B hB => ?_)
                  refine hB _ _ _ _ _ _ ?_
                  exact law_z
                · refine hB _ _ _ _ _ _ ?_
                  refine dw_okV (a := 0) rfl rfl (show (SH1 0).1 = 11 by decide +kernel) rfl (by decide) rfl rfl ?_
                  refine dw_enter rfl ?_
                  refine rB_X11_start (fun B hB => ?_)
                  refine hB _ _ _ _ _ _ ?_
                  refine dw_okV (a := 3) rfl rfl (show (SH1 3).1 = 8 by decide +kernel) rfl (by decide) rfl rfl ?_
                  refine dw_enter rfl ?_
                  refine rB_X8_nightOf (fun B hB => ?_)
                  refine rB_X11_start (fun B hB => ?_)
                  refine (fun (_ : _ ∨ _) => ?_)
                  refine rB_X11_drawn (fun B hB => ?_)
                  refine rB_law (fun B hB => ?_)
                  refine hB _ _ _ _ _ _ ?_
                  refine dw_okV (a := 404) (as := [.int (xs 1), .int (xs 2), .int (xs 3), .int (xs 4), .int (xs 5)]) rfl rfl (show (SH1 404).1 = 12 by decide +kernel) rfl (by decide) rfl rfl ?_
                  rw [hs]
                  refine dw_enter rfl ?_
                  refine rB_X12_drawn (fun B hB => ?_)
                  refine hB _ _ _ _ _ _ ?_
                  refine dw_okV (a := 404) rfl rfl (show (SH1 404).1 = 12 by decide +kernel) rfl (by decide) rfl rfl ?_
                  refine dw_enter rfl ?_
                  refine rB_X12_isNight (fun B hB => ?_)
                  refine hB _ _ _ _ _ _ ?_
                  refine dw_okS rfl rfl rfl (by decide) rfl rfl ?_
                  refine dw_enter rfl ?_
                  refine rB_X12_isIn (fun B hB => ?_)
                  refine rB_X12_isNight (fun B hB => ?_)
                  refine rB_X12_drawn (fun B hB => ?_)
                  refine rB_law (fun B hB => ?_)
                  refine hB _ _ _ _ _ _ ?_
                  exact law_z
  · refine rB_law (fun B hB => ?_)
    refine hB _ _ _ _ _ _ ?_
    refine dw_okV (a := 0) (as := [.int (xs 1), .int (xs 2), .int (xs 3), .int (xs 4), .int (xs 5)]) rfl rfl (show (SH1 0).1 = 11 by decide +kernel) rfl (by decide) rfl rfl ?_
    rw [hs]
    refine dw_enter rfl ?_
    refine rB_X11_drawn (fun B hB => ?_)
    refine hB _ _ _ _ _ _ ?_
    refine dw_okV (a := 4) rfl rfl (show (SH1 4).1 = 0 by decide +kernel) rfl (by decide) rfl rfl ?_
    refine dw_enter rfl ?_
    refine rB_X0_cellAt (fun B hB => ?_)
    refine dw_ite (fun h8 => ?_) (fun h8 => ?_)
    · refine rB_X11_drawn (fun B hB => ?_)
      refine rB_law (fun B hB => ?_)
      refine hB _ _ _ _ _ _ ?_
      refine dw_okV (a := 404) (as := [.int (xs 1), .int (xs 2), .int (xs 3), .int (xs 4), .int (xs 5)]) rfl rfl (show (SH1 404).1 = 12 by decide +kernel) rfl (by decide) rfl rfl ?_
      rw [hs]
      refine dw_enter rfl ?_
      refine rB_X12_drawn (fun B hB => ?_)
      refine hB _ _ _ _ _ _ ?_
      refine dw_okV (a := 404) rfl rfl (show (SH1 404).1 = 12 by decide +kernel) rfl (by decide) rfl rfl ?_
      refine dw_enter rfl ?_
      refine rB_X12_isNight (fun B hB => ?_)
      refine hB _ _ _ _ _ _ ?_
      refine dw_okS rfl rfl rfl (by decide) rfl rfl ?_
      refine dw_enter rfl ?_
      refine rB_X12_isIn (fun B hB => ?_)
      refine rB_X12_isNight (fun B hB => ?_)
      refine rB_X12_drawn (fun B hB => ?_)
      refine rB_law (fun B hB => ?_)
      refine hB _ _ _ _ _ _ ?_
      exact law_z
    · refine dw_ite (fun h9 => ?_) (fun h9 => ?_)
      · refine rB_X11_drawn (fun B hB => ?_)
        refine rB_law (fun B hB => ?_)
        refine hB _ _ _ _ _ _ ?_
        refine dw_okV (a := 404) (as := [.int (xs 1), .int (xs 2), .int (xs 3), .int (xs 4), .int (xs 5)]) rfl rfl (show (SH1 404).1 = 12 by decide +kernel) rfl (by decide) rfl rfl ?_
        rw [hs]
        refine dw_enter rfl ?_
        refine rB_X12_drawn (fun B hB => ?_)
        refine hB _ _ _ _ _ _ ?_
        refine dw_okV (a := 404) rfl rfl (show (SH1 404).1 = 12 by decide +kernel) rfl (by decide) rfl rfl ?_
        refine dw_enter rfl ?_
        refine rB_X12_isNight (fun B hB => ?_)
        refine hB _ _ _ _ _ _ ?_
        refine dw_okS rfl rfl rfl (by decide) rfl rfl ?_
        refine dw_enter rfl ?_
        refine rB_X12_isIn (fun B hB => ?_)
        refine rB_X12_isNight (fun B hB => ?_)
        refine rB_X12_drawn (fun B hB => ?_)
        refine rB_law (fun B hB => ?_)
        refine hB _ _ _ _ _ _ ?_
        exact law_z
      · refine dw_ite (fun h10 => ?_) (fun h10 => ?_)
        · refine rB_X11_drawn (fun B hB => ?_)
          refine rB_law (fun B hB => ?_)
          refine hB _ _ _ _ _ _ ?_
          refine dw_okV (a := 404) (as := [.int (xs 1), .int (xs 2), .int (xs 3), .int (xs 4), .int (xs 5)]) rfl rfl (show (SH1 404).1 = 12 by decide +kernel) rfl (by decide) rfl rfl ?_
          rw [hs]
          refine dw_enter rfl ?_
          refine rB_X12_drawn (fun B hB => ?_)
          refine hB _ _ _ _ _ _ ?_
          refine dw_okV (a := 404) rfl rfl (show (SH1 404).1 = 12 by decide +kernel) rfl (by decide) rfl rfl ?_
          refine dw_enter rfl ?_
          refine rB_X12_isNight (fun B hB => ?_)
          refine hB _ _ _ _ _ _ ?_
          refine dw_okS rfl rfl rfl (by decide) rfl rfl ?_
          refine dw_enter rfl ?_
          refine rB_X12_isIn (fun B hB => ?_)
          refine rB_X12_isNight (fun B hB => ?_)
          refine rB_X12_drawn (fun B hB => ?_)
          refine rB_law (fun B hB => ?_)
          refine hB _ _ _ _ _ _ ?_
          exact law_z
        · refine dw_ite (fun h11 => ?_) (fun h11 => ?_)
          · refine rB_X11_drawn (fun B hB => ?_)
            refine rB_law (fun B hB => ?_)
            refine hB _ _ _ _ _ _ ?_
            refine dw_okV (a := 404) (as := [.int (xs 1), .int (xs 2), .int (xs 3), .int (xs 4), .int (xs 5)]) rfl rfl (show (SH1 404).1 = 12 by decide +kernel) rfl (by decide) rfl rfl ?_
            rw [hs]
            refine dw_enter rfl ?_
            refine rB_X12_drawn (fun B hB => ?_)
            refine hB _ _ _ _ _ _ ?_
            refine dw_okV (a := 404) rfl rfl (show (SH1 404).1 = 12 by decide +kernel) rfl (by decide) rfl rfl ?_
            refine dw_enter rfl ?_
            refine rB_X12_isNight (fun B hB => ?_)
            refine hB _ _ _ _ _ _ ?_
            refine dw_okS rfl rfl rfl (by decide) rfl rfl ?_
            refine dw_enter rfl ?_
            refine rB_X12_isIn (fun B hB => ?_)
            refine rB_X12_isNight (fun B hB => ?_)
            refine rB_X12_drawn (fun B hB => ?_)
            refine rB_law (fun B hB => ?_)
            refine hB _ _ _ _ _ _ ?_
            exact law_z
          · refine rB_X11_drawn (fun B hB => ?_)
            refine dw_ite (fun h12 => ?_) (fun h12 => ?_)
            · refine rB_law (fun B hB => ?_)
              refine hB _ _ _ _ _ _ ?_
              refine dw_okV (a := 404) (as := [.int (xs 1), .int (xs 2), .int (xs 3), .int (xs 4), .int (xs 5)]) rfl rfl (show (SH1 404).1 = 12 by decide +kernel) rfl (by decide) rfl rfl ?_
              rw [hs]
              refine dw_enter rfl ?_
              refine rB_X12_drawn (fun B hB => ?_)
              refine hB _ _ _ _ _ _ ?_
              refine dw_okV (a := 404) rfl rfl (show (SH1 404).1 = 12 by decide +kernel) rfl (by decide) rfl rfl ?_
              refine dw_enter rfl ?_
              refine rB_X12_isNight (fun B hB => ?_)
              refine hB _ _ _ _ _ _ ?_
              refine dw_okS rfl rfl rfl (by decide) rfl rfl ?_
              refine dw_enter rfl ?_
              refine rB_X12_isIn (fun B hB => ?_)
              refine rB_X12_isNight (fun B hB => ?_)
              refine rB_X12_drawn (fun B hB => ?_)
              refine rB_law (fun B hB => ?_)
              refine hB _ _ _ _ _ _ ?_
              exact law_z
            · refine dw_ite (fun h13 => ?_) (fun h13 => ?_)
              · refine rB_law (fun B hB => ?_)
                refine hB _ _ _ _ _ _ ?_
                refine dw_okV (a := 404) (as := [.int (xs 1), .int (xs 2), .int (xs 3), .int (xs 4), .int (xs 5)]) rfl rfl (show (SH1 404).1 = 12 by decide +kernel) rfl (by decide) rfl rfl ?_
                rw [hs]
                refine dw_enter rfl ?_
                refine rB_X12_drawn (fun B hB => ?_)
                refine hB _ _ _ _ _ _ ?_
                refine dw_okV (a := 404) rfl rfl (show (SH1 404).1 = 12 by decide +kernel) rfl (by decide) rfl rfl ?_
                refine dw_enter rfl ?_
                refine rB_X12_isNight (fun B hB => ?_)
                refine hB _ _ _ _ _ _ ?_
                refine dw_okS rfl rfl rfl (by decide) rfl rfl ?_
                refine dw_enter rfl ?_
                refine rB_X12_isIn (fun B hB => ?_)
                refine rB_X12_isNight (fun B hB => ?_)
                refine rB_X12_drawn (fun B hB => ?_)
                refine rB_law (fun B hB => ?_)
                refine hB _ _ _ _ _ _ ?_
                exact law_z
              · refine dw_ite (fun h14 => ?_) (fun h14 => ?_)
                · refine rB_law (fun B hB => ?_)
                  refine hB _ _ _ _ _ _ ?_
                  refine dw_okV (a := 404) (as := [.int (xs 1), .int (xs 2), .int (xs 3), .int (xs 4), .int (xs 5)]) rfl rfl (show (SH1 404).1 = 12 by decide +kernel) rfl (by decide) rfl rfl ?_
                  rw [hs]
                  refine dw_enter rfl ?_
                  refine rB_X12_drawn (fun B hB => ?_)
                  refine hB _ _ _ _ _ _ ?_
                  refine dw_okV (a := 404) rfl rfl (show (SH1 404).1 = 12 by decide +kernel) rfl (by decide) rfl rfl ?_
                  refine dw_enter rfl ?_
                  refine rB_X12_isNight (fun B hB => ?_)
                  refine hB _ _ _ _ _ _ ?_
                  refine dw_okS rfl rfl rfl (by decide) rfl rfl ?_
                  refine dw_enter rfl ?_
                  refine rB_X12_isIn (fun B hB => ?_)
                  refine rB_X12_isNight (fun B hB => ?_)
                  refine rB_X12_drawn (fun B hB => ?_)
                  refine rB_law (fun B hB => ?_)
                  refine hB _ _ _ _ _ _ ?_
                  exact law_z
                · refine hB _ _ _ _ _ _ ?_
                  refine dw_okV (a := 0) rfl rfl (show (SH1 0).1 = 11 by decide +kernel) rfl (by decide) rfl rfl ?_
                  refine dw_enter rfl ?_
                  refine rB_X11_start (fun B hB => ?_)
                  refine hB _ _ _ _ _ _ ?_
                  refine dw_okV (a := 3) rfl rfl (show (SH1 3).1 = 8 by decide +kernel) rfl (by decide) rfl rfl ?_
                  refine dw_enter rfl ?_
                  refine rB_X8_nightOf (fun B hB => ?_)
                  refine rB_X11_start (fun B hB => ?_)
                  refine (fun (_ : _ ∨ _) => ?_)
                  refine rB_X11_drawn (fun B hB => ?_)
                  refine rB_law (fun B hB => ?_)
                  refine hB _ _ _ _ _ _ ?_
                  refine dw_okV (a := 404) (as := [.int (xs 1), .int (xs 2), .int (xs 3), .int (xs 4), .int (xs 5)]) rfl rfl (show (SH1 404).1 = 12 by decide +kernel) rfl (by decide) rfl rfl ?_
                  rw [hs]
                  refine dw_enter rfl ?_
                  refine rB_X12_drawn (fun B hB => ?_)
                  refine hB _ _ _ _ _ _ ?_
                  refine dw_okV (a := 404) rfl rfl (show (SH1 404).1 = 12 by decide +kernel) rfl (by decide) rfl rfl ?_
                  refine dw_enter rfl ?_
                  refine rB_X12_isNight (fun B hB => ?_)
                  refine hB _ _ _ _ _ _ ?_
                  refine dw_okS rfl rfl rfl (by decide) rfl rfl ?_
                  refine dw_enter rfl ?_
                  refine rB_X12_isIn (fun B hB => ?_)
                  refine rB_X12_isNight (fun B hB => ?_)
                  refine rB_X12_drawn (fun B hB => ?_)
                  refine rB_law (fun B hB => ?_)
                  refine hB _ _ _ _ _ _ ?_
                  exact law_z
  · refine rB_law (fun B hB => ?_)
    refine hB _ _ _ _ _ _ ?_
    refine dw_okV (a := 0) (as := [.int (xs 1), .int (xs 2), .int (xs 3), .int (xs 4), .int (xs 5)]) rfl rfl (show (SH1 0).1 = 11 by decide +kernel) rfl (by decide) rfl rfl ?_
    rw [hs]
    refine dw_enter rfl ?_
    refine rB_X11_drawn (fun B hB => ?_)
    refine hB _ _ _ _ _ _ ?_
    refine dw_okV (a := 4) rfl rfl (show (SH1 4).1 = 0 by decide +kernel) rfl (by decide) rfl rfl ?_
    refine dw_enter rfl ?_
    refine rB_X0_cellAt (fun B hB => ?_)
    refine dw_ite (fun h15 => ?_) (fun h15 => ?_)
    · refine rB_X11_drawn (fun B hB => ?_)
      refine rB_law (fun B hB => ?_)
      refine hB _ _ _ _ _ _ ?_
      refine dw_okV (a := 404) (as := [.int (xs 1), .int (xs 2), .int (xs 3), .int (xs 4), .int (xs 5)]) rfl rfl (show (SH1 404).1 = 12 by decide +kernel) rfl (by decide) rfl rfl ?_
      rw [hs]
      refine dw_enter rfl ?_
      refine rB_X12_drawn (fun B hB => ?_)
      refine hB _ _ _ _ _ _ ?_
      refine dw_okV (a := 404) rfl rfl (show (SH1 404).1 = 12 by decide +kernel) rfl (by decide) rfl rfl ?_
      refine dw_enter rfl ?_
      refine rB_X12_isNight (fun B hB => ?_)
      refine hB _ _ _ _ _ _ ?_
      refine dw_okS rfl rfl rfl (by decide) rfl rfl ?_
      refine dw_enter rfl ?_
      refine rB_X12_isIn (fun B hB => ?_)
      refine rB_X12_isNight (fun B hB => ?_)
      refine rB_X12_drawn (fun B hB => ?_)
      refine rB_law (fun B hB => ?_)
      refine hB _ _ _ _ _ _ ?_
      exact law_z
    · refine dw_ite (fun h16 => ?_) (fun h16 => ?_)
      · refine rB_X11_drawn (fun B hB => ?_)
        refine rB_law (fun B hB => ?_)
        refine hB _ _ _ _ _ _ ?_
        refine dw_okV (a := 404) (as := [.int (xs 1), .int (xs 2), .int (xs 3), .int (xs 4), .int (xs 5)]) rfl rfl (show (SH1 404).1 = 12 by decide +kernel) rfl (by decide) rfl rfl ?_
        rw [hs]
        refine dw_enter rfl ?_
        refine rB_X12_drawn (fun B hB => ?_)
        refine hB _ _ _ _ _ _ ?_
        refine dw_okV (a := 404) rfl rfl (show (SH1 404).1 = 12 by decide +kernel) rfl (by decide) rfl rfl ?_
        refine dw_enter rfl ?_
        refine rB_X12_isNight (fun B hB => ?_)
        refine hB _ _ _ _ _ _ ?_
        refine dw_okS rfl rfl rfl (by decide) rfl rfl ?_
        refine dw_enter rfl ?_
        refine rB_X12_isIn (fun B hB => ?_)
        refine rB_X12_isNight (fun B hB => ?_)
        refine rB_X12_drawn (fun B hB => ?_)
        refine rB_law (fun B hB => ?_)
        refine hB _ _ _ _ _ _ ?_
        exact law_z
      · refine dw_ite (fun h17 => ?_) (fun h17 => ?_)
        · refine rB_X11_drawn (fun B hB => ?_)
          refine rB_law (fun B hB => ?_)
          refine hB _ _ _ _ _ _ ?_
          refine dw_okV (a := 404) (as := [.int (xs 1), .int (xs 2), .int (xs 3), .int (xs 4), .int (xs 5)]) rfl rfl (show (SH1 404).1 = 12 by decide +kernel) rfl (by decide) rfl rfl ?_
          rw [hs]
          refine dw_enter rfl ?_
          refine rB_X12_drawn (fun B hB => ?_)
          refine hB _ _ _ _ _ _ ?_
          refine dw_okV (a := 404) rfl rfl (show (SH1 404).1 = 12 by decide +kernel) rfl (by decide) rfl rfl ?_
          refine dw_enter rfl ?_
          refine rB_X12_isNight (fun B hB => ?_)
          refine hB _ _ _ _ _ _ ?_
          refine dw_okS rfl rfl rfl (by decide) rfl rfl ?_
          refine dw_enter rfl ?_
          refine rB_X12_isIn (fun B hB => ?_)
          refine rB_X12_isNight (fun B hB => ?_)
          refine rB_X12_drawn (fun B hB => ?_)
          refine rB_law (fun B hB => ?_)
          refine hB _ _ _ _ _ _ ?_
          exact law_z
        · refine dw_ite (fun h18 => ?_) (fun h18 => ?_)
          · refine rB_X11_drawn (fun B hB => ?_)
            refine rB_law (fun B hB => ?_)
            refine hB _ _ _ _ _ _ ?_
            refine dw_okV (a := 404) (as := [.int (xs 1), .int (xs 2), .int (xs 3), .int (xs 4), .int (xs 5)]) rfl rfl (show (SH1 404).1 = 12 by decide +kernel) rfl (by decide) rfl rfl ?_
            rw [hs]
            refine dw_enter rfl ?_
            refine rB_X12_drawn (fun B hB => ?_)
            refine hB _ _ _ _ _ _ ?_
            refine dw_okV (a := 404) rfl rfl (show (SH1 404).1 = 12 by decide +kernel) rfl (by decide) rfl rfl ?_
            refine dw_enter rfl ?_
            refine rB_X12_isNight (fun B hB => ?_)
            refine hB _ _ _ _ _ _ ?_
            refine dw_okS rfl rfl rfl (by decide) rfl rfl ?_
            refine dw_enter rfl ?_
            refine rB_X12_isIn (fun B hB => ?_)
            refine rB_X12_isNight (fun B hB => ?_)
            refine rB_X12_drawn (fun B hB => ?_)
            refine rB_law (fun B hB => ?_)
            refine hB _ _ _ _ _ _ ?_
            exact law_z
          · refine rB_X11_drawn (fun B hB => ?_)
            refine dw_ite (fun h19 => ?_) (fun h19 => ?_)
            · refine rB_law (fun B hB => ?_)
              refine hB _ _ _ _ _ _ ?_
              refine dw_okV (a := 404) (as := [.int (xs 1), .int (xs 2), .int (xs 3), .int (xs 4), .int (xs 5)]) rfl rfl (show (SH1 404).1 = 12 by decide +kernel) rfl (by decide) rfl rfl ?_
              rw [hs]
              refine dw_enter rfl ?_
              refine rB_X12_drawn (fun B hB => ?_)
              refine hB _ _ _ _ _ _ ?_
              refine dw_okV (a := 404) rfl rfl (show (SH1 404).1 = 12 by decide +kernel) rfl (by decide) rfl rfl ?_
              refine dw_enter rfl ?_
              refine rB_X12_isNight (fun B hB => ?_)
              refine hB _ _ _ _ _ _ ?_
              refine dw_okS rfl rfl rfl (by decide) rfl rfl ?_
              refine dw_enter rfl ?_
              refine rB_X12_isIn (fun B hB => ?_)
              refine rB_X12_isNight (fun B hB => ?_)
              refine rB_X12_drawn (fun B hB => ?_)
              refine rB_law (fun B hB => ?_)
              refine hB _ _ _ _ _ _ ?_
              exact law_z
            · refine dw_ite (fun h20 => ?_) (fun h20 => ?_)
              · refine rB_law (fun B hB => ?_)
                refine hB _ _ _ _ _ _ ?_
                refine dw_okV (a := 404) (as := [.int (xs 1), .int (xs 2), .int (xs 3), .int (xs 4), .int (xs 5)]) rfl rfl (show (SH1 404).1 = 12 by decide +kernel) rfl (by decide) rfl rfl ?_
                rw [hs]
                refine dw_enter rfl ?_
                refine rB_X12_drawn (fun B hB => ?_)
                refine hB _ _ _ _ _ _ ?_
                refine dw_okV (a := 404) rfl rfl (show (SH1 404).1 = 12 by decide +kernel) rfl (by decide) rfl rfl ?_
                refine dw_enter rfl ?_
                refine rB_X12_isNight (fun B hB => ?_)
                refine hB _ _ _ _ _ _ ?_
                refine dw_okS rfl rfl rfl (by decide) rfl rfl ?_
                refine dw_enter rfl ?_
                refine rB_X12_isIn (fun B hB => ?_)
                refine rB_X12_isNight (fun B hB => ?_)
                refine rB_X12_drawn (fun B hB => ?_)
                refine rB_law (fun B hB => ?_)
                refine hB _ _ _ _ _ _ ?_
                exact law_z
              · refine dw_ite (fun h21 => ?_) (fun h21 => ?_)
                · refine rB_law (fun B hB => ?_)
                  refine hB _ _ _ _ _ _ ?_
                  refine dw_okV (a := 404) (as := [.int (xs 1), .int (xs 2), .int (xs 3), .int (xs 4), .int (xs 5)]) rfl rfl (show (SH1 404).1 = 12 by decide +kernel) rfl (by decide) rfl rfl ?_
                  rw [hs]
                  refine dw_enter rfl ?_
                  refine rB_X12_drawn (fun B hB => ?_)
                  refine hB _ _ _ _ _ _ ?_
                  refine dw_okV (a := 404) rfl rfl (show (SH1 404).1 = 12 by decide +kernel) rfl (by decide) rfl rfl ?_
                  refine dw_enter rfl ?_
                  refine rB_X12_isNight (fun B hB => ?_)
                  refine hB _ _ _ _ _ _ ?_
                  refine dw_okS rfl rfl rfl (by decide) rfl rfl ?_
                  refine dw_enter rfl ?_
                  refine rB_X12_isIn (fun B hB => ?_)
                  refine rB_X12_isNight (fun B hB => ?_)
                  refine rB_X12_drawn (fun B hB => ?_)
                  refine rB_law (fun B hB => ?_)
                  refine hB _ _ _ _ _ _ ?_
                  exact law_z
                · refine hB _ _ _ _ _ _ ?_
                  refine dw_okV (a := 0) rfl rfl (show (SH1 0).1 = 11 by decide +kernel) rfl (by decide) rfl rfl ?_
                  refine dw_enter rfl ?_
                  refine rB_X11_start (fun B hB => ?_)
                  refine hB _ _ _ _ _ _ ?_
                  refine dw_okV (a := 3) rfl rfl (show (SH1 3).1 = 8 by decide +kernel) rfl (by decide) rfl rfl ?_
                  refine dw_enter rfl ?_
                  refine rB_X8_nightOf (fun B hB => ?_)
                  refine rB_X11_start (fun B hB => ?_)
                  refine (fun (_ : _ ∨ _) => ?_)
                  refine rB_X11_drawn (fun B hB => ?_)
                  refine rB_law (fun B hB => ?_)
                  refine hB _ _ _ _ _ _ ?_
                  refine dw_okV (a := 404) (as := [.int (xs 1), .int (xs 2), .int (xs 3), .int (xs 4), .int (xs 5)]) rfl rfl (show (SH1 404).1 = 12 by decide +kernel) rfl (by decide) rfl rfl ?_
                  rw [hs]
                  refine dw_enter rfl ?_
                  refine rB_X12_drawn (fun B hB => ?_)
                  refine hB _ _ _ _ _ _ ?_
                  refine dw_okV (a := 404) rfl rfl (show (SH1 404).1 = 12 by decide +kernel) rfl (by decide) rfl rfl ?_
                  refine dw_enter rfl ?_
                  refine rB_X12_isNight (fun B hB => ?_)
                  refine hB _ _ _ _ _ _ ?_
                  refine dw_okS rfl rfl rfl (by decide) rfl rfl ?_
                  refine dw_enter rfl ?_
                  refine rB_X12_isIn (fun B hB => ?_)
                  refine rB_X12_isNight (fun B hB => ?_)
                  refine rB_X12_drawn (fun B hB => ?_)
                  refine rB_law (fun B hB => ?_)
                  refine hB _ _ _ _ _ _ ?_
                  exact law_z
  · refine rB_law (fun B hB => ?_)
    refine hB _ _ _ _ _ _ ?_
    refine dw_okV (a := 0) (as := [.int (xs 1), .int (xs 2), .int (xs 3), .int (xs 4), .int (xs 5)]) rfl rfl (show (SH1 0).1 = 11 by decide +kernel) rfl (by decide) rfl rfl ?_
    rw [hs]
    refine dw_enter rfl ?_
    refine rB_X11_drawn (fun B hB => ?_)
    refine hB _ _ _ _ _ _ ?_
    refine dw_okV (a := 4) rfl rfl (show (SH1 4).1 = 0 by decide +kernel) rfl (by decide) rfl rfl ?_
    refine dw_enter rfl ?_
    refine rB_X0_cellAt (fun B hB => ?_)
    refine dw_ite (fun h22 => ?_) (fun h22 => ?_)
    · refine rB_X11_drawn (fun B hB => ?_)
      refine rB_law (fun B hB => ?_)
      refine hB _ _ _ _ _ _ ?_
      refine dw_okV (a := 404) (as := [.int (xs 1), .int (xs 2), .int (xs 3), .int (xs 4), .int (xs 5)]) rfl rfl (show (SH1 404).1 = 12 by decide +kernel) rfl (by decide) rfl rfl ?_
      rw [hs]
      refine dw_enter rfl ?_
      refine rB_X12_drawn (fun B hB => ?_)
      refine hB _ _ _ _ _ _ ?_
      refine dw_okV (a := 404) rfl rfl (show (SH1 404).1 = 12 by decide +kernel) rfl (by decide) rfl rfl ?_
      refine dw_enter rfl ?_
      refine rB_X12_isNight (fun B hB => ?_)
      refine hB _ _ _ _ _ _ ?_
      refine dw_okS rfl rfl rfl (by decide) rfl rfl ?_
      refine dw_enter rfl ?_
      refine rB_X12_isIn (fun B hB => ?_)
      refine rB_X12_isNight (fun B hB => ?_)
      refine rB_X12_drawn (fun B hB => ?_)
      refine rB_law (fun B hB => ?_)
      refine hB _ _ _ _ _ _ ?_
      exact law_z
    · refine dw_ite (fun h23 => ?_) (fun h23 => ?_)
      · refine rB_X11_drawn (fun B hB => ?_)
        refine rB_law (fun B hB => ?_)
        refine hB _ _ _ _ _ _ ?_
        refine dw_okV (a := 404) (as := [.int (xs 1), .int (xs 2), .int (xs 3), .int (xs 4), .int (xs 5)]) rfl rfl (show (SH1 404).1 = 12 by decide +kernel) rfl (by decide) rfl rfl ?_
        rw [hs]
        refine dw_enter rfl ?_
        refine rB_X12_drawn (fun B hB => ?_)
        refine hB _ _ _ _ _ _ ?_
        refine dw_okV (a := 404) rfl rfl (show (SH1 404).1 = 12 by decide +kernel) rfl (by decide) rfl rfl ?_
        refine dw_enter rfl ?_
        refine rB_X12_isNight (fun B hB => ?_)
        refine hB _ _ _ _ _ _ ?_
        refine dw_okS rfl rfl rfl (by decide) rfl rfl ?_
        refine dw_enter rfl ?_
        refine rB_X12_isIn (fun B hB => ?_)
        refine rB_X12_isNight (fun B hB => ?_)
        refine rB_X12_drawn (fun B hB => ?_)
        refine rB_law (fun B hB => ?_)
        refine hB _ _ _ _ _ _ ?_
        exact law_z
      · refine dw_ite (fun h24 => ?_) (fun h24 => ?_)
        · refine rB_X11_drawn (fun B hB => ?_)
          refine rB_law (fun B hB => ?_)
          refine hB _ _ _ _ _ _ ?_
          refine dw_okV (a := 404) (as := [.int (xs 1), .int (xs 2), .int (xs 3), .int (xs 4), .int (xs 5)]) rfl rfl (show (SH1 404).1 = 12 by decide +kernel) rfl (by decide) rfl rfl ?_
          rw [hs]
          refine dw_enter rfl ?_
          refine rB_X12_drawn (fun B hB => ?_)
          refine hB _ _ _ _ _ _ ?_
          refine dw_okV (a := 404) rfl rfl (show (SH1 404).1 = 12 by decide +kernel) rfl (by decide) rfl rfl ?_
          refine dw_enter rfl ?_
          refine rB_X12_isNight (fun B hB => ?_)
          refine hB _ _ _ _ _ _ ?_
          refine dw_okS rfl rfl rfl (by decide) rfl rfl ?_
          refine dw_enter rfl ?_
          refine rB_X12_isIn (fun B hB => ?_)
          refine rB_X12_isNight (fun B hB => ?_)
          refine rB_X12_drawn (fun B hB => ?_)
          refine rB_law (fun B hB => ?_)
          refine hB _ _ _ _ _ _ ?_
          exact law_z
        · refine dw_ite (fun h25 => ?_) (fun h25 => ?_)
          · refine rB_X11_drawn (fun B hB => ?_)
            refine rB_law (fun B hB => ?_)
            refine hB _ _ _ _ _ _ ?_
            refine dw_okV (a := 404) (as := [.int (xs 1), .int (xs 2), .int (xs 3), .int (xs 4), .int (xs 5)]) rfl rfl (show (SH1 404).1 = 12 by decide +kernel) rfl (by decide) rfl rfl ?_
            rw [hs]
            refine dw_enter rfl ?_
            refine rB_X12_drawn (fun B hB => ?_)
            refine hB _ _ _ _ _ _ ?_
            refine dw_okV (a := 404) rfl rfl (show (SH1 404).1 = 12 by decide +kernel) rfl (by decide) rfl rfl ?_
            refine dw_enter rfl ?_
            refine rB_X12_isNight (fun B hB => ?_)
            refine hB _ _ _ _ _ _ ?_
            refine dw_okS rfl rfl rfl (by decide) rfl rfl ?_
            refine dw_enter rfl ?_
            refine rB_X12_isIn (fun B hB => ?_)
            refine rB_X12_isNight (fun B hB => ?_)
            refine rB_X12_drawn (fun B hB => ?_)
            refine rB_law (fun B hB => ?_)
            refine hB _ _ _ _ _ _ ?_
            exact law_z
          · refine rB_X11_drawn (fun B hB => ?_)
            refine dw_ite (fun h26 => ?_) (fun h26 => ?_)
            · refine rB_law (fun B hB => ?_)
              refine hB _ _ _ _ _ _ ?_
              refine dw_okV (a := 404) (as := [.int (xs 1), .int (xs 2), .int (xs 3), .int (xs 4), .int (xs 5)]) rfl rfl (show (SH1 404).1 = 12 by decide +kernel) rfl (by decide) rfl rfl ?_
              rw [hs]
              refine dw_enter rfl ?_
              refine rB_X12_drawn (fun B hB => ?_)
              refine hB _ _ _ _ _ _ ?_
              refine dw_okV (a := 404) rfl rfl (show (SH1 404).1 = 12 by decide +kernel) rfl (by decide) rfl rfl ?_
              refine dw_enter rfl ?_
              refine rB_X12_isNight (fun B hB => ?_)
              refine hB _ _ _ _ _ _ ?_
              refine dw_okS rfl rfl rfl (by decide) rfl rfl ?_
              refine dw_enter rfl ?_
              refine rB_X12_isIn (fun B hB => ?_)
              refine rB_X12_isNight (fun B hB => ?_)
              refine rB_X12_drawn (fun B hB => ?_)
              refine rB_law (fun B hB => ?_)
              refine hB _ _ _ _ _ _ ?_
              exact law_z
            · refine dw_ite (fun h27 => ?_) (fun h27 => ?_)
              · refine rB_law (fun B hB => ?_)
                refine hB _ _ _ _ _ _ ?_
                refine dw_okV (a := 404) (as := [.int (xs 1), .int (xs 2), .int (xs 3), .int (xs 4), .int (xs 5)]) rfl rfl (show (SH1 404).1 = 12 by decide +kernel) rfl (by decide) rfl rfl ?_
                rw [hs]
                refine dw_enter rfl ?_
                refine rB_X12_drawn (fun B hB => ?_)
                refine hB _ _ _ _ _ _ ?_
                refine dw_okV (a := 404) rfl rfl (show (SH1 404).1 = 12 by decide +kernel) rfl (by decide) rfl rfl ?_
                refine dw_enter rfl ?_
                refine rB_X12_isNight (fun B hB => ?_)
                refine hB _ _ _ _ _ _ ?_
                refine dw_okS rfl rfl rfl (by decide) rfl rfl ?_
                refine dw_enter rfl ?_
                refine rB_X12_isIn (fun B hB => ?_)
                refine rB_X12_isNight (fun B hB => ?_)
                refine rB_X12_drawn (fun B hB => ?_)
                refine rB_law (fun B hB => ?_)
                refine hB _ _ _ _ _ _ ?_
                exact law_z
              · refine dw_ite (fun h28 => ?_) (fun h28 => ?_)
                · refine rB_law (fun B hB => ?_)
                  refine hB _ _ _ _ _ _ ?_
                  refine dw_okV (a := 404) (as := [.int (xs 1), .int (xs 2), .int (xs 3), .int (xs 4), .int (xs 5)]) rfl rfl (show (SH1 404).1 = 12 by decide +kernel) rfl (by decide) rfl rfl ?_
                  rw [hs]
                  refine dw_enter rfl ?_
                  refine rB_X12_drawn (fun B hB => ?_)
                  refine hB _ _ _ _ _ _ ?_
                  refine dw_okV (a := 404) rfl rfl (show (SH1 404).1 = 12 by decide +kernel) rfl (by decide) rfl rfl ?_
                  refine dw_enter rfl ?_
                  refine rB_X12_isNight (fun B hB => ?_)
                  refine hB _ _ _ _ _ _ ?_
                  refine dw_okS rfl rfl rfl (by decide) rfl rfl ?_
                  refine dw_enter rfl ?_
                  refine rB_X12_isIn (fun B hB => ?_)
                  refine rB_X12_isNight (fun B hB => ?_)
                  refine rB_X12_drawn (fun B hB => ?_)
                  refine rB_law (fun B hB => ?_)
                  refine hB _ _ _ _ _ _ ?_
                  exact law_z
                · refine hB _ _ _ _ _ _ ?_
                  refine dw_okV (a := 0) rfl rfl (show (SH1 0).1 = 11 by decide +kernel) rfl (by decide) rfl rfl ?_
                  refine dw_enter rfl ?_
                  refine rB_X11_start (fun B hB => ?_)
                  refine hB _ _ _ _ _ _ ?_
                  refine dw_okV (a := 3) rfl rfl (show (SH1 3).1 = 8 by decide +kernel) rfl (by decide) rfl rfl ?_
                  refine dw_enter rfl ?_
                  refine rB_X8_nightOf (fun B hB => ?_)
                  refine rB_X11_start (fun B hB => ?_)
                  refine (fun (_ : _ ∨ _) => ?_)
                  refine rB_X11_drawn (fun B hB => ?_)
                  refine rB_law (fun B hB => ?_)
                  refine hB _ _ _ _ _ _ ?_
                  refine dw_okV (a := 404) (as := [.int (xs 1), .int (xs 2), .int (xs 3), .int (xs 4), .int (xs 5)]) rfl rfl (show (SH1 404).1 = 12 by decide +kernel) rfl (by decide) rfl rfl ?_
                  rw [hs]
                  refine dw_enter rfl ?_
                  refine rB_X12_drawn (fun B hB => ?_)
                  refine hB _ _ _ _ _ _ ?_
                  refine dw_okV (a := 404) rfl rfl (show (SH1 404).1 = 12 by decide +kernel) rfl (by decide) rfl rfl ?_
                  refine dw_enter rfl ?_
                  refine rB_X12_isNight (fun B hB => ?_)
                  refine hB _ _ _ _ _ _ ?_
                  refine dw_okS rfl rfl rfl (by decide) rfl rfl ?_
                  refine dw_enter rfl ?_
                  refine rB_X12_isIn (fun B hB => ?_)
                  refine rB_X12_isNight (fun B hB => ?_)
                  refine rB_X12_drawn (fun B hB => ?_)
                  refine rB_law (fun B hB => ?_)
                  refine hB _ _ _ _ _ _ ?_
                  exact law_z
  · refine rB_law (fun B hB => ?_)
    refine hB _ _ _ _ _ _ ?_
    refine dw_okV (a := 0) (as := [.int (xs 1), .int (xs 2), .int (xs 3), .int (xs 4), .int (xs 5)]) rfl rfl (show (SH1 0).1 = 11 by decide +kernel) rfl (by decide) rfl rfl ?_
    rw [hs]
    refine dw_enter rfl ?_
    refine rB_X11_drawn (fun B hB => ?_)
    refine hB _ _ _ _ _ _ ?_
    refine dw_okV (a := 4) rfl rfl (show (SH1 4).1 = 0 by decide +kernel) rfl (by decide) rfl rfl ?_
    refine dw_enter rfl ?_
    refine rB_X0_cellAt (fun B hB => ?_)
    refine dw_ite (fun h29 => ?_) (fun h29 => ?_)
    · refine rB_X11_drawn (fun B hB => ?_)
      refine rB_law (fun B hB => ?_)
      refine hB _ _ _ _ _ _ ?_
      refine dw_okV (a := 404) (as := [.int (xs 1), .int (xs 2), .int (xs 3), .int (xs 4), .int (xs 5)]) rfl rfl (show (SH1 404).1 = 12 by decide +kernel) rfl (by decide) rfl rfl ?_
      rw [hs]
      refine dw_enter rfl ?_
      refine rB_X12_drawn (fun B hB => ?_)
      refine hB _ _ _ _ _ _ ?_
      refine dw_okV (a := 404) rfl rfl (show (SH1 404).1 = 12 by decide +kernel) rfl (by decide) rfl rfl ?_
      refine dw_enter rfl ?_
      refine rB_X12_isNight (fun B hB => ?_)
      refine hB _ _ _ _ _ _ ?_
      refine dw_okS rfl rfl rfl (by decide) rfl rfl ?_
      refine dw_enter rfl ?_
      refine rB_X12_isIn (fun B hB => ?_)
      refine rB_X12_isNight (fun B hB => ?_)
      refine rB_X12_drawn (fun B hB => ?_)
      refine rB_law (fun B hB => ?_)
      refine hB _ _ _ _ _ _ ?_
      exact law_z
    · refine dw_ite (fun h30 => ?_) (fun h30 => ?_)
      · refine rB_X11_drawn (fun B hB => ?_)
        refine rB_law (fun B hB => ?_)
        refine hB _ _ _ _ _ _ ?_
        refine dw_okV (a := 404) (as := [.int (xs 1), .int (xs 2), .int (xs 3), .int (xs 4), .int (xs 5)]) rfl rfl (show (SH1 404).1 = 12 by decide +kernel) rfl (by decide) rfl rfl ?_
        rw [hs]
        refine dw_enter rfl ?_
        refine rB_X12_drawn (fun B hB => ?_)
        refine hB _ _ _ _ _ _ ?_
        refine dw_okV (a := 404) rfl rfl (show (SH1 404).1 = 12 by decide +kernel) rfl (by decide) rfl rfl ?_
        refine dw_enter rfl ?_
        refine rB_X12_isNight (fun B hB => ?_)
        refine hB _ _ _ _ _ _ ?_
        refine dw_okS rfl rfl rfl (by decide) rfl rfl ?_
        refine dw_enter rfl ?_
        refine rB_X12_isIn (fun B hB => ?_)
        refine rB_X12_isNight (fun B hB => ?_)
        refine rB_X12_drawn (fun B hB => ?_)
        refine rB_law (fun B hB => ?_)
        refine hB _ _ _ _ _ _ ?_
        exact law_z
      · refine dw_ite (fun h31 => ?_) (fun h31 => ?_)
        · refine rB_X11_drawn (fun B hB => ?_)
          refine rB_law (fun B hB => ?_)
          refine hB _ _ _ _ _ _ ?_
          refine dw_okV (a := 404) (as := [.int (xs 1), .int (xs 2), .int (xs 3), .int (xs 4), .int (xs 5)]) rfl rfl (show (SH1 404).1 = 12 by decide +kernel) rfl (by decide) rfl rfl ?_
          rw [hs]
          refine dw_enter rfl ?_
          refine rB_X12_drawn (fun B hB => ?_)
          refine hB _ _ _ _ _ _ ?_
          refine dw_okV (a := 404) rfl rfl (show (SH1 404).1 = 12 by decide +kernel) rfl (by decide) rfl rfl ?_
          refine dw_enter rfl ?_
          refine rB_X12_isNight (fun B hB => ?_)
          refine hB _ _ _ _ _ _ ?_
          refine dw_okS rfl rfl rfl (by decide) rfl rfl ?_
          refine dw_enter rfl ?_
          refine rB_X12_isIn (fun B hB => ?_)
          refine rB_X12_isNight (fun B hB => ?_)
          refine rB_X12_drawn (fun B hB => ?_)
          refine rB_law (fun B hB => ?_)
          refine hB _ _ _ _ _ _ ?_
          exact law_z
        · refine dw_ite (fun h32 => ?_) (fun h32 => ?_)
          · refine rB_X11_drawn (fun B hB => ?_)
            refine rB_law (fun B hB => ?_)
            refine hB _ _ _ _ _ _ ?_
            refine dw_okV (a := 404) (as := [.int (xs 1), .int (xs 2), .int (xs 3), .int (xs 4), .int (xs 5)]) rfl rfl (show (SH1 404).1 = 12 by decide +kernel) rfl (by decide) rfl rfl ?_
            rw [hs]
            refine dw_enter rfl ?_
            refine rB_X12_drawn (fun B hB => ?_)
            refine hB _ _ _ _ _ _ ?_
            refine dw_okV (a := 404) rfl rfl (show (SH1 404).1 = 12 by decide +kernel) rfl (by decide) rfl rfl ?_
            refine dw_enter rfl ?_
            refine rB_X12_isNight (fun B hB => ?_)
            refine hB _ _ _ _ _ _ ?_
            refine dw_okS rfl rfl rfl (by decide) rfl rfl ?_
            refine dw_enter rfl ?_
            refine rB_X12_isIn (fun B hB => ?_)
            refine rB_X12_isNight (fun B hB => ?_)
            refine rB_X12_drawn (fun B hB => ?_)
            refine rB_law (fun B hB => ?_)
            refine hB _ _ _ _ _ _ ?_
            exact law_z
          · refine rB_X11_drawn (fun B hB => ?_)
            refine dw_ite (fun h33 => ?_) (fun h33 => ?_)
            · refine rB_law (fun B hB => ?_)
              refine hB _ _ _ _ _ _ ?_
              refine dw_okV (a := 404) (as := [.int (xs 1), .int (xs 2), .int (xs 3), .int (xs 4), .int (xs 5)]) rfl rfl (show (SH1 404).1 = 12 by decide +kernel) rfl (by decide) rfl rfl ?_
              rw [hs]
              refine dw_enter rfl ?_
              refine rB_X12_drawn (fun B hB => ?_)
              refine hB _ _ _ _ _ _ ?_
              refine dw_okV (a := 404) rfl rfl (show (SH1 404).1 = 12 by decide +kernel) rfl (by decide) rfl rfl ?_
              refine dw_enter rfl ?_
              refine rB_X12_isNight (fun B hB => ?_)
              refine hB _ _ _ _ _ _ ?_
              refine dw_okS rfl rfl rfl (by decide) rfl rfl ?_
              refine dw_enter rfl ?_
              refine rB_X12_isIn (fun B hB => ?_)
              refine rB_X12_isNight (fun B hB => ?_)
              refine rB_X12_drawn (fun B hB => ?_)
              refine rB_law (fun B hB => ?_)
              refine hB _ _ _ _ _ _ ?_
              exact law_z
            · refine dw_ite (fun h34 => ?_) (fun h34 => ?_)
              · refine rB_law (fun B hB => ?_)
                refine hB _ _ _ _ _ _ ?_
                refine dw_okV (a := 404) (as := [.int (xs 1), .int (xs 2), .int (xs 3), .int (xs 4), .int (xs 5)]) rfl rfl (show (SH1 404).1 = 12 by decide +kernel) rfl (by decide) rfl rfl ?_
                rw [hs]
                refine dw_enter rfl ?_
                refine rB_X12_drawn (fun B hB => ?_)
                refine hB _ _ _ _ _ _ ?_
                refine dw_okV (a := 404) rfl rfl (show (SH1 404).1 = 12 by decide +kernel) rfl (by decide) rfl rfl ?_
                refine dw_enter rfl ?_
                refine rB_X12_isNight (fun B hB => ?_)
                refine hB _ _ _ _ _ _ ?_
                refine dw_okS rfl rfl rfl (by decide) rfl rfl ?_
                refine dw_enter rfl ?_
                refine rB_X12_isIn (fun B hB => ?_)
                refine rB_X12_isNight (fun B hB => ?_)
                refine rB_X12_drawn (fun B hB => ?_)
                refine rB_law (fun B hB => ?_)
                refine hB _ _ _ _ _ _ ?_
                exact law_z
              · refine dw_ite (fun h35 => ?_) (fun h35 => ?_)
                · refine rB_law (fun B hB => ?_)
                  refine hB _ _ _ _ _ _ ?_
                  refine dw_okV (a := 404) (as := [.int (xs 1), .int (xs 2), .int (xs 3), .int (xs 4), .int (xs 5)]) rfl rfl (show (SH1 404).1 = 12 by decide +kernel) rfl (by decide) rfl rfl ?_
                  rw [hs]
                  refine dw_enter rfl ?_
                  refine rB_X12_drawn (fun B hB => ?_)
                  refine hB _ _ _ _ _ _ ?_
                  refine dw_okV (a := 404) rfl rfl (show (SH1 404).1 = 12 by decide +kernel) rfl (by decide) rfl rfl ?_
                  refine dw_enter rfl ?_
                  refine rB_X12_isNight (fun B hB => ?_)
                  refine hB _ _ _ _ _ _ ?_
                  refine dw_okS rfl rfl rfl (by decide) rfl rfl ?_
                  refine dw_enter rfl ?_
                  refine rB_X12_isIn (fun B hB => ?_)
                  refine rB_X12_isNight (fun B hB => ?_)
                  refine rB_X12_drawn (fun B hB => ?_)
                  refine rB_law (fun B hB => ?_)
                  refine hB _ _ _ _ _ _ ?_
                  exact law_z
                · refine hB _ _ _ _ _ _ ?_
                  refine dw_okV (a := 0) rfl rfl (show (SH1 0).1 = 11 by decide +kernel) rfl (by decide) rfl rfl ?_
                  refine dw_enter rfl ?_
                  refine rB_X11_start (fun B hB => ?_)
                  refine hB _ _ _ _ _ _ ?_
                  refine dw_okV (a := 3) rfl rfl (show (SH1 3).1 = 8 by decide +kernel) rfl (by decide) rfl rfl ?_
                  refine dw_enter rfl ?_
                  refine rB_X8_nightOf (fun B hB => ?_)
                  refine rB_X11_start (fun B hB => ?_)
                  refine (fun (_ : _ ∨ _) => ?_)
                  refine rB_X11_drawn (fun B hB => ?_)
                  refine rB_law (fun B hB => ?_)
                  refine hB _ _ _ _ _ _ ?_
                  refine dw_okV (a := 404) (as := [.int (xs 1), .int (xs 2), .int (xs 3), .int (xs 4), .int (xs 5)]) rfl rfl (show (SH1 404).1 = 12 by decide +kernel) rfl (by decide) rfl rfl ?_
                  rw [hs]
                  refine dw_enter rfl ?_
                  refine rB_X12_drawn (fun B hB => ?_)
                  refine hB _ _ _ _ _ _ ?_
                  refine dw_okV (a := 404) rfl rfl (show (SH1 404).1 = 12 by decide +kernel) rfl (by decide) rfl rfl ?_
                  refine dw_enter rfl ?_
                  refine rB_X12_isNight (fun B hB => ?_)
                  refine hB _ _ _ _ _ _ ?_
                  refine dw_okS rfl rfl rfl (by decide) rfl rfl ?_
                  refine dw_enter rfl ?_
                  refine rB_X12_isIn (fun B hB => ?_)
                  refine rB_X12_isNight (fun B hB => ?_)
                  refine rB_X12_drawn (fun B hB => ?_)
                  refine rB_law (fun B hB => ?_)
                  refine hB _ _ _ _ _ _ ?_
                  exact law_z
  · refine rB_law (fun B hB => ?_)
    refine hB _ _ _ _ _ _ ?_
    refine dw_okV (a := 0) (as := [.int (xs 1), .int (xs 2), .int (xs 3), .int (xs 4), .int (xs 5)]) rfl rfl (show (SH1 0).1 = 11 by decide +kernel) rfl (by decide) rfl rfl ?_
    rw [hs]
    refine dw_enter rfl ?_
    refine rB_X11_drawn (fun B hB => ?_)
    refine hB _ _ _ _ _ _ ?_
    refine dw_okV (a := 4) rfl rfl (show (SH1 4).1 = 0 by decide +kernel) rfl (by decide) rfl rfl ?_
    refine dw_enter rfl ?_
    refine rB_X0_cellAt (fun B hB => ?_)
    refine dw_ite (fun h36 => ?_) (fun h36 => ?_)
    · refine rB_X11_drawn (fun B hB => ?_)
      refine rB_law (fun B hB => ?_)
      refine hB _ _ _ _ _ _ ?_
      refine dw_okV (a := 404) (as := [.int (xs 1), .int (xs 2), .int (xs 3), .int (xs 4), .int (xs 5)]) rfl rfl (show (SH1 404).1 = 12 by decide +kernel) rfl (by decide) rfl rfl ?_
      rw [hs]
      refine dw_enter rfl ?_
      refine rB_X12_drawn (fun B hB => ?_)
      refine hB _ _ _ _ _ _ ?_
      refine dw_okV (a := 404) rfl rfl (show (SH1 404).1 = 12 by decide +kernel) rfl (by decide) rfl rfl ?_
      refine dw_enter rfl ?_
      refine rB_X12_isNight (fun B hB => ?_)
      refine hB _ _ _ _ _ _ ?_
      refine dw_okS rfl rfl rfl (by decide) rfl rfl ?_
      refine dw_enter rfl ?_
      refine rB_X12_isIn (fun B hB => ?_)
      refine rB_X12_isNight (fun B hB => ?_)
      refine rB_X12_drawn (fun B hB => ?_)
      refine rB_law (fun B hB => ?_)
      refine hB _ _ _ _ _ _ ?_
      exact law_z
    · refine dw_ite (fun h37 => ?_) (fun h37 => ?_)
      · refine rB_X11_drawn (fun B hB => ?_)
        refine rB_law (fun B hB => ?_)
        refine hB _ _ _ _ _ _ ?_
        refine dw_okV (a := 404) (as := [.int (xs 1), .int (xs 2), .int (xs 3), .int (xs 4), .int (xs 5)]) rfl rfl (show (SH1 404).1 = 12 by decide +kernel) rfl (by decide) rfl rfl ?_
        rw [hs]
        refine dw_enter rfl ?_
        refine rB_X12_drawn (fun B hB => ?_)
        refine hB _ _ _ _ _ _ ?_
        refine dw_okV (a := 404) rfl rfl (show (SH1 404).1 = 12 by decide +kernel) rfl (by decide) rfl rfl ?_
        refine dw_enter rfl ?_
        refine rB_X12_isNight (fun B hB => ?_)
        refine hB _ _ _ _ _ _ ?_
        refine dw_okS rfl rfl rfl (by decide) rfl rfl ?_
        refine dw_enter rfl ?_
        refine rB_X12_isIn (fun B hB => ?_)
        refine rB_X12_isNight (fun B hB => ?_)
        refine rB_X12_drawn (fun B hB => ?_)
        refine rB_law (fun B hB => ?_)
        refine hB _ _ _ _ _ _ ?_
        exact law_z
      · refine dw_ite (fun h38 => ?_) (fun h38 => ?_)
        · refine rB_X11_drawn (fun B hB => ?_)
          refine rB_law (fun B hB => ?_)
          refine hB _ _ _ _ _ _ ?_
          refine dw_okV (a := 404) (as := [.int (xs 1), .int (xs 2), .int (xs 3), .int (xs 4), .int (xs 5)]) rfl rfl (show (SH1 404).1 = 12 by decide +kernel) rfl (by decide) rfl rfl ?_
          rw [hs]
          refine dw_enter rfl ?_
          refine rB_X12_drawn (fun B hB => ?_)
          refine hB _ _ _ _ _ _ ?_
          refine dw_okV (a := 404) rfl rfl (show (SH1 404).1 = 12 by decide +kernel) rfl (by decide) rfl rfl ?_
          refine dw_enter rfl ?_
          refine rB_X12_isNight (fun B hB => ?_)
          refine hB _ _ _ _ _ _ ?_
          refine dw_okS rfl rfl rfl (by decide) rfl rfl ?_
          refine dw_enter rfl ?_
          refine rB_X12_isIn (fun B hB => ?_)
          refine rB_X12_isNight (fun B hB => ?_)
          refine rB_X12_drawn (fun B hB => ?_)
          refine rB_law (fun B hB => ?_)
          refine hB _ _ _ _ _ _ ?_
          exact law_z
        · refine dw_ite (fun h39 => ?_) (fun h39 => ?_)
          · refine rB_X11_drawn (fun B hB => ?_)
            refine rB_law (fun B hB => ?_)
            refine hB _ _ _ _ _ _ ?_
            refine dw_okV (a := 404) (as := [.int (xs 1), .int (xs 2), .int (xs 3), .int (xs 4), .int (xs 5)]) rfl rfl (show (SH1 404).1 = 12 by decide +kernel) rfl (by decide) rfl rfl ?_
            rw [hs]
            refine dw_enter rfl ?_
            refine rB_X12_drawn (fun B hB => ?_)
            refine hB _ _ _ _ _ _ ?_
            refine dw_okV (a := 404) rfl rfl (show (SH1 404).1 = 12 by decide +kernel) rfl (by decide) rfl rfl ?_
            refine dw_enter rfl ?_
            refine rB_X12_isNight (fun B hB => ?_)
            refine hB _ _ _ _ _ _ ?_
            refine dw_okS rfl rfl rfl (by decide) rfl rfl ?_
            refine dw_enter rfl ?_
            refine rB_X12_isIn (fun B hB => ?_)
            refine rB_X12_isNight (fun B hB => ?_)
            refine rB_X12_drawn (fun B hB => ?_)
            refine rB_law (fun B hB => ?_)
            refine hB _ _ _ _ _ _ ?_
            exact law_z
          · refine rB_X11_drawn (fun B hB => ?_)
            refine dw_ite (fun h40 => ?_) (fun h40 => ?_)
            · refine rB_law (fun B hB => ?_)
              refine hB _ _ _ _ _ _ ?_
              refine dw_okV (a := 404) (as := [.int (xs 1), .int (xs 2), .int (xs 3), .int (xs 4), .int (xs 5)]) rfl rfl (show (SH1 404).1 = 12 by decide +kernel) rfl (by decide) rfl rfl ?_
              rw [hs]
              refine dw_enter rfl ?_
              refine rB_X12_drawn (fun B hB => ?_)
              refine hB _ _ _ _ _ _ ?_
              refine dw_okV (a := 404) rfl rfl (show (SH1 404).1 = 12 by decide +kernel) rfl (by decide) rfl rfl ?_
              refine dw_enter rfl ?_
              refine rB_X12_isNight (fun B hB => ?_)
              refine hB _ _ _ _ _ _ ?_
              refine dw_okS rfl rfl rfl (by decide) rfl rfl ?_
              refine dw_enter rfl ?_
              refine rB_X12_isIn (fun B hB => ?_)
              refine rB_X12_isNight (fun B hB => ?_)
              refine rB_X12_drawn (fun B hB => ?_)
              refine rB_law (fun B hB => ?_)
              refine hB _ _ _ _ _ _ ?_
              exact law_z
            · refine dw_ite (fun h41 => ?_) (fun h41 => ?_)
              · refine rB_law (fun B hB => ?_)
                refine hB _ _ _ _ _ _ ?_
                refine dw_okV (a := 404) (as := [.int (xs 1), .int (xs 2), .int (xs 3), .int (xs 4), .int (xs 5)]) rfl rfl (show (SH1 404).1 = 12 by decide +kernel) rfl (by decide) rfl rfl ?_
                rw [hs]
                refine dw_enter rfl ?_
                refine rB_X12_drawn (fun B hB => ?_)
                refine hB _ _ _ _ _ _ ?_
                refine dw_okV (a := 404) rfl rfl (show (SH1 404).1 = 12 by decide +kernel) rfl (by decide) rfl rfl ?_
                refine dw_enter rfl ?_
                refine rB_X12_isNight (fun B hB => ?_)
                refine hB _ _ _ _ _ _ ?_
                refine dw_okS rfl rfl rfl (by decide) rfl rfl ?_
                refine dw_enter rfl ?_
                refine rB_X12_isIn (fun B hB => ?_)
                refine rB_X12_isNight (fun B hB => ?_)
                refine rB_X12_drawn (fun B hB => ?_)
                refine rB_law (fun B hB => ?_)
                refine hB _ _ _ _ _ _ ?_
                exact law_z
              · refine dw_ite (fun h42 => ?_) (fun h42 => ?_)
                · refine rB_law (fun B hB => ?_)
                  refine hB _ _ _ _ _ _ ?_
                  refine dw_okV (a := 404) (as := [.int (xs 1), .int (xs 2), .int (xs 3), .int (xs 4), .int (xs 5)]) rfl rfl (show (SH1 404).1 = 12 by decide +kernel) rfl (by decide) rfl rfl ?_
                  rw [hs]
                  refine dw_enter rfl ?_
                  refine rB_X12_drawn (fun B hB => ?_)
                  refine hB _ _ _ _ _ _ ?_
                  refine dw_okV (a := 404) rfl rfl (show (SH1 404).1 = 12 by decide +kernel) rfl (by decide) rfl rfl ?_
                  refine dw_enter rfl ?_
                  refine rB_X12_isNight (fun B hB => ?_)
                  refine hB _ _ _ _ _ _ ?_
                  refine dw_okS rfl rfl rfl (by decide) rfl rfl ?_
                  refine dw_enter rfl ?_
                  refine rB_X12_isIn (fun B hB => ?_)
                  refine rB_X12_isNight (fun B hB => ?_)
                  refine rB_X12_drawn (fun B hB => ?_)
                  refine rB_law (fun B hB => ?_)
                  refine hB _ _ _ _ _ _ ?_
                  exact law_z
                · refine hB _ _ _ _ _ _ ?_
                  refine dw_okV (a := 0) rfl rfl (show (SH1 0).1 = 11 by decide +kernel) rfl (by decide) rfl rfl ?_
                  refine dw_enter rfl ?_
                  refine rB_X11_start (fun B hB => ?_)
                  refine hB _ _ _ _ _ _ ?_
                  refine dw_okV (a := 3) rfl rfl (show (SH1 3).1 = 8 by decide +kernel) rfl (by decide) rfl rfl ?_
                  refine dw_enter rfl ?_
                  refine rB_X8_nightOf (fun B hB => ?_)
                  refine rB_X11_start (fun B hB => ?_)
                  refine (fun (_ : _ ∨ _) => ?_)
                  refine rB_X11_drawn (fun B hB => ?_)
                  refine rB_law (fun B hB => ?_)
                  refine hB _ _ _ _ _ _ ?_
                  refine dw_okV (a := 404) (as := [.int (xs 1), .int (xs 2), .int (xs 3), .int (xs 4), .int (xs 5)]) rfl rfl (show (SH1 404).1 = 12 by decide +kernel) rfl (by decide) rfl rfl ?_
                  rw [hs]
                  refine dw_enter rfl ?_
                  refine rB_X12_drawn (fun B hB => ?_)
                  refine hB _ _ _ _ _ _ ?_
                  refine dw_okV (a := 404) rfl rfl (show (SH1 404).1 = 12 by decide +kernel) rfl (by decide) rfl rfl ?_
                  refine dw_enter rfl ?_
                  refine rB_X12_isNight (fun B hB => ?_)
                  refine hB _ _ _ _ _ _ ?_
                  refine dw_okS rfl rfl rfl (by decide) rfl rfl ?_
                  refine dw_enter rfl ?_
                  refine rB_X12_isIn (fun B hB => ?_)
                  refine rB_X12_isNight (fun B hB => ?_)
                  refine rB_X12_drawn (fun B hB => ?_)
                  refine rB_law (fun B hB => ?_)
                  refine hB _ _ _ _ _ _ ?_
                  exact law_z
  · refine rB_law (fun B hB => ?_)
    refine hB _ _ _ _ _ _ ?_
    refine dw_okV (a := 0) (as := [.int (xs 1), .int (xs 2), .int (xs 3), .int (xs 4), .int (xs 5)]) rfl rfl (show (SH1 0).1 = 11 by decide +kernel) rfl (by decide) rfl rfl ?_
    refine dw_enter rfl ?_
    refine rB_X11_drawn (fun B hB => ?_)
    refine hB _ _ _ _ _ _ ?_
    refine dw_okV (a := 4) rfl rfl (show (SH1 4).1 = 0 by decide +kernel) rfl (by decide) rfl rfl ?_
    refine dw_enter rfl ?_
    refine rB_X0_cellAt (fun B hB => ?_)
    refine dw_ite (fun h43 => ?_) (fun h43 => ?_)
    · refine rB_X11_drawn (fun B hB => ?_)
      refine rB_law (fun B hB => ?_)
      refine hB _ _ _ _ _ _ ?_
      refine dw_okV (a := 404) (as := [.int (xs 1), .int (xs 2), .int (xs 3), .int (xs 4), .int (xs 5)]) rfl rfl (show (SH1 404).1 = 12 by decide +kernel) rfl (by decide) rfl rfl ?_
      refine dw_enter rfl ?_
      refine rB_X12_drawn (fun B hB => ?_)
      refine hB _ _ _ _ _ _ ?_
      refine dw_okV (a := 404) rfl rfl (show (SH1 404).1 = 12 by decide +kernel) rfl (by decide) rfl rfl ?_
      refine dw_enter rfl ?_
      refine rB_X12_isNight (fun B hB => ?_)
      refine hB _ _ _ _ _ _ ?_
      refine dw_okS rfl rfl rfl (by decide) rfl rfl ?_
      refine dw_enter rfl ?_
      refine rB_X12_isIn (fun B hB => ?_)
      refine dw_itp n0 ?_
      refine rB_X12_isNight (fun B hB => ?_)
      refine rB_X12_drawn (fun B hB => ?_)
      refine rB_law (fun B hB => ?_)
      refine hB _ _ _ _ _ _ ?_
      exact law_z
    · refine dw_ite (fun h44 => ?_) (fun h44 => ?_)
      · refine rB_X11_drawn (fun B hB => ?_)
        refine rB_law (fun B hB => ?_)
        refine hB _ _ _ _ _ _ ?_
        refine dw_okV (a := 404) (as := [.int (xs 1), .int (xs 2), .int (xs 3), .int (xs 4), .int (xs 5)]) rfl rfl (show (SH1 404).1 = 12 by decide +kernel) rfl (by decide) rfl rfl ?_
        refine dw_enter rfl ?_
        refine rB_X12_drawn (fun B hB => ?_)
        refine hB _ _ _ _ _ _ ?_
        refine dw_okV (a := 404) rfl rfl (show (SH1 404).1 = 12 by decide +kernel) rfl (by decide) rfl rfl ?_
        refine dw_enter rfl ?_
        refine rB_X12_isNight (fun B hB => ?_)
        refine hB _ _ _ _ _ _ ?_
        refine dw_okS rfl rfl rfl (by decide) rfl rfl ?_
        refine dw_enter rfl ?_
        refine rB_X12_isIn (fun B hB => ?_)
        refine dw_itp n0 ?_
        refine rB_X12_isNight (fun B hB => ?_)
        refine rB_X12_drawn (fun B hB => ?_)
        refine rB_law (fun B hB => ?_)
        refine hB _ _ _ _ _ _ ?_
        exact law_z
      · refine dw_ite (fun h45 => ?_) (fun h45 => ?_)
        · refine rB_X11_drawn (fun B hB => ?_)
          refine rB_law (fun B hB => ?_)
          refine hB _ _ _ _ _ _ ?_
          refine dw_okV (a := 404) (as := [.int (xs 1), .int (xs 2), .int (xs 3), .int (xs 4), .int (xs 5)]) rfl rfl (show (SH1 404).1 = 12 by decide +kernel) rfl (by decide) rfl rfl ?_
          refine dw_enter rfl ?_
          refine rB_X12_drawn (fun B hB => ?_)
          refine hB _ _ _ _ _ _ ?_
          refine dw_okV (a := 404) rfl rfl (show (SH1 404).1 = 12 by decide +kernel) rfl (by decide) rfl rfl ?_
          refine dw_enter rfl ?_
          refine rB_X12_isNight (fun B hB => ?_)
          refine hB _ _ _ _ _ _ ?_
          refine dw_okS rfl rfl rfl (by decide) rfl rfl ?_
          refine dw_enter rfl ?_
          refine rB_X12_isIn (fun B hB => ?_)
          refine dw_itp n0 ?_
          refine rB_X12_isNight (fun B hB => ?_)
          refine rB_X12_drawn (fun B hB => ?_)
          refine rB_law (fun B hB => ?_)
          refine hB _ _ _ _ _ _ ?_
          exact law_z
        · refine dw_ite (fun h46 => ?_) (fun h46 => ?_)
          · refine rB_X11_drawn (fun B hB => ?_)
            refine rB_law (fun B hB => ?_)
            refine hB _ _ _ _ _ _ ?_
            refine dw_okV (a := 404) (as := [.int (xs 1), .int (xs 2), .int (xs 3), .int (xs 4), .int (xs 5)]) rfl rfl (show (SH1 404).1 = 12 by decide +kernel) rfl (by decide) rfl rfl ?_
            refine dw_enter rfl ?_
            refine rB_X12_drawn (fun B hB => ?_)
            refine hB _ _ _ _ _ _ ?_
            refine dw_okV (a := 404) rfl rfl (show (SH1 404).1 = 12 by decide +kernel) rfl (by decide) rfl rfl ?_
            refine dw_enter rfl ?_
            refine rB_X12_isNight (fun B hB => ?_)
            refine hB _ _ _ _ _ _ ?_
            refine dw_okS rfl rfl rfl (by decide) rfl rfl ?_
            refine dw_enter rfl ?_
            refine rB_X12_isIn (fun B hB => ?_)
            refine dw_itp n0 ?_
            refine rB_X12_isNight (fun B hB => ?_)
            refine rB_X12_drawn (fun B hB => ?_)
            refine rB_law (fun B hB => ?_)
            refine hB _ _ _ _ _ _ ?_
            exact law_z
          · refine rB_X11_drawn (fun B hB => ?_)
            refine dw_ite (fun h47 => ?_) (fun h47 => ?_)
            · refine rB_law (fun B hB => ?_)
              refine hB _ _ _ _ _ _ ?_
              refine dw_okV (a := 404) (as := [.int (xs 1), .int (xs 2), .int (xs 3), .int (xs 4), .int (xs 5)]) rfl rfl (show (SH1 404).1 = 12 by decide +kernel) rfl (by decide) rfl rfl ?_
              refine dw_enter rfl ?_
              refine rB_X12_drawn (fun B hB => ?_)
              refine hB _ _ _ _ _ _ ?_
              refine dw_okV (a := 404) rfl rfl (show (SH1 404).1 = 12 by decide +kernel) rfl (by decide) rfl rfl ?_
              refine dw_enter rfl ?_
              refine rB_X12_isNight (fun B hB => ?_)
              refine hB _ _ _ _ _ _ ?_
              refine dw_okS rfl rfl rfl (by decide) rfl rfl ?_
              refine dw_enter rfl ?_
              refine rB_X12_isIn (fun B hB => ?_)
              refine dw_itp n0 ?_
              refine rB_X12_isNight (fun B hB => ?_)
              refine rB_X12_drawn (fun B hB => ?_)
              refine rB_law (fun B hB => ?_)
              refine hB _ _ _ _ _ _ ?_
              exact law_z
            · refine dw_ite (fun h48 => ?_) (fun h48 => ?_)
              · refine rB_law (fun B hB => ?_)
                refine hB _ _ _ _ _ _ ?_
                refine dw_okV (a := 404) (as := [.int (xs 1), .int (xs 2), .int (xs 3), .int (xs 4), .int (xs 5)]) rfl rfl (show (SH1 404).1 = 12 by decide +kernel) rfl (by decide) rfl rfl ?_
                refine dw_enter rfl ?_
                refine rB_X12_drawn (fun B hB => ?_)
                refine hB _ _ _ _ _ _ ?_
                refine dw_okV (a := 404) rfl rfl (show (SH1 404).1 = 12 by decide +kernel) rfl (by decide) rfl rfl ?_
                refine dw_enter rfl ?_
                refine rB_X12_isNight (fun B hB => ?_)
                refine hB _ _ _ _ _ _ ?_
                refine dw_okS rfl rfl rfl (by decide) rfl rfl ?_
                refine dw_enter rfl ?_
                refine rB_X12_isIn (fun B hB => ?_)
                refine dw_itp n0 ?_
                refine rB_X12_isNight (fun B hB => ?_)
                refine rB_X12_drawn (fun B hB => ?_)
                refine rB_law (fun B hB => ?_)
                refine hB _ _ _ _ _ _ ?_
                exact law_z
              · refine dw_ite (fun h49 => ?_) (fun h49 => ?_)
                · refine rB_law (fun B hB => ?_)
                  refine hB _ _ _ _ _ _ ?_
                  refine dw_okV (a := 404) (as := [.int (xs 1), .int (xs 2), .int (xs 3), .int (xs 4), .int (xs 5)]) rfl rfl (show (SH1 404).1 = 12 by decide +kernel) rfl (by decide) rfl rfl ?_
                  refine dw_enter rfl ?_
                  refine rB_X12_drawn (fun B hB => ?_)
                  refine hB _ _ _ _ _ _ ?_
                  refine dw_okV (a := 404) rfl rfl (show (SH1 404).1 = 12 by decide +kernel) rfl (by decide) rfl rfl ?_
                  refine dw_enter rfl ?_
                  refine rB_X12_isNight (fun B hB => ?_)
                  refine hB _ _ _ _ _ _ ?_
                  refine dw_okS rfl rfl rfl (by decide) rfl rfl ?_
                  refine dw_enter rfl ?_
                  refine rB_X12_isIn (fun B hB => ?_)
                  refine dw_itp n0 ?_
                  refine rB_X12_isNight (fun B hB => ?_)
                  refine rB_X12_drawn (fun B hB => ?_)
                  refine rB_law (fun B hB => ?_)
                  refine hB _ _ _ _ _ _ ?_
                  exact law_z
                · refine hB _ _ _ _ _ _ ?_
                  refine dw_okV (a := 0) rfl rfl (show (SH1 0).1 = 11 by decide +kernel) rfl (by decide) rfl rfl ?_
                  refine dw_enter rfl ?_
                  refine rB_X11_start (fun B hB => ?_)
                  refine hB _ _ _ _ _ _ ?_
                  refine dw_okV (a := 3) rfl rfl (show (SH1 3).1 = 8 by decide +kernel) rfl (by decide) rfl rfl ?_
                  refine dw_enter rfl ?_
                  refine rB_X8_nightOf (fun B hB => ?_)
                  refine dw_itp n0 ?_
                  refine rB_X11_start (fun B hB => ?_)
                  refine rB_X11_drawn (fun B hB => ?_)
                  refine rB_law (fun B hB => ?_)
                  refine hB _ _ _ _ _ _ ?_
                  refine dw_okV (a := 404) (as := [.int (xs 1), .int (xs 2), .int (xs 3), .int (xs 4), .int (xs 5)]) rfl rfl (show (SH1 404).1 = 12 by decide +kernel) rfl (by decide) rfl rfl ?_
                  refine dw_enter rfl ?_
                  refine rB_X12_drawn (fun B hB => ?_)
                  refine hB _ _ _ _ _ _ ?_
                  refine dw_okV (a := 404) rfl rfl (show (SH1 404).1 = 12 by decide +kernel) rfl (by decide) rfl rfl ?_
                  refine dw_enter rfl ?_
                  refine rB_X12_isNight (fun B hB => ?_)
                  refine hB _ _ _ _ _ _ ?_
                  refine dw_okS rfl rfl rfl (by decide) rfl rfl ?_
                  refine dw_enter rfl ?_
                  refine rB_X12_isIn (fun B hB => ?_)
                  refine dw_itp n0 ?_
                  refine rB_X12_isNight (fun B hB => ?_)
                  refine rB_X12_drawn (fun B hB => ?_)
                  refine rB_law (fun B hB => ?_)
                  refine hB _ _ _ _ _ _ ?_
                  exact law_z
  · refine rB_law (fun B hB => ?_)
    refine hB _ _ _ _ _ _ ?_
    refine dw_okV (a := 0) (as := [.int (xs 1), .int (xs 2), .int (xs 3), .int (xs 4), .int (xs 5)]) rfl rfl (show (SH1 0).1 = 11 by decide +kernel) rfl (by decide) rfl rfl ?_
    refine dw_enter rfl ?_
    refine rB_X11_drawn (fun B hB => ?_)
    refine hB _ _ _ _ _ _ ?_
    refine dw_okV (a := 4) rfl rfl (show (SH1 4).1 = 0 by decide +kernel) rfl (by decide) rfl rfl ?_
    refine dw_enter rfl ?_
    refine rB_X0_cellAt (fun B hB => ?_)
    refine dw_ite (fun h50 => ?_) (fun h50 => ?_)
    · refine rB_X11_drawn (fun B hB => ?_)
      refine rB_law (fun B hB => ?_)
      refine hB _ _ _ _ _ _ ?_
      refine dw_okV (a := 404) (as := [.int (xs 1), .int (xs 2), .int (xs 3), .int (xs 4), .int (xs 5)]) rfl rfl (show (SH1 404).1 = 12 by decide +kernel) rfl (by decide) rfl rfl ?_
      refine dw_enter rfl ?_
      refine rB_X12_drawn (fun B hB => ?_)
      refine hB _ _ _ _ _ _ ?_
      refine dw_okV (a := 404) rfl rfl (show (SH1 404).1 = 12 by decide +kernel) rfl (by decide) rfl rfl ?_
      refine dw_enter rfl ?_
      refine rB_X12_isNight (fun B hB => ?_)
      refine hB _ _ _ _ _ _ ?_
      refine dw_okS rfl rfl rfl (by decide) rfl rfl ?_
      refine dw_enter rfl ?_
      refine rB_X12_isIn (fun B hB => ?_)
      refine dw_itn n1 ?_
      refine dw_itp n2 ?_
      refine rB_X12_isNight (fun B hB => ?_)
      refine rB_X12_drawn (fun B hB => ?_)
      refine rB_law (fun B hB => ?_)
      refine hB _ _ _ _ _ _ ?_
      exact law_z
    · refine dw_ite (fun h51 => ?_) (fun h51 => ?_)
      · refine rB_X11_drawn (fun B hB => ?_)
        refine rB_law (fun B hB => ?_)
        refine hB _ _ _ _ _ _ ?_
        refine dw_okV (a := 404) (as := [.int (xs 1), .int (xs 2), .int (xs 3), .int (xs 4), .int (xs 5)]) rfl rfl (show (SH1 404).1 = 12 by decide +kernel) rfl (by decide) rfl rfl ?_
        refine dw_enter rfl ?_
        refine rB_X12_drawn (fun B hB => ?_)
        refine hB _ _ _ _ _ _ ?_
        refine dw_okV (a := 404) rfl rfl (show (SH1 404).1 = 12 by decide +kernel) rfl (by decide) rfl rfl ?_
        refine dw_enter rfl ?_
        refine rB_X12_isNight (fun B hB => ?_)
        refine hB _ _ _ _ _ _ ?_
        refine dw_okS rfl rfl rfl (by decide) rfl rfl ?_
        refine dw_enter rfl ?_
        refine rB_X12_isIn (fun B hB => ?_)
        refine dw_itn n1 ?_
        refine dw_itp n2 ?_
        refine rB_X12_isNight (fun B hB => ?_)
        refine rB_X12_drawn (fun B hB => ?_)
        refine rB_law (fun B hB => ?_)
        refine hB _ _ _ _ _ _ ?_
        exact law_z
      · refine dw_ite (fun h52 => ?_) (fun h52 => ?_)
        · refine rB_X11_drawn (fun B hB => ?_)
          refine rB_law (fun B hB => ?_)
          refine hB _ _ _ _ _ _ ?_
          refine dw_okV (a := 404) (as := [.int (xs 1), .int (xs 2), .int (xs 3), .int (xs 4), .int (xs 5)]) rfl rfl (show (SH1 404).1 = 12 by decide +kernel) rfl (by decide) rfl rfl ?_
          refine dw_enter rfl ?_
          refine rB_X12_drawn (fun B hB => ?_)
          refine hB _ _ _ _ _ _ ?_
          refine dw_okV (a := 404) rfl rfl (show (SH1 404).1 = 12 by decide +kernel) rfl (by decide) rfl rfl ?_
          refine dw_enter rfl ?_
          refine rB_X12_isNight (fun B hB => ?_)
          refine hB _ _ _ _ _ _ ?_
          refine dw_okS rfl rfl rfl (by decide) rfl rfl ?_
          refine dw_enter rfl ?_
          refine rB_X12_isIn (fun B hB => ?_)
          refine dw_itn n1 ?_
          refine dw_itp n2 ?_
          refine rB_X12_isNight (fun B hB => ?_)
          refine rB_X12_drawn (fun B hB => ?_)
          refine rB_law (fun B hB => ?_)
          refine hB _ _ _ _ _ _ ?_
          exact law_z
        · refine dw_ite (fun h53 => ?_) (fun h53 => ?_)
          · refine rB_X11_drawn (fun B hB => ?_)
            refine rB_law (fun B hB => ?_)
            refine hB _ _ _ _ _ _ ?_
            refine dw_okV (a := 404) (as := [.int (xs 1), .int (xs 2), .int (xs 3), .int (xs 4), .int (xs 5)]) rfl rfl (show (SH1 404).1 = 12 by decide +kernel) rfl (by decide) rfl rfl ?_
            refine dw_enter rfl ?_
            refine rB_X12_drawn (fun B hB => ?_)
            refine hB _ _ _ _ _ _ ?_
            refine dw_okV (a := 404) rfl rfl (show (SH1 404).1 = 12 by decide +kernel) rfl (by decide) rfl rfl ?_
            refine dw_enter rfl ?_
            refine rB_X12_isNight (fun B hB => ?_)
            refine hB _ _ _ _ _ _ ?_
            refine dw_okS rfl rfl rfl (by decide) rfl rfl ?_
            refine dw_enter rfl ?_
            refine rB_X12_isIn (fun B hB => ?_)
            refine dw_itn n1 ?_
            refine dw_itp n2 ?_
            refine rB_X12_isNight (fun B hB => ?_)
            refine rB_X12_drawn (fun B hB => ?_)
            refine rB_law (fun B hB => ?_)
            refine hB _ _ _ _ _ _ ?_
            exact law_z
          · refine rB_X11_drawn (fun B hB => ?_)
            refine dw_ite (fun h54 => ?_) (fun h54 => ?_)
            · refine rB_law (fun B hB => ?_)
              refine hB _ _ _ _ _ _ ?_
              refine dw_okV (a := 404) (as := [.int (xs 1), .int (xs 2), .int (xs 3), .int (xs 4), .int (xs 5)]) rfl rfl (show (SH1 404).1 = 12 by decide +kernel) rfl (by decide) rfl rfl ?_
              refine dw_enter rfl ?_
              refine rB_X12_drawn (fun B hB => ?_)
              refine hB _ _ _ _ _ _ ?_
              refine dw_okV (a := 404) rfl rfl (show (SH1 404).1 = 12 by decide +kernel) rfl (by decide) rfl rfl ?_
              refine dw_enter rfl ?_
              refine rB_X12_isNight (fun B hB => ?_)
              refine hB _ _ _ _ _ _ ?_
              refine dw_okS rfl rfl rfl (by decide) rfl rfl ?_
              refine dw_enter rfl ?_
              refine rB_X12_isIn (fun B hB => ?_)
              refine dw_itn n1 ?_
              refine dw_itp n2 ?_
              refine rB_X12_isNight (fun B hB => ?_)
              refine rB_X12_drawn (fun B hB => ?_)
              refine rB_law (fun B hB => ?_)
              refine hB _ _ _ _ _ _ ?_
              exact law_z
            · refine dw_ite (fun h55 => ?_) (fun h55 => ?_)
              · refine rB_law (fun B hB => ?_)
                refine hB _ _ _ _ _ _ ?_
                refine dw_okV (a := 404) (as := [.int (xs 1), .int (xs 2), .int (xs 3), .int (xs 4), .int (xs 5)]) rfl rfl (show (SH1 404).1 = 12 by decide +kernel) rfl (by decide) rfl rfl ?_
                refine dw_enter rfl ?_
                refine rB_X12_drawn (fun B hB => ?_)
                refine hB _ _ _ _ _ _ ?_
                refine dw_okV (a := 404) rfl rfl (show (SH1 404).1 = 12 by decide +kernel) rfl (by decide) rfl rfl ?_
                refine dw_enter rfl ?_
                refine rB_X12_isNight (fun B hB => ?_)
                refine hB _ _ _ _ _ _ ?_
                refine dw_okS rfl rfl rfl (by decide) rfl rfl ?_
                refine dw_enter rfl ?_
                refine rB_X12_isIn (fun B hB => ?_)
                refine dw_itn n1 ?_
                refine dw_itp n2 ?_
                refine rB_X12_isNight (fun B hB => ?_)
                refine rB_X12_drawn (fun B hB => ?_)
                refine rB_law (fun B hB => ?_)
                refine hB _ _ _ _ _ _ ?_
                exact law_z
              · refine dw_ite (fun h56 => ?_) (fun h56 => ?_)
                · refine rB_law (fun B hB => ?_)
                  refine hB _ _ _ _ _ _ ?_
                  refine dw_okV (a := 404) (as := [.int (xs 1), .int (xs 2), .int (xs 3), .int (xs 4), .int (xs 5)]) rfl rfl (show (SH1 404).1 = 12 by decide +kernel) rfl (by decide) rfl rfl ?_
                  refine dw_enter rfl ?_
                  refine rB_X12_drawn (fun B hB => ?_)
                  refine hB _ _ _ _ _ _ ?_
                  refine dw_okV (a := 404) rfl rfl (show (SH1 404).1 = 12 by decide +kernel) rfl (by decide) rfl rfl ?_
                  refine dw_enter rfl ?_
                  refine rB_X12_isNight (fun B hB => ?_)
                  refine hB _ _ _ _ _ _ ?_
                  refine dw_okS rfl rfl rfl (by decide) rfl rfl ?_
                  refine dw_enter rfl ?_
                  refine rB_X12_isIn (fun B hB => ?_)
                  refine dw_itn n1 ?_
                  refine dw_itp n2 ?_
                  refine rB_X12_isNight (fun B hB => ?_)
                  refine rB_X12_drawn (fun B hB => ?_)
                  refine rB_law (fun B hB => ?_)
                  refine hB _ _ _ _ _ _ ?_
                  exact law_z
                · refine hB _ _ _ _ _ _ ?_
                  refine dw_okV (a := 0) rfl rfl (show (SH1 0).1 = 11 by decide +kernel) rfl (by decide) rfl rfl ?_
                  refine dw_enter rfl ?_
                  refine rB_X11_start (fun B hB => ?_)
                  refine hB _ _ _ _ _ _ ?_
                  refine dw_okV (a := 3) rfl rfl (show (SH1 3).1 = 8 by decide +kernel) rfl (by decide) rfl rfl ?_
                  refine dw_enter rfl ?_
                  refine rB_X8_nightOf (fun B hB => ?_)
                  refine dw_itn n1 ?_
                  refine dw_itp n3 ?_
                  refine rB_X11_start (fun B hB => ?_)
                  refine rB_X11_drawn (fun B hB => ?_)
                  refine rB_law (fun B hB => ?_)
                  refine hB _ _ _ _ _ _ ?_
                  refine dw_okV (a := 404) (as := [.int (xs 1), .int (xs 2), .int (xs 3), .int (xs 4), .int (xs 5)]) rfl rfl (show (SH1 404).1 = 12 by decide +kernel) rfl (by decide) rfl rfl ?_
                  refine dw_enter rfl ?_
                  refine rB_X12_drawn (fun B hB => ?_)
                  refine hB _ _ _ _ _ _ ?_
                  refine dw_okV (a := 404) rfl rfl (show (SH1 404).1 = 12 by decide +kernel) rfl (by decide) rfl rfl ?_
                  refine dw_enter rfl ?_
                  refine rB_X12_isNight (fun B hB => ?_)
                  refine hB _ _ _ _ _ _ ?_
                  refine dw_okS rfl rfl rfl (by decide) rfl rfl ?_
                  refine dw_enter rfl ?_
                  refine rB_X12_isIn (fun B hB => ?_)
                  refine dw_itn n1 ?_
                  refine dw_itp n2 ?_
                  refine rB_X12_isNight (fun B hB => ?_)
                  refine rB_X12_drawn (fun B hB => ?_)
                  refine rB_law (fun B hB => ?_)
                  refine hB _ _ _ _ _ _ ?_
                  exact law_z
