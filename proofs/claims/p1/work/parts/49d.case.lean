set_option maxHeartbeats 20000000 in
set_option maxRecDepth 20000 in
theorem law_c41 {xs : Nat → Int32} : dw_ok (pr_law 6 xs) 1935 599567 7247295 (dw_l1 0 none none) [] (435, SH1, IN1, JN1) := by
  rcases dw_rng8 (xs 1) with hs | hs | hs | hs | hs | hs | hs | hs | ⟨n0, n1⟩ | ⟨n0, n1, n2, n3, n4, n5, n6⟩
  · refine rB_law (fun B hB => ?_)
    refine hB _ _ _ _ _ _ ?_
    refine dw_okV (a := 0) (as := [.int (xs 1)]) rfl rfl (show (SH1 0).1 = 11 by decide +kernel) rfl (by decide) rfl rfl ?_
    rw [hs]
    refine dw_enter rfl ?_
    refine rB_X11_count (fun B hB => ?_)
    refine rB_law (fun B hB => ?_)
    refine hB _ _ _ _ _ _ ?_
    refine dw_okV (a := 404) (as := [.int (xs 1)]) rfl rfl (show (SH1 404).1 = 12 by decide +kernel) rfl (by decide) rfl rfl ?_
    rw [hs]
    refine dw_enter rfl ?_
    refine rB_X12_count (fun B hB => ?_)
    refine hB _ _ _ _ _ _ ?_
    refine dw_okV (a := 404) rfl rfl (show (SH1 404).1 = 12 by decide +kernel) rfl (by decide) rfl rfl ?_
    refine dw_enter rfl ?_
    refine rB_X12_isNight (fun B hB => ?_)
    refine hB _ _ _ _ _ _ ?_
    refine dw_okS rfl rfl rfl (by decide) rfl rfl ?_
    refine dw_enter rfl ?_
    refine rB_X12_isIn (fun B hB => ?_)
    refine rB_X12_isNight (fun B hB => ?_)
    refine rB_X12_count (fun B hB => ?_)
    refine hB _ _ _ _ _ _ ?_
    refine dw_okV (a := 404) rfl rfl (show (SH1 404).1 = 12 by decide +kernel) rfl (by decide) rfl rfl ?_
    refine dw_enter rfl ?_
    refine rB_X12_isNight (fun B hB => ?_)
    refine hB _ _ _ _ _ _ ?_
    refine dw_okS rfl rfl rfl (by decide) rfl rfl ?_
    refine dw_enter rfl ?_
    refine rB_X12_isIn (fun B hB => ?_)
    refine rB_X12_isNight (fun B hB => ?_)
    refine rB_X12_count (fun B hB => ?_)
    refine hB _ _ _ _ _ _ ?_
    refine dw_okV (a := 404) rfl rfl (show (SH1 404).1 = 12 by decide +kernel) rfl (by decide) rfl rfl ?_
    refine dw_enter rfl ?_
    refine rB_X12_isNight (fun B hB => ?_)
    refine hB _ _ _ _ _ _ ?_
    refine dw_okS rfl rfl rfl (by decide) rfl rfl ?_
    refine dw_enter rfl ?_
    refine rB_X12_isIn (fun B hB => ?_)
    refine rB_X12_isNight (fun B hB => ?_)
    refine rB_X12_count (fun B hB => ?_)
    refine hB _ _ _ _ _ _ ?_
    refine dw_okV (a := 404) rfl rfl (show (SH1 404).1 = 12 by decide +kernel) rfl (by decide) rfl rfl ?_
    refine dw_enter rfl ?_
    refine rB_X12_isNight (fun B hB => ?_)
    refine hB _ _ _ _ _ _ ?_
    refine dw_okS rfl rfl rfl (by decide) rfl rfl ?_
    refine dw_enter rfl ?_
    refine rB_X12_isIn (fun B hB => ?_)
    refine rB_X12_isNight (fun B hB => ?_)
    refine rB_X12_count (fun B hB => ?_)
    refine hB _ _ _ _ _ _ ?_
    refine dw_okV (a := 404) rfl rfl (show (SH1 404).1 = 12 by decide +kernel) rfl (by decide) rfl rfl ?_
    refine dw_enter rfl ?_
    refine rB_X12_isNight (fun B hB => ?_)
    refine hB _ _ _ _ _ _ ?_
    refine dw_okS rfl rfl rfl (by decide) rfl rfl ?_
    refine dw_enter rfl ?_
    refine rB_X12_isIn (fun B hB => ?_)
    refine rB_X12_isNight (fun B hB => ?_)
    refine rB_X12_count (fun B hB => ?_)
    refine hB _ _ _ _ _ _ ?_
    refine dw_okV (a := 404) rfl rfl (show (SH1 404).1 = 12 by decide +kernel) rfl (by decide) rfl rfl ?_
    refine dw_enter rfl ?_
    refine rB_X12_isNight (fun B hB => ?_)
    refine hB _ _ _ _ _ _ ?_
    refine dw_okS rfl rfl rfl (by decide) rfl rfl ?_
    refine dw_enter rfl ?_
    refine rB_X12_isIn (fun B hB => ?_)
    refine rB_X12_isNight (fun B hB => ?_)
    refine rB_X12_count (fun B hB => ?_)
    refine hB _ _ _ _ _ _ ?_
    refine dw_okS rfl rfl rfl (by decide) rfl rfl ?_
    refine dw_enter rfl ?_
    refine rB_X12_isIn (fun B hB => ?_)
    refine rB_X12_count (fun B hB => ?_)
    refine rB_law (fun B hB => ?_)
    refine hB _ _ _ _ _ _ ?_
    exact law_z
  · refine rB_law (fun B hB => ?_)
    refine hB _ _ _ _ _ _ ?_
    refine dw_okV (a := 0) (as := [.int (xs 1)]) rfl rfl (show (SH1 0).1 = 11 by decide +kernel) rfl (by decide) rfl rfl ?_
    rw [hs]
    refine dw_enter rfl ?_
    refine rB_X11_count (fun B hB => ?_)
    refine rB_law (fun B hB => ?_)
    refine hB _ _ _ _ _ _ ?_
    refine dw_okV (a := 404) (as := [.int (xs 1)]) rfl rfl (show (SH1 404).1 = 12 by decide +kernel) rfl (by decide) rfl rfl ?_
    rw [hs]
    refine dw_enter rfl ?_
    refine rB_X12_count (fun B hB => ?_)
    refine hB _ _ _ _ _ _ ?_
    refine dw_okV (a := 404) rfl rfl (show (SH1 404).1 = 12 by decide +kernel) rfl (by decide) rfl rfl ?_
    refine dw_enter rfl ?_
    refine rB_X12_isNight (fun B hB => ?_)
    refine hB _ _ _ _ _ _ ?_
    refine dw_okS rfl rfl rfl (by decide) rfl rfl ?_
    refine dw_enter rfl ?_
    refine rB_X12_isIn (fun B hB => ?_)
    refine rB_X12_isNight (fun B hB => ?_)
    refine rB_X12_count (fun B hB => ?_)
    refine hB _ _ _ _ _ _ ?_
    refine dw_okV (a := 404) rfl rfl (show (SH1 404).1 = 12 by decide +kernel) rfl (by decide) rfl rfl ?_
    refine dw_enter rfl ?_
    refine rB_X12_isNight (fun B hB => ?_)
    refine hB _ _ _ _ _ _ ?_
    refine dw_okS rfl rfl rfl (by decide) rfl rfl ?_
    refine dw_enter rfl ?_
    refine rB_X12_isIn (fun B hB => ?_)
    refine rB_X12_isNight (fun B hB => ?_)
    refine rB_X12_count (fun B hB => ?_)
    refine hB _ _ _ _ _ _ ?_
    refine dw_okV (a := 404) rfl rfl (show (SH1 404).1 = 12 by decide +kernel) rfl (by decide) rfl rfl ?_
    refine dw_enter rfl ?_
    refine rB_X12_isNight (fun B hB => ?_)
    refine hB _ _ _ _ _ _ ?_
    refine dw_okS rfl rfl rfl (by decide) rfl rfl ?_
    refine dw_enter rfl ?_
    refine rB_X12_isIn (fun B hB => ?_)
    refine rB_X12_isNight (fun B hB => ?_)
    refine rB_X12_count (fun B hB => ?_)
    refine hB _ _ _ _ _ _ ?_
    refine dw_okV (a := 404) rfl rfl (show (SH1 404).1 = 12 by decide +kernel) rfl (by decide) rfl rfl ?_
    refine dw_enter rfl ?_
    refine rB_X12_isNight (fun B hB => ?_)
    refine hB _ _ _ _ _ _ ?_
    refine dw_okS rfl rfl rfl (by decide) rfl rfl ?_
    refine dw_enter rfl ?_
    refine rB_X12_isIn (fun B hB => ?_)
    refine rB_X12_isNight (fun B hB => ?_)
    refine rB_X12_count (fun B hB => ?_)
    refine hB _ _ _ _ _ _ ?_
    refine dw_okV (a := 404) rfl rfl (show (SH1 404).1 = 12 by decide +kernel) rfl (by decide) rfl rfl ?_
    refine dw_enter rfl ?_
    refine rB_X12_isNight (fun B hB => ?_)
    refine hB _ _ _ _ _ _ ?_
    refine dw_okS rfl rfl rfl (by decide) rfl rfl ?_
    refine dw_enter rfl ?_
    refine rB_X12_isIn (fun B hB => ?_)
    refine rB_X12_isNight (fun B hB => ?_)
    refine rB_X12_count (fun B hB => ?_)
    refine hB _ _ _ _ _ _ ?_
    refine dw_okV (a := 404) rfl rfl (show (SH1 404).1 = 12 by decide +kernel) rfl (by decide) rfl rfl ?_
    refine dw_enter rfl ?_
    refine rB_X12_isNight (fun B hB => ?_)
    refine hB _ _ _ _ _ _ ?_
    refine dw_okS rfl rfl rfl (by decide) rfl rfl ?_
    refine dw_enter rfl ?_
    refine rB_X12_isIn (fun B hB => ?_)
    refine rB_X12_isNight (fun B hB => ?_)
    refine rB_X12_count (fun B hB => ?_)
    refine hB _ _ _ _ _ _ ?_
    refine dw_okS rfl rfl rfl (by decide) rfl rfl ?_
    refine dw_enter rfl ?_
    refine rB_X12_isIn (fun B hB => ?_)
    refine rB_X12_count (fun B hB => ?_)
    refine rB_law (fun B hB => ?_)
    refine hB _ _ _ _ _ _ ?_
    exact law_z
  · refine rB_law (fun B hB => ?_)
    refine hB _ _ _ _ _ _ ?_
    refine dw_okV (a := 0) (as := [.int (xs 1)]) rfl rfl (show (SH1 0).1 = 11 by decide +kernel) rfl (by decide) rfl rfl ?_
    rw [hs]
    refine dw_enter rfl ?_
    refine rB_X11_count (fun B hB => ?_)
    refine rB_law (fun B hB => ?_)
    refine hB _ _ _ _ _ _ ?_
    refine dw_okV (a := 404) (as := [.int (xs 1)]) rfl rfl (show (SH1 404).1 = 12 by decide +kernel) rfl (by decide) rfl rfl ?_
    rw [hs]
    refine dw_enter rfl ?_
    refine rB_X12_count (fun B hB => ?_)
    refine hB _ _ _ _ _ _ ?_
    refine dw_okV (a := 404) rfl rfl (show (SH1 404).1 = 12 by decide +kernel) rfl (by decide) rfl rfl ?_
    refine dw_enter rfl ?_
    refine rB_X12_isNight (fun B hB => ?_)
    refine hB _ _ _ _ _ _ ?_
    refine dw_okS rfl rfl rfl (by decide) rfl rfl ?_
    refine dw_enter rfl ?_
    refine rB_X12_isIn (fun B hB => ?_)
    refine rB_X12_isNight (fun B hB => ?_)
    refine rB_X12_count (fun B hB => ?_)
    refine hB _ _ _ _ _ _ ?_
    refine dw_okV (a := 404) rfl rfl (show (SH1 404).1 = 12 by decide +kernel) rfl (by decide) rfl rfl ?_
    refine dw_enter rfl ?_
    refine rB_X12_isNight (fun B hB => ?_)
    refine hB _ _ _ _ _ _ ?_
    refine dw_okS rfl rfl rfl (by decide) rfl rfl ?_
    refine dw_enter rfl ?_
    refine rB_X12_isIn (fun B hB => ?_)
    refine rB_X12_isNight (fun B hB => ?_)
    refine rB_X12_count (fun B hB => ?_)
    refine hB _ _ _ _ _ _ ?_
    refine dw_okV (a := 404) rfl rfl (show (SH1 404).1 = 12 by decide +kernel) rfl (by decide) rfl rfl ?_
    refine dw_enter rfl ?_
    refine rB_X12_isNight (fun B hB => ?_)
    refine hB _ _ _ _ _ _ ?_
    refine dw_okS rfl rfl rfl (by decide) rfl rfl ?_
    refine dw_enter rfl ?_
    refine rB_X12_isIn (fun B hB => ?_)
    refine rB_X12_isNight (fun B hB => ?_)
    refine rB_X12_count (fun B hB => ?_)
    refine hB _ _ _ _ _ _ ?_
    refine dw_okV (a := 404) rfl rfl (show (SH1 404).1 = 12 by decide +kernel) rfl (by decide) rfl rfl ?_
    refine dw_enter rfl ?_
    refine rB_X12_isNight (fun B hB => ?_)
    refine hB _ _ _ _ _ _ ?_
    refine dw_okS rfl rfl rfl (by decide) rfl rfl ?_
    refine dw_enter rfl ?_
    refine rB_X12_isIn (fun B hB => ?_)
    refine rB_X12_isNight (fun B hB => ?_)
    refine rB_X12_count (fun B hB => ?_)
    refine hB _ _ _ _ _ _ ?_
    refine dw_okV (a := 404) rfl rfl (show (SH1 404).1 = 12 by decide +kernel) rfl (by decide) rfl rfl ?_
    refine dw_enter rfl ?_
    refine rB_X12_isNight (fun B hB => ?_)
    refine hB _ _ _ _ _ _ ?_
    refine dw_okS rfl rfl rfl (by decide) rfl rfl ?_
    refine dw_enter rfl ?_
    refine rB_X12_isIn (fun B hB => ?_)
    refine rB_X12_isNight (fun B hB => ?_)
    refine rB_X12_count (fun B hB => ?_)
    refine hB _ _ _ _ _ _ ?_
    refine dw_okV (a := 404) rfl rfl (show (SH1 404).1 = 12 by decide +kernel) rfl (by decide) rfl rfl ?_
    refine dw_enter rfl ?_
    refine rB_X12_isNight (fun B hB => ?_)
    refine hB _ _ _ _ _ _ ?_
    refine dw_okS rfl rfl rfl (by decide) rfl rfl ?_
    refine dw_enter rfl ?_
    refine rB_X12_isIn (fun B hB => ?_)
    refine rB_X12_isNight (fun B hB => ?_)
    refine rB_X12_count (fun B hB => ?_)
    refine hB _ _ _ _ _ _ ?_
    refine dw_okS rfl rfl rfl (by decide) rfl rfl ?_
    refine dw_enter rfl ?_
    refine rB_X12_isIn (fun B hB => ?_)
    refine rB_X12_count (fun B hB => ?_)
    refine rB_law (fun B hB => ?_)
    refine hB _ _ _ _ _ _ ?_
    exact law_z
  · refine rB_law (fun B hB => ?_)
    refine hB _ _ _ _ _ _ ?_
    refine dw_okV (a := 0) (as := [.int (xs 1)]) rfl rfl (show (SH1 0).1 = 11 by decide +kernel) rfl (by decide) rfl rfl ?_
    rw [hs]
    refine dw_enter rfl ?_
    refine rB_X11_count (fun B hB => ?_)
    refine rB_law (fun B hB => ?_)
    refine hB _ _ _ _ _ _ ?_
    refine dw_okV (a := 404) (as := [.int (xs 1)]) rfl rfl (show (SH1 404).1 = 12 by decide +kernel) rfl (by decide) rfl rfl ?_
    rw [hs]
    refine dw_enter rfl ?_
    refine rB_X12_count (fun B hB => ?_)
    refine hB _ _ _ _ _ _ ?_
    refine dw_okV (a := 404) rfl rfl (show (SH1 404).1 = 12 by decide +kernel) rfl (by decide) rfl rfl ?_
    refine dw_enter rfl ?_
    refine rB_X12_isNight (fun B hB => ?_)
    refine hB _ _ _ _ _ _ ?_
    refine dw_okS rfl rfl rfl (by decide) rfl rfl ?_
    refine dw_enter rfl ?_
    refine rB_X12_isIn (fun B hB => ?_)
    refine rB_X12_isNight (fun B hB => ?_)
    refine rB_X12_count (fun B hB => ?_)
    refine hB _ _ _ _ _ _ ?_
    refine dw_okV (a := 404) rfl rfl (show (SH1 404).1 = 12 by decide +kernel) rfl (by decide) rfl rfl ?_
    refine dw_enter rfl ?_
    refine rB_X12_isNight (fun B hB => ?_)
    refine hB _ _ _ _ _ _ ?_
    refine dw_okS rfl rfl rfl (by decide) rfl rfl ?_
    refine dw_enter rfl ?_
    refine rB_X12_isIn (fun B hB => ?_)
    refine rB_X12_isNight (fun B hB => ?_)
    refine rB_X12_count (fun B hB => ?_)
    refine hB _ _ _ _ _ _ ?_
    refine dw_okV (a := 404) rfl rfl (show (SH1 404).1 = 12 by decide +kernel) rfl (by decide) rfl rfl ?_
    refine dw_enter rfl ?_
    refine rB_X12_isNight (fun B hB => ?_)
    refine hB _ _ _ _ _ _ ?_
    refine dw_okS rfl rfl rfl (by decide) rfl rfl ?_
    refine dw_enter rfl ?_
    refine rB_X12_isIn (fun B hB => ?_)
    refine rB_X12_isNight (fun B hB => ?_)
    refine rB_X12_count (fun B hB => ?_)
    refine hB _ _ _ _ _ _ ?_
    refine dw_okV (a := 404) rfl rfl (show (SH1 404).1 = 12 by decide +kernel) rfl (by decide) rfl rfl ?_
    refine dw_enter rfl ?_
    refine rB_X12_isNight (fun B hB => ?_)
    refine hB _ _ _ _ _ _ ?_
    refine dw_okS rfl rfl rfl (by decide) rfl rfl ?_
    refine dw_enter rfl ?_
    refine rB_X12_isIn (fun B hB => ?_)
    refine rB_X12_isNight (fun B hB => ?_)
    refine rB_X12_count (fun B hB => ?_)
    refine hB _ _ _ _ _ _ ?_
    refine dw_okV (a := 404) rfl rfl (show (SH1 404).1 = 12 by decide +kernel) rfl (by decide) rfl rfl ?_
    refine dw_enter rfl ?_
    refine rB_X12_isNight (fun B hB => ?_)
    refine hB _ _ _ _ _ _ ?_
    refine dw_okS rfl rfl rfl (by decide) rfl rfl ?_
    refine dw_enter rfl ?_
    refine rB_X12_isIn (fun B hB => ?_)
    refine rB_X12_isNight (fun B hB => ?_)
    refine rB_X12_count (fun B hB => ?_)
    refine hB _ _ _ _ _ _ ?_
    refine dw_okV (a := 404) rfl rfl (show (SH1 404).1 = 12 by decide +kernel) rfl (by decide) rfl rfl ?_
    refine dw_enter rfl ?_
    refine rB_X12_isNight (fun B hB => ?_)
    refine hB _ _ _ _ _ _ ?_
    refine dw_okS rfl rfl rfl (by decide) rfl rfl ?_
    refine dw_enter rfl ?_
    refine rB_X12_isIn (fun B hB => ?_)
    refine rB_X12_isNight (fun B hB => ?_)
    refine rB_X12_count (fun B hB => ?_)
    refine hB _ _ _ _ _ _ ?_
    refine dw_okS rfl rfl rfl (by decide) rfl rfl ?_
    refine dw_enter rfl ?_
    refine rB_X12_isIn (fun B hB => ?_)
    refine rB_X12_count (fun B hB => ?_)
    refine rB_law (fun B hB => ?_)
    refine hB _ _ _ _ _ _ ?_
    exact law_z
  · refine rB_law (fun B hB => ?_)
    refine hB _ _ _ _ _ _ ?_
    refine dw_okV (a := 0) (as := [.int (xs 1)]) rfl rfl (show (SH1 0).1 = 11 by decide +kernel) rfl (by decide) rfl rfl ?_
    rw [hs]
    refine dw_enter rfl ?_
    refine rB_X11_count (fun B hB => ?_)
    refine rB_law (fun B hB => ?_)
    refine hB _ _ _ _ _ _ ?_
    refine dw_okV (a := 404) (as := [.int (xs 1)]) rfl rfl (show (SH1 404).1 = 12 by decide +kernel) rfl (by decide) rfl rfl ?_
    rw [hs]
    refine dw_enter rfl ?_
    refine rB_X12_count (fun B hB => ?_)
    refine hB _ _ _ _ _ _ ?_
    refine dw_okV (a := 404) rfl rfl (show (SH1 404).1 = 12 by decide +kernel) rfl (by decide) rfl rfl ?_
    refine dw_enter rfl ?_
    refine rB_X12_isNight (fun B hB => ?_)
    refine hB _ _ _ _ _ _ ?_
    refine dw_okS rfl rfl rfl (by decide) rfl rfl ?_
    refine dw_enter rfl ?_
    refine rB_X12_isIn (fun B hB => ?_)
    refine rB_X12_isNight (fun B hB => ?_)
    refine rB_X12_count (fun B hB => ?_)
    refine hB _ _ _ _ _ _ ?_
    refine dw_okV (a := 404) rfl rfl (show (SH1 404).1 = 12 by decide +kernel) rfl (by decide) rfl rfl ?_
    refine dw_enter rfl ?_
    refine rB_X12_isNight (fun B hB => ?_)
    refine hB _ _ _ _ _ _ ?_
    refine dw_okS rfl rfl rfl (by decide) rfl rfl ?_
    refine dw_enter rfl ?_
    refine rB_X12_isIn (fun B hB => ?_)
    refine rB_X12_isNight (fun B hB => ?_)
    refine rB_X12_count (fun B hB => ?_)
    refine hB _ _ _ _ _ _ ?_
    refine dw_okV (a := 404) rfl rfl (show (SH1 404).1 = 12 by decide +kernel) rfl (by decide) rfl rfl ?_
    refine dw_enter rfl ?_
    refine rB_X12_isNight (fun B hB => ?_)
    refine hB _ _ _ _ _ _ ?_
    refine dw_okS rfl rfl rfl (by decide) rfl rfl ?_
    refine dw_enter rfl ?_
    refine rB_X12_isIn (fun B hB => ?_)
    refine rB_X12_isNight (fun B hB => ?_)
    refine rB_X12_count (fun B hB => ?_)
    refine hB _ _ _ _ _ _ ?_
    refine dw_okV (a := 404) rfl rfl (show (SH1 404).1 = 12 by decide +kernel) rfl (by decide) rfl rfl ?_
    refine dw_enter rfl ?_
    refine rB_X12_isNight (fun B hB => ?_)
    refine hB _ _ _ _ _ _ ?_
    refine dw_okS rfl rfl rfl (by decide) rfl rfl ?_
    refine dw_enter rfl ?_
    refine rB_X12_isIn (fun B hB => ?_)
    refine rB_X12_isNight (fun B hB => ?_)
    refine rB_X12_count (fun B hB => ?_)
    refine hB _ _ _ _ _ _ ?_
    refine dw_okV (a := 404) rfl rfl (show (SH1 404).1 = 12 by decide +kernel) rfl (by decide) rfl rfl ?_
    refine dw_enter rfl ?_
    refine rB_X12_isNight (fun B hB => ?_)
    refine hB _ _ _ _ _ _ ?_
    refine dw_okS rfl rfl rfl (by decide) rfl rfl ?_
    refine dw_enter rfl ?_
    refine rB_X12_isIn (fun B hB => ?_)
    refine rB_X12_isNight (fun B hB => ?_)
    refine rB_X12_count (fun B hB => ?_)
    refine hB _ _ _ _ _ _ ?_
    refine dw_okV (a := 404) rfl rfl (show (SH1 404).1 = 12 by decide +kernel) rfl (by decide) rfl rfl ?_
    refine dw_enter rfl ?_
    refine rB_X12_isNight (fun B hB => ?_)
    refine hB _ _ _ _ _ _ ?_
    refine dw_okS rfl rfl rfl (by decide) rfl rfl ?_
    refine dw_enter rfl ?_
    refine rB_X12_isIn (fun B hB => ?_)
    refine rB_X12_isNight (fun B hB => ?_)
    refine rB_X12_count (fun B hB => ?_)
    refine hB _ _ _ _ _ _ ?_
    refine dw_okS rfl rfl rfl (by decide) rfl rfl ?_
    refine dw_enter rfl ?_
    refine rB_X12_isIn (fun B hB => ?_)
    refine rB_X12_count (fun B hB => ?_)
    refine rB_law (fun B hB => ?_)
    refine hB _ _ _ _ _ _ ?_
    exact law_z
  · refine rB_law (fun B hB => ?_)
    refine hB _ _ _ _ _ _ ?_
    refine dw_okV (a := 0) (as := [.int (xs 1)]) rfl rfl (show (SH1 0).1 = 11 by decide +kernel) rfl (by decide) rfl rfl ?_
    rw [hs]
    refine dw_enter rfl ?_
    refine rB_X11_count (fun B hB => ?_)
    refine hB _ _ _ _ _ _ ?_
    refine dw_okV (a := 3) rfl rfl (show (SH1 3).1 = 8 by decide +kernel) rfl (by decide) rfl rfl ?_
    refine dw_enter rfl ?_
    refine rB_X8_slotsWithNight (fun B hB => ?_)
    refine hB _ _ _ _ _ _ ?_
    refine dw_okV (a := 3) rfl rfl (show (SH1 3).1 = 8 by decide +kernel) rfl (by decide) rfl rfl ?_
    refine dw_enter rfl ?_
    refine rB_X8_nightOf (fun B hB => ?_)
    refine rB_X8_slotsWithNight (fun B hB => ?_)
    refine (fun (_ : _ ∨ _) => ?_)
    refine hB _ _ _ _ _ _ ?_
    refine dw_okV (a := 3) rfl rfl (show (SH1 3).1 = 8 by decide +kernel) rfl (by decide) rfl rfl ?_
    refine dw_enter rfl ?_
    refine rB_X8_nightOf (fun B hB => ?_)
    refine rB_X8_slotsWithNight (fun B hB => ?_)
    refine (fun (_ : _ ∨ _) => ?_)
    refine hB _ _ _ _ _ _ ?_
    refine dw_okV (a := 3) rfl rfl (show (SH1 3).1 = 8 by decide +kernel) rfl (by decide) rfl rfl ?_
    refine dw_enter rfl ?_
    refine rB_X8_nightOf (fun B hB => ?_)
    refine rB_X8_slotsWithNight (fun B hB => ?_)
    refine (fun (_ : _ ∨ _) => ?_)
    refine hB _ _ _ _ _ _ ?_
    refine dw_okV (a := 3) rfl rfl (show (SH1 3).1 = 8 by decide +kernel) rfl (by decide) rfl rfl ?_
    refine dw_enter rfl ?_
    refine rB_X8_nightOf (fun B hB => ?_)
    refine rB_X8_slotsWithNight (fun B hB => ?_)
    refine (fun (_ : _ ∨ _) => ?_)
    refine hB _ _ _ _ _ _ ?_
    refine dw_okV (a := 3) rfl rfl (show (SH1 3).1 = 8 by decide +kernel) rfl (by decide) rfl rfl ?_
    refine dw_enter rfl ?_
    refine rB_X8_nightOf (fun B hB => ?_)
    refine rB_X8_slotsWithNight (fun B hB => ?_)
    refine (fun (_ : _ ∨ _) => ?_)
    refine hB _ _ _ _ _ _ ?_
    refine dw_okV (a := 3) rfl rfl (show (SH1 3).1 = 8 by decide +kernel) rfl (by decide) rfl rfl ?_
    refine dw_enter rfl ?_
    refine rB_X8_nightOf (fun B hB => ?_)
    refine rB_X8_slotsWithNight (fun B hB => ?_)
    refine (fun (_ : _ ∨ _) => ?_)
    refine rB_X11_count (fun B hB => ?_)
    refine rB_law (fun B hB => ?_)
    refine hB _ _ _ _ _ _ ?_
    refine dw_okV (a := 404) (as := [.int (xs 1)]) rfl rfl (show (SH1 404).1 = 12 by decide +kernel) rfl (by decide) rfl rfl ?_
    rw [hs]
    refine dw_enter rfl ?_
    refine rB_X12_count (fun B hB => ?_)
    refine hB _ _ _ _ _ _ ?_
    refine dw_okV (a := 404) rfl rfl (show (SH1 404).1 = 12 by decide +kernel) rfl (by decide) rfl rfl ?_
    refine dw_enter rfl ?_
    refine rB_X12_isNight (fun B hB => ?_)
    refine hB _ _ _ _ _ _ ?_
    refine dw_okS rfl rfl rfl (by decide) rfl rfl ?_
    refine dw_enter rfl ?_
    refine rB_X12_isIn (fun B hB => ?_)
    refine rB_X12_isNight (fun B hB => ?_)
    refine rB_X12_count (fun B hB => ?_)
    refine hB _ _ _ _ _ _ ?_
    refine dw_okV (a := 404) rfl rfl (show (SH1 404).1 = 12 by decide +kernel) rfl (by decide) rfl rfl ?_
    refine dw_enter rfl ?_
    refine rB_X12_isNight (fun B hB => ?_)
    refine hB _ _ _ _ _ _ ?_
    refine dw_okS rfl rfl rfl (by decide) rfl rfl ?_
    refine dw_enter rfl ?_
    refine rB_X12_isIn (fun B hB => ?_)
    refine rB_X12_isNight (fun B hB => ?_)
    refine rB_X12_count (fun B hB => ?_)
    refine hB _ _ _ _ _ _ ?_
    refine dw_okV (a := 404) rfl rfl (show (SH1 404).1 = 12 by decide +kernel) rfl (by decide) rfl rfl ?_
    refine dw_enter rfl ?_
    refine rB_X12_isNight (fun B hB => ?_)
    refine hB _ _ _ _ _ _ ?_
    refine dw_okS rfl rfl rfl (by decide) rfl rfl ?_
    refine dw_enter rfl ?_
    refine rB_X12_isIn (fun B hB => ?_)
    refine rB_X12_isNight (fun B hB => ?_)
    refine rB_X12_count (fun B hB => ?_)
    refine hB _ _ _ _ _ _ ?_
    refine dw_okV (a := 404) rfl rfl (show (SH1 404).1 = 12 by decide +kernel) rfl (by decide) rfl rfl ?_
    refine dw_enter rfl ?_
    refine rB_X12_isNight (fun B hB => ?_)
    refine hB _ _ _ _ _ _ ?_
    refine dw_okS rfl rfl rfl (by decide) rfl rfl ?_
    refine dw_enter rfl ?_
    refine rB_X12_isIn (fun B hB => ?_)
    refine rB_X12_isNight (fun B hB => ?_)
    refine rB_X12_count (fun B hB => ?_)
    refine hB _ _ _ _ _ _ ?_
    refine dw_okV (a := 404) rfl rfl (show (SH1 404).1 = 12 by decide +kernel) rfl (by decide) rfl rfl ?_
    refine dw_enter rfl ?_
    refine rB_X12_isNight (fun B hB => ?_)
    refine hB _ _ _ _ _ _ ?_
    refine dw_okS rfl rfl rfl (by decide) rfl rfl ?_
    refine dw_enter rfl ?_
    refine rB_X12_isIn (fun B hB => ?_)
    refine rB_X12_isNight (fun B hB => ?_)
    refine rB_X12_count (fun B hB => ?_)
    refine hB _ _ _ _ _ _ ?_
    refine dw_okV (a := 404) rfl rfl (show (SH1 404).1 = 12 by decide +kernel) rfl (by decide) rfl rfl ?_
    refine dw_enter rfl ?_
    refine rB_X12_isNight (fun B hB => ?_)
    refine hB _ _ _ _ _ _ ?_
    refine dw_okS rfl rfl rfl (by decide) rfl rfl ?_
    refine dw_enter rfl ?_
    refine rB_X12_isIn (fun B hB => ?_)
    refine rB_X12_isNight (fun B hB => ?_)
    refine rB_X12_count (fun B hB => ?_)
    refine rB_law (fun B hB => ?_)
    refine hB _ _ _ _ _ _ ?_
    exact law_z
  · refine rB_law (fun B hB => ?_)
    refine hB _ _ _ _ _ _ ?_
    refine dw_okV (a := 0) (as := [.int (xs 1)]) rfl rfl (show (SH1 0).1 = 11 by decide +kernel) rfl (by decide) rfl rfl ?_
    rw [hs]
    refine dw_enter rfl ?_
    refine rB_X11_count (fun B hB => ?_)
    refine rB_law (fun B hB => ?_)
    refine hB _ _ _ _ _ _ ?_
    refine dw_okV (a := 404) (as := [.int (xs 1)]) rfl rfl (show (SH1 404).1 = 12 by decide +kernel) rfl (by decide) rfl rfl ?_
    rw [hs]
    refine dw_enter rfl ?_
    refine rB_X12_count (fun B hB => ?_)
    refine hB _ _ _ _ _ _ ?_
    refine dw_okV (a := 404) rfl rfl (show (SH1 404).1 = 12 by decide +kernel) rfl (by decide) rfl rfl ?_
    refine dw_enter rfl ?_
    refine rB_X12_isNight (fun B hB => ?_)
    refine hB _ _ _ _ _ _ ?_
    refine dw_okS rfl rfl rfl (by decide) rfl rfl ?_
    refine dw_enter rfl ?_
    refine rB_X12_isIn (fun B hB => ?_)
    refine rB_X12_isNight (fun B hB => ?_)
    refine rB_X12_count (fun B hB => ?_)
    refine hB _ _ _ _ _ _ ?_
    refine dw_okV (a := 404) rfl rfl (show (SH1 404).1 = 12 by decide +kernel) rfl (by decide) rfl rfl ?_
    refine dw_enter rfl ?_
    refine rB_X12_isNight (fun B hB => ?_)
    refine hB _ _ _ _ _ _ ?_
    refine dw_okS rfl rfl rfl (by decide) rfl rfl ?_
    refine dw_enter rfl ?_
    refine rB_X12_isIn (fun B hB => ?_)
    refine rB_X12_isNight (fun B hB => ?_)
    refine rB_X12_count (fun B hB => ?_)
    refine hB _ _ _ _ _ _ ?_
    refine dw_okV (a := 404) rfl rfl (show (SH1 404).1 = 12 by decide +kernel) rfl (by decide) rfl rfl ?_
    refine dw_enter rfl ?_
    refine rB_X12_isNight (fun B hB => ?_)
    refine hB _ _ _ _ _ _ ?_
    refine dw_okS rfl rfl rfl (by decide) rfl rfl ?_
    refine dw_enter rfl ?_
    refine rB_X12_isIn (fun B hB => ?_)
    refine rB_X12_isNight (fun B hB => ?_)
    refine rB_X12_count (fun B hB => ?_)
    refine hB _ _ _ _ _ _ ?_
    refine dw_okV (a := 404) rfl rfl (show (SH1 404).1 = 12 by decide +kernel) rfl (by decide) rfl rfl ?_
    refine dw_enter rfl ?_
    refine rB_X12_isNight (fun B hB => ?_)
    refine hB _ _ _ _ _ _ ?_
    refine dw_okS rfl rfl rfl (by decide) rfl rfl ?_
    refine dw_enter rfl ?_
    refine rB_X12_isIn (fun B hB => ?_)
    refine rB_X12_isNight (fun B hB => ?_)
    refine rB_X12_count (fun B hB => ?_)
    refine hB _ _ _ _ _ _ ?_
    refine dw_okV (a := 404) rfl rfl (show (SH1 404).1 = 12 by decide +kernel) rfl (by decide) rfl rfl ?_
    refine dw_enter rfl ?_
    refine rB_X12_isNight (fun B hB => ?_)
    refine hB _ _ _ _ _ _ ?_
    refine dw_okS rfl rfl rfl (by decide) rfl rfl ?_
    refine dw_enter rfl ?_
    refine rB_X12_isIn (fun B hB => ?_)
    refine rB_X12_isNight (fun B hB => ?_)
    refine rB_X12_count (fun B hB => ?_)
    refine hB _ _ _ _ _ _ ?_
    refine dw_okV (a := 404) rfl rfl (show (SH1 404).1 = 12 by decide +kernel) rfl (by decide) rfl rfl ?_
    refine dw_enter rfl ?_
    refine rB_X12_isNight (fun B hB => ?_)
    refine hB _ _ _ _ _ _ ?_
    refine dw_okS rfl rfl rfl (by decide) rfl rfl ?_
    refine dw_enter rfl ?_
    refine rB_X12_isIn (fun B hB => ?_)
    refine rB_X12_isNight (fun B hB => ?_)
    refine rB_X12_count (fun B hB => ?_)
    refine rB_law (fun B hB => ?_)
    refine hB _ _ _ _ _ _ ?_
    exact law_z
  · refine rB_law (fun B hB => ?_)
    refine hB _ _ _ _ _ _ ?_
    refine dw_okV (a := 0) (as := [.int (xs 1)]) rfl rfl (show (SH1 0).1 = 11 by decide +kernel) rfl (by decide) rfl rfl ?_
    rw [hs]
    refine dw_enter rfl ?_
    refine rB_X11_count (fun B hB => ?_)
    refine rB_law (fun B hB => ?_)
    refine hB _ _ _ _ _ _ ?_
    refine dw_okV (a := 404) (as := [.int (xs 1)]) rfl rfl (show (SH1 404).1 = 12 by decide +kernel) rfl (by decide) rfl rfl ?_
    rw [hs]
    refine dw_enter rfl ?_
    refine rB_X12_count (fun B hB => ?_)
    refine hB _ _ _ _ _ _ ?_
    refine dw_okV (a := 404) rfl rfl (show (SH1 404).1 = 12 by decide +kernel) rfl (by decide) rfl rfl ?_
    refine dw_enter rfl ?_
    refine rB_X12_isNight (fun B hB => ?_)
    refine hB _ _ _ _ _ _ ?_
    refine dw_okS rfl rfl rfl (by decide) rfl rfl ?_
    refine dw_enter rfl ?_
    refine rB_X12_isIn (fun B hB => ?_)
    refine rB_X12_isNight (fun B hB => ?_)
    refine rB_X12_count (fun B hB => ?_)
    refine hB _ _ _ _ _ _ ?_
    refine dw_okV (a := 404) rfl rfl (show (SH1 404).1 = 12 by decide +kernel) rfl (by decide) rfl rfl ?_
    refine dw_enter rfl ?_
    refine rB_X12_isNight (fun B hB => ?_)
    refine hB _ _ _ _ _ _ ?_
    refine dw_okS rfl rfl rfl (by decide) rfl rfl ?_
    refine dw_enter rfl ?_
    refine rB_X12_isIn (fun B hB => ?_)
    refine rB_X12_isNight (fun B hB => ?_)
    refine rB_X12_count (fun B hB => ?_)
    refine hB _ _ _ _ _ _ ?_
    refine dw_okV (a := 404) rfl rfl (show (SH1 404).1 = 12 by decide +kernel) rfl (by decide) rfl rfl ?_
    refine dw_enter rfl ?_
    refine rB_X12_isNight (fun B hB => ?_)
    refine hB _ _ _ _ _ _ ?_
    refine dw_okS rfl rfl rfl (by decide) rfl rfl ?_
    refine dw_enter rfl ?_
    refine rB_X12_isIn (fun B hB => ?_)
    refine rB_X12_isNight (fun B hB => ?_)
    refine rB_X12_count (fun B hB => ?_)
    refine hB _ _ _ _ _ _ ?_
    refine dw_okV (a := 404) rfl rfl (show (SH1 404).1 = 12 by decide +kernel) rfl (by decide) rfl rfl ?_
    refine dw_enter rfl ?_
    refine rB_X12_isNight (fun B hB => ?_)
    refine hB _ _ _ _ _ _ ?_
    refine dw_okS rfl rfl rfl (by decide) rfl rfl ?_
    refine dw_enter rfl ?_
    refine rB_X12_isIn (fun B hB => ?_)
    refine rB_X12_isNight (fun B hB => ?_)
    refine rB_X12_count (fun B hB => ?_)
    refine hB _ _ _ _ _ _ ?_
    refine dw_okV (a := 404) rfl rfl (show (SH1 404).1 = 12 by decide +kernel) rfl (by decide) rfl rfl ?_
    refine dw_enter rfl ?_
    refine rB_X12_isNight (fun B hB => ?_)
    refine hB _ _ _ _ _ _ ?_
    refine dw_okS rfl rfl rfl (by decide) rfl rfl ?_
    refine dw_enter rfl ?_
    refine rB_X12_isIn (fun B hB => ?_)
    refine rB_X12_isNight (fun B hB => ?_)
    refine rB_X12_count (fun B hB => ?_)
    refine hB _ _ _ _ _ _ ?_
    refine dw_okV (a := 404) rfl rfl (show (SH1 404).1 = 12 by decide +kernel) rfl (by decide) rfl rfl ?_
    refine dw_enter rfl ?_
    refine rB_X12_isNight (fun B hB => ?_)
    refine hB _ _ _ _ _ _ ?_
    refine dw_okS rfl rfl rfl (by decide) rfl rfl ?_
    refine dw_enter rfl ?_
    refine rB_X12_isIn (fun B hB => ?_)
    refine rB_X12_isNight (fun B hB => ?_)
    refine rB_X12_count (fun B hB => ?_)
    refine rB_law (fun B hB => ?_)
    refine hB _ _ _ _ _ _ ?_
    exact law_z
  · have m6 : (xs 1).toInt < 0 := Int32.lt_iff_toInt_lt.mp n0
    refine rB_law (fun B hB => ?_)
    refine hB _ _ _ _ _ _ ?_
    refine dw_okV (a := 0) (as := [.int (xs 1)]) rfl rfl (show (SH1 0).1 = 11 by decide +kernel) rfl (by decide) rfl rfl ?_
    refine dw_enter rfl ?_
    refine rB_X11_count (fun B hB => ?_)
    refine dw_itp (by omega) ?_
    refine rB_law (fun B hB => ?_)
    refine hB _ _ _ _ _ _ ?_
    refine dw_okV (a := 404) (as := [.int (xs 1)]) rfl rfl (show (SH1 404).1 = 12 by decide +kernel) rfl (by decide) rfl rfl ?_
    refine dw_enter rfl ?_
    refine rB_X12_count (fun B hB => ?_)
    refine hB _ _ _ _ _ _ ?_
    refine dw_okV (a := 404) rfl rfl (show (SH1 404).1 = 12 by decide +kernel) rfl (by decide) rfl rfl ?_
    refine dw_enter rfl ?_
    refine rB_X12_isNight (fun B hB => ?_)
    refine hB _ _ _ _ _ _ ?_
    refine dw_okS rfl rfl rfl (by decide) rfl rfl ?_
    refine dw_enter rfl ?_
    refine rB_X12_isIn (fun B hB => ?_)
    refine rB_X12_isNight (fun B hB => ?_)
    refine rB_X12_count (fun B hB => ?_)
    refine hB _ _ _ _ _ _ ?_
    refine dw_okV (a := 404) rfl rfl (show (SH1 404).1 = 12 by decide +kernel) rfl (by decide) rfl rfl ?_
    refine dw_enter rfl ?_
    refine rB_X12_isNight (fun B hB => ?_)
    refine hB _ _ _ _ _ _ ?_
    refine dw_okS rfl rfl rfl (by decide) rfl rfl ?_
    refine dw_enter rfl ?_
    refine rB_X12_isIn (fun B hB => ?_)
    refine rB_X12_isNight (fun B hB => ?_)
    refine rB_X12_count (fun B hB => ?_)
    refine hB _ _ _ _ _ _ ?_
    refine dw_okV (a := 404) rfl rfl (show (SH1 404).1 = 12 by decide +kernel) rfl (by decide) rfl rfl ?_
    refine dw_enter rfl ?_
    refine rB_X12_isNight (fun B hB => ?_)
    refine hB _ _ _ _ _ _ ?_
    refine dw_okS rfl rfl rfl (by decide) rfl rfl ?_
    refine dw_enter rfl ?_
    refine rB_X12_isIn (fun B hB => ?_)
    refine rB_X12_isNight (fun B hB => ?_)
    refine rB_X12_count (fun B hB => ?_)
    refine hB _ _ _ _ _ _ ?_
    refine dw_okV (a := 404) rfl rfl (show (SH1 404).1 = 12 by decide +kernel) rfl (by decide) rfl rfl ?_
    refine dw_enter rfl ?_
    refine rB_X12_isNight (fun B hB => ?_)
    refine hB _ _ _ _ _ _ ?_
    refine dw_okS rfl rfl rfl (by decide) rfl rfl ?_
    refine dw_enter rfl ?_
    refine rB_X12_isIn (fun B hB => ?_)
    refine rB_X12_isNight (fun B hB => ?_)
    refine rB_X12_count (fun B hB => ?_)
    refine hB _ _ _ _ _ _ ?_
    refine dw_okV (a := 404) rfl rfl (show (SH1 404).1 = 12 by decide +kernel) rfl (by decide) rfl rfl ?_
    refine dw_enter rfl ?_
    refine rB_X12_isNight (fun B hB => ?_)
    refine hB _ _ _ _ _ _ ?_
    refine dw_okS rfl rfl rfl (by decide) rfl rfl ?_
    refine dw_enter rfl ?_
    refine rB_X12_isIn (fun B hB => ?_)
    refine rB_X12_isNight (fun B hB => ?_)
    refine rB_X12_count (fun B hB => ?_)
    refine hB _ _ _ _ _ _ ?_
    refine dw_okV (a := 404) rfl rfl (show (SH1 404).1 = 12 by decide +kernel) rfl (by decide) rfl rfl ?_
    refine dw_enter rfl ?_
    refine rB_X12_isNight (fun B hB => ?_)
    refine hB _ _ _ _ _ _ ?_
    refine dw_okS rfl rfl rfl (by decide) rfl rfl ?_
    refine dw_enter rfl ?_
    refine rB_X12_isIn (fun B hB => ?_)
    refine rB_X12_isNight (fun B hB => ?_)
    refine rB_X12_count (fun B hB => ?_)
    refine dw_itp (by omega) ?_
    refine hB _ _ _ _ _ _ ?_
    refine dw_okS rfl rfl rfl (by decide) rfl rfl ?_
    refine dw_enter rfl ?_
    refine rB_X12_isIn (fun B hB => ?_)
    refine dw_itp n0 ?_
    refine rB_X12_count (fun B hB => ?_)
    refine rB_law (fun B hB => ?_)
    refine hB _ _ _ _ _ _ ?_
    exact law_z
  · have n8 : 4 < xs 1 := dw_tr8 n2; have n7 := Int32.not_le.mpr n8
    refine rB_law (fun B hB => ?_)
    refine hB _ _ _ _ _ _ ?_
    refine dw_okV (a := 0) (as := [.int (xs 1)]) rfl rfl (show (SH1 0).1 = 11 by decide +kernel) rfl (by decide) rfl rfl ?_
    refine dw_enter rfl ?_
    refine rB_X11_count (fun B hB => ?_)
    refine dw_itp (by omega) ?_
    refine rB_law (fun B hB => ?_)
    refine hB _ _ _ _ _ _ ?_
    refine dw_okV (a := 404) (as := [.int (xs 1)]) rfl rfl (show (SH1 404).1 = 12 by decide +kernel) rfl (by decide) rfl rfl ?_
    refine dw_enter rfl ?_
    refine rB_X12_count (fun B hB => ?_)
    refine hB _ _ _ _ _ _ ?_
    refine dw_okV (a := 404) rfl rfl (show (SH1 404).1 = 12 by decide +kernel) rfl (by decide) rfl rfl ?_
    refine dw_enter rfl ?_
    refine rB_X12_isNight (fun B hB => ?_)
    refine hB _ _ _ _ _ _ ?_
    refine dw_okS rfl rfl rfl (by decide) rfl rfl ?_
    refine dw_enter rfl ?_
    refine rB_X12_isIn (fun B hB => ?_)
    refine rB_X12_isNight (fun B hB => ?_)
    refine rB_X12_count (fun B hB => ?_)
    refine hB _ _ _ _ _ _ ?_
    refine dw_okV (a := 404) rfl rfl (show (SH1 404).1 = 12 by decide +kernel) rfl (by decide) rfl rfl ?_
    refine dw_enter rfl ?_
    refine rB_X12_isNight (fun B hB => ?_)
    refine hB _ _ _ _ _ _ ?_
    refine dw_okS rfl rfl rfl (by decide) rfl rfl ?_
    refine dw_enter rfl ?_
    refine rB_X12_isIn (fun B hB => ?_)
    refine rB_X12_isNight (fun B hB => ?_)
    refine rB_X12_count (fun B hB => ?_)
    refine hB _ _ _ _ _ _ ?_
    refine dw_okV (a := 404) rfl rfl (show (SH1 404).1 = 12 by decide +kernel) rfl (by decide) rfl rfl ?_
    refine dw_enter rfl ?_
    refine rB_X12_isNight (fun B hB => ?_)
    refine hB _ _ _ _ _ _ ?_
    refine dw_okS rfl rfl rfl (by decide) rfl rfl ?_
    refine dw_enter rfl ?_
    refine rB_X12_isIn (fun B hB => ?_)
    refine rB_X12_isNight (fun B hB => ?_)
    refine rB_X12_count (fun B hB => ?_)
    refine hB _ _ _ _ _ _ ?_
    refine dw_okV (a := 404) rfl rfl (show (SH1 404).1 = 12 by decide +kernel) rfl (by decide) rfl rfl ?_
    refine dw_enter rfl ?_
    refine rB_X12_isNight (fun B hB => ?_)
    refine hB _ _ _ _ _ _ ?_
    refine dw_okS rfl rfl rfl (by decide) rfl rfl ?_
    refine dw_enter rfl ?_
    refine rB_X12_isIn (fun B hB => ?_)
    refine rB_X12_isNight (fun B hB => ?_)
    refine rB_X12_count (fun B hB => ?_)
    refine hB _ _ _ _ _ _ ?_
    refine dw_okV (a := 404) rfl rfl (show (SH1 404).1 = 12 by decide +kernel) rfl (by decide) rfl rfl ?_
    refine dw_enter rfl ?_
    refine rB_X12_isNight (fun B hB => ?_)
    refine hB _ _ _ _ _ _ ?_
    refine dw_okS rfl rfl rfl (by decide) rfl rfl ?_
    refine dw_enter rfl ?_
    refine rB_X12_isIn (fun B hB => ?_)
    refine rB_X12_isNight (fun B hB => ?_)
    refine rB_X12_count (fun B hB => ?_)
    refine hB _ _ _ _ _ _ ?_
    refine dw_okV (a := 404) rfl rfl (show (SH1 404).1 = 12 by decide +kernel) rfl (by decide) rfl rfl ?_
    refine dw_enter rfl ?_
    refine rB_X12_isNight (fun B hB => ?_)
    refine hB _ _ _ _ _ _ ?_
    refine dw_okS rfl rfl rfl (by decide) rfl rfl ?_
    refine dw_enter rfl ?_
    refine rB_X12_isIn (fun B hB => ?_)
    refine rB_X12_isNight (fun B hB => ?_)
    refine rB_X12_count (fun B hB => ?_)
    refine dw_itp (by omega) ?_
    refine hB _ _ _ _ _ _ ?_
    refine dw_okS rfl rfl rfl (by decide) rfl rfl ?_
    refine dw_enter rfl ?_
    refine rB_X12_isIn (fun B hB => ?_)
    refine dw_itn n1 ?_
    refine dw_itp n8 ?_
    refine rB_X12_count (fun B hB => ?_)
    refine rB_law (fun B hB => ?_)
    refine hB _ _ _ _ _ _ ?_
    exact law_z
