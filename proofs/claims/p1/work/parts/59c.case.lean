set_option maxHeartbeats 20000000 in
set_option maxRecDepth 20000 in
theorem law_c41_0 {xs : Nat → Int32} (hs : xs 1 = 0) : dw_ok (pr_law 6 xs) 1935 599567 7247295 (dw_l1 0 none none) [] (435, SH1, IN1, JN1) := by
  refine rB_law (fun B hB => ?_)
  refine hB _ _ _ _ _ _ ?_
  refine dw_okV (a := 0) (as := [.int (xs 1)]) rfl rfl (show (SH1 0).1 = 11 by decide +kernel) rfl (by decide) rfl rfl ?_
  rw [hs]
  refine dw_enter rfl ?_
  refine rB_X11_count (fun B hB => ?_)
  refine rB_law (fun B hB => ?_)
  refine hB _ _ _ _ _ _ ?_
  refine dw_okV (a := 404) (as := [.int (xs 1)]) rfl rfl (show (SH1 404).1 = 12 by decide +kernel) rfl (by decide) rfl rfl ?_
  rw [hs]
  refine dw_enter rfl ?_
  refine rB_X12_count (fun B hB => ?_)
  refine hB _ _ _ _ _ _ ?_
  refine dw_okV (a := 404) rfl rfl (show (SH1 404).1 = 12 by decide +kernel) rfl (by decide) rfl rfl ?_
  refine l_isN_0 ?_
  refine rB_X12_count (fun B hB => ?_)
  refine hB _ _ _ _ _ _ ?_
  refine dw_okV (a := 404) rfl rfl (show (SH1 404).1 = 12 by decide +kernel) rfl (by decide) rfl rfl ?_
  refine l_isN_1 ?_
  refine rB_X12_count (fun B hB => ?_)
  refine hB _ _ _ _ _ _ ?_
  refine dw_okV (a := 404) rfl rfl (show (SH1 404).1 = 12 by decide +kernel) rfl (by decide) rfl rfl ?_
  refine l_isN_2 ?_
  refine rB_X12_count (fun B hB => ?_)
  refine hB _ _ _ _ _ _ ?_
  refine dw_okV (a := 404) rfl rfl (show (SH1 404).1 = 12 by decide +kernel) rfl (by decide) rfl rfl ?_
  refine l_isN_3 ?_
  refine rB_X12_count (fun B hB => ?_)
  refine hB _ _ _ _ _ _ ?_
  refine dw_okV (a := 404) rfl rfl (show (SH1 404).1 = 12 by decide +kernel) rfl (by decide) rfl rfl ?_
  refine l_isN_4 ?_
  refine rB_X12_count (fun B hB => ?_)
  refine hB _ _ _ _ _ _ ?_
  refine dw_okV (a := 404) rfl rfl (show (SH1 404).1 = 12 by decide +kernel) rfl (by decide) rfl rfl ?_
  refine l_isN_5 ?_
  refine rB_X12_count (fun B hB => ?_)
  refine hB _ _ _ _ _ _ ?_
  refine dw_okS rfl rfl rfl (by decide) rfl rfl ?_
  refine dw_enter rfl ?_
  refine rB_X12_isIn (fun B hB => ?_)
  refine rB_X12_count (fun B hB => ?_)
  refine rB_law (fun B hB => ?_)
  refine hB _ _ _ _ _ _ ?_
  exact law_z
set_option maxHeartbeats 20000000 in
set_option maxRecDepth 20000 in
theorem law_c41_1 {xs : Nat → Int32} (hs : xs 1 = 1) : dw_ok (pr_law 6 xs) 1935 599567 7247295 (dw_l1 0 none none) [] (435, SH1, IN1, JN1) := by
  refine rB_law (fun B hB => ?_)
  refine hB _ _ _ _ _ _ ?_
  refine dw_okV (a := 0) (as := [.int (xs 1)]) rfl rfl (show (SH1 0).1 = 11 by decide +kernel) rfl (by decide) rfl rfl ?_
  rw [hs]
  refine dw_enter rfl ?_
  refine rB_X11_count (fun B hB => ?_)
  refine rB_law (fun B hB => ?_)
  refine hB _ _ _ _ _ _ ?_
  refine dw_okV (a := 404) (as := [.int (xs 1)]) rfl rfl (show (SH1 404).1 = 12 by decide +kernel) rfl (by decide) rfl rfl ?_
  rw [hs]
  refine dw_enter rfl ?_
  refine rB_X12_count (fun B hB => ?_)
  refine hB _ _ _ _ _ _ ?_
  refine dw_okV (a := 404) rfl rfl (show (SH1 404).1 = 12 by decide +kernel) rfl (by decide) rfl rfl ?_
  refine l_isN_0 ?_
  refine rB_X12_count (fun B hB => ?_)
  refine hB _ _ _ _ _ _ ?_
  refine dw_okV (a := 404) rfl rfl (show (SH1 404).1 = 12 by decide +kernel) rfl (by decide) rfl rfl ?_
  refine l_isN_1 ?_
  refine rB_X12_count (fun B hB => ?_)
  refine hB _ _ _ _ _ _ ?_
  refine dw_okV (a := 404) rfl rfl (show (SH1 404).1 = 12 by decide +kernel) rfl (by decide) rfl rfl ?_
  refine l_isN_2 ?_
  refine rB_X12_count (fun B hB => ?_)
  refine hB _ _ _ _ _ _ ?_
  refine dw_okV (a := 404) rfl rfl (show (SH1 404).1 = 12 by decide +kernel) rfl (by decide) rfl rfl ?_
  refine l_isN_3 ?_
  refine rB_X12_count (fun B hB => ?_)
  refine hB _ _ _ _ _ _ ?_
  refine dw_okV (a := 404) rfl rfl (show (SH1 404).1 = 12 by decide +kernel) rfl (by decide) rfl rfl ?_
  refine l_isN_4 ?_
  refine rB_X12_count (fun B hB => ?_)
  refine hB _ _ _ _ _ _ ?_
  refine dw_okV (a := 404) rfl rfl (show (SH1 404).1 = 12 by decide +kernel) rfl (by decide) rfl rfl ?_
  refine l_isN_5 ?_
  refine rB_X12_count (fun B hB => ?_)
  refine hB _ _ _ _ _ _ ?_
  refine dw_okS rfl rfl rfl (by decide) rfl rfl ?_
  refine dw_enter rfl ?_
  refine rB_X12_isIn (fun B hB => ?_)
  refine rB_X12_count (fun B hB => ?_)
  refine rB_law (fun B hB => ?_)
  refine hB _ _ _ _ _ _ ?_
  exact law_z
set_option maxHeartbeats 20000000 in
set_option maxRecDepth 20000 in
theorem law_c41_2 {xs : Nat → Int32} (hs : xs 1 = 2) : dw_ok (pr_law 6 xs) 1935 599567 7247295 (dw_l1 0 none none) [] (435, SH1, IN1, JN1) := by
  refine rB_law (fun B hB => ?_)
  refine hB _ _ _ _ _ _ ?_
  refine dw_okV (a := 0) (as := [.int (xs 1)]) rfl rfl (show (SH1 0).1 = 11 by decide +kernel) rfl (by decide) rfl rfl ?_
  rw [hs]
  refine dw_enter rfl ?_
  refine rB_X11_count (fun B hB => ?_)
  refine rB_law (fun B hB => ?_)
  refine hB _ _ _ _ _ _ ?_
  refine dw_okV (a := 404) (as := [.int (xs 1)]) rfl rfl (show (SH1 404).1 = 12 by decide +kernel) rfl (by decide) rfl rfl ?_
  rw [hs]
  refine dw_enter rfl ?_
  refine rB_X12_count (fun B hB => ?_)
  refine hB _ _ _ _ _ _ ?_
  refine dw_okV (a := 404) rfl rfl (show (SH1 404).1 = 12 by decide +kernel) rfl (by decide) rfl rfl ?_
  refine l_isN_0 ?_
  refine rB_X12_count (fun B hB => ?_)
  refine hB _ _ _ _ _ _ ?_
  refine dw_okV (a := 404) rfl rfl (show (SH1 404).1 = 12 by decide +kernel) rfl (by decide) rfl rfl ?_
  refine l_isN_1 ?_
  refine rB_X12_count (fun B hB => ?_)
  refine hB _ _ _ _ _ _ ?_
  refine dw_okV (a := 404) rfl rfl (show (SH1 404).1 = 12 by decide +kernel) rfl (by decide) rfl rfl ?_
  refine l_isN_2 ?_
  refine rB_X12_count (fun B hB => ?_)
  refine hB _ _ _ _ _ _ ?_
  refine dw_okV (a := 404) rfl rfl (show (SH1 404).1 = 12 by decide +kernel) rfl (by decide) rfl rfl ?_
  refine l_isN_3 ?_
  refine rB_X12_count (fun B hB => ?_)
  refine hB _ _ _ _ _ _ ?_
  refine dw_okV (a := 404) rfl rfl (show (SH1 404).1 = 12 by decide +kernel) rfl (by decide) rfl rfl ?_
  refine l_isN_4 ?_
  refine rB_X12_count (fun B hB => ?_)
  refine hB _ _ _ _ _ _ ?_
  refine dw_okV (a := 404) rfl rfl (show (SH1 404).1 = 12 by decide +kernel) rfl (by decide) rfl rfl ?_
  refine l_isN_5 ?_
  refine rB_X12_count (fun B hB => ?_)
  refine hB _ _ _ _ _ _ ?_
  refine dw_okS rfl rfl rfl (by decide) rfl rfl ?_
  refine dw_enter rfl ?_
  refine rB_X12_isIn (fun B hB => ?_)
  refine rB_X12_count (fun B hB => ?_)
  refine rB_law (fun B hB => ?_)
  refine hB _ _ _ _ _ _ ?_
  exact law_z
set_option maxHeartbeats 20000000 in
set_option maxRecDepth 20000 in
theorem law_c41_3 {xs : Nat → Int32} (hs : xs 1 = 3) : dw_ok (pr_law 6 xs) 1935 599567 7247295 (dw_l1 0 none none) [] (435, SH1, IN1, JN1) := by
  refine rB_law (fun B hB => ?_)
  refine hB _ _ _ _ _ _ ?_
  refine dw_okV (a := 0) (as := [.int (xs 1)]) rfl rfl (show (SH1 0).1 = 11 by decide +kernel) rfl (by decide) rfl rfl ?_
  rw [hs]
  refine dw_enter rfl ?_
  refine rB_X11_count (fun B hB => ?_)
  refine rB_law (fun B hB => ?_)
  refine hB _ _ _ _ _ _ ?_
  refine dw_okV (a := 404) (as := [.int (xs 1)]) rfl rfl (show (SH1 404).1 = 12 by decide +kernel) rfl (by decide) rfl rfl ?_
  rw [hs]
  refine dw_enter rfl ?_
  refine rB_X12_count (fun B hB => ?_)
  refine hB _ _ _ _ _ _ ?_
  refine dw_okV (a := 404) rfl rfl (show (SH1 404).1 = 12 by decide +kernel) rfl (by decide) rfl rfl ?_
  refine l_isN_0 ?_
  refine rB_X12_count (fun B hB => ?_)
  refine hB _ _ _ _ _ _ ?_
  refine dw_okV (a := 404) rfl rfl (show (SH1 404).1 = 12 by decide +kernel) rfl (by decide) rfl rfl ?_
  refine l_isN_1 ?_
  refine rB_X12_count (fun B hB => ?_)
  refine hB _ _ _ _ _ _ ?_
  refine dw_okV (a := 404) rfl rfl (show (SH1 404).1 = 12 by decide +kernel) rfl (by decide) rfl rfl ?_
  refine l_isN_2 ?_
  refine rB_X12_count (fun B hB => ?_)
  refine hB _ _ _ _ _ _ ?_
  refine dw_okV (a := 404) rfl rfl (show (SH1 404).1 = 12 by decide +kernel) rfl (by decide) rfl rfl ?_
  refine l_isN_3 ?_
  refine rB_X12_count (fun B hB => ?_)
  refine hB _ _ _ _ _ _ ?_
  refine dw_okV (a := 404) rfl rfl (show (SH1 404).1 = 12 by decide +kernel) rfl (by decide) rfl rfl ?_
  refine l_isN_4 ?_
  refine rB_X12_count (fun B hB => ?_)
  refine hB _ _ _ _ _ _ ?_
  refine dw_okV (a := 404) rfl rfl (show (SH1 404).1 = 12 by decide +kernel) rfl (by decide) rfl rfl ?_
  refine l_isN_5 ?_
  refine rB_X12_count (fun B hB => ?_)
  refine hB _ _ _ _ _ _ ?_
  refine dw_okS rfl rfl rfl (by decide) rfl rfl ?_
  refine dw_enter rfl ?_
  refine rB_X12_isIn (fun B hB => ?_)
  refine rB_X12_count (fun B hB => ?_)
  refine rB_law (fun B hB => ?_)
  refine hB _ _ _ _ _ _ ?_
  exact law_z
set_option maxHeartbeats 20000000 in
set_option maxRecDepth 20000 in
theorem law_c41_4 {xs : Nat → Int32} (hs : xs 1 = 4) : dw_ok (pr_law 6 xs) 1935 599567 7247295 (dw_l1 0 none none) [] (435, SH1, IN1, JN1) := by
  refine rB_law (fun B hB => ?_)
  refine hB _ _ _ _ _ _ ?_
  refine dw_okV (a := 0) (as := [.int (xs 1)]) rfl rfl (show (SH1 0).1 = 11 by decide +kernel) rfl (by decide) rfl rfl ?_
  rw [hs]
  refine dw_enter rfl ?_
  refine rB_X11_count (fun B hB => ?_)
  refine rB_law (fun B hB => ?_)
  refine hB _ _ _ _ _ _ ?_
  refine dw_okV (a := 404) (as := [.int (xs 1)]) rfl rfl (show (SH1 404).1 = 12 by decide +kernel) rfl (by decide) rfl rfl ?_
  rw [hs]
  refine dw_enter rfl ?_
  refine rB_X12_count (fun B hB => ?_)
  refine hB _ _ _ _ _ _ ?_
  refine dw_okV (a := 404) rfl rfl (show (SH1 404).1 = 12 by decide +kernel) rfl (by decide) rfl rfl ?_
  refine l_isN_0 ?_
  refine rB_X12_count (fun B hB => ?_)
  refine hB _ _ _ _ _ _ ?_
  refine dw_okV (a := 404) rfl rfl (show (SH1 404).1 = 12 by decide +kernel) rfl (by decide) rfl rfl ?_
  refine l_isN_1 ?_
  refine rB_X12_count (fun B hB => ?_)
  refine hB _ _ _ _ _ _ ?_
  refine dw_okV (a := 404) rfl rfl (show (SH1 404).1 = 12 by decide +kernel) rfl (by decide) rfl rfl ?_
  refine l_isN_2 ?_
  refine rB_X12_count (fun B hB => ?_)
  refine hB _ _ _ _ _ _ ?_
  refine dw_okV (a := 404) rfl rfl (show (SH1 404).1 = 12 by decide +kernel) rfl (by decide) rfl rfl ?_
  refine l_isN_3 ?_
  refine rB_X12_count (fun B hB => ?_)
  refine hB _ _ _ _ _ _ ?_
  refine dw_okV (a := 404) rfl rfl (show (SH1 404).1 = 12 by decide +kernel) rfl (by decide) rfl rfl ?_
  refine l_isN_4 ?_
  refine rB_X12_count (fun B hB => ?_)
  refine hB _ _ _ _ _ _ ?_
  refine dw_okV (a := 404) rfl rfl (show (SH1 404).1 = 12 by decide +kernel) rfl (by decide) rfl rfl ?_
  refine l_isN_5 ?_
  refine rB_X12_count (fun B hB => ?_)
  refine hB _ _ _ _ _ _ ?_
  refine dw_okS rfl rfl rfl (by decide) rfl rfl ?_
  refine dw_enter rfl ?_
  refine rB_X12_isIn (fun B hB => ?_)
  refine rB_X12_count (fun B hB => ?_)
  refine rB_law (fun B hB => ?_)
  refine hB _ _ _ _ _ _ ?_
  exact law_z
set_option maxHeartbeats 20000000 in
set_option maxRecDepth 20000 in
theorem law_c41_5 {xs : Nat → Int32} (hs : xs 1 = 5) : dw_ok (pr_law 6 xs) 1935 599567 7247295 (dw_l1 0 none none) [] (435, SH1, IN1, JN1) := by
  refine rB_law (fun B hB => ?_)
  refine hB _ _ _ _ _ _ ?_
  refine dw_okV (a := 0) (as := [.int (xs 1)]) rfl rfl (show (SH1 0).1 = 11 by decide +kernel) rfl (by decide) rfl rfl ?_
  rw [hs]
  refine dw_enter rfl ?_
  refine rB_X11_count (fun B hB => ?_)
  refine hB _ _ _ _ _ _ ?_
  refine dw_okV (a := 3) rfl rfl (show (SH1 3).1 = 8 by decide +kernel) rfl (by decide) rfl rfl ?_
  refine dw_enter rfl ?_
  refine rB_X8_slotsWithNight (fun B hB => ?_)
  refine hB _ _ _ _ _ _ ?_
  refine dw_okV (a := 3) rfl rfl (show (SH1 3).1 = 8 by decide +kernel) rfl (by decide) rfl rfl ?_
  refine dw_enter rfl ?_
  refine rB_X8_nightOf (fun B hB => ?_)
  refine rB_X8_slotsWithNight (fun B hB => ?_)
  refine (fun (_ : _ ∨ _) => ?_)
  refine hB _ _ _ _ _ _ ?_
  refine dw_okV (a := 3) rfl rfl (show (SH1 3).1 = 8 by decide +kernel) rfl (by decide) rfl rfl ?_
  refine dw_enter rfl ?_
  refine rB_X8_nightOf (fun B hB => ?_)
  refine rB_X8_slotsWithNight (fun B hB => ?_)
  refine (fun (_ : _ ∨ _) => ?_)
  refine hB _ _ _ _ _ _ ?_
  refine dw_okV (a := 3) rfl rfl (show (SH1 3).1 = 8 by decide +kernel) rfl (by decide) rfl rfl ?_
  refine dw_enter rfl ?_
  refine rB_X8_nightOf (fun B hB => ?_)
  refine rB_X8_slotsWithNight (fun B hB => ?_)
  refine (fun (_ : _ ∨ _) => ?_)
  refine hB _ _ _ _ _ _ ?_
  refine dw_okV (a := 3) rfl rfl (show (SH1 3).1 = 8 by decide +kernel) rfl (by decide) rfl rfl ?_
  refine dw_enter rfl ?_
  refine rB_X8_nightOf (fun B hB => ?_)
  refine rB_X8_slotsWithNight (fun B hB => ?_)
  refine (fun (_ : _ ∨ _) => ?_)
  refine hB _ _ _ _ _ _ ?_
  refine dw_okV (a := 3) rfl rfl (show (SH1 3).1 = 8 by decide +kernel) rfl (by decide) rfl rfl ?_
  refine dw_enter rfl ?_
  refine rB_X8_nightOf (fun B hB => ?_)
  refine rB_X8_slotsWithNight (fun B hB => ?_)
  refine (fun (_ : _ ∨ _) => ?_)
  refine hB _ _ _ _ _ _ ?_
  refine dw_okV (a := 3) rfl rfl (show (SH1 3).1 = 8 by decide +kernel) rfl (by decide) rfl rfl ?_
  refine dw_enter rfl ?_
  refine rB_X8_nightOf (fun B hB => ?_)
  refine rB_X8_slotsWithNight (fun B hB => ?_)
  refine (fun (_ : _ ∨ _) => ?_)
  refine rB_X11_count (fun B hB => ?_)
  refine rB_law (fun B hB => ?_)
  refine hB _ _ _ _ _ _ ?_
  refine dw_okV (a := 404) (as := [.int (xs 1)]) rfl rfl (show (SH1 404).1 = 12 by decide +kernel) rfl (by decide) rfl rfl ?_
  rw [hs]
  refine dw_enter rfl ?_
  refine rB_X12_count (fun B hB => ?_)
  refine hB _ _ _ _ _ _ ?_
  refine dw_okV (a := 404) rfl rfl (show (SH1 404).1 = 12 by decide +kernel) rfl (by decide) rfl rfl ?_
  refine l_isN_0 ?_
  refine rB_X12_count (fun B hB => ?_)
  refine hB _ _ _ _ _ _ ?_
  refine dw_okV (a := 404) rfl rfl (show (SH1 404).1 = 12 by decide +kernel) rfl (by decide) rfl rfl ?_
  refine l_isN_1 ?_
  refine rB_X12_count (fun B hB => ?_)
  refine hB _ _ _ _ _ _ ?_
  refine dw_okV (a := 404) rfl rfl (show (SH1 404).1 = 12 by decide +kernel) rfl (by decide) rfl rfl ?_
  refine l_isN_2 ?_
  refine rB_X12_count (fun B hB => ?_)
  refine hB _ _ _ _ _ _ ?_
  refine dw_okV (a := 404) rfl rfl (show (SH1 404).1 = 12 by decide +kernel) rfl (by decide) rfl rfl ?_
  refine l_isN_3 ?_
  refine rB_X12_count (fun B hB => ?_)
  refine hB _ _ _ _ _ _ ?_
  refine dw_okV (a := 404) rfl rfl (show (SH1 404).1 = 12 by decide +kernel) rfl (by decide) rfl rfl ?_
  refine l_isN_4 ?_
  refine rB_X12_count (fun B hB => ?_)
  refine hB _ _ _ _ _ _ ?_
  refine dw_okV (a := 404) rfl rfl (show (SH1 404).1 = 12 by decide +kernel) rfl (by decide) rfl rfl ?_
  refine l_isN_5 ?_
  refine rB_X12_count (fun B hB => ?_)
  refine rB_law (fun B hB => ?_)
  refine hB _ _ _ _ _ _ ?_
  exact law_z
set_option maxHeartbeats 20000000 in
set_option maxRecDepth 20000 in
theorem law_c41_6 {xs : Nat → Int32} (hs : xs 1 = 6) : dw_ok (pr_law 6 xs) 1935 599567 7247295 (dw_l1 0 none none) [] (435, SH1, IN1, JN1) := by
  refine rB_law (fun B hB => ?_)
  refine hB _ _ _ _ _ _ ?_
  refine dw_okV (a := 0) (as := [.int (xs 1)]) rfl rfl (show (SH1 0).1 = 11 by decide +kernel) rfl (by decide) rfl rfl ?_
  rw [hs]
  refine dw_enter rfl ?_
  refine rB_X11_count (fun B hB => ?_)
  refine rB_law (fun B hB => ?_)
  refine hB _ _ _ _ _ _ ?_
  refine dw_okV (a := 404) (as := [.int (xs 1)]) rfl rfl (show (SH1 404).1 = 12 by decide +kernel) rfl (by decide) rfl rfl ?_
  rw [hs]
  refine dw_enter rfl ?_
  refine rB_X12_count (fun B hB => ?_)
  refine hB _ _ _ _ _ _ ?_
  refine dw_okV (a := 404) rfl rfl (show (SH1 404).1 = 12 by decide +kernel) rfl (by decide) rfl rfl ?_
  refine l_isN_0 ?_
  refine rB_X12_count (fun B hB => ?_)
  refine hB _ _ _ _ _ _ ?_
  refine dw_okV (a := 404) rfl rfl (show (SH1 404).1 = 12 by decide +kernel) rfl (by decide) rfl rfl ?_
  refine l_isN_1 ?_
  refine rB_X12_count (fun B hB => ?_)
  refine hB _ _ _ _ _ _ ?_
  refine dw_okV (a := 404) rfl rfl (show (SH1 404).1 = 12 by decide +kernel) rfl (by decide) rfl rfl ?_
  refine l_isN_2 ?_
  refine rB_X12_count (fun B hB => ?_)
  refine hB _ _ _ _ _ _ ?_
  refine dw_okV (a := 404) rfl rfl (show (SH1 404).1 = 12 by decide +kernel) rfl (by decide) rfl rfl ?_
  refine l_isN_3 ?_
  refine rB_X12_count (fun B hB => ?_)
  refine hB _ _ _ _ _ _ ?_
  refine dw_okV (a := 404) rfl rfl (show (SH1 404).1 = 12 by decide +kernel) rfl (by decide) rfl rfl ?_
  refine l_isN_4 ?_
  refine rB_X12_count (fun B hB => ?_)
  refine hB _ _ _ _ _ _ ?_
  refine dw_okV (a := 404) rfl rfl (show (SH1 404).1 = 12 by decide +kernel) rfl (by decide) rfl rfl ?_
  refine l_isN_5 ?_
  refine rB_X12_count (fun B hB => ?_)
  refine rB_law (fun B hB => ?_)
  refine hB _ _ _ _ _ _ ?_
  exact law_z
set_option maxHeartbeats 20000000 in
set_option maxRecDepth 20000 in
theorem law_c41_7 {xs : Nat → Int32} (hs : xs 1 = 7) : dw_ok (pr_law 6 xs) 1935 599567 7247295 (dw_l1 0 none none) [] (435, SH1, IN1, JN1) := by
  refine rB_law (fun B hB => ?_)
  refine hB _ _ _ _ _ _ ?_
  refine dw_okV (a := 0) (as := [.int (xs 1)]) rfl rfl (show (SH1 0).1 = 11 by decide +kernel) rfl (by decide) rfl rfl ?_
  rw [hs]
  refine dw_enter rfl ?_
  refine rB_X11_count (fun B hB => ?_)
  refine rB_law (fun B hB => ?_)
  refine hB _ _ _ _ _ _ ?_
  refine dw_okV (a := 404) (as := [.int (xs 1)]) rfl rfl (show (SH1 404).1 = 12 by decide +kernel) rfl (by decide) rfl rfl ?_
  rw [hs]
  refine dw_enter rfl ?_
  refine rB_X12_count (fun B hB => ?_)
  refine hB _ _ _ _ _ _ ?_
  refine dw_okV (a := 404) rfl rfl (show (SH1 404).1 = 12 by decide +kernel) rfl (by decide) rfl rfl ?_
  refine l_isN_0 ?_
  refine rB_X12_count (fun B hB => ?_)
  refine hB _ _ _ _ _ _ ?_
  refine dw_okV (a := 404) rfl rfl (show (SH1 404).1 = 12 by decide +kernel) rfl (by decide) rfl rfl ?_
  refine l_isN_1 ?_
  refine rB_X12_count (fun B hB => ?_)
  refine hB _ _ _ _ _ _ ?_
  refine dw_okV (a := 404) rfl rfl (show (SH1 404).1 = 12 by decide +kernel) rfl (by decide) rfl rfl ?_
  refine l_isN_2 ?_
  refine rB_X12_count (fun B hB => ?_)
  refine hB _ _ _ _ _ _ ?_
  refine dw_okV (a := 404) rfl rfl (show (SH1 404).1 = 12 by decide +kernel) rfl (by decide) rfl rfl ?_
  refine l_isN_3 ?_
  refine rB_X12_count (fun B hB => ?_)
  refine hB _ _ _ _ _ _ ?_
  refine dw_okV (a := 404) rfl rfl (show (SH1 404).1 = 12 by decide +kernel) rfl (by decide) rfl rfl ?_
  refine l_isN_4 ?_
  refine rB_X12_count (fun B hB => ?_)
  refine hB _ _ _ _ _ _ ?_
  refine dw_okV (a := 404) rfl rfl (show (SH1 404).1 = 12 by decide +kernel) rfl (by decide) rfl rfl ?_
  refine l_isN_5 ?_
  refine rB_X12_count (fun B hB => ?_)
  refine rB_law (fun B hB => ?_)
  refine hB _ _ _ _ _ _ ?_
  exact law_z
set_option maxHeartbeats 20000000 in
set_option maxRecDepth 20000 in
theorem law_c41_8 {xs : Nat → Int32} (n0 : xs 1 < 0) (n1 : ¬ 0 ≤ xs 1) : dw_ok (pr_law 6 xs) 1935 599567 7247295 (dw_l1 0 none none) [] (435, SH1, IN1, JN1) := by
  have m6 : (xs 1).toInt < 0 := Int32.lt_iff_toInt_lt.mp n0
  refine rB_law (fun B hB => ?_)
  refine hB _ _ _ _ _ _ ?_
  refine dw_okV (a := 0) (as := [.int (xs 1)]) rfl rfl (show (SH1 0).1 = 11 by decide +kernel) rfl (by decide) rfl rfl ?_
  refine dw_enter rfl ?_
  refine rB_X11_count (fun B hB => ?_)
  refine dw_itp (by omega) ?_
  refine rB_law (fun B hB => ?_)
  refine hB _ _ _ _ _ _ ?_
  refine dw_okV (a := 404) (as := [.int (xs 1)]) rfl rfl (show (SH1 404).1 = 12 by decide +kernel) rfl (by decide) rfl rfl ?_
  refine dw_enter rfl ?_
  refine rB_X12_count (fun B hB => ?_)
  refine hB _ _ _ _ _ _ ?_
  refine dw_okV (a := 404) rfl rfl (show (SH1 404).1 = 12 by decide +kernel) rfl (by decide) rfl rfl ?_
  refine l_isN_0 ?_
  refine rB_X12_count (fun B hB => ?_)
  refine hB _ _ _ _ _ _ ?_
  refine dw_okV (a := 404) rfl rfl (show (SH1 404).1 = 12 by decide +kernel) rfl (by decide) rfl rfl ?_
  refine l_isN_1 ?_
  refine rB_X12_count (fun B hB => ?_)
  refine hB _ _ _ _ _ _ ?_
  refine dw_okV (a := 404) rfl rfl (show (SH1 404).1 = 12 by decide +kernel) rfl (by decide) rfl rfl ?_
  refine l_isN_2 ?_
  refine rB_X12_count (fun B hB => ?_)
  refine hB _ _ _ _ _ _ ?_
  refine dw_okV (a := 404) rfl rfl (show (SH1 404).1 = 12 by decide +kernel) rfl (by decide) rfl rfl ?_
  refine l_isN_3 ?_
  refine rB_X12_count (fun B hB => ?_)
  refine hB _ _ _ _ _ _ ?_
  refine dw_okV (a := 404) rfl rfl (show (SH1 404).1 = 12 by decide +kernel) rfl (by decide) rfl rfl ?_
  refine l_isN_4 ?_
  refine rB_X12_count (fun B hB => ?_)
  refine hB _ _ _ _ _ _ ?_
  refine dw_okV (a := 404) rfl rfl (show (SH1 404).1 = 12 by decide +kernel) rfl (by decide) rfl rfl ?_
  refine l_isN_5 ?_
  refine rB_X12_count (fun B hB => ?_)
  refine dw_itp (by omega) ?_
  refine hB _ _ _ _ _ _ ?_
  refine dw_okS rfl rfl rfl (by decide) rfl rfl ?_
  refine dw_enter rfl ?_
  refine rB_X12_isIn (fun B hB => ?_)
  refine dw_itp n0 ?_
  refine rB_X12_count (fun B hB => ?_)
  refine rB_law (fun B hB => ?_)
  refine hB _ _ _ _ _ _ ?_
  exact law_z
set_option maxHeartbeats 20000000 in
set_option maxRecDepth 20000 in
theorem law_c41_9 {xs : Nat → Int32} (n0 : 0 ≤ xs 1) (n1 : ¬ xs 1 < 0) (n2 : 7 < xs 1) (n3 : 8 ≤ xs 1) (n4 : ¬ xs 1 ≤ 7) (n5 : ¬ xs 1 < 8) (n6 : (xs 1).toInt < 0 ∨ 7 < (xs 1).toInt) : dw_ok (pr_law 6 xs) 1935 599567 7247295 (dw_l1 0 none none) [] (435, SH1, IN1, JN1) := by
  have n8 : 4 < xs 1 := dw_tr8 n2; have n7 := Int32.not_le.mpr n8
  refine rB_law (fun B hB => ?_)
  refine hB _ _ _ _ _ _ ?_
  refine dw_okV (a := 0) (as := [.int (xs 1)]) rfl rfl (show (SH1 0).1 = 11 by decide +kernel) rfl (by decide) rfl rfl ?_
  refine dw_enter rfl ?_
  refine rB_X11_count (fun B hB => ?_)
  refine dw_itp (by omega) ?_
  refine rB_law (fun B hB => ?_)
  refine hB _ _ _ _ _ _ ?_
  refine dw_okV (a := 404) (as := [.int (xs 1)]) rfl rfl (show (SH1 404).1 = 12 by decide +kernel) rfl (by decide) rfl rfl ?_
  refine dw_enter rfl ?_
  refine rB_X12_count (fun B hB => ?_)
  refine hB _ _ _ _ _ _ ?_
  refine dw_okV (a := 404) rfl rfl (show (SH1 404).1 = 12 by decide +kernel) rfl (by decide) rfl rfl ?_
  refine l_isN_0 ?_
  refine rB_X12_count (fun B hB => ?_)
  refine hB _ _ _ _ _ _ ?_
  refine dw_okV (a := 404) rfl rfl (show (SH1 404).1 = 12 by decide +kernel) rfl (by decide) rfl rfl ?_
  refine l_isN_1 ?_
  refine rB_X12_count (fun B hB => ?_)
  refine hB _ _ _ _ _ _ ?_
  refine dw_okV (a := 404) rfl rfl (show (SH1 404).1 = 12 by decide +kernel) rfl (by decide) rfl rfl ?_
  refine l_isN_2 ?_
  refine rB_X12_count (fun B hB => ?_)
  refine hB _ _ _ _ _ _ ?_
  refine dw_okV (a := 404) rfl rfl (show (SH1 404).1 = 12 by decide +kernel) rfl (by decide) rfl rfl ?_
  refine l_isN_3 ?_
  refine rB_X12_count (fun B hB => ?_)
  refine hB _ _ _ _ _ _ ?_
  refine dw_okV (a := 404) rfl rfl (show (SH1 404).1 = 12 by decide +kernel) rfl (by decide) rfl rfl ?_
  refine l_isN_4 ?_
  refine rB_X12_count (fun B hB => ?_)
  refine hB _ _ _ _ _ _ ?_
  refine dw_okV (a := 404) rfl rfl (show (SH1 404).1 = 12 by decide +kernel) rfl (by decide) rfl rfl ?_
  refine l_isN_5 ?_
  refine rB_X12_count (fun B hB => ?_)
  refine dw_itp (by omega) ?_
  refine hB _ _ _ _ _ _ ?_
  refine dw_okS rfl rfl rfl (by decide) rfl rfl ?_
  refine dw_enter rfl ?_
  refine rB_X12_isIn (fun B hB => ?_)
  refine dw_itn n1 ?_
  refine dw_itp n8 ?_
  refine rB_X12_count (fun B hB => ?_)
  refine rB_law (fun B hB => ?_)
  refine hB _ _ _ _ _ _ ?_
  exact law_z
theorem law_c41 {xs : Nat → Int32} : dw_ok (pr_law 6 xs) 1935 599567 7247295 (dw_l1 0 none none) [] (435, SH1, IN1, JN1) := by
  rcases dw_rng8 (xs 1) with hs | hs | hs | hs | hs | hs | hs | hs | ⟨n0, n1⟩ | ⟨n0, n1, n2, n3, n4, n5, n6⟩
  · exact law_c41_0 hs
  · exact law_c41_1 hs
  · exact law_c41_2 hs
  · exact law_c41_3 hs
  · exact law_c41_4 hs
  · exact law_c41_5 hs
  · exact law_c41_6 hs
  · exact law_c41_7 hs
  · exact law_c41_8 n0 n1
  · exact law_c41_9 n0 n1 n2 n3 n4 n5 n6
