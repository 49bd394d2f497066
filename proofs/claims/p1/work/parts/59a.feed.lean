set_option maxHeartbeats 4000000 in
set_option maxRecDepth 20000 in
theorem law_c0 {xs : Nat → Int32} : dw_ok (pr_law 6 xs) 224 599567 7247295 (dw_l1 0 none none) [] (435, SH1, IN1, JN1) := by
  refine rB_law (fun B hB => ?_)
  refine hB _ _ _ _ _ _ ?_
  refine dw_okV (a := 0) (as := [.int (xs 1), .int (xs 2), .int (xs 3), .int (xs 4), .int (xs 5)]) rfl rfl (show (SH1 0).1 = 11 by decide +kernel) rfl (by decide) rfl rfl ?_
  refine dw_enter rfl ?_
  refine rB_X11_feed (fun B hB => ?_)
  refine hB _ _ _ _ _ _ ?_
  refine dw_okV (a := 1) (as := [.int (xs 1)]) rfl rfl (show (SH1 1).1 = 9 by decide +kernel) rfl (by decide) rfl rfl ?_
  refine l_add (k := 0) (by omega) (show IN1 1 1 = Int32.ofNat 0 from rfl) (fun I1 e1 f1 => ?_)
  refine rB_X11_feed (fun B hB => ?_)
  refine hB _ _ _ _ _ _ ?_
  refine dw_okV (a := 1) (as := [.int (xs 2)]) rfl rfl (show (SH1 1).1 = 9 by decide +kernel) rfl (by decide) rfl rfl ?_
  refine l_add (k := 4) (by omega) (e1) (fun I2 e2 f2 => ?_)
  refine rB_X11_feed (fun B hB => ?_)
  refine hB _ _ _ _ _ _ ?_
  refine dw_okV (a := 1) (as := [.int (xs 3)]) rfl rfl (show (SH1 1).1 = 9 by decide +kernel) rfl (by decide) rfl rfl ?_
  refine l_add (k := 8) (by omega) (e2) (fun I3 e3 f3 => ?_)
  refine rB_X11_feed (fun B hB => ?_)
  refine hB _ _ _ _ _ _ ?_
  refine dw_okV (a := 1) (as := [.int (xs 4)]) rfl rfl (show (SH1 1).1 = 9 by decide +kernel) rfl (by decide) rfl rfl ?_
  refine l_add (k := 12) (by omega) (e3) (fun I4 e4 f4 => ?_)
  refine rB_X11_feed (fun B hB => ?_)
  refine hB _ _ _ _ _ _ ?_
  refine dw_okV (a := 1) (as := [.int (xs 5)]) rfl rfl (show (SH1 1).1 = 9 by decide +kernel) rfl (by decide) rfl rfl ?_
  refine l_add (k := 16) (by omega) (e4) (fun I5 e5 f5 => ?_)
  have g : I5 404 2 = Int32.ofNat 0 := by
    rw [f5 _ _ (by decide) (by decide), f4 _ _ (by decide) (by decide), f3 _ _ (by decide) (by decide), f2 _ _ (by decide) (by decide), f1 _ _ (by decide) (by decide)]
    rfl
  refine rB_X11_feed (fun B hB => ?_)
  refine rB_law (fun B hB => ?_)
  refine hB _ _ _ _ _ _ ?_
  refine dw_okV (a := 404) (as := [.int (xs 1), .int (xs 2), .int (xs 3), .int (xs 4), .int (xs 5)]) rfl rfl (show (SH1 404).1 = 12 by decide +kernel) rfl (Nat.le_of_ble_eq_true rfl) rfl rfl ?_
  refine dw_enter rfl ?_
  refine rB_X12_feed (fun B hB => ?_)
  refine dw_itp (show I5 404 2 + 20 ≤ 940 by rw [g]; decide) ?_
  refine hB _ _ _ _ _ _ ?_
  refine dw_okV (a := 404) (as := [.int (xs 1)]) rfl rfl (show (SH1 404).1 = 12 by decide +kernel) rfl (by decide) rfl rfl ?_
  refine l_four (k := 0) (by omega) (show I5 404 2 = Int32.ofNat 0 from g) (fun M1 m1 => ?_)
  refine rB_X12_feed (fun B hB => ?_)
  refine hB _ _ _ _ _ _ ?_
  refine dw_okV (a := 404) (as := [.int (xs 2)]) rfl rfl (show (SH1 404).1 = 12 by decide +kernel) rfl (by decide) rfl rfl ?_
  refine l_four (k := 4) (by omega) (m1) (fun M2 m2 => ?_)
  refine rB_X12_feed (fun B hB => ?_)
  refine hB _ _ _ _ _ _ ?_
  refine dw_okV (a := 404) (as := [.int (xs 3)]) rfl rfl (show (SH1 404).1 = 12 by decide +kernel) rfl (by decide) rfl rfl ?_
  refine l_four (k := 8) (by omega) (m2) (fun M3 m3 => ?_)
  refine rB_X12_feed (fun B hB => ?_)
  refine hB _ _ _ _ _ _ ?_
  refine dw_okV (a := 404) (as := [.int (xs 4)]) rfl rfl (show (SH1 404).1 = 12 by decide +kernel) rfl (by decide) rfl rfl ?_
  refine l_four (k := 12) (by omega) (m3) (fun M4 m4 => ?_)
  refine rB_X12_feed (fun B hB => ?_)
  refine hB _ _ _ _ _ _ ?_
  refine dw_okV (a := 404) (as := [.int (xs 5)]) rfl rfl (show (SH1 404).1 = 12 by decide +kernel) rfl (by decide) rfl rfl ?_
  refine l_four (k := 16) (by omega) (m4) (fun M5 m5 => ?_)
  refine rB_X12_feed (fun B hB => ?_)
  refine rB_law (fun B hB => ?_)
  refine dw_itp (show I5 1 1 = M5 404 2 by rw [e5, m5]) ?_
  refine hB _ _ _ _ _ _ ?_
  exact law_z
