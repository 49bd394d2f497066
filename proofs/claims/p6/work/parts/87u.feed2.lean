set_option maxRecDepth 8000 in
theorem v_cfeed {n N : Nat} {I : Nat → Nat → Int32} {J : Nat → Nat → Int64} {K : dw_K} {a b c d e : Int32} (hN : (I 1 1).toInt = N) (hN9 : N ≤ 940)
    (h0 : 921 ≤ N → ∀ I' : Nat → Nat → Int32, (∀ a, a ≠ 404 → I' a = I a) → (∀ j, j ≠ 0 → I' 404 j = I 404 j) → K (some (.int (-1))) (n, SH1, I', J))
    (h1 : N ≤ 920 → ∀ (I' : Nat → Nat → Int32) (w : Int32), (∀ a, a ≠ 1 → a ≠ 2 → I' a = I a) → (∀ j, j ≠ 1 → I' 1 j = I 1 j) → (I' 1 1).toInt = (N + 20 : Nat) → w.toInt = (N + 20 : Nat) → (∀ k, k < N → I' 2 k = I 2 k) → (∀ j, j < 4 → I' 2 (N + 0 + j) = byF a j) → (∀ j, j < 4 → I' 2 (N + 4 + j) = byF b j) → (∀ j, j < 4 → I' 2 (N + 8 + j) = byF c j) → (∀ j, j < 4 → I' 2 (N + 12 + j) = byF d j) → (∀ j, j < 4 → I' 2 (N + 16 + j) = byF e j) → K (some (.int w)) (n, SH1, I', J)) : t_X11_feed [.ref 0, .int a, .int b, .int c, .int d, .int e] (n, SH1, I, J) K := by
  have c20 : (20 : Int32).toInt = 20 := rfl
  have t20 : (I 1 1 + 20).toInt = N + 20 := by rw [i_add (by omega) (by omega), c20, hN]
  refine q_body (Nat.le_of_ble_eq_true rfl) ?_
  refine q_ald rfl rfl ?_
  refine q_getr rfl sk_0 sr_0_0 ?_
  refine q_geti rfl sk_1 ?_
  refine q_ic rfl ?_
  refine q_add rfl ?_
  refine q_ic rfl ?_
  refine q_icmp (c := 5) rfl (by decide) (fun g => ?_) (fun g => ?_)
  rotate_left
  · have g : (940 : Int32).toInt < (I 1 1 + 20).toInt := g
    have c940 : (940 : Int32).toInt = 940 := rfl
    refine q_ic rfl ?_
    exact q_iret rfl (h0 (by omega) _ (fun a ha => rfl) (fun j hj => rfl))
  have g : (I 1 1 + 20).toInt ≤ (940 : Int32).toInt := g
  have c940 : (940 : Int32).toInt = 940 := rfl
  refine q_ald rfl rfl ?_
  refine q_getr rfl sk_0 sr_0_0 ?_
  refine q_ild rfl rfl ?_
  refine q_callV (as := [.int a]) (rest := []) rfl rfl sk_1 rfl (Nat.le_of_ble_eq_true rfl) ?_
  refine v_add (N := N + 0) (I := I) hN (by omega) (fun I1 A1 F1 s1 B1 C1 => ?_)
  show dw_ok (pr_X11_feed K) 26 0 0 [some (.ref 0), some (.int a), some (.int b), some (.int c), some (.int d), some (.int e)] [] (n, SH1, I1, J)
  refine q_ald rfl rfl ?_
  refine q_getr rfl sk_0 sr_0_0 ?_
  refine q_ild rfl rfl ?_
  refine q_callV (as := [.int b]) (rest := []) rfl rfl sk_1 rfl (Nat.le_of_ble_eq_true rfl) ?_
  refine v_add (N := N + 4) (I := I1) s1 (by omega) (fun I2 A2 F2 s2 B2 C2 => ?_)
  show dw_ok (pr_X11_feed K) 34 0 0 [some (.ref 0), some (.int a), some (.int b), some (.int c), some (.int d), some (.int e)] [] (n, SH1, I2, J)
  refine q_ald rfl rfl ?_
  refine q_getr rfl sk_0 sr_0_0 ?_
  refine q_ild rfl rfl ?_
  refine q_callV (as := [.int c]) (rest := []) rfl rfl sk_1 rfl (Nat.le_of_ble_eq_true rfl) ?_
  refine v_add (N := N + 8) (I := I2) s2 (by omega) (fun I3 A3 F3 s3 B3 C3 => ?_)
  show dw_ok (pr_X11_feed K) 42 0 0 [some (.ref 0), some (.int a), some (.int b), some (.int c), some (.int d), some (.int e)] [] (n, SH1, I3, J)
  refine q_ald rfl rfl ?_
  refine q_getr rfl sk_0 sr_0_0 ?_
  refine q_ild rfl rfl ?_
  refine q_callV (as := [.int d]) (rest := []) rfl rfl sk_1 rfl (Nat.le_of_ble_eq_true rfl) ?_
  refine v_add (N := N + 12) (I := I3) s3 (by omega) (fun I4 A4 F4 s4 B4 C4 => ?_)
  show dw_ok (pr_X11_feed K) 51 0 0 [some (.ref 0), some (.int a), some (.int b), some (.int c), some (.int d), some (.int e)] [] (n, SH1, I4, J)
  refine q_ald rfl rfl ?_
  refine q_getr rfl sk_0 sr_0_0 ?_
  refine q_ild rfl rfl ?_
  refine q_callV (as := [.int e]) (rest := []) rfl rfl sk_1 rfl (Nat.le_of_ble_eq_true rfl) ?_
  refine v_add (N := N + 16) (I := I4) s4 (by omega) (fun I5 A5 F5 s5 B5 C5 => ?_)
  show dw_ok (pr_X11_feed K) 60 0 0 [some (.ref 0), some (.int a), some (.int b), some (.int c), some (.int d), some (.int e)] [] (n, SH1, I5, J)
  refine q_ald rfl rfl ?_
  refine q_getr rfl sk_0 sr_0_0 ?_
  refine q_geti rfl sk_1 ?_
  refine q_iret rfl (h1 (by omega) I5 _ (fun a q1 q2 => ?_) (fun j hj => ?_) s5 s5 (fun k hk => ?_) (fun j hj => ?_) (fun j hj => ?_) (fun j hj => ?_) (fun j hj => ?_) (fun j hj => ?_))
  · rw [A5 a q1 q2, A4 a q1 q2, A3 a q1 q2, A2 a q1 q2, A1 a q1 q2]
  · rw [F5 j hj, F4 j hj, F3 j hj, F2 j hj, F1 j hj]
  · rw [B5 k (by omega), B4 k (by omega), B3 k (by omega), B2 k (by omega), B1 k (by omega)]
  · rw [B5 _ (by omega), B4 _ (by omega), B3 _ (by omega), B2 _ (by omega)]; exact C1 j hj
  · rw [B5 _ (by omega), B4 _ (by omega), B3 _ (by omega)]; exact C2 j hj
  · rw [B5 _ (by omega), B4 _ (by omega)]; exact C3 j hj
  · rw [B5 _ (by omega)]; exact C4 j hj
  · exact C5 j hj
set_option maxRecDepth 8000 in
theorem v_mfeed {n N : Nat} {I : Nat → Nat → Int32} {J : Nat → Nat → Int64} {K : dw_K} {a b c d e : Int32} (hN : (I 404 2).toInt = N) (hN9 : N ≤ 940)
    (h0 : 921 ≤ N → ∀ I' : Nat → Nat → Int32, (∀ a, a ≠ 404 → I' a = I a) → (∀ j, j ≠ 0 → I' 404 j = I 404 j) → K (some (.int (-1))) (n, SH1, I', J))
    (h1 : N ≤ 920 → ∀ (I' : Nat → Nat → Int32) (w : Int32), (∀ a, a ≠ 404 → a ≠ 405 → I' a = I a) → (∀ j, j ≠ 2 → j ≠ 0 → I' 404 j = I 404 j) → (I' 404 2).toInt = (N + 20 : Nat) → w.toInt = (N + 20 : Nat) → (∀ k, k < N → I' 405 k = I 405 k) → (∀ j, j < 4 → I' 405 (N + 0 + j) &&& 255 = byF a j) → (∀ j, j < 4 → I' 405 (N + 4 + j) &&& 255 = byF b j) → (∀ j, j < 4 → I' 405 (N + 8 + j) &&& 255 = byF c j) → (∀ j, j < 4 → I' 405 (N + 12 + j) &&& 255 = byF d j) → (∀ j, j < 4 → I' 405 (N + 16 + j) &&& 255 = byF e j) → K (some (.int w)) (n, SH1, I', J)) : t_X12_feed [.ref 404, .int a, .int b, .int c, .int d, .int e] (n, SH1, I, J) K := by
  have c20 : (20 : Int32).toInt = 20 := rfl
  have t20 : (I 404 2 + 20).toInt = N + 20 := by rw [i_add (by omega) (by omega), c20, hN]
  refine q_body (Nat.le_of_ble_eq_true rfl) ?_
  refine q_ald rfl rfl ?_
  refine q_ic rfl ?_
  refine q_puti rfl sk_404 ?_
  refine q_ald rfl rfl ?_
  refine q_geti rfl sk_404 ?_
  refine q_ic rfl ?_
  refine q_add rfl ?_
  refine q_ic rfl ?_
  refine q_icmp (c := 5) rfl (by decide) (fun g => ?_) (fun g => ?_)
  rotate_left
  · have g : (940 : Int32).toInt < (I 404 2 + 20).toInt := g
    have c940 : (940 : Int32).toInt = 940 := rfl
    refine q_ic rfl ?_
    exact q_iret rfl (h0 (by omega) _ (fun a ha => up_row ha) (fun j hj => up_fld hj))
  have g : (I 404 2 + 20).toInt ≤ (940 : Int32).toInt := g
  have c940 : (940 : Int32).toInt = 940 := rfl
  refine q_ald rfl rfl ?_
  refine q_ild rfl rfl ?_
  refine q_callV (as := [.int a]) (rest := []) rfl rfl sk_404 rfl (Nat.le_of_ble_eq_true rfl) ?_
  refine v_four (N := N + 0) (I := (dw_up I 404 0 0)) hN (by omega) (fun I1 A1 F1 s1 B1 C1 => ?_)
  show dw_ok (pr_X12_feed K) 25 0 0 [some (.ref 404), some (.int a), some (.int b), some (.int c), some (.int d), some (.int e)] [] (n, SH1, I1, J)
  refine q_ald rfl rfl ?_
  refine q_ild rfl rfl ?_
  refine q_callV (as := [.int b]) (rest := []) rfl rfl sk_404 rfl (Nat.le_of_ble_eq_true rfl) ?_
  refine v_four (N := N + 4) (I := I1) s1 (by omega) (fun I2 A2 F2 s2 B2 C2 => ?_)
  show dw_ok (pr_X12_feed K) 30 0 0 [some (.ref 404), some (.int a), some (.int b), some (.int c), some (.int d), some (.int e)] [] (n, SH1, I2, J)
  refine q_ald rfl rfl ?_
  refine q_ild rfl rfl ?_
  refine q_callV (as := [.int c]) (rest := []) rfl rfl sk_404 rfl (Nat.le_of_ble_eq_true rfl) ?_
  refine v_four (N := N + 8) (I := I2) s2 (by omega) (fun I3 A3 F3 s3 B3 C3 => ?_)
  show dw_ok (pr_X12_feed K) 35 0 0 [some (.ref 404), some (.int a), some (.int b), some (.int c), some (.int d), some (.int e)] [] (n, SH1, I3, J)
  refine q_ald rfl rfl ?_
  refine q_ild rfl rfl ?_
  refine q_callV (as := [.int d]) (rest := []) rfl rfl sk_404 rfl (Nat.le_of_ble_eq_true rfl) ?_
  refine v_four (N := N + 12) (I := I3) s3 (by omega) (fun I4 A4 F4 s4 B4 C4 => ?_)
  show dw_ok (pr_X12_feed K) 41 0 0 [some (.ref 404), some (.int a), some (.int b), some (.int c), some (.int d), some (.int e)] [] (n, SH1, I4, J)
  refine q_ald rfl rfl ?_
  refine q_ild rfl rfl ?_
  refine q_callV (as := [.int e]) (rest := []) rfl rfl sk_404 rfl (Nat.le_of_ble_eq_true rfl) ?_
  refine v_four (N := N + 16) (I := I4) s4 (by omega) (fun I5 A5 F5 s5 B5 C5 => ?_)
  show dw_ok (pr_X12_feed K) 47 0 0 [some (.ref 404), some (.int a), some (.int b), some (.int c), some (.int d), some (.int e)] [] (n, SH1, I5, J)
  refine q_ald rfl rfl ?_
  refine q_geti rfl sk_404 ?_
  refine q_iret rfl (h1 (by omega) I5 _ (fun a q1 q2 => ?_) (fun j hj hj0 => ?_) s5 s5 (fun k hk => ?_) (fun j hj => ?_) (fun j hj => ?_) (fun j hj => ?_) (fun j hj => ?_) (fun j hj => ?_))
  · rw [A5 a q1 q2, A4 a q1 q2, A3 a q1 q2, A2 a q1 q2, A1 a q1 q2]; exact up_row q1
  · rw [F5 j hj, F4 j hj, F3 j hj, F2 j hj, F1 j hj]; exact up_fld hj0
  · rw [B5 k (by omega), B4 k (by omega), B3 k (by omega), B2 k (by omega), B1 k (by omega)]; rfl
  · rw [B5 _ (by omega), B4 _ (by omega), B3 _ (by omega), B2 _ (by omega)]; exact C1 j hj
  · rw [B5 _ (by omega), B4 _ (by omega), B3 _ (by omega)]; exact C2 j hj
  · rw [B5 _ (by omega), B4 _ (by omega)]; exact C3 j hj
  · rw [B5 _ (by omega)]; exact C4 j hj
  · exact C5 j hj
