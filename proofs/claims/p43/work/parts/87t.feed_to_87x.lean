section
/-! ===== feed: the tapes' bytes ===== -/
def byF (v : Int32) (j : Nat) : Int32 := ((v.toUInt32 >>> ((Int32.ofNat (24 - 8 * j)).toUInt32 &&& Int32.toUInt32 31)).toInt32) &&& 255
set_option maxRecDepth 8000 in
theorem ad_loop {n bc bs N : Nat} {K : dw_K} {I0 : Nat → Nat → Int32} {J : Nat → Nat → Int64} {v : Int32} (hN : (I0 1 1).toInt = N) (hN9 : N + 4 ≤ 940)
    (hk : ∀ I' : Nat → Nat → Int32, (∀ a, a ≠ 1 → a ≠ 2 → I' a = I0 a) → (∀ j, j ≠ 1 → I' 1 j = I0 1 j) → (I' 1 1).toInt = (N + 4 : Nat) → (∀ k, k < N ∨ N + 4 ≤ k → I' 2 k = I0 2 k) → (∀ j, j < 4 → I' 2 (N + j) = byF v j) → K none (n, SH1, I', J)) :
    ∀ (f i : Nat) (x : Int32) (I : Nat → Nat → Int32), i + f = 4 → x.toInt = 24 - 8 * i → (∀ a, a ≠ 1 → a ≠ 2 → I a = I0 a) → (∀ j, j ≠ 1 → I 1 j = I0 1 j) → (I 1 1).toInt = (N + i : Nat) → (∀ k, k < N ∨ N + i ≤ k → I 2 k = I0 2 k) → (∀ j, j < i → I 2 (N + j) = byF v j) → dw_ok (pr_X9_add K) 3 bc bs [some (.ref 1), some (.int v), some (.int x)] [] (n, SH1, I, J) := by
  have c1 : (1 : Int32).toInt = 1 := rfl
  have c8 : (-8 : Int32).toInt = -8 := rfl
  intro f
  induction f with
  | zero =>
    intro i x I hi hx hA hF h1 hB hC
    refine q_ild rfl rfl ?_
    refine q_if (c := 2) rfl (by decide) (fun _ => ?_) (fun h => absurd (show 0 ≤ x.toInt from h) (by omega))
    have e4 : i = 4 := by omega
    subst e4
    exact q_vret rfl (hk I hA hF h1 hB hC)
  | succ f ih =>
    intro i x I hi hx hA hF h1 hB hC
    have n1 : (I 1 1).toInt.toNat = N + i := by omega
    refine q_ild rfl rfl ?_
    refine q_if (c := 2) rfl (by decide) (fun h => absurd (show (x).toInt < 0 from h) (by omega)) (fun y1 => ?_)
    have y1 : 0 ≤ (x).toInt := y1
    refine q_ald rfl rfl ?_
    refine q_geti rfl sk_1 ?_
    refine q_if (c := 2) rfl (by decide) (fun h => absurd (show ((I 1 1)).toInt < 0 from h) (by omega)) (fun y2 => ?_)
    have y2 : 0 ≤ ((I 1 1)).toInt := y2
    refine q_ald rfl rfl ?_
    refine q_geti rfl sk_1 ?_
    refine q_ald rfl rfl ?_
    refine q_getr rfl sk_1 sr_1_0 ?_
    refine q_alen2 (kd := 16) (N := 940) rfl sk_2 sn_2 (by decide) (by decide) ?_
    refine q_icmp (c := 3) rfl (by decide) (fun h => absurd (show (940 : Int) ≤ ((I 1 1)).toInt from h) (by omega)) (fun y3 => ?_)
    have y3 : ((I 1 1)).toInt < (940 : Int) := y3
    refine q_ald rfl rfl ?_
    refine q_getr rfl sk_1 sr_1_0 ?_
    refine q_ald rfl rfl ?_
    refine q_geti rfl sk_1 ?_
    refine q_ild rfl rfl ?_
    refine q_ild rfl rfl ?_
    refine q_iushr rfl ?_
    refine q_ic rfl ?_
    refine q_and rfl ?_
    show dw_ok (pr_X9_add K) 41 bc bs [some (.ref 1), some (.int v), some (.int x)] [.int ((((v).toUInt32 >>> ((x).toUInt32 &&& Int32.toUInt32 31)).toInt32) &&& (255 : Int32)), .int (I 1 1), .ref 2] (n, SH1, I, J)
    refine q_iast rfl sk_2 sn_2 (by omega) (by omega) ?_
    show dw_ok (pr_X9_add K) 42 bc bs [some (.ref 1), some (.int v), some (.int x)] [] (n, SH1, (dw_up I 2 ((I 1 1)).toInt.toNat ((((v).toUInt32 >>> ((x).toUInt32 &&& Int32.toUInt32 31)).toInt32) &&& (255 : Int32))), J)
    rw [n1]
    refine q_ald rfl rfl ?_
    refine q_dup rfl ?_
    refine q_geti rfl sk_1 ?_
    show dw_ok (pr_X9_add K) 47 bc bs [some (.ref 1), some (.int v), some (.int x)] [.int ((dw_up I 2 (N + i) ((((v).toUInt32 >>> ((x).toUInt32 &&& Int32.toUInt32 31)).toInt32) &&& (255 : Int32))) 1 1), .ref 1] (n, SH1, (dw_up I 2 (N + i) ((((v).toUInt32 >>> ((x).toUInt32 &&& Int32.toUInt32 31)).toInt32) &&& (255 : Int32))), J)
    rw [show ((dw_up I 2 (N + i) ((((v).toUInt32 >>> ((x).toUInt32 &&& Int32.toUInt32 31)).toInt32) &&& (255 : Int32))) 1 1) = (I 1 1) from (up_ne (Or.inl (by decide)))]
    refine q_ic rfl ?_
    refine q_add rfl ?_
    refine q_puti rfl sk_1 ?_
    show dw_ok (pr_X9_add K) 52 bc bs [some (.ref 1), some (.int v), some (.int x)] [] (n, SH1, (dw_up (dw_up I 2 (N + i) ((((v).toUInt32 >>> ((x).toUInt32 &&& Int32.toUInt32 31)).toInt32) &&& (255 : Int32))) 1 1 ((I 1 1) + (1 : Int32))), J)
    refine q_inc rfl rfl rfl ?_
    show dw_ok (pr_X9_add K) 55 bc bs [some (.ref 1), some (.int v), some (.int (x + (-8)))] [] (n, SH1, (dw_up (dw_up I 2 (N + i) ((((v).toUInt32 >>> ((x).toUInt32 &&& Int32.toUInt32 31)).toInt32) &&& (255 : Int32))) 1 1 ((I 1 1) + (1 : Int32))), J)
    refine q_goto rfl ?_
    have ex : x = Int32.ofNat (24 - 8 * i) := i_eq (by rw [oN (by omega)]; omega)
    obtain ⟨x', hx'⟩ : ∃ x', x' = x + (-8) := ⟨_, rfl⟩
    obtain ⟨z', hz'⟩ : ∃ z', z' = (I 1 1) + (1 : Int32) := ⟨_, rfl⟩
    have tx : x'.toInt = x.toInt - 8 := by rw [hx', i_add (by omega) (by omega), c8]; omega
    have t1 : z'.toInt = (I 1 1).toInt + 1 := by rw [hz', i_add (by omega) (by omega), c1]
    rw [← hx', ← hz']
    refine ih (i + 1) x' (dw_up (dw_up I 2 (N + i) ((((v).toUInt32 >>> ((x).toUInt32 &&& Int32.toUInt32 31)).toInt32) &&& (255 : Int32))) 1 1 z') (by omega) (by omega) (fun a q1 q2 => ?_) (fun j hj => ?_) ?_ (fun k hk => ?_) (fun j hj => ?_)
    · rw [up_row q1, up_row q2]; exact hA a q1 q2
    · rw [up_fld hj, up_row (by decide)]; exact hF j hj
    · rw [up_same]; omega
    · rw [up_row (by decide), up_fld (by omega)]; exact hB k (by omega)
    · rw [up_row (by decide)]
      by_cases e : j = i
      · subst e
        rw [up_same, ex]; rfl
      · rw [up_fld (by omega)]; exact hC j (by omega)
set_option maxRecDepth 8000 in
theorem v_add {n N : Nat} {I : Nat → Nat → Int32} {J : Nat → Nat → Int64} {K : dw_K} {v : Int32} (hN : (I 1 1).toInt = N) (hN9 : N + 4 ≤ 940)
    (hk : ∀ I' : Nat → Nat → Int32, (∀ a, a ≠ 1 → a ≠ 2 → I' a = I a) → (∀ j, j ≠ 1 → I' 1 j = I 1 j) → (I' 1 1).toInt = (N + 4 : Nat) → (∀ k, k < N ∨ N + 4 ≤ k → I' 2 k = I 2 k) → (∀ j, j < 4 → I' 2 (N + j) = byF v j) → K none (n, SH1, I', J)) : t_X9_add [.ref 1, .int v] (n, SH1, I, J) K := by
  refine q_body (Nat.le_of_ble_eq_true rfl) ?_
  refine q_ic rfl ?_
  refine q_ist rfl rfl ?_
  exact ad_loop hN hN9 hk 4 0 24 I rfl rfl (fun _ _ _ => rfl) (fun _ _ => rfl) hN (fun _ _ => rfl) (fun j hj => absurd hj (Nat.not_lt_zero j))
set_option maxRecDepth 8000 in
theorem fo_loop {n bc bs N : Nat} {K : dw_K} {I0 : Nat → Nat → Int32} {J : Nat → Nat → Int64} {v : Int32} (hN : (I0 404 2).toInt = N) (hN9 : N + 4 ≤ 940)
    (hk : ∀ I' : Nat → Nat → Int32, (∀ a, a ≠ 404 → a ≠ 405 → I' a = I0 a) → (∀ j, j ≠ 2 → I' 404 j = I0 404 j) → (I' 404 2).toInt = (N + 4 : Nat) → (∀ k, k < N ∨ N + 4 ≤ k → I' 405 k = I0 405 k) → (∀ j, j < 4 → I' 405 (N + j) &&& 255 = byF v j) → K none (n, SH1, I', J)) :
    ∀ (f i : Nat) (x : Int32) (I : Nat → Nat → Int32), i + f = 4 → x.toInt = 24 - 8 * i → (∀ a, a ≠ 404 → a ≠ 405 → I a = I0 a) → (∀ j, j ≠ 2 → I 404 j = I0 404 j) → (I 404 2).toInt = (N + i : Nat) → (∀ k, k < N ∨ N + i ≤ k → I 405 k = I0 405 k) → (∀ j, j < i → I 405 (N + j) &&& 255 = byF v j) → dw_ok (pr_X12_four K) 3 bc bs [some (.ref 404), some (.int v), some (.int x)] [] (n, SH1, I, J) := by
  have c1 : (1 : Int32).toInt = 1 := rfl
  have c8 : (-8 : Int32).toInt = -8 := rfl
  intro f
  induction f with
  | zero =>
    intro i x I hi hx hA hF h1 hB hC
    refine q_ild rfl rfl ?_
    refine q_if (c := 2) rfl (by decide) (fun _ => ?_) (fun h => absurd (show 0 ≤ x.toInt from h) (by omega))
    have e4 : i = 4 := by omega
    subst e4
    exact q_vret rfl (hk I hA hF h1 hB hC)
  | succ f ih =>
    intro i x I hi hx hA hF h1 hB hC
    have n1 : (I 404 2).toInt.toNat = N + i := by omega
    refine q_ild rfl rfl ?_
    refine q_if (c := 2) rfl (by decide) (fun h => absurd (show (x).toInt < 0 from h) (by omega)) (fun y1 => ?_)
    have y1 : 0 ≤ (x).toInt := y1
    refine q_ald rfl rfl ?_
    refine q_getr rfl sk_404 sr_404_1 ?_
    refine q_ald rfl rfl ?_
    refine q_geti rfl sk_404 ?_
    refine q_ild rfl rfl ?_
    refine q_ild rfl rfl ?_
    refine q_ishr rfl ?_
    refine q_i2b rfl ?_
    show dw_ok (pr_X12_four K) 19 bc bs [some (.ref 404), some (.int v), some (.int x)] [.int (((v >>> (x &&& 31))).toInt8.toInt32), .int (I 404 2), .ref 405] (n, SH1, I, J)
    refine q_iastb rfl sk_405 sn_405 (by omega) (by omega) (fi_b8 _) ?_
    show dw_ok (pr_X12_four K) 20 bc bs [some (.ref 404), some (.int v), some (.int x)] [] (n, SH1, (dw_up I 405 ((I 404 2)).toInt.toNat (((v >>> (x &&& 31))).toInt8.toInt32)), J)
    rw [n1]
    refine q_ald rfl rfl ?_
    refine q_dup rfl ?_
    refine q_geti rfl sk_404 ?_
    show dw_ok (pr_X12_four K) 25 bc bs [some (.ref 404), some (.int v), some (.int x)] [.int ((dw_up I 405 (N + i) (((v >>> (x &&& 31))).toInt8.toInt32)) 404 2), .ref 404] (n, SH1, (dw_up I 405 (N + i) (((v >>> (x &&& 31))).toInt8.toInt32)), J)
    rw [show ((dw_up I 405 (N + i) (((v >>> (x &&& 31))).toInt8.toInt32)) 404 2) = (I 404 2) from (up_ne (Or.inl (by decide)))]
    refine q_ic rfl ?_
    refine q_add rfl ?_
    refine q_puti rfl sk_404 ?_
    show dw_ok (pr_X12_four K) 30 bc bs [some (.ref 404), some (.int v), some (.int x)] [] (n, SH1, (dw_up (dw_up I 405 (N + i) (((v >>> (x &&& 31))).toInt8.toInt32)) 404 2 ((I 404 2) + (1 : Int32))), J)
    refine q_inc rfl rfl rfl ?_
    show dw_ok (pr_X12_four K) 33 bc bs [some (.ref 404), some (.int v), some (.int (x + (-8)))] [] (n, SH1, (dw_up (dw_up I 405 (N + i) (((v >>> (x &&& 31))).toInt8.toInt32)) 404 2 ((I 404 2) + (1 : Int32))), J)
    refine q_goto rfl ?_
    have ex : x = Int32.ofNat (24 - 8 * i) := i_eq (by rw [oN (by omega)]; omega)
    obtain ⟨x', hx'⟩ : ∃ x', x' = x + (-8) := ⟨_, rfl⟩
    obtain ⟨z', hz'⟩ : ∃ z', z' = (I 404 2) + (1 : Int32) := ⟨_, rfl⟩
    have tx : x'.toInt = x.toInt - 8 := by rw [hx', i_add (by omega) (by omega), c8]; omega
    have t1 : z'.toInt = (I 404 2).toInt + 1 := by rw [hz', i_add (by omega) (by omega), c1]
    rw [← hx', ← hz']
    refine ih (i + 1) x' (dw_up (dw_up I 405 (N + i) (((v >>> (x &&& 31))).toInt8.toInt32)) 404 2 z') (by omega) (by omega) (fun a q1 q2 => ?_) (fun j hj => ?_) ?_ (fun k hk => ?_) (fun j hj => ?_)
    · rw [up_row q1, up_row q2]; exact hA a q1 q2
    · rw [up_fld hj, up_row (by decide)]; exact hF j hj
    · rw [up_same]; omega
    · rw [up_row (by decide), up_fld (by omega)]; exact hB k (by omega)
    · rw [up_row (by decide)]
      by_cases e : j = i
      · subst e
        rw [up_same, ex]; exact by_sr (by omega)
      · rw [up_fld (by omega)]; exact hC j (by omega)
set_option maxRecDepth 8000 in
theorem v_four {n N : Nat} {I : Nat → Nat → Int32} {J : Nat → Nat → Int64} {K : dw_K} {v : Int32} (hN : (I 404 2).toInt = N) (hN9 : N + 4 ≤ 940)
    (hk : ∀ I' : Nat → Nat → Int32, (∀ a, a ≠ 404 → a ≠ 405 → I' a = I a) → (∀ j, j ≠ 2 → I' 404 j = I 404 j) → (I' 404 2).toInt = (N + 4 : Nat) → (∀ k, k < N ∨ N + 4 ≤ k → I' 405 k = I 405 k) → (∀ j, j < 4 → I' 405 (N + j) &&& 255 = byF v j) → K none (n, SH1, I', J)) : t_X12_four [.ref 404, .int v] (n, SH1, I, J) K := by
  refine q_body (Nat.le_of_ble_eq_true rfl) ?_
  refine q_ic rfl ?_
  refine q_ist rfl rfl ?_
  exact fo_loop hN hN9 hk 4 0 24 I rfl rfl (fun _ _ _ => rfl) (fun _ _ => rfl) hN (fun _ _ => rfl) (fun j hj => absurd hj (Nat.not_lt_zero j))
end
section
set_option maxRecDepth 8000 in
theorem v_cfeed {n N : Nat} {I : Nat → Nat → Int32} {J : Nat → Nat → Int64} {K : dw_K} {a b c d e : Int32} (hN : (I 1 1).toInt = N) (hN9 : N ≤ 940)
    (h0 : 921 ≤ N → ∀ I' : Nat → Nat → Int32, (∀ a, a ≠ 404 → I' a = I a) → (∀ j, j ≠ 0 → I' 404 j = I 404 j) → K (some (.int (-1))) (n, SH1, I', J))
    (h1 : N ≤ 920 → ∀ (I' : Nat → Nat → Int32) (w : Int32), (∀ a, a ≠ 1 → a ≠ 2 → I' a = I a) → (∀ j, j ≠ 1 → I' 1 j = I 1 j) → (I' 1 1).toInt = (N + 20 : Nat) → w.toInt = (N + 20 : Nat) → (∀ k, k < N → I' 2 k = I 2 k) → (∀ j, j < 4 → I' 2 (N + 0 + j) = byF a j) → (∀ j, j < 4 → I' 2 (N + 4 + j) = byF b j) → (∀ j, j < 4 → I' 2 (N + 8 + j) = byF c j) → (∀ j, j < 4 → I' 2 (N + 12 + j) = byF d j) → (∀ j, j < 4 → I' 2 (N + 16 + j) = byF e j) → K (some (.int w)) (n, SH1, I', J)) : t_X11_feed [.ref 0, .int a, .int b, .int c, .int d, .int e] (n, SH1, I, J) K := by
  have c20 : (20 : Int32).toInt = 20 := rfl
  have t20 : (I 1 1 + 20).toInt = N + 20 := by rw [i_add (by omega) (by omega), c20, hN]
  refine q_body (Nat.le_of_ble_eq_true rfl) ?_
  refine q_ald rfl rfl ?_
  refine q_getr rfl sk_0 sr_0_0 ?_
  refine q_geti rfl sk_1 ?_
  refine q_ic rfl ?_
  refine q_add rfl ?_
  refine q_ic rfl ?_
  refine q_icmp (c := 5) rfl (by decide) (fun g => ?_) (fun g => ?_)
  rotate_left
  · have g : (940 : Int32).toInt < (I 1 1 + 20).toInt := g
    have c940 : (940 : Int32).toInt = 940 := rfl
    refine q_ic rfl ?_
    exact q_iret rfl (h0 (by omega) _ (fun a ha => rfl) (fun j hj => rfl))
  have g : (I 1 1 + 20).toInt ≤ (940 : Int32).toInt := g
  have c940 : (940 : Int32).toInt = 940 := rfl
  refine q_ald rfl rfl ?_
  refine q_getr rfl sk_0 sr_0_0 ?_
  refine q_ild rfl rfl ?_
  refine q_callV (as := [.int a]) (rest := []) rfl rfl sk_1 rfl (Nat.le_of_ble_eq_true rfl) ?_
  refine v_add (N := N + 0) (I := I) hN (by omega) (fun I1 A1 F1 s1 B1 C1 => ?_)
  show dw_ok (pr_X11_feed K) 26 0 0 [some (.ref 0), some (.int a), some (.int b), some (.int c), some (.int d), some (.int e)] [] (n, SH1, I1, J)
  refine q_ald rfl rfl ?_
  refine q_getr rfl sk_0 sr_0_0 ?_
  refine q_ild rfl rfl ?_
  refine q_callV (as := [.int b]) (rest := []) rfl rfl sk_1 rfl (Nat.le_of_ble_eq_true rfl) ?_
  refine v_add (N := N + 4) (I := I1) s1 (by omega) (fun I2 A2 F2 s2 B2 C2 => ?_)
  show dw_ok (pr_X11_feed K) 34 0 0 [some (.ref 0), some (.int a), some (.int b), some (.int c), some (.int d), some (.int e)] [] (n, SH1, I2, J)
  refine q_ald rfl rfl ?_
  refine q_getr rfl sk_0 sr_0_0 ?_
  refine q_ild rfl rfl ?_
  refine q_callV (as := [.int c]) (rest := []) rfl rfl sk_1 rfl (Nat.le_of_ble_eq_true rfl) ?_
  refine v_add (N := N + 8) (I := I2) s2 (by omega) (fun I3 A3 F3 s3 B3 C3 => ?_)
  show dw_ok (pr_X11_feed K) 42 0 0 [some (.ref 0), some (.int a), some (.int b), some (.int c), some (.int d), some (.int e)] [] (n, SH1, I3, J)
  refine q_ald rfl rfl ?_
  refine q_getr rfl sk_0 sr_0_0 ?_
  refine q_ild rfl rfl ?_
  refine q_callV (as := [.int d]) (rest := []) rfl rfl sk_1 rfl (Nat.le_of_ble_eq_true rfl) ?_
  refine v_add (N := N + 12) (I := I3) s3 (by omega) (fun I4 A4 F4 s4 B4 C4 => ?_)
  show dw_ok (pr_X11_feed K) 51 0 0 [some (.ref 0), some (.int a), some (.int b), some (.int c), some (.int d), some (.int e)] [] (n, SH1, I4, J)
  refine q_ald rfl rfl ?_
  refine q_getr rfl sk_0 sr_0_0 ?_
  refine q_ild rfl rfl ?_
  refine q_callV (as := [.int e]) (rest := []) rfl rfl sk_1 rfl (Nat.le_of_ble_eq_true rfl) ?_
  refine v_add (N := N + 16) (I := I4) s4 (by omega) (fun I5 A5 F5 s5 B5 C5 => ?_)
  show dw_ok (pr_X11_feed K) 60 0 0 [some (.ref 0), some (.int a), some (.int b), some (.int c), some (.int d), some (.int e)] [] (n, SH1, I5, J)
  refine q_ald rfl rfl ?_
  refine q_getr rfl sk_0 sr_0_0 ?_
  refine q_geti rfl sk_1 ?_
  refine q_iret rfl (h1 (by omega) I5 _ (fun a q1 q2 => ?_) (fun j hj => ?_) s5 s5 (fun k hk => ?_) (fun j hj => ?_) (fun j hj => ?_) (fun j hj => ?_) (fun j hj => ?_) (fun j hj => ?_))
  · rw [A5 a q1 q2, A4 a q1 q2, A3 a q1 q2, A2 a q1 q2, A1 a q1 q2]
  · rw [F5 j hj, F4 j hj, F3 j hj, F2 j hj, F1 j hj]
  · rw [B5 k (by omega), B4 k (by omega), B3 k (by omega), B2 k (by omega), B1 k (by omega)]
  · rw [B5 _ (by omega), B4 _ (by omega), B3 _ (by omega), B2 _ (by omega)]; exact C1 j hj
  · rw [B5 _ (by omega), B4 _ (by omega), B3 _ (by omega)]; exact C2 j hj
  · rw [B5 _ (by omega), B4 _ (by omega)]; exact C3 j hj
  · rw [B5 _ (by omega)]; exact C4 j hj
  · exact C5 j hj
set_option maxRecDepth 8000 in
theorem v_mfeed {n N : Nat} {I : Nat → Nat → Int32} {J : Nat → Nat → Int64} {K : dw_K} {a b c d e : Int32} (hN : (I 404 2).toInt = N) (hN9 : N ≤ 940)
    (h0 : 921 ≤ N → ∀ I' : Nat → Nat → Int32, (∀ a, a ≠ 404 → I' a = I a) → (∀ j, j ≠ 0 → I' 404 j = I 404 j) → K (some (.int (-1))) (n, SH1, I', J))
    (h1 : N ≤ 920 → ∀ (I' : Nat → Nat → Int32) (w : Int32), (∀ a, a ≠ 404 → a ≠ 405 → I' a = I a) → (∀ j, j ≠ 2 → j ≠ 0 → I' 404 j = I 404 j) → (I' 404 2).toInt = (N + 20 : Nat) → w.toInt = (N + 20 : Nat) → (∀ k, k < N → I' 405 k = I 405 k) → (∀ j, j < 4 → I' 405 (N + 0 + j) &&& 255 = byF a j) → (∀ j, j < 4 → I' 405 (N + 4 + j) &&& 255 = byF b j) → (∀ j, j < 4 → I' 405 (N + 8 + j) &&& 255 = byF c j) → (∀ j, j < 4 → I' 405 (N + 12 + j) &&& 255 = byF d j) → (∀ j, j < 4 → I' 405 (N + 16 + j) &&& 255 = byF e j) → K (some (.int w)) (n, SH1, I', J)) : t_X12_feed [.ref 404, .int a, .int b, .int c, .int d, .int e] (n, SH1, I, J) K := by
  have c20 : (20 : Int32).toInt = 20 := rfl
  have t20 : (I 404 2 + 20).toInt = N + 20 := by rw [i_add (by omega) (by omega), c20, hN]
  refine q_body (Nat.le_of_ble_eq_true rfl) ?_
  refine q_ald rfl rfl ?_
  refine q_ic rfl ?_
  refine q_puti rfl sk_404 ?_
  refine q_ald rfl rfl ?_
  refine q_geti rfl sk_404 ?_
  refine q_ic rfl ?_
  refine q_add rfl ?_
  refine q_ic rfl ?_
  refine q_icmp (c := 5) rfl (by decide) (fun g => ?_) (fun g => ?_)
  rotate_left
  · have g : (940 : Int32).toInt < (I 404 2 + 20).toInt := g
    have c940 : (940 : Int32).toInt = 940 := rfl
    refine q_ic rfl ?_
    exact q_iret rfl (h0 (by omega) _ (fun a ha => up_row ha) (fun j hj => up_fld hj))
  have g : (I 404 2 + 20).toInt ≤ (940 : Int32).toInt := g
  have c940 : (940 : Int32).toInt = 940 := rfl
  refine q_ald rfl rfl ?_
  refine q_ild rfl rfl ?_
  refine q_callV (as := [.int a]) (rest := []) rfl rfl sk_404 rfl (Nat.le_of_ble_eq_true rfl) ?_
  refine v_four (N := N + 0) (I := (dw_up I 404 0 0)) hN (by omega) (fun I1 A1 F1 s1 B1 C1 => ?_)
  show dw_ok (pr_X12_feed K) 25 0 0 [some (.ref 404), some (.int a), some (.int b), some (.int c), some (.int d), some (.int e)] [] (n, SH1, I1, J)
  refine q_ald rfl rfl ?_
  refine q_ild rfl rfl ?_
  refine q_callV (as := [.int b]) (rest := []) rfl rfl sk_404 rfl (Nat.le_of_ble_eq_true rfl) ?_
  refine v_four (N := N + 4) (I := I1) s1 (by omega) (fun I2 A2 F2 s2 B2 C2 => ?_)
  show dw_ok (pr_X12_feed K) 30 0 0 [some (.ref 404), some (.int a), some (.int b), some (.int c), some (.int d), some (.int e)] [] (n, SH1, I2, J)
  refine q_ald rfl rfl ?_
  refine q_ild rfl rfl ?_
  refine q_callV (as := [.int c]) (rest := []) rfl rfl sk_404 rfl (Nat.le_of_ble_eq_true rfl) ?_
  refine v_four (N := N + 8) (I := I2) s2 (by omega) (fun I3 A3 F3 s3 B3 C3 => ?_)
  show dw_ok (pr_X12_feed K) 35 0 0 [some (.ref 404), some (.int a), some (.int b), some (.int c), some (.int d), some (.int e)] [] (n, SH1, I3, J)
  refine q_ald rfl rfl ?_
  refine q_ild rfl rfl ?_
  refine q_callV (as := [.int d]) (rest := []) rfl rfl sk_404 rfl (Nat.le_of_ble_eq_true rfl) ?_
  refine v_four (N := N + 12) (I := I3) s3 (by omega) (fun I4 A4 F4 s4 B4 C4 => ?_)
  show dw_ok (pr_X12_feed K) 41 0 0 [some (.ref 404), some (.int a), some (.int b), some (.int c), some (.int d), some (.int e)] [] (n, SH1, I4, J)
  refine q_ald rfl rfl ?_
  refine q_ild rfl rfl ?_
  refine q_callV (as := [.int e]) (rest := []) rfl rfl sk_404 rfl (Nat.le_of_ble_eq_true rfl) ?_
  refine v_four (N := N + 16) (I := I4) s4 (by omega) (fun I5 A5 F5 s5 B5 C5 => ?_)
  show dw_ok (pr_X12_feed K) 47 0 0 [some (.ref 404), some (.int a), some (.int b), some (.int c), some (.int d), some (.int e)] [] (n, SH1, I5, J)
  refine q_ald rfl rfl ?_
  refine q_geti rfl sk_404 ?_
  refine q_iret rfl (h1 (by omega) I5 _ (fun a q1 q2 => ?_) (fun j hj hj0 => ?_) s5 s5 (fun k hk => ?_) (fun j hj => ?_) (fun j hj => ?_) (fun j hj => ?_) (fun j hj => ?_) (fun j hj => ?_))
  · rw [A5 a q1 q2, A4 a q1 q2, A3 a q1 q2, A2 a q1 q2, A1 a q1 q2]; exact up_row q1
  · rw [F5 j hj, F4 j hj, F3 j hj, F2 j hj, F1 j hj]; exact up_fld hj0
  · rw [B5 k (by omega), B4 k (by omega), B3 k (by omega), B2 k (by omega), B1 k (by omega)]; rfl
  · rw [B5 _ (by omega), B4 _ (by omega), B3 _ (by omega), B2 _ (by omega)]; exact C1 j hj
  · rw [B5 _ (by omega), B4 _ (by omega), B3 _ (by omega)]; exact C2 j hj
  · rw [B5 _ (by omega), B4 _ (by omega)]; exact C3 j hj
  · rw [B5 _ (by omega)]; exact C4 j hj
  · exact C5 j hj
end
section
/-! ===== a GROUND's text, purely ===== -/
/-- the latest first: the i-th told -/
def atF {α : Type} (d : α) : List α → Nat → α
  | [], _ => d
  | x :: r, i => if i = r.length then x else atF d r i
set_option maxRecDepth 8000 in
theorem at_hd {α : Type} {d x : α} {r : List α} : atF d (x :: r) r.length = x := if_pos rfl
set_option maxRecDepth 8000 in
theorem at_tl {α : Type} {d x : α} {r : List α} {i : Nat} (h : i ≠ r.length) : atF d (x :: r) i = atF d r i := if_neg h
/-- a KIND: its name's place, its length, what it holds, gives, its gift -/
abbrev gK : Type := Nat × Nat × Int32 × Int32 × Int32
/-- kinds, columns, the rows' places, the shades, the stock told -/
abbrev gS : Type := List gK × Nat × List Nat × List (Int32 × Int32 × Int32 × Int32) × Option Int32
abbrev gR : Type := Nat × Nat × Nat × gS
def g0 : gS := ([], 0, [], [], none)
def nbG (t : fT) (lo hi : Int) (k : Int32 → Nat → gR) : gR := if nbF t lo hi = 0 then k t.2.2.2 t.2.2.1 else (nbF t lo hi, t.2.1, 0, g0)
def stG (t : fT) (k : Nat → gR) : gR := if t.1 = 3 then k t.2.2.1 else (1, t.2.1, 0, g0)
/-- a word of the notation -/
def tdF (b : fB) (T : fT) : Prop := sayF b T (dw_sb 1) ∨ sayF b T (dw_sb 2) ∨ sayF b T (dw_sb 3) ∨ sayF b T (dw_sb 4) ∨ sayF b T (dw_sb 5) ∨ sayF b T (dw_sb 6) ∨ sayF b T (dw_sb 7) ∨ sayF b T (dw_sb 8) ∨ sayF b T (dw_sb 9) ∨ sayF b T (dw_sb 10) ∨ sayF b T (dw_sb 11) ∨ sayF b T (dw_sb 12) ∨ sayF b T (dw_sb 13)
/-- the word as at another place -/
abbrev asF (b : fB) (T : fT) (q k : Nat) : Prop := T.1 = 1 ∧ T.2.2.1 = T.2.1 + k ∧ ∀ i, i < k → b (T.2.1 + i) = b (q + i)
/-- one of the names told -/
def nmF (b : fB) (T : fT) : List gK → Prop
  | [] => False
  | x :: r => asF b T x.1 x.2.1 ∨ nmF b T r
noncomputable def gkA (b : fB) (N m : Nat) (T : fT) (s : gS) : gR :=
  if 0 < s.2.2.1.length then (3, T.2.1, 0, g0)
  else if 8 ≤ s.1.length then (4, T.2.1, 0, g0)
  else if (tkF b N m T.2.2.1).1 ≠ 1 then (1, (tkF b N m T.2.2.1).2.1, 0, g0)
  else @ite gR (tdF b (tkF b N m T.2.2.1)) (Classical.propDecidable _) (1, (tkF b N m T.2.2.1).2.1, 0, g0)
  (@ite gR (nmF b (tkF b N m T.2.2.1) s.1) (Classical.propDecidable _) (3, (tkF b N m T.2.2.1).2.1, 0, g0)
  (nbG (tkF b N m (tkF b N m T.2.2.1).2.2.1) 1 50 (fun v1 p1 => nbG (tkF b N m p1) 0 99 (fun v2 p2 =>
    if sayF b (tkF b N m p2) (dw_sb 14) then nbG (tkF b N m (tkF b N m p2).2.2.1) 1 9 (fun v3 p3 => stG (tkF b N m p3) (fun p4 =>
      (0, 0, p4, ((tkF b N m T.2.2.1).2.1, (tkF b N m T.2.2.1).2.2.1 - (tkF b N m T.2.2.1).2.1, v1, v2, v3) :: s.1, s.2)))
    else stG (tkF b N m p2) (fun p3 => (0, 0, p3, ((tkF b N m T.2.2.1).2.1, (tkF b N m T.2.2.1).2.2.1 - (tkF b N m T.2.2.1).2.1, v1, v2, 0) :: s.1, s.2))))))
/-- the letters of a row's word name kinds told -/
abbrev lrF (b : fB) (q k K : Nat) : Prop := ∀ i, i < k → (b (q + i)).toInt < 97 + K
def gkR (b : fB) (N m : Nat) (T : fT) (s : gS) : gR :=
  if 12 ≤ s.2.2.1.length then (4, T.2.1, 0, g0)
  else if (tkF b N m T.2.2.1).1 ≠ 1 then (1, (tkF b N m T.2.2.1).2.1, 0, g0)
  else if 0 < s.2.2.1.length ∧ (tkF b N m T.2.2.1).2.2.1 ≠ (tkF b N m T.2.2.1).2.1 + s.2.1 then (2, (tkF b N m T.2.2.1).2.1, 0, g0)
  else if ¬ lrF b (tkF b N m T.2.2.1).2.1 ((tkF b N m T.2.2.1).2.2.1 - (tkF b N m T.2.2.1).2.1) s.1.length then (2, (tkF b N m T.2.2.1).2.1, 0, g0)
  else stG (tkF b N m (tkF b N m T.2.2.1).2.2.1) (fun p => (0, 0, p, s.1, (tkF b N m T.2.2.1).2.2.1 - (tkF b N m T.2.2.1).2.1, (tkF b N m T.2.2.1).2.1 :: s.2.2.1, s.2.2.2))
def gkS (b : fB) (N m : Nat) (T : fT) (s : gS) : gR :=
  if 12 ≤ s.2.2.2.1.length then (4, T.2.1, 0, g0)
  else nbG (tkF b N m T.2.2.1) 0 ((s.2.1 : Int) - 1) (fun v1 p1 => nbG (tkF b N m p1) 0 ((s.2.2.1.length : Int) - 1) (fun v2 p2 => nbG (tkF b N m p2) 0 9 (fun v3 p3 => nbG (tkF b N m p3) 1 100 (fun v4 p4 =>
    stG (tkF b N m p4) (fun p5 => (0, 0, p5, s.1, s.2.1, s.2.2.1, (v1, v2, v3, v4) :: s.2.2.2.1, s.2.2.2.2))))))
def gkW (b : fB) (N m : Nat) (T : fT) (s : gS) : gR :=
  if s.2.2.2.2 ≠ none then (3, T.2.1, 0, g0)
  else nbG (tkF b N m T.2.2.1) 0 999 (fun v1 p1 => stG (tkF b N m p1) (fun p2 => (0, 0, p2, s.1, s.2.1, s.2.2.1, s.2.2.2.1, some v1)))
noncomputable def gkF (b : fB) (N m : Nat) (T : fT) (s : gS) : gR :=
  if sayF b T (dw_sb 0) then gkA b N m T s else if sayF b T (dw_sb 15) then gkR b N m T s else if sayF b T (dw_sb 16) then gkS b N m T s else if sayF b T (dw_sb 17) then gkW b N m T s else (1, T.2.1, 0, g0)
/-- a text: a fault's kind, its place, how many lines, what it told -/
noncomputable def ggF (b : fB) (N m : Nat) : Nat → Nat → Nat → gS → Nat × Nat × Nat × gS
  | 0, _, _, _ => (9, 0, 0, g0)
  | f + 1, ln, p, s =>
    if (tkF b N m p).1 = 0 then (0, 0, ln, s)
    else if (gkF b N m (tkF b N m p) s).1 = 0 then ggF b N m f (ln + 1) (gkF b N m (tkF b N m p) s).2.2.1 (gkF b N m (tkF b N m p) s).2.2.2
    else ((gkF b N m (tkF b N m p) s).1, (gkF b N m (tkF b N m p) s).2.1, 0, g0)
/-- the class's reader of a GROUND, going on -/
def GRp (I0 I : Nat → Nat → Int32) (s : gS) : Prop :=
  (∀ a, a ≠ 1 → (a < 101 ∨ 122 < a) → I a = I0 a) ∧ (∀ j, j < 3 → I 1 j = I0 1 j) ∧
  ((I 102 0).toInt = s.2.1 ∧ (I 102 1).toInt = s.2.2.1.length ∧ (I 102 2).toInt = s.1.length ∧ (I 102 3).toInt = s.2.2.2.1.length ∧ I 102 4 = s.2.2.2.2.getD 500) ∧
  ((I 101 4).toInt = (if s.2.2.2.2 = none then 0 else 1)) ∧
  (∀ i, i < s.1.length → (I 108 i).toInt = (atF (0, 0, 0, 0, 0) s.1 i).1 ∧ (I 109 i).toInt = (atF (0, 0, 0, 0, 0) s.1 i).2.1 ∧ I 103 i = (atF (0, 0, 0, 0, 0) s.1 i).2.2.1 ∧ I 104 i = (atF (0, 0, 0, 0, 0) s.1 i).2.2.2.1 ∧ I 105 i = (atF (0, 0, 0, 0, 0) s.1 i).2.2.2.2) ∧
  (∀ y, y < s.2.2.1.length → ∀ x, x < s.2.1 → (I 106 (y * s.2.1 + x)).toInt = (tbC I0 (atF 0 s.2.2.1 y + x)).toInt - 97) ∧
  (∀ i, i < s.2.2.2.1.length → I (111 + i) 0 = (atF (0, 0, 0, 0) s.2.2.2.1 i).1 ∧ I (111 + i) 1 = (atF (0, 0, 0, 0) s.2.2.2.1 i).2.1 ∧ I (111 + i) 2 = (atF (0, 0, 0, 0) s.2.2.2.1 i).2.2.1 ∧ I (111 + i) 3 = (atF (0, 0, 0, 0) s.2.2.2.1 i).2.2.2)
/-- what a GROUND told keeps -/
def gOK (N : Nat) (s : gS) : Prop :=
  s.1.length ≤ 8 ∧ s.2.1 ≤ 12 ∧ s.2.2.1.length ≤ 12 ∧ s.2.2.2.1.length ≤ 12 ∧
  (∀ x, x ∈ s.1 → x.1 + x.2.1 ≤ N ∧ x.2.1 ≤ 12 ∧ 1 ≤ x.2.1) ∧
  ∀ v, v ∈ s.2.2.2.1 → (0 ≤ v.1.toInt ∧ v.1.toInt ≤ 11) ∧ (0 ≤ v.2.1.toInt ∧ v.2.1.toInt ≤ 11) ∧ (0 ≤ v.2.2.1.toInt ∧ v.2.2.1.toInt ≤ 9) ∧ 1 ≤ v.2.2.2.toInt ∧ v.2.2.2.toInt ≤ 100
set_option maxRecDepth 8000 in
theorem GR_tape {I0 I I1 : Nat → Nat → Int32} {s : gS} (h : GRp I0 I s) (hA : ∀ a, a ≠ 1 → I1 a = I a) (hF : ∀ j, j < 3 → I1 1 j = I 1 j) : GRp I0 I1 s := by
  obtain ⟨h1, h2, h3, h4, h5, h6, h7⟩ := h
  refine ⟨fun a e1 e2 => (hA a e1).trans (h1 a e1 e2), fun j hj => (hF j hj).trans (h2 j hj), ?_, ?_, fun i hi => ?_, fun y hy x hx => ?_, fun i hi => ?_⟩
  · rw [hA 102 (by decide)]; exact h3
  · rw [hA 101 (by decide)]; exact h4
  · rw [hA 108 (by decide), hA 109 (by decide), hA 103 (by decide), hA 104 (by decide), hA 105 (by decide)]; exact h5 i hi
  · rw [hA 106 (by decide)]; exact h6 y hy x hx
  · rw [hA (111 + i) (by omega)]; exact h7 i hi
set_option maxRecDepth 8000 in
theorem grT {I0 : Nat → Nat → Int32} {s : gS} : TapeInv I0 (fun I => GRp I0 I s) :=
  ⟨fun _ _ h hA hF => GR_tape h hA hF, fun _ h => ⟨h.2.1 1 (by decide), h.2.1 2 (by decide), h.1 2 (by decide) (by decide)⟩⟩
end
section
/-! ===== the class's reader of a GROUND: helpers ===== -/
section
variable {pr : Nat → dw_Op} {K : dw_K} {pc nx bc bs n : Nat} {ls : dw_L} {J : Nat → Nat → Int64} {I0 I : Nat → Nat → Int32} {Inv : (Nat → Nat → Int32) → Prop} {N m p : Nat}
set_option maxRecDepth 8000 in
theorem tw_step (ho : pr pc = o_callV 9 1 0 0 t_X9_takeWord nx) (hT : TapeInv I0 Inv) (hI : Inv I) (hN : (I0 1 1).toInt = N) (hN9 : N ≤ 940) (hm : (I0 1 2).toInt = m) (h3 : (I 1 3).toInt = p) (hp : p ≤ N)
    (k1 : (tkF (tbC I0) N m p).1 = 1 → ∀ I1 : Nat → Nat → Int32, Inv I1 → (I1 1 3).toInt = (tkF (tbC I0) N m p).2.2.1 → (I1 1 4).toInt = (tkF (tbC I0) N m p).2.1 → (I1 1 5).toInt = (tkF (tbC I0) N m p).1 → dw_ok pr nx bc bs ls [.int 1] (n, SH1, I1, J))
    (k0 : (tkF (tbC I0) N m p).1 ≠ 1 → ∀ I1 : Nat → Nat → Int32, Inv I1 → (I1 1 7).toInt = 1 → (I1 1 8).toInt = (tkF (tbC I0) N m p).2.1 → dw_ok pr nx bc bs ls [.int 0] (n, SH1, I1, J)) :
    dw_ok pr pc bc bs ls [.ref 1] (n, SH1, I, J) := by
  obtain ⟨e1, e2, e3⟩ := hT.2 I hI
  have hb : tbC I = tbC I0 := tbC_eq e1 e3
  refine q_callV (as := []) (rest := []) ho rfl sk_1 rfl (Nat.le_of_ble_eq_true rfl) ?_
  refine v_takeWord (p := p) (N := N) (m := m) (by rw [e1]; exact hN) hN9 (by rw [e2]; exact hm) h3 hp (fun I1 w hA hF hy hn => ?_)
  rw [hb] at hy hn
  have hI1 := hT.1 I I1 hI hA hF
  show dw_ok pr nx bc bs ls [.int w] (n, SH1, I1, J)
  by_cases e : (tkF (tbC I0) N m p).1 = 1
  · obtain ⟨rfl, g3, g4, g5, -⟩ := hy (st_e.mpr e)
    exact k1 e I1 hI1 g3 g4 g5
  · have s1 := st_1 e
    obtain ⟨rfl, g7, g8⟩ := hn (by rw [s1]; decide)
    rw [s1] at g7
    exact k0 e I1 hI1 g7 g8
set_option maxRecDepth 8000 in
theorem tk_step (ho : pr pc = o_callV 9 1 0 0 t_X9_take nx) (hT : TapeInv I0 Inv) (hI : Inv I) (hN : (I0 1 1).toInt = N) (hN9 : N ≤ 940) (hm : (I0 1 2).toInt = m) (h3 : (I 1 3).toInt = p) (hp : p ≤ N)
    (k1 : ∀ I1 : Nat → Nat → Int32, Inv I1 → (I1 1 3).toInt = (tkF (tbC I0) N m p).2.2.1 → (I1 1 4).toInt = (tkF (tbC I0) N m p).2.1 → (I1 1 5).toInt = (tkF (tbC I0) N m p).1 → dw_ok pr nx bc bs ls [] (n, SH1, I1, J)) :
    dw_ok pr pc bc bs ls [.ref 1] (n, SH1, I, J) := by
  obtain ⟨e1, e2, e3⟩ := hT.2 I hI
  have hb : tbC I = tbC I0 := tbC_eq e1 e3
  refine q_callV (as := []) (rest := []) ho rfl sk_1 rfl (Nat.le_of_ble_eq_true rfl) ?_
  refine v_take (p := p) (N := N) (m := m) (by rw [e1]; exact hN) hN9 (by rw [e2]; exact hm) h3 hp (fun I1 hA hF g3 g4 g5 _ => ?_)
  rw [hb] at g3 g4 g5
  exact k1 I1 (hT.1 I I1 hI hA (fun j hj => hF j (by omega) (by omega) (by omega) (by omega))) g3 g4 g5
set_option maxRecDepth 8000 in
/-- a fault, answered through a branch -/
theorem fb_step {c : Int32} (ho : pr pc = o_callV 9 2 0 0 t_X9_fail nx) (hT : TapeInv I0 Inv) (hI : Inv I)
    (k0 : ∀ I1 : Nat → Nat → Int32, Inv I1 → (I1 1 7).toInt = c.toInt → (I1 1 8).toInt = (I 1 4).toInt → dw_ok pr nx bc bs ls [.int 0] (n, SH1, I1, J)) :
    dw_ok pr pc bc bs ls [.int c, .ref 1] (n, SH1, I, J) := by
  refine q_callV (as := [.int c]) (rest := []) ho rfl sk_1 rfl (Nat.le_of_ble_eq_true rfl) ?_
  refine v_fail ?_
  refine k0 _ (hT.1 I _ hI (fun a ha => ?_) (fun j hj => ?_)) rfl rfl
  · exact (up_row ha).trans (up_row ha)
  · exact (up_fld (by omega)).trans (up_fld (by omega))
end
set_option maxRecDepth 8000 in
theorem at_mem {α : Type} {d : α} : ∀ {L : List α} {i : Nat}, i < L.length → atF d L i ∈ L
  | [], i, h => absurd h (Nat.not_lt_zero i)
  | x :: r, i, h => by
    by_cases e : i = r.length
    · rw [e, at_hd]; exact List.Mem.head _
    · rw [at_tl e]
      have h : i < r.length + 1 := h
      exact List.Mem.tail _ (at_mem (by omega))
set_option maxRecDepth 8000 in
theorem nm_iff {b : fB} {T : fT} : ∀ {L : List gK}, nmF b T L ↔ ∃ i, i < L.length ∧ asF b T (atF (0, 0, 0, 0, 0) L i).1 (atF (0, 0, 0, 0, 0) L i).2.1
  | [] => ⟨fun h => h.elim, fun ⟨i, h, _⟩ => absurd h (Nat.not_lt_zero i)⟩
  | x :: r => by
    constructor
    · intro h
      rcases h with h | h
      · exact ⟨r.length, Nat.lt_succ_self _, by rw [at_hd]; exact h⟩
      · obtain ⟨i, hi, h⟩ := nm_iff.mp h
        exact ⟨i, Nat.lt_succ_of_lt hi, by rw [at_tl (by omega)]; exact h⟩
    · rintro ⟨i, hi, h⟩
      have hi : i < r.length + 1 := hi
      by_cases e : i = r.length
      · rw [e, at_hd] at h; exact Or.inl h
      · rw [at_tl e] at h; exact Or.inr (nm_iff.mpr ⟨i, by omega, h⟩)
set_option maxRecDepth 8000 in
theorem sa_loop {n : Nat} {I : Nat → Nat → Int32} {J : Nat → Nat → Int64} {K : dw_K} {bc bs N q k : Nat} {T : fT} {pl ln : Int32} (hN : (I 1 1).toInt = N) (hN9 : N ≤ 940) (hp : pl.toInt = q) (hl : ln.toInt = k) (hq : q + k ≤ N)
    (h4 : (I 1 4).toInt = T.2.1) (hT1 : T.1 = 1) (hTl : T.2.2.1 = T.2.1 + k) (hTN : T.2.2.1 ≤ N)
    (hk : ∀ v : Int32, (v = 1 ∧ asF (tbC I) T q k) ∨ (v = 0 ∧ ¬ asF (tbC I) T q k) → K (some (.int v)) (n, SH1, I, J)) :
    ∀ (f i : Nat) (x : Int32), x.toInt = i → i ≤ k → k - i ≤ f → (∀ j, j < i → tbC I (T.2.1 + j) = tbC I (q + j)) → dw_ok (pr_X9_saysAsAt K) 20 bc bs [some (.ref 1), some (.int pl), some (.int ln), some (.int x)] [] (n, SH1, I, J) := by
  have c1 : (1 : Int32).toInt = 1 := rfl
  intro f
  induction f with
  | zero =>
    intro i x hx hi hf hall
    refine q_ild rfl rfl ?_
    refine q_ild rfl rfl ?_
    refine q_icmp (c := 3) rfl (by decide) (fun _ => ?_) (fun h => absurd (show x.toInt < ln.toInt from h) (by omega))
    refine q_ic rfl ?_
    exact q_zret rfl (Or.inr rfl) (hk 1 (Or.inl ⟨rfl, hT1, hTl, fun j hj => hall j (by omega)⟩))
  | succ f ih =>
    intro i x hx hi hf hall
    refine q_ild rfl rfl ?_
    refine q_ild rfl rfl ?_
    refine q_icmp (c := 3) rfl (by decide) (fun g => ?_) (fun g => ?_)
    · have g : ln.toInt ≤ x.toInt := g
      refine q_ic rfl ?_
      exact q_zret rfl (Or.inr rfl) (hk 1 (Or.inl ⟨rfl, hT1, hTl, fun j hj => hall j (by omega)⟩))
    have g : x.toInt < ln.toInt := g
    have t1 : (I 1 4 + x).toInt = (I 1 4).toInt + x.toInt := i_add (by omega) (by omega)
    have t3 : (pl + x).toInt = pl.toInt + x.toInt := i_add (by omega) (by omega)
    have t2 : (x + 1).toInt = x.toInt + 1 := by rw [i_add (by omega) (by omega), c1]
    refine q_ald rfl rfl ?_
    refine q_ald rfl rfl ?_
    refine q_geti rfl sk_1 ?_
    refine q_ild rfl rfl ?_
    refine q_add rfl ?_
    refine q_callV (as := [.int (I 1 4 + x)]) (rest := []) rfl rfl sk_1 rfl (Nat.le_of_ble_eq_true rfl) ?_
    refine v_byteAt (by omega) (by omega) ?_
    show dw_ok (pr_X9_saysAsAt K) 35 bc bs [some (.ref 1), some (.int pl), some (.int ln), some (.int x)] [.int (I 2 (I 1 4 + x).toInt.toNat)] (n, SH1, I, J)
    refine q_ald rfl rfl ?_
    refine q_ild rfl rfl ?_
    refine q_ild rfl rfl ?_
    refine q_add rfl ?_
    refine q_callV (as := [.int (pl + x)]) (rest := [.int (I 2 (I 1 4 + x).toInt.toNat)]) rfl rfl sk_1 rfl (Nat.le_of_ble_eq_true rfl) ?_
    refine v_byteAt (by omega) (by omega) ?_
    show dw_ok (pr_X9_saysAsAt K) 42 bc bs [some (.ref 1), some (.int pl), some (.int ln), some (.int x)] [.int (I 2 (pl + x).toInt.toNat), .int (I 2 (I 1 4 + x).toInt.toNat)] (n, SH1, I, J)
    have eb : I 2 (I 1 4 + x).toInt.toNat = tbC I (T.2.1 + i) := by rw [tbC_in (by omega), show (I 1 4 + x).toInt.toNat = T.2.1 + i by omega]
    have ew : I 2 (pl + x).toInt.toNat = tbC I (q + i) := by rw [tbC_in (by omega), show (pl + x).toInt.toNat = q + i by omega]
    rw [eb, ew]
    refine q_icmp (c := 0) rfl (by decide) (fun g2 => ?_) (fun g2 => ?_)
    · have g2 : tbC I (T.2.1 + i) = tbC I (q + i) := i_eq g2
      refine q_inc rfl rfl rfl ?_
      refine q_goto rfl ?_
      refine ih (i + 1) (x + 1) (by omega) (by omega) (by omega) (fun j hj => ?_)
      by_cases e : j = i
      · rw [e]; exact g2
      · exact hall j (by omega)
    · have g2 : (tbC I (T.2.1 + i)).toInt ≠ (tbC I (q + i)).toInt := g2
      refine q_ic rfl ?_
      exact q_zret rfl (Or.inl rfl) (hk 0 (Or.inr ⟨rfl, fun h => g2 (by rw [h.2.2 i (by omega)])⟩))
set_option maxRecDepth 8000 in
theorem v_saysAsAt {n : Nat} {I : Nat → Nat → Int32} {J : Nat → Nat → Int64} {K : dw_K} {N q k : Nat} {T : fT} {pl ln : Int32} (hN : (I 1 1).toInt = N) (hN9 : N ≤ 940) (hp : pl.toInt = q) (hl : ln.toInt = k) (hq : q + k ≤ N)
    (h3 : (I 1 3).toInt = T.2.2.1) (h4 : (I 1 4).toInt = T.2.1) (h5 : (I 1 5).toInt = T.1) (hTN : T.2.2.1 ≤ N) (hT2 : T.2.1 ≤ N)
    (hk : ∀ v : Int32, (v = 1 ∧ asF (tbC I) T q k) ∨ (v = 0 ∧ ¬ asF (tbC I) T q k) → K (some (.int v)) (n, SH1, I, J)) : t_X9_saysAsAt [.ref 1, .int pl, .int ln] (n, SH1, I, J) K := by
  have c1 : (1 : Int32).toInt = 1 := rfl
  have ts : (I 1 3 - I 1 4).toInt = (I 1 3).toInt - (I 1 4).toInt := i_sub (by omega) (by omega)
  refine q_body (Nat.le_of_ble_eq_true rfl) ?_
  refine q_ald rfl rfl ?_
  refine q_geti rfl sk_1 ?_
  refine q_ic rfl ?_
  refine q_icmp (c := 1) rfl (by decide) (fun g => ?_) (fun g => ?_)
  · have g : (I 1 5).toInt ≠ 1 := g
    refine q_ic rfl ?_
    exact q_zret rfl (Or.inl rfl) (hk 0 (Or.inr ⟨rfl, fun h => by have := h.1; omega⟩))
  have g : (I 1 5).toInt = 1 := g
  refine q_ald rfl rfl ?_
  refine q_callV (as := []) (rest := []) rfl rfl sk_1 rfl (Nat.le_of_ble_eq_true rfl) ?_
  refine v_tokenSize ?_
  show dw_ok (pr_X9_saysAsAt K) 12 0 0 [some (.ref 1), some (.int pl), some (.int ln), none] [.int (I 1 3 - I 1 4)] (n, SH1, I, J)
  refine q_ild rfl rfl ?_
  refine q_icmp (c := 0) rfl (by decide) (fun g2 => ?_) (fun g2 => ?_)
  · have g2 : (I 1 3 - I 1 4).toInt = ln.toInt := g2
    refine q_ic rfl ?_
    refine q_ist rfl rfl ?_
    exact sa_loop hN hN9 hp hl hq h4 (by omega) (by omega) hTN hk k 0 0 rfl (Nat.zero_le _) (Nat.le_refl _) (fun j hj => absurd hj (Nat.not_lt_zero j))
  · have g2 : (I 1 3 - I 1 4).toInt ≠ ln.toInt := g2
    refine q_ic rfl ?_
    exact q_zret rfl (Or.inl rfl) (hk 0 (Or.inr ⟨rfl, fun h => by have := h.2.1; omega⟩))
set_option maxRecDepth 8000 in
/-- told kinds stay where a row of theirs is written further on -/
theorem GR_k {I0 I : Nat → Nat → Int32} {s : gS} {row j : Nat} {v : Int32} (h : GRp I0 I s) (hr : row = 103 ∨ row = 104 ∨ row = 105 ∨ row = 108 ∨ row = 109) (hj : s.1.length ≤ j) : GRp I0 (dw_up I row j v) s := by
  obtain ⟨h1, h2, h3, h4, h5, h6, h7⟩ := h
  refine ⟨fun a e1 e2 => (up_row (by omega)).trans (h1 a e1 e2), fun i hi => ?_, ?_, ?_, fun i hi => ?_, fun y hy x hx => ?_, fun i hi => ?_⟩
  · rw [up_row (show 1 ≠ row by omega)]; exact h2 i hi
  · rw [up_row (show 102 ≠ row by omega)]; exact h3
  · rw [up_row (show 101 ≠ row by omega)]; exact h4
  · rw [up_ne (show 108 ≠ row ∨ i ≠ j by omega), up_ne (show 109 ≠ row ∨ i ≠ j by omega), up_ne (show 103 ≠ row ∨ i ≠ j by omega), up_ne (show 104 ≠ row ∨ i ≠ j by omega), up_ne (show 105 ≠ row ∨ i ≠ j by omega)]
    exact h5 i hi
  · rw [up_row (show 106 ≠ row by omega)]; exact h6 y hy x hx
  · rw [up_row (show 111 + i ≠ row by omega)]; exact h7 i hi
/-- a kind being told: its name, then what it holds, then what it gives and its gift -/
def GKp (I0 I : Nat → Nat → Int32) (s : gS) (x : gK) (c : Nat) : Prop :=
  GRp I0 I s ∧ ((I 108 s.1.length).toInt = x.1 ∧ (I 109 s.1.length).toInt = x.2.1) ∧ (1 ≤ c → I 103 s.1.length = x.2.2.1) ∧ (2 ≤ c → I 104 s.1.length = x.2.2.2.1 ∧ I 105 s.1.length = x.2.2.2.2)
set_option maxRecDepth 8000 in
theorem gkT {I0 : Nat → Nat → Int32} {s : gS} {x : gK} {c : Nat} : TapeInv I0 (fun I => GKp I0 I s x c) := by
  refine ⟨fun I I1 h hA hF => ?_, fun I h => grT.2 I h.1⟩
  obtain ⟨h1, h2, h3, h4⟩ := h
  refine ⟨GR_tape h1 hA hF, ?_, ?_, ?_⟩
  · rw [hA 108 (by decide), hA 109 (by decide)]; exact h2
  · rw [hA 103 (by decide)]; exact h3
  · rw [hA 104 (by decide), hA 105 (by decide)]; exact h4
set_option maxRecDepth 8000 in
theorem GK_done {I0 I : Nat → Nat → Int32} {s : gS} {x : gK} {v : Int32} (h : GKp I0 I s x 2) (hv : v.toInt = (s.1.length + 1 : Nat)) : GRp I0 (dw_up I 102 2 v) (x :: s.1, s.2) := by
  obtain ⟨⟨h1, h2, h3, h4, h5, h6, h7⟩, g1, g2, g3⟩ := h
  refine ⟨fun a e1 e2 => (up_row (by omega)).trans (h1 a e1 e2), fun i hi => ?_, ?_, ?_, fun i hi => ?_, fun y hy x hx => ?_, fun i hi => ?_⟩
  · rw [up_row (by decide)]; exact h2 i hi
  · exact ⟨(congrArg Int32.toInt (up_fld (by decide))).trans h3.1, (congrArg Int32.toInt (up_fld (by decide))).trans h3.2.1, (congrArg Int32.toInt up_same).trans hv, (congrArg Int32.toInt (up_fld (by decide))).trans h3.2.2.2.1, (up_fld (by decide)).trans h3.2.2.2.2⟩
  · rw [up_row (by decide)]; exact h4
  · have hi : i < s.1.length + 1 := hi
    rw [up_row (show 108 ≠ 102 by decide), up_row (show 109 ≠ 102 by decide), up_row (show 103 ≠ 102 by decide), up_row (show 104 ≠ 102 by decide), up_row (show 105 ≠ 102 by decide)]
    by_cases e : i = s.1.length
    · rw [e]
      show (I 108 s.1.length).toInt = (atF (0, 0, 0, 0, 0) (x :: s.1) s.1.length).1 ∧ (I 109 s.1.length).toInt = (atF (0, 0, 0, 0, 0) (x :: s.1) s.1.length).2.1 ∧ I 103 s.1.length = (atF (0, 0, 0, 0, 0) (x :: s.1) s.1.length).2.2.1 ∧ I 104 s.1.length = (atF (0, 0, 0, 0, 0) (x :: s.1) s.1.length).2.2.2.1 ∧ I 105 s.1.length = (atF (0, 0, 0, 0, 0) (x :: s.1) s.1.length).2.2.2.2
      rw [at_hd]
      exact ⟨g1.1, g1.2, g2 (by decide), (g3 (by decide)).1, (g3 (by decide)).2⟩
    · show (I 108 i).toInt = (atF (0, 0, 0, 0, 0) (x :: s.1) i).1 ∧ (I 109 i).toInt = (atF (0, 0, 0, 0, 0) (x :: s.1) i).2.1 ∧ I 103 i = (atF (0, 0, 0, 0, 0) (x :: s.1) i).2.2.1 ∧ I 104 i = (atF (0, 0, 0, 0, 0) (x :: s.1) i).2.2.2.1 ∧ I 105 i = (atF (0, 0, 0, 0, 0) (x :: s.1) i).2.2.2.2
      rw [at_tl e]
      exact h5 i (by omega)
  · rw [up_row (by decide)]; exact h6 y hy x hx
  · rw [up_row (show 111 + i ≠ 102 by omega)]; exact h7 i hi
set_option maxRecDepth 8000 in
theorem gs_ref {w : Nat} (hw : w < 12) : (SH1 110).2.2 w = some (111 + w) ∧ (SH1 (111 + w)).1 = 16 ∧ (SH1 (111 + w)).2.1 = 4 := by
  match w, hw with
  | 0, _ => exact ⟨sr_110_0, sk_111, sn_111⟩
  | 1, _ => exact ⟨sr_110_1, sk_112, sn_112⟩
  | 2, _ => exact ⟨sr_110_2, sk_113, sn_113⟩
  | 3, _ => exact ⟨sr_110_3, sk_114, sn_114⟩
  | 4, _ => exact ⟨sr_110_4, sk_115, sn_115⟩
  | 5, _ => exact ⟨sr_110_5, sk_116, sn_116⟩
  | 6, _ => exact ⟨sr_110_6, sk_117, sn_117⟩
  | 7, _ => exact ⟨sr_110_7, sk_118, sn_118⟩
  | 8, _ => exact ⟨sr_110_8, sk_119, sn_119⟩
  | 9, _ => exact ⟨sr_110_9, sk_120, sn_120⟩
  | 10, _ => exact ⟨sr_110_10, sk_121, sn_121⟩
  | 11, _ => exact ⟨sr_110_11, sk_122, sn_122⟩
  | k + 12, h => exact absurd h (by omega)
set_option maxRecDepth 8000 in
theorem idx_lt {y R x C : Nat} (hy : y < R) (hx : x < C) : y * C + x < R * C := by
  have h : (y + 1) * C ≤ R * C := Nat.mul_le_mul_right C hy
  rw [Nat.add_mul, Nat.one_mul] at h
  omega
set_option maxRecDepth 8000 in
theorem GR_106 {I0 I : Nat → Nat → Int32} {s : gS} {j : Nat} {v : Int32} (h : GRp I0 I s) (hj : s.2.2.1.length * s.2.1 ≤ j) : GRp I0 (dw_up I 106 j v) s := by
  obtain ⟨h1, h2, h3, h4, h5, h6, h7⟩ := h
  refine ⟨fun a e1 e2 => (up_row (by omega)).trans (h1 a e1 e2), fun i hi => ?_, ?_, ?_, fun i hi => ?_, fun y hy x hx => ?_, fun i hi => ?_⟩
  · rw [up_row (by decide)]; exact h2 i hi
  · rw [up_row (by decide)]; exact h3
  · rw [up_row (by decide)]; exact h4
  · rw [up_row (show 108 ≠ 106 by decide), up_row (show 109 ≠ 106 by decide), up_row (show 103 ≠ 106 by decide), up_row (show 104 ≠ 106 by decide), up_row (show 105 ≠ 106 by decide)]
    exact h5 i hi
  · have q := idx_lt hy hx
    rw [up_fld (by omega)]; exact h6 y hy x hx
  · rw [up_row (show 111 + i ≠ 106 by omega)]; exact h7 i hi
set_option maxRecDepth 8000 in
/-- a row told: its columns, its number -/
theorem GR_row {I0 I : Nat → Nat → Int32} {s : gS} {q Ln : Nat} {lt rv : Int32} (h : GRp I0 I s) (hlt : lt.toInt = Ln) (hrv : rv.toInt = (s.2.2.1.length + 1 : Nat)) (hC : s.2.2.1.length = 0 ∨ Ln = s.2.1)
    (hrow : ∀ x, x < Ln → (I 106 (s.2.2.1.length * Ln + x)).toInt = (tbC I0 (q + x)).toInt - 97) : GRp I0 (dw_up (dw_up I 102 0 lt) 102 1 rv) (s.1, Ln, q :: s.2.2.1, s.2.2.2) := by
  obtain ⟨h1, h2, h3, h4, h5, h6, h7⟩ := h
  have er : ∀ a, a ≠ 102 → dw_up (dw_up I 102 0 lt) 102 1 rv a = I a := fun a ha => (up_row ha).trans (up_row ha)
  have ef : ∀ j, j ≠ 0 → j ≠ 1 → dw_up (dw_up I 102 0 lt) 102 1 rv 102 j = I 102 j := fun j g0 g1 => (up_fld g1).trans (up_fld g0)
  have e0 : dw_up (dw_up I 102 0 lt) 102 1 rv 102 0 = lt := (up_fld (by decide)).trans up_same
  have e1 : dw_up (dw_up I 102 0 lt) 102 1 rv 102 1 = rv := up_same
  generalize dw_up (dw_up I 102 0 lt) 102 1 rv = I2 at er ef e0 e1 ⊢
  refine ⟨fun a g1 g2 => (er a (by omega)).trans (h1 a g1 g2), fun i hi => ?_, ?_, ?_, fun i hi => ?_, fun y hy x hx => ?_, fun i hi => ?_⟩
  · rw [er 1 (by decide)]; exact h2 i hi
  · rw [e0, e1, ef 2 (by decide) (by decide), ef 3 (by decide) (by decide), ef 4 (by decide) (by decide)]
    exact ⟨hlt, hrv, h3.2.2⟩
  · rw [er 101 (by decide)]; exact h4
  · rw [er 108 (by decide), er 109 (by decide), er 103 (by decide), er 104 (by decide), er 105 (by decide)]
    exact h5 i hi
  · rw [er 106 (by decide)]
    have hy : y < s.2.2.1.length + 1 := hy
    have hx : x < Ln := hx
    show (I 106 (y * Ln + x)).toInt = (tbC I0 (atF 0 (q :: s.2.2.1) y + x)).toInt - 97
    by_cases e : y = s.2.2.1.length
    · rw [e, at_hd]; exact hrow x hx
    · rw [at_tl e]
      rcases hC with g | g
      · omega
      · rw [g]; exact h6 y (by omega) x (by omega)
  · rw [er (111 + i) (by omega)]; exact h7 i hi
set_option maxRecDepth 8000 in
/-- shades told stay where a later one is written -/
theorem GR_s {I0 I : Nat → Nat → Int32} {s : gS} {w j : Nat} {v : Int32} (h : GRp I0 I s) (hw : s.2.2.2.1.length ≤ w) (hw12 : w < 12) : GRp I0 (dw_up I (111 + w) j v) s := by
  obtain ⟨h1, h2, h3, h4, h5, h6, h7⟩ := h
  have er : ∀ a, a ≠ 111 + w → dw_up I (111 + w) j v a = I a := fun a ha => up_row ha
  generalize dw_up I (111 + w) j v = I2 at er ⊢
  refine ⟨fun a g1 g2 => (er a (by omega)).trans (h1 a g1 g2), fun i hi => ?_, ?_, ?_, fun i hi => ?_, fun y hy x hx => ?_, fun i hi => ?_⟩
  · rw [er 1 (by omega)]; exact h2 i hi
  · rw [er 102 (by omega)]; exact h3
  · rw [er 101 (by omega)]; exact h4
  · rw [er 108 (by omega), er 109 (by omega), er 103 (by omega), er 104 (by omega), er 105 (by omega)]
    exact h5 i hi
  · rw [er 106 (by omega)]; exact h6 y hy x hx
  · rw [er (111 + i) (by omega)]; exact h7 i hi
/-- a shade being told -/
def GSp (I0 I : Nat → Nat → Int32) (s : gS) (v : Int32 × Int32 × Int32 × Int32) (c : Nat) : Prop :=
  GRp I0 I s ∧ (1 ≤ c → I (111 + s.2.2.2.1.length) 0 = v.1) ∧ (2 ≤ c → I (111 + s.2.2.2.1.length) 1 = v.2.1) ∧ (3 ≤ c → I (111 + s.2.2.2.1.length) 2 = v.2.2.1) ∧ (4 ≤ c → I (111 + s.2.2.2.1.length) 3 = v.2.2.2)
set_option maxRecDepth 8000 in
theorem gsT {I0 : Nat → Nat → Int32} {s : gS} {v : Int32 × Int32 × Int32 × Int32} {c : Nat} : TapeInv I0 (fun I => GSp I0 I s v c) := by
  refine ⟨fun I I1 h hA hF => ?_, fun I h => grT.2 I h.1⟩
  obtain ⟨h1, h2⟩ := h
  refine ⟨GR_tape h1 hA hF, ?_⟩
  rw [hA (111 + s.2.2.2.1.length) (by omega)]; exact h2
set_option maxRecDepth 8000 in
theorem GS_done {I0 I : Nat → Nat → Int32} {s : gS} {v : Int32 × Int32 × Int32 × Int32} {x : Int32} (h : GSp I0 I s v 4) (hx : x.toInt = (s.2.2.2.1.length + 1 : Nat)) : GRp I0 (dw_up I 102 3 x) (s.1, s.2.1, s.2.2.1, v :: s.2.2.2.1, s.2.2.2.2) := by
  obtain ⟨⟨h1, h2, h3, h4, h5, h6, h7⟩, g1, g2, g3, g4⟩ := h
  have er : ∀ a, a ≠ 102 → dw_up I 102 3 x a = I a := fun a ha => up_row ha
  have ef : ∀ j, j ≠ 3 → dw_up I 102 3 x 102 j = I 102 j := fun j g => up_fld g
  have e3 : dw_up I 102 3 x 102 3 = x := up_same
  generalize dw_up I 102 3 x = I2 at er ef e3 ⊢
  refine ⟨fun a g1 g2 => (er a (by omega)).trans (h1 a g1 g2), fun i hi => ?_, ?_, ?_, fun i hi => ?_, fun y hy x hx => ?_, fun i hi => ?_⟩
  · rw [er 1 (by decide)]; exact h2 i hi
  · rw [e3, ef 0 (by decide), ef 1 (by decide), ef 2 (by decide), ef 4 (by decide)]
    exact ⟨h3.1, h3.2.1, h3.2.2.1, hx, h3.2.2.2.2⟩
  · rw [er 101 (by decide)]; exact h4
  · rw [er 108 (by decide), er 109 (by decide), er 103 (by decide), er 104 (by decide), er 105 (by decide)]
    exact h5 i hi
  · rw [er 106 (by decide)]; exact h6 y hy x hx
  · have hi : i < s.2.2.2.1.length + 1 := hi
    rw [er (111 + i) (by omega)]
    show I (111 + i) 0 = (atF (0, 0, 0, 0) (v :: s.2.2.2.1) i).1 ∧ I (111 + i) 1 = (atF (0, 0, 0, 0) (v :: s.2.2.2.1) i).2.1 ∧ I (111 + i) 2 = (atF (0, 0, 0, 0) (v :: s.2.2.2.1) i).2.2.1 ∧ I (111 + i) 3 = (atF (0, 0, 0, 0) (v :: s.2.2.2.1) i).2.2.2
    by_cases e : i = s.2.2.2.1.length
    · rw [e, at_hd]; exact ⟨g1 (by decide), g2 (by decide), g3 (by decide), g4 (by decide)⟩
    · rw [at_tl e]; exact h7 i (by omega)
set_option maxRecDepth 8000 in
/-- the stock told -/
theorem GR_stock {I0 I : Nat → Nat → Int32} {s : gS} {v : Int32} (h : GRp I0 I s) : GRp I0 (dw_up (dw_up I 101 4 1) 102 4 v) (s.1, s.2.1, s.2.2.1, s.2.2.2.1, some v) := by
  obtain ⟨h1, h2, h3, h4, h5, h6, h7⟩ := h
  have er : ∀ a, a ≠ 102 → a ≠ 101 → dw_up (dw_up I 101 4 1) 102 4 v a = I a := fun a ha hb => (up_row ha).trans (up_row hb)
  have ef : ∀ j, j ≠ 4 → dw_up (dw_up I 101 4 1) 102 4 v 102 j = I 102 j := fun j g => (up_fld g).trans (congrFun (up_row (by decide)) j)
  have e4 : dw_up (dw_up I 101 4 1) 102 4 v 102 4 = v := up_same
  have e5 : dw_up (dw_up I 101 4 1) 102 4 v 101 4 = 1 := (congrFun (up_row (by decide)) 4).trans up_same
  generalize dw_up (dw_up I 101 4 1) 102 4 v = I2 at er ef e4 e5 ⊢
  refine ⟨fun a g1 g2 => (er a (by omega) (by omega)).trans (h1 a g1 g2), fun i hi => ?_, ?_, ?_, fun i hi => ?_, fun y hy x hx => ?_, fun i hi => ?_⟩
  · rw [er 1 (by decide) (by decide)]; exact h2 i hi
  · rw [e4, ef 0 (by decide), ef 1 (by decide), ef 2 (by decide), ef 3 (by decide)]
    exact ⟨h3.1, h3.2.1, h3.2.2.1, h3.2.2.2.1, rfl⟩
  · rw [e5]; rfl
  · rw [er 108 (by decide) (by decide), er 109 (by decide) (by decide), er 103 (by decide) (by decide), er 104 (by decide) (by decide), er 105 (by decide) (by decide)]
    exact h5 i hi
  · rw [er 106 (by decide) (by decide)]; exact h6 y hy x hx
  · rw [er (111 + i) (by omega) (by omega)]; exact h7 i hi
set_option maxRecDepth 8000 in
theorem gk_kind {b : fB} {N m : Nat} {T : fT} {s : gS} (h : (gkF b N m T s).1 = 0) : T.1 = 1 := by
  unfold gkF at h
  by_cases c1 : sayF b T (dw_sb 0)
  · exact c1.1
  rw [if_neg c1] at h
  by_cases c2 : sayF b T (dw_sb 15)
  · exact c2.1
  rw [if_neg c2] at h
  by_cases c3 : sayF b T (dw_sb 16)
  · exact c3.1
  rw [if_neg c3] at h
  by_cases c4 : sayF b T (dw_sb 17)
  · exact c4.1
  rw [if_neg c4] at h
  exact absurd h (nn rfl)
end
section
/-! ===== a GROUND's lines read by the class ===== -/
set_option maxRecDepth 8000 in
set_option maxHeartbeats 2000000 in
theorem v_saysTold {n : Nat} {I : Nat → Nat → Int32} {J : Nat → Nat → Int64} {K : dw_K} {T : fT} {N : Nat} (hN : (I 1 1).toInt = N) (hN9 : N ≤ 940) (h3 : (I 1 3).toInt = T.2.2.1) (h4 : (I 1 4).toInt = T.2.1) (h5 : (I 1 5).toInt = T.1) (hTN : T.2.2.1 ≤ N) (hT2 : T.2.1 ≤ N) (hk : ∀ w : Int32, (w = 1 ∧ tdF (tbC I) T) ∨ (w = 0 ∧ ¬ tdF (tbC I) T) → K (some (.int w)) (n, SH1, I, J)) : t_X9_saysTold [.ref 1] (n, SH1, I, J) K := by
  refine q_body (Nat.le_of_ble_eq_true rfl) ?_
  refine q_ald rfl rfl ?_
  refine q_str rfl ?_
  refine q_callV (as := [.ref 1000002]) (rest := []) rfl rfl sk_1 rfl (Nat.le_of_ble_eq_true rfl) ?_
  refine v_says (T := T) (w := dw_sb 1) hN hN9 ⟨by decide, by decide⟩ rfl (st_ok (by decide)).1 (st_ok (by decide)).2 h3 h4 h5 hTN hT2 (fun v vc => ?_)
  show dw_ok (pr_X9_saysTold K) 6 0 0 [some (.ref 1)] [.int v] (n, SH1, I, J)
  rcases vc with ⟨rfl, s1⟩ | ⟨rfl, s1⟩
  · skip
    refine q_if (c := 1) rfl (by decide) (fun y1 => ?_) (fun h => absurd (show (1 : Int) = 0 from h) (by decide))
    have y1 : (1 : Int) ≠ 0 := y1
    refine q_ic rfl ?_
    refine q_goto rfl ?_
    exact q_zret rfl (Or.inr rfl) (hk 1 (Or.inl ⟨rfl, (Or.inl s1)⟩))
  · skip
    refine q_if (c := 1) rfl (by decide) (fun h => absurd (show (0 : Int) ≠ 0 from h) (by decide)) (fun y2 => ?_)
    have y2 : (0 : Int) = 0 := y2
    refine q_ald rfl rfl ?_
    refine q_str rfl ?_
    refine q_callV (as := [.ref 1000003]) (rest := []) rfl rfl sk_1 rfl (Nat.le_of_ble_eq_true rfl) ?_
    refine v_says (T := T) (w := dw_sb 2) hN hN9 ⟨by decide, by decide⟩ rfl (st_ok (by decide)).1 (st_ok (by decide)).2 h3 h4 h5 hTN hT2 (fun v vc => ?_)
    show dw_ok (pr_X9_saysTold K) 15 0 0 [some (.ref 1)] [.int v] (n, SH1, I, J)
    rcases vc with ⟨rfl, s2⟩ | ⟨rfl, s2⟩
    · skip
      refine q_if (c := 1) rfl (by decide) (fun y3 => ?_) (fun h => absurd (show (1 : Int) = 0 from h) (by decide))
      have y3 : (1 : Int) ≠ 0 := y3
      refine q_ic rfl ?_
      refine q_goto rfl ?_
      exact q_zret rfl (Or.inr rfl) (hk 1 (Or.inl ⟨rfl, (Or.inr (Or.inl s2))⟩))
    · skip
      refine q_if (c := 1) rfl (by decide) (fun h => absurd (show (0 : Int) ≠ 0 from h) (by decide)) (fun y4 => ?_)
      have y4 : (0 : Int) = 0 := y4
      refine q_ald rfl rfl ?_
      refine q_str rfl ?_
      refine q_callV (as := [.ref 1000004]) (rest := []) rfl rfl sk_1 rfl (Nat.le_of_ble_eq_true rfl) ?_
      refine v_says (T := T) (w := dw_sb 3) hN hN9 ⟨by decide, by decide⟩ rfl (st_ok (by decide)).1 (st_ok (by decide)).2 h3 h4 h5 hTN hT2 (fun v vc => ?_)
      show dw_ok (pr_X9_saysTold K) 24 0 0 [some (.ref 1)] [.int v] (n, SH1, I, J)
      rcases vc with ⟨rfl, s3⟩ | ⟨rfl, s3⟩
      · skip
        refine q_if (c := 1) rfl (by decide) (fun y5 => ?_) (fun h => absurd (show (1 : Int) = 0 from h) (by decide))
        have y5 : (1 : Int) ≠ 0 := y5
        refine q_ic rfl ?_
        refine q_goto rfl ?_
        exact q_zret rfl (Or.inr rfl) (hk 1 (Or.inl ⟨rfl, (Or.inr (Or.inr (Or.inl s3)))⟩))
      · skip
        refine q_if (c := 1) rfl (by decide) (fun h => absurd (show (0 : Int) ≠ 0 from h) (by decide)) (fun y6 => ?_)
        have y6 : (0 : Int) = 0 := y6
        refine q_ald rfl rfl ?_
        refine q_str rfl ?_
        refine q_callV (as := [.ref 1000005]) (rest := []) rfl rfl sk_1 rfl (Nat.le_of_ble_eq_true rfl) ?_
        refine v_says (T := T) (w := dw_sb 4) hN hN9 ⟨by decide, by decide⟩ rfl (st_ok (by decide)).1 (st_ok (by decide)).2 h3 h4 h5 hTN hT2 (fun v vc => ?_)
        show dw_ok (pr_X9_saysTold K) 33 0 0 [some (.ref 1)] [.int v] (n, SH1, I, J)
        rcases vc with ⟨rfl, s4⟩ | ⟨rfl, s4⟩
        · skip
          refine q_if (c := 1) rfl (by decide) (fun y7 => ?_) (fun h => absurd (show (1 : Int) = 0 from h) (by decide))
          have y7 : (1 : Int) ≠ 0 := y7
          refine q_ic rfl ?_
          refine q_goto rfl ?_
          exact q_zret rfl (Or.inr rfl) (hk 1 (Or.inl ⟨rfl, (Or.inr (Or.inr (Or.inr (Or.inl s4))))⟩))
        · skip
          refine q_if (c := 1) rfl (by decide) (fun h => absurd (show (0 : Int) ≠ 0 from h) (by decide)) (fun y8 => ?_)
          have y8 : (0 : Int) = 0 := y8
          refine q_ald rfl rfl ?_
          refine q_str rfl ?_
          refine q_callV (as := [.ref 1000006]) (rest := []) rfl rfl sk_1 rfl (Nat.le_of_ble_eq_true rfl) ?_
          refine v_says (T := T) (w := dw_sb 5) hN hN9 ⟨by decide, by decide⟩ rfl (st_ok (by decide)).1 (st_ok (by decide)).2 h3 h4 h5 hTN hT2 (fun v vc => ?_)
          show dw_ok (pr_X9_saysTold K) 42 0 0 [some (.ref 1)] [.int v] (n, SH1, I, J)
          rcases vc with ⟨rfl, s5⟩ | ⟨rfl, s5⟩
          · skip
            refine q_if (c := 1) rfl (by decide) (fun y9 => ?_) (fun h => absurd (show (1 : Int) = 0 from h) (by decide))
            have y9 : (1 : Int) ≠ 0 := y9
            refine q_ic rfl ?_
            refine q_goto rfl ?_
            exact q_zret rfl (Or.inr rfl) (hk 1 (Or.inl ⟨rfl, (Or.inr (Or.inr (Or.inr (Or.inr (Or.inl s5)))))⟩))
          · skip
            refine q_if (c := 1) rfl (by decide) (fun h => absurd (show (0 : Int) ≠ 0 from h) (by decide)) (fun y10 => ?_)
            have y10 : (0 : Int) = 0 := y10
            refine q_ald rfl rfl ?_
            refine q_str rfl ?_
            refine q_callV (as := [.ref 1000007]) (rest := []) rfl rfl sk_1 rfl (Nat.le_of_ble_eq_true rfl) ?_
            refine v_says (T := T) (w := dw_sb 6) hN hN9 ⟨by decide, by decide⟩ rfl (st_ok (by decide)).1 (st_ok (by decide)).2 h3 h4 h5 hTN hT2 (fun v vc => ?_)
            show dw_ok (pr_X9_saysTold K) 51 0 0 [some (.ref 1)] [.int v] (n, SH1, I, J)
            rcases vc with ⟨rfl, s6⟩ | ⟨rfl, s6⟩
            · skip
              refine q_if (c := 1) rfl (by decide) (fun y11 => ?_) (fun h => absurd (show (1 : Int) = 0 from h) (by decide))
              have y11 : (1 : Int) ≠ 0 := y11
              refine q_ic rfl ?_
              refine q_goto rfl ?_
              exact q_zret rfl (Or.inr rfl) (hk 1 (Or.inl ⟨rfl, (Or.inr (Or.inr (Or.inr (Or.inr (Or.inr (Or.inl s6))))))⟩))
            · skip
              refine q_if (c := 1) rfl (by decide) (fun h => absurd (show (0 : Int) ≠ 0 from h) (by decide)) (fun y12 => ?_)
              have y12 : (0 : Int) = 0 := y12
              refine q_ald rfl rfl ?_
              refine q_str rfl ?_
              refine q_callV (as := [.ref 1000008]) (rest := []) rfl rfl sk_1 rfl (Nat.le_of_ble_eq_true rfl) ?_
              refine v_says (T := T) (w := dw_sb 7) hN hN9 ⟨by decide, by decide⟩ rfl (st_ok (by decide)).1 (st_ok (by decide)).2 h3 h4 h5 hTN hT2 (fun v vc => ?_)
              show dw_ok (pr_X9_saysTold K) 60 0 0 [some (.ref 1)] [.int v] (n, SH1, I, J)
              rcases vc with ⟨rfl, s7⟩ | ⟨rfl, s7⟩
              · skip
                refine q_if (c := 1) rfl (by decide) (fun y13 => ?_) (fun h => absurd (show (1 : Int) = 0 from h) (by decide))
                have y13 : (1 : Int) ≠ 0 := y13
                refine q_ic rfl ?_
                refine q_goto rfl ?_
                exact q_zret rfl (Or.inr rfl) (hk 1 (Or.inl ⟨rfl, (Or.inr (Or.inr (Or.inr (Or.inr (Or.inr (Or.inr (Or.inl s7)))))))⟩))
              · skip
                refine q_if (c := 1) rfl (by decide) (fun h => absurd (show (0 : Int) ≠ 0 from h) (by decide)) (fun y14 => ?_)
                have y14 : (0 : Int) = 0 := y14
                refine q_ald rfl rfl ?_
                refine q_str rfl ?_
                refine q_callV (as := [.ref 1000009]) (rest := []) rfl rfl sk_1 rfl (Nat.le_of_ble_eq_true rfl) ?_
                refine v_says (T := T) (w := dw_sb 8) hN hN9 ⟨by decide, by decide⟩ rfl (st_ok (by decide)).1 (st_ok (by decide)).2 h3 h4 h5 hTN hT2 (fun v vc => ?_)
                show dw_ok (pr_X9_saysTold K) 69 0 0 [some (.ref 1)] [.int v] (n, SH1, I, J)
                rcases vc with ⟨rfl, s8⟩ | ⟨rfl, s8⟩
                · skip
                  refine q_if (c := 1) rfl (by decide) (fun y15 => ?_) (fun h => absurd (show (1 : Int) = 0 from h) (by decide))
                  have y15 : (1 : Int) ≠ 0 := y15
                  refine q_ic rfl ?_
                  refine q_goto rfl ?_
                  exact q_zret rfl (Or.inr rfl) (hk 1 (Or.inl ⟨rfl, (Or.inr (Or.inr (Or.inr (Or.inr (Or.inr (Or.inr (Or.inr (Or.inl s8))))))))⟩))
                · skip
                  refine q_if (c := 1) rfl (by decide) (fun h => absurd (show (0 : Int) ≠ 0 from h) (by decide)) (fun y16 => ?_)
                  have y16 : (0 : Int) = 0 := y16
                  refine q_ald rfl rfl ?_
                  refine q_str rfl ?_
                  refine q_callV (as := [.ref 1000010]) (rest := []) rfl rfl sk_1 rfl (Nat.le_of_ble_eq_true rfl) ?_
                  refine v_says (T := T) (w := dw_sb 9) hN hN9 ⟨by decide, by decide⟩ rfl (st_ok (by decide)).1 (st_ok (by decide)).2 h3 h4 h5 hTN hT2 (fun v vc => ?_)
                  show dw_ok (pr_X9_saysTold K) 78 0 0 [some (.ref 1)] [.int v] (n, SH1, I, J)
                  rcases vc with ⟨rfl, s9⟩ | ⟨rfl, s9⟩
                  · skip
                    refine q_if (c := 1) rfl (by decide) (fun y17 => ?_) (fun h => absurd (show (1 : Int) = 0 from h) (by decide))
                    have y17 : (1 : Int) ≠ 0 := y17
                    refine q_ic rfl ?_
                    refine q_goto rfl ?_
                    exact q_zret rfl (Or.inr rfl) (hk 1 (Or.inl ⟨rfl, (Or.inr (Or.inr (Or.inr (Or.inr (Or.inr (Or.inr (Or.inr (Or.inr (Or.inl s9)))))))))⟩))
                  · skip
                    refine q_if (c := 1) rfl (by decide) (fun h => absurd (show (0 : Int) ≠ 0 from h) (by decide)) (fun y18 => ?_)
                    have y18 : (0 : Int) = 0 := y18
                    refine q_ald rfl rfl ?_
                    refine q_str rfl ?_
                    refine q_callV (as := [.ref 1000011]) (rest := []) rfl rfl sk_1 rfl (Nat.le_of_ble_eq_true rfl) ?_
                    refine v_says (T := T) (w := dw_sb 10) hN hN9 ⟨by decide, by decide⟩ rfl (st_ok (by decide)).1 (st_ok (by decide)).2 h3 h4 h5 hTN hT2 (fun v vc => ?_)
                    show dw_ok (pr_X9_saysTold K) 87 0 0 [some (.ref 1)] [.int v] (n, SH1, I, J)
                    rcases vc with ⟨rfl, s10⟩ | ⟨rfl, s10⟩
                    · skip
                      refine q_if (c := 1) rfl (by decide) (fun y19 => ?_) (fun h => absurd (show (1 : Int) = 0 from h) (by decide))
                      have y19 : (1 : Int) ≠ 0 := y19
                      refine q_ic rfl ?_
                      refine q_goto rfl ?_
                      exact q_zret rfl (Or.inr rfl) (hk 1 (Or.inl ⟨rfl, (Or.inr (Or.inr (Or.inr (Or.inr (Or.inr (Or.inr (Or.inr (Or.inr (Or.inr (Or.inl s10))))))))))⟩))
                    · skip
                      refine q_if (c := 1) rfl (by decide) (fun h => absurd (show (0 : Int) ≠ 0 from h) (by decide)) (fun y20 => ?_)
                      have y20 : (0 : Int) = 0 := y20
                      refine q_ald rfl rfl ?_
                      refine q_str rfl ?_
                      refine q_callV (as := [.ref 1000012]) (rest := []) rfl rfl sk_1 rfl (Nat.le_of_ble_eq_true rfl) ?_
                      refine v_says (T := T) (w := dw_sb 11) hN hN9 ⟨by decide, by decide⟩ rfl (st_ok (by decide)).1 (st_ok (by decide)).2 h3 h4 h5 hTN hT2 (fun v vc => ?_)
                      show dw_ok (pr_X9_saysTold K) 96 0 0 [some (.ref 1)] [.int v] (n, SH1, I, J)
                      rcases vc with ⟨rfl, s11⟩ | ⟨rfl, s11⟩
                      · skip
                        refine q_if (c := 1) rfl (by decide) (fun y21 => ?_) (fun h => absurd (show (1 : Int) = 0 from h) (by decide))
                        have y21 : (1 : Int) ≠ 0 := y21
                        refine q_ic rfl ?_
                        refine q_goto rfl ?_
                        exact q_zret rfl (Or.inr rfl) (hk 1 (Or.inl ⟨rfl, (Or.inr (Or.inr (Or.inr (Or.inr (Or.inr (Or.inr (Or.inr (Or.inr (Or.inr (Or.inr (Or.inl s11)))))))))))⟩))
                      · skip
                        refine q_if (c := 1) rfl (by decide) (fun h => absurd (show (0 : Int) ≠ 0 from h) (by decide)) (fun y22 => ?_)
                        have y22 : (0 : Int) = 0 := y22
                        refine q_ald rfl rfl ?_
                        refine q_str rfl ?_
                        refine q_callV (as := [.ref 1000013]) (rest := []) rfl rfl sk_1 rfl (Nat.le_of_ble_eq_true rfl) ?_
                        refine v_says (T := T) (w := dw_sb 12) hN hN9 ⟨by decide, by decide⟩ rfl (st_ok (by decide)).1 (st_ok (by decide)).2 h3 h4 h5 hTN hT2 (fun v vc => ?_)
                        show dw_ok (pr_X9_saysTold K) 105 0 0 [some (.ref 1)] [.int v] (n, SH1, I, J)
                        rcases vc with ⟨rfl, s12⟩ | ⟨rfl, s12⟩
                        · skip
                          refine q_if (c := 1) rfl (by decide) (fun y23 => ?_) (fun h => absurd (show (1 : Int) = 0 from h) (by decide))
                          have y23 : (1 : Int) ≠ 0 := y23
                          refine q_ic rfl ?_
                          refine q_goto rfl ?_
                          exact q_zret rfl (Or.inr rfl) (hk 1 (Or.inl ⟨rfl, (Or.inr (Or.inr (Or.inr (Or.inr (Or.inr (Or.inr (Or.inr (Or.inr (Or.inr (Or.inr (Or.inr (Or.inl s12))))))))))))⟩))
                        · skip
                          refine q_if (c := 1) rfl (by decide) (fun h => absurd (show (0 : Int) ≠ 0 from h) (by decide)) (fun y24 => ?_)
                          have y24 : (0 : Int) = 0 := y24
                          refine q_ald rfl rfl ?_
                          refine q_str rfl ?_
                          refine q_callV (as := [.ref 1000014]) (rest := []) rfl rfl sk_1 rfl (Nat.le_of_ble_eq_true rfl) ?_
                          refine v_says (T := T) (w := dw_sb 13) hN hN9 ⟨by decide, by decide⟩ rfl (st_ok (by decide)).1 (st_ok (by decide)).2 h3 h4 h5 hTN hT2 (fun v vc => ?_)
                          show dw_ok (pr_X9_saysTold K) 114 0 0 [some (.ref 1)] [.int v] (n, SH1, I, J)
                          rcases vc with ⟨rfl, s13⟩ | ⟨rfl, s13⟩
                          · skip
                            refine q_if (c := 0) rfl (by decide) (fun h => absurd (show (1 : Int) = 0 from h) (by decide)) (fun y25 => ?_)
                            have y25 : (1 : Int) ≠ 0 := y25
                            refine q_ic rfl ?_
                            refine q_goto rfl ?_
                            exact q_zret rfl (Or.inr rfl) (hk 1 (Or.inl ⟨rfl, (Or.inr (Or.inr (Or.inr (Or.inr (Or.inr (Or.inr (Or.inr (Or.inr (Or.inr (Or.inr (Or.inr (Or.inr s13))))))))))))⟩))
                          · skip
                            refine q_if (c := 0) rfl (by decide) (fun y26 => ?_) (fun h => absurd (show (0 : Int) ≠ 0 from h) (by decide))
                            have y26 : (0 : Int) = 0 := y26
                            refine q_ic rfl ?_
                            exact q_zret rfl (Or.inl rfl) (hk 0 (Or.inr ⟨rfl, fun h => by
                                unfold tdF at h
                                rcases h with h | h | h | h | h | h | h | h | h | h | h | h | h
                                all_goals first | exact s1 h | exact s2 h | exact s3 h | exact s4 h | exact s5 h | exact s6 h | exact s7 h | exact s8 h | exact s9 h | exact s10 h | exact s11 h | exact s12 h | exact s13 h⟩))
set_option maxRecDepth 8000 in
theorem nn_loop {n : Nat} {I0 I : Nat → Nat → Int32} {J : Nat → Nat → Int64} {K : dw_K} {bc bs N : Nat} {s : gS} {T : fT} {kv : Int32} (hR : GRp I0 I s) (hOK : gOK N s) (hN : (I0 1 1).toInt = N) (hN9 : N ≤ 940) (h3 : (I 1 3).toInt = T.2.2.1) (h4 : (I 1 4).toInt = T.2.1) (h5 : (I 1 5).toInt = T.1) (hTN : T.2.2.1 ≤ N) (hT2 : T.2.1 ≤ N) (hkv : kv.toInt = s.1.length)
    (hyes : nmF (tbC I0) T s.1 → ∀ I' : Nat → Nat → Int32, GRp I0 I' s → (I' 1 7).toInt = 3 → (I' 1 8).toInt = T.2.1 → K (some (.int 0)) (n, SH1, I', J))
    (hno : ¬ nmF (tbC I0) T s.1 → ∀ x : Int32, dw_ok (pr_X1_isNewName K) 57 bc bs [some (.ref 101), some (.ref 1), some (.int kv), some (.int x)] [] (n, SH1, I, J)) :
    ∀ (f i : Nat) (x : Int32), x.toInt = i → i ≤ s.1.length → s.1.length - i ≤ f → (∀ j, j < i → ¬ asF (tbC I0) T (atF (0, 0, 0, 0, 0) s.1 j).1 (atF (0, 0, 0, 0, 0) s.1 j).2.1) → dw_ok (pr_X1_isNewName K) 15 bc bs [some (.ref 101), some (.ref 1), some (.int kv), some (.int x)] [] (n, SH1, I, J) := by
  have c1 : (1 : Int32).toInt = 1 := rfl
  have c8 : (8 : Int32).toInt = 8 := rfl
  have e1 : I 1 1 = I0 1 1 := hR.2.1 1 (by decide)
  have hb : tbC I = tbC I0 := tbC_eq e1 (hR.1 2 (by decide) (by decide))
  have h8 := hOK.1
  intro f
  induction f with
  | zero =>
    intro i x hx hi hf hall
    refine q_ild rfl rfl ?_
    refine q_ild rfl rfl ?_
    refine q_icmp (c := 3) rfl (by decide) (fun _ => ?_) (fun h => absurd (show x.toInt < kv.toInt from h) (by omega))
    exact hno (fun h => by obtain ⟨j, hj, h⟩ := nm_iff.mp h; exact hall j (by omega) h) x
  | succ f ih =>
    intro i x hx hi hf hall
    refine q_ild rfl rfl ?_
    refine q_ild rfl rfl ?_
    refine q_icmp (c := 3) rfl (by decide) (fun g => ?_) (fun g => ?_)
    · have g : kv.toInt ≤ x.toInt := g
      exact hno (fun h => by obtain ⟨j, hj, h⟩ := nm_iff.mp h; exact hall j (by omega) h) x
    have g : x.toInt < kv.toInt := g
    have t2 : (x + 1).toInt = x.toInt + 1 := by rw [i_add (by omega) (by omega), c1]
    have hxn : x.toInt.toNat = i := by omega
    refine q_ild rfl rfl ?_
    refine q_ic rfl ?_
    refine q_icmp (c := 3) rfl (by decide) (fun h => absurd (show (8 : Int32).toInt ≤ x.toInt from h) (by omega)) (fun _ => ?_)
    refine q_ald rfl rfl ?_
    refine q_ald rfl rfl ?_
    refine q_getr rfl sk_101 sr_101_1 ?_
    refine q_ild rfl rfl ?_
    refine q_xald rfl (Or.inl rfl) sk_108 sn_108 (by omega) (show x.toInt < (8 : Nat) by omega) ?_
    refine q_ald rfl rfl ?_
    refine q_getr rfl sk_101 sr_101_2 ?_
    refine q_ild rfl rfl ?_
    refine q_xald rfl (Or.inl rfl) sk_109 sn_109 (by omega) (show x.toInt < (8 : Nat) by omega) ?_
    obtain ⟨n1, n2, -⟩ := hR.2.2.2.2.1 i (by omega)
    have hm := hOK.2.2.2.2.1 _ (at_mem (d := (0, 0, 0, 0, 0)) (show i < s.1.length by omega))
    refine q_callV (as := [.int (I 108 x.toInt.toNat), .int (I 109 x.toInt.toNat)]) (rest := []) rfl rfl sk_1 rfl (Nat.le_of_ble_eq_true rfl) ?_
    refine v_saysAsAt (by rw [e1]; exact hN) hN9 (by rw [hxn]; exact n1) (by rw [hxn]; exact n2) hm.1 h3 h4 h5 hTN hT2 (fun v vc => ?_)
    rw [hb] at vc
    show dw_ok (pr_X1_isNewName K) 42 bc bs [some (.ref 101), some (.ref 1), some (.int kv), some (.int x)] [.int v] (n, SH1, I, J)
    rcases vc with ⟨rfl, y⟩ | ⟨rfl, y⟩
    · refine q_if (c := 0) rfl (by decide) (fun h => absurd (show (1 : Int32).toInt = 0 from h) (by decide)) (fun _ => ?_)
      refine q_ald rfl rfl ?_
      refine q_ic rfl ?_
      refine fl_step (c := 3) rfl rfl (grT (s := s)) hR (fun I1 hI1 g7 g8 => ?_)
      exact hyes (nm_iff.mpr ⟨i, by omega, y⟩) I1 hI1 g7 (g8.trans h4)
    · refine q_if (c := 0) rfl (by decide) (fun _ => ?_) (fun h => absurd rfl h)
      refine q_inc rfl rfl rfl ?_
      refine q_goto rfl ?_
      refine ih (i + 1) (x + 1) (by omega) (by omega) (by omega) (fun j hj => ?_)
      by_cases e : j = i
      · rw [e]; exact y
      · exact hall j (by omega)
set_option maxRecDepth 8000 in
theorem v_isNewName {n : Nat} {I : Nat → Nat → Int32} {J : Nat → Nat → Int64} {K : dw_K} {I0 : Nat → Nat → Int32} {N : Nat} {s : gS} {T : fT} {kv : Int32} (hR : GRp I0 I s) (hOK : gOK N s) (hK8 : s.1.length < 8) (hN : (I0 1 1).toInt = N) (hN9 : N ≤ 940) (h3 : (I 1 3).toInt = T.2.2.1) (h4 : (I 1 4).toInt = T.2.1) (h5 : (I 1 5).toInt = T.1) (hTN : T.2.2.1 ≤ N) (hT2 : T.2.1 ≤ N) (hkv : kv.toInt = s.1.length)
    (k1 : tdF (tbC I0) T → ∀ I' : Nat → Nat → Int32, GRp I0 I' s → (I' 1 7).toInt = 1 → (I' 1 8).toInt = T.2.1 → K (some (.int 0)) (n, SH1, I', J))
    (k3 : ¬ tdF (tbC I0) T → nmF (tbC I0) T s.1 → ∀ I' : Nat → Nat → Int32, GRp I0 I' s → (I' 1 7).toInt = 3 → (I' 1 8).toInt = T.2.1 → K (some (.int 0)) (n, SH1, I', J))
    (k0 : ¬ tdF (tbC I0) T → ¬ nmF (tbC I0) T s.1 → ∀ I' : Nat → Nat → Int32, GRp I0 I' s → I' 1 = I 1 → (I' 108 s.1.length).toInt = T.2.1 → (I' 109 s.1.length).toInt = T.2.2.1 - T.2.1 → K (some (.int 1)) (n, SH1, I', J)) : t_X1_isNewName [.ref 101, .ref 1, .int kv] (n, SH1, I, J) K := by
  have c8 : (8 : Int32).toInt = 8 := rfl
  have c0 : (0 : Int32).toInt = 0 := rfl
  have e1 : I 1 1 = I0 1 1 := hR.2.1 1 (by decide)
  have hb : tbC I = tbC I0 := tbC_eq e1 (hR.1 2 (by decide) (by decide))
  have hkn : kv.toInt.toNat = s.1.length := by omega
  refine q_body (Nat.le_of_ble_eq_true rfl) ?_
  refine q_ald rfl rfl ?_
  refine q_callV (as := []) (rest := []) rfl rfl sk_1 rfl (Nat.le_of_ble_eq_true rfl) ?_
  refine v_saysTold (by rw [e1]; exact hN) hN9 h3 h4 h5 hTN hT2 (fun v vc => ?_)
  rw [hb] at vc
  show dw_ok (pr_X1_isNewName K) 4 0 0 [some (.ref 101), some (.ref 1), some (.int kv), none] [.int v] (n, SH1, I, J)
  rcases vc with ⟨rfl, y⟩ | ⟨rfl, y⟩
  · refine q_if (c := 0) rfl (by decide) (fun h => absurd (show (1 : Int32).toInt = 0 from h) (by decide)) (fun _ => ?_)
    refine q_ald rfl rfl ?_
    refine q_ic rfl ?_
    refine fl_step (c := 1) rfl rfl (grT (s := s)) hR (fun I1 hI1 g7 g8 => ?_)
    exact k1 y I1 hI1 g7 (g8.trans h4)
  · refine q_if (c := 0) rfl (by decide) (fun _ => ?_) (fun h => absurd rfl h)
    refine q_ic rfl ?_
    refine q_ist rfl rfl ?_
    refine nn_loop hR hOK hN hN9 h3 h4 h5 hTN hT2 hkv (fun hy => k3 y hy) (fun hy x => ?_) s.1.length 0 0 rfl (Nat.zero_le _) (Nat.le_refl _) (fun j hj => absurd hj (Nat.not_lt_zero j))
    refine q_ild rfl rfl ?_
    refine q_if (c := 2) rfl (by decide) (fun h => absurd (show kv.toInt < 0 from h) (by omega)) (fun _ => ?_)
    refine q_ild rfl rfl ?_
    refine q_ic rfl ?_
    refine q_icmp (c := 3) rfl (by decide) (fun h => absurd (show (8 : Int32).toInt ≤ kv.toInt from h) (by omega)) (fun _ => ?_)
    refine q_ald rfl rfl ?_
    refine q_getr rfl sk_101 sr_101_1 ?_
    refine q_ild rfl rfl ?_
    refine q_ald rfl rfl ?_
    refine q_geti rfl sk_1 ?_
    refine q_iast rfl sk_108 sn_108 (by omega) (show kv.toInt < (8 : Nat) by omega) ?_
    show dw_ok (pr_X1_isNewName K) 77 0 0 [some (.ref 101), some (.ref 1), some (.int kv), some (.int x)] [] (n, SH1, dw_up I 108 kv.toInt.toNat (I 1 4), J)
    refine q_ald rfl rfl ?_
    refine q_getr rfl sk_101 sr_101_2 ?_
    refine q_ild rfl rfl ?_
    refine q_ald rfl rfl ?_
    refine q_callV (as := []) (rest := [.int kv, .ref 109]) rfl rfl sk_1 rfl (Nat.le_of_ble_eq_true rfl) ?_
    refine v_tokenSize ?_
    show dw_ok (pr_X1_isNewName K) 86 0 0 [some (.ref 101), some (.ref 1), some (.int kv), some (.int x)] [.int (I 1 3 - I 1 4), .int kv, .ref 109] (n, SH1, dw_up I 108 kv.toInt.toNat (I 1 4), J)
    refine q_iast rfl sk_109 sn_109 (by omega) (show kv.toInt < (8 : Nat) by omega) ?_
    show dw_ok (pr_X1_isNewName K) 87 0 0 [some (.ref 101), some (.ref 1), some (.int kv), some (.int x)] [] (n, SH1, dw_up (dw_up I 108 kv.toInt.toNat (I 1 4)) 109 kv.toInt.toNat (I 1 3 - I 1 4), J)
    rw [hkn]
    refine q_ic rfl ?_
    have ts : (I 1 3 - I 1 4).toInt = (I 1 3).toInt - (I 1 4).toInt := i_sub (by omega) (by omega)
    refine q_zret rfl (Or.inr rfl) (k0 y hy _ (GR_k (GR_k hR (by decide) (Nat.le_refl _)) (by decide) (Nat.le_refl _)) ?_ ?_ ?_)
    · rw [up_row (show 1 ≠ 109 by decide), up_row (show 1 ≠ 108 by decide)]
    · rw [up_row (show 108 ≠ 109 by decide), up_same]; exact h4
    · rw [up_same, ts]; omega
set_option maxRecDepth 8000 in
theorem kd_end {n : Nat} {I0 I : Nat → Nat → Int32} {J : Nat → Nat → Int64} {K : dw_K} {bc bs N : Nat} {s : gS} {x : gK} {T : fT} {kv : Int32} (hG : GKp I0 I s x 2) (hK8 : s.1.length < 8) (hkv : kv.toInt = s.1.length) (h3 : (I 1 3).toInt = T.2.2.1) (h4 : (I 1 4).toInt = T.2.1) (h5 : (I 1 5).toInt = T.1)
    (k1 : T.1 = 3 → ∀ I' : Nat → Nat → Int32, GRp I0 I' (x :: s.1, s.2) → (I' 1 3).toInt = T.2.2.1 → K (some (.int 1)) (n, SH1, I', J))
    (k0 : T.1 ≠ 3 → ∀ I' : Nat → Nat → Int32, GRp I0 I' (x :: s.1, s.2) → (I' 1 7).toInt = 1 → (I' 1 8).toInt = T.2.1 → K (some (.int 0)) (n, SH1, I', J)) : dw_ok (pr_X1_readKind K) 158 bc bs [some (.ref 101), some (.ref 1), some (.int kv)] [] (n, SH1, I, J) := by
  have c1 : (1 : Int32).toInt = 1 := rfl
  have c3 : (3 : Int32).toInt = 3 := rfl
  have tk : (kv + 1).toInt = (s.1.length + 1 : Nat) := by rw [i_add (by omega) (by omega), c1]; omega
  have hR := GK_done (v := kv + 1) hG tk
  refine q_ald rfl rfl ?_
  refine q_getr rfl sk_101 sr_101_0 ?_
  refine q_ild rfl rfl ?_
  refine q_ic rfl ?_
  refine q_add rfl ?_
  refine q_puti rfl sk_102 ?_
  show dw_ok (pr_X1_readKind K) 168 bc bs [some (.ref 101), some (.ref 1), some (.int kv)] [] (n, SH1, dw_up I 102 2 (kv + 1), J)
  have r1 : dw_up I 102 2 (kv + 1) 1 = I 1 := up_row (by decide)
  rw [← r1] at h3 h4 h5
  generalize dw_up I 102 2 (kv + 1) = I2 at hR h3 h4 h5 ⊢
  refine q_ald rfl rfl ?_
  refine q_geti rfl sk_1 ?_
  refine q_ic rfl ?_
  refine q_icmp (c := 0) rfl (by decide) (fun g => ?_) (fun g => ?_)
  · have g : (I2 1 5).toInt = (3 : Int32).toInt := g
    refine q_ic rfl ?_
    refine q_goto rfl ?_
    exact q_zret rfl (Or.inr rfl) (k1 (by omega) I2 hR h3)
  · have g : (I2 1 5).toInt ≠ (3 : Int32).toInt := g
    refine q_ald rfl rfl ?_
    refine q_ic rfl ?_
    refine fb_step (c := 1) rfl (grT (s := (x :: s.1, s.2))) hR (fun I3 hI3 g7 g8 => ?_)
    refine q_if (c := 0) rfl (by decide) (fun _ => ?_) (fun h => absurd rfl h)
    refine q_ic rfl ?_
    exact q_zret rfl (Or.inl rfl) (k0 (by omega) I3 hI3 g7 (g8.trans h4))
set_option maxRecDepth 8000 in
set_option maxHeartbeats 2000000 in
theorem v_readKind {n : Nat} {I : Nat → Nat → Int32} {J : Nat → Nat → Int64} {K : dw_K} {I0 : Nat → Nat → Int32} {s : gS} {T : fT} {N m : Nat} (hR : GRp I0 I s) (hOK : gOK N s) (hN : (I0 1 1).toInt = N) (hN9 : N ≤ 940) (hm : (I0 1 2).toInt = m) (h3 : (I 1 3).toInt = T.2.2.1) (h4 : (I 1 4).toInt = T.2.1) (h5 : (I 1 5).toInt = T.1) (hTN : T.2.2.1 ≤ N) (hT2 : T.2.1 ≤ N)
    (hok : (gkA (tbC I0) N m T s).1 = 0 → ∀ I' : Nat → Nat → Int32, GRp I0 I' (gkA (tbC I0) N m T s).2.2.2 → (I' 1 3).toInt = (gkA (tbC I0) N m T s).2.2.1 → (gkA (tbC I0) N m T s).2.2.1 ≤ N → T.2.2.1 ≤ (gkA (tbC I0) N m T s).2.2.1 → gOK N (gkA (tbC I0) N m T s).2.2.2 → K (some (.int 1)) (n, SH1, I', J))
    (hno : (gkA (tbC I0) N m T s).1 ≠ 0 → ∀ (I' : Nat → Nat → Int32) (s' : gS), GRp I0 I' s' → (I' 1 7).toInt = (gkA (tbC I0) N m T s).1 → (I' 1 8).toInt = (gkA (tbC I0) N m T s).2.1 → K (some (.int 0)) (n, SH1, I', J)) : t_X1_readKind [.ref 101, .ref 1] (n, SH1, I, J) K := by
  have c8 : (8 : Int32).toInt = 8 := rfl
  have hk1 : (I 102 1).toInt = s.2.2.1.length := hR.2.2.1.2.1
  have hk2 : (I 102 2).toInt = s.1.length := hR.2.2.1.2.2.1
  refine q_body (Nat.le_of_ble_eq_true rfl) ?_
  refine q_ald rfl rfl ?_
  refine q_getr rfl sk_101 sr_101_0 ?_
  refine q_geti rfl sk_102 ?_
  refine q_ist rfl rfl ?_
  show dw_ok (pr_X1_readKind K) 8 0 0 [some (.ref 101), some (.ref 1), some (.int (I 102 2))] [] (n, SH1, I, J)
  refine q_ald rfl rfl ?_
  refine q_getr rfl sk_101 sr_101_0 ?_
  refine q_geti rfl sk_102 ?_
  refine q_if (c := 5) rfl (by decide) (fun g => ?_) (fun g => ?_)
  rotate_left
  · have g : 0 < (I 102 1).toInt := g
    have c0 : 0 < s.2.2.1.length := by omega
    refine q_ald rfl rfl ?_
    refine q_ic rfl ?_
    refine fl_step (c := 3) rfl rfl (grT (s := s)) hR (fun I1 hI1 g7 g8 => ?_)
    rw [h4] at g8
    have eR : (gkA (tbC I0) N m T s) = (3, T.2.1, 0, g0) := by simp only [gkA, nbG, stG, c0, ne_eq, not_false_eq_true, not_true_eq_false, ↓reduceIte]
    rw [eR] at hno
    exact hno (nn rfl) I1 _ hI1 g7 g8
  have g : (I 102 1).toInt ≤ 0 := g
  have c0 : ¬ (0 < s.2.2.1.length) := by omega
  refine q_ild rfl rfl ?_
  refine q_if (c := 2) rfl (by decide) (fun h => absurd (show (I 102 2).toInt < 0 from h) (by omega)) (fun _ => ?_)
  refine q_ild rfl rfl ?_
  refine q_ic rfl ?_
  refine q_icmp (c := 2) rfl (by decide) (fun g => ?_) (fun g => ?_)
  rotate_left
  · have g : (8 : Int32).toInt ≤ (I 102 2).toInt := g
    have d8 : 8 ≤ s.1.length := by omega
    refine q_ald rfl rfl ?_
    refine q_ic rfl ?_
    refine fl_step (c := 4) rfl rfl (grT (s := s)) hR (fun I1 hI1 g7 g8 => ?_)
    rw [h4] at g8
    have eR : (gkA (tbC I0) N m T s) = (4, T.2.1, 0, g0) := by simp only [gkA, nbG, stG, c0, d8, ne_eq, not_false_eq_true, not_true_eq_false, ↓reduceIte]
    rw [eR] at hno
    exact hno (nn rfl) I1 _ hI1 g7 g8
  have g : (I 102 2).toInt < (8 : Int32).toInt := g
  have d8 : ¬ (8 ≤ s.1.length) := by omega
  refine q_ald rfl rfl ?_
  obtain ⟨T1, hT1⟩ : ∃ t, t = tkF (tbC I0) N m T.2.2.1 := ⟨_, rfl⟩
  have hinT1 := tkF_in (b := tbC I0) (n := N) (m := m) (p := T.2.2.1) hTN
  refine tw_step (p := T.2.2.1) rfl (grT (s := s)) hR hN hN9 hm h3 hTN ?_ ?_
  rotate_left
  · intro e I1 hI1 g7 g8
    rw [← hT1] at e g8
    refine q_if (c := 0) rfl (by decide) (fun _ => ?_) (fun h => absurd rfl h)
    refine q_ic rfl ?_
    refine q_zret rfl (Or.inl rfl) ?_
    have eR : (gkA (tbC I0) N m T s) = (1, T1.2.1, 0, g0) := by simp only [gkA, nbG, stG, c0, d8, ← hT1, e, ne_eq, not_false_eq_true, not_true_eq_false, ↓reduceIte]
    rw [eR] at hno
    exact hno (nn rfl) I1 _ hI1 g7 g8
  intro eT1 I1 hI1 w3 w4 w5
  rw [← hT1] at eT1 w3 w4 w5 hinT1
  have hin1 := hinT1.2.2.1
  refine q_if (c := 0) rfl (by decide) (fun h => absurd (show (1 : Int32).toInt = 0 from h) (by decide)) (fun _ => ?_)
  refine q_ald rfl rfl ?_
  refine q_ald rfl rfl ?_
  refine q_ild rfl rfl ?_
  refine q_callV (as := [.ref 1, .int (I 102 2)]) (rest := []) rfl rfl sk_101 rfl (Nat.le_of_ble_eq_true rfl) ?_
  refine v_isNewName (T := T1) hI1 hOK (by omega) hN hN9 w3 w4 w5 hin1 hinT1.1 hk2 (fun y I2 hI2 g7 g8 => ?_) (fun y y2 I2 hI2 g7 g8 => ?_) (fun y y2 I2 hI2 e2 n1 n2 => ?_)
  · refine q_if (c := 0) rfl (by decide) (fun _ => ?_) (fun h => absurd rfl h)
    refine q_ic rfl ?_
    refine q_zret rfl (Or.inl rfl) ?_
    have eR : (gkA (tbC I0) N m T s) = (1, T1.2.1, 0, g0) := by simp only [gkA, nbG, stG, c0, d8, ← hT1, eT1, y, ne_eq, not_false_eq_true, not_true_eq_false, ↓reduceIte]
    rw [eR] at hno
    exact hno (nn rfl) I2 _ hI2 g7 g8
  · refine q_if (c := 0) rfl (by decide) (fun _ => ?_) (fun h => absurd rfl h)
    refine q_ic rfl ?_
    refine q_zret rfl (Or.inl rfl) ?_
    have eR : (gkA (tbC I0) N m T s) = (3, T1.2.1, 0, g0) := by simp only [gkA, nbG, stG, c0, d8, ← hT1, eT1, y, y2, ne_eq, not_false_eq_true, not_true_eq_false, ↓reduceIte]
    rw [eR] at hno
    exact hno (nn rfl) I2 _ hI2 g7 g8
  show dw_ok (pr_X1_readKind K) 53 0 0 [some (.ref 101), some (.ref 1), some (.int (I 102 2))] [.int 1] (n, SH1, I2, J)
  have hkv : (I 102 2).toInt = s.1.length := hk2
  have hkn : (I 102 2).toInt.toNat = s.1.length := by omega
  generalize I 102 2 = kv at hk2 hkv hkn g ⊢
  have hsz : T1.2.1 ≤ T1.2.2.1 := by have := hinT1.2.2.2 (Or.inl eT1); omega
  have hG0 : GKp I0 I2 s (T1.2.1, T1.2.2.1 - T1.2.1, 0, 0, 0) 0 := ⟨hI2, ⟨n1, by rw [n2]; show _ = ((T1.2.2.1 - T1.2.1 : Nat) : Int); omega⟩, fun h => absurd h (by decide), fun h => absurd h (by decide)⟩
  have v3 : (I2 1 3).toInt = T1.2.2.1 := by rw [e2]; exact w3
  refine q_if (c := 0) rfl (by decide) (fun h => absurd (show (1 : Int32).toInt = 0 from h) (by decide)) (fun _ => ?_)
  refine q_ald rfl rfl ?_
  refine q_ic rfl ?_
  refine q_ic rfl ?_
  obtain ⟨T2, hT2⟩ : ∃ t, t = tkF (tbC I0) N m T1.2.2.1 := ⟨_, rfl⟩
  have hinT2 := tkF_in (b := tbC I0) (n := N) (m := m) (p := T1.2.2.1) hin1
  refine tn_step (p := T1.2.2.1) rfl rfl rfl rfl gkT hG0 hN hN9 hm v3 hin1 ?_ ?_
  rotate_left
  · intro e I9 hI9 g7 g8
    rw [← hT2] at e g7 g8
    have e : nbF T2 1 50 ≠ 0 := e
    have eR : (gkA (tbC I0) N m T s) = (nbF T2 1 50, T2.2.1, 0, g0) := by simp only [gkA, nbG, stG, c0, d8, ← hT1, eT1, y, y2, ← hT2, e, ne_eq, not_false_eq_true, not_true_eq_false, ↓reduceIte]
    rw [eR] at hno
    exact hno e I9 _ hI9.1 g7 g8
  intro eT2 I3 hG3 gT23 gT26
  rw [← hT2] at eT2 gT23 gT26 hinT2
  have eT2 : nbF T2 1 50 = 0 := eT2
  refine q_ald rfl rfl ?_
  refine q_getr rfl sk_101 sr_101_0 ?_
  refine q_getr rfl sk_102 sr_102_5 ?_
  refine q_ild rfl rfl ?_
  refine q_ald rfl rfl ?_
  refine q_geti rfl sk_1 ?_
  refine q_iast rfl sk_103 sn_103 (by omega) (show kv.toInt < (8 : Nat) by omega) ?_
  show dw_ok (pr_X1_readKind K) 81 0 0 [some (.ref 101), some (.ref 1), some (.int kv)] [] (n, SH1, dw_up I3 103 kv.toInt.toNat (I3 1 6), J)
  rw [hkn, gT26]
  have hG4 : GKp I0 (dw_up I3 103 s.1.length T2.2.2.2) s (T1.2.1, T1.2.2.1 - T1.2.1, T2.2.2.2, 0, 0) 1 := ⟨GR_k hG3.1 (by decide) (Nat.le_refl _), hG3.2.1, fun _ => up_same, fun h => absurd h (by decide)⟩
  have v3 : (dw_up I3 103 s.1.length T2.2.2.2 1 3).toInt = T2.2.2.1 := gT23
  generalize dw_up I3 103 s.1.length T2.2.2.2 = I4 at hG4 v3 ⊢
  refine q_ald rfl rfl ?_
  refine q_ic rfl ?_
  refine q_ic rfl ?_
  obtain ⟨T3, hT3⟩ : ∃ t, t = tkF (tbC I0) N m T2.2.2.1 := ⟨_, rfl⟩
  have hinT3 := tkF_in (b := tbC I0) (n := N) (m := m) (p := T2.2.2.1) hinT2.2.2.1
  refine tn_step (p := T2.2.2.1) rfl rfl rfl rfl gkT hG4 hN hN9 hm v3 hinT2.2.2.1 ?_ ?_
  rotate_left
  · intro e I9 hI9 g7 g8
    rw [← hT3] at e g7 g8
    have e : nbF T3 0 99 ≠ 0 := e
    have eR : (gkA (tbC I0) N m T s) = (nbF T3 0 99, T3.2.1, 0, g0) := by simp only [gkA, nbG, stG, c0, d8, ← hT1, eT1, y, y2, ← hT2, eT2, ← hT3, e, ne_eq, not_false_eq_true, not_true_eq_false, ↓reduceIte]
    rw [eR] at hno
    exact hno e I9 _ hI9.1 g7 g8
  intro eT3 I5 hG5 gT33 gT36
  rw [← hT3] at eT3 gT33 gT36 hinT3
  have eT3 : nbF T3 0 99 = 0 := eT3
  refine q_ald rfl rfl ?_
  refine q_getr rfl sk_101 sr_101_0 ?_
  refine q_getr rfl sk_102 sr_102_6 ?_
  refine q_ild rfl rfl ?_
  refine q_ald rfl rfl ?_
  refine q_geti rfl sk_1 ?_
  refine q_iast rfl sk_104 sn_104 (by omega) (show kv.toInt < (8 : Nat) by omega) ?_
  refine q_ald rfl rfl ?_
  refine q_getr rfl sk_101 sr_101_0 ?_
  refine q_getr rfl sk_102 sr_102_7 ?_
  refine q_ild rfl rfl ?_
  refine q_ic rfl ?_
  refine q_iast rfl sk_105 sn_105 (by omega) (show kv.toInt < (8 : Nat) by omega) ?_
  show dw_ok (pr_X1_readKind K) 116 0 0 [some (.ref 101), some (.ref 1), some (.int kv)] [] (n, SH1, dw_up (dw_up I5 104 kv.toInt.toNat (I5 1 6)) 105 kv.toInt.toNat 0, J)
  rw [hkn, gT36]
  have hG6 : GKp I0 (dw_up (dw_up I5 104 s.1.length T3.2.2.2) 105 s.1.length 0) s (T1.2.1, T1.2.2.1 - T1.2.1, T2.2.2.2, T3.2.2.2, 0) 2 := ⟨GR_k (GR_k hG5.1 (by decide) (Nat.le_refl _)) (by decide) (Nat.le_refl _), hG5.2.1, fun _ => hG5.2.2.1 (by decide), fun _ => ⟨(up_ne (Or.inl (by decide))).trans up_same, up_same⟩⟩
  have v3 : (dw_up (dw_up I5 104 s.1.length T3.2.2.2) 105 s.1.length 0 1 3).toInt = T3.2.2.1 := gT33
  generalize dw_up (dw_up I5 104 s.1.length T3.2.2.2) 105 s.1.length 0 = I6 at hG6 v3 ⊢
  refine q_ald rfl rfl ?_
  obtain ⟨T4, hT4⟩ : ∃ t, t = tkF (tbC I0) N m T3.2.2.1 := ⟨_, rfl⟩
  have hinT4 := tkF_in (b := tbC I0) (n := N) (m := m) (p := T3.2.2.1) hinT3.2.2.1
  refine tk_step (p := T3.2.2.1) rfl gkT hG6 hN hN9 hm v3 hinT3.2.2.1 (fun I7 hG7 u3 u4 u5 => ?_)
  rw [← hT4] at u3 u4 u5 hinT4
  refine q_ald rfl rfl ?_
  refine q_str rfl ?_
  refine q_callV (as := [.ref 1000015]) (rest := []) rfl rfl sk_1 rfl (Nat.le_of_ble_eq_true rfl) ?_
  have e71 : I7 1 1 = I0 1 1 := hG7.1.2.1 1 (by decide)
  have hb7 : tbC I7 = tbC I0 := tbC_eq e71 (hG7.1.1 2 (by decide) (by decide))
  refine v_says (T := T4) (w := dw_sb 14) (by rw [e71]; exact hN) hN9 ⟨by decide, by decide⟩ rfl (st_ok (by decide)).1 (st_ok (by decide)).2 u3 u4 u5 hinT4.2.2.1 hinT4.1 (fun v vc => ?_)
  rw [hb7] at vc
  show dw_ok (pr_X1_readKind K) 126 0 0 [some (.ref 101), some (.ref 1), some (.int kv)] [.int v] (n, SH1, I7, J)
  have hmem : ∀ (a b c : Int32), gOK N ((T1.2.1, T1.2.2.1 - T1.2.1, a, b, c) :: s.1, s.2) := by
    intro a b c
    have q := hinT1.2.2.2 (Or.inl eT1)
    have q12 := (tk_word (b := tbC I0) (n := N) (m := m) (p := T.2.2.1) (by rw [← hT1]; exact eT1) hTN).2.1
    rw [← hT1] at q12
    refine ⟨show s.1.length + 1 ≤ 8 by omega, hOK.2.1, hOK.2.2.1, hOK.2.2.2.1, fun z hz => ?_, hOK.2.2.2.2.2⟩
    rcases List.mem_cons.mp hz with rfl | hz
    · exact ⟨show T1.2.1 + (T1.2.2.1 - T1.2.1) ≤ N by omega, show T1.2.2.1 - T1.2.1 ≤ 12 by omega, show 1 ≤ T1.2.2.1 - T1.2.1 by omega⟩
    · exact hOK.2.2.2.2.1 z hz
  rcases vc with ⟨rfl, sy⟩ | ⟨rfl, sy⟩
  rotate_left
  · refine q_if (c := 0) rfl (by decide) (fun _ => ?_) (fun h => absurd rfl h)
    refine kd_end (N := N) (T := T4) hG7 (by omega) hkv u3 u4 u5 (fun e I8 hI8 g3 => ?_) (fun e I8 hI8 g7 g8 => ?_)
    · have eR : (gkA (tbC I0) N m T s) = (0, 0, T4.2.2.1, (T1.2.1, T1.2.2.1 - T1.2.1, T2.2.2.2, T3.2.2.2, 0) :: s.1, s.2) := by simp only [gkA, nbG, stG, c0, d8, ← hT1, eT1, y, y2, ← hT2, eT2, ← hT3, eT3, ← hT4, if_neg sy, e, ne_eq, not_false_eq_true, not_true_eq_false, ↓reduceIte]
      rw [eR] at hok
      exact hok rfl I8 hI8 g3 hinT4.2.2.1 (show T.2.2.1 ≤ T4.2.2.1 by omega) (hmem _ _ _)
    · skip
      have eR : (gkA (tbC I0) N m T s) = (1, T4.2.1, 0, g0) := by simp only [gkA, nbG, stG, c0, d8, ← hT1, eT1, y, y2, ← hT2, eT2, ← hT3, eT3, ← hT4, if_neg sy, e, ne_eq, not_false_eq_true, not_true_eq_false, ↓reduceIte]
      rw [eR] at hno
      exact hno (nn rfl) I8 _ hI8 g7 g8
  refine q_if (c := 0) rfl (by decide) (fun h => absurd (show (1 : Int32).toInt = 0 from h) (by decide)) (fun _ => ?_)
  refine q_ald rfl rfl ?_
  refine q_ic rfl ?_
  refine q_ic rfl ?_
  obtain ⟨T5, hT5⟩ : ∃ t, t = tkF (tbC I0) N m T4.2.2.1 := ⟨_, rfl⟩
  have hinT5 := tkF_in (b := tbC I0) (n := N) (m := m) (p := T4.2.2.1) hinT4.2.2.1
  refine tn_step (p := T4.2.2.1) rfl rfl rfl rfl gkT hG7 hN hN9 hm u3 hinT4.2.2.1 ?_ ?_
  rotate_left
  · intro e I9 hI9 g7 g8
    rw [← hT5] at e g7 g8
    have e : nbF T5 1 9 ≠ 0 := e
    have eR : (gkA (tbC I0) N m T s) = (nbF T5 1 9, T5.2.1, 0, g0) := by simp only [gkA, nbG, stG, c0, d8, ← hT1, eT1, y, y2, ← hT2, eT2, ← hT3, eT3, ← hT4, if_pos sy, ← hT5, e, ne_eq, not_false_eq_true, not_true_eq_false, ↓reduceIte]
    rw [eR] at hno
    exact hno e I9 _ hI9.1 g7 g8
  intro eT5 I8 hG8 gT53 gT56
  rw [← hT5] at eT5 gT53 gT56 hinT5
  have eT5 : nbF T5 1 9 = 0 := eT5
  refine q_ald rfl rfl ?_
  refine q_getr rfl sk_101 sr_101_0 ?_
  refine q_getr rfl sk_102 sr_102_7 ?_
  refine q_ild rfl rfl ?_
  refine q_ald rfl rfl ?_
  refine q_geti rfl sk_1 ?_
  refine q_iast rfl sk_105 sn_105 (by omega) (show kv.toInt < (8 : Nat) by omega) ?_
  show dw_ok (pr_X1_readKind K) 154 0 0 [some (.ref 101), some (.ref 1), some (.int kv)] [] (n, SH1, dw_up I8 105 kv.toInt.toNat (I8 1 6), J)
  rw [hkn, gT56]
  have hG9 : GKp I0 (dw_up I8 105 s.1.length T5.2.2.2) s (T1.2.1, T1.2.2.1 - T1.2.1, T2.2.2.2, T3.2.2.2, T5.2.2.2) 2 := ⟨GR_k hG8.1 (by decide) (Nat.le_refl _), hG8.2.1, fun _ => hG8.2.2.1 (by decide), fun _ => ⟨(hG8.2.2.2 (by decide)).1, up_same⟩⟩
  have v3 : (dw_up I8 105 s.1.length T5.2.2.2 1 3).toInt = T5.2.2.1 := gT53
  generalize dw_up I8 105 s.1.length T5.2.2.2 = I9 at hG9 v3 ⊢
  refine q_ald rfl rfl ?_
  obtain ⟨T6, hT6⟩ : ∃ t, t = tkF (tbC I0) N m T5.2.2.1 := ⟨_, rfl⟩
  have hinT6 := tkF_in (b := tbC I0) (n := N) (m := m) (p := T5.2.2.1) hinT5.2.2.1
  refine tk_step (p := T5.2.2.1) rfl gkT hG9 hN hN9 hm v3 hinT5.2.2.1 (fun Ia hGa u3 u4 u5 => ?_)
  rw [← hT6] at u3 u4 u5 hinT6
  refine kd_end (N := N) (T := T6) hGa (by omega) hkv u3 u4 u5 (fun e Ib hIb g3 => ?_) (fun e Ib hIb g7 g8 => ?_)
  · have eR : (gkA (tbC I0) N m T s) = (0, 0, T6.2.2.1, (T1.2.1, T1.2.2.1 - T1.2.1, T2.2.2.2, T3.2.2.2, T5.2.2.2) :: s.1, s.2) := by simp only [gkA, nbG, stG, c0, d8, ← hT1, eT1, y, y2, ← hT2, eT2, ← hT3, eT3, ← hT4, if_pos sy, ← hT5, eT5, ← hT6, e, ne_eq, not_false_eq_true, not_true_eq_false, ↓reduceIte]
    rw [eR] at hok
    exact hok rfl Ib hIb g3 hinT6.2.2.1 (show T.2.2.1 ≤ T6.2.2.1 by omega) (hmem _ _ _)
  · skip
    have eR : (gkA (tbC I0) N m T s) = (1, T6.2.1, 0, g0) := by simp only [gkA, nbG, stG, c0, d8, ← hT1, eT1, y, y2, ← hT2, eT2, ← hT3, eT3, ← hT4, if_pos sy, ← hT5, eT5, ← hT6, e, ne_eq, not_false_eq_true, not_true_eq_false, ↓reduceIte]
    rw [eR] at hno
    exact hno (nn rfl) Ib _ hIb g7 g8
set_option maxRecDepth 8000 in
theorem rr_loop {n : Nat} {I0 I1 : Nat → Nat → Int32} {J : Nat → Nat → Int64} {K : dw_K} {bc bs N q Ln : Nat} {s : gS} {lt fs : Int32} (hOK : gOK N s) (hN : (I0 1 1).toInt = N) (hN9 : N ≤ 940) (hR1 : GRp I0 I1 s) (h4 : (I1 1 4).toInt = q) (hq : q + Ln ≤ N) (hL : Ln ≤ 12) (hlet : ∀ i, i < Ln → f_sm (tbC I0 (q + i)))
    (hlt : lt.toInt = Ln) (hfs : fs.toInt = (s.2.2.1.length * Ln : Nat)) (h144 : s.2.2.1.length * Ln + Ln ≤ 144) (hRC : s.2.2.1.length * s.2.1 ≤ s.2.2.1.length * Ln)
    (hbad : ¬ lrF (tbC I0) q Ln s.1.length → ∀ I' : Nat → Nat → Int32, GRp I0 I' s → (I' 1 7).toInt = 2 → (I' 1 8).toInt = q → K (some (.int 0)) (n, SH1, I', J))
    (hgood : lrF (tbC I0) q Ln s.1.length → ∀ (I' : Nat → Nat → Int32) (x : Int32) (s5 : Option Value), GRp I0 I' s → I' 1 = I1 1 → (∀ j, j < Ln → (I' 106 (s.2.2.1.length * Ln + j)).toInt = (tbC I0 (q + j)).toInt - 97) → dw_ok (pr_X1_readRow K) 147 bc bs [some (.ref 101), some (.ref 1), some (.int lt), some (.int fs), some (.int x), s5] [] (n, SH1, I', J)) :
    ∀ (f i : Nat) (x : Int32) (s5 : Option Value) (I : Nat → Nat → Int32), x.toInt = i → i ≤ Ln → Ln - i ≤ f → GRp I0 I s → I 1 = I1 1 → (∀ j, j < i → (I 106 (s.2.2.1.length * Ln + j)).toInt = (tbC I0 (q + j)).toInt - 97) → (∀ j, j < i → (tbC I0 (q + j)).toInt < 97 + s.1.length) → dw_ok (pr_X1_readRow K) 72 bc bs [some (.ref 101), some (.ref 1), some (.int lt), some (.int fs), some (.int x), s5] [] (n, SH1, I, J) := by
  have c1 : (1 : Int32).toInt = 1 := rfl
  have c97 : (97 : Int32).toInt = 97 := rfl
  have c144 : (144 : Int32).toInt = 144 := rfl
  have hK8 := hOK.1
  intro f
  induction f with
  | zero =>
    intro i x s5 I hx hi hf hR e1 hall hlow
    refine q_ild rfl rfl ?_
    refine q_ild rfl rfl ?_
    refine q_icmp (c := 3) rfl (by decide) (fun _ => ?_) (fun h => absurd (show x.toInt < lt.toInt from h) (by omega))
    exact hgood (fun j hj => hlow j (by omega)) I x s5 hR e1 (fun j hj => hall j (by omega))
  | succ f ih =>
    intro i x s5 I hx hi hf hR e1 hall hlow
    refine q_ild rfl rfl ?_
    refine q_ild rfl rfl ?_
    refine q_icmp (c := 3) rfl (by decide) (fun g => ?_) (fun g => ?_)
    · have g : lt.toInt ≤ x.toInt := g
      exact hgood (fun j hj => hlow j (by omega)) I x s5 hR e1 (fun j hj => hall j (by omega))
    have g : x.toInt < lt.toInt := g
    have h41 : (I 1 4).toInt = q := by rw [e1]; exact h4
    have e11 : I 1 1 = I0 1 1 := hR.2.1 1 (by decide)
    have hb : tbC I = tbC I0 := tbC_eq e11 (hR.1 2 (by decide) (by decide))
    have t1 : (I 1 4 + x).toInt = (I 1 4).toInt + x.toInt := i_add (by omega) (by omega)
    have t2 : (x + 1).toInt = x.toInt + 1 := by rw [i_add (by omega) (by omega), c1]
    have t3 : (fs + x).toInt = fs.toInt + x.toInt := i_add (by omega) (by omega)
    have eb : I 2 (I 1 4 + x).toInt.toNat = tbC I0 (q + i) := by rw [← hb, tbC_in (by rw [e11, hN]; omega), show (I 1 4 + x).toInt.toNat = q + i by omega]
    have hl := hlet i (by omega)
    refine q_ald rfl rfl ?_
    refine q_ald rfl rfl ?_
    refine q_geti rfl sk_1 ?_
    refine q_ild rfl rfl ?_
    refine q_add rfl ?_
    refine q_callV (as := [.int (I 1 4 + x)]) (rest := []) rfl rfl sk_1 rfl (Nat.le_of_ble_eq_true rfl) ?_
    refine v_byteAt (by omega) (by omega) ?_
    show dw_ok (pr_X1_readRow K) 89 bc bs [some (.ref 101), some (.ref 1), some (.int lt), some (.int fs), some (.int x), s5] [.int (I 2 (I 1 4 + x).toInt.toNat)] (n, SH1, I, J)
    rw [eb]
    have t4 : (tbC I0 (q + i) - 97).toInt = (tbC I0 (q + i)).toInt - 97 := by rw [i_sub (by omega) (by omega), c97]
    refine q_ic rfl ?_
    refine q_sub rfl ?_
    refine q_ist rfl rfl ?_
    generalize tbC I0 (q + i) - 97 = kk at t4 ⊢
    show dw_ok (pr_X1_readRow K) 94 bc bs [some (.ref 101), some (.ref 1), some (.int lt), some (.int fs), some (.int x), some (.int kk)] [] (n, SH1, I, J)
    refine q_ild rfl rfl ?_
    refine q_if (c := 2) rfl (by decide) (fun h => absurd (show kk.toInt < 0 from h) (by omega)) (fun _ => ?_)
    refine q_ild rfl rfl ?_
    refine q_ald rfl rfl ?_
    refine q_getr rfl sk_101 sr_101_0 ?_
    refine q_geti rfl sk_102 ?_
    have hk2 : (I 102 2).toInt = s.1.length := hR.2.2.1.2.2.1
    refine q_icmp (c := 3) rfl (by decide) (fun w => ?_) (fun w => ?_)
    · have w : (I 102 2).toInt ≤ kk.toInt := w
      refine q_ald rfl rfl ?_
      refine q_ic rfl ?_
      refine fl_step (c := 2) rfl rfl (grT (s := s)) hR (fun I2 hI2 g7 g8 => ?_)
      exact hbad (fun h => by have := h i (by omega); omega) I2 hI2 g7 (g8.trans h41)
    have w : kk.toInt < (I 102 2).toInt := w
    refine q_ild rfl rfl ?_
    refine q_ild rfl rfl ?_
    refine q_add rfl ?_
    refine q_ic rfl ?_
    refine q_icmp (c := 2) rfl (by decide) (fun _ => ?_) (fun h => absurd (show (144 : Int32).toInt ≤ (fs + x).toInt from h) (by omega))
    refine q_ald rfl rfl ?_
    refine q_getr rfl sk_101 sr_101_0 ?_
    refine q_getr rfl sk_102 sr_102_8 ?_
    refine q_ild rfl rfl ?_
    refine q_ild rfl rfl ?_
    refine q_add rfl ?_
    refine q_ild rfl rfl ?_
    refine q_iast rfl sk_106 sn_106 (by omega) (show (fs + x).toInt < (144 : Nat) by omega) ?_
    show dw_ok (pr_X1_readRow K) 141 bc bs [some (.ref 101), some (.ref 1), some (.int lt), some (.int fs), some (.int x), some (.int kk)] [] (n, SH1, dw_up I 106 (fs + x).toInt.toNat kk, J)
    have ej : (fs + x).toInt.toNat = s.2.2.1.length * Ln + i := by omega
    rw [ej]
    refine q_inc rfl rfl rfl ?_
    refine q_goto rfl ?_
    refine ih (i + 1) (x + 1) (some (.int kk)) (dw_up I 106 (s.2.2.1.length * Ln + i) kk) (by omega) (by omega) (by omega) (GR_106 hR (by omega)) ((up_row (by decide)).trans e1) (fun j hj => ?_) (fun j hj => ?_)
    · by_cases e : j = i
      · rw [e, up_same]; exact t4
      · rw [up_fld (by omega)]; exact hall j (by omega)
    · by_cases e : j = i
      · rw [e]; omega
      · exact hlow j (by omega)
set_option maxRecDepth 8000 in
set_option maxHeartbeats 2000000 in
theorem v_readRow {n : Nat} {I : Nat → Nat → Int32} {J : Nat → Nat → Int64} {K : dw_K} {I0 : Nat → Nat → Int32} {s : gS} {T : fT} {N m : Nat} (hR : GRp I0 I s) (hOK : gOK N s) (hN : (I0 1 1).toInt = N) (hN9 : N ≤ 940) (hm : (I0 1 2).toInt = m) (h3 : (I 1 3).toInt = T.2.2.1) (h4 : (I 1 4).toInt = T.2.1) (h5 : (I 1 5).toInt = T.1) (hTN : T.2.2.1 ≤ N) (hT2 : T.2.1 ≤ N)
    (hok : (gkR (tbC I0) N m T s).1 = 0 → ∀ I' : Nat → Nat → Int32, GRp I0 I' (gkR (tbC I0) N m T s).2.2.2 → (I' 1 3).toInt = (gkR (tbC I0) N m T s).2.2.1 → (gkR (tbC I0) N m T s).2.2.1 ≤ N → T.2.2.1 ≤ (gkR (tbC I0) N m T s).2.2.1 → gOK N (gkR (tbC I0) N m T s).2.2.2 → K (some (.int 1)) (n, SH1, I', J))
    (hno : (gkR (tbC I0) N m T s).1 ≠ 0 → ∀ (I' : Nat → Nat → Int32) (s' : gS), GRp I0 I' s' → (I' 1 7).toInt = (gkR (tbC I0) N m T s).1 → (I' 1 8).toInt = (gkR (tbC I0) N m T s).2.1 → K (some (.int 0)) (n, SH1, I', J)) : t_X1_readRow [.ref 101, .ref 1] (n, SH1, I, J) K := by
  have c12 : (12 : Int32).toInt = 12 := rfl
  have c1 : (1 : Int32).toInt = 1 := rfl
  have hk1 : (I 102 1).toInt = s.2.2.1.length := hR.2.2.1.2.1
  refine q_body (Nat.le_of_ble_eq_true rfl) ?_
  refine q_ald rfl rfl ?_
  refine q_getr rfl sk_101 sr_101_0 ?_
  refine q_geti rfl sk_102 ?_
  refine q_ic rfl ?_
  refine q_icmp (c := 2) rfl (by decide) (fun g => ?_) (fun g => ?_)
  rotate_left
  · have g : (12 : Int32).toInt ≤ (I 102 1).toInt := g
    have c0 : 12 ≤ s.2.2.1.length := by omega
    refine q_ald rfl rfl ?_
    refine q_ic rfl ?_
    refine fl_step (c := 4) rfl rfl (grT (s := s)) hR (fun I1 hI1 g7 g8 => ?_)
    rw [h4] at g8
    have eR : (gkR (tbC I0) N m T s) = (4, T.2.1, 0, g0) := by simp only [gkR, nbG, stG, c0, ne_eq, not_false_eq_true, not_true_eq_false, ↓reduceIte]
    rw [eR] at hno
    exact hno (nn rfl) I1 _ hI1 g7 g8
  have g : (I 102 1).toInt < (12 : Int32).toInt := g
  have c0 : ¬ (12 ≤ s.2.2.1.length) := by omega
  refine q_ald rfl rfl ?_
  obtain ⟨T1, hT1⟩ : ∃ t, t = tkF (tbC I0) N m T.2.2.1 := ⟨_, rfl⟩
  have hinT1 := tkF_in (b := tbC I0) (n := N) (m := m) (p := T.2.2.1) hTN
  have hword := tk_word (b := tbC I0) (n := N) (m := m) (p := T.2.2.1)
  refine tw_step (p := T.2.2.1) rfl (grT (s := s)) hR hN hN9 hm h3 hTN ?_ ?_
  rotate_left
  · intro e I1 hI1 g7 g8
    rw [← hT1] at e g8
    refine q_if (c := 1) rfl (by decide) (fun h => absurd rfl h) (fun _ => ?_)
    refine q_ic rfl ?_
    refine q_zret rfl (Or.inl rfl) ?_
    have eR : (gkR (tbC I0) N m T s) = (1, T1.2.1, 0, g0) := by simp only [gkR, nbG, stG, c0, ← hT1, e, ne_eq, not_false_eq_true, not_true_eq_false, ↓reduceIte]
    rw [eR] at hno
    exact hno (nn rfl) I1 _ hI1 g7 g8
  intro eT1 I1 hI1 w3 w4 w5
  rw [← hT1] at eT1 w3 w4 w5 hinT1 hword
  obtain ⟨d1, d2, d3⟩ := hword eT1 hTN
  have hin1 := hinT1.2.2.1
  refine q_if (c := 1) rfl (by decide) (fun _ => ?_) (fun h => absurd (show (1 : Int32).toInt = 0 from h) (by decide))
  refine q_ald rfl rfl ?_
  refine q_callV (as := []) (rest := []) rfl rfl sk_1 rfl (Nat.le_of_ble_eq_true rfl) ?_
  refine v_tokenSize ?_
  have ts : (I1 1 3 - I1 1 4).toInt = (I1 1 3).toInt - (I1 1 4).toInt := i_sub (by omega) (by omega)
  show dw_ok (pr_X1_readRow K) 31 0 0 [some (.ref 101), some (.ref 1), none, none, none, none] [.int (I1 1 3 - I1 1 4)] (n, SH1, I1, J)
  obtain ⟨Ln, hLn⟩ : ∃ k, k = T1.2.2.1 - T1.2.1 := ⟨_, rfl⟩
  have hlt : (I1 1 3 - I1 1 4).toInt = Ln := by omega
  generalize I1 1 3 - I1 1 4 = lt at hlt ts ⊢
  refine q_ist rfl rfl ?_
  show dw_ok (pr_X1_readRow K) 32 0 0 [some (.ref 101), some (.ref 1), some (.int lt), none, none, none] [] (n, SH1, I1, J)
  have hk1' : (I1 102 1).toInt = s.2.2.1.length := hI1.2.2.1.2.1
  have hk0' : (I1 102 0).toInt = s.2.1 := hI1.2.2.1.1
  have hC12 := hOK.2.1
  have main : (s.2.2.1.length = 0 ∨ Ln = s.2.1) → dw_ok (pr_X1_readRow K) 59 0 0 [some (.ref 101), some (.ref 1), some (.int lt), none, none, none] [] (n, SH1, I1, J) := by
    intro hC
    have c3 : ¬ (0 < s.2.2.1.length ∧ T1.2.2.1 ≠ T1.2.1 + s.2.1) := by
      rintro ⟨y1, y2⟩
      omega
    have h144 : s.2.2.1.length * Ln + Ln ≤ 144 := by
      have q : s.2.2.1.length * Ln ≤ 11 * Ln := Nat.mul_le_mul_right Ln (by omega)
      omega
    have hRC : s.2.2.1.length * s.2.1 ≤ s.2.2.1.length * Ln := by
      rcases hC with y | y
      · rw [y]; omega
      · rw [y]; exact Nat.le_refl _
    have hfs : (I1 102 1 * lt).toInt = (s.2.2.1.length * Ln : Nat) := i_mul (by rw [hk1', hlt]; exact (Int.natCast_mul _ _).symm) (by omega) (by omega)
    refine q_ald rfl rfl ?_
    refine q_getr rfl sk_101 sr_101_0 ?_
    refine q_geti rfl sk_102 ?_
    refine q_ild rfl rfl ?_
    refine q_mul rfl ?_
    refine q_ist rfl rfl ?_
    refine q_ic rfl ?_
    refine q_ist rfl rfl ?_
    show dw_ok (pr_X1_readRow K) 72 0 0 [some (.ref 101), some (.ref 1), some (.int lt), some (.int (I1 102 1 * lt)), some (.int 0), none] [] (n, SH1, I1, J)
    generalize I1 102 1 * lt = fs at hfs ⊢
    refine rr_loop (q := T1.2.1) (Ln := Ln) hOK hN hN9 hI1 w4 (by omega) (by omega) (fun j hj => d3 j (by omega)) hlt hfs h144 hRC (fun y I2 hI2 g7 g8 => ?_) (fun y I2 x s5 hI2 e21 hrow => ?_) Ln 0 0 none I1 rfl (Nat.zero_le _) (Nat.le_refl _) hI1 rfl (fun j hj => absurd hj (Nat.not_lt_zero j)) (fun j hj => absurd hj (Nat.not_lt_zero j))
    · rw [hLn] at y
      have eR : (gkR (tbC I0) N m T s) = (2, T1.2.1, 0, g0) := by simp only [gkR, nbG, stG, c0, ← hT1, eT1, c3, y, ne_eq, not_false_eq_true, not_true_eq_false, ↓reduceIte]
      rw [eR] at hno
      exact hno (nn rfl) I2 _ hI2 g7 g8
    · rw [hLn] at y
      have hk2' : (I2 102 1).toInt = s.2.2.1.length := hI2.2.2.1.2.1
      have hrv : (I2 102 1 + 1).toInt = (s.2.2.1.length + 1 : Nat) := by rw [i_add (by omega) (by omega), c1]; omega
      refine q_ald rfl rfl ?_
      refine q_getr rfl sk_101 sr_101_0 ?_
      refine q_ild rfl rfl ?_
      refine q_puti rfl sk_102 ?_
      show dw_ok (pr_X1_readRow K) 155 0 0 [some (.ref 101), some (.ref 1), some (.int lt), some (.int fs), some (.int x), s5] [] (n, SH1, dw_up I2 102 0 lt, J)
      refine q_ald rfl rfl ?_
      refine q_getr rfl sk_101 sr_101_0 ?_
      refine q_dup rfl ?_
      refine q_geti rfl sk_102 ?_
      refine q_ic rfl ?_
      refine q_add rfl ?_
      refine q_puti rfl sk_102 ?_
      show dw_ok (pr_X1_readRow K) 168 0 0 [some (.ref 101), some (.ref 1), some (.int lt), some (.int fs), some (.int x), s5] [] (n, SH1, dw_up (dw_up I2 102 0 lt) 102 1 (dw_up I2 102 0 lt 102 1 + 1), J)
      rw [show dw_up I2 102 0 lt 102 1 = I2 102 1 from up_fld (by decide)]
      have hR3 := GR_row (q := T1.2.1) (Ln := Ln) (lt := lt) (rv := I2 102 1 + 1) hI2 hlt hrv hC hrow
      have r1 : dw_up (dw_up I2 102 0 lt) 102 1 (I2 102 1 + 1) 1 = I2 1 := (up_row (by decide)).trans (up_row (by decide))
      have v3 : (dw_up (dw_up I2 102 0 lt) 102 1 (I2 102 1 + 1) 1 3).toInt = T1.2.2.1 := by rw [r1, e21]; exact w3
      generalize dw_up (dw_up I2 102 0 lt) 102 1 (I2 102 1 + 1) = I3 at hR3 v3 ⊢
      have ny : ¬ ¬ lrF (tbC I0) T1.2.1 (T1.2.2.1 - T1.2.1) s.1.length := fun h => h y
      refine q_ald rfl rfl ?_
      obtain ⟨T2, hT2⟩ : ∃ t, t = tkF (tbC I0) N m T1.2.2.1 := ⟨_, rfl⟩
      have hinT2 := tkF_in (b := tbC I0) (n := N) (m := m) (p := T1.2.2.1) hin1
      refine ts_step (p := T1.2.2.1) rfl rfl grT hR3 hN hN9 hm v3 hin1 ?_ ?_
      rotate_left
      · intro e I9 hI9 g7 g8
        rw [← hT2] at e g8
        have eR : (gkR (tbC I0) N m T s) = (1, T2.2.1, 0, g0) := by simp only [gkR, nbG, stG, c0, ← hT1, eT1, c3, if_neg ny, ← hT2, e, ne_eq, not_false_eq_true, not_true_eq_false, ↓reduceIte]
        rw [eR] at hno
        exact hno (nn rfl) I9 _ hI9 g7 g8
      intro e I9 hI9 g3
      rw [← hT2] at e g3 hinT2
      have eR : (gkR (tbC I0) N m T s) = (0, 0, T2.2.2.1, s.1, T1.2.2.1 - T1.2.1, T1.2.1 :: s.2.2.1, s.2.2.2) := by simp only [gkR, nbG, stG, c0, ← hT1, eT1, c3, if_neg ny, ← hT2, e, ne_eq, not_false_eq_true, not_true_eq_false, ↓reduceIte]
      rw [eR] at hok
      exact hok rfl I9 (hLn ▸ hI9) g3 hinT2.2.2.1 (show T.2.2.1 ≤ T2.2.2.1 by omega) ⟨hOK.1, show T1.2.2.1 - T1.2.1 ≤ 12 by omega, show s.2.2.1.length + 1 ≤ 12 by omega, hOK.2.2.2.1, hOK.2.2.2.2⟩
  refine q_ald rfl rfl ?_
  refine q_getr rfl sk_101 sr_101_0 ?_
  refine q_geti rfl sk_102 ?_
  refine q_if (c := 5) rfl (by decide) (fun w => main (Or.inl (by have w : (I1 102 1).toInt ≤ 0 := w; omega))) (fun w => ?_)
  have w : 0 < (I1 102 1).toInt := w
  refine q_ild rfl rfl ?_
  refine q_ald rfl rfl ?_
  refine q_getr rfl sk_101 sr_101_0 ?_
  refine q_geti rfl sk_102 ?_
  refine q_icmp (c := 0) rfl (by decide) (fun v => main (Or.inr (by have v : lt.toInt = (I1 102 0).toInt := v; omega))) (fun v => ?_)
  have v : lt.toInt ≠ (I1 102 0).toInt := v
  have c3 : 0 < s.2.2.1.length ∧ T1.2.2.1 ≠ T1.2.1 + s.2.1 := ⟨by omega, by omega⟩
  refine q_ald rfl rfl ?_
  refine q_ic rfl ?_
  refine fl_step (c := 2) rfl rfl (grT (s := s)) hI1 (fun I2 hI2 g7 g8 => ?_)
  rw [w4] at g8
  have eR : (gkR (tbC I0) N m T s) = (2, T1.2.1, 0, g0) := by simp only [gkR, nbG, stG, c0, ← hT1, eT1, if_pos c3, ne_eq, not_false_eq_true, not_true_eq_false, ↓reduceIte]
  rw [eR] at hno
  exact hno (nn rfl) I2 _ hI2 g7 g8
set_option maxRecDepth 8000 in
set_option maxHeartbeats 2000000 in
theorem v_readShade {n : Nat} {I : Nat → Nat → Int32} {J : Nat → Nat → Int64} {K : dw_K} {I0 : Nat → Nat → Int32} {s : gS} {T : fT} {N m : Nat} (hR : GRp I0 I s) (hOK : gOK N s) (hN : (I0 1 1).toInt = N) (hN9 : N ≤ 940) (hm : (I0 1 2).toInt = m) (h3 : (I 1 3).toInt = T.2.2.1) (h4 : (I 1 4).toInt = T.2.1) (h5 : (I 1 5).toInt = T.1) (hTN : T.2.2.1 ≤ N) (hT2 : T.2.1 ≤ N)
    (hok : (gkS (tbC I0) N m T s).1 = 0 → ∀ I' : Nat → Nat → Int32, GRp I0 I' (gkS (tbC I0) N m T s).2.2.2 → (I' 1 3).toInt = (gkS (tbC I0) N m T s).2.2.1 → (gkS (tbC I0) N m T s).2.2.1 ≤ N → T.2.2.1 ≤ (gkS (tbC I0) N m T s).2.2.1 → gOK N (gkS (tbC I0) N m T s).2.2.2 → K (some (.int 1)) (n, SH1, I', J))
    (hno : (gkS (tbC I0) N m T s).1 ≠ 0 → ∀ (I' : Nat → Nat → Int32) (s' : gS), GRp I0 I' s' → (I' 1 7).toInt = (gkS (tbC I0) N m T s).1 → (I' 1 8).toInt = (gkS (tbC I0) N m T s).2.1 → K (some (.int 0)) (n, SH1, I', J)) : t_X1_readShade [.ref 101, .ref 1] (n, SH1, I, J) K := by
  have c12 : (12 : Int32).toInt = 12 := rfl
  have c1 : (1 : Int32).toInt = 1 := rfl
  have hk3 : (I 102 3).toInt = s.2.2.2.1.length := hR.2.2.1.2.2.2.1
  refine q_body (Nat.le_of_ble_eq_true rfl) ?_
  refine q_ald rfl rfl ?_
  refine q_getr rfl sk_101 sr_101_0 ?_
  refine q_geti rfl sk_102 ?_
  refine q_ist rfl rfl ?_
  show dw_ok (pr_X1_readShade K) 8 0 0 [some (.ref 101), some (.ref 1), some (.int (I 102 3))] [] (n, SH1, I, J)
  generalize I 102 3 = sv at hk3 ⊢
  refine q_ild rfl rfl ?_
  refine q_if (c := 2) rfl (by decide) (fun h => absurd (show sv.toInt < 0 from h) (by omega)) (fun _ => ?_)
  refine q_ild rfl rfl ?_
  refine q_ic rfl ?_
  refine q_icmp (c := 2) rfl (by decide) (fun g => ?_) (fun g => ?_)
  rotate_left
  · have g : (12 : Int32).toInt ≤ sv.toInt := g
    have c0 : 12 ≤ s.2.2.2.1.length := by omega
    refine q_ald rfl rfl ?_
    refine q_ic rfl ?_
    refine fl_step (c := 4) rfl rfl (grT (s := s)) hR (fun I1 hI1 g7 g8 => ?_)
    rw [h4] at g8
    have eR : (gkS (tbC I0) N m T s) = (4, T.2.1, 0, g0) := by simp only [gkS, nbG, stG, c0, ne_eq, not_false_eq_true, not_true_eq_false, ↓reduceIte]
    rw [eR] at hno
    exact hno (nn rfl) I1 _ hI1 g7 g8
  have g : sv.toInt < (12 : Int32).toInt := g
  have c0 : ¬ (12 ≤ s.2.2.2.1.length) := by omega
  obtain ⟨r1, r2, r3⟩ := gs_ref (show s.2.2.2.1.length < 12 by omega)
  have hsn : sv.toInt.toNat = s.2.2.2.1.length := by omega
  have hC12 := hOK.2.1
  have hR12 := hOK.2.2.1
  have eC : (I 102 0 - 1).toInt = (s.2.1 : Int) - 1 := by
    have q : (I 102 0).toInt = s.2.1 := hR.2.2.1.1
    rw [i_sub (by omega) (by omega), c1, q]
  have hG0 : GSp I0 I s (0, 0, 0, 0) 0 := ⟨hR, fun h => absurd h (by decide), fun h => absurd h (by decide), fun h => absurd h (by decide), fun h => absurd h (by decide)⟩
  refine q_ald rfl rfl ?_
  refine q_ic rfl ?_
  refine q_ald rfl rfl ?_
  refine q_getr rfl sk_101 sr_101_0 ?_
  refine q_geti rfl sk_102 ?_
  refine q_ic rfl ?_
  refine q_sub rfl ?_
  show dw_ok (pr_X1_readShade K) 35 0 0 [some (.ref 101), some (.ref 1), some (.int sv)] [.int (I 102 0 - 1), .int 0, .ref 1] (n, SH1, I, J)
  generalize I 102 0 - 1 = hC at eC ⊢
  obtain ⟨T1, hT1⟩ : ∃ t, t = tkF (tbC I0) N m T.2.2.1 := ⟨_, rfl⟩
  have hinT1 := tkF_in (b := tbC I0) (n := N) (m := m) (p := T.2.2.1) hTN
  refine tn_step (p := T.2.2.1) rfl rfl rfl rfl gsT hG0 hN hN9 hm h3 hTN ?_ ?_
  rotate_left
  · intro e I9 hI9 g7 g8
    rw [← hT1] at e g7 g8
    rw [eC] at e g7
    have e : nbF T1 0 ((s.2.1 : Int) - 1) ≠ 0 := e
    have eR : (gkS (tbC I0) N m T s) = (nbF T1 0 ((s.2.1 : Int) - 1), T1.2.1, 0, g0) := by simp only [gkS, nbG, stG, c0, ← hT1, e, ne_eq, not_false_eq_true, not_true_eq_false, ↓reduceIte]
    rw [eR] at hno
    exact hno e I9 _ hI9.1 g7 g8
  intro eT1 Ia0 hGa0 gT13 gT16
  rw [← hT1] at eT1 gT13 gT16 hinT1
  rw [eC] at eT1
  have eT1 : nbF T1 0 ((s.2.1 : Int) - 1) = 0 := eT1
  refine q_ald rfl rfl ?_
  refine q_getr rfl sk_101 sr_101_3 ?_
  refine q_ild rfl rfl ?_
  refine q_xaldr rfl sk_110 sn_110 (by omega) (show sv.toInt < (12 : Nat) by omega) (show (SH1 110).2.2 sv.toInt.toNat = some (111 + s.2.2.2.1.length) by rw [hsn]; exact r1) ?_
  refine q_ic rfl ?_
  refine q_ald rfl rfl ?_
  refine q_geti rfl sk_1 ?_
  refine q_iast rfl r2 r3 (by decide) (by decide) ?_
  show dw_ok (pr_X1_readShade K) 55 0 0 [some (.ref 101), some (.ref 1), some (.int sv)] [] (n, SH1, dw_up Ia0 (111 + s.2.2.2.1.length) 0 (Ia0 1 6), J)
  rw [gT16]
  have hGb0 : GSp I0 (dw_up Ia0 (111 + s.2.2.2.1.length) 0 T1.2.2.2) s (T1.2.2.2, 0, 0, 0) 1 := ⟨GR_s hGa0.1 (Nat.le_refl _) (by omega), fun _ => up_same, fun h => absurd h (by decide), fun h => absurd h (by decide), fun h => absurd h (by decide)⟩
  have v30 : (dw_up Ia0 (111 + s.2.2.2.1.length) 0 T1.2.2.2 1 3).toInt = T1.2.2.1 := by rw [up_row (show 1 ≠ 111 + s.2.2.2.1.length by omega)]; exact gT13
  generalize dw_up Ia0 (111 + s.2.2.2.1.length) 0 T1.2.2.2 = Ib0 at hGb0 v30 ⊢
  have eR2 : (Ib0 102 1 - 1).toInt = (s.2.2.1.length : Int) - 1 := by
    have q : (Ib0 102 1).toInt = s.2.2.1.length := hGb0.1.2.2.1.2.1
    rw [i_sub (by omega) (by omega), c1, q]
  refine q_ald rfl rfl ?_
  refine q_ic rfl ?_
  refine q_ald rfl rfl ?_
  refine q_getr rfl sk_101 sr_101_0 ?_
  refine q_geti rfl sk_102 ?_
  refine q_ic rfl ?_
  refine q_sub rfl ?_
  show dw_ok (pr_X1_readShade K) 66 0 0 [some (.ref 101), some (.ref 1), some (.int sv)] [.int (Ib0 102 1 - 1), .int 0, .ref 1] (n, SH1, Ib0, J)
  generalize Ib0 102 1 - 1 = hR_ at eR2 ⊢
  obtain ⟨T2, hT2⟩ : ∃ t, t = tkF (tbC I0) N m T1.2.2.1 := ⟨_, rfl⟩
  have hinT2 := tkF_in (b := tbC I0) (n := N) (m := m) (p := T1.2.2.1) hinT1.2.2.1
  refine tn_step (p := T1.2.2.1) rfl rfl rfl rfl gsT hGb0 hN hN9 hm v30 hinT1.2.2.1 ?_ ?_
  rotate_left
  · intro e I9 hI9 g7 g8
    rw [← hT2] at e g7 g8
    rw [eR2] at e g7
    have e : nbF T2 0 ((s.2.2.1.length : Int) - 1) ≠ 0 := e
    have eR : (gkS (tbC I0) N m T s) = (nbF T2 0 ((s.2.2.1.length : Int) - 1), T2.2.1, 0, g0) := by simp only [gkS, nbG, stG, c0, ← hT1, eT1, ← hT2, e, ne_eq, not_false_eq_true, not_true_eq_false, ↓reduceIte]
    rw [eR] at hno
    exact hno e I9 _ hI9.1 g7 g8
  intro eT2 Ia1 hGa1 gT23 gT26
  rw [← hT2] at eT2 gT23 gT26 hinT2
  rw [eR2] at eT2
  have eT2 : nbF T2 0 ((s.2.2.1.length : Int) - 1) = 0 := eT2
  refine q_ald rfl rfl ?_
  refine q_getr rfl sk_101 sr_101_3 ?_
  refine q_ild rfl rfl ?_
  refine q_xaldr rfl sk_110 sn_110 (by omega) (show sv.toInt < (12 : Nat) by omega) (show (SH1 110).2.2 sv.toInt.toNat = some (111 + s.2.2.2.1.length) by rw [hsn]; exact r1) ?_
  refine q_ic rfl ?_
  refine q_ald rfl rfl ?_
  refine q_geti rfl sk_1 ?_
  refine q_iast rfl r2 r3 (by decide) (by decide) ?_
  show dw_ok (pr_X1_readShade K) 86 0 0 [some (.ref 101), some (.ref 1), some (.int sv)] [] (n, SH1, dw_up Ia1 (111 + s.2.2.2.1.length) 1 (Ia1 1 6), J)
  rw [gT26]
  have hGb1 : GSp I0 (dw_up Ia1 (111 + s.2.2.2.1.length) 1 T2.2.2.2) s (T1.2.2.2, T2.2.2.2, 0, 0) 2 := ⟨GR_s hGa1.1 (Nat.le_refl _) (by omega), fun _ => (up_fld (by decide)).trans (hGa1.2.1 (by decide)), fun _ => up_same, fun h => absurd h (by decide), fun h => absurd h (by decide)⟩
  have v31 : (dw_up Ia1 (111 + s.2.2.2.1.length) 1 T2.2.2.2 1 3).toInt = T2.2.2.1 := by rw [up_row (show 1 ≠ 111 + s.2.2.2.1.length by omega)]; exact gT23
  generalize dw_up Ia1 (111 + s.2.2.2.1.length) 1 T2.2.2.2 = Ib1 at hGb1 v31 ⊢
  refine q_ald rfl rfl ?_
  refine q_ic rfl ?_
  refine q_ic rfl ?_
  obtain ⟨T3, hT3⟩ : ∃ t, t = tkF (tbC I0) N m T2.2.2.1 := ⟨_, rfl⟩
  have hinT3 := tkF_in (b := tbC I0) (n := N) (m := m) (p := T2.2.2.1) hinT2.2.2.1
  refine tn_step (p := T2.2.2.1) rfl rfl rfl rfl gsT hGb1 hN hN9 hm v31 hinT2.2.2.1 ?_ ?_
  rotate_left
  · intro e I9 hI9 g7 g8
    rw [← hT3] at e g7 g8
    have e : nbF T3 0 9 ≠ 0 := e
    have eR : (gkS (tbC I0) N m T s) = (nbF T3 0 9, T3.2.1, 0, g0) := by simp only [gkS, nbG, stG, c0, ← hT1, eT1, ← hT2, eT2, ← hT3, e, ne_eq, not_false_eq_true, not_true_eq_false, ↓reduceIte]
    rw [eR] at hno
    exact hno e I9 _ hI9.1 g7 g8
  intro eT3 Ia2 hGa2 gT33 gT36
  rw [← hT3] at eT3 gT33 gT36 hinT3
  have eT3 : nbF T3 0 9 = 0 := eT3
  refine q_ald rfl rfl ?_
  refine q_getr rfl sk_101 sr_101_3 ?_
  refine q_ild rfl rfl ?_
  refine q_xaldr rfl sk_110 sn_110 (by omega) (show sv.toInt < (12 : Nat) by omega) (show (SH1 110).2.2 sv.toInt.toNat = some (111 + s.2.2.2.1.length) by rw [hsn]; exact r1) ?_
  refine q_ic rfl ?_
  refine q_ald rfl rfl ?_
  refine q_geti rfl sk_1 ?_
  refine q_iast rfl r2 r3 (by decide) (by decide) ?_
  show dw_ok (pr_X1_readShade K) 110 0 0 [some (.ref 101), some (.ref 1), some (.int sv)] [] (n, SH1, dw_up Ia2 (111 + s.2.2.2.1.length) 2 (Ia2 1 6), J)
  rw [gT36]
  have hGb2 : GSp I0 (dw_up Ia2 (111 + s.2.2.2.1.length) 2 T3.2.2.2) s (T1.2.2.2, T2.2.2.2, T3.2.2.2, 0) 3 := ⟨GR_s hGa2.1 (Nat.le_refl _) (by omega), fun _ => (up_fld (by decide)).trans (hGa2.2.1 (by decide)), fun _ => (up_fld (by decide)).trans (hGa2.2.2.1 (by decide)), fun _ => up_same, fun h => absurd h (by decide)⟩
  have v32 : (dw_up Ia2 (111 + s.2.2.2.1.length) 2 T3.2.2.2 1 3).toInt = T3.2.2.1 := by rw [up_row (show 1 ≠ 111 + s.2.2.2.1.length by omega)]; exact gT33
  generalize dw_up Ia2 (111 + s.2.2.2.1.length) 2 T3.2.2.2 = Ib2 at hGb2 v32 ⊢
  refine q_ald rfl rfl ?_
  refine q_ic rfl ?_
  refine q_ic rfl ?_
  obtain ⟨T4, hT4⟩ : ∃ t, t = tkF (tbC I0) N m T3.2.2.1 := ⟨_, rfl⟩
  have hinT4 := tkF_in (b := tbC I0) (n := N) (m := m) (p := T3.2.2.1) hinT3.2.2.1
  refine tn_step (p := T3.2.2.1) rfl rfl rfl rfl gsT hGb2 hN hN9 hm v32 hinT3.2.2.1 ?_ ?_
  rotate_left
  · intro e I9 hI9 g7 g8
    rw [← hT4] at e g7 g8
    have e : nbF T4 1 100 ≠ 0 := e
    have eR : (gkS (tbC I0) N m T s) = (nbF T4 1 100, T4.2.1, 0, g0) := by simp only [gkS, nbG, stG, c0, ← hT1, eT1, ← hT2, eT2, ← hT3, eT3, ← hT4, e, ne_eq, not_false_eq_true, not_true_eq_false, ↓reduceIte]
    rw [eR] at hno
    exact hno e I9 _ hI9.1 g7 g8
  intro eT4 Ia3 hGa3 gT43 gT46
  rw [← hT4] at eT4 gT43 gT46 hinT4
  have eT4 : nbF T4 1 100 = 0 := eT4
  refine q_ald rfl rfl ?_
  refine q_getr rfl sk_101 sr_101_3 ?_
  refine q_ild rfl rfl ?_
  refine q_xaldr rfl sk_110 sn_110 (by omega) (show sv.toInt < (12 : Nat) by omega) (show (SH1 110).2.2 sv.toInt.toNat = some (111 + s.2.2.2.1.length) by rw [hsn]; exact r1) ?_
  refine q_ic rfl ?_
  refine q_ald rfl rfl ?_
  refine q_geti rfl sk_1 ?_
  refine q_iast rfl r2 r3 (by decide) (by decide) ?_
  show dw_ok (pr_X1_readShade K) 134 0 0 [some (.ref 101), some (.ref 1), some (.int sv)] [] (n, SH1, dw_up Ia3 (111 + s.2.2.2.1.length) 3 (Ia3 1 6), J)
  rw [gT46]
  have hGb3 : GSp I0 (dw_up Ia3 (111 + s.2.2.2.1.length) 3 T4.2.2.2) s (T1.2.2.2, T2.2.2.2, T3.2.2.2, T4.2.2.2) 4 := ⟨GR_s hGa3.1 (Nat.le_refl _) (by omega), fun _ => (up_fld (by decide)).trans (hGa3.2.1 (by decide)), fun _ => (up_fld (by decide)).trans (hGa3.2.2.1 (by decide)), fun _ => (up_fld (by decide)).trans (hGa3.2.2.2.1 (by decide)), fun _ => up_same⟩
  have v33 : (dw_up Ia3 (111 + s.2.2.2.1.length) 3 T4.2.2.2 1 3).toInt = T4.2.2.1 := by rw [up_row (show 1 ≠ 111 + s.2.2.2.1.length by omega)]; exact gT43
  generalize dw_up Ia3 (111 + s.2.2.2.1.length) 3 T4.2.2.2 = Ib3 at hGb3 v33 ⊢
  have tv : (sv + 1).toInt = (s.2.2.2.1.length + 1 : Nat) := by rw [i_add (by omega) (by omega), c1]; omega
  have hRd := GS_done (x := sv + 1) hGb3 tv
  refine q_ald rfl rfl ?_
  refine q_getr rfl sk_101 sr_101_0 ?_
  refine q_ild rfl rfl ?_
  refine q_ic rfl ?_
  refine q_add rfl ?_
  refine q_puti rfl sk_102 ?_
  show dw_ok (pr_X1_readShade K) 144 0 0 [some (.ref 101), some (.ref 1), some (.int sv)] [] (n, SH1, dw_up Ib3 102 3 (sv + 1), J)
  have v3d : (dw_up Ib3 102 3 (sv + 1) 1 3).toInt = T4.2.2.1 := v33
  generalize dw_up Ib3 102 3 (sv + 1) = Id at hRd v3d ⊢
  refine q_ald rfl rfl ?_
  obtain ⟨T5, hT5⟩ : ∃ t, t = tkF (tbC I0) N m T4.2.2.1 := ⟨_, rfl⟩
  have hinT5 := tkF_in (b := tbC I0) (n := N) (m := m) (p := T4.2.2.1) hinT4.2.2.1
  refine ts_step (p := T4.2.2.1) rfl rfl grT hRd hN hN9 hm v3d hinT4.2.2.1 ?_ ?_
  rotate_left
  · intro e I9 hI9 g7 g8
    rw [← hT5] at e g8
    have eR : (gkS (tbC I0) N m T s) = (1, T5.2.1, 0, g0) := by simp only [gkS, nbG, stG, c0, ← hT1, eT1, ← hT2, eT2, ← hT3, eT3, ← hT4, eT4, ← hT5, e, ne_eq, not_false_eq_true, not_true_eq_false, ↓reduceIte]
    rw [eR] at hno
    exact hno (nn rfl) I9 _ hI9 g7 g8
  intro e I9 hI9 g3
  rw [← hT5] at e g3 hinT5
  have eR : (gkS (tbC I0) N m T s) = (0, 0, T5.2.2.1, s.1, s.2.1, s.2.2.1, (T1.2.2.2, T2.2.2.2, T3.2.2.2, T4.2.2.2) :: s.2.2.2.1, s.2.2.2.2) := by simp only [gkS, nbG, stG, c0, ← hT1, eT1, ← hT2, eT2, ← hT3, eT3, ← hT4, eT4, ← hT5, e, ne_eq, not_false_eq_true, not_true_eq_false, ↓reduceIte]
  rw [eR] at hok
  exact hok rfl I9 hI9 g3 hinT5.2.2.1 (show T.2.2.1 ≤ T5.2.2.1 by omega) ⟨hOK.1, hOK.2.1, hOK.2.2.1, show s.2.2.2.1.length + 1 ≤ 12 by omega, hOK.2.2.2.2.1, fun z hz => by
      have b1 := nb_r eT1
      have b2 := nb_r eT2
      have b3 := nb_r eT3
      have b4 := nb_r eT4
      rcases List.mem_cons.mp hz with rfl | hz
      · exact ⟨⟨b1.1, show T1.2.2.2.toInt ≤ 11 by omega⟩, ⟨b2.1, show T2.2.2.2.toInt ≤ 11 by omega⟩, b3, b4⟩
      · exact hOK.2.2.2.2.2 z hz⟩
set_option maxRecDepth 8000 in
set_option maxHeartbeats 2000000 in
theorem v_readStock {n : Nat} {I : Nat → Nat → Int32} {J : Nat → Nat → Int64} {K : dw_K} {I0 : Nat → Nat → Int32} {s : gS} {T : fT} {N m : Nat} (hR : GRp I0 I s) (hOK : gOK N s) (hN : (I0 1 1).toInt = N) (hN9 : N ≤ 940) (hm : (I0 1 2).toInt = m) (h3 : (I 1 3).toInt = T.2.2.1) (h4 : (I 1 4).toInt = T.2.1) (h5 : (I 1 5).toInt = T.1) (hTN : T.2.2.1 ≤ N) (hT2 : T.2.1 ≤ N)
    (hok : (gkW (tbC I0) N m T s).1 = 0 → ∀ I' : Nat → Nat → Int32, GRp I0 I' (gkW (tbC I0) N m T s).2.2.2 → (I' 1 3).toInt = (gkW (tbC I0) N m T s).2.2.1 → (gkW (tbC I0) N m T s).2.2.1 ≤ N → T.2.2.1 ≤ (gkW (tbC I0) N m T s).2.2.1 → gOK N (gkW (tbC I0) N m T s).2.2.2 → K (some (.int 1)) (n, SH1, I', J))
    (hno : (gkW (tbC I0) N m T s).1 ≠ 0 → ∀ (I' : Nat → Nat → Int32) (s' : gS), GRp I0 I' s' → (I' 1 7).toInt = (gkW (tbC I0) N m T s).1 → (I' 1 8).toInt = (gkW (tbC I0) N m T s).2.1 → K (some (.int 0)) (n, SH1, I', J)) : t_X1_readStock [.ref 101, .ref 1] (n, SH1, I, J) K := by
  have hk4 : (I 101 4).toInt = (if s.2.2.2.2 = none then 0 else 1) := hR.2.2.2.1
  refine q_body (Nat.le_of_ble_eq_true rfl) ?_
  refine q_ald rfl rfl ?_
  refine q_getz rfl sk_101 ?_
  refine q_if (c := 0) rfl (by decide) (fun g => ?_) (fun g => ?_)
  rotate_left
  · have g : (I 101 4).toInt ≠ 0 := g
    have c0 : ¬ (s.2.2.2.2 = none) := fun h => g (by rw [hk4, if_pos h])
    refine q_ald rfl rfl ?_
    refine q_ic rfl ?_
    refine fl_step (c := 3) rfl rfl (grT (s := s)) hR (fun I1 hI1 g7 g8 => ?_)
    rw [h4] at g8
    have eR : (gkW (tbC I0) N m T s) = (3, T.2.1, 0, g0) := by simp only [gkW, nbG, stG, c0, ne_eq, not_false_eq_true, not_true_eq_false, ↓reduceIte]
    rw [eR] at hno
    exact hno (nn rfl) I1 _ hI1 g7 g8
  have g : (I 101 4).toInt = 0 := g
  have c0 : s.2.2.2.2 = none := by
    by_cases e : s.2.2.2.2 = none
    · exact e
    · rw [if_neg e] at hk4; omega
  refine q_ald rfl rfl ?_
  refine q_ic rfl ?_
  refine q_ic rfl ?_
  obtain ⟨T1, hT1⟩ : ∃ t, t = tkF (tbC I0) N m T.2.2.1 := ⟨_, rfl⟩
  have hinT1 := tkF_in (b := tbC I0) (n := N) (m := m) (p := T.2.2.1) hTN
  refine tn_step (p := T.2.2.1) rfl rfl rfl rfl (grT (s := s)) hR hN hN9 hm h3 hTN ?_ ?_
  rotate_left
  · intro e I9 hI9 g7 g8
    rw [← hT1] at e g7 g8
    have e : nbF T1 0 999 ≠ 0 := e
    have eR : (gkW (tbC I0) N m T s) = (nbF T1 0 999, T1.2.1, 0, g0) := by simp only [gkW, nbG, stG, c0, ← hT1, e, ne_eq, not_false_eq_true, not_true_eq_false, ↓reduceIte]
    rw [eR] at hno
    exact hno e I9 _ hI9 g7 g8
  intro eT1 I1 hI1 gT13 gT16
  rw [← hT1] at eT1 gT13 gT16 hinT1
  have eT1 : nbF T1 0 999 = 0 := eT1
  refine q_ald rfl rfl ?_
  refine q_ic rfl ?_
  refine q_putz rfl sk_101 (Or.inr rfl) ?_
  refine q_ald rfl rfl ?_
  refine q_getr rfl sk_101 sr_101_0 ?_
  refine q_ald rfl rfl ?_
  refine q_geti rfl sk_1 ?_
  refine q_puti rfl sk_102 ?_
  show dw_ok (pr_X1_readStock K) 42 0 0 [some (.ref 101), some (.ref 1)] [] (n, SH1, dw_up (dw_up I1 101 4 1) 102 4 (I1 1 6), J)
  rw [gT16]
  have hRd := GR_stock (v := T1.2.2.2) hI1
  have v3 : (dw_up (dw_up I1 101 4 1) 102 4 T1.2.2.2 1 3).toInt = T1.2.2.1 := gT13
  generalize dw_up (dw_up I1 101 4 1) 102 4 T1.2.2.2 = I2 at hRd v3 ⊢
  refine q_ald rfl rfl ?_
  obtain ⟨T2, hT2⟩ : ∃ t, t = tkF (tbC I0) N m T1.2.2.1 := ⟨_, rfl⟩
  have hinT2 := tkF_in (b := tbC I0) (n := N) (m := m) (p := T1.2.2.1) hinT1.2.2.1
  refine ts_step (p := T1.2.2.1) rfl rfl grT hRd hN hN9 hm v3 hinT1.2.2.1 ?_ ?_
  rotate_left
  · intro e I9 hI9 g7 g8
    rw [← hT2] at e g8
    have eR : (gkW (tbC I0) N m T s) = (1, T2.2.1, 0, g0) := by simp only [gkW, nbG, stG, c0, ← hT1, eT1, ← hT2, e, ne_eq, not_false_eq_true, not_true_eq_false, ↓reduceIte]
    rw [eR] at hno
    exact hno (nn rfl) I9 _ hI9 g7 g8
  intro e I9 hI9 g3
  rw [← hT2] at e g3 hinT2
  have eR : (gkW (tbC I0) N m T s) = (0, 0, T2.2.2.1, s.1, s.2.1, s.2.2.1, s.2.2.2.1, some T1.2.2.2) := by simp only [gkW, nbG, stG, c0, ← hT1, eT1, ← hT2, e, ne_eq, not_false_eq_true, not_true_eq_false, ↓reduceIte]
  rw [eR] at hok
  exact hok rfl I9 hI9 g3 hinT2.2.2.1 (show T.2.2.1 ≤ T2.2.2.1 by omega) hOK
set_option maxRecDepth 8000 in
theorem v_gline {n : Nat} {I : Nat → Nat → Int32} {J : Nat → Nat → Int64} {K : dw_K} {I0 : Nat → Nat → Int32} {s : gS} {T : fT} {N m : Nat} (hR : GRp I0 I s) (hOK : gOK N s) (hN : (I0 1 1).toInt = N) (hN9 : N ≤ 940) (hm : (I0 1 2).toInt = m) (h3 : (I 1 3).toInt = T.2.2.1) (h4 : (I 1 4).toInt = T.2.1) (h5 : (I 1 5).toInt = T.1) (hTN : T.2.2.1 ≤ N) (hT2 : T.2.1 ≤ N)
    (hok : (gkF (tbC I0) N m T s).1 = 0 → ∀ I' : Nat → Nat → Int32, GRp I0 I' (gkF (tbC I0) N m T s).2.2.2 → (I' 1 3).toInt = (gkF (tbC I0) N m T s).2.2.1 → (gkF (tbC I0) N m T s).2.2.1 ≤ N → T.2.2.1 ≤ (gkF (tbC I0) N m T s).2.2.1 → gOK N (gkF (tbC I0) N m T s).2.2.2 → K (some (.int 1)) (n, SH1, I', J))
    (hno : (gkF (tbC I0) N m T s).1 ≠ 0 → ∀ (I' : Nat → Nat → Int32) (s' : gS), GRp I0 I' s' → (I' 1 7).toInt = (gkF (tbC I0) N m T s).1 → (I' 1 8).toInt = (gkF (tbC I0) N m T s).2.1 → K (some (.int 0)) (n, SH1, I', J)) : t_X1_readLine [.ref 101, .ref 1] (n, SH1, I, J) K := by
  have e1 : I 1 1 = I0 1 1 := hR.2.1 1 (by decide)
  have hN1 : (I 1 1).toInt = N := by rw [e1]; exact hN
  have hb : tbC I = tbC I0 := tbC_eq e1 (hR.1 2 (by decide) (by decide))
  refine q_body (Nat.le_of_ble_eq_true rfl) ?_
  refine q_ald rfl rfl ?_
  refine q_str rfl ?_
  refine q_callV (as := [.ref 1000001]) (rest := []) rfl rfl sk_1 rfl (Nat.le_of_ble_eq_true rfl) ?_
  refine v_says (T := T) (w := dw_sb 0) hN1 hN9 ⟨by decide, by decide⟩ rfl (st_ok (by decide)).1 (st_ok (by decide)).2 h3 h4 h5 hTN hT2 (fun v vc => ?_)
  rw [hb] at vc
  show dw_ok (pr_X1_readLine K) 6 0 0 [some (.ref 101), some (.ref 1)] [.int v] (n, SH1, I, J)
  rcases vc with ⟨rfl, s0⟩ | ⟨rfl, s0⟩
  · have eR : (gkF (tbC I0) N m T s) = gkA (tbC I0) N m T s := by unfold gkF; rw [if_pos s0]
    rw [eR] at hok hno
    refine q_if (c := 0) rfl (by decide) (fun h => absurd (show (1 : Int32).toInt = 0 from h) (by decide)) (fun _ => ?_)
    refine q_ald rfl rfl ?_
    refine q_ald rfl rfl ?_
    refine q_callV (as := [.ref 1]) (rest := []) rfl rfl sk_101 rfl (Nat.le_of_ble_eq_true rfl) ?_
    exact v_readKind hR hOK hN hN9 hm h3 h4 h5 hTN hT2 (fun e I1 a1 a2 a3 a4 a5 => q_zret rfl (Or.inr rfl) (hok e I1 a1 a2 a3 a4 a5)) (fun e I1 s1 a1 a2 a3 => q_zret rfl (Or.inl rfl) (hno e I1 s1 a1 a2 a3))
  refine q_if (c := 0) rfl (by decide) (fun _ => ?_) (fun h => absurd rfl h)
  refine q_ald rfl rfl ?_
  refine q_str rfl ?_
  refine q_callV (as := [.ref 1000016]) (rest := []) rfl rfl sk_1 rfl (Nat.le_of_ble_eq_true rfl) ?_
  refine v_says (T := T) (w := dw_sb 15) hN1 hN9 ⟨by decide, by decide⟩ rfl (st_ok (by decide)).1 (st_ok (by decide)).2 h3 h4 h5 hTN hT2 (fun v vc => ?_)
  rw [hb] at vc
  show dw_ok (pr_X1_readLine K) 21 0 0 [some (.ref 101), some (.ref 1)] [.int v] (n, SH1, I, J)
  rcases vc with ⟨rfl, s15⟩ | ⟨rfl, s15⟩
  · have eR : (gkF (tbC I0) N m T s) = gkR (tbC I0) N m T s := by unfold gkF; rw [if_neg s0, if_pos s15]
    rw [eR] at hok hno
    refine q_if (c := 0) rfl (by decide) (fun h => absurd (show (1 : Int32).toInt = 0 from h) (by decide)) (fun _ => ?_)
    refine q_ald rfl rfl ?_
    refine q_ald rfl rfl ?_
    refine q_callV (as := [.ref 1]) (rest := []) rfl rfl sk_101 rfl (Nat.le_of_ble_eq_true rfl) ?_
    exact v_readRow hR hOK hN hN9 hm h3 h4 h5 hTN hT2 (fun e I1 a1 a2 a3 a4 a5 => q_zret rfl (Or.inr rfl) (hok e I1 a1 a2 a3 a4 a5)) (fun e I1 s1 a1 a2 a3 => q_zret rfl (Or.inl rfl) (hno e I1 s1 a1 a2 a3))
  refine q_if (c := 0) rfl (by decide) (fun _ => ?_) (fun h => absurd rfl h)
  refine q_ald rfl rfl ?_
  refine q_str rfl ?_
  refine q_callV (as := [.ref 1000017]) (rest := []) rfl rfl sk_1 rfl (Nat.le_of_ble_eq_true rfl) ?_
  refine v_says (T := T) (w := dw_sb 16) hN1 hN9 ⟨by decide, by decide⟩ rfl (st_ok (by decide)).1 (st_ok (by decide)).2 h3 h4 h5 hTN hT2 (fun v vc => ?_)
  rw [hb] at vc
  show dw_ok (pr_X1_readLine K) 36 0 0 [some (.ref 101), some (.ref 1)] [.int v] (n, SH1, I, J)
  rcases vc with ⟨rfl, s16⟩ | ⟨rfl, s16⟩
  · have eR : (gkF (tbC I0) N m T s) = gkS (tbC I0) N m T s := by unfold gkF; rw [if_neg s0, if_neg s15, if_pos s16]
    rw [eR] at hok hno
    refine q_if (c := 0) rfl (by decide) (fun h => absurd (show (1 : Int32).toInt = 0 from h) (by decide)) (fun _ => ?_)
    refine q_ald rfl rfl ?_
    refine q_ald rfl rfl ?_
    refine q_callV (as := [.ref 1]) (rest := []) rfl rfl sk_101 rfl (Nat.le_of_ble_eq_true rfl) ?_
    exact v_readShade hR hOK hN hN9 hm h3 h4 h5 hTN hT2 (fun e I1 a1 a2 a3 a4 a5 => q_zret rfl (Or.inr rfl) (hok e I1 a1 a2 a3 a4 a5)) (fun e I1 s1 a1 a2 a3 => q_zret rfl (Or.inl rfl) (hno e I1 s1 a1 a2 a3))
  refine q_if (c := 0) rfl (by decide) (fun _ => ?_) (fun h => absurd rfl h)
  refine q_ald rfl rfl ?_
  refine q_str rfl ?_
  refine q_callV (as := [.ref 1000018]) (rest := []) rfl rfl sk_1 rfl (Nat.le_of_ble_eq_true rfl) ?_
  refine v_says (T := T) (w := dw_sb 17) hN1 hN9 ⟨by decide, by decide⟩ rfl (st_ok (by decide)).1 (st_ok (by decide)).2 h3 h4 h5 hTN hT2 (fun v vc => ?_)
  rw [hb] at vc
  show dw_ok (pr_X1_readLine K) 51 0 0 [some (.ref 101), some (.ref 1)] [.int v] (n, SH1, I, J)
  rcases vc with ⟨rfl, s17⟩ | ⟨rfl, s17⟩
  · have eR : (gkF (tbC I0) N m T s) = gkW (tbC I0) N m T s := by unfold gkF; rw [if_neg s0, if_neg s15, if_neg s16, if_pos s17]
    rw [eR] at hok hno
    refine q_if (c := 0) rfl (by decide) (fun h => absurd (show (1 : Int32).toInt = 0 from h) (by decide)) (fun _ => ?_)
    refine q_ald rfl rfl ?_
    refine q_ald rfl rfl ?_
    refine q_callV (as := [.ref 1]) (rest := []) rfl rfl sk_101 rfl (Nat.le_of_ble_eq_true rfl) ?_
    exact v_readStock hR hOK hN hN9 hm h3 h4 h5 hTN hT2 (fun e I1 a1 a2 a3 a4 a5 => q_zret rfl (Or.inr rfl) (hok e I1 a1 a2 a3 a4 a5)) (fun e I1 s1 a1 a2 a3 => q_zret rfl (Or.inl rfl) (hno e I1 s1 a1 a2 a3))
  refine q_if (c := 0) rfl (by decide) (fun _ => ?_) (fun h => absurd rfl h)
  refine q_ald rfl rfl ?_
  refine q_ic rfl ?_
  refine fl_step (c := 1) rfl rfl (grT (s := s)) hR (fun I1 hI1 g7 g8 => ?_)
  rw [h4] at g8
  have eR : (gkF (tbC I0) N m T s) = (1, T.2.1, 0, g0) := by simp only [gkF, s0, s15, s16, s17, ne_eq, not_false_eq_true, not_true_eq_false, ↓reduceIte]
  rw [eR] at hno
  exact hno (nn rfl) I1 _ hI1 g7 g8
end
section
/-! ===== a GROUND's text read by the class; ground() ===== -/
set_option maxRecDepth 8000 in
theorem fi_abs_i {x : Int32} (h : -2147483648 < x.toInt) : (fi_abs x).toInt = if 0 ≤ x.toInt then x.toInt else - x.toInt := by
  have c0 : (0 : Int32).toInt = 0 := rfl
  have hb := dx_b2 x
  unfold fi_abs
  by_cases g : 0 ≤ x.toInt
  · rw [if_pos (fi_le.mpr (by rw [c0]; exact g)), if_pos g]
  · rw [if_neg (fun q => g (by have := fi_le.mp q; rw [c0] at this; exact this)), if_neg g, i_sub (by omega) (by omega), c0]
    omega
/-- what a shade hides at a place -/
def shF (v : Int32 × Int32 × Int32 × Int32) (x y : Int) : Int :=
  if (-v.2.2.1.toInt ≤ v.1.toInt - x ∧ v.1.toInt - x ≤ v.2.2.1.toInt) ∧ (-v.2.2.1.toInt ≤ v.2.1.toInt - y ∧ v.2.1.toInt - y ≤ v.2.2.1.toInt) then v.2.2.2.toInt else 0
def hdF (L : List (Int32 × Int32 × Int32 × Int32)) (x y : Int) : Nat → Int
  | 0 => 0
  | k + 1 => hdF L x y k + shF (atF (0, 0, 0, 0) L k) x y
def skyF (s : gS) (x y : Nat) : Int := max 0 (100 - hdF s.2.2.2.1 x y s.2.2.2.1.length)
set_option maxRecDepth 8000 in
theorem hd_b {N : Nat} {s : gS} {x y : Int} (h : gOK N s) : ∀ k, k ≤ s.2.2.2.1.length → 0 ≤ hdF s.2.2.2.1 x y k ∧ hdF s.2.2.2.1 x y k ≤ 100 * k
  | 0, _ => ⟨Int.le_refl 0, Int.le_refl 0⟩
  | k + 1, hk => by
    have h1 := hd_b (x := x) (y := y) h k (by omega)
    have h2 := h.2.2.2.2.2 _ (at_mem (d := (0, 0, 0, 0)) (show k < s.2.2.2.1.length by omega))
    show 0 ≤ hdF s.2.2.2.1 x y k + shF (atF (0, 0, 0, 0) s.2.2.2.1 k) x y ∧ hdF s.2.2.2.1 x y k + shF (atF (0, 0, 0, 0) s.2.2.2.1 k) x y ≤ 100 * (k + 1 : Nat)
    unfold shF
    split <;> omega
set_option maxRecDepth 8000 in
theorem ha_loop {n : Nat} {I0 I : Nat → Nat → Int32} {J : Nat → Nat → Int64} {K : dw_K} {bc bs N : Nat} {s : gS} {xv yv : Int32} (hR : GRp I0 I s) (hOK : gOK N s) (hx0 : 0 ≤ xv.toInt) (hx1 : xv.toInt ≤ 11) (hy0 : 0 ≤ yv.toInt) (hy1 : yv.toInt ≤ 11)
    (hk : ∀ w : Int32, w.toInt = hdF s.2.2.2.1 xv.toInt yv.toInt s.2.2.2.1.length → K (some (.int w)) (n, SH1, I, J)) :
    ∀ (f i : Nat) (h x : Int32) (s5 : Option Value), x.toInt = i → i ≤ s.2.2.2.1.length → s.2.2.2.1.length - i ≤ f → h.toInt = hdF s.2.2.2.1 xv.toInt yv.toInt i → dw_ok (pr_X1_hiddenAt K) 5 bc bs [some (.ref 101), some (.int xv), some (.int yv), some (.int h), some (.int x), s5] [] (n, SH1, I, J) := by
  have c1 : (1 : Int32).toInt = 1 := rfl
  have c12 : (12 : Int32).toInt = 12 := rfl
  have hS12 := hOK.2.2.2.1
  have hk3 : (I 102 3).toInt = s.2.2.2.1.length := hR.2.2.1.2.2.2.1
  intro f
  induction f with
  | zero =>
    intro i h x s5 hx hi hf hh
    refine q_ild rfl rfl ?_
    refine q_ald rfl rfl ?_
    refine q_getr rfl sk_101 sr_101_0 ?_
    refine q_geti rfl sk_102 ?_
    refine q_icmp (c := 3) rfl (by decide) (fun _ => ?_) (fun h => absurd (show x.toInt < (I 102 3).toInt from h) (by omega))
    refine q_ild rfl rfl ?_
    exact q_iret rfl (hk h (by rw [hh, show i = s.2.2.2.1.length by omega]))
  | succ f ih =>
    intro i h x s5 hx hi hf hh
    refine q_ild rfl rfl ?_
    refine q_ald rfl rfl ?_
    refine q_getr rfl sk_101 sr_101_0 ?_
    refine q_geti rfl sk_102 ?_
    refine q_icmp (c := 3) rfl (by decide) (fun g => ?_) (fun g => ?_)
    · have g : (I 102 3).toInt ≤ x.toInt := g
      refine q_ild rfl rfl ?_
      exact q_iret rfl (hk h (by rw [hh, show i = s.2.2.2.1.length by omega]))
    have g : x.toInt < (I 102 3).toInt := g
    have hil : i < s.2.2.2.1.length := by omega
    obtain ⟨r1, r2, r3⟩ := gs_ref (show i < 12 by omega)
    have hxn : x.toInt.toNat = i := by omega
    have hr : (SH1 110).2.2 x.toInt.toNat = some (111 + i) := by rw [hxn]; exact r1
    obtain ⟨v0, v1, v2, v3⟩ := hR.2.2.2.2.2.2 i hil
    have hv := hOK.2.2.2.2.2 _ (at_mem (d := (0, 0, 0, 0)) hil)
    have hb := hd_b (x := xv.toInt) (y := yv.toInt) hOK i (by omega)
    have hs : hdF s.2.2.2.1 xv.toInt yv.toInt (i + 1) = hdF s.2.2.2.1 xv.toInt yv.toInt i + shF (atF (0, 0, 0, 0) s.2.2.2.1 i) xv.toInt yv.toInt := rfl
    unfold shF at hs
    rw [← v0, ← v1, ← v2, ← v3] at hv hs
    have t2 : (x + 1).toInt = x.toInt + 1 := by rw [i_add (by omega) (by omega), c1]
    have a0 : (I (111 + i) 0 - xv).toInt = (I (111 + i) 0).toInt - xv.toInt := i_sub (by omega) (by omega)
    have a1 : (I (111 + i) 1 - yv).toInt = (I (111 + i) 1).toInt - yv.toInt := i_sub (by omega) (by omega)
    have b0 := fi_abs_i (x := I (111 + i) 0 - xv) (by omega)
    have b1 := fi_abs_i (x := I (111 + i) 1 - yv) (by omega)
    have b2 := fi_max_i (fi_abs (I (111 + i) 0 - xv)) (fi_abs (I (111 + i) 1 - yv))
    refine q_ild rfl rfl ?_
    refine q_ic rfl ?_
    refine q_icmp (c := 3) rfl (by decide) (fun w => absurd (show (12 : Int32).toInt ≤ x.toInt from w) (by omega)) (fun _ => ?_)
    refine q_ald rfl rfl ?_
    refine q_getr rfl sk_101 sr_101_3 ?_
    refine q_ild rfl rfl ?_
    refine q_xaldr rfl sk_110 sn_110 (by omega) (show x.toInt < (12 : Nat) by omega) hr ?_
    refine q_ic rfl ?_
    refine q_xald rfl (Or.inl rfl) r2 r3 (by decide) (by decide) ?_
    refine q_ild rfl rfl ?_
    refine q_sub rfl ?_
    refine q_abs rfl (by decide) ?_
    refine q_ald rfl rfl ?_
    refine q_getr rfl sk_101 sr_101_3 ?_
    refine q_ild rfl rfl ?_
    refine q_xaldr rfl sk_110 sn_110 (by omega) (show x.toInt < (12 : Nat) by omega) hr ?_
    refine q_ic rfl ?_
    refine q_xald rfl (Or.inl rfl) r2 r3 (by decide) (by decide) ?_
    refine q_ild rfl rfl ?_
    refine q_sub rfl ?_
    refine q_abs rfl rfl ?_
    refine q_max rfl rfl ?_
    refine q_ist rfl rfl ?_
    show dw_ok (pr_X1_hiddenAt K) 57 bc bs [some (.ref 101), some (.int xv), some (.int yv), some (.int h), some (.int x), some (.int (fi_max (fi_abs (I (111 + i) 0 - xv)) (fi_abs (I (111 + i) 1 - yv))))] [] (n, SH1, I, J)
    generalize fi_max (fi_abs (I (111 + i) 0 - xv)) (fi_abs (I (111 + i) 1 - yv)) = aw at b2 ⊢
    refine q_ild rfl rfl ?_
    refine q_ild rfl rfl ?_
    refine q_ald rfl rfl ?_
    refine q_getr rfl sk_101 sr_101_3 ?_
    refine q_ild rfl rfl ?_
    refine q_xaldr rfl sk_110 sn_110 (by omega) (show x.toInt < (12 : Nat) by omega) hr ?_
    refine q_ic rfl ?_
    refine q_xald rfl (Or.inl rfl) r2 r3 (by decide) (by decide) ?_
    have fin : ∀ z : Int32, (h + z).toInt = hdF s.2.2.2.1 xv.toInt yv.toInt (i + 1) → dw_ok (pr_X1_hiddenAt K) 85 bc bs [some (.ref 101), some (.int xv), some (.int yv), some (.int h), some (.int x), some (.int aw)] [.int z, .int h] (n, SH1, I, J) := by
      intro z hz
      refine q_add rfl ?_
      refine q_ist rfl rfl ?_
      refine q_inc rfl rfl rfl ?_
      refine q_goto rfl ?_
      exact ih (i + 1) (h + z) (x + 1) (some (.int aw)) (by omega) (by omega) (by omega) hz
    refine q_icmp (c := 4) rfl (by decide) (fun w => ?_) (fun w => ?_)
    · have w : (I (111 + i) 2).toInt < aw.toInt := w
      refine q_ic rfl ?_
      refine fin 0 ?_
      have c0 : (0 : Int32).toInt = 0 := rfl
      rw [hs, if_neg (by split at b0 <;> split at b1 <;> omega), i_add (by omega) (by omega), c0, hh]
    · have w : aw.toInt ≤ (I (111 + i) 2).toInt := w
      refine q_ald rfl rfl ?_
      refine q_getr rfl sk_101 sr_101_3 ?_
      refine q_ild rfl rfl ?_
      refine q_xaldr rfl sk_110 sn_110 (by omega) (show x.toInt < (12 : Nat) by omega) hr ?_
      refine q_ic rfl ?_
      refine q_xald rfl (Or.inl rfl) r2 r3 (by decide) (by decide) ?_
      refine q_goto rfl ?_
      refine fin (I (111 + i) 3) ?_
      rw [hs, if_pos (by split at b0 <;> split at b1 <;> omega), i_add (by omega) (by omega), hh]
set_option maxRecDepth 8000 in
theorem v_hiddenAt {n : Nat} {I0 I : Nat → Nat → Int32} {J : Nat → Nat → Int64} {K : dw_K} {N : Nat} {s : gS} {xv yv : Int32} (hR : GRp I0 I s) (hOK : gOK N s) (hx0 : 0 ≤ xv.toInt) (hx1 : xv.toInt ≤ 11) (hy0 : 0 ≤ yv.toInt) (hy1 : yv.toInt ≤ 11)
    (hk : ∀ w : Int32, w.toInt = hdF s.2.2.2.1 xv.toInt yv.toInt s.2.2.2.1.length → K (some (.int w)) (n, SH1, I, J)) : t_X1_hiddenAt [.ref 101, .int xv, .int yv] (n, SH1, I, J) K := by
  refine q_body (Nat.le_of_ble_eq_true rfl) ?_
  refine q_ic rfl ?_
  refine q_ist rfl rfl ?_
  refine q_ic rfl ?_
  refine q_ist rfl rfl ?_
  exact ha_loop hR hOK hx0 hx1 hy0 hy1 hk s.2.2.2.1.length 0 0 0 none rfl (Nat.zero_le _) (Nat.le_refl _) rfl
set_option maxRecDepth 8000 in
theorem GR_107 {I0 I : Nat → Nat → Int32} {s : gS} {j : Nat} {v : Int32} (h : GRp I0 I s) : GRp I0 (dw_up I 107 j v) s := by
  obtain ⟨h1, h2, h3, h4, h5, h6, h7⟩ := h
  have er : ∀ a, a ≠ 107 → dw_up I 107 j v a = I a := fun a ha => up_row ha
  generalize dw_up I 107 j v = I2 at er ⊢
  refine ⟨fun a g1 g2 => (er a (by omega)).trans (h1 a g1 g2), fun i hi => ?_, ?_, ?_, fun i hi => ?_, fun y hy x hx => ?_, fun i hi => ?_⟩
  · rw [er 1 (by decide)]; exact h2 i hi
  · rw [er 102 (by decide)]; exact h3
  · rw [er 101 (by decide)]; exact h4
  · rw [er 108 (by decide), er 109 (by decide), er 103 (by decide), er 104 (by decide), er 105 (by decide)]
    exact h5 i hi
  · rw [er 106 (by decide)]; exact h6 y hy x hx
  · rw [er (111 + i) (by omega)]; exact h7 i hi
set_option maxRecDepth 8000 in
theorem sx_loop {n : Nat} {I0 : Nat → Nat → Int32} {J : Nat → Nat → Int64} {K : dw_K} {bc bs N y : Nat} {s : gS} {yv : Int32} (hOK : gOK N s) (hy : yv.toInt = y) (hyR : y < s.2.2.1.length)
    (hk : ∀ (I : Nat → Nat → Int32) (x : Int32) (s3 : Option Value), GRp I0 I s → (∀ y', y' < y + 1 → ∀ x', x' < s.2.1 → (I 107 (y' * s.2.1 + x')).toInt = skyF s x' y') → dw_ok (pr_X1_setSky K) 73 bc bs [some (.ref 101), some (.int yv), some (.int x), s3] [] (n, SH1, I, J)) :
    ∀ (f i : Nat) (x : Int32) (s3 : Option Value) (I : Nat → Nat → Int32), x.toInt = i → i ≤ s.2.1 → s.2.1 - i ≤ f → GRp I0 I s → (∀ y', y' < y → ∀ x', x' < s.2.1 → (I 107 (y' * s.2.1 + x')).toInt = skyF s x' y') → (∀ x', x' < i → (I 107 (y * s.2.1 + x')).toInt = skyF s x' y) → dw_ok (pr_X1_setSky K) 15 bc bs [some (.ref 101), some (.int yv), some (.int x), s3] [] (n, SH1, I, J) := by
  have c1 : (1 : Int32).toInt = 1 := rfl
  have c0 : (0 : Int32).toInt = 0 := rfl
  have c100 : (100 : Int32).toInt = 100 := rfl
  have c144 : (144 : Int32).toInt = 144 := rfl
  have hC12 := hOK.2.1
  have hR12 := hOK.2.2.1
  have h144 : s.2.2.1.length * s.2.1 ≤ 144 := Nat.le_trans (Nat.mul_le_mul hR12 hC12) (Nat.le_of_ble_eq_true rfl)
  have done : ∀ (i : Nat) (I : Nat → Nat → Int32), s.2.1 ≤ i → (∀ y', y' < y → ∀ x', x' < s.2.1 → (I 107 (y' * s.2.1 + x')).toInt = skyF s x' y') → (∀ x', x' < i → (I 107 (y * s.2.1 + x')).toInt = skyF s x' y) → ∀ y', y' < y + 1 → ∀ x', x' < s.2.1 → (I 107 (y' * s.2.1 + x')).toInt = skyF s x' y' := by
    intro i I hi h1 h2 y' hy' x' hx'
    by_cases e : y' = y
    · rw [e]; exact h2 x' (by omega)
    · exact h1 y' (by omega) x' hx'
  intro f
  induction f with
  | zero =>
    intro i x s3 I hx hi hf hR h1 h2
    have hk0 : (I 102 0).toInt = s.2.1 := hR.2.2.1.1
    refine q_ild rfl rfl ?_
    refine q_ald rfl rfl ?_
    refine q_getr rfl sk_101 sr_101_0 ?_
    refine q_geti rfl sk_102 ?_
    refine q_icmp (c := 3) rfl (by decide) (fun _ => ?_) (fun h => absurd (show x.toInt < (I 102 0).toInt from h) (by omega))
    exact hk I x s3 hR (done i I (by omega) h1 h2)
  | succ f ih =>
    intro i x s3 I hx hi hf hR h1 h2
    have hk0 : (I 102 0).toInt = s.2.1 := hR.2.2.1.1
    refine q_ild rfl rfl ?_
    refine q_ald rfl rfl ?_
    refine q_getr rfl sk_101 sr_101_0 ?_
    refine q_geti rfl sk_102 ?_
    refine q_icmp (c := 3) rfl (by decide) (fun g => ?_) (fun g => ?_)
    · have g : (I 102 0).toInt ≤ x.toInt := g
      exact hk I x s3 hR (done i I (by omega) h1 h2)
    have g : x.toInt < (I 102 0).toInt := g
    have hiC : i < s.2.1 := by omega
    have hix := idx_lt hyR hiC
    have t2 : (x + 1).toInt = x.toInt + 1 := by rw [i_add (by omega) (by omega), c1]
    have tm : (yv * I 102 0).toInt = (y * s.2.1 : Nat) := i_mul (by rw [hk0, hy]; exact (Int.natCast_mul _ _).symm) (by omega) (by omega)
    have tc : (yv * I 102 0 + x).toInt = (y * s.2.1 + i : Nat) := by rw [i_add (by omega) (by omega)]; omega
    refine q_ild rfl rfl ?_
    refine q_ald rfl rfl ?_
    refine q_getr rfl sk_101 sr_101_0 ?_
    refine q_geti rfl sk_102 ?_
    refine q_mul rfl ?_
    refine q_ild rfl rfl ?_
    refine q_add rfl ?_
    refine q_ist rfl rfl ?_
    show dw_ok (pr_X1_setSky K) 38 bc bs [some (.ref 101), some (.int yv), some (.int x), some (.int (yv * I 102 0 + x))] [] (n, SH1, I, J)
    generalize yv * I 102 0 + x = cv at tc ⊢
    refine q_ild rfl rfl ?_
    refine q_ic rfl ?_
    refine q_icmp (c := 3) rfl (by decide) (fun w => absurd (show (144 : Int32).toInt ≤ cv.toInt from w) (by omega)) (fun _ => ?_)
    refine q_ald rfl rfl ?_
    refine q_getr rfl sk_101 sr_101_0 ?_
    refine q_getr rfl sk_102 sr_102_9 ?_
    refine q_ild rfl rfl ?_
    refine q_ic rfl ?_
    refine q_ic rfl ?_
    refine q_ald rfl rfl ?_
    refine q_ild rfl rfl ?_
    refine q_ild rfl rfl ?_
    refine q_callV (as := [.int x, .int yv]) (rest := [.int 100, .int 0, .int cv, .ref 107]) rfl rfl sk_101 rfl (Nat.le_of_ble_eq_true rfl) ?_
    refine v_hiddenAt hR hOK (by omega) (by omega) (by omega) (by omega) (fun w hw => ?_)
    have hb := hd_b (x := x.toInt) (y := yv.toInt) hOK s.2.2.2.1.length (Nat.le_refl _)
    have hS12 := hOK.2.2.2.1
    show dw_ok (pr_X1_setSky K) 62 bc bs [some (.ref 101), some (.int yv), some (.int x), some (.int cv)] [.int w, .int 100, .int 0, .int cv, .ref 107] (n, SH1, I, J)
    have ts : (100 - w).toInt = 100 - w.toInt := by rw [i_sub (by omega) (by omega), c100]
    have tx : (fi_max 0 (100 - w)).toInt = skyF s i y := by
      rw [fi_max_i, ts, c0, hw, hx, hy]
      rfl
    refine q_sub rfl ?_
    refine q_max rfl rfl ?_
    refine q_iast rfl sk_107 sn_107 (by omega) (show cv.toInt < (144 : Nat) by omega) ?_
    show dw_ok (pr_X1_setSky K) 67 bc bs [some (.ref 101), some (.int yv), some (.int x), some (.int cv)] [] (n, SH1, dw_up I 107 cv.toInt.toNat (fi_max 0 (100 - w)), J)
    have ec : cv.toInt.toNat = y * s.2.1 + i := by omega
    rw [ec]
    generalize fi_max 0 (100 - w) = sv at tx ⊢
    refine q_inc rfl rfl rfl ?_
    refine q_goto rfl ?_
    refine ih (i + 1) (x + 1) (some (.int cv)) _ (by omega) (by omega) (by omega) (GR_107 hR) (fun y' hy' x' hx' => ?_) (fun x' hx' => ?_)
    · have q := idx_lt hy' hx'
      rw [up_fld (by omega)]; exact h1 y' hy' x' hx'
    · by_cases e : x' = i
      · rw [e, up_same]; exact tx
      · rw [up_fld (by omega)]; exact h2 x' (by omega)
set_option maxRecDepth 8000 in
theorem sy2_loop {n : Nat} {I0 : Nat → Nat → Int32} {J : Nat → Nat → Int64} {K : dw_K} {bc bs N : Nat} {s : gS} (hOK : gOK N s)
    (hk : ∀ I : Nat → Nat → Int32, GRp I0 I s → (∀ y', y' < s.2.2.1.length → ∀ x', x' < s.2.1 → (I 107 (y' * s.2.1 + x')).toInt = skyF s x' y') → K none (n, SH1, I, J)) :
    ∀ (f i : Nat) (y : Int32) (s2 s3 : Option Value) (I : Nat → Nat → Int32), y.toInt = i → i ≤ s.2.2.1.length → s.2.2.1.length - i ≤ f → GRp I0 I s → (∀ y', y' < i → ∀ x', x' < s.2.1 → (I 107 (y' * s.2.1 + x')).toInt = skyF s x' y') → dw_ok (pr_X1_setSky K) 2 bc bs [some (.ref 101), some (.int y), s2, s3] [] (n, SH1, I, J) := by
  have c1 : (1 : Int32).toInt = 1 := rfl
  have hR12 := hOK.2.2.1
  intro f
  induction f with
  | zero =>
    intro i y s2 s3 I hy hi hf hR h1
    have hk1 : (I 102 1).toInt = s.2.2.1.length := hR.2.2.1.2.1
    refine q_ild rfl rfl ?_
    refine q_ald rfl rfl ?_
    refine q_getr rfl sk_101 sr_101_0 ?_
    refine q_geti rfl sk_102 ?_
    refine q_icmp (c := 3) rfl (by decide) (fun _ => ?_) (fun h => absurd (show y.toInt < (I 102 1).toInt from h) (by omega))
    exact q_vret rfl (hk I hR (fun y' hy' => h1 y' (by omega)))
  | succ f ih =>
    intro i y s2 s3 I hy hi hf hR h1
    have hk1 : (I 102 1).toInt = s.2.2.1.length := hR.2.2.1.2.1
    refine q_ild rfl rfl ?_
    refine q_ald rfl rfl ?_
    refine q_getr rfl sk_101 sr_101_0 ?_
    refine q_geti rfl sk_102 ?_
    refine q_icmp (c := 3) rfl (by decide) (fun g => ?_) (fun g => ?_)
    · have g : (I 102 1).toInt ≤ y.toInt := g
      exact q_vret rfl (hk I hR (fun y' hy' => h1 y' (by omega)))
    have g : y.toInt < (I 102 1).toInt := g
    have t2 : (y + 1).toInt = y.toInt + 1 := by rw [i_add (by omega) (by omega), c1]
    refine q_ic rfl ?_
    refine q_ist rfl rfl ?_
    show dw_ok (pr_X1_setSky K) 15 bc bs [some (.ref 101), some (.int y), some (.int 0), s3] [] (n, SH1, I, J)
    refine sx_loop (y := i) hOK hy (by omega) (fun I2 x s3 hR2 h2 => ?_) s.2.1 0 0 s3 I rfl (Nat.zero_le _) (Nat.le_refl _) hR h1 (fun x' hx' => absurd hx' (Nat.not_lt_zero _))
    refine q_inc rfl rfl rfl ?_
    refine q_goto rfl ?_
    exact ih (i + 1) (y + 1) (some (.int x)) s3 I2 (by omega) (by omega) (by omega) hR2 h2
set_option maxRecDepth 8000 in
theorem v_setSky {n : Nat} {I0 I : Nat → Nat → Int32} {J : Nat → Nat → Int64} {K : dw_K} {N : Nat} {s : gS} (hR : GRp I0 I s) (hOK : gOK N s)
    (hk : ∀ I' : Nat → Nat → Int32, GRp I0 I' s → (∀ y', y' < s.2.2.1.length → ∀ x', x' < s.2.1 → (I' 107 (y' * s.2.1 + x')).toInt = skyF s x' y') → K none (n, SH1, I', J)) : t_X1_setSky [.ref 101] (n, SH1, I, J) K := by
  refine q_body (Nat.le_of_ble_eq_true rfl) ?_
  refine q_ic rfl ?_
  refine q_ist rfl rfl ?_
  exact sy2_loop hOK hk s.2.2.1.length 0 0 none none I rfl (Nat.zero_le _) (Nat.le_refl _) hR (fun y' hy' => absurd hy' (Nat.not_lt_zero _))
/-- a GROUND read: all of it -/
def GSk (I : Nat → Nat → Int32) (s : gS) : Prop := ∀ y', y' < s.2.2.1.length → ∀ x', x' < s.2.1 → (I 107 (y' * s.2.1 + x')).toInt = skyF s x' y'
set_option maxRecDepth 8000 in
theorem gt_loop {n : Nat} {I0 : Nat → Nat → Int32} {J : Nat → Nat → Int64} {K : dw_K} {bc bs N m : Nat} {G : Nat × Nat × Nat × gS} (hN : (I0 1 1).toInt = N) (hN9 : N ≤ 940) (hm : (I0 1 2).toInt = m)
    (hok : G.1 = 0 → ∀ (I' : Nat → Nat → Int32) (w : Int32), GRp I0 I' G.2.2.2 → GSk I' G.2.2.2 → gOK N G.2.2.2 → w.toInt = G.2.2.1 → w.toInt ≤ 940 → K (some (.int w)) (n, SH1, I', J))
    (hno : G.1 ≠ 0 → ∀ (I' : Nat → Nat → Int32) (s' : gS), GRp I0 I' s' → (I' 1 7).toInt = G.1 → (I' 1 8).toInt = G.2.1 → K (some (.int (-1))) (n, SH1, I', J)) :
    ∀ (f ln p : Nat) (i : Int32) (s : gS) (I : Nat → Nat → Int32), ln + f = 940 → ln ≤ p → ggF (tbC I0) N m (f + 1) ln p s = G → GRp I0 I s → gOK N s → (I 1 3).toInt = p → p ≤ N → i.toInt = ln → dw_ok (pr_X1_readText K) 21 bc bs [some (.ref 101), some (.ref 1), some (.int i)] [] (n, SH1, I, J) := by
  have c940 : (940 : Int32).toInt = 940 := rfl
  have c1 : (1 : Int32).toInt = 1 := rfl
  -- one round, whatever follows a line
  have round : ∀ (f ln p : Nat) (i : Int32) (s : gS) (I : Nat → Nat → Int32), ln ≤ 940 → ln ≤ p → ggF (tbC I0) N m (f + 1) ln p s = G → GRp I0 I s → gOK N s → (I 1 3).toInt = p → p ≤ N → i.toInt = ln →
      (∀ (p' : Nat) (s' : gS) (I' : Nat → Nat → Int32), p < p' → ggF (tbC I0) N m f (ln + 1) p' s' = G → GRp I0 I' s' → gOK N s' → (I' 1 3).toInt = p' → p' ≤ N → dw_ok (pr_X1_readText K) 55 bc bs [some (.ref 101), some (.ref 1), some (.int i)] [] (n, SH1, I', J)) →
      dw_ok (pr_X1_readText K) 21 bc bs [some (.ref 101), some (.ref 1), some (.int i)] [] (n, SH1, I, J) := by
    intro f ln p i s I hf hlp hG hR hOK h3 hp hi next
    refine q_ild rfl rfl ?_
    refine q_ic rfl ?_
    refine q_icmp (c := 4) rfl (by decide) (fun h => absurd (show (940 : Int32).toInt < i.toInt from h) (by omega)) (fun _ => ?_)
    refine q_ald rfl rfl ?_
    refine tk_step (p := p) rfl (grT (s := s)) hR hN hN9 hm h3 hp (fun I1 hR1 g3 g4 g5 => ?_)
    have hin := tkF_in (b := tbC I0) (n := N) (m := m) (p := p) hp
    unfold ggF at hG
    refine q_ald rfl rfl ?_
    refine q_geti rfl sk_1 ?_
    refine q_if (c := 1) rfl (by decide) (fun h => ?_) (fun h => ?_)
    · have h : (I1 1 5).toInt ≠ 0 := h
      have hT0 : ¬ (tkF (tbC I0) N m p).1 = 0 := by omega
      rw [if_neg hT0] at hG
      refine q_ald rfl rfl ?_
      refine q_ald rfl rfl ?_
      refine q_callV (as := [.ref 1]) (rest := []) rfl rfl sk_101 rfl (Nat.le_of_ble_eq_true rfl) ?_
      refine v_gline hR1 hOK hN hN9 hm g3 g4 g5 hin.2.2.1 hin.1 (fun hr I2 hR2 g23 hle hadv hOK2 => ?_) (fun hr I2 s2 hR2 g7 g8 => ?_)
      · rw [if_pos hr] at hG
        show dw_ok (pr_X1_readText K) 50 bc bs [some (.ref 101), some (.ref 1), some (.int i)] [.int 1] (n, SH1, I2, J)
        refine q_if (c := 1) rfl (by decide) (fun _ => ?_) (fun h => absurd (show (1 : Int32).toInt = 0 from h) (by decide))
        have hp2 : p < (tkF (tbC I0) N m p).2.2.1 := by
          have hk := gk_kind hr
          exact (hin.2.2.2 (Or.inl hk)).1
        exact next _ _ I2 (by omega) hG hR2 hOK2 g23 hle
      · rw [if_neg hr] at hG
        show dw_ok (pr_X1_readText K) 50 bc bs [some (.ref 101), some (.ref 1), some (.int i)] [.int 0] (n, SH1, I2, J)
        refine q_if (c := 1) rfl (by decide) (fun h => absurd rfl h) (fun _ => ?_)
        refine q_ic rfl ?_
        rw [← hG] at hno
        exact q_iret rfl (hno hr I2 s2 hR2 g7 g8)
    · have h : (I1 1 5).toInt = 0 := h
      have hT0 : (tkF (tbC I0) N m p).1 = 0 := by omega
      rw [if_pos hT0] at hG
      refine q_ald rfl rfl ?_
      refine q_callV (as := []) (rest := []) rfl rfl sk_101 rfl (Nat.le_of_ble_eq_true rfl) ?_
      refine v_setSky hR1 hOK (fun I2 hR2 hS2 => ?_)
      show dw_ok (pr_X1_readText K) 43 bc bs [some (.ref 101), some (.ref 1), some (.int i)] [] (n, SH1, I2, J)
      refine q_ild rfl rfl ?_
      rw [← hG] at hok
      exact q_iret rfl (hok rfl I2 i hR2 hS2 hOK hi (by omega))
  intro f
  induction f with
  | zero =>
    intro ln p i s I hf hlp hG hR hOK h3 hp hi
    refine round 0 ln p i s I (by omega) hlp hG hR hOK h3 hp hi (fun p' s' I' hp' hG' _ _ _ hle => ?_)
    omega
  | succ f ih =>
    intro ln p i s I hf hlp hG hR hOK h3 hp hi
    refine round (f + 1) ln p i s I (by omega) hlp hG hR hOK h3 hp hi (fun p' s' I' hp' hG' hR' hOK' h3' hle => ?_)
    refine q_inc rfl rfl rfl ?_
    refine q_goto rfl ?_
    exact ih (ln + 1) p' (i + 1) s' I' (by omega) (by omega) hG' hR' hOK' h3' hle (by rw [i_add (by omega) (by omega), c1]; omega)
end
