/-! ===== feed: the tapes' bytes ===== -/
def byF (v : Int32) (j : Nat) : Int32 := ((v.toUInt32 >>> ((Int32.ofNat (24 - 8 * j)).toUInt32 &&& Int32.toUInt32 31)).toInt32) &&& 255
set_option maxRecDepth 8000 in
theorem ad_loop {n bc bs N : Nat} {K : dw_K} {I0 : Nat → Nat → Int32} {J : Nat → Nat → Int64} {v : Int32} (hN : (I0 1 1).toInt = N) (hN9 : N + 4 ≤ 940)
    (hk : ∀ I' : Nat → Nat → Int32, (∀ a, a ≠ 1 → a ≠ 2 → I' a = I0 a) → (∀ j, j ≠ 1 → I' 1 j = I0 1 j) → (I' 1 1).toInt = (N + 4 : Nat) → (∀ k, k < N ∨ N + 4 ≤ k → I' 2 k = I0 2 k) → (∀ j, j < 4 → I' 2 (N + j) = byF v j) → K none (n, SH1, I', J)) :
    ∀ (f i : Nat) (x : Int32) (I : Nat → Nat → Int32), i + f = 4 → x.toInt = 24 - 8 * i → (∀ a, a ≠ 1 → a ≠ 2 → I a = I0 a) → (∀ j, j ≠ 1 → I 1 j = I0 1 j) → (I 1 1).toInt = (N + i : Nat) → (∀ k, k < N ∨ N + i ≤ k → I 2 k = I0 2 k) → (∀ j, j < i → I 2 (N + j) = byF v j) → dw_ok (pr_X9_add K) 3 bc bs [some (.ref 1), some (.int v), some (.int x)] [] (n, SH1, I, J) := by
  have c1 : (1 : Int32).toInt = 1 := rfl
  have c8 : (-8 : Int32).toInt = -8 := rfl
  intro f
  induction f with
  | zero =>
    intro i x I hi hx hA hF h1 hB hC
    refine q_ild rfl rfl ?_
    refine q_if (c := 2) rfl (by decide) (fun _ => ?_) (fun h => absurd (show 0 ≤ x.toInt from h) (by omega))
    have e4 : i = 4 := by omega
    subst e4
    exact q_vret rfl (hk I hA hF h1 hB hC)
  | succ f ih =>
    intro i x I hi hx hA hF h1 hB hC
    have n1 : (I 1 1).toInt.toNat = N + i := by omega
    refine q_ild rfl rfl ?_
    refine q_if (c := 2) rfl (by decide) (fun h => absurd (show (x).toInt < 0 from h) (by omega)) (fun y1 => ?_)
    have y1 : 0 ≤ (x).toInt := y1
    refine q_ald rfl rfl ?_
    refine q_geti rfl sk_1 ?_
    refine q_if (c := 2) rfl (by decide) (fun h => absurd (show ((I 1 1)).toInt < 0 from h) (by omega)) (fun y2 => ?_)
    have y2 : 0 ≤ ((I 1 1)).toInt := y2
    refine q_ald rfl rfl ?_
    refine q_geti rfl sk_1 ?_
    refine q_ald rfl rfl ?_
    refine q_getr rfl sk_1 sr_1_0 ?_
    refine q_alen2 (kd := 16) (N := 940) rfl sk_2 sn_2 (by decide) (by decide) ?_
    refine q_icmp (c := 3) rfl (by decide) (fun h => absurd (show (940 : Int) ≤ ((I 1 1)).toInt from h) (by omega)) (fun y3 => ?_)
    have y3 : ((I 1 1)).toInt < (940 : Int) := y3
    refine q_ald rfl rfl ?_
    refine q_getr rfl sk_1 sr_1_0 ?_
    refine q_ald rfl rfl ?_
    refine q_geti rfl sk_1 ?_
    refine q_ild rfl rfl ?_
    refine q_ild rfl rfl ?_
    refine q_iushr rfl ?_
    refine q_ic rfl ?_
    refine q_and rfl ?_
    show dw_ok (pr_X9_add K) 41 bc bs [some (.ref 1), some (.int v), some (.int x)] [.int ((((v).toUInt32 >>> ((x).toUInt32 &&& Int32.toUInt32 31)).toInt32) &&& (255 : Int32)), .int (I 1 1), .ref 2] (n, SH1, I, J)
    refine q_iast rfl sk_2 sn_2 (by omega) (by omega) ?_
    show dw_ok (pr_X9_add K) 42 bc bs [some (.ref 1), some (.int v), some (.int x)] [] (n, SH1, (dw_up I 2 ((I 1 1)).toInt.toNat ((((v).toUInt32 >>> ((x).toUInt32 &&& Int32.toUInt32 31)).toInt32) &&& (255 : Int32))), J)
    rw [n1]
    refine q_ald rfl rfl ?_
    refine q_dup rfl ?_
    refine q_geti rfl sk_1 ?_
    show dw_ok (pr_X9_add K) 47 bc bs [some (.ref 1), some (.int v), some (.int x)] [.int ((dw_up I 2 (N + i) ((((v).toUInt32 >>> ((x).toUInt32 &&& Int32.toUInt32 31)).toInt32) &&& (255 : Int32))) 1 1), .ref 1] (n, SH1, (dw_up I 2 (N + i) ((((v).toUInt32 >>> ((x).toUInt32 &&& Int32.toUInt32 31)).toInt32) &&& (255 : Int32))), J)
    rw [show ((dw_up I 2 (N + i) ((((v).toUInt32 >>> ((x).toUInt32 &&& Int32.toUInt32 31)).toInt32) &&& (255 : Int32))) 1 1) = (I 1 1) from (up_ne (Or.inl (by decide)))]
    refine q_ic rfl ?_
    refine q_add rfl ?_
    refine q_puti rfl sk_1 ?_
    show dw_ok (pr_X9_add K) 52 bc bs [some (.ref 1), some (.int v), some (.int x)] [] (n, SH1, (dw_up (dw_up I 2 (N + i) ((((v).toUInt32 >>> ((x).toUInt32 &&& Int32.toUInt32 31)).toInt32) &&& (255 : Int32))) 1 1 ((I 1 1) + (1 : Int32))), J)
    refine q_inc rfl rfl rfl ?_
    show dw_ok (pr_X9_add K) 55 bc bs [some (.ref 1), some (.int v), some (.int (x + (-8)))] [] (n, SH1, (dw_up (dw_up I 2 (N + i) ((((v).toUInt32 >>> ((x).toUInt32 &&& Int32.toUInt32 31)).toInt32) &&& (255 : Int32))) 1 1 ((I 1 1) + (1 : Int32))), J)
    refine q_goto rfl ?_
    have ex : x = Int32.ofNat (24 - 8 * i) := i_eq (by rw [oN (by omega)]; omega)
    obtain ⟨x', hx'⟩ : ∃ x', x' = x + (-8) := ⟨_, rfl⟩
    obtain ⟨z', hz'⟩ : ∃ z', z' = (I 1 1) + (1 : Int32) := ⟨_, rfl⟩
    have tx : x'.toInt = x.toInt - 8 := by rw [hx', i_add (by omega) (by omega), c8]; omega
    have t1 : z'.toInt = (I 1 1).toInt + 1 := by rw [hz', i_add (by omega) (by omega), c1]
    rw [← hx', ← hz']
    refine ih (i + 1) x' (dw_up (dw_up I 2 (N + i) ((((v).toUInt32 >>> ((x).toUInt32 &&& Int32.toUInt32 31)).toInt32) &&& (255 : Int32))) 1 1 z') (by omega) (by omega) (fun a q1 q2 => ?_) (fun j hj => ?_) ?_ (fun k hk => ?_) (fun j hj => ?_)
    · rw [up_row q1, up_row q2]; exact hA a q1 q2
    · rw [up_fld hj, up_row (by decide)]; exact hF j hj
    · rw [up_same]; omega
    · rw [up_row (by decide), up_fld (by omega)]; exact hB k (by omega)
    · rw [up_row (by decide)]
      by_cases e : j = i
      · subst e
        rw [up_same, ex]; rfl
      · rw [up_fld (by omega)]; exact hC j (by omega)
set_option maxRecDepth 8000 in
theorem v_add {n N : Nat} {I : Nat → Nat → Int32} {J : Nat → Nat → Int64} {K : dw_K} {v : Int32} (hN : (I 1 1).toInt = N) (hN9 : N + 4 ≤ 940)
    (hk : ∀ I' : Nat → Nat → Int32, (∀ a, a ≠ 1 → a ≠ 2 → I' a = I a) → (∀ j, j ≠ 1 → I' 1 j = I 1 j) → (I' 1 1).toInt = (N + 4 : Nat) → (∀ k, k < N ∨ N + 4 ≤ k → I' 2 k = I 2 k) → (∀ j, j < 4 → I' 2 (N + j) = byF v j) → K none (n, SH1, I', J)) : t_X9_add [.ref 1, .int v] (n, SH1, I, J) K := by
  refine q_body (Nat.le_of_ble_eq_true rfl) ?_
  refine q_ic rfl ?_
  refine q_ist rfl rfl ?_
  exact ad_loop hN hN9 hk 4 0 24 I rfl rfl (fun _ _ _ => rfl) (fun _ _ => rfl) hN (fun _ _ => rfl) (fun j hj => absurd hj (Nat.not_lt_zero j))
set_option maxRecDepth 8000 in
theorem fo_loop {n bc bs N : Nat} {K : dw_K} {I0 : Nat → Nat → Int32} {J : Nat → Nat → Int64} {v : Int32} (hN : (I0 404 2).toInt = N) (hN9 : N + 4 ≤ 940)
    (hk : ∀ I' : Nat → Nat → Int32, (∀ a, a ≠ 404 → a ≠ 405 → I' a = I0 a) → (∀ j, j ≠ 2 → I' 404 j = I0 404 j) → (I' 404 2).toInt = (N + 4 : Nat) → (∀ k, k < N ∨ N + 4 ≤ k → I' 405 k = I0 405 k) → (∀ j, j < 4 → I' 405 (N + j) &&& 255 = byF v j) → K none (n, SH1, I', J)) :
    ∀ (f i : Nat) (x : Int32) (I : Nat → Nat → Int32), i + f = 4 → x.toInt = 24 - 8 * i → (∀ a, a ≠ 404 → a ≠ 405 → I a = I0 a) → (∀ j, j ≠ 2 → I 404 j = I0 404 j) → (I 404 2).toInt = (N + i : Nat) → (∀ k, k < N ∨ N + i ≤ k → I 405 k = I0 405 k) → (∀ j, j < i → I 405 (N + j) &&& 255 = byF v j) → dw_ok (pr_X12_four K) 3 bc bs [some (.ref 404), some (.int v), some (.int x)] [] (n, SH1, I, J) := by
  have c1 : (1 : Int32).toInt = 1 := rfl
  have c8 : (-8 : Int32).toInt = -8 := rfl
  intro f
  induction f with
  | zero =>
    intro i x I hi hx hA hF h1 hB hC
    refine q_ild rfl rfl ?_
    refine q_if (c := 2) rfl (by decide) (fun _ => ?_) (fun h => absurd (show 0 ≤ x.toInt from h) (by omega))
    have e4 : i = 4 := by omega
    subst e4
    exact q_vret rfl (hk I hA hF h1 hB hC)
  | succ f ih =>
    intro i x I hi hx hA hF h1 hB hC
    have n1 : (I 404 2).toInt.toNat = N + i := by omega
    refine q_ild rfl rfl ?_
    refine q_if (c := 2) rfl (by decide) (fun h => absurd (show (x).toInt < 0 from h) (by omega)) (fun y1 => ?_)
    have y1 : 0 ≤ (x).toInt := y1
    refine q_ald rfl rfl ?_
    refine q_getr rfl sk_404 sr_404_1 ?_
    refine q_ald rfl rfl ?_
    refine q_geti rfl sk_404 ?_
    refine q_ild rfl rfl ?_
    refine q_ild rfl rfl ?_
    refine q_ishr rfl ?_
    refine q_i2b rfl ?_
    show dw_ok (pr_X12_four K) 19 bc bs [some (.ref 404), some (.int v), some (.int x)] [.int (((v >>> (x &&& 31))).toInt8.toInt32), .int (I 404 2), .ref 405] (n, SH1, I, J)
    refine q_iastb rfl sk_405 sn_405 (by omega) (by omega) (fi_b8 _) ?_
    show dw_ok (pr_X12_four K) 20 bc bs [some (.ref 404), some (.int v), some (.int x)] [] (n, SH1, (dw_up I 405 ((I 404 2)).toInt.toNat (((v >>> (x &&& 31))).toInt8.toInt32)), J)
    rw [n1]
    refine q_ald rfl rfl ?_
    refine q_dup rfl ?_
    refine q_geti rfl sk_404 ?_
    show dw_ok (pr_X12_four K) 25 bc bs [some (.ref 404), some (.int v), some (.int x)] [.int ((dw_up I 405 (N + i) (((v >>> (x &&& 31))).toInt8.toInt32)) 404 2), .ref 404] (n, SH1, (dw_up I 405 (N + i) (((v >>> (x &&& 31))).toInt8.toInt32)), J)
    rw [show ((dw_up I 405 (N + i) (((v >>> (x &&& 31))).toInt8.toInt32)) 404 2) = (I 404 2) from (up_ne (Or.inl (by decide)))]
    refine q_ic rfl ?_
    refine q_add rfl ?_
    refine q_puti rfl sk_404 ?_
    show dw_ok (pr_X12_four K) 30 bc bs [some (.ref 404), some (.int v), some (.int x)] [] (n, SH1, (dw_up (dw_up I 405 (N + i) (((v >>> (x &&& 31))).toInt8.toInt32)) 404 2 ((I 404 2) + (1 : Int32))), J)
    refine q_inc rfl rfl rfl ?_
    show dw_ok (pr_X12_four K) 33 bc bs [some (.ref 404), some (.int v), some (.int (x + (-8)))] [] (n, SH1, (dw_up (dw_up I 405 (N + i) (((v >>> (x &&& 31))).toInt8.toInt32)) 404 2 ((I 404 2) + (1 : Int32))), J)
    refine q_goto rfl ?_
    have ex : x = Int32.ofNat (24 - 8 * i) := i_eq (by rw [oN (by omega)]; omega)
    obtain ⟨x', hx'⟩ : ∃ x', x' = x + (-8) := ⟨_, rfl⟩
    obtain ⟨z', hz'⟩ : ∃ z', z' = (I 404 2) + (1 : Int32) := ⟨_, rfl⟩
    have tx : x'.toInt = x.toInt - 8 := by rw [hx', i_add (by omega) (by omega), c8]; omega
    have t1 : z'.toInt = (I 404 2).toInt + 1 := by rw [hz', i_add (by omega) (by omega), c1]
    rw [← hx', ← hz']
    refine ih (i + 1) x' (dw_up (dw_up I 405 (N + i) (((v >>> (x &&& 31))).toInt8.toInt32)) 404 2 z') (by omega) (by omega) (fun a q1 q2 => ?_) (fun j hj => ?_) ?_ (fun k hk => ?_) (fun j hj => ?_)
    · rw [up_row q1, up_row q2]; exact hA a q1 q2
    · rw [up_fld hj, up_row (by decide)]; exact hF j hj
    · rw [up_same]; omega
    · rw [up_row (by decide), up_fld (by omega)]; exact hB k (by omega)
    · rw [up_row (by decide)]
      by_cases e : j = i
      · subst e
        rw [up_same, ex]; exact by_sr (by omega)
      · rw [up_fld (by omega)]; exact hC j (by omega)
set_option maxRecDepth 8000 in
theorem v_four {n N : Nat} {I : Nat → Nat → Int32} {J : Nat → Nat → Int64} {K : dw_K} {v : Int32} (hN : (I 404 2).toInt = N) (hN9 : N + 4 ≤ 940)
    (hk : ∀ I' : Nat → Nat → Int32, (∀ a, a ≠ 404 → a ≠ 405 → I' a = I a) → (∀ j, j ≠ 2 → I' 404 j = I 404 j) → (I' 404 2).toInt = (N + 4 : Nat) → (∀ k, k < N ∨ N + 4 ≤ k → I' 405 k = I 405 k) → (∀ j, j < 4 → I' 405 (N + j) &&& 255 = byF v j) → K none (n, SH1, I', J)) : t_X12_four [.ref 404, .int v] (n, SH1, I, J) K := by
  refine q_body (Nat.le_of_ble_eq_true rfl) ?_
  refine q_ic rfl ?_
  refine q_ist rfl rfl ?_
  exact fo_loop hN hN9 hk 4 0 24 I rfl rfl (fun _ _ _ => rfl) (fun _ _ => rfl) hN (fun _ _ => rfl) (fun j hj => absurd hj (Nat.not_lt_zero j))
