/-! ===== the model's tape ===== -/
def tbM (I : Nat → Nat → Int32) : fB := fun k => if (k : Int) < (I 404 3).toInt then I 405 k &&& 255 else 0
set_option maxRecDepth 8000 in
theorem tbM_in {I : Nat → Nat → Int32} {k : Nat} (h : (k : Int) < (I 404 3).toInt) : tbM I k = I 405 k &&& 255 := if_pos h
set_option maxRecDepth 8000 in
theorem tbM_eq {I I' : Nat → Nat → Int32} (h1 : I' 404 3 = I 404 3) (h2 : I' 405 = I 405) : tbM I' = tbM I := by
  funext k
  unfold tbM
  rw [h1, h2]
set_option maxRecDepth 8000 in
theorem tbM_rng {I : Nat → Nat → Int32} {k : Nat} : 0 ≤ (tbM I k).toInt ∧ (tbM I k).toInt ≤ 255 := by
  unfold tbM
  by_cases h : (k : Int) < (I 404 3).toInt
  · rw [if_pos h]; exact oc_rng I k
  · rw [if_neg h]; exact ⟨by decide, by decide⟩
/-- word and tail of letters -/
def wdF (b : fB) (q : Nat) : Nat → Int64
  | 0 => 0
  | k + 1 => (wdF b q k <<< ((8 : Int32).toInt64 &&& 63)) ||| (b (q + k)).toInt64
set_option maxRecDepth 8000 in
theorem v_peek {n : Nat} {I : Nat → Nat → Int32} {J : Nat → Nat → Int64} {K : dw_K} {p N : Nat} (h3 : (I 404 3).toInt = N) (hN9 : N ≤ 940) (h4 : (I 404 4).toInt = p) (hp : p ≤ N) (hk : ∀ w : Int32, (p < N → w = tbM I p) → (p = N → w = -1) → K (some (.int w)) (n, SH1, I, J)) : t_X12_peek [.ref 404] (n, SH1, I, J) K := by
  refine q_body (Nat.le_of_ble_eq_true rfl) ?_
  refine q_ald rfl rfl ?_
  refine q_geti rfl sk_404 ?_
  refine q_ald rfl rfl ?_
  refine q_geti rfl sk_404 ?_
  refine q_icmp (c := 3) rfl (by decide) (fun y1 => ?_) (fun y1 => ?_)
  · have y1 : ((I 404 3)).toInt ≤ ((I 404 4)).toInt := y1
    refine q_ic rfl ?_
    exact q_iret rfl (hk _ (fun h => absurd h (by omega)) (fun _ => rfl))
  · have y1 : ((I 404 4)).toInt < ((I 404 3)).toInt := y1
    refine q_ald rfl rfl ?_
    refine q_getr rfl sk_404 sr_404_1 ?_
    refine q_ald rfl rfl ?_
    refine q_geti rfl sk_404 ?_
    show dw_ok (pr_X12_peek K) 19 0 0 [some (.ref 404)] [.int (I 404 4), .ref 405] (n, SH1, I, J)
    refine q_xald rfl (Or.inr (Or.inr rfl)) sk_405 sn_405 (by omega) (by omega) ?_
    refine q_ic rfl ?_
    refine q_and rfl ?_
    refine q_goto rfl ?_
    exact q_iret rfl (hk _ (fun h => by rw [tbM_in (by omega), show p = (I 404 4).toInt.toNat by omega]) (fun h => absurd h (by omega)))
set_option maxRecDepth 8000 in
theorem v_isSmall {n : Nat} {I : Nat → Nat → Int32} {J : Nat → Nat → Int64} {K : dw_K} {c : Int32} (hk : ∀ w : Int32, (w = 1 ∧ f_sm c) ∨ (w = 0 ∧ ¬ f_sm c) → K (some (.int w)) (n, SH1, I, J)) : t_X12_isSmall [.int c] (n, SH1, I, J) K := by
  refine q_body (Nat.le_of_ble_eq_true rfl) ?_
  refine q_ild rfl rfl ?_
  refine q_ic rfl ?_
  refine q_icmp (c := 2) rfl (by decide) (fun y1 => ?_) (fun y1 => ?_)
  · have y1 : (c).toInt < (97 : Int) := y1
    refine q_ic rfl ?_
    exact q_zret rfl (Or.inl rfl) (hk 0 (Or.inr ⟨rfl, by omega⟩))
  · have y1 : (97 : Int) ≤ (c).toInt := y1
    refine q_ild rfl rfl ?_
    refine q_ic rfl ?_
    refine q_icmp (c := 4) rfl (by decide) (fun y2 => ?_) (fun y2 => ?_)
    · have y2 : (122 : Int) < (c).toInt := y2
      refine q_ic rfl ?_
      exact q_zret rfl (Or.inl rfl) (hk 0 (Or.inr ⟨rfl, by omega⟩))
    · have y2 : (c).toInt ≤ (122 : Int) := y2
      refine q_ic rfl ?_
      refine q_goto rfl ?_
      exact q_zret rfl (Or.inr rfl) (hk 1 (Or.inl ⟨rfl, by omega⟩))
set_option maxRecDepth 8000 in
theorem v_isDigit {n : Nat} {I : Nat → Nat → Int32} {J : Nat → Nat → Int64} {K : dw_K} {c : Int32} (hk : ∀ w : Int32, (w = 1 ∧ f_dg c) ∨ (w = 0 ∧ ¬ f_dg c) → K (some (.int w)) (n, SH1, I, J)) : t_X12_isDigit [.int c] (n, SH1, I, J) K := by
  refine q_body (Nat.le_of_ble_eq_true rfl) ?_
  refine q_ild rfl rfl ?_
  refine q_ic rfl ?_
  refine q_icmp (c := 2) rfl (by decide) (fun y1 => ?_) (fun y1 => ?_)
  · have y1 : (c).toInt < (48 : Int) := y1
    refine q_ic rfl ?_
    exact q_zret rfl (Or.inl rfl) (hk 0 (Or.inr ⟨rfl, by omega⟩))
  · have y1 : (48 : Int) ≤ (c).toInt := y1
    refine q_ild rfl rfl ?_
    refine q_ic rfl ?_
    refine q_icmp (c := 4) rfl (by decide) (fun y2 => ?_) (fun y2 => ?_)
    · have y2 : (57 : Int) < (c).toInt := y2
      refine q_ic rfl ?_
      exact q_zret rfl (Or.inl rfl) (hk 0 (Or.inr ⟨rfl, by omega⟩))
    · have y2 : (c).toInt ≤ (57 : Int) := y2
      refine q_ic rfl ?_
      refine q_goto rfl ?_
      exact q_zret rfl (Or.inr rfl) (hk 1 (Or.inl ⟨rfl, by omega⟩))
set_option maxRecDepth 8000 in
theorem v_isIn {n : Nat} {I : Nat → Nat → Int32} {J : Nat → Nat → Int64} {K : dw_K} {a b c : Int32} (hk : ∀ w : Int32, (w = 1 ∧ b.toInt ≤ a.toInt ∧ a.toInt ≤ c.toInt) ∨ (w = 0 ∧ ¬ (b.toInt ≤ a.toInt ∧ a.toInt ≤ c.toInt)) → K (some (.int w)) (n, SH1, I, J)) : t_X12_isIn [.int a, .int b, .int c] (n, SH1, I, J) K := by
  refine q_body (Nat.le_of_ble_eq_true rfl) ?_
  refine q_ild rfl rfl ?_
  refine q_ild rfl rfl ?_
  refine q_icmp (c := 2) rfl (by decide) (fun y1 => ?_) (fun y1 => ?_)
  · have y1 : (a).toInt < (b).toInt := y1
    refine q_ic rfl ?_
    exact q_zret rfl (Or.inl rfl) (hk 0 (Or.inr ⟨rfl, by omega⟩))
  · have y1 : (b).toInt ≤ (a).toInt := y1
    refine q_ild rfl rfl ?_
    refine q_ild rfl rfl ?_
    refine q_icmp (c := 4) rfl (by decide) (fun y2 => ?_) (fun y2 => ?_)
    · have y2 : (c).toInt < (a).toInt := y2
      refine q_ic rfl ?_
      exact q_zret rfl (Or.inl rfl) (hk 0 (Or.inr ⟨rfl, by omega⟩))
    · have y2 : (a).toInt ≤ (c).toInt := y2
      refine q_ic rfl ?_
      refine q_goto rfl ?_
      exact q_zret rfl (Or.inr rfl) (hk 1 (Or.inl ⟨rfl, by omega⟩))
set_option maxRecDepth 8000 in
theorem v_bad {n : Nat} {I : Nat → Nat → Int32} {J : Nat → Nat → Int64} {K : dw_K} {c : Int32} (hk : K (some (.int 0)) (n, SH1, dw_up (dw_up I 404 15 c) 404 16 (I 404 12), J)) : t_X12_bad [.ref 404, .int c] (n, SH1, I, J) K := by
  refine q_body (Nat.le_of_ble_eq_true rfl) ?_
  refine q_ald rfl rfl ?_
  refine q_ild rfl rfl ?_
  refine q_puti rfl sk_404 ?_
  show dw_ok (pr_X12_bad K) 5 0 0 [some (.ref 404), some (.int c)] [] (n, SH1, (dw_up I 404 15 c), J)
  refine q_ald rfl rfl ?_
  refine q_ald rfl rfl ?_
  refine q_geti rfl sk_404 ?_
  refine q_puti rfl sk_404 ?_
  show dw_ok (pr_X12_bad K) 13 0 0 [some (.ref 404), some (.int c)] [] (n, SH1, (dw_up (dw_up I 404 15 c) 404 16 (I 404 12)), J)
  refine q_ic rfl ?_
  exact q_zret rfl (Or.inl rfl) hk
set_option maxRecDepth 8000 in
theorem v_taken {n : Nat} {I : Nat → Nat → Int32} {J : Nat → Nat → Int64} {K : dw_K} {c : Int32} (hk : K none (n, SH1, dw_up (dw_up (dw_up (dw_up I 404 3 (I 404 2)) 404 2 0) 404 4 0) 404 5 c, J)) : t_X12_taken [.ref 404, .int c] (n, SH1, I, J) K := by
  refine q_body (Nat.le_of_ble_eq_true rfl) ?_
  refine q_ald rfl rfl ?_
  refine q_ald rfl rfl ?_
  refine q_geti rfl sk_404 ?_
  refine q_puti rfl sk_404 ?_
  show dw_ok (pr_X12_taken K) 8 0 0 [some (.ref 404), some (.int c)] [] (n, SH1, (dw_up I 404 3 (I 404 2)), J)
  refine q_ald rfl rfl ?_
  refine q_ic rfl ?_
  refine q_puti rfl sk_404 ?_
  show dw_ok (pr_X12_taken K) 13 0 0 [some (.ref 404), some (.int c)] [] (n, SH1, (dw_up (dw_up I 404 3 (I 404 2)) 404 2 (0 : Int32)), J)
  refine q_ald rfl rfl ?_
  refine q_ic rfl ?_
  refine q_puti rfl sk_404 ?_
  show dw_ok (pr_X12_taken K) 18 0 0 [some (.ref 404), some (.int c)] [] (n, SH1, (dw_up (dw_up (dw_up I 404 3 (I 404 2)) 404 2 (0 : Int32)) 404 4 (0 : Int32)), J)
  refine q_ald rfl rfl ?_
  refine q_ild rfl rfl ?_
  refine q_puti rfl sk_404 ?_
  show dw_ok (pr_X12_taken K) 23 0 0 [some (.ref 404), some (.int c)] [] (n, SH1, (dw_up (dw_up (dw_up (dw_up I 404 3 (I 404 2)) 404 2 (0 : Int32)) 404 4 (0 : Int32)) 404 5 c), J)
  exact q_vret rfl hk
set_option maxRecDepth 8000 in
theorem v_isSign {n : Nat} {I : Nat → Nat → Int32} {J : Nat → Nat → Int64} {K : dw_K} {c : Int32} (hk : ∀ w : Int32, (w = 1 ∧ (I 404 11).toInt = 3 ∧ (I 404 14).toInt = c.toInt) ∨ (w = 0 ∧ ¬ ((I 404 11).toInt = 3 ∧ (I 404 14).toInt = c.toInt)) → K (some (.int w)) (n, SH1, I, J)) : t_X12_isSign [.ref 404, .int c] (n, SH1, I, J) K := by
  refine q_body (Nat.le_of_ble_eq_true rfl) ?_
  refine q_ald rfl rfl ?_
  refine q_geti rfl sk_404 ?_
  refine q_ic rfl ?_
  refine q_icmp (c := 1) rfl (by decide) (fun y1 => ?_) (fun y1 => ?_)
  · have y1 : ((I 404 11)).toInt ≠ (3 : Int) := y1
    refine q_ic rfl ?_
    exact q_zret rfl (Or.inl rfl) (hk 0 (Or.inr ⟨rfl, by omega⟩))
  · have y1 : ((I 404 11)).toInt = (3 : Int) := y1
    refine q_ald rfl rfl ?_
    refine q_geti rfl sk_404 ?_
    refine q_ild rfl rfl ?_
    refine q_icmp (c := 1) rfl (by decide) (fun y2 => ?_) (fun y2 => ?_)
    · have y2 : ((I 404 14)).toInt ≠ (c).toInt := y2
      refine q_ic rfl ?_
      exact q_zret rfl (Or.inl rfl) (hk 0 (Or.inr ⟨rfl, by omega⟩))
    · have y2 : ((I 404 14)).toInt = (c).toInt := y2
      refine q_ic rfl ?_
      refine q_goto rfl ?_
      exact q_zret rfl (Or.inr rfl) (hk 1 (Or.inl ⟨rfl, by omega⟩))
set_option maxRecDepth 8000 in
set_option maxHeartbeats 2000000 in
theorem mk_loop {n : Nat} {J : Nat → Nat → Int64} {K : dw_K} {bc bs : Nat} {I0 : Nat → Nat → Int32} {p0 N : Nat} (hN : (I0 404 3).toInt = N) (hN9 : N ≤ 940)
    (hk : ∀ (p : Nat) (I : Nat → Nat → Int32), p ≤ N → skF (tbM I0) N (N - p0) p0 = p → (∀ a, a ≠ 404 → I a = I0 a) → (∀ j, j ≠ 4 → I 404 j = I0 404 j) → (I 404 4).toInt = p → dw_ok (pr_X12_next K) 31 bc bs [some (.ref 404), none, none, none] [] (n, SH1, I, J)) :
    ∀ (f p : Nat) (I : Nat → Nat → Int32), p ≤ N → N - p ≤ f → skF (tbM I0) N (N - p0) p0 = skF (tbM I0) N (N - p) p → (∀ a, a ≠ 404 → I a = I0 a) → (∀ j, j ≠ 4 → I 404 j = I0 404 j) → (I 404 4).toInt = p → dw_ok (pr_X12_next K) 0 bc bs [some (.ref 404), none, none, none] [] (n, SH1, I, J) := by
  intro f
  induction f with
  | zero =>
    intro p I hp hf hs hA hF h3
    have h11 : I 404 3 = I0 404 3 := hF 3 (by decide)
    have hbM : tbM I = tbM I0 := tbM_eq h11 (hA 405 (by decide))
    rw [← h11] at hN
    refine q_ald rfl rfl ?_
    refine q_callV (as := []) (rest := []) rfl rfl sk_404 rfl (Nat.le_of_ble_eq_true rfl) ?_
    refine v_peek (p := p) (N := N) hN hN9 h3 hp (fun w ha hb => ?_)
    rw [hbM] at ha
    have hm : p = N → w.toInt = -1 := fun h => by rw [hb h]; rfl
    show dw_ok (pr_X12_next K) 4 bc bs [some (.ref 404), none, none, none] [.int w] (n, SH1, I, J)
    refine q_ic rfl ?_
    refine q_icmp (c := 0) rfl (by decide) (fun h => absurd (show w.toInt = 32 from h) (by omega)) (fun y1 => ?_)
    have y1 : w.toInt ≠ 32 := y1
    refine q_ald rfl rfl ?_
    refine q_callV (as := []) (rest := []) rfl rfl sk_404 rfl (Nat.le_of_ble_eq_true rfl) ?_
    refine v_peek (p := p) (N := N) hN hN9 h3 hp (fun w2 ha2 hb2 => ?_)
    rw [hbM] at ha2
    have hm2 : p = N → w2.toInt = -1 := fun h => by rw [hb2 h]; rfl
    show dw_ok (pr_X12_next K) 13 bc bs [some (.ref 404), none, none, none] [.int w2] (n, SH1, I, J)
    refine q_ic rfl ?_
    have hfst : p < N → (tbM I0 p).toInt ≠ 32 := fun h => by rw [← ha h]; exact y1
    refine q_icmp (c := 1) rfl (by decide) (fun y2 => ?_) (fun h => absurd (show w2.toInt = 10 from h) (by omega))
    have y2 : w2.toInt ≠ 10 := y2
    have hsnd : p < N → (tbM I0 p).toInt ≠ 10 := fun h => by rw [← ha2 h]; exact y2
    have er : skF (tbM I0) N (N - p) p = p := by
      by_cases hlt : p < N
      · rw [show N - p = (N - p - 1) + 1 by omega]
        unfold skF
        have e1 := hfst hlt
        have e2 := hsnd hlt
        rw [if_neg (fun h => by have hh := h.2; omega)]
      · rw [show N - p = 0 by omega]
        rfl
    exact hk p I hp (hs.trans er) hA hF h3
  | succ f ih =>
    intro p I hp hf hs hA hF h3
    have h11 : I 404 3 = I0 404 3 := hF 3 (by decide)
    have hbM : tbM I = tbM I0 := tbM_eq h11 (hA 405 (by decide))
    rw [← h11] at hN
    refine q_ald rfl rfl ?_
    refine q_callV (as := []) (rest := []) rfl rfl sk_404 rfl (Nat.le_of_ble_eq_true rfl) ?_
    refine v_peek (p := p) (N := N) hN hN9 h3 hp (fun w ha hb => ?_)
    rw [hbM] at ha
    have hm : p = N → w.toInt = -1 := fun h => by rw [hb h]; rfl
    show dw_ok (pr_X12_next K) 4 bc bs [some (.ref 404), none, none, none] [.int w] (n, SH1, I, J)
    refine q_ic rfl ?_
    refine q_icmp (c := 0) rfl (by decide) (fun y1 => ?_) (fun y1 => ?_)
    · have y1 : w.toInt = 32 := y1
      refine q_ald rfl rfl ?_
      refine q_dup rfl ?_
      refine q_geti rfl sk_404 ?_
      refine q_ic rfl ?_
      refine q_add rfl ?_
      refine q_puti rfl sk_404 ?_
      show dw_ok (pr_X12_next K) 28 bc bs [some (.ref 404), none, none, none] [] (n, SH1, (dw_up I 404 4 ((I 404 4) + (1 : Int32))), J)
      refine q_goto rfl ?_
      have hlt : p < N := by omega
      have c1 : (1 : Int32).toInt = 1 := rfl
      have tn : ((I 404 4) + 1).toInt = (I 404 4).toInt + 1 := by rw [i_add (by omega) (by omega), c1]
      have hbk : f_bl (tbM I0 p) := by
        rw [← ha hlt]; omega
      have er : skF (tbM I0) N (N - p) p = skF (tbM I0) N (N - (p + 1)) (p + 1) := by
        rw [show N - p = (N - (p + 1)) + 1 by omega]
        conv => lhs; unfold skF
        rw [if_pos ⟨hlt, hbk⟩]
      refine ih (p + 1) (dw_up I 404 4 ((I 404 4) + (1 : Int32))) (by omega) (by omega) (hs.trans er) (fun a ha => ?_) (fun j h1 => ?_) ?_
      · rw [← hA a ha]; funext j; simp [dw_up, ha]
      · rw [← hF j h1]; simp [dw_up, h1]
      · show ((I 404 4) + 1).toInt = _; omega
    have y1 : w.toInt ≠ 32 := y1
    refine q_ald rfl rfl ?_
    refine q_callV (as := []) (rest := []) rfl rfl sk_404 rfl (Nat.le_of_ble_eq_true rfl) ?_
    refine v_peek (p := p) (N := N) hN hN9 h3 hp (fun w2 ha2 hb2 => ?_)
    rw [hbM] at ha2
    have hm2 : p = N → w2.toInt = -1 := fun h => by rw [hb2 h]; rfl
    show dw_ok (pr_X12_next K) 13 bc bs [some (.ref 404), none, none, none] [.int w2] (n, SH1, I, J)
    refine q_ic rfl ?_
    have hfst : p < N → (tbM I0 p).toInt ≠ 32 := fun h => by rw [← ha h]; exact y1
    refine q_icmp (c := 1) rfl (by decide) (fun y2 => ?_) (fun y2 => ?_)
    · have y2 : w2.toInt ≠ 10 := y2
      have hsnd : p < N → (tbM I0 p).toInt ≠ 10 := fun h => by rw [← ha2 h]; exact y2
      have er : skF (tbM I0) N (N - p) p = p := by
        by_cases hlt : p < N
        · rw [show N - p = (N - p - 1) + 1 by omega]
          unfold skF
          have e1 := hfst hlt
          have e2 := hsnd hlt
          rw [if_neg (fun h => by have hh := h.2; omega)]
        · rw [show N - p = 0 by omega]
          rfl
      exact hk p I hp (hs.trans er) hA hF h3
    · have y2 : w2.toInt = 10 := y2
      refine q_ald rfl rfl ?_
      refine q_dup rfl ?_
      refine q_geti rfl sk_404 ?_
      refine q_ic rfl ?_
      refine q_add rfl ?_
      refine q_puti rfl sk_404 ?_
      show dw_ok (pr_X12_next K) 28 bc bs [some (.ref 404), none, none, none] [] (n, SH1, (dw_up I 404 4 ((I 404 4) + (1 : Int32))), J)
      refine q_goto rfl ?_
      have hlt : p < N := by omega
      have c1 : (1 : Int32).toInt = 1 := rfl
      have tn : ((I 404 4) + 1).toInt = (I 404 4).toInt + 1 := by rw [i_add (by omega) (by omega), c1]
      have hbk : f_bl (tbM I0 p) := by
        rw [← ha2 hlt]; omega
      have er : skF (tbM I0) N (N - p) p = skF (tbM I0) N (N - (p + 1)) (p + 1) := by
        rw [show N - p = (N - (p + 1)) + 1 by omega]
        conv => lhs; unfold skF
        rw [if_pos ⟨hlt, hbk⟩]
      refine ih (p + 1) (dw_up I 404 4 ((I 404 4) + (1 : Int32))) (by omega) (by omega) (hs.trans er) (fun a ha => ?_) (fun j h1 => ?_) ?_
      · rw [← hA a ha]; funext j; simp [dw_up, ha]
      · rw [← hF j h1]; simp [dw_up, h1]
      · show ((I 404 4) + 1).toInt = _; omega
/-- are all signs so far of the first one's sort -/
def AC (b : fB) (q : Nat) (s a : Int32) (k : Nat) : Prop := (a.toInt = 1 ∧ (s.toInt = 1 → dtF b q k = 0) ∧ (s.toInt = 0 → ltF b q k = 0)) ∨ (a.toInt = 0 ∧ (s.toInt = 1 → dtF b q k ≠ 0) ∧ (s.toInt = 0 → ltF b q k ≠ 0))
def S01 (s : Int32) : Prop := s.toInt = 1 ∨ s.toInt = 0
set_option maxRecDepth 8000 in
theorem ltd_s {b : fB} {q k : Nat} (h : f_sm (b (q + k))) : ltF b q (k + 1) = ltF b q k + 1 ∧ dtF b q (k + 1) = dtF b q k := by
  refine ⟨?_, ?_⟩
  · show ltF b q k + (if f_sm (b (q + k)) then 1 else 0) = _; rw [if_pos h]
  · show dtF b q k + (if f_dg (b (q + k)) then 1 else 0) = _; rw [if_neg (fun g => by omega)]; rfl
set_option maxRecDepth 8000 in
theorem ltd_d {b : fB} {q k : Nat} (h : f_dg (b (q + k))) : ltF b q (k + 1) = ltF b q k ∧ dtF b q (k + 1) = dtF b q k + 1 := by
  refine ⟨?_, ?_⟩
  · show ltF b q k + (if f_sm (b (q + k)) then 1 else 0) = _; rw [if_neg (fun g => by omega)]; rfl
  · show dtF b q k + (if f_dg (b (q + k)) then 1 else 0) = _; rw [if_pos h]
set_option maxRecDepth 8000 in
theorem ac_0 {b : fB} {q k : Nat} {s a : Int32} (h : AC b q s a k) (ha : a.toInt = 0) : AC b q s 0 (k + 1) := by
  have e1 : ltF b q k ≤ ltF b q (k + 1) := Nat.le_add_right _ _
  have e2 : dtF b q k ≤ dtF b q (k + 1) := Nat.le_add_right _ _
  rcases h with ⟨h1, -, -⟩ | ⟨-, h2, h3⟩
  · omega
  · exact Or.inr ⟨rfl, fun g => by have := h2 g; omega, fun g => by have := h3 g; omega⟩
set_option maxRecDepth 8000 in
theorem ac_1 {b : fB} {q k : Nat} {s a t : Int32} (h : AC b q s a k) (ha : a.toInt ≠ 0) (ht : (t.toInt = 1 ∧ f_sm (b (q + k))) ∨ (t.toInt = 0 ∧ ¬ f_sm (b (q + k)))) (hc : f_sm (b (q + k)) ∨ f_dg (b (q + k))) (he : t.toInt ≠ s.toInt) : AC b q s 0 (k + 1) := by
  rcases ht with ⟨t1, t2⟩ | ⟨t1, t2⟩
  · obtain ⟨e1, e2⟩ := ltd_s t2
    exact Or.inr ⟨rfl, fun g => absurd (t1.trans g.symm) he, fun g => by omega⟩
  · obtain ⟨e1, e2⟩ := ltd_d (hc.resolve_left t2)
    exact Or.inr ⟨rfl, fun g => by omega, fun g => absurd (t1.trans g.symm) he⟩
set_option maxRecDepth 8000 in
theorem ac_2 {b : fB} {q k : Nat} {s a t : Int32} (h : AC b q s a k) (ha : a.toInt ≠ 0) (ht : (t.toInt = 1 ∧ f_sm (b (q + k))) ∨ (t.toInt = 0 ∧ ¬ f_sm (b (q + k)))) (hc : f_sm (b (q + k)) ∨ f_dg (b (q + k))) (he : t.toInt = s.toInt) : AC b q s 1 (k + 1) := by
  obtain ⟨h2, h3⟩ : (s.toInt = 1 → dtF b q k = 0) ∧ (s.toInt = 0 → ltF b q k = 0) := by
    rcases h with ⟨-, h⟩ | ⟨h, -⟩
    · exact h
    · exact absurd h ha
  rcases ht with ⟨t1, t2⟩ | ⟨t1, t2⟩
  · obtain ⟨e1, e2⟩ := ltd_s t2
    exact Or.inl ⟨rfl, fun g => by rw [e2]; exact h2 g, fun g => by omega⟩
  · obtain ⟨e1, e2⟩ := ltd_d (hc.resolve_left t2)
    exact Or.inl ⟨rfl, fun g => by omega, fun g => by rw [e1]; exact h3 g⟩
set_option maxRecDepth 8000 in
theorem kd_all {b : fB} {q k : Nat} {s a : Int32} (h : AC b q s a k) (hs : (s.toInt = 1 ∧ f_sm (b q)) ∨ (s.toInt = 0 ∧ ¬ f_sm (b q))) (hc : f_sm (b q) ∨ f_dg (b q)) (h1 : f_sm (b q) → 1 ≤ ltF b q k) (h2 : f_dg (b q) → 1 ≤ dtF b q k) (hl : ltF b q k + dtF b q k = k) :
    (a.toInt = 0 → kdF (ltF b q k) (dtF b q k) k = 4) ∧ (a.toInt ≠ 0 → s.toInt ≠ 0 → k ≤ 12 → kdF (ltF b q k) (dtF b q k) k = 1) ∧ (a.toInt ≠ 0 → s.toInt ≠ 0 → 12 < k → kdF (ltF b q k) (dtF b q k) k = 4) ∧ (a.toInt ≠ 0 → s.toInt = 0 → k ≤ 3 → kdF (ltF b q k) (dtF b q k) k = 2) ∧ (a.toInt ≠ 0 → s.toInt = 0 → 3 < k → kdF (ltF b q k) (dtF b q k) k = 4) := by
  unfold kdF
  rcases hs with ⟨s1, s2⟩ | ⟨s1, s2⟩
  · have l1 := h1 s2
    rcases h with ⟨a1, a2, -⟩ | ⟨a1, a2, -⟩
    · have d0 := a2 s1
      refine ⟨fun g => by omega, fun _ _ g => ?_, fun _ _ g => ?_, fun _ g => by omega, fun _ g => by omega⟩
      · rw [if_pos ⟨d0, by omega, g⟩]
      · rw [if_neg (fun q => by omega), if_neg (fun q => by omega)]
    · have d0 := a2 s1
      refine ⟨fun _ => ?_, fun g => absurd a1 g, fun g => absurd a1 g, fun g => absurd a1 g, fun g => absurd a1 g⟩
      rw [if_neg (fun q => d0 q.1), if_neg (fun q => by omega)]
  · have d1 := h2 (hc.resolve_left s2)
    rcases h with ⟨a1, -, a2⟩ | ⟨a1, -, a2⟩
    · have l0 := a2 s1
      refine ⟨fun g => by omega, fun _ g => absurd s1 g, fun _ g => absurd s1 g, fun _ _ g => ?_, fun _ _ g => ?_⟩
      · rw [if_neg (fun q => by omega), if_pos ⟨l0, by omega, g⟩]
      · rw [if_neg (fun q => by omega), if_neg (fun q => by omega)]
    · have l0 := a2 s1
      refine ⟨fun _ => ?_, fun g => absurd a1 g, fun g => absurd a1 g, fun g => absurd a1 g, fun g => absurd a1 g⟩
      rw [if_neg (fun q => by omega), if_neg (fun q => l0 q.1)]
set_option maxRecDepth 8000 in
set_option maxHeartbeats 4000000 in
theorem wl_loop {n : Nat} {K : dw_K} {bc bs : Nat} {I0 : Nat → Nat → Int32} {J0 : Nat → Nat → Int64} {q N : Nat} {c s : Int32} (hN : (I0 404 3).toInt = N) (hN9 : N ≤ 940)
    (hk : ∀ (k : Nat) (I : Nat → Nat → Int32) (J : Nat → Nat → Int64) (a : Int32), q + k ≤ N → rnF (tbM I0) N (N - q) q = q + k → (∀ a, a ≠ 404 → I a = I0 a) → (∀ j, j ≠ 4 → j ≠ 13 → j ≠ 14 → I 404 j = I0 404 j) → (I 404 4).toInt = (q + k : Nat) → (I 404 13).toInt = k → (k ≤ 3 → I 404 14 = vlF (tbM I0) q k) → ((∀ a, a ≠ 404 → J a = J0 a) ∧ (∀ j, j ≠ 17 → j ≠ 18 → J 404 j = J0 404 j) ∧ J 404 17 = wdF (tbM I0) q (min k 8) ∧ J 404 18 = wdF (tbM I0) (q + 8) (k - 8)) → (AC (tbM I0) q s a k) → dw_ok (pr_X12_next K) 299 bc bs [some (.ref 404), some (.int c), some (.int s), some (.int a)] [] (n, SH1, I, J)) :
    ∀ (f k : Nat) (I : Nat → Nat → Int32) (J : Nat → Nat → Int64) (a : Int32), q + k ≤ N → N - (q + k) ≤ f → rnF (tbM I0) N (N - q) q = rnF (tbM I0) N (N - (q + k)) (q + k) → (∀ i, i < k → f_sm (tbM I0 (q + i)) ∨ f_dg (tbM I0 (q + i))) → (∀ a, a ≠ 404 → I a = I0 a) → (∀ j, j ≠ 4 → j ≠ 13 → j ≠ 14 → I 404 j = I0 404 j) → (I 404 4).toInt = (q + k : Nat) → (I 404 13).toInt = k → (k ≤ 3 → I 404 14 = vlF (tbM I0) q k) → ((∀ a, a ≠ 404 → J a = J0 a) ∧ (∀ j, j ≠ 17 → j ≠ 18 → J 404 j = J0 404 j) ∧ J 404 17 = wdF (tbM I0) q (min k 8) ∧ J 404 18 = wdF (tbM I0) (q + 8) (k - 8)) → (AC (tbM I0) q s a k) → dw_ok (pr_X12_next K) 162 bc bs [some (.ref 404), some (.int c), some (.int s), some (.int a)] [] (n, SH1, I, J) := by
  intro f
  induction f with
  | zero =>
    intro k I J a hqk hf hr hall hA hF h4 h13 h14 hJ ha
    have h11 : I 404 3 = I0 404 3 := hF 3 (by decide) (by decide) (by decide)
    have hbM : tbM I = tbM I0 := tbM_eq h11 (hA 405 (by decide))
    rw [← h11] at hN
    have c1 : (1 : Int32).toInt = 1 := rfl
    have cm1 : (-1 : Int32).toInt = -1 := rfl
    refine q_ald rfl rfl ?_
    refine q_callV (as := []) (rest := []) rfl rfl sk_404 rfl (Nat.le_of_ble_eq_true rfl) ?_
    refine v_peek (p := q + k) (N := N) hN hN9 h4 hqk (fun w0 w0a w0b => ?_)
    rw [hbM] at w0a
    have hm0 : q + k = N → w0.toInt = -1 := fun h => by rw [w0b h]; rfl
    show dw_ok (pr_X12_next K) 166 bc bs [some (.ref 404), some (.int c), some (.int s), some (.int a)] [.int w0] (n, SH1, I, J)
    refine q_callS (as := [.int w0]) (rest := []) rfl rfl rfl rfl ?_
    refine v_isSmall (fun t1 t1c => ?_)
    show dw_ok (pr_X12_next K) 169 bc bs [some (.ref 404), some (.int c), some (.int s), some (.int a)] [.int t1] (n, SH1, I, J)
    rcases t1c with ⟨rfl, t1c⟩ | ⟨rfl, t1c⟩
    · exfalso; omega
    · refine q_if (c := 1) rfl (by decide) (fun h => absurd rfl h) (fun _ => ?_)
      refine q_ald rfl rfl ?_
      refine q_callV (as := []) (rest := []) rfl rfl sk_404 rfl (Nat.le_of_ble_eq_true rfl) ?_
      refine v_peek (p := q + k) (N := N) hN hN9 h4 hqk (fun w1 w1a w1b => ?_)
      rw [hbM] at w1a
      have hm1 : q + k = N → w1.toInt = -1 := fun h => by rw [w1b h]; rfl
      show dw_ok (pr_X12_next K) 176 bc bs [some (.ref 404), some (.int c), some (.int s), some (.int a)] [.int w1] (n, SH1, I, J)
      refine q_callS (as := [.int w1]) (rest := []) rfl rfl rfl rfl ?_
      refine v_isDigit (fun t2 t2c => ?_)
      show dw_ok (pr_X12_next K) 179 bc bs [some (.ref 404), some (.int c), some (.int s), some (.int a)] [.int t2] (n, SH1, I, J)
      rcases t2c with ⟨rfl, t2c⟩ | ⟨rfl, t2c⟩
      · exfalso; omega
      · refine q_if (c := 0) rfl (by decide) (fun _ => ?_) (fun h => absurd rfl h)
        have hx : q + k < N → ¬ f_dg w0 := fun h => by rw [w0a h, ← w1a h]; exact t2c
        have er : rnF (tbM I0) N (N - (q + k)) (q + k) = q + k := by
          by_cases hlt : q + k < N
          · rw [show N - (q + k) = (N - (q + k) - 1) + 1 by omega]
            unfold rnF
            rw [if_neg (fun h => by have hh := h.2; rw [← w0a hlt] at hh; have hh2 := hx hlt; omega)]
          · rw [show N - (q + k) = 0 by omega]
            rfl
        exact hk k I J a hqk (hr.trans er) hA hF h4 h13 h14 hJ ha
  | succ f ih =>
    intro k I J a hqk hf hr hall hA hF h4 h13 h14 hJ ha
    have h11 : I 404 3 = I0 404 3 := hF 3 (by decide) (by decide) (by decide)
    have hbM : tbM I = tbM I0 := tbM_eq h11 (hA 405 (by decide))
    rw [← h11] at hN
    have c1 : (1 : Int32).toInt = 1 := rfl
    have cm1 : (-1 : Int32).toInt = -1 := rfl
    obtain ⟨hJa, hJf, hJw, hJt⟩ := hJ
    have J276 : ∀ (I2 : Nat → Nat → Int32) (J2 : Nat → Nat → Int64) (a2 : Int32), q + k < N → (f_sm (tbM I0 (q + k)) ∨ f_dg (tbM I0 (q + k))) → (∀ a, a ≠ 404 → I2 a = I0 a) → (∀ j, j ≠ 14 → I2 404 j = I 404 j) → (k + 1 ≤ 3 → I2 404 14 = vlF (tbM I0) q (k + 1)) → ((∀ a, a ≠ 404 → J2 a = J0 a) ∧ (∀ j, j ≠ 17 → j ≠ 18 → J2 404 j = J0 404 j) ∧ J2 404 17 = wdF (tbM I0) q (min (k + 1) 8) ∧ J2 404 18 = wdF (tbM I0) (q + 8) ((k + 1) - 8)) → (AC (tbM I0) q s a2 (k + 1)) → dw_ok (pr_X12_next K) 276 bc bs [some (.ref 404), some (.int c), some (.int s), some (.int a2)] [] (n, SH1, I2, J2) := by
      intro I2 J2 a2 hlt hch hA2 hF2 h142 hJ2 ha2
      refine q_ald rfl rfl ?_
      refine q_dup rfl ?_
      refine q_geti rfl sk_404 ?_
      refine q_ic rfl ?_
      refine q_add rfl ?_
      refine q_puti rfl sk_404 ?_
      show dw_ok (pr_X12_next K) 286 bc bs [some (.ref 404), some (.int c), some (.int s), some (.int a2)] [] (n, SH1, (dw_up I2 404 13 ((I2 404 13) + (1 : Int32))), J2)
      refine q_ald rfl rfl ?_
      refine q_dup rfl ?_
      refine q_geti rfl sk_404 ?_
      refine q_ic rfl ?_
      refine q_add rfl ?_
      refine q_puti rfl sk_404 ?_
      show dw_ok (pr_X12_next K) 296 bc bs [some (.ref 404), some (.int c), some (.int s), some (.int a2)] [] (n, SH1, (dw_up (dw_up I2 404 13 ((I2 404 13) + (1 : Int32))) 404 4 ((I2 404 4) + (1 : Int32))), J2)
      refine q_goto rfl ?_
      have e4 : I2 404 4 = I 404 4 := hF2 4 (by decide)
      have e13 : I2 404 13 = I 404 13 := hF2 13 (by decide)
      have tn : ((I2 404 4) + 1).toInt = (I2 404 4).toInt + 1 := by rw [i_add (by rw [e4]; omega) (by rw [e4]; omega), c1]
      have tk : ((I2 404 13) + 1).toInt = (I2 404 13).toInt + 1 := by rw [i_add (by rw [e13]; omega) (by rw [e13]; omega), c1]
      have er : rnF (tbM I0) N (N - (q + k)) (q + k) = rnF (tbM I0) N (N - (q + (k + 1))) (q + (k + 1)) := by
        rw [show N - (q + k) = (N - (q + (k + 1))) + 1 by omega]
        conv => lhs; unfold rnF
        rw [if_pos ⟨hlt, hch⟩, show q + k + 1 = q + (k + 1) by omega]
      refine ih (k + 1) (dw_up (dw_up I2 404 13 ((I2 404 13) + (1 : Int32))) 404 4 ((I2 404 4) + (1 : Int32))) J2 a2 (by omega) (by omega) (hr.trans er) (fun i hi => ?_) (fun b hb => ?_) (fun j g1 g2 g3 => ?_) ?_ ?_ (fun h => ?_) hJ2 ha2
      · by_cases e : i = k
        · rw [e]; exact hch
        · exact hall i (by omega)
      · rw [← hA2 b hb]; funext j; simp [dw_up, hb]
      · rw [← hF j g1 g2 g3, ← hF2 j g3]; simp [dw_up, g1, g2]
      · show ((I2 404 4) + 1).toInt = _; rw [tn, e4]; omega
      · show ((I2 404 13) + 1).toInt = _; rw [tk, e13]; omega
      · show I2 404 14 = _; exact h142 h
    have J249 : ∀ (J2 : Nat → Nat → Int64) (a2 : Int32), q + k < N → (f_sm (tbM I0 (q + k)) ∨ f_dg (tbM I0 (q + k))) → ((∀ a, a ≠ 404 → J2 a = J0 a) ∧ (∀ j, j ≠ 17 → j ≠ 18 → J2 404 j = J0 404 j) ∧ J2 404 17 = wdF (tbM I0) q (min (k + 1) 8) ∧ J2 404 18 = wdF (tbM I0) (q + 8) ((k + 1) - 8)) → (AC (tbM I0) q s a2 (k + 1)) → dw_ok (pr_X12_next K) 249 bc bs [some (.ref 404), some (.int c), some (.int s), some (.int a2)] [] (n, SH1, I, J2) := by
      intro J2 a2 hlt hch hJ2 ha2
      refine q_ald rfl rfl ?_
      refine q_geti rfl sk_404 ?_
      refine q_ic rfl ?_
      refine q_icmp (c := 3) rfl (by decide) (fun y1 => ?_) (fun y1 => ?_)
      · have y1 : (3 : Int) ≤ ((I 404 13)).toInt := y1
        exact J276 I J2 a2 hlt hch hA (fun _ _ => rfl) (fun h => by omega) hJ2 ha2
      · have y1 : ((I 404 13)).toInt < (3 : Int) := y1
        refine q_ald rfl rfl ?_
        refine q_ic rfl ?_
        refine q_ald rfl rfl ?_
        refine q_geti rfl sk_404 ?_
        refine q_mul rfl ?_
        refine q_ald rfl rfl ?_
        refine q_callV (as := []) (rest := [.int ((10 : Int32) * (I 404 14)), .ref 404]) rfl rfl sk_404 rfl (Nat.le_of_ble_eq_true rfl) ?_
        refine v_peek (p := q + k) (N := N) hN hN9 h4 hqk (fun w0 w0a w0b => ?_)
        rw [hbM] at w0a
        show dw_ok (pr_X12_next K) 269 bc bs [some (.ref 404), some (.int c), some (.int s), some (.int a2)] [.int w0, .int ((10 : Int32) * (I 404 14)), .ref 404] (n, SH1, I, J2)
        refine q_add rfl ?_
        refine q_ic rfl ?_
        refine q_sub rfl ?_
        refine q_puti rfl sk_404 ?_
        show dw_ok (pr_X12_next K) 276 bc bs [some (.ref 404), some (.int c), some (.int s), some (.int a2)] [] (n, SH1, (dw_up I 404 14 ((((10 : Int32) * (I 404 14)) + w0) - (48 : Int32))), J2)
        refine J276 (dw_up I 404 14 ((((10 : Int32) * (I 404 14)) + w0) - (48 : Int32))) J2 a2 hlt hch (fun b hb => ?_) (fun j hj => ?_) (fun h => ?_) hJ2 ha2
        · rw [← hA b hb]; funext j; simp [dw_up, hb]
        · simp [dw_up, hj]
        · show (10 : Int32) * (I 404 14) + w0 - 48 = 10 * vlF (tbM I0) q k + tbM I0 (q + k) - 48
          rw [h14 (by omega), w0a hlt]
    have J203 : ∀ (a2 : Int32), q + k < N → (f_sm (tbM I0 (q + k)) ∨ f_dg (tbM I0 (q + k))) → (AC (tbM I0) q s a2 (k + 1)) → dw_ok (pr_X12_next K) 203 bc bs [some (.ref 404), some (.int c), some (.int s), some (.int a2)] [] (n, SH1, I, J) := by
      intro a2 hlt hch ha2
      refine q_ald rfl rfl ?_
      refine q_geti rfl sk_404 ?_
      refine q_ic rfl ?_
      refine q_icmp (c := 3) rfl (by decide) (fun y2 => ?_) (fun y2 => ?_)
      · have y2 : (8 : Int) ≤ ((I 404 13)).toInt := y2
        refine q_ald rfl rfl ?_
        refine q_ald rfl rfl ?_
        refine q_getl rfl sk_404 ?_
        refine q_ic rfl ?_
        refine q_lshl rfl ?_
        refine q_ald rfl rfl ?_
        refine q_callV (as := []) (rest := [.long ((J 404 18) <<< (((8 : Int32)).toInt64 &&& 63)), .ref 404]) rfl rfl sk_404 rfl (Nat.le_of_ble_eq_true rfl) ?_
        refine v_peek (p := q + k) (N := N) hN hN9 h4 hqk (fun w0 w0a w0b => ?_)
        rw [hbM] at w0a
        show dw_ok (pr_X12_next K) 244 bc bs [some (.ref 404), some (.int c), some (.int s), some (.int a2)] [.int w0, .long ((J 404 18) <<< (((8 : Int32)).toInt64 &&& 63)), .ref 404] (n, SH1, I, J)
        refine q_i2l rfl ?_
        refine q_lor rfl ?_
        refine q_putl rfl sk_404 ?_
        show dw_ok (pr_X12_next K) 249 bc bs [some (.ref 404), some (.int c), some (.int s), some (.int a2)] [] (n, SH1, I, (dw_up J 404 18 (((J 404 18) <<< (((8 : Int32)).toInt64 &&& 63)) ||| ((w0).toInt64))))
        refine J249 (dw_up J 404 18 (((J 404 18) <<< (((8 : Int32)).toInt64 &&& 63)) ||| ((w0).toInt64))) a2 hlt hch ⟨fun b hb => ?_, fun j g1 g2 => ?_, ?_, ?_⟩ ha2
        · rw [← hJa b hb]; funext j; simp [dw_up, hb]
        · rw [← hJf j g1 g2]; simp [dw_up, g1, g2]
        · show J 404 17 = _; rw [hJw, show min k 8 = 8 by omega, show min (k + 1) 8 = 8 by omega]
        · rw [show k + 1 - 8 = (k - 8) + 1 by omega]; show (J 404 18 <<< ((8 : Int32).toInt64 &&& 63)) ||| (w0).toInt64 = (wdF (tbM I0) (q + 8) (k - 8) <<< ((8 : Int32).toInt64 &&& 63)) ||| (tbM I0 (q + 8 + (k - 8))).toInt64
          rw [hJt, show q + 8 + (k - 8) = q + k by omega, w0a hlt]
      · have y2 : ((I 404 13)).toInt < (8 : Int) := y2
        refine q_ald rfl rfl ?_
        refine q_ald rfl rfl ?_
        refine q_getl rfl sk_404 ?_
        refine q_ic rfl ?_
        refine q_lshl rfl ?_
        refine q_ald rfl rfl ?_
        refine q_callV (as := []) (rest := [.long ((J 404 17) <<< (((8 : Int32)).toInt64 &&& 63)), .ref 404]) rfl rfl sk_404 rfl (Nat.le_of_ble_eq_true rfl) ?_
        refine v_peek (p := q + k) (N := N) hN hN9 h4 hqk (fun w0 w0a w0b => ?_)
        rw [hbM] at w0a
        show dw_ok (pr_X12_next K) 224 bc bs [some (.ref 404), some (.int c), some (.int s), some (.int a2)] [.int w0, .long ((J 404 17) <<< (((8 : Int32)).toInt64 &&& 63)), .ref 404] (n, SH1, I, J)
        refine q_i2l rfl ?_
        refine q_lor rfl ?_
        refine q_putl rfl sk_404 ?_
        show dw_ok (pr_X12_next K) 229 bc bs [some (.ref 404), some (.int c), some (.int s), some (.int a2)] [] (n, SH1, I, (dw_up J 404 17 (((J 404 17) <<< (((8 : Int32)).toInt64 &&& 63)) ||| ((w0).toInt64))))
        refine q_goto rfl ?_
        refine J249 (dw_up J 404 17 (((J 404 17) <<< (((8 : Int32)).toInt64 &&& 63)) ||| ((w0).toInt64))) a2 hlt hch ⟨fun b hb => ?_, fun j g1 g2 => ?_, ?_, ?_⟩ ha2
        · rw [← hJa b hb]; funext j; simp [dw_up, hb]
        · rw [← hJf j g1 g2]; simp [dw_up, g1, g2]
        · rw [show min (k + 1) 8 = k + 1 by omega]; show (J 404 17 <<< ((8 : Int32).toInt64 &&& 63)) ||| (w0).toInt64 = (wdF (tbM I0) q k <<< ((8 : Int32).toInt64 &&& 63)) ||| (tbM I0 (q + k)).toInt64
          rw [hJw, show min k 8 = k by omega, w0a hlt]
        · show J 404 18 = _; rw [hJt, show k - 8 = 0 by omega, show k + 1 - 8 = 0 by omega]
    have J182 : q + k < N → (f_sm (tbM I0 (q + k)) ∨ f_dg (tbM I0 (q + k))) → dw_ok (pr_X12_next K) 182 bc bs [some (.ref 404), some (.int c), some (.int s), some (.int a)] [] (n, SH1, I, J) := by
      intro hlt hch
      refine q_ild rfl rfl ?_
      refine q_if (c := 0) rfl (by decide) (fun y1 => ?_) (fun y1 => ?_)
      · have y1 : a.toInt = 0 := y1
        refine q_ic rfl ?_
        refine q_ist rfl rfl ?_
        show dw_ok (pr_X12_next K) 203 bc bs [some (.ref 404), some (.int c), some (.int s), some (.int 0)] [] (n, SH1, I, J)
        exact J203 0 hlt hch (ac_0 ha y1)
      · have y1 : a.toInt ≠ 0 := y1
        refine q_ald rfl rfl ?_
        refine q_callV (as := []) (rest := []) rfl rfl sk_404 rfl (Nat.le_of_ble_eq_true rfl) ?_
        refine v_peek (p := q + k) (N := N) hN hN9 h4 hqk (fun w0 w0a w0b => ?_)
        rw [hbM] at w0a
        show dw_ok (pr_X12_next K) 190 bc bs [some (.ref 404), some (.int c), some (.int s), some (.int a)] [.int w0] (n, SH1, I, J)
        refine q_callS (as := [.int w0]) (rest := []) rfl rfl rfl rfl ?_
        refine v_isSmall (fun t1 t1c => ?_)
        rw [w0a hlt] at t1c
        show dw_ok (pr_X12_next K) 193 bc bs [some (.ref 404), some (.int c), some (.int s), some (.int a)] [.int t1] (n, SH1, I, J)
        refine q_ild rfl rfl ?_
        refine q_icmp (c := 1) rfl (by decide) (fun y2 => ?_) (fun y2 => ?_)
        · have y2 : t1.toInt ≠ s.toInt := y2
          refine q_ic rfl ?_
          refine q_ist rfl rfl ?_
          show dw_ok (pr_X12_next K) 203 bc bs [some (.ref 404), some (.int c), some (.int s), some (.int 0)] [] (n, SH1, I, J)
          exact J203 0 hlt hch (ac_1 ha y1 (t1c.elim (fun h => Or.inl ⟨by rw [h.1]; rfl, h.2⟩) (fun h => Or.inr ⟨by rw [h.1]; rfl, h.2⟩)) hch y2)
        · have y2 : t1.toInt = s.toInt := y2
          refine q_ic rfl ?_
          refine q_goto rfl ?_
          refine q_ist rfl rfl ?_
          show dw_ok (pr_X12_next K) 203 bc bs [some (.ref 404), some (.int c), some (.int s), some (.int 1)] [] (n, SH1, I, J)
          exact J203 1 hlt hch (ac_2 ha y1 (t1c.elim (fun h => Or.inl ⟨by rw [h.1]; rfl, h.2⟩) (fun h => Or.inr ⟨by rw [h.1]; rfl, h.2⟩)) hch y2)
    have hJ : (∀ a, a ≠ 404 → J a = J0 a) ∧ (∀ j, j ≠ 17 → j ≠ 18 → J 404 j = J0 404 j) ∧ J 404 17 = wdF (tbM I0) q (min k 8) ∧ J 404 18 = wdF (tbM I0) (q + 8) (k - 8) := ⟨hJa, hJf, hJw, hJt⟩
    refine q_ald rfl rfl ?_
    refine q_callV (as := []) (rest := []) rfl rfl sk_404 rfl (Nat.le_of_ble_eq_true rfl) ?_
    refine v_peek (p := q + k) (N := N) hN hN9 h4 hqk (fun w0 w0a w0b => ?_)
    rw [hbM] at w0a
    have hm0 : q + k = N → w0.toInt = -1 := fun h => by rw [w0b h]; rfl
    show dw_ok (pr_X12_next K) 166 bc bs [some (.ref 404), some (.int c), some (.int s), some (.int a)] [.int w0] (n, SH1, I, J)
    refine q_callS (as := [.int w0]) (rest := []) rfl rfl rfl rfl ?_
    refine v_isSmall (fun t1 t1c => ?_)
    show dw_ok (pr_X12_next K) 169 bc bs [some (.ref 404), some (.int c), some (.int s), some (.int a)] [.int t1] (n, SH1, I, J)
    rcases t1c with ⟨rfl, t1c⟩ | ⟨rfl, t1c⟩
    · refine q_if (c := 1) rfl (by decide) (fun _ => ?_) (fun h => absurd (show (1 : Int32).toInt = 0 from h) (by decide))
      have hlt : q + k < N := by omega
      rw [w0a hlt] at t1c
      exact J182 hlt (Or.inl t1c)
    · refine q_if (c := 1) rfl (by decide) (fun h => absurd rfl h) (fun _ => ?_)
      refine q_ald rfl rfl ?_
      refine q_callV (as := []) (rest := []) rfl rfl sk_404 rfl (Nat.le_of_ble_eq_true rfl) ?_
      refine v_peek (p := q + k) (N := N) hN hN9 h4 hqk (fun w1 w1a w1b => ?_)
      rw [hbM] at w1a
      have hm1 : q + k = N → w1.toInt = -1 := fun h => by rw [w1b h]; rfl
      show dw_ok (pr_X12_next K) 176 bc bs [some (.ref 404), some (.int c), some (.int s), some (.int a)] [.int w1] (n, SH1, I, J)
      refine q_callS (as := [.int w1]) (rest := []) rfl rfl rfl rfl ?_
      refine v_isDigit (fun t2 t2c => ?_)
      show dw_ok (pr_X12_next K) 179 bc bs [some (.ref 404), some (.int c), some (.int s), some (.int a)] [.int t2] (n, SH1, I, J)
      rcases t2c with ⟨rfl, t2c⟩ | ⟨rfl, t2c⟩
      · refine q_if (c := 0) rfl (by decide) (fun h => absurd (show (1 : Int32).toInt = 0 from h) (by decide)) (fun _ => ?_)
        have hlt : q + k < N := by omega
        rw [w1a hlt] at t2c
        exact J182 hlt (Or.inr t2c)
      · refine q_if (c := 0) rfl (by decide) (fun _ => ?_) (fun h => absurd rfl h)
        have hx : q + k < N → ¬ f_dg w0 := fun h => by rw [w0a h, ← w1a h]; exact t2c
        have er : rnF (tbM I0) N (N - (q + k)) (q + k) = q + k := by
          by_cases hlt : q + k < N
          · rw [show N - (q + k) = (N - (q + k) - 1) + 1 by omega]
            unfold rnF
            rw [if_neg (fun h => by have hh := h.2; rw [← w0a hlt] at hh; have hh2 := hx hlt; omega)]
          · rw [show N - (q + k) = 0 by omega]
            rfl
        exact hk k I J a hqk (hr.trans er) hA hF h4 h13 h14 hJ ha
/-- the model's token now -/
def MK (b : fB) (T : fT) (I : Nat → Nat → Int32) (J : Nat → Nat → Int64) : Prop := (I 404 11).toInt = T.1 ∧ (I 404 12).toInt = T.2.1 ∧ (T.1 = 1 ∨ T.1 = 2 ∨ T.1 = 3 → (I 404 4).toInt = T.2.2.1) ∧ (T.1 = 3 → (I 404 14).toInt = 59) ∧ (T.1 = 2 → I 404 14 = T.2.2.2) ∧ (T.1 = 1 → (I 404 13).toInt = (T.2.2.1 : Int) - T.2.1 ∧ J 404 17 = wdF b T.2.1 (min (T.2.2.1 - T.2.1) 8) ∧ J 404 18 = wdF b (T.2.1 + 8) (T.2.2.1 - T.2.1 - 8))
set_option maxRecDepth 8000 in
theorem lt_fst {b : fB} {q : Nat} : ∀ {k : Nat}, 1 ≤ k → (f_sm (b q) → 1 ≤ ltF b q k) ∧ (f_dg (b q) → 1 ≤ dtF b q k)
  | 0, h => absurd h (by decide)
  | 1, _ => by
    refine ⟨fun h => ?_, fun h => ?_⟩
    · show 1 ≤ 0 + (if f_sm (b q) then 1 else 0); rw [if_pos h]; exact Nat.le_refl _
    · show 1 ≤ 0 + (if f_dg (b q) then 1 else 0); rw [if_pos h]; exact Nat.le_refl _
  | k + 2, _ => by
    have h := lt_fst (b := b) (q := q) (k := k + 1) (by omega)
    refine ⟨fun g => ?_, fun g => ?_⟩
    · show 1 ≤ ltF b q (k + 1) + _; have := h.1 g; omega
    · show 1 ≤ dtF b q (k + 1) + _; have := h.2 g; omega
set_option maxRecDepth 8000 in
set_option maxHeartbeats 4000000 in
theorem v_next {n : Nat} {I : Nat → Nat → Int32} {J : Nat → Nat → Int64} {K : dw_K} {p N m : Nat} (hN : (I 404 3).toInt = N) (hN9 : N ≤ 940) (hm : (I 404 5).toInt = m) (h4 : (I 404 4).toInt = p) (hp : p ≤ N)
    (hk : ∀ (I' : Nat → Nat → Int32) (J' : Nat → Nat → Int64), (∀ a, a ≠ 404 → I' a = I a) → (∀ j, j ≠ 4 → j ≠ 11 → j ≠ 12 → j ≠ 13 → j ≠ 14 → I' 404 j = I 404 j) → (∀ a, a ≠ 404 → J' a = J a) → (∀ j, j ≠ 17 → j ≠ 18 → J' 404 j = J 404 j) → MK (tbM I) (tkF (tbM I) N m p) I' J' → K none (n, SH1, I', J')) : t_X12_next [.ref 404] (n, SH1, I, J) K := by
  refine q_body (Nat.le_of_ble_eq_true rfl) ?_
  refine mk_loop (I0 := I) (p0 := p) hN hN9 (fun p1 I1 hp1 hs hA hF h41 => ?_) (N - p) p I hp (by omega) rfl (fun _ _ => rfl) (fun _ _ => rfl) h4
  have h13 : I1 404 3 = I 404 3 := hF 3 (by decide)
  have h15 : I1 404 5 = I 404 5 := hF 5 (by decide)
  have hb1 : tbM I1 = tbM I := tbM_eq h13 (hA 405 (by decide))
  have hpp := skF_ge (b := tbM I) (n := N) (N - p) p
  have c1 : (1 : Int32).toInt = 1 := rfl
  rw [← h13] at hN
  rw [← h15] at hm
  have hA2 : ∀ a, a ≠ 404 → (dw_up (dw_up I1 404 12 (I1 404 4)) 404 13 (0 : Int32)) a = I a := fun a ha => by rw [← hA a ha]; funext j; simp [dw_up, ha]
  have hF2 : ∀ j, j ≠ 4 → j ≠ 12 → j ≠ 13 → (dw_up (dw_up I1 404 12 (I1 404 4)) 404 13 (0 : Int32)) 404 j = I 404 j := fun j g1 g2 g3 => by rw [← hF j g1]; simp [dw_up, g2, g3]
  have hb2 : tbM (dw_up (dw_up I1 404 12 (I1 404 4)) 404 13 (0 : Int32)) = tbM I := tbM_eq (hF2 3 (by decide) (by decide) (by decide)) (hA2 405 (by decide))
  have J140 : ∀ (c : Int32), p1 < N → ¬ (m < N ∧ m ≤ p1) → c = tbM I p1 → (f_sm c ∨ f_dg c) → dw_ok (pr_X12_next K) 140 0 0 [some (.ref 404), some (.int c), none, none] [] (n, SH1, (dw_up (dw_up I1 404 12 (I1 404 4)) 404 13 (0 : Int32)), J) := by
    intro c hlt hlim hc hsd
    refine q_ild rfl rfl ?_
    refine q_callS (as := [.int c]) (rest := []) rfl rfl rfl rfl ?_
    refine v_isSmall (fun s sc => ?_)
    show dw_ok (pr_X12_next K) 144 0 0 [some (.ref 404), some (.int c), none, none] [.int s] (n, SH1, (dw_up (dw_up I1 404 12 (I1 404 4)) 404 13 (0 : Int32)), J)
    refine q_ist rfl rfl ?_
    show dw_ok (pr_X12_next K) 145 0 0 [some (.ref 404), some (.int c), some (.int s), none] [] (n, SH1, (dw_up (dw_up I1 404 12 (I1 404 4)) 404 13 (0 : Int32)), J)
    refine q_ic rfl ?_
    refine q_ist rfl rfl ?_
    show dw_ok (pr_X12_next K) 147 0 0 [some (.ref 404), some (.int c), some (.int s), some (.int (1 : Int32))] [] (n, SH1, (dw_up (dw_up I1 404 12 (I1 404 4)) 404 13 (0 : Int32)), J)
    refine q_ald rfl rfl ?_
    refine q_lc rfl ?_
    refine q_putl rfl sk_404 ?_
    show dw_ok (pr_X12_next K) 152 0 0 [some (.ref 404), some (.int c), some (.int s), some (.int (1 : Int32))] [] (n, SH1, (dw_up (dw_up I1 404 12 (I1 404 4)) 404 13 (0 : Int32)), (dw_up J 404 17 (0 : Int64)))
    refine q_ald rfl rfl ?_
    refine q_lc rfl ?_
    refine q_putl rfl sk_404 ?_
    show dw_ok (pr_X12_next K) 157 0 0 [some (.ref 404), some (.int c), some (.int s), some (.int (1 : Int32))] [] (n, SH1, (dw_up (dw_up I1 404 12 (I1 404 4)) 404 13 (0 : Int32)), (dw_up (dw_up J 404 17 (0 : Int64)) 404 18 (0 : Int64)))
    refine q_ald rfl rfl ?_
    refine q_ic rfl ?_
    refine q_puti rfl sk_404 ?_
    show dw_ok (pr_X12_next K) 162 0 0 [some (.ref 404), some (.int c), some (.int s), some (.int (1 : Int32))] [] (n, SH1, (dw_up (dw_up (dw_up I1 404 12 (I1 404 4)) 404 13 (0 : Int32)) 404 14 (0 : Int32)), (dw_up (dw_up J 404 17 (0 : Int64)) 404 18 (0 : Int64)))
    have hsc : (s.toInt = 1 ∧ f_sm (tbM I p1)) ∨ (s.toInt = 0 ∧ ¬ f_sm (tbM I p1)) := by
      rw [← hc]
      rcases sc with ⟨rfl, g⟩ | ⟨rfl, g⟩
      · exact Or.inl ⟨rfl, g⟩
      · exact Or.inr ⟨rfl, g⟩
    have hb3 : tbM (dw_up (dw_up (dw_up I1 404 12 (I1 404 4)) 404 13 (0 : Int32)) 404 14 (0 : Int32)) = tbM I := tbM_eq (hF2 3 (by decide) (by decide) (by decide)) (hA2 405 (by decide))
    refine wl_loop (I0 := (dw_up (dw_up (dw_up I1 404 12 (I1 404 4)) 404 13 (0 : Int32)) 404 14 (0 : Int32))) (J0 := (dw_up (dw_up J 404 17 (0 : Int64)) 404 18 (0 : Int64))) (q := p1) (N := N) hN hN9 (fun k I3 J3 a hqk er hA3 hF3 h43 h133 h143 hJ3 ha3 => ?_) (N - p1) 0 _ _ _ (by omega) (by omega) rfl (fun i hi => absurd hi (Nat.not_lt_zero i)) (fun _ _ => rfl) (fun _ _ _ _ => rfl) h41 rfl (fun _ => rfl) ⟨fun _ _ => rfl, fun _ _ _ => rfl, rfl, rfl⟩ (Or.inl ⟨rfl, fun _ => rfl, fun _ => rfl⟩)
    rw [hb3] at er h143 hJ3 ha3
    obtain ⟨hJa, hJf, hJw, hJt⟩ := hJ3
    have hA4 : ∀ b, b ≠ 404 → I3 b = (dw_up (dw_up I1 404 12 (I1 404 4)) 404 13 (0 : Int32)) b := fun b hb => by rw [hA3 b hb]; funext j; simp [dw_up, hb]
    have hF4 : ∀ j, j ≠ 4 → j ≠ 13 → j ≠ 14 → I3 404 j = (dw_up (dw_up I1 404 12 (I1 404 4)) 404 13 (0 : Int32)) 404 j := fun j g1 g2 g3 => by rw [hF3 j g1 g2 g3]; simp [dw_up, g1, g2, g3]
    have hin : ∀ i, i < k → f_sm (tbM I (p1 + i)) ∨ f_dg (tbM I (p1 + i)) := fun i hi => (rnF_in (b := tbM I) (n := N) (N - p1) p1 (p1 + i) (by omega) (by omega)).2
    have hlk := ltdt (b := tbM I) (q := p1) k hin
    have hk1 : 1 ≤ k := by
      have e := er
      rw [show N - p1 = (N - p1 - 1) + 1 by omega] at e
      unfold rnF at e
      rw [if_pos ⟨hlt, by rw [← hc]; exact hsd⟩] at e
      have := rnF_ge (b := tbM I) (n := N) (N - p1 - 1) (p1 + 1)
      omega
    have hfst : (f_sm (tbM I p1) → 1 ≤ ltF (tbM I) p1 k) ∧ (f_dg (tbM I p1) → 1 ≤ dtF (tbM I) p1 k) := lt_fst hk1
    have e1 : (tkF (tbM I) N m p).2.1 = p1 ∧ (tkF (tbM I) N m p).2.2.1 = p1 + k ∧ (tkF (tbM I) N m p).1 = kdF (ltF (tbM I) p1 k) (dtF (tbM I) p1 k) k ∧ ((tkF (tbM I) N m p).1 = 2 → (tkF (tbM I) N m p).2.2.2 = vlF (tbM I) p1 k) := by
      unfold tkF
      rw [hs, er, show p1 + k - p1 = k by omega, if_neg hlim, if_neg (by omega), if_neg (by rw [← hc]; omega)]
      unfold kdF
      by_cases g1 : dtF (tbM I) p1 k = 0 ∧ 1 ≤ k ∧ k ≤ 12
      · rw [if_pos g1, if_pos g1]; exact ⟨rfl, rfl, rfl, fun h => absurd h (nn rfl)⟩
      · rw [if_neg g1, if_neg g1]
        by_cases g2 : ltF (tbM I) p1 k = 0 ∧ 1 ≤ k ∧ k ≤ 3
        · rw [if_pos g2, if_pos g2]; exact ⟨rfl, rfl, rfl, fun _ => rfl⟩
        · rw [if_neg g2, if_neg g2]; exact ⟨rfl, rfl, rfl, fun h => absurd h (nn rfl)⟩
    obtain ⟨t1, t2, t3, t4⟩ := e1
    obtain ⟨hf1, hf2⟩ := hfst
    show dw_ok (pr_X12_next K) 299 0 0 [some (.ref 404), some (.int c), some (.int s), some (.int a)] [] (n, SH1, I3, J3)
    refine q_ald rfl rfl ?_
    refine q_ild rfl rfl ?_
    refine q_if (c := 0) rfl (by decide) (fun y1 => ?_) (fun y1 => ?_)
    · have y1 : (a).toInt = 0 := y1
      refine q_ic rfl ?_
      refine q_goto rfl ?_
      refine q_puti rfl sk_404 ?_
      show dw_ok (pr_X12_next K) 337 0 0 [some (.ref 404), some (.int c), some (.int s), some (.int a)] [] (n, SH1, (dw_up I3 404 11 (4 : Int32)), J3)
      have ek : kdF (ltF (tbM I) p1 k) (dtF (tbM I) p1 k) k = 4 := by
        have qq := kd_all ha3 hsc (by rw [← hc]; exact hsd) hf1 hf2 hlk
        clear hsc hsd hf1 hf2 sc
        omega
      rw [ek] at t3
      refine q_vret rfl (hk (dw_up I3 404 11 (4 : Int32)) J3 (fun b hb => ?_) (fun j g1 g2 g3 g4 g5 => ?_) (fun b hb => ?_) (fun j g1 g2 => ?_) ⟨?_, ?_, fun _ => ?_, fun h => ?_, fun h => ?_, fun h => ?_⟩)
      · rw [← hA2 b hb, ← hA4 b hb]; funext j; simp [dw_up, hb]
      · rw [← hF2 j g1 g3 g4, ← hF4 j g1 g4 g5]; simp [dw_up, g2]
      · rw [hJa b hb]; funext j; simp [dw_up, hb]
      · rw [hJf j g1 g2]; simp [dw_up, g1, g2]
      · rw [t3]; rfl
      · rw [t1]; show (I3 404 12).toInt = _; rw [hF3 12 (by decide) (by decide) (by decide)]; show (I1 404 4).toInt = _; exact h41
      · rw [t2]; exact h43
      · rw [t3] at h; exact absurd h (nn rfl)
      · rw [t3] at h; exact absurd h (nn rfl)
      · rw [t3] at h; exact absurd h (nn rfl)
    · have y1 : (a).toInt ≠ 0 := y1
      refine q_ald rfl rfl ?_
      refine q_geti rfl sk_404 ?_
      refine q_ild rfl rfl ?_
      refine q_if (c := 0) rfl (by decide) (fun y2 => ?_) (fun y2 => ?_)
      · have y2 : (s).toInt = 0 := y2
        refine q_ic rfl ?_
        refine q_icmp (c := 5) rfl (by decide) (fun y3 => ?_) (fun y3 => ?_)
        · have y3 : ((I3 404 13)).toInt ≤ (3 : Int) := y3
          refine q_ild rfl rfl ?_
          refine q_if (c := 0) rfl (by decide) (fun y4 => ?_) (fun y4 => ?_)
          · have y4 : (s).toInt = 0 := y4
            refine q_ic rfl ?_
            refine q_puti rfl sk_404 ?_
            show dw_ok (pr_X12_next K) 337 0 0 [some (.ref 404), some (.int c), some (.int s), some (.int a)] [] (n, SH1, (dw_up I3 404 11 (2 : Int32)), J3)
            have ek : kdF (ltF (tbM I) p1 k) (dtF (tbM I) p1 k) k = 2 := by
              have qq := kd_all ha3 hsc (by rw [← hc]; exact hsd) hf1 hf2 hlk
              clear hsc hsd hf1 hf2 sc
              omega
            rw [ek] at t3
            refine q_vret rfl (hk (dw_up I3 404 11 (2 : Int32)) J3 (fun b hb => ?_) (fun j g1 g2 g3 g4 g5 => ?_) (fun b hb => ?_) (fun j g1 g2 => ?_) ⟨?_, ?_, fun _ => ?_, fun h => ?_, fun h => ?_, fun h => ?_⟩)
            · rw [← hA2 b hb, ← hA4 b hb]; funext j; simp [dw_up, hb]
            · rw [← hF2 j g1 g3 g4, ← hF4 j g1 g4 g5]; simp [dw_up, g2]
            · rw [hJa b hb]; funext j; simp [dw_up, hb]
            · rw [hJf j g1 g2]; simp [dw_up, g1, g2]
            · rw [t3]; rfl
            · rw [t1]; show (I3 404 12).toInt = _; rw [hF3 12 (by decide) (by decide) (by decide)]; show (I1 404 4).toInt = _; exact h41
            · rw [t2]; exact h43
            · rw [t3] at h; exact absurd h (nn rfl)
            · rw [t4 t3]; exact h143 (by omega)
            · rw [t3] at h; exact absurd h (nn rfl)
          · have y4 : (s).toInt ≠ 0 := y4
            refine q_ic rfl ?_
            refine q_goto rfl ?_
            refine q_puti rfl sk_404 ?_
            show dw_ok (pr_X12_next K) 337 0 0 [some (.ref 404), some (.int c), some (.int s), some (.int a)] [] (n, SH1, (dw_up I3 404 11 (1 : Int32)), J3)
            have ek : kdF (ltF (tbM I) p1 k) (dtF (tbM I) p1 k) k = 1 := by
              have qq := kd_all ha3 hsc (by rw [← hc]; exact hsd) hf1 hf2 hlk
              clear hsc hsd hf1 hf2 sc
              omega
            rw [ek] at t3
            refine q_vret rfl (hk (dw_up I3 404 11 (1 : Int32)) J3 (fun b hb => ?_) (fun j g1 g2 g3 g4 g5 => ?_) (fun b hb => ?_) (fun j g1 g2 => ?_) ⟨?_, ?_, fun _ => ?_, fun h => ?_, fun h => ?_, fun h => ?_⟩)
            · rw [← hA2 b hb, ← hA4 b hb]; funext j; simp [dw_up, hb]
            · rw [← hF2 j g1 g3 g4, ← hF4 j g1 g4 g5]; simp [dw_up, g2]
            · rw [hJa b hb]; funext j; simp [dw_up, hb]
            · rw [hJf j g1 g2]; simp [dw_up, g1, g2]
            · rw [t3]; rfl
            · rw [t1]; show (I3 404 12).toInt = _; rw [hF3 12 (by decide) (by decide) (by decide)]; show (I1 404 4).toInt = _; exact h41
            · rw [t2]; exact h43
            · rw [t3] at h; exact absurd h (nn rfl)
            · rw [t3] at h; exact absurd h (nn rfl)
            · rw [t1, t2, show p1 + k - p1 = k by omega]; refine ⟨?_, hJw, hJt⟩
              show (I3 404 13).toInt = _; omega
        · have y3 : (3 : Int) < ((I3 404 13)).toInt := y3
          refine q_ic rfl ?_
          refine q_goto rfl ?_
          refine q_puti rfl sk_404 ?_
          show dw_ok (pr_X12_next K) 337 0 0 [some (.ref 404), some (.int c), some (.int s), some (.int a)] [] (n, SH1, (dw_up I3 404 11 (4 : Int32)), J3)
          have ek : kdF (ltF (tbM I) p1 k) (dtF (tbM I) p1 k) k = 4 := by
            have qq := kd_all ha3 hsc (by rw [← hc]; exact hsd) hf1 hf2 hlk
            clear hsc hsd hf1 hf2 sc
            omega
          rw [ek] at t3
          refine q_vret rfl (hk (dw_up I3 404 11 (4 : Int32)) J3 (fun b hb => ?_) (fun j g1 g2 g3 g4 g5 => ?_) (fun b hb => ?_) (fun j g1 g2 => ?_) ⟨?_, ?_, fun _ => ?_, fun h => ?_, fun h => ?_, fun h => ?_⟩)
          · rw [← hA2 b hb, ← hA4 b hb]; funext j; simp [dw_up, hb]
          · rw [← hF2 j g1 g3 g4, ← hF4 j g1 g4 g5]; simp [dw_up, g2]
          · rw [hJa b hb]; funext j; simp [dw_up, hb]
          · rw [hJf j g1 g2]; simp [dw_up, g1, g2]
          · rw [t3]; rfl
          · rw [t1]; show (I3 404 12).toInt = _; rw [hF3 12 (by decide) (by decide) (by decide)]; show (I1 404 4).toInt = _; exact h41
          · rw [t2]; exact h43
          · rw [t3] at h; exact absurd h (nn rfl)
          · rw [t3] at h; exact absurd h (nn rfl)
          · rw [t3] at h; exact absurd h (nn rfl)
      · have y2 : (s).toInt ≠ 0 := y2
        refine q_ic rfl ?_
        refine q_goto rfl ?_
        refine q_icmp (c := 5) rfl (by decide) (fun y5 => ?_) (fun y5 => ?_)
        · have y5 : ((I3 404 13)).toInt ≤ (12 : Int) := y5
          refine q_ild rfl rfl ?_
          refine q_if (c := 0) rfl (by decide) (fun y6 => ?_) (fun y6 => ?_)
          · have y6 : (s).toInt = 0 := y6
            refine q_ic rfl ?_
            refine q_puti rfl sk_404 ?_
            show dw_ok (pr_X12_next K) 337 0 0 [some (.ref 404), some (.int c), some (.int s), some (.int a)] [] (n, SH1, (dw_up I3 404 11 (2 : Int32)), J3)
            have ek : kdF (ltF (tbM I) p1 k) (dtF (tbM I) p1 k) k = 2 := by
              have qq := kd_all ha3 hsc (by rw [← hc]; exact hsd) hf1 hf2 hlk
              clear hsc hsd hf1 hf2 sc
              omega
            rw [ek] at t3
            refine q_vret rfl (hk (dw_up I3 404 11 (2 : Int32)) J3 (fun b hb => ?_) (fun j g1 g2 g3 g4 g5 => ?_) (fun b hb => ?_) (fun j g1 g2 => ?_) ⟨?_, ?_, fun _ => ?_, fun h => ?_, fun h => ?_, fun h => ?_⟩)
            · rw [← hA2 b hb, ← hA4 b hb]; funext j; simp [dw_up, hb]
            · rw [← hF2 j g1 g3 g4, ← hF4 j g1 g4 g5]; simp [dw_up, g2]
            · rw [hJa b hb]; funext j; simp [dw_up, hb]
            · rw [hJf j g1 g2]; simp [dw_up, g1, g2]
            · rw [t3]; rfl
            · rw [t1]; show (I3 404 12).toInt = _; rw [hF3 12 (by decide) (by decide) (by decide)]; show (I1 404 4).toInt = _; exact h41
            · rw [t2]; exact h43
            · rw [t3] at h; exact absurd h (nn rfl)
            · rw [t4 t3]; exact h143 (by omega)
            · rw [t3] at h; exact absurd h (nn rfl)
          · have y6 : (s).toInt ≠ 0 := y6
            refine q_ic rfl ?_
            refine q_goto rfl ?_
            refine q_puti rfl sk_404 ?_
            show dw_ok (pr_X12_next K) 337 0 0 [some (.ref 404), some (.int c), some (.int s), some (.int a)] [] (n, SH1, (dw_up I3 404 11 (1 : Int32)), J3)
            have ek : kdF (ltF (tbM I) p1 k) (dtF (tbM I) p1 k) k = 1 := by
              have qq := kd_all ha3 hsc (by rw [← hc]; exact hsd) hf1 hf2 hlk
              clear hsc hsd hf1 hf2 sc
              omega
            rw [ek] at t3
            refine q_vret rfl (hk (dw_up I3 404 11 (1 : Int32)) J3 (fun b hb => ?_) (fun j g1 g2 g3 g4 g5 => ?_) (fun b hb => ?_) (fun j g1 g2 => ?_) ⟨?_, ?_, fun _ => ?_, fun h => ?_, fun h => ?_, fun h => ?_⟩)
            · rw [← hA2 b hb, ← hA4 b hb]; funext j; simp [dw_up, hb]
            · rw [← hF2 j g1 g3 g4, ← hF4 j g1 g4 g5]; simp [dw_up, g2]
            · rw [hJa b hb]; funext j; simp [dw_up, hb]
            · rw [hJf j g1 g2]; simp [dw_up, g1, g2]
            · rw [t3]; rfl
            · rw [t1]; show (I3 404 12).toInt = _; rw [hF3 12 (by decide) (by decide) (by decide)]; show (I1 404 4).toInt = _; exact h41
            · rw [t2]; exact h43
            · rw [t3] at h; exact absurd h (nn rfl)
            · rw [t3] at h; exact absurd h (nn rfl)
            · rw [t1, t2, show p1 + k - p1 = k by omega]; refine ⟨?_, hJw, hJt⟩
              show (I3 404 13).toInt = _; omega
        · have y5 : (12 : Int) < ((I3 404 13)).toInt := y5
          refine q_ic rfl ?_
          refine q_goto rfl ?_
          refine q_puti rfl sk_404 ?_
          show dw_ok (pr_X12_next K) 337 0 0 [some (.ref 404), some (.int c), some (.int s), some (.int a)] [] (n, SH1, (dw_up I3 404 11 (4 : Int32)), J3)
          have ek : kdF (ltF (tbM I) p1 k) (dtF (tbM I) p1 k) k = 4 := by
            have qq := kd_all ha3 hsc (by rw [← hc]; exact hsd) hf1 hf2 hlk
            clear hsc hsd hf1 hf2 sc
            omega
          rw [ek] at t3
          refine q_vret rfl (hk (dw_up I3 404 11 (4 : Int32)) J3 (fun b hb => ?_) (fun j g1 g2 g3 g4 g5 => ?_) (fun b hb => ?_) (fun j g1 g2 => ?_) ⟨?_, ?_, fun _ => ?_, fun h => ?_, fun h => ?_, fun h => ?_⟩)
          · rw [← hA2 b hb, ← hA4 b hb]; funext j; simp [dw_up, hb]
          · rw [← hF2 j g1 g3 g4, ← hF4 j g1 g4 g5]; simp [dw_up, g2]
          · rw [hJa b hb]; funext j; simp [dw_up, hb]
          · rw [hJf j g1 g2]; simp [dw_up, g1, g2]
          · rw [t3]; rfl
          · rw [t1]; show (I3 404 12).toInt = _; rw [hF3 12 (by decide) (by decide) (by decide)]; show (I1 404 4).toInt = _; exact h41
          · rw [t2]; exact h43
          · rw [t3] at h; exact absurd h (nn rfl)
          · rw [t3] at h; exact absurd h (nn rfl)
          · rw [t3] at h; exact absurd h (nn rfl)
  have J80 : ¬ (m < N ∧ m ≤ p1) → dw_ok (pr_X12_next K) 80 0 0 [some (.ref 404), none, none, none] [] (n, SH1, (dw_up (dw_up I1 404 12 (I1 404 4)) 404 13 (0 : Int32)), J) := by
    intro hlim
    refine q_ald rfl rfl ?_
    refine q_callV (as := []) (rest := []) rfl rfl sk_404 rfl (Nat.le_of_ble_eq_true rfl) ?_
    refine v_peek (p := p1) (N := N) hN hN9 h41 hp1 (fun c ca cb => ?_)
    rw [hb2] at ca
    have hm0 : p1 = N → c.toInt = -1 := fun h => by rw [cb h]; rfl
    show dw_ok (pr_X12_next K) 84 0 0 [some (.ref 404), none, none, none] [.int c] (n, SH1, (dw_up (dw_up I1 404 12 (I1 404 4)) 404 13 (0 : Int32)), J)
    refine q_ist rfl rfl ?_
    show dw_ok (pr_X12_next K) 85 0 0 [some (.ref 404), some (.int c), none, none] [] (n, SH1, (dw_up (dw_up I1 404 12 (I1 404 4)) 404 13 (0 : Int32)), J)
    refine q_ild rfl rfl ?_
    refine q_if (c := 3) rfl (by decide) (fun y7 => ?_) (fun y7 => ?_)
    · have y7 : 0 ≤ (c).toInt := y7
      refine q_ild rfl rfl ?_
      refine q_callS (as := [.int c]) (rest := []) rfl rfl rfl rfl ?_
      have hlt : p1 < N := by omega
      refine v_isSmall (fun s sc => ?_)
      show dw_ok (pr_X12_next K) 99 0 0 [some (.ref 404), some (.int c), none, none] [.int s] (n, SH1, (dw_up (dw_up I1 404 12 (I1 404 4)) 404 13 (0 : Int32)), J)
      refine q_if (c := 1) rfl (by decide) (fun y8 => ?_) (fun y8 => ?_)
      · have y8 : (s).toInt ≠ 0 := y8
        refine J140 c hlt hlim (ca hlt) ?_
        rcases sc with ⟨-, g⟩ | ⟨rfl, -⟩
        · exact Or.inl g
        · have z : (0 : Int32).toInt = 0 := rfl
          omega
      · have y8 : (s).toInt = 0 := y8
        refine q_ild rfl rfl ?_
        refine q_callS (as := [.int c]) (rest := []) rfl rfl rfl rfl ?_
        refine v_isDigit (fun d dc => ?_)
        show dw_ok (pr_X12_next K) 106 0 0 [some (.ref 404), some (.int c), none, none] [.int d] (n, SH1, (dw_up (dw_up I1 404 12 (I1 404 4)) 404 13 (0 : Int32)), J)
        refine q_if (c := 1) rfl (by decide) (fun y9 => ?_) (fun y9 => ?_)
        · have y9 : (d).toInt ≠ 0 := y9
          refine J140 c hlt hlim (ca hlt) ?_
          rcases dc with ⟨-, g⟩ | ⟨rfl, -⟩
          · exact Or.inr g
          · have z : (0 : Int32).toInt = 0 := rfl
            omega
        · have y9 : (d).toInt = 0 := y9
          have z0 : (0 : Int32).toInt = 0 := rfl
          have hns : ¬ (f_sm c ∨ f_dg c) := by
            have z1 : (1 : Int32).toInt = 1 := rfl
            rcases sc with ⟨rfl, -⟩ | ⟨-, g1⟩
            · omega
            · rcases dc with ⟨rfl, -⟩ | ⟨-, g2⟩
              · omega
              · exact fun h => h.elim g1 g2
          refine q_ald rfl rfl ?_
          refine q_ild rfl rfl ?_
          refine q_ic rfl ?_
          refine q_icmp (c := 1) rfl (by decide) (fun y10 => ?_) (fun y10 => ?_)
          · have y10 : (c).toInt ≠ (59 : Int) := y10
            refine q_ic rfl ?_
            refine q_puti rfl sk_404 ?_
            show dw_ok (pr_X12_next K) 124 0 0 [some (.ref 404), some (.int c), none, none] [] (n, SH1, (dw_up (dw_up (dw_up I1 404 12 (I1 404 4)) 404 13 (0 : Int32)) 404 11 (4 : Int32)), J)
            refine q_ald rfl rfl ?_
            refine q_ild rfl rfl ?_
            refine q_puti rfl sk_404 ?_
            show dw_ok (pr_X12_next K) 129 0 0 [some (.ref 404), some (.int c), none, none] [] (n, SH1, (dw_up (dw_up (dw_up (dw_up I1 404 12 (I1 404 4)) 404 13 (0 : Int32)) 404 11 (4 : Int32)) 404 14 c), J)
            refine q_ald rfl rfl ?_
            refine q_dup rfl ?_
            refine q_geti rfl sk_404 ?_
            refine q_ic rfl ?_
            refine q_add rfl ?_
            refine q_puti rfl sk_404 ?_
            show dw_ok (pr_X12_next K) 139 0 0 [some (.ref 404), some (.int c), none, none] [] (n, SH1, (dw_up (dw_up (dw_up (dw_up (dw_up I1 404 12 (I1 404 4)) 404 13 (0 : Int32)) 404 11 (4 : Int32)) 404 14 c) 404 4 ((I1 404 4) + (1 : Int32))), J)
            have er : rnF (tbM I) N (N - p1) p1 = p1 := by
              rw [show N - p1 = (N - p1 - 1) + 1 by omega]
              unfold rnF
              rw [if_neg (fun h => by have h2 := h.2; rw [← ca hlt] at h2; exact hns h2)]
            have eT : (tkF (tbM I) N m p) = (4, p1, p1, 0) := by unfold tkF; rw [hs, er, if_neg hlim, if_neg (by omega), if_neg (by rw [← ca hlt]; omega), if_neg (by omega), if_neg (by omega)]
            refine q_vret rfl (hk (dw_up (dw_up (dw_up (dw_up (dw_up I1 404 12 (I1 404 4)) 404 13 (0 : Int32)) 404 11 (4 : Int32)) 404 14 c) 404 4 ((I1 404 4) + (1 : Int32))) J (fun b hb => ?_) (fun j g1 g2 g3 g4 g5 => ?_) (fun _ _ => rfl) (fun _ _ _ => rfl) ?_)
            · rw [← hA b hb]; funext j; simp [dw_up, hb]
            · rw [← hF j g1]; simp [dw_up, g1, g2, g3, g4, g5]
            · rw [eT]
              exact ⟨rfl, h41, fun h => by rcases h with h | h | h <;> exact absurd h (nn rfl), fun h => absurd h (nn rfl), fun h => absurd h (nn rfl), fun h => absurd h (nn rfl)⟩
          · have y10 : (c).toInt = (59 : Int) := y10
            refine q_ic rfl ?_
            refine q_goto rfl ?_
            refine q_puti rfl sk_404 ?_
            show dw_ok (pr_X12_next K) 124 0 0 [some (.ref 404), some (.int c), none, none] [] (n, SH1, (dw_up (dw_up (dw_up I1 404 12 (I1 404 4)) 404 13 (0 : Int32)) 404 11 (3 : Int32)), J)
            refine q_ald rfl rfl ?_
            refine q_ild rfl rfl ?_
            refine q_puti rfl sk_404 ?_
            show dw_ok (pr_X12_next K) 129 0 0 [some (.ref 404), some (.int c), none, none] [] (n, SH1, (dw_up (dw_up (dw_up (dw_up I1 404 12 (I1 404 4)) 404 13 (0 : Int32)) 404 11 (3 : Int32)) 404 14 c), J)
            refine q_ald rfl rfl ?_
            refine q_dup rfl ?_
            refine q_geti rfl sk_404 ?_
            refine q_ic rfl ?_
            refine q_add rfl ?_
            refine q_puti rfl sk_404 ?_
            show dw_ok (pr_X12_next K) 139 0 0 [some (.ref 404), some (.int c), none, none] [] (n, SH1, (dw_up (dw_up (dw_up (dw_up (dw_up I1 404 12 (I1 404 4)) 404 13 (0 : Int32)) 404 11 (3 : Int32)) 404 14 c) 404 4 ((I1 404 4) + (1 : Int32))), J)
            have eT : (tkF (tbM I) N m p) = (3, p1, p1 + 1, 0) := by unfold tkF; rw [hs, if_neg hlim, if_neg (by omega), if_pos (by rw [← ca hlt]; omega)]
            refine q_vret rfl (hk (dw_up (dw_up (dw_up (dw_up (dw_up I1 404 12 (I1 404 4)) 404 13 (0 : Int32)) 404 11 (3 : Int32)) 404 14 c) 404 4 ((I1 404 4) + (1 : Int32))) J (fun b hb => ?_) (fun j g1 g2 g3 g4 g5 => ?_) (fun _ _ => rfl) (fun _ _ _ => rfl) ?_)
            · rw [← hA b hb]; funext j; simp [dw_up, hb]
            · rw [← hF j g1]; simp [dw_up, g1, g2, g3, g4, g5]
            · rw [eT]
              exact ⟨rfl, h41, fun _ => (show ((I1 404 4) + 1).toInt = ((p1 + 1 : Nat) : Int) by rw [i_add (by omega) (by omega), c1]; omega), fun _ => (show c.toInt = 59 by omega), fun h => absurd h (nn rfl), fun h => absurd h (nn rfl)⟩
    · have y7 : (c).toInt < 0 := y7
      refine q_ald rfl rfl ?_
      refine q_ic rfl ?_
      refine q_puti rfl sk_404 ?_
      show dw_ok (pr_X12_next K) 94 0 0 [some (.ref 404), some (.int c), none, none] [] (n, SH1, (dw_up (dw_up (dw_up I1 404 12 (I1 404 4)) 404 13 (0 : Int32)) 404 11 (0 : Int32)), J)
      have hpN : p1 = N := by
        rcases Nat.lt_or_ge p1 N with hlt | hge
        · have qq := tbM_rng (I := I) (k := p1)
          rw [← ca hlt] at qq
          omega
        · omega
      have eT : (tkF (tbM I) N m p) = (0, N, p1, 0) := by unfold tkF; rw [hs, if_neg hlim, if_pos (by omega)]
      refine q_vret rfl (hk (dw_up (dw_up (dw_up I1 404 12 (I1 404 4)) 404 13 (0 : Int32)) 404 11 (0 : Int32)) J (fun b hb => ?_) (fun j g1 g2 g3 g4 g5 => ?_) (fun _ _ => rfl) (fun _ _ _ => rfl) ?_)
      · rw [← hA b hb]; funext j; simp [dw_up, hb]
      · rw [← hF j g1]; simp [dw_up, g1, g2, g3, g4, g5]
      · rw [eT]
        exact ⟨rfl, (show (I1 404 4).toInt = (N : Int) by omega), fun h => by rcases h with h | h | h <;> exact absurd h (nn rfl), fun h => absurd h (nn rfl), fun h => absurd h (nn rfl), fun h => absurd h (nn rfl)⟩
  refine q_ald rfl rfl ?_
  refine q_ald rfl rfl ?_
  refine q_geti rfl sk_404 ?_
  refine q_puti rfl sk_404 ?_
  show dw_ok (pr_X12_next K) 39 0 0 [some (.ref 404), none, none, none] [] (n, SH1, (dw_up I1 404 12 (I1 404 4)), J)
  refine q_ald rfl rfl ?_
  refine q_ic rfl ?_
  refine q_puti rfl sk_404 ?_
  show dw_ok (pr_X12_next K) 44 0 0 [some (.ref 404), none, none, none] [] (n, SH1, (dw_up (dw_up I1 404 12 (I1 404 4)) 404 13 (0 : Int32)), J)
  refine q_ald rfl rfl ?_
  refine q_geti rfl sk_404 ?_
  refine q_ald rfl rfl ?_
  refine q_geti rfl sk_404 ?_
  refine q_icmp (c := 5) rfl (by decide) (fun y11 => ?_) (fun y11 => ?_)
  · have y11 : ((I1 404 3)).toInt ≤ ((I1 404 5)).toInt := y11
    exact J80 (by omega)
  · have y11 : ((I1 404 5)).toInt < ((I1 404 3)).toInt := y11
    refine q_ald rfl rfl ?_
    refine q_geti rfl sk_404 ?_
    refine q_ald rfl rfl ?_
    refine q_geti rfl sk_404 ?_
    refine q_icmp (c := 2) rfl (by decide) (fun y12 => ?_) (fun y12 => ?_)
    · have y12 : ((I1 404 4)).toInt < ((I1 404 5)).toInt := y12
      exact J80 (by omega)
    · have y12 : ((I1 404 5)).toInt ≤ ((I1 404 4)).toInt := y12
      refine q_ald rfl rfl ?_
      refine q_ald rfl rfl ?_
      refine q_geti rfl sk_404 ?_
      refine q_puti rfl sk_404 ?_
      show dw_ok (pr_X12_next K) 74 0 0 [some (.ref 404), none, none, none] [] (n, SH1, (dw_up (dw_up (dw_up I1 404 12 (I1 404 4)) 404 13 (0 : Int32)) 404 12 (I1 404 5)), J)
      refine q_ald rfl rfl ?_
      refine q_ic rfl ?_
      refine q_puti rfl sk_404 ?_
      show dw_ok (pr_X12_next K) 79 0 0 [some (.ref 404), none, none, none] [] (n, SH1, (dw_up (dw_up (dw_up (dw_up I1 404 12 (I1 404 4)) 404 13 (0 : Int32)) 404 12 (I1 404 5)) 404 11 (4 : Int32)), J)
      have eT : (tkF (tbM I) N m p) = (4, m, p1, 0) := by unfold tkF; rw [hs, if_pos (by omega)]
      refine q_vret rfl (hk (dw_up (dw_up (dw_up (dw_up I1 404 12 (I1 404 4)) 404 13 (0 : Int32)) 404 12 (I1 404 5)) 404 11 (4 : Int32)) J (fun b hb => ?_) (fun j g1 g2 g3 g4 g5 => ?_) (fun _ _ => rfl) (fun _ _ _ => rfl) ?_)
      · rw [← hA b hb]; funext j; simp [dw_up, hb]
      · rw [← hF j g1]; simp [dw_up, g1, g2, g3, g4, g5]
      · rw [eT]
        exact ⟨rfl, hm, fun h => by rcases h with h | h | h <;> exact absurd h (nn rfl), fun h => absurd h (nn rfl), fun h => absurd h (nn rfl), fun h => absurd h (nn rfl)⟩
set_option maxRecDepth 8000 in
theorem cmp_0 {x y : Int64} (h : (lg_cmp x y).toInt = 0) : x = y := by
  unfold lg_cmp at h
  by_cases g : x > y
  · rw [if_pos g] at h; exact absurd h (by decide)
  · rw [if_neg g] at h
    by_cases e : x = y
    · exact e
    · rw [if_neg e] at h; exact absurd h (by decide)
set_option maxRecDepth 8000 in
theorem cmp_e {x y : Int64} (h : x = y) : (lg_cmp x y).toInt = 0 := by
  subst h
  unfold lg_cmp
  rw [if_neg (fun h => Int64.lt_irrefl h), if_pos rfl]
  rfl
set_option maxRecDepth 8000 in
theorem v_isWord {n : Nat} {I : Nat → Nat → Int32} {J : Nat → Nat → Int64} {K : dw_K} {w : Int64} (hk : ∀ v : Int32, (v = 1 ∧ (I 404 11).toInt = 1 ∧ J 404 17 = w) ∨ (v = 0 ∧ ¬ ((I 404 11).toInt = 1 ∧ J 404 17 = w)) → K (some (.int v)) (n, SH1, I, J)) : t_X12_isWord [.ref 404, .long w] (n, SH1, I, J) K := by
  refine q_body (Nat.le_of_ble_eq_true rfl) ?_
  refine q_ald rfl rfl ?_
  refine q_geti rfl sk_404 ?_
  refine q_ic rfl ?_
  refine q_icmp (c := 1) rfl (by decide) (fun y1 => ?_) (fun y1 => ?_)
  · have y1 : ((I 404 11)).toInt ≠ (1 : Int) := y1
    refine q_ic rfl ?_
    exact q_zret rfl (Or.inl rfl) (hk 0 (Or.inr ⟨rfl, fun h => by first | omega | exact absurd (cmp_e h.2) (by omega)⟩))
  · have y1 : ((I 404 11)).toInt = (1 : Int) := y1
    refine q_ald rfl rfl ?_
    refine q_getl rfl sk_404 ?_
    refine q_lld rfl rfl ?_
    refine q_lcmp rfl ?_
    refine q_if (c := 1) rfl (by decide) (fun y2 => ?_) (fun y2 => ?_)
    · have y2 : ((lg_cmp (J 404 17) w)).toInt ≠ 0 := y2
      refine q_ic rfl ?_
      exact q_zret rfl (Or.inl rfl) (hk 0 (Or.inr ⟨rfl, fun h => by first | omega | exact absurd (cmp_e h.2) (by omega)⟩))
    · have y2 : ((lg_cmp (J 404 17) w)).toInt = 0 := y2
      refine q_ic rfl ?_
      refine q_goto rfl ?_
      exact q_zret rfl (Or.inr rfl) (hk 1 (Or.inl ⟨rfl, by omega, cmp_0 (by omega)⟩))
set_option maxRecDepth 8000 in
set_option maxHeartbeats 1000000 in
theorem v_sign {n : Nat} {I : Nat → Nat → Int32} {J : Nat → Nat → Int64} {K : dw_K} {b : fB} {N m : Nat} {T : fT} (hN : (I 404 3).toInt = N) (hN9 : N ≤ 940) (hm : (I 404 5).toInt = m) (hb : tbM I = b) (hT : MK b T I J) (hnx : T.2.2.1 ≤ N) (hk1 : T.1 = 3 → ∀ (I' : Nat → Nat → Int32) (J' : Nat → Nat → Int64), (∀ a, a ≠ 404 → I' a = I a) → (∀ j, j ≠ 4 → j ≠ 11 → j ≠ 12 → j ≠ 13 → j ≠ 14 → I' 404 j = I 404 j) → (∀ a, a ≠ 404 → J' a = J a) → (∀ j, j ≠ 17 → j ≠ 18 → J' 404 j = J 404 j) →  MK b (tkF b N m T.2.2.1) I' J' → K (some (.int 1)) (n, SH1, I', J')) (hk0 : T.1 ≠ 3 → K (some (.int 0)) (n, SH1, dw_up (dw_up I 404 15 1) 404 16 (I 404 12), J)) : t_X12_sign [.ref 404, .int 59] (n, SH1, I, J) K := by
  refine q_body (Nat.le_of_ble_eq_true rfl) ?_
  refine q_ald rfl rfl ?_
  refine q_ild rfl rfl ?_
  refine q_callV (as := [.int (59 : Int32)]) (rest := []) rfl rfl sk_404 rfl (Nat.le_of_ble_eq_true rfl) ?_
  refine v_isSign (fun w wc => ?_)
  show dw_ok (pr_X12_sign K) 5 0 0 [some (.ref 404), some (.int (59 : Int32))] [.int w] (n, SH1, I, J)
  rcases wc with ⟨rfl, h3, h4⟩ | ⟨rfl, h3⟩
  · have hT3 : T.1 = 3 := by have e := hT.1; omega
    refine q_if (c := 1) rfl (by decide) (fun y1 => ?_) (fun h => absurd (show (1 : Int) = 0 from h) (by decide))
    have y1 : (1 : Int) ≠ 0 := y1
    refine q_ald rfl rfl ?_
    refine q_callV (as := []) (rest := []) rfl rfl sk_404 rfl (Nat.le_of_ble_eq_true rfl) ?_
    have h44 : (I 404 4).toInt = T.2.2.1 := hT.2.2.1 (Or.inr (Or.inr hT3))
    refine v_next (p := T.2.2.1) (N := N) (m := m) (by skip; exact hN) hN9 (by skip; exact hm) (by skip; exact h44) hnx (fun I2 J2 hA hF hJa hJf hM => ?_)
    rw [hb] at hM
    show dw_ok (pr_X12_sign K) 18 0 0 [some (.ref 404), some (.int (59 : Int32))] [] (n, SH1, I2, J2)
    refine q_ic rfl ?_
    exact q_zret rfl (Or.inr rfl) (hk1 hT3 I2 J2 hA hF hJa hJf hM)
  · have hT3 : T.1 ≠ 3 := by
      intro h
      have e := hT.1
      have e2 := hT.2.2.2.1 h
      have c59 : (59 : Int32).toInt = 59 := rfl
      exact h3 ⟨by omega, by omega⟩
    refine q_if (c := 1) rfl (by decide) (fun h => absurd (show (0 : Int) ≠ 0 from h) (by decide)) (fun y2 => ?_)
    have y2 : (0 : Int) = 0 := y2
    refine q_ald rfl rfl ?_
    refine q_ic rfl ?_
    refine q_callV (as := [.int (1 : Int32)]) (rest := []) rfl rfl sk_404 rfl (Nat.le_of_ble_eq_true rfl) ?_
    refine v_bad ?_
    show dw_ok (pr_X12_sign K) 13 0 0 [some (.ref 404), some (.int (59 : Int32))] [.int (0 : Int32)] (n, SH1, (dw_up (dw_up I 404 15 (1 : Int32)) 404 16 (I 404 12)), J)
    exact q_zret rfl (Or.inl rfl) (hk0 hT3)
set_option maxRecDepth 8000 in
set_option maxHeartbeats 1000000 in
theorem v_takes {lo hi : Int32} {n : Nat} {I : Nat → Nat → Int32} {J : Nat → Nat → Int64} {K : dw_K} {b : fB} {N m : Nat} {T : fT} (hN : (I 404 3).toInt = N) (hN9 : N ≤ 940) (hm : (I 404 5).toInt = m) (hb : tbM I = b) (hT : MK b T I J) (hnx : T.2.2.1 ≤ N) (hk1 : nbF T lo.toInt hi.toInt = 0 → ∀ (I' : Nat → Nat → Int32) (J' : Nat → Nat → Int64), (∀ a, a ≠ 404 → I' a = I a) → (∀ j, j ≠ 4 → j ≠ 11 → j ≠ 12 → j ≠ 13 → j ≠ 14 → j ≠ 19 → I' 404 j = I 404 j) → (∀ a, a ≠ 404 → J' a = J a) → (∀ j, j ≠ 17 → j ≠ 18 → J' 404 j = J 404 j) →  I' 404 19 = T.2.2.2 → MK b (tkF b N m T.2.2.1) I' J' → K (some (.int 1)) (n, SH1, I', J')) (hk0 : ∀ c : Int32, c.toInt = nbF T lo.toInt hi.toInt → c.toInt ≠ 0 → K (some (.int 0)) (n, SH1, dw_up (dw_up I 404 15 c) 404 16 (I 404 12), J)) : t_X12_takes [.ref 404, .int lo, .int hi] (n, SH1, I, J) K := by
  have e11 := hT.1
  refine q_body (Nat.le_of_ble_eq_true rfl) ?_
  refine q_ald rfl rfl ?_
  refine q_geti rfl sk_404 ?_
  refine q_ic rfl ?_
  refine q_icmp (c := 0) rfl (by decide) (fun y1 => ?_) (fun y1 => ?_)
  · have y1 : ((I 404 11)).toInt = (2 : Int) := y1
    refine q_ald rfl rfl ?_
    refine q_geti rfl sk_404 ?_
    refine q_ild rfl rfl ?_
    refine q_ild rfl rfl ?_
    refine q_callS (as := [.int (I 404 14), .int lo, .int hi]) (rest := []) rfl rfl rfl rfl ?_
    have hT2 : T.1 = 2 := by omega
    have e14 : I 404 14 = T.2.2.2 := hT.2.2.2.2.1 hT2
    refine v_isIn (fun w wc => ?_)
    show dw_ok (pr_X12_takes K) 23 0 0 [some (.ref 404), some (.int lo), some (.int hi)] [.int w] (n, SH1, I, J)
    rcases wc with ⟨rfl, h3⟩ | ⟨rfl, h3⟩
    · have hn0 : nbF T lo.toInt hi.toInt = 0 := by unfold nbF; rw [if_pos hT2, if_pos (by rw [← e14]; exact h3)]
      refine q_if (c := 1) rfl (by decide) (fun y2 => ?_) (fun h => absurd (show (1 : Int) = 0 from h) (by decide))
      have y2 : (1 : Int) ≠ 0 := y2
      refine q_ald rfl rfl ?_
      refine q_ald rfl rfl ?_
      refine q_geti rfl sk_404 ?_
      refine q_puti rfl sk_404 ?_
      show dw_ok (pr_X12_takes K) 40 0 0 [some (.ref 404), some (.int lo), some (.int hi)] [] (n, SH1, (dw_up I 404 19 (I 404 14)), J)
      refine q_ald rfl rfl ?_
      refine q_callV (as := []) (rest := []) rfl rfl sk_404 rfl (Nat.le_of_ble_eq_true rfl) ?_
      have h44 : (I 404 4).toInt = T.2.2.1 := hT.2.2.1 (Or.inr (Or.inl hT2))
      refine v_next (p := T.2.2.1) (N := N) (m := m) (by show ((dw_up I 404 19 (I 404 14)) 404 3).toInt = _; exact hN) hN9 (by show ((dw_up I 404 19 (I 404 14)) 404 5).toInt = _; exact hm) (by show ((dw_up I 404 19 (I 404 14)) 404 4).toInt = _; exact h44) hnx (fun I2 J2 hA hF hJa hJf hM => ?_)
      have hbc : tbM (dw_up I 404 19 (I 404 14)) = tbM I := tbM_eq rfl rfl
      rw [hbc, hb] at hM
      show dw_ok (pr_X12_takes K) 44 0 0 [some (.ref 404), some (.int lo), some (.int hi)] [] (n, SH1, I2, J2)
      refine q_ic rfl ?_
      exact q_zret rfl (Or.inr rfl) (hk1 hn0 I2 J2 (fun a ha => by rw [hA a ha]; funext j; simp [dw_up, ha]) (fun j g1 g2 g3 g4 g5 g6 => by rw [hF j g1 g2 g3 g4 g5]; simp [dw_up, g6]) hJa hJf (by rw [hF 19 (by decide) (by decide) (by decide) (by decide) (by decide)]; exact e14) hM)
    · have hn2 : nbF T lo.toInt hi.toInt = 2 := by unfold nbF; rw [if_pos hT2, if_neg (by rw [← e14]; exact h3)]
      refine q_if (c := 1) rfl (by decide) (fun h => absurd (show (0 : Int) ≠ 0 from h) (by decide)) (fun y3 => ?_)
      have y3 : (0 : Int) = 0 := y3
      refine q_ald rfl rfl ?_
      refine q_ic rfl ?_
      refine q_callV (as := [.int (2 : Int32)]) (rest := []) rfl rfl sk_404 rfl (Nat.le_of_ble_eq_true rfl) ?_
      refine v_bad ?_
      show dw_ok (pr_X12_takes K) 31 0 0 [some (.ref 404), some (.int lo), some (.int hi)] [.int (0 : Int32)] (n, SH1, (dw_up (dw_up I 404 15 (2 : Int32)) 404 16 (I 404 12)), J)
      exact q_zret rfl (Or.inl rfl) (hk0 2 (by rw [hn2]; rfl) (by decide))
  · have y1 : ((I 404 11)).toInt ≠ (2 : Int) := y1
    refine q_ald rfl rfl ?_
    refine q_ic rfl ?_
    refine q_callV (as := [.int (1 : Int32)]) (rest := []) rfl rfl sk_404 rfl (Nat.le_of_ble_eq_true rfl) ?_
    refine v_bad ?_
    show dw_ok (pr_X12_takes K) 13 0 0 [some (.ref 404), some (.int lo), some (.int hi)] [.int (0 : Int32)] (n, SH1, (dw_up (dw_up I 404 15 (1 : Int32)) 404 16 (I 404 12)), J)
    exact q_zret rfl (Or.inl rfl) (hk0 1 (by unfold nbF; rw [if_neg (by omega)]; rfl) (by decide))
