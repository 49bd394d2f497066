set_option maxRecDepth 8000 in
theorem v_byteAt {n : Nat} {I : Nat → Nat → Int32} {J : Nat → Nat → Int64} {K : dw_K} {i : Int32} (h0 : 0 ≤ i.toInt) (h1 : i.toInt < 940) (hk : K (some (.int (I 2 i.toInt.toNat))) (n, SH1, I, J)) : t_X9_byteAt [.ref 1, .int i] (n, SH1, I, J) K := by
  refine q_body (Nat.le_of_ble_eq_true rfl) ?_
  refine q_ild rfl rfl ?_
  refine q_if (c := 2) rfl (by decide) (fun h => absurd (show (i).toInt < 0 from h) (by omega)) (fun y1 => ?_)
  have y1 : 0 ≤ (i).toInt := y1
  refine q_ild rfl rfl ?_
  refine q_ald rfl rfl ?_
  refine q_getr rfl sk_1 sr_1_0 ?_
  refine q_alen2 (kd := 16) (N := 940) rfl sk_2 sn_2 (by decide) (by decide) ?_
  refine q_icmp (c := 3) rfl (by decide) (fun h => absurd (show (940 : Int) ≤ (i).toInt from h) (by omega)) (fun y2 => ?_)
  have y2 : (i).toInt < (940 : Int) := y2
  refine q_ald rfl rfl ?_
  refine q_getr rfl sk_1 sr_1_0 ?_
  refine q_ild rfl rfl ?_
  refine q_xald rfl (Or.inl rfl) sk_2 sn_2 (by omega) (by omega) ?_
  refine q_goto rfl ?_
  exact q_iret rfl hk
set_option maxRecDepth 8000 in
theorem v_fail {n : Nat} {I : Nat → Nat → Int32} {J : Nat → Nat → Int64} {K : dw_K} {c : Int32} (hk : K (some (.int 0)) (n, SH1, dw_up (dw_up I 1 7 c) 1 8 (I 1 4), J)) : t_X9_fail [.ref 1, .int c] (n, SH1, I, J) K := by
  refine q_body (Nat.le_of_ble_eq_true rfl) ?_
  refine q_ald rfl rfl ?_
  refine q_ild rfl rfl ?_
  refine q_puti rfl sk_1 ?_
  show dw_ok (pr_X9_fail K) 5 0 0 [some (.ref 1), some (.int c)] [] (n, SH1, (dw_up I 1 7 c), J)
  refine q_ald rfl rfl ?_
  refine q_ald rfl rfl ?_
  refine q_geti rfl sk_1 ?_
  refine q_puti rfl sk_1 ?_
  show dw_ok (pr_X9_fail K) 13 0 0 [some (.ref 1), some (.int c)] [] (n, SH1, (dw_up (dw_up I 1 7 c) 1 8 (I 1 4)), J)
  refine q_ic rfl ?_
  exact q_zret rfl (Or.inl rfl) hk
set_option maxRecDepth 8000 in
theorem v_tokenSize {n : Nat} {I : Nat → Nat → Int32} {J : Nat → Nat → Int64} {K : dw_K} (hk : K (some (.int (I 1 3 - I 1 4))) (n, SH1, I, J)) : t_X9_tokenSize [.ref 1] (n, SH1, I, J) K := by
  refine q_body (Nat.le_of_ble_eq_true rfl) ?_
  refine q_ald rfl rfl ?_
  refine q_geti rfl sk_1 ?_
  refine q_ald rfl rfl ?_
  refine q_geti rfl sk_1 ?_
  refine q_sub rfl ?_
  exact q_iret rfl hk
set_option maxRecDepth 8000 in
theorem v_open {n : Nat} {I : Nat → Nat → Int32} {J : Nat → Nat → Int64} {K : dw_K} {c : Int32} (hk : K none (n, SH1, dw_up (dw_up (dw_up (dw_up (dw_up I 1 2 c) 1 3 0) 1 4 0) 1 7 0) 1 8 0, J)) : t_X9_open [.ref 1, .int c] (n, SH1, I, J) K := by
  refine q_body (Nat.le_of_ble_eq_true rfl) ?_
  refine q_ald rfl rfl ?_
  refine q_ild rfl rfl ?_
  refine q_puti rfl sk_1 ?_
  show dw_ok (pr_X9_open K) 5 0 0 [some (.ref 1), some (.int c)] [] (n, SH1, (dw_up I 1 2 c), J)
  refine q_ald rfl rfl ?_
  refine q_ic rfl ?_
  refine q_puti rfl sk_1 ?_
  show dw_ok (pr_X9_open K) 10 0 0 [some (.ref 1), some (.int c)] [] (n, SH1, (dw_up (dw_up I 1 2 c) 1 3 (0 : Int32)), J)
  refine q_ald rfl rfl ?_
  refine q_ic rfl ?_
  refine q_puti rfl sk_1 ?_
  show dw_ok (pr_X9_open K) 15 0 0 [some (.ref 1), some (.int c)] [] (n, SH1, (dw_up (dw_up (dw_up I 1 2 c) 1 3 (0 : Int32)) 1 4 (0 : Int32)), J)
  refine q_ald rfl rfl ?_
  refine q_ic rfl ?_
  refine q_puti rfl sk_1 ?_
  show dw_ok (pr_X9_open K) 20 0 0 [some (.ref 1), some (.int c)] [] (n, SH1, (dw_up (dw_up (dw_up (dw_up I 1 2 c) 1 3 (0 : Int32)) 1 4 (0 : Int32)) 1 7 (0 : Int32)), J)
  refine q_ald rfl rfl ?_
  refine q_ic rfl ?_
  refine q_puti rfl sk_1 ?_
  show dw_ok (pr_X9_open K) 25 0 0 [some (.ref 1), some (.int c)] [] (n, SH1, (dw_up (dw_up (dw_up (dw_up (dw_up I 1 2 c) 1 3 (0 : Int32)) 1 4 (0 : Int32)) 1 7 (0 : Int32)) 1 8 (0 : Int32)), J)
  exact q_vret rfl hk
def kdF (l d k : Nat) : Nat := if d = 0 ∧ 1 ≤ k ∧ k ≤ 12 then 1 else if l = 0 ∧ 1 ≤ k ∧ k ≤ 3 then 2 else 4
set_option maxRecDepth 8000 in
set_option maxHeartbeats 2000000 in
theorem wn_loop {n : Nat} {J : Nat → Nat → Int64} {K : dw_K} {bc bs : Nat} {I0 : Nat → Nat → Int32} {q N : Nat} (hN : (I0 1 1).toInt = N) (hN9 : N ≤ 940)
    (hk : ∀ (k : Nat) (I : Nat → Nat → Int32) (l d : Int32) (s3 : Option Value), q + k ≤ N → rnF (tbC I0) N (N - q) q = q + k → (∀ a, a ≠ 1 → I a = I0 a) → (∀ j, j ≠ 3 → j ≠ 6 → I 1 j = I0 1 j) → (I 1 3).toInt = (q + k : Nat) → l.toInt = ltF (tbC I0) q k → d.toInt = dtF (tbC I0) q k → (ltF (tbC I0) q k = 0 ∧ k ≤ 3 → I 1 6 = vlF (tbC I0) q k) → dw_ok (pr_X9_takeWordOrNumber K) 114 bc bs [some (.ref 1), some (.int l), some (.int d), s3] [] (n, SH1, I, J)) :
    ∀ (f k : Nat) (I : Nat → Nat → Int32) (l d : Int32) (s3 : Option Value), q + k ≤ N → N - (q + k) ≤ f → rnF (tbC I0) N (N - q) q = rnF (tbC I0) N (N - (q + k)) (q + k) → (∀ a, a ≠ 1 → I a = I0 a) → (∀ j, j ≠ 3 → j ≠ 6 → I 1 j = I0 1 j) → (I 1 3).toInt = (q + k : Nat) → l.toInt = ltF (tbC I0) q k → d.toInt = dtF (tbC I0) q k → (∀ i, i < k → f_sm (tbC I0 (q + i)) ∨ f_dg (tbC I0 (q + i))) → (ltF (tbC I0) q k = 0 ∧ k ≤ 3 → I 1 6 = vlF (tbC I0) q k) → dw_ok (pr_X9_takeWordOrNumber K) 9 bc bs [some (.ref 1), some (.int l), some (.int d), s3] [] (n, SH1, I, J) := by
  intro f
  induction f with
  | zero =>
    intro k I l d s3 hqk hf hr hA hF h3 hl hd hall hv
    have h11 : I 1 1 = I0 1 1 := hF 1 (by decide) (by decide)
    have h2 : I 2 = I0 2 := hA 2 (by decide)
    have hlk := ltdt (b := tbC I0) (q := q) k hall
    have hi : (I 1 3).toInt.toNat = q + k := by omega
    have hb : q + k < N → tbC I0 (q + k) = I 2 (I 1 3).toInt.toNat := fun hlt => by rw [hi, h2]; exact tbC_in (by omega)
    rw [← h11] at hN
    refine q_ald rfl rfl ?_
    refine q_geti rfl sk_1 ?_
    refine q_ald rfl rfl ?_
    refine q_geti rfl sk_1 ?_
    refine q_icmp (c := 3) rfl (by decide) (fun y1 => ?_) (fun h => absurd (show ((I 1 3)).toInt < ((I 1 1)).toInt from h) (by omega))
    have y1 : ((I 1 1)).toInt ≤ ((I 1 3)).toInt := y1
    have er : rnF (tbC I0) N (N - (q + k)) (q + k) = q + k := by
      by_cases hlt : q + k < N
      · rw [show N - (q + k) = (N - (q + k) - 1) + 1 by omega]
        unfold rnF
        rw [if_neg (fun h => by have hh := h.2; rw [hb hlt] at hh; omega)]
      · rw [show N - (q + k) = 0 by omega]
        rfl
    exact hk k I l d _ hqk (hr.trans er) hA hF h3 hl hd hv
  | succ f ih =>
    intro k I l d s3 hqk hf hr hA hF h3 hl hd hall hv
    have h11 : I 1 1 = I0 1 1 := hF 1 (by decide) (by decide)
    have h2 : I 2 = I0 2 := hA 2 (by decide)
    have hlk := ltdt (b := tbC I0) (q := q) k hall
    have hi : (I 1 3).toInt.toNat = q + k := by omega
    have hb : q + k < N → tbC I0 (q + k) = I 2 (I 1 3).toInt.toNat := fun hlt => by rw [hi, h2]; exact tbC_in (by omega)
    rw [← h11] at hN
    refine q_ald rfl rfl ?_
    refine q_geti rfl sk_1 ?_
    refine q_ald rfl rfl ?_
    refine q_geti rfl sk_1 ?_
    refine q_icmp (c := 3) rfl (by decide) (fun y2 => ?_) (fun y2 => ?_)
    · have y2 : ((I 1 1)).toInt ≤ ((I 1 3)).toInt := y2
      have er : rnF (tbC I0) N (N - (q + k)) (q + k) = q + k := by
        by_cases hlt : q + k < N
        · rw [show N - (q + k) = (N - (q + k) - 1) + 1 by omega]
          unfold rnF
          rw [if_neg (fun h => by have hh := h.2; rw [hb hlt] at hh; omega)]
        · rw [show N - (q + k) = 0 by omega]
          rfl
      exact hk k I l d _ hqk (hr.trans er) hA hF h3 hl hd hv
    · have y2 : ((I 1 3)).toInt < ((I 1 1)).toInt := y2
      refine q_ald rfl rfl ?_
      refine q_geti rfl sk_1 ?_
      refine q_ic rfl ?_
      refine q_icmp (c := 3) rfl (by decide) (fun h => absurd (show (940 : Int) ≤ ((I 1 3)).toInt from h) (by omega)) (fun y3 => ?_)
      have y3 : ((I 1 3)).toInt < (940 : Int) := y3
      refine q_ald rfl rfl ?_
      refine q_getr rfl sk_1 sr_1_0 ?_
      refine q_ald rfl rfl ?_
      refine q_geti rfl sk_1 ?_
      show dw_ok (pr_X9_takeWordOrNumber K) 38 bc bs [some (.ref 1), some (.int l), some (.int d), s3] [.int (I 1 3), .ref 2] (n, SH1, I, J)
      refine q_xald rfl (Or.inl rfl) sk_2 sn_2 (by omega) (by omega) ?_
      refine q_ist rfl rfl ?_
      show dw_ok (pr_X9_takeWordOrNumber K) 40 bc bs [some (.ref 1), some (.int l), some (.int d), some (.int (I 2 ((I 1 3)).toInt.toNat))] [] (n, SH1, I, J)
      refine q_ild rfl rfl ?_
      refine q_ic rfl ?_
      refine q_icmp (c := 2) rfl (by decide) (fun y4 => ?_) (fun y4 => ?_)
      · have y4 : ((I 2 ((I 1 3)).toInt.toNat)).toInt < (97 : Int) := y4
        refine q_ild rfl rfl ?_
        refine q_ic rfl ?_
        refine q_icmp (c := 2) rfl (by decide) (fun y5 => ?_) (fun y5 => ?_)
        · have y5 : ((I 2 ((I 1 3)).toInt.toNat)).toInt < (48 : Int) := y5
          have er : rnF (tbC I0) N (N - (q + k)) (q + k) = q + k := by
            by_cases hlt : q + k < N
            · rw [show N - (q + k) = (N - (q + k) - 1) + 1 by omega]
              unfold rnF
              rw [if_neg (fun h => by have hh := h.2; rw [hb hlt] at hh; omega)]
            · rw [show N - (q + k) = 0 by omega]
              rfl
          exact hk k I l d _ hqk (hr.trans er) hA hF h3 hl hd hv
        · have y5 : (48 : Int) ≤ ((I 2 ((I 1 3)).toInt.toNat)).toInt := y5
          refine q_ild rfl rfl ?_
          refine q_ic rfl ?_
          refine q_icmp (c := 4) rfl (by decide) (fun y6 => ?_) (fun y6 => ?_)
          · have y6 : (57 : Int) < ((I 2 ((I 1 3)).toInt.toNat)).toInt := y6
            have er : rnF (tbC I0) N (N - (q + k)) (q + k) = q + k := by
              by_cases hlt : q + k < N
              · rw [show N - (q + k) = (N - (q + k) - 1) + 1 by omega]
                unfold rnF
                rw [if_neg (fun h => by have hh := h.2; rw [hb hlt] at hh; omega)]
              · rw [show N - (q + k) = 0 by omega]
                rfl
            exact hk k I l d _ hqk (hr.trans er) hA hF h3 hl hd hv
          · have y6 : ((I 2 ((I 1 3)).toInt.toNat)).toInt ≤ (57 : Int) := y6
            refine q_inc rfl rfl rfl ?_
            show dw_ok (pr_X9_takeWordOrNumber K) 73 bc bs [some (.ref 1), some (.int l), some (.int (d + 1)), some (.int (I 2 ((I 1 3)).toInt.toNat))] [] (n, SH1, I, J)
            refine q_ald rfl rfl ?_
            refine q_ild rfl rfl ?_
            refine q_ic rfl ?_
            refine q_icmp (c := 4) rfl (by decide) (fun y7 => ?_) (fun y7 => ?_)
            · have y7 : (3 : Int) < ((d + 1)).toInt := y7
              refine q_ald rfl rfl ?_
              refine q_geti rfl sk_1 ?_
              refine q_puti rfl sk_1 ?_
              show dw_ok (pr_X9_takeWordOrNumber K) 101 bc bs [some (.ref 1), some (.int l), some (.int (d + 1)), some (.int (I 2 ((I 1 3)).toInt.toNat))] [] (n, SH1, (dw_up I 1 6 (I 1 6)), J)
              refine q_ald rfl rfl ?_
              refine q_dup rfl ?_
              refine q_geti rfl sk_1 ?_
              refine q_ic rfl ?_
              refine q_add rfl ?_
              refine q_puti rfl sk_1 ?_
              show dw_ok (pr_X9_takeWordOrNumber K) 111 bc bs [some (.ref 1), some (.int l), some (.int (d + 1)), some (.int (I 2 ((I 1 3)).toInt.toNat))] [] (n, SH1, (dw_up (dw_up I 1 6 (I 1 6)) 1 3 ((I 1 3) + (1 : Int32))), J)
              refine q_goto rfl ?_
              have hlt : q + k < N := by omega
              have hbk := hb hlt
              have c1 : (1 : Int32).toInt = 1 := rfl
              have hch : f_sm (tbC I0 (q + k)) ∨ f_dg (tbC I0 (q + k)) := by rw [hbk]; exact Or.inr (by omega)
              have er : rnF (tbC I0) N (N - (q + k)) (q + k) = rnF (tbC I0) N (N - (q + (k + 1))) (q + (k + 1)) := by
                rw [show N - (q + k) = (N - (q + (k + 1))) + 1 by omega]
                conv => lhs; unfold rnF
                rw [if_pos ⟨hlt, hch⟩, show q + k + 1 = q + (k + 1) by omega]
              have el : ltF (tbC I0) q (k + 1) = ltF (tbC I0) q k + 0 := by show ltF (tbC I0) q k + (if f_sm (tbC I0 (q + k)) then 1 else 0) = _; rw [hbk, if_neg (by omega)]
              have ed : dtF (tbC I0) q (k + 1) = dtF (tbC I0) q k + 1 := by show dtF (tbC I0) q k + (if f_dg (tbC I0 (q + k)) then 1 else 0) = _; rw [hbk, if_pos (by omega)]
              have tn : ((I 1 3) + 1).toInt = (I 1 3).toInt + 1 := by rw [i_add (by omega) (by omega), c1]
              have tl : ((d + 1)).toInt = (d).toInt + 1 := by rw [i_add (by omega) (by omega), c1]
              refine ih (k + 1) (dw_up (dw_up I 1 6 (I 1 6)) 1 3 ((I 1 3) + (1 : Int32))) (l) ((d + 1)) _ (by omega) (by omega) (hr.trans er) (fun a ha => ?_) (fun j h1 h2 => ?_) ?_ (by omega) (by omega) (fun i hi => ?_) (fun h => ?_)
              · rw [← hA a ha]; funext j; simp [dw_up, ha]
              · rw [← hF j h1 h2]; simp [dw_up, h1, h2]
              · show ((I 1 3) + 1).toInt = _; omega
              · by_cases e : i = k
                · rw [e]; exact hch
                · exact hall i (by omega)
              · omega
            · have y7 : ((d + 1)).toInt ≤ (3 : Int) := y7
              refine q_ic rfl ?_
              refine q_ald rfl rfl ?_
              refine q_geti rfl sk_1 ?_
              refine q_mul rfl ?_
              refine q_ild rfl rfl ?_
              refine q_add rfl ?_
              refine q_ic rfl ?_
              refine q_sub rfl ?_
              refine q_goto rfl ?_
              refine q_puti rfl sk_1 ?_
              show dw_ok (pr_X9_takeWordOrNumber K) 101 bc bs [some (.ref 1), some (.int l), some (.int (d + 1)), some (.int (I 2 ((I 1 3)).toInt.toNat))] [] (n, SH1, (dw_up I 1 6 ((((10 : Int32) * (I 1 6)) + (I 2 ((I 1 3)).toInt.toNat)) - (48 : Int32))), J)
              refine q_ald rfl rfl ?_
              refine q_dup rfl ?_
              refine q_geti rfl sk_1 ?_
              refine q_ic rfl ?_
              refine q_add rfl ?_
              refine q_puti rfl sk_1 ?_
              show dw_ok (pr_X9_takeWordOrNumber K) 111 bc bs [some (.ref 1), some (.int l), some (.int (d + 1)), some (.int (I 2 ((I 1 3)).toInt.toNat))] [] (n, SH1, (dw_up (dw_up I 1 6 ((((10 : Int32) * (I 1 6)) + (I 2 ((I 1 3)).toInt.toNat)) - (48 : Int32))) 1 3 ((I 1 3) + (1 : Int32))), J)
              refine q_goto rfl ?_
              have hlt : q + k < N := by omega
              have hbk := hb hlt
              have c1 : (1 : Int32).toInt = 1 := rfl
              have hch : f_sm (tbC I0 (q + k)) ∨ f_dg (tbC I0 (q + k)) := by rw [hbk]; exact Or.inr (by omega)
              have er : rnF (tbC I0) N (N - (q + k)) (q + k) = rnF (tbC I0) N (N - (q + (k + 1))) (q + (k + 1)) := by
                rw [show N - (q + k) = (N - (q + (k + 1))) + 1 by omega]
                conv => lhs; unfold rnF
                rw [if_pos ⟨hlt, hch⟩, show q + k + 1 = q + (k + 1) by omega]
              have el : ltF (tbC I0) q (k + 1) = ltF (tbC I0) q k + 0 := by show ltF (tbC I0) q k + (if f_sm (tbC I0 (q + k)) then 1 else 0) = _; rw [hbk, if_neg (by omega)]
              have ed : dtF (tbC I0) q (k + 1) = dtF (tbC I0) q k + 1 := by show dtF (tbC I0) q k + (if f_dg (tbC I0 (q + k)) then 1 else 0) = _; rw [hbk, if_pos (by omega)]
              have tn : ((I 1 3) + 1).toInt = (I 1 3).toInt + 1 := by rw [i_add (by omega) (by omega), c1]
              have tl : ((d + 1)).toInt = (d).toInt + 1 := by rw [i_add (by omega) (by omega), c1]
              refine ih (k + 1) (dw_up (dw_up I 1 6 ((((10 : Int32) * (I 1 6)) + (I 2 ((I 1 3)).toInt.toNat)) - (48 : Int32))) 1 3 ((I 1 3) + (1 : Int32))) (l) ((d + 1)) _ (by omega) (by omega) (hr.trans er) (fun a ha => ?_) (fun j h1 h2 => ?_) ?_ (by omega) (by omega) (fun i hi => ?_) (fun h => ?_)
              · rw [← hA a ha]; funext j; simp [dw_up, ha]
              · rw [← hF j h1 h2]; simp [dw_up, h1, h2]
              · show ((I 1 3) + 1).toInt = _; omega
              · by_cases e : i = k
                · rw [e]; exact hch
                · exact hall i (by omega)
              · have hv2 := hv ⟨by omega, by omega⟩
                show ((10 : Int32) * (I 1 6)) + _ - 48 = 10 * vlF (tbC I0) q k + tbC I0 (q + k) - 48
                rw [hv2, hbk]
      · have y4 : (97 : Int) ≤ ((I 2 ((I 1 3)).toInt.toNat)).toInt := y4
        refine q_ild rfl rfl ?_
        refine q_ic rfl ?_
        refine q_icmp (c := 4) rfl (by decide) (fun y8 => ?_) (fun y8 => ?_)
        · have y8 : (122 : Int) < ((I 2 ((I 1 3)).toInt.toNat)).toInt := y8
          refine q_ild rfl rfl ?_
          refine q_ic rfl ?_
          refine q_icmp (c := 2) rfl (by decide) (fun y9 => ?_) (fun y9 => ?_)
          · have y9 : ((I 2 ((I 1 3)).toInt.toNat)).toInt < (48 : Int) := y9
            have er : rnF (tbC I0) N (N - (q + k)) (q + k) = q + k := by
              by_cases hlt : q + k < N
              · rw [show N - (q + k) = (N - (q + k) - 1) + 1 by omega]
                unfold rnF
                rw [if_neg (fun h => by have hh := h.2; rw [hb hlt] at hh; omega)]
              · rw [show N - (q + k) = 0 by omega]
                rfl
            exact hk k I l d _ hqk (hr.trans er) hA hF h3 hl hd hv
          · have y9 : (48 : Int) ≤ ((I 2 ((I 1 3)).toInt.toNat)).toInt := y9
            refine q_ild rfl rfl ?_
            refine q_ic rfl ?_
            refine q_icmp (c := 4) rfl (by decide) (fun y10 => ?_) (fun y10 => ?_)
            · have y10 : (57 : Int) < ((I 2 ((I 1 3)).toInt.toNat)).toInt := y10
              have er : rnF (tbC I0) N (N - (q + k)) (q + k) = q + k := by
                by_cases hlt : q + k < N
                · rw [show N - (q + k) = (N - (q + k) - 1) + 1 by omega]
                  unfold rnF
                  rw [if_neg (fun h => by have hh := h.2; rw [hb hlt] at hh; omega)]
                · rw [show N - (q + k) = 0 by omega]
                  rfl
              exact hk k I l d _ hqk (hr.trans er) hA hF h3 hl hd hv
            · have y10 : ((I 2 ((I 1 3)).toInt.toNat)).toInt ≤ (57 : Int) := y10
              refine q_inc rfl rfl rfl ?_
              show dw_ok (pr_X9_takeWordOrNumber K) 73 bc bs [some (.ref 1), some (.int l), some (.int (d + 1)), some (.int (I 2 ((I 1 3)).toInt.toNat))] [] (n, SH1, I, J)
              refine q_ald rfl rfl ?_
              refine q_ild rfl rfl ?_
              refine q_ic rfl ?_
              refine q_icmp (c := 4) rfl (by decide) (fun y11 => ?_) (fun y11 => ?_)
              · have y11 : (3 : Int) < ((d + 1)).toInt := y11
                refine q_ald rfl rfl ?_
                refine q_geti rfl sk_1 ?_
                refine q_puti rfl sk_1 ?_
                show dw_ok (pr_X9_takeWordOrNumber K) 101 bc bs [some (.ref 1), some (.int l), some (.int (d + 1)), some (.int (I 2 ((I 1 3)).toInt.toNat))] [] (n, SH1, (dw_up I 1 6 (I 1 6)), J)
                refine q_ald rfl rfl ?_
                refine q_dup rfl ?_
                refine q_geti rfl sk_1 ?_
                refine q_ic rfl ?_
                refine q_add rfl ?_
                refine q_puti rfl sk_1 ?_
                show dw_ok (pr_X9_takeWordOrNumber K) 111 bc bs [some (.ref 1), some (.int l), some (.int (d + 1)), some (.int (I 2 ((I 1 3)).toInt.toNat))] [] (n, SH1, (dw_up (dw_up I 1 6 (I 1 6)) 1 3 ((I 1 3) + (1 : Int32))), J)
                refine q_goto rfl ?_
                have hlt : q + k < N := by omega
                have hbk := hb hlt
                have c1 : (1 : Int32).toInt = 1 := rfl
                have hch : f_sm (tbC I0 (q + k)) ∨ f_dg (tbC I0 (q + k)) := by rw [hbk]; exact Or.inr (by omega)
                have er : rnF (tbC I0) N (N - (q + k)) (q + k) = rnF (tbC I0) N (N - (q + (k + 1))) (q + (k + 1)) := by
                  rw [show N - (q + k) = (N - (q + (k + 1))) + 1 by omega]
                  conv => lhs; unfold rnF
                  rw [if_pos ⟨hlt, hch⟩, show q + k + 1 = q + (k + 1) by omega]
                have el : ltF (tbC I0) q (k + 1) = ltF (tbC I0) q k + 0 := by show ltF (tbC I0) q k + (if f_sm (tbC I0 (q + k)) then 1 else 0) = _; rw [hbk, if_neg (by omega)]
                have ed : dtF (tbC I0) q (k + 1) = dtF (tbC I0) q k + 1 := by show dtF (tbC I0) q k + (if f_dg (tbC I0 (q + k)) then 1 else 0) = _; rw [hbk, if_pos (by omega)]
                have tn : ((I 1 3) + 1).toInt = (I 1 3).toInt + 1 := by rw [i_add (by omega) (by omega), c1]
                have tl : ((d + 1)).toInt = (d).toInt + 1 := by rw [i_add (by omega) (by omega), c1]
                refine ih (k + 1) (dw_up (dw_up I 1 6 (I 1 6)) 1 3 ((I 1 3) + (1 : Int32))) (l) ((d + 1)) _ (by omega) (by omega) (hr.trans er) (fun a ha => ?_) (fun j h1 h2 => ?_) ?_ (by omega) (by omega) (fun i hi => ?_) (fun h => ?_)
                · rw [← hA a ha]; funext j; simp [dw_up, ha]
                · rw [← hF j h1 h2]; simp [dw_up, h1, h2]
                · show ((I 1 3) + 1).toInt = _; omega
                · by_cases e : i = k
                  · rw [e]; exact hch
                  · exact hall i (by omega)
                · omega
              · have y11 : ((d + 1)).toInt ≤ (3 : Int) := y11
                refine q_ic rfl ?_
                refine q_ald rfl rfl ?_
                refine q_geti rfl sk_1 ?_
                refine q_mul rfl ?_
                refine q_ild rfl rfl ?_
                refine q_add rfl ?_
                refine q_ic rfl ?_
                refine q_sub rfl ?_
                refine q_goto rfl ?_
                refine q_puti rfl sk_1 ?_
                show dw_ok (pr_X9_takeWordOrNumber K) 101 bc bs [some (.ref 1), some (.int l), some (.int (d + 1)), some (.int (I 2 ((I 1 3)).toInt.toNat))] [] (n, SH1, (dw_up I 1 6 ((((10 : Int32) * (I 1 6)) + (I 2 ((I 1 3)).toInt.toNat)) - (48 : Int32))), J)
                refine q_ald rfl rfl ?_
                refine q_dup rfl ?_
                refine q_geti rfl sk_1 ?_
                refine q_ic rfl ?_
                refine q_add rfl ?_
                refine q_puti rfl sk_1 ?_
                show dw_ok (pr_X9_takeWordOrNumber K) 111 bc bs [some (.ref 1), some (.int l), some (.int (d + 1)), some (.int (I 2 ((I 1 3)).toInt.toNat))] [] (n, SH1, (dw_up (dw_up I 1 6 ((((10 : Int32) * (I 1 6)) + (I 2 ((I 1 3)).toInt.toNat)) - (48 : Int32))) 1 3 ((I 1 3) + (1 : Int32))), J)
                refine q_goto rfl ?_
                have hlt : q + k < N := by omega
                have hbk := hb hlt
                have c1 : (1 : Int32).toInt = 1 := rfl
                have hch : f_sm (tbC I0 (q + k)) ∨ f_dg (tbC I0 (q + k)) := by rw [hbk]; exact Or.inr (by omega)
                have er : rnF (tbC I0) N (N - (q + k)) (q + k) = rnF (tbC I0) N (N - (q + (k + 1))) (q + (k + 1)) := by
                  rw [show N - (q + k) = (N - (q + (k + 1))) + 1 by omega]
                  conv => lhs; unfold rnF
                  rw [if_pos ⟨hlt, hch⟩, show q + k + 1 = q + (k + 1) by omega]
                have el : ltF (tbC I0) q (k + 1) = ltF (tbC I0) q k + 0 := by show ltF (tbC I0) q k + (if f_sm (tbC I0 (q + k)) then 1 else 0) = _; rw [hbk, if_neg (by omega)]
                have ed : dtF (tbC I0) q (k + 1) = dtF (tbC I0) q k + 1 := by show dtF (tbC I0) q k + (if f_dg (tbC I0 (q + k)) then 1 else 0) = _; rw [hbk, if_pos (by omega)]
                have tn : ((I 1 3) + 1).toInt = (I 1 3).toInt + 1 := by rw [i_add (by omega) (by omega), c1]
                have tl : ((d + 1)).toInt = (d).toInt + 1 := by rw [i_add (by omega) (by omega), c1]
                refine ih (k + 1) (dw_up (dw_up I 1 6 ((((10 : Int32) * (I 1 6)) + (I 2 ((I 1 3)).toInt.toNat)) - (48 : Int32))) 1 3 ((I 1 3) + (1 : Int32))) (l) ((d + 1)) _ (by omega) (by omega) (hr.trans er) (fun a ha => ?_) (fun j h1 h2 => ?_) ?_ (by omega) (by omega) (fun i hi => ?_) (fun h => ?_)
                · rw [← hA a ha]; funext j; simp [dw_up, ha]
                · rw [← hF j h1 h2]; simp [dw_up, h1, h2]
                · show ((I 1 3) + 1).toInt = _; omega
                · by_cases e : i = k
                  · rw [e]; exact hch
                  · exact hall i (by omega)
                · have hv2 := hv ⟨by omega, by omega⟩
                  show ((10 : Int32) * (I 1 6)) + _ - 48 = 10 * vlF (tbC I0) q k + tbC I0 (q + k) - 48
                  rw [hv2, hbk]
        · have y8 : ((I 2 ((I 1 3)).toInt.toNat)).toInt ≤ (122 : Int) := y8
          refine q_inc rfl rfl rfl ?_
          show dw_ok (pr_X9_takeWordOrNumber K) 55 bc bs [some (.ref 1), some (.int (l + 1)), some (.int d), some (.int (I 2 ((I 1 3)).toInt.toNat))] [] (n, SH1, I, J)
          refine q_goto rfl ?_
          refine q_ald rfl rfl ?_
          refine q_dup rfl ?_
          refine q_geti rfl sk_1 ?_
          refine q_ic rfl ?_
          refine q_add rfl ?_
          refine q_puti rfl sk_1 ?_
          show dw_ok (pr_X9_takeWordOrNumber K) 111 bc bs [some (.ref 1), some (.int (l + 1)), some (.int d), some (.int (I 2 ((I 1 3)).toInt.toNat))] [] (n, SH1, (dw_up I 1 3 ((I 1 3) + (1 : Int32))), J)
          refine q_goto rfl ?_
          have hlt : q + k < N := by omega
          have hbk := hb hlt
          have c1 : (1 : Int32).toInt = 1 := rfl
          have hch : f_sm (tbC I0 (q + k)) ∨ f_dg (tbC I0 (q + k)) := by rw [hbk]; exact Or.inl (by omega)
          have er : rnF (tbC I0) N (N - (q + k)) (q + k) = rnF (tbC I0) N (N - (q + (k + 1))) (q + (k + 1)) := by
            rw [show N - (q + k) = (N - (q + (k + 1))) + 1 by omega]
            conv => lhs; unfold rnF
            rw [if_pos ⟨hlt, hch⟩, show q + k + 1 = q + (k + 1) by omega]
          have el : ltF (tbC I0) q (k + 1) = ltF (tbC I0) q k + 1 := by show ltF (tbC I0) q k + (if f_sm (tbC I0 (q + k)) then 1 else 0) = _; rw [hbk, if_pos (by omega)]
          have ed : dtF (tbC I0) q (k + 1) = dtF (tbC I0) q k + 0 := by show dtF (tbC I0) q k + (if f_dg (tbC I0 (q + k)) then 1 else 0) = _; rw [hbk, if_neg (by omega)]
          have tn : ((I 1 3) + 1).toInt = (I 1 3).toInt + 1 := by rw [i_add (by omega) (by omega), c1]
          have tl : ((l + 1)).toInt = (l).toInt + 1 := by rw [i_add (by omega) (by omega), c1]
          refine ih (k + 1) (dw_up I 1 3 ((I 1 3) + (1 : Int32))) ((l + 1)) (d) _ (by omega) (by omega) (hr.trans er) (fun a ha => ?_) (fun j h1 h2 => ?_) ?_ (by omega) (by omega) (fun i hi => ?_) (fun h => ?_)
          · rw [← hA a ha]; funext j; simp [dw_up, ha]
          · rw [← hF j h1 h2]; simp [dw_up, h1, h2]
          · show ((I 1 3) + 1).toInt = _; omega
          · by_cases e : i = k
            · rw [e]; exact hch
            · exact hall i (by omega)
          · omega
set_option maxRecDepth 8000 in
set_option maxHeartbeats 2000000 in
theorem v_takeWN {n : Nat} {I : Nat → Nat → Int32} {J : Nat → Nat → Int64} {K : dw_K} {q N : Nat} (hN : (I 1 1).toInt = N) (hN9 : N ≤ 940) (h3 : (I 1 3).toInt = q) (hq : q ≤ N)
    (hk : ∀ (k : Nat) (I' : Nat → Nat → Int32), rnF (tbC I) N (N - q) q = q + k → q + k ≤ N → ltF (tbC I) q k + dtF (tbC I) q k = k → (∀ a, a ≠ 1 → I' a = I a) → (∀ j, j ≠ 3 → j ≠ 5 → j ≠ 6 → I' 1 j = I 1 j) → (I' 1 3).toInt = (q + k : Nat) → (I' 1 5).toInt = kdF (ltF (tbC I) q k) (dtF (tbC I) q k) k → (kdF (ltF (tbC I) q k) (dtF (tbC I) q k) k = 2 → I' 1 6 = vlF (tbC I) q k) → K none (n, SH1, I', J)) : t_X9_takeWordOrNumber [.ref 1] (n, SH1, I, J) K := by
  refine q_body (Nat.le_of_ble_eq_true rfl) ?_
  refine q_ic rfl ?_
  refine q_ist rfl rfl ?_
  show dw_ok (pr_X9_takeWordOrNumber K) 2 0 0 [some (.ref 1), some (.int (0 : Int32)), none, none] [] (n, SH1, I, J)
  refine q_ic rfl ?_
  refine q_ist rfl rfl ?_
  show dw_ok (pr_X9_takeWordOrNumber K) 4 0 0 [some (.ref 1), some (.int (0 : Int32)), some (.int (0 : Int32)), none] [] (n, SH1, I, J)
  refine q_ald rfl rfl ?_
  refine q_ic rfl ?_
  refine q_puti rfl sk_1 ?_
  show dw_ok (pr_X9_takeWordOrNumber K) 9 0 0 [some (.ref 1), some (.int (0 : Int32)), some (.int (0 : Int32)), none] [] (n, SH1, (dw_up I 1 6 (0 : Int32)), J)
  refine wn_loop (I0 := I) (q := q) hN hN9 (fun k I' l d s3 hqk er hA hF h3 hl hd hv => ?_) (N - q) 0 (dw_up I 1 6 (0 : Int32)) 0 0 none (by omega) (by omega) rfl (fun a ha => ?_) (fun j h1 h2 => ?_) ?_ rfl rfl (fun i hi => absurd hi (Nat.not_lt_zero i)) (fun _ => ?_)
  rotate_left
  · funext j; simp [dw_up, ha]
  · simp [dw_up, h2]
  · exact h3
  · rfl
  have hlk : ltF (tbC I) q k + dtF (tbC I) q k = k := ltdt k (fun i hi => (rnF_in (b := tbC I) (n := N) (N - q) q (q + i) (by omega) (by omega)).2)
  refine q_ald rfl rfl ?_
  refine q_ic rfl ?_
  refine q_puti rfl sk_1 ?_
  show dw_ok (pr_X9_takeWordOrNumber K) 119 0 0 [some (.ref 1), some (.int l), some (.int d), s3] [] (n, SH1, (dw_up I' 1 5 (4 : Int32)), J)
  refine q_ild rfl rfl ?_
  refine q_if (c := 1) rfl (by decide) (fun y1 => ?_) (fun y1 => ?_)
  · have y1 : (d).toInt ≠ 0 := y1
    refine q_ild rfl rfl ?_
    refine q_if (c := 1) rfl (by decide) (fun y2 => ?_) (fun y2 => ?_)
    · have y2 : (l).toInt ≠ 0 := y2
      have ek : kdF (ltF (tbC I) q k) (dtF (tbC I) q k) k = 4 := by unfold kdF; rw [if_neg (by omega), if_neg (by omega)]
      refine q_vret rfl (hk k (dw_up I' 1 5 (4 : Int32)) er hqk hlk (fun a ha => ?_) (fun j h1 h2 h3 => ?_) ?_ ?_ ?_)
      · rw [← hA a ha]; funext j; simp [dw_up, ha]
      · rw [← hF j h1 h3]; simp [dw_up, h2]
      · exact h3
      · rw [ek]; rfl
      · rw [ek]; intro h; omega
    · have y2 : (l).toInt = 0 := y2
      refine q_ild rfl rfl ?_
      refine q_ic rfl ?_
      refine q_icmp (c := 2) rfl (by decide) (fun y3 => ?_) (fun y3 => ?_)
      · have y3 : (d).toInt < (1 : Int) := y3
        have ek : kdF (ltF (tbC I) q k) (dtF (tbC I) q k) k = 4 := by unfold kdF; rw [if_neg (by omega), if_neg (by omega)]
        refine q_vret rfl (hk k (dw_up I' 1 5 (4 : Int32)) er hqk hlk (fun a ha => ?_) (fun j h1 h2 h3 => ?_) ?_ ?_ ?_)
        · rw [← hA a ha]; funext j; simp [dw_up, ha]
        · rw [← hF j h1 h3]; simp [dw_up, h2]
        · exact h3
        · rw [ek]; rfl
        · rw [ek]; intro h; omega
      · have y3 : (1 : Int) ≤ (d).toInt := y3
        refine q_ild rfl rfl ?_
        refine q_ic rfl ?_
        refine q_icmp (c := 4) rfl (by decide) (fun y4 => ?_) (fun y4 => ?_)
        · have y4 : (3 : Int) < (d).toInt := y4
          have ek : kdF (ltF (tbC I) q k) (dtF (tbC I) q k) k = 4 := by unfold kdF; rw [if_neg (by omega), if_neg (by omega)]
          refine q_vret rfl (hk k (dw_up I' 1 5 (4 : Int32)) er hqk hlk (fun a ha => ?_) (fun j h1 h2 h3 => ?_) ?_ ?_ ?_)
          · rw [← hA a ha]; funext j; simp [dw_up, ha]
          · rw [← hF j h1 h3]; simp [dw_up, h2]
          · exact h3
          · rw [ek]; rfl
          · rw [ek]; intro h; omega
        · have y4 : (d).toInt ≤ (3 : Int) := y4
          refine q_ald rfl rfl ?_
          refine q_ic rfl ?_
          refine q_puti rfl sk_1 ?_
          show dw_ok (pr_X9_takeWordOrNumber K) 161 0 0 [some (.ref 1), some (.int l), some (.int d), s3] [] (n, SH1, (dw_up (dw_up I' 1 5 (4 : Int32)) 1 5 (2 : Int32)), J)
          have ek : kdF (ltF (tbC I) q k) (dtF (tbC I) q k) k = 2 := by unfold kdF; rw [if_neg (by omega), if_pos (by omega)]
          refine q_vret rfl (hk k (dw_up (dw_up I' 1 5 (4 : Int32)) 1 5 (2 : Int32)) er hqk hlk (fun a ha => ?_) (fun j h1 h2 h3 => ?_) ?_ ?_ ?_)
          · rw [← hA a ha]; funext j; simp [dw_up, ha]
          · rw [← hF j h1 h3]; simp [dw_up, h2]
          · exact h3
          · rw [ek]; rfl
          · rw [ek]; intro h; exact hv ⟨by omega, by omega⟩
  · have y1 : (d).toInt = 0 := y1
    refine q_ild rfl rfl ?_
    refine q_ic rfl ?_
    refine q_icmp (c := 2) rfl (by decide) (fun y5 => ?_) (fun y5 => ?_)
    · have y5 : (l).toInt < (1 : Int) := y5
      refine q_ild rfl rfl ?_
      refine q_if (c := 1) rfl (by decide) (fun y6 => ?_) (fun y6 => ?_)
      · have y6 : (l).toInt ≠ 0 := y6
        have ek : kdF (ltF (tbC I) q k) (dtF (tbC I) q k) k = 4 := by unfold kdF; rw [if_neg (by omega), if_neg (by omega)]
        refine q_vret rfl (hk k (dw_up I' 1 5 (4 : Int32)) er hqk hlk (fun a ha => ?_) (fun j h1 h2 h3 => ?_) ?_ ?_ ?_)
        · rw [← hA a ha]; funext j; simp [dw_up, ha]
        · rw [← hF j h1 h3]; simp [dw_up, h2]
        · exact h3
        · rw [ek]; rfl
        · rw [ek]; intro h; omega
      · have y6 : (l).toInt = 0 := y6
        refine q_ild rfl rfl ?_
        refine q_ic rfl ?_
        refine q_icmp (c := 2) rfl (by decide) (fun y7 => ?_) (fun y7 => ?_)
        · have y7 : (d).toInt < (1 : Int) := y7
          have ek : kdF (ltF (tbC I) q k) (dtF (tbC I) q k) k = 4 := by unfold kdF; rw [if_neg (by omega), if_neg (by omega)]
          refine q_vret rfl (hk k (dw_up I' 1 5 (4 : Int32)) er hqk hlk (fun a ha => ?_) (fun j h1 h2 h3 => ?_) ?_ ?_ ?_)
          · rw [← hA a ha]; funext j; simp [dw_up, ha]
          · rw [← hF j h1 h3]; simp [dw_up, h2]
          · exact h3
          · rw [ek]; rfl
          · rw [ek]; intro h; omega
        · have y7 : (1 : Int) ≤ (d).toInt := y7
          refine q_ild rfl rfl ?_
          refine q_ic rfl ?_
          refine q_icmp (c := 4) rfl (by decide) (fun y8 => ?_) (fun y8 => ?_)
          · have y8 : (3 : Int) < (d).toInt := y8
            have ek : kdF (ltF (tbC I) q k) (dtF (tbC I) q k) k = 4 := by unfold kdF; rw [if_neg (by omega), if_neg (by omega)]
            refine q_vret rfl (hk k (dw_up I' 1 5 (4 : Int32)) er hqk hlk (fun a ha => ?_) (fun j h1 h2 h3 => ?_) ?_ ?_ ?_)
            · rw [← hA a ha]; funext j; simp [dw_up, ha]
            · rw [← hF j h1 h3]; simp [dw_up, h2]
            · exact h3
            · rw [ek]; rfl
            · rw [ek]; intro h; omega
          · have y8 : (d).toInt ≤ (3 : Int) := y8
            refine q_ald rfl rfl ?_
            refine q_ic rfl ?_
            refine q_puti rfl sk_1 ?_
            show dw_ok (pr_X9_takeWordOrNumber K) 161 0 0 [some (.ref 1), some (.int l), some (.int d), s3] [] (n, SH1, (dw_up (dw_up I' 1 5 (4 : Int32)) 1 5 (2 : Int32)), J)
            have ek : kdF (ltF (tbC I) q k) (dtF (tbC I) q k) k = 2 := by unfold kdF; rw [if_neg (by omega), if_pos (by omega)]
            refine q_vret rfl (hk k (dw_up (dw_up I' 1 5 (4 : Int32)) 1 5 (2 : Int32)) er hqk hlk (fun a ha => ?_) (fun j h1 h2 h3 => ?_) ?_ ?_ ?_)
            · rw [← hA a ha]; funext j; simp [dw_up, ha]
            · rw [← hF j h1 h3]; simp [dw_up, h2]
            · exact h3
            · rw [ek]; rfl
            · rw [ek]; intro h; exact hv ⟨by omega, by omega⟩
    · have y5 : (1 : Int) ≤ (l).toInt := y5
      refine q_ild rfl rfl ?_
      refine q_ic rfl ?_
      refine q_icmp (c := 4) rfl (by decide) (fun y9 => ?_) (fun y9 => ?_)
      · have y9 : (12 : Int) < (l).toInt := y9
        refine q_ild rfl rfl ?_
        refine q_if (c := 1) rfl (by decide) (fun y10 => ?_) (fun y10 => ?_)
        · have y10 : (l).toInt ≠ 0 := y10
          have ek : kdF (ltF (tbC I) q k) (dtF (tbC I) q k) k = 4 := by unfold kdF; rw [if_neg (by omega), if_neg (by omega)]
          refine q_vret rfl (hk k (dw_up I' 1 5 (4 : Int32)) er hqk hlk (fun a ha => ?_) (fun j h1 h2 h3 => ?_) ?_ ?_ ?_)
          · rw [← hA a ha]; funext j; simp [dw_up, ha]
          · rw [← hF j h1 h3]; simp [dw_up, h2]
          · exact h3
          · rw [ek]; rfl
          · rw [ek]; intro h; omega
        · have y10 : (l).toInt = 0 := y10
          refine q_ild rfl rfl ?_
          refine q_ic rfl ?_
          refine q_icmp (c := 2) rfl (by decide) (fun y11 => ?_) (fun y11 => ?_)
          · have y11 : (d).toInt < (1 : Int) := y11
            have ek : kdF (ltF (tbC I) q k) (dtF (tbC I) q k) k = 4 := by unfold kdF; rw [if_neg (by omega), if_neg (by omega)]
            refine q_vret rfl (hk k (dw_up I' 1 5 (4 : Int32)) er hqk hlk (fun a ha => ?_) (fun j h1 h2 h3 => ?_) ?_ ?_ ?_)
            · rw [← hA a ha]; funext j; simp [dw_up, ha]
            · rw [← hF j h1 h3]; simp [dw_up, h2]
            · exact h3
            · rw [ek]; rfl
            · rw [ek]; intro h; omega
          · have y11 : (1 : Int) ≤ (d).toInt := y11
            refine q_ild rfl rfl ?_
            refine q_ic rfl ?_
            refine q_icmp (c := 4) rfl (by decide) (fun y12 => ?_) (fun y12 => ?_)
            · have y12 : (3 : Int) < (d).toInt := y12
              have ek : kdF (ltF (tbC I) q k) (dtF (tbC I) q k) k = 4 := by unfold kdF; rw [if_neg (by omega), if_neg (by omega)]
              refine q_vret rfl (hk k (dw_up I' 1 5 (4 : Int32)) er hqk hlk (fun a ha => ?_) (fun j h1 h2 h3 => ?_) ?_ ?_ ?_)
              · rw [← hA a ha]; funext j; simp [dw_up, ha]
              · rw [← hF j h1 h3]; simp [dw_up, h2]
              · exact h3
              · rw [ek]; rfl
              · rw [ek]; intro h; omega
            · have y12 : (d).toInt ≤ (3 : Int) := y12
              refine q_ald rfl rfl ?_
              refine q_ic rfl ?_
              refine q_puti rfl sk_1 ?_
              show dw_ok (pr_X9_takeWordOrNumber K) 161 0 0 [some (.ref 1), some (.int l), some (.int d), s3] [] (n, SH1, (dw_up (dw_up I' 1 5 (4 : Int32)) 1 5 (2 : Int32)), J)
              have ek : kdF (ltF (tbC I) q k) (dtF (tbC I) q k) k = 2 := by unfold kdF; rw [if_neg (by omega), if_pos (by omega)]
              refine q_vret rfl (hk k (dw_up (dw_up I' 1 5 (4 : Int32)) 1 5 (2 : Int32)) er hqk hlk (fun a ha => ?_) (fun j h1 h2 h3 => ?_) ?_ ?_ ?_)
              · rw [← hA a ha]; funext j; simp [dw_up, ha]
              · rw [← hF j h1 h3]; simp [dw_up, h2]
              · exact h3
              · rw [ek]; rfl
              · rw [ek]; intro h; exact hv ⟨by omega, by omega⟩
      · have y9 : (l).toInt ≤ (12 : Int) := y9
        refine q_ald rfl rfl ?_
        refine q_ic rfl ?_
        refine q_puti rfl sk_1 ?_
        show dw_ok (pr_X9_takeWordOrNumber K) 139 0 0 [some (.ref 1), some (.int l), some (.int d), s3] [] (n, SH1, (dw_up (dw_up I' 1 5 (4 : Int32)) 1 5 (1 : Int32)), J)
        refine q_goto rfl ?_
        have ek : kdF (ltF (tbC I) q k) (dtF (tbC I) q k) k = 1 := by unfold kdF; rw [if_pos (by omega)]
        refine q_vret rfl (hk k (dw_up (dw_up I' 1 5 (4 : Int32)) 1 5 (1 : Int32)) er hqk hlk (fun a ha => ?_) (fun j h1 h2 h3 => ?_) ?_ ?_ ?_)
        · rw [← hA a ha]; funext j; simp [dw_up, ha]
        · rw [← hF j h1 h3]; simp [dw_up, h2]
        · exact h3
        · rw [ek]; rfl
        · rw [ek]; intro h; omega
set_option maxRecDepth 8000 in
set_option maxHeartbeats 2000000 in
theorem sk_loop {n : Nat} {J : Nat → Nat → Int64} {K : dw_K} {bc bs : Nat} {I0 : Nat → Nat → Int32} {p0 N : Nat} (hN : (I0 1 1).toInt = N) (hN9 : N ≤ 940)
    (hk : ∀ (p : Nat) (I : Nat → Nat → Int32), p ≤ N → skF (tbC I0) N (N - p0) p0 = p → (∀ a, a ≠ 1 → I a = I0 a) → (∀ j, j ≠ 3 → I 1 j = I0 1 j) → (I 1 3).toInt = p → dw_ok (pr_X9_take K) 50 bc bs [some (.ref 1)] [] (n, SH1, I, J)) :
    ∀ (f p : Nat) (I : Nat → Nat → Int32), p ≤ N → N - p ≤ f → skF (tbC I0) N (N - p0) p0 = skF (tbC I0) N (N - p) p → (∀ a, a ≠ 1 → I a = I0 a) → (∀ j, j ≠ 3 → I 1 j = I0 1 j) → (I 1 3).toInt = p → dw_ok (pr_X9_take K) 0 bc bs [some (.ref 1)] [] (n, SH1, I, J) := by
  intro f
  induction f with
  | zero =>
    intro p I hp hf hs hA hF h3
    have h11 : I 1 1 = I0 1 1 := hF 1 (by decide)
    have h2 : I 2 = I0 2 := hA 2 (by decide)
    have hi : (I 1 3).toInt.toNat = p := by omega
    have hb : p < N → tbC I0 p = I 2 (I 1 3).toInt.toNat := fun hlt => by rw [hi, h2]; exact tbC_in (by omega)
    rw [← h11] at hN
    refine q_ald rfl rfl ?_
    refine q_geti rfl sk_1 ?_
    refine q_ald rfl rfl ?_
    refine q_geti rfl sk_1 ?_
    refine q_icmp (c := 3) rfl (by decide) (fun y1 => ?_) (fun h => absurd (show ((I 1 3)).toInt < ((I 1 1)).toInt from h) (by omega))
    have y1 : ((I 1 1)).toInt ≤ ((I 1 3)).toInt := y1
    have er : skF (tbC I0) N (N - p) p = p := by
      by_cases hlt : p < N
      · rw [show N - p = (N - p - 1) + 1 by omega]
        unfold skF
        rw [if_neg (fun h => by have hh := h.2; rw [hb hlt] at hh; omega)]
      · rw [show N - p = 0 by omega]
        rfl
    exact hk p I hp (hs.trans er) hA hF h3
  | succ f ih =>
    intro p I hp hf hs hA hF h3
    have h11 : I 1 1 = I0 1 1 := hF 1 (by decide)
    have h2 : I 2 = I0 2 := hA 2 (by decide)
    have hi : (I 1 3).toInt.toNat = p := by omega
    have hb : p < N → tbC I0 p = I 2 (I 1 3).toInt.toNat := fun hlt => by rw [hi, h2]; exact tbC_in (by omega)
    rw [← h11] at hN
    refine q_ald rfl rfl ?_
    refine q_geti rfl sk_1 ?_
    refine q_ald rfl rfl ?_
    refine q_geti rfl sk_1 ?_
    refine q_icmp (c := 3) rfl (by decide) (fun y2 => ?_) (fun y2 => ?_)
    · have y2 : ((I 1 1)).toInt ≤ ((I 1 3)).toInt := y2
      have er : skF (tbC I0) N (N - p) p = p := by
        by_cases hlt : p < N
        · rw [show N - p = (N - p - 1) + 1 by omega]
          unfold skF
          rw [if_neg (fun h => by have hh := h.2; rw [hb hlt] at hh; omega)]
        · rw [show N - p = 0 by omega]
          rfl
      exact hk p I hp (hs.trans er) hA hF h3
    · have y2 : ((I 1 3)).toInt < ((I 1 1)).toInt := y2
      refine q_ald rfl rfl ?_
      refine q_ald rfl rfl ?_
      refine q_geti rfl sk_1 ?_
      refine q_callV (as := [.int (I 1 3)]) (rest := []) rfl rfl sk_1 rfl (Nat.le_of_ble_eq_true rfl) ?_
      refine v_byteAt (by omega) (by omega) ?_
      show dw_ok (pr_X9_take K) 19 bc bs [some (.ref 1)] [.int (I 2 ((I 1 3)).toInt.toNat)] (n, SH1, I, J)
      refine q_ic rfl ?_
      refine q_icmp (c := 0) rfl (by decide) (fun y3 => ?_) (fun y3 => ?_)
      · have y3 : ((I 2 ((I 1 3)).toInt.toNat)).toInt = (32 : Int) := y3
        refine q_ald rfl rfl ?_
        refine q_dup rfl ?_
        refine q_geti rfl sk_1 ?_
        refine q_ic rfl ?_
        refine q_add rfl ?_
        refine q_puti rfl sk_1 ?_
        show dw_ok (pr_X9_take K) 47 bc bs [some (.ref 1)] [] (n, SH1, (dw_up I 1 3 ((I 1 3) + (1 : Int32))), J)
        refine q_goto rfl ?_
        have hlt : p < N := by omega
        have hbk := hb hlt
        have c1 : (1 : Int32).toInt = 1 := rfl
        have tn : ((I 1 3) + 1).toInt = (I 1 3).toInt + 1 := by rw [i_add (by omega) (by omega), c1]
        have er : skF (tbC I0) N (N - p) p = skF (tbC I0) N (N - (p + 1)) (p + 1) := by
          rw [show N - p = (N - (p + 1)) + 1 by omega]
          conv => lhs; unfold skF
          rw [if_pos ⟨hlt, by rw [hbk]; omega⟩]
        refine ih (p + 1) (dw_up I 1 3 ((I 1 3) + (1 : Int32))) (by omega) (by omega) (hs.trans er) (fun a ha => ?_) (fun j h1 => ?_) ?_
        · rw [← hA a ha]; funext j; simp [dw_up, ha]
        · rw [← hF j h1]; simp [dw_up, h1]
        · show ((I 1 3) + 1).toInt = _; omega
      · have y3 : ((I 2 ((I 1 3)).toInt.toNat)).toInt ≠ (32 : Int) := y3
        refine q_ald rfl rfl ?_
        refine q_ald rfl rfl ?_
        refine q_geti rfl sk_1 ?_
        refine q_callV (as := [.int (I 1 3)]) (rest := []) rfl rfl sk_1 rfl (Nat.le_of_ble_eq_true rfl) ?_
        refine v_byteAt (by omega) (by omega) ?_
        show dw_ok (pr_X9_take K) 32 bc bs [some (.ref 1)] [.int (I 2 ((I 1 3)).toInt.toNat)] (n, SH1, I, J)
        refine q_ic rfl ?_
        refine q_icmp (c := 1) rfl (by decide) (fun y4 => ?_) (fun y4 => ?_)
        · have y4 : ((I 2 ((I 1 3)).toInt.toNat)).toInt ≠ (10 : Int) := y4
          have er : skF (tbC I0) N (N - p) p = p := by
            by_cases hlt : p < N
            · rw [show N - p = (N - p - 1) + 1 by omega]
              unfold skF
              rw [if_neg (fun h => by have hh := h.2; rw [hb hlt] at hh; omega)]
            · rw [show N - p = 0 by omega]
              rfl
          exact hk p I hp (hs.trans er) hA hF h3
        · have y4 : ((I 2 ((I 1 3)).toInt.toNat)).toInt = (10 : Int) := y4
          refine q_ald rfl rfl ?_
          refine q_dup rfl ?_
          refine q_geti rfl sk_1 ?_
          refine q_ic rfl ?_
          refine q_add rfl ?_
          refine q_puti rfl sk_1 ?_
          show dw_ok (pr_X9_take K) 47 bc bs [some (.ref 1)] [] (n, SH1, (dw_up I 1 3 ((I 1 3) + (1 : Int32))), J)
          refine q_goto rfl ?_
          have hlt : p < N := by omega
          have hbk := hb hlt
          have c1 : (1 : Int32).toInt = 1 := rfl
          have tn : ((I 1 3) + 1).toInt = (I 1 3).toInt + 1 := by rw [i_add (by omega) (by omega), c1]
          have er : skF (tbC I0) N (N - p) p = skF (tbC I0) N (N - (p + 1)) (p + 1) := by
            rw [show N - p = (N - (p + 1)) + 1 by omega]
            conv => lhs; unfold skF
            rw [if_pos ⟨hlt, by rw [hbk]; omega⟩]
          refine ih (p + 1) (dw_up I 1 3 ((I 1 3) + (1 : Int32))) (by omega) (by omega) (hs.trans er) (fun a ha => ?_) (fun j h1 => ?_) ?_
          · rw [← hA a ha]; funext j; simp [dw_up, ha]
          · rw [← hF j h1]; simp [dw_up, h1]
          · show ((I 1 3) + 1).toInt = _; omega
set_option maxRecDepth 8000 in
set_option maxHeartbeats 2000000 in
theorem v_take {n : Nat} {I : Nat → Nat → Int32} {J : Nat → Nat → Int64} {K : dw_K} {p N m : Nat} (hN : (I 1 1).toInt = N) (hN9 : N ≤ 940) (hm : (I 1 2).toInt = m) (h3 : (I 1 3).toInt = p) (hp : p ≤ N)
    (hk : ∀ I' : Nat → Nat → Int32, (∀ a, a ≠ 1 → I' a = I a) → (∀ j, j ≠ 3 → j ≠ 4 → j ≠ 5 → j ≠ 6 → I' 1 j = I 1 j) → (I' 1 3).toInt = (tkF (tbC I) N m p).2.2.1 → (I' 1 4).toInt = (tkF (tbC I) N m p).2.1 → (I' 1 5).toInt = (tkF (tbC I) N m p).1 → ((tkF (tbC I) N m p).1 = 2 → I' 1 6 = (tkF (tbC I) N m p).2.2.2) → K none (n, SH1, I', J)) : t_X9_take [.ref 1] (n, SH1, I, J) K := by
  refine q_body (Nat.le_of_ble_eq_true rfl) ?_
  refine sk_loop (I0 := I) (p0 := p) hN hN9 (fun p1 I1 hp1 hs hA hF h31 => ?_) (N - p) p I hp (by omega) rfl (fun _ _ => rfl) (fun _ _ => rfl) h3
  have h11 : I1 1 1 = I 1 1 := hF 1 (by decide)
  have h12 : I1 1 2 = I 1 2 := hF 2 (by decide)
  have hi : (I1 1 3).toInt.toNat = p1 := by omega
  have hb1 : p1 < N → tbC I p1 = I1 2 (I1 1 3).toInt.toNat := fun hlt => by rw [hi, hA 2 (by decide)]; exact tbC_in (by omega)
  have hpp := skF_ge (b := tbC I) (n := N) (N - p) p
  rw [← h11] at hN
  rw [← h12] at hm
  refine q_ald rfl rfl ?_
  refine q_ald rfl rfl ?_
  refine q_geti rfl sk_1 ?_
  refine q_puti rfl sk_1 ?_
  show dw_ok (pr_X9_take K) 58 0 0 [some (.ref 1)] [] (n, SH1, (dw_up I1 1 4 (I1 1 3)), J)
  refine q_ald rfl rfl ?_
  refine q_geti rfl sk_1 ?_
  refine q_ald rfl rfl ?_
  refine q_geti rfl sk_1 ?_
  refine q_icmp (c := 5) rfl (by decide) (fun y1 => ?_) (fun y1 => ?_)
  · have y1 : ((I1 1 1)).toInt ≤ ((I1 1 2)).toInt := y1
    refine q_ald rfl rfl ?_
    refine q_geti rfl sk_1 ?_
    refine q_ald rfl rfl ?_
    refine q_geti rfl sk_1 ?_
    refine q_icmp (c := 2) rfl (by decide) (fun y2 => ?_) (fun y2 => ?_)
    · have y2 : ((I1 1 3)).toInt < ((I1 1 1)).toInt := y2
      refine q_ald rfl rfl ?_
      refine q_ald rfl rfl ?_
      refine q_geti rfl sk_1 ?_
      refine q_callV (as := [.int (I1 1 3)]) (rest := []) rfl rfl sk_1 rfl (Nat.le_of_ble_eq_true rfl) ?_
      refine v_byteAt (by omega) (by omega) ?_
      show dw_ok (pr_X9_take K) 131 0 0 [some (.ref 1)] [.int (I1 2 ((I1 1 3)).toInt.toNat)] (n, SH1, (dw_up I1 1 4 (I1 1 3)), J)
      refine q_ic rfl ?_
      refine q_icmp (c := 1) rfl (by decide) (fun y3 => ?_) (fun y3 => ?_)
      · have y3 : ((I1 2 ((I1 1 3)).toInt.toNat)).toInt ≠ (59 : Int) := y3
        refine q_ald rfl rfl ?_
        refine q_callV (as := []) (rest := []) rfl rfl sk_1 rfl (Nat.le_of_ble_eq_true rfl) ?_
        have eb : tbC (dw_up I1 1 4 (I1 1 3)) = tbC I := tbC_eq (hF 1 (by decide)) (hA 2 (by decide))
        have z11 : (dw_up I1 1 4 (I1 1 3)) 1 1 = I1 1 1 := (up_ne (Or.inr (by decide)))
        have z13 : (dw_up I1 1 4 (I1 1 3)) 1 3 = I1 1 3 := (up_ne (Or.inr (by decide)))
        refine v_takeWN (q := p1) (N := N) (by rw [z11]; omega) hN9 (by rw [z13]; omega) (by omega) (fun k I2 er hqk hlk hA2 hF2 h32 h52 h62 => ?_)
        rw [eb] at er hlk h52 h62
        show dw_ok (pr_X9_take K) 158 0 0 [some (.ref 1)] [] (n, SH1, I2, J)
        have e1 : (tkF (tbC I) N m p).2.1 = p1 ∧ (tkF (tbC I) N m p).2.2.1 = p1 + k ∧ (tkF (tbC I) N m p).1 = kdF (ltF (tbC I) p1 k) (dtF (tbC I) p1 k) k ∧ ((tkF (tbC I) N m p).1 = 2 → (tkF (tbC I) N m p).2.2.2 = vlF (tbC I) p1 k) := by
          unfold tkF
          rw [hs, er, show p1 + k - p1 = k by omega, if_neg (by omega), if_neg (by omega), if_neg (by rw [hb1 (by omega)]; omega)]
          unfold kdF
          by_cases g1 : dtF (tbC I) p1 k = 0 ∧ 1 ≤ k ∧ k ≤ 12
          · rw [if_pos g1, if_pos g1]; exact ⟨rfl, rfl, rfl, fun h => absurd h (nn rfl)⟩
          · rw [if_neg g1, if_neg g1]
            by_cases g2 : ltF (tbC I) p1 k = 0 ∧ 1 ≤ k ∧ k ≤ 3
            · rw [if_pos g2, if_pos g2]; exact ⟨rfl, rfl, rfl, fun _ => rfl⟩
            · rw [if_neg g2, if_neg g2]; exact ⟨rfl, rfl, rfl, fun h => absurd h (nn rfl)⟩
        obtain ⟨t1, t2, t3, t4⟩ := e1
        refine q_vret rfl (hk I2 (fun a ha => ?_) (fun j h1 h2 h4 h5 => ?_) ?_ ?_ ?_ ?_)
        · rw [hA2 a ha, ← hA a ha]; funext j; simp [dw_up, ha]
        · rw [hF2 j h1 h4 h5, ← hF j h1]; simp [dw_up, h2]
        · rw [t2]; exact h32
        · rw [t1, hF2 4 (by decide) (by decide) (by decide)]; show (I1 1 3).toInt = _; omega
        · rw [t3]; exact h52
        · intro h; rw [t4 h]; rw [t3] at h; exact h62 h
      · have y3 : ((I1 2 ((I1 1 3)).toInt.toNat)).toInt = (59 : Int) := y3
        refine q_ald rfl rfl ?_
        refine q_ald rfl rfl ?_
        refine q_geti rfl sk_1 ?_
        refine q_ic rfl ?_
        refine q_add rfl ?_
        refine q_puti rfl sk_1 ?_
        show dw_ok (pr_X9_take K) 146 0 0 [some (.ref 1)] [] (n, SH1, (dw_up (dw_up I1 1 4 (I1 1 3)) 1 3 ((I1 1 3) + (1 : Int32))), J)
        refine q_ald rfl rfl ?_
        refine q_ic rfl ?_
        refine q_puti rfl sk_1 ?_
        show dw_ok (pr_X9_take K) 151 0 0 [some (.ref 1)] [] (n, SH1, (dw_up (dw_up (dw_up I1 1 4 (I1 1 3)) 1 3 ((I1 1 3) + (1 : Int32))) 1 5 (3 : Int32)), J)
        refine q_goto rfl ?_
        have eT : tkF (tbC I) N m p = (3, p1, p1 + 1, 0) := by unfold tkF; rw [hs]; rw [if_neg (by omega), if_neg (by omega), if_pos (by rw [hb1 (by omega)]; omega)]
        refine q_vret rfl (hk (dw_up (dw_up (dw_up I1 1 4 (I1 1 3)) 1 3 ((I1 1 3) + (1 : Int32))) 1 5 (3 : Int32)) (fun a ha => ?_) (fun j h1 h2 h4 h5 => ?_) ?_ ?_ ?_ ?_)
        · rw [← hA a ha]; funext j; simp [dw_up, ha]
        · rw [← hF j h1]; simp [dw_up, h1, h2, h4]
        · rw [eT]; have c1 : (1 : Int32).toInt = 1 := rfl; show (((I1 1 3) + (1 : Int32))).toInt = ((p1 + 1 : Nat) : Int); rw [i_add (by omega) (by omega), c1]; omega
        · rw [eT]; show ((I1 1 3)).toInt = _; omega
        · rw [eT]; rfl
        · rw [eT]; intro h; exact absurd h (nn rfl)
    · have y2 : ((I1 1 1)).toInt ≤ ((I1 1 3)).toInt := y2
      refine q_ald rfl rfl ?_
      refine q_ald rfl rfl ?_
      refine q_geti rfl sk_1 ?_
      refine q_puti rfl sk_1 ?_
      show dw_ok (pr_X9_take K) 115 0 0 [some (.ref 1)] [] (n, SH1, (dw_up (dw_up I1 1 4 (I1 1 3)) 1 4 (I1 1 1)), J)
      refine q_ald rfl rfl ?_
      refine q_ic rfl ?_
      refine q_puti rfl sk_1 ?_
      show dw_ok (pr_X9_take K) 120 0 0 [some (.ref 1)] [] (n, SH1, (dw_up (dw_up (dw_up I1 1 4 (I1 1 3)) 1 4 (I1 1 1)) 1 5 (0 : Int32)), J)
      refine q_goto rfl ?_
      have eT : tkF (tbC I) N m p = (0, N, p1, 0) := by unfold tkF; rw [hs]; rw [if_neg (by omega), if_pos (by omega)]
      refine q_vret rfl (hk (dw_up (dw_up (dw_up I1 1 4 (I1 1 3)) 1 4 (I1 1 1)) 1 5 (0 : Int32)) (fun a ha => ?_) (fun j h1 h2 h4 h5 => ?_) ?_ ?_ ?_ ?_)
      · rw [← hA a ha]; funext j; simp [dw_up, ha]
      · rw [← hF j h1]; simp [dw_up, h1, h2, h4]
      · rw [eT]; show ((I1 1 3)).toInt = _; omega
      · rw [eT]; show ((I1 1 1)).toInt = _; omega
      · rw [eT]; rfl
      · rw [eT]; intro h; exact absurd h (nn rfl)
  · have y1 : ((I1 1 2)).toInt < ((I1 1 1)).toInt := y1
    refine q_ald rfl rfl ?_
    refine q_geti rfl sk_1 ?_
    refine q_ald rfl rfl ?_
    refine q_geti rfl sk_1 ?_
    refine q_icmp (c := 2) rfl (by decide) (fun y4 => ?_) (fun y4 => ?_)
    · have y4 : ((I1 1 3)).toInt < ((I1 1 2)).toInt := y4
      refine q_ald rfl rfl ?_
      refine q_geti rfl sk_1 ?_
      refine q_ald rfl rfl ?_
      refine q_geti rfl sk_1 ?_
      refine q_icmp (c := 2) rfl (by decide) (fun y5 => ?_) (fun y5 => ?_)
      · have y5 : ((I1 1 3)).toInt < ((I1 1 1)).toInt := y5
        refine q_ald rfl rfl ?_
        refine q_ald rfl rfl ?_
        refine q_geti rfl sk_1 ?_
        refine q_callV (as := [.int (I1 1 3)]) (rest := []) rfl rfl sk_1 rfl (Nat.le_of_ble_eq_true rfl) ?_
        refine v_byteAt (by omega) (by omega) ?_
        show dw_ok (pr_X9_take K) 131 0 0 [some (.ref 1)] [.int (I1 2 ((I1 1 3)).toInt.toNat)] (n, SH1, (dw_up I1 1 4 (I1 1 3)), J)
        refine q_ic rfl ?_
        refine q_icmp (c := 1) rfl (by decide) (fun y6 => ?_) (fun y6 => ?_)
        · have y6 : ((I1 2 ((I1 1 3)).toInt.toNat)).toInt ≠ (59 : Int) := y6
          refine q_ald rfl rfl ?_
          refine q_callV (as := []) (rest := []) rfl rfl sk_1 rfl (Nat.le_of_ble_eq_true rfl) ?_
          have eb : tbC (dw_up I1 1 4 (I1 1 3)) = tbC I := tbC_eq (hF 1 (by decide)) (hA 2 (by decide))
          have z11 : (dw_up I1 1 4 (I1 1 3)) 1 1 = I1 1 1 := (up_ne (Or.inr (by decide)))
          have z13 : (dw_up I1 1 4 (I1 1 3)) 1 3 = I1 1 3 := (up_ne (Or.inr (by decide)))
          refine v_takeWN (q := p1) (N := N) (by rw [z11]; omega) hN9 (by rw [z13]; omega) (by omega) (fun k I2 er hqk hlk hA2 hF2 h32 h52 h62 => ?_)
          rw [eb] at er hlk h52 h62
          show dw_ok (pr_X9_take K) 158 0 0 [some (.ref 1)] [] (n, SH1, I2, J)
          have e1 : (tkF (tbC I) N m p).2.1 = p1 ∧ (tkF (tbC I) N m p).2.2.1 = p1 + k ∧ (tkF (tbC I) N m p).1 = kdF (ltF (tbC I) p1 k) (dtF (tbC I) p1 k) k ∧ ((tkF (tbC I) N m p).1 = 2 → (tkF (tbC I) N m p).2.2.2 = vlF (tbC I) p1 k) := by
            unfold tkF
            rw [hs, er, show p1 + k - p1 = k by omega, if_neg (by omega), if_neg (by omega), if_neg (by rw [hb1 (by omega)]; omega)]
            unfold kdF
            by_cases g1 : dtF (tbC I) p1 k = 0 ∧ 1 ≤ k ∧ k ≤ 12
            · rw [if_pos g1, if_pos g1]; exact ⟨rfl, rfl, rfl, fun h => absurd h (nn rfl)⟩
            · rw [if_neg g1, if_neg g1]
              by_cases g2 : ltF (tbC I) p1 k = 0 ∧ 1 ≤ k ∧ k ≤ 3
              · rw [if_pos g2, if_pos g2]; exact ⟨rfl, rfl, rfl, fun _ => rfl⟩
              · rw [if_neg g2, if_neg g2]; exact ⟨rfl, rfl, rfl, fun h => absurd h (nn rfl)⟩
          obtain ⟨t1, t2, t3, t4⟩ := e1
          refine q_vret rfl (hk I2 (fun a ha => ?_) (fun j h1 h2 h4 h5 => ?_) ?_ ?_ ?_ ?_)
          · rw [hA2 a ha, ← hA a ha]; funext j; simp [dw_up, ha]
          · rw [hF2 j h1 h4 h5, ← hF j h1]; simp [dw_up, h2]
          · rw [t2]; exact h32
          · rw [t1, hF2 4 (by decide) (by decide) (by decide)]; show (I1 1 3).toInt = _; omega
          · rw [t3]; exact h52
          · intro h; rw [t4 h]; rw [t3] at h; exact h62 h
        · have y6 : ((I1 2 ((I1 1 3)).toInt.toNat)).toInt = (59 : Int) := y6
          refine q_ald rfl rfl ?_
          refine q_ald rfl rfl ?_
          refine q_geti rfl sk_1 ?_
          refine q_ic rfl ?_
          refine q_add rfl ?_
          refine q_puti rfl sk_1 ?_
          show dw_ok (pr_X9_take K) 146 0 0 [some (.ref 1)] [] (n, SH1, (dw_up (dw_up I1 1 4 (I1 1 3)) 1 3 ((I1 1 3) + (1 : Int32))), J)
          refine q_ald rfl rfl ?_
          refine q_ic rfl ?_
          refine q_puti rfl sk_1 ?_
          show dw_ok (pr_X9_take K) 151 0 0 [some (.ref 1)] [] (n, SH1, (dw_up (dw_up (dw_up I1 1 4 (I1 1 3)) 1 3 ((I1 1 3) + (1 : Int32))) 1 5 (3 : Int32)), J)
          refine q_goto rfl ?_
          have eT : tkF (tbC I) N m p = (3, p1, p1 + 1, 0) := by unfold tkF; rw [hs]; rw [if_neg (by omega), if_neg (by omega), if_pos (by rw [hb1 (by omega)]; omega)]
          refine q_vret rfl (hk (dw_up (dw_up (dw_up I1 1 4 (I1 1 3)) 1 3 ((I1 1 3) + (1 : Int32))) 1 5 (3 : Int32)) (fun a ha => ?_) (fun j h1 h2 h4 h5 => ?_) ?_ ?_ ?_ ?_)
          · rw [← hA a ha]; funext j; simp [dw_up, ha]
          · rw [← hF j h1]; simp [dw_up, h1, h2, h4]
          · rw [eT]; have c1 : (1 : Int32).toInt = 1 := rfl; show (((I1 1 3) + (1 : Int32))).toInt = ((p1 + 1 : Nat) : Int); rw [i_add (by omega) (by omega), c1]; omega
          · rw [eT]; show ((I1 1 3)).toInt = _; omega
          · rw [eT]; rfl
          · rw [eT]; intro h; exact absurd h (nn rfl)
      · have y5 : ((I1 1 1)).toInt ≤ ((I1 1 3)).toInt := y5
        refine q_ald rfl rfl ?_
        refine q_ald rfl rfl ?_
        refine q_geti rfl sk_1 ?_
        refine q_puti rfl sk_1 ?_
        show dw_ok (pr_X9_take K) 115 0 0 [some (.ref 1)] [] (n, SH1, (dw_up (dw_up I1 1 4 (I1 1 3)) 1 4 (I1 1 1)), J)
        refine q_ald rfl rfl ?_
        refine q_ic rfl ?_
        refine q_puti rfl sk_1 ?_
        show dw_ok (pr_X9_take K) 120 0 0 [some (.ref 1)] [] (n, SH1, (dw_up (dw_up (dw_up I1 1 4 (I1 1 3)) 1 4 (I1 1 1)) 1 5 (0 : Int32)), J)
        refine q_goto rfl ?_
        have eT : tkF (tbC I) N m p = (0, N, p1, 0) := by unfold tkF; rw [hs]; rw [if_neg (by omega), if_pos (by omega)]
        refine q_vret rfl (hk (dw_up (dw_up (dw_up I1 1 4 (I1 1 3)) 1 4 (I1 1 1)) 1 5 (0 : Int32)) (fun a ha => ?_) (fun j h1 h2 h4 h5 => ?_) ?_ ?_ ?_ ?_)
        · rw [← hA a ha]; funext j; simp [dw_up, ha]
        · rw [← hF j h1]; simp [dw_up, h1, h2, h4]
        · rw [eT]; show ((I1 1 3)).toInt = _; omega
        · rw [eT]; show ((I1 1 1)).toInt = _; omega
        · rw [eT]; rfl
        · rw [eT]; intro h; exact absurd h (nn rfl)
    · have y4 : ((I1 1 2)).toInt ≤ ((I1 1 3)).toInt := y4
      refine q_ald rfl rfl ?_
      refine q_ald rfl rfl ?_
      refine q_geti rfl sk_1 ?_
      refine q_puti rfl sk_1 ?_
      show dw_ok (pr_X9_take K) 88 0 0 [some (.ref 1)] [] (n, SH1, (dw_up (dw_up I1 1 4 (I1 1 3)) 1 4 (I1 1 2)), J)
      refine q_ald rfl rfl ?_
      refine q_ic rfl ?_
      refine q_puti rfl sk_1 ?_
      show dw_ok (pr_X9_take K) 93 0 0 [some (.ref 1)] [] (n, SH1, (dw_up (dw_up (dw_up I1 1 4 (I1 1 3)) 1 4 (I1 1 2)) 1 5 (4 : Int32)), J)
      refine q_goto rfl ?_
      have eT : tkF (tbC I) N m p = (4, m, p1, 0) := by unfold tkF; rw [hs]; rw [if_pos (by omega)]
      refine q_vret rfl (hk (dw_up (dw_up (dw_up I1 1 4 (I1 1 3)) 1 4 (I1 1 2)) 1 5 (4 : Int32)) (fun a ha => ?_) (fun j h1 h2 h4 h5 => ?_) ?_ ?_ ?_ ?_)
      · rw [← hA a ha]; funext j; simp [dw_up, ha]
      · rw [← hF j h1]; simp [dw_up, h1, h2, h4]
      · rw [eT]; show ((I1 1 3)).toInt = _; omega
      · rw [eT]; show ((I1 1 2)).toInt = _; omega
      · rw [eT]; rfl
      · rw [eT]; intro h; exact absurd h (nn rfl)
def nbF (t : fT) (lo hi : Int) : Nat := if t.1 = 2 then (if lo ≤ t.2.2.2.toInt ∧ t.2.2.2.toInt ≤ hi then 0 else 2) else 1
def stF (t : fT) (k : Nat) : Nat := if t.1 = k then 0 else 1
set_option maxRecDepth 8000 in
theorem v_takeNumber {n : Nat} {I : Nat → Nat → Int32} {J : Nat → Nat → Int64} {K : dw_K} {lo hi : Int32} {p N m : Nat} (hN : (I 1 1).toInt = N) (hN9 : N ≤ 940) (hm : (I 1 2).toInt = m) (h3 : (I 1 3).toInt = p) (hp : p ≤ N)
    (hk : ∀ (I' : Nat → Nat → Int32) (w : Int32), (∀ a, a ≠ 1 → I' a = I a) → (∀ j, j < 3 → I' 1 j = I 1 j) → (nbF (tkF (tbC I) N m p) lo.toInt hi.toInt = 0 → w = 1 ∧ (I' 1 3).toInt = (tkF (tbC I) N m p).2.2.1 ∧ (I' 1 4).toInt = (tkF (tbC I) N m p).2.1 ∧ (I' 1 5).toInt = (tkF (tbC I) N m p).1 ∧ ((tkF (tbC I) N m p).1 = 2 → I' 1 6 = (tkF (tbC I) N m p).2.2.2)) → (nbF (tkF (tbC I) N m p) lo.toInt hi.toInt ≠ 0 → w = 0 ∧ (I' 1 7).toInt = nbF (tkF (tbC I) N m p) lo.toInt hi.toInt ∧ (I' 1 8).toInt = (tkF (tbC I) N m p).2.1) → K (some (.int w)) (n, SH1, I', J)) : t_X9_takeNumber [.ref 1, .int lo, .int hi] (n, SH1, I, J) K := by
  refine q_body (Nat.le_of_ble_eq_true rfl) ?_
  refine q_ald rfl rfl ?_
  refine q_callV (as := []) (rest := []) rfl rfl sk_1 rfl (Nat.le_of_ble_eq_true rfl) ?_
  refine v_take (p := p) (m := m) hN hN9 hm h3 hp (fun I1 hA hF h13 h14 h15 h16 => ?_)
  show dw_ok (pr_X9_takeNumber K) 4 0 0 [some (.ref 1), some (.int lo), some (.int hi)] [] (n, SH1, I1, J)
  refine q_ald rfl rfl ?_
  refine q_geti rfl sk_1 ?_
  refine q_ic rfl ?_
  refine q_icmp (c := 0) rfl (by decide) (fun y1 => ?_) (fun y1 => ?_)
  · have y1 : ((I1 1 5)).toInt = (2 : Int) := y1
    refine q_ald rfl rfl ?_
    refine q_geti rfl sk_1 ?_
    refine q_ild rfl rfl ?_
    refine q_icmp (c := 2) rfl (by decide) (fun y2 => ?_) (fun y2 => ?_)
    · have y2 : ((I1 1 6)).toInt < (lo).toInt := y2
      refine q_ald rfl rfl ?_
      refine q_ic rfl ?_
      refine q_callV (as := [.int (2 : Int32)]) (rest := []) rfl rfl sk_1 rfl (Nat.le_of_ble_eq_true rfl) ?_
      refine v_fail ?_
      show dw_ok (pr_X9_takeNumber K) 39 0 0 [some (.ref 1), some (.int lo), some (.int hi)] [.int (0 : Int32)] (n, SH1, (dw_up (dw_up I1 1 7 (2 : Int32)) 1 8 (I1 1 4)), J)
      refine q_if (c := 0) rfl (by decide) (fun y3 => ?_) (fun h => absurd (show (0 : Int) ≠ 0 from h) (by decide))
      have y3 : (0 : Int) = 0 := y3
      refine q_ic rfl ?_
      have e : nbF (tkF (tbC I) N m p) lo.toInt hi.toInt = 2 := by unfold nbF; rw [if_pos (by omega), if_neg (by rw [← h16 (by omega)]; omega)]
      refine q_zret rfl (Or.inl rfl) (hk (dw_up (dw_up I1 1 7 (2 : Int32)) 1 8 (I1 1 4)) (0 : Int32) (fun a ha => ?_) (fun j j0 => ?_) (fun h => ?_) (fun h => ?_))
      · rw [← hA a ha]; funext j; simp [dw_up, ha]
      · rw [← hF j (by omega) (by omega) (by omega) (by omega)]; simp [dw_up, show j ≠ 7 by omega, show j ≠ 8 by omega]
      · rw [e] at h; exact absurd h (nn rfl)
      · rw [e]; exact ⟨rfl, rfl, h14⟩
    · have y2 : (lo).toInt ≤ ((I1 1 6)).toInt := y2
      refine q_ald rfl rfl ?_
      refine q_geti rfl sk_1 ?_
      refine q_ild rfl rfl ?_
      refine q_icmp (c := 5) rfl (by decide) (fun y4 => ?_) (fun y4 => ?_)
      · have y4 : ((I1 1 6)).toInt ≤ (hi).toInt := y4
        refine q_ic rfl ?_
        refine q_goto rfl ?_
        have e : nbF (tkF (tbC I) N m p) lo.toInt hi.toInt = 0 := by unfold nbF; rw [if_pos (by omega), if_pos (by rw [← h16 (by omega)]; omega)]
        refine q_zret rfl (Or.inr rfl) (hk I1 (1 : Int32) (fun a ha => ?_) (fun j j0 => ?_) (fun h => ?_) (fun h => ?_))
        · exact hA a ha
        · exact hF j (by omega) (by omega) (by omega) (by omega)
        · exact ⟨rfl, h13, h14, h15, h16⟩
        · exact absurd e h
      · have y4 : (hi).toInt < ((I1 1 6)).toInt := y4
        refine q_ald rfl rfl ?_
        refine q_ic rfl ?_
        refine q_callV (as := [.int (2 : Int32)]) (rest := []) rfl rfl sk_1 rfl (Nat.le_of_ble_eq_true rfl) ?_
        refine v_fail ?_
        show dw_ok (pr_X9_takeNumber K) 39 0 0 [some (.ref 1), some (.int lo), some (.int hi)] [.int (0 : Int32)] (n, SH1, (dw_up (dw_up I1 1 7 (2 : Int32)) 1 8 (I1 1 4)), J)
        refine q_if (c := 0) rfl (by decide) (fun y5 => ?_) (fun h => absurd (show (0 : Int) ≠ 0 from h) (by decide))
        have y5 : (0 : Int) = 0 := y5
        refine q_ic rfl ?_
        have e : nbF (tkF (tbC I) N m p) lo.toInt hi.toInt = 2 := by unfold nbF; rw [if_pos (by omega), if_neg (by rw [← h16 (by omega)]; omega)]
        refine q_zret rfl (Or.inl rfl) (hk (dw_up (dw_up I1 1 7 (2 : Int32)) 1 8 (I1 1 4)) (0 : Int32) (fun a ha => ?_) (fun j j0 => ?_) (fun h => ?_) (fun h => ?_))
        · rw [← hA a ha]; funext j; simp [dw_up, ha]
        · rw [← hF j (by omega) (by omega) (by omega) (by omega)]; simp [dw_up, show j ≠ 7 by omega, show j ≠ 8 by omega]
        · rw [e] at h; exact absurd h (nn rfl)
        · rw [e]; exact ⟨rfl, rfl, h14⟩
  · have y1 : ((I1 1 5)).toInt ≠ (2 : Int) := y1
    refine q_ald rfl rfl ?_
    refine q_ic rfl ?_
    refine q_callV (as := [.int (1 : Int32)]) (rest := []) rfl rfl sk_1 rfl (Nat.le_of_ble_eq_true rfl) ?_
    refine v_fail ?_
    show dw_ok (pr_X9_takeNumber K) 17 0 0 [some (.ref 1), some (.int lo), some (.int hi)] [.int (0 : Int32)] (n, SH1, (dw_up (dw_up I1 1 7 (1 : Int32)) 1 8 (I1 1 4)), J)
    have e : nbF (tkF (tbC I) N m p) lo.toInt hi.toInt = 1 := by unfold nbF; rw [if_neg (by omega)]
    refine q_zret rfl (Or.inl rfl) (hk (dw_up (dw_up I1 1 7 (1 : Int32)) 1 8 (I1 1 4)) (0 : Int32) (fun a ha => ?_) (fun j j0 => ?_) (fun h => ?_) (fun h => ?_))
    · rw [← hA a ha]; funext j; simp [dw_up, ha]
    · rw [← hF j (by omega) (by omega) (by omega) (by omega)]; simp [dw_up, show j ≠ 7 by omega, show j ≠ 8 by omega]
    · rw [e] at h; exact absurd h (nn rfl)
    · rw [e]; exact ⟨rfl, rfl, h14⟩
set_option maxRecDepth 8000 in
theorem v_takeStop {n : Nat} {I : Nat → Nat → Int32} {J : Nat → Nat → Int64} {K : dw_K} {p N m : Nat} (hN : (I 1 1).toInt = N) (hN9 : N ≤ 940) (hm : (I 1 2).toInt = m) (h3 : (I 1 3).toInt = p) (hp : p ≤ N)
    (hk : ∀ (I' : Nat → Nat → Int32) (w : Int32), (∀ a, a ≠ 1 → I' a = I a) → (∀ j, j < 3 → I' 1 j = I 1 j) → (stF (tkF (tbC I) N m p) 3 = 0 → w = 1 ∧ (I' 1 3).toInt = (tkF (tbC I) N m p).2.2.1 ∧ (I' 1 4).toInt = (tkF (tbC I) N m p).2.1 ∧ (I' 1 5).toInt = (tkF (tbC I) N m p).1 ∧ ((tkF (tbC I) N m p).1 = 2 → I' 1 6 = (tkF (tbC I) N m p).2.2.2)) → (stF (tkF (tbC I) N m p) 3 ≠ 0 → w = 0 ∧ (I' 1 7).toInt = stF (tkF (tbC I) N m p) 3 ∧ (I' 1 8).toInt = (tkF (tbC I) N m p).2.1) → K (some (.int w)) (n, SH1, I', J)) : t_X9_takeStop [.ref 1] (n, SH1, I, J) K := by
  refine q_body (Nat.le_of_ble_eq_true rfl) ?_
  refine q_ald rfl rfl ?_
  refine q_callV (as := []) (rest := []) rfl rfl sk_1 rfl (Nat.le_of_ble_eq_true rfl) ?_
  refine v_take (p := p) (m := m) hN hN9 hm h3 hp (fun I1 hA hF h13 h14 h15 h16 => ?_)
  show dw_ok (pr_X9_takeStop K) 4 0 0 [some (.ref 1)] [] (n, SH1, I1, J)
  refine q_ald rfl rfl ?_
  refine q_geti rfl sk_1 ?_
  refine q_ic rfl ?_
  refine q_icmp (c := 0) rfl (by decide) (fun y1 => ?_) (fun y1 => ?_)
  · have y1 : ((I1 1 5)).toInt = (3 : Int) := y1
    refine q_ic rfl ?_
    refine q_goto rfl ?_
    have e : stF (tkF (tbC I) N m p) 3 = 0 := by unfold stF; rw [if_pos (by omega)]
    refine q_zret rfl (Or.inr rfl) (hk I1 (1 : Int32) (fun a ha => ?_) (fun j j0 => ?_) (fun h => ?_) (fun h => ?_))
    · exact hA a ha
    · exact hF j (by omega) (by omega) (by omega) (by omega)
    · exact ⟨rfl, h13, h14, h15, h16⟩
    · exact absurd e h
  · have y1 : ((I1 1 5)).toInt ≠ (3 : Int) := y1
    refine q_ald rfl rfl ?_
    refine q_ic rfl ?_
    refine q_callV (as := [.int (1 : Int32)]) (rest := []) rfl rfl sk_1 rfl (Nat.le_of_ble_eq_true rfl) ?_
    refine v_fail ?_
    show dw_ok (pr_X9_takeStop K) 17 0 0 [some (.ref 1)] [.int (0 : Int32)] (n, SH1, (dw_up (dw_up I1 1 7 (1 : Int32)) 1 8 (I1 1 4)), J)
    refine q_if (c := 0) rfl (by decide) (fun y2 => ?_) (fun h => absurd (show (0 : Int) ≠ 0 from h) (by decide))
    have y2 : (0 : Int) = 0 := y2
    refine q_ic rfl ?_
    have e : stF (tkF (tbC I) N m p) 3 = 1 := by unfold stF; rw [if_neg (by omega)]
    refine q_zret rfl (Or.inl rfl) (hk (dw_up (dw_up I1 1 7 (1 : Int32)) 1 8 (I1 1 4)) (0 : Int32) (fun a ha => ?_) (fun j j0 => ?_) (fun h => ?_) (fun h => ?_))
    · rw [← hA a ha]; funext j; simp [dw_up, ha]
    · rw [← hF j (by omega) (by omega) (by omega) (by omega)]; simp [dw_up, show j ≠ 7 by omega, show j ≠ 8 by omega]
    · rw [e] at h; exact absurd h (nn rfl)
    · rw [e]; exact ⟨rfl, rfl, h14⟩
set_option maxRecDepth 8000 in
theorem v_takeWord {n : Nat} {I : Nat → Nat → Int32} {J : Nat → Nat → Int64} {K : dw_K} {p N m : Nat} (hN : (I 1 1).toInt = N) (hN9 : N ≤ 940) (hm : (I 1 2).toInt = m) (h3 : (I 1 3).toInt = p) (hp : p ≤ N)
    (hk : ∀ (I' : Nat → Nat → Int32) (w : Int32), (∀ a, a ≠ 1 → I' a = I a) → (∀ j, j < 3 → I' 1 j = I 1 j) → (stF (tkF (tbC I) N m p) 1 = 0 → w = 1 ∧ (I' 1 3).toInt = (tkF (tbC I) N m p).2.2.1 ∧ (I' 1 4).toInt = (tkF (tbC I) N m p).2.1 ∧ (I' 1 5).toInt = (tkF (tbC I) N m p).1 ∧ ((tkF (tbC I) N m p).1 = 2 → I' 1 6 = (tkF (tbC I) N m p).2.2.2)) → (stF (tkF (tbC I) N m p) 1 ≠ 0 → w = 0 ∧ (I' 1 7).toInt = stF (tkF (tbC I) N m p) 1 ∧ (I' 1 8).toInt = (tkF (tbC I) N m p).2.1) → K (some (.int w)) (n, SH1, I', J)) : t_X9_takeWord [.ref 1] (n, SH1, I, J) K := by
  refine q_body (Nat.le_of_ble_eq_true rfl) ?_
  refine q_ald rfl rfl ?_
  refine q_callV (as := []) (rest := []) rfl rfl sk_1 rfl (Nat.le_of_ble_eq_true rfl) ?_
  refine v_take (p := p) (m := m) hN hN9 hm h3 hp (fun I1 hA hF h13 h14 h15 h16 => ?_)
  show dw_ok (pr_X9_takeWord K) 4 0 0 [some (.ref 1)] [] (n, SH1, I1, J)
  refine q_ald rfl rfl ?_
  refine q_geti rfl sk_1 ?_
  refine q_ic rfl ?_
  refine q_icmp (c := 0) rfl (by decide) (fun y1 => ?_) (fun y1 => ?_)
  · have y1 : ((I1 1 5)).toInt = (1 : Int) := y1
    refine q_ic rfl ?_
    refine q_goto rfl ?_
    have e : stF (tkF (tbC I) N m p) 1 = 0 := by unfold stF; rw [if_pos (by omega)]
    refine q_zret rfl (Or.inr rfl) (hk I1 (1 : Int32) (fun a ha => ?_) (fun j j0 => ?_) (fun h => ?_) (fun h => ?_))
    · exact hA a ha
    · exact hF j (by omega) (by omega) (by omega) (by omega)
    · exact ⟨rfl, h13, h14, h15, h16⟩
    · exact absurd e h
  · have y1 : ((I1 1 5)).toInt ≠ (1 : Int) := y1
    refine q_ald rfl rfl ?_
    refine q_ic rfl ?_
    refine q_callV (as := [.int (1 : Int32)]) (rest := []) rfl rfl sk_1 rfl (Nat.le_of_ble_eq_true rfl) ?_
    refine v_fail ?_
    show dw_ok (pr_X9_takeWord K) 17 0 0 [some (.ref 1)] [.int (0 : Int32)] (n, SH1, (dw_up (dw_up I1 1 7 (1 : Int32)) 1 8 (I1 1 4)), J)
    refine q_if (c := 0) rfl (by decide) (fun y2 => ?_) (fun h => absurd (show (0 : Int) ≠ 0 from h) (by decide))
    have y2 : (0 : Int) = 0 := y2
    refine q_ic rfl ?_
    have e : stF (tkF (tbC I) N m p) 1 = 1 := by unfold stF; rw [if_neg (by omega)]
    refine q_zret rfl (Or.inl rfl) (hk (dw_up (dw_up I1 1 7 (1 : Int32)) 1 8 (I1 1 4)) (0 : Int32) (fun a ha => ?_) (fun j j0 => ?_) (fun h => ?_) (fun h => ?_))
    · rw [← hA a ha]; funext j; simp [dw_up, ha]
    · rw [← hF j (by omega) (by omega) (by omega) (by omega)]; simp [dw_up, show j ≠ 7 by omega, show j ≠ 8 by omega]
    · rw [e] at h; exact absurd h (nn rfl)
    · rw [e]; exact ⟨rfl, rfl, h14⟩
