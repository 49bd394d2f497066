/-! ===== a NIGHT read by the class ===== -/
def wcI (k : Nat) : Int := if k = 3 then 4 else if k = 9 then -1 else k
set_option maxRecDepth 8000 in
theorem wk_cases (b : fB) (T : fT) : wkF b T = 0 ∨ wkF b T = 1 ∨ wkF b T = 2 ∨ wkF b T = 3 ∨ wkF b T = 9 := by
  unfold wkF
  split
  · exact Or.inl rfl
  · split
    · exact Or.inr (Or.inl rfl)
    · split
      · exact Or.inr (Or.inr (Or.inl rfl))
      · split
        · exact Or.inr (Or.inr (Or.inr (Or.inl rfl)))
        · exact Or.inr (Or.inr (Or.inr (Or.inr rfl)))
section
variable {pr : Nat → dw_Op} {pc bc bs nx : Nat} {ls : dw_L} {st : List Value} {μ : dw_S}
set_option maxRecDepth 8000 in
theorem q_look {ps : List (Int × Nat)} {df : Nat} {x : Int32} (ho : pr pc = o_look ps df) (k : dw_ok pr (dw_pick x.toInt df ps) bc bs ls st μ) : dw_ok pr pc bc bs ls (.int x :: st) μ := dw_ok.step (by rw [ho]; exact k)
end
set_option maxRecDepth 8000 in
theorem v_mostOf {x : Int32} {μ : dw_S} {K : dw_K} (hk : ∀ w : Int32, (x.toInt = 0 → w = 100) → (x.toInt = 1 → w = 9) → (x.toInt ≠ 0 → x.toInt ≠ 1 → w = 40) → K (some (.int w)) μ) : t_X3_mostOf [.int x] μ K := by
  refine q_body (Nat.le_of_ble_eq_true rfl) ?_
  refine q_ild rfl rfl ?_
  refine q_look rfl ?_
  by_cases h0 : x.toInt = 0
  · rw [show dw_pick x.toInt 34 [(0, 28), (1, 31)] = 28 by unfold dw_pick; rw [if_pos h0]]
    refine q_ic rfl ?_
    exact q_iret rfl (hk _ (fun _ => rfl) (fun h => absurd h (by omega)) (fun h => absurd h0 h))
  by_cases h1 : x.toInt = 1
  · rw [show dw_pick x.toInt 34 [(0, 28), (1, 31)] = 31 by unfold dw_pick; rw [if_neg h0]; unfold dw_pick; rw [if_pos h1]]
    refine q_ic rfl ?_
    exact q_iret rfl (hk _ (fun h => absurd h h0) (fun _ => rfl) (fun _ h => absurd h1 h))
  rw [show dw_pick x.toInt 34 [(0, 28), (1, 31)] = 34 by unfold dw_pick; rw [if_neg h0]; unfold dw_pick; rw [if_neg h1]; rfl]
  refine q_ic rfl ?_
  exact q_iret rfl (hk _ (fun h => absurd h h0) (fun h => absurd h h1) (fun _ _ => rfl))
set_option maxRecDepth 8000 in
theorem v_whatIsTold {n : Nat} {I : Nat → Nat → Int32} {J : Nat → Nat → Int64} {K : dw_K} {T : fT} {N : Nat} (hN : (I 1 1).toInt = N) (hN9 : N ≤ 940) (h3 : (I 1 3).toInt = T.2.2.1) (h4 : (I 1 4).toInt = T.2.1) (h5 : (I 1 5).toInt = T.1) (hTN : T.2.2.1 ≤ N) (hT2 : T.2.1 ≤ N) (hk : ∀ w : Int32, w.toInt = wcI (wkF (tbC I) T) → K (some (.int w)) (n, SH1, I, J)) : t_X3_whatIsTold [.ref 1] (n, SH1, I, J) K := by
  refine q_body (Nat.le_of_ble_eq_true rfl) ?_
  refine q_ald rfl rfl ?_
  refine q_str rfl ?_
  refine q_callV (as := [.ref 1000019]) (rest := []) rfl rfl sk_1 rfl (Nat.le_of_ble_eq_true rfl) ?_
  refine v_says (T := T) (w := dw_sb 18) hN hN9 ⟨by decide, by decide⟩ rfl (st_ok (by decide)).1 (st_ok (by decide)).2 h3 h4 h5 hTN hT2 (fun v vc => ?_)
  show dw_ok (pr_X3_whatIsTold K) 6 0 0 [some (.ref 1)] [.int v] (n, SH1, I, J)
  rcases vc with ⟨rfl, s18⟩ | ⟨rfl, s18⟩
  · skip
    refine q_if (c := 0) rfl (by decide) (fun h => absurd (show (1 : Int) = 0 from h) (by decide)) (fun y1 => ?_)
    have y1 : (1 : Int) ≠ 0 := y1
    refine q_ic rfl ?_
    exact q_iret rfl (hk _ (by unfold wkF; rw [if_pos s18]; rfl))
  · skip
    refine q_if (c := 0) rfl (by decide) (fun y2 => ?_) (fun h => absurd (show (0 : Int) ≠ 0 from h) (by decide))
    have y2 : (0 : Int) = 0 := y2
    refine q_ald rfl rfl ?_
    refine q_str rfl ?_
    refine q_callV (as := [.ref 1000020]) (rest := []) rfl rfl sk_1 rfl (Nat.le_of_ble_eq_true rfl) ?_
    refine v_says (T := T) (w := dw_sb 19) hN hN9 ⟨by decide, by decide⟩ rfl (st_ok (by decide)).1 (st_ok (by decide)).2 h3 h4 h5 hTN hT2 (fun v vc => ?_)
    show dw_ok (pr_X3_whatIsTold K) 17 0 0 [some (.ref 1)] [.int v] (n, SH1, I, J)
    rcases vc with ⟨rfl, s19⟩ | ⟨rfl, s19⟩
    · skip
      refine q_if (c := 0) rfl (by decide) (fun h => absurd (show (1 : Int) = 0 from h) (by decide)) (fun y3 => ?_)
      have y3 : (1 : Int) ≠ 0 := y3
      refine q_ic rfl ?_
      exact q_iret rfl (hk _ (by unfold wkF; rw [if_neg s18, if_pos s19]; rfl))
    · skip
      refine q_if (c := 0) rfl (by decide) (fun y4 => ?_) (fun h => absurd (show (0 : Int) ≠ 0 from h) (by decide))
      have y4 : (0 : Int) = 0 := y4
      refine q_ald rfl rfl ?_
      refine q_str rfl ?_
      refine q_callV (as := [.ref 1000021]) (rest := []) rfl rfl sk_1 rfl (Nat.le_of_ble_eq_true rfl) ?_
      refine v_says (T := T) (w := dw_sb 20) hN hN9 ⟨by decide, by decide⟩ rfl (st_ok (by decide)).1 (st_ok (by decide)).2 h3 h4 h5 hTN hT2 (fun v vc => ?_)
      show dw_ok (pr_X3_whatIsTold K) 28 0 0 [some (.ref 1)] [.int v] (n, SH1, I, J)
      rcases vc with ⟨rfl, s20⟩ | ⟨rfl, s20⟩
      · skip
        refine q_if (c := 0) rfl (by decide) (fun h => absurd (show (1 : Int) = 0 from h) (by decide)) (fun y5 => ?_)
        have y5 : (1 : Int) ≠ 0 := y5
        refine q_ic rfl ?_
        exact q_iret rfl (hk _ (by unfold wkF; rw [if_neg s18, if_neg s19, if_pos s20]; rfl))
      · skip
        refine q_if (c := 0) rfl (by decide) (fun y6 => ?_) (fun h => absurd (show (0 : Int) ≠ 0 from h) (by decide))
        have y6 : (0 : Int) = 0 := y6
        refine q_ald rfl rfl ?_
        refine q_str rfl ?_
        refine q_callV (as := [.ref 1000022]) (rest := []) rfl rfl sk_1 rfl (Nat.le_of_ble_eq_true rfl) ?_
        refine v_says (T := T) (w := dw_sb 21) hN hN9 ⟨by decide, by decide⟩ rfl (st_ok (by decide)).1 (st_ok (by decide)).2 h3 h4 h5 hTN hT2 (fun v vc => ?_)
        show dw_ok (pr_X3_whatIsTold K) 39 0 0 [some (.ref 1)] [.int v] (n, SH1, I, J)
        rcases vc with ⟨rfl, s21⟩ | ⟨rfl, s21⟩
        · skip
          refine q_if (c := 0) rfl (by decide) (fun h => absurd (show (1 : Int) = 0 from h) (by decide)) (fun y7 => ?_)
          have y7 : (1 : Int) ≠ 0 := y7
          refine q_ic rfl ?_
          refine q_goto rfl ?_
          exact q_iret rfl (hk _ (by unfold wkF; rw [if_neg s18, if_neg s19, if_neg s20, if_pos s21]; rfl))
        · skip
          refine q_if (c := 0) rfl (by decide) (fun y8 => ?_) (fun h => absurd (show (0 : Int) ≠ 0 from h) (by decide))
          have y8 : (0 : Int) = 0 := y8
          refine q_ic rfl ?_
          exact q_iret rfl (hk _ (by unfold wkF; rw [if_neg s18, if_neg s19, if_neg s20, if_neg s21]; rfl))
set_option maxRecDepth 8000 in
set_option maxHeartbeats 2000000 in
theorem v_nline0 {n : Nat} {I : Nat → Nat → Int32} {J : Nat → Nat → Int64} {K : dw_K} {I0 : Nat → Nat → Int32} {lat i : Int32} {U : List (Nat × Nat × Int32)} {T : fT} {N m ln : Nat} (hR : NRp I0 I lat U) (hN : (I0 1 1).toInt = N) (hN9 : N ≤ 940) (hm : (I0 1 2).toInt = m) (h3 : (I 1 3).toInt = T.2.2.1) (h4 : (I 1 4).toInt = T.2.1) (h5 : (I 1 5).toInt = T.1) (hTN : T.2.2.1 ≤ N) (hT2 : T.2.1 ≤ N) (hl0 : 0 ≤ lat.toInt) (hi : i.toInt = ln) (hw : wkF (tbC I0) T = 0)
    (hok : (nlF (tbC I0) N m ln lat T).1 = 0 → ∀ I' : Nat → Nat → Int32, NRp I0 I' (nlF (tbC I0) N m ln lat T).2.2.2.2.1 (udF (nlF (tbC I0) N m ln lat T).2.2.2 ++ U) → (I' 1 3).toInt = (nlF (tbC I0) N m ln lat T).2.2.1 → (nlF (tbC I0) N m ln lat T).2.2.1 ≤ N → 0 ≤ (nlF (tbC I0) N m ln lat T).2.2.2.2.1.toInt → K (some (.int 1)) (n, SH1, I', J))
    (hno : (nlF (tbC I0) N m ln lat T).1 ≠ 0 → ∀ (I' : Nat → Nat → Int32) (lat' : Int32) (U' : List (Nat × Nat × Int32)), NRp I0 I' lat' U' → (I' 1 7).toInt = (nlF (tbC I0) N m ln lat T).1 → (I' 1 8).toInt = (nlF (tbC I0) N m ln lat T).2.1 → K (some (.int 0)) (n, SH1, I', J)) : dw_ok (pr_X3_readLine K) 16 0 0 [some (.ref 123), some (.ref 1), some (.int i), some (.int 0)] [] (n, SH1, I, J) := by
  have c24 : (24 : Int32).toInt = 24 := rfl
  have hw9 : ¬ (0 = 9) := by decide
  refine q_ild rfl rfl ?_
  refine q_ic rfl ?_
  refine q_icmp (c := 2) rfl (by decide) (fun h => ?_) (fun h => ?_)
  rotate_left
  · have h : (24 : Int32).toInt ≤ i.toInt := h
    have hg : 24 ≤ ln := by omega
    have eR : (nlF (tbC I0) N m ln lat T) = (4, T.2.1, 0, 0, 0, 0, 0) := by simp only [nlF, hw, hg, hw9, ↓reduceIte]
    refine q_ald rfl rfl ?_
    refine q_ic rfl ?_
    refine fl_step (c := 4) rfl rfl (nrT (lat := lat) (U := U)) hR (fun I1 hI1 g7 g8 => ?_)
    rw [eR] at hno
    exact hno (nn rfl) I1 lat U hI1 g7 (g8.trans h4)
  have h : i.toInt < (24 : Int32).toInt := h
  have hg : ¬ (24 ≤ ln) := by omega
  refine q_ald rfl rfl ?_
  refine q_ald rfl rfl ?_
  refine q_geti rfl sk_123 ?_
  refine q_ic rfl ?_
  show dw_ok (pr_X3_readLine K) 36 0 0 [some (.ref 123), some (.ref 1), some (.int i), some (.int 0)] [.int 143, .int (I 123 1), .ref 1] (n, SH1, I, J)
  rw [show I 123 1 = lat from hR.2.2.1]
  obtain ⟨T1, hT1⟩ : ∃ t, t = tkF (tbC I0) N m T.2.2.1 := ⟨_, rfl⟩
  have hin1 := tkF_in (b := tbC I0) (n := N) (m := m) (p := T.2.2.1) hTN
  refine tn_step (p := T.2.2.1) rfl rfl rfl rfl nrT hR hN hN9 hm h3 hTN ?_ ?_
  rotate_left
  · intro e1 I1 hI1 g7 g8
    rw [← hT1] at e1 g7 g8
    have e1 : nbF T1 lat.toInt 143 ≠ 0 := e1
    have eR : (nlF (tbC I0) N m ln lat T) = (nbF T1 lat.toInt 143, T1.2.1, 0, 0, 0, 0, 0) := by simp only [nlF, nbK, hw, hw9, hg, ← hT1, e1, ↓reduceIte]
    rw [eR] at hno
    exact hno e1 I1 _ _ hI1 g7 g8
  intro e1 I1 hR1 g13 g16
  rw [← hT1] at e1 g13 g16 hin1
  have e1 : nbF T1 lat.toInt 143 = 0 := e1
  have r1 := nb_r e1
  refine q_ald rfl rfl ?_
  refine q_ald rfl rfl ?_
  refine q_geti rfl sk_1 ?_
  refine q_puti rfl sk_123 ?_
  show dw_ok (pr_X3_readLine K) 52 0 0 [some (.ref 123), some (.ref 1), some (.int i), some (.int 0)] [] (n, SH1, dw_up I1 123 1 (I1 1 6), J)
  rw [g16]
  have hR1l := NR_lat (v := T1.2.2.2) hR1
  obtain ⟨I1l, hI1l⟩ : ∃ X, X = dw_up I1 123 1 T1.2.2.2 := ⟨_, rfl⟩
  have l1 : (I1l 1 3).toInt = T1.2.2.1 := by rw [hI1l]; exact g13
  rw [← hI1l] at hR1l
  rw [← hI1l]
  refine q_ild rfl rfl ?_
  refine q_ic rfl ?_
  refine q_icmp (c := 1) rfl (by decide) (fun _ => ?_) (fun h => absurd (show (0 : Int32).toInt = (4 : Int32).toInt from h) (by decide))
  refine q_ald rfl rfl ?_
  refine q_ic rfl ?_
  refine q_ild rfl rfl ?_
  refine q_callS (as := [.int 0]) (rest := [.int 0, .ref 1]) rfl rfl rfl rfl ?_
  refine v_mostOf (fun wm m0 m1 m2 => ?_)
  obtain rfl : wm = (100 : Int32) := m0 rfl
  show dw_ok (pr_X3_readLine K) 81 0 0 [some (.ref 123), some (.ref 1), some (.int i), some (.int 0)] [.int 100, .int 0, .ref 1] (n, SH1, I1l, J)
  obtain ⟨T2, hT2'⟩ : ∃ t, t = tkF (tbC I0) N m T1.2.2.1 := ⟨_, rfl⟩
  have hin2 := tkF_in (b := tbC I0) (n := N) (m := m) (p := T1.2.2.1) hin1.2.2.1
  refine tn_step (p := T1.2.2.1) rfl rfl rfl rfl nrT hR1l hN hN9 hm l1 hin1.2.2.1 ?_ ?_
  rotate_left
  · intro e2 I2 hI2 g7 g8
    rw [← hT2'] at e2 g7 g8
    have e2 : nbF T2 0 100 ≠ 0 := e2
    have eR : (nlF (tbC I0) N m ln lat T) = (nbF T2 0 100, T2.2.1, 0, 0, 0, 0, 0) := by simp only [nlF, nbK, hw, hw9, hg, ← hT1, e1, ← hT2', e2, moF, ↓reduceIte, show ¬ (0 = 3) by decide, show ¬ (0 = 2) by decide]
    rw [eR] at hno
    exact hno e2 I2 _ _ hI2 g7 g8
  intro e2 I2 hR2 g23 g26
  rw [← hT2'] at e2 g23 g26 hin2
  have e2 : nbF T2 0 100 = 0 := e2
  refine q_ald rfl rfl ?_
  refine q_getr rfl sk_123 sr_123_0 ?_
  refine q_ild rfl rfl ?_
  refine q_ald rfl rfl ?_
  refine q_geti rfl sk_123 ?_
  refine q_ald rfl rfl ?_
  refine q_geti rfl sk_1 ?_
  show dw_ok (pr_X3_readLine K) 102 0 0 [some (.ref 123), some (.ref 1), some (.int i), some (.int 0)] [.int (I2 1 6), .int (I2 123 1), .int 0, .ref 124] (n, SH1, I2, J)
  rw [show I2 123 1 = T1.2.2.2 from hR2.2.2.1, g26]
  refine q_callV (as := [.int 0, .int T1.2.2.2, .int T2.2.2.2]) (rest := []) rfl rfl sk_124 rfl (Nat.le_of_ble_eq_true rfl) ?_
  refine v_nset (w := 0) (t0 := T1.2.2.2.toInt.toNat) (by decide) rfl (by omega) (by omega) (fun I3 hAI3 hBI3 => ?_)
  have hR3 := NR_set hR2 (by decide) hAI3 hBI3
  have l3 : (I3 1 3).toInt = T2.2.2.1 := by rw [hAI3 1 (by decide)]; exact g23
  show dw_ok (pr_X3_readLine K) 105 0 0 [some (.ref 123), some (.ref 1), some (.int i), some (.int 0)] [] (n, SH1, I3, J)
  refine q_ild rfl rfl ?_
  refine q_ic rfl ?_
  refine q_icmp (c := 1) rfl (by decide) (fun _ => ?_) (fun h => absurd (show (0 : Int32).toInt = (2 : Int32).toInt from h) (by decide))
  obtain ⟨T3, hT3⟩ : ∃ t, t = tkF (tbC I0) N m T2.2.2.1 := ⟨_, rfl⟩
  have hinT3 := tkF_in (b := tbC I0) (n := N) (m := m) (p := T2.2.2.1) hin2.2.2.1
  refine q_ald rfl rfl ?_
  refine ts_step (p := T2.2.2.1) rfl rfl nrT hR3 hN hN9 hm l3 hin2.2.2.1 ?_ ?_
  rotate_left
  · intro es I9 hI9 g7 g8
    rw [← hT3] at es g8
    have eR : (nlF (tbC I0) N m ln lat T) = (1, T3.2.1, 0, 0, 0, 0, 0) := by simp only [nlF, nbK, stK, hw, hw9, hg, ← hT1, e1, ← hT2', e2, ← hT3, es, moF, ↓reduceIte, show ¬ (0 = 3) by decide, show ¬ (0 = 2) by decide]
    rw [eR] at hno
    exact hno (nn rfl) I9 _ _ hI9 g7 g8
  intro es I9 hI9 g3
  rw [← hT3] at es g3 hinT3
  have eR : (nlF (tbC I0) N m ln lat T) = (0, 0, T3.2.2.1, 0, T1.2.2.2, T2.2.2.2, 0) := by simp only [nlF, nbK, stK, hw, hw9, hg, ← hT1, e1, ← hT2', e2, ← hT3, es, moF, ↓reduceIte, show ¬ (0 = 3) by decide, show ¬ (0 = 2) by decide]
  rw [eR] at hok
  exact hok rfl I9 hI9 g3 hinT3.2.2.1 (by dsimp only; omega)
set_option maxRecDepth 8000 in
set_option maxHeartbeats 2000000 in
theorem v_nline1 {n : Nat} {I : Nat → Nat → Int32} {J : Nat → Nat → Int64} {K : dw_K} {I0 : Nat → Nat → Int32} {lat i : Int32} {U : List (Nat × Nat × Int32)} {T : fT} {N m ln : Nat} (hR : NRp I0 I lat U) (hN : (I0 1 1).toInt = N) (hN9 : N ≤ 940) (hm : (I0 1 2).toInt = m) (h3 : (I 1 3).toInt = T.2.2.1) (h4 : (I 1 4).toInt = T.2.1) (h5 : (I 1 5).toInt = T.1) (hTN : T.2.2.1 ≤ N) (hT2 : T.2.1 ≤ N) (hl0 : 0 ≤ lat.toInt) (hi : i.toInt = ln) (hw : wkF (tbC I0) T = 1)
    (hok : (nlF (tbC I0) N m ln lat T).1 = 0 → ∀ I' : Nat → Nat → Int32, NRp I0 I' (nlF (tbC I0) N m ln lat T).2.2.2.2.1 (udF (nlF (tbC I0) N m ln lat T).2.2.2 ++ U) → (I' 1 3).toInt = (nlF (tbC I0) N m ln lat T).2.2.1 → (nlF (tbC I0) N m ln lat T).2.2.1 ≤ N → 0 ≤ (nlF (tbC I0) N m ln lat T).2.2.2.2.1.toInt → K (some (.int 1)) (n, SH1, I', J))
    (hno : (nlF (tbC I0) N m ln lat T).1 ≠ 0 → ∀ (I' : Nat → Nat → Int32) (lat' : Int32) (U' : List (Nat × Nat × Int32)), NRp I0 I' lat' U' → (I' 1 7).toInt = (nlF (tbC I0) N m ln lat T).1 → (I' 1 8).toInt = (nlF (tbC I0) N m ln lat T).2.1 → K (some (.int 0)) (n, SH1, I', J)) : dw_ok (pr_X3_readLine K) 16 0 0 [some (.ref 123), some (.ref 1), some (.int i), some (.int 1)] [] (n, SH1, I, J) := by
  have c24 : (24 : Int32).toInt = 24 := rfl
  have hw9 : ¬ (1 = 9) := by decide
  refine q_ild rfl rfl ?_
  refine q_ic rfl ?_
  refine q_icmp (c := 2) rfl (by decide) (fun h => ?_) (fun h => ?_)
  rotate_left
  · have h : (24 : Int32).toInt ≤ i.toInt := h
    have hg : 24 ≤ ln := by omega
    have eR : (nlF (tbC I0) N m ln lat T) = (4, T.2.1, 0, 0, 0, 0, 0) := by simp only [nlF, hw, hg, hw9, ↓reduceIte]
    refine q_ald rfl rfl ?_
    refine q_ic rfl ?_
    refine fl_step (c := 4) rfl rfl (nrT (lat := lat) (U := U)) hR (fun I1 hI1 g7 g8 => ?_)
    rw [eR] at hno
    exact hno (nn rfl) I1 lat U hI1 g7 (g8.trans h4)
  have h : i.toInt < (24 : Int32).toInt := h
  have hg : ¬ (24 ≤ ln) := by omega
  refine q_ald rfl rfl ?_
  refine q_ald rfl rfl ?_
  refine q_geti rfl sk_123 ?_
  refine q_ic rfl ?_
  show dw_ok (pr_X3_readLine K) 36 0 0 [some (.ref 123), some (.ref 1), some (.int i), some (.int 1)] [.int 143, .int (I 123 1), .ref 1] (n, SH1, I, J)
  rw [show I 123 1 = lat from hR.2.2.1]
  obtain ⟨T1, hT1⟩ : ∃ t, t = tkF (tbC I0) N m T.2.2.1 := ⟨_, rfl⟩
  have hin1 := tkF_in (b := tbC I0) (n := N) (m := m) (p := T.2.2.1) hTN
  refine tn_step (p := T.2.2.1) rfl rfl rfl rfl nrT hR hN hN9 hm h3 hTN ?_ ?_
  rotate_left
  · intro e1 I1 hI1 g7 g8
    rw [← hT1] at e1 g7 g8
    have e1 : nbF T1 lat.toInt 143 ≠ 0 := e1
    have eR : (nlF (tbC I0) N m ln lat T) = (nbF T1 lat.toInt 143, T1.2.1, 0, 0, 0, 0, 0) := by simp only [nlF, nbK, hw, hw9, hg, ← hT1, e1, ↓reduceIte]
    rw [eR] at hno
    exact hno e1 I1 _ _ hI1 g7 g8
  intro e1 I1 hR1 g13 g16
  rw [← hT1] at e1 g13 g16 hin1
  have e1 : nbF T1 lat.toInt 143 = 0 := e1
  have r1 := nb_r e1
  refine q_ald rfl rfl ?_
  refine q_ald rfl rfl ?_
  refine q_geti rfl sk_1 ?_
  refine q_puti rfl sk_123 ?_
  show dw_ok (pr_X3_readLine K) 52 0 0 [some (.ref 123), some (.ref 1), some (.int i), some (.int 1)] [] (n, SH1, dw_up I1 123 1 (I1 1 6), J)
  rw [g16]
  have hR1l := NR_lat (v := T1.2.2.2) hR1
  obtain ⟨I1l, hI1l⟩ : ∃ X, X = dw_up I1 123 1 T1.2.2.2 := ⟨_, rfl⟩
  have l1 : (I1l 1 3).toInt = T1.2.2.1 := by rw [hI1l]; exact g13
  rw [← hI1l] at hR1l
  rw [← hI1l]
  refine q_ild rfl rfl ?_
  refine q_ic rfl ?_
  refine q_icmp (c := 1) rfl (by decide) (fun _ => ?_) (fun h => absurd (show (1 : Int32).toInt = (4 : Int32).toInt from h) (by decide))
  refine q_ald rfl rfl ?_
  refine q_ic rfl ?_
  refine q_ild rfl rfl ?_
  refine q_callS (as := [.int 1]) (rest := [.int 0, .ref 1]) rfl rfl rfl rfl ?_
  refine v_mostOf (fun wm m0 m1 m2 => ?_)
  obtain rfl : wm = (9 : Int32) := m1 rfl
  show dw_ok (pr_X3_readLine K) 81 0 0 [some (.ref 123), some (.ref 1), some (.int i), some (.int 1)] [.int 9, .int 0, .ref 1] (n, SH1, I1l, J)
  obtain ⟨T2, hT2'⟩ : ∃ t, t = tkF (tbC I0) N m T1.2.2.1 := ⟨_, rfl⟩
  have hin2 := tkF_in (b := tbC I0) (n := N) (m := m) (p := T1.2.2.1) hin1.2.2.1
  refine tn_step (p := T1.2.2.1) rfl rfl rfl rfl nrT hR1l hN hN9 hm l1 hin1.2.2.1 ?_ ?_
  rotate_left
  · intro e2 I2 hI2 g7 g8
    rw [← hT2'] at e2 g7 g8
    have e2 : nbF T2 0 9 ≠ 0 := e2
    have eR : (nlF (tbC I0) N m ln lat T) = (nbF T2 0 9, T2.2.1, 0, 0, 0, 0, 0) := by simp only [nlF, nbK, hw, hw9, hg, ← hT1, e1, ← hT2', e2, moF, ↓reduceIte, show ¬ (1 = 3) by decide, show ¬ (1 = 2) by decide, show ¬ (1 = 0) by decide]
    rw [eR] at hno
    exact hno e2 I2 _ _ hI2 g7 g8
  intro e2 I2 hR2 g23 g26
  rw [← hT2'] at e2 g23 g26 hin2
  have e2 : nbF T2 0 9 = 0 := e2
  refine q_ald rfl rfl ?_
  refine q_getr rfl sk_123 sr_123_0 ?_
  refine q_ild rfl rfl ?_
  refine q_ald rfl rfl ?_
  refine q_geti rfl sk_123 ?_
  refine q_ald rfl rfl ?_
  refine q_geti rfl sk_1 ?_
  show dw_ok (pr_X3_readLine K) 102 0 0 [some (.ref 123), some (.ref 1), some (.int i), some (.int 1)] [.int (I2 1 6), .int (I2 123 1), .int 1, .ref 124] (n, SH1, I2, J)
  rw [show I2 123 1 = T1.2.2.2 from hR2.2.2.1, g26]
  refine q_callV (as := [.int 1, .int T1.2.2.2, .int T2.2.2.2]) (rest := []) rfl rfl sk_124 rfl (Nat.le_of_ble_eq_true rfl) ?_
  refine v_nset (w := 1) (t0 := T1.2.2.2.toInt.toNat) (by decide) rfl (by omega) (by omega) (fun I3 hAI3 hBI3 => ?_)
  have hR3 := NR_set hR2 (by decide) hAI3 hBI3
  have l3 : (I3 1 3).toInt = T2.2.2.1 := by rw [hAI3 1 (by decide)]; exact g23
  show dw_ok (pr_X3_readLine K) 105 0 0 [some (.ref 123), some (.ref 1), some (.int i), some (.int 1)] [] (n, SH1, I3, J)
  refine q_ild rfl rfl ?_
  refine q_ic rfl ?_
  refine q_icmp (c := 1) rfl (by decide) (fun _ => ?_) (fun h => absurd (show (1 : Int32).toInt = (2 : Int32).toInt from h) (by decide))
  obtain ⟨T3, hT3⟩ : ∃ t, t = tkF (tbC I0) N m T2.2.2.1 := ⟨_, rfl⟩
  have hinT3 := tkF_in (b := tbC I0) (n := N) (m := m) (p := T2.2.2.1) hin2.2.2.1
  refine q_ald rfl rfl ?_
  refine ts_step (p := T2.2.2.1) rfl rfl nrT hR3 hN hN9 hm l3 hin2.2.2.1 ?_ ?_
  rotate_left
  · intro es I9 hI9 g7 g8
    rw [← hT3] at es g8
    have eR : (nlF (tbC I0) N m ln lat T) = (1, T3.2.1, 0, 0, 0, 0, 0) := by simp only [nlF, nbK, stK, hw, hw9, hg, ← hT1, e1, ← hT2', e2, ← hT3, es, moF, ↓reduceIte, show ¬ (1 = 3) by decide, show ¬ (1 = 2) by decide, show ¬ (1 = 0) by decide]
    rw [eR] at hno
    exact hno (nn rfl) I9 _ _ hI9 g7 g8
  intro es I9 hI9 g3
  rw [← hT3] at es g3 hinT3
  have eR : (nlF (tbC I0) N m ln lat T) = (0, 0, T3.2.2.1, 1, T1.2.2.2, T2.2.2.2, 0) := by simp only [nlF, nbK, stK, hw, hw9, hg, ← hT1, e1, ← hT2', e2, ← hT3, es, moF, ↓reduceIte, show ¬ (1 = 3) by decide, show ¬ (1 = 2) by decide, show ¬ (1 = 0) by decide]
  rw [eR] at hok
  exact hok rfl I9 hI9 g3 hinT3.2.2.1 (by dsimp only; omega)
set_option maxRecDepth 8000 in
set_option maxHeartbeats 2000000 in
theorem v_nline2 {n : Nat} {I : Nat → Nat → Int32} {J : Nat → Nat → Int64} {K : dw_K} {I0 : Nat → Nat → Int32} {lat i : Int32} {U : List (Nat × Nat × Int32)} {T : fT} {N m ln : Nat} (hR : NRp I0 I lat U) (hN : (I0 1 1).toInt = N) (hN9 : N ≤ 940) (hm : (I0 1 2).toInt = m) (h3 : (I 1 3).toInt = T.2.2.1) (h4 : (I 1 4).toInt = T.2.1) (h5 : (I 1 5).toInt = T.1) (hTN : T.2.2.1 ≤ N) (hT2 : T.2.1 ≤ N) (hl0 : 0 ≤ lat.toInt) (hi : i.toInt = ln) (hw : wkF (tbC I0) T = 2)
    (hok : (nlF (tbC I0) N m ln lat T).1 = 0 → ∀ I' : Nat → Nat → Int32, NRp I0 I' (nlF (tbC I0) N m ln lat T).2.2.2.2.1 (udF (nlF (tbC I0) N m ln lat T).2.2.2 ++ U) → (I' 1 3).toInt = (nlF (tbC I0) N m ln lat T).2.2.1 → (nlF (tbC I0) N m ln lat T).2.2.1 ≤ N → 0 ≤ (nlF (tbC I0) N m ln lat T).2.2.2.2.1.toInt → K (some (.int 1)) (n, SH1, I', J))
    (hno : (nlF (tbC I0) N m ln lat T).1 ≠ 0 → ∀ (I' : Nat → Nat → Int32) (lat' : Int32) (U' : List (Nat × Nat × Int32)), NRp I0 I' lat' U' → (I' 1 7).toInt = (nlF (tbC I0) N m ln lat T).1 → (I' 1 8).toInt = (nlF (tbC I0) N m ln lat T).2.1 → K (some (.int 0)) (n, SH1, I', J)) : dw_ok (pr_X3_readLine K) 16 0 0 [some (.ref 123), some (.ref 1), some (.int i), some (.int 2)] [] (n, SH1, I, J) := by
  have c24 : (24 : Int32).toInt = 24 := rfl
  have hw9 : ¬ (2 = 9) := by decide
  refine q_ild rfl rfl ?_
  refine q_ic rfl ?_
  refine q_icmp (c := 2) rfl (by decide) (fun h => ?_) (fun h => ?_)
  rotate_left
  · have h : (24 : Int32).toInt ≤ i.toInt := h
    have hg : 24 ≤ ln := by omega
    have eR : (nlF (tbC I0) N m ln lat T) = (4, T.2.1, 0, 0, 0, 0, 0) := by simp only [nlF, hw, hg, hw9, ↓reduceIte]
    refine q_ald rfl rfl ?_
    refine q_ic rfl ?_
    refine fl_step (c := 4) rfl rfl (nrT (lat := lat) (U := U)) hR (fun I1 hI1 g7 g8 => ?_)
    rw [eR] at hno
    exact hno (nn rfl) I1 lat U hI1 g7 (g8.trans h4)
  have h : i.toInt < (24 : Int32).toInt := h
  have hg : ¬ (24 ≤ ln) := by omega
  refine q_ald rfl rfl ?_
  refine q_ald rfl rfl ?_
  refine q_geti rfl sk_123 ?_
  refine q_ic rfl ?_
  show dw_ok (pr_X3_readLine K) 36 0 0 [some (.ref 123), some (.ref 1), some (.int i), some (.int 2)] [.int 143, .int (I 123 1), .ref 1] (n, SH1, I, J)
  rw [show I 123 1 = lat from hR.2.2.1]
  obtain ⟨T1, hT1⟩ : ∃ t, t = tkF (tbC I0) N m T.2.2.1 := ⟨_, rfl⟩
  have hin1 := tkF_in (b := tbC I0) (n := N) (m := m) (p := T.2.2.1) hTN
  refine tn_step (p := T.2.2.1) rfl rfl rfl rfl nrT hR hN hN9 hm h3 hTN ?_ ?_
  rotate_left
  · intro e1 I1 hI1 g7 g8
    rw [← hT1] at e1 g7 g8
    have e1 : nbF T1 lat.toInt 143 ≠ 0 := e1
    have eR : (nlF (tbC I0) N m ln lat T) = (nbF T1 lat.toInt 143, T1.2.1, 0, 0, 0, 0, 0) := by simp only [nlF, nbK, hw, hw9, hg, ← hT1, e1, ↓reduceIte]
    rw [eR] at hno
    exact hno e1 I1 _ _ hI1 g7 g8
  intro e1 I1 hR1 g13 g16
  rw [← hT1] at e1 g13 g16 hin1
  have e1 : nbF T1 lat.toInt 143 = 0 := e1
  have r1 := nb_r e1
  refine q_ald rfl rfl ?_
  refine q_ald rfl rfl ?_
  refine q_geti rfl sk_1 ?_
  refine q_puti rfl sk_123 ?_
  show dw_ok (pr_X3_readLine K) 52 0 0 [some (.ref 123), some (.ref 1), some (.int i), some (.int 2)] [] (n, SH1, dw_up I1 123 1 (I1 1 6), J)
  rw [g16]
  have hR1l := NR_lat (v := T1.2.2.2) hR1
  obtain ⟨I1l, hI1l⟩ : ∃ X, X = dw_up I1 123 1 T1.2.2.2 := ⟨_, rfl⟩
  have l1 : (I1l 1 3).toInt = T1.2.2.1 := by rw [hI1l]; exact g13
  rw [← hI1l] at hR1l
  rw [← hI1l]
  refine q_ild rfl rfl ?_
  refine q_ic rfl ?_
  refine q_icmp (c := 1) rfl (by decide) (fun _ => ?_) (fun h => absurd (show (2 : Int32).toInt = (4 : Int32).toInt from h) (by decide))
  refine q_ald rfl rfl ?_
  refine q_ic rfl ?_
  refine q_ild rfl rfl ?_
  refine q_callS (as := [.int 2]) (rest := [.int 0, .ref 1]) rfl rfl rfl rfl ?_
  refine v_mostOf (fun wm m0 m1 m2 => ?_)
  obtain rfl : wm = (40 : Int32) := m2 (by decide) (by decide)
  show dw_ok (pr_X3_readLine K) 81 0 0 [some (.ref 123), some (.ref 1), some (.int i), some (.int 2)] [.int 40, .int 0, .ref 1] (n, SH1, I1l, J)
  obtain ⟨T2, hT2'⟩ : ∃ t, t = tkF (tbC I0) N m T1.2.2.1 := ⟨_, rfl⟩
  have hin2 := tkF_in (b := tbC I0) (n := N) (m := m) (p := T1.2.2.1) hin1.2.2.1
  refine tn_step (p := T1.2.2.1) rfl rfl rfl rfl nrT hR1l hN hN9 hm l1 hin1.2.2.1 ?_ ?_
  rotate_left
  · intro e2 I2 hI2 g7 g8
    rw [← hT2'] at e2 g7 g8
    have e2 : nbF T2 0 40 ≠ 0 := e2
    have eR : (nlF (tbC I0) N m ln lat T) = (nbF T2 0 40, T2.2.1, 0, 0, 0, 0, 0) := by simp only [nlF, nbK, hw, hw9, hg, ← hT1, e1, ← hT2', e2, moF, ↓reduceIte, show ¬ (2 = 3) by decide, show ¬ (2 = 0) by decide, show ¬ (2 = 1) by decide]
    rw [eR] at hno
    exact hno e2 I2 _ _ hI2 g7 g8
  intro e2 I2 hR2 g23 g26
  rw [← hT2'] at e2 g23 g26 hin2
  have e2 : nbF T2 0 40 = 0 := e2
  refine q_ald rfl rfl ?_
  refine q_getr rfl sk_123 sr_123_0 ?_
  refine q_ild rfl rfl ?_
  refine q_ald rfl rfl ?_
  refine q_geti rfl sk_123 ?_
  refine q_ald rfl rfl ?_
  refine q_geti rfl sk_1 ?_
  show dw_ok (pr_X3_readLine K) 102 0 0 [some (.ref 123), some (.ref 1), some (.int i), some (.int 2)] [.int (I2 1 6), .int (I2 123 1), .int 2, .ref 124] (n, SH1, I2, J)
  rw [show I2 123 1 = T1.2.2.2 from hR2.2.2.1, g26]
  refine q_callV (as := [.int 2, .int T1.2.2.2, .int T2.2.2.2]) (rest := []) rfl rfl sk_124 rfl (Nat.le_of_ble_eq_true rfl) ?_
  refine v_nset (w := 2) (t0 := T1.2.2.2.toInt.toNat) (by decide) rfl (by omega) (by omega) (fun I3 hAI3 hBI3 => ?_)
  have hR3 := NR_set hR2 (by decide) hAI3 hBI3
  have l3 : (I3 1 3).toInt = T2.2.2.1 := by rw [hAI3 1 (by decide)]; exact g23
  show dw_ok (pr_X3_readLine K) 105 0 0 [some (.ref 123), some (.ref 1), some (.int i), some (.int 2)] [] (n, SH1, I3, J)
  refine q_ild rfl rfl ?_
  refine q_ic rfl ?_
  refine q_icmp (c := 1) rfl (by decide) (fun h => absurd rfl h) (fun _ => ?_)
  refine q_ald rfl rfl ?_
  refine q_ic rfl ?_
  refine q_ic rfl ?_
  refine q_callS (as := [.int 3]) (rest := [.int 0, .ref 1]) rfl rfl rfl rfl ?_
  refine v_mostOf (fun wm m0 m1 m2 => ?_)
  obtain rfl : wm = (40 : Int32) := m2 (by decide) (by decide)
  show dw_ok (pr_X3_readLine K) 116 0 0 [some (.ref 123), some (.ref 1), some (.int i), some (.int 2)] [.int 40, .int 0, .ref 1] (n, SH1, I3, J)
  obtain ⟨T3, hT3⟩ : ∃ t, t = tkF (tbC I0) N m T2.2.2.1 := ⟨_, rfl⟩
  have hin3 := tkF_in (b := tbC I0) (n := N) (m := m) (p := T2.2.2.1) hin2.2.2.1
  refine tn_step (p := T2.2.2.1) rfl rfl rfl rfl nrT hR3 hN hN9 hm l3 hin2.2.2.1 ?_ ?_
  rotate_left
  · intro e3 I4 hI4 g7 g8
    rw [← hT3] at e3 g7 g8
    have e3 : nbF T3 0 40 ≠ 0 := e3
    have eR : (nlF (tbC I0) N m ln lat T) = (nbF T3 0 40, T3.2.1, 0, 0, 0, 0, 0) := by simp only [nlF, nbK, hw, hw9, hg, ← hT1, e1, ← hT2', e2, ← hT3, e3, moF, ↓reduceIte, show ¬ (2 = 3) by decide, show ¬ (2 = 0) by decide, show ¬ (2 = 1) by decide]
    rw [eR] at hno
    exact hno e3 I4 _ _ hI4 g7 g8
  intro e3 I4 hR4 g43 g46
  rw [← hT3] at e3 g43 g46 hin3
  have e3 : nbF T3 0 40 = 0 := e3
  refine q_ald rfl rfl ?_
  refine q_getr rfl sk_123 sr_123_0 ?_
  refine q_ic rfl ?_
  refine q_ald rfl rfl ?_
  refine q_geti rfl sk_123 ?_
  refine q_ald rfl rfl ?_
  refine q_geti rfl sk_1 ?_
  show dw_ok (pr_X3_readLine K) 137 0 0 [some (.ref 123), some (.ref 1), some (.int i), some (.int 2)] [.int (I4 1 6), .int (I4 123 1), .int 3, .ref 124] (n, SH1, I4, J)
  rw [show I4 123 1 = T1.2.2.2 from hR4.2.2.1, g46]
  refine q_callV (as := [.int 3, .int T1.2.2.2, .int T3.2.2.2]) (rest := []) rfl rfl sk_124 rfl (Nat.le_of_ble_eq_true rfl) ?_
  refine v_nset (w := 3) (t0 := T1.2.2.2.toInt.toNat) (by decide) rfl (by omega) (by omega) (fun I5 hAI5 hBI5 => ?_)
  have hR5 := NR_set hR4 (by decide) hAI5 hBI5
  have l5 : (I5 1 3).toInt = T3.2.2.1 := by rw [hAI5 1 (by decide)]; exact g43
  show dw_ok (pr_X3_readLine K) 140 0 0 [some (.ref 123), some (.ref 1), some (.int i), some (.int 2)] [] (n, SH1, I5, J)
  obtain ⟨T4, hT4⟩ : ∃ t, t = tkF (tbC I0) N m T3.2.2.1 := ⟨_, rfl⟩
  have hinT4 := tkF_in (b := tbC I0) (n := N) (m := m) (p := T3.2.2.1) hin3.2.2.1
  refine q_ald rfl rfl ?_
  refine ts_step (p := T3.2.2.1) rfl rfl nrT hR5 hN hN9 hm l5 hin3.2.2.1 ?_ ?_
  rotate_left
  · intro es I9 hI9 g7 g8
    rw [← hT4] at es g8
    have eR : (nlF (tbC I0) N m ln lat T) = (1, T4.2.1, 0, 0, 0, 0, 0) := by simp only [nlF, nbK, stK, hw, hw9, hg, ← hT1, e1, ← hT2', e2, ← hT3, e3, ← hT4, es, moF, ↓reduceIte, show ¬ (2 = 3) by decide, show ¬ (2 = 0) by decide, show ¬ (2 = 1) by decide]
    rw [eR] at hno
    exact hno (nn rfl) I9 _ _ hI9 g7 g8
  intro es I9 hI9 g3
  rw [← hT4] at es g3 hinT4
  have eR : (nlF (tbC I0) N m ln lat T) = (0, 0, T4.2.2.1, 2, T1.2.2.2, T2.2.2.2, T3.2.2.2) := by simp only [nlF, nbK, stK, hw, hw9, hg, ← hT1, e1, ← hT2', e2, ← hT3, e3, ← hT4, es, moF, ↓reduceIte, show ¬ (2 = 3) by decide, show ¬ (2 = 0) by decide, show ¬ (2 = 1) by decide]
  rw [eR] at hok
  exact hok rfl I9 hI9 g3 hinT4.2.2.1 (by dsimp only; omega)
set_option maxRecDepth 8000 in
set_option maxHeartbeats 2000000 in
theorem v_nline3 {n : Nat} {I : Nat → Nat → Int32} {J : Nat → Nat → Int64} {K : dw_K} {I0 : Nat → Nat → Int32} {lat i : Int32} {U : List (Nat × Nat × Int32)} {T : fT} {N m ln : Nat} (hR : NRp I0 I lat U) (hN : (I0 1 1).toInt = N) (hN9 : N ≤ 940) (hm : (I0 1 2).toInt = m) (h3 : (I 1 3).toInt = T.2.2.1) (h4 : (I 1 4).toInt = T.2.1) (h5 : (I 1 5).toInt = T.1) (hTN : T.2.2.1 ≤ N) (hT2 : T.2.1 ≤ N) (hl0 : 0 ≤ lat.toInt) (hi : i.toInt = ln) (hw : wkF (tbC I0) T = 3)
    (hok : (nlF (tbC I0) N m ln lat T).1 = 0 → ∀ I' : Nat → Nat → Int32, NRp I0 I' (nlF (tbC I0) N m ln lat T).2.2.2.2.1 (udF (nlF (tbC I0) N m ln lat T).2.2.2 ++ U) → (I' 1 3).toInt = (nlF (tbC I0) N m ln lat T).2.2.1 → (nlF (tbC I0) N m ln lat T).2.2.1 ≤ N → 0 ≤ (nlF (tbC I0) N m ln lat T).2.2.2.2.1.toInt → K (some (.int 1)) (n, SH1, I', J))
    (hno : (nlF (tbC I0) N m ln lat T).1 ≠ 0 → ∀ (I' : Nat → Nat → Int32) (lat' : Int32) (U' : List (Nat × Nat × Int32)), NRp I0 I' lat' U' → (I' 1 7).toInt = (nlF (tbC I0) N m ln lat T).1 → (I' 1 8).toInt = (nlF (tbC I0) N m ln lat T).2.1 → K (some (.int 0)) (n, SH1, I', J)) : dw_ok (pr_X3_readLine K) 16 0 0 [some (.ref 123), some (.ref 1), some (.int i), some (.int 4)] [] (n, SH1, I, J) := by
  have c24 : (24 : Int32).toInt = 24 := rfl
  have hw9 : ¬ (3 = 9) := by decide
  refine q_ild rfl rfl ?_
  refine q_ic rfl ?_
  refine q_icmp (c := 2) rfl (by decide) (fun h => ?_) (fun h => ?_)
  rotate_left
  · have h : (24 : Int32).toInt ≤ i.toInt := h
    have hg : 24 ≤ ln := by omega
    have eR : (nlF (tbC I0) N m ln lat T) = (4, T.2.1, 0, 0, 0, 0, 0) := by simp only [nlF, hw, hg, hw9, ↓reduceIte]
    refine q_ald rfl rfl ?_
    refine q_ic rfl ?_
    refine fl_step (c := 4) rfl rfl (nrT (lat := lat) (U := U)) hR (fun I1 hI1 g7 g8 => ?_)
    rw [eR] at hno
    exact hno (nn rfl) I1 lat U hI1 g7 (g8.trans h4)
  have h : i.toInt < (24 : Int32).toInt := h
  have hg : ¬ (24 ≤ ln) := by omega
  refine q_ald rfl rfl ?_
  refine q_ald rfl rfl ?_
  refine q_geti rfl sk_123 ?_
  refine q_ic rfl ?_
  show dw_ok (pr_X3_readLine K) 36 0 0 [some (.ref 123), some (.ref 1), some (.int i), some (.int 4)] [.int 143, .int (I 123 1), .ref 1] (n, SH1, I, J)
  rw [show I 123 1 = lat from hR.2.2.1]
  obtain ⟨T1, hT1⟩ : ∃ t, t = tkF (tbC I0) N m T.2.2.1 := ⟨_, rfl⟩
  have hin1 := tkF_in (b := tbC I0) (n := N) (m := m) (p := T.2.2.1) hTN
  refine tn_step (p := T.2.2.1) rfl rfl rfl rfl nrT hR hN hN9 hm h3 hTN ?_ ?_
  rotate_left
  · intro e1 I1 hI1 g7 g8
    rw [← hT1] at e1 g7 g8
    have e1 : nbF T1 lat.toInt 143 ≠ 0 := e1
    have eR : (nlF (tbC I0) N m ln lat T) = (nbF T1 lat.toInt 143, T1.2.1, 0, 0, 0, 0, 0) := by simp only [nlF, nbK, hw, hw9, hg, ← hT1, e1, ↓reduceIte]
    rw [eR] at hno
    exact hno e1 I1 _ _ hI1 g7 g8
  intro e1 I1 hR1 g13 g16
  rw [← hT1] at e1 g13 g16 hin1
  have e1 : nbF T1 lat.toInt 143 = 0 := e1
  have r1 := nb_r e1
  refine q_ald rfl rfl ?_
  refine q_ald rfl rfl ?_
  refine q_geti rfl sk_1 ?_
  refine q_puti rfl sk_123 ?_
  show dw_ok (pr_X3_readLine K) 52 0 0 [some (.ref 123), some (.ref 1), some (.int i), some (.int 4)] [] (n, SH1, dw_up I1 123 1 (I1 1 6), J)
  rw [g16]
  have hR1l := NR_lat (v := T1.2.2.2) hR1
  obtain ⟨I1l, hI1l⟩ : ∃ X, X = dw_up I1 123 1 T1.2.2.2 := ⟨_, rfl⟩
  have l1 : (I1l 1 3).toInt = T1.2.2.1 := by rw [hI1l]; exact g13
  rw [← hI1l] at hR1l
  rw [← hI1l]
  refine q_ild rfl rfl ?_
  refine q_ic rfl ?_
  refine q_icmp (c := 1) rfl (by decide) (fun h => absurd rfl h) (fun _ => ?_)
  refine q_ald rfl rfl ?_
  refine q_getr rfl sk_123 sr_123_0 ?_
  refine q_ic rfl ?_
  refine q_ald rfl rfl ?_
  refine q_geti rfl sk_123 ?_
  refine q_ic rfl ?_
  show dw_ok (pr_X3_readLine K) 67 0 0 [some (.ref 123), some (.ref 1), some (.int i), some (.int 4)] [.int 1, .int (I1l 123 1), .int 4, .ref 124] (n, SH1, I1l, J)
  rw [show I1l 123 1 = T1.2.2.2 from hR1l.2.2.1]
  refine q_callV (as := [.int 4, .int T1.2.2.2, .int 1]) (rest := []) rfl rfl sk_124 rfl (Nat.le_of_ble_eq_true rfl) ?_
  refine v_nset (w := 4) (t0 := T1.2.2.2.toInt.toNat) (by decide) rfl (by omega) (by omega) (fun I2 hAI2 hBI2 => ?_)
  have hR2 := NR_set hR1l (by decide) hAI2 hBI2
  have l2 : (I2 1 3).toInt = T1.2.2.1 := by rw [hAI2 1 (by decide)]; exact l1
  show dw_ok (pr_X3_readLine K) 70 0 0 [some (.ref 123), some (.ref 1), some (.int i), some (.int 4)] [] (n, SH1, I2, J)
  obtain ⟨T2, hT2⟩ : ∃ t, t = tkF (tbC I0) N m T1.2.2.1 := ⟨_, rfl⟩
  have hinT2 := tkF_in (b := tbC I0) (n := N) (m := m) (p := T1.2.2.1) hin1.2.2.1
  refine q_ald rfl rfl ?_
  refine ts_step (p := T1.2.2.1) rfl rfl nrT hR2 hN hN9 hm l2 hin1.2.2.1 ?_ ?_
  rotate_left
  · intro es I9 hI9 g7 g8
    rw [← hT2] at es g8
    have eR : (nlF (tbC I0) N m ln lat T) = (1, T2.2.1, 0, 0, 0, 0, 0) := by simp only [nlF, nbK, stK, hw, hw9, hg, ← hT1, e1, ← hT2, es, moF, ↓reduceIte, show ¬ (3 = 2) by decide]
    rw [eR] at hno
    exact hno (nn rfl) I9 _ _ hI9 g7 g8
  intro es I9 hI9 g3
  rw [← hT2] at es g3 hinT2
  have eR : (nlF (tbC I0) N m ln lat T) = (0, 0, T2.2.2.1, 3, T1.2.2.2, 0, 0) := by simp only [nlF, nbK, stK, hw, hw9, hg, ← hT1, e1, ← hT2, es, moF, ↓reduceIte, show ¬ (3 = 2) by decide]
  rw [eR] at hok
  exact hok rfl I9 hI9 g3 hinT2.2.2.1 (by dsimp only; omega)
set_option maxRecDepth 8000 in
theorem v_nline {n : Nat} {I : Nat → Nat → Int32} {J : Nat → Nat → Int64} {K : dw_K} {I0 : Nat → Nat → Int32} {lat i : Int32} {U : List (Nat × Nat × Int32)} {T : fT} {N m ln : Nat} (hR : NRp I0 I lat U) (hN : (I0 1 1).toInt = N) (hN9 : N ≤ 940) (hm : (I0 1 2).toInt = m) (h3 : (I 1 3).toInt = T.2.2.1) (h4 : (I 1 4).toInt = T.2.1) (h5 : (I 1 5).toInt = T.1) (hTN : T.2.2.1 ≤ N) (hT2 : T.2.1 ≤ N) (hl0 : 0 ≤ lat.toInt) (hi : i.toInt = ln)
    (hok : (nlF (tbC I0) N m ln lat T).1 = 0 → ∀ I' : Nat → Nat → Int32, NRp I0 I' (nlF (tbC I0) N m ln lat T).2.2.2.2.1 (udF (nlF (tbC I0) N m ln lat T).2.2.2 ++ U) → (I' 1 3).toInt = (nlF (tbC I0) N m ln lat T).2.2.1 → (nlF (tbC I0) N m ln lat T).2.2.1 ≤ N → 0 ≤ (nlF (tbC I0) N m ln lat T).2.2.2.2.1.toInt → K (some (.int 1)) (n, SH1, I', J))
    (hno : (nlF (tbC I0) N m ln lat T).1 ≠ 0 → ∀ (I' : Nat → Nat → Int32) (lat' : Int32) (U' : List (Nat × Nat × Int32)), NRp I0 I' lat' U' → (I' 1 7).toInt = (nlF (tbC I0) N m ln lat T).1 → (I' 1 8).toInt = (nlF (tbC I0) N m ln lat T).2.1 → K (some (.int 0)) (n, SH1, I', J)) : t_X3_readLine [.ref 123, .ref 1, .int i] (n, SH1, I, J) K := by
  have hN0 : (I 1 1).toInt = N := by rw [hR.2.1 1 (by decide)]; exact hN
  have hb0 : tbC I = tbC I0 := tbC_eq (hR.2.1 1 (by decide)) (hR.1 2 (by decide) (by decide) (by decide))
  refine q_body (Nat.le_of_ble_eq_true rfl) ?_
  refine q_ald rfl rfl ?_
  refine q_callS (as := [.ref 1]) (rest := []) rfl rfl rfl rfl ?_
  refine v_whatIsTold hN0 hN9 h3 h4 h5 hTN hT2 (fun w wc => ?_)
  rw [hb0] at wc
  show dw_ok (pr_X3_readLine K) 4 0 0 [some (.ref 123), some (.ref 1), some (.int i), none] [.int w] (n, SH1, I, J)
  rcases wk_cases (tbC I0) T with hw | hw | hw | hw | hw
  · obtain rfl : w = (0 : Int32) := i_eq (by rw [wc, hw]; rfl)
    refine q_ist rfl rfl ?_
    refine q_ild rfl rfl ?_
    refine q_ic rfl ?_
    refine q_icmp (c := 1) rfl (by decide) (fun _ => ?_) (fun h => absurd (show (0 : Int32).toInt = (-1 : Int32).toInt from h) (by decide))
    exact v_nline0 hR hN hN9 hm h3 h4 h5 hTN hT2 hl0 hi hw hok hno
  · obtain rfl : w = (1 : Int32) := i_eq (by rw [wc, hw]; rfl)
    refine q_ist rfl rfl ?_
    refine q_ild rfl rfl ?_
    refine q_ic rfl ?_
    refine q_icmp (c := 1) rfl (by decide) (fun _ => ?_) (fun h => absurd (show (1 : Int32).toInt = (-1 : Int32).toInt from h) (by decide))
    exact v_nline1 hR hN hN9 hm h3 h4 h5 hTN hT2 hl0 hi hw hok hno
  · obtain rfl : w = (2 : Int32) := i_eq (by rw [wc, hw]; rfl)
    refine q_ist rfl rfl ?_
    refine q_ild rfl rfl ?_
    refine q_ic rfl ?_
    refine q_icmp (c := 1) rfl (by decide) (fun _ => ?_) (fun h => absurd (show (2 : Int32).toInt = (-1 : Int32).toInt from h) (by decide))
    exact v_nline2 hR hN hN9 hm h3 h4 h5 hTN hT2 hl0 hi hw hok hno
  · obtain rfl : w = (4 : Int32) := i_eq (by rw [wc, hw]; rfl)
    refine q_ist rfl rfl ?_
    refine q_ild rfl rfl ?_
    refine q_ic rfl ?_
    refine q_icmp (c := 1) rfl (by decide) (fun _ => ?_) (fun h => absurd (show (4 : Int32).toInt = (-1 : Int32).toInt from h) (by decide))
    exact v_nline3 hR hN hN9 hm h3 h4 h5 hTN hT2 hl0 hi hw hok hno
  · obtain rfl : w = (-1 : Int32) := i_eq (by rw [wc, hw]; rfl)
    have eR : (nlF (tbC I0) N m ln lat T) = (1, T.2.1, 0, 0, 0, 0, 0) := by simp only [nlF, hw, ↓reduceIte]
    refine q_ist rfl rfl ?_
    refine q_ild rfl rfl ?_
    refine q_ic rfl ?_
    refine q_icmp (c := 1) rfl (by decide) (fun h => absurd rfl h) (fun _ => ?_)
    refine q_ald rfl rfl ?_
    refine q_ic rfl ?_
    refine fl_step (c := 1) rfl rfl (nrT (lat := lat) (U := U)) hR (fun I1 hI1 g7 g8 => ?_)
    rw [eR] at hno
    exact hno (nn rfl) I1 lat U hI1 g7 (g8.trans h4)
