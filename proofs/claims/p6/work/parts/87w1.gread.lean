/-! ===== a GROUND's lines read by the class ===== -/
set_option maxRecDepth 8000 in
set_option maxHeartbeats 2000000 in
theorem v_saysTold {n : Nat} {I : Nat → Nat → Int32} {J : Nat → Nat → Int64} {K : dw_K} {T : fT} {N : Nat} (hN : (I 1 1).toInt = N) (hN9 : N ≤ 940) (h3 : (I 1 3).toInt = T.2.2.1) (h4 : (I 1 4).toInt = T.2.1) (h5 : (I 1 5).toInt = T.1) (hTN : T.2.2.1 ≤ N) (hT2 : T.2.1 ≤ N) (hk : ∀ w : Int32, (w = 1 ∧ tdF (tbC I) T) ∨ (w = 0 ∧ ¬ tdF (tbC I) T) → K (some (.int w)) (n, SH1, I, J)) : t_X9_saysTold [.ref 1] (n, SH1, I, J) K := by
  refine q_body (Nat.le_of_ble_eq_true rfl) ?_
  refine q_ald rfl rfl ?_
  refine q_str rfl ?_
  refine q_callV (as := [.ref 1000002]) (rest := []) rfl rfl sk_1 rfl (Nat.le_of_ble_eq_true rfl) ?_
  refine v_says (T := T) (w := dw_sb 1) hN hN9 ⟨by decide, by decide⟩ rfl (st_ok (by decide)).1 (st_ok (by decide)).2 h3 h4 h5 hTN hT2 (fun v vc => ?_)
  show dw_ok (pr_X9_saysTold K) 6 0 0 [some (.ref 1)] [.int v] (n, SH1, I, J)
  rcases vc with ⟨rfl, s1⟩ | ⟨rfl, s1⟩
  · skip
    refine q_if (c := 1) rfl (by decide) (fun y1 => ?_) (fun h => absurd (show (1 : Int) = 0 from h) (by decide))
    have y1 : (1 : Int) ≠ 0 := y1
    refine q_ic rfl ?_
    refine q_goto rfl ?_
    exact q_zret rfl (Or.inr rfl) (hk 1 (Or.inl ⟨rfl, (Or.inl s1)⟩))
  · skip
    refine q_if (c := 1) rfl (by decide) (fun h => absurd (show (0 : Int) ≠ 0 from h) (by decide)) (fun y2 => ?_)
    have y2 : (0 : Int) = 0 := y2
    refine q_ald rfl rfl ?_
    refine q_str rfl ?_
    refine q_callV (as := [.ref 1000003]) (rest := []) rfl rfl sk_1 rfl (Nat.le_of_ble_eq_true rfl) ?_
    refine v_says (T := T) (w := dw_sb 2) hN hN9 ⟨by decide, by decide⟩ rfl (st_ok (by decide)).1 (st_ok (by decide)).2 h3 h4 h5 hTN hT2 (fun v vc => ?_)
    show dw_ok (pr_X9_saysTold K) 15 0 0 [some (.ref 1)] [.int v] (n, SH1, I, J)
    rcases vc with ⟨rfl, s2⟩ | ⟨rfl, s2⟩
    · skip
      refine q_if (c := 1) rfl (by decide) (fun y3 => ?_) (fun h => absurd (show (1 : Int) = 0 from h) (by decide))
      have y3 : (1 : Int) ≠ 0 := y3
      refine q_ic rfl ?_
      refine q_goto rfl ?_
      exact q_zret rfl (Or.inr rfl) (hk 1 (Or.inl ⟨rfl, (Or.inr (Or.inl s2))⟩))
    · skip
      refine q_if (c := 1) rfl (by decide) (fun h => absurd (show (0 : Int) ≠ 0 from h) (by decide)) (fun y4 => ?_)
      have y4 : (0 : Int) = 0 := y4
      refine q_ald rfl rfl ?_
      refine q_str rfl ?_
      refine q_callV (as := [.ref 1000004]) (rest := []) rfl rfl sk_1 rfl (Nat.le_of_ble_eq_true rfl) ?_
      refine v_says (T := T) (w := dw_sb 3) hN hN9 ⟨by decide, by decide⟩ rfl (st_ok (by decide)).1 (st_ok (by decide)).2 h3 h4 h5 hTN hT2 (fun v vc => ?_)
      show dw_ok (pr_X9_saysTold K) 24 0 0 [some (.ref 1)] [.int v] (n, SH1, I, J)
      rcases vc with ⟨rfl, s3⟩ | ⟨rfl, s3⟩
      · skip
        refine q_if (c := 1) rfl (by decide) (fun y5 => ?_) (fun h => absurd (show (1 : Int) = 0 from h) (by decide))
        have y5 : (1 : Int) ≠ 0 := y5
        refine q_ic rfl ?_
        refine q_goto rfl ?_
        exact q_zret rfl (Or.inr rfl) (hk 1 (Or.inl ⟨rfl, (Or.inr (Or.inr (Or.inl s3)))⟩))
      · skip
        refine q_if (c := 1) rfl (by decide) (fun h => absurd (show (0 : Int) ≠ 0 from h) (by decide)) (fun y6 => ?_)
        have y6 : (0 : Int) = 0 := y6
        refine q_ald rfl rfl ?_
        refine q_str rfl ?_
        refine q_callV (as := [.ref 1000005]) (rest := []) rfl rfl sk_1 rfl (Nat.le_of_ble_eq_true rfl) ?_
        refine v_says (T := T) (w := dw_sb 4) hN hN9 ⟨by decide, by decide⟩ rfl (st_ok (by decide)).1 (st_ok (by decide)).2 h3 h4 h5 hTN hT2 (fun v vc => ?_)
        show dw_ok (pr_X9_saysTold K) 33 0 0 [some (.ref 1)] [.int v] (n, SH1, I, J)
        rcases vc with ⟨rfl, s4⟩ | ⟨rfl, s4⟩
        · skip
          refine q_if (c := 1) rfl (by decide) (fun y7 => ?_) (fun h => absurd (show (1 : Int) = 0 from h) (by decide))
          have y7 : (1 : Int) ≠ 0 := y7
          refine q_ic rfl ?_
          refine q_goto rfl ?_
          exact q_zret rfl (Or.inr rfl) (hk 1 (Or.inl ⟨rfl, (Or.inr (Or.inr (Or.inr (Or.inl s4))))⟩))
        · skip
          refine q_if (c := 1) rfl (by decide) (fun h => absurd (show (0 : Int) ≠ 0 from h) (by decide)) (fun y8 => ?_)
          have y8 : (0 : Int) = 0 := y8
          refine q_ald rfl rfl ?_
          refine q_str rfl ?_
          refine q_callV (as := [.ref 1000006]) (rest := []) rfl rfl sk_1 rfl (Nat.le_of_ble_eq_true rfl) ?_
          refine v_says (T := T) (w := dw_sb 5) hN hN9 ⟨by decide, by decide⟩ rfl (st_ok (by decide)).1 (st_ok (by decide)).2 h3 h4 h5 hTN hT2 (fun v vc => ?_)
          show dw_ok (pr_X9_saysTold K) 42 0 0 [some (.ref 1)] [.int v] (n, SH1, I, J)
          rcases vc with ⟨rfl, s5⟩ | ⟨rfl, s5⟩
          · skip
            refine q_if (c := 1) rfl (by decide) (fun y9 => ?_) (fun h => absurd (show (1 : Int) = 0 from h) (by decide))
            have y9 : (1 : Int) ≠ 0 := y9
            refine q_ic rfl ?_
            refine q_goto rfl ?_
            exact q_zret rfl (Or.inr rfl) (hk 1 (Or.inl ⟨rfl, (Or.inr (Or.inr (Or.inr (Or.inr (Or.inl s5)))))⟩))
          · skip
            refine q_if (c := 1) rfl (by decide) (fun h => absurd (show (0 : Int) ≠ 0 from h) (by decide)) (fun y10 => ?_)
            have y10 : (0 : Int) = 0 := y10
            refine q_ald rfl rfl ?_
            refine q_str rfl ?_
            refine q_callV (as := [.ref 1000007]) (rest := []) rfl rfl sk_1 rfl (Nat.le_of_ble_eq_true rfl) ?_
            refine v_says (T := T) (w := dw_sb 6) hN hN9 ⟨by decide, by decide⟩ rfl (st_ok (by decide)).1 (st_ok (by decide)).2 h3 h4 h5 hTN hT2 (fun v vc => ?_)
            show dw_ok (pr_X9_saysTold K) 51 0 0 [some (.ref 1)] [.int v] (n, SH1, I, J)
            rcases vc with ⟨rfl, s6⟩ | ⟨rfl, s6⟩
            · skip
              refine q_if (c := 1) rfl (by decide) (fun y11 => ?_) (fun h => absurd (show (1 : Int) = 0 from h) (by decide))
              have y11 : (1 : Int) ≠ 0 := y11
              refine q_ic rfl ?_
              refine q_goto rfl ?_
              exact q_zret rfl (Or.inr rfl) (hk 1 (Or.inl ⟨rfl, (Or.inr (Or.inr (Or.inr (Or.inr (Or.inr (Or.inl s6))))))⟩))
            · skip
              refine q_if (c := 1) rfl (by decide) (fun h => absurd (show (0 : Int) ≠ 0 from h) (by decide)) (fun y12 => ?_)
              have y12 : (0 : Int) = 0 := y12
              refine q_ald rfl rfl ?_
              refine q_str rfl ?_
              refine q_callV (as := [.ref 1000008]) (rest := []) rfl rfl sk_1 rfl (Nat.le_of_ble_eq_true rfl) ?_
              refine v_says (T := T) (w := dw_sb 7) hN hN9 ⟨by decide, by decide⟩ rfl (st_ok (by decide)).1 (st_ok (by decide)).2 h3 h4 h5 hTN hT2 (fun v vc => ?_)
              show dw_ok (pr_X9_saysTold K) 60 0 0 [some (.ref 1)] [.int v] (n, SH1, I, J)
              rcases vc with ⟨rfl, s7⟩ | ⟨rfl, s7⟩
              · skip
                refine q_if (c := 1) rfl (by decide) (fun y13 => ?_) (fun h => absurd (show (1 : Int) = 0 from h) (by decide))
                have y13 : (1 : Int) ≠ 0 := y13
                refine q_ic rfl ?_
                refine q_goto rfl ?_
                exact q_zret rfl (Or.inr rfl) (hk 1 (Or.inl ⟨rfl, (Or.inr (Or.inr (Or.inr (Or.inr (Or.inr (Or.inr (Or.inl s7)))))))⟩))
              · skip
                refine q_if (c := 1) rfl (by decide) (fun h => absurd (show (0 : Int) ≠ 0 from h) (by decide)) (fun y14 => ?_)
                have y14 : (0 : Int) = 0 := y14
                refine q_ald rfl rfl ?_
                refine q_str rfl ?_
                refine q_callV (as := [.ref 1000009]) (rest := []) rfl rfl sk_1 rfl (Nat.le_of_ble_eq_true rfl) ?_
                refine v_says (T := T) (w := dw_sb 8) hN hN9 ⟨by decide, by decide⟩ rfl (st_ok (by decide)).1 (st_ok (by decide)).2 h3 h4 h5 hTN hT2 (fun v vc => ?_)
                show dw_ok (pr_X9_saysTold K) 69 0 0 [some (.ref 1)] [.int v] (n, SH1, I, J)
                rcases vc with ⟨rfl, s8⟩ | ⟨rfl, s8⟩
                · skip
                  refine q_if (c := 1) rfl (by decide) (fun y15 => ?_) (fun h => absurd (show (1 : Int) = 0 from h) (by decide))
                  have y15 : (1 : Int) ≠ 0 := y15
                  refine q_ic rfl ?_
                  refine q_goto rfl ?_
                  exact q_zret rfl (Or.inr rfl) (hk 1 (Or.inl ⟨rfl, (Or.inr (Or.inr (Or.inr (Or.inr (Or.inr (Or.inr (Or.inr (Or.inl s8))))))))⟩))
                · skip
                  refine q_if (c := 1) rfl (by decide) (fun h => absurd (show (0 : Int) ≠ 0 from h) (by decide)) (fun y16 => ?_)
                  have y16 : (0 : Int) = 0 := y16
                  refine q_ald rfl rfl ?_
                  refine q_str rfl ?_
                  refine q_callV (as := [.ref 1000010]) (rest := []) rfl rfl sk_1 rfl (Nat.le_of_ble_eq_true rfl) ?_
                  refine v_says (T := T) (w := dw_sb 9) hN hN9 ⟨by decide, by decide⟩ rfl (st_ok (by decide)).1 (st_ok (by decide)).2 h3 h4 h5 hTN hT2 (fun v vc => ?_)
                  show dw_ok (pr_X9_saysTold K) 78 0 0 [some (.ref 1)] [.int v] (n, SH1, I, J)
                  rcases vc with ⟨rfl, s9⟩ | ⟨rfl, s9⟩
                  · skip
                    refine q_if (c := 1) rfl (by decide) (fun y17 => ?_) (fun h => absurd (show (1 : Int) = 0 from h) (by decide))
                    have y17 : (1 : Int) ≠ 0 := y17
                    refine q_ic rfl ?_
                    refine q_goto rfl ?_
                    exact q_zret rfl (Or.inr rfl) (hk 1 (Or.inl ⟨rfl, (Or.inr (Or.inr (Or.inr (Or.inr (Or.inr (Or.inr (Or.inr (Or.inr (Or.inl s9)))))))))⟩))
                  · skip
                    refine q_if (c := 1) rfl (by decide) (fun h => absurd (show (0 : Int) ≠ 0 from h) (by decide)) (fun y18 => ?_)
                    have y18 : (0 : Int) = 0 := y18
                    refine q_ald rfl rfl ?_
                    refine q_str rfl ?_
                    refine q_callV (as := [.ref 1000011]) (rest := []) rfl rfl sk_1 rfl (Nat.le_of_ble_eq_true rfl) ?_
                    refine v_says (T := T) (w := dw_sb 10) hN hN9 ⟨by decide, by decide⟩ rfl (st_ok (by decide)).1 (st_ok (by decide)).2 h3 h4 h5 hTN hT2 (fun v vc => ?_)
                    show dw_ok (pr_X9_saysTold K) 87 0 0 [some (.ref 1)] [.int v] (n, SH1, I, J)
                    rcases vc with ⟨rfl, s10⟩ | ⟨rfl, s10⟩
                    · skip
                      refine q_if (c := 1) rfl (by decide) (fun y19 => ?_) (fun h => absurd (show (1 : Int) = 0 from h) (by decide))
                      have y19 : (1 : Int) ≠ 0 := y19
                      refine q_ic rfl ?_
                      refine q_goto rfl ?_
                      exact q_zret rfl (Or.inr rfl) (hk 1 (Or.inl ⟨rfl, (Or.inr (Or.inr (Or.inr (Or.inr (Or.inr (Or.inr (Or.inr (Or.inr (Or.inr (Or.inl s10))))))))))⟩))
                    · skip
                      refine q_if (c := 1) rfl (by decide) (fun h => absurd (show (0 : Int) ≠ 0 from h) (by decide)) (fun y20 => ?_)
                      have y20 : (0 : Int) = 0 := y20
                      refine q_ald rfl rfl ?_
                      refine q_str rfl ?_
                      refine q_callV (as := [.ref 1000012]) (rest := []) rfl rfl sk_1 rfl (Nat.le_of_ble_eq_true rfl) ?_
                      refine v_says (T := T) (w := dw_sb 11) hN hN9 ⟨by decide, by decide⟩ rfl (st_ok (by decide)).1 (st_ok (by decide)).2 h3 h4 h5 hTN hT2 (fun v vc => ?_)
                      show dw_ok (pr_X9_saysTold K) 96 0 0 [some (.ref 1)] [.int v] (n, SH1, I, J)
                      rcases vc with ⟨rfl, s11⟩ | ⟨rfl, s11⟩
                      · skip
                        refine q_if (c := 1) rfl (by decide) (fun y21 => ?_) (fun h => absurd (show (1 : Int) = 0 from h) (by decide))
                        have y21 : (1 : Int) ≠ 0 := y21
                        refine q_ic rfl ?_
                        refine q_goto rfl ?_
                        exact q_zret rfl (Or.inr rfl) (hk 1 (Or.inl ⟨rfl, (Or.inr (Or.inr (Or.inr (Or.inr (Or.inr (Or.inr (Or.inr (Or.inr (Or.inr (Or.inr (Or.inl s11)))))))))))⟩))
                      · skip
                        refine q_if (c := 1) rfl (by decide) (fun h => absurd (show (0 : Int) ≠ 0 from h) (by decide)) (fun y22 => ?_)
                        have y22 : (0 : Int) = 0 := y22
                        refine q_ald rfl rfl ?_
                        refine q_str rfl ?_
                        refine q_callV (as := [.ref 1000013]) (rest := []) rfl rfl sk_1 rfl (Nat.le_of_ble_eq_true rfl) ?_
                        refine v_says (T := T) (w := dw_sb 12) hN hN9 ⟨by decide, by decide⟩ rfl (st_ok (by decide)).1 (st_ok (by decide)).2 h3 h4 h5 hTN hT2 (fun v vc => ?_)
                        show dw_ok (pr_X9_saysTold K) 105 0 0 [some (.ref 1)] [.int v] (n, SH1, I, J)
                        rcases vc with ⟨rfl, s12⟩ | ⟨rfl, s12⟩
                        · skip
                          refine q_if (c := 1) rfl (by decide) (fun y23 => ?_) (fun h => absurd (show (1 : Int) = 0 from h) (by decide))
                          have y23 : (1 : Int) ≠ 0 := y23
                          refine q_ic rfl ?_
                          refine q_goto rfl ?_
                          exact q_zret rfl (Or.inr rfl) (hk 1 (Or.inl ⟨rfl, (Or.inr (Or.inr (Or.inr (Or.inr (Or.inr (Or.inr (Or.inr (Or.inr (Or.inr (Or.inr (Or.inr (Or.inl s12))))))))))))⟩))
                        · skip
                          refine q_if (c := 1) rfl (by decide) (fun h => absurd (show (0 : Int) ≠ 0 from h) (by decide)) (fun y24 => ?_)
                          have y24 : (0 : Int) = 0 := y24
                          refine q_ald rfl rfl ?_
                          refine q_str rfl ?_
                          refine q_callV (as := [.ref 1000014]) (rest := []) rfl rfl sk_1 rfl (Nat.le_of_ble_eq_true rfl) ?_
                          refine v_says (T := T) (w := dw_sb 13) hN hN9 ⟨by decide, by decide⟩ rfl (st_ok (by decide)).1 (st_ok (by decide)).2 h3 h4 h5 hTN hT2 (fun v vc => ?_)
                          show dw_ok (pr_X9_saysTold K) 114 0 0 [some (.ref 1)] [.int v] (n, SH1, I, J)
                          rcases vc with ⟨rfl, s13⟩ | ⟨rfl, s13⟩
                          · skip
                            refine q_if (c := 0) rfl (by decide) (fun h => absurd (show (1 : Int) = 0 from h) (by decide)) (fun y25 => ?_)
                            have y25 : (1 : Int) ≠ 0 := y25
                            refine q_ic rfl ?_
                            refine q_goto rfl ?_
                            exact q_zret rfl (Or.inr rfl) (hk 1 (Or.inl ⟨rfl, (Or.inr (Or.inr (Or.inr (Or.inr (Or.inr (Or.inr (Or.inr (Or.inr (Or.inr (Or.inr (Or.inr (Or.inr s13))))))))))))⟩))
                          · skip
                            refine q_if (c := 0) rfl (by decide) (fun y26 => ?_) (fun h => absurd (show (0 : Int) ≠ 0 from h) (by decide))
                            have y26 : (0 : Int) = 0 := y26
                            refine q_ic rfl ?_
                            exact q_zret rfl (Or.inl rfl) (hk 0 (Or.inr ⟨rfl, fun h => by
                                unfold tdF at h
                                rcases h with h | h | h | h | h | h | h | h | h | h | h | h | h
                                all_goals first | exact s1 h | exact s2 h | exact s3 h | exact s4 h | exact s5 h | exact s6 h | exact s7 h | exact s8 h | exact s9 h | exact s10 h | exact s11 h | exact s12 h | exact s13 h⟩))
set_option maxRecDepth 8000 in
theorem nn_loop {n : Nat} {I0 I : Nat → Nat → Int32} {J : Nat → Nat → Int64} {K : dw_K} {bc bs N : Nat} {s : gS} {T : fT} {kv : Int32} (hR : GRp I0 I s) (hOK : gOK N s) (hN : (I0 1 1).toInt = N) (hN9 : N ≤ 940) (h3 : (I 1 3).toInt = T.2.2.1) (h4 : (I 1 4).toInt = T.2.1) (h5 : (I 1 5).toInt = T.1) (hTN : T.2.2.1 ≤ N) (hT2 : T.2.1 ≤ N) (hkv : kv.toInt = s.1.length)
    (hyes : nmF (tbC I0) T s.1 → ∀ I' : Nat → Nat → Int32, GRp I0 I' s → (I' 1 7).toInt = 3 → (I' 1 8).toInt = T.2.1 → K (some (.int 0)) (n, SH1, I', J))
    (hno : ¬ nmF (tbC I0) T s.1 → ∀ x : Int32, dw_ok (pr_X1_isNewName K) 57 bc bs [some (.ref 101), some (.ref 1), some (.int kv), some (.int x)] [] (n, SH1, I, J)) :
    ∀ (f i : Nat) (x : Int32), x.toInt = i → i ≤ s.1.length → s.1.length - i ≤ f → (∀ j, j < i → ¬ asF (tbC I0) T (atF (0, 0, 0, 0, 0) s.1 j).1 (atF (0, 0, 0, 0, 0) s.1 j).2.1) → dw_ok (pr_X1_isNewName K) 15 bc bs [some (.ref 101), some (.ref 1), some (.int kv), some (.int x)] [] (n, SH1, I, J) := by
  have c1 : (1 : Int32).toInt = 1 := rfl
  have c8 : (8 : Int32).toInt = 8 := rfl
  have e1 : I 1 1 = I0 1 1 := hR.2.1 1 (by decide)
  have hb : tbC I = tbC I0 := tbC_eq e1 (hR.1 2 (by decide) (by decide))
  have h8 := hOK.1
  intro f
  induction f with
  | zero =>
    intro i x hx hi hf hall
    refine q_ild rfl rfl ?_
    refine q_ild rfl rfl ?_
    refine q_icmp (c := 3) rfl (by decide) (fun _ => ?_) (fun h => absurd (show x.toInt < kv.toInt from h) (by omega))
    exact hno (fun h => by obtain ⟨j, hj, h⟩ := nm_iff.mp h; exact hall j (by omega) h) x
  | succ f ih =>
    intro i x hx hi hf hall
    refine q_ild rfl rfl ?_
    refine q_ild rfl rfl ?_
    refine q_icmp (c := 3) rfl (by decide) (fun g => ?_) (fun g => ?_)
    · have g : kv.toInt ≤ x.toInt := g
      exact hno (fun h => by obtain ⟨j, hj, h⟩ := nm_iff.mp h; exact hall j (by omega) h) x
    have g : x.toInt < kv.toInt := g
    have t2 : (x + 1).toInt = x.toInt + 1 := by rw [i_add (by omega) (by omega), c1]
    have hxn : x.toInt.toNat = i := by omega
    refine q_ild rfl rfl ?_
    refine q_ic rfl ?_
    refine q_icmp (c := 3) rfl (by decide) (fun h => absurd (show (8 : Int32).toInt ≤ x.toInt from h) (by omega)) (fun _ => ?_)
    refine q_ald rfl rfl ?_
    refine q_ald rfl rfl ?_
    refine q_getr rfl sk_101 sr_101_1 ?_
    refine q_ild rfl rfl ?_
    refine q_xald rfl (Or.inl rfl) sk_108 sn_108 (by omega) (show x.toInt < (8 : Nat) by omega) ?_
    refine q_ald rfl rfl ?_
    refine q_getr rfl sk_101 sr_101_2 ?_
    refine q_ild rfl rfl ?_
    refine q_xald rfl (Or.inl rfl) sk_109 sn_109 (by omega) (show x.toInt < (8 : Nat) by omega) ?_
    obtain ⟨n1, n2, -⟩ := hR.2.2.2.2.1 i (by omega)
    have hm := hOK.2.2.2.2.1 _ (at_mem (d := (0, 0, 0, 0, 0)) (show i < s.1.length by omega))
    refine q_callV (as := [.int (I 108 x.toInt.toNat), .int (I 109 x.toInt.toNat)]) (rest := []) rfl rfl sk_1 rfl (Nat.le_of_ble_eq_true rfl) ?_
    refine v_saysAsAt (by rw [e1]; exact hN) hN9 (by rw [hxn]; exact n1) (by rw [hxn]; exact n2) hm.1 h3 h4 h5 hTN hT2 (fun v vc => ?_)
    rw [hb] at vc
    show dw_ok (pr_X1_isNewName K) 42 bc bs [some (.ref 101), some (.ref 1), some (.int kv), some (.int x)] [.int v] (n, SH1, I, J)
    rcases vc with ⟨rfl, y⟩ | ⟨rfl, y⟩
    · refine q_if (c := 0) rfl (by decide) (fun h => absurd (show (1 : Int32).toInt = 0 from h) (by decide)) (fun _ => ?_)
      refine q_ald rfl rfl ?_
      refine q_ic rfl ?_
      refine fl_step (c := 3) rfl rfl (grT (s := s)) hR (fun I1 hI1 g7 g8 => ?_)
      exact hyes (nm_iff.mpr ⟨i, by omega, y⟩) I1 hI1 g7 (g8.trans h4)
    · refine q_if (c := 0) rfl (by decide) (fun _ => ?_) (fun h => absurd rfl h)
      refine q_inc rfl rfl rfl ?_
      refine q_goto rfl ?_
      refine ih (i + 1) (x + 1) (by omega) (by omega) (by omega) (fun j hj => ?_)
      by_cases e : j = i
      · rw [e]; exact y
      · exact hall j (by omega)
set_option maxRecDepth 8000 in
theorem v_isNewName {n : Nat} {I : Nat → Nat → Int32} {J : Nat → Nat → Int64} {K : dw_K} {I0 : Nat → Nat → Int32} {N : Nat} {s : gS} {T : fT} {kv : Int32} (hR : GRp I0 I s) (hOK : gOK N s) (hK8 : s.1.length < 8) (hN : (I0 1 1).toInt = N) (hN9 : N ≤ 940) (h3 : (I 1 3).toInt = T.2.2.1) (h4 : (I 1 4).toInt = T.2.1) (h5 : (I 1 5).toInt = T.1) (hTN : T.2.2.1 ≤ N) (hT2 : T.2.1 ≤ N) (hkv : kv.toInt = s.1.length)
    (k1 : tdF (tbC I0) T → ∀ I' : Nat → Nat → Int32, GRp I0 I' s → (I' 1 7).toInt = 1 → (I' 1 8).toInt = T.2.1 → K (some (.int 0)) (n, SH1, I', J))
    (k3 : ¬ tdF (tbC I0) T → nmF (tbC I0) T s.1 → ∀ I' : Nat → Nat → Int32, GRp I0 I' s → (I' 1 7).toInt = 3 → (I' 1 8).toInt = T.2.1 → K (some (.int 0)) (n, SH1, I', J))
    (k0 : ¬ tdF (tbC I0) T → ¬ nmF (tbC I0) T s.1 → ∀ I' : Nat → Nat → Int32, GRp I0 I' s → I' 1 = I 1 → (I' 108 s.1.length).toInt = T.2.1 → (I' 109 s.1.length).toInt = T.2.2.1 - T.2.1 → K (some (.int 1)) (n, SH1, I', J)) : t_X1_isNewName [.ref 101, .ref 1, .int kv] (n, SH1, I, J) K := by
  have c8 : (8 : Int32).toInt = 8 := rfl
  have c0 : (0 : Int32).toInt = 0 := rfl
  have e1 : I 1 1 = I0 1 1 := hR.2.1 1 (by decide)
  have hb : tbC I = tbC I0 := tbC_eq e1 (hR.1 2 (by decide) (by decide))
  have hkn : kv.toInt.toNat = s.1.length := by omega
  refine q_body (Nat.le_of_ble_eq_true rfl) ?_
  refine q_ald rfl rfl ?_
  refine q_callV (as := []) (rest := []) rfl rfl sk_1 rfl (Nat.le_of_ble_eq_true rfl) ?_
  refine v_saysTold (by rw [e1]; exact hN) hN9 h3 h4 h5 hTN hT2 (fun v vc => ?_)
  rw [hb] at vc
  show dw_ok (pr_X1_isNewName K) 4 0 0 [some (.ref 101), some (.ref 1), some (.int kv), none] [.int v] (n, SH1, I, J)
  rcases vc with ⟨rfl, y⟩ | ⟨rfl, y⟩
  · refine q_if (c := 0) rfl (by decide) (fun h => absurd (show (1 : Int32).toInt = 0 from h) (by decide)) (fun _ => ?_)
    refine q_ald rfl rfl ?_
    refine q_ic rfl ?_
    refine fl_step (c := 1) rfl rfl (grT (s := s)) hR (fun I1 hI1 g7 g8 => ?_)
    exact k1 y I1 hI1 g7 (g8.trans h4)
  · refine q_if (c := 0) rfl (by decide) (fun _ => ?_) (fun h => absurd rfl h)
    refine q_ic rfl ?_
    refine q_ist rfl rfl ?_
    refine nn_loop hR hOK hN hN9 h3 h4 h5 hTN hT2 hkv (fun hy => k3 y hy) (fun hy x => ?_) s.1.length 0 0 rfl (Nat.zero_le _) (Nat.le_refl _) (fun j hj => absurd hj (Nat.not_lt_zero j))
    refine q_ild rfl rfl ?_
    refine q_if (c := 2) rfl (by decide) (fun h => absurd (show kv.toInt < 0 from h) (by omega)) (fun _ => ?_)
    refine q_ild rfl rfl ?_
    refine q_ic rfl ?_
    refine q_icmp (c := 3) rfl (by decide) (fun h => absurd (show (8 : Int32).toInt ≤ kv.toInt from h) (by omega)) (fun _ => ?_)
    refine q_ald rfl rfl ?_
    refine q_getr rfl sk_101 sr_101_1 ?_
    refine q_ild rfl rfl ?_
    refine q_ald rfl rfl ?_
    refine q_geti rfl sk_1 ?_
    refine q_iast rfl sk_108 sn_108 (by omega) (show kv.toInt < (8 : Nat) by omega) ?_
    show dw_ok (pr_X1_isNewName K) 77 0 0 [some (.ref 101), some (.ref 1), some (.int kv), some (.int x)] [] (n, SH1, dw_up I 108 kv.toInt.toNat (I 1 4), J)
    refine q_ald rfl rfl ?_
    refine q_getr rfl sk_101 sr_101_2 ?_
    refine q_ild rfl rfl ?_
    refine q_ald rfl rfl ?_
    refine q_callV (as := []) (rest := [.int kv, .ref 109]) rfl rfl sk_1 rfl (Nat.le_of_ble_eq_true rfl) ?_
    refine v_tokenSize ?_
    show dw_ok (pr_X1_isNewName K) 86 0 0 [some (.ref 101), some (.ref 1), some (.int kv), some (.int x)] [.int (I 1 3 - I 1 4), .int kv, .ref 109] (n, SH1, dw_up I 108 kv.toInt.toNat (I 1 4), J)
    refine q_iast rfl sk_109 sn_109 (by omega) (show kv.toInt < (8 : Nat) by omega) ?_
    show dw_ok (pr_X1_isNewName K) 87 0 0 [some (.ref 101), some (.ref 1), some (.int kv), some (.int x)] [] (n, SH1, dw_up (dw_up I 108 kv.toInt.toNat (I 1 4)) 109 kv.toInt.toNat (I 1 3 - I 1 4), J)
    rw [hkn]
    refine q_ic rfl ?_
    have ts : (I 1 3 - I 1 4).toInt = (I 1 3).toInt - (I 1 4).toInt := i_sub (by omega) (by omega)
    refine q_zret rfl (Or.inr rfl) (k0 y hy _ (GR_k (GR_k hR (by decide) (Nat.le_refl _)) (by decide) (Nat.le_refl _)) ?_ ?_ ?_)
    · rw [up_row (show 1 ≠ 109 by decide), up_row (show 1 ≠ 108 by decide)]
    · rw [up_row (show 108 ≠ 109 by decide), up_same]; exact h4
    · rw [up_same, ts]; omega
set_option maxRecDepth 8000 in
theorem kd_end {n : Nat} {I0 I : Nat → Nat → Int32} {J : Nat → Nat → Int64} {K : dw_K} {bc bs N : Nat} {s : gS} {x : gK} {T : fT} {kv : Int32} (hG : GKp I0 I s x 2) (hK8 : s.1.length < 8) (hkv : kv.toInt = s.1.length) (h3 : (I 1 3).toInt = T.2.2.1) (h4 : (I 1 4).toInt = T.2.1) (h5 : (I 1 5).toInt = T.1)
    (k1 : T.1 = 3 → ∀ I' : Nat → Nat → Int32, GRp I0 I' (x :: s.1, s.2) → (I' 1 3).toInt = T.2.2.1 → K (some (.int 1)) (n, SH1, I', J))
    (k0 : T.1 ≠ 3 → ∀ I' : Nat → Nat → Int32, GRp I0 I' (x :: s.1, s.2) → (I' 1 7).toInt = 1 → (I' 1 8).toInt = T.2.1 → K (some (.int 0)) (n, SH1, I', J)) : dw_ok (pr_X1_readKind K) 158 bc bs [some (.ref 101), some (.ref 1), some (.int kv)] [] (n, SH1, I, J) := by
  have c1 : (1 : Int32).toInt = 1 := rfl
  have c3 : (3 : Int32).toInt = 3 := rfl
  have tk : (kv + 1).toInt = (s.1.length + 1 : Nat) := by rw [i_add (by omega) (by omega), c1]; omega
  have hR := GK_done (v := kv + 1) hG tk
  refine q_ald rfl rfl ?_
  refine q_getr rfl sk_101 sr_101_0 ?_
  refine q_ild rfl rfl ?_
  refine q_ic rfl ?_
  refine q_add rfl ?_
  refine q_puti rfl sk_102 ?_
  show dw_ok (pr_X1_readKind K) 168 bc bs [some (.ref 101), some (.ref 1), some (.int kv)] [] (n, SH1, dw_up I 102 2 (kv + 1), J)
  have r1 : dw_up I 102 2 (kv + 1) 1 = I 1 := up_row (by decide)
  rw [← r1] at h3 h4 h5
  generalize dw_up I 102 2 (kv + 1) = I2 at hR h3 h4 h5 ⊢
  refine q_ald rfl rfl ?_
  refine q_geti rfl sk_1 ?_
  refine q_ic rfl ?_
  refine q_icmp (c := 0) rfl (by decide) (fun g => ?_) (fun g => ?_)
  · have g : (I2 1 5).toInt = (3 : Int32).toInt := g
    refine q_ic rfl ?_
    refine q_goto rfl ?_
    exact q_zret rfl (Or.inr rfl) (k1 (by omega) I2 hR h3)
  · have g : (I2 1 5).toInt ≠ (3 : Int32).toInt := g
    refine q_ald rfl rfl ?_
    refine q_ic rfl ?_
    refine fb_step (c := 1) rfl (grT (s := (x :: s.1, s.2))) hR (fun I3 hI3 g7 g8 => ?_)
    refine q_if (c := 0) rfl (by decide) (fun _ => ?_) (fun h => absurd rfl h)
    refine q_ic rfl ?_
    exact q_zret rfl (Or.inl rfl) (k0 (by omega) I3 hI3 g7 (g8.trans h4))
set_option maxRecDepth 8000 in
set_option maxHeartbeats 2000000 in
theorem v_readKind {n : Nat} {I : Nat → Nat → Int32} {J : Nat → Nat → Int64} {K : dw_K} {I0 : Nat → Nat → Int32} {s : gS} {T : fT} {N m : Nat} (hR : GRp I0 I s) (hOK : gOK N s) (hN : (I0 1 1).toInt = N) (hN9 : N ≤ 940) (hm : (I0 1 2).toInt = m) (h3 : (I 1 3).toInt = T.2.2.1) (h4 : (I 1 4).toInt = T.2.1) (h5 : (I 1 5).toInt = T.1) (hTN : T.2.2.1 ≤ N) (hT2 : T.2.1 ≤ N)
    (hok : (gkA (tbC I0) N m T s).1 = 0 → ∀ I' : Nat → Nat → Int32, GRp I0 I' (gkA (tbC I0) N m T s).2.2.2 → (I' 1 3).toInt = (gkA (tbC I0) N m T s).2.2.1 → (gkA (tbC I0) N m T s).2.2.1 ≤ N → T.2.2.1 ≤ (gkA (tbC I0) N m T s).2.2.1 → gOK N (gkA (tbC I0) N m T s).2.2.2 → K (some (.int 1)) (n, SH1, I', J))
    (hno : (gkA (tbC I0) N m T s).1 ≠ 0 → ∀ (I' : Nat → Nat → Int32) (s' : gS), GRp I0 I' s' → (I' 1 7).toInt = (gkA (tbC I0) N m T s).1 → (I' 1 8).toInt = (gkA (tbC I0) N m T s).2.1 → K (some (.int 0)) (n, SH1, I', J)) : t_X1_readKind [.ref 101, .ref 1] (n, SH1, I, J) K := by
  have c8 : (8 : Int32).toInt = 8 := rfl
  have hk1 : (I 102 1).toInt = s.2.2.1.length := hR.2.2.1.2.1
  have hk2 : (I 102 2).toInt = s.1.length := hR.2.2.1.2.2.1
  refine q_body (Nat.le_of_ble_eq_true rfl) ?_
  refine q_ald rfl rfl ?_
  refine q_getr rfl sk_101 sr_101_0 ?_
  refine q_geti rfl sk_102 ?_
  refine q_ist rfl rfl ?_
  show dw_ok (pr_X1_readKind K) 8 0 0 [some (.ref 101), some (.ref 1), some (.int (I 102 2))] [] (n, SH1, I, J)
  refine q_ald rfl rfl ?_
  refine q_getr rfl sk_101 sr_101_0 ?_
  refine q_geti rfl sk_102 ?_
  refine q_if (c := 5) rfl (by decide) (fun g => ?_) (fun g => ?_)
  rotate_left
  · have g : 0 < (I 102 1).toInt := g
    have c0 : 0 < s.2.2.1.length := by omega
    refine q_ald rfl rfl ?_
    refine q_ic rfl ?_
    refine fl_step (c := 3) rfl rfl (grT (s := s)) hR (fun I1 hI1 g7 g8 => ?_)
    rw [h4] at g8
    have eR : (gkA (tbC I0) N m T s) = (3, T.2.1, 0, g0) := by simp only [gkA, nbG, stG, c0, ne_eq, not_false_eq_true, not_true_eq_false, ↓reduceIte]
    rw [eR] at hno
    exact hno (nn rfl) I1 _ hI1 g7 g8
  have g : (I 102 1).toInt ≤ 0 := g
  have c0 : ¬ (0 < s.2.2.1.length) := by omega
  refine q_ild rfl rfl ?_
  refine q_if (c := 2) rfl (by decide) (fun h => absurd (show (I 102 2).toInt < 0 from h) (by omega)) (fun _ => ?_)
  refine q_ild rfl rfl ?_
  refine q_ic rfl ?_
  refine q_icmp (c := 2) rfl (by decide) (fun g => ?_) (fun g => ?_)
  rotate_left
  · have g : (8 : Int32).toInt ≤ (I 102 2).toInt := g
    have d8 : 8 ≤ s.1.length := by omega
    refine q_ald rfl rfl ?_
    refine q_ic rfl ?_
    refine fl_step (c := 4) rfl rfl (grT (s := s)) hR (fun I1 hI1 g7 g8 => ?_)
    rw [h4] at g8
    have eR : (gkA (tbC I0) N m T s) = (4, T.2.1, 0, g0) := by simp only [gkA, nbG, stG, c0, d8, ne_eq, not_false_eq_true, not_true_eq_false, ↓reduceIte]
    rw [eR] at hno
    exact hno (nn rfl) I1 _ hI1 g7 g8
  have g : (I 102 2).toInt < (8 : Int32).toInt := g
  have d8 : ¬ (8 ≤ s.1.length) := by omega
  refine q_ald rfl rfl ?_
  obtain ⟨T1, hT1⟩ : ∃ t, t = tkF (tbC I0) N m T.2.2.1 := ⟨_, rfl⟩
  have hinT1 := tkF_in (b := tbC I0) (n := N) (m := m) (p := T.2.2.1) hTN
  refine tw_step (p := T.2.2.1) rfl (grT (s := s)) hR hN hN9 hm h3 hTN ?_ ?_
  rotate_left
  · intro e I1 hI1 g7 g8
    rw [← hT1] at e g8
    refine q_if (c := 0) rfl (by decide) (fun _ => ?_) (fun h => absurd rfl h)
    refine q_ic rfl ?_
    refine q_zret rfl (Or.inl rfl) ?_
    have eR : (gkA (tbC I0) N m T s) = (1, T1.2.1, 0, g0) := by simp only [gkA, nbG, stG, c0, d8, ← hT1, e, ne_eq, not_false_eq_true, not_true_eq_false, ↓reduceIte]
    rw [eR] at hno
    exact hno (nn rfl) I1 _ hI1 g7 g8
  intro eT1 I1 hI1 w3 w4 w5
  rw [← hT1] at eT1 w3 w4 w5 hinT1
  have hin1 := hinT1.2.2.1
  refine q_if (c := 0) rfl (by decide) (fun h => absurd (show (1 : Int32).toInt = 0 from h) (by decide)) (fun _ => ?_)
  refine q_ald rfl rfl ?_
  refine q_ald rfl rfl ?_
  refine q_ild rfl rfl ?_
  refine q_callV (as := [.ref 1, .int (I 102 2)]) (rest := []) rfl rfl sk_101 rfl (Nat.le_of_ble_eq_true rfl) ?_
  refine v_isNewName (T := T1) hI1 hOK (by omega) hN hN9 w3 w4 w5 hin1 hinT1.1 hk2 (fun y I2 hI2 g7 g8 => ?_) (fun y y2 I2 hI2 g7 g8 => ?_) (fun y y2 I2 hI2 e2 n1 n2 => ?_)
  · refine q_if (c := 0) rfl (by decide) (fun _ => ?_) (fun h => absurd rfl h)
    refine q_ic rfl ?_
    refine q_zret rfl (Or.inl rfl) ?_
    have eR : (gkA (tbC I0) N m T s) = (1, T1.2.1, 0, g0) := by simp only [gkA, nbG, stG, c0, d8, ← hT1, eT1, y, ne_eq, not_false_eq_true, not_true_eq_false, ↓reduceIte]
    rw [eR] at hno
    exact hno (nn rfl) I2 _ hI2 g7 g8
  · refine q_if (c := 0) rfl (by decide) (fun _ => ?_) (fun h => absurd rfl h)
    refine q_ic rfl ?_
    refine q_zret rfl (Or.inl rfl) ?_
    have eR : (gkA (tbC I0) N m T s) = (3, T1.2.1, 0, g0) := by simp only [gkA, nbG, stG, c0, d8, ← hT1, eT1, y, y2, ne_eq, not_false_eq_true, not_true_eq_false, ↓reduceIte]
    rw [eR] at hno
    exact hno (nn rfl) I2 _ hI2 g7 g8
  show dw_ok (pr_X1_readKind K) 53 0 0 [some (.ref 101), some (.ref 1), some (.int (I 102 2))] [.int 1] (n, SH1, I2, J)
  have hkv : (I 102 2).toInt = s.1.length := hk2
  have hkn : (I 102 2).toInt.toNat = s.1.length := by omega
  generalize I 102 2 = kv at hk2 hkv hkn g ⊢
  have hsz : T1.2.1 ≤ T1.2.2.1 := by have := hinT1.2.2.2 (Or.inl eT1); omega
  have hG0 : GKp I0 I2 s (T1.2.1, T1.2.2.1 - T1.2.1, 0, 0, 0) 0 := ⟨hI2, ⟨n1, by rw [n2]; show _ = ((T1.2.2.1 - T1.2.1 : Nat) : Int); omega⟩, fun h => absurd h (by decide), fun h => absurd h (by decide)⟩
  have v3 : (I2 1 3).toInt = T1.2.2.1 := by rw [e2]; exact w3
  refine q_if (c := 0) rfl (by decide) (fun h => absurd (show (1 : Int32).toInt = 0 from h) (by decide)) (fun _ => ?_)
  refine q_ald rfl rfl ?_
  refine q_ic rfl ?_
  refine q_ic rfl ?_
  obtain ⟨T2, hT2⟩ : ∃ t, t = tkF (tbC I0) N m T1.2.2.1 := ⟨_, rfl⟩
  have hinT2 := tkF_in (b := tbC I0) (n := N) (m := m) (p := T1.2.2.1) hin1
  refine tn_step (p := T1.2.2.1) rfl rfl rfl rfl gkT hG0 hN hN9 hm v3 hin1 ?_ ?_
  rotate_left
  · intro e I9 hI9 g7 g8
    rw [← hT2] at e g7 g8
    have e : nbF T2 1 50 ≠ 0 := e
    have eR : (gkA (tbC I0) N m T s) = (nbF T2 1 50, T2.2.1, 0, g0) := by simp only [gkA, nbG, stG, c0, d8, ← hT1, eT1, y, y2, ← hT2, e, ne_eq, not_false_eq_true, not_true_eq_false, ↓reduceIte]
    rw [eR] at hno
    exact hno e I9 _ hI9.1 g7 g8
  intro eT2 I3 hG3 gT23 gT26
  rw [← hT2] at eT2 gT23 gT26 hinT2
  have eT2 : nbF T2 1 50 = 0 := eT2
  refine q_ald rfl rfl ?_
  refine q_getr rfl sk_101 sr_101_0 ?_
  refine q_getr rfl sk_102 sr_102_5 ?_
  refine q_ild rfl rfl ?_
  refine q_ald rfl rfl ?_
  refine q_geti rfl sk_1 ?_
  refine q_iast rfl sk_103 sn_103 (by omega) (show kv.toInt < (8 : Nat) by omega) ?_
  show dw_ok (pr_X1_readKind K) 81 0 0 [some (.ref 101), some (.ref 1), some (.int kv)] [] (n, SH1, dw_up I3 103 kv.toInt.toNat (I3 1 6), J)
  rw [hkn, gT26]
  have hG4 : GKp I0 (dw_up I3 103 s.1.length T2.2.2.2) s (T1.2.1, T1.2.2.1 - T1.2.1, T2.2.2.2, 0, 0) 1 := ⟨GR_k hG3.1 (by decide) (Nat.le_refl _), hG3.2.1, fun _ => up_same, fun h => absurd h (by decide)⟩
  have v3 : (dw_up I3 103 s.1.length T2.2.2.2 1 3).toInt = T2.2.2.1 := gT23
  generalize dw_up I3 103 s.1.length T2.2.2.2 = I4 at hG4 v3 ⊢
  refine q_ald rfl rfl ?_
  refine q_ic rfl ?_
  refine q_ic rfl ?_
  obtain ⟨T3, hT3⟩ : ∃ t, t = tkF (tbC I0) N m T2.2.2.1 := ⟨_, rfl⟩
  have hinT3 := tkF_in (b := tbC I0) (n := N) (m := m) (p := T2.2.2.1) hinT2.2.2.1
  refine tn_step (p := T2.2.2.1) rfl rfl rfl rfl gkT hG4 hN hN9 hm v3 hinT2.2.2.1 ?_ ?_
  rotate_left
  · intro e I9 hI9 g7 g8
    rw [← hT3] at e g7 g8
    have e : nbF T3 0 99 ≠ 0 := e
    have eR : (gkA (tbC I0) N m T s) = (nbF T3 0 99, T3.2.1, 0, g0) := by simp only [gkA, nbG, stG, c0, d8, ← hT1, eT1, y, y2, ← hT2, eT2, ← hT3, e, ne_eq, not_false_eq_true, not_true_eq_false, ↓reduceIte]
    rw [eR] at hno
    exact hno e I9 _ hI9.1 g7 g8
  intro eT3 I5 hG5 gT33 gT36
  rw [← hT3] at eT3 gT33 gT36 hinT3
  have eT3 : nbF T3 0 99 = 0 := eT3
  refine q_ald rfl rfl ?_
  refine q_getr rfl sk_101 sr_101_0 ?_
  refine q_getr rfl sk_102 sr_102_6 ?_
  refine q_ild rfl rfl ?_
  refine q_ald rfl rfl ?_
  refine q_geti rfl sk_1 ?_
  refine q_iast rfl sk_104 sn_104 (by omega) (show kv.toInt < (8 : Nat) by omega) ?_
  refine q_ald rfl rfl ?_
  refine q_getr rfl sk_101 sr_101_0 ?_
  refine q_getr rfl sk_102 sr_102_7 ?_
  refine q_ild rfl rfl ?_
  refine q_ic rfl ?_
  refine q_iast rfl sk_105 sn_105 (by omega) (show kv.toInt < (8 : Nat) by omega) ?_
  show dw_ok (pr_X1_readKind K) 116 0 0 [some (.ref 101), some (.ref 1), some (.int kv)] [] (n, SH1, dw_up (dw_up I5 104 kv.toInt.toNat (I5 1 6)) 105 kv.toInt.toNat 0, J)
  rw [hkn, gT36]
  have hG6 : GKp I0 (dw_up (dw_up I5 104 s.1.length T3.2.2.2) 105 s.1.length 0) s (T1.2.1, T1.2.2.1 - T1.2.1, T2.2.2.2, T3.2.2.2, 0) 2 := ⟨GR_k (GR_k hG5.1 (by decide) (Nat.le_refl _)) (by decide) (Nat.le_refl _), hG5.2.1, fun _ => hG5.2.2.1 (by decide), fun _ => ⟨(up_ne (Or.inl (by decide))).trans up_same, up_same⟩⟩
  have v3 : (dw_up (dw_up I5 104 s.1.length T3.2.2.2) 105 s.1.length 0 1 3).toInt = T3.2.2.1 := gT33
  generalize dw_up (dw_up I5 104 s.1.length T3.2.2.2) 105 s.1.length 0 = I6 at hG6 v3 ⊢
  refine q_ald rfl rfl ?_
  obtain ⟨T4, hT4⟩ : ∃ t, t = tkF (tbC I0) N m T3.2.2.1 := ⟨_, rfl⟩
  have hinT4 := tkF_in (b := tbC I0) (n := N) (m := m) (p := T3.2.2.1) hinT3.2.2.1
  refine tk_step (p := T3.2.2.1) rfl gkT hG6 hN hN9 hm v3 hinT3.2.2.1 (fun I7 hG7 u3 u4 u5 => ?_)
  rw [← hT4] at u3 u4 u5 hinT4
  refine q_ald rfl rfl ?_
  refine q_str rfl ?_
  refine q_callV (as := [.ref 1000015]) (rest := []) rfl rfl sk_1 rfl (Nat.le_of_ble_eq_true rfl) ?_
  have e71 : I7 1 1 = I0 1 1 := hG7.1.2.1 1 (by decide)
  have hb7 : tbC I7 = tbC I0 := tbC_eq e71 (hG7.1.1 2 (by decide) (by decide))
  refine v_says (T := T4) (w := dw_sb 14) (by rw [e71]; exact hN) hN9 ⟨by decide, by decide⟩ rfl (st_ok (by decide)).1 (st_ok (by decide)).2 u3 u4 u5 hinT4.2.2.1 hinT4.1 (fun v vc => ?_)
  rw [hb7] at vc
  show dw_ok (pr_X1_readKind K) 126 0 0 [some (.ref 101), some (.ref 1), some (.int kv)] [.int v] (n, SH1, I7, J)
  have hmem : ∀ (a b c : Int32), gOK N ((T1.2.1, T1.2.2.1 - T1.2.1, a, b, c) :: s.1, s.2) := by
    intro a b c
    have q := hinT1.2.2.2 (Or.inl eT1)
    have q12 := (tk_word (b := tbC I0) (n := N) (m := m) (p := T.2.2.1) (by rw [← hT1]; exact eT1) hTN).2.1
    rw [← hT1] at q12
    refine ⟨show s.1.length + 1 ≤ 8 by omega, hOK.2.1, hOK.2.2.1, hOK.2.2.2.1, fun z hz => ?_, hOK.2.2.2.2.2⟩
    rcases List.mem_cons.mp hz with rfl | hz
    · exact ⟨show T1.2.1 + (T1.2.2.1 - T1.2.1) ≤ N by omega, show T1.2.2.1 - T1.2.1 ≤ 12 by omega, show 1 ≤ T1.2.2.1 - T1.2.1 by omega⟩
    · exact hOK.2.2.2.2.1 z hz
  rcases vc with ⟨rfl, sy⟩ | ⟨rfl, sy⟩
  rotate_left
  · refine q_if (c := 0) rfl (by decide) (fun _ => ?_) (fun h => absurd rfl h)
    refine kd_end (N := N) (T := T4) hG7 (by omega) hkv u3 u4 u5 (fun e I8 hI8 g3 => ?_) (fun e I8 hI8 g7 g8 => ?_)
    · have eR : (gkA (tbC I0) N m T s) = (0, 0, T4.2.2.1, (T1.2.1, T1.2.2.1 - T1.2.1, T2.2.2.2, T3.2.2.2, 0) :: s.1, s.2) := by simp only [gkA, nbG, stG, c0, d8, ← hT1, eT1, y, y2, ← hT2, eT2, ← hT3, eT3, ← hT4, if_neg sy, e, ne_eq, not_false_eq_true, not_true_eq_false, ↓reduceIte]
      rw [eR] at hok
      exact hok rfl I8 hI8 g3 hinT4.2.2.1 (show T.2.2.1 ≤ T4.2.2.1 by omega) (hmem _ _ _)
    · skip
      have eR : (gkA (tbC I0) N m T s) = (1, T4.2.1, 0, g0) := by simp only [gkA, nbG, stG, c0, d8, ← hT1, eT1, y, y2, ← hT2, eT2, ← hT3, eT3, ← hT4, if_neg sy, e, ne_eq, not_false_eq_true, not_true_eq_false, ↓reduceIte]
      rw [eR] at hno
      exact hno (nn rfl) I8 _ hI8 g7 g8
  refine q_if (c := 0) rfl (by decide) (fun h => absurd (show (1 : Int32).toInt = 0 from h) (by decide)) (fun _ => ?_)
  refine q_ald rfl rfl ?_
  refine q_ic rfl ?_
  refine q_ic rfl ?_
  obtain ⟨T5, hT5⟩ : ∃ t, t = tkF (tbC I0) N m T4.2.2.1 := ⟨_, rfl⟩
  have hinT5 := tkF_in (b := tbC I0) (n := N) (m := m) (p := T4.2.2.1) hinT4.2.2.1
  refine tn_step (p := T4.2.2.1) rfl rfl rfl rfl gkT hG7 hN hN9 hm u3 hinT4.2.2.1 ?_ ?_
  rotate_left
  · intro e I9 hI9 g7 g8
    rw [← hT5] at e g7 g8
    have e : nbF T5 1 9 ≠ 0 := e
    have eR : (gkA (tbC I0) N m T s) = (nbF T5 1 9, T5.2.1, 0, g0) := by simp only [gkA, nbG, stG, c0, d8, ← hT1, eT1, y, y2, ← hT2, eT2, ← hT3, eT3, ← hT4, if_pos sy, ← hT5, e, ne_eq, not_false_eq_true, not_true_eq_false, ↓reduceIte]
    rw [eR] at hno
    exact hno e I9 _ hI9.1 g7 g8
  intro eT5 I8 hG8 gT53 gT56
  rw [← hT5] at eT5 gT53 gT56 hinT5
  have eT5 : nbF T5 1 9 = 0 := eT5
  refine q_ald rfl rfl ?_
  refine q_getr rfl sk_101 sr_101_0 ?_
  refine q_getr rfl sk_102 sr_102_7 ?_
  refine q_ild rfl rfl ?_
  refine q_ald rfl rfl ?_
  refine q_geti rfl sk_1 ?_
  refine q_iast rfl sk_105 sn_105 (by omega) (show kv.toInt < (8 : Nat) by omega) ?_
  show dw_ok (pr_X1_readKind K) 154 0 0 [some (.ref 101), some (.ref 1), some (.int kv)] [] (n, SH1, dw_up I8 105 kv.toInt.toNat (I8 1 6), J)
  rw [hkn, gT56]
  have hG9 : GKp I0 (dw_up I8 105 s.1.length T5.2.2.2) s (T1.2.1, T1.2.2.1 - T1.2.1, T2.2.2.2, T3.2.2.2, T5.2.2.2) 2 := ⟨GR_k hG8.1 (by decide) (Nat.le_refl _), hG8.2.1, fun _ => hG8.2.2.1 (by decide), fun _ => ⟨(hG8.2.2.2 (by decide)).1, up_same⟩⟩
  have v3 : (dw_up I8 105 s.1.length T5.2.2.2 1 3).toInt = T5.2.2.1 := gT53
  generalize dw_up I8 105 s.1.length T5.2.2.2 = I9 at hG9 v3 ⊢
  refine q_ald rfl rfl ?_
  obtain ⟨T6, hT6⟩ : ∃ t, t = tkF (tbC I0) N m T5.2.2.1 := ⟨_, rfl⟩
  have hinT6 := tkF_in (b := tbC I0) (n := N) (m := m) (p := T5.2.2.1) hinT5.2.2.1
  refine tk_step (p := T5.2.2.1) rfl gkT hG9 hN hN9 hm v3 hinT5.2.2.1 (fun Ia hGa u3 u4 u5 => ?_)
  rw [← hT6] at u3 u4 u5 hinT6
  refine kd_end (N := N) (T := T6) hGa (by omega) hkv u3 u4 u5 (fun e Ib hIb g3 => ?_) (fun e Ib hIb g7 g8 => ?_)
  · have eR : (gkA (tbC I0) N m T s) = (0, 0, T6.2.2.1, (T1.2.1, T1.2.2.1 - T1.2.1, T2.2.2.2, T3.2.2.2, T5.2.2.2) :: s.1, s.2) := by simp only [gkA, nbG, stG, c0, d8, ← hT1, eT1, y, y2, ← hT2, eT2, ← hT3, eT3, ← hT4, if_pos sy, ← hT5, eT5, ← hT6, e, ne_eq, not_false_eq_true, not_true_eq_false, ↓reduceIte]
    rw [eR] at hok
    exact hok rfl Ib hIb g3 hinT6.2.2.1 (show T.2.2.1 ≤ T6.2.2.1 by omega) (hmem _ _ _)
  · skip
    have eR : (gkA (tbC I0) N m T s) = (1, T6.2.1, 0, g0) := by simp only [gkA, nbG, stG, c0, d8, ← hT1, eT1, y, y2, ← hT2, eT2, ← hT3, eT3, ← hT4, if_pos sy, ← hT5, eT5, ← hT6, e, ne_eq, not_false_eq_true, not_true_eq_false, ↓reduceIte]
    rw [eR] at hno
    exact hno (nn rfl) Ib _ hIb g7 g8
set_option maxRecDepth 8000 in
theorem rr_loop {n : Nat} {I0 I1 : Nat → Nat → Int32} {J : Nat → Nat → Int64} {K : dw_K} {bc bs N q Ln : Nat} {s : gS} {lt fs : Int32} (hOK : gOK N s) (hN : (I0 1 1).toInt = N) (hN9 : N ≤ 940) (hR1 : GRp I0 I1 s) (h4 : (I1 1 4).toInt = q) (hq : q + Ln ≤ N) (hL : Ln ≤ 12) (hlet : ∀ i, i < Ln → f_sm (tbC I0 (q + i)))
    (hlt : lt.toInt = Ln) (hfs : fs.toInt = (s.2.2.1.length * Ln : Nat)) (h144 : s.2.2.1.length * Ln + Ln ≤ 144) (hRC : s.2.2.1.length * s.2.1 ≤ s.2.2.1.length * Ln)
    (hbad : ¬ lrF (tbC I0) q Ln s.1.length → ∀ I' : Nat → Nat → Int32, GRp I0 I' s → (I' 1 7).toInt = 2 → (I' 1 8).toInt = q → K (some (.int 0)) (n, SH1, I', J))
    (hgood : lrF (tbC I0) q Ln s.1.length → ∀ (I' : Nat → Nat → Int32) (x : Int32) (s5 : Option Value), GRp I0 I' s → I' 1 = I1 1 → (∀ j, j < Ln → (I' 106 (s.2.2.1.length * Ln + j)).toInt = (tbC I0 (q + j)).toInt - 97) → dw_ok (pr_X1_readRow K) 147 bc bs [some (.ref 101), some (.ref 1), some (.int lt), some (.int fs), some (.int x), s5] [] (n, SH1, I', J)) :
    ∀ (f i : Nat) (x : Int32) (s5 : Option Value) (I : Nat → Nat → Int32), x.toInt = i → i ≤ Ln → Ln - i ≤ f → GRp I0 I s → I 1 = I1 1 → (∀ j, j < i → (I 106 (s.2.2.1.length * Ln + j)).toInt = (tbC I0 (q + j)).toInt - 97) → (∀ j, j < i → (tbC I0 (q + j)).toInt < 97 + s.1.length) → dw_ok (pr_X1_readRow K) 72 bc bs [some (.ref 101), some (.ref 1), some (.int lt), some (.int fs), some (.int x), s5] [] (n, SH1, I, J) := by
  have c1 : (1 : Int32).toInt = 1 := rfl
  have c97 : (97 : Int32).toInt = 97 := rfl
  have c144 : (144 : Int32).toInt = 144 := rfl
  have hK8 := hOK.1
  intro f
  induction f with
  | zero =>
    intro i x s5 I hx hi hf hR e1 hall hlow
    refine q_ild rfl rfl ?_
    refine q_ild rfl rfl ?_
    refine q_icmp (c := 3) rfl (by decide) (fun _ => ?_) (fun h => absurd (show x.toInt < lt.toInt from h) (by omega))
    exact hgood (fun j hj => hlow j (by omega)) I x s5 hR e1 (fun j hj => hall j (by omega))
  | succ f ih =>
    intro i x s5 I hx hi hf hR e1 hall hlow
    refine q_ild rfl rfl ?_
    refine q_ild rfl rfl ?_
    refine q_icmp (c := 3) rfl (by decide) (fun g => ?_) (fun g => ?_)
    · have g : lt.toInt ≤ x.toInt := g
      exact hgood (fun j hj => hlow j (by omega)) I x s5 hR e1 (fun j hj => hall j (by omega))
    have g : x.toInt < lt.toInt := g
    have h41 : (I 1 4).toInt = q := by rw [e1]; exact h4
    have e11 : I 1 1 = I0 1 1 := hR.2.1 1 (by decide)
    have hb : tbC I = tbC I0 := tbC_eq e11 (hR.1 2 (by decide) (by decide))
    have t1 : (I 1 4 + x).toInt = (I 1 4).toInt + x.toInt := i_add (by omega) (by omega)
    have t2 : (x + 1).toInt = x.toInt + 1 := by rw [i_add (by omega) (by omega), c1]
    have t3 : (fs + x).toInt = fs.toInt + x.toInt := i_add (by omega) (by omega)
    have eb : I 2 (I 1 4 + x).toInt.toNat = tbC I0 (q + i) := by rw [← hb, tbC_in (by rw [e11, hN]; omega), show (I 1 4 + x).toInt.toNat = q + i by omega]
    have hl := hlet i (by omega)
    refine q_ald rfl rfl ?_
    refine q_ald rfl rfl ?_
    refine q_geti rfl sk_1 ?_
    refine q_ild rfl rfl ?_
    refine q_add rfl ?_
    refine q_callV (as := [.int (I 1 4 + x)]) (rest := []) rfl rfl sk_1 rfl (Nat.le_of_ble_eq_true rfl) ?_
    refine v_byteAt (by omega) (by omega) ?_
    show dw_ok (pr_X1_readRow K) 89 bc bs [some (.ref 101), some (.ref 1), some (.int lt), some (.int fs), some (.int x), s5] [.int (I 2 (I 1 4 + x).toInt.toNat)] (n, SH1, I, J)
    rw [eb]
    have t4 : (tbC I0 (q + i) - 97).toInt = (tbC I0 (q + i)).toInt - 97 := by rw [i_sub (by omega) (by omega), c97]
    refine q_ic rfl ?_
    refine q_sub rfl ?_
    refine q_ist rfl rfl ?_
    generalize tbC I0 (q + i) - 97 = kk at t4 ⊢
    show dw_ok (pr_X1_readRow K) 94 bc bs [some (.ref 101), some (.ref 1), some (.int lt), some (.int fs), some (.int x), some (.int kk)] [] (n, SH1, I, J)
    refine q_ild rfl rfl ?_
    refine q_if (c := 2) rfl (by decide) (fun h => absurd (show kk.toInt < 0 from h) (by omega)) (fun _ => ?_)
    refine q_ild rfl rfl ?_
    refine q_ald rfl rfl ?_
    refine q_getr rfl sk_101 sr_101_0 ?_
    refine q_geti rfl sk_102 ?_
    have hk2 : (I 102 2).toInt = s.1.length := hR.2.2.1.2.2.1
    refine q_icmp (c := 3) rfl (by decide) (fun w => ?_) (fun w => ?_)
    · have w : (I 102 2).toInt ≤ kk.toInt := w
      refine q_ald rfl rfl ?_
      refine q_ic rfl ?_
      refine fl_step (c := 2) rfl rfl (grT (s := s)) hR (fun I2 hI2 g7 g8 => ?_)
      exact hbad (fun h => by have := h i (by omega); omega) I2 hI2 g7 (g8.trans h41)
    have w : kk.toInt < (I 102 2).toInt := w
    refine q_ild rfl rfl ?_
    refine q_ild rfl rfl ?_
    refine q_add rfl ?_
    refine q_ic rfl ?_
    refine q_icmp (c := 2) rfl (by decide) (fun _ => ?_) (fun h => absurd (show (144 : Int32).toInt ≤ (fs + x).toInt from h) (by omega))
    refine q_ald rfl rfl ?_
    refine q_getr rfl sk_101 sr_101_0 ?_
    refine q_getr rfl sk_102 sr_102_8 ?_
    refine q_ild rfl rfl ?_
    refine q_ild rfl rfl ?_
    refine q_add rfl ?_
    refine q_ild rfl rfl ?_
    refine q_iast rfl sk_106 sn_106 (by omega) (show (fs + x).toInt < (144 : Nat) by omega) ?_
    show dw_ok (pr_X1_readRow K) 141 bc bs [some (.ref 101), some (.ref 1), some (.int lt), some (.int fs), some (.int x), some (.int kk)] [] (n, SH1, dw_up I 106 (fs + x).toInt.toNat kk, J)
    have ej : (fs + x).toInt.toNat = s.2.2.1.length * Ln + i := by omega
    rw [ej]
    refine q_inc rfl rfl rfl ?_
    refine q_goto rfl ?_
    refine ih (i + 1) (x + 1) (some (.int kk)) (dw_up I 106 (s.2.2.1.length * Ln + i) kk) (by omega) (by omega) (by omega) (GR_106 hR (by omega)) ((up_row (by decide)).trans e1) (fun j hj => ?_) (fun j hj => ?_)
    · by_cases e : j = i
      · rw [e, up_same]; exact t4
      · rw [up_fld (by omega)]; exact hall j (by omega)
    · by_cases e : j = i
      · rw [e]; omega
      · exact hlow j (by omega)
set_option maxRecDepth 8000 in
set_option maxHeartbeats 2000000 in
theorem v_readRow {n : Nat} {I : Nat → Nat → Int32} {J : Nat → Nat → Int64} {K : dw_K} {I0 : Nat → Nat → Int32} {s : gS} {T : fT} {N m : Nat} (hR : GRp I0 I s) (hOK : gOK N s) (hN : (I0 1 1).toInt = N) (hN9 : N ≤ 940) (hm : (I0 1 2).toInt = m) (h3 : (I 1 3).toInt = T.2.2.1) (h4 : (I 1 4).toInt = T.2.1) (h5 : (I 1 5).toInt = T.1) (hTN : T.2.2.1 ≤ N) (hT2 : T.2.1 ≤ N)
    (hok : (gkR (tbC I0) N m T s).1 = 0 → ∀ I' : Nat → Nat → Int32, GRp I0 I' (gkR (tbC I0) N m T s).2.2.2 → (I' 1 3).toInt = (gkR (tbC I0) N m T s).2.2.1 → (gkR (tbC I0) N m T s).2.2.1 ≤ N → T.2.2.1 ≤ (gkR (tbC I0) N m T s).2.2.1 → gOK N (gkR (tbC I0) N m T s).2.2.2 → K (some (.int 1)) (n, SH1, I', J))
    (hno : (gkR (tbC I0) N m T s).1 ≠ 0 → ∀ (I' : Nat → Nat → Int32) (s' : gS), GRp I0 I' s' → (I' 1 7).toInt = (gkR (tbC I0) N m T s).1 → (I' 1 8).toInt = (gkR (tbC I0) N m T s).2.1 → K (some (.int 0)) (n, SH1, I', J)) : t_X1_readRow [.ref 101, .ref 1] (n, SH1, I, J) K := by
  have c12 : (12 : Int32).toInt = 12 := rfl
  have c1 : (1 : Int32).toInt = 1 := rfl
  have hk1 : (I 102 1).toInt = s.2.2.1.length := hR.2.2.1.2.1
  refine q_body (Nat.le_of_ble_eq_true rfl) ?_
  refine q_ald rfl rfl ?_
  refine q_getr rfl sk_101 sr_101_0 ?_
  refine q_geti rfl sk_102 ?_
  refine q_ic rfl ?_
  refine q_icmp (c := 2) rfl (by decide) (fun g => ?_) (fun g => ?_)
  rotate_left
  · have g : (12 : Int32).toInt ≤ (I 102 1).toInt := g
    have c0 : 12 ≤ s.2.2.1.length := by omega
    refine q_ald rfl rfl ?_
    refine q_ic rfl ?_
    refine fl_step (c := 4) rfl rfl (grT (s := s)) hR (fun I1 hI1 g7 g8 => ?_)
    rw [h4] at g8
    have eR : (gkR (tbC I0) N m T s) = (4, T.2.1, 0, g0) := by simp only [gkR, nbG, stG, c0, ne_eq, not_false_eq_true, not_true_eq_false, ↓reduceIte]
    rw [eR] at hno
    exact hno (nn rfl) I1 _ hI1 g7 g8
  have g : (I 102 1).toInt < (12 : Int32).toInt := g
  have c0 : ¬ (12 ≤ s.2.2.1.length) := by omega
  refine q_ald rfl rfl ?_
  obtain ⟨T1, hT1⟩ : ∃ t, t = tkF (tbC I0) N m T.2.2.1 := ⟨_, rfl⟩
  have hinT1 := tkF_in (b := tbC I0) (n := N) (m := m) (p := T.2.2.1) hTN
  have hword := tk_word (b := tbC I0) (n := N) (m := m) (p := T.2.2.1)
  refine tw_step (p := T.2.2.1) rfl (grT (s := s)) hR hN hN9 hm h3 hTN ?_ ?_
  rotate_left
  · intro e I1 hI1 g7 g8
    rw [← hT1] at e g8
    refine q_if (c := 1) rfl (by decide) (fun h => absurd rfl h) (fun _ => ?_)
    refine q_ic rfl ?_
    refine q_zret rfl (Or.inl rfl) ?_
    have eR : (gkR (tbC I0) N m T s) = (1, T1.2.1, 0, g0) := by simp only [gkR, nbG, stG, c0, ← hT1, e, ne_eq, not_false_eq_true, not_true_eq_false, ↓reduceIte]
    rw [eR] at hno
    exact hno (nn rfl) I1 _ hI1 g7 g8
  intro eT1 I1 hI1 w3 w4 w5
  rw [← hT1] at eT1 w3 w4 w5 hinT1 hword
  obtain ⟨d1, d2, d3⟩ := hword eT1 hTN
  have hin1 := hinT1.2.2.1
  refine q_if (c := 1) rfl (by decide) (fun _ => ?_) (fun h => absurd (show (1 : Int32).toInt = 0 from h) (by decide))
  refine q_ald rfl rfl ?_
  refine q_callV (as := []) (rest := []) rfl rfl sk_1 rfl (Nat.le_of_ble_eq_true rfl) ?_
  refine v_tokenSize ?_
  have ts : (I1 1 3 - I1 1 4).toInt = (I1 1 3).toInt - (I1 1 4).toInt := i_sub (by omega) (by omega)
  show dw_ok (pr_X1_readRow K) 31 0 0 [some (.ref 101), some (.ref 1), none, none, none, none] [.int (I1 1 3 - I1 1 4)] (n, SH1, I1, J)
  obtain ⟨Ln, hLn⟩ : ∃ k, k = T1.2.2.1 - T1.2.1 := ⟨_, rfl⟩
  have hlt : (I1 1 3 - I1 1 4).toInt = Ln := by omega
  generalize I1 1 3 - I1 1 4 = lt at hlt ts ⊢
  refine q_ist rfl rfl ?_
  show dw_ok (pr_X1_readRow K) 32 0 0 [some (.ref 101), some (.ref 1), some (.int lt), none, none, none] [] (n, SH1, I1, J)
  have hk1' : (I1 102 1).toInt = s.2.2.1.length := hI1.2.2.1.2.1
  have hk0' : (I1 102 0).toInt = s.2.1 := hI1.2.2.1.1
  have hC12 := hOK.2.1
  have main : (s.2.2.1.length = 0 ∨ Ln = s.2.1) → dw_ok (pr_X1_readRow K) 59 0 0 [some (.ref 101), some (.ref 1), some (.int lt), none, none, none] [] (n, SH1, I1, J) := by
    intro hC
    have c3 : ¬ (0 < s.2.2.1.length ∧ T1.2.2.1 ≠ T1.2.1 + s.2.1) := by
      rintro ⟨y1, y2⟩
      omega
    have h144 : s.2.2.1.length * Ln + Ln ≤ 144 := by
      have q : s.2.2.1.length * Ln ≤ 11 * Ln := Nat.mul_le_mul_right Ln (by omega)
      omega
    have hRC : s.2.2.1.length * s.2.1 ≤ s.2.2.1.length * Ln := by
      rcases hC with y | y
      · rw [y]; omega
      · rw [y]; exact Nat.le_refl _
    have hfs : (I1 102 1 * lt).toInt = (s.2.2.1.length * Ln : Nat) := i_mul (by rw [hk1', hlt]; exact (Int.natCast_mul _ _).symm) (by omega) (by omega)
    refine q_ald rfl rfl ?_
    refine q_getr rfl sk_101 sr_101_0 ?_
    refine q_geti rfl sk_102 ?_
    refine q_ild rfl rfl ?_
    refine q_mul rfl ?_
    refine q_ist rfl rfl ?_
    refine q_ic rfl ?_
    refine q_ist rfl rfl ?_
    show dw_ok (pr_X1_readRow K) 72 0 0 [some (.ref 101), some (.ref 1), some (.int lt), some (.int (I1 102 1 * lt)), some (.int 0), none] [] (n, SH1, I1, J)
    generalize I1 102 1 * lt = fs at hfs ⊢
    refine rr_loop (q := T1.2.1) (Ln := Ln) hOK hN hN9 hI1 w4 (by omega) (by omega) (fun j hj => d3 j (by omega)) hlt hfs h144 hRC (fun y I2 hI2 g7 g8 => ?_) (fun y I2 x s5 hI2 e21 hrow => ?_) Ln 0 0 none I1 rfl (Nat.zero_le _) (Nat.le_refl _) hI1 rfl (fun j hj => absurd hj (Nat.not_lt_zero j)) (fun j hj => absurd hj (Nat.not_lt_zero j))
    · rw [hLn] at y
      have eR : (gkR (tbC I0) N m T s) = (2, T1.2.1, 0, g0) := by simp only [gkR, nbG, stG, c0, ← hT1, eT1, c3, y, ne_eq, not_false_eq_true, not_true_eq_false, ↓reduceIte]
      rw [eR] at hno
      exact hno (nn rfl) I2 _ hI2 g7 g8
    · rw [hLn] at y
      have hk2' : (I2 102 1).toInt = s.2.2.1.length := hI2.2.2.1.2.1
      have hrv : (I2 102 1 + 1).toInt = (s.2.2.1.length + 1 : Nat) := by rw [i_add (by omega) (by omega), c1]; omega
      refine q_ald rfl rfl ?_
      refine q_getr rfl sk_101 sr_101_0 ?_
      refine q_ild rfl rfl ?_
      refine q_puti rfl sk_102 ?_
      show dw_ok (pr_X1_readRow K) 155 0 0 [some (.ref 101), some (.ref 1), some (.int lt), some (.int fs), some (.int x), s5] [] (n, SH1, dw_up I2 102 0 lt, J)
      refine q_ald rfl rfl ?_
      refine q_getr rfl sk_101 sr_101_0 ?_
      refine q_dup rfl ?_
      refine q_geti rfl sk_102 ?_
      refine q_ic rfl ?_
      refine q_add rfl ?_
      refine q_puti rfl sk_102 ?_
      show dw_ok (pr_X1_readRow K) 168 0 0 [some (.ref 101), some (.ref 1), some (.int lt), some (.int fs), some (.int x), s5] [] (n, SH1, dw_up (dw_up I2 102 0 lt) 102 1 (dw_up I2 102 0 lt 102 1 + 1), J)
      rw [show dw_up I2 102 0 lt 102 1 = I2 102 1 from up_fld (by decide)]
      have hR3 := GR_row (q := T1.2.1) (Ln := Ln) (lt := lt) (rv := I2 102 1 + 1) hI2 hlt hrv hC hrow
      have r1 : dw_up (dw_up I2 102 0 lt) 102 1 (I2 102 1 + 1) 1 = I2 1 := (up_row (by decide)).trans (up_row (by decide))
      have v3 : (dw_up (dw_up I2 102 0 lt) 102 1 (I2 102 1 + 1) 1 3).toInt = T1.2.2.1 := by rw [r1, e21]; exact w3
      generalize dw_up (dw_up I2 102 0 lt) 102 1 (I2 102 1 + 1) = I3 at hR3 v3 ⊢
      have ny : ¬ ¬ lrF (tbC I0) T1.2.1 (T1.2.2.1 - T1.2.1) s.1.length := fun h => h y
      refine q_ald rfl rfl ?_
      obtain ⟨T2, hT2⟩ : ∃ t, t = tkF (tbC I0) N m T1.2.2.1 := ⟨_, rfl⟩
      have hinT2 := tkF_in (b := tbC I0) (n := N) (m := m) (p := T1.2.2.1) hin1
      refine ts_step (p := T1.2.2.1) rfl rfl grT hR3 hN hN9 hm v3 hin1 ?_ ?_
      rotate_left
      · intro e I9 hI9 g7 g8
        rw [← hT2] at e g8
        have eR : (gkR (tbC I0) N m T s) = (1, T2.2.1, 0, g0) := by simp only [gkR, nbG, stG, c0, ← hT1, eT1, c3, if_neg ny, ← hT2, e, ne_eq, not_false_eq_true, not_true_eq_false, ↓reduceIte]
        rw [eR] at hno
        exact hno (nn rfl) I9 _ hI9 g7 g8
      intro e I9 hI9 g3
      rw [← hT2] at e g3 hinT2
      have eR : (gkR (tbC I0) N m T s) = (0, 0, T2.2.2.1, s.1, T1.2.2.1 - T1.2.1, T1.2.1 :: s.2.2.1, s.2.2.2) := by simp only [gkR, nbG, stG, c0, ← hT1, eT1, c3, if_neg ny, ← hT2, e, ne_eq, not_false_eq_true, not_true_eq_false, ↓reduceIte]
      rw [eR] at hok
      exact hok rfl I9 (hLn ▸ hI9) g3 hinT2.2.2.1 (show T.2.2.1 ≤ T2.2.2.1 by omega) ⟨hOK.1, show T1.2.2.1 - T1.2.1 ≤ 12 by omega, show s.2.2.1.length + 1 ≤ 12 by omega, hOK.2.2.2.1, hOK.2.2.2.2⟩
  refine q_ald rfl rfl ?_
  refine q_getr rfl sk_101 sr_101_0 ?_
  refine q_geti rfl sk_102 ?_
  refine q_if (c := 5) rfl (by decide) (fun w => main (Or.inl (by have w : (I1 102 1).toInt ≤ 0 := w; omega))) (fun w => ?_)
  have w : 0 < (I1 102 1).toInt := w
  refine q_ild rfl rfl ?_
  refine q_ald rfl rfl ?_
  refine q_getr rfl sk_101 sr_101_0 ?_
  refine q_geti rfl sk_102 ?_
  refine q_icmp (c := 0) rfl (by decide) (fun v => main (Or.inr (by have v : lt.toInt = (I1 102 0).toInt := v; omega))) (fun v => ?_)
  have v : lt.toInt ≠ (I1 102 0).toInt := v
  have c3 : 0 < s.2.2.1.length ∧ T1.2.2.1 ≠ T1.2.1 + s.2.1 := ⟨by omega, by omega⟩
  refine q_ald rfl rfl ?_
  refine q_ic rfl ?_
  refine fl_step (c := 2) rfl rfl (grT (s := s)) hI1 (fun I2 hI2 g7 g8 => ?_)
  rw [w4] at g8
  have eR : (gkR (tbC I0) N m T s) = (2, T1.2.1, 0, g0) := by simp only [gkR, nbG, stG, c0, ← hT1, eT1, if_pos c3, ne_eq, not_false_eq_true, not_true_eq_false, ↓reduceIte]
  rw [eR] at hno
  exact hno (nn rfl) I2 _ hI2 g7 g8
set_option maxRecDepth 8000 in
set_option maxHeartbeats 2000000 in
theorem v_readShade {n : Nat} {I : Nat → Nat → Int32} {J : Nat → Nat → Int64} {K : dw_K} {I0 : Nat → Nat → Int32} {s : gS} {T : fT} {N m : Nat} (hR : GRp I0 I s) (hOK : gOK N s) (hN : (I0 1 1).toInt = N) (hN9 : N ≤ 940) (hm : (I0 1 2).toInt = m) (h3 : (I 1 3).toInt = T.2.2.1) (h4 : (I 1 4).toInt = T.2.1) (h5 : (I 1 5).toInt = T.1) (hTN : T.2.2.1 ≤ N) (hT2 : T.2.1 ≤ N)
    (hok : (gkS (tbC I0) N m T s).1 = 0 → ∀ I' : Nat → Nat → Int32, GRp I0 I' (gkS (tbC I0) N m T s).2.2.2 → (I' 1 3).toInt = (gkS (tbC I0) N m T s).2.2.1 → (gkS (tbC I0) N m T s).2.2.1 ≤ N → T.2.2.1 ≤ (gkS (tbC I0) N m T s).2.2.1 → gOK N (gkS (tbC I0) N m T s).2.2.2 → K (some (.int 1)) (n, SH1, I', J))
    (hno : (gkS (tbC I0) N m T s).1 ≠ 0 → ∀ (I' : Nat → Nat → Int32) (s' : gS), GRp I0 I' s' → (I' 1 7).toInt = (gkS (tbC I0) N m T s).1 → (I' 1 8).toInt = (gkS (tbC I0) N m T s).2.1 → K (some (.int 0)) (n, SH1, I', J)) : t_X1_readShade [.ref 101, .ref 1] (n, SH1, I, J) K := by
  have c12 : (12 : Int32).toInt = 12 := rfl
  have c1 : (1 : Int32).toInt = 1 := rfl
  have hk3 : (I 102 3).toInt = s.2.2.2.1.length := hR.2.2.1.2.2.2.1
  refine q_body (Nat.le_of_ble_eq_true rfl) ?_
  refine q_ald rfl rfl ?_
  refine q_getr rfl sk_101 sr_101_0 ?_
  refine q_geti rfl sk_102 ?_
  refine q_ist rfl rfl ?_
  show dw_ok (pr_X1_readShade K) 8 0 0 [some (.ref 101), some (.ref 1), some (.int (I 102 3))] [] (n, SH1, I, J)
  generalize I 102 3 = sv at hk3 ⊢
  refine q_ild rfl rfl ?_
  refine q_if (c := 2) rfl (by decide) (fun h => absurd (show sv.toInt < 0 from h) (by omega)) (fun _ => ?_)
  refine q_ild rfl rfl ?_
  refine q_ic rfl ?_
  refine q_icmp (c := 2) rfl (by decide) (fun g => ?_) (fun g => ?_)
  rotate_left
  · have g : (12 : Int32).toInt ≤ sv.toInt := g
    have c0 : 12 ≤ s.2.2.2.1.length := by omega
    refine q_ald rfl rfl ?_
    refine q_ic rfl ?_
    refine fl_step (c := 4) rfl rfl (grT (s := s)) hR (fun I1 hI1 g7 g8 => ?_)
    rw [h4] at g8
    have eR : (gkS (tbC I0) N m T s) = (4, T.2.1, 0, g0) := by simp only [gkS, nbG, stG, c0, ne_eq, not_false_eq_true, not_true_eq_false, ↓reduceIte]
    rw [eR] at hno
    exact hno (nn rfl) I1 _ hI1 g7 g8
  have g : sv.toInt < (12 : Int32).toInt := g
  have c0 : ¬ (12 ≤ s.2.2.2.1.length) := by omega
  obtain ⟨r1, r2, r3⟩ := gs_ref (show s.2.2.2.1.length < 12 by omega)
  have hsn : sv.toInt.toNat = s.2.2.2.1.length := by omega
  have hC12 := hOK.2.1
  have hR12 := hOK.2.2.1
  have eC : (I 102 0 - 1).toInt = (s.2.1 : Int) - 1 := by
    have q : (I 102 0).toInt = s.2.1 := hR.2.2.1.1
    rw [i_sub (by omega) (by omega), c1, q]
  have hG0 : GSp I0 I s (0, 0, 0, 0) 0 := ⟨hR, fun h => absurd h (by decide), fun h => absurd h (by decide), fun h => absurd h (by decide), fun h => absurd h (by decide)⟩
  refine q_ald rfl rfl ?_
  refine q_ic rfl ?_
  refine q_ald rfl rfl ?_
  refine q_getr rfl sk_101 sr_101_0 ?_
  refine q_geti rfl sk_102 ?_
  refine q_ic rfl ?_
  refine q_sub rfl ?_
  show dw_ok (pr_X1_readShade K) 35 0 0 [some (.ref 101), some (.ref 1), some (.int sv)] [.int (I 102 0 - 1), .int 0, .ref 1] (n, SH1, I, J)
  generalize I 102 0 - 1 = hC at eC ⊢
  obtain ⟨T1, hT1⟩ : ∃ t, t = tkF (tbC I0) N m T.2.2.1 := ⟨_, rfl⟩
  have hinT1 := tkF_in (b := tbC I0) (n := N) (m := m) (p := T.2.2.1) hTN
  refine tn_step (p := T.2.2.1) rfl rfl rfl rfl gsT hG0 hN hN9 hm h3 hTN ?_ ?_
  rotate_left
  · intro e I9 hI9 g7 g8
    rw [← hT1] at e g7 g8
    rw [eC] at e g7
    have e : nbF T1 0 ((s.2.1 : Int) - 1) ≠ 0 := e
    have eR : (gkS (tbC I0) N m T s) = (nbF T1 0 ((s.2.1 : Int) - 1), T1.2.1, 0, g0) := by simp only [gkS, nbG, stG, c0, ← hT1, e, ne_eq, not_false_eq_true, not_true_eq_false, ↓reduceIte]
    rw [eR] at hno
    exact hno e I9 _ hI9.1 g7 g8
  intro eT1 Ia0 hGa0 gT13 gT16
  rw [← hT1] at eT1 gT13 gT16 hinT1
  rw [eC] at eT1
  have eT1 : nbF T1 0 ((s.2.1 : Int) - 1) = 0 := eT1
  refine q_ald rfl rfl ?_
  refine q_getr rfl sk_101 sr_101_3 ?_
  refine q_ild rfl rfl ?_
  refine q_xaldr rfl sk_110 sn_110 (by omega) (show sv.toInt < (12 : Nat) by omega) (show (SH1 110).2.2 sv.toInt.toNat = some (111 + s.2.2.2.1.length) by rw [hsn]; exact r1) ?_
  refine q_ic rfl ?_
  refine q_ald rfl rfl ?_
  refine q_geti rfl sk_1 ?_
  refine q_iast rfl r2 r3 (by decide) (by decide) ?_
  show dw_ok (pr_X1_readShade K) 55 0 0 [some (.ref 101), some (.ref 1), some (.int sv)] [] (n, SH1, dw_up Ia0 (111 + s.2.2.2.1.length) 0 (Ia0 1 6), J)
  rw [gT16]
  have hGb0 : GSp I0 (dw_up Ia0 (111 + s.2.2.2.1.length) 0 T1.2.2.2) s (T1.2.2.2, 0, 0, 0) 1 := ⟨GR_s hGa0.1 (Nat.le_refl _) (by omega), fun _ => up_same, fun h => absurd h (by decide), fun h => absurd h (by decide), fun h => absurd h (by decide)⟩
  have v30 : (dw_up Ia0 (111 + s.2.2.2.1.length) 0 T1.2.2.2 1 3).toInt = T1.2.2.1 := by rw [up_row (show 1 ≠ 111 + s.2.2.2.1.length by omega)]; exact gT13
  generalize dw_up Ia0 (111 + s.2.2.2.1.length) 0 T1.2.2.2 = Ib0 at hGb0 v30 ⊢
  have eR2 : (Ib0 102 1 - 1).toInt = (s.2.2.1.length : Int) - 1 := by
    have q : (Ib0 102 1).toInt = s.2.2.1.length := hGb0.1.2.2.1.2.1
    rw [i_sub (by omega) (by omega), c1, q]
  refine q_ald rfl rfl ?_
  refine q_ic rfl ?_
  refine q_ald rfl rfl ?_
  refine q_getr rfl sk_101 sr_101_0 ?_
  refine q_geti rfl sk_102 ?_
  refine q_ic rfl ?_
  refine q_sub rfl ?_
  show dw_ok (pr_X1_readShade K) 66 0 0 [some (.ref 101), some (.ref 1), some (.int sv)] [.int (Ib0 102 1 - 1), .int 0, .ref 1] (n, SH1, Ib0, J)
  generalize Ib0 102 1 - 1 = hR_ at eR2 ⊢
  obtain ⟨T2, hT2⟩ : ∃ t, t = tkF (tbC I0) N m T1.2.2.1 := ⟨_, rfl⟩
  have hinT2 := tkF_in (b := tbC I0) (n := N) (m := m) (p := T1.2.2.1) hinT1.2.2.1
  refine tn_step (p := T1.2.2.1) rfl rfl rfl rfl gsT hGb0 hN hN9 hm v30 hinT1.2.2.1 ?_ ?_
  rotate_left
  · intro e I9 hI9 g7 g8
    rw [← hT2] at e g7 g8
    rw [eR2] at e g7
    have e : nbF T2 0 ((s.2.2.1.length : Int) - 1) ≠ 0 := e
    have eR : (gkS (tbC I0) N m T s) = (nbF T2 0 ((s.2.2.1.length : Int) - 1), T2.2.1, 0, g0) := by simp only [gkS, nbG, stG, c0, ← hT1, eT1, ← hT2, e, ne_eq, not_false_eq_true, not_true_eq_false, ↓reduceIte]
    rw [eR] at hno
    exact hno e I9 _ hI9.1 g7 g8
  intro eT2 Ia1 hGa1 gT23 gT26
  rw [← hT2] at eT2 gT23 gT26 hinT2
  rw [eR2] at eT2
  have eT2 : nbF T2 0 ((s.2.2.1.length : Int) - 1) = 0 := eT2
  refine q_ald rfl rfl ?_
  refine q_getr rfl sk_101 sr_101_3 ?_
  refine q_ild rfl rfl ?_
  refine q_xaldr rfl sk_110 sn_110 (by omega) (show sv.toInt < (12 : Nat) by omega) (show (SH1 110).2.2 sv.toInt.toNat = some (111 + s.2.2.2.1.length) by rw [hsn]; exact r1) ?_
  refine q_ic rfl ?_
  refine q_ald rfl rfl ?_
  refine q_geti rfl sk_1 ?_
  refine q_iast rfl r2 r3 (by decide) (by decide) ?_
  show dw_ok (pr_X1_readShade K) 86 0 0 [some (.ref 101), some (.ref 1), some (.int sv)] [] (n, SH1, dw_up Ia1 (111 + s.2.2.2.1.length) 1 (Ia1 1 6), J)
  rw [gT26]
  have hGb1 : GSp I0 (dw_up Ia1 (111 + s.2.2.2.1.length) 1 T2.2.2.2) s (T1.2.2.2, T2.2.2.2, 0, 0) 2 := ⟨GR_s hGa1.1 (Nat.le_refl _) (by omega), fun _ => (up_fld (by decide)).trans (hGa1.2.1 (by decide)), fun _ => up_same, fun h => absurd h (by decide), fun h => absurd h (by decide)⟩
  have v31 : (dw_up Ia1 (111 + s.2.2.2.1.length) 1 T2.2.2.2 1 3).toInt = T2.2.2.1 := by rw [up_row (show 1 ≠ 111 + s.2.2.2.1.length by omega)]; exact gT23
  generalize dw_up Ia1 (111 + s.2.2.2.1.length) 1 T2.2.2.2 = Ib1 at hGb1 v31 ⊢
  refine q_ald rfl rfl ?_
  refine q_ic rfl ?_
  refine q_ic rfl ?_
  obtain ⟨T3, hT3⟩ : ∃ t, t = tkF (tbC I0) N m T2.2.2.1 := ⟨_, rfl⟩
  have hinT3 := tkF_in (b := tbC I0) (n := N) (m := m) (p := T2.2.2.1) hinT2.2.2.1
  refine tn_step (p := T2.2.2.1) rfl rfl rfl rfl gsT hGb1 hN hN9 hm v31 hinT2.2.2.1 ?_ ?_
  rotate_left
  · intro e I9 hI9 g7 g8
    rw [← hT3] at e g7 g8
    have e : nbF T3 0 9 ≠ 0 := e
    have eR : (gkS (tbC I0) N m T s) = (nbF T3 0 9, T3.2.1, 0, g0) := by simp only [gkS, nbG, stG, c0, ← hT1, eT1, ← hT2, eT2, ← hT3, e, ne_eq, not_false_eq_true, not_true_eq_false, ↓reduceIte]
    rw [eR] at hno
    exact hno e I9 _ hI9.1 g7 g8
  intro eT3 Ia2 hGa2 gT33 gT36
  rw [← hT3] at eT3 gT33 gT36 hinT3
  have eT3 : nbF T3 0 9 = 0 := eT3
  refine q_ald rfl rfl ?_
  refine q_getr rfl sk_101 sr_101_3 ?_
  refine q_ild rfl rfl ?_
  refine q_xaldr rfl sk_110 sn_110 (by omega) (show sv.toInt < (12 : Nat) by omega) (show (SH1 110).2.2 sv.toInt.toNat = some (111 + s.2.2.2.1.length) by rw [hsn]; exact r1) ?_
  refine q_ic rfl ?_
  refine q_ald rfl rfl ?_
  refine q_geti rfl sk_1 ?_
  refine q_iast rfl r2 r3 (by decide) (by decide) ?_
  show dw_ok (pr_X1_readShade K) 110 0 0 [some (.ref 101), some (.ref 1), some (.int sv)] [] (n, SH1, dw_up Ia2 (111 + s.2.2.2.1.length) 2 (Ia2 1 6), J)
  rw [gT36]
  have hGb2 : GSp I0 (dw_up Ia2 (111 + s.2.2.2.1.length) 2 T3.2.2.2) s (T1.2.2.2, T2.2.2.2, T3.2.2.2, 0) 3 := ⟨GR_s hGa2.1 (Nat.le_refl _) (by omega), fun _ => (up_fld (by decide)).trans (hGa2.2.1 (by decide)), fun _ => (up_fld (by decide)).trans (hGa2.2.2.1 (by decide)), fun _ => up_same, fun h => absurd h (by decide)⟩
  have v32 : (dw_up Ia2 (111 + s.2.2.2.1.length) 2 T3.2.2.2 1 3).toInt = T3.2.2.1 := by rw [up_row (show 1 ≠ 111 + s.2.2.2.1.length by omega)]; exact gT33
  generalize dw_up Ia2 (111 + s.2.2.2.1.length) 2 T3.2.2.2 = Ib2 at hGb2 v32 ⊢
  refine q_ald rfl rfl ?_
  refine q_ic rfl ?_
  refine q_ic rfl ?_
  obtain ⟨T4, hT4⟩ : ∃ t, t = tkF (tbC I0) N m T3.2.2.1 := ⟨_, rfl⟩
  have hinT4 := tkF_in (b := tbC I0) (n := N) (m := m) (p := T3.2.2.1) hinT3.2.2.1
  refine tn_step (p := T3.2.2.1) rfl rfl rfl rfl gsT hGb2 hN hN9 hm v32 hinT3.2.2.1 ?_ ?_
  rotate_left
  · intro e I9 hI9 g7 g8
    rw [← hT4] at e g7 g8
    have e : nbF T4 1 100 ≠ 0 := e
    have eR : (gkS (tbC I0) N m T s) = (nbF T4 1 100, T4.2.1, 0, g0) := by simp only [gkS, nbG, stG, c0, ← hT1, eT1, ← hT2, eT2, ← hT3, eT3, ← hT4, e, ne_eq, not_false_eq_true, not_true_eq_false, ↓reduceIte]
    rw [eR] at hno
    exact hno e I9 _ hI9.1 g7 g8
  intro eT4 Ia3 hGa3 gT43 gT46
  rw [← hT4] at eT4 gT43 gT46 hinT4
  have eT4 : nbF T4 1 100 = 0 := eT4
  refine q_ald rfl rfl ?_
  refine q_getr rfl sk_101 sr_101_3 ?_
  refine q_ild rfl rfl ?_
  refine q_xaldr rfl sk_110 sn_110 (by omega) (show sv.toInt < (12 : Nat) by omega) (show (SH1 110).2.2 sv.toInt.toNat = some (111 + s.2.2.2.1.length) by rw [hsn]; exact r1) ?_
  refine q_ic rfl ?_
  refine q_ald rfl rfl ?_
  refine q_geti rfl sk_1 ?_
  refine q_iast rfl r2 r3 (by decide) (by decide) ?_
  show dw_ok (pr_X1_readShade K) 134 0 0 [some (.ref 101), some (.ref 1), some (.int sv)] [] (n, SH1, dw_up Ia3 (111 + s.2.2.2.1.length) 3 (Ia3 1 6), J)
  rw [gT46]
  have hGb3 : GSp I0 (dw_up Ia3 (111 + s.2.2.2.1.length) 3 T4.2.2.2) s (T1.2.2.2, T2.2.2.2, T3.2.2.2, T4.2.2.2) 4 := ⟨GR_s hGa3.1 (Nat.le_refl _) (by omega), fun _ => (up_fld (by decide)).trans (hGa3.2.1 (by decide)), fun _ => (up_fld (by decide)).trans (hGa3.2.2.1 (by decide)), fun _ => (up_fld (by decide)).trans (hGa3.2.2.2.1 (by decide)), fun _ => up_same⟩
  have v33 : (dw_up Ia3 (111 + s.2.2.2.1.length) 3 T4.2.2.2 1 3).toInt = T4.2.2.1 := by rw [up_row (show 1 ≠ 111 + s.2.2.2.1.length by omega)]; exact gT43
  generalize dw_up Ia3 (111 + s.2.2.2.1.length) 3 T4.2.2.2 = Ib3 at hGb3 v33 ⊢
  have tv : (sv + 1).toInt = (s.2.2.2.1.length + 1 : Nat) := by rw [i_add (by omega) (by omega), c1]; omega
  have hRd := GS_done (x := sv + 1) hGb3 tv
  refine q_ald rfl rfl ?_
  refine q_getr rfl sk_101 sr_101_0 ?_
  refine q_ild rfl rfl ?_
  refine q_ic rfl ?_
  refine q_add rfl ?_
  refine q_puti rfl sk_102 ?_
  show dw_ok (pr_X1_readShade K) 144 0 0 [some (.ref 101), some (.ref 1), some (.int sv)] [] (n, SH1, dw_up Ib3 102 3 (sv + 1), J)
  have v3d : (dw_up Ib3 102 3 (sv + 1) 1 3).toInt = T4.2.2.1 := v33
  generalize dw_up Ib3 102 3 (sv + 1) = Id at hRd v3d ⊢
  refine q_ald rfl rfl ?_
  obtain ⟨T5, hT5⟩ : ∃ t, t = tkF (tbC I0) N m T4.2.2.1 := ⟨_, rfl⟩
  have hinT5 := tkF_in (b := tbC I0) (n := N) (m := m) (p := T4.2.2.1) hinT4.2.2.1
  refine ts_step (p := T4.2.2.1) rfl rfl grT hRd hN hN9 hm v3d hinT4.2.2.1 ?_ ?_
  rotate_left
  · intro e I9 hI9 g7 g8
    rw [← hT5] at e g8
    have eR : (gkS (tbC I0) N m T s) = (1, T5.2.1, 0, g0) := by simp only [gkS, nbG, stG, c0, ← hT1, eT1, ← hT2, eT2, ← hT3, eT3, ← hT4, eT4, ← hT5, e, ne_eq, not_false_eq_true, not_true_eq_false, ↓reduceIte]
    rw [eR] at hno
    exact hno (nn rfl) I9 _ hI9 g7 g8
  intro e I9 hI9 g3
  rw [← hT5] at e g3 hinT5
  have eR : (gkS (tbC I0) N m T s) = (0, 0, T5.2.2.1, s.1, s.2.1, s.2.2.1, (T1.2.2.2, T2.2.2.2, T3.2.2.2, T4.2.2.2) :: s.2.2.2.1, s.2.2.2.2) := by simp only [gkS, nbG, stG, c0, ← hT1, eT1, ← hT2, eT2, ← hT3, eT3, ← hT4, eT4, ← hT5, e, ne_eq, not_false_eq_true, not_true_eq_false, ↓reduceIte]
  rw [eR] at hok
  exact hok rfl I9 hI9 g3 hinT5.2.2.1 (show T.2.2.1 ≤ T5.2.2.1 by omega) ⟨hOK.1, hOK.2.1, hOK.2.2.1, show s.2.2.2.1.length + 1 ≤ 12 by omega, hOK.2.2.2.2.1, fun z hz => by
      have b1 := nb_r eT1
      have b2 := nb_r eT2
      have b3 := nb_r eT3
      have b4 := nb_r eT4
      rcases List.mem_cons.mp hz with rfl | hz
      · exact ⟨⟨b1.1, show T1.2.2.2.toInt ≤ 11 by omega⟩, ⟨b2.1, show T2.2.2.2.toInt ≤ 11 by omega⟩, b3, b4⟩
      · exact hOK.2.2.2.2.2 z hz⟩
set_option maxRecDepth 8000 in
set_option maxHeartbeats 2000000 in
theorem v_readStock {n : Nat} {I : Nat → Nat → Int32} {J : Nat → Nat → Int64} {K : dw_K} {I0 : Nat → Nat → Int32} {s : gS} {T : fT} {N m : Nat} (hR : GRp I0 I s) (hOK : gOK N s) (hN : (I0 1 1).toInt = N) (hN9 : N ≤ 940) (hm : (I0 1 2).toInt = m) (h3 : (I 1 3).toInt = T.2.2.1) (h4 : (I 1 4).toInt = T.2.1) (h5 : (I 1 5).toInt = T.1) (hTN : T.2.2.1 ≤ N) (hT2 : T.2.1 ≤ N)
    (hok : (gkW (tbC I0) N m T s).1 = 0 → ∀ I' : Nat → Nat → Int32, GRp I0 I' (gkW (tbC I0) N m T s).2.2.2 → (I' 1 3).toInt = (gkW (tbC I0) N m T s).2.2.1 → (gkW (tbC I0) N m T s).2.2.1 ≤ N → T.2.2.1 ≤ (gkW (tbC I0) N m T s).2.2.1 → gOK N (gkW (tbC I0) N m T s).2.2.2 → K (some (.int 1)) (n, SH1, I', J))
    (hno : (gkW (tbC I0) N m T s).1 ≠ 0 → ∀ (I' : Nat → Nat → Int32) (s' : gS), GRp I0 I' s' → (I' 1 7).toInt = (gkW (tbC I0) N m T s).1 → (I' 1 8).toInt = (gkW (tbC I0) N m T s).2.1 → K (some (.int 0)) (n, SH1, I', J)) : t_X1_readStock [.ref 101, .ref 1] (n, SH1, I, J) K := by
  have hk4 : (I 101 4).toInt = (if s.2.2.2.2 = none then 0 else 1) := hR.2.2.2.1
  refine q_body (Nat.le_of_ble_eq_true rfl) ?_
  refine q_ald rfl rfl ?_
  refine q_getz rfl sk_101 ?_
  refine q_if (c := 0) rfl (by decide) (fun g => ?_) (fun g => ?_)
  rotate_left
  · have g : (I 101 4).toInt ≠ 0 := g
    have c0 : ¬ (s.2.2.2.2 = none) := fun h => g (by rw [hk4, if_pos h])
    refine q_ald rfl rfl ?_
    refine q_ic rfl ?_
    refine fl_step (c := 3) rfl rfl (grT (s := s)) hR (fun I1 hI1 g7 g8 => ?_)
    rw [h4] at g8
    have eR : (gkW (tbC I0) N m T s) = (3, T.2.1, 0, g0) := by simp only [gkW, nbG, stG, c0, ne_eq, not_false_eq_true, not_true_eq_false, ↓reduceIte]
    rw [eR] at hno
    exact hno (nn rfl) I1 _ hI1 g7 g8
  have g : (I 101 4).toInt = 0 := g
  have c0 : s.2.2.2.2 = none := by
    by_cases e : s.2.2.2.2 = none
    · exact e
    · rw [if_neg e] at hk4; omega
  refine q_ald rfl rfl ?_
  refine q_ic rfl ?_
  refine q_ic rfl ?_
  obtain ⟨T1, hT1⟩ : ∃ t, t = tkF (tbC I0) N m T.2.2.1 := ⟨_, rfl⟩
  have hinT1 := tkF_in (b := tbC I0) (n := N) (m := m) (p := T.2.2.1) hTN
  refine tn_step (p := T.2.2.1) rfl rfl rfl rfl (grT (s := s)) hR hN hN9 hm h3 hTN ?_ ?_
  rotate_left
  · intro e I9 hI9 g7 g8
    rw [← hT1] at e g7 g8
    have e : nbF T1 0 999 ≠ 0 := e
    have eR : (gkW (tbC I0) N m T s) = (nbF T1 0 999, T1.2.1, 0, g0) := by simp only [gkW, nbG, stG, c0, ← hT1, e, ne_eq, not_false_eq_true, not_true_eq_false, ↓reduceIte]
    rw [eR] at hno
    exact hno e I9 _ hI9 g7 g8
  intro eT1 I1 hI1 gT13 gT16
  rw [← hT1] at eT1 gT13 gT16 hinT1
  have eT1 : nbF T1 0 999 = 0 := eT1
  refine q_ald rfl rfl ?_
  refine q_ic rfl ?_
  refine q_putz rfl sk_101 (Or.inr rfl) ?_
  refine q_ald rfl rfl ?_
  refine q_getr rfl sk_101 sr_101_0 ?_
  refine q_ald rfl rfl ?_
  refine q_geti rfl sk_1 ?_
  refine q_puti rfl sk_102 ?_
  show dw_ok (pr_X1_readStock K) 42 0 0 [some (.ref 101), some (.ref 1)] [] (n, SH1, dw_up (dw_up I1 101 4 1) 102 4 (I1 1 6), J)
  rw [gT16]
  have hRd := GR_stock (v := T1.2.2.2) hI1
  have v3 : (dw_up (dw_up I1 101 4 1) 102 4 T1.2.2.2 1 3).toInt = T1.2.2.1 := gT13
  generalize dw_up (dw_up I1 101 4 1) 102 4 T1.2.2.2 = I2 at hRd v3 ⊢
  refine q_ald rfl rfl ?_
  obtain ⟨T2, hT2⟩ : ∃ t, t = tkF (tbC I0) N m T1.2.2.1 := ⟨_, rfl⟩
  have hinT2 := tkF_in (b := tbC I0) (n := N) (m := m) (p := T1.2.2.1) hinT1.2.2.1
  refine ts_step (p := T1.2.2.1) rfl rfl grT hRd hN hN9 hm v3 hinT1.2.2.1 ?_ ?_
  rotate_left
  · intro e I9 hI9 g7 g8
    rw [← hT2] at e g8
    have eR : (gkW (tbC I0) N m T s) = (1, T2.2.1, 0, g0) := by simp only [gkW, nbG, stG, c0, ← hT1, eT1, ← hT2, e, ne_eq, not_false_eq_true, not_true_eq_false, ↓reduceIte]
    rw [eR] at hno
    exact hno (nn rfl) I9 _ hI9 g7 g8
  intro e I9 hI9 g3
  rw [← hT2] at e g3 hinT2
  have eR : (gkW (tbC I0) N m T s) = (0, 0, T2.2.2.1, s.1, s.2.1, s.2.2.1, s.2.2.2.1, some T1.2.2.2) := by simp only [gkW, nbG, stG, c0, ← hT1, eT1, ← hT2, e, ne_eq, not_false_eq_true, not_true_eq_false, ↓reduceIte]
  rw [eR] at hok
  exact hok rfl I9 hI9 g3 hinT2.2.2.1 (show T.2.2.1 ≤ T2.2.2.1 by omega) hOK
set_option maxRecDepth 8000 in
theorem v_gline {n : Nat} {I : Nat → Nat → Int32} {J : Nat → Nat → Int64} {K : dw_K} {I0 : Nat → Nat → Int32} {s : gS} {T : fT} {N m : Nat} (hR : GRp I0 I s) (hOK : gOK N s) (hN : (I0 1 1).toInt = N) (hN9 : N ≤ 940) (hm : (I0 1 2).toInt = m) (h3 : (I 1 3).toInt = T.2.2.1) (h4 : (I 1 4).toInt = T.2.1) (h5 : (I 1 5).toInt = T.1) (hTN : T.2.2.1 ≤ N) (hT2 : T.2.1 ≤ N)
    (hok : (gkF (tbC I0) N m T s).1 = 0 → ∀ I' : Nat → Nat → Int32, GRp I0 I' (gkF (tbC I0) N m T s).2.2.2 → (I' 1 3).toInt = (gkF (tbC I0) N m T s).2.2.1 → (gkF (tbC I0) N m T s).2.2.1 ≤ N → T.2.2.1 ≤ (gkF (tbC I0) N m T s).2.2.1 → gOK N (gkF (tbC I0) N m T s).2.2.2 → K (some (.int 1)) (n, SH1, I', J))
    (hno : (gkF (tbC I0) N m T s).1 ≠ 0 → ∀ (I' : Nat → Nat → Int32) (s' : gS), GRp I0 I' s' → (I' 1 7).toInt = (gkF (tbC I0) N m T s).1 → (I' 1 8).toInt = (gkF (tbC I0) N m T s).2.1 → K (some (.int 0)) (n, SH1, I', J)) : t_X1_readLine [.ref 101, .ref 1] (n, SH1, I, J) K := by
  have e1 : I 1 1 = I0 1 1 := hR.2.1 1 (by decide)
  have hN1 : (I 1 1).toInt = N := by rw [e1]; exact hN
  have hb : tbC I = tbC I0 := tbC_eq e1 (hR.1 2 (by decide) (by decide))
  refine q_body (Nat.le_of_ble_eq_true rfl) ?_
  refine q_ald rfl rfl ?_
  refine q_str rfl ?_
  refine q_callV (as := [.ref 1000001]) (rest := []) rfl rfl sk_1 rfl (Nat.le_of_ble_eq_true rfl) ?_
  refine v_says (T := T) (w := dw_sb 0) hN1 hN9 ⟨by decide, by decide⟩ rfl (st_ok (by decide)).1 (st_ok (by decide)).2 h3 h4 h5 hTN hT2 (fun v vc => ?_)
  rw [hb] at vc
  show dw_ok (pr_X1_readLine K) 6 0 0 [some (.ref 101), some (.ref 1)] [.int v] (n, SH1, I, J)
  rcases vc with ⟨rfl, s0⟩ | ⟨rfl, s0⟩
  · have eR : (gkF (tbC I0) N m T s) = gkA (tbC I0) N m T s := by unfold gkF; rw [if_pos s0]
    rw [eR] at hok hno
    refine q_if (c := 0) rfl (by decide) (fun h => absurd (show (1 : Int32).toInt = 0 from h) (by decide)) (fun _ => ?_)
    refine q_ald rfl rfl ?_
    refine q_ald rfl rfl ?_
    refine q_callV (as := [.ref 1]) (rest := []) rfl rfl sk_101 rfl (Nat.le_of_ble_eq_true rfl) ?_
    exact v_readKind hR hOK hN hN9 hm h3 h4 h5 hTN hT2 (fun e I1 a1 a2 a3 a4 a5 => q_zret rfl (Or.inr rfl) (hok e I1 a1 a2 a3 a4 a5)) (fun e I1 s1 a1 a2 a3 => q_zret rfl (Or.inl rfl) (hno e I1 s1 a1 a2 a3))
  refine q_if (c := 0) rfl (by decide) (fun _ => ?_) (fun h => absurd rfl h)
  refine q_ald rfl rfl ?_
  refine q_str rfl ?_
  refine q_callV (as := [.ref 1000016]) (rest := []) rfl rfl sk_1 rfl (Nat.le_of_ble_eq_true rfl) ?_
  refine v_says (T := T) (w := dw_sb 15) hN1 hN9 ⟨by decide, by decide⟩ rfl (st_ok (by decide)).1 (st_ok (by decide)).2 h3 h4 h5 hTN hT2 (fun v vc => ?_)
  rw [hb] at vc
  show dw_ok (pr_X1_readLine K) 21 0 0 [some (.ref 101), some (.ref 1)] [.int v] (n, SH1, I, J)
  rcases vc with ⟨rfl, s15⟩ | ⟨rfl, s15⟩
  · have eR : (gkF (tbC I0) N m T s) = gkR (tbC I0) N m T s := by unfold gkF; rw [if_neg s0, if_pos s15]
    rw [eR] at hok hno
    refine q_if (c := 0) rfl (by decide) (fun h => absurd (show (1 : Int32).toInt = 0 from h) (by decide)) (fun _ => ?_)
    refine q_ald rfl rfl ?_
    refine q_ald rfl rfl ?_
    refine q_callV (as := [.ref 1]) (rest := []) rfl rfl sk_101 rfl (Nat.le_of_ble_eq_true rfl) ?_
    exact v_readRow hR hOK hN hN9 hm h3 h4 h5 hTN hT2 (fun e I1 a1 a2 a3 a4 a5 => q_zret rfl (Or.inr rfl) (hok e I1 a1 a2 a3 a4 a5)) (fun e I1 s1 a1 a2 a3 => q_zret rfl (Or.inl rfl) (hno e I1 s1 a1 a2 a3))
  refine q_if (c := 0) rfl (by decide) (fun _ => ?_) (fun h => absurd rfl h)
  refine q_ald rfl rfl ?_
  refine q_str rfl ?_
  refine q_callV (as := [.ref 1000017]) (rest := []) rfl rfl sk_1 rfl (Nat.le_of_ble_eq_true rfl) ?_
  refine v_says (T := T) (w := dw_sb 16) hN1 hN9 ⟨by decide, by decide⟩ rfl (st_ok (by decide)).1 (st_ok (by decide)).2 h3 h4 h5 hTN hT2 (fun v vc => ?_)
  rw [hb] at vc
  show dw_ok (pr_X1_readLine K) 36 0 0 [some (.ref 101), some (.ref 1)] [.int v] (n, SH1, I, J)
  rcases vc with ⟨rfl, s16⟩ | ⟨rfl, s16⟩
  · have eR : (gkF (tbC I0) N m T s) = gkS (tbC I0) N m T s := by unfold gkF; rw [if_neg s0, if_neg s15, if_pos s16]
    rw [eR] at hok hno
    refine q_if (c := 0) rfl (by decide) (fun h => absurd (show (1 : Int32).toInt = 0 from h) (by decide)) (fun _ => ?_)
    refine q_ald rfl rfl ?_
    refine q_ald rfl rfl ?_
    refine q_callV (as := [.ref 1]) (rest := []) rfl rfl sk_101 rfl (Nat.le_of_ble_eq_true rfl) ?_
    exact v_readShade hR hOK hN hN9 hm h3 h4 h5 hTN hT2 (fun e I1 a1 a2 a3 a4 a5 => q_zret rfl (Or.inr rfl) (hok e I1 a1 a2 a3 a4 a5)) (fun e I1 s1 a1 a2 a3 => q_zret rfl (Or.inl rfl) (hno e I1 s1 a1 a2 a3))
  refine q_if (c := 0) rfl (by decide) (fun _ => ?_) (fun h => absurd rfl h)
  refine q_ald rfl rfl ?_
  refine q_str rfl ?_
  refine q_callV (as := [.ref 1000018]) (rest := []) rfl rfl sk_1 rfl (Nat.le_of_ble_eq_true rfl) ?_
  refine v_says (T := T) (w := dw_sb 17) hN1 hN9 ⟨by decide, by decide⟩ rfl (st_ok (by decide)).1 (st_ok (by decide)).2 h3 h4 h5 hTN hT2 (fun v vc => ?_)
  rw [hb] at vc
  show dw_ok (pr_X1_readLine K) 51 0 0 [some (.ref 101), some (.ref 1)] [.int v] (n, SH1, I, J)
  rcases vc with ⟨rfl, s17⟩ | ⟨rfl, s17⟩
  · have eR : (gkF (tbC I0) N m T s) = gkW (tbC I0) N m T s := by unfold gkF; rw [if_neg s0, if_neg s15, if_neg s16, if_pos s17]
    rw [eR] at hok hno
    refine q_if (c := 0) rfl (by decide) (fun h => absurd (show (1 : Int32).toInt = 0 from h) (by decide)) (fun _ => ?_)
    refine q_ald rfl rfl ?_
    refine q_ald rfl rfl ?_
    refine q_callV (as := [.ref 1]) (rest := []) rfl rfl sk_101 rfl (Nat.le_of_ble_eq_true rfl) ?_
    exact v_readStock hR hOK hN hN9 hm h3 h4 h5 hTN hT2 (fun e I1 a1 a2 a3 a4 a5 => q_zret rfl (Or.inr rfl) (hok e I1 a1 a2 a3 a4 a5)) (fun e I1 s1 a1 a2 a3 => q_zret rfl (Or.inl rfl) (hno e I1 s1 a1 a2 a3))
  refine q_if (c := 0) rfl (by decide) (fun _ => ?_) (fun h => absurd rfl h)
  refine q_ald rfl rfl ?_
  refine q_ic rfl ?_
  refine fl_step (c := 1) rfl rfl (grT (s := s)) hR (fun I1 hI1 g7 g8 => ?_)
  rw [h4] at g8
  have eR : (gkF (tbC I0) N m T s) = (1, T.2.1, 0, g0) := by simp only [gkF, s0, s15, s16, s17, ne_eq, not_false_eq_true, not_true_eq_false, ↓reduceIte]
  rw [eR] at hno
  exact hno (nn rfl) I1 _ hI1 g7 g8
