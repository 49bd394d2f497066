/-! ===== a GROUND's lines read by the model ===== -/
set_option maxRecDepth 8000 in
set_option maxHeartbeats 4000000 in
theorem v_mkind {n : Nat} {I : Nat → Nat → Int32} {J : Nat → Nat → Int64} {K : dw_K} {I0 : Nat → Nat → Int32} {J0 : Nat → Nat → Int64} {s : gS} {T : fT} {N m : Nat} (hR : GMp I0 J0 I J s) (hOK : gOK N s) (hLet : gLet (tbM I0) s) (hJ : mRes J0) (hN : (I0 404 3).toInt = N) (hN9 : N ≤ 940) (hm : (I0 404 5).toInt = m) (hT : MK (tbM I0) T I J) (hTN : T.2.2.1 ≤ N) (hw1 : T.1 = 1)
    (hok : ∀ (T' : fT) (p' : Nat) (s' : gS) (I' : Nat → Nat → Int32) (J' : Nat → Nat → Int64), (gkA (tbM I0) N m T s) = stG T' (fun p => (0, 0, p, s')) → T' = tkF (tbM I0) N m p' → p' ≤ N → T.2.2.1 ≤ p' → MK (tbM I0) T' I' J' → GMp I0 J0 I' J' s' → gOK N s' → gLet (tbM I0) s' → K (some (.int 1)) (n, SH1, I', J'))
    (hno : (gkA (tbM I0) N m T s).1 ≠ 0 → ∀ (I' : Nat → Nat → Int32) (J' : Nat → Nat → Int64), GMf I0 J0 I' J' → (I' 404 15).toInt = (gkA (tbM I0) N m T s).1 → (I' 404 16).toInt = (gkA (tbM I0) N m T s).2.1 → K (some (.int 0)) (n, SH1, I', J')) : t_X12_readKind [.ref 404] (n, SH1, I, J) K := by
  have c8 : (8 : Int32).toInt = 8 := rfl
  have c5 : (5 : Int32).toInt = 5 := rfl
  have c13 : (13 : Int32).toInt = 13 := rfl
  have c21 : (21 : Int32).toInt = 21 := rfl
  have c2 : (2 : Int32).toInt = 2 := rfl
  have c1 : (1 : Int32).toInt = 1 := rfl
  have hk1 : (I 407 1).toInt = s.2.2.1.length := hR.2.1.2.1
  have hk2 : (I 407 2).toInt = s.1.length := hR.2.1.2.2.1
  have hK8 := hOK.1
  have h144 : s.1.length ≤ 8 ∧ s.2.2.1.length * s.2.1 ≤ 144 := ⟨hOK.1, Nat.le_trans (Nat.mul_le_mul hOK.2.2.1 hOK.2.1) (Nat.le_of_ble_eq_true rfl)⟩
  refine q_body (Nat.le_of_ble_eq_true rfl) ?_
  refine q_ald rfl rfl ?_
  refine q_getr rfl sk_404 sr_404_7 ?_
  refine q_ic rfl ?_
  refine q_xald rfl (Or.inl rfl) sk_407 sn_407 (by decide) (by decide) ?_
  refine q_ist rfl rfl ?_
  show dw_ok (pr_X12_readKind K) 7 0 0 [some (.ref 404), some (.int (I 407 2)), none] [] (n, SH1, I, J)
  refine q_ald rfl rfl ?_
  refine q_getr rfl sk_404 sr_404_7 ?_
  refine q_ic rfl ?_
  refine q_xald rfl (Or.inl rfl) sk_407 sn_407 (by decide) (by decide) ?_
  show dw_ok (pr_X12_readKind K) 13 0 0 [some (.ref 404), some (.int (I 407 2)), none] [.int (I 407 1)] (n, SH1, I, J)
  generalize I 407 2 = kv at hk2 ⊢
  refine q_if (c := 5) rfl (by decide) (fun g => ?_) (fun g => ?_)
  rotate_left
  · have g : 0 < (I 407 1).toInt := g
    have c0 : 0 < s.2.2.1.length := by omega
    refine q_ald rfl rfl ?_
    refine q_ic rfl ?_
    refine mb_step (c := 3) rfl rfl gfV hR.1 (fun I9 J9 hI9 g7 g8 => ?_)
    rw [hT.2.1] at g8
    have eR : (gkA (tbM I0) N m T s) = (3, T.2.1, 0, g0) := by simp only [gkA, nbG, c0, ne_eq, not_false_eq_true, not_true_eq_false, ↓reduceIte]
    rw [eR] at hno
    exact hno (nn rfl) I9 J9 hI9 g7 g8
  have g : (I 407 1).toInt ≤ 0 := g
  have c0 : ¬ (0 < s.2.2.1.length) := by omega
  refine q_ild rfl rfl ?_
  refine q_ic rfl ?_
  refine q_icmp (c := 1) rfl (by decide) (fun g => ?_) (fun g => ?_)
  rotate_left
  · have g : kv.toInt = (8 : Int32).toInt := g
    have d8 : 8 ≤ s.1.length := by omega
    refine q_ald rfl rfl ?_
    refine q_ic rfl ?_
    refine mb_step (c := 4) rfl rfl gfV hR.1 (fun I9 J9 hI9 g7 g8 => ?_)
    rw [hT.2.1] at g8
    have eR : (gkA (tbM I0) N m T s) = (4, T.2.1, 0, g0) := by simp only [gkA, nbG, c0, d8, ne_eq, not_false_eq_true, not_true_eq_false, ↓reduceIte]
    rw [eR] at hno
    exact hno (nn rfl) I9 J9 hI9 g7 g8
  have g : kv.toInt ≠ (8 : Int32).toInt := g
  have d8 : ¬ (8 ≤ s.1.length) := by omega
  refine q_ald rfl rfl ?_
  obtain ⟨T1, hT1⟩ : ∃ t, t = tkF (tbM I0) N m T.2.2.1 := ⟨_, rfl⟩
  have hinT1 := tkF_in (b := tbM I0) (n := N) (m := m) (p := T.2.2.1) hTN
  refine mn_step (p := T.2.2.1) rfl gmV hR hN hN9 hm hTN (hT.2.2.1 (Or.inl hw1)) (fun I1 J1 hR1 hMT1 => ?_)
  rw [← hT1] at hMT1 hinT1
  have hword := tk_word (b := tbM I0) (n := N) (m := m) (p := T.2.2.1)
  rw [← hT1] at hword
  refine q_ald rfl rfl ?_
  refine q_callV (as := []) (rest := []) rfl rfl sk_404 rfl (Nat.le_of_ble_eq_true rfl) ?_
  have hM1 := hMT1
  rw [hT1] at hM1
  refine v_isName hM1 hTN (mRes_eq hJ (hR1.1.2.2.1 410 (by decide) (by decide))) (fun v hv => ?_)
  rw [← hT1] at hv
  show dw_ok (pr_X12_readKind K) 42 0 0 [some (.ref 404), some (.int kv), none] [.int v] (n, SH1, I1, J1)
  rcases hv with ⟨rfl, eT1, y⟩ | ⟨rfl, hv⟩
  rotate_left
  · refine q_if (c := 1) rfl (by decide) (fun h => absurd rfl h) (fun _ => ?_)
    refine q_ald rfl rfl ?_
    refine q_ic rfl ?_
    refine mb_step (c := 1) rfl rfl gfV hR1.1 (fun I9 J9 hI9 g7 g8 => ?_)
    rw [hMT1.2.1] at g8
    have eR : (gkA (tbM I0) N m T s) = (1, T1.2.1, 0, g0) := by
      by_cases e : T1.1 = 1
      · have y : tdF (tbM I0) T1 := by
          by_cases y : tdF (tbM I0) T1
          · exact y
          · exact absurd ⟨e, y⟩ hv
        simp only [gkA, nbG, c0, d8, ← hT1, e, y, ne_eq, not_false_eq_true, not_true_eq_false, ↓reduceIte]
      · simp only [gkA, nbG, c0, d8, ← hT1, e, ne_eq, not_false_eq_true, not_true_eq_false, ↓reduceIte]
    rw [eR] at hno
    exact hno (nn rfl) I9 J9 hI9 g7 g8
  obtain ⟨d1, d2, d3⟩ := hword eT1 hTN
  refine q_if (c := 1) rfl (by decide) (fun _ => ?_) (fun h => absurd (show (1 : Int32).toInt = 0 from h) (by decide))
  refine q_ic rfl ?_
  refine q_ist rfl rfl ?_
  refine mm_loop (T := T1) hR1 hOK hLet hMT1 eT1 d2 (by omega) d3 hk2 (fun y2 I9 J9 hI9 g7 g8 => ?_) (fun y2 x => ?_) s.1.length 0 0 rfl (Nat.zero_le _) (Nat.le_refl _) (fun j hj => absurd hj (Nat.not_lt_zero j))
  · skip
    have eR : (gkA (tbM I0) N m T s) = (3, T1.2.1, 0, g0) := by simp only [gkA, nbG, c0, d8, ← hT1, eT1, y, y2, ne_eq, not_false_eq_true, not_true_eq_false, ↓reduceIte]
    rw [eR] at hno
    exact hno (nn rfl) I9 J9 hI9 g7 g8
  have hkn : kv.toInt.toNat = s.1.length := by omega
  have tm : (2 * kv).toInt = 2 * s.1.length := i_mul (by rw [c2, hk2]) (by omega) (by omega)
  have tm1 : (2 * kv + 1).toInt = 2 * s.1.length + 1 := by rw [i_add (by omega) (by omega), tm, c1]
  have t5 : (5 + kv).toInt = 5 + s.1.length := by rw [i_add (by omega) (by omega), c5, hk2]
  have t13 : (13 + kv).toInt = 13 + s.1.length := by rw [i_add (by omega) (by omega), c13, hk2]
  have t21 : (21 + kv).toInt = 21 + s.1.length := by rw [i_add (by omega) (by omega), c21, hk2]
  have nm : (2 * kv).toInt.toNat = 2 * s.1.length := by omega
  have nm1 : (2 * kv + 1).toInt.toNat = 2 * s.1.length + 1 := by omega
  have n5 : (5 + kv).toInt.toNat = 5 + s.1.length := by omega
  have n13 : (13 + kv).toInt.toNat = 13 + s.1.length := by omega
  have n21 : (21 + kv).toInt.toNat = 21 + s.1.length := by omega
  refine q_ald rfl rfl ?_
  refine q_getr rfl sk_404 sr_404_9 ?_
  refine q_ic rfl ?_
  refine q_ild rfl rfl ?_
  refine q_mul rfl ?_
  refine q_ald rfl rfl ?_
  refine q_getl rfl sk_404 ?_
  refine q_last rfl sk_409 sn_409 (by omega) (show (2 * kv).toInt < (16 : Nat) by omega) ?_
  refine q_ald rfl rfl ?_
  refine q_getr rfl sk_404 sr_404_9 ?_
  refine q_ic rfl ?_
  refine q_ild rfl rfl ?_
  refine q_mul rfl ?_
  refine q_ic rfl ?_
  refine q_add rfl ?_
  refine q_ald rfl rfl ?_
  refine q_getl rfl sk_404 ?_
  refine q_last rfl sk_409 sn_409 (by omega) (show (2 * kv + 1).toInt < (16 : Nat) by omega) ?_
  show dw_ok (pr_X12_readKind K) 130 0 0 [some (.ref 404), some (.int kv), some (.int x)] [] (n, SH1, I1, dw_up (dw_up J1 409 (2 * kv).toInt.toNat (J1 404 17)) 409 (2 * kv + 1).toInt.toNat (J1 404 18))
  rw [nm, nm1]
  obtain ⟨sp, wd1, wd2⟩ := hMT1.2.2.2.2.2 eT1
  have hG2 : GKm I0 J0 I1 (dw_up (dw_up J1 409 (2 * s.1.length) (J1 404 17)) 409 (2 * s.1.length + 1) (J1 404 18)) s (T1.2.1, T1.2.2.1 - T1.2.1, 0, 0, 0) 0 := ⟨GM_J (GM_J hR1 (by omega)) (by omega), ⟨(up_fld (by omega)).trans (up_same.trans wd1), up_same.trans wd2⟩, fun h => absurd h (by decide), fun h => absurd h (by decide)⟩
  generalize dw_up (dw_up J1 409 (2 * s.1.length) (J1 404 17)) 409 (2 * s.1.length + 1) (J1 404 18) = J2 at hG2 ⊢
  refine q_ald rfl rfl ?_
  obtain ⟨T2, hT2⟩ : ∃ t, t = tkF (tbM I0) N m T1.2.2.1 := ⟨_, rfl⟩
  have hinT2 := tkF_in (b := tbM I0) (n := N) (m := m) (p := T1.2.2.1) hinT1.2.2.1
  refine mn_step (p := T1.2.2.1) rfl gkmV hG2 hN hN9 hm hinT1.2.2.1 (hMT1.2.2.1 (Or.inl eT1)) (fun I3 J3 hG3 hMT2 => ?_)
  rw [← hT2] at hMT2 hinT2
  refine q_ald rfl rfl ?_
  refine q_ic rfl ?_
  refine q_ic rfl ?_
  obtain ⟨T3, hT3⟩ : ∃ t, t = tkF (tbM I0) N m T2.2.2.1 := ⟨_, rfl⟩
  have hinT3 := tkF_in (b := tbM I0) (n := N) (m := m) (p := T2.2.2.1) hinT2.2.2.1
  refine mt_step (T := T2) rfl rfl rfl rfl gkmV hG3 hN hN9 hm hMT2 hinT2.2.2.1 ?_ ?_
  rotate_left
  · intro e I9 J9 hI9 g7 g8
    have e : nbF T2 1 50 ≠ 0 := e
    have eR : (gkA (tbM I0) N m T s) = (nbF T2 1 50, T2.2.1, 0, g0) := by simp only [gkA, nbG, c0, d8, ← hT1, eT1, y, y2, ← hT2, e, ne_eq, not_false_eq_true, not_true_eq_false, ↓reduceIte]
    rw [eR] at hno
    exact hno e I9 J9 hI9.1.1 g7 g8
  intro eT2 I4 J4 hG4 hMT3 gT2
  rw [← hT3] at hMT3 hinT3
  have eT2 : nbF T2 1 50 = 0 := eT2
  refine q_ald rfl rfl ?_
  refine q_getr rfl sk_404 sr_404_7 ?_
  refine q_ic rfl ?_
  refine q_ild rfl rfl ?_
  refine q_add rfl ?_
  refine q_ald rfl rfl ?_
  refine q_geti rfl sk_404 ?_
  refine q_iast rfl sk_407 sn_407 (by omega) (show (5 + kv).toInt < (221 : Nat) by omega) ?_
  show dw_ok (pr_X12_readKind K) 158 0 0 [some (.ref 404), some (.int kv), some (.int x)] [] (n, SH1, dw_up I4 407 (5 + kv).toInt.toNat (I4 404 19), J4)
  rw [n5, gT2]
  have hG5 : GKm I0 J0 (dw_up I4 407 (5 + s.1.length) T2.2.2.2) J4 s (T1.2.1, T1.2.2.1 - T1.2.1, T2.2.2.2, 0, 0) 1 := ⟨GM_h hG4.1 h144 (Or.inl ⟨s.1.length, Nat.le_refl _, by omega, Or.inl rfl⟩), hG4.2.1, fun _ => up_same, fun h => absurd h (by decide)⟩
  have hM5 := MK_eq (I' := dw_up I4 407 (5 + s.1.length) T2.2.2.2) hMT3 (up_row (by decide)) rfl
  generalize dw_up I4 407 (5 + s.1.length) T2.2.2.2 = I5 at hG5 hM5 ⊢
  refine q_ald rfl rfl ?_
  refine q_ic rfl ?_
  refine q_ic rfl ?_
  obtain ⟨T4, hT4⟩ : ∃ t, t = tkF (tbM I0) N m T3.2.2.1 := ⟨_, rfl⟩
  have hinT4 := tkF_in (b := tbM I0) (n := N) (m := m) (p := T3.2.2.1) hinT3.2.2.1
  refine mt_step (T := T3) rfl rfl rfl rfl gkmV hG5 hN hN9 hm hM5 hinT3.2.2.1 ?_ ?_
  rotate_left
  · intro e I9 J9 hI9 g7 g8
    have e : nbF T3 0 99 ≠ 0 := e
    have eR : (gkA (tbM I0) N m T s) = (nbF T3 0 99, T3.2.1, 0, g0) := by simp only [gkA, nbG, c0, d8, ← hT1, eT1, y, y2, ← hT2, eT2, ← hT3, e, ne_eq, not_false_eq_true, not_true_eq_false, ↓reduceIte]
    rw [eR] at hno
    exact hno e I9 J9 hI9.1.1 g7 g8
  intro eT3 I6 J6 hG6 hMT4 gT3
  rw [← hT4] at hMT4 hinT4
  have eT3 : nbF T3 0 99 = 0 := eT3
  refine q_ald rfl rfl ?_
  refine q_getr rfl sk_404 sr_404_7 ?_
  refine q_ic rfl ?_
  refine q_ild rfl rfl ?_
  refine q_add rfl ?_
  refine q_ald rfl rfl ?_
  refine q_geti rfl sk_404 ?_
  refine q_iast rfl sk_407 sn_407 (by omega) (show (13 + kv).toInt < (221 : Nat) by omega) ?_
  refine q_ald rfl rfl ?_
  refine q_getr rfl sk_404 sr_404_7 ?_
  refine q_ic rfl ?_
  refine q_ild rfl rfl ?_
  refine q_add rfl ?_
  refine q_ic rfl ?_
  refine q_iast rfl sk_407 sn_407 (by omega) (show (21 + kv).toInt < (221 : Nat) by omega) ?_
  show dw_ok (pr_X12_readKind K) 193 0 0 [some (.ref 404), some (.int kv), some (.int x)] [] (n, SH1, dw_up (dw_up I6 407 (13 + kv).toInt.toNat (I6 404 19)) 407 (21 + kv).toInt.toNat 0, J6)
  rw [n13, n21, gT3]
  have hG7 : GKm I0 J0 (dw_up (dw_up I6 407 (13 + s.1.length) T3.2.2.2) 407 (21 + s.1.length) 0) J6 s (T1.2.1, T1.2.2.1 - T1.2.1, T2.2.2.2, T3.2.2.2, 0) 2 := ⟨GM_h (GM_h hG6.1 h144 (Or.inl ⟨s.1.length, Nat.le_refl _, by omega, Or.inr (Or.inl rfl)⟩)) h144 (Or.inl ⟨s.1.length, Nat.le_refl _, by omega, Or.inr (Or.inr rfl)⟩), hG6.2.1, fun _ => (up_fld (by omega)).trans ((up_fld (by omega)).trans (hG6.2.2.1 (by decide))), fun _ => ⟨(up_fld (by omega)).trans up_same, up_same⟩⟩
  have hM7 := MK_eq (I' := dw_up (dw_up I6 407 (13 + s.1.length) T3.2.2.2) 407 (21 + s.1.length) 0) hMT4 ((up_row (by decide)).trans (up_row (by decide))) rfl
  generalize dw_up (dw_up I6 407 (13 + s.1.length) T3.2.2.2) 407 (21 + s.1.length) 0 = I7 at hG7 hM7 ⊢
  have hmem : ∀ (a b c : Int32), gOK N ((T1.2.1, T1.2.2.1 - T1.2.1, a, b, c) :: s.1, s.2) ∧ gLet (tbM I0) ((T1.2.1, T1.2.2.1 - T1.2.1, a, b, c) :: s.1, s.2) := by
    intro a b c
    have q := hinT1.2.2.1
    refine ⟨⟨show s.1.length + 1 ≤ 8 by omega, hOK.2.1, hOK.2.2.1, hOK.2.2.2.1, fun z hz => ?_, hOK.2.2.2.2.2⟩, fun z hz => ?_⟩
    · rcases List.mem_cons.mp hz with rfl | hz
      · exact ⟨show T1.2.1 + (T1.2.2.1 - T1.2.1) ≤ N by omega, show T1.2.2.1 - T1.2.1 ≤ 12 by omega, show 1 ≤ T1.2.2.1 - T1.2.1 by omega⟩
      · exact hOK.2.2.2.2.1 z hz
    · rcases List.mem_cons.mp hz with rfl | hz
      · exact d3
      · exact hLet z hz
  -- the kinds' number, the end
  have fin : ∀ (T' : fT) (p' : Nat) (x5 : Int32) (I' : Nat → Nat → Int32) (J' : Nat → Nat → Int64), (gkA (tbM I0) N m T s) = stG T' (fun p => (0, 0, p, (T1.2.1, T1.2.2.1 - T1.2.1, T2.2.2.2, T3.2.2.2, x5) :: s.1, s.2)) → T' = tkF (tbM I0) N m p' → p' ≤ N → T.2.2.1 ≤ p' → MK (tbM I0) T' I' J' → GKm I0 J0 I' J' s (T1.2.1, T1.2.2.1 - T1.2.1, T2.2.2.2, T3.2.2.2, x5) 2 → dw_ok (pr_X12_readKind K) 232 0 0 [some (.ref 404), some (.int kv), some (.int x)] [] (n, SH1, I', J') := by
    intro T' p' x5 I' J' eG eT' hp' hpp hM' hG'
    have hk' : (I' 407 2).toInt = s.1.length := hG'.1.2.1.2.2.1
    have tv : (I' 407 2 + 1).toInt = (s.1.length + 1 : Nat) := by rw [i_add (by omega) (by omega), c1, hk']; omega
    refine q_ald rfl rfl ?_
    refine q_getr rfl sk_404 sr_404_7 ?_
    refine q_ic rfl ?_
    refine q_dup2 rfl ?_
    refine q_xald rfl (Or.inl rfl) sk_407 sn_407 (by decide) (by decide) ?_
    refine q_ic rfl ?_
    refine q_add rfl ?_
    refine q_iast rfl sk_407 sn_407 (by decide) (by decide) ?_
    show dw_ok (pr_X12_readKind K) 242 0 0 [some (.ref 404), some (.int kv), some (.int x)] [] (n, SH1, dw_up I' 407 2 (I' 407 2 + 1), J')
    refine q_ic rfl ?_
    exact q_zret rfl (Or.inr rfl) (hok T' p' _ _ _ eG eT' hp' hpp (MK_eq hM' (up_row (by decide)) rfl) (GKm_done hG' tv) (hmem _ _ _).1 (hmem _ _ _).2)
  refine q_ald rfl rfl ?_
  refine q_lc rfl ?_
  have hM7' := hM7
  rw [hT4] at hM7'
  refine mw_step (i := 14) (p := T3.2.2.1) rfl hM7' hinT3.2.2.1 (by decide +kernel) (by decide +kernel) (sm_ok (by decide)) (by decide +kernel) (fun sy => ?_) (fun sy => ?_)
  rotate_left
  · rw [← hT4] at sy
    refine q_if (c := 0) rfl (by decide) (fun _ => ?_) (fun h => absurd rfl h)
    exact fin T4 T3.2.2.1 0 I7 J6 (by simp only [gkA, nbG, c0, d8, ← hT1, eT1, y, y2, ← hT2, eT2, ← hT3, eT3, ← hT4, if_neg sy, ne_eq, not_false_eq_true, not_true_eq_false, ↓reduceIte]) hT4 hinT3.2.2.1 (by omega) hM7 hG7
  rw [← hT4] at sy
  refine q_if (c := 0) rfl (by decide) (fun h => absurd (show (1 : Int32).toInt = 0 from h) (by decide)) (fun _ => ?_)
  refine q_ald rfl rfl ?_
  obtain ⟨T5, hT5⟩ : ∃ t, t = tkF (tbM I0) N m T4.2.2.1 := ⟨_, rfl⟩
  have hinT5 := tkF_in (b := tbM I0) (n := N) (m := m) (p := T4.2.2.1) hinT4.2.2.1
  refine mn_step (p := T4.2.2.1) rfl gkmV hG7 hN hN9 hm hinT4.2.2.1 (hM7.2.2.1 (Or.inl sy.1)) (fun I8 J8 hG8 hMT5 => ?_)
  rw [← hT5] at hMT5 hinT5
  refine q_ald rfl rfl ?_
  refine q_ic rfl ?_
  refine q_ic rfl ?_
  obtain ⟨T6, hT6⟩ : ∃ t, t = tkF (tbM I0) N m T5.2.2.1 := ⟨_, rfl⟩
  have hinT6 := tkF_in (b := tbM I0) (n := N) (m := m) (p := T5.2.2.1) hinT5.2.2.1
  refine mt_step (T := T5) rfl rfl rfl rfl gkmV hG8 hN hN9 hm hMT5 hinT5.2.2.1 ?_ ?_
  rotate_left
  · intro e I9 J9 hI9 g7 g8
    have e : nbF T5 1 9 ≠ 0 := e
    have eR : (gkA (tbM I0) N m T s) = (nbF T5 1 9, T5.2.1, 0, g0) := by simp only [gkA, nbG, c0, d8, ← hT1, eT1, y, y2, ← hT2, eT2, ← hT3, eT3, ← hT4, if_pos sy, ← hT5, e, ne_eq, not_false_eq_true, not_true_eq_false, ↓reduceIte]
    rw [eR] at hno
    exact hno e I9 J9 hI9.1.1 g7 g8
  intro eT5 Ia Ja hGa hMT6 gT5
  rw [← hT6] at hMT6 hinT6
  have eT5 : nbF T5 1 9 = 0 := eT5
  refine q_ald rfl rfl ?_
  refine q_getr rfl sk_404 sr_404_7 ?_
  refine q_ic rfl ?_
  refine q_ild rfl rfl ?_
  refine q_add rfl ?_
  refine q_ald rfl rfl ?_
  refine q_geti rfl sk_404 ?_
  refine q_iast rfl sk_407 sn_407 (by omega) (show (21 + kv).toInt < (221 : Nat) by omega) ?_
  show dw_ok (pr_X12_readKind K) 232 0 0 [some (.ref 404), some (.int kv), some (.int x)] [] (n, SH1, dw_up Ia 407 (21 + kv).toInt.toNat (Ia 404 19), Ja)
  rw [n21, gT5]
  refine fin T6 T5.2.2.1 T5.2.2.2 _ _ (by simp only [gkA, nbG, c0, d8, ← hT1, eT1, y, y2, ← hT2, eT2, ← hT3, eT3, ← hT4, if_pos sy, ← hT5, eT5, ← hT6, ne_eq, not_false_eq_true, not_true_eq_false, ↓reduceIte]) hT6 hinT5.2.2.1 (by omega) (MK_eq hMT6 (up_row (by decide)) rfl) ⟨GM_h hGa.1 h144 (Or.inl ⟨s.1.length, Nat.le_refl _, by omega, Or.inr (Or.inr rfl)⟩), hGa.2.1, fun _ => (up_fld (by omega)).trans (hGa.2.2.1 (by decide)), fun _ => ⟨(up_fld (by omega)).trans (hGa.2.2.2 (by decide)).1, up_same⟩⟩
set_option maxRecDepth 8000 in
theorem mw_loop {n bc bs : Nat} {I0 I1 : Nat → Nat → Int32} {J0 J : Nat → Nat → Int64} {K : dw_K} {s : gS} {N q Ln : Nat} {rv v2 : Int32} (hOK : gOK N s) (hC : s.2.1 = Ln) (h144 : s.2.2.1.length * Ln + Ln ≤ 144) (hN : (I0 404 3).toInt = N) (hN9 : N ≤ 940) (h12 : (I1 404 12).toInt = q) (h13 : (I1 404 13).toInt = Ln) (hq : q + Ln ≤ N) (hrv : rv.toInt = s.2.2.1.length)
    (hk : ∀ (x : Int32) (I : Nat → Nat → Int32), GMp I0 J0 I J s → I 404 = I1 404 → (∀ j, j < Ln → (I 407 (29 + (s.2.2.1.length * Ln + j))).toInt = (tbM I0 (q + j)).toInt - 97) → dw_ok (pr_X12_readRow K) 173 bc bs [some (.ref 404), some (.int rv), some (.int v2), some (.int x)] [] (n, SH1, I, J)) :
    ∀ (f i : Nat) (x : Int32) (I : Nat → Nat → Int32), i + f = Ln → x.toInt = i → GMp I0 J0 I J s → I 404 = I1 404 → (∀ j, j < i → (I 407 (29 + (s.2.2.1.length * Ln + j))).toInt = (tbM I0 (q + j)).toInt - 97) → dw_ok (pr_X12_readRow K) 130 bc bs [some (.ref 404), some (.int rv), some (.int v2), some (.int x)] [] (n, SH1, I, J) := by
  have c1 : (1 : Int32).toInt = 1 := rfl
  have c29 : (29 : Int32).toInt = 29 := rfl
  have c97 : (97 : Int32).toInt = 97 := rfl
  intro f
  induction f with
  | zero =>
    intro i x I hi hx hR e4 hall
    refine q_ild rfl rfl ?_
    refine q_ald rfl rfl ?_
    refine q_geti rfl sk_404 ?_
    rw [show (n, SH1, I, J).2.2.1 404 13 = I1 404 13 from congrFun e4 13]
    refine q_icmp (c := 3) rfl (by decide) (fun _ => ?_) (fun h => absurd (show x.toInt < (I1 404 13).toInt from h) (by omega))
    exact hk x I hR e4 (fun j hj => hall j (by omega))
  | succ f ih =>
    intro i x I hi hx hR e4 hall
    have e412 : I 404 12 = I1 404 12 := congrFun e4 12
    have e413 : I 404 13 = I1 404 13 := congrFun e4 13
    have g12 : (I 404 12).toInt = q := by rw [e412]; exact h12
    have g13 : (I 404 13).toInt = Ln := by rw [e413]; exact h13
    have e3 : I 404 3 = I0 404 3 := hR.1.2.1 3 (by decide) (by decide)
    have e405 : I 405 = I0 405 := hR.1.1 405 (by decide) (by decide)
    have t2 : (x + 1).toInt = x.toInt + 1 := by rw [i_add (by omega) (by omega), c1]
    have tm : (I 404 13 * rv).toInt = (s.2.2.1.length * Ln : Nat) := i_mul (by rw [e413, h13, hrv, Int.mul_comm]; exact (Int.natCast_mul _ _).symm) (by omega) (by omega)
    have ta : (29 + I 404 13 * rv).toInt = 29 + (s.2.2.1.length * Ln : Nat) := by rw [i_add (by omega) (by omega), tm, c29]
    have tb : (29 + I 404 13 * rv + x).toInt = 29 + (s.2.2.1.length * Ln : Nat) + i := by rw [i_add (by omega) (by omega), ta, hx]
    have t1 : (I 404 12 + x).toInt = (I 404 12).toInt + x.toInt := i_add (by omega) (by omega)
    have eb : I 405 (I 404 12 + x).toInt.toNat &&& 255 = tbM I0 (q + i) := by rw [tbM_in (by rw [hN]; omega), e405, show (I 404 12 + x).toInt.toNat = q + i by omega]
    have hr := tbM_rng (I := I0) (k := q + i)
    have t4 : (tbM I0 (q + i) - 97).toInt = (tbM I0 (q + i)).toInt - 97 := by rw [i_sub (by omega) (by omega), c97]
    refine q_ild rfl rfl ?_
    refine q_ald rfl rfl ?_
    refine q_geti rfl sk_404 ?_
    refine q_icmp (c := 3) rfl (by decide) (fun h => absurd (show (I 404 13).toInt ≤ x.toInt from h) (by omega)) (fun _ => ?_)
    refine q_ald rfl rfl ?_
    refine q_getr rfl sk_404 sr_404_7 ?_
    refine q_ic rfl ?_
    refine q_ald rfl rfl ?_
    refine q_geti rfl sk_404 ?_
    refine q_ild rfl rfl ?_
    refine q_mul rfl ?_
    refine q_add rfl ?_
    refine q_ild rfl rfl ?_
    refine q_add rfl ?_
    refine q_ald rfl rfl ?_
    refine q_ald rfl rfl ?_
    refine q_geti rfl sk_404 ?_
    refine q_ild rfl rfl ?_
    refine q_add rfl ?_
    refine q_callV (as := [.int (I 404 12 + x)]) (rest := [.int (29 + I 404 13 * rv + x), .ref 407]) rfl rfl sk_404 rfl (Nat.le_of_ble_eq_true rfl) ?_
    refine v_octet (by omega) (by omega) ?_
    show dw_ok (pr_X12_readRow K) 163 bc bs [some (.ref 404), some (.int rv), some (.int v2), some (.int x)] [.int (I 405 (I 404 12 + x).toInt.toNat &&& 255), .int (29 + I 404 13 * rv + x), .ref 407] (n, SH1, I, J)
    rw [eb]
    refine q_ic rfl ?_
    refine q_sub rfl ?_
    refine q_iast rfl sk_407 sn_407 (by omega) (show (29 + I 404 13 * rv + x).toInt < (221 : Nat) by omega) ?_
    show dw_ok (pr_X12_readRow K) 167 bc bs [some (.ref 404), some (.int rv), some (.int v2), some (.int x)] [] (n, SH1, dw_up I 407 (29 + I 404 13 * rv + x).toInt.toNat (tbM I0 (q + i) - 97), J)
    rw [show (29 + I 404 13 * rv + x).toInt.toNat = 29 + (s.2.2.1.length * Ln + i) by omega]
    refine q_inc rfl rfl rfl ?_
    refine q_goto rfl ?_
    have h8 : s.1.length ≤ 8 ∧ s.2.2.1.length * s.2.1 ≤ 144 := ⟨hOK.1, by rw [hC]; omega⟩
    refine ih (i + 1) (x + 1) _ (by omega) (by omega) (GM_h hR h8 (Or.inr (Or.inl ⟨by rw [hC]; omega, by omega⟩))) ((up_row (by decide)).trans e4) (fun j hj => ?_)
    by_cases e : j = i
    · rw [e, up_same]; exact t4
    · rw [up_fld (by omega)]; exact hall j (by omega)
set_option maxRecDepth 8000 in
set_option maxHeartbeats 2000000 in
theorem v_mrow {n : Nat} {I : Nat → Nat → Int32} {J : Nat → Nat → Int64} {K : dw_K} {I0 : Nat → Nat → Int32} {J0 : Nat → Nat → Int64} {s : gS} {T : fT} {N m : Nat} (hR : GMp I0 J0 I J s) (hOK : gOK N s) (hLet : gLet (tbM I0) s) (hJ : mRes J0) (hN : (I0 404 3).toInt = N) (hN9 : N ≤ 940) (hm : (I0 404 5).toInt = m) (hT : MK (tbM I0) T I J) (hTN : T.2.2.1 ≤ N) (hw1 : T.1 = 1)
    (hok : ∀ (T' : fT) (p' : Nat) (s' : gS) (I' : Nat → Nat → Int32) (J' : Nat → Nat → Int64), (gkR (tbM I0) N m T s) = stG T' (fun p => (0, 0, p, s')) → T' = tkF (tbM I0) N m p' → p' ≤ N → T.2.2.1 ≤ p' → MK (tbM I0) T' I' J' → GMp I0 J0 I' J' s' → gOK N s' → gLet (tbM I0) s' → K (some (.int 1)) (n, SH1, I', J'))
    (hno : (gkR (tbM I0) N m T s).1 ≠ 0 → ∀ (I' : Nat → Nat → Int32) (J' : Nat → Nat → Int64), GMf I0 J0 I' J' → (I' 404 15).toInt = (gkR (tbM I0) N m T s).1 → (I' 404 16).toInt = (gkR (tbM I0) N m T s).2.1 → K (some (.int 0)) (n, SH1, I', J')) : t_X12_readRow [.ref 404] (n, SH1, I, J) K := by
  have c12 : (12 : Int32).toInt = 12 := rfl
  have c1 : (1 : Int32).toInt = 1 := rfl
  have hk1 : (I 407 1).toInt = s.2.2.1.length := hR.2.1.2.1
  have hR12 := hOK.2.2.1
  refine q_body (Nat.le_of_ble_eq_true rfl) ?_
  refine q_ald rfl rfl ?_
  refine q_getr rfl sk_404 sr_404_7 ?_
  refine q_ic rfl ?_
  refine q_xald rfl (Or.inl rfl) sk_407 sn_407 (by decide) (by decide) ?_
  refine q_ist rfl rfl ?_
  show dw_ok (pr_X12_readRow K) 7 0 0 [some (.ref 404), some (.int (I 407 1)), none, none] [] (n, SH1, I, J)
  generalize I 407 1 = rv at hk1 ⊢
  refine q_ild rfl rfl ?_
  refine q_ic rfl ?_
  refine q_icmp (c := 1) rfl (by decide) (fun g => ?_) (fun g => ?_)
  rotate_left
  · have g : rv.toInt = (12 : Int32).toInt := g
    have c0 : 12 ≤ s.2.2.1.length := by omega
    refine q_ald rfl rfl ?_
    refine q_ic rfl ?_
    refine mb_step (c := 4) rfl rfl gfV hR.1 (fun I9 J9 hI9 g7 g8 => ?_)
    rw [hT.2.1] at g8
    have eR : (gkR (tbM I0) N m T s) = (4, T.2.1, 0, g0) := by simp only [gkR, c0, ne_eq, not_false_eq_true, not_true_eq_false, ↓reduceIte]
    rw [eR] at hno
    exact hno (nn rfl) I9 J9 hI9 g7 g8
  have g : rv.toInt ≠ (12 : Int32).toInt := g
  have c0 : ¬ (12 ≤ s.2.2.1.length) := by omega
  refine q_ald rfl rfl ?_
  obtain ⟨T1, hT1⟩ : ∃ t, t = tkF (tbM I0) N m T.2.2.1 := ⟨_, rfl⟩
  have hinT1 := tkF_in (b := tbM I0) (n := N) (m := m) (p := T.2.2.1) hTN
  refine mn_step (p := T.2.2.1) rfl gmV hR hN hN9 hm hTN (hT.2.2.1 (Or.inl hw1)) (fun I1 J1 hR1 hMT1 => ?_)
  rw [← hT1] at hMT1 hinT1
  have hword := tk_word (b := tbM I0) (n := N) (m := m) (p := T.2.2.1)
  rw [← hT1] at hword
  refine q_ald rfl rfl ?_
  refine q_geti rfl sk_404 ?_
  refine q_ic rfl ?_
  refine q_icmp (c := 0) rfl (by decide) (fun g => ?_) (fun g => ?_)
  rotate_left
  · have g : (I1 404 11).toInt ≠ (1 : Int32).toInt := g
    have e : ¬ (T1.1 = 1) := fun h => g (by rw [hMT1.1, h]; rfl)
    refine q_ald rfl rfl ?_
    refine q_ic rfl ?_
    refine mb_step (c := 1) rfl rfl gfV hR1.1 (fun I9 J9 hI9 g7 g8 => ?_)
    rw [hMT1.2.1] at g8
    have eR : (gkR (tbM I0) N m T s) = (1, T1.2.1, 0, g0) := by simp only [gkR, c0, ← hT1, e, ne_eq, not_false_eq_true, not_true_eq_false, ↓reduceIte]
    rw [eR] at hno
    exact hno (nn rfl) I9 J9 hI9 g7 g8
  have g : (I1 404 11).toInt = (1 : Int32).toInt := g
  have eT1 : T1.1 = 1 := by have := hMT1.1; omega
  obtain ⟨d1, d2, d3⟩ := hword eT1 hTN
  have hsp := (hMT1.2.2.2.2.2 eT1).1
  have hin1 := hinT1.2.2.1
  obtain ⟨Ln, hLn⟩ : ∃ k, k = T1.2.2.1 - T1.2.1 := ⟨_, rfl⟩
  have h13 : (I1 404 13).toInt = Ln := by omega
  have hC0 : (I1 407 0).toInt = s.2.1 := hR1.2.1.1
  have chk : ∀ v : Int32, (v = 1 ∧ (s.2.2.1.length = 0 ∨ Ln = s.2.1)) ∨ (v = 0 ∧ ¬ (s.2.2.1.length = 0 ∨ Ln = s.2.1)) → dw_ok (pr_X12_readRow K) 59 0 0 [some (.ref 404), some (.int rv), none, none] [.int v] (n, SH1, I1, J1) := by
    intro v hv
    refine q_ist rfl rfl ?_
    refine q_ic rfl ?_
    refine q_ist rfl rfl ?_
    show dw_ok (pr_X12_readRow K) 62 0 0 [some (.ref 404), some (.int rv), some (.int v), some (.int 0)] [] (n, SH1, I1, J1)
    refine mr_loop (P := s.2.2.1.length = 0 ∨ Ln = s.2.1) hR1 hOK.1 hN hN9 hMT1.2.1 h13 (by omega) (fun v x hv => ?_) Ln 0 0 v (by omega) rfl (hv.imp (fun h => ⟨h.1, h.2, fun j hj => absurd hj (Nat.not_lt_zero j)⟩) (fun h => ⟨h.1, fun q => h.2 q.1⟩))
    rcases hv with ⟨rfl, hC, y⟩ | ⟨rfl, hv⟩
    rotate_left
    · refine q_ild rfl rfl ?_
      refine q_if (c := 1) rfl (by decide) (fun h => absurd rfl h) (fun _ => ?_)
      refine q_ald rfl rfl ?_
      refine q_ic rfl ?_
      refine mb_step (c := 2) rfl rfl gfV hR1.1 (fun I9 J9 hI9 g7 g8 => ?_)
      rw [hMT1.2.1] at g8
      have eR : (gkR (tbM I0) N m T s) = (2, T1.2.1, 0, g0) := by
        by_cases e : 0 < s.2.2.1.length ∧ T1.2.2.1 ≠ T1.2.1 + s.2.1
        · simp only [gkR, c0, ← hT1, eT1, e, and_self, ne_eq, not_false_eq_true, not_true_eq_false, ↓reduceIte]
        · have y : ¬ lrF (tbM I0) T1.2.1 (T1.2.2.1 - T1.2.1) s.1.length := fun y => hv ⟨by
            by_cases z : s.2.2.1.length = 0
            · exact Or.inl z
            · by_cases z2 : Ln = s.2.1
              · exact Or.inr z2
              · exact absurd ⟨by omega, by omega⟩ e, by rw [hLn]; exact y⟩
          simp only [gkR, c0, ← hT1, eT1, e, y, ne_eq, not_false_eq_true, not_true_eq_false, ↓reduceIte]
      rw [eR] at hno
      exact hno (nn rfl) I9 J9 hI9 g7 g8
    have c3 : ¬ (0 < s.2.2.1.length ∧ T1.2.2.1 ≠ T1.2.1 + s.2.1) := by
      rintro ⟨y1, y2⟩
      omega
    have h144 : s.2.2.1.length * Ln + Ln ≤ 144 := by
      have q : s.2.2.1.length * Ln ≤ 11 * Ln := Nat.mul_le_mul_right Ln (by omega)
      omega
    have hOK1 : gOK N (s.1, Ln, s.2.2) := ⟨hOK.1, show Ln ≤ 12 by omega, hOK.2.2⟩
    refine q_ild rfl rfl ?_
    refine q_if (c := 1) rfl (by decide) (fun _ => ?_) (fun h => absurd (show (1 : Int32).toInt = 0 from h) (by decide))
    refine q_ald rfl rfl ?_
    refine q_getr rfl sk_404 sr_404_7 ?_
    refine q_ic rfl ?_
    refine q_ald rfl rfl ?_
    refine q_geti rfl sk_404 ?_
    refine q_iast rfl sk_407 sn_407 (by decide) (by decide) ?_
    show dw_ok (pr_X12_readRow K) 128 0 0 [some (.ref 404), some (.int rv), some (.int 1), some (.int x)] [] (n, SH1, dw_up I1 407 0 (I1 404 13), J1)
    refine q_ic rfl ?_
    refine q_ist rfl rfl ?_
    show dw_ok (pr_X12_readRow K) 130 0 0 [some (.ref 404), some (.int rv), some (.int 1), some (.int 0)] [] (n, SH1, dw_up I1 407 0 (I1 404 13), J1)
    refine mw_loop (s := (s.1, Ln, s.2.2)) (I1 := I1) (q := T1.2.1) (Ln := Ln) hOK1 rfl h144 hN hN9 hMT1.2.1 h13 (by omega) hk1 (fun x I2 hI2 e4 hrow => ?_) Ln 0 0 _ (by omega) rfl (GM_col hR1 h13 hC) (up_row (by decide)) (fun j hj => absurd hj (Nat.not_lt_zero j))
    have hk1' : (I2 407 1).toInt = s.2.2.1.length := hI2.2.1.2.1
    have tv : (I2 407 1 + 1).toInt = (s.2.2.1.length + 1 : Nat) := by rw [i_add (by omega) (by omega), c1, hk1']; omega
    have hR3 := GM_row (q := T1.2.1) (rv := I2 407 1 + 1) hI2 tv hrow
    have h4' : (dw_up I2 407 1 (I2 407 1 + 1) 404 4).toInt = T1.2.2.1 := by rw [up_row (show 404 ≠ 407 by decide), e4]; exact hMT1.2.2.1 (Or.inl eT1)
    refine q_ald rfl rfl ?_
    refine q_getr rfl sk_404 sr_404_7 ?_
    refine q_ic rfl ?_
    refine q_dup2 rfl ?_
    refine q_xald rfl (Or.inl rfl) sk_407 sn_407 (by decide) (by decide) ?_
    refine q_ic rfl ?_
    refine q_add rfl ?_
    refine q_iast rfl sk_407 sn_407 (by decide) (by decide) ?_
    show dw_ok (pr_X12_readRow K) 183 0 0 [some (.ref 404), some (.int rv), some (.int 1), some (.int x)] [] (n, SH1, dw_up I2 407 1 (I2 407 1 + 1), J1)
    generalize dw_up I2 407 1 (I2 407 1 + 1) = I3 at hR3 h4' ⊢
    refine q_ald rfl rfl ?_
    obtain ⟨T2, hT2⟩ : ∃ t, t = tkF (tbM I0) N m T1.2.2.1 := ⟨_, rfl⟩
    refine mn_step (p := T1.2.2.1) rfl gmV hR3 hN hN9 hm hin1 h4' (fun I4 J4 hR4 hM4 => ?_)
    rw [← hT2] at hM4
    refine q_ic rfl ?_
    have ny : ¬ ¬ lrF (tbM I0) T1.2.1 Ln s.1.length := fun h => h y
    rw [hLn] at y
    refine q_zret rfl (Or.inr rfl) (hok T2 T1.2.2.1 _ I4 J4 (by simp only [gkR, c0, ← hT1, eT1, c3, ← hLn, if_neg ny, ← hT2, ne_eq, not_false_eq_true, not_true_eq_false, ↓reduceIte]) hT2 hin1 hinT1.2.1 hM4 hR4 ⟨hOK.1, show Ln ≤ 12 by omega, show s.2.2.1.length + 1 ≤ 12 by omega, hOK.2.2.2⟩ hLet)
  refine q_ild rfl rfl ?_
  refine q_if (c := 0) rfl (by decide) (fun w => ?_) (fun w => ?_)
  · have w : rv.toInt = 0 := w
    refine q_ic rfl ?_
    refine q_goto rfl ?_
    exact chk 1 (Or.inl ⟨rfl, Or.inl (by omega)⟩)
  have w : rv.toInt ≠ 0 := w
  refine q_ald rfl rfl ?_
  refine q_geti rfl sk_404 ?_
  refine q_ald rfl rfl ?_
  refine q_getr rfl sk_404 sr_404_7 ?_
  refine q_ic rfl ?_
  refine q_xald rfl (Or.inl rfl) sk_407 sn_407 (by decide) (by decide) ?_
  refine q_icmp (c := 1) rfl (by decide) (fun u => ?_) (fun u => ?_)
  · have u : (I1 404 13).toInt ≠ (I1 407 0).toInt := u
    refine q_ic rfl ?_
    exact chk 0 (Or.inr ⟨rfl, by omega⟩)
  · have u : (I1 404 13).toInt = (I1 407 0).toInt := u
    refine q_ic rfl ?_
    refine q_goto rfl ?_
    exact chk 1 (Or.inl ⟨rfl, Or.inr (by omega)⟩)
set_option maxRecDepth 8000 in
set_option maxHeartbeats 4000000 in
theorem v_mshade {n : Nat} {I : Nat → Nat → Int32} {J : Nat → Nat → Int64} {K : dw_K} {I0 : Nat → Nat → Int32} {J0 : Nat → Nat → Int64} {s : gS} {T : fT} {N m : Nat} (hR : GMp I0 J0 I J s) (hOK : gOK N s) (hLet : gLet (tbM I0) s) (hJ : mRes J0) (hN : (I0 404 3).toInt = N) (hN9 : N ≤ 940) (hm : (I0 404 5).toInt = m) (hT : MK (tbM I0) T I J) (hTN : T.2.2.1 ≤ N) (hw1 : T.1 = 1)
    (hok : ∀ (T' : fT) (p' : Nat) (s' : gS) (I' : Nat → Nat → Int32) (J' : Nat → Nat → Int64), (gkS (tbM I0) N m T s) = stG T' (fun p => (0, 0, p, s')) → T' = tkF (tbM I0) N m p' → p' ≤ N → T.2.2.1 ≤ p' → MK (tbM I0) T' I' J' → GMp I0 J0 I' J' s' → gOK N s' → gLet (tbM I0) s' → K (some (.int 1)) (n, SH1, I', J'))
    (hno : (gkS (tbM I0) N m T s).1 ≠ 0 → ∀ (I' : Nat → Nat → Int32) (J' : Nat → Nat → Int64), GMf I0 J0 I' J' → (I' 404 15).toInt = (gkS (tbM I0) N m T s).1 → (I' 404 16).toInt = (gkS (tbM I0) N m T s).2.1 → K (some (.int 0)) (n, SH1, I', J')) : dw_ok (pr_X12_groundLine K) 40 0 0 [some (.ref 404), none] [] (n, SH1, I, J) := by
  have c12 : (12 : Int32).toInt = 12 := rfl
  have c1 : (1 : Int32).toInt = 1 := rfl
  have c2 : (2 : Int32).toInt = 2 := rfl
  have c3 : (3 : Int32).toInt = 3 := rfl
  have c4 : (4 : Int32).toInt = 4 := rfl
  have c173 : (173 : Int32).toInt = 173 := rfl
  have hk3 : (I 407 3).toInt = s.2.2.2.1.length := hR.2.1.2.2.2.1
  have hk0 : (I 407 0).toInt = s.2.1 := hR.2.1.1
  have hS12 := hOK.2.2.2.1
  have hR12 := hOK.2.2.1
  have hC12 := hOK.2.1
  have h144 : s.1.length ≤ 8 ∧ s.2.2.1.length * s.2.1 ≤ 144 := ⟨hOK.1, Nat.le_trans (Nat.mul_le_mul hOK.2.2.1 hOK.2.1) (Nat.le_of_ble_eq_true rfl)⟩
  have tm : (4 * I 407 3).toInt = 4 * s.2.2.2.1.length := i_mul (by rw [c4, hk3]) (by omega) (by omega)
  have tt : (173 + 4 * I 407 3).toInt = 173 + 4 * s.2.2.2.1.length := by rw [i_add (by omega) (by omega), tm, c173]
  refine q_ic rfl ?_
  refine q_ic rfl ?_
  refine q_ald rfl rfl ?_
  refine q_getr rfl sk_404 sr_404_7 ?_
  refine q_ic rfl ?_
  refine q_xald rfl (Or.inl rfl) sk_407 sn_407 (by decide) (by decide) ?_
  refine q_mul rfl ?_
  refine q_add rfl ?_
  refine q_ist rfl rfl ?_
  show dw_ok (pr_X12_groundLine K) 53 0 0 [some (.ref 404), some (.int (173 + 4 * I 407 3))] [] (n, SH1, I, J)
  refine q_ald rfl rfl ?_
  refine q_getr rfl sk_404 sr_404_7 ?_
  refine q_ic rfl ?_
  refine q_xald rfl (Or.inl rfl) sk_407 sn_407 (by decide) (by decide) ?_
  show dw_ok (pr_X12_groundLine K) 59 0 0 [some (.ref 404), some (.int (173 + 4 * I 407 3))] [.int (I 407 3)] (n, SH1, I, J)
  generalize 173 + 4 * I 407 3 = to at tt ⊢
  refine q_ic rfl ?_
  refine q_icmp (c := 1) rfl (by decide) (fun g => ?_) (fun g => ?_)
  rotate_left
  · have g : (I 407 3).toInt = (12 : Int32).toInt := g
    have c0 : 12 ≤ s.2.2.2.1.length := by omega
    refine q_ald rfl rfl ?_
    refine q_ic rfl ?_
    refine mb_step (c := 4) rfl rfl gfV hR.1 (fun I9 J9 hI9 g7 g8 => ?_)
    rw [hT.2.1] at g8
    have eR : (gkS (tbM I0) N m T s) = (4, T.2.1, 0, g0) := by simp only [gkS, nbG, c0, ne_eq, not_false_eq_true, not_true_eq_false, ↓reduceIte]
    rw [eR] at hno
    exact hno (nn rfl) I9 J9 hI9 g7 g8
  have g : (I 407 3).toInt ≠ (12 : Int32).toInt := g
  have c0 : ¬ (12 ≤ s.2.2.2.1.length) := by omega
  have to1 : (to + 1).toInt = 173 + 4 * s.2.2.2.1.length + 1 := by rw [i_add (by omega) (by omega), tt, c1]
  have to2 : (to + 2).toInt = 173 + 4 * s.2.2.2.1.length + 2 := by rw [i_add (by omega) (by omega), tt, c2]
  have to3 : (to + 3).toInt = 173 + 4 * s.2.2.2.1.length + 3 := by rw [i_add (by omega) (by omega), tt, c3]
  have hG0 : GSm I0 J0 I J s (0, 0, 0, 0) 0 := ⟨hR, fun h => absurd h (by decide), fun h => absurd h (by decide), fun h => absurd h (by decide), fun h => absurd h (by decide)⟩
  refine q_ald rfl rfl ?_
  obtain ⟨T1, hT1⟩ : ∃ t, t = tkF (tbM I0) N m T.2.2.1 := ⟨_, rfl⟩
  have hinT1 := tkF_in (b := tbM I0) (n := N) (m := m) (p := T.2.2.1) hTN
  refine mn_step (p := T.2.2.1) rfl gsmV hG0 hN hN9 hm hTN (hT.2.2.1 (Or.inl hw1)) (fun Ia0 Ja0 hGa0 hMT1 => ?_)
  rw [← hT1] at hMT1 hinT1
  have eq0 : (Ia0 407 0 - 1).toInt = ((s.2.1 : Int) - 1) := by
    have q : (Ia0 407 0).toInt = s.2.1 := hGa0.1.2.1.1
    rw [i_sub (by omega) (by omega), c1, q]
  refine q_ald rfl rfl ?_
  refine q_ic rfl ?_
  refine q_ald rfl rfl ?_
  refine q_getr rfl sk_404 sr_404_7 ?_
  refine q_ic rfl ?_
  refine q_xald rfl (Or.inl rfl) sk_407 sn_407 (by decide) (by decide) ?_
  refine q_ic rfl ?_
  refine q_sub rfl ?_
  show dw_ok (pr_X12_groundLine K) 84 0 0 [some (.ref 404), some (.int to)] [.int (Ia0 407 0 - 1), .int 0, .ref 404] (n, SH1, Ia0, Ja0)
  generalize Ia0 407 0 - 1 = hi0 at eq0 ⊢
  obtain ⟨T2, hT2⟩ : ∃ t, t = tkF (tbM I0) N m T1.2.2.1 := ⟨_, rfl⟩
  have hinT2 := tkF_in (b := tbM I0) (n := N) (m := m) (p := T1.2.2.1) hinT1.2.2.1
  refine mt_step (T := T1) rfl rfl rfl rfl gsmV hGa0 hN hN9 hm hMT1 hinT1.2.2.1 ?_ ?_
  rotate_left
  · intro e I9 J9 hI9 g7 g8
    rw [eq0] at e g7
    have e : nbF T1 0 ((s.2.1 : Int) - 1) ≠ 0 := e
    have eR : (gkS (tbM I0) N m T s) = (nbF T1 0 ((s.2.1 : Int) - 1), T1.2.1, 0, g0) := by simp only [gkS, nbG, c0, ← hT1, e, ne_eq, not_false_eq_true, not_true_eq_false, ↓reduceIte]
    rw [eR] at hno
    exact hno e I9 J9 hI9.1.1 g7 g8
  intro eT1 Ib0 Jb0 hGb0 hMT2 gT1
  rw [← hT2] at hMT2 hinT2
  rw [eq0] at eT1
  have eT1 : nbF T1 0 ((s.2.1 : Int) - 1) = 0 := eT1
  refine q_ald rfl rfl ?_
  refine q_getr rfl sk_404 sr_404_7 ?_
  refine q_ild rfl rfl ?_
  refine q_ald rfl rfl ?_
  refine q_geti rfl sk_404 ?_
  refine q_iast rfl sk_407 sn_407 (by omega) (show to.toInt < (221 : Nat) by omega) ?_
  show dw_ok (pr_X12_groundLine K) 102 0 0 [some (.ref 404), some (.int to)] [] (n, SH1, dw_up Ib0 407 to.toInt.toNat (Ib0 404 19), Jb0)
  rw [show to.toInt.toNat = 173 + 4 * s.2.2.2.1.length by omega, gT1]
  have hGa1 : GSm I0 J0 (dw_up Ib0 407 (173 + 4 * s.2.2.2.1.length) T1.2.2.2) Jb0 s (T1.2.2.2, 0, 0, 0) 1 := ⟨GM_h hGb0.1 h144 (Or.inr (Or.inr (by omega))), fun _ => up_same, fun h => absurd h (by decide), fun h => absurd h (by decide), fun h => absurd h (by decide)⟩
  have hMa1 := MK_eq (I' := dw_up Ib0 407 (173 + 4 * s.2.2.2.1.length) T1.2.2.2) hMT2 (up_row (by decide)) rfl
  generalize dw_up Ib0 407 (173 + 4 * s.2.2.2.1.length) T1.2.2.2 = Ia1 at hGa1 hMa1 ⊢
  have eq1 : (Ia1 407 1 - 1).toInt = ((s.2.2.1.length : Int) - 1) := by
    have q : (Ia1 407 1).toInt = s.2.2.1.length := hGa1.1.2.1.2.1
    rw [i_sub (by omega) (by omega), c1, q]
  refine q_ald rfl rfl ?_
  refine q_ic rfl ?_
  refine q_ald rfl rfl ?_
  refine q_getr rfl sk_404 sr_404_7 ?_
  refine q_ic rfl ?_
  refine q_xald rfl (Or.inl rfl) sk_407 sn_407 (by decide) (by decide) ?_
  refine q_ic rfl ?_
  refine q_sub rfl ?_
  show dw_ok (pr_X12_groundLine K) 112 0 0 [some (.ref 404), some (.int to)] [.int (Ia1 407 1 - 1), .int 0, .ref 404] (n, SH1, Ia1, Jb0)
  generalize Ia1 407 1 - 1 = hi1 at eq1 ⊢
  obtain ⟨T3, hT3⟩ : ∃ t, t = tkF (tbM I0) N m T2.2.2.1 := ⟨_, rfl⟩
  have hinT3 := tkF_in (b := tbM I0) (n := N) (m := m) (p := T2.2.2.1) hinT2.2.2.1
  refine mt_step (T := T2) rfl rfl rfl rfl gsmV hGa1 hN hN9 hm hMa1 hinT2.2.2.1 ?_ ?_
  rotate_left
  · intro e I9 J9 hI9 g7 g8
    rw [eq1] at e g7
    have e : nbF T2 0 ((s.2.2.1.length : Int) - 1) ≠ 0 := e
    have eR : (gkS (tbM I0) N m T s) = (nbF T2 0 ((s.2.2.1.length : Int) - 1), T2.2.1, 0, g0) := by simp only [gkS, nbG, c0, ← hT1, eT1, ← hT2, e, ne_eq, not_false_eq_true, not_true_eq_false, ↓reduceIte]
    rw [eR] at hno
    exact hno e I9 J9 hI9.1.1 g7 g8
  intro eT2 Ib1 Jb1 hGb1 hMT3 gT2
  rw [← hT3] at hMT3 hinT3
  rw [eq1] at eT2
  have eT2 : nbF T2 0 ((s.2.2.1.length : Int) - 1) = 0 := eT2
  refine q_ald rfl rfl ?_
  refine q_getr rfl sk_404 sr_404_7 ?_
  refine q_ild rfl rfl ?_
  refine q_ic rfl ?_
  refine q_add rfl ?_
  refine q_ald rfl rfl ?_
  refine q_geti rfl sk_404 ?_
  refine q_iast rfl sk_407 sn_407 (by omega) (show (to + 1).toInt < (221 : Nat) by omega) ?_
  show dw_ok (pr_X12_groundLine K) 132 0 0 [some (.ref 404), some (.int to)] [] (n, SH1, dw_up Ib1 407 (to + 1).toInt.toNat (Ib1 404 19), Jb1)
  rw [show (to + 1).toInt.toNat = 173 + 4 * s.2.2.2.1.length + 1 by omega, gT2]
  have hGa2 : GSm I0 J0 (dw_up Ib1 407 (173 + 4 * s.2.2.2.1.length + 1) T2.2.2.2) Jb1 s (T1.2.2.2, T2.2.2.2, 0, 0) 2 := ⟨GM_h hGb1.1 h144 (Or.inr (Or.inr (by omega))), fun _ => (up_fld (by omega)).trans (hGb1.2.1 (by decide)), fun _ => up_same, fun h => absurd h (by decide), fun h => absurd h (by decide)⟩
  have hMa2 := MK_eq (I' := dw_up Ib1 407 (173 + 4 * s.2.2.2.1.length + 1) T2.2.2.2) hMT3 (up_row (by decide)) rfl
  generalize dw_up Ib1 407 (173 + 4 * s.2.2.2.1.length + 1) T2.2.2.2 = Ia2 at hGa2 hMa2 ⊢
  refine q_ald rfl rfl ?_
  refine q_ic rfl ?_
  refine q_ic rfl ?_
  obtain ⟨T4, hT4⟩ : ∃ t, t = tkF (tbM I0) N m T3.2.2.1 := ⟨_, rfl⟩
  have hinT4 := tkF_in (b := tbM I0) (n := N) (m := m) (p := T3.2.2.1) hinT3.2.2.1
  refine mt_step (T := T3) rfl rfl rfl rfl gsmV hGa2 hN hN9 hm hMa2 hinT3.2.2.1 ?_ ?_
  rotate_left
  · intro e I9 J9 hI9 g7 g8
    have e : nbF T3 0 9 ≠ 0 := e
    have eR : (gkS (tbM I0) N m T s) = (nbF T3 0 9, T3.2.1, 0, g0) := by simp only [gkS, nbG, c0, ← hT1, eT1, ← hT2, eT2, ← hT3, e, ne_eq, not_false_eq_true, not_true_eq_false, ↓reduceIte]
    rw [eR] at hno
    exact hno e I9 J9 hI9.1.1 g7 g8
  intro eT3 Ib2 Jb2 hGb2 hMT4 gT3
  rw [← hT4] at hMT4 hinT4
  have eT3 : nbF T3 0 9 = 0 := eT3
  refine q_ald rfl rfl ?_
  refine q_getr rfl sk_404 sr_404_7 ?_
  refine q_ild rfl rfl ?_
  refine q_ic rfl ?_
  refine q_add rfl ?_
  refine q_ald rfl rfl ?_
  refine q_geti rfl sk_404 ?_
  refine q_iast rfl sk_407 sn_407 (by omega) (show (to + 2).toInt < (221 : Nat) by omega) ?_
  show dw_ok (pr_X12_groundLine K) 156 0 0 [some (.ref 404), some (.int to)] [] (n, SH1, dw_up Ib2 407 (to + 2).toInt.toNat (Ib2 404 19), Jb2)
  rw [show (to + 2).toInt.toNat = 173 + 4 * s.2.2.2.1.length + 2 by omega, gT3]
  have hGa3 : GSm I0 J0 (dw_up Ib2 407 (173 + 4 * s.2.2.2.1.length + 2) T3.2.2.2) Jb2 s (T1.2.2.2, T2.2.2.2, T3.2.2.2, 0) 3 := ⟨GM_h hGb2.1 h144 (Or.inr (Or.inr (by omega))), fun _ => (up_fld (by omega)).trans (hGb2.2.1 (by decide)), fun _ => (up_fld (by omega)).trans (hGb2.2.2.1 (by decide)), fun _ => up_same, fun h => absurd h (by decide)⟩
  have hMa3 := MK_eq (I' := dw_up Ib2 407 (173 + 4 * s.2.2.2.1.length + 2) T3.2.2.2) hMT4 (up_row (by decide)) rfl
  generalize dw_up Ib2 407 (173 + 4 * s.2.2.2.1.length + 2) T3.2.2.2 = Ia3 at hGa3 hMa3 ⊢
  refine q_ald rfl rfl ?_
  refine q_ic rfl ?_
  refine q_ic rfl ?_
  obtain ⟨T5, hT5⟩ : ∃ t, t = tkF (tbM I0) N m T4.2.2.1 := ⟨_, rfl⟩
  have hinT5 := tkF_in (b := tbM I0) (n := N) (m := m) (p := T4.2.2.1) hinT4.2.2.1
  refine mt_step (T := T4) rfl rfl rfl rfl gsmV hGa3 hN hN9 hm hMa3 hinT4.2.2.1 ?_ ?_
  rotate_left
  · intro e I9 J9 hI9 g7 g8
    have e : nbF T4 1 100 ≠ 0 := e
    have eR : (gkS (tbM I0) N m T s) = (nbF T4 1 100, T4.2.1, 0, g0) := by simp only [gkS, nbG, c0, ← hT1, eT1, ← hT2, eT2, ← hT3, eT3, ← hT4, e, ne_eq, not_false_eq_true, not_true_eq_false, ↓reduceIte]
    rw [eR] at hno
    exact hno e I9 J9 hI9.1.1 g7 g8
  intro eT4 Ib3 Jb3 hGb3 hMT5 gT4
  rw [← hT5] at hMT5 hinT5
  have eT4 : nbF T4 1 100 = 0 := eT4
  refine q_ald rfl rfl ?_
  refine q_getr rfl sk_404 sr_404_7 ?_
  refine q_ild rfl rfl ?_
  refine q_ic rfl ?_
  refine q_add rfl ?_
  refine q_ald rfl rfl ?_
  refine q_geti rfl sk_404 ?_
  refine q_iast rfl sk_407 sn_407 (by omega) (show (to + 3).toInt < (221 : Nat) by omega) ?_
  show dw_ok (pr_X12_groundLine K) 180 0 0 [some (.ref 404), some (.int to)] [] (n, SH1, dw_up Ib3 407 (to + 3).toInt.toNat (Ib3 404 19), Jb3)
  rw [show (to + 3).toInt.toNat = 173 + 4 * s.2.2.2.1.length + 3 by omega, gT4]
  have hGa4 : GSm I0 J0 (dw_up Ib3 407 (173 + 4 * s.2.2.2.1.length + 3) T4.2.2.2) Jb3 s (T1.2.2.2, T2.2.2.2, T3.2.2.2, T4.2.2.2) 4 := ⟨GM_h hGb3.1 h144 (Or.inr (Or.inr (by omega))), fun _ => (up_fld (by omega)).trans (hGb3.2.1 (by decide)), fun _ => (up_fld (by omega)).trans (hGb3.2.2.1 (by decide)), fun _ => (up_fld (by omega)).trans (hGb3.2.2.2.1 (by decide)), fun _ => up_same⟩
  have hMa4 := MK_eq (I' := dw_up Ib3 407 (173 + 4 * s.2.2.2.1.length + 3) T4.2.2.2) hMT5 (up_row (by decide)) rfl
  generalize dw_up Ib3 407 (173 + 4 * s.2.2.2.1.length + 3) T4.2.2.2 = Ia4 at hGa4 hMa4 ⊢
  have hk3' : (Ia4 407 3).toInt = s.2.2.2.1.length := hGa4.1.2.1.2.2.2.1
  have tv : (Ia4 407 3 + 1).toInt = (s.2.2.2.1.length + 1 : Nat) := by rw [i_add (by omega) (by omega), c1, hk3']; omega
  refine q_ald rfl rfl ?_
  refine q_getr rfl sk_404 sr_404_7 ?_
  refine q_ic rfl ?_
  refine q_dup2 rfl ?_
  refine q_xald rfl (Or.inl rfl) sk_407 sn_407 (by decide) (by decide) ?_
  refine q_ic rfl ?_
  refine q_add rfl ?_
  refine q_iast rfl sk_407 sn_407 (by decide) (by decide) ?_
  show dw_ok (pr_X12_groundLine K) 190 0 0 [some (.ref 404), some (.int to)] [] (n, SH1, dw_up Ia4 407 3 (Ia4 407 3 + 1), Jb3)
  refine q_ic rfl ?_
  have b1 := nb_r eT1
  have b2 := nb_r eT2
  have b3 := nb_r eT3
  have b4 := nb_r eT4
  refine q_zret rfl (Or.inr rfl) (hok T5 T4.2.2.1 _ _ _ (by simp only [gkS, nbG, c0, ← hT1, eT1, ← hT2, eT2, ← hT3, eT3, ← hT4, eT4, ← hT5, ne_eq, not_false_eq_true, not_true_eq_false, ↓reduceIte]) hT5 hinT4.2.2.1 (by omega) (MK_eq hMa4 (up_row (by decide)) rfl) (GM_shade hGa4.1 tv ⟨hGa4.2.1 (by decide), hGa4.2.2.1 (by decide), hGa4.2.2.2.1 (by decide), hGa4.2.2.2.2 (by decide)⟩) ⟨hOK.1, hOK.2.1, hOK.2.2.1, show s.2.2.2.1.length + 1 ≤ 12 by omega, hOK.2.2.2.2.1, fun z hz => ?_⟩ hLet)
  rcases List.mem_cons.mp hz with rfl | hz
  · exact ⟨⟨b1.1, show T1.2.2.2.toInt ≤ 11 by omega⟩, ⟨b2.1, show T2.2.2.2.toInt ≤ 11 by omega⟩, b3, b4⟩
  · exact hOK.2.2.2.2.2 z hz
set_option maxRecDepth 8000 in
set_option maxHeartbeats 2000000 in
theorem v_mwater {n : Nat} {I : Nat → Nat → Int32} {J : Nat → Nat → Int64} {K : dw_K} {I0 : Nat → Nat → Int32} {J0 : Nat → Nat → Int64} {s : gS} {T : fT} {N m : Nat} (hR : GMp I0 J0 I J s) (hOK : gOK N s) (hLet : gLet (tbM I0) s) (hJ : mRes J0) (hN : (I0 404 3).toInt = N) (hN9 : N ≤ 940) (hm : (I0 404 5).toInt = m) (hT : MK (tbM I0) T I J) (hTN : T.2.2.1 ≤ N) (hw1 : T.1 = 1)
    (hok : ∀ (T' : fT) (p' : Nat) (s' : gS) (I' : Nat → Nat → Int32) (J' : Nat → Nat → Int64), (gkW (tbM I0) N m T s) = stG T' (fun p => (0, 0, p, s')) → T' = tkF (tbM I0) N m p' → p' ≤ N → T.2.2.1 ≤ p' → MK (tbM I0) T' I' J' → GMp I0 J0 I' J' s' → gOK N s' → gLet (tbM I0) s' → K (some (.int 1)) (n, SH1, I', J'))
    (hno : (gkW (tbM I0) N m T s).1 ≠ 0 → ∀ (I' : Nat → Nat → Int32) (J' : Nat → Nat → Int64), GMf I0 J0 I' J' → (I' 404 15).toInt = (gkW (tbM I0) N m T s).1 → (I' 404 16).toInt = (gkW (tbM I0) N m T s).2.1 → K (some (.int 0)) (n, SH1, I', J')) : dw_ok (pr_X12_groundLine K) 208 0 0 [some (.ref 404), none] [] (n, SH1, I, J) := by
  have hk22 : (I 404 22).toInt = (if s.2.2.2.2 = none then 0 else 1) := hR.2.2.1
  refine q_ald rfl rfl ?_
  refine q_getz rfl sk_404 ?_
  refine q_if (c := 0) rfl (by decide) (fun g => ?_) (fun g => ?_)
  rotate_left
  · have g : (I 404 22).toInt ≠ 0 := g
    have c0 : ¬ (s.2.2.2.2 = none) := fun h => g (by rw [hk22, if_pos h])
    refine q_ald rfl rfl ?_
    refine q_ic rfl ?_
    refine mb_step (c := 3) rfl rfl gfV hR.1 (fun I9 J9 hI9 g7 g8 => ?_)
    rw [hT.2.1] at g8
    have eR : (gkW (tbM I0) N m T s) = (3, T.2.1, 0, g0) := by simp only [gkW, nbG, c0, ne_eq, not_false_eq_true, not_true_eq_false, ↓reduceIte]
    rw [eR] at hno
    exact hno (nn rfl) I9 J9 hI9 g7 g8
  have g : (I 404 22).toInt = 0 := g
  have c0 : s.2.2.2.2 = none := by
    by_cases e : s.2.2.2.2 = none
    · exact e
    · rw [if_neg e] at hk22; omega
  refine q_ald rfl rfl ?_
  refine q_ic rfl ?_
  refine q_putz rfl sk_404 (Or.inr rfl) ?_
  show dw_ok (pr_X12_groundLine K) 226 0 0 [some (.ref 404), none] [] (n, SH1, dw_up I 404 22 1, J)
  have hR1 := GM_flag hR c0
  have hM1 := MK_22 (v := 1) hT
  generalize dw_up I 404 22 1 = I1 at hR1 hM1 ⊢
  refine q_ald rfl rfl ?_
  obtain ⟨T1, hT1⟩ : ∃ t, t = tkF (tbM I0) N m T.2.2.1 := ⟨_, rfl⟩
  have hinT1 := tkF_in (b := tbM I0) (n := N) (m := m) (p := T.2.2.1) hTN
  refine mn_step (p := T.2.2.1) rfl gmV hR1 hN hN9 hm hTN (hM1.2.2.1 (Or.inl hw1)) (fun I2 J2 hR2 hMT1 => ?_)
  rw [← hT1] at hMT1 hinT1
  refine q_ald rfl rfl ?_
  refine q_ic rfl ?_
  refine q_ic rfl ?_
  obtain ⟨T2, hT2⟩ : ∃ t, t = tkF (tbM I0) N m T1.2.2.1 := ⟨_, rfl⟩
  have hinT2 := tkF_in (b := tbM I0) (n := N) (m := m) (p := T1.2.2.1) hinT1.2.2.1
  refine mt_step (T := T1) rfl rfl rfl rfl gmV hR2 hN hN9 hm hMT1 hinT1.2.2.1 ?_ ?_
  rotate_left
  · intro e I9 J9 hI9 g7 g8
    have e : nbF T1 0 999 ≠ 0 := e
    have eR : (gkW (tbM I0) N m T s) = (nbF T1 0 999, T1.2.1, 0, g0) := by simp only [gkW, nbG, c0, ← hT1, e, ne_eq, not_false_eq_true, not_true_eq_false, ↓reduceIte]
    rw [eR] at hno
    exact hno e I9 J9 hI9.1 g7 g8
  intro eT1 I3 J3 hR3 hMT2 gT1
  rw [← hT2] at hMT2 hinT2
  have eT1 : nbF T1 0 999 = 0 := eT1
  refine q_ald rfl rfl ?_
  refine q_getr rfl sk_404 sr_404_7 ?_
  refine q_ic rfl ?_
  refine q_ald rfl rfl ?_
  refine q_geti rfl sk_404 ?_
  refine q_iast rfl sk_407 sn_407 (by decide) (by decide) ?_
  show dw_ok (pr_X12_groundLine K) 253 0 0 [some (.ref 404), none] [] (n, SH1, dw_up I3 407 4 (I3 404 19), J3)
  rw [gT1]
  refine q_ic rfl ?_
  exact q_zret rfl (Or.inr rfl) (hok T2 T1.2.2.1 _ _ _ (by simp only [gkW, nbG, c0, ← hT1, eT1, ← hT2, ne_eq, not_false_eq_true, not_true_eq_false, ↓reduceIte]) hT2 hinT1.2.2.1 hinT1.2.1 (MK_eq hMT2 (up_row (by decide)) rfl) (GM_stock hR3) hOK hLet)
set_option maxRecDepth 8000 in
theorem v_mgline {n : Nat} {I : Nat → Nat → Int32} {J : Nat → Nat → Int64} {K : dw_K} {I0 : Nat → Nat → Int32} {J0 : Nat → Nat → Int64} {s : gS} {T : fT} {N m : Nat} (hR : GMp I0 J0 I J s) (hOK : gOK N s) (hLet : gLet (tbM I0) s) (hJ : mRes J0) (hN : (I0 404 3).toInt = N) (hN9 : N ≤ 940) (hm : (I0 404 5).toInt = m) (hT : MK (tbM I0) T I J) (hTN : T.2.2.1 ≤ N) {p : Nat} (hTe : T = tkF (tbM I0) N m p) (hp : p ≤ N)
    (hok : ∀ (T' : fT) (p' : Nat) (s' : gS) (I' : Nat → Nat → Int32) (J' : Nat → Nat → Int64), (gkF (tbM I0) N m T s) = stG T' (fun p => (0, 0, p, s')) → T' = tkF (tbM I0) N m p' → p' ≤ N → T.2.2.1 ≤ p' → MK (tbM I0) T' I' J' → GMp I0 J0 I' J' s' → gOK N s' → gLet (tbM I0) s' → K (some (.int 1)) (n, SH1, I', J'))
    (hno : (gkF (tbM I0) N m T s).1 ≠ 0 → ∀ (I' : Nat → Nat → Int32) (J' : Nat → Nat → Int64), GMf I0 J0 I' J' → (I' 404 15).toInt = (gkF (tbM I0) N m T s).1 → (I' 404 16).toInt = (gkF (tbM I0) N m T s).2.1 → K (some (.int 0)) (n, SH1, I', J')) : t_X12_groundLine [.ref 404] (n, SH1, I, J) K := by
  refine q_body (Nat.le_of_ble_eq_true rfl) ?_
  have hT' := hT
  rw [hTe] at hT'
  refine q_ald rfl rfl ?_
  refine q_lc rfl ?_
  refine mw_step (i := 0) (p := p) rfl hT' hp (by decide +kernel) (by decide +kernel) (sm_ok (by decide)) (by decide +kernel) (fun s0 => ?_) (fun s0 => ?_)
  · rw [← hTe] at s0
    have eR : (gkF (tbM I0) N m T s) = gkA (tbM I0) N m T s := by unfold gkF; rw [if_pos s0]
    rw [eR] at hok hno
    refine q_if (c := 0) rfl (by decide) (fun h => absurd (show (1 : Int32).toInt = 0 from h) (by decide)) (fun _ => ?_)
    refine q_ald rfl rfl ?_
    refine q_callV (as := []) (rest := []) rfl rfl sk_404 rfl (Nat.le_of_ble_eq_true rfl) ?_
    exact v_mkind hR hOK hLet hJ hN hN9 hm hT hTN s0.1 (fun T' p' s' I' J' a1 a2 a3 a4 a5 a6 a7 a8 => q_zret rfl (Or.inr rfl) (hok T' p' s' I' J' a1 a2 a3 a4 a5 a6 a7 a8)) (fun e I' J' a1 a2 a3 => q_zret rfl (Or.inl rfl) (hno e I' J' a1 a2 a3))
  rw [← hTe] at s0
  refine q_if (c := 0) rfl (by decide) (fun _ => ?_) (fun h => absurd rfl h)
  refine q_ald rfl rfl ?_
  refine q_lc rfl ?_
  refine mw_step (i := 15) (p := p) rfl hT' hp (by decide +kernel) (by decide +kernel) (sm_ok (by decide)) (by decide +kernel) (fun s15 => ?_) (fun s15 => ?_)
  · rw [← hTe] at s15
    have eR : (gkF (tbM I0) N m T s) = gkR (tbM I0) N m T s := by unfold gkF; rw [if_neg s0, if_pos s15]
    rw [eR] at hok hno
    refine q_if (c := 0) rfl (by decide) (fun h => absurd (show (1 : Int32).toInt = 0 from h) (by decide)) (fun _ => ?_)
    refine q_ald rfl rfl ?_
    refine q_callV (as := []) (rest := []) rfl rfl sk_404 rfl (Nat.le_of_ble_eq_true rfl) ?_
    exact v_mrow hR hOK hLet hJ hN hN9 hm hT hTN s15.1 (fun T' p' s' I' J' a1 a2 a3 a4 a5 a6 a7 a8 => q_zret rfl (Or.inr rfl) (hok T' p' s' I' J' a1 a2 a3 a4 a5 a6 a7 a8)) (fun e I' J' a1 a2 a3 => q_zret rfl (Or.inl rfl) (hno e I' J' a1 a2 a3))
  rw [← hTe] at s15
  refine q_if (c := 0) rfl (by decide) (fun _ => ?_) (fun h => absurd rfl h)
  refine q_ald rfl rfl ?_
  refine q_lc rfl ?_
  refine mw_step (i := 16) (p := p) rfl hT' hp (by decide +kernel) (by decide +kernel) (sm_ok (by decide)) (by decide +kernel) (fun s16 => ?_) (fun s16 => ?_)
  · rw [← hTe] at s16
    have eR : (gkF (tbM I0) N m T s) = gkS (tbM I0) N m T s := by unfold gkF; rw [if_neg s0, if_neg s15, if_pos s16]
    rw [eR] at hok hno
    refine q_if (c := 0) rfl (by decide) (fun h => absurd (show (1 : Int32).toInt = 0 from h) (by decide)) (fun _ => ?_)
    exact v_mshade hR hOK hLet hJ hN hN9 hm hT hTN s16.1 hok hno
  rw [← hTe] at s16
  refine q_if (c := 0) rfl (by decide) (fun _ => ?_) (fun h => absurd rfl h)
  refine q_ald rfl rfl ?_
  refine q_lc rfl ?_
  refine mw_step (i := 17) (p := p) rfl hT' hp (by decide +kernel) (by decide +kernel) (sm_ok (by decide)) (by decide +kernel) (fun s17 => ?_) (fun s17 => ?_)
  · rw [← hTe] at s17
    have eR : (gkF (tbM I0) N m T s) = gkW (tbM I0) N m T s := by unfold gkF; rw [if_neg s0, if_neg s15, if_neg s16, if_pos s17]
    rw [eR] at hok hno
    refine q_if (c := 1) rfl (by decide) (fun _ => ?_) (fun h => absurd (show (1 : Int32).toInt = 0 from h) (by decide))
    exact v_mwater hR hOK hLet hJ hN hN9 hm hT hTN s17.1 hok hno
  rw [← hTe] at s17
  refine q_if (c := 1) rfl (by decide) (fun h => absurd rfl h) (fun _ => ?_)
  refine q_ald rfl rfl ?_
  refine q_ic rfl ?_
  refine mb_step (c := 1) rfl rfl gfV hR.1 (fun I9 J9 hI9 g7 g8 => ?_)
  rw [hT.2.1] at g8
  have eR : (gkF (tbM I0) N m T s) = (1, T.2.1, 0, g0) := by simp only [gkF, s0, s15, s16, s17, ne_eq, not_false_eq_true, not_true_eq_false, ↓reduceIte]
  rw [eR] at hno
  exact hno (nn rfl) I9 J9 hI9 g7 g8
