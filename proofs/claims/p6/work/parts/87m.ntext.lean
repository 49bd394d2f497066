/-! ===== a NIGHT's text read by the class ===== -/
set_option maxRecDepth 8000 in
theorem nb_K {t : fT} {lo hi : Int} {k : Int32 → Nat → fR} (h : (nbK t lo hi k).1 = 0) : nbF t lo hi = 0 := by
  unfold nbK at h
  by_cases g : nbF t lo hi = 0
  · exact g
  · rw [if_neg g] at h; exact absurd h g
set_option maxRecDepth 8000 in
theorem nl_24 {b : fB} {N m ln : Nat} {lat : Int32} {T : fT} (h : 24 ≤ ln) : (nlF b N m ln lat T).1 ≠ 0 := by
  unfold nlF
  by_cases g : wkF b T = 9
  · rw [if_pos g]; exact nn rfl
  · rw [if_neg g, if_pos h]; exact nn rfl
set_option maxRecDepth 8000 in
theorem nt_loop {n : Nat} {I0 : Nat → Nat → Int32} {J : Nat → Nat → Int64} {K : dw_K} {bc bs N m : Nat} {G : Nat × Nat × Nat × List fL} (hN : (I0 1 1).toInt = N) (hN9 : N ≤ 940) (hm : (I0 1 2).toInt = m)
    (hok : G.1 = 0 → ∀ (I' : Nat → Nat → Int32) (lat' w : Int32), NRp I0 I' lat' (uaF G.2.2.2) → w.toInt = G.2.2.1 → w.toInt ≤ 24 → K (some (.int w)) (n, SH1, I', J))
    (hno : G.1 ≠ 0 → ∀ (I' : Nat → Nat → Int32) (lat' : Int32) (U' : List (Nat × Nat × Int32)), NRp I0 I' lat' U' → (I' 1 7).toInt = G.1 → (I' 1 8).toInt = G.2.1 → K (some (.int (-1))) (n, SH1, I', J)) :
    ∀ (f ln p : Nat) (lat i : Int32) (L : List fL) (I : Nat → Nat → Int32), ln + f = 24 → ngF (tbC I0) N m (f + 1) ln lat p L = G → NRp I0 I lat (uaF L) → (I 1 3).toInt = p → p ≤ N → 0 ≤ lat.toInt → i.toInt = ln → dw_ok (pr_X3_readText K) 29 bc bs [some (.ref 123), some (.ref 1), some (.int i)] [] (n, SH1, I, J) := by
  have c24 : (24 : Int32).toInt = 24 := rfl
  have c1 : (1 : Int32).toInt = 1 := rfl
  intro f
  induction f with
  | zero =>
    intro ln p lat i L I hf hG hR h3 hp hl0 hi
    refine q_ild rfl rfl ?_
    refine q_ic rfl ?_
    refine q_icmp (c := 4) rfl (by decide) (fun h => absurd (show (24 : Int32).toInt < i.toInt from h) (by omega)) (fun _ => ?_)
    refine q_ald rfl rfl ?_
    refine q_callV (as := []) (rest := []) rfl rfl sk_1 rfl (Nat.le_of_ble_eq_true rfl) ?_
    have e1 : I 1 1 = I0 1 1 := hR.2.1 1 (by decide)
    have e2 : I 1 2 = I0 1 2 := hR.2.1 2 (by decide)
    have hb : tbC I = tbC I0 := tbC_eq e1 (hR.1 2 (by decide) (by decide) (by decide))
    refine v_take (p := p) (N := N) (m := m) (by rw [e1]; exact hN) hN9 (by rw [e2]; exact hm) h3 hp (fun I1 hA hF g3 g4 g5 g6 => ?_)
    rw [hb] at g3 g4 g5 g6
    have hR1 := NR_tape hR hA (fun j hj => hF j (by omega) (by omega) (by omega) (by omega))
    have hin := tkF_in (b := tbC I0) (n := N) (m := m) (p := p) hp
    unfold ngF at hG
    show dw_ok (pr_X3_readText K) 39 bc bs [some (.ref 123), some (.ref 1), some (.int i)] [] (n, SH1, I1, J)
    refine q_ald rfl rfl ?_
    refine q_geti rfl sk_1 ?_
    refine q_if (c := 1) rfl (by decide) (fun h => ?_) (fun h => ?_)
    · have h : (I1 1 5).toInt ≠ 0 := h
      have hT0 : ¬ (tkF (tbC I0) N m p).1 = 0 := by omega
      rw [if_neg hT0] at hG
      refine q_ald rfl rfl ?_
      refine q_ald rfl rfl ?_
      refine q_ild rfl rfl ?_
      refine q_callV (as := [.ref 1, .int i]) (rest := []) rfl rfl sk_123 rfl (Nat.le_of_ble_eq_true rfl) ?_
      refine v_nline hR1 hN hN9 hm g3 g4 g5 hin.2.2.1 hin.1 hl0 hi (fun hr => absurd hr (nl_24 (by omega))) (fun hr I2 lat2 U2 hR2 g7 g8 => ?_)
      rw [if_neg hr] at hG
      show dw_ok (pr_X3_readText K) 54 bc bs [some (.ref 123), some (.ref 1), some (.int i)] [.int 0] (n, SH1, I2, J)
      refine q_if (c := 1) rfl (by decide) (fun h => absurd rfl h) (fun _ => ?_)
      refine q_ic rfl ?_
      rw [← hG] at hno
      exact q_iret rfl (hno hr I2 lat2 U2 hR2 g7 g8)
    · have h : (I1 1 5).toInt = 0 := h
      have hT0 : (tkF (tbC I0) N m p).1 = 0 := by omega
      rw [if_pos hT0] at hG
      refine q_ild rfl rfl ?_
      rw [← hG] at hok
      exact q_iret rfl (hok rfl I1 lat i hR1 hi (by omega))
  | succ f ih =>
    intro ln p lat i L I hf hG hR h3 hp hl0 hi
    refine q_ild rfl rfl ?_
    refine q_ic rfl ?_
    refine q_icmp (c := 4) rfl (by decide) (fun h => absurd (show (24 : Int32).toInt < i.toInt from h) (by omega)) (fun _ => ?_)
    refine q_ald rfl rfl ?_
    refine q_callV (as := []) (rest := []) rfl rfl sk_1 rfl (Nat.le_of_ble_eq_true rfl) ?_
    have e1 : I 1 1 = I0 1 1 := hR.2.1 1 (by decide)
    have e2 : I 1 2 = I0 1 2 := hR.2.1 2 (by decide)
    have hb : tbC I = tbC I0 := tbC_eq e1 (hR.1 2 (by decide) (by decide) (by decide))
    refine v_take (p := p) (N := N) (m := m) (by rw [e1]; exact hN) hN9 (by rw [e2]; exact hm) h3 hp (fun I1 hA hF g3 g4 g5 g6 => ?_)
    rw [hb] at g3 g4 g5 g6
    have hR1 := NR_tape hR hA (fun j hj => hF j (by omega) (by omega) (by omega) (by omega))
    have hin := tkF_in (b := tbC I0) (n := N) (m := m) (p := p) hp
    unfold ngF at hG
    show dw_ok (pr_X3_readText K) 39 bc bs [some (.ref 123), some (.ref 1), some (.int i)] [] (n, SH1, I1, J)
    refine q_ald rfl rfl ?_
    refine q_geti rfl sk_1 ?_
    refine q_if (c := 1) rfl (by decide) (fun h => ?_) (fun h => ?_)
    · have h : (I1 1 5).toInt ≠ 0 := h
      have hT0 : ¬ (tkF (tbC I0) N m p).1 = 0 := by omega
      rw [if_neg hT0] at hG
      refine q_ald rfl rfl ?_
      refine q_ald rfl rfl ?_
      refine q_ild rfl rfl ?_
      refine q_callV (as := [.ref 1, .int i]) (rest := []) rfl rfl sk_123 rfl (Nat.le_of_ble_eq_true rfl) ?_
      refine v_nline hR1 hN hN9 hm g3 g4 g5 hin.2.2.1 hin.1 hl0 hi (fun hr I2 hR2 g23 hle hl2 => ?_) (fun hr I2 lat2 U2 hR2 g7 g8 => ?_)
      · rw [if_pos hr] at hG
        show dw_ok (pr_X3_readText K) 54 bc bs [some (.ref 123), some (.ref 1), some (.int i)] [.int 1] (n, SH1, I2, J)
        refine q_if (c := 1) rfl (by decide) (fun _ => ?_) (fun h => absurd (show (1 : Int32).toInt = 0 from h) (by decide))
        refine q_inc rfl rfl rfl ?_
        refine q_goto rfl ?_
        exact ih (ln + 1) _ _ (i + 1) _ I2 (by omega) hG hR2 g23 hle hl2 (by rw [i_add (by omega) (by omega), c1]; omega)
      · rw [if_neg hr] at hG
        show dw_ok (pr_X3_readText K) 54 bc bs [some (.ref 123), some (.ref 1), some (.int i)] [.int 0] (n, SH1, I2, J)
        refine q_if (c := 1) rfl (by decide) (fun h => absurd rfl h) (fun _ => ?_)
        refine q_ic rfl ?_
        rw [← hG] at hno
        exact q_iret rfl (hno hr I2 lat2 U2 hR2 g7 g8)
    · have h : (I1 1 5).toInt = 0 := h
      have hT0 : (tkF (tbC I0) N m p).1 = 0 := by omega
      rw [if_pos hT0] at hG
      refine q_ild rfl rfl ?_
      rw [← hG] at hok
      exact q_iret rfl (hok rfl I1 lat i hR1 hi (by omega))
set_option maxRecDepth 8000 in
/-- the reader's text: the place where it stands is 0 -/
theorem v_ntext {n : Nat} {I : Nat → Nat → Int32} {J : Nat → Nat → Int64} {K : dw_K} {N : Nat} {G : Nat × Nat × Nat × List fL} (hN : (I 1 1).toInt = N) (hN9 : N ≤ 940) (hG : ngF (tbC I) N 400 25 0 0 0 [] = G)
    (hok : G.1 = 0 → ∀ (I' : Nat → Nat → Int32) (w : Int32), (∀ a, a ≠ 1 → (a < 123 ∨ 130 < a) → I' a = I a) → I' 1 0 = I 1 0 → I' 1 1 = I 1 1 → (I' 124 0).toInt = 1 → (∀ w, w < 5 → ∀ t, t < 144 → I' (126 + w) t = ndF (uaF G.2.2.2) w t) → w.toInt = G.2.2.1 → w.toInt ≤ 24 → K (some (.int w)) (n, SH1, I', J))
    (hno : G.1 ≠ 0 → ∀ I' : Nat → Nat → Int32, (∀ a, a ≠ 1 → (a < 123 ∨ 130 < a) → I' a = I a) → I' 1 0 = I 1 0 → I' 1 1 = I 1 1 → (I' 1 7).toInt = G.1 → (I' 1 8).toInt = G.2.1 → K (some (.int (-1))) (n, SH1, I', J)) : t_X3_readText [.ref 123, .ref 1] (n, SH1, I, J) K := by
  refine q_body (Nat.le_of_ble_eq_true rfl) ?_
  refine q_ald rfl rfl ?_
  refine q_getr rfl sk_123 sr_123_0 ?_
  refine q_callV (as := []) (rest := []) rfl rfl sk_124 rfl (Nat.le_of_ble_eq_true rfl) ?_
  refine v_nclear (fun I1 hA1 hF1 hB1 => ?_)
  show dw_ok (pr_X3_readText K) 7 0 0 [some (.ref 123), some (.ref 1), none] [] (n, SH1, I1, J)
  refine q_ald rfl rfl ?_
  refine q_getr rfl sk_123 sr_123_0 ?_
  refine q_ic rfl ?_
  refine q_putz rfl sk_124 (Or.inr rfl) ?_
  refine q_ald rfl rfl ?_
  refine q_ic rfl ?_
  refine q_puti rfl sk_123 ?_
  refine q_ald rfl rfl ?_
  refine q_ic rfl ?_
  refine q_callV (as := [.int 400]) (rest := []) rfl rfl sk_1 rfl (Nat.le_of_ble_eq_true rfl) ?_
  refine v_open ?_
  refine q_ic rfl ?_
  refine q_ist rfl rfl ?_
  obtain ⟨I2, hI2⟩ : ∃ X, X = dw_up (dw_up (dw_up (dw_up (dw_up (dw_up (dw_up I1 124 0 1) 123 1 0) 1 2 400) 1 3 0) 1 4 0) 1 7 0) 1 8 0 := ⟨_, rfl⟩
  have hr : ∀ a, a ≠ 1 → a ≠ 123 → a ≠ 124 → I2 a = I1 a := fun a h1 h2 h3 => by rw [hI2]; funext j; simp [dw_up, h1, h2, h3]
  have f1 : I2 1 1 = I 1 1 := by rw [hI2]; show I1 1 1 = _; rw [hA1 1 (by decide) (by decide)]
  have f0 : I2 1 0 = I 1 0 := by rw [hI2]; show I1 1 0 = _; rw [hA1 1 (by decide) (by decide)]
  have f2 : I2 1 2 = 400 := by rw [hI2]; rfl
  have hb2 : tbC I2 = tbC I := tbC_eq f1 ((hr 2 (by decide) (by decide) (by decide)).trans (hA1 2 (by decide) (by decide)))
  have hR : NRp I2 I2 0 (uaF []) := ⟨fun _ _ _ _ => rfl, fun _ _ => rfl, by rw [hI2]; rfl, fun w hw t ht => by rw [hr (126 + w) (by omega) (by omega) (by omega)]; exact hB1 w hw t ht⟩
  show dw_ok (pr_X3_readText K) 29 0 0 [some (.ref 123), some (.ref 1), some (.int 0)] [] (n, SH1, dw_up (dw_up (dw_up (dw_up (dw_up (dw_up (dw_up I1 124 0 1) 123 1 0) 1 2 400) 1 3 0) 1 4 0) 1 7 0) 1 8 0, J)
  rw [← hI2]
  rw [← hb2] at hG
  refine nt_loop (I0 := I2) (G := G) (by rw [f1]; exact hN) hN9 (m := 400) (by rw [f2]; rfl) (fun hg I' lat' w hR' hw h24 => ?_) (fun hg I' lat' U' hR' g7 g8 => ?_) 24 0 0 0 0 [] I2 rfl hG hR (by rw [hI2]; rfl) (Nat.zero_le _) (by decide) rfl
  · refine hok hg I' w (fun a h1 h2 => ?_) ?_ ?_ ?_ hR'.2.2.2 hw h24
    · rw [hR'.1 a h1 (by omega) (by omega), hr a h1 (by omega) (by omega)]; exact hA1 a (by omega) (by omega)
    · rw [hR'.2.1 0 (by decide)]; exact f0
    · rw [hR'.2.1 1 (by decide)]; exact f1
    · rw [hR'.1 124 (by decide) (by decide) (by decide), hI2]; rfl
  · refine hno hg I' (fun a h1 h2 => ?_) ?_ ?_ g7 g8
    · rw [hR'.1 a h1 (by omega) (by omega), hr a h1 (by omega) (by omega)]; exact hA1 a (by omega) (by omega)
    · rw [hR'.2.1 0 (by decide)]; exact f0
    · rw [hR'.2.1 1 (by decide)]; exact f1
