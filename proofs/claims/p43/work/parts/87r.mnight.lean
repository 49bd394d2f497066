/-! ===== night() of the model, whole ===== -/
set_option maxRecDepth 8000 in
theorem pl_K {t : fT} {lo hi : Int} {k : Int32 → Nat → fR} {N : Nat} (ht : t.2.1 ≤ N) (hk : (k t.2.2.2 t.2.2.1).2.1 ≤ N) : (nbK t lo hi k).2.1 ≤ N := by
  unfold nbK
  by_cases g : nbF t lo hi = 0
  · rw [if_pos g]; exact hk
  · rw [if_neg g]; exact ht
set_option maxRecDepth 8000 in
theorem pl_S {t : fT} {k : Nat → fR} {N : Nat} (ht : t.2.1 ≤ N) (hk : (k t.2.2.1).2.1 ≤ N) : (stK t k).2.1 ≤ N := by
  unfold stK
  by_cases g : t.1 = 3
  · rw [if_pos g]; exact hk
  · rw [if_neg g]; exact ht
set_option maxRecDepth 8000 in
theorem pl_nl {b : fB} {N m ln : Nat} {lat : Int32} {T : fT} (h1 : T.2.1 ≤ N) (h2 : T.2.2.1 ≤ N) : (nlF b N m ln lat T).2.1 ≤ N := by
  unfold nlF
  by_cases g1 : wkF b T = 9
  · rw [if_pos g1]; exact h1
  rw [if_neg g1]
  by_cases g2 : 24 ≤ ln
  · rw [if_pos g2]; exact h1
  rw [if_neg g2]
  have a1 := tkF_in (b := b) (n := N) (m := m) (p := T.2.2.1) h2
  refine pl_K a1.1 ?_
  try dsimp only
  have a2 := tkF_in (b := b) (n := N) (m := m) (p := (tkF b N m T.2.2.1).2.2.1) a1.2.2.1
  by_cases g3 : wkF b T = 3
  · rw [if_pos g3]; exact pl_S a2.1 (Nat.zero_le _)
  rw [if_neg g3]
  refine pl_K a2.1 ?_
  try dsimp only
  have a3 := tkF_in (b := b) (n := N) (m := m) (p := (tkF b N m (tkF b N m T.2.2.1).2.2.1).2.2.1) a2.2.2.1
  by_cases g4 : wkF b T = 2
  · rw [if_pos g4]
    refine pl_K a3.1 ?_
    try dsimp only
    have a4 := tkF_in (b := b) (n := N) (m := m) (p := (tkF b N m (tkF b N m (tkF b N m T.2.2.1).2.2.1).2.2.1).2.2.1) a3.2.2.1
    exact pl_S a4.1 (Nat.zero_le _)
  · rw [if_neg g4]; exact pl_S a3.1 (Nat.zero_le _)
set_option maxRecDepth 8000 in
/-- where it goes on, too -/
theorem nx_K {t : fT} {lo hi : Int} {k : Int32 → Nat → fR} {N : Nat} (hk : (k t.2.2.2 t.2.2.1).2.2.1 ≤ N) : (nbK t lo hi k).2.2.1 ≤ N := by
  unfold nbK
  by_cases g : nbF t lo hi = 0
  · rw [if_pos g]; exact hk
  · rw [if_neg g]; exact Nat.zero_le _
set_option maxRecDepth 8000 in
theorem nx_S {t : fT} {k : Nat → fR} {N : Nat} (hk : (k t.2.2.1).2.2.1 ≤ N) : (stK t k).2.2.1 ≤ N := by
  unfold stK
  by_cases g : t.1 = 3
  · rw [if_pos g]; exact hk
  · rw [if_neg g]; exact Nat.zero_le _
set_option maxRecDepth 8000 in
theorem nx_nl {b : fB} {N m ln : Nat} {lat : Int32} {T : fT} (h2 : T.2.2.1 ≤ N) : (nlF b N m ln lat T).2.2.1 ≤ N := by
  unfold nlF
  by_cases g1 : wkF b T = 9
  · rw [if_pos g1]; exact Nat.zero_le _
  rw [if_neg g1]
  by_cases g2 : 24 ≤ ln
  · rw [if_pos g2]; exact Nat.zero_le _
  rw [if_neg g2]
  have a1 := tkF_in (b := b) (n := N) (m := m) (p := T.2.2.1) h2
  refine nx_K ?_
  try dsimp only
  have a2 := tkF_in (b := b) (n := N) (m := m) (p := (tkF b N m T.2.2.1).2.2.1) a1.2.2.1
  by_cases g3 : wkF b T = 3
  · rw [if_pos g3]; exact nx_S a2.2.2.1
  rw [if_neg g3]
  refine nx_K ?_
  try dsimp only
  have a3 := tkF_in (b := b) (n := N) (m := m) (p := (tkF b N m (tkF b N m T.2.2.1).2.2.1).2.2.1) a2.2.2.1
  by_cases g4 : wkF b T = 2
  · rw [if_pos g4]
    refine nx_K ?_
    try dsimp only
    have a4 := tkF_in (b := b) (n := N) (m := m) (p := (tkF b N m (tkF b N m (tkF b N m T.2.2.1).2.2.1).2.2.1).2.2.1) a3.2.2.1
    exact nx_S a4.2.2.1
  · rw [if_neg g4]; exact nx_S a3.2.2.1
set_option maxRecDepth 8000 in
theorem pl_ng {b : fB} {N m : Nat} : ∀ (f ln p : Nat) (lat : Int32) (L : List fL), p ≤ N → (ngF b N m f ln lat p L).2.1 ≤ N
  | 0, _, _, _, _, _ => Nat.zero_le _
  | f + 1, ln, p, lat, L, hp => by
    have a := tkF_in (b := b) (n := N) (m := m) (p := p) hp
    unfold ngF
    by_cases g1 : (tkF b N m p).1 = 0
    · rw [if_pos g1]; exact Nat.zero_le _
    rw [if_neg g1]
    by_cases g2 : (nlF b N m ln lat (tkF b N m p)).1 = 0
    · rw [if_pos g2]; exact pl_ng f _ _ _ _ (nx_nl a.2.2.1)
    · rw [if_neg g2]; exact pl_nl a.1 a.2.2.1
set_option maxRecDepth 8000 in
theorem mc_loop {n bc bs s c : Nat} {K : dw_K} {I0 : Nat → Nat → Int32} {J : Nat → Nat → Int64} {x : Int32} (hx : x.toInt = s) (hs : s < 6) (hc : (I0 404 21).toInt = c) (hc9 : c ≤ 24)
    (hk : ∀ I' : Nat → Nat → Int32, (∀ a, a ≠ 406 → I' a = I0 a) → (∀ j, I' 406 j = if 221 + 97 * s ≤ j ∧ j < 221 + 97 * s + (4 * c + 1) then I0 408 (j - (221 + 97 * s)) else I0 406 j) → K (some (.int (I0 404 21))) (n, SH1, I', J)) :
    ∀ (f k : Nat) (y : Int32) (I : Nat → Nat → Int32), k ≤ 4 * c + 1 → 4 * c + 1 - k ≤ f → y.toInt = k → (∀ a, a ≠ 406 → I a = I0 a) → (∀ j, I 406 j = if 221 + 97 * s ≤ j ∧ j < 221 + 97 * s + k then I0 408 (j - (221 + 97 * s)) else I0 406 j) → dw_ok (pr_X12_night K) 94 bc bs [some (.ref 404), some (.int x), some (.int y)] [] (n, SH1, I, J) := by
  have c1 : (1 : Int32).toInt = 1 := rfl
  have c4 : (4 : Int32).toInt = 4 := rfl
  have c97 : (97 : Int32).toInt = 97 := rfl
  have c221 : (221 : Int32).toInt = 221 := rfl
  intro f
  induction f with
  | zero =>
    intro k y I hk1 hf hy hA hB
    have h4 : I 404 = I0 404 := hA 404 (by decide)
    have t4 : (4 * I 404 21).toInt = 4 * c := i_mul (by rw [c4, h4, hc]) (by omega) (by omega)
    refine q_ild rfl rfl ?_
    refine q_ic rfl ?_
    refine q_ald rfl rfl ?_
    refine q_geti rfl sk_404 ?_
    refine q_mul rfl ?_
    refine q_icmp (c := 4) rfl (by decide) (fun _ => ?_) (fun h => absurd (show y.toInt ≤ (4 * I 404 21).toInt from h) (by omega))
    refine q_ald rfl rfl ?_
    refine q_geti rfl sk_404 ?_
    refine q_iret rfl ?_
    show K (some (.int (I 404 21))) (n, SH1, I, J)
    rw [h4]
    exact hk I hA (fun j => by rw [hB j, show k = 4 * c + 1 by omega])
  | succ f ih =>
    intro k y I hk1 hf hy hA hB
    have h4 : I 404 = I0 404 := hA 404 (by decide)
    have t4 : (4 * I 404 21).toInt = 4 * c := i_mul (by rw [c4, h4, hc]) (by omega) (by omega)
    refine q_ild rfl rfl ?_
    refine q_ic rfl ?_
    refine q_ald rfl rfl ?_
    refine q_geti rfl sk_404 ?_
    refine q_mul rfl ?_
    refine q_icmp (c := 4) rfl (by decide) (fun h => ?_) (fun h => ?_)
    · have h : (4 * I 404 21).toInt < y.toInt := h
      refine q_ald rfl rfl ?_
      refine q_geti rfl sk_404 ?_
      refine q_iret rfl ?_
      show K (some (.int (I 404 21))) (n, SH1, I, J)
      rw [h4]
      exact hk I hA (fun j => by rw [hB j, show k = 4 * c + 1 by omega])
    have h : y.toInt ≤ (4 * I 404 21).toInt := h
    have t97 : (97 * x).toInt = 97 * s := i_mul (by rw [c97, hx]) (by omega) (by omega)
    have t2 : (221 + 97 * x).toInt = 221 + 97 * s := by rw [i_add (by omega) (by omega), c221, t97]
    have t3 : (221 + 97 * x + y).toInt = 221 + 97 * s + k := by rw [i_add (by omega) (by omega), t2, hy]
    have ty : (y + 1).toInt = y.toInt + 1 := by rw [i_add (by omega) (by omega), c1]
    refine q_ald rfl rfl ?_
    refine q_getr rfl sk_404 sr_404_6 ?_
    refine q_ic rfl ?_
    refine q_ic rfl ?_
    refine q_ild rfl rfl ?_
    refine q_mul rfl ?_
    refine q_add rfl ?_
    refine q_ild rfl rfl ?_
    refine q_add rfl ?_
    refine q_ald rfl rfl ?_
    refine q_getr rfl sk_404 sr_404_8 ?_
    refine q_ild rfl rfl ?_
    refine q_xald rfl (Or.inl rfl) sk_408 sn_408 (by omega) (by omega) ?_
    refine q_iast rfl sk_406 sn_406 (by omega) (by omega) ?_
    refine q_inc rfl rfl rfl ?_
    refine q_goto rfl ?_
    refine ih (k + 1) (y + 1) (dw_up I 406 (221 + 97 * x + y).toInt.toNat (I 408 y.toInt.toNat)) (by omega) (by omega) (by omega) (fun a ha => (up_row ha).trans (hA a ha)) (fun j => ?_)
    have n3 : (221 + 97 * x + y).toInt.toNat = 221 + 97 * s + k := by omega
    rw [n3, show y.toInt.toNat = k by omega, show I 408 = I0 408 from hA 408 (by decide)]
    by_cases e : j = 221 + 97 * s + k
    · rw [if_pos (by omega), e, show 221 + 97 * s + k - (221 + 97 * s) = k by omega]; exact up_same
    · rw [up_fld e, hB j]
      by_cases g : 221 + 97 * s ≤ j ∧ j < 221 + 97 * s + k
      · rw [if_pos g, if_pos (by omega)]
      · rw [if_neg g, if_neg (by omega)]
def tbL (I : Nat → Nat → Int32) : fB := fun k => if (k : Int) < (I 404 2).toInt then I 405 k &&& 255 else 0
set_option maxRecDepth 8000 in
theorem v_mnight {n : Nat} {I : Nat → Nat → Int32} {J : Nat → Nat → Int64} {K : dw_K} {x : Int32} {N : Nat} {G : Nat × Nat × Nat × List fL} (hN : (I 404 2).toInt = N) (hN9 : N ≤ 940) (hG : ngF (tbL I) N 400 25 0 0 0 [] = G)
    (h0 : ¬ (0 ≤ x.toInt ∧ x.toInt ≤ 5) → ∀ I' : Nat → Nat → Int32, (∀ a, a ≠ 404 → I' a = I a) → (∀ j, 23 ≤ j → I' 404 j = I 404 j) → I' 404 2 = 0 → K (some (.int (-1001))) (n, SH1, I', J))
    (h1 : ∀ s : Nat, s < 6 → x.toInt = s → G.1 = 0 → ∀ (I' : Nat → Nat → Int32) (J' : Nat → Nat → Int64) (w : Int32), (∀ a, a ≠ 404 → a ≠ 406 → a ≠ 408 → I' a = I a) → (∀ j, 23 ≤ j → I' 404 j = I 404 j) → I' 404 2 = 0 → (∀ a, a ≠ 404 → J' a = J a) → (∀ j, j < 221 + 97 * s ∨ 221 + 97 * s + 97 ≤ j → I' 406 j = I 406 j) → (∀ j, 4 * G.2.2.1 < j → I' 406 (221 + 97 * s + j) = I 406 (221 + 97 * s + j)) → mdF I' G.2.2.2 → I' 408 0 = w → (∀ j, j ≤ 4 * G.2.2.1 → I' 406 (221 + 97 * s + j) = I' 408 j) → w.toInt = G.2.2.1 → G.2.2.1 = G.2.2.2.length → G.2.2.1 ≤ 24 → K (some (.int w)) (n, SH1, I', J'))
    (h2 : ∀ s : Nat, s < 6 → x.toInt = s → G.1 ≠ 0 → ∀ (I' : Nat → Nat → Int32) (J' : Nat → Nat → Int64) (w : Int32), (∀ a, a ≠ 404 → a ≠ 408 → I' a = I a) → (∀ j, 23 ≤ j → I' 404 j = I 404 j) → I' 404 2 = 0 → (∀ a, a ≠ 404 → J' a = J a) → w.toInt = -1 - (G.2.1 : Int) → K (some (.int w)) (n, SH1, I', J')) : t_X12_night [.ref 404, .int x] (n, SH1, I, J) K := by
  have c5 : (5 : Int32).toInt = 5 := rfl
  have c0 : (0 : Int32).toInt = 0 := rfl
  have hpl : G.2.1 ≤ 940 := by rw [← hG]; exact Nat.le_trans (pl_ng 25 0 0 0 [] (Nat.zero_le _)) hN9
  refine q_body (Nat.le_of_ble_eq_true rfl) ?_
  refine q_ald rfl rfl ?_
  refine q_ic rfl ?_
  refine q_puti rfl sk_404 ?_
  refine q_ald rfl rfl ?_
  refine q_ic rfl ?_
  refine q_callV (as := [.int 400]) (rest := []) rfl rfl sk_404 rfl (Nat.le_of_ble_eq_true rfl) ?_
  refine v_taken (I := dw_up I 404 0 0) ?_
  refine q_ild rfl rfl ?_
  refine q_ic rfl ?_
  refine q_ic rfl ?_
  refine q_callS (as := [.int x, .int 0, .int 5]) (rest := []) rfl rfl rfl rfl ?_
  refine v_isIn (I := dw_up (dw_up (dw_up (dw_up (dw_up I 404 0 0) 404 3 (I 404 2)) 404 2 0) 404 4 0) 404 5 400) (fun w hw => ?_)
  rcases hw with ⟨rfl, g1, g2⟩ | ⟨rfl, g⟩
  rotate_left
  · refine q_if (c := 1) rfl (by decide) (fun h => absurd rfl h) (fun _ => ?_)
    refine q_ic rfl ?_
    refine q_iret rfl (h0 (by omega) _ (fun a ha => ?_) (fun j hj => ?_) rfl)
    · exact (up_row ha).trans ((up_row ha).trans ((up_row ha).trans ((up_row ha).trans (up_row ha))))
    · exact (up_fld (by omega)).trans ((up_fld (by omega)).trans ((up_fld (by omega)).trans ((up_fld (by omega)).trans (up_fld (by omega)))))
  refine q_if (c := 1) rfl (by decide) (fun _ => ?_) (fun h => absurd (show (1 : Int32).toInt = 0 from h) (by decide))
  refine q_ald rfl rfl ?_
  refine q_ic rfl ?_
  refine q_puti rfl sk_404 ?_
  refine q_ald rfl rfl ?_
  refine q_ic rfl ?_
  refine q_puti rfl sk_404 ?_
  obtain ⟨I2, hI2⟩ : ∃ X, X = dw_up (dw_up (dw_up (dw_up (dw_up (dw_up (dw_up I 404 0 0) 404 3 (I 404 2)) 404 2 0) 404 4 0) 404 5 400) 404 15 0) 404 21 0 := ⟨_, rfl⟩
  have hA2 : ∀ a, a ≠ 404 → I2 a = I a := fun a ha => by rw [hI2]; funext j; simp [dw_up, ha]
  have hF2 : ∀ j, 23 ≤ j → I2 404 j = I 404 j := fun j hj => by
    rw [hI2]
    exact (up_fld (by omega)).trans ((up_fld (by omega)).trans ((up_fld (by omega)).trans ((up_fld (by omega)).trans ((up_fld (by omega)).trans ((up_fld (by omega)).trans (up_fld (by omega)))))))
  have e3 : I2 404 3 = I 404 2 := by rw [hI2]; rfl
  have e2 : I2 404 2 = 0 := by rw [hI2]; rfl
  have e4 : I2 404 4 = 0 := by rw [hI2]; rfl
  have e5 : I2 404 5 = 400 := by rw [hI2]; rfl
  have e21 : I2 404 21 = 0 := by rw [hI2]; rfl
  have hb : tbM I2 = tbL I := by
    funext k
    unfold tbM tbL
    rw [e3, hA2 405 (by decide)]
  show dw_ok (pr_X12_night K) 35 0 0 [some (.ref 404), some (.int x), none] [] (n, SH1, dw_up (dw_up (dw_up (dw_up (dw_up (dw_up (dw_up I 404 0 0) 404 3 (I 404 2)) 404 2 0) 404 4 0) 404 5 400) 404 15 0) 404 21 0, J)
  rw [← hI2]
  obtain ⟨s, hs⟩ : ∃ s : Nat, x.toInt = s := ⟨x.toInt.toNat, by omega⟩
  have hs6 : s < 6 := by omega
  refine q_ald rfl rfl ?_
  refine q_callV (as := []) (rest := []) rfl rfl sk_404 rfl (Nat.le_of_ble_eq_true rfl) ?_
  refine v_next (p := 0) (N := N) (m := 400) (by rw [e3]; exact hN) hN9 (by rw [e5]; rfl) (by rw [e4]; rfl) (Nat.zero_le _) (fun I3 J3 hA3 hF3 hJa3 hJf3 hM3 => ?_)
  show dw_ok (pr_X12_night K) 39 0 0 [some (.ref 404), some (.int x), none] [] (n, SH1, I3, J3)
  have hb3 : tbM I3 = tbL I := (tbM_eq (hF3 3 (by decide) (by decide) (by decide) (by decide) (by decide)) (hA3 405 (by decide))).trans hb
  rw [hb, ← hb3] at hM3
  rw [← hb3] at hG
  refine mn_loop (I0 := I3) (J0 := J3) (N := N) (m := 400) (G := G) (by rw [hF3 3 (by decide) (by decide) (by decide) (by decide) (by decide), e3]; exact hN) hN9 (by rw [hF3 5 (by decide) (by decide) (by decide) (by decide) (by decide), e5]; rfl) hpl (fun hg I4 J4 hR4 hD4 h21 hlen h24 => ?_) (fun hg I4 J4 w hR4 hw => ?_) 24 0 0 [] I3 J3 rfl rfl hG ⟨fun _ _ _ => rfl, fun _ _ _ => rfl, fun _ _ => rfl, fun _ _ _ => rfl⟩ (by rw [hF3 21 (by decide) (by decide) (by decide) (by decide) (by decide), e21]; rfl) trivial hM3 (Nat.zero_le _) (by decide)
  · refine q_ald rfl rfl ?_
    refine q_getr rfl sk_404 sr_404_8 ?_
    refine q_ic rfl ?_
    refine q_ald rfl rfl ?_
    refine q_geti rfl sk_404 ?_
    refine q_iast rfl sk_408 sn_408 (by decide) (by decide) ?_
    refine q_ic rfl ?_
    refine q_ist rfl rfl ?_
    show dw_ok (pr_X12_night K) 94 0 0 [some (.ref 404), some (.int x), some (.int 0)] [] (n, SH1, dw_up I4 408 0 (I4 404 21), J4)
    refine mc_loop (s := s) (c := G.2.2.1) (I0 := dw_up I4 408 0 (I4 404 21)) hs hs6 h21 h24 (fun I5 hA5 hB5 => ?_) (4 * G.2.2.1 + 1) 0 0 (dw_up I4 408 0 (I4 404 21)) (Nat.zero_le _) (by omega) rfl (fun _ _ => rfl) (fun j => by rw [if_neg (by omega)])
    have h406 : dw_up I4 408 0 (I4 404 21) 406 = I 406 := (up_row (by decide)).trans ((hR4.1 406 (by decide) (by decide)).trans ((hA3 406 (by decide)).trans (hA2 406 (by decide))))
    have h404 : ∀ j, I5 404 j = I4 404 j := fun j => by rw [hA5 404 (by decide), up_row (by decide)]
    refine h1 s hs6 hs hg I5 J4 (I4 404 21) (fun a q1 q2 q3 => ?_) (fun j hj => ?_) ?_ (fun a ha => ?_) (fun j hj => ?_) (fun j hj => ?_) ?_ ?_ (fun j hj => ?_) h21 hlen h24
    · rw [hA5 a q2, up_row q3, hR4.1 a q1 q3, hA3 a q1]; exact hA2 a q1
    · rw [h404 j, hR4.2.1 j ⟨by omega, by omega, by omega, by omega, by omega, by omega, by omega, by omega⟩ (by omega), hF3 j (by omega) (by omega) (by omega) (by omega) (by omega)]; exact hF2 j hj
    · rw [h404 2, hR4.2.1 2 (by decide) (by decide), hF3 2 (by decide) (by decide) (by decide) (by decide) (by decide)]; exact e2
    · rw [hR4.2.2.1 a ha]; exact hJa3 a ha
    · rw [hB5 j, if_neg (by omega), h406]
    · rw [hB5 (221 + 97 * s + j), if_neg (by omega), h406]
    · exact md_pos (I := I4) G.2.2.2 (fun j hj => by rw [hA5 408 (by decide)]; exact up_fld (by omega)) hD4
    · rw [hA5 408 (by decide)]; exact up_same
    · rw [hB5 (221 + 97 * s + j), if_pos (by omega), show 221 + 97 * s + j - (221 + 97 * s) = j by omega, hA5 408 (by decide)]
  · refine h2 s hs6 hs hg I4 J4 w (fun a q1 q2 => ?_) (fun j hj => ?_) ?_ (fun a ha => ?_) hw
    · rw [hR4.1 a q1 q2, hA3 a q1]; exact hA2 a q1
    · rw [hR4.2.1 j ⟨by omega, by omega, by omega, by omega, by omega, by omega, by omega, by omega⟩ (by omega), hF3 j (by omega) (by omega) (by omega) (by omega) (by omega)]; exact hF2 j hj
    · rw [hR4.2.1 2 (by decide) (by decide), hF3 2 (by decide) (by decide) (by decide) (by decide) (by decide)]; exact e2
    · rw [hR4.2.2.1 a ha]; exact hJa3 a ha
