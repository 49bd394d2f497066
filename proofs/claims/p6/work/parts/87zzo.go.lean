/-! ===== the RUN now, of the class ===== -/
set_option maxRecDepth 8000 in
theorem v_goByR {n : Nat} {I : Nat → Nat → Int32} {J : Nat → Nat → Int64} {K : dw_K} {A N st d m : Nat} {s : Int32} {C : Nat → Nat → rC} {T : Nat → rN} {s0 : rS} (hA : RT A) (h : CSK I A N st C T s0 d 0) (hd9 : d ≤ 144) (hN9 : N ≤ 144) (hm : s.toInt = m) (hm9 : m ≤ 144) (hk0 : 144 < d + m → K (some (.int 0)) (n, SH1, I, J)) (hk1 : d + m ≤ 144 → ∀ I' : Nat → Nat → Int32, (∀ a, a ≠ A → a ≠ A + 13 → a ≠ A + 14 → I' a = I a) → (∀ j, j ≠ 2 → j ≠ 3 → j ≠ 4 → I' A j = I A j) → CSK I' A N st C T s0 d m → K (some (.int 1)) (n, SH1, I', J)) : t_X7_goBy [.ref A, .int s] (n, SH1, I, J) K := by
  have c144 : (144 : Int32).toInt = 144 := rfl
  have hd : (I A 2).toInt = (d : Nat) := h.2.2.2.2.2.1
  have e1 : (144 - I A 2).toInt = 144 - d := by rw [i_sub (by omega) (by omega), c144, hd]
  refine q_body (Nat.le_of_ble_eq_true rfl) ?_
  refine q_ild rfl rfl ?_
  refine q_ic rfl ?_
  refine q_ald rfl rfl ?_
  refine q_geti rfl hA.1 ?_
  refine q_sub rfl ?_
  refine q_icmp (c := 5) rfl (by decide) (fun y1 => ?_) (fun y1 => ?_)
  · have y1 : (s).toInt ≤ (((144 : Int32) - (I A 2))).toInt := y1
    refine q_ald rfl rfl ?_
    refine q_ald rfl rfl ?_
    refine q_geti rfl hA.1 ?_
    refine q_ild rfl rfl ?_
    refine q_add rfl ?_
    refine q_callV (as := [.int ((I A 2) + s)]) (rest := []) rfl rfl hA.1 rfl (Nat.le_of_ble_eq_true rfl) ?_
    refine v_untilR (j := m) hA h (by omega) hN9 (Or.inl (by rw [i_add (by omega) (by omega), hd, hm]; omega)) (fun I' g1 g2 g3 => ?_)
    rw [Nat.zero_add] at g3
    show dw_ok (pr_X7_goBy K) 24 0 0 [some (.ref A), some (.int s)] [] (n, SH1, I', J)
    refine q_ic rfl ?_
    exact q_zret rfl (Or.inr rfl) (hk1 (by omega) I' g1 g2 g3)
  · have y1 : (((144 : Int32) - (I A 2))).toInt < (s).toInt := y1
    refine q_ic rfl ?_
    exact q_zret rfl (Or.inl rfl) (hk0 (by omega))
set_option maxRecDepth 8000 in
theorem v_gtellS {n : Nat} {I : Nat → Nat → Int32} {J : Nat → Nat → Int64} {K : dw_K} {k : Nat} {c : Int32} (hc : c.toInt = k) (h1 : k < 144) (hk : K (some (.int (I 9 k))) (n, SH1, I, J)) : t_X0_tell [.ref 4, .int c, .int (1 : Int32)] (n, SH1, I, J) K := by
  have hcn : c.toInt.toNat = k := by omega
  have c144 : (144 : Int32).toInt = 144 := rfl
  refine q_body (Nat.le_of_ble_eq_true rfl) ?_
  refine q_ild rfl rfl ?_
  refine q_if (c := 2) rfl (by decide) (fun h => absurd (show (c).toInt < 0 from h) (by omega)) (fun y1 => ?_)
  have y1 : 0 ≤ (c).toInt := y1
  refine q_ild rfl rfl ?_
  refine q_ic rfl ?_
  refine q_icmp (c := 2) rfl (by decide) (fun y2 => ?_) (fun h => absurd (show (144 : Int) ≤ (c).toInt from h) (by omega))
  have y2 : (c).toInt < (144 : Int) := y2
  refine q_ild rfl rfl ?_
  refine q_tab rfl (fun h3 => absurd h3 (by decide)) (fun _ => ⟨51, rfl, ?_⟩)
  show dw_ok (pr_X0_tell K) 51 0 0 [some (.ref 4), some (.int c), some (.int (1 : Int32))] [] (n, SH1, I, J)
  refine q_ald rfl rfl ?_
  refine q_getr rfl sk_4 sr_4_9 ?_
  refine q_ild rfl rfl ?_
  refine q_xald rfl (Or.inl rfl) sk_9 sn_9 (by omega) (by omega) ?_
  show dw_ok (pr_X0_tell K) 57 0 0 [some (.ref 4), some (.int c), some (.int (1 : Int32))] [.int (I 9 (c).toInt.toNat)] (n, SH1, I, J)
  rw [hcn]
  exact q_iret rfl hk
set_option maxRecDepth 8000 in
set_option maxHeartbeats 4000000 in
theorem v_doLine {n : Nat} {I : Nat → Nat → Int32} {J : Nat → Nat → Int64} {K : dw_K} {A i : Nat} {ln : Int32} {R cv : Nat → Int32} {s : rS} {d : Nat} (hA2 : A = 43 ∨ A = 164) (hG : GOK R) (hRG : RG I 4 R) (hRP : RP I 11 R) (hGP : GP R cv s d) (hGC : GC I A R cv s d) (hln : ln.toInt = i) (hi : (i : Int) < (R 803).toInt) (hk : ∀ (I' : Nat → Nat → Int32) (w : Int32) (L : Nat × Int32 × gL), lnF R i (cv, s, d) = L → w.toInt = L.1 → (∀ a, a ≠ A → (a < A + 11 ∨ A + 14 < a) → a ≠ 208 → I' a = I a) → (∀ j, j ≠ 2 → j ≠ 3 → j ≠ 4 → I' A j = I A j) → (∀ j, j ≠ 2 → I' 208 j = I 208 j) → I' 208 2 = I 208 2 + L.2.1 → GC I' A R L.2.2.1 L.2.2.2.1 L.2.2.2.2 → GP R L.2.2.1 L.2.2.2.1 L.2.2.2.2 → K (some (.int w)) (n, SH1, I', J)) : t_X11_doLine [.ref 0, .ref A, .int ln] (n, SH1, I, J) K := by
  have hA : RT A := by
    rcases hA2 with rfl | rfl
    · exact rt_ok (by decide)
    · exact rt_ok (by decide)
  have hA9 : 43 ≤ A ∧ A ≤ 164 := by omega
  clear hA2
  have hN9 := (gok_N hG).2
  obtain ⟨p0, ⟨pb0, pb1⟩, pl⟩ := id hRP
  have hi30 : i < 30 := by omega
  obtain ⟨q0, ⟨q1, q2⟩, q3, q4⟩ := pl i hi
  obtain ⟨kd, hkd⟩ : ∃ z, z = I (11 + 2 + i) 0 := ⟨_, rfl⟩
  obtain ⟨va, hva⟩ : ∃ z, z = I (11 + 2 + i) 1 := ⟨_, rfl⟩
  obtain ⟨vb, hvb⟩ : ∃ z, z = I (11 + 2 + i) 2 := ⟨_, rfl⟩
  rw [← hkd] at q0 q1 q2 q3 q4
  rw [← hva] at q3 q4
  rw [← hvb] at q4
  refine q_body (Nat.le_of_ble_eq_true rfl) ?_
  refine q_ald rfl rfl ?_
  refine q_getr rfl sk_0 sr_0_1 ?_
  refine q_getr rfl sk_3 sr_3_3 ?_
  refine q_ild rfl rfl ?_
  refine q_ic rfl ?_
  refine q_callV (as := [.int ln, .int (0 : Int32)]) (rest := []) rfl rfl sk_11 rfl (Nat.le_of_ble_eq_true rfl) ?_
  refine v_ptell (A := 11) (i := i) (w := 0) (y := 0) (pt_ok (by decide)) hln hi30 rfl (by decide) ?_
  show dw_ok (pr_X11_doLine K) 12 0 0 [some (.ref 0), some (.ref A), some (.int ln), none, none, none, none] [.int (I (11 + 2 + i) 0)] (n, SH1, I, J)
  rw [← hkd]
  show dw_ok (pr_X11_doLine K) 12 0 0 [some (.ref 0), some (.ref A), some (.int ln), none, none, none, none] [.int kd] (n, SH1, I, J)
  refine q_ist rfl rfl ?_
  show dw_ok (pr_X11_doLine K) 13 0 0 [some (.ref 0), some (.ref A), some (.int ln), some (.int kd), none, none, none] [] (n, SH1, I, J)
  refine q_ald rfl rfl ?_
  refine q_getr rfl sk_0 sr_0_1 ?_
  refine q_getr rfl sk_3 sr_3_3 ?_
  refine q_ild rfl rfl ?_
  refine q_ic rfl ?_
  refine q_callV (as := [.int ln, .int (1 : Int32)]) (rest := []) rfl rfl sk_11 rfl (Nat.le_of_ble_eq_true rfl) ?_
  refine v_ptell (A := 11) (i := i) (w := 1) (y := 1) (pt_ok (by decide)) hln hi30 rfl (by decide) ?_
  show dw_ok (pr_X11_doLine K) 25 0 0 [some (.ref 0), some (.ref A), some (.int ln), some (.int kd), none, none, none] [.int (I (11 + 2 + i) 1)] (n, SH1, I, J)
  rw [← hva]
  show dw_ok (pr_X11_doLine K) 25 0 0 [some (.ref 0), some (.ref A), some (.int ln), some (.int kd), none, none, none] [.int va] (n, SH1, I, J)
  refine q_ist rfl rfl ?_
  show dw_ok (pr_X11_doLine K) 27 0 0 [some (.ref 0), some (.ref A), some (.int ln), some (.int kd), some (.int va), none, none] [] (n, SH1, I, J)
  refine q_ild rfl rfl ?_
  refine q_if (c := 1) rfl (by decide) (fun y1 => ?_) (fun y1 => ?_)
  · have y1 : (kd).toInt ≠ 0 := y1
    refine q_ald rfl rfl ?_
    refine q_getr rfl sk_0 sr_0_1 ?_
    refine q_getr rfl sk_3 sr_3_1 ?_
    refine q_ild rfl rfl ?_
    refine q_ald rfl rfl ?_
    refine q_getr rfl sk_0 sr_0_1 ?_
    refine q_getr rfl sk_3 sr_3_3 ?_
    refine q_ild rfl rfl ?_
    refine q_ic rfl ?_
    refine q_callV (as := [.int ln, .int (2 : Int32)]) (rest := [.int va, .ref 4]) rfl rfl sk_11 rfl (Nat.le_of_ble_eq_true rfl) ?_
    refine v_ptell (A := 11) (i := i) (w := 2) (y := 2) (pt_ok (by decide)) hln hi30 rfl (by decide) ?_
    show dw_ok (pr_X11_doLine K) 67 0 0 [some (.ref 0), some (.ref A), some (.int ln), some (.int kd), some (.int va), none, none] [.int (I (11 + 2 + i) 2), .int va, .ref 4] (n, SH1, I, J)
    rw [← hvb]
    show dw_ok (pr_X11_doLine K) 67 0 0 [some (.ref 0), some (.ref A), some (.int ln), some (.int kd), some (.int va), none, none] [.int vb, .int va, .ref 4] (n, SH1, I, J)
    refine q_callV (as := [.int va, .int vb]) (rest := []) rfl rfl sk_4 rfl (Nat.le_of_ble_eq_true rfl) ?_
    obtain ⟨z1, ⟨z2, z3⟩, z4, z5⟩ := q4 y1
    have ok : okC R va vb := ⟨z2, z3, z4, z5⟩
    have hpa : pLA R i = cN R va vb := by
      show (R (805 + 3 * i)).toInt.toNat = cN R va vb
      rw [z1, (cN_i hG ok).2]; exact Int.toNat_natCast _
    refine v_cellAt2 (R := R) hG (hRG.1 0 (by decide)) (hRG.1 1 (by decide)) (fun _ cc hcc => ?_) (fun no => absurd ok no)
    rw [← hpa] at hcc
    have hcN : pLA R i < Nn R := by rw [hpa]; exact cN_lt ok
    have h1A : (I A 1).toInt = Nn R := hGC.1.2.2.2.1
    show dw_ok (pr_X11_doLine K) 70 0 0 [some (.ref 0), some (.ref A), some (.int ln), some (.int kd), some (.int va), none, none] [.int cc] (n, SH1, I, J)
    refine q_ist rfl rfl ?_
    show dw_ok (pr_X11_doLine K) 72 0 0 [some (.ref 0), some (.ref A), some (.int ln), some (.int kd), some (.int va), some (.int cc), none] [] (n, SH1, I, J)
    refine q_ild rfl rfl ?_
    refine q_ic rfl ?_
    refine q_icmp (c := 1) rfl (by decide) (fun y2 => ?_) (fun y2 => ?_)
    · have y2 : (kd).toInt ≠ (1 : Int) := y2
      refine q_ild rfl rfl ?_
      refine q_ic rfl ?_
      refine q_icmp (c := 1) rfl (by decide) (fun y3 => ?_) (fun y3 => ?_)
      · have y3 : (kd).toInt ≠ (2 : Int) := y3
        refine q_ald rfl rfl ?_
        refine q_ild rfl rfl ?_
        refine q_ald rfl rfl ?_
        refine q_getr rfl sk_0 sr_0_1 ?_
        refine q_getr rfl sk_3 sr_3_1 ?_
        refine q_ild rfl rfl ?_
        refine q_ic rfl ?_
        refine q_callV (as := [.int cc, .int (1 : Int32)]) (rest := [.int cc, .ref A]) rfl rfl sk_4 rfl (Nat.le_of_ble_eq_true rfl) ?_
        refine v_gtellS hcc (by omega) ?_
        rw [show I 9 (pLA R i) = skI R (pLA R i) from skI_e hG (hRG.2.2 _ hcN).2]
        show dw_ok (pr_X11_doLine K) 137 0 0 [some (.ref 0), some (.ref A), some (.int ln), some (.int kd), some (.int va), some (.int cc), none] [.int (skI R (pLA R i)), .int cc, .ref A] (n, SH1, I, J)
        refine q_callV (as := [.int cc, .int (skI R (pLA R i))]) (rest := []) rfl rfl hA.1 rfl (Nat.le_of_ble_eq_true rfl) ?_
        have hcv := (hGC.2 _ hcN).1
        refine v_bare hA hcc h1A hN9 hcN (fun g => ?_) (fun g => ?_)
        · rw [hcv] at g
          show dw_ok (pr_X11_doLine K) 140 0 0 [some (.ref 0), some (.ref A), some (.int ln), some (.int kd), some (.int va), some (.int cc), none] [.int (0 : Int32)] (n, SH1, I, J)
          refine q_ist rfl rfl ?_
          show dw_ok (pr_X11_doLine K) 142 0 0 [some (.ref 0), some (.ref A), some (.int ln), some (.int kd), some (.int va), some (.int cc), some (.int (0 : Int32))] [] (n, SH1, I, J)
          refine q_ild rfl rfl ?_
          refine q_if (c := 0) rfl (by decide) (fun y4 => ?_) (fun h => absurd (show (0 : Int) ≠ 0 from h) (by decide))
          have y4 : (0 : Int) = 0 := y4
          refine q_ic rfl ?_
          have e : lnF R i (cv, s, d) = (3, 0, (cv, s, d)) := by
            unfold lnF
            rw [q0, if_neg y1, if_neg y2, if_neg y3, if_pos (show cv (pLA R i) = 0 from i_eq g)]
          exact q_iret rfl (hk I 3 (3, 0, (cv, s, d)) e rfl (fun _ _ _ _ => rfl) (fun _ _ _ _ => rfl) (fun _ _ => rfl) (by show I 208 2 = I 208 2 + 0; rw [Int32.add_zero]) hGC hGP)
        · rw [hcv] at g
          obtain ⟨I1, hI1⟩ : ∃ X, X = dw_up (dw_up I (A + 12) (pLA R i) 0) (A + 11) (pLA R i) (skI R (pLA R i)) := ⟨_, rfl⟩
          rw [← hI1]
          have r1 : ∀ a, a ≠ A + 11 → a ≠ A + 12 → I1 a = I a := fun a h1 h2 => by rw [hI1]; exact (up_row h1).trans (up_row h2)
          have gc1 : GC I1 A R (upF cv (pLA R i) 0) s d := gc_cv hGC r1 (fun c hc => by rw [hI1]; exact (up_ne (Or.inl (by omega))).trans (up_fld hc)) (fun c hc => by rw [hI1]; exact (up_fld hc).trans (up_ne (Or.inl (by omega)))) (by rw [hI1]; exact (up_ne (Or.inl (by omega))).trans up_same) (by rw [hI1, if_neg (show ¬ (0 : Int32) = 1 by decide)]; exact up_same)
          show dw_ok (pr_X11_doLine K) 140 0 0 [some (.ref 0), some (.ref A), some (.int ln), some (.int kd), some (.int va), some (.int cc), none] [.int (1 : Int32)] (n, SH1, I1, J)
          refine q_ist rfl rfl ?_
          show dw_ok (pr_X11_doLine K) 142 0 0 [some (.ref 0), some (.ref A), some (.int ln), some (.int kd), some (.int va), some (.int cc), some (.int (1 : Int32))] [] (n, SH1, I1, J)
          refine q_ild rfl rfl ?_
          refine q_if (c := 0) rfl (by decide) (fun h => absurd (show (1 : Int) = 0 from h) (by decide)) (fun y5 => ?_)
          have y5 : (1 : Int) ≠ 0 := y5
          refine q_ic rfl ?_
          refine q_goto rfl ?_
          have e : lnF R i (cv, s, d) = (0, 0, (upF cv (pLA R i) 0, s, d)) := by
            unfold lnF
            rw [q0, if_neg y1, if_neg y2, if_neg y3, if_neg (show ¬ cv (pLA R i) = 0 from fun q => g (by rw [q]; rfl))]
          exact q_iret rfl (hk I1 0 (0, 0, (upF cv (pLA R i) 0, s, d)) e rfl (fun a h1 h2 h3 => r1 a (by omega) (by omega)) (fun j _ _ _ => congrFun (r1 A (by omega) (by omega)) j) (fun j _ => congrFun (r1 208 (by omega) (by omega)) j) (by show I1 208 2 = I 208 2 + 0; rw [r1 208 (by omega) (by omega), Int32.add_zero]) gc1 (gp_cv hG (Or.inl rfl) hGP))
      · have y3 : (kd).toInt = (2 : Int) := y3
        refine q_ald rfl rfl ?_
        refine q_ild rfl rfl ?_
        refine q_callV (as := [.int cc]) (rest := []) rfl rfl hA.1 rfl (Nat.le_of_ble_eq_true rfl) ?_
        have hcv := (hGC.2 _ hcN).1
        refine v_cover hA hcc h1A hN9 hcN (fun g => ?_) (fun g => ?_)
        · rw [hcv] at g
          show dw_ok (pr_X11_doLine K) 118 0 0 [some (.ref 0), some (.ref A), some (.int ln), some (.int kd), some (.int va), some (.int cc), none] [.int (0 : Int32)] (n, SH1, I, J)
          refine q_goto rfl ?_
          refine q_ist rfl rfl ?_
          show dw_ok (pr_X11_doLine K) 142 0 0 [some (.ref 0), some (.ref A), some (.int ln), some (.int kd), some (.int va), some (.int cc), some (.int (0 : Int32))] [] (n, SH1, I, J)
          refine q_ild rfl rfl ?_
          refine q_if (c := 0) rfl (by decide) (fun y6 => ?_) (fun h => absurd (show (0 : Int) ≠ 0 from h) (by decide))
          have y6 : (0 : Int) = 0 := y6
          refine q_ic rfl ?_
          have e : lnF R i (cv, s, d) = (3, 0, (cv, s, d)) := by
            unfold lnF
            rw [q0, if_neg y1, if_neg y2, if_pos y3, if_pos (show cv (pLA R i) = 1 from i_eq g)]
          exact q_iret rfl (hk I 3 (3, 0, (cv, s, d)) e rfl (fun _ _ _ _ => rfl) (fun _ _ _ _ => rfl) (fun _ _ => rfl) (by show I 208 2 = I 208 2 + 0; rw [Int32.add_zero]) hGC hGP)
        · rw [hcv] at g
          obtain ⟨I1, hI1⟩ : ∃ X, X = dw_up (dw_up I (A + 12) (pLA R i) 1) (A + 11) (pLA R i) 0 := ⟨_, rfl⟩
          rw [← hI1]
          have r1 : ∀ a, a ≠ A + 11 → a ≠ A + 12 → I1 a = I a := fun a h1 h2 => by rw [hI1]; exact (up_row h1).trans (up_row h2)
          have gc1 : GC I1 A R (upF cv (pLA R i) 1) s d := gc_cv hGC r1 (fun c hc => by rw [hI1]; exact (up_ne (Or.inl (by omega))).trans (up_fld hc)) (fun c hc => by rw [hI1]; exact (up_fld hc).trans (up_ne (Or.inl (by omega)))) (by rw [hI1]; exact (up_ne (Or.inl (by omega))).trans up_same) (by rw [hI1, if_pos (show (1 : Int32) = 1 from rfl)]; exact up_same)
          show dw_ok (pr_X11_doLine K) 118 0 0 [some (.ref 0), some (.ref A), some (.int ln), some (.int kd), some (.int va), some (.int cc), none] [.int (1 : Int32)] (n, SH1, I1, J)
          refine q_goto rfl ?_
          refine q_ist rfl rfl ?_
          show dw_ok (pr_X11_doLine K) 142 0 0 [some (.ref 0), some (.ref A), some (.int ln), some (.int kd), some (.int va), some (.int cc), some (.int (1 : Int32))] [] (n, SH1, I1, J)
          refine q_ild rfl rfl ?_
          refine q_if (c := 0) rfl (by decide) (fun h => absurd (show (1 : Int) = 0 from h) (by decide)) (fun y7 => ?_)
          have y7 : (1 : Int) ≠ 0 := y7
          refine q_ic rfl ?_
          refine q_goto rfl ?_
          have e : lnF R i (cv, s, d) = (0, 0, (upF cv (pLA R i) 1, s, d)) := by
            unfold lnF
            rw [q0, if_neg y1, if_neg y2, if_pos y3, if_neg (show ¬ cv (pLA R i) = 1 from fun q => g (by rw [q]; rfl))]
          exact q_iret rfl (hk I1 0 (0, 0, (upF cv (pLA R i) 1, s, d)) e rfl (fun a h1 h2 h3 => r1 a (by omega) (by omega)) (fun j _ _ _ => congrFun (r1 A (by omega) (by omega)) j) (fun j _ => congrFun (r1 208 (by omega) (by omega)) j) (by show I1 208 2 = I 208 2 + 0; rw [r1 208 (by omega) (by omega), Int32.add_zero]) gc1 (gp_cv hG (Or.inr rfl) hGP))
    · have y2 : (kd).toInt = (1 : Int) := y2
      refine q_ald rfl rfl ?_
      refine q_ild rfl rfl ?_
      refine q_callV (as := [.int cc]) (rest := []) rfl rfl hA.1 rfl (Nat.le_of_ble_eq_true rfl) ?_
      have hw : I (A + 14) (pLA R i) = s.2.1 (pLA R i) := hGC.1.2.2.1.2.1 _ hcN
      have w0 : 0 ≤ (s.2.1 (pLA R i)).toInt := hGP.1.2.2.2.2.1 _ hcN
      refine v_wipe hA hcc h1A hN9 hcN ?_
      rw [hw]
      obtain ⟨wt, hwt⟩ : ∃ z, z = s.2.1 (pLA R i) := ⟨_, rfl⟩
      rw [← hwt] at w0
      rw [← hwt]
      obtain ⟨I1, hI1⟩ : ∃ X, X = dw_up I (A + 14) (pLA R i) 0 := ⟨_, rfl⟩
      rw [← hI1]
      have r1 : ∀ a, a ≠ A + 14 → I1 a = I a := fun a ha => by rw [hI1]; exact up_row ha
      have gc1 : GC I1 A R cv (wpS s (pLA R i)) d := gc_wipe hGC r1 (fun c hc => by rw [hI1]; exact up_fld hc) (by rw [hI1]; exact up_same)
      show dw_ok (pr_X11_doLine K) 83 0 0 [some (.ref 0), some (.ref A), some (.int ln), some (.int kd), some (.int va), some (.int cc), none] [.int wt] (n, SH1, I1, J)
      refine q_ist rfl rfl ?_
      show dw_ok (pr_X11_doLine K) 85 0 0 [some (.ref 0), some (.ref A), some (.int ln), some (.int kd), some (.int va), some (.int cc), some (.int wt)] [] (n, SH1, I1, J)
      refine q_ald rfl rfl ?_
      refine q_getr rfl sk_0 sr_0_12 ?_
      refine q_ic rfl ?_
      refine q_dup2 rfl ?_
      refine q_xald rfl (Or.inl rfl) sk_208 sn_208 (by decide) (by decide) ?_
      refine q_ild rfl rfl ?_
      refine q_add rfl ?_
      refine q_iast rfl sk_208 sn_208 (by decide) (by decide) ?_
      show dw_ok (pr_X11_doLine K) 96 0 0 [some (.ref 0), some (.ref A), some (.int ln), some (.int kd), some (.int va), some (.int cc), some (.int wt)] [] (n, SH1, (dw_up I1 208 2 ((I1 208 2) + wt)), J)
      refine q_ild rfl rfl ?_
      refine q_if (c := 5) rfl (by decide) (fun y8 => ?_) (fun y8 => ?_)
      · have y8 : (wt).toInt ≤ 0 := y8
        refine q_ic rfl ?_
        have wz : wt = 0 := i_eq (by rw [show (0 : Int32).toInt = 0 from rfl]; have q : wt.toInt ≤ 0 := y8; omega)
        have e : lnF R i (cv, s, d) = (2, 0, (cv, s, d)) := by
          unfold lnF
          rw [q0, if_neg y1, if_pos y2, if_pos (show s.2.1 (pLA R i) = 0 by rw [← hwt]; exact wz)]
        exact q_iret rfl (hk (dw_up I1 208 2 ((I1 208 2) + wt)) 2 (2, 0, (cv, s, d)) e rfl (fun a h1 h2 h3 => (up_row h3).trans (r1 a (by omega))) (fun j _ _ _ => (up_ne (Or.inl (by omega))).trans (congrFun (r1 A (by omega)) j)) (fun j hj => (up_fld hj).trans (congrFun (r1 208 (by omega)) j)) (up_same.trans (by rw [wz, r1 208 (by omega)])) (gc_fr (gc_req gc1 (wp_0 (by rw [← hwt]; exact wz))) hN9 (fun a h1 h2 => up_row (by omega))) hGP)
      · have y8 : 0 < (wt).toInt := y8
        refine q_ic rfl ?_
        refine q_goto rfl ?_
        have wz : ¬ s.2.1 (pLA R i) = 0 := fun q => by rw [← hwt] at q; rw [q] at y8; exact absurd y8 (by decide)
        have e : lnF R i (cv, s, d) = (0, wt, (cv, wpS s (pLA R i), d)) := by
          unfold lnF
          rw [q0, if_neg y1, if_pos y2, if_neg wz, ← hwt]
        exact q_iret rfl (hk (dw_up I1 208 2 ((I1 208 2) + wt)) 0 (0, wt, (cv, wpS s (pLA R i), d)) e rfl (fun a h1 h2 h3 => (up_row h3).trans (r1 a (by omega))) (fun j _ _ _ => (up_ne (Or.inl (by omega))).trans (congrFun (r1 A (by omega)) j)) (fun j hj => (up_fld hj).trans (congrFun (r1 208 (by omega)) j)) (up_same.trans (by rw [r1 208 (by omega)])) (gc_fr gc1 hN9 (fun a h1 h2 => up_row (by omega))) (gp_wipe hGP))
  · have y1 : (kd).toInt = 0 := y1
    refine q_ald rfl rfl ?_
    refine q_ild rfl rfl ?_
    refine q_callV (as := [.int va]) (rest := []) rfl rfl hA.1 rfl (Nat.le_of_ble_eq_true rfl) ?_
    obtain ⟨z1, z2, z3⟩ := q3 y1
    have hm : va.toInt = (pLA R i : Nat) := by show va.toInt = (((R (805 + 3 * i)).toInt.toNat : Nat) : Int); rw [z1]; omega
    have hm9 : pLA R i ≤ 144 := by show (R (805 + 3 * i)).toInt.toNat ≤ 144; rw [z1]; omega
    refine v_goByR (m := pLA R i) hA hGC.1 hGP.2.1 hN9 hm hm9 (fun g => ?_) (fun g I1 f1 f2 f3 => ?_)
    · show dw_ok (pr_X11_doLine K) 37 0 0 [some (.ref 0), some (.ref A), some (.int ln), some (.int kd), some (.int va), none, none] [.int (0 : Int32)] (n, SH1, I, J)
      refine q_if (c := 0) rfl (by decide) (fun y9 => ?_) (fun h => absurd (show (0 : Int) ≠ 0 from h) (by decide))
      have y9 : (0 : Int) = 0 := y9
      refine q_ic rfl ?_
      have e : lnF R i (cv, s, d) = (1, 0, (cv, s, d)) := by
        unfold lnF
        rw [q0, if_pos y1, if_pos g]
      exact q_iret rfl (hk I 1 (1, 0, (cv, s, d)) e rfl (fun _ _ _ _ => rfl) (fun _ _ _ _ => rfl) (fun _ _ => rfl) (by show I 208 2 = I 208 2 + 0; rw [Int32.add_zero]) hGC hGP)
    · show dw_ok (pr_X11_doLine K) 37 0 0 [some (.ref 0), some (.ref A), some (.int ln), some (.int kd), some (.int va), none, none] [.int (1 : Int32)] (n, SH1, I1, J)
      refine q_if (c := 0) rfl (by decide) (fun h => absurd (show (1 : Int) = 0 from h) (by decide)) (fun y10 => ?_)
      have y10 : (1 : Int) ≠ 0 := y10
      refine q_ic rfl ?_
      refine q_goto rfl ?_
      have e : lnF R i (cv, s, d) = (0, 0, (cv, ruG R cv d (pLA R i) s, d + pLA R i)) := by
        unfold lnF
        rw [q0, if_pos y1, if_neg (Nat.not_lt.mpr g)]
      exact q_iret rfl (hk I1 0 (0, 0, (cv, ruG R cv d (pLA R i) s, d + pLA R i)) e rfl (fun a h1 h2 h3 => f1 a h1 (by omega) (by omega)) f2 (fun j _ => by rw [f1 208 (by omega) (by omega) (by omega)]) (by show I1 208 2 = I 208 2 + 0; rw [f1 208 (by omega) (by omega) (by omega), Int32.add_zero]) (gc_until hGC f1 f3) (gp_on hGP g))
set_option maxRecDepth 8000 in
theorem rgp_fr {I I' : Nat → Nat → Int32} {R : Nat → Int32} (hG : GOK R) (h : ∀ a, a < 43 → I' a = I a) (g : RG I 4 R) (p : RP I 11 R) : RG I' 4 R ∧ RP I' 11 R :=
  ⟨rg_eq (fun _ _ => rfl) (fun j _ => by rw [h 4 (by decide)]) (fun j _ => ⟨by rw [h (4 + 1) (by decide)], by rw [h (4 + 2) (by decide)], by rw [h (4 + 3) (by decide)]⟩) (fun c _ => ⟨by rw [h (4 + 4) (by decide)], by rw [h (4 + 5) (by decide)]⟩) hG g,
   rp_eq (fun _ _ => rfl) (fun _ _ _ => rfl) (by rw [h 11 (by decide)]) (fun i hi t _ => by rw [h (11 + 2 + i) (by omega)]) p⟩
set_option maxRecDepth 8000 in
theorem wcF_eq {f g : Nat → Int32} {l : Int32} : ∀ N : Nat, (∀ c, c < N → f c = g c) → wcF f l N = wcF g l N
  | 0, _ => rfl
  | N + 1, h => by
    show wcF f l N + (if l.toInt ≤ (f N).toInt then 1 else 0) = wcF g l N + (if l.toInt ≤ (g N).toInt then 1 else 0)
    rw [wcF_eq N (fun c hc => h c (by omega)), h N (by omega)]
set_option maxRecDepth 8000 in
theorem suF_eq {f g : Nat → Int32} : ∀ N : Nat, (∀ c, c < N → f c = g c) → suF f N = suF g N
  | 0, _ => rfl
  | N + 1, h => by
    show suF f N + f N = suF g N + g N
    rw [suF_eq N (fun c hc => h c (by omega)), h N (by omega)]
set_option maxRecDepth 8000 in
set_option maxHeartbeats 4000000 in
theorem go_loop {n : Nat} {J : Nat → Nat → Int64} {K : dw_K} {A L : Nat} {a1 ah : Int32} {R : Nat → Int32} {I0 : Nat → Nat → Int32} (hA2 : A = 43 ∨ A = 164) (hG : GOK R) (hRG : RG I0 4 R) (hRP : RP I0 11 R) (hL : (R 803).toInt = L) :
    ∀ (f i : Nat) (ln : Int32) (I : Nat → Nat → Int32) (cv : Nat → Int32) (s : rS) (d : Nat), i + f = L → ln.toInt = i → (∀ a, a ≠ A → (a < A + 11 ∨ A + 14 < a) → a ≠ 208 → I a = I0 a) → (∀ j, j ≠ 2 → j ≠ 3 → j ≠ 4 → I A j = I0 A j) → I 208 0 = 0 → GP R cv s d → GC I A R cv s d → (∀ (I' : Nat → Nat → Int32) (wr lx : Int32) (r : Nat × Nat × Int32 × gL), goF R f i (cv, s, d) = r → (∀ a, a ≠ A → (a < A + 11 ∨ A + 14 < a) → a ≠ 208 → I' a = I0 a) → (∀ j, j ≠ 2 → j ≠ 3 → j ≠ 4 → I' A j = I0 A j) → wr.toInt = (if r.1 = 0 then -1 else (r.2.1 : Int)) → (I' 208 0).toInt = r.1 → I' 208 2 = I 208 2 + r.2.2.1 → GC I' A R r.2.2.2.1 r.2.2.2.2.1 r.2.2.2.2.2 → GP R r.2.2.2.1 r.2.2.2.2.1 r.2.2.2.2.2 → dw_ok (pr_X11_go K) 145 0 0 [some (.ref 0), some (.int a1), some (.ref A), some (.int ah), some (.int wr), some (.int lx)] [] (n, SH1, I', J)) → dw_ok (pr_X11_go K) 88 0 0 [some (.ref 0), some (.int a1), some (.ref A), some (.int ah), some (.int (-1)), some (.int ln)] [] (n, SH1, I, J) := by
  have hA : RT A := by
    rcases hA2 with rfl | rfl
    · exact rt_ok (by decide)
    · exact rt_ok (by decide)
  have hA9 : 43 ≤ A ∧ A ≤ 164 := by omega
  have pb : (R 803).toInt ≤ 30 := hRP.2.1.2
  have hN9 := (gok_N hG).2
  intro f
  induction f with
  | zero =>
    intro i ln I cv s d hf hln hF hFA h0 hGP hGC hk
    obtain ⟨hRG1, hRP1⟩ := rgp_fr hG (fun a ha => hF a (by omega) (by omega) (by omega)) hRG hRP
    have h11 : I 11 0 = R 803 := hRP1.1
    have k1 : (1 : Int32).toInt = 1 := rfl
    have km : (-1 : Int32).toInt = -1 := rfl
    refine q_ild rfl rfl ?_
    refine q_ald rfl rfl ?_
    refine q_getr rfl sk_0 sr_0_1 ?_
    refine q_getr rfl sk_3 sr_3_3 ?_
    refine q_geti rfl sk_11 ?_
    refine q_icmp (c := 3) rfl (by decide) (fun y1 => ?_) (fun h => absurd (show (ln).toInt < ((I 11 0)).toInt from h) (by rw [h11]; omega))
    have y1 : ((I 11 0)).toInt ≤ (ln).toInt := y1
    exact hk I (-1) ln (0, i, 0, cv, s, d) rfl hF hFA rfl (by rw [h0]; rfl) (by show I 208 2 = I 208 2 + 0; rw [Int32.add_zero]) hGC hGP
  | succ f ih =>
    intro i ln I cv s d hf hln hF hFA h0 hGP hGC hk
    obtain ⟨hRG1, hRP1⟩ := rgp_fr hG (fun a ha => hF a (by omega) (by omega) (by omega)) hRG hRP
    have h11 : I 11 0 = R 803 := hRP1.1
    have k1 : (1 : Int32).toInt = 1 := rfl
    have km : (-1 : Int32).toInt = -1 := rfl
    refine q_ild rfl rfl ?_
    refine q_ald rfl rfl ?_
    refine q_getr rfl sk_0 sr_0_1 ?_
    refine q_getr rfl sk_3 sr_3_3 ?_
    refine q_geti rfl sk_11 ?_
    refine q_icmp (c := 3) rfl (by decide) (fun h => absurd (show ((I 11 0)).toInt ≤ (ln).toInt from h) (by rw [h11]; omega)) (fun y2 => ?_)
    have y2 : (ln).toInt < ((I 11 0)).toInt := y2
    refine q_ild rfl rfl ?_
    refine q_ic rfl ?_
    refine q_icmp (c := 1) rfl (by decide) (fun h => absurd (show (-1 : Int) ≠ (-1 : Int) from h) (by decide)) (fun y3 => ?_)
    have y3 : (-1 : Int) = (-1 : Int) := y3
    refine q_ald rfl rfl ?_
    refine q_getr rfl sk_0 sr_0_12 ?_
    refine q_ic rfl ?_
    refine q_ald rfl rfl ?_
    refine q_ald rfl rfl ?_
    refine q_ild rfl rfl ?_
    refine q_callV (as := [.ref A, .int ln]) (rest := [.int (0 : Int32), .ref 208]) rfl rfl sk_0 rfl (Nat.le_of_ble_eq_true rfl) ?_
    refine v_doLine hA2 hG hRG1 hRP1 hGP hGC hln (by omega) (fun I1 w L e ew g1 g2 g3 g4 gC gP => ?_)
    obtain ⟨lc, lt, lcv, ls, ld⟩ := L
    have ew : w.toInt = (lc : Nat) := ew
    have g4 : I1 208 2 = I 208 2 + lt := g4
    have gC : GC I1 A R lcv ls ld := gC
    have gP : GP R lcv ls ld := gP
    show dw_ok (pr_X11_go K) 121 0 0 [some (.ref 0), some (.int a1), some (.ref A), some (.int ah), some (.int (-1 : Int32)), some (.int ln)] [.int w, .int (0 : Int32), .ref 208] (n, SH1, I1, J)
    refine q_iast rfl sk_208 sn_208 (by decide) (by decide) ?_
    show dw_ok (pr_X11_go K) 122 0 0 [some (.ref 0), some (.int a1), some (.ref A), some (.int ah), some (.int (-1 : Int32)), some (.int ln)] [] (n, SH1, (dw_up I1 208 0 w), J)
    refine q_ald rfl rfl ?_
    refine q_getr rfl sk_0 sr_0_12 ?_
    refine q_ic rfl ?_
    refine q_xald rfl (Or.inl rfl) sk_208 sn_208 (by decide) (by decide) ?_
    show dw_ok (pr_X11_go K) 128 0 0 [some (.ref 0), some (.int a1), some (.ref A), some (.int ah), some (.int (-1 : Int32)), some (.int ln)] [.int ((dw_up I1 208 0 w) 208 0)] (n, SH1, (dw_up I1 208 0 w), J)
    rw [show ((dw_up I1 208 0 w) 208 0) = w from up_same]
    refine q_if (c := 1) rfl (by decide) (fun y4 => ?_) (fun y4 => ?_)
    · have y4 : (w).toInt ≠ 0 := y4
      refine q_ild rfl rfl ?_
      refine q_ist rfl rfl ?_
      show dw_ok (pr_X11_go K) 139 0 0 [some (.ref 0), some (.int a1), some (.ref A), some (.int ah), some (.int ln), some (.int ln)] [] (n, SH1, (dw_up I1 208 0 w), J)
      refine q_inc rfl rfl rfl ?_
      show dw_ok (pr_X11_go K) 142 0 0 [some (.ref 0), some (.int a1), some (.ref A), some (.int ah), some (.int ln), some (.int (ln + 1))] [] (n, SH1, (dw_up I1 208 0 w), J)
      show dw_ok (pr_X11_go K) 142 0 0 [some (.ref 0), some (.int a1), some (.ref A), some (.int ah), some (.int ln), some (.int (ln + 1))] [] (n, SH1, (dw_up I1 208 0 w), J)
      obtain ⟨lx, hlx⟩ : ∃ z, z = (ln + 1) := ⟨_, rfl⟩
      rw [← hlx]
      have elx : lx.toInt = ((i + 1 : Nat) : Int) := by rw [hlx]; exact ix_1 hln (by omega)
      refine q_goto rfl ?_
      show dw_ok (pr_X11_go K) 88 0 0 [some (.ref 0), some (.int a1), some (.ref A), some (.int ah), some (.int ln), some (.int lx)] [] (n, SH1, (dw_up I1 208 0 w), J)
      obtain ⟨I2, hI2⟩ : ∃ X, X = (dw_up I1 208 0 w) := ⟨_, rfl⟩
      rw [← hI2]
      have r2 : ∀ a, a ≠ 208 → I2 a = I1 a := fun a ha => by rw [hI2]; exact up_row ha
      have f2 : ∀ j, j ≠ 0 → I2 208 j = I1 208 j := fun j hj => by rw [hI2]; exact up_fld hj
      have s2 : I2 208 0 = w := by rw [hI2]; exact up_same
      have F2 : ∀ a, a ≠ A → (a < A + 11 ∨ A + 14 < a) → a ≠ 208 → I2 a = I0 a := fun a h1 h2 h3 => ((r2 a h3).trans (g1 a h1 h2 h3)).trans (hF a h1 h2 h3)
      have FA2 : ∀ j, j ≠ 2 → j ≠ 3 → j ≠ 4 → I2 A j = I0 A j := fun j h1 h2 h3 => ((congrFun (r2 A (by omega)) j).trans (g2 j h1 h2 h3)).trans (hFA j h1 h2 h3)
      have C2 : GC I2 A R lcv ls ld := gc_fr gC hN9 (fun a h1 h2 => r2 a (by omega))
      have t2 : I2 208 2 = I 208 2 + lt := (f2 2 (by decide)).trans g4
      have lz : ¬ lc = 0 := fun q => by omega
      have eg : goF R (f + 1) i (cv, s, d) = (lc, i, lt, lcv, ls, ld) := by
        show (if (lnF R i (cv, s, d)).1 = 0 then _ else _) = _
        rw [e]
        exact if_neg lz
      show dw_ok (pr_X11_go K) 88 0 0 [some (.ref 0), some (.int a1), some (.ref A), some (.int ah), some (.int ln), some (.int lx)] [] (n, SH1, I2, J)
      refine q_ild rfl rfl ?_
      refine q_ald rfl rfl ?_
      refine q_getr rfl sk_0 sr_0_1 ?_
      refine q_getr rfl sk_3 sr_3_3 ?_
      refine q_geti rfl sk_11 ?_
      refine q_icmp (c := 3) rfl (by decide) (fun y5 => ?_) (fun y5 => ?_)
      · have y5 : ((I2 11 0)).toInt ≤ (lx).toInt := y5
        exact hk I2 ln lx _ eg F2 FA2 (by rw [if_neg lz]; exact hln) (by rw [s2]; exact ew) t2 C2 gP
      · have y5 : (lx).toInt < ((I2 11 0)).toInt := y5
        refine q_ild rfl rfl ?_
        refine q_ic rfl ?_
        refine q_icmp (c := 1) rfl (by decide) (fun y6 => ?_) (fun h => absurd (show (ln).toInt = (-1 : Int) from h) (by omega))
        have y6 : (ln).toInt ≠ (-1 : Int) := y6
        exact hk I2 ln lx _ eg F2 FA2 (by rw [if_neg lz]; exact hln) (by rw [s2]; exact ew) t2 C2 gP
    · have y4 : (w).toInt = 0 := y4
      refine q_ic rfl ?_
      refine q_goto rfl ?_
      refine q_ist rfl rfl ?_
      show dw_ok (pr_X11_go K) 139 0 0 [some (.ref 0), some (.int a1), some (.ref A), some (.int ah), some (.int (-1 : Int32)), some (.int ln)] [] (n, SH1, (dw_up I1 208 0 w), J)
      refine q_inc rfl rfl rfl ?_
      show dw_ok (pr_X11_go K) 142 0 0 [some (.ref 0), some (.int a1), some (.ref A), some (.int ah), some (.int (-1 : Int32)), some (.int (ln + 1))] [] (n, SH1, (dw_up I1 208 0 w), J)
      show dw_ok (pr_X11_go K) 142 0 0 [some (.ref 0), some (.int a1), some (.ref A), some (.int ah), some (.int (-1 : Int32)), some (.int (ln + 1))] [] (n, SH1, (dw_up I1 208 0 w), J)
      obtain ⟨lx, hlx⟩ : ∃ z, z = (ln + 1) := ⟨_, rfl⟩
      rw [← hlx]
      have elx : lx.toInt = ((i + 1 : Nat) : Int) := by rw [hlx]; exact ix_1 hln (by omega)
      refine q_goto rfl ?_
      show dw_ok (pr_X11_go K) 88 0 0 [some (.ref 0), some (.int a1), some (.ref A), some (.int ah), some (.int (-1 : Int32)), some (.int lx)] [] (n, SH1, (dw_up I1 208 0 w), J)
      obtain ⟨I2, hI2⟩ : ∃ X, X = (dw_up I1 208 0 w) := ⟨_, rfl⟩
      rw [← hI2]
      have r2 : ∀ a, a ≠ 208 → I2 a = I1 a := fun a ha => by rw [hI2]; exact up_row ha
      have f2 : ∀ j, j ≠ 0 → I2 208 j = I1 208 j := fun j hj => by rw [hI2]; exact up_fld hj
      have s2 : I2 208 0 = w := by rw [hI2]; exact up_same
      have F2 : ∀ a, a ≠ A → (a < A + 11 ∨ A + 14 < a) → a ≠ 208 → I2 a = I0 a := fun a h1 h2 h3 => ((r2 a h3).trans (g1 a h1 h2 h3)).trans (hF a h1 h2 h3)
      have FA2 : ∀ j, j ≠ 2 → j ≠ 3 → j ≠ 4 → I2 A j = I0 A j := fun j h1 h2 h3 => ((congrFun (r2 A (by omega)) j).trans (g2 j h1 h2 h3)).trans (hFA j h1 h2 h3)
      have C2 : GC I2 A R lcv ls ld := gc_fr gC hN9 (fun a h1 h2 => r2 a (by omega))
      have t2 : I2 208 2 = I 208 2 + lt := (f2 2 (by decide)).trans g4
      have lz : lc = 0 := by omega
      have wz : w = 0 := i_eq (by rw [show (0 : Int32).toInt = 0 from rfl]; omega)
      have eg : goF R (f + 1) i (cv, s, d) = ((goF R f (i + 1) (lcv, ls, ld)).1, (goF R f (i + 1) (lcv, ls, ld)).2.1, lt + (goF R f (i + 1) (lcv, ls, ld)).2.2.1, (goF R f (i + 1) (lcv, ls, ld)).2.2.2) := by
        show (if (lnF R i (cv, s, d)).1 = 0 then _ else _) = _
        rw [e]
        exact if_pos lz
      refine ih (i + 1) lx I2 lcv ls ld (by omega) elx F2 FA2 (s2.trans wz) gP C2 (fun I' wr lx' r er h1 h2 h3 h4 h5 h6 h7 => ?_)
      rw [er] at eg
      exact hk I' wr lx' _ eg h1 h2 h3 h4 (by show I' 208 2 = I 208 2 + (lt + r.2.2.1); rw [h5, t2, Int32.add_assoc]) h6 h7
set_option maxRecDepth 8000 in
set_option maxHeartbeats 4000000 in
theorem go_tail {n : Nat} {I : Nat → Nat → Int32} {J : Nat → Nat → Int64} {K : dw_K} {A : Nat} {a1 : Int32} {R cv : Nat → Int32} {s : rS} {d : Nat} (hA2 : A = 43 ∨ A = 164) (hG : GOK R) (hRG : RG I 4 R) (hRP : RP I 11 R) (hGP : GP R cv s d) (hGC : GC I A R cv s d)
    (hk : (∀ (I' : Nat → Nat → Int32) (wr : Int32) (r : Nat × Nat × Int32 × gL), goF R (R 803).toInt.toNat 0 (cv, s, d) = r → (∀ a, a ≠ 0 → a ≠ A → (a < A + 11 ∨ A + 14 < a) → a ≠ 208 → I' a = I a) → (∀ j, j ≠ 13 → I' 0 j = I 0 j) → I' 0 13 = 1 → (∀ j, j ≠ 2 → j ≠ 3 → j ≠ 4 → I' A j = I A j) → wr.toInt = (if r.1 = 0 then -1 else (r.2.1 : Int)) → (I' 208 0).toInt = r.1 → (I' 208 1).toInt = (r.2.2.2.2.2 : Int) - d → I' 208 2 = r.2.2.1 → (I' 208 3).toInt = wcF r.2.2.2.2.1.2.1 1 (Nn R) → I' 208 4 = suF r.2.2.2.1 (Nn R) → GC I' A R r.2.2.2.1 r.2.2.2.2.1 r.2.2.2.2.2 → GP R r.2.2.2.1 r.2.2.2.2.1 r.2.2.2.2.2 → K (some (.int wr)) (n, SH1, I', J))) : dw_ok (pr_X11_go K) 63 0 0 [some (.ref 0), some (.int a1), some (.ref A), none, none, none] [] (n, SH1, I, J) := by
  have hA : RT A := by
    rcases hA2 with rfl | rfl
    · exact rt_ok (by decide)
    · exact rt_ok (by decide)
  have hA9 : 43 ≤ A ∧ A ≤ 164 := by omega
  have hN9 := (gok_N hG).2
  have pb := hRP.2.1
  have hd : (I A 2).toInt = (d : Nat) := hGC.1.2.2.2.2.2.1
  refine q_ald rfl rfl ?_
  refine q_geti rfl hA.1 ?_
  refine q_ist rfl rfl ?_
  show dw_ok (pr_X11_go K) 68 0 0 [some (.ref 0), some (.int a1), some (.ref A), some (.int (I A 2)), none, none] [] (n, SH1, I, J)
  refine q_ald rfl rfl ?_
  refine q_getr rfl sk_0 sr_0_12 ?_
  refine q_ic rfl ?_
  refine q_ic rfl ?_
  refine q_iast rfl sk_208 sn_208 (by decide) (by decide) ?_
  show dw_ok (pr_X11_go K) 75 0 0 [some (.ref 0), some (.int a1), some (.ref A), some (.int (I A 2)), none, none] [] (n, SH1, (dw_up I 208 0 (0 : Int32)), J)
  refine q_ald rfl rfl ?_
  refine q_getr rfl sk_0 sr_0_12 ?_
  refine q_ic rfl ?_
  refine q_ic rfl ?_
  refine q_iast rfl sk_208 sn_208 (by decide) (by decide) ?_
  show dw_ok (pr_X11_go K) 82 0 0 [some (.ref 0), some (.int a1), some (.ref A), some (.int (I A 2)), none, none] [] (n, SH1, (dw_up (dw_up I 208 0 (0 : Int32)) 208 2 (0 : Int32)), J)
  refine q_ic rfl ?_
  refine q_ist rfl rfl ?_
  show dw_ok (pr_X11_go K) 85 0 0 [some (.ref 0), some (.int a1), some (.ref A), some (.int (I A 2)), some (.int (-1 : Int32)), none] [] (n, SH1, (dw_up (dw_up I 208 0 (0 : Int32)) 208 2 (0 : Int32)), J)
  refine q_ic rfl ?_
  refine q_ist rfl rfl ?_
  show dw_ok (pr_X11_go K) 88 0 0 [some (.ref 0), some (.int a1), some (.ref A), some (.int (I A 2)), some (.int (-1 : Int32)), some (.int (0 : Int32))] [] (n, SH1, (dw_up (dw_up I 208 0 (0 : Int32)) 208 2 (0 : Int32)), J)
  obtain ⟨I1, hI1⟩ : ∃ X, X = (dw_up (dw_up I 208 0 (0 : Int32)) 208 2 (0 : Int32)) := ⟨_, rfl⟩
  show dw_ok (pr_X11_go K) 88 0 0 [some (.ref 0), some (.int a1), some (.ref A), some (.int (I A 2)), some (.int (-1 : Int32)), some (.int (0 : Int32))] [] (n, SH1, (dw_up (dw_up I 208 0 (0 : Int32)) 208 2 (0 : Int32)), J)
  rw [← hI1]
  have rI1 : ∀ a, a ≠ 208 → I1 a = I a := fun a q0 => by rw [hI1]; exact ((up_row q0).trans (up_row q0))
  have fI1_0 : ∀ j, j ≠ 0 → j ≠ 2 → I1 208 j = I 208 j := fun j p0 p1 => by rw [hI1]; exact ((up_fld p1).trans (up_fld p0))
  have sI1_0_0 : I1 208 0 = (0 : Int32) := by rw [hI1]; exact ((up_fld (by decide)).trans (up_same))
  have sI1_0_1 : I1 208 2 = (0 : Int32) := by rw [hI1]; exact (up_same)
  have C1 : GC I1 A R cv s d := gc_fr hGC hN9 (fun a h1 h2 => rI1 a (by omega))
  obtain ⟨hRG1, hRP1⟩ := rgp_fr hG (fun a ha => rI1 a (by omega)) hRG hRP
  refine go_loop (I0 := I1) (L := (R 803).toInt.toNat) hA2 hG hRG1 hRP1 (by omega) (R 803).toInt.toNat 0 0 I1 cv s d (by omega) rfl (fun _ _ _ _ => rfl) (fun _ _ _ _ => rfl) sI1_0_0 hGP C1 (fun I2 wr lx r er F2 FA2 ewr h0 h2 C2 P2 => ?_)
  obtain ⟨rc, rl, rt, rcv, rs, rd⟩ := r
  have C2 : GC I2 A R rcv rs rd := C2
  have P2 : GP R rcv rs rd := P2
  have h2 : I2 208 2 = rt := h2.trans (by rw [sI1_0_1, Int32.zero_add])
  have d2 : (I2 A 2).toInt = (rd : Nat) := C2.1.2.2.2.2.2.1
  have n2 : (I2 A 1).toInt = Nn R := C2.1.2.2.2.1
  have rd9 : rd ≤ 144 := P2.2.1
  have d9 : d ≤ 144 := hGP.2.1
  show dw_ok (pr_X11_go K) 145 0 0 [some (.ref 0), some (.int a1), some (.ref A), some (.int (I A 2)), some (.int wr), some (.int lx)] [] (n, SH1, I2, J)
  refine q_ald rfl rfl ?_
  refine q_getr rfl sk_0 sr_0_12 ?_
  refine q_ic rfl ?_
  refine q_ald rfl rfl ?_
  refine q_geti rfl hA.1 ?_
  refine q_ild rfl rfl ?_
  refine q_sub rfl ?_
  refine q_iast rfl sk_208 sn_208 (by decide) (by decide) ?_
  show dw_ok (pr_X11_go K) 157 0 0 [some (.ref 0), some (.int a1), some (.ref A), some (.int (I A 2)), some (.int wr), some (.int lx)] [] (n, SH1, (dw_up I2 208 1 ((I2 A 2) - (I A 2))), J)
  refine q_ald rfl rfl ?_
  refine q_getr rfl sk_0 sr_0_12 ?_
  refine q_ic rfl ?_
  refine q_ald rfl rfl ?_
  refine q_ic rfl ?_
  refine q_callV (as := [.int (1 : Int32)]) (rest := [.int (3 : Int32), .ref 208]) rfl rfl hA.1 rfl (Nat.le_of_ble_eq_true rfl) ?_
  obtain ⟨I3, hI3⟩ : ∃ X, X = (dw_up I2 208 1 ((I2 A 2) - (I A 2))) := ⟨_, rfl⟩
  rw [← hI3]
  have rI3 : ∀ a, a ≠ 208 → I3 a = I2 a := fun a q0 => by rw [hI3]; exact (up_row q0)
  have fI3_0 : ∀ j, j ≠ 1 → I3 208 j = I2 208 j := fun j p0 => by rw [hI3]; exact (up_fld p0)
  have sI3_0_0 : I3 208 1 = ((I2 A 2) - (I A 2)) := by rw [hI3]; exact (up_same)
  refine v_wetCells hA (by rw [rI3 A (by omega)]; exact n2) hN9 (fun wc hwc => ?_)
  rw [rI3 (A + 14) (by omega)] at hwc
  show dw_ok (pr_X11_go K) 167 0 0 [some (.ref 0), some (.int a1), some (.ref A), some (.int (I A 2)), some (.int wr), some (.int lx)] [.int wc, .int (3 : Int32), .ref 208] (n, SH1, I3, J)
  refine q_iast rfl sk_208 sn_208 (by decide) (by decide) ?_
  show dw_ok (pr_X11_go K) 168 0 0 [some (.ref 0), some (.int a1), some (.ref A), some (.int (I A 2)), some (.int wr), some (.int lx)] [] (n, SH1, (dw_up I3 208 3 wc), J)
  refine q_ald rfl rfl ?_
  refine q_getr rfl sk_0 sr_0_12 ?_
  refine q_ic rfl ?_
  refine q_ald rfl rfl ?_
  refine q_callV (as := []) (rest := [.int (4 : Int32), .ref 208]) rfl rfl hA.1 rfl (Nat.le_of_ble_eq_true rfl) ?_
  obtain ⟨I4, hI4⟩ : ∃ X, X = (dw_up I3 208 3 wc) := ⟨_, rfl⟩
  rw [← hI4]
  have rI4 : ∀ a, a ≠ 208 → I4 a = I3 a := fun a q0 => by rw [hI4]; exact (up_row q0)
  have fI4_0 : ∀ j, j ≠ 3 → I4 208 j = I3 208 j := fun j p0 => by rw [hI4]; exact (up_fld p0)
  have sI4_0_0 : I4 208 3 = wc := by rw [hI4]; exact (up_same)
  refine v_csum hA (by rw [rI4 A (by omega), rI3 A (by omega)]; exact n2) hN9 ?_
  rw [rI4 (A + 12) (by omega), rI3 (A + 12) (by omega)]
  obtain ⟨cs, hcs⟩ : ∃ z, z = suF (I2 (A + 12)) (Nn R) := ⟨_, rfl⟩
  rw [← hcs]
  show dw_ok (pr_X11_go K) 177 0 0 [some (.ref 0), some (.int a1), some (.ref A), some (.int (I A 2)), some (.int wr), some (.int lx)] [.int cs, .int (4 : Int32), .ref 208] (n, SH1, I4, J)
  refine q_iast rfl sk_208 sn_208 (by decide) (by decide) ?_
  show dw_ok (pr_X11_go K) 178 0 0 [some (.ref 0), some (.int a1), some (.ref A), some (.int (I A 2)), some (.int wr), some (.int lx)] [] (n, SH1, (dw_up I4 208 4 cs), J)
  refine q_ald rfl rfl ?_
  refine q_ic rfl ?_
  refine q_putz rfl sk_0 (Or.inr rfl) ?_
  show dw_ok (pr_X11_go K) 183 0 0 [some (.ref 0), some (.int a1), some (.ref A), some (.int (I A 2)), some (.int wr), some (.int lx)] [] (n, SH1, (dw_up (dw_up I4 208 4 cs) 0 13 (1 : Int32)), J)
  refine q_ild rfl rfl ?_
  obtain ⟨I5, hI5⟩ : ∃ X, X = (dw_up (dw_up I4 208 4 cs) 0 13 (1 : Int32)) := ⟨_, rfl⟩
  show dw_ok (pr_X11_go K) 185 0 0 [some (.ref 0), some (.int a1), some (.ref A), some (.int (I A 2)), some (.int wr), some (.int lx)] [.int wr] (n, SH1, (dw_up (dw_up I4 208 4 cs) 0 13 (1 : Int32)), J)
  rw [← hI5]
  have rI5 : ∀ a, a ≠ 208 → a ≠ 0 → I5 a = I4 a := fun a q0 q1 => by rw [hI5]; exact ((up_row q1).trans (up_row q0))
  have fI5_0 : ∀ j, j ≠ 4 → I5 208 j = I4 208 j := fun j p0 => by rw [hI5]; exact ((up_ne (Or.inl (by decide))).trans (up_fld p0))
  have sI5_0_0 : I5 208 4 = cs := by rw [hI5]; exact ((up_ne (Or.inl (by decide))).trans (up_same))
  have fI5_1 : ∀ j, j ≠ 13 → I5 0 j = I4 0 j := fun j p0 => by rw [hI5]; exact ((up_fld p0).trans (up_ne (Or.inl (by decide))))
  have sI5_1_0 : I5 0 13 = (1 : Int32) := by rw [hI5]; exact (up_same)
  have b : ∀ a, a ≠ 0 → a ≠ 208 → I5 a = I2 a := fun a h1 h2 => ((rI5 a h2 h1).trans (rI4 a h2)).trans (rI3 a h2)
  have w1 : (I5 208 1).toInt = (rd : Int) - d := by
    rw [fI5_0 1 (by decide), fI4_0 1 (by decide), sI3_0_0, i_sub (by omega) (by omega), d2, hd]
  have hwc2 : wcF (I2 (A + 14)) 1 (Nn R) = wcF rs.2.1 1 (Nn R) := wcF_eq _ (fun c hc => C2.1.2.2.1.2.1 c hc)
  have hcs2 : suF (I2 (A + 12)) (Nn R) = suF rcv (Nn R) := suF_eq _ (fun c hc => (C2.2 c hc).1)
  exact q_iret rfl (hk I5 wr (rc, rl, rt, rcv, rs, rd) er (fun a h1 h2 h3 h4 => ((b a h1 h4).trans (F2 a h2 h3 h4)).trans (rI1 a h4)) (fun j hj => ((fI5_1 j hj).trans (congrFun (rI4 0 (by decide)) j)).trans ((congrFun (rI3 0 (by decide)) j).trans ((congrFun (F2 0 (by omega) (by omega) (by decide)) j).trans (congrFun (rI1 0 (by decide)) j)))) sI5_1_0 (fun j h1 h2 h3 => ((congrFun (b A (by omega) (by omega)) j).trans (FA2 j h1 h2 h3)).trans (congrFun (rI1 A (by omega)) j)) ewr (by rw [fI5_0 0 (by decide), fI4_0 0 (by decide), fI3_0 0 (by decide)]; exact h0) w1 (by rw [fI5_0 2 (by decide), fI4_0 2 (by decide), fI3_0 2 (by decide)]; exact h2) (by rw [fI5_0 3 (by decide), sI4_0_0, hwc, hwc2]) (by rw [sI5_0_0, hcs, hcs2]) (gc_fr C2 hN9 (fun a h1 h2 => b a (by omega) (by omega))) P2)
set_option maxRecDepth 8000 in
set_option maxHeartbeats 4000000 in
theorem v_cgo {n : Nat} {I : Nat → Nat → Int32} {J : Nat → Nat → Int64} {K : dw_K} {a1 : Int32} {R : Nat → Int32} (hR : SREL I 3 R) (hz : I 44 0 = 0 ∨ I 44 0 = 1)
    (h0 : (R 894 = 0 ∨ ¬ (0 ≤ a1.toInt ∧ a1.toInt ≤ 1)) → K (some (.int (-2))) (n, SH1, I, J))
    (h1 : R 894 ≠ 0 → (0 ≤ a1.toInt ∧ a1.toInt ≤ 1) → ∀ (I' : Nat → Nat → Int32) (wr : Int32) (r : Nat × Nat × Int32 × gL), goF R (R 803).toInt.toNat 0 (cvR R, rrS R, dR R) = r → wr.toInt = (if r.1 = 0 then -1 else (r.2.1 : Int)) → (I' 208 0).toInt = r.1 → (I' 208 1).toInt = (r.2.2.2.2.2 : Int) - dR R → I' 208 2 = r.2.2.1 → (I' 208 3).toInt = wcF r.2.2.2.2.1.2.1 1 (Nn R) → I' 208 4 = suF r.2.2.2.1 (Nn R) → I' 0 13 = 1 → (∀ j, j ≠ 13 → I' 0 j = I 0 j) →
      (a1.toInt = 0 → ∀ a, a ≠ 0 → (a < 164 ∨ 178 < a) → a ≠ 208 → I' a = I a) → (a1.toInt = 1 → (∀ a, a ≠ 0 → a ≠ 43 → (a < 54 ∨ 57 < a) → a ≠ 208 → I' a = I a) ∧ (∀ j, j ≠ 2 → j ≠ 3 → j ≠ 4 → I' 43 j = I 43 j) ∧ GC I' 43 R r.2.2.2.1 r.2.2.2.2.1 r.2.2.2.2.2) → GP R r.2.2.2.1 r.2.2.2.2.1 r.2.2.2.2.2 → K (some (.int wr)) (n, SH1, I', J)) : t_X11_go [.ref 0, .int a1] (n, SH1, I, J) K := by
  obtain ⟨hG, hg, -, hp, hr⟩ := id hR
  have hg : RG I 4 R := hg
  have hp : RP I 11 R := hp
  have hr : RR I 43 R := hr
  have hN9 := (gok_N hG).2
  have k1 : (1 : Int32).toInt = 1 := rfl
  have e0 : I 43 0 = 0 ∧ R 894 = 0 ∨ I 43 0 = 1 ∧ R 894 = 1 := by
    rcases hr with ⟨a, b⟩ | ⟨a, b, -⟩
    · exact Or.inl ⟨a, b⟩
    · exact Or.inr ⟨a, b⟩
  refine q_body (Nat.le_of_ble_eq_true rfl) ?_
  refine q_ald rfl rfl ?_
  refine q_getr rfl sk_0 sr_0_1 ?_
  refine q_getr rfl sk_3 sr_3_4 ?_
  refine q_getz rfl sk_43 ?_
  refine q_if (c := 0) rfl (by decide) (fun y1 => ?_) (fun y1 => ?_)
  · have y1 : ((I 43 0)).toInt = 0 := y1
    refine q_ic rfl ?_
    refine q_iret rfl (h0 (Or.inl ?_))
    rcases e0 with ⟨-, e⟩ | ⟨e, -⟩
    · exact e
    · rw [e] at y1; exact absurd y1 (by decide)
  · have y1 : ((I 43 0)).toInt ≠ 0 := y1
    refine q_ild rfl rfl ?_
    refine q_if (c := 2) rfl (by decide) (fun y2 => ?_) (fun y2 => ?_)
    · have y2 : (a1).toInt < 0 := y2
      refine q_ic rfl ?_
      exact q_iret rfl (h0 (Or.inr (fun q => by omega)))
    · have y2 : 0 ≤ (a1).toInt := y2
      refine q_ild rfl rfl ?_
      refine q_ic rfl ?_
      refine q_icmp (c := 5) rfl (by decide) (fun y3 => ?_) (fun y3 => ?_)
      · have y3 : (a1).toInt ≤ (1 : Int) := y3
        refine q_ild rfl rfl ?_
        refine q_ic rfl ?_
        refine q_icmp (c := 1) rfl (by decide) (fun y4 => ?_) (fun y4 => ?_)
        · have y4 : (a1).toInt ≠ (1 : Int) := y4
          refine q_ald rfl rfl ?_
          refine q_getr rfl sk_0 sr_0_6 ?_
          refine q_ast rfl rfl ?_
          show dw_ok (pr_X11_go K) 45 0 0 [some (.ref 0), some (.int a1), some (.ref 164), none, none, none] [] (n, SH1, I, J)
          refine q_ild rfl rfl ?_
          refine q_if (c := 1) rfl (by decide) (fun h => absurd (show (a1).toInt ≠ 0 from h) (by omega)) (fun y5 => ?_)
          have y5 : (a1).toInt = 0 := y5
          refine q_ald rfl rfl ?_
          refine q_getr rfl sk_0 sr_0_6 ?_
          refine q_ald rfl rfl ?_
          refine q_getr rfl sk_0 sr_0_1 ?_
          refine q_getr rfl sk_3 sr_3_4 ?_
          refine q_callV (as := [.ref 43]) (rest := []) rfl rfl sk_164 rfl (Nat.le_of_ble_eq_true rfl) ?_
          refine v_rcopy (rt_ok (by decide)) (rt_ok (by decide)) (by decide) (by rcases e0 with ⟨e, -⟩ | ⟨e, -⟩; exact Or.inl e; exact Or.inr e) hz (fun I1 c1 c2 c3 c4 c5 => ?_)
          show dw_ok (pr_X11_go K) 63 0 0 [some (.ref 0), some (.int a1), some (.ref 164), none, none, none] [] (n, SH1, I1, J)
          have r894 : R 894 ≠ 0 := by
            rcases e0 with ⟨e, -⟩ | ⟨-, e⟩
            · rw [e] at y1; exact absurd rfl y1
            · rw [e]; decide
          obtain ⟨gC, gP, -, -⟩ := rr_go hG hr r894
          have C1 : GC I1 164 R (cvR R) (rrS R) (dR R) := gc_cp gC hN9 c2 (fun w hw t ht => by rw [show 164 + 1 + 2 + w = 164 + 3 + w by omega, show 43 + 1 + 2 + w = 43 + 3 + w by omega]; exact c4 w hw t ht) c5
          obtain ⟨hg1, hp1⟩ := rgp_fr hG (fun a ha => c1 a (by omega)) hg hp
          refine go_tail (Or.inr rfl) hG hg1 hp1 gP C1 (fun I' wr r er f1 f2 f3 f4 q1 q2 q3 q4 q5 q6 C2 P2 => ?_)
          exact h1 r894 ⟨by omega, by omega⟩ I' wr r er q1 q2 q3 q4 q5 q6 f3 (fun j hj => (f2 j hj).trans (congrFun (c1 0 (by decide)) j)) (fun _ a g1 g2 g3 => (f1 a g1 (by omega) (by omega) g3).trans (c1 a (by omega))) (fun q => absurd q (by omega)) P2
        · have y4 : (a1).toInt = (1 : Int) := y4
          refine q_ald rfl rfl ?_
          refine q_getr rfl sk_0 sr_0_1 ?_
          refine q_getr rfl sk_3 sr_3_4 ?_
          refine q_goto rfl ?_
          refine q_ast rfl rfl ?_
          show dw_ok (pr_X11_go K) 45 0 0 [some (.ref 0), some (.int a1), some (.ref 43), none, none, none] [] (n, SH1, I, J)
          refine q_ild rfl rfl ?_
          refine q_if (c := 1) rfl (by decide) (fun y6 => ?_) (fun h => absurd (show (a1).toInt = 0 from h) (by omega))
          have y6 : (a1).toInt ≠ 0 := y6
          have r894 : R 894 ≠ 0 := by
            rcases e0 with ⟨e, -⟩ | ⟨-, e⟩
            · rw [e] at y1; exact absurd rfl y1
            · rw [e]; decide
          obtain ⟨gC, gP, -, -⟩ := rr_go hG hr r894
          refine go_tail (Or.inl rfl) hG hg hp gP gC (fun I' wr r er f1 f2 f3 f4 q1 q2 q3 q4 q5 q6 C2 P2 => ?_)
          exact h1 r894 ⟨by omega, by omega⟩ I' wr r er q1 q2 q3 q4 q5 q6 f3 f2 (fun q => absurd q (by omega)) (fun _ => ⟨fun a g1 g2 g3 g4 => f1 a g1 g2 (by omega) g4, f4, C2⟩) P2
      · have y3 : (1 : Int) < (a1).toInt := y3
        refine q_ic rfl ?_
        exact q_iret rfl (h0 (Or.inr (fun q => by omega)))
set_option maxRecDepth 8000 in
theorem v_con {n : Nat} {I : Nat → Nat → Int32} {J : Nat → Nat → Int64} {K : dw_K} {a1 : Int32} {R : Nat → Int32} (hR : SREL I 3 R)
    (h0 : (R 894 = 0 ∨ ¬ (0 ≤ a1.toInt ∧ a1.toInt ≤ 144)) → K (some (.int (-1))) (n, SH1, I, J))
    (h1 : R 894 ≠ 0 → ∀ (I' : Nat → Nat → Int32) (w : Int32) (k : Nat), (0 ≤ a1.toInt ∧ a1.toInt ≤ 144) → k = min a1.toInt.toNat (144 - dR R) → w.toInt = k → (∀ a, a ≠ 43 → a ≠ 56 → a ≠ 57 → I' a = I a) → (∀ j, j ≠ 2 → j ≠ 3 → j ≠ 4 → I' 43 j = I 43 j) → GC I' 43 R (cvR R) (ruG R (cvR R) (dR R) k (rrS R)) (dR R + k) → GP R (cvR R) (ruG R (cvR R) (dR R) k (rrS R)) (dR R + k) → K (some (.int w)) (n, SH1, I', J)) : t_X11_on [.ref 0, .int a1] (n, SH1, I, J) K := by
  obtain ⟨hG, -, -, -, hr⟩ := id hR
  have hr : RR I 43 R := hr
  have hN9 := (gok_N hG).2
  have k144 : (144 : Int32).toInt = 144 := rfl
  have e0 : I 43 0 = 0 ∧ R 894 = 0 ∨ I 43 0 = 1 ∧ R 894 = 1 := by
    rcases hr with ⟨a, b⟩ | ⟨a, b, -⟩
    · exact Or.inl ⟨a, b⟩
    · exact Or.inr ⟨a, b⟩
  refine q_body (Nat.le_of_ble_eq_true rfl) ?_
  refine q_ald rfl rfl ?_
  refine q_getr rfl sk_0 sr_0_1 ?_
  refine q_getr rfl sk_3 sr_3_4 ?_
  refine q_getz rfl sk_43 ?_
  refine q_if (c := 0) rfl (by decide) (fun y1 => ?_) (fun y1 => ?_)
  · have y1 : ((I 43 0)).toInt = 0 := y1
    refine q_ic rfl ?_
    refine q_iret rfl (h0 (Or.inl ?_))
    rcases e0 with ⟨-, e⟩ | ⟨e, -⟩
    · exact e
    · rw [e] at y1; exact absurd y1 (by decide)
  · have y1 : ((I 43 0)).toInt ≠ 0 := y1
    refine q_ild rfl rfl ?_
    refine q_if (c := 2) rfl (by decide) (fun y2 => ?_) (fun y2 => ?_)
    · have y2 : (a1).toInt < 0 := y2
      refine q_ic rfl ?_
      exact q_iret rfl (h0 (Or.inr (fun q => by omega)))
    · have y2 : 0 ≤ (a1).toInt := y2
      refine q_ild rfl rfl ?_
      refine q_ic rfl ?_
      refine q_icmp (c := 5) rfl (by decide) (fun y3 => ?_) (fun y3 => ?_)
      · have y3 : (a1).toInt ≤ (144 : Int) := y3
        refine q_ald rfl rfl ?_
        refine q_getr rfl sk_0 sr_0_1 ?_
        refine q_getr rfl sk_3 sr_3_4 ?_
        refine q_geti rfl sk_43 ?_
        refine q_ist rfl rfl ?_
        show dw_ok (pr_X11_on K) 37 0 0 [some (.ref 0), some (.int a1), some (.int (I 43 2))] [] (n, SH1, I, J)
        refine q_ald rfl rfl ?_
        refine q_getr rfl sk_0 sr_0_1 ?_
        refine q_getr rfl sk_3 sr_3_4 ?_
        refine q_ild rfl rfl ?_
        refine q_ild rfl rfl ?_
        refine q_add rfl ?_
        refine q_callV (as := [.int ((I 43 2) + a1)]) (rest := []) rfl rfl sk_43 rfl (Nat.le_of_ble_eq_true rfl) ?_
        have r894 : R 894 ≠ 0 := by
          rcases e0 with ⟨e, -⟩ | ⟨-, e⟩
          · rw [e] at y1; exact absurd rfl y1
          · rw [e]; decide
        obtain ⟨gC, gP, -, -⟩ := rr_go hG hr r894
        have hd : (I 43 2).toInt = (dR R : Nat) := gC.1.2.2.2.2.2.1
        have d9 : dR R ≤ 144 := gP.2.1
        obtain ⟨k, hk⟩ : ∃ k : Nat, k = min a1.toInt.toNat (144 - dR R) := ⟨_, rfl⟩
        obtain ⟨sx, hsx⟩ : ∃ z, z = I 43 2 + a1 := ⟨_, rfl⟩
        have esx : sx.toInt = (dR R : Int) + a1.toInt := by rw [hsx, i_add (by omega) (by omega), hd]
        rw [← hsx]
        refine v_untilR (A := 43) (j := k) (rt_ok (by decide)) gC.1 (by omega) hN9 (by omega) (fun I1 g1 g2 g3 => ?_)
        rw [Nat.zero_add] at g3
        have d1 : (I1 43 2).toInt = (dR R + k : Nat) := g3.2.2.2.2.2.1
        show dw_ok (pr_X11_on K) 50 0 0 [some (.ref 0), some (.int a1), some (.int (I 43 2))] [] (n, SH1, I1, J)
        refine q_ald rfl rfl ?_
        refine q_getr rfl sk_0 sr_0_1 ?_
        refine q_getr rfl sk_3 sr_3_4 ?_
        refine q_geti rfl sk_43 ?_
        refine q_ild rfl rfl ?_
        refine q_sub rfl ?_
        exact q_iret rfl (h1 r894 I1 (I1 43 2 - I 43 2) k ⟨by omega, by omega⟩ hk (by rw [i_sub (by omega) (by omega), d1, hd]; omega) g1 g2 (gc_until gC g1 g3) (gp_on gP (by omega)))
      · have y3 : (144 : Int) < (a1).toInt := y3
        refine q_ic rfl ?_
        exact q_iret rfl (h0 (Or.inr (fun q => by omega)))
set_option maxRecDepth 8000 in
theorem v_cbegin {n : Nat} {I : Nat → Nat → Int32} {J : Nat → Nat → Int64} {K : dw_K} {a1 : Int32} {R : Nat → Int32} (hR : SREL I 3 R)
    (h1 : ∀ q : Nat, q < 6 → a1.toInt = q → NOK (nS R q) → ∀ I' : Nat → Nat → Int32, (∀ a, (a < 43 ∨ 57 < a) → I' a = I a) → I' 43 0 = 1 → CST I' 43 R (nS R q) → I' 43 6 = 0 → (∀ w, w < 5 → ∀ t, t < 144 → I' (43 + 1 + 2 + w) t = ndF (nU (nS R q)) w t) → (∀ c, c < Nn R → I' (43 + 12) c = 0) → K (some (.int 1)) (n, SH1, I', J))
    (h2 : (∀ s : Nat, s < 6 → a1.toInt = s → (nS R s 0).toInt < 0) → K (some (.int 0)) (n, SH1, I, J)) : t_X11_begin [.ref 0, .int a1] (n, SH1, I, J) K := by
  refine q_body (Nat.le_of_ble_eq_true rfl) ?_
  refine q_ald rfl rfl ?_
  refine q_ald rfl rfl ?_
  refine q_getr rfl sk_0 sr_0_1 ?_
  refine q_getr rfl sk_3 sr_3_4 ?_
  refine q_ild rfl rfl ?_
  refine q_callV (as := [.ref 43, .int a1]) (rest := []) rfl rfl sk_0 rfl (Nat.le_of_ble_eq_true rfl) ?_
  refine v_startR (A := 43) hR (Or.inl rfl) (fun q hq hx hS I' g0 g1 g2 g3 g4 g5 => ?_) (fun h => ?_)
  · exact q_zret rfl (Or.inr rfl) (h1 q hq hx hS I' (fun a ha => g0 a (by omega)) g1 g2 g3 g4 g5)
  · exact q_zret rfl (Or.inl rfl) (h2 h)
