/-! ===== going on, of the model ===== -/
set_option maxRecDepth 8000 in
set_option maxHeartbeats 4000000 in
theorem mo_loop {n : Nat} {J : Nat → Nat → Int64} {K : dw_K} {a1 : Int32} {R cv : Nat → Int32} {s : rS} {d m : Nat} {I0 : Nat → Nat → Int32} (hP : GP R cv s d) (hm : m = min a1.toInt.toNat (144 - d)) (ha : 0 ≤ a1.toInt)
    (hk : ∀ (I' : Nat → Nat → Int32) (y : Int32), (∀ a, a ≠ 404 → a ≠ 416 → a ≠ 417 → I' a = I0 a) → (∀ j, j ≠ 32 → j ≠ 33 → j ≠ 38 → I' 404 j = I0 404 j) → (I' 404 38).toInt = (d + m : Nat) → MSK I' (Nn R) 0 (fun _ => cvG R cv) (gT (rnS R)) s d m → y.toInt = m → dw_ok (pr_X12_on K) 74 0 0 [some (.ref 404), some (.int a1), some (.int y)] [] (n, SH1, I', J)) :
    ∀ (f i : Nat) (x : Int32) (I : Nat → Nat → Int32), i + f = m → x.toInt = i → (∀ a, a ≠ 404 → a ≠ 416 → a ≠ 417 → I a = I0 a) → (∀ j, j ≠ 32 → j ≠ 33 → j ≠ 38 → I 404 j = I0 404 j) → (I 404 38).toInt = (d + i : Nat) → MSK I (Nn R) 0 (fun _ => cvG R cv) (gT (rnS R)) s d i → dw_ok (pr_X12_on K) 35 0 0 [some (.ref 404), some (.int a1), some (.int x)] [] (n, SH1, I, J) := by
  have c144 : (144 : Int32).toInt = 144 := rfl
  have d9 := hP.2.1
  intro f
  induction f with
  | zero =>
    intro i x I hi hx hA hF h38 hM
    have im : i = m := by omega
    subst im
    refine q_ild rfl rfl ?_
    refine q_ild rfl rfl ?_
    refine q_icmp (c := 3) rfl (by decide) (fun y1 => ?_) (fun y1 => ?_)
    · have y1 : (a1).toInt ≤ (x).toInt := y1
      exact hk I x hA hF h38 hM hx
    · have y1 : (x).toInt < (a1).toInt := y1
      refine q_ald rfl rfl ?_
      refine q_geti rfl sk_404 ?_
      refine q_ic rfl ?_
      refine q_icmp (c := 3) rfl (by decide) (fun y2 => ?_) (fun h => absurd (show ((I 404 38)).toInt < (144 : Int) from h) (by omega))
      have y2 : (144 : Int) ≤ ((I 404 38)).toInt := y2
      exact hk I x hA hF h38 hM hx
  | succ f ih =>
    intro i x I hi hx hA hF h38 hM
    refine q_ild rfl rfl ?_
    refine q_ild rfl rfl ?_
    refine q_icmp (c := 3) rfl (by decide) (fun h => absurd (show (a1).toInt ≤ (x).toInt from h) (by omega)) (fun y3 => ?_)
    have y3 : (x).toInt < (a1).toInt := y3
    refine q_ald rfl rfl ?_
    refine q_geti rfl sk_404 ?_
    refine q_ic rfl ?_
    refine q_icmp (c := 3) rfl (by decide) (fun h => absurd (show (144 : Int) ≤ ((I 404 38)).toInt from h) (by omega)) (fun y4 => ?_)
    have y4 : ((I 404 38)).toInt < (144 : Int) := y4
    refine q_ald rfl rfl ?_
    refine q_ald rfl rfl ?_
    refine q_geti rfl sk_404 ?_
    refine q_callV (as := [.int (I 404 38)]) (rest := []) rfl rfl sk_404 rfl (Nat.le_of_ble_eq_true rfl) ?_
    refine v_mstepR hP.1 hM (by omega) h38 (fun I1 g1 g2 g3 => ?_)
    show dw_ok (pr_X12_on K) 58 0 0 [some (.ref 404), some (.int a1), some (.int x)] [] (n, SH1, I1, J)
    refine q_ald rfl rfl ?_
    refine q_dup rfl ?_
    refine q_geti rfl sk_404 ?_
    refine q_ic rfl ?_
    refine q_add rfl ?_
    refine q_puti rfl sk_404 ?_
    show dw_ok (pr_X12_on K) 68 0 0 [some (.ref 404), some (.int a1), some (.int x)] [] (n, SH1, (dw_up I1 404 38 ((I1 404 38) + (1 : Int32))), J)
    refine q_inc rfl rfl rfl ?_
    show dw_ok (pr_X12_on K) 71 0 0 [some (.ref 404), some (.int a1), some (.int (x + 1))] [] (n, SH1, (dw_up I1 404 38 ((I1 404 38) + (1 : Int32))), J)
    show dw_ok (pr_X12_on K) 71 0 0 [some (.ref 404), some (.int a1), some (.int (x + 1))] [] (n, SH1, (dw_up I1 404 38 ((I1 404 38) + (1 : Int32))), J)
    obtain ⟨x1, hx1⟩ : ∃ z, z = (x + 1) := ⟨_, rfl⟩
    rw [← hx1]
    have ex1 : x1.toInt = ((i + 1 : Nat) : Int) := by rw [hx1]; exact ix_1 hx (by omega)
    refine q_goto rfl ?_
    have e38 : I1 404 38 = I 404 38 := g2 38 (by decide) (by decide)
    refine ih (i + 1) x1 (dw_up I1 404 38 ((I1 404 38) + (1 : Int32))) (by omega) ex1 (fun a q1 q2 q3 => ((up_row q1).trans (g1 a q1 q2 q3)).trans (hA a q1 q2 q3)) (fun j q1 q2 q3 => ((up_fld q3).trans (g2 j q1 q2)).trans (hF j q1 q2 q3)) ?_ (msk_eq (fun a ha => up_row (by omega)) (fun j q1 q2 => up_fld (by omega)) g3)
    rw [up_same, e38, i_add (by rw [h38, show (1 : Int32).toInt = 1 from rfl]; omega) (by rw [h38, show (1 : Int32).toInt = 1 from rfl]; omega), h38, show (1 : Int32).toInt = 1 from rfl]
    omega
set_option maxRecDepth 8000 in
set_option maxHeartbeats 4000000 in
theorem md_loop {n : Nat} {J : Nat → Nat → Int64} {K : dw_K} {a1 a2 : Int32} {R cv : Nat → Int32} {s : rS} {d m : Nat} {I0 : Nat → Nat → Int32} (hP : GP R cv s d) (hm : a2.toInt = m) (hm9 : d + m ≤ 144)
    (hk : ∀ (I' : Nat → Nat → Int32) (y : Int32), (∀ a, a ≠ 404 → a ≠ 416 → a ≠ 417 → I' a = I0 a) → (∀ j, j ≠ 32 → j ≠ 33 → j ≠ 38 → I' 404 j = I0 404 j) → (I' 404 38).toInt = (d + m : Nat) → MSK I' (Nn R) 0 (fun _ => cvG R cv) (gT (rnS R)) s d m → y.toInt = m → dw_ok (pr_X12_does K) 49 0 0 [some (.ref 404), some (.int a1), some (.int a2), some (.int y)] [] (n, SH1, I', J)) :
    ∀ (f i : Nat) (x : Int32) (I : Nat → Nat → Int32), i + f = m → x.toInt = i → (∀ a, a ≠ 404 → a ≠ 416 → a ≠ 417 → I a = I0 a) → (∀ j, j ≠ 32 → j ≠ 33 → j ≠ 38 → I 404 j = I0 404 j) → (I 404 38).toInt = (d + i : Nat) → MSK I (Nn R) 0 (fun _ => cvG R cv) (gT (rnS R)) s d i → dw_ok (pr_X12_does K) 20 0 0 [some (.ref 404), some (.int a1), some (.int a2), some (.int x)] [] (n, SH1, I, J) := by
  have c144 : (144 : Int32).toInt = 144 := rfl
  have d9 := hP.2.1
  intro f
  induction f with
  | zero =>
    intro i x I hi hx hA hF h38 hM
    have im : i = m := by omega
    subst im
    refine q_ild rfl rfl ?_
    refine q_ild rfl rfl ?_
    refine q_icmp (c := 3) rfl (by decide) (fun y1 => ?_) (fun h => absurd (show (x).toInt < (a2).toInt from h) (by omega))
    have y1 : (a2).toInt ≤ (x).toInt := y1
    exact hk I x hA hF h38 hM hx
  | succ f ih =>
    intro i x I hi hx hA hF h38 hM
    refine q_ild rfl rfl ?_
    refine q_ild rfl rfl ?_
    refine q_icmp (c := 3) rfl (by decide) (fun h => absurd (show (a2).toInt ≤ (x).toInt from h) (by omega)) (fun y2 => ?_)
    have y2 : (x).toInt < (a2).toInt := y2
    refine q_ald rfl rfl ?_
    refine q_ald rfl rfl ?_
    refine q_geti rfl sk_404 ?_
    refine q_callV (as := [.int (I 404 38)]) (rest := []) rfl rfl sk_404 rfl (Nat.le_of_ble_eq_true rfl) ?_
    refine v_mstepR hP.1 hM (by omega) h38 (fun I1 g1 g2 g3 => ?_)
    show dw_ok (pr_X12_does K) 33 0 0 [some (.ref 404), some (.int a1), some (.int a2), some (.int x)] [] (n, SH1, I1, J)
    refine q_ald rfl rfl ?_
    refine q_dup rfl ?_
    refine q_geti rfl sk_404 ?_
    refine q_ic rfl ?_
    refine q_add rfl ?_
    refine q_puti rfl sk_404 ?_
    show dw_ok (pr_X12_does K) 43 0 0 [some (.ref 404), some (.int a1), some (.int a2), some (.int x)] [] (n, SH1, (dw_up I1 404 38 ((I1 404 38) + (1 : Int32))), J)
    refine q_inc rfl rfl rfl ?_
    show dw_ok (pr_X12_does K) 46 0 0 [some (.ref 404), some (.int a1), some (.int a2), some (.int (x + 1))] [] (n, SH1, (dw_up I1 404 38 ((I1 404 38) + (1 : Int32))), J)
    show dw_ok (pr_X12_does K) 46 0 0 [some (.ref 404), some (.int a1), some (.int a2), some (.int (x + 1))] [] (n, SH1, (dw_up I1 404 38 ((I1 404 38) + (1 : Int32))), J)
    obtain ⟨x1, hx1⟩ : ∃ z, z = (x + 1) := ⟨_, rfl⟩
    rw [← hx1]
    have ex1 : x1.toInt = ((i + 1 : Nat) : Int) := by rw [hx1]; exact ix_1 hx (by omega)
    refine q_goto rfl ?_
    have e38 : I1 404 38 = I 404 38 := g2 38 (by decide) (by decide)
    refine ih (i + 1) x1 (dw_up I1 404 38 ((I1 404 38) + (1 : Int32))) (by omega) ex1 (fun a q1 q2 q3 => ((up_row q1).trans (g1 a q1 q2 q3)).trans (hA a q1 q2 q3)) (fun j q1 q2 q3 => ((up_fld q3).trans (g2 j q1 q2)).trans (hF j q1 q2 q3)) ?_ (msk_eq (fun a ha => up_row (by omega)) (fun j q1 q2 => up_fld (by omega)) g3)
    rw [up_same, e38, i_add (by rw [h38, show (1 : Int32).toInt = 1 from rfl]; omega) (by rw [h38, show (1 : Int32).toInt = 1 from rfl]; omega), h38, show (1 : Int32).toInt = 1 from rfl]
    omega
set_option maxRecDepth 8000 in
set_option maxHeartbeats 4000000 in
theorem v_mon {n : Nat} {I : Nat → Nat → Int32} {J : Nat → Nat → Int64} {K : dw_K} {R : Nat → Int32} {a1 : Int32} (hR : I 406 = R) (hG : GOK R) (hgo : R 894 ≠ 0 → GP R (cvR R) (rrS R) (dR R) ∧ NOK (rnS R) ∧ (R 895).toInt = (dR R : Nat))
    (h0 : (R 894 = 0 ∨ ¬ (0 ≤ a1.toInt ∧ a1.toInt ≤ 144)) → ∀ I' : Nat → Nat → Int32, (∀ a, a ≠ 404 → I' a = I a) → (∀ j, j ≠ 0 → I' 404 j = I 404 j) → I' 404 0 = 0 → K (some (.int (-1))) (n, SH1, I', J))
    (h1 : R 894 ≠ 0 → ∀ (I' : Nat → Nat → Int32) (w : Int32) (k : Nat), (0 ≤ a1.toInt ∧ a1.toInt ≤ 144) → k = min a1.toInt.toNat (144 - dR R) → w.toInt = k → (∀ a, a ≠ 404 → a ≠ 406 → (a < 411 ∨ 420 < a) → I' a = I a) → (∀ j, j ≠ 0 → (j < 32 ∨ 38 < j) → I' 404 j = I 404 j) → I' 404 0 = 0 → mOn R (I' 406) (cvR R) (ruG R (cvR R) (dR R) k (rrS R)) (dR R + k) → K (some (.int w)) (n, SH1, I', J)) : t_X12_on [.ref 404, .int a1] (n, SH1, I, J) K := by
  refine q_body (Nat.le_of_ble_eq_true rfl) ?_
  refine q_ald rfl rfl ?_
  refine q_ic rfl ?_
  refine q_puti rfl sk_404 ?_
  show dw_ok (pr_X12_on K) 5 0 0 [some (.ref 404), some (.int a1), none] [] (n, SH1, (dw_up I 404 0 (0 : Int32)), J)
  obtain ⟨I1, hI1⟩ : ∃ X, X = (dw_up I 404 0 (0 : Int32)) := ⟨_, rfl⟩
  show dw_ok (pr_X12_on K) 5 0 0 [some (.ref 404), some (.int a1), none] [] (n, SH1, (dw_up I 404 0 (0 : Int32)), J)
  rw [← hI1]
  have r1 : ∀ a, a ≠ 404 → I1 a = I a := fun a ha => by rw [hI1]; exact up_row ha
  have f1 : ∀ j, j ≠ 0 → I1 404 j = I 404 j := fun j hj => by rw [hI1]; exact up_fld hj
  have s1 : I1 404 0 = 0 := by rw [hI1]; exact up_same
  have e1 : I1 406 = R := (r1 406 (by decide)).trans hR
  refine q_ald rfl rfl ?_
  refine q_getr rfl sk_404 sr_404_6 ?_
  refine q_ic rfl ?_
  refine q_xald rfl (Or.inl rfl) sk_406 sn_406 (by decide) (by decide) ?_
  refine q_if (c := 0) rfl (by decide) (fun y1 => ?_) (fun y1 => ?_)
  · have y1 : ((I1 406 894)).toInt = 0 := y1
    refine q_ic rfl ?_
    have z : I1 406 894 = R 894 := congrFun e1 894
    exact q_iret rfl (h0 (Or.inl (i_eq (by rw [← z]; exact y1))) I1 r1 f1 s1)
  · have y1 : ((I1 406 894)).toInt ≠ 0 := y1
    refine q_ild rfl rfl ?_
    refine q_ic rfl ?_
    refine q_ic rfl ?_
    refine q_callS (as := [.int a1, .int (0 : Int32), .int (144 : Int32)]) (rest := []) rfl rfl rfl rfl ?_
    refine v_isIn (fun w_ oS => ?_)
    rcases oS with ⟨rfl, oS⟩ | ⟨rfl, oS⟩
    · show dw_ok (pr_X12_on K) 24 0 0 [some (.ref 404), some (.int a1), none] [.int (1 : Int32)] (n, SH1, I1, J)
      refine q_if (c := 1) rfl (by decide) (fun y2 => ?_) (fun h => absurd (show (1 : Int) = 0 from h) (by decide))
      have y2 : (1 : Int) ≠ 0 := y2
      refine q_ald rfl rfl ?_
      refine q_callV (as := []) (rest := []) rfl rfl sk_404 rfl (Nat.le_of_ble_eq_true rfl) ?_
      have r894 : R 894 ≠ 0 := by
        intro q
        have z : I1 406 894 = R 894 := congrFun e1 894
        rw [z, q] at y1
        exact absurd rfl y1
      obtain ⟨gP, hS, hd⟩ := hgo r894
      have d9 := gP.2.1
      refine v_mloads e1 hG hS hd (fun I2 m1 m2 gM => ?_)
      obtain ⟨g406, g38, g35, gK, g20⟩ := id gM
      show dw_ok (pr_X12_on K) 33 0 0 [some (.ref 404), some (.int a1), none] [] (n, SH1, I2, J)
      refine q_ic rfl ?_
      refine q_ist rfl rfl ?_
      show dw_ok (pr_X12_on K) 35 0 0 [some (.ref 404), some (.int a1), some (.int (0 : Int32))] [] (n, SH1, I2, J)
      obtain ⟨ok0, ok1⟩ := oS
      have ok0 : 0 ≤ a1.toInt := ok0
      have ok1 : a1.toInt ≤ 144 := ok1
      obtain ⟨k, hk⟩ : ∃ k : Nat, k = min a1.toInt.toNat (144 - dR R) := ⟨_, rfl⟩
      refine mo_loop (I0 := I2) gP hk ok0 (fun I3 y p1 p2 p3 p4 p5 => ?_) k 0 0 I2 (by omega) rfl (fun _ _ _ _ => rfl) (fun _ _ _ _ => rfl) g38 gK
      have i6 : I3 406 = R := (p1 406 (by decide) (by decide) (by decide)).trans g406
      obtain ⟨-, -, ⟨t1, t2, t3, t4⟩, -⟩ := id p4
      show dw_ok (pr_X12_on K) 74 0 0 [some (.ref 404), some (.int a1), some (.int y)] [] (n, SH1, I3, J)
      refine q_ald rfl rfl ?_
      refine q_callV (as := []) (rest := []) rfl rfl sk_404 rfl (Nat.le_of_ble_eq_true rfl) ?_
      refine v_mkeeps (N := Nn R) (by rw [i6]; exact (gok_N hG).1) (gok_N hG).2 (fun I4 k1 k2 k3 k4 k5 k6 => ?_)
      refine q_ild rfl rfl ?_
      refine q_iret rfl (h1 r894 I4 y k ⟨ok0, ok1⟩ hk p5 (fun a q1 q2 q3 => ?_) (fun j q1 q2 => ?_) ?_ ⟨fun j q1 q2 q3 q4 => ?_, ?_, ?_, ?_, fun c hc => ?_⟩)
      · rw [k1 a q2, p1 a q1 (by omega) (by omega), m1 a q1 (by omega) (by omega)]; exact r1 a q1
      · rw [k1 404 (by decide), p2 j (by omega) (by omega) (by omega), m2 j (by omega) (by omega) (by omega) (by omega) (by omega)]; exact f1 j q1
      · rw [k1 404 (by decide), p2 0 (by decide) (by decide) (by decide), m2 0 (by decide) (by decide) (by decide) (by decide) (by decide)]; exact s1
      · rw [k2 j q1 q2 q3 q4]; exact congrFun i6 j
      · rw [k5]; exact p3
      · rw [k3]; exact t3
      · rw [k4]; exact t4
      · obtain ⟨c1, c2, c3⟩ := k6 c hc
        rw [c1, c2, c3, p1 420 (by decide) (by decide) (by decide)]
        exact ⟨t1 c hc, t2 c hc, (g20 c hc).1⟩
    · show dw_ok (pr_X12_on K) 24 0 0 [some (.ref 404), some (.int a1), none] [.int (0 : Int32)] (n, SH1, I1, J)
      refine q_if (c := 1) rfl (by decide) (fun h => absurd (show (0 : Int) ≠ 0 from h) (by decide)) (fun y3 => ?_)
      have y3 : (0 : Int) = 0 := y3
      refine q_ic rfl ?_
      exact q_iret rfl (h0 (Or.inr (fun q => oS ⟨q.1, q.2⟩)) I1 r1 f1 s1)
set_option maxRecDepth 8000 in
set_option maxHeartbeats 4000000 in
theorem v_mdoes {n : Nat} {I : Nat → Nat → Int32} {J : Nat → Nat → Int64} {K : dw_K} {i : Nat} {a1 a2 : Int32} {R cv : Nat → Int32} {s : rS} {d : Nat} (hG : GOK R) (hB : PB R i) (hGP : GP R cv s d) (hGM : GM I R cv s d) (hkd : R (804 + 3 * i) = a1) (ha2 : R (805 + 3 * i) = a2)
    (hk : ∀ (I' : Nat → Nat → Int32) (w : Int32) (L : Nat × Int32 × gL), lnF R i (cv, s, d) = L → w.toInt = L.1 → (∀ a, a ≠ 404 → (a < 416 ∨ 418 < a) → a ≠ 420 → a ≠ 421 → I' a = I a) → (∀ j, j ≠ 32 → j ≠ 33 → j ≠ 38 → I' 404 j = I 404 j) → (∀ j, j ≠ 1 → j ≠ 2 → I' 421 j = I 421 j) → (∃ b : Int32, I' 421 1 = I 421 1 + b ∧ b.toInt = (L.2.2.2.2 : Int) - d) → I' 421 2 = I 421 2 + L.2.1 → GM I' R L.2.2.1 L.2.2.2.1 L.2.2.2.2 → GP R L.2.2.1 L.2.2.2.1 L.2.2.2.2 → K (some (.int w)) (n, SH1, I', J)) : t_X12_does [.ref 404, .int a1, .int a2] (n, SH1, I, J) K := by
  obtain ⟨g406, g38, g35, gK, g20⟩ := id hGM
  obtain ⟨⟨b0, b3⟩, hm, b144, bN⟩ := id hB
  rw [hkd] at b0 b3 b144 bN
  rw [ha2] at hm
  have hN9 := (gok_N hG).2
  have d9 := hGP.2.1
  have c144 : (144 : Int32).toInt = 144 := rfl
  refine q_body (Nat.le_of_ble_eq_true rfl) ?_
  refine q_ild rfl rfl ?_
  refine q_if (c := 1) rfl (by decide) (fun y1 => ?_) (fun y1 => ?_)
  · have y1 : (a1).toInt ≠ 0 := y1
    refine q_ild rfl rfl ?_
    refine q_ic rfl ?_
    refine q_icmp (c := 1) rfl (by decide) (fun y2 => ?_) (fun y2 => ?_)
    · have y2 : (a1).toInt ≠ (1 : Int) := y2
      refine q_ild rfl rfl ?_
      refine q_ic rfl ?_
      refine q_icmp (c := 1) rfl (by decide) (fun y3 => ?_) (fun y3 => ?_)
      · have y3 : (a1).toInt ≠ (2 : Int) := y3
        refine q_ic rfl ?_
        refine q_ist rfl rfl ?_
        show dw_ok (pr_X12_does K) 112 0 0 [some (.ref 404), some (.int a1), some (.int a2), some (.int (0 : Int32))] [] (n, SH1, I, J)
        have hcN := bN y1
        have hcn : a2.toInt.toNat = pLA R i := by omega
        have hcv : I 420 (pLA R i) = cv (pLA R i) := (g20 _ hcN).1
        refine q_ald rfl rfl ?_
        refine q_getr rfl sk_404 sr_404_39 ?_
        refine q_ild rfl rfl ?_
        refine q_xald rfl (Or.inl rfl) sk_420 sn_420 (by omega) (by omega) ?_
        show dw_ok (pr_X12_does K) 118 0 0 [some (.ref 404), some (.int a1), some (.int a2), some (.int (0 : Int32))] [.int (I 420 (a2).toInt.toNat)] (n, SH1, I, J)
        rw [hcn]
        refine q_ild rfl rfl ?_
        refine q_icmp (c := 1) rfl (by decide) (fun y4 => ?_) (fun y4 => ?_)
        · have y4 : ((I 420 (pLA R i))).toInt ≠ (0 : Int) := y4
          refine q_ald rfl rfl ?_
          refine q_getr rfl sk_404 sr_404_39 ?_
          refine q_ild rfl rfl ?_
          refine q_ild rfl rfl ?_
          refine q_iast rfl sk_420 sn_420 (by omega) (by omega) ?_
          show dw_ok (pr_X12_does K) 131 0 0 [some (.ref 404), some (.int a1), some (.int a2), some (.int (0 : Int32))] [] (n, SH1, (dw_up I 420 (a2).toInt.toNat (0 : Int32)), J)
          rw [hcn]
          refine q_ald rfl rfl ?_
          refine q_getr rfl sk_404 sr_404_30 ?_
          refine q_ild rfl rfl ?_
          refine q_ild rfl rfl ?_
          refine q_ic rfl ?_
          refine q_icmp (c := 1) rfl (by decide) (fun y5 => ?_) (fun h => absurd (show (0 : Int) = (1 : Int) from h) (by decide))
          have y5 : (0 : Int) ≠ (1 : Int) := y5
          refine q_ald rfl rfl ?_
          refine q_ild rfl rfl ?_
          refine q_callV (as := [.int a2]) (rest := [.int a2, .ref 418]) rfl rfl sk_404 rfl (Nat.le_of_ble_eq_true rfl) ?_
          obtain ⟨I1, hI1⟩ : ∃ X, X = (dw_up I 420 (pLA R i) (0 : Int32)) := ⟨_, rfl⟩
          rw [← hI1]
          have rI1 : ∀ a, a ≠ 420 → I1 a = I a := fun a q0 => by rw [hI1]; exact (up_row q0)
          have fI1_0 : ∀ j, j ≠ (pLA R i) → I1 420 j = I 420 j := fun j p0 => by rw [hI1]; exact (up_fld p0)
          have sI1_0_0 : I1 420 (pLA R i) = (0 : Int32) := by rw [hI1]; exact (up_same)
          have i6 : I1 406 = R := (rI1 406 (by decide)).trans g406
          have hcN2 : pLA R i < Cn R * Rn R := hcN
          have hC0 : 0 < Cn R := by
            rcases Nat.eq_zero_or_pos (Cn R) with z | z
            · rw [z, Nat.zero_mul] at hcN2; omega
            · exact z
          refine v_skyOf (k := pLA R i) (C := Cn R) (H := Hn R) hm (by omega) (by rw [i6]; exact hG.1.1) hC0 (by rw [i6]; exact hG.1.2.2.1) hG.1.2.2.2.2.2.1 (by rw [i6]; exact hG.1.2.2.2.2.2.2) (fun w hw => ?_)
          rw [i6] at hw
          have hw : w = skI R (pLA R i) := skI_e hG hw
          subst hw
          show dw_ok (pr_X12_does K) 150 0 0 [some (.ref 404), some (.int a1), some (.int a2), some (.int (0 : Int32))] [.int (skI R (pLA R i)), .int a2, .ref 418] (n, SH1, I1, J)
          refine q_iast rfl sk_418 sn_418 (by omega) (by omega) ?_
          show dw_ok (pr_X12_does K) 151 0 0 [some (.ref 404), some (.int a1), some (.int a2), some (.int (0 : Int32))] [] (n, SH1, (dw_up I1 418 (a2).toInt.toNat (skI R (pLA R i))), J)
          rw [hcn]
          refine q_ic rfl ?_
          have e : lnF R i (cv, s, d) = (0, 0, (upF cv (pLA R i) 0, s, d)) := by
            unfold lnF
            rw [hkd, if_neg y1, if_neg y2, if_neg y3, if_neg (show ¬ cv (pLA R i) = 0 from fun q => y4 (by rw [hcv, q]; rfl))]
          exact q_iret rfl (hk (dw_up I1 418 (pLA R i) (skI R (pLA R i))) 0 (0, 0, (upF cv (pLA R i) 0, s, d)) e rfl (fun a h1 h2 h3 h4 => (up_row (by omega)).trans (rI1 a h3)) (fun j _ _ _ => (up_ne (Or.inl (by decide))).trans (congrFun (rI1 404 (by decide)) j)) (fun j _ _ => (up_ne (Or.inl (by decide))).trans (congrFun (rI1 421 (by decide)) j)) ⟨0, by rw [Int32.add_zero]; exact (up_ne (Or.inl (by decide))).trans (congrFun (rI1 421 (by decide)) 1), by show (0 : Int32).toInt = (d : Int) - d; rw [show (0 : Int32).toInt = 0 from rfl]; omega⟩ (by show (dw_up I1 418 (pLA R i) (skI R (pLA R i))) 421 2 = I 421 2 + 0; rw [Int32.add_zero]; exact (up_ne (Or.inl (by decide))).trans (congrFun (rI1 421 (by decide)) 2)) (gm_cv hGM (fun a ha => (up_row (by omega)).trans (rI1 a (by omega))) (fun j _ _ => (up_ne (Or.inl (by decide))).trans (congrFun (rI1 404 (by decide)) j)) (fun c hc => (up_ne (Or.inl (by decide))).trans (fI1_0 c hc)) (fun c hc => (up_fld hc).trans (congrFun (rI1 418 (by decide)) c)) ((up_ne (Or.inl (by decide))).trans sI1_0_0) (up_same.trans (if_neg (show ¬ (0 : Int32) = 1 by decide)).symm)) (gp_cv hG (Or.inl rfl) hGP))
        · have y4 : ((I 420 (pLA R i))).toInt = (0 : Int) := y4
          refine q_ic rfl ?_
          have e : lnF R i (cv, s, d) = (3, 0, (cv, s, d)) := by
            unfold lnF
            rw [hkd, if_neg y1, if_neg y2, if_neg y3, if_pos (show cv (pLA R i) = 0 from i_eq (by rw [← hcv]; exact y4))]
          exact q_iret rfl (hk I 3 (3, 0, (cv, s, d)) e rfl (fun _ _ _ _ _ => rfl) (fun _ _ _ _ => rfl) (fun _ _ _ => rfl) ⟨0, by rw [Int32.add_zero], by show (0 : Int32).toInt = (d : Int) - d; rw [show (0 : Int32).toInt = 0 from rfl]; omega⟩ (by show I 421 2 = I 421 2 + 0; rw [Int32.add_zero]) hGM hGP)
      · have y3 : (a1).toInt = (2 : Int) := y3
        refine q_ic rfl ?_
        refine q_goto rfl ?_
        refine q_ist rfl rfl ?_
        show dw_ok (pr_X12_does K) 112 0 0 [some (.ref 404), some (.int a1), some (.int a2), some (.int (1 : Int32))] [] (n, SH1, I, J)
        have hcN := bN y1
        have hcn : a2.toInt.toNat = pLA R i := by omega
        have hcv : I 420 (pLA R i) = cv (pLA R i) := (g20 _ hcN).1
        refine q_ald rfl rfl ?_
        refine q_getr rfl sk_404 sr_404_39 ?_
        refine q_ild rfl rfl ?_
        refine q_xald rfl (Or.inl rfl) sk_420 sn_420 (by omega) (by omega) ?_
        show dw_ok (pr_X12_does K) 118 0 0 [some (.ref 404), some (.int a1), some (.int a2), some (.int (1 : Int32))] [.int (I 420 (a2).toInt.toNat)] (n, SH1, I, J)
        rw [hcn]
        refine q_ild rfl rfl ?_
        refine q_icmp (c := 1) rfl (by decide) (fun y6 => ?_) (fun y6 => ?_)
        · have y6 : ((I 420 (pLA R i))).toInt ≠ (1 : Int) := y6
          refine q_ald rfl rfl ?_
          refine q_getr rfl sk_404 sr_404_39 ?_
          refine q_ild rfl rfl ?_
          refine q_ild rfl rfl ?_
          refine q_iast rfl sk_420 sn_420 (by omega) (by omega) ?_
          show dw_ok (pr_X12_does K) 131 0 0 [some (.ref 404), some (.int a1), some (.int a2), some (.int (1 : Int32))] [] (n, SH1, (dw_up I 420 (a2).toInt.toNat (1 : Int32)), J)
          rw [hcn]
          refine q_ald rfl rfl ?_
          refine q_getr rfl sk_404 sr_404_30 ?_
          refine q_ild rfl rfl ?_
          refine q_ild rfl rfl ?_
          refine q_ic rfl ?_
          refine q_icmp (c := 1) rfl (by decide) (fun h => absurd (show (1 : Int) ≠ (1 : Int) from h) (by decide)) (fun y7 => ?_)
          have y7 : (1 : Int) = (1 : Int) := y7
          refine q_ic rfl ?_
          refine q_goto rfl ?_
          refine q_iast rfl sk_418 sn_418 (by omega) (by omega) ?_
          show dw_ok (pr_X12_does K) 151 0 0 [some (.ref 404), some (.int a1), some (.int a2), some (.int (1 : Int32))] [] (n, SH1, (dw_up (dw_up I 420 (pLA R i) (1 : Int32)) 418 (a2).toInt.toNat (0 : Int32)), J)
          rw [hcn]
          refine q_ic rfl ?_
          have e : lnF R i (cv, s, d) = (0, 0, (upF cv (pLA R i) 1, s, d)) := by
            unfold lnF
            rw [hkd, if_neg y1, if_neg y2, if_pos y3, if_neg (show ¬ cv (pLA R i) = 1 from fun q => y6 (by rw [hcv, q]; rfl))]
          exact q_iret rfl (hk (dw_up (dw_up I 420 (pLA R i) (1 : Int32)) 418 (pLA R i) (0 : Int32)) 0 (0, 0, (upF cv (pLA R i) 1, s, d)) e rfl (fun a h1 h2 h3 h4 => (up_row (by omega)).trans (up_row h3)) (fun j _ _ _ => (up_ne (Or.inl (by decide))).trans (up_ne (Or.inl (by decide)))) (fun j _ _ => (up_ne (Or.inl (by decide))).trans (up_ne (Or.inl (by decide)))) ⟨0, by rw [Int32.add_zero]; exact (up_ne (Or.inl (by decide))).trans (up_ne (Or.inl (by decide))), by show (0 : Int32).toInt = (d : Int) - d; rw [show (0 : Int32).toInt = 0 from rfl]; omega⟩ (by show (dw_up (dw_up I 420 (pLA R i) (1 : Int32)) 418 (pLA R i) (0 : Int32)) 421 2 = I 421 2 + 0; rw [Int32.add_zero]; exact (up_ne (Or.inl (by decide))).trans (up_ne (Or.inl (by decide)))) (gm_cv hGM (fun a ha => (up_row (by omega)).trans (up_row (by omega))) (fun j _ _ => (up_ne (Or.inl (by decide))).trans (up_ne (Or.inl (by decide)))) (fun c hc => (up_ne (Or.inl (by decide))).trans (up_fld hc)) (fun c hc => (up_fld hc).trans (up_ne (Or.inl (by decide)))) ((up_ne (Or.inl (by decide))).trans up_same) (up_same.trans (if_pos rfl).symm)) (gp_cv hG (Or.inr rfl) hGP))
        · have y6 : ((I 420 (pLA R i))).toInt = (1 : Int) := y6
          refine q_ic rfl ?_
          have e : lnF R i (cv, s, d) = (3, 0, (cv, s, d)) := by
            unfold lnF
            rw [hkd, if_neg y1, if_neg y2, if_pos y3, if_pos (show cv (pLA R i) = 1 from i_eq (by rw [← hcv]; exact y6))]
          exact q_iret rfl (hk I 3 (3, 0, (cv, s, d)) e rfl (fun _ _ _ _ _ => rfl) (fun _ _ _ _ => rfl) (fun _ _ _ => rfl) ⟨0, by rw [Int32.add_zero], by show (0 : Int32).toInt = (d : Int) - d; rw [show (0 : Int32).toInt = 0 from rfl]; omega⟩ (by show I 421 2 = I 421 2 + 0; rw [Int32.add_zero]) hGM hGP)
    · have y2 : (a1).toInt = (1 : Int) := y2
      have hcN := bN y1
      have hcn : a2.toInt.toNat = pLA R i := by omega
      have hw0 : I 417 (pLA R i) = s.2.1 (pLA R i) := gK.2.2.1.2.1 _ hcN
      refine q_ald rfl rfl ?_
      refine q_getr rfl sk_404 sr_404_29 ?_
      refine q_ild rfl rfl ?_
      refine q_xald rfl (Or.inl rfl) sk_417 sn_417 (by omega) (by omega) ?_
      show dw_ok (pr_X12_does K) 72 0 0 [some (.ref 404), some (.int a1), some (.int a2), none] [.int (I 417 (a2).toInt.toNat)] (n, SH1, I, J)
      rw [hcn]
      refine q_if (c := 1) rfl (by decide) (fun y8 => ?_) (fun y8 => ?_)
      · have y8 : ((I 417 (pLA R i))).toInt ≠ 0 := y8
        refine q_ald rfl rfl ?_
        refine q_getr rfl sk_404 sr_404_40 ?_
        refine q_ic rfl ?_
        refine q_dup2 rfl ?_
        refine q_xald rfl (Or.inl rfl) sk_421 sn_421 (by decide) (by decide) ?_
        refine q_ald rfl rfl ?_
        refine q_getr rfl sk_404 sr_404_29 ?_
        refine q_ild rfl rfl ?_
        refine q_xald rfl (Or.inl rfl) sk_417 sn_417 (by omega) (by omega) ?_
        show dw_ok (pr_X12_does K) 90 0 0 [some (.ref 404), some (.int a1), some (.int a2), none] [.int (I 417 (a2).toInt.toNat), .int (I 421 2), .int (2 : Int32), .ref 421] (n, SH1, I, J)
        rw [hcn]
        refine q_add rfl ?_
        refine q_iast rfl sk_421 sn_421 (by decide) (by decide) ?_
        show dw_ok (pr_X12_does K) 92 0 0 [some (.ref 404), some (.int a1), some (.int a2), none] [] (n, SH1, (dw_up I 421 2 ((I 421 2) + (I 417 (pLA R i)))), J)
        refine q_ald rfl rfl ?_
        refine q_getr rfl sk_404 sr_404_29 ?_
        refine q_ild rfl rfl ?_
        refine q_ic rfl ?_
        refine q_iast rfl sk_417 sn_417 (by omega) (by omega) ?_
        show dw_ok (pr_X12_does K) 99 0 0 [some (.ref 404), some (.int a1), some (.int a2), none] [] (n, SH1, (dw_up (dw_up I 421 2 ((I 421 2) + (I 417 (pLA R i)))) 417 (a2).toInt.toNat (0 : Int32)), J)
        rw [hcn]
        refine q_ic rfl ?_
        have wz : ¬ s.2.1 (pLA R i) = 0 := fun q => by rw [hw0, q] at y8; exact absurd rfl y8
        have e : lnF R i (cv, s, d) = (0, s.2.1 (pLA R i), (cv, wpS s (pLA R i), d)) := by
          unfold lnF
          rw [hkd, if_neg y1, if_pos y2, if_neg wz]
        exact q_iret rfl (hk (dw_up (dw_up I 421 2 ((I 421 2) + (I 417 (pLA R i)))) 417 (pLA R i) (0 : Int32)) 0 (0, s.2.1 (pLA R i), (cv, wpS s (pLA R i), d)) e rfl (fun a h1 h2 h3 h4 => (up_row (by omega)).trans (up_row h4)) (fun j _ _ _ => (up_ne (Or.inl (by decide))).trans (up_ne (Or.inl (by decide)))) (fun j q1 q2 => (up_ne (Or.inl (by decide))).trans (up_fld q2)) ⟨0, by rw [Int32.add_zero]; exact (up_ne (Or.inl (by decide))).trans (up_fld (by decide)), by show (0 : Int32).toInt = (d : Int) - d; rw [show (0 : Int32).toInt = 0 from rfl]; omega⟩ ((up_ne (Or.inl (by decide))).trans (up_same.trans (by rw [hw0]))) (gm_wipe hGM (fun a ha => (up_row (by omega)).trans (up_row (by omega))) (fun j _ _ => (up_ne (Or.inl (by decide))).trans (up_ne (Or.inl (by decide)))) (fun c hc => (up_fld hc).trans (up_ne (Or.inl (by decide)))) up_same) (gp_wipe hGP))
      · have y8 : ((I 417 (pLA R i))).toInt = 0 := y8
        refine q_ic rfl ?_
        have wz : s.2.1 (pLA R i) = 0 := i_eq (by rw [← hw0]; exact y8)
        have e : lnF R i (cv, s, d) = (2, 0, (cv, s, d)) := by
          unfold lnF
          rw [hkd, if_neg y1, if_pos y2, if_pos wz]
        exact q_iret rfl (hk I 2 (2, 0, (cv, s, d)) e rfl (fun _ _ _ _ _ => rfl) (fun _ _ _ _ => rfl) (fun _ _ _ => rfl) ⟨0, by rw [Int32.add_zero], by show (0 : Int32).toInt = (d : Int) - d; rw [show (0 : Int32).toInt = 0 from rfl]; omega⟩ (by show I 421 2 = I 421 2 + 0; rw [Int32.add_zero]) hGM hGP)
  · have y1 : (a1).toInt = 0 := y1
    have m9 : pLA R i ≤ 144 := b144 y1
    refine q_ald rfl rfl ?_
    refine q_geti rfl sk_404 ?_
    refine q_ild rfl rfl ?_
    refine q_add rfl ?_
    show dw_ok (pr_X12_does K) 10 0 0 [some (.ref 404), some (.int a1), some (.int a2), none] [.int ((I 404 38) + a2)] (n, SH1, I, J)
    obtain ⟨sx, hsx⟩ : ∃ z, z = ((I 404 38) + a2) := ⟨_, rfl⟩
    rw [← hsx]
    have esx : sx.toInt = (d : Int) + (pLA R i : Nat) := by rw [hsx]; exact (by rw [i_add (by omega) (by omega)]; omega)
    refine q_ic rfl ?_
    refine q_icmp (c := 5) rfl (by decide) (fun y9 => ?_) (fun y9 => ?_)
    · have y9 : (sx).toInt ≤ (144 : Int) := y9
      refine q_ic rfl ?_
      refine q_ist rfl rfl ?_
      show dw_ok (pr_X12_does K) 20 0 0 [some (.ref 404), some (.int a1), some (.int a2), some (.int (0 : Int32))] [] (n, SH1, I, J)
      have g : d + pLA R i ≤ 144 := by omega
      refine md_loop (I0 := I) (m := pLA R i) hGP hm g (fun I1 yz p1 p2 p3 p4 p5 => ?_) (pLA R i) 0 0 I (by omega) rfl (fun _ _ _ _ => rfl) (fun _ _ _ _ => rfl) g38 gK
      show dw_ok (pr_X12_does K) 49 0 0 [some (.ref 404), some (.int a1), some (.int a2), some (.int yz)] [] (n, SH1, I1, J)
      refine q_ald rfl rfl ?_
      refine q_getr rfl sk_404 sr_404_40 ?_
      refine q_ic rfl ?_
      refine q_dup2 rfl ?_
      refine q_xald rfl (Or.inl rfl) sk_421 sn_421 (by decide) (by decide) ?_
      refine q_ild rfl rfl ?_
      refine q_add rfl ?_
      refine q_iast rfl sk_421 sn_421 (by decide) (by decide) ?_
      show dw_ok (pr_X12_does K) 59 0 0 [some (.ref 404), some (.int a1), some (.int a2), some (.int yz)] [] (n, SH1, (dw_up I1 421 1 ((I1 421 1) + a2)), J)
      refine q_ic rfl ?_
      have e : lnF R i (cv, s, d) = (0, 0, (cv, ruG R cv d (pLA R i) s, d + pLA R i)) := by
        unfold lnF
        rw [hkd, if_pos y1, if_neg (Nat.not_lt.mpr g)]
      exact q_iret rfl (hk (dw_up I1 421 1 ((I1 421 1) + a2)) 0 (0, 0, (cv, ruG R cv d (pLA R i) s, d + pLA R i)) e rfl (fun a h1 h2 h3 h4 => (up_row h4).trans (p1 a h1 (by omega) (by omega))) (fun j q1 q2 q3 => (up_ne (Or.inl (by decide))).trans (p2 j q1 q2 q3)) (fun j q1 q2 => (up_fld q1).trans (congrFun (p1 421 (by decide) (by decide) (by decide)) j)) ⟨a2, up_same.trans (by rw [p1 421 (by decide) (by decide) (by decide)]), by show a2.toInt = ((d + pLA R i : Nat) : Int) - d; omega⟩ ((up_fld (by decide)).trans (by rw [p1 421 (by decide) (by decide) (by decide), Int32.add_zero])) (gm_eq (fun a ha => up_row (by omega)) (fun j q1 q2 => up_ne (Or.inl (by decide))) (⟨(p1 406 (by decide) (by decide) (by decide)).trans g406, p3, (p2 35 (by decide) (by decide) (by decide)).trans g35, msk_0 p4, fun c hc => by rw [p1 420 (by decide) (by decide) (by decide), p1 419 (by decide) (by decide) (by decide)]; exact g20 c hc⟩ : GM I1 R cv (ruG R cv d (pLA R i) s) (d + pLA R i))) (gp_on hGP g))
    · have y9 : (144 : Int) < (sx).toInt := y9
      refine q_ic rfl ?_
      have g : 144 < d + pLA R i := by omega
      have e : lnF R i (cv, s, d) = (1, 0, (cv, s, d)) := by
        unfold lnF
        rw [hkd, if_pos y1, if_pos g]
      exact q_iret rfl (hk I 1 (1, 0, (cv, s, d)) e rfl (fun _ _ _ _ _ => rfl) (fun _ _ _ _ => rfl) (fun _ _ _ => rfl) ⟨0, by rw [Int32.add_zero], by show (0 : Int32).toInt = (d : Int) - d; rw [show (0 : Int32).toInt = 0 from rfl]; omega⟩ (by show I 421 2 = I 421 2 + 0; rw [Int32.add_zero]) hGM hGP)
set_option maxRecDepth 8000 in
theorem mg_l0 {n : Nat} {J : Nat → Nat → Int64} {K : dw_K} {a1 : Int32} {I0 : Nat → Nat → Int32}
    (hk : ∀ (I' : Nat → Nat → Int32) (y : Int32), (∀ a, a ≠ 421 → I' a = I0 a) → (∀ j, j < 5 → I' 421 j = 0) → dw_ok (pr_X12_go K) 52 0 0 [some (.ref 404), some (.int a1), some (.int y), none] [] (n, SH1, I', J)) :
    ∀ (f k : Nat) (x : Int32) (I : Nat → Nat → Int32), k + f = 5 → x.toInt = k → (∀ a, a ≠ 421 → I a = I0 a) → (∀ j, j < k → I 421 j = 0) → dw_ok (pr_X12_go K) 34 0 0 [some (.ref 404), some (.int a1), some (.int x), none] [] (n, SH1, I, J) := by
  have c5 : (5 : Int32).toInt = 5 := rfl
  intro f
  induction f with
  | zero =>
    intro k x I hf hx hA hB
    refine q_ild rfl rfl ?_
    refine q_ic rfl ?_
    refine q_icmp (c := 3) rfl (by decide) (fun y1 => ?_) (fun h => absurd (show (x).toInt < (5 : Int) from h) (by omega))
    have y1 : (5 : Int) ≤ (x).toInt := y1
    exact hk I x hA (fun j hj => hB j (by omega))
  | succ f ih =>
    intro k x I hf hx hA hB
    have hxn : x.toInt.toNat = k := by omega
    refine q_ild rfl rfl ?_
    refine q_ic rfl ?_
    refine q_icmp (c := 3) rfl (by decide) (fun h => absurd (show (5 : Int) ≤ (x).toInt from h) (by omega)) (fun y2 => ?_)
    have y2 : (x).toInt < (5 : Int) := y2
    refine q_ald rfl rfl ?_
    refine q_getr rfl sk_404 sr_404_40 ?_
    refine q_ild rfl rfl ?_
    refine q_ic rfl ?_
    refine q_iast rfl sk_421 sn_421 (by omega) (by omega) ?_
    show dw_ok (pr_X12_go K) 46 0 0 [some (.ref 404), some (.int a1), some (.int x), none] [] (n, SH1, (dw_up I 421 (x).toInt.toNat (0 : Int32)), J)
    rw [hxn]
    refine q_inc rfl rfl rfl ?_
    show dw_ok (pr_X12_go K) 49 0 0 [some (.ref 404), some (.int a1), some (.int (x + 1)), none] [] (n, SH1, (dw_up I 421 k (0 : Int32)), J)
    show dw_ok (pr_X12_go K) 49 0 0 [some (.ref 404), some (.int a1), some (.int (x + 1)), none] [] (n, SH1, (dw_up I 421 k (0 : Int32)), J)
    obtain ⟨x1, hx1⟩ : ∃ z, z = (x + 1) := ⟨_, rfl⟩
    rw [← hx1]
    have ex1 : x1.toInt = ((k + 1 : Nat) : Int) := by rw [hx1]; exact ix_1 hx (by omega)
    refine q_goto rfl ?_
    refine ih (k + 1) x1 (dw_up I 421 k (0 : Int32)) (by omega) ex1 (fun a ha => (up_row ha).trans (hA a ha)) (fun j hj => ?_)
    by_cases e : j = k
    · rw [e, up_same]
    · rw [up_fld e]; exact hB j (by omega)
set_option maxRecDepth 8000 in
set_option maxHeartbeats 4000000 in
theorem mgo_loop {n : Nat} {J : Nat → Nat → Int64} {K : dw_K} {L d0 : Nat} {a1 : Int32} {R : Nat → Int32} {I0 : Nat → Nat → Int32} (hG : GOK R) (hB : ∀ i : Nat, i < L → PB R i) (hL : (R 803).toInt = L) (hL30 : L ≤ 30) (hd0 : d0 ≤ 144) :
    ∀ (f i : Nat) (ln : Int32) (I : Nat → Nat → Int32) (cv : Nat → Int32) (s : rS) (d : Nat), i + f = L → ln.toInt = i → (∀ a, a ≠ 404 → (a < 416 ∨ 418 < a) → a ≠ 420 → a ≠ 421 → I a = I0 a) → (∀ j, j ≠ 32 → j ≠ 33 → j ≠ 38 → I 404 j = I0 404 j) → (∀ j, 3 ≤ j → I 421 j = I0 421 j) → I 421 0 = 0 → (I 421 1).toInt = (d : Int) - d0 → GP R cv s d → GM I R cv s d → (∀ (I' : Nat → Nat → Int32) (wr lx : Int32) (r : Nat × Nat × Int32 × gL), goF R f i (cv, s, d) = r → (∀ a, a ≠ 404 → (a < 416 ∨ 418 < a) → a ≠ 420 → a ≠ 421 → I' a = I0 a) → (∀ j, j ≠ 32 → j ≠ 33 → j ≠ 38 → I' 404 j = I0 404 j) → (∀ j, 3 ≤ j → I' 421 j = I0 421 j) → wr.toInt = (if r.1 = 0 then -1 else (r.2.1 : Int)) → (I' 421 0).toInt = r.1 → (I' 421 1).toInt = (r.2.2.2.2.2 : Int) - d0 → I' 421 2 = I 421 2 + r.2.2.1 → GM I' R r.2.2.2.1 r.2.2.2.2.1 r.2.2.2.2.2 → GP R r.2.2.2.1 r.2.2.2.2.1 r.2.2.2.2.2 → dw_ok (pr_X12_go K) 123 0 0 [some (.ref 404), some (.int a1), some (.int wr), some (.int lx)] [] (n, SH1, I', J)) → dw_ok (pr_X12_go K) 56 0 0 [some (.ref 404), some (.int a1), some (.int (-1)), some (.int ln)] [] (n, SH1, I, J) := by
  intro f
  induction f with
  | zero =>
    intro i ln I cv s d hf hln hF hFA hF3 h0 h1 hGP hGM hk
    have h803 : I 406 803 = R 803 := congrFun hGM.1 803
    have k0 : (0 : Int32).toInt = 0 := rfl
    refine q_ild rfl rfl ?_
    refine q_ald rfl rfl ?_
    refine q_getr rfl sk_404 sr_404_6 ?_
    refine q_ic rfl ?_
    refine q_xald rfl (Or.inl rfl) sk_406 sn_406 (by decide) (by decide) ?_
    refine q_icmp (c := 3) rfl (by decide) (fun y1 => ?_) (fun h => absurd (show (ln).toInt < ((I 406 803)).toInt from h) (by rw [h803]; omega))
    have y1 : ((I 406 803)).toInt ≤ (ln).toInt := y1
    exact hk I (-1) ln (0, i, 0, cv, s, d) rfl hF hFA hF3 rfl (by rw [h0]; rfl) h1 (by show I 421 2 = I 421 2 + 0; rw [Int32.add_zero]) hGM hGP
  | succ f ih =>
    intro i ln I cv s d hf hln hF hFA hF3 h0 h1 hGP hGM hk
    have h803 : I 406 803 = R 803 := congrFun hGM.1 803
    have k0 : (0 : Int32).toInt = 0 := rfl
    refine q_ild rfl rfl ?_
    refine q_ald rfl rfl ?_
    refine q_getr rfl sk_404 sr_404_6 ?_
    refine q_ic rfl ?_
    refine q_xald rfl (Or.inl rfl) sk_406 sn_406 (by decide) (by decide) ?_
    refine q_icmp (c := 3) rfl (by decide) (fun h => absurd (show ((I 406 803)).toInt ≤ (ln).toInt from h) (by rw [h803]; omega)) (fun y2 => ?_)
    have y2 : (ln).toInt < ((I 406 803)).toInt := y2
    refine q_ild rfl rfl ?_
    refine q_if (c := 3) rfl (by decide) (fun h => absurd (show 0 ≤ (-1 : Int) from h) (by decide)) (fun y3 => ?_)
    have y3 : (-1 : Int) < 0 := y3
    refine q_ald rfl rfl ?_
    refine q_getr rfl sk_404 sr_404_40 ?_
    refine q_ic rfl ?_
    refine q_ald rfl rfl ?_
    refine q_ald rfl rfl ?_
    refine q_getr rfl sk_404 sr_404_6 ?_
    refine q_ic rfl ?_
    refine q_ic rfl ?_
    refine q_ild rfl rfl ?_
    refine q_mul rfl ?_
    show dw_ok (pr_X12_go K) 88 0 0 [some (.ref 404), some (.int a1), some (.int (-1 : Int32)), some (.int ln)] [.int ((3 : Int32) * ln), .int (804 : Int32), .ref 406, .ref 404, .int (0 : Int32), .ref 421] (n, SH1, I, J)
    obtain ⟨t3, ht3⟩ : ∃ z, z = ((3 : Int32) * ln) := ⟨_, rfl⟩
    rw [← ht3]
    have et3 : t3.toInt = ((3 * i : Nat) : Int) := by rw [ht3]; exact (ix_m (m := 3) hln rfl (by omega))
    refine q_add rfl ?_
    show dw_ok (pr_X12_go K) 89 0 0 [some (.ref 404), some (.int a1), some (.int (-1 : Int32)), some (.int ln)] [.int ((804 : Int32) + t3), .ref 406, .ref 404, .int (0 : Int32), .ref 421] (n, SH1, I, J)
    obtain ⟨z4, hz4⟩ : ∃ z, z = ((804 : Int32) + t3) := ⟨_, rfl⟩
    rw [← hz4]
    have ez4 : z4.toInt = ((804 + 3 * i : Nat) : Int) := by rw [hz4]; exact (ix_a (x := 804) (a := 804) rfl et3 (by omega))
    refine q_xald rfl (Or.inl rfl) sk_406 sn_406 (by omega) (by omega) ?_
    show dw_ok (pr_X12_go K) 90 0 0 [some (.ref 404), some (.int a1), some (.int (-1 : Int32)), some (.int ln)] [.int (I 406 (z4).toInt.toNat), .ref 404, .int (0 : Int32), .ref 421] (n, SH1, I, J)
    rw [(nat_of ez4)]
    refine q_ald rfl rfl ?_
    refine q_getr rfl sk_404 sr_404_6 ?_
    refine q_ic rfl ?_
    refine q_ic rfl ?_
    refine q_ild rfl rfl ?_
    refine q_mul rfl ?_
    show dw_ok (pr_X12_go K) 100 0 0 [some (.ref 404), some (.int a1), some (.int (-1 : Int32)), some (.int ln)] [.int ((3 : Int32) * ln), .int (805 : Int32), .ref 406, .int (I 406 (804 + 3 * i)), .ref 404, .int (0 : Int32), .ref 421] (n, SH1, I, J)
    obtain ⟨t3, ht3⟩ : ∃ z, z = ((3 : Int32) * ln) := ⟨_, rfl⟩
    rw [← ht3]
    have et3 : t3.toInt = ((3 * i : Nat) : Int) := by rw [ht3]; exact (ix_m (m := 3) hln rfl (by omega))
    refine q_add rfl ?_
    show dw_ok (pr_X12_go K) 101 0 0 [some (.ref 404), some (.int a1), some (.int (-1 : Int32)), some (.int ln)] [.int ((805 : Int32) + t3), .ref 406, .int (I 406 (804 + 3 * i)), .ref 404, .int (0 : Int32), .ref 421] (n, SH1, I, J)
    obtain ⟨z5, hz5⟩ : ∃ z, z = ((805 : Int32) + t3) := ⟨_, rfl⟩
    rw [← hz5]
    have ez5 : z5.toInt = ((805 + 3 * i : Nat) : Int) := by rw [hz5]; exact (ix_a (x := 805) (a := 805) rfl et3 (by omega))
    refine q_xald rfl (Or.inl rfl) sk_406 sn_406 (by omega) (by omega) ?_
    show dw_ok (pr_X12_go K) 102 0 0 [some (.ref 404), some (.int a1), some (.int (-1 : Int32)), some (.int ln)] [.int (I 406 (z5).toInt.toNat), .int (I 406 (804 + 3 * i)), .ref 404, .int (0 : Int32), .ref 421] (n, SH1, I, J)
    rw [(nat_of ez5)]
    refine q_callV (as := [.int (I 406 (804 + 3 * i)), .int (I 406 (805 + 3 * i))]) (rest := [.int (0 : Int32), .ref 421]) rfl rfl sk_404 rfl (Nat.le_of_ble_eq_true rfl) ?_
    rw [show (I 406 (804 + 3 * i)) = R (804 + 3 * i) from congrFun hGM.1 _, show (I 406 (805 + 3 * i)) = R (805 + 3 * i) from congrFun hGM.1 _]
    refine v_mdoes hG (hB i (by omega)) hGP hGM rfl rfl (fun I1 w L e ew g1 g2 g3 g4 g5 gM gP => ?_)
    obtain ⟨lc, lt, lcv, ls, ld⟩ := L
    obtain ⟨bb, g4, eb⟩ := g4
    have ew : w.toInt = (lc : Nat) := ew
    have g5 : I1 421 2 = I 421 2 + lt := g5
    have eb : bb.toInt = (ld : Int) - d := eb
    have gM : GM I1 R lcv ls ld := gM
    have gP : GP R lcv ls ld := gP
    have dl := gP.2.1
    have dl2 := hGP.2.1
    show dw_ok (pr_X12_go K) 105 0 0 [some (.ref 404), some (.int a1), some (.int (-1 : Int32)), some (.int ln)] [.int w, .int (0 : Int32), .ref 421] (n, SH1, I1, J)
    refine q_iast rfl sk_421 sn_421 (by decide) (by decide) ?_
    show dw_ok (pr_X12_go K) 106 0 0 [some (.ref 404), some (.int a1), some (.int (-1 : Int32)), some (.int ln)] [] (n, SH1, (dw_up I1 421 0 w), J)
    refine q_ald rfl rfl ?_
    refine q_getr rfl sk_404 sr_404_40 ?_
    refine q_ic rfl ?_
    refine q_xald rfl (Or.inl rfl) sk_421 sn_421 (by decide) (by decide) ?_
    show dw_ok (pr_X12_go K) 112 0 0 [some (.ref 404), some (.int a1), some (.int (-1 : Int32)), some (.int ln)] [.int ((dw_up I1 421 0 w) 421 0)] (n, SH1, (dw_up I1 421 0 w), J)
    rw [show ((dw_up I1 421 0 w) 421 0) = w from up_same]
    refine q_if (c := 5) rfl (by decide) (fun y4 => ?_) (fun y4 => ?_)
    · have y4 : (w).toInt ≤ 0 := y4
      refine q_inc rfl rfl rfl ?_
      show dw_ok (pr_X12_go K) 120 0 0 [some (.ref 404), some (.int a1), some (.int (-1 : Int32)), some (.int (ln + 1))] [] (n, SH1, (dw_up I1 421 0 w), J)
      show dw_ok (pr_X12_go K) 120 0 0 [some (.ref 404), some (.int a1), some (.int (-1 : Int32)), some (.int (ln + 1))] [] (n, SH1, (dw_up I1 421 0 w), J)
      obtain ⟨lx, hlx⟩ : ∃ z, z = (ln + 1) := ⟨_, rfl⟩
      rw [← hlx]
      have elx : lx.toInt = ((i + 1 : Nat) : Int) := by rw [hlx]; exact ix_1 hln (by omega)
      refine q_goto rfl ?_
      show dw_ok (pr_X12_go K) 56 0 0 [some (.ref 404), some (.int a1), some (.int (-1 : Int32)), some (.int lx)] [] (n, SH1, (dw_up I1 421 0 w), J)
      obtain ⟨I2, hI2⟩ : ∃ X, X = (dw_up I1 421 0 w) := ⟨_, rfl⟩
      rw [← hI2]
      have r2 : ∀ a, a ≠ 421 → I2 a = I1 a := fun a ha => by rw [hI2]; exact up_row ha
      have f2 : ∀ j, j ≠ 0 → I2 421 j = I1 421 j := fun j hj => by rw [hI2]; exact up_fld hj
      have s2 : I2 421 0 = w := by rw [hI2]; exact up_same
      have F2 : ∀ a, a ≠ 404 → (a < 416 ∨ 418 < a) → a ≠ 420 → a ≠ 421 → I2 a = I0 a := fun a h1 h2 h3 h4 => ((r2 a h4).trans (g1 a h1 h2 h3 h4)).trans (hF a h1 h2 h3 h4)
      have FA2 : ∀ j, j ≠ 32 → j ≠ 33 → j ≠ 38 → I2 404 j = I0 404 j := fun j h1 h2 h3 => ((congrFun (r2 404 (by decide)) j).trans (g2 j h1 h2 h3)).trans (hFA j h1 h2 h3)
      have F32 : ∀ j, 3 ≤ j → I2 421 j = I0 421 j := fun j hj => ((f2 j (by omega)).trans (g3 j (by omega) (by omega))).trans (hF3 j hj)
      have C2 : GM I2 R lcv ls ld := gm_eq (fun a ha => r2 a (by omega)) (fun j _ _ => congrFun (r2 404 (by decide)) j) gM
      have t1 : (I2 421 1).toInt = (ld : Int) - d0 := by
        rw [f2 1 (by decide), g4, i_add (by omega) (by omega), h1, eb]; omega
      have t2 : I2 421 2 = I 421 2 + lt := (f2 2 (by decide)).trans g5
      have lz : lc = 0 := by omega
      have wz : w = 0 := i_eq (by rw [k0]; omega)
      have eg : goF R (f + 1) i (cv, s, d) = ((goF R f (i + 1) (lcv, ls, ld)).1, (goF R f (i + 1) (lcv, ls, ld)).2.1, lt + (goF R f (i + 1) (lcv, ls, ld)).2.2.1, (goF R f (i + 1) (lcv, ls, ld)).2.2.2) := by
        show (if (lnF R i (cv, s, d)).1 = 0 then _ else _) = _
        rw [e]
        exact if_pos lz
      refine ih (i + 1) lx I2 lcv ls ld (by omega) elx F2 FA2 F32 (s2.trans wz) t1 gP C2 (fun I' wr lx' r er q1 q2 q3 q4 q5 q6 q7 q8 q9 => ?_)
      rw [er] at eg
      exact hk I' wr lx' _ eg q1 q2 q3 q4 q5 q6 (by show I' 421 2 = I 421 2 + (lt + r.2.2.1); rw [q7, t2, Int32.add_assoc]) q8 q9
    · have y4 : 0 < (w).toInt := y4
      refine q_ild rfl rfl ?_
      refine q_ist rfl rfl ?_
      show dw_ok (pr_X12_go K) 117 0 0 [some (.ref 404), some (.int a1), some (.int ln), some (.int ln)] [] (n, SH1, (dw_up I1 421 0 w), J)
      refine q_inc rfl rfl rfl ?_
      show dw_ok (pr_X12_go K) 120 0 0 [some (.ref 404), some (.int a1), some (.int ln), some (.int (ln + 1))] [] (n, SH1, (dw_up I1 421 0 w), J)
      show dw_ok (pr_X12_go K) 120 0 0 [some (.ref 404), some (.int a1), some (.int ln), some (.int (ln + 1))] [] (n, SH1, (dw_up I1 421 0 w), J)
      obtain ⟨lx, hlx⟩ : ∃ z, z = (ln + 1) := ⟨_, rfl⟩
      rw [← hlx]
      have elx : lx.toInt = ((i + 1 : Nat) : Int) := by rw [hlx]; exact ix_1 hln (by omega)
      refine q_goto rfl ?_
      show dw_ok (pr_X12_go K) 56 0 0 [some (.ref 404), some (.int a1), some (.int ln), some (.int lx)] [] (n, SH1, (dw_up I1 421 0 w), J)
      obtain ⟨I2, hI2⟩ : ∃ X, X = (dw_up I1 421 0 w) := ⟨_, rfl⟩
      rw [← hI2]
      have r2 : ∀ a, a ≠ 421 → I2 a = I1 a := fun a ha => by rw [hI2]; exact up_row ha
      have f2 : ∀ j, j ≠ 0 → I2 421 j = I1 421 j := fun j hj => by rw [hI2]; exact up_fld hj
      have s2 : I2 421 0 = w := by rw [hI2]; exact up_same
      have F2 : ∀ a, a ≠ 404 → (a < 416 ∨ 418 < a) → a ≠ 420 → a ≠ 421 → I2 a = I0 a := fun a h1 h2 h3 h4 => ((r2 a h4).trans (g1 a h1 h2 h3 h4)).trans (hF a h1 h2 h3 h4)
      have FA2 : ∀ j, j ≠ 32 → j ≠ 33 → j ≠ 38 → I2 404 j = I0 404 j := fun j h1 h2 h3 => ((congrFun (r2 404 (by decide)) j).trans (g2 j h1 h2 h3)).trans (hFA j h1 h2 h3)
      have F32 : ∀ j, 3 ≤ j → I2 421 j = I0 421 j := fun j hj => ((f2 j (by omega)).trans (g3 j (by omega) (by omega))).trans (hF3 j hj)
      have C2 : GM I2 R lcv ls ld := gm_eq (fun a ha => r2 a (by omega)) (fun j _ _ => congrFun (r2 404 (by decide)) j) gM
      have t1 : (I2 421 1).toInt = (ld : Int) - d0 := by
        rw [f2 1 (by decide), g4, i_add (by omega) (by omega), h1, eb]; omega
      have t2 : I2 421 2 = I 421 2 + lt := (f2 2 (by decide)).trans g5
      have lz : ¬ lc = 0 := fun q => by omega
      have eg : goF R (f + 1) i (cv, s, d) = (lc, i, lt, lcv, ls, ld) := by
        show (if (lnF R i (cv, s, d)).1 = 0 then _ else _) = _
        rw [e]
        exact if_neg lz
      show dw_ok (pr_X12_go K) 56 0 0 [some (.ref 404), some (.int a1), some (.int ln), some (.int lx)] [] (n, SH1, I2, J)
      refine q_ild rfl rfl ?_
      refine q_ald rfl rfl ?_
      refine q_getr rfl sk_404 sr_404_6 ?_
      refine q_ic rfl ?_
      refine q_xald rfl (Or.inl rfl) sk_406 sn_406 (by decide) (by decide) ?_
      refine q_icmp (c := 3) rfl (by decide) (fun y5 => ?_) (fun y5 => ?_)
      · have y5 : ((I2 406 803)).toInt ≤ (lx).toInt := y5
        exact hk I2 ln lx _ eg F2 FA2 F32 (by rw [if_neg lz]; exact hln) (by rw [s2]; exact ew) t1 t2 C2 gP
      · have y5 : (lx).toInt < ((I2 406 803)).toInt := y5
        refine q_ild rfl rfl ?_
        refine q_if (c := 3) rfl (by decide) (fun y6 => ?_) (fun h => absurd (show (ln).toInt < 0 from h) (by omega))
        have y6 : 0 ≤ (ln).toInt := y6
        exact hk I2 ln lx _ eg F2 FA2 F32 (by rw [if_neg lz]; exact hln) (by rw [s2]; exact ew) t1 t2 C2 gP
set_option maxRecDepth 8000 in
set_option maxHeartbeats 4000000 in
theorem mgs_loop {n : Nat} {J : Nat → Nat → Int64} {K : dw_K} {a1 wr : Int32} {N : Nat} {I0 : Nat → Nat → Int32} (hN : (I0 406 0 * I0 406 1).toInt = N) (hN9 : N ≤ 144)
    (hk : ∀ (I' : Nat → Nat → Int32) (y : Int32), (∀ a, a ≠ 421 → I' a = I0 a) → (∀ j, j ≠ 3 → j ≠ 4 → I' 421 j = I0 421 j) → (I' 421 3).toInt = wcF (I0 417) 1 N → I' 421 4 = suF (I0 420) N → dw_ok (pr_X12_go K) 177 0 0 [some (.ref 404), some (.int a1), some (.int wr), some (.int y)] [] (n, SH1, I', J)) :
    ∀ (f k : Nat) (c : Int32) (I : Nat → Nat → Int32), k + f = N → c.toInt = k → (∀ a, a ≠ 421 → I a = I0 a) → (∀ j, j ≠ 3 → j ≠ 4 → I 421 j = I0 421 j) → (I 421 3).toInt = wcF (I0 417) 1 k → I 421 4 = suF (I0 420) k → dw_ok (pr_X12_go K) 125 0 0 [some (.ref 404), some (.int a1), some (.int wr), some (.int c)] [] (n, SH1, I, J) := by
  have k1 : (1 : Int32).toInt = 1 := rfl
  have k0 : (0 : Int32).toInt = 0 := rfl
  intro f
  induction f with
  | zero =>
    intro k c I hf hc hA hB h3 h4
    have h406 : I 406 = I0 406 := hA 406 (by decide)
    have h417 : I 417 = I0 417 := hA 417 (by decide)
    have h420 : I 420 = I0 420 := hA 420 (by decide)
    refine q_ild rfl rfl ?_
    refine q_ald rfl rfl ?_
    refine q_callV (as := []) (rest := [.int c]) rfl rfl sk_404 rfl (Nat.le_of_ble_eq_true rfl) ?_
    refine v_mcells ?_
    show dw_ok (pr_X12_go K) 130 0 0 [some (.ref 404), some (.int a1), some (.int wr), some (.int c)] [.int (I 406 0 * I 406 1), .int c] (n, SH1, I, J)
    rw [show I 406 = I0 406 from h406]
    obtain ⟨nv, hnv⟩ : ∃ z, z = I0 406 0 * I0 406 1 := ⟨_, rfl⟩
    rw [← hnv]
    have env : nv.toInt = N := by rw [hnv]; exact hN
    show dw_ok (pr_X12_go K) 130 0 0 [some (.ref 404), some (.int a1), some (.int wr), some (.int c)] [.int nv, .int c] (n, SH1, I, J)
    refine q_icmp (c := 3) rfl (by decide) (fun y1 => ?_) (fun h => absurd (show (c).toInt < (nv).toInt from h) (by omega))
    have y1 : (nv).toInt ≤ (c).toInt := y1
    have kN : k = N := by omega
    subst kN
    exact hk I c hA hB h3 h4
  | succ f ih =>
    intro k c I hf hc hA hB h3 h4
    have h406 : I 406 = I0 406 := hA 406 (by decide)
    have h417 : I 417 = I0 417 := hA 417 (by decide)
    have h420 : I 420 = I0 420 := hA 420 (by decide)
    have hcn : c.toInt.toNat = k := by omega
    have wl := wc_le (W := I0 417) (l := 1) k
    refine q_ild rfl rfl ?_
    refine q_ald rfl rfl ?_
    refine q_callV (as := []) (rest := [.int c]) rfl rfl sk_404 rfl (Nat.le_of_ble_eq_true rfl) ?_
    refine v_mcells ?_
    show dw_ok (pr_X12_go K) 130 0 0 [some (.ref 404), some (.int a1), some (.int wr), some (.int c)] [.int (I 406 0 * I 406 1), .int c] (n, SH1, I, J)
    rw [show I 406 = I0 406 from h406]
    obtain ⟨nv, hnv⟩ : ∃ z, z = I0 406 0 * I0 406 1 := ⟨_, rfl⟩
    rw [← hnv]
    have env : nv.toInt = N := by rw [hnv]; exact hN
    show dw_ok (pr_X12_go K) 130 0 0 [some (.ref 404), some (.int a1), some (.int wr), some (.int c)] [.int nv, .int c] (n, SH1, I, J)
    refine q_icmp (c := 3) rfl (by decide) (fun h => absurd (show (nv).toInt ≤ (c).toInt from h) (by omega)) (fun y2 => ?_)
    have y2 : (c).toInt < (nv).toInt := y2
    refine q_ald rfl rfl ?_
    refine q_getr rfl sk_404 sr_404_40 ?_
    refine q_ic rfl ?_
    refine q_dup2 rfl ?_
    refine q_xald rfl (Or.inl rfl) sk_421 sn_421 (by decide) (by decide) ?_
    refine q_ald rfl rfl ?_
    refine q_getr rfl sk_404 sr_404_29 ?_
    refine q_ild rfl rfl ?_
    refine q_xald rfl (Or.inl rfl) sk_417 sn_417 (by omega) (by omega) ?_
    show dw_ok (pr_X12_go K) 146 0 0 [some (.ref 404), some (.int a1), some (.int wr), some (.int c)] [.int (I 417 (c).toInt.toNat), .int (I 421 3), .int (3 : Int32), .ref 421] (n, SH1, I, J)
    rw [hcn]
    refine q_if (c := 5) rfl (by decide) (fun y3 => ?_) (fun y3 => ?_)
    · have y3 : ((I 417 k)).toInt ≤ 0 := y3
      refine q_ic rfl ?_
      refine q_add rfl ?_
      refine q_iast rfl sk_421 sn_421 (by decide) (by decide) ?_
      show dw_ok (pr_X12_go K) 156 0 0 [some (.ref 404), some (.int a1), some (.int wr), some (.int c)] [] (n, SH1, (dw_up I 421 3 ((I 421 3) + (0 : Int32))), J)
      refine q_ald rfl rfl ?_
      refine q_getr rfl sk_404 sr_404_40 ?_
      refine q_ic rfl ?_
      refine q_dup2 rfl ?_
      refine q_xald rfl (Or.inl rfl) sk_421 sn_421 (by decide) (by decide) ?_
      show dw_ok (pr_X12_go K) 163 0 0 [some (.ref 404), some (.int a1), some (.int wr), some (.int c)] [.int ((dw_up I 421 3 ((I 421 3) + (0 : Int32))) 421 4), .int (4 : Int32), .ref 421] (n, SH1, (dw_up I 421 3 ((I 421 3) + (0 : Int32))), J)
      rw [show ((dw_up I 421 3 ((I 421 3) + (0 : Int32))) 421 4) = (I 421 4) from (up_fld (by decide))]
      refine q_ald rfl rfl ?_
      refine q_getr rfl sk_404 sr_404_39 ?_
      refine q_ild rfl rfl ?_
      refine q_xald rfl (Or.inl rfl) sk_420 sn_420 (by omega) (by omega) ?_
      show dw_ok (pr_X12_go K) 169 0 0 [some (.ref 404), some (.int a1), some (.int wr), some (.int c)] [.int ((dw_up I 421 3 ((I 421 3) + (0 : Int32))) 420 (c).toInt.toNat), .int (I 421 4), .int (4 : Int32), .ref 421] (n, SH1, (dw_up I 421 3 ((I 421 3) + (0 : Int32))), J)
      rw [hcn]
      show dw_ok (pr_X12_go K) 169 0 0 [some (.ref 404), some (.int a1), some (.int wr), some (.int c)] [.int ((dw_up I 421 3 ((I 421 3) + (0 : Int32))) 420 k), .int (I 421 4), .int (4 : Int32), .ref 421] (n, SH1, (dw_up I 421 3 ((I 421 3) + (0 : Int32))), J)
      rw [show ((dw_up I 421 3 ((I 421 3) + (0 : Int32))) 420 k) = (I 420 k) from (up_ne (Or.inl (by decide)))]
      refine q_add rfl ?_
      refine q_iast rfl sk_421 sn_421 (by decide) (by decide) ?_
      show dw_ok (pr_X12_go K) 171 0 0 [some (.ref 404), some (.int a1), some (.int wr), some (.int c)] [] (n, SH1, (dw_up (dw_up I 421 3 ((I 421 3) + (0 : Int32))) 421 4 ((I 421 4) + (I 420 k))), J)
      refine q_inc rfl rfl rfl ?_
      show dw_ok (pr_X12_go K) 174 0 0 [some (.ref 404), some (.int a1), some (.int wr), some (.int (c + 1))] [] (n, SH1, (dw_up (dw_up I 421 3 ((I 421 3) + (0 : Int32))) 421 4 ((I 421 4) + (I 420 k))), J)
      show dw_ok (pr_X12_go K) 174 0 0 [some (.ref 404), some (.int a1), some (.int wr), some (.int (c + 1))] [] (n, SH1, (dw_up (dw_up I 421 3 ((I 421 3) + (0 : Int32))) 421 4 ((I 421 4) + (I 420 k))), J)
      obtain ⟨cx, hcx⟩ : ∃ z, z = (c + 1) := ⟨_, rfl⟩
      rw [← hcx]
      have ecx : cx.toInt = ((k + 1 : Nat) : Int) := by rw [hcx]; exact ix_1 hc (by omega)
      refine q_goto rfl ?_
      have y417 : (I0 417 k).toInt = (I 417 k).toInt := by rw [h417]
      refine ih (k + 1) cx (dw_up (dw_up I 421 3 ((I 421 3) + (0 : Int32))) 421 4 ((I 421 4) + (I 420 k))) (by omega) ecx (fun a ha => ((up_row ha).trans (up_row ha)).trans (hA a ha)) (fun j q1 q2 => ((up_fld q2).trans (up_fld q1)).trans (hB j q1 q2)) ?_ ?_
      · rw [up_fld (by decide), up_same, i_add (by rw [h3, k0]; omega) (by rw [h3, k0]; omega), h3, k0]
        show _ = ((wcF (I0 417) 1 k + (if (1 : Int32).toInt ≤ (I0 417 k).toInt then 1 else 0) : Nat) : Int)
        rw [if_neg (by rw [k1]; omega)]
        omega
      · rw [up_same, h4, h420]
        rfl
    · have y3 : 0 < ((I 417 k)).toInt := y3
      refine q_ic rfl ?_
      refine q_goto rfl ?_
      refine q_add rfl ?_
      refine q_iast rfl sk_421 sn_421 (by decide) (by decide) ?_
      show dw_ok (pr_X12_go K) 156 0 0 [some (.ref 404), some (.int a1), some (.int wr), some (.int c)] [] (n, SH1, (dw_up I 421 3 ((I 421 3) + (1 : Int32))), J)
      refine q_ald rfl rfl ?_
      refine q_getr rfl sk_404 sr_404_40 ?_
      refine q_ic rfl ?_
      refine q_dup2 rfl ?_
      refine q_xald rfl (Or.inl rfl) sk_421 sn_421 (by decide) (by decide) ?_
      show dw_ok (pr_X12_go K) 163 0 0 [some (.ref 404), some (.int a1), some (.int wr), some (.int c)] [.int ((dw_up I 421 3 ((I 421 3) + (1 : Int32))) 421 4), .int (4 : Int32), .ref 421] (n, SH1, (dw_up I 421 3 ((I 421 3) + (1 : Int32))), J)
      rw [show ((dw_up I 421 3 ((I 421 3) + (1 : Int32))) 421 4) = (I 421 4) from (up_fld (by decide))]
      refine q_ald rfl rfl ?_
      refine q_getr rfl sk_404 sr_404_39 ?_
      refine q_ild rfl rfl ?_
      refine q_xald rfl (Or.inl rfl) sk_420 sn_420 (by omega) (by omega) ?_
      show dw_ok (pr_X12_go K) 169 0 0 [some (.ref 404), some (.int a1), some (.int wr), some (.int c)] [.int ((dw_up I 421 3 ((I 421 3) + (1 : Int32))) 420 (c).toInt.toNat), .int (I 421 4), .int (4 : Int32), .ref 421] (n, SH1, (dw_up I 421 3 ((I 421 3) + (1 : Int32))), J)
      rw [hcn]
      show dw_ok (pr_X12_go K) 169 0 0 [some (.ref 404), some (.int a1), some (.int wr), some (.int c)] [.int ((dw_up I 421 3 ((I 421 3) + (1 : Int32))) 420 k), .int (I 421 4), .int (4 : Int32), .ref 421] (n, SH1, (dw_up I 421 3 ((I 421 3) + (1 : Int32))), J)
      rw [show ((dw_up I 421 3 ((I 421 3) + (1 : Int32))) 420 k) = (I 420 k) from (up_ne (Or.inl (by decide)))]
      refine q_add rfl ?_
      refine q_iast rfl sk_421 sn_421 (by decide) (by decide) ?_
      show dw_ok (pr_X12_go K) 171 0 0 [some (.ref 404), some (.int a1), some (.int wr), some (.int c)] [] (n, SH1, (dw_up (dw_up I 421 3 ((I 421 3) + (1 : Int32))) 421 4 ((I 421 4) + (I 420 k))), J)
      refine q_inc rfl rfl rfl ?_
      show dw_ok (pr_X12_go K) 174 0 0 [some (.ref 404), some (.int a1), some (.int wr), some (.int (c + 1))] [] (n, SH1, (dw_up (dw_up I 421 3 ((I 421 3) + (1 : Int32))) 421 4 ((I 421 4) + (I 420 k))), J)
      show dw_ok (pr_X12_go K) 174 0 0 [some (.ref 404), some (.int a1), some (.int wr), some (.int (c + 1))] [] (n, SH1, (dw_up (dw_up I 421 3 ((I 421 3) + (1 : Int32))) 421 4 ((I 421 4) + (I 420 k))), J)
      obtain ⟨cx, hcx⟩ : ∃ z, z = (c + 1) := ⟨_, rfl⟩
      rw [← hcx]
      have ecx : cx.toInt = ((k + 1 : Nat) : Int) := by rw [hcx]; exact ix_1 hc (by omega)
      refine q_goto rfl ?_
      have y417 : (I0 417 k).toInt = (I 417 k).toInt := by rw [h417]
      refine ih (k + 1) cx (dw_up (dw_up I 421 3 ((I 421 3) + (1 : Int32))) 421 4 ((I 421 4) + (I 420 k))) (by omega) ecx (fun a ha => ((up_row ha).trans (up_row ha)).trans (hA a ha)) (fun j q1 q2 => ((up_fld q2).trans (up_fld q1)).trans (hB j q1 q2)) ?_ ?_
      · rw [up_fld (by decide), up_same, i_add (by rw [h3, k1]; omega) (by rw [h3, k1]; omega), h3, k1]
        show _ = ((wcF (I0 417) 1 k + (if (1 : Int32).toInt ≤ (I0 417 k).toInt then 1 else 0) : Nat) : Int)
        rw [if_pos (by rw [k1]; omega)]
        omega
      · rw [up_same, h4, h420]
        rfl
set_option maxRecDepth 8000 in
set_option maxHeartbeats 4000000 in
theorem v_mgo {n : Nat} {I : Nat → Nat → Int32} {J : Nat → Nat → Int64} {K : dw_K} {R : Nat → Int32} {a1 : Int32} (hR : I 406 = R) (hG : GOK R) (hgo : R 894 ≠ 0 → GP R (cvR R) (rrS R) (dR R) ∧ NOK (rnS R) ∧ (R 895).toInt = (dR R : Nat)) (hB : ∀ i : Nat, (i : Int) < (R 803).toInt → PB R i) (hp : 0 ≤ (R 803).toInt ∧ (R 803).toInt ≤ 30)
    (h0 : (R 894 = 0 ∨ ¬ (0 ≤ a1.toInt ∧ a1.toInt ≤ 1)) → ∀ I' : Nat → Nat → Int32, (∀ a, a ≠ 404 → I' a = I a) → (∀ j, j ≠ 0 → I' 404 j = I 404 j) → I' 404 0 = 0 → K (some (.int (-2))) (n, SH1, I', J))
    (h1 : R 894 ≠ 0 → (0 ≤ a1.toInt ∧ a1.toInt ≤ 1) → ∀ (I' : Nat → Nat → Int32) (wr : Int32) (r : Nat × Nat × Int32 × gL), goF R (R 803).toInt.toNat 0 (cvR R, rrS R, dR R) = r → wr.toInt = (if r.1 = 0 then -1 else (r.2.1 : Int)) → (I' 421 0).toInt = r.1 → (I' 421 1).toInt = (r.2.2.2.2.2 : Int) - dR R → I' 421 2 = r.2.2.1 → (I' 421 3).toInt = wcF r.2.2.2.2.1.2.1 1 (Nn R) → I' 421 4 = suF r.2.2.2.1 (Nn R) → I' 404 41 = 1 → (∀ a, a ≠ 404 → a ≠ 406 → (a < 411 ∨ 421 < a) → I' a = I a) → (∀ j, j ≠ 0 → j ≠ 41 → (j < 32 ∨ 38 < j) → I' 404 j = I 404 j) → I' 404 0 = 0 → (a1.toInt = 0 → I' 406 = R) → (a1.toInt = 1 → mOn R (I' 406) r.2.2.2.1 r.2.2.2.2.1 r.2.2.2.2.2) → K (some (.int wr)) (n, SH1, I', J)) : t_X12_go [.ref 404, .int a1] (n, SH1, I, J) K := by
  have k1 : (1 : Int32).toInt = 1 := rfl
  refine q_body (Nat.le_of_ble_eq_true rfl) ?_
  refine q_ald rfl rfl ?_
  refine q_ic rfl ?_
  refine q_puti rfl sk_404 ?_
  show dw_ok (pr_X12_go K) 5 0 0 [some (.ref 404), some (.int a1), none, none] [] (n, SH1, (dw_up I 404 0 (0 : Int32)), J)
  obtain ⟨I1, hI1⟩ : ∃ X, X = (dw_up I 404 0 (0 : Int32)) := ⟨_, rfl⟩
  show dw_ok (pr_X12_go K) 5 0 0 [some (.ref 404), some (.int a1), none, none] [] (n, SH1, (dw_up I 404 0 (0 : Int32)), J)
  rw [← hI1]
  have r1 : ∀ a, a ≠ 404 → I1 a = I a := fun a ha => by rw [hI1]; exact up_row ha
  have f1 : ∀ j, j ≠ 0 → I1 404 j = I 404 j := fun j hj => by rw [hI1]; exact up_fld hj
  have s1 : I1 404 0 = 0 := by rw [hI1]; exact up_same
  have e1 : I1 406 = R := (r1 406 (by decide)).trans hR
  refine q_ald rfl rfl ?_
  refine q_getr rfl sk_404 sr_404_6 ?_
  refine q_ic rfl ?_
  refine q_xald rfl (Or.inl rfl) sk_406 sn_406 (by decide) (by decide) ?_
  refine q_if (c := 0) rfl (by decide) (fun y1 => ?_) (fun y1 => ?_)
  · have y1 : ((I1 406 894)).toInt = 0 := y1
    refine q_ic rfl ?_
    have z : I1 406 894 = R 894 := congrFun e1 894
    exact q_iret rfl (h0 (Or.inl (i_eq (by rw [← z]; exact y1))) I1 r1 f1 s1)
  · have y1 : ((I1 406 894)).toInt ≠ 0 := y1
    refine q_ild rfl rfl ?_
    refine q_ic rfl ?_
    refine q_ic rfl ?_
    refine q_callS (as := [.int a1, .int (0 : Int32), .int (1 : Int32)]) (rest := []) rfl rfl rfl rfl ?_
    refine v_isIn (fun w_ oS => ?_)
    rcases oS with ⟨rfl, oS⟩ | ⟨rfl, oS⟩
    · show dw_ok (pr_X12_go K) 22 0 0 [some (.ref 404), some (.int a1), none, none] [.int (1 : Int32)] (n, SH1, I1, J)
      refine q_if (c := 1) rfl (by decide) (fun y2 => ?_) (fun h => absurd (show (1 : Int) = 0 from h) (by decide))
      have y2 : (1 : Int) ≠ 0 := y2
      refine q_ald rfl rfl ?_
      refine q_callV (as := []) (rest := []) rfl rfl sk_404 rfl (Nat.le_of_ble_eq_true rfl) ?_
      have r894 : R 894 ≠ 0 := by
        intro q
        have z : I1 406 894 = R 894 := congrFun e1 894
        rw [z, q] at y1
        exact absurd rfl y1
      obtain ⟨gP, hS, hd⟩ := hgo r894
      have d9 := gP.2.1
      refine v_mloads e1 hG hS hd (fun I2 m1 m2 gM => ?_)
      obtain ⟨g406, g38, g35, gK, g20⟩ := id gM
      show dw_ok (pr_X12_go K) 32 0 0 [some (.ref 404), some (.int a1), none, none] [] (n, SH1, I2, J)
      refine q_ic rfl ?_
      refine q_ist rfl rfl ?_
      show dw_ok (pr_X12_go K) 34 0 0 [some (.ref 404), some (.int a1), some (.int (0 : Int32)), none] [] (n, SH1, I2, J)
      obtain ⟨ok0, ok1⟩ := oS
      have ok0 : 0 ≤ a1.toInt := ok0
      have ok1 : a1.toInt ≤ 1 := ok1
      refine mg_l0 (I0 := I2) (fun I3 y0 p1 p2 => ?_) 5 0 0 I2 rfl rfl (fun _ _ => rfl) (fun j hj => absurd hj (Nat.not_lt_zero j))
      have M3 : GM I3 R (cvR R) (rrS R) (dR R) := gm_eq (fun a ha => p1 a (by omega)) (fun j _ _ => congrFun (p1 404 (by decide)) j) gM
      show dw_ok (pr_X12_go K) 52 0 0 [some (.ref 404), some (.int a1), some (.int y0), none] [] (n, SH1, I3, J)
      refine q_ic rfl ?_
      refine q_ist rfl rfl ?_
      show dw_ok (pr_X12_go K) 54 0 0 [some (.ref 404), some (.int a1), some (.int (-1 : Int32)), none] [] (n, SH1, I3, J)
      refine q_ic rfl ?_
      refine q_ist rfl rfl ?_
      show dw_ok (pr_X12_go K) 56 0 0 [some (.ref 404), some (.int a1), some (.int (-1 : Int32)), some (.int (0 : Int32))] [] (n, SH1, I3, J)
      refine mgo_loop (I0 := I3) (L := (R 803).toInt.toNat) (d0 := dR R) hG (fun i hi => hB i (by omega)) (by omega) (by omega) d9 (R 803).toInt.toNat 0 0 I3 (cvR R) (rrS R) (dR R) (by omega) rfl (fun _ _ _ _ _ => rfl) (fun _ _ _ _ => rfl) (fun _ _ => rfl) (p2 0 (by decide)) (by rw [p2 1 (by decide), show (0 : Int32).toInt = 0 from rfl]; omega) gP M3 (fun I4 wr lx r er F4 FA4 F34 ewr t0 t1 t2 M4 P4 => ?_)
      obtain ⟨rc, rl, rt, rcv, rs, rd⟩ := r
      have M4 : GM I4 R rcv rs rd := M4
      have P4 : GP R rcv rs rd := P4
      have t2 : I4 421 2 = rt := t2.trans (by rw [p2 2 (by decide), Int32.zero_add])
      have i6 : I4 406 = R := M4.1
      show dw_ok (pr_X12_go K) 123 0 0 [some (.ref 404), some (.int a1), some (.int wr), some (.int lx)] [] (n, SH1, I4, J)
      refine q_ic rfl ?_
      refine q_ist rfl rfl ?_
      show dw_ok (pr_X12_go K) 125 0 0 [some (.ref 404), some (.int a1), some (.int wr), some (.int (0 : Int32))] [] (n, SH1, I4, J)
      refine mgs_loop (I0 := I4) (N := Nn R) (by rw [i6]; exact (gok_N hG).1) (gok_N hG).2 (fun I5 y5 v1 v2 v3 v4 => ?_) (Nn R) 0 0 I4 (by omega) rfl (fun _ _ => rfl) (fun _ _ _ => rfl) (by rw [F34 3 (by decide), p2 3 (by decide)]; rfl) (by rw [F34 4 (by decide), p2 4 (by decide)]; rfl)
      have M5 : GM I5 R rcv rs rd := gm_eq (fun a ha => v1 a (by omega)) (fun j _ _ => congrFun (v1 404 (by decide)) j) M4
      show dw_ok (pr_X12_go K) 177 0 0 [some (.ref 404), some (.int a1), some (.int wr), some (.int y5)] [] (n, SH1, I5, J)
      refine q_ald rfl rfl ?_
      refine q_ic rfl ?_
      refine q_putz rfl sk_404 (Or.inr rfl) ?_
      show dw_ok (pr_X12_go K) 182 0 0 [some (.ref 404), some (.int a1), some (.int wr), some (.int y5)] [] (n, SH1, (dw_up I5 404 41 (1 : Int32)), J)
      refine q_ild rfl rfl ?_
      refine q_ic rfl ?_
      refine q_icmp (c := 1) rfl (by decide) (fun y3 => ?_) (fun y3 => ?_)
      · have y3 : (a1).toInt ≠ (1 : Int) := y3
        refine q_ild rfl rfl ?_
        obtain ⟨I6, hI6⟩ : ∃ X, X = (dw_up I5 404 41 (1 : Int32)) := ⟨_, rfl⟩
        show dw_ok (pr_X12_go K) 192 0 0 [some (.ref 404), some (.int a1), some (.int wr), some (.int y5)] [.int wr] (n, SH1, (dw_up I5 404 41 (1 : Int32)), J)
        rw [← hI6]
        have rI6 : ∀ a, a ≠ 404 → I6 a = I5 a := fun a q0 => by rw [hI6]; exact (up_row q0)
        have fI6_0 : ∀ j, j ≠ 41 → I6 404 j = I5 404 j := fun j p0 => by rw [hI6]; exact (up_fld p0)
        have sI6_0_0 : I6 404 41 = (1 : Int32) := by rw [hI6]; exact (up_same)
        refine q_iret rfl ?_
        have w3 : wcF (I4 417) 1 (Nn R) = wcF rs.2.1 1 (Nn R) := wcF_eq _ (fun c hc => M4.2.2.2.1.2.2.1.2.1 c hc)
        have w4 : suF (I4 420) (Nn R) = suF rcv (Nn R) := suF_eq _ (fun c hc => (M4.2.2.2.2 c hc).1)
        have z421 : I6 421 = I5 421 := rI6 421 (by decide)
        have z5 : ∀ a, a ≠ 404 → a ≠ 406 → (a < 411 ∨ 421 < a) → I6 a = I a := fun a q1 q2 q3 => by
          rw [rI6 a q1, v1 a (by omega), F4 a q1 (by omega) (by omega) (by omega), p1 a (by omega), m1 a q1 (by omega) (by omega)]; exact r1 a q1
        have z4 : ∀ j, (j < 32 ∨ 38 < j) → j ≠ 41 → I6 404 j = I1 404 j := fun j q1 q2 => by
          rw [fI6_0 j q2, congrFun (v1 404 (by decide)) j, FA4 j (by omega) (by omega) (by omega), congrFun (p1 404 (by decide)) j]; exact m2 j (by omega) (by omega) (by omega) (by omega) (by omega)
        refine h1 r894 ⟨ok0, ok1⟩ I6 wr (rc, rl, rt, rcv, rs, rd) er ewr ?_ ?_ ?_ ?_ ?_ ?_ z5 (fun j q0 q1 q2 => (z4 j q2 q1).trans (f1 j q0)) ((z4 0 (by decide) (by decide)).trans s1) ?_ ?_
        · rw [z421, v2 0 (by decide) (by decide)]; exact t0
        · rw [z421, v2 1 (by decide) (by decide)]; exact t1
        · rw [z421, v2 2 (by decide) (by decide)]; exact t2
        · rw [z421, v3, w3]
        · rw [z421, v4]; exact w4
        · exact sI6_0_0
        · intro _
          rw [rI6 406 (by decide), v1 406 (by decide)]; exact i6
        · intro q
          have q2 : a1.toInt ≠ (1 : Int) := y3
          exact absurd q q2
      · have y3 : (a1).toInt = (1 : Int) := y3
        refine q_ald rfl rfl ?_
        refine q_callV (as := []) (rest := []) rfl rfl sk_404 rfl (Nat.le_of_ble_eq_true rfl) ?_
        obtain ⟨I6, hI6⟩ : ∃ X, X = (dw_up I5 404 41 (1 : Int32)) := ⟨_, rfl⟩
        rw [← hI6]
        have rI6 : ∀ a, a ≠ 404 → I6 a = I5 a := fun a q0 => by rw [hI6]; exact (up_row q0)
        have fI6_0 : ∀ j, j ≠ 41 → I6 404 j = I5 404 j := fun j p0 => by rw [hI6]; exact (up_fld p0)
        have sI6_0_0 : I6 404 41 = (1 : Int32) := by rw [hI6]; exact (up_same)
        have M6 : GM I6 R rcv rs rd := gm_eq (fun a ha => rI6 a (by omega)) (fun j _ _ => fI6_0 j (by omega)) M5
        refine v_mkeeps (N := Nn R) (by rw [M6.1]; exact (gok_N hG).1) (gok_N hG).2 (fun I7 k1 k2 k3 k4 k5 k6 => ?_)
        refine q_ild rfl rfl ?_
        have b7 : ∀ a, a ≠ 404 → a ≠ 406 → I7 a = I5 a := fun a q1 q2 => (k1 a q2).trans (rI6 a q1)
        refine q_iret rfl ?_
        have b7' : ∀ a, (a ≠ 404 ∧ a ≠ 406) → I7 a = I5 a := fun a q => b7 a q.1 q.2
        have w3 : wcF (I4 417) 1 (Nn R) = wcF rs.2.1 1 (Nn R) := wcF_eq _ (fun c hc => M4.2.2.2.1.2.2.1.2.1 c hc)
        have w4 : suF (I4 420) (Nn R) = suF rcv (Nn R) := suF_eq _ (fun c hc => (M4.2.2.2.2 c hc).1)
        have z421 : I7 421 = I5 421 := b7' 421 (by decide)
        have z5 : ∀ a, a ≠ 404 → a ≠ 406 → (a < 411 ∨ 421 < a) → I7 a = I a := fun a q1 q2 q3 => by
          rw [b7' a ⟨q1, q2⟩, v1 a (by omega), F4 a q1 (by omega) (by omega) (by omega), p1 a (by omega), m1 a q1 (by omega) (by omega)]; exact r1 a q1
        have z4 : ∀ j, (j < 32 ∨ 38 < j) → j ≠ 41 → I7 404 j = I1 404 j := fun j q1 q2 => by
          rw [k1 404 (by decide), fI6_0 j q2, congrFun (v1 404 (by decide)) j, FA4 j (by omega) (by omega) (by omega), congrFun (p1 404 (by decide)) j]; exact m2 j (by omega) (by omega) (by omega) (by omega) (by omega)
        refine h1 r894 ⟨ok0, ok1⟩ I7 wr (rc, rl, rt, rcv, rs, rd) er ewr ?_ ?_ ?_ ?_ ?_ ?_ z5 (fun j q0 q1 q2 => (z4 j q2 q1).trans (f1 j q0)) ((z4 0 (by decide) (by decide)).trans s1) ?_ ?_
        · rw [z421, v2 0 (by decide) (by decide)]; exact t0
        · rw [z421, v2 1 (by decide) (by decide)]; exact t1
        · rw [z421, v2 2 (by decide) (by decide)]; exact t2
        · rw [z421, v3, w3]
        · rw [z421, v4]; exact w4
        · rw [k1 404 (by decide)]; exact sI6_0_0
        · intro q; omega
        · intro _
          obtain ⟨t6, t38, -, ⟨-, -, ⟨s1', s2', s3', s4'⟩, -⟩, g20'⟩ := M6
          refine ⟨fun j q1 q2 q3 q4 => (k2 j q1 q2 q3 q4).trans (congrFun t6 j), by rw [k5]; exact t38, by rw [k3]; exact s3', by rw [k4]; exact s4', fun c hc => ?_⟩
          obtain ⟨c1, c2, c3⟩ := k6 c hc
          rw [c1, c2, c3]
          exact ⟨s1' c hc, s2' c hc, (g20' c hc).1⟩
    · show dw_ok (pr_X12_go K) 22 0 0 [some (.ref 404), some (.int a1), none, none] [.int (0 : Int32)] (n, SH1, I1, J)
      refine q_if (c := 1) rfl (by decide) (fun h => absurd (show (0 : Int) ≠ 0 from h) (by decide)) (fun y4 => ?_)
      have y4 : (0 : Int) = 0 := y4
      refine q_ic rfl ?_
      exact q_iret rfl (h0 (Or.inr (fun q => oS ⟨q.1, q.2⟩)) I1 r1 f1 s1)
