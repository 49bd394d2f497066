/-! ===== questions ===== -/
set_option maxRecDepth 8000 in
theorem v_cellAt2 {n : Nat} {I : Nat → Nat → Int32} {J : Nat → Nat → Int64} {K : dw_K} {R : Nat → Int32} {x y : Int32} (hG : GOK R) (h0 : I 4 0 = R 0) (h1 : I 4 1 = R 1)
    (hy : okC R x y → ∀ c : Int32, c.toInt = (cN R x y : Nat) → K (some (.int c)) (n, SH1, I, J)) (hn : ¬ okC R x y → K (some (.int (-1))) (n, SH1, I, J)) : t_X0_cellAt [.ref 4, .int x, .int y] (n, SH1, I, J) K := by
  have e0 : (I 4 0).toInt = Cn R := by rw [h0]; exact hG.1.1
  have e1 : (I 4 1).toInt = Rn R := by rw [h1]; exact hG.1.2.1
  refine q_body (Nat.le_of_ble_eq_true rfl) ?_
  refine q_ild rfl rfl ?_
  refine q_if (c := 2) rfl (by decide) (fun g => ?_) (fun g1 => ?_)
  · have g : x.toInt < 0 := g
    refine q_ic rfl ?_
    exact q_iret rfl (hn (fun q => by omega))
  have g1 : 0 ≤ x.toInt := g1
  refine q_ild rfl rfl ?_
  refine q_ald rfl rfl ?_
  refine q_geti rfl sk_4 ?_
  refine q_icmp (c := 3) rfl (by decide) (fun g => ?_) (fun g2 => ?_)
  · have g : (I 4 0).toInt ≤ x.toInt := g
    refine q_ic rfl ?_
    exact q_iret rfl (hn (fun q => by omega))
  have g2 : x.toInt < (I 4 0).toInt := g2
  refine q_ild rfl rfl ?_
  refine q_if (c := 2) rfl (by decide) (fun g => ?_) (fun g3 => ?_)
  · have g : y.toInt < 0 := g
    refine q_ic rfl ?_
    exact q_iret rfl (hn (fun q => by omega))
  have g3 : 0 ≤ y.toInt := g3
  refine q_ild rfl rfl ?_
  refine q_ald rfl rfl ?_
  refine q_geti rfl sk_4 ?_
  refine q_icmp (c := 3) rfl (by decide) (fun g => ?_) (fun g4 => ?_)
  · have g : (I 4 1).toInt ≤ y.toInt := g
    refine q_ic rfl ?_
    exact q_iret rfl (hn (fun q => by omega))
  have g4 : y.toInt < (I 4 1).toInt := g4
  have ok : okC R x y := ⟨g1, by omega, g3, by omega⟩
  refine q_ild rfl rfl ?_
  refine q_ald rfl rfl ?_
  refine q_geti rfl sk_4 ?_
  refine q_mul rfl ?_
  refine q_ild rfl rfl ?_
  refine q_add rfl ?_
  refine q_goto rfl ?_
  exact q_iret rfl (hy ok _ (by show (y * I 4 0 + x).toInt = _; rw [h0]; exact (cN_i hG ok).1))
set_option maxRecDepth 8000 in
/-- a SLOT that is there, as the class sees it -/
theorem okS_of {R : Nat → Int32} {x : Int32} {s : Nat} (hs : s < 6) (hx : x.toInt = s) (hS : NOK (nS R s)) : okS R x ∧ nX R x = nS R s := by
  have e : x.toInt.toNat = s := by omega
  refine ⟨⟨by omega, ?_⟩, by show nS R x.toInt.toNat = nS R s; rw [e]⟩
  have q := hS.1.1
  have q2 : (R (221 + 97 * s + 0)).toInt = _ := q
  rw [e]
  rw [Nat.add_zero] at q2
  omega
set_option maxRecDepth 8000 in
theorem okS_no {R : Nat → Int32} {x : Int32} (h : ∀ s : Nat, s < 6 → x.toInt = s → (nS R s 0).toInt < 0) : ¬ okS R x := by
  rintro ⟨⟨h1, h2⟩, h3⟩
  have q := h x.toInt.toNat (by omega) (by omega)
  have q2 : (R (221 + 97 * x.toInt.toNat + 0)).toInt < 0 := q
  rw [Nat.add_zero] at q2
  omega
set_option maxRecDepth 8000 in
/-- where a SLOT is there the NIGHT is in order -/
theorem nok_of {I : Nat → Nat → Int32} {R : Nat → Int32} {x : Int32} (hR : SREL I 3 R) (h : okS R x) : NOK (nX R x) := by
  obtain ⟨⟨h1, h2⟩, h3⟩ := h
  rcases rn_3 hR (s := x.toInt.toNat) (by omega) with ⟨-, e⟩ | ⟨-, e, -⟩
  · have q2 : (R (221 + 97 * x.toInt.toNat + 0)).toInt < 0 := e
    rw [Nat.add_zero] at q2
    omega
  · exact e
def aMuch (R : Nat → Int32) (s x y t : Int32) : Int := if okS R s ∧ okC R x y ∧ okT t then ((runW R (nX R s) 0 (t.toInt.toNat + 1)).2.1 (cN R x y)).toInt else -1
def aWhere (R : Nat → Int32) (s t l : Int32) : Int := if okS R s ∧ okT t ∧ 1 ≤ l.toInt ∧ l.toInt ≤ 9999 then (wcF (runW R (nX R s) 0 (t.toInt.toNat + 1)).2.1 l (Nn R) : Nat) else -1
set_option maxRecDepth 8000 in
theorem v_cmuch {n : Nat} {I : Nat → Nat → Int32} {J : Nat → Nat → Int64} {K : dw_K} {R : Nat → Int32} (hR : SREL I 3 R) {a1 a2 a3 a4 : Int32} (hk : ∀ (w : Int32) (I' : Nat → Nat → Int32), w.toInt = aMuch R a1 a2 a3 a4 → K (some (.int w)) (n, SH1, I', J)) : t_X11_much [.ref 0, .int a1, .int a2, .int a3, .int a4] (n, SH1, I, J) K := by
  have cm1 : (-1 : Int32).toInt = -1 := rfl
  refine q_body (Nat.le_of_ble_eq_true rfl) ?_
  refine q_ald rfl rfl ?_
  refine q_getr rfl sk_0 sr_0_1 ?_
  refine q_getr rfl sk_3 sr_3_1 ?_
  refine q_ild rfl rfl ?_
  refine q_ild rfl rfl ?_
  refine q_callV (as := [.int a2, .int a3]) (rest := []) rfl rfl sk_4 rfl (Nat.le_of_ble_eq_true rfl) ?_
  refine v_cellAt2 (R := R) hR.1 ((rg_3 hR).1 0 (by decide)) ((rg_3 hR).1 1 (by decide)) (fun k2 c1 ec1 => ?_) (fun k2 => ?_)
  · show dw_ok (pr_X11_much K) 12 0 0 [some (.ref 0), some (.int a1), some (.int a2), some (.int a3), some (.int a4), none] [.int c1] (n, SH1, I, J)
    refine q_ist rfl rfl ?_
    show dw_ok (pr_X11_much K) 14 0 0 [some (.ref 0), some (.int a1), some (.int a2), some (.int a3), some (.int a4), some (.int c1)] [] (n, SH1, I, J)
    refine q_ild rfl rfl ?_
    refine q_ic rfl ?_
    refine q_icmp (c := 0) rfl (by decide) (fun h => absurd (show (c1).toInt = (-1 : Int) from h) (by have := ec1; omega)) (fun y3 => ?_)
    have y3 : (c1).toInt ≠ (-1 : Int) := y3
    refine q_ald rfl rfl ?_
    refine q_ild rfl rfl ?_
    refine q_ild rfl rfl ?_
    refine q_callV (as := [.int a1, .int a4]) (rest := []) rfl rfl sk_0 rfl (Nat.le_of_ble_eq_true rfl) ?_
    refine v_behind hR (fun s k hs hxs htk hk9 hS I1 q0 q1 q2 => ?_) (fun hno I1 eI1 => ?_)
    · show dw_ok (pr_X11_much K) 27 0 0 [some (.ref 0), some (.int a1), some (.int a2), some (.int a3), some (.int a4), some (.int c1)] [.int (1 : Int32)] (n, SH1, I1, J)
      refine q_if (c := 1) rfl (by decide) (fun y4 => ?_) (fun h => absurd (show (1 : Int) = 0 from h) (by decide))
      have y4 : (1 : Int) ≠ 0 := y4
      refine q_ald rfl rfl ?_
      refine q_getr rfl sk_0 sr_0_6 ?_
      refine q_ild rfl rfl ?_
      refine q_callV (as := [.int c1]) (rest := []) rfl rfl sk_164 rfl (Nat.le_of_ble_eq_true rfl) ?_
      refine v_waterOf (A := 164) (N := Nn R) (k := cN R a2 a3) (rt_ok (by decide)) ec1 q1 (gok_N hR.1).2 (cN_lt k2) ?_
      show dw_ok (pr_X11_much K) 41 0 0 [some (.ref 0), some (.int a1), some (.int a2), some (.int a3), some (.int a4), some (.int c1)] [.int (I1 (164 + 14) (cN R a2 a3))] (n, SH1, I1, J)
      obtain ⟨oS, eS⟩ := okS_of hs hxs hS
      refine q_iret rfl (hk _ _ ?_)
      unfold aMuch
      rw [if_pos ⟨oS, k2, by omega⟩, eS, show a4.toInt.toNat = k by omega]
      exact congrArg Int32.toInt (q2.2.1 _ (cN_lt k2))
    · subst eI1
      show dw_ok (pr_X11_much K) 27 0 0 [some (.ref 0), some (.int a1), some (.int a2), some (.int a3), some (.int a4), some (.int c1)] [.int (0 : Int32)] (n, SH1, I1, J)
      refine q_if (c := 1) rfl (by decide) (fun h => absurd (show (0 : Int) ≠ 0 from h) (by decide)) (fun y5 => ?_)
      have y5 : (0 : Int) = 0 := y5
      refine q_ic rfl ?_
      refine q_iret rfl (hk _ _ ?_)
      unfold aMuch
      rw [if_neg (fun q => hno.elim (fun g => g q.2.2) (fun g => okS_no g q.1))]
      exact cm1
  · show dw_ok (pr_X11_much K) 12 0 0 [some (.ref 0), some (.int a1), some (.int a2), some (.int a3), some (.int a4), none] [.int (-1 : Int32)] (n, SH1, I, J)
    refine q_ist rfl rfl ?_
    show dw_ok (pr_X11_much K) 14 0 0 [some (.ref 0), some (.int a1), some (.int a2), some (.int a3), some (.int a4), some (.int (-1 : Int32))] [] (n, SH1, I, J)
    refine q_ild rfl rfl ?_
    refine q_ic rfl ?_
    refine q_icmp (c := 0) rfl (by decide) (fun y6 => ?_) (fun h => absurd (show (-1 : Int) ≠ (-1 : Int) from h) (by omega))
    have y6 : (-1 : Int) = (-1 : Int) := y6
    refine q_ic rfl ?_
    refine q_iret rfl (hk _ _ ?_)
    unfold aMuch
    rw [if_neg (fun q => k2 q.2.1)]
    exact cm1
set_option maxRecDepth 8000 in
theorem v_cwhere {n : Nat} {I : Nat → Nat → Int32} {J : Nat → Nat → Int64} {K : dw_K} {R : Nat → Int32} (hR : SREL I 3 R) {a1 a2 a3 : Int32} (hk : ∀ (w : Int32) (I' : Nat → Nat → Int32), w.toInt = aWhere R a1 a2 a3 → K (some (.int w)) (n, SH1, I', J)) : t_X11_where [.ref 0, .int a1, .int a2, .int a3] (n, SH1, I, J) K := by
  have cm1 : (-1 : Int32).toInt = -1 := rfl
  refine q_body (Nat.le_of_ble_eq_true rfl) ?_
  refine q_ild rfl rfl ?_
  refine q_ic rfl ?_
  refine q_icmp (c := 2) rfl (by decide) (fun y1 => ?_) (fun y1 => ?_)
  · have y1 : (a3).toInt < (1 : Int) := y1
    refine q_ic rfl ?_
    refine q_iret rfl (hk _ _ ?_)
    unfold aWhere
    rw [if_neg (fun q => by omega)]
    exact cm1
  · have y1 : (1 : Int) ≤ (a3).toInt := y1
    refine q_ild rfl rfl ?_
    refine q_ic rfl ?_
    refine q_icmp (c := 4) rfl (by decide) (fun y2 => ?_) (fun y2 => ?_)
    · have y2 : (9999 : Int) < (a3).toInt := y2
      refine q_ic rfl ?_
      refine q_iret rfl (hk _ _ ?_)
      unfold aWhere
      rw [if_neg (fun q => by omega)]
      exact cm1
    · have y2 : (a3).toInt ≤ (9999 : Int) := y2
      refine q_ald rfl rfl ?_
      refine q_ild rfl rfl ?_
      refine q_ild rfl rfl ?_
      refine q_callV (as := [.int a1, .int a2]) (rest := []) rfl rfl sk_0 rfl (Nat.le_of_ble_eq_true rfl) ?_
      refine v_behind hR (fun s k hs hxs htk hk9 hS I1 q0 q1 q2 => ?_) (fun hno I1 eI1 => ?_)
      · show dw_ok (pr_X11_where K) 18 0 0 [some (.ref 0), some (.int a1), some (.int a2), some (.int a3)] [.int (1 : Int32)] (n, SH1, I1, J)
        refine q_if (c := 1) rfl (by decide) (fun y3 => ?_) (fun h => absurd (show (1 : Int) = 0 from h) (by decide))
        have y3 : (1 : Int) ≠ 0 := y3
        refine q_ald rfl rfl ?_
        refine q_getr rfl sk_0 sr_0_6 ?_
        refine q_ild rfl rfl ?_
        refine q_callV (as := [.int a3]) (rest := []) rfl rfl sk_164 rfl (Nat.le_of_ble_eq_true rfl) ?_
        refine v_wetCells (A := 164) (N := Nn R) (rt_ok (by decide)) q1 (gok_N hR.1).2 (fun w hw => ?_)
        show dw_ok (pr_X11_where K) 31 0 0 [some (.ref 0), some (.int a1), some (.int a2), some (.int a3)] [.int w] (n, SH1, I1, J)
        obtain ⟨oS, eS⟩ := okS_of hs hxs hS
        refine q_iret rfl (hk _ _ ?_)
        unfold aWhere
        rw [if_pos ⟨oS, by omega, by omega⟩, eS, show a2.toInt.toNat = k by omega, hw]
        exact congrArg Nat.cast (wc_eq (Nn R) (fun c hc => q2.2.1 c hc))
      · subst eI1
        show dw_ok (pr_X11_where K) 18 0 0 [some (.ref 0), some (.int a1), some (.int a2), some (.int a3)] [.int (0 : Int32)] (n, SH1, I1, J)
        refine q_if (c := 1) rfl (by decide) (fun h => absurd (show (0 : Int) ≠ 0 from h) (by decide)) (fun y4 => ?_)
        have y4 : (0 : Int) = 0 := y4
        refine q_ic rfl ?_
        refine q_iret rfl (hk _ _ ?_)
        unfold aWhere
        rw [if_neg (fun q => hno.elim (fun g => g q.2.1) (fun g => okS_no g q.1))]
        exact cm1
set_option maxRecDepth 8000 in
theorem mth_loop {n : Nat} {J : Nat → Nat → Int64} {K : dw_K} {R : Nat → Int32} {N st m : Nat} {C : Nat → Nat → rC} {T : Nat → rN} {s0 : rS} {x wh tl : Int32} (hP : PUR N C T s0 0) (htl : tl.toInt + 1 = m) (hm : m ≤ 144)
    (hk : ∀ I' : Nat → Nat → Int32, I' 406 = R → MSK I' N st C T s0 0 m → K none (n, SH1, I', J)) :
    ∀ (f k : Nat) (t : Int32) (I : Nat → Nat → Int32), k + f = m → t.toInt = k → I 406 = R → MSK I N st C T s0 0 k → dw_ok (pr_X12_through K) 9 0 0 [some (.ref 404), some (.int x), some (.int wh), some (.int tl), some (.int t)] [] (n, SH1, I, J) := by
  have k1 : (1 : Int32).toInt = 1 := rfl
  intro f
  induction f with
  | zero =>
    intro k t I hf ht hR hM
    refine q_ild rfl rfl ?_
    refine q_ild rfl rfl ?_
    refine q_icmp (c := 4) rfl (by decide) (fun _ => ?_) (fun h => absurd (show t.toInt ≤ tl.toInt from h) (by omega))
    obtain rfl : k = m := by omega
    exact q_vret rfl (hk I hR hM)
  | succ f ih =>
    intro k t I hf ht hR hM
    refine q_ild rfl rfl ?_
    refine q_ild rfl rfl ?_
    refine q_icmp (c := 4) rfl (by decide) (fun h => absurd (show tl.toInt < t.toInt from h) (by omega)) (fun _ => ?_)
    refine q_ald rfl rfl ?_
    refine q_ild rfl rfl ?_
    refine q_callV (as := [.int t]) (rest := []) rfl rfl sk_404 rfl (Nat.le_of_ble_eq_true rfl) ?_
    refine v_mstepR hP hM (by omega) (by omega) (fun I' g1 _ g3 => ?_)
    show dw_ok (pr_X12_through K) 21 0 0 [some (.ref 404), some (.int x), some (.int wh), some (.int tl), some (.int t)] [] (n, SH1, I', J)
    refine q_inc rfl rfl rfl ?_
    refine q_goto rfl ?_
    exact ih (k + 1) (t + 1) I' (by omega) (by rw [i_add (by omega) (by omega), k1, ht]; omega) ((g1 406 (by decide) (by decide) (by decide)).trans hR) g3
set_option maxRecDepth 8000 in
theorem v_through {n : Nat} {I : Nat → Nat → Int32} {J : Nat → Nat → Int64} {K : dw_K} {x wh tl : Int32} {R : Nat → Int32} {st : Nat} (hR : I 406 = R) (hG : GOK R) (hx : okS R x) (hS : NOK (nX R x)) (hst : wh.toInt = st) (ht : okT tl)
    (hk : ∀ I' : Nat → Nat → Int32, I' 406 = R → rEq (Nn R) (srM I') (runW R (nX R x) st (tl.toInt.toNat + 1)) → K none (n, SH1, I', J)) : t_X12_through [.ref 404, .int x, .int wh, .int tl] (n, SH1, I, J) K := by
  obtain ⟨t0, t9⟩ := id ht
  refine q_body (Nat.le_of_ble_eq_true rfl) ?_
  refine q_ald rfl rfl ?_
  refine q_ild rfl rfl ?_
  refine q_ild rfl rfl ?_
  refine q_callV (as := [.int x, .int wh]) (rest := []) rfl rfl sk_404 rfl (Nat.le_of_ble_eq_true rfl) ?_
  refine v_mstartR hR hG hx hS hst (fun I1 g0 _ _ hM _ => ?_)
  show dw_ok (pr_X12_through K) 6 0 0 [some (.ref 404), some (.int x), some (.int wh), some (.int tl), none] [] (n, SH1, I1, J)
  refine q_ic rfl ?_
  refine q_ist rfl rfl ?_
  exact mth_loop (m := tl.toInt.toNat + 1) (pur_0 hG hS) (by omega) (by omega) (fun I' h1 h2 => hk I' h1 h2.2.2.1) (tl.toInt.toNat + 1) 0 0 I1 (by omega) rfl ((g0 406 (by decide) (by decide)).trans hR) hM
set_option maxRecDepth 8000 in
set_option maxHeartbeats 4000000 in
theorem v_mmuch {n : Nat} {I : Nat → Nat → Int32} {J : Nat → Nat → Int64} {K : dw_K} {R : Nat → Int32} (hR : I 406 = R) (hG : GOK R) {a1 a2 a3 a4 : Int32} (hN : okS R a1 → NOK (nX R a1)) (hk : ∀ (w : Int32) (I' : Nat → Nat → Int32), w.toInt = aMuch R a1 a2 a3 a4 → K (some (.int w)) (n, SH1, I', J)) : t_X12_much [.ref 404, .int a1, .int a2, .int a3, .int a4] (n, SH1, I, J) K := by
  have cm1 : (-1 : Int32).toInt = -1 := rfl
  refine q_body (Nat.le_of_ble_eq_true rfl) ?_
  refine q_ald rfl rfl ?_
  refine q_ic rfl ?_
  refine q_puti rfl sk_404 ?_
  show dw_ok (pr_X12_much K) 5 0 0 [some (.ref 404), some (.int a1), some (.int a2), some (.int a3), some (.int a4)] [] (n, SH1, (dw_up I 404 0 (0 : Int32)), J)
  refine q_ald rfl rfl ?_
  refine q_ild rfl rfl ?_
  refine q_callV (as := [.int a1]) (rest := []) rfl rfl sk_404 rfl (Nat.le_of_ble_eq_true rfl) ?_
  obtain ⟨I1, hI1⟩ : ∃ X, X = (dw_up I 404 0 (0 : Int32)) := ⟨_, rfl⟩
  rw [← hI1]
  have eI1 : I1 406 = R := by rw [hI1]; exact ((up_row (by decide)).trans (hR))
  refine v_isNight (fun w_ oS => ?_)
  rcases oS with ⟨rfl, oS⟩ | ⟨rfl, oS⟩
  · show dw_ok (pr_X12_much K) 10 0 0 [some (.ref 404), some (.int a1), some (.int a2), some (.int a3), some (.int a4)] [.int (1 : Int32)] (n, SH1, I1, J)
    refine q_if (c := 0) rfl (by decide) (fun h => absurd (show (1 : Int) = 0 from h) (by decide)) (fun y2 => ?_)
    have y2 : (1 : Int) ≠ 0 := y2
    refine q_ald rfl rfl ?_
    refine q_ild rfl rfl ?_
    refine q_ild rfl rfl ?_
    refine q_callV (as := [.int a2, .int a3]) (rest := []) rfl rfl sk_404 rfl (Nat.le_of_ble_eq_true rfl) ?_
    refine v_misCell (C := Cn R) (R := Rn R) (by rw [eI1]; exact hG.1.1) (by rw [eI1]; exact hG.1.2.1) (fun w_ oC => ?_)
    rcases oC with ⟨rfl, oC⟩ | ⟨rfl, oC⟩
    · show dw_ok (pr_X12_much K) 19 0 0 [some (.ref 404), some (.int a1), some (.int a2), some (.int a3), some (.int a4)] [.int (1 : Int32)] (n, SH1, I1, J)
      refine q_if (c := 0) rfl (by decide) (fun h => absurd (show (1 : Int) = 0 from h) (by decide)) (fun y3 => ?_)
      have y3 : (1 : Int) ≠ 0 := y3
      refine q_ild rfl rfl ?_
      refine q_callS (as := [.int a4]) (rest := []) rfl rfl rfl rfl ?_
      refine v_mIsStep (fun w_ oT => ?_)
      rcases oT with ⟨rfl, oT⟩ | ⟨rfl, oT⟩
      · show dw_ok (pr_X12_much K) 27 0 0 [some (.ref 404), some (.int a1), some (.int a2), some (.int a3), some (.int a4)] [.int (1 : Int32)] (n, SH1, I1, J)
        refine q_if (c := 1) rfl (by decide) (fun y4 => ?_) (fun h => absurd (show (1 : Int) = 0 from h) (by decide))
        have y4 : (1 : Int) ≠ 0 := y4
        refine q_ald rfl rfl ?_
        refine q_ild rfl rfl ?_
        refine q_ic rfl ?_
        refine q_ild rfl rfl ?_
        refine q_callV (as := [.int a1, .int (0 : Int32), .int a4]) (rest := []) rfl rfl sk_404 rfl (Nat.le_of_ble_eq_true rfl) ?_
        rw [eI1] at oS
        refine v_through (st := 0) eI1 hG oS (hN oS) rfl (by omega) (fun I9 e9 q9 => ?_)
        show dw_ok (pr_X12_much K) 40 0 0 [some (.ref 404), some (.int a1), some (.int a2), some (.int a3), some (.int a4)] [] (n, SH1, I9, J)
        refine q_ald rfl rfl ?_
        refine q_getr rfl sk_404 sr_404_29 ?_
        refine q_ald rfl rfl ?_
        refine q_ild rfl rfl ?_
        refine q_ild rfl rfl ?_
        refine q_callV (as := [.int a2, .int a3]) (rest := [.ref 417]) rfl rfl sk_404 rfl (Nat.le_of_ble_eq_true rfl) ?_
        refine v_numberOf ?_
        show dw_ok (pr_X12_much K) 50 0 0 [some (.ref 404), some (.int a1), some (.int a2), some (.int a3), some (.int a4)] [.int (I9 406 0 * a3 + a2), .ref 417] (n, SH1, I9, J)
        rw [e9]
        have en : (R 0 * a3 + a2).toInt.toNat = cN R a2 a3 := by rw [(cN_i hG oC).2]; rfl
        have el := cN_lt oC
        have el9 := (gok_N hG).2
        have ei : (R 0 * a3 + a2).toInt = (cN R a2 a3 : Nat) := (cN_i hG oC).2
        show dw_ok (pr_X12_much K) 50 0 0 [some (.ref 404), some (.int a1), some (.int a2), some (.int a3), some (.int a4)] [.int (R 0 * a3 + a2), .ref 417] (n, SH1, I9, J)
        show dw_ok (pr_X12_much K) 50 0 0 [some (.ref 404), some (.int a1), some (.int a2), some (.int a3), some (.int a4)] [.int (R 0 * a3 + a2), .ref 417] (n, SH1, I9, J)
        refine q_xald rfl (Or.inl rfl) sk_417 sn_417 (by rw [ei]; omega) (by rw [ei]; omega) ?_
        show dw_ok (pr_X12_much K) 51 0 0 [some (.ref 404), some (.int a1), some (.int a2), some (.int a3), some (.int a4)] [.int (I9 417 ((R 0 * a3 + a2)).toInt.toNat)] (n, SH1, I9, J)
        rw [en]
        refine q_iret rfl (hk _ _ ?_)
        unfold aMuch
        rw [if_pos ⟨oS, oC, by omega⟩]
        exact congrArg Int32.toInt (q9.2.1 _ el)
      · show dw_ok (pr_X12_much K) 27 0 0 [some (.ref 404), some (.int a1), some (.int a2), some (.int a3), some (.int a4)] [.int (0 : Int32)] (n, SH1, I1, J)
        refine q_if (c := 1) rfl (by decide) (fun h => absurd (show (0 : Int) ≠ 0 from h) (by decide)) (fun y5 => ?_)
        have y5 : (0 : Int) = 0 := y5
        refine q_ic rfl ?_
        refine q_iret rfl (hk _ _ ?_)
        unfold aMuch
        rw [if_neg (fun q => oT ⟨q.2.2.1, by have := q.2.2.2; omega⟩)]
        exact cm1
    · show dw_ok (pr_X12_much K) 19 0 0 [some (.ref 404), some (.int a1), some (.int a2), some (.int a3), some (.int a4)] [.int (0 : Int32)] (n, SH1, I1, J)
      refine q_if (c := 0) rfl (by decide) (fun y6 => ?_) (fun h => absurd (show (0 : Int) ≠ 0 from h) (by decide))
      have y6 : (0 : Int) = 0 := y6
      refine q_ic rfl ?_
      refine q_iret rfl (hk _ _ ?_)
      unfold aMuch
      rw [if_neg (fun q => oC q.2.1)]
      exact cm1
  · show dw_ok (pr_X12_much K) 10 0 0 [some (.ref 404), some (.int a1), some (.int a2), some (.int a3), some (.int a4)] [.int (0 : Int32)] (n, SH1, I1, J)
    refine q_if (c := 0) rfl (by decide) (fun y7 => ?_) (fun h => absurd (show (0 : Int) ≠ 0 from h) (by decide))
    have y7 : (0 : Int) = 0 := y7
    refine q_ic rfl ?_
    refine q_iret rfl (hk _ _ ?_)
    unfold aMuch
    rw [if_neg (by rw [eI1] at oS; exact fun q => oS q.1)]
    exact cm1
set_option maxRecDepth 8000 in
theorem mwh_loop {n : Nat} {I : Nat → Nat → Int32} {J : Nat → Nat → Int64} {K : dw_K} {a1 a2 l : Int32} {R : Nat → Int32} (e1 : I 406 = R) (hG : GOK R)
    (hk : ∀ v : Int32, v.toInt = wcF (I 417) l (Nn R) → K (some (.int v)) (n, SH1, I, J)) :
    ∀ (f k : Nat) (v c : Int32), k + f = Nn R → c.toInt = k → v.toInt = wcF (I 417) l k → dw_ok (pr_X12_where K) 46 0 0 [some (.ref 404), some (.int a1), some (.int a2), some (.int l), some (.int v), some (.int c)] [] (n, SH1, I, J) := by
  obtain ⟨hN, hN9⟩ := gok_N hG
  have k1 : (1 : Int32).toInt = 1 := rfl
  have k0 : (0 : Int32).toInt = 0 := rfl
  intro f
  induction f with
  | zero =>
    intro k v c hf hc hv
    have hcn : c.toInt.toNat = k := by omega
    refine q_ild rfl rfl ?_
    refine q_ald rfl rfl ?_
    refine q_callV (as := []) (rest := [.int c]) rfl rfl sk_404 rfl (Nat.le_of_ble_eq_true rfl) ?_
    refine v_mcells ?_
    show dw_ok (pr_X12_where K) 52 0 0 [some (.ref 404), some (.int a1), some (.int a2), some (.int l), some (.int v), some (.int c)] [.int (I 406 0 * I 406 1), .int c] (n, SH1, I, J)
    rw [show I 406 = R from e1]
    obtain ⟨nv, hnv⟩ : ∃ z, z = R 0 * R 1 := ⟨_, rfl⟩
    rw [← hnv]
    have env : nv.toInt = Nn R := by rw [hnv]; exact hN
    show dw_ok (pr_X12_where K) 52 0 0 [some (.ref 404), some (.int a1), some (.int a2), some (.int l), some (.int v), some (.int c)] [.int nv, .int c] (n, SH1, I, J)
    refine q_icmp (c := 3) rfl (by decide) (fun y1 => ?_) (fun h => absurd (show (c).toInt < (nv).toInt from h) (by omega))
    have y1 : (nv).toInt ≤ (c).toInt := y1
    refine q_ild rfl rfl ?_
    have kN : k = Nn R := by omega
    rw [kN] at hv
    exact q_iret rfl (hk v hv)
  | succ f ih =>
    intro k v c hf hc hv
    have hcn : c.toInt.toNat = k := by omega
    have wl := wc_le (W := I 417) (l := l) k
    refine q_ild rfl rfl ?_
    refine q_ald rfl rfl ?_
    refine q_callV (as := []) (rest := [.int c]) rfl rfl sk_404 rfl (Nat.le_of_ble_eq_true rfl) ?_
    refine v_mcells ?_
    show dw_ok (pr_X12_where K) 52 0 0 [some (.ref 404), some (.int a1), some (.int a2), some (.int l), some (.int v), some (.int c)] [.int (I 406 0 * I 406 1), .int c] (n, SH1, I, J)
    rw [show I 406 = R from e1]
    obtain ⟨nv, hnv⟩ : ∃ z, z = R 0 * R 1 := ⟨_, rfl⟩
    rw [← hnv]
    have env : nv.toInt = Nn R := by rw [hnv]; exact hN
    show dw_ok (pr_X12_where K) 52 0 0 [some (.ref 404), some (.int a1), some (.int a2), some (.int l), some (.int v), some (.int c)] [.int nv, .int c] (n, SH1, I, J)
    refine q_icmp (c := 3) rfl (by decide) (fun h => absurd (show (nv).toInt ≤ (c).toInt from h) (by omega)) (fun y2 => ?_)
    have y2 : (c).toInt < (nv).toInt := y2
    refine q_ild rfl rfl ?_
    refine q_ald rfl rfl ?_
    refine q_getr rfl sk_404 sr_404_29 ?_
    refine q_ild rfl rfl ?_
    refine q_xald rfl (Or.inl rfl) sk_417 sn_417 (by omega) (by omega) ?_
    show dw_ok (pr_X12_where K) 64 0 0 [some (.ref 404), some (.int a1), some (.int a2), some (.int l), some (.int v), some (.int c)] [.int (I 417 (c).toInt.toNat), .int v] (n, SH1, I, J)
    rw [hcn]
    refine q_ild rfl rfl ?_
    refine q_icmp (c := 2) rfl (by decide) (fun y3 => ?_) (fun y3 => ?_)
    · have y3 : ((I 417 k)).toInt < (l).toInt := y3
      refine q_ic rfl ?_
      refine q_add rfl ?_
      refine q_ist rfl rfl ?_
      show dw_ok (pr_X12_where K) 76 0 0 [some (.ref 404), some (.int a1), some (.int a2), some (.int l), some (.int (v + (0 : Int32))), some (.int c)] [] (n, SH1, I, J)
      refine q_inc rfl rfl rfl ?_
      show dw_ok (pr_X12_where K) 79 0 0 [some (.ref 404), some (.int a1), some (.int a2), some (.int l), some (.int (v + (0 : Int32))), some (.int (c + 1))] [] (n, SH1, I, J)
      show dw_ok (pr_X12_where K) 79 0 0 [some (.ref 404), some (.int a1), some (.int a2), some (.int l), some (.int (v + (0 : Int32))), some (.int (c + 1))] [] (n, SH1, I, J)
      obtain ⟨cx, hcx⟩ : ∃ z, z = (c + 1) := ⟨_, rfl⟩
      rw [← hcx]
      have ecx : cx.toInt = ((k + 1 : Nat) : Int) := by rw [hcx]; exact ix_1 hc (by omega)
      refine q_goto rfl ?_
      refine ih (k + 1) (v + (0 : Int32)) cx (by omega) ecx ?_
      rw [i_add (by rw [hv, k0]; omega) (by rw [hv, k0]; omega), hv, k0]
      show _ = ((wcF (I 417) l k + (if l.toInt ≤ (I 417 k).toInt then 1 else 0) : Nat) : Int)
      rw [if_neg (by omega)]
      omega
    · have y3 : (l).toInt ≤ ((I 417 k)).toInt := y3
      refine q_ic rfl ?_
      refine q_goto rfl ?_
      refine q_add rfl ?_
      refine q_ist rfl rfl ?_
      show dw_ok (pr_X12_where K) 76 0 0 [some (.ref 404), some (.int a1), some (.int a2), some (.int l), some (.int (v + (1 : Int32))), some (.int c)] [] (n, SH1, I, J)
      refine q_inc rfl rfl rfl ?_
      show dw_ok (pr_X12_where K) 79 0 0 [some (.ref 404), some (.int a1), some (.int a2), some (.int l), some (.int (v + (1 : Int32))), some (.int (c + 1))] [] (n, SH1, I, J)
      show dw_ok (pr_X12_where K) 79 0 0 [some (.ref 404), some (.int a1), some (.int a2), some (.int l), some (.int (v + (1 : Int32))), some (.int (c + 1))] [] (n, SH1, I, J)
      obtain ⟨cx, hcx⟩ : ∃ z, z = (c + 1) := ⟨_, rfl⟩
      rw [← hcx]
      have ecx : cx.toInt = ((k + 1 : Nat) : Int) := by rw [hcx]; exact ix_1 hc (by omega)
      refine q_goto rfl ?_
      refine ih (k + 1) (v + (1 : Int32)) cx (by omega) ecx ?_
      rw [i_add (by rw [hv, k1]; omega) (by rw [hv, k1]; omega), hv, k1]
      show _ = ((wcF (I 417) l k + (if l.toInt ≤ (I 417 k).toInt then 1 else 0) : Nat) : Int)
      rw [if_pos (by omega)]
      omega
set_option maxRecDepth 8000 in
theorem wcF_eq2 {f g : Nat → Int32} {l : Int32} : ∀ N : Nat, (∀ c, c < N → f c = g c) → wcF f l N = wcF g l N
  | 0, _ => rfl
  | N + 1, h => by
    show wcF f l N + (if l.toInt ≤ (f N).toInt then 1 else 0) = wcF g l N + (if l.toInt ≤ (g N).toInt then 1 else 0)
    rw [wcF_eq2 N (fun c hc => h c (by omega)), h N (by omega)]
set_option maxRecDepth 8000 in
set_option maxHeartbeats 4000000 in
theorem v_mwhere {n : Nat} {I : Nat → Nat → Int32} {J : Nat → Nat → Int64} {K : dw_K} {R : Nat → Int32} (hR : I 406 = R) (hG : GOK R) {a1 a2 a3 : Int32} (hN : okS R a1 → NOK (nX R a1)) (hk : ∀ (w : Int32) (I' : Nat → Nat → Int32), w.toInt = aWhere R a1 a2 a3 → K (some (.int w)) (n, SH1, I', J)) : t_X12_where [.ref 404, .int a1, .int a2, .int a3] (n, SH1, I, J) K := by
  have cm1 : (-1 : Int32).toInt = -1 := rfl
  refine q_body (Nat.le_of_ble_eq_true rfl) ?_
  refine q_ald rfl rfl ?_
  refine q_ic rfl ?_
  refine q_puti rfl sk_404 ?_
  show dw_ok (pr_X12_where K) 5 0 0 [some (.ref 404), some (.int a1), some (.int a2), some (.int a3), none, none] [] (n, SH1, (dw_up I 404 0 (0 : Int32)), J)
  refine q_ald rfl rfl ?_
  refine q_ild rfl rfl ?_
  refine q_callV (as := [.int a1]) (rest := []) rfl rfl sk_404 rfl (Nat.le_of_ble_eq_true rfl) ?_
  obtain ⟨I1, hI1⟩ : ∃ X, X = (dw_up I 404 0 (0 : Int32)) := ⟨_, rfl⟩
  rw [← hI1]
  have eI1 : I1 406 = R := by rw [hI1]; exact ((up_row (by decide)).trans (hR))
  refine v_isNight (fun w_ oS => ?_)
  rcases oS with ⟨rfl, oS⟩ | ⟨rfl, oS⟩
  · show dw_ok (pr_X12_where K) 10 0 0 [some (.ref 404), some (.int a1), some (.int a2), some (.int a3), none, none] [.int (1 : Int32)] (n, SH1, I1, J)
    refine q_if (c := 0) rfl (by decide) (fun h => absurd (show (1 : Int) = 0 from h) (by decide)) (fun y2 => ?_)
    have y2 : (1 : Int) ≠ 0 := y2
    refine q_ild rfl rfl ?_
    refine q_callS (as := [.int a2]) (rest := []) rfl rfl rfl rfl ?_
    refine v_mIsStep (fun w_ oT => ?_)
    rcases oT with ⟨rfl, oT⟩ | ⟨rfl, oT⟩
    · show dw_ok (pr_X12_where K) 17 0 0 [some (.ref 404), some (.int a1), some (.int a2), some (.int a3), none, none] [.int (1 : Int32)] (n, SH1, I1, J)
      refine q_if (c := 0) rfl (by decide) (fun h => absurd (show (1 : Int) = 0 from h) (by decide)) (fun y3 => ?_)
      have y3 : (1 : Int) ≠ 0 := y3
      refine q_ild rfl rfl ?_
      refine q_ic rfl ?_
      refine q_ic rfl ?_
      refine q_callS (as := [.int a3, .int (1 : Int32), .int (9999 : Int32)]) (rest := []) rfl rfl rfl rfl ?_
      refine v_isIn (fun w_ oI => ?_)
      rcases oI with ⟨rfl, oI⟩ | ⟨rfl, oI⟩
      · show dw_ok (pr_X12_where K) 28 0 0 [some (.ref 404), some (.int a1), some (.int a2), some (.int a3), none, none] [.int (1 : Int32)] (n, SH1, I1, J)
        refine q_if (c := 1) rfl (by decide) (fun y4 => ?_) (fun h => absurd (show (1 : Int) = 0 from h) (by decide))
        have y4 : (1 : Int) ≠ 0 := y4
        refine q_ald rfl rfl ?_
        refine q_ild rfl rfl ?_
        refine q_ic rfl ?_
        refine q_ild rfl rfl ?_
        refine q_callV (as := [.int a1, .int (0 : Int32), .int a2]) (rest := []) rfl rfl sk_404 rfl (Nat.le_of_ble_eq_true rfl) ?_
        rw [eI1] at oS
        refine v_through (st := 0) eI1 hG oS (hN oS) rfl (by omega) (fun I9 e9 q9 => ?_)
        show dw_ok (pr_X12_where K) 40 0 0 [some (.ref 404), some (.int a1), some (.int a2), some (.int a3), none, none] [] (n, SH1, I9, J)
        refine q_ic rfl ?_
        refine q_ist rfl rfl ?_
        show dw_ok (pr_X12_where K) 43 0 0 [some (.ref 404), some (.int a1), some (.int a2), some (.int a3), some (.int (0 : Int32)), none] [] (n, SH1, I9, J)
        refine q_ic rfl ?_
        refine q_ist rfl rfl ?_
        show dw_ok (pr_X12_where K) 46 0 0 [some (.ref 404), some (.int a1), some (.int a2), some (.int a3), some (.int (0 : Int32)), some (.int (0 : Int32))] [] (n, SH1, I9, J)
        refine mwh_loop e9 hG (fun v hv => ?_) (Nn R) 0 0 0 (by omega) rfl rfl
        refine hk _ _ ?_
        unfold aWhere
        have ew : wcF (I9 417) a3 (Nn R) = wcF (runW R (nX R a1) 0 (a2.toInt.toNat + 1)).2.1 a3 (Nn R) := wcF_eq2 _ q9.2.1
        rw [if_pos ⟨oS, by omega, oI⟩, hv, ew]
      · show dw_ok (pr_X12_where K) 28 0 0 [some (.ref 404), some (.int a1), some (.int a2), some (.int a3), none, none] [.int (0 : Int32)] (n, SH1, I1, J)
        refine q_if (c := 1) rfl (by decide) (fun h => absurd (show (0 : Int) ≠ 0 from h) (by decide)) (fun y5 => ?_)
        have y5 : (0 : Int) = 0 := y5
        refine q_ic rfl ?_
        refine q_iret rfl (hk _ _ ?_)
        unfold aWhere
        rw [if_neg (fun q => oI q.2.2)]
        exact cm1
    · show dw_ok (pr_X12_where K) 17 0 0 [some (.ref 404), some (.int a1), some (.int a2), some (.int a3), none, none] [.int (0 : Int32)] (n, SH1, I1, J)
      refine q_if (c := 0) rfl (by decide) (fun y6 => ?_) (fun h => absurd (show (0 : Int) ≠ 0 from h) (by decide))
      have y6 : (0 : Int) = 0 := y6
      refine q_ic rfl ?_
      refine q_iret rfl (hk _ _ ?_)
      unfold aWhere
      rw [if_neg (fun q => oT ⟨q.2.1.1, by have := q.2.1.2; omega⟩)]
      exact cm1
  · show dw_ok (pr_X12_where K) 10 0 0 [some (.ref 404), some (.int a1), some (.int a2), some (.int a3), none, none] [.int (0 : Int32)] (n, SH1, I1, J)
    refine q_if (c := 0) rfl (by decide) (fun y7 => ?_) (fun h => absurd (show (0 : Int) ≠ 0 from h) (by decide))
    have y7 : (0 : Int) = 0 := y7
    refine q_ic rfl ?_
    refine q_iret rfl (hk _ _ ?_)
    unfold aWhere
    rw [if_neg (by rw [eI1] at oS; exact fun q => oS q.1)]
    exact cm1
