/-! ===== cell, is ===== -/
abbrev okCe (R : Nat → Int32) (x y w : Int32) : Prop := okC R x y ∧ 0 ≤ w.toInt ∧ w.toInt ≤ 4
def aCe (R : Nat → Int32) (c : Nat) (w : Int) : Int :=
  if w = 0 then (R (29 + c)).toInt else if w = 1 then skM R (Cn R) (Hn R) c else if w = 2 then (R (5 + kdR R c)).toInt else if w = 3 then (R (13 + kdR R c)).toInt else (R (21 + kdR R c)).toInt
set_option maxRecDepth 8000 in
theorem ce_k {R : Nat → Int32} {c : Nat} {w : Int} : (w = 0 → aCe R c w = (R (29 + c)).toInt) ∧ (w = 1 → aCe R c w = skM R (Cn R) (Hn R) c) ∧ (w = 2 → aCe R c w = (R (5 + kdR R c)).toInt) ∧ (w = 3 → aCe R c w = (R (13 + kdR R c)).toInt) ∧ (w < 0 ∨ 3 < w → aCe R c w = (R (21 + kdR R c)).toInt) := by
  unfold aCe
  refine ⟨fun h => ?_, fun h => ?_, fun h => ?_, fun h => ?_, fun h => ?_⟩
  · rw [if_pos h]
  · rw [if_neg (by omega), if_pos h]
  · rw [if_neg (by omega), if_neg (by omega), if_pos h]
  · rw [if_neg (by omega), if_neg (by omega), if_neg (by omega), if_pos h]
  · rw [if_neg (by omega), if_neg (by omega), if_neg (by omega), if_neg (by omega)]
abbrev okIs (R : Nat → Int32) (x y w : Int32) : Prop := okC R x y ∧ R 894 ≠ 0 ∧ 0 ≤ w.toInt ∧ w.toInt ≤ 1
def aIs (R : Nat → Int32) (c : Nat) (w : Int) : Int32 := if w = 0 then R (995 + c) else R (1139 + c)
set_option maxRecDepth 8000 in
theorem v_gtell {n : Nat} {I : Nat → Nat → Int32} {J : Nat → Nat → Int64} {K : dw_K} {R : Nat → Int32} {c w : Int32} {k : Nat} (hG : GOK R) (hg : RG I 4 R) (hc : c.toInt = k) (hl : k < Nn R) (hk : ∀ v : Int32, v.toInt = aCe R k w.toInt → K (some (.int v)) (n, SH1, I, J)) : t_X0_tell [.ref 4, .int c, .int w] (n, SH1, I, J) K := by
  have hN9 := (gok_N hG).2
  have hcn : c.toInt.toNat = k := by omega
  obtain ⟨g1, g2, g3⟩ := gok_k hG hl
  obtain ⟨e8, e9⟩ := hg.2.2 k hl
  have e8 : I 8 k = R (29 + k) := e8
  have e9 : (I 9 k).toInt = skM R (Cn R) (Hn R) k := e9
  obtain ⟨q1, q2, q3⟩ := hg.2.1 (kdR R k) g3
  have q1 : I 5 (kdR R k) = R (5 + kdR R k) := q1
  have q2 : I 6 (kdR R k) = R (13 + kdR R k) := q2
  have q3 : I 7 (kdR R k) = R (21 + kdR R k) := q3
  have hq : (I 8 k).toInt = (kdR R k : Nat) := by rw [e8]; show (R (29 + k)).toInt = (((R (29 + k)).toInt.toNat : Nat) : Int); omega
  have hq8 : kdR R k < 8 := by show (R (29 + k)).toInt.toNat < 8; omega
  have ce := ce_k (R := R) (c := k) (w := w.toInt)
  refine q_body (Nat.le_of_ble_eq_true rfl) ?_
  refine q_ild rfl rfl ?_
  refine q_if (c := 2) rfl (by decide) (fun h => absurd (show (c).toInt < 0 from h) (by omega)) (fun y1 => ?_)
  have y1 : 0 ≤ (c).toInt := y1
  refine q_ild rfl rfl ?_
  refine q_ic rfl ?_
  refine q_icmp (c := 2) rfl (by decide) (fun y2 => ?_) (fun h => absurd (show (144 : Int) ≤ (c).toInt from h) (by omega))
  have y2 : (c).toInt < (144 : Int) := y2
  refine q_ild rfl rfl ?_
  refine q_tab rfl (fun h3 => ?_) (fun h3 => ?_)
  · show dw_ok (pr_X0_tell K) 88 0 0 [some (.ref 4), some (.int c), some (.int w)] [] (n, SH1, I, J)
    refine q_ald rfl rfl ?_
    refine q_ald rfl rfl ?_
    refine q_getr rfl sk_4 sr_4_7 ?_
    refine q_ald rfl rfl ?_
    refine q_getr rfl sk_4 sr_4_8 ?_
    refine q_ild rfl rfl ?_
    refine q_xald rfl (Or.inl rfl) sk_8 sn_8 (by omega) (by omega) ?_
    show dw_ok (pr_X0_tell K) 99 0 0 [some (.ref 4), some (.int c), some (.int w)] [.int (I 8 (c).toInt.toNat), .ref 7, .ref 4] (n, SH1, I, J)
    rw [hcn]
    refine q_callV (as := [.ref 7, .int (I 8 k)]) (rest := []) rfl rfl sk_4 rfl (Nat.le_of_ble_eq_true rfl) ?_
    refine v_ofKind (q := kdR R k) sk_7 sn_7 hq hq8 ?_
    show dw_ok (pr_X0_tell K) 102 0 0 [some (.ref 4), some (.int c), some (.int w)] [.int (I 7 (kdR R k))] (n, SH1, I, J)
    exact q_iret rfl (hk (I 7 (kdR R k)) (by rw [ce.2.2.2.2 (by omega), q3]))
  · have h5 : w.toInt = 0 ∨ w.toInt = 1 ∨ w.toInt = 2 ∨ w.toInt = 3 := by omega
    rcases h5 with h5 | h5 | h5 | h5
    · refine ⟨44, by rw [h5]; rfl, ?_⟩
      show dw_ok (pr_X0_tell K) 44 0 0 [some (.ref 4), some (.int c), some (.int w)] [] (n, SH1, I, J)
      refine q_ald rfl rfl ?_
      refine q_getr rfl sk_4 sr_4_8 ?_
      refine q_ild rfl rfl ?_
      refine q_xald rfl (Or.inl rfl) sk_8 sn_8 (by omega) (by omega) ?_
      show dw_ok (pr_X0_tell K) 50 0 0 [some (.ref 4), some (.int c), some (.int w)] [.int (I 8 (c).toInt.toNat)] (n, SH1, I, J)
      rw [hcn]
      exact q_iret rfl (hk (I 8 k) (by rw [ce.1 h5, e8]))
    · refine ⟨51, by rw [h5]; rfl, ?_⟩
      show dw_ok (pr_X0_tell K) 51 0 0 [some (.ref 4), some (.int c), some (.int w)] [] (n, SH1, I, J)
      refine q_ald rfl rfl ?_
      refine q_getr rfl sk_4 sr_4_9 ?_
      refine q_ild rfl rfl ?_
      refine q_xald rfl (Or.inl rfl) sk_9 sn_9 (by omega) (by omega) ?_
      show dw_ok (pr_X0_tell K) 57 0 0 [some (.ref 4), some (.int c), some (.int w)] [.int (I 9 (c).toInt.toNat)] (n, SH1, I, J)
      rw [hcn]
      exact q_iret rfl (hk (I 9 k) (e9.trans (ce.2.1 h5).symm))
    · refine ⟨58, by rw [h5]; rfl, ?_⟩
      show dw_ok (pr_X0_tell K) 58 0 0 [some (.ref 4), some (.int c), some (.int w)] [] (n, SH1, I, J)
      refine q_ald rfl rfl ?_
      refine q_ald rfl rfl ?_
      refine q_getr rfl sk_4 sr_4_5 ?_
      refine q_ald rfl rfl ?_
      refine q_getr rfl sk_4 sr_4_8 ?_
      refine q_ild rfl rfl ?_
      refine q_xald rfl (Or.inl rfl) sk_8 sn_8 (by omega) (by omega) ?_
      show dw_ok (pr_X0_tell K) 69 0 0 [some (.ref 4), some (.int c), some (.int w)] [.int (I 8 (c).toInt.toNat), .ref 5, .ref 4] (n, SH1, I, J)
      rw [hcn]
      refine q_callV (as := [.ref 5, .int (I 8 k)]) (rest := []) rfl rfl sk_4 rfl (Nat.le_of_ble_eq_true rfl) ?_
      refine v_ofKind (q := kdR R k) sk_5 sn_5 hq hq8 ?_
      show dw_ok (pr_X0_tell K) 72 0 0 [some (.ref 4), some (.int c), some (.int w)] [.int (I 5 (kdR R k))] (n, SH1, I, J)
      exact q_iret rfl (hk (I 5 (kdR R k)) (by rw [ce.2.2.1 h5, q1]))
    · refine ⟨73, by rw [h5]; rfl, ?_⟩
      show dw_ok (pr_X0_tell K) 73 0 0 [some (.ref 4), some (.int c), some (.int w)] [] (n, SH1, I, J)
      refine q_ald rfl rfl ?_
      refine q_ald rfl rfl ?_
      refine q_getr rfl sk_4 sr_4_6 ?_
      refine q_ald rfl rfl ?_
      refine q_getr rfl sk_4 sr_4_8 ?_
      refine q_ild rfl rfl ?_
      refine q_xald rfl (Or.inl rfl) sk_8 sn_8 (by omega) (by omega) ?_
      show dw_ok (pr_X0_tell K) 84 0 0 [some (.ref 4), some (.int c), some (.int w)] [.int (I 8 (c).toInt.toNat), .ref 6, .ref 4] (n, SH1, I, J)
      rw [hcn]
      refine q_callV (as := [.ref 6, .int (I 8 k)]) (rest := []) rfl rfl sk_4 rfl (Nat.le_of_ble_eq_true rfl) ?_
      refine v_ofKind (q := kdR R k) sk_6 sn_6 hq hq8 ?_
      show dw_ok (pr_X0_tell K) 87 0 0 [some (.ref 4), some (.int c), some (.int w)] [.int (I 6 (kdR R k))] (n, SH1, I, J)
      exact q_iret rfl (hk (I 6 (kdR R k)) (by rw [ce.2.2.2.1 h5, q2]))
set_option maxRecDepth 8000 in
theorem v_ccell {n : Nat} {I : Nat → Nat → Int32} {J : Nat → Nat → Int64} {K : dw_K} {Kx : dw_S → Prop} {R : Nat → Int32} {a1 a2 a3 : Int32} (hR : SREL I 3 R)
    (hk : okCe R a1 a2 a3 → ∀ v : Int32, v.toInt = aCe R (cN R a1 a2) a3.toInt → K (some (.int v)) (n, SH1, I, J)) (hx : ¬ okCe R a1 a2 a3 → ∀ n', Kx (n', SH1, I, J)) : t_X11_cell [.ref 0, .int a1, .int a2, .int a3] (n, SH1, I, J) K Kx := by
  have k4 : (4 : Int32).toInt = 4 := rfl
  show dw_body 5 1 6 (fun K => pr_X11_cell n K Kx) [.ref 0, .int a1, .int a2, .int a3] (n, SH1, I, J) K
  refine q_body (show 4 ≤ 5 by decide) ?_
  refine q_ald rfl rfl ?_
  refine q_getr rfl sk_0 sr_0_1 ?_
  refine q_getr rfl sk_3 sr_3_1 ?_
  refine q_ild rfl rfl ?_
  refine q_ild rfl rfl ?_
  refine q_callV (as := [.int a1, .int a2]) (rest := []) rfl rfl sk_4 rfl (Nat.le_of_ble_eq_true rfl) ?_
  refine v_cellAt2 (R := R) hR.1 ((rg_3 hR).1 0 (by decide)) ((rg_3 hR).1 1 (by decide)) (fun oC c ec => ?_) (fun nC => ?_)
  · refine q_ist rfl rfl ?_
    refine q_ild rfl rfl ?_
    refine q_ic rfl ?_
    refine q_icmp (c := 0) rfl (by decide) (fun h => absurd (show c.toInt = (-1 : Int32).toInt from h) (by rw [show (-1 : Int32).toInt = -1 from rfl]; omega)) (fun _ => ?_)
    refine q_ild rfl rfl ?_
    refine q_if (c := 2) rfl (by decide) (fun g => ?_) (fun g => ?_)
    · have g : a3.toInt < 0 := g
      exact q_thr rfl (Nat.le_refl _) (by decide) (by decide) (by decide) (fun n' _ => hx (fun q => by have := q.2.1; omega) n')
    have g : 0 ≤ a3.toInt := g
    refine q_ild rfl rfl ?_
    refine q_ic rfl ?_
    refine q_icmp (c := 5) rfl (by decide) (fun g2 => ?_) (fun g2 => ?_)
    rotate_left
    · have g2 : (4 : Int32).toInt < a3.toInt := g2
      exact q_thr rfl (Nat.le_refl _) (by decide) (by decide) (by decide) (fun n' _ => hx (fun q => by have := q.2.2; omega) n')
    have g2 : a3.toInt ≤ (4 : Int32).toInt := g2
    refine q_ald rfl rfl ?_
    refine q_getr rfl sk_0 sr_0_1 ?_
    refine q_getr rfl sk_3 sr_3_1 ?_
    refine q_ild rfl rfl ?_
    refine q_ild rfl rfl ?_
    refine q_callV (as := [.int c, .int a3]) (rest := []) rfl rfl sk_4 rfl (Nat.le_of_ble_eq_true rfl) ?_
    refine v_gtell (R := R) (k := cN R a1 a2) hR.1 (rg_3 hR) ec (cN_lt oC) (fun v hv => ?_)
    exact q_iret rfl (hk ⟨oC, g, by omega⟩ v hv)
  · refine q_ist rfl rfl ?_
    refine q_ild rfl rfl ?_
    refine q_ic rfl ?_
    refine q_icmp (c := 0) rfl (by decide) (fun _ => ?_) (fun h => absurd rfl h)
    exact q_thr rfl (Nat.le_refl _) (by decide) (by decide) (by decide) (fun n' _ => hx (fun q => nC q.1) n')
set_option maxRecDepth 8000 in
theorem v_cis {n : Nat} {I : Nat → Nat → Int32} {J : Nat → Nat → Int64} {K : dw_K} {Kx : dw_S → Prop} {R : Nat → Int32} {a1 a2 a3 : Int32} (hR : SREL I 3 R)
    (hk : okIs R a1 a2 a3 → K (some (.int (aIs R (cN R a1 a2) a3.toInt))) (n, SH1, I, J)) (hx : ¬ okIs R a1 a2 a3 → ∀ n', Kx (n', SH1, I, J)) : t_X11_is [.ref 0, .int a1, .int a2, .int a3] (n, SH1, I, J) K Kx := by
  have k1 : (1 : Int32).toInt = 1 := rfl
  obtain ⟨hG, -, -, -, hr⟩ := id hR
  have hr : RR I 43 R := hr
  have hN9 := (gok_N hG).2
  show dw_body 5 1 6 (fun K => pr_X11_is n K Kx) [.ref 0, .int a1, .int a2, .int a3] (n, SH1, I, J) K
  refine q_body (show 4 ≤ 5 by decide) ?_
  refine q_ald rfl rfl ?_
  refine q_getr rfl sk_0 sr_0_1 ?_
  refine q_getr rfl sk_3 sr_3_1 ?_
  refine q_ild rfl rfl ?_
  refine q_ild rfl rfl ?_
  refine q_callV (as := [.int a1, .int a2]) (rest := []) rfl rfl sk_4 rfl (Nat.le_of_ble_eq_true rfl) ?_
  refine v_cellAt2 (R := R) hR.1 ((rg_3 hR).1 0 (by decide)) ((rg_3 hR).1 1 (by decide)) (fun oC c ec => ?_) (fun nC => ?_)
  · refine q_ist rfl rfl ?_
    refine q_ild rfl rfl ?_
    refine q_ic rfl ?_
    refine q_icmp (c := 0) rfl (by decide) (fun h => absurd (show c.toInt = (-1 : Int32).toInt from h) (by rw [show (-1 : Int32).toInt = -1 from rfl]; omega)) (fun _ => ?_)
    refine q_ald rfl rfl ?_
    refine q_getr rfl sk_0 sr_0_1 ?_
    refine q_getr rfl sk_3 sr_3_4 ?_
    refine q_getz rfl sk_43 ?_
    rcases hr with ⟨e0, r8⟩ | ⟨e0, r8, hn, -, -, -, -, -, -, -, -, hc, -⟩
    · refine q_if (c := 0) rfl (by decide) (fun _ => ?_) (fun g => absurd (show (I 43 0).toInt = 0 by rw [e0]; rfl) g)
      exact q_thr rfl (Nat.le_refl _) (by decide) (by decide) (by decide) (fun n' _ => hx (fun q => q.2.1 r8) n')
    have r9 : R 894 ≠ 0 := by rw [r8]; decide
    refine q_if (c := 0) rfl (by decide) (fun g => absurd (show (I 43 0).toInt = 0 from g) (by rw [e0]; decide)) (fun _ => ?_)
    refine q_ild rfl rfl ?_
    refine q_if (c := 2) rfl (by decide) (fun g => ?_) (fun g => ?_)
    · have g : a3.toInt < 0 := g
      exact q_thr rfl (Nat.le_refl _) (by decide) (by decide) (by decide) (fun n' _ => hx (fun q => by have := q.2.2.1; omega) n')
    have g : 0 ≤ a3.toInt := g
    refine q_ild rfl rfl ?_
    refine q_ic rfl ?_
    refine q_icmp (c := 5) rfl (by decide) (fun g2 => ?_) (fun g2 => ?_)
    rotate_left
    · have g2 : (1 : Int32).toInt < a3.toInt := g2
      exact q_thr rfl (Nat.le_refl _) (by decide) (by decide) (by decide) (fun n' _ => hx (fun q => by have := q.2.2.2; omega) n')
    have g2 : a3.toInt ≤ (1 : Int32).toInt := g2
    have hk2 := hk ⟨oC, r9, g, by omega⟩
    have hcl := cN_lt oC
    obtain ⟨-, -, -, -, -, -, w13, w14⟩ := hc (cN R a1 a2) hcl
    refine q_ild rfl rfl ?_
    refine q_if (c := 1) rfl (by decide) (fun g3 => ?_) (fun g3 => ?_)
    · have g3 : a3.toInt ≠ 0 := g3
      refine q_ald rfl rfl ?_
      refine q_getr rfl sk_0 sr_0_1 ?_
      refine q_getr rfl sk_3 sr_3_4 ?_
      refine q_ild rfl rfl ?_
      refine q_callV (as := [.int c]) (rest := []) rfl rfl sk_43 rfl (Nat.le_of_ble_eq_true rfl) ?_
      refine v_waterOf (A := 43) (N := Nn R) (k := cN R a1 a2) (rt_ok (by decide)) ec hn hN9 hcl ?_
      refine q_iret rfl ?_
      rw [w14]
      rw [show aIs R (cN R a1 a2) a3.toInt = R (1139 + cN R a1 a2) from if_neg g3] at hk2
      exact hk2
    · have g3 : a3.toInt = 0 := g3
      refine q_ald rfl rfl ?_
      refine q_getr rfl sk_0 sr_0_1 ?_
      refine q_getr rfl sk_3 sr_3_4 ?_
      refine q_ild rfl rfl ?_
      refine q_callV (as := [.int c]) (rest := []) rfl rfl sk_43 rfl (Nat.le_of_ble_eq_true rfl) ?_
      refine v_warmthOf (A := 43) (N := Nn R) (k := cN R a1 a2) (rt_ok (by decide)) ec hn hN9 hcl ?_
      refine q_goto rfl ?_
      refine q_iret rfl ?_
      rw [w13]
      rw [show aIs R (cN R a1 a2) a3.toInt = R (995 + cN R a1 a2) from if_pos g3] at hk2
      exact hk2
  · refine q_ist rfl rfl ?_
    refine q_ild rfl rfl ?_
    refine q_ic rfl ?_
    refine q_icmp (c := 0) rfl (by decide) (fun _ => ?_) (fun h => absurd rfl h)
    exact q_thr rfl (Nat.le_refl _) (by decide) (by decide) (by decide) (fun n' _ => hx (fun q => nC q.1) n')
set_option maxRecDepth 8000 in
theorem v_throwsIf {n : Nat} {I : Nat → Nat → Int32} {J : Nat → Nat → Int64} {K : dw_K} {w : Int32} (hw : w = 0 ∨ w = 1) (hk : K (some (.int w)) (n, SH1, dw_up I 404 0 w, J)) : t_X12_throwsIf [.ref 404, .int w] (n, SH1, I, J) K := by
  refine q_body (Nat.le_of_ble_eq_true rfl) ?_
  refine q_ald rfl rfl ?_
  refine q_ild rfl rfl ?_
  rcases hw with rfl | rfl
  · refine q_if (c := 0) rfl (by decide) (fun _ => ?_) (fun h => absurd rfl h)
    refine q_ic rfl ?_
    refine q_puti rfl sk_404 ?_
    refine q_ild rfl rfl ?_
    exact q_zret rfl (Or.inl rfl) hk
  · refine q_if (c := 0) rfl (by decide) (fun h => absurd (show (1 : Int32).toInt = 0 from h) (by decide)) (fun _ => ?_)
    refine q_ic rfl ?_
    refine q_goto rfl ?_
    refine q_puti rfl sk_404 ?_
    refine q_ild rfl rfl ?_
    exact q_zret rfl (Or.inr rfl) hk
set_option maxRecDepth 8000 in
set_option maxHeartbeats 4000000 in
theorem v_mcell {n : Nat} {I : Nat → Nat → Int32} {J : Nat → Nat → Int64} {K : dw_K} {R : Nat → Int32} (hR : I 406 = R) (hG : GOK R) {a1 a2 a3 : Int32} (hk : ∀ (w : Int32) (I' : Nat → Nat → Int32), (okCe R a1 a2 a3 ∧ I' 404 0 = 0 ∧ w.toInt = aCe R (cN R a1 a2) a3.toInt) ∨ (¬ okCe R a1 a2 a3 ∧ I' 404 0 = 1) → K (some (.int w)) (n, SH1, I', J)) : t_X12_cell [.ref 404, .int a1, .int a2, .int a3] (n, SH1, I, J) K := by
  have ce := ce_k (R := R) (c := cN R a1 a2) (w := a3.toInt)
  refine q_body (Nat.le_of_ble_eq_true rfl) ?_
  refine q_ald rfl rfl ?_
  refine q_ald rfl rfl ?_
  refine q_ild rfl rfl ?_
  refine q_ild rfl rfl ?_
  refine q_callV (as := [.int a1, .int a2]) (rest := [.ref 404]) rfl rfl sk_404 rfl (Nat.le_of_ble_eq_true rfl) ?_
  refine v_misCell (C := Cn R) (R := Rn R) (by rw [hR]; exact hG.1.1) (by rw [hR]; exact hG.1.2.1) (fun w_ oC => ?_)
  rcases oC with ⟨rfl, oC⟩ | ⟨rfl, oC⟩
  · show dw_ok (pr_X12_cell K) 7 0 0 [some (.ref 404), some (.int a1), some (.int a2), some (.int a3), none, none] [.int (1 : Int32), .ref 404] (n, SH1, I, J)
    refine q_if (c := 0) rfl (by decide) (fun h => absurd (show (1 : Int) = 0 from h) (by decide)) (fun y1 => ?_)
    have y1 : (1 : Int) ≠ 0 := y1
    refine q_ild rfl rfl ?_
    refine q_ic rfl ?_
    refine q_ic rfl ?_
    refine q_callS (as := [.int a3, .int (0 : Int32), .int (4 : Int32)]) (rest := [.ref 404]) rfl rfl rfl rfl ?_
    refine v_isIn (fun w_ oI => ?_)
    rcases oI with ⟨rfl, oI⟩ | ⟨rfl, oI⟩
    · have oI : (0 ≤ a3.toInt ∧ a3.toInt ≤ 4) := oI
      show dw_ok (pr_X12_cell K) 16 0 0 [some (.ref 404), some (.int a1), some (.int a2), some (.int a3), none, none] [.int (1 : Int32), .ref 404] (n, SH1, I, J)
      refine q_if (c := 1) rfl (by decide) (fun y2 => ?_) (fun h => absurd (show (1 : Int) = 0 from h) (by decide))
      have y2 : (1 : Int) ≠ 0 := y2
      refine q_ic rfl ?_
      refine q_callV (as := [.int (0 : Int32)]) (rest := []) rfl rfl sk_404 rfl (Nat.le_of_ble_eq_true rfl) ?_
      refine v_throwsIf (Or.inl rfl) ?_
      show dw_ok (pr_X12_cell K) 27 0 0 [some (.ref 404), some (.int a1), some (.int a2), some (.int a3), none, none] [.int (0 : Int32)] (n, SH1, (dw_up I 404 0 (0 : Int32)), J)
      refine q_if (c := 0) rfl (by decide) (fun y3 => ?_) (fun h => absurd (show (0 : Int) ≠ 0 from h) (by decide))
      have y3 : (0 : Int) = 0 := y3
      refine q_ald rfl rfl ?_
      refine q_ild rfl rfl ?_
      refine q_ild rfl rfl ?_
      refine q_callV (as := [.int a1, .int a2]) (rest := []) rfl rfl sk_404 rfl (Nat.le_of_ble_eq_true rfl) ?_
      obtain ⟨I7, hI7⟩ : ∃ X, X = (dw_up I 404 0 (0 : Int32)) := ⟨_, rfl⟩
      rw [← hI7]
      have e7 : I7 406 = R := by rw [hI7]; exact (up_row (by decide)).trans hR
      have t7 : I7 404 0 = 0 := by rw [hI7]; exact up_same
      refine v_numberOf ?_
      show dw_ok (pr_X12_cell K) 38 0 0 [some (.ref 404), some (.int a1), some (.int a2), some (.int a3), none, none] [.int (I7 406 0 * a2 + a1)] (n, SH1, I7, J)
      rw [e7]
      have en : (R 0 * a2 + a1).toInt.toNat = cN R a1 a2 := by rw [(cN_i hG oC).2]; rfl
      have el := cN_lt oC
      have el9 := (gok_N hG).2
      have ei : (R 0 * a2 + a1).toInt = (cN R a1 a2 : Nat) := (cN_i hG oC).2
      have kdi : (R (29 + cN R a1 a2)).toInt = (kdR R (cN R a1 a2) : Nat) := by
        obtain ⟨g1, -, -⟩ := gok_k hG el
        show (R (29 + cN R a1 a2)).toInt = (((R (29 + cN R a1 a2)).toInt.toNat : Nat) : Int)
        omega
      have kd8 : kdR R (cN R a1 a2) < 8 := by
        obtain ⟨g1, g2, -⟩ := gok_k hG el
        show (R (29 + cN R a1 a2)).toInt.toNat < 8
        omega
      show dw_ok (pr_X12_cell K) 38 0 0 [some (.ref 404), some (.int a1), some (.int a2), some (.int a3), none, none] [.int (R 0 * a2 + a1)] (n, SH1, I7, J)
      refine q_ist rfl rfl ?_
      show dw_ok (pr_X12_cell K) 40 0 0 [some (.ref 404), some (.int a1), some (.int a2), some (.int a3), some (.int (R 0 * a2 + a1)), none] [] (n, SH1, I7, J)
      show dw_ok (pr_X12_cell K) 40 0 0 [some (.ref 404), some (.int a1), some (.int a2), some (.int a3), some (.int (R 0 * a2 + a1)), none] [] (n, SH1, I7, J)
      obtain ⟨c4, hc4⟩ : ∃ z, z = (R 0 * a2 + a1) := ⟨_, rfl⟩
      rw [← hc4]
      have ec4 : c4.toInt = ((cN R a1 a2 : Nat) : Int) := by rw [hc4]; exact ei
      refine q_ald rfl rfl ?_
      refine q_getr rfl sk_404 sr_404_6 ?_
      refine q_ic rfl ?_
      refine q_ild rfl rfl ?_
      refine q_add rfl ?_
      show dw_ok (pr_X12_cell K) 49 0 0 [some (.ref 404), some (.int a1), some (.int a2), some (.int a3), some (.int c4), none] [.int ((29 : Int32) + c4), .ref 406] (n, SH1, I7, J)
      obtain ⟨z29, hz29⟩ : ∃ z, z = ((29 : Int32) + c4) := ⟨_, rfl⟩
      rw [← hz29]
      have ez29 : z29.toInt = ((29 + cN R a1 a2 : Nat) : Int) := by rw [hz29]; exact ix_a (x := 29) (a := 29) rfl ec4 (by omega)
      refine q_xald rfl (Or.inl rfl) sk_406 sn_406 (by omega) (by omega) ?_
      show dw_ok (pr_X12_cell K) 50 0 0 [some (.ref 404), some (.int a1), some (.int a2), some (.int a3), some (.int c4), none] [.int (I7 406 (z29).toInt.toNat)] (n, SH1, I7, J)
      rw [(nat_of ez29)]
      refine q_ist rfl rfl ?_
      show dw_ok (pr_X12_cell K) 52 0 0 [some (.ref 404), some (.int a1), some (.int a2), some (.int a3), some (.int c4), some (.int (I7 406 (29 + cN R a1 a2)))] [] (n, SH1, I7, J)
      show dw_ok (pr_X12_cell K) 52 0 0 [some (.ref 404), some (.int a1), some (.int a2), some (.int a3), some (.int c4), some (.int (I7 406 (29 + cN R a1 a2)))] [] (n, SH1, I7, J)
      obtain ⟨kd, hkd⟩ : ∃ z, z = (I7 406 (29 + cN R a1 a2)) := ⟨_, rfl⟩
      rw [← hkd]
      have ekd : kd.toInt = ((kdR R (cN R a1 a2) : Nat) : Int) := by rw [hkd]; exact (by rw [e7]; exact kdi)
      refine q_ild rfl rfl ?_
      refine q_if (c := 1) rfl (by decide) (fun y4 => ?_) (fun y4 => ?_)
      · have y4 : (a3).toInt ≠ 0 := y4
        refine q_ild rfl rfl ?_
        refine q_ic rfl ?_
        refine q_icmp (c := 1) rfl (by decide) (fun y5 => ?_) (fun y5 => ?_)
        · have y5 : (a3).toInt ≠ (1 : Int) := y5
          refine q_ild rfl rfl ?_
          refine q_ic rfl ?_
          refine q_icmp (c := 1) rfl (by decide) (fun y6 => ?_) (fun y6 => ?_)
          · have y6 : (a3).toInt ≠ (2 : Int) := y6
            refine q_ild rfl rfl ?_
            refine q_ic rfl ?_
            refine q_icmp (c := 1) rfl (by decide) (fun y7 => ?_) (fun y7 => ?_)
            · have y7 : (a3).toInt ≠ (3 : Int) := y7
              refine q_ald rfl rfl ?_
              refine q_getr rfl sk_404 sr_404_6 ?_
              refine q_ic rfl ?_
              refine q_ild rfl rfl ?_
              refine q_add rfl ?_
              show dw_ok (pr_X12_cell K) 119 0 0 [some (.ref 404), some (.int a1), some (.int a2), some (.int a3), some (.int c4), some (.int kd)] [.int ((21 : Int32) + kd), .ref 406] (n, SH1, I7, J)
              obtain ⟨z21, hz21⟩ : ∃ z, z = ((21 : Int32) + kd) := ⟨_, rfl⟩
              rw [← hz21]
              have ez21 : z21.toInt = ((21 + kdR R (cN R a1 a2) : Nat) : Int) := by rw [hz21]; exact ix_a (x := 21) (a := 21) rfl ekd (by omega)
              refine q_xald rfl (Or.inl rfl) sk_406 sn_406 (by omega) (by omega) ?_
              show dw_ok (pr_X12_cell K) 120 0 0 [some (.ref 404), some (.int a1), some (.int a2), some (.int a3), some (.int c4), some (.int kd)] [.int (I7 406 (z21).toInt.toNat)] (n, SH1, I7, J)
              rw [(nat_of ez21)]
              exact q_iret rfl (hk (I7 406 (21 + kdR R (cN R a1 a2))) I7 (Or.inl ⟨⟨oC, oI⟩, t7, by rw [ce.2.2.2.2 (by omega), e7]⟩))
            · have y7 : (a3).toInt = (3 : Int) := y7
              refine q_ald rfl rfl ?_
              refine q_getr rfl sk_404 sr_404_6 ?_
              refine q_ic rfl ?_
              refine q_ild rfl rfl ?_
              refine q_add rfl ?_
              show dw_ok (pr_X12_cell K) 106 0 0 [some (.ref 404), some (.int a1), some (.int a2), some (.int a3), some (.int c4), some (.int kd)] [.int ((13 : Int32) + kd), .ref 406] (n, SH1, I7, J)
              obtain ⟨z13, hz13⟩ : ∃ z, z = ((13 : Int32) + kd) := ⟨_, rfl⟩
              rw [← hz13]
              have ez13 : z13.toInt = ((13 + kdR R (cN R a1 a2) : Nat) : Int) := by rw [hz13]; exact ix_a (x := 13) (a := 13) rfl ekd (by omega)
              refine q_xald rfl (Or.inl rfl) sk_406 sn_406 (by omega) (by omega) ?_
              show dw_ok (pr_X12_cell K) 107 0 0 [some (.ref 404), some (.int a1), some (.int a2), some (.int a3), some (.int c4), some (.int kd)] [.int (I7 406 (z13).toInt.toNat)] (n, SH1, I7, J)
              rw [(nat_of ez13)]
              refine q_goto rfl ?_
              exact q_iret rfl (hk (I7 406 (13 + kdR R (cN R a1 a2))) I7 (Or.inl ⟨⟨oC, oI⟩, t7, by rw [ce.2.2.2.1 (by omega), e7]⟩))
          · have y6 : (a3).toInt = (2 : Int) := y6
            refine q_ald rfl rfl ?_
            refine q_getr rfl sk_404 sr_404_6 ?_
            refine q_ic rfl ?_
            refine q_ild rfl rfl ?_
            refine q_add rfl ?_
            show dw_ok (pr_X12_cell K) 88 0 0 [some (.ref 404), some (.int a1), some (.int a2), some (.int a3), some (.int c4), some (.int kd)] [.int ((5 : Int32) + kd), .ref 406] (n, SH1, I7, J)
            obtain ⟨z5, hz5⟩ : ∃ z, z = ((5 : Int32) + kd) := ⟨_, rfl⟩
            rw [← hz5]
            have ez5 : z5.toInt = ((5 + kdR R (cN R a1 a2) : Nat) : Int) := by rw [hz5]; exact ix_a (x := 5) (a := 5) rfl ekd (by omega)
            refine q_xald rfl (Or.inl rfl) sk_406 sn_406 (by omega) (by omega) ?_
            show dw_ok (pr_X12_cell K) 89 0 0 [some (.ref 404), some (.int a1), some (.int a2), some (.int a3), some (.int c4), some (.int kd)] [.int (I7 406 (z5).toInt.toNat)] (n, SH1, I7, J)
            rw [(nat_of ez5)]
            refine q_goto rfl ?_
            exact q_iret rfl (hk (I7 406 (5 + kdR R (cN R a1 a2))) I7 (Or.inl ⟨⟨oC, oI⟩, t7, by rw [ce.2.2.1 (by omega), e7]⟩))
        · have y5 : (a3).toInt = (1 : Int) := y5
          refine q_ald rfl rfl ?_
          refine q_ild rfl rfl ?_
          refine q_callV (as := [.int c4]) (rest := []) rfl rfl sk_404 rfl (Nat.le_of_ble_eq_true rfl) ?_
          refine v_skyOf (k := cN R a1 a2) (C := Cn R) (H := Hn R) ec4 (by omega) (by rw [e7]; exact hG.1.1) (by omega) (by rw [e7]; exact hG.1.2.2.1) hG.1.2.2.2.2.2.1 (by rw [e7]; exact hG.1.2.2.2.2.2.2) (fun v hv => ?_)
          rw [e7] at hv
          show dw_ok (pr_X12_cell K) 72 0 0 [some (.ref 404), some (.int a1), some (.int a2), some (.int a3), some (.int c4), some (.int kd)] [.int v] (n, SH1, I7, J)
          refine q_goto rfl ?_
          exact q_iret rfl (hk v I7 (Or.inl ⟨⟨oC, oI⟩, t7, by rw [ce.2.1 (by omega)]; exact hv⟩))
      · have y4 : (a3).toInt = 0 := y4
        refine q_ild rfl rfl ?_
        refine q_goto rfl ?_
        exact q_iret rfl (hk kd I7 (Or.inl ⟨⟨oC, oI⟩, t7, by rw [ce.1 (by omega), hkd, e7]⟩))
    · have oI : ¬ (0 ≤ a3.toInt ∧ a3.toInt ≤ 4) := oI
      show dw_ok (pr_X12_cell K) 16 0 0 [some (.ref 404), some (.int a1), some (.int a2), some (.int a3), none, none] [.int (0 : Int32), .ref 404] (n, SH1, I, J)
      refine q_if (c := 1) rfl (by decide) (fun h => absurd (show (0 : Int) ≠ 0 from h) (by decide)) (fun y8 => ?_)
      have y8 : (0 : Int) = 0 := y8
      refine q_ic rfl ?_
      refine q_goto rfl ?_
      refine q_callV (as := [.int (1 : Int32)]) (rest := []) rfl rfl sk_404 rfl (Nat.le_of_ble_eq_true rfl) ?_
      refine v_throwsIf (Or.inr rfl) ?_
      show dw_ok (pr_X12_cell K) 27 0 0 [some (.ref 404), some (.int a1), some (.int a2), some (.int a3), none, none] [.int (1 : Int32)] (n, SH1, (dw_up I 404 0 (1 : Int32)), J)
      refine q_if (c := 0) rfl (by decide) (fun h => absurd (show (1 : Int) = 0 from h) (by decide)) (fun y9 => ?_)
      have y9 : (1 : Int) ≠ 0 := y9
      refine q_ic rfl ?_
      exact q_iret rfl (hk _ _ (Or.inr ⟨fun q => oI q.2, up_same⟩))
  · show dw_ok (pr_X12_cell K) 7 0 0 [some (.ref 404), some (.int a1), some (.int a2), some (.int a3), none, none] [.int (0 : Int32), .ref 404] (n, SH1, I, J)
    refine q_if (c := 0) rfl (by decide) (fun y10 => ?_) (fun h => absurd (show (0 : Int) ≠ 0 from h) (by decide))
    have y10 : (0 : Int) = 0 := y10
    refine q_ic rfl ?_
    refine q_goto rfl ?_
    refine q_callV (as := [.int (1 : Int32)]) (rest := []) rfl rfl sk_404 rfl (Nat.le_of_ble_eq_true rfl) ?_
    refine v_throwsIf (Or.inr rfl) ?_
    show dw_ok (pr_X12_cell K) 27 0 0 [some (.ref 404), some (.int a1), some (.int a2), some (.int a3), none, none] [.int (1 : Int32)] (n, SH1, (dw_up I 404 0 (1 : Int32)), J)
    refine q_if (c := 0) rfl (by decide) (fun h => absurd (show (1 : Int) = 0 from h) (by decide)) (fun y11 => ?_)
    have y11 : (1 : Int) ≠ 0 := y11
    refine q_ic rfl ?_
    exact q_iret rfl (hk _ _ (Or.inr ⟨fun q => oC q.1, up_same⟩))
set_option maxRecDepth 8000 in
set_option maxHeartbeats 4000000 in
theorem v_mis {n : Nat} {I : Nat → Nat → Int32} {J : Nat → Nat → Int64} {K : dw_K} {R : Nat → Int32} (hR : I 406 = R) (hG : GOK R) {a1 a2 a3 : Int32} (hk : ∀ (w : Int32) (I' : Nat → Nat → Int32), (okIs R a1 a2 a3 ∧ I' 404 0 = 0 ∧ w = aIs R (cN R a1 a2) a3.toInt) ∨ (¬ okIs R a1 a2 a3 ∧ I' 404 0 = 1) → K (some (.int w)) (n, SH1, I', J)) : t_X12_is [.ref 404, .int a1, .int a2, .int a3] (n, SH1, I, J) K := by
  have k0 : (0 : Int32).toInt = 0 := rfl
  refine q_body (Nat.le_of_ble_eq_true rfl) ?_
  refine q_ald rfl rfl ?_
  refine q_ald rfl rfl ?_
  refine q_getr rfl sk_404 sr_404_6 ?_
  refine q_ic rfl ?_
  refine q_xald rfl (Or.inl rfl) sk_406 sn_406 (by decide) (by decide) ?_
  refine q_if (c := 0) rfl (by decide) (fun y1 => ?_) (fun y1 => ?_)
  · have y1 : ((I 406 894)).toInt = 0 := y1
    refine q_ic rfl ?_
    refine q_goto rfl ?_
    refine q_callV (as := [.int (1 : Int32)]) (rest := []) rfl rfl sk_404 rfl (Nat.le_of_ble_eq_true rfl) ?_
    refine v_throwsIf (Or.inr rfl) ?_
    show dw_ok (pr_X12_is K) 38 0 0 [some (.ref 404), some (.int a1), some (.int a2), some (.int a3)] [.int (1 : Int32)] (n, SH1, (dw_up I 404 0 (1 : Int32)), J)
    refine q_if (c := 0) rfl (by decide) (fun h => absurd (show (1 : Int) = 0 from h) (by decide)) (fun y2 => ?_)
    have y2 : (1 : Int) ≠ 0 := y2
    refine q_ic rfl ?_
    exact q_iret rfl (hk _ _ (Or.inr ⟨fun q => q.2.1 (i_eq (by rw [← congrFun hR 894]; exact y1)), up_same⟩))
  · have y1 : ((I 406 894)).toInt ≠ 0 := y1
    refine q_ald rfl rfl ?_
    refine q_ild rfl rfl ?_
    refine q_ild rfl rfl ?_
    refine q_callV (as := [.int a1, .int a2]) (rest := [.ref 404]) rfl rfl sk_404 rfl (Nat.le_of_ble_eq_true rfl) ?_
    refine v_misCell (C := Cn R) (R := Rn R) (by rw [hR]; exact hG.1.1) (by rw [hR]; exact hG.1.2.1) (fun w_ oC => ?_)
    rcases oC with ⟨rfl, oC⟩ | ⟨rfl, oC⟩
    · show dw_ok (pr_X12_is K) 18 0 0 [some (.ref 404), some (.int a1), some (.int a2), some (.int a3)] [.int (1 : Int32), .ref 404] (n, SH1, I, J)
      refine q_if (c := 0) rfl (by decide) (fun h => absurd (show (1 : Int) = 0 from h) (by decide)) (fun y3 => ?_)
      have y3 : (1 : Int) ≠ 0 := y3
      refine q_ild rfl rfl ?_
      refine q_ic rfl ?_
      refine q_ic rfl ?_
      refine q_callS (as := [.int a3, .int (0 : Int32), .int (1 : Int32)]) (rest := [.ref 404]) rfl rfl rfl rfl ?_
      refine v_isIn (fun w_ oI => ?_)
      rcases oI with ⟨rfl, oI⟩ | ⟨rfl, oI⟩
      · have oI : (0 ≤ a3.toInt ∧ a3.toInt ≤ 1) := oI
        show dw_ok (pr_X12_is K) 27 0 0 [some (.ref 404), some (.int a1), some (.int a2), some (.int a3)] [.int (1 : Int32), .ref 404] (n, SH1, I, J)
        refine q_if (c := 1) rfl (by decide) (fun y4 => ?_) (fun h => absurd (show (1 : Int) = 0 from h) (by decide))
        have y4 : (1 : Int) ≠ 0 := y4
        refine q_ic rfl ?_
        refine q_callV (as := [.int (0 : Int32)]) (rest := []) rfl rfl sk_404 rfl (Nat.le_of_ble_eq_true rfl) ?_
        refine v_throwsIf (Or.inl rfl) ?_
        show dw_ok (pr_X12_is K) 38 0 0 [some (.ref 404), some (.int a1), some (.int a2), some (.int a3)] [.int (0 : Int32)] (n, SH1, (dw_up I 404 0 (0 : Int32)), J)
        refine q_if (c := 0) rfl (by decide) (fun y5 => ?_) (fun h => absurd (show (0 : Int) ≠ 0 from h) (by decide))
        have y5 : (0 : Int) = 0 := y5
        refine q_ald rfl rfl ?_
        refine q_getr rfl sk_404 sr_404_6 ?_
        refine q_ild rfl rfl ?_
        refine q_if (c := 1) rfl (by decide) (fun y6 => ?_) (fun y6 => ?_)
        · have y6 : (a3).toInt ≠ 0 := y6
          refine q_ic rfl ?_
          refine q_ald rfl rfl ?_
          refine q_ild rfl rfl ?_
          refine q_ild rfl rfl ?_
          refine q_callV (as := [.int a1, .int a2]) (rest := [.int (1139 : Int32), .ref 406]) rfl rfl sk_404 rfl (Nat.le_of_ble_eq_true rfl) ?_
          obtain ⟨I7, hI7⟩ : ∃ X, X = (dw_up I 404 0 (0 : Int32)) := ⟨_, rfl⟩
          rw [← hI7]
          have e7 : I7 406 = R := by rw [hI7]; exact (up_row (by decide)).trans hR
          have t7 : I7 404 0 = 0 := by rw [hI7]; exact up_same
          refine v_numberOf ?_
          show dw_ok (pr_X12_is K) 66 0 0 [some (.ref 404), some (.int a1), some (.int a2), some (.int a3)] [.int (I7 406 0 * a2 + a1), .int (1139 : Int32), .ref 406] (n, SH1, I7, J)
          rw [e7]
          have en : (R 0 * a2 + a1).toInt.toNat = cN R a1 a2 := by rw [(cN_i hG oC).2]; rfl
          have el := cN_lt oC
          have el9 := (gok_N hG).2
          have ei : (R 0 * a2 + a1).toInt = (cN R a1 a2 : Nat) := (cN_i hG oC).2
          show dw_ok (pr_X12_is K) 66 0 0 [some (.ref 404), some (.int a1), some (.int a2), some (.int a3)] [.int (R 0 * a2 + a1), .int (1139 : Int32), .ref 406] (n, SH1, I7, J)
          refine q_add rfl ?_
          show dw_ok (pr_X12_is K) 67 0 0 [some (.ref 404), some (.int a1), some (.int a2), some (.int a3)] [.int ((1139 : Int32) + (R 0 * a2 + a1)), .ref 406] (n, SH1, I7, J)
          obtain ⟨z1139, hz1139⟩ : ∃ z, z = ((1139 : Int32) + (R 0 * a2 + a1)) := ⟨_, rfl⟩
          rw [← hz1139]
          have ez1139 : z1139.toInt = ((1139 + cN R a1 a2 : Nat) : Int) := by rw [hz1139]; exact ix_a (x := 1139) (a := 1139) rfl ei (by omega)
          refine q_xald rfl (Or.inl rfl) sk_406 sn_406 (by omega) (by omega) ?_
          show dw_ok (pr_X12_is K) 68 0 0 [some (.ref 404), some (.int a1), some (.int a2), some (.int a3)] [.int (I7 406 (z1139).toInt.toNat)] (n, SH1, I7, J)
          rw [(nat_of ez1139)]
          exact q_iret rfl (hk (I7 406 (1139 + cN R a1 a2)) I7 (Or.inl ⟨⟨oC, fun q => y1 (by rw [congrFun hR 894, q]; rfl), oI⟩, t7, by rw [e7]; exact (if_neg y6).symm⟩))
        · have y6 : (a3).toInt = 0 := y6
          refine q_ic rfl ?_
          refine q_goto rfl ?_
          refine q_ald rfl rfl ?_
          refine q_ild rfl rfl ?_
          refine q_ild rfl rfl ?_
          refine q_callV (as := [.int a1, .int a2]) (rest := [.int (995 : Int32), .ref 406]) rfl rfl sk_404 rfl (Nat.le_of_ble_eq_true rfl) ?_
          obtain ⟨I7, hI7⟩ : ∃ X, X = (dw_up I 404 0 (0 : Int32)) := ⟨_, rfl⟩
          rw [← hI7]
          have e7 : I7 406 = R := by rw [hI7]; exact (up_row (by decide)).trans hR
          have t7 : I7 404 0 = 0 := by rw [hI7]; exact up_same
          refine v_numberOf ?_
          show dw_ok (pr_X12_is K) 66 0 0 [some (.ref 404), some (.int a1), some (.int a2), some (.int a3)] [.int (I7 406 0 * a2 + a1), .int (995 : Int32), .ref 406] (n, SH1, I7, J)
          rw [e7]
          have en : (R 0 * a2 + a1).toInt.toNat = cN R a1 a2 := by rw [(cN_i hG oC).2]; rfl
          have el := cN_lt oC
          have el9 := (gok_N hG).2
          have ei : (R 0 * a2 + a1).toInt = (cN R a1 a2 : Nat) := (cN_i hG oC).2
          show dw_ok (pr_X12_is K) 66 0 0 [some (.ref 404), some (.int a1), some (.int a2), some (.int a3)] [.int (R 0 * a2 + a1), .int (995 : Int32), .ref 406] (n, SH1, I7, J)
          refine q_add rfl ?_
          show dw_ok (pr_X12_is K) 67 0 0 [some (.ref 404), some (.int a1), some (.int a2), some (.int a3)] [.int ((995 : Int32) + (R 0 * a2 + a1)), .ref 406] (n, SH1, I7, J)
          obtain ⟨z995, hz995⟩ : ∃ z, z = ((995 : Int32) + (R 0 * a2 + a1)) := ⟨_, rfl⟩
          rw [← hz995]
          have ez995 : z995.toInt = ((995 + cN R a1 a2 : Nat) : Int) := by rw [hz995]; exact ix_a (x := 995) (a := 995) rfl ei (by omega)
          refine q_xald rfl (Or.inl rfl) sk_406 sn_406 (by omega) (by omega) ?_
          show dw_ok (pr_X12_is K) 68 0 0 [some (.ref 404), some (.int a1), some (.int a2), some (.int a3)] [.int (I7 406 (z995).toInt.toNat)] (n, SH1, I7, J)
          rw [(nat_of ez995)]
          exact q_iret rfl (hk (I7 406 (995 + cN R a1 a2)) I7 (Or.inl ⟨⟨oC, fun q => y1 (by rw [congrFun hR 894, q]; rfl), oI⟩, t7, by rw [e7]; exact (if_pos y6).symm⟩))
      · have oI : ¬ (0 ≤ a3.toInt ∧ a3.toInt ≤ 1) := oI
        show dw_ok (pr_X12_is K) 27 0 0 [some (.ref 404), some (.int a1), some (.int a2), some (.int a3)] [.int (0 : Int32), .ref 404] (n, SH1, I, J)
        refine q_if (c := 1) rfl (by decide) (fun h => absurd (show (0 : Int) ≠ 0 from h) (by decide)) (fun y7 => ?_)
        have y7 : (0 : Int) = 0 := y7
        refine q_ic rfl ?_
        refine q_goto rfl ?_
        refine q_callV (as := [.int (1 : Int32)]) (rest := []) rfl rfl sk_404 rfl (Nat.le_of_ble_eq_true rfl) ?_
        refine v_throwsIf (Or.inr rfl) ?_
        show dw_ok (pr_X12_is K) 38 0 0 [some (.ref 404), some (.int a1), some (.int a2), some (.int a3)] [.int (1 : Int32)] (n, SH1, (dw_up I 404 0 (1 : Int32)), J)
        refine q_if (c := 0) rfl (by decide) (fun h => absurd (show (1 : Int) = 0 from h) (by decide)) (fun y8 => ?_)
        have y8 : (1 : Int) ≠ 0 := y8
        refine q_ic rfl ?_
        exact q_iret rfl (hk _ _ (Or.inr ⟨fun q => oI q.2.2, up_same⟩))
    · show dw_ok (pr_X12_is K) 18 0 0 [some (.ref 404), some (.int a1), some (.int a2), some (.int a3)] [.int (0 : Int32), .ref 404] (n, SH1, I, J)
      refine q_if (c := 0) rfl (by decide) (fun y9 => ?_) (fun h => absurd (show (0 : Int) ≠ 0 from h) (by decide))
      have y9 : (0 : Int) = 0 := y9
      refine q_ic rfl ?_
      refine q_goto rfl ?_
      refine q_callV (as := [.int (1 : Int32)]) (rest := []) rfl rfl sk_404 rfl (Nat.le_of_ble_eq_true rfl) ?_
      refine v_throwsIf (Or.inr rfl) ?_
      show dw_ok (pr_X12_is K) 38 0 0 [some (.ref 404), some (.int a1), some (.int a2), some (.int a3)] [.int (1 : Int32)] (n, SH1, (dw_up I 404 0 (1 : Int32)), J)
      refine q_if (c := 0) rfl (by decide) (fun h => absurd (show (1 : Int) = 0 from h) (by decide)) (fun y10 => ?_)
      have y10 : (1 : Int) ≠ 0 := y10
      refine q_ic rfl ?_
      exact q_iret rfl (hk _ _ (Or.inr ⟨fun q => oC q.1, up_same⟩))
set_option maxRecDepth 8000 in
theorem v_mthrown {n : Nat} {I : Nat → Nat → Int32} {J : Nat → Nat → Int64} {K : dw_K} (hk : K (some (.int (I 404 0))) (n, SH1, I, J)) : t_X12_thrown [.ref 404] (n, SH1, I, J) K := by
  refine q_body (Nat.le_of_ble_eq_true rfl) ?_
  refine q_ald rfl rfl ?_
  refine q_geti rfl sk_404 ?_
  exact q_iret rfl hk
