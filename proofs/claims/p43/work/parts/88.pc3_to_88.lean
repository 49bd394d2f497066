section
set_option maxHeartbeats 2000000 in
theorem sp_startKind1 {SH : dw_Sh} {TT : Nat → dw_T} {K : dw_K} (hE : (EE SH TT).ok) : dx_SOK (EE SH TT) (pr_X12_start K) 34 sg_startKind1 := by
  intro ν ls vs args rest μ bc bs hvs hargs hcat g hk
  obtain ⟨v0, rfl, e0⟩ := vs1 (f := fun i => ls[i]?) (a := 0) hvs
  obtain rfl := ar0 hargs
  obtain ⟨g0, -⟩ := g.gl
  rw [show v0 = some (.ref 404) from gV_th g0] at e0
  have f0 : (μ.2.2.1 406 0).toInt = ν 1 + 0 := (g.fa _ (List.Mem.head _)).2
  have f1 : (μ.2.2.1 406 1).toInt = ν 2 + 0 := (g.fa _ (List.Mem.tail _ (List.Mem.head _))).2
  have b1 : (1 : Int) ≤ ν 1 ∧ ν 1 ≤ 12 := g.iv 1 (by decide)
  have b2 : (0 : Int) ≤ ν 2 ∧ ν 2 ≤ 12 := g.iv 2 (by decide)
  have z0 : ν 0 = 0 := g.z
  have cst0 : (0 : Int32).toInt = 0 := rfl
  refine q_ic rfl ?_
  have m1 := Int.mul_nonneg (a := (μ.2.2.1 406 0).toInt) (b := (μ.2.2.1 406 1).toInt) (by omega) (by omega)
  have m2 := Int.mul_le_mul (a := (μ.2.2.1 406 0).toInt) (b := (μ.2.2.1 406 1).toInt) (c := 12) (d := 12) (by omega) (by omega) (by omega) (by omega)
  obtain ⟨ν', hag, hn0⟩ := nu1 ν 3 ((μ.2.2.1 406 0).toInt * (μ.2.2.1 406 1).toInt)
  have a0 : ν' 0 = ν 0 := hag 0 (by decide)
  have a1 : ν' 1 = ν 1 := hag 1 (by decide)
  have a2 : ν' 2 = ν 2 := hag 2 (by decide)
  exact hk _ _ ν' [.int 0] (μ) (List.Mem.head _) (post_mk g rfl g.hi (fun _ _ => ⟨rfl, rfl⟩) (by decide) (by decide) hag ⟨(show (0 : Int) ≤ ν' 0 ∧ ν' 0 ≤ 0 from ⟨by omega, by omega⟩), (show (1 : Int) ≤ ν' 1 ∧ ν' 1 ≤ 12 from ⟨by omega, by omega⟩), (show (0 : Int) ≤ ν' 2 ∧ ν' 2 ≤ 12 from ⟨by omega, by omega⟩), (show (0 : Int) ≤ ν' 3 ∧ ν' 3 ≤ 144 from ⟨by omega, by omega⟩), trivial⟩ trivial ⟨⟨by decide, 0, rfl, by rw [a0, z0]; rfl⟩, trivial⟩ rfl trivial ⟨⟨by decide, (show fl_P 5 (ν' 3 + 0) (μ).2.2.1 from by show ν' 3 + 0 = (μ.2.2.1 406 0).toInt * (μ.2.2.1 406 1).toInt; omega)⟩, ⟨by decide, (show fl_P 4 (ν' 0 + 0) (μ).2.2.1 from fun c _ hc => absurd hc (by omega))⟩, trivial⟩)
set_option maxHeartbeats 2000000 in
theorem sp_goLine {SH : dw_Sh} {TT : Nat → dw_T} {K : dw_K} (hE : (EE SH TT).ok) : dx_SOK (EE SH TT) (pr_X12_go K) 78 sg_goLine := by
  intro ν ls vs args rest μ bc bs hvs hargs hcat g hk
  obtain ⟨v0, v1, rfl, e0, e1⟩ := vs2 (f := fun i => ls[i]?) (a := 0) (b := 3) hvs
  obtain rfl := ar0 hargs
  obtain ⟨g0, g1, -⟩ := g.gl
  rw [show v0 = some (.ref 404) from gV_th g0] at e0
  obtain ⟨-, w1, h1, q1⟩ := g1
  rw [h1] at e1
  have f0 : (μ.2.2.1 406 803).toInt = ν 2 + 0 := (g.fa _ (List.Mem.head _)).2
  have f1 : (μ.2.2.1 406 0).toInt = ν 3 + 0 := (g.fa _ (List.Mem.tail _ (List.Mem.head _))).2
  have p0 : fl_P 6 (ν 0 + 0) μ.2.2.1 := (g.fl _ (List.Mem.head _)).2
  have b1 : (0 : Int) ≤ ν 1 ∧ ν 1 ≤ 29 := g.iv 1 (by decide)
  have b2 : (0 : Int) ≤ ν 2 ∧ ν 2 ≤ 30 := g.iv 2 (by decide)
  have b3 : (0 : Int) ≤ ν 3 ∧ ν 3 ≤ 12 := g.iv 3 (by decide)
  have d0 : ν 1 - ν 2 ≤ (-1) := (g.dc _ (List.Mem.head _)).2.2
  have z0 : ν 0 = 0 := g.z
  refine q_ald rfl e0 ?_
  have k404 : (μ.2.1 404).1 = 12 := by rw [g.sh]; exact (hE.sh 404).1
  have n404 : (μ.2.1 404).2.1 = 57 := by rw [g.sh]; exact (hE.sh 404).2.1
  have r404_6 : (μ.2.1 404).2.2 6 = some 406 := by rw [g.sh]; exact (hE.sh 404).2.2 6
  refine q_getr rfl k404 r404_6 ?_
  have cst804 : (804 : Int32).toInt = 804 := rfl
  refine q_ic rfl ?_
  have cst3 : (3 : Int32).toInt = 3 := rfl
  refine q_ic rfl ?_
  refine q_ild rfl e1 ?_
  refine q_mul rfl ?_
  have t1 : ((3 : Int32) * w1).toInt = 3 * (w1).toInt := i_mul (by rw [cst3]) (by omega) (by omega)
  refine q_add rfl ?_
  have t2 : ((804 : Int32) + ((3 : Int32) * w1)).toInt = ((804 : Int32)).toInt + (((3 : Int32) * w1)).toInt := i_add (by first | omega | (simp; omega)) (by first | omega | (simp; omega))
  have k406 : (μ.2.1 406).1 = 16 := by rw [g.sh]; exact (hE.sh 406).1
  have n406 : (μ.2.1 406).2.1 = 1427 := by rw [g.sh]; exact (hE.sh 406).2.1
  refine q_xald rfl (Or.inl rfl) k406 n406 (by omega) (by omega) ?_
  refine q_ald rfl e0 ?_
  refine q_getr rfl k404 r404_6 ?_
  have cst805 : (805 : Int32).toInt = 805 := rfl
  refine q_ic rfl ?_
  refine q_ic rfl ?_
  refine q_ild rfl e1 ?_
  refine q_mul rfl ?_
  have t3 : ((3 : Int32) * w1).toInt = 3 * (w1).toInt := i_mul (by rw [cst3]) (by omega) (by omega)
  refine q_add rfl ?_
  have t4 : ((805 : Int32) + ((3 : Int32) * w1)).toInt = ((805 : Int32)).toInt + (((3 : Int32) * w1)).toInt := i_add (by first | omega | (simp; omega)) (by first | omega | (simp; omega))
  refine q_xald rfl (Or.inl rfl) k406 n406 (by omega) (by omega) ?_
  have e1n : ((804 : Int32) + ((3 : Int32) * w1)).toInt.toNat = 804 + 3 * w1.toInt.toNat := by omega
  have e2n : ((805 : Int32) + ((3 : Int32) * w1)).toInt.toNat = 805 + 3 * w1.toInt.toNat := by omega
  rw [e1n, e2n]
  have ha := g.hi 406 (804 + (3 * w1.toInt.toNat))
  rw [show dx_seg ((EE SH TT).ce 406).iv (804 + (3 * w1.toInt.toNat)) = (0, 144) from hi406p _ (by omega)] at ha
  have hb := g.hi 406 (804 + (1 + 3 * w1.toInt.toNat))
  rw [show dx_seg ((EE SH TT).ce 406).iv (804 + (1 + 3 * w1.toInt.toNat)) = (0, 144) from hi406p _ (by omega)] at hb
  rw [show 804 + (1 + 3 * w1.toInt.toNat) = 805 + 3 * w1.toInt.toNat by omega] at hb
  have ha1 : (0 : Int) ≤ (μ.2.2.1 406 (804 + 3 * w1.toInt.toNat)).toInt := ha.1
  have ha2 : (μ.2.2.1 406 (804 + 3 * w1.toInt.toNat)).toInt ≤ 144 := ha.2
  have hb1 : (0 : Int) ≤ (μ.2.2.1 406 (805 + 3 * w1.toInt.toNat)).toInt := hb.1
  have hb2 : (μ.2.2.1 406 (805 + 3 * w1.toInt.toNat)).toInt ≤ 144 := hb.2
  by_cases hz : (μ.2.2.1 406 (804 + 3 * w1.toInt.toNat)).toInt = 0
  · have hz0 : (μ.2.2.1 406 (804 + 3 * w1.toInt.toNat)) = 0 := dx_eqI.mpr (by rw [hz]; rfl)
    rw [hz0]
    obtain ⟨ν', hag, hn0⟩ := nu1 ν 4 ((μ.2.2.1 406 (805 + 3 * w1.toInt.toNat)).toInt)
    have a0 : ν' 0 = ν 0 := hag 0 (by decide)
    have a1 : ν' 1 = ν 1 := hag 1 (by decide)
    have a2 : ν' 2 = ν 2 := hag 2 (by decide)
    have a3 : ν' 3 = ν 3 := hag 3 (by decide)
    exact hk _ _ ν' [.int (μ.2.2.1 406 (805 + 3 * w1.toInt.toNat)), .int 0] (μ) (List.Mem.head _) (post_mk g rfl g.hi (fun _ _ => ⟨rfl, rfl⟩) (by decide) (by decide) hag ⟨(show (0 : Int) ≤ ν' 0 ∧ ν' 0 ≤ 0 from ⟨by omega, by omega⟩), (show (0 : Int) ≤ ν' 1 ∧ ν' 1 ≤ 29 from ⟨by omega, by omega⟩), (show (0 : Int) ≤ ν' 2 ∧ ν' 2 ≤ 30 from ⟨by omega, by omega⟩), (show (0 : Int) ≤ ν' 3 ∧ ν' 3 ≤ 12 from ⟨by omega, by omega⟩), (show (0 : Int) ≤ ν' 4 ∧ ν' 4 ≤ 144 from ⟨by omega, by omega⟩), trivial⟩ trivial ⟨⟨by decide, _, rfl, by show _ = ν' 4 + 0; omega⟩, ⟨by decide, 0, rfl, by rw [a0, z0]; rfl⟩, trivial⟩ rfl trivial trivial)
  · have hp := p0 w1.toInt.toNat (by omega) (by rw [Nat.zero_add]; omega) (by rw [Nat.zero_add]; exact hz)
    rw [Nat.zero_add] at hp
    obtain ⟨ν', hag, hn0, hn1⟩ := nu2 ν 4 5 rfl ((μ.2.2.1 406 (805 + 3 * w1.toInt.toNat)).toInt) ((μ.2.2.1 406 (804 + 3 * w1.toInt.toNat)).toInt)
    have a0 : ν' 0 = ν 0 := hag 0 (by decide)
    have a1 : ν' 1 = ν 1 := hag 1 (by decide)
    have a2 : ν' 2 = ν 2 := hag 2 (by decide)
    have a3 : ν' 3 = ν 3 := hag 3 (by decide)
    exact hk _ _ ν' [.int (μ.2.2.1 406 (805 + 3 * w1.toInt.toNat)), .int (μ.2.2.1 406 (804 + 3 * w1.toInt.toNat))] (μ) (List.Mem.tail _ (List.Mem.head _)) (post_mk g rfl g.hi (fun _ _ => ⟨rfl, rfl⟩) (by decide) (by decide) hag ⟨(show (0 : Int) ≤ ν' 0 ∧ ν' 0 ≤ 0 from ⟨by omega, by omega⟩), (show (0 : Int) ≤ ν' 1 ∧ ν' 1 ≤ 29 from ⟨by omega, by omega⟩), (show (0 : Int) ≤ ν' 2 ∧ ν' 2 ≤ 30 from ⟨by omega, by omega⟩), (show (1 : Int) ≤ ν' 3 ∧ ν' 3 ≤ 12 from ⟨by omega, by omega⟩), (show (0 : Int) ≤ ν' 4 ∧ ν' 4 ≤ 143 from ⟨by omega, by omega⟩), (show (1 : Int) ≤ ν' 5 ∧ ν' 5 ≤ 144 from ⟨by omega, by omega⟩), trivial⟩ trivial ⟨⟨by decide, _, rfl, by show _ = ν' 4 + 0; omega⟩, ⟨by decide, _, rfl, by show _ = ν' 5 + 0; omega⟩, trivial⟩ rfl trivial trivial)
set_option maxHeartbeats 2000000 in
theorem sp_gCopy {SH : dw_Sh} {TT : Nat → dw_T} {K : dw_K} (hE : (EE SH TT).ok) : dx_SOK (EE SH TT) (pr_X12_ground K) 114 sg_gCopy := by
  intro ν ls vs args rest μ bc bs hvs hargs hcat g hk
  obtain ⟨v0, v1, rfl, e0, e1⟩ := vs2 (f := fun i => ls[i]?) (a := 0) (b := 1) hvs
  obtain rfl := ar0 hargs
  obtain ⟨g0, g1, -⟩ := g.gl
  rw [show v0 = some (.ref 404) from gV_th g0] at e0
  obtain ⟨-, w1, h1, q1⟩ := g1
  rw [h1] at e1
  have p0 : fl_P 14 (ν 1 + 0) μ.2.2.1 := (g.fl _ (List.Mem.head _)).2
  have b1 : (0 : Int) ≤ ν 1 ∧ ν 1 ≤ 1426 := g.iv 1 (by decide)
  have z0 : ν 0 = 0 := g.z
  refine q_ald rfl e0 ?_
  have k404 : (μ.2.1 404).1 = 12 := by rw [g.sh]; exact (hE.sh 404).1
  have n404 : (μ.2.1 404).2.1 = 57 := by rw [g.sh]; exact (hE.sh 404).2.1
  have r404_6 : (μ.2.1 404).2.2 6 = some 406 := by rw [g.sh]; exact (hE.sh 404).2.2 6
  refine q_getr rfl k404 r404_6 ?_
  refine q_ild rfl e1 ?_
  refine q_ild rfl e1 ?_
  have cst221 : (221 : Int32).toInt = 221 := rfl
  refine q_ic rfl ?_
  have c221 : (221 : Int32).toInt = 221 := rfl
  refine q_icmp (c := 3) rfl (by decide) (fun hc => ?_) (fun hc => ?_)
  · have hc1 : (221 : Int32).toInt ≤ w1.toInt := hc
    refine q_ic rfl ?_
    have k406 : (μ.2.1 406).1 = 16 := by rw [g.sh]; exact (hE.sh 406).1
    have n406 : (μ.2.1 406).2.1 = 1427 := by rw [g.sh]; exact (hE.sh 406).2.1
    refine q_iast rfl k406 n406 (by omega) (by omega) ?_
    exact hk _ _ ν [] (dw_si μ 406 w1.toInt.toNat 0) (List.Mem.head _) (post_mk g rfl (up_hi g.hi (hi0 w1.toInt.toNat (by omega) (by omega))) (up_fr (List.Mem.head _)) (by decide) (by decide) (fun _ _ => rfl) ⟨(show (0 : Int) ≤ ν 0 ∧ ν 0 ≤ 0 from ⟨by omega, by omega⟩), (show (0 : Int) ≤ ν 1 ∧ ν 1 ≤ 1426 from ⟨by omega, by omega⟩), trivial⟩ trivial trivial rfl trivial ⟨⟨by decide, (show fl_P 14 (ν 1 + 1) (dw_si μ 406 w1.toInt.toNat 0).2.2.1 from fun j hj hx => by
        show dw_up μ.2.2.1 406 w1.toInt.toNat 0 406 j = if j < 221 then dw_up μ.2.2.1 406 w1.toInt.toNat 0 407 j else 0
        rw [up_ne (a' := 407) (Or.inl (by decide))]
        by_cases e : j = w1.toInt.toNat
        · rw [e, up_at]
          rw [if_neg (by omega)]
        · rw [up_ne (Or.inr e)]
          exact p0 j hj (by omega))⟩, trivial⟩)
  · have hc1 : w1.toInt < (221 : Int32).toInt := hc
    have k407 : (μ.2.1 407).1 = 16 := by rw [g.sh]; exact (hE.sh 407).1
    have n407 : (μ.2.1 407).2.1 = 221 := by rw [g.sh]; exact (hE.sh 407).2.1
    have r404_7 : (μ.2.1 404).2.2 7 = some 407 := by rw [g.sh]; exact (hE.sh 404).2.2 7
    refine q_ald rfl e0 ?_
    refine q_getr rfl k404 r404_7 ?_
    refine q_ild rfl e1 ?_
    refine q_xald rfl (Or.inl rfl) k407 n407 (by omega) (by omega) ?_
    refine q_goto rfl ?_
    have k406 : (μ.2.1 406).1 = 16 := by rw [g.sh]; exact (hE.sh 406).1
    have n406 : (μ.2.1 406).2.1 = 1427 := by rw [g.sh]; exact (hE.sh 406).2.1
    refine q_iast rfl k406 n406 (by omega) (by omega) ?_
    exact hk _ _ ν [] (dw_si μ 406 w1.toInt.toNat (μ.2.2.1 407 w1.toInt.toNat)) (List.Mem.head _) (post_mk g rfl (up_hi g.hi (by rw [show dx_seg ((EE SH TT).ce 406).iv w1.toInt.toNat = dx_seg (dx_ce 407).iv w1.toInt.toNat from hi7 _ (by omega)]; exact g.hi 407 _)) (up_fr (List.Mem.head _)) (by decide) (by decide) (fun _ _ => rfl) ⟨(show (0 : Int) ≤ ν 0 ∧ ν 0 ≤ 0 from ⟨by omega, by omega⟩), (show (0 : Int) ≤ ν 1 ∧ ν 1 ≤ 1426 from ⟨by omega, by omega⟩), trivial⟩ trivial trivial rfl trivial ⟨⟨by decide, (show fl_P 14 (ν 1 + 1) (dw_si μ 406 w1.toInt.toNat (μ.2.2.1 407 w1.toInt.toNat)).2.2.1 from fun j hj hx => by
        show dw_up μ.2.2.1 406 w1.toInt.toNat (μ.2.2.1 407 w1.toInt.toNat) 406 j = if j < 221 then dw_up μ.2.2.1 406 w1.toInt.toNat (μ.2.2.1 407 w1.toInt.toNat) 407 j else 0
        rw [up_ne (a' := 407) (Or.inl (by decide))]
        by_cases e : j = w1.toInt.toNat
        · rw [e, up_at]
          rw [if_pos (by omega)]
        · rw [up_ne (Or.inr e)]
          exact p0 j hj (by omega))⟩, trivial⟩)
set_option maxHeartbeats 2000000 in
theorem sp_rrTest {SH : dw_Sh} {TT : Nat → dw_T} {K : dw_K} (hE : (EE SH TT).ok) : dx_SOK (EE SH TT) (pr_X12_readRow K) 74 sg_rrTest := by
  intro ν ls vs args rest μ bc bs hvs hargs hcat g hk
  obtain ⟨v0, v1, rfl, e0, e1⟩ := vs2 (f := fun i => ls[i]?) (a := 0) (b := 3) hvs
  obtain rfl := ar0 hargs
  obtain ⟨g0, g1, -⟩ := g.gl
  rw [show v0 = some (.ref 404) from gV_th g0] at e0
  obtain ⟨-, w1, h1, q1⟩ := g1
  rw [h1] at e1
  have f0 : (μ.2.2.1 404 13).toInt = ν 2 + 0 := (g.fa _ (List.Mem.head _)).2
  have f1 : (μ.2.2.1 404 12).toInt = ν 3 + 0 := (g.fa _ (List.Mem.tail _ (List.Mem.head _))).2
  have f2 : (μ.2.2.1 407 2).toInt = ν 4 + 0 := (g.fa _ (List.Mem.tail _ (List.Mem.tail _ (List.Mem.head _)))).2
  have f3 : (μ.2.2.1 404 11).toInt = ν 0 + 1 := (g.fa _ (List.Mem.tail _ (List.Mem.tail _ (List.Mem.tail _ (List.Mem.head _))))).2
  have p0 : fl_P 8 (ν 0 + 0) μ.2.2.1 := (g.fl _ (List.Mem.head _)).2
  have p1 : fl_P 9 (ν 1 + 0) μ.2.2.1 := (g.fl _ (List.Mem.tail _ (List.Mem.head _))).2
  have b1 : (0 : Int) ≤ ν 1 ∧ ν 1 ≤ 11 := g.iv 1 (by decide)
  have b2 : (1 : Int) ≤ ν 2 ∧ ν 2 ≤ 12 := g.iv 2 (by decide)
  have b3 : (0 : Int) ≤ ν 3 ∧ ν 3 ≤ 940 := g.iv 3 (by decide)
  have b4 : (0 : Int) ≤ ν 4 ∧ ν 4 ≤ 8 := g.iv 4 (by decide)
  have d0 : ν 1 - ν 2 ≤ (-1) := (g.dc _ (List.Mem.head _)).2.2
  have z0 : ν 0 = 0 := g.z
  refine q_ald rfl e0 ?_
  refine q_ald rfl e0 ?_
  have k404 : (μ.2.1 404).1 = 12 := by rw [g.sh]; exact (hE.sh 404).1
  have n404 : (μ.2.1 404).2.1 = 57 := by rw [g.sh]; exact (hE.sh 404).2.1
  refine q_geti rfl k404 ?_
  refine q_ild rfl e1 ?_
  refine q_add rfl ?_
  have t1 : ((μ.2.2.1 404 12) + w1).toInt = ((μ.2.2.1 404 12)).toInt + (w1).toInt := i_add (by first | omega | (simp; omega)) (by first | omega | (simp; omega))
  have k405 : (μ.2.1 405).1 = 18 := by rw [g.sh]; exact (hE.sh 405).1
  have n405 : (μ.2.1 405).2.1 = 940 := by rw [g.sh]; exact (hE.sh 405).2.1
  have r404_1 : (μ.2.1 404).2.2 1 = some 405 := by rw [g.sh]; exact (hE.sh 404).2.2 1
  obtain ⟨l0, l1, l2⟩ := p0 (by omega)
  refine q_octet rfl k404 r404_1 k405 n405 (Nat.le_trans hcat (by decide)) (by omega) (by omega) ?_
  refine q_ic rfl ?_
  refine q_sub rfl ?_
  refine q_ald rfl e0 ?_
  have k407 : (μ.2.1 407).1 = 16 := by rw [g.sh]; exact (hE.sh 407).1
  have n407 : (μ.2.1 407).2.1 = 221 := by rw [g.sh]; exact (hE.sh 407).2.1
  have r404_7 : (μ.2.1 404).2.2 7 = some 407 := by rw [g.sh]; exact (hE.sh 404).2.2 7
  refine q_getr rfl k404 r404_7 ?_
  refine q_ic rfl ?_
  refine q_xald rfl (Or.inl rfl) k407 n407 (by decide) (by decide) ?_
  have c97 : (97 : Int32).toInt = 97 := rfl
  have en : ((μ.2.2.1 404 12) + w1).toInt.toNat = (μ.2.2.1 404 12).toInt.toNat + w1.toInt.toNat := by omega
  rw [en]
  have ho := oc_rng μ.2.2.1 ((μ.2.2.1 404 12).toInt.toNat + w1.toInt.toNat)
  have eo : (μ.2.2.1 405 ((μ.2.2.1 404 12).toInt.toNat + w1.toInt.toNat) &&& 255).toInt = fl_oc μ.2.2.1 ((μ.2.2.1 404 12).toInt.toNat + w1.toInt.toNat) := rfl
  have es : ((μ.2.2.1 405 ((μ.2.2.1 404 12).toInt.toNat + w1.toInt.toNat) &&& 255) - 97).toInt = fl_oc μ.2.2.1 ((μ.2.2.1 404 12).toInt.toNat + w1.toInt.toNat) - 97 := by rw [i_sub (by omega) (by omega)]; omega
  refine q_icmp (c := 3) rfl (by decide) (fun hc => ?_) (fun hc => ?_)
  · exact hk _ _ ν [] (μ) (List.Mem.tail _ (List.Mem.head _)) (post_mk g rfl g.hi (fun _ _ => ⟨rfl, rfl⟩) (by decide) (by decide) (fun _ _ => rfl) ⟨(show (0 : Int) ≤ ν 0 ∧ ν 0 ≤ 0 from ⟨by omega, by omega⟩), (show (0 : Int) ≤ ν 1 ∧ ν 1 ≤ 11 from ⟨by omega, by omega⟩), (show (1 : Int) ≤ ν 2 ∧ ν 2 ≤ 12 from ⟨by omega, by omega⟩), (show (0 : Int) ≤ ν 3 ∧ ν 3 ≤ 940 from ⟨by omega, by omega⟩), (show (0 : Int) ≤ ν 4 ∧ ν 4 ≤ 8 from ⟨by omega, by omega⟩), trivial⟩ trivial trivial rfl trivial trivial)
  · have hc2 : ((μ.2.2.1 405 ((μ.2.2.1 404 12).toInt.toNat + w1.toInt.toNat) &&& 255) - 97).toInt < (μ.2.2.1 407 2).toInt := hc
    exact hk _ _ ν [] (μ) (List.Mem.head _) (post_mk g rfl g.hi (fun _ _ => ⟨rfl, rfl⟩) (by decide) (by decide) (fun _ _ => rfl) ⟨(show (0 : Int) ≤ ν 0 ∧ ν 0 ≤ 0 from ⟨by omega, by omega⟩), (show (0 : Int) ≤ ν 1 ∧ ν 1 ≤ 11 from ⟨by omega, by omega⟩), (show (1 : Int) ≤ ν 2 ∧ ν 2 ≤ 12 from ⟨by omega, by omega⟩), (show (0 : Int) ≤ ν 3 ∧ ν 3 ≤ 940 from ⟨by omega, by omega⟩), (show (0 : Int) ≤ ν 4 ∧ ν 4 ≤ 8 from ⟨by omega, by omega⟩), trivial⟩ trivial trivial rfl trivial ⟨⟨by decide, (show fl_P 9 (ν 1 + 1) (μ).2.2.1 from fun j hj hx => by
        by_cases e : j = w1.toInt.toNat
        · rw [e]; omega
        · exact p1 j (by omega) hx)⟩, trivial⟩)
set_option maxHeartbeats 2000000 in
theorem sp_nxOn {SH : dw_Sh} {TT : Nat → dw_T} {K : dw_K} (hE : (EE SH TT).ok) : dx_SOK (EE SH TT) (pr_X12_next K) 276 sg_nxOn := by
  intro ν ls vs args rest μ bc bs hvs hargs hcat g hk
  obtain ⟨v0, rfl, e0⟩ := vs1 (f := fun i => ls[i]?) (a := 0) hvs
  obtain rfl := ar0 hargs
  obtain ⟨g0, -⟩ := g.gl
  rw [show v0 = some (.ref 404) from gV_th g0] at e0
  have f0 : (μ.2.2.1 404 4).toInt = ν 1 + 0 := (g.fa _ (List.Mem.head _)).2
  have f1 : (μ.2.2.1 404 13).toInt = ν 2 + 0 := (g.fa _ (List.Mem.tail _ (List.Mem.head _))).2
  have f2 : (μ.2.2.1 404 12).toInt = ν 3 + 0 := (g.fa _ (List.Mem.tail _ (List.Mem.tail _ (List.Mem.head _)))).2
  have f3 : (μ.2.2.1 404 2).toInt = ν 4 + 0 := (g.fa _ (List.Mem.tail _ (List.Mem.tail _ (List.Mem.tail _ (List.Mem.head _))))).2
  have f4 : (μ.2.2.1 404 3).toInt = ν 5 + 0 := (g.fa _ (List.Mem.tail _ (List.Mem.tail _ (List.Mem.tail _ (List.Mem.tail _ (List.Mem.head _)))))).2
  have f5 : (μ.2.2.1 404 11).toInt = ν 6 + 0 := (g.fa _ (List.Mem.tail _ (List.Mem.tail _ (List.Mem.tail _ (List.Mem.tail _ (List.Mem.tail _ (List.Mem.head _))))))).2
  have f6 : (μ.2.2.1 404 14).toInt = ν 7 + 0 := (g.fa _ (List.Mem.tail _ (List.Mem.tail _ (List.Mem.tail _ (List.Mem.tail _ (List.Mem.tail _ (List.Mem.tail _ (List.Mem.head _)))))))).2
  have f7 : (μ.2.2.1 404 19).toInt = ν 8 + 0 := (g.fa _ (List.Mem.tail _ (List.Mem.tail _ (List.Mem.tail _ (List.Mem.tail _ (List.Mem.tail _ (List.Mem.tail _ (List.Mem.tail _ (List.Mem.head _))))))))).2
  have f8 : (μ.2.2.1 404 21).toInt = ν 9 + 0 := (g.fa _ (List.Mem.tail _ (List.Mem.tail _ (List.Mem.tail _ (List.Mem.tail _ (List.Mem.tail _ (List.Mem.tail _ (List.Mem.tail _ (List.Mem.tail _ (List.Mem.head _)))))))))).2
  have f9 : (μ.2.2.1 404 22).toInt = ν 10 + 0 := (g.fa _ (List.Mem.tail _ (List.Mem.tail _ (List.Mem.tail _ (List.Mem.tail _ (List.Mem.tail _ (List.Mem.tail _ (List.Mem.tail _ (List.Mem.tail _ (List.Mem.tail _ (List.Mem.head _))))))))))).2
  have p0 : fl_P 11 (ν 0 + 0) μ.2.2.1 := (g.fl _ (List.Mem.head _)).2
  have b1 : (0 : Int) ≤ ν 1 ∧ ν 1 ≤ 939 := g.iv 1 (by decide)
  have b2 : (0 : Int) ≤ ν 2 ∧ ν 2 ≤ 940 := g.iv 2 (by decide)
  have b3 : (0 : Int) ≤ ν 3 ∧ ν 3 ≤ 940 := g.iv 3 (by decide)
  have b4 : (0 : Int) ≤ ν 4 ∧ ν 4 ≤ 940 := g.iv 4 (by decide)
  have b5 : (0 : Int) ≤ ν 5 ∧ ν 5 ≤ 940 := g.iv 5 (by decide)
  have b6 : (0 : Int) ≤ ν 6 ∧ ν 6 ≤ 4 := g.iv 6 (by decide)
  have b7 : (-2147483648 : Int) ≤ ν 7 ∧ ν 7 ≤ 2147483647 := g.iv 7 (by decide)
  have b8 : (-2147483648 : Int) ≤ ν 8 ∧ ν 8 ≤ 2147483647 := g.iv 8 (by decide)
  have b9 : (0 : Int) ≤ ν 9 ∧ ν 9 ≤ 30 := g.iv 9 (by decide)
  have b10 : (0 : Int) ≤ ν 10 ∧ ν 10 ≤ 1 := g.iv 10 (by decide)
  have z0 : ν 0 = 0 := g.z
  have as : (μ.2.2.1 404 12).toInt + (μ.2.2.1 404 13).toInt = (μ.2.2.1 404 4).toInt := p0
  refine q_ald rfl e0 ?_
  refine q_dup rfl ?_
  have k404 : (μ.2.1 404).1 = 12 := by rw [g.sh]; exact (hE.sh 404).1
  have n404 : (μ.2.1 404).2.1 = 57 := by rw [g.sh]; exact (hE.sh 404).2.1
  refine q_geti rfl k404 ?_
  have cst1 : (1 : Int32).toInt = 1 := rfl
  refine q_ic rfl ?_
  refine q_add rfl ?_
  have t1 : ((μ.2.2.1 404 13) + (1 : Int32)).toInt = ((μ.2.2.1 404 13)).toInt + ((1 : Int32)).toInt := i_add (by first | omega | (simp; omega)) (by first | omega | (simp; omega))
  refine q_puti rfl k404 ?_
  refine q_ald rfl e0 ?_
  refine q_dup rfl ?_
  refine q_geti rfl k404 ?_
  refine q_ic rfl ?_
  refine q_add rfl ?_
  have t2 : ((μ.2.2.1 404 4) + (1 : Int32)).toInt = ((μ.2.2.1 404 4)).toInt + ((1 : Int32)).toInt := i_add (by first | omega | (simp; omega)) (by first | omega | (simp; omega))
  refine q_puti rfl k404 ?_
  have r12 : (dw_up (dw_up μ.2.2.1 404 13 ((μ.2.2.1 404 13) + (1 : Int32))) 404 4 ((μ.2.2.1 404 4) + (1 : Int32))) 404 12 = μ.2.2.1 404 12 := (up_ne (Or.inr (by decide))).trans (up_ne (Or.inr (by decide)))
  have r13 : (dw_up (dw_up μ.2.2.1 404 13 ((μ.2.2.1 404 13) + (1 : Int32))) 404 4 ((μ.2.2.1 404 4) + (1 : Int32))) 404 13 = ((μ.2.2.1 404 13) + (1 : Int32)) := (up_ne (Or.inr (by decide))).trans up_at
  have r4 : (dw_up (dw_up μ.2.2.1 404 13 ((μ.2.2.1 404 13) + (1 : Int32))) 404 4 ((μ.2.2.1 404 4) + (1 : Int32))) 404 4 = ((μ.2.2.1 404 4) + (1 : Int32)) := up_at
  obtain ⟨ν', hag, hn0⟩ := nu1 ν 11 ((μ.2.2.1 404 13).toInt + 1)
  have a0 : ν' 0 = ν 0 := hag 0 (by decide)
  have a1 : ν' 1 = ν 1 := hag 1 (by decide)
  have a2 : ν' 2 = ν 2 := hag 2 (by decide)
  have a3 : ν' 3 = ν 3 := hag 3 (by decide)
  have a4 : ν' 4 = ν 4 := hag 4 (by decide)
  have a5 : ν' 5 = ν 5 := hag 5 (by decide)
  have a6 : ν' 6 = ν 6 := hag 6 (by decide)
  have a7 : ν' 7 = ν 7 := hag 7 (by decide)
  have a8 : ν' 8 = ν 8 := hag 8 (by decide)
  have a9 : ν' 9 = ν 9 := hag 9 (by decide)
  have a10 : ν' 10 = ν 10 := hag 10 (by decide)
  exact hk _ _ ν' [] (dw_si (dw_si μ 404 13 ((μ.2.2.1 404 13) + (1 : Int32))) 404 4 ((μ.2.2.1 404 4) + (1 : Int32))) (List.Mem.head _) (post_mk g rfl (up_hi (up_hi g.hi (⟨by show (0 : Int) ≤ _; omega, by show _ ≤ (940 : Int); omega⟩ : dx_in (0, 940) ((μ.2.2.1 404 13) + (1 : Int32)).toInt)) (⟨by show (0 : Int) ≤ _; omega, by show _ ≤ (940 : Int); omega⟩ : dx_in (0, 940) ((μ.2.2.1 404 4) + (1 : Int32)).toInt)) (up_fr2 (List.Mem.head _)) (by decide) (by decide) hag ⟨(show (0 : Int) ≤ ν' 0 ∧ ν' 0 ≤ 0 from ⟨by omega, by omega⟩), (show (0 : Int) ≤ ν' 1 ∧ ν' 1 ≤ 939 from ⟨by omega, by omega⟩), (show (0 : Int) ≤ ν' 2 ∧ ν' 2 ≤ 940 from ⟨by omega, by omega⟩), (show (0 : Int) ≤ ν' 3 ∧ ν' 3 ≤ 940 from ⟨by omega, by omega⟩), (show (0 : Int) ≤ ν' 4 ∧ ν' 4 ≤ 940 from ⟨by omega, by omega⟩), (show (0 : Int) ≤ ν' 5 ∧ ν' 5 ≤ 940 from ⟨by omega, by omega⟩), (show (0 : Int) ≤ ν' 6 ∧ ν' 6 ≤ 4 from ⟨by omega, by omega⟩), (show (-2147483648 : Int) ≤ ν' 7 ∧ ν' 7 ≤ 2147483647 from ⟨by omega, by omega⟩), (show (-2147483648 : Int) ≤ ν' 8 ∧ ν' 8 ≤ 2147483647 from ⟨by omega, by omega⟩), (show (0 : Int) ≤ ν' 9 ∧ ν' 9 ≤ 30 from ⟨by omega, by omega⟩), (show (0 : Int) ≤ ν' 10 ∧ ν' 10 ≤ 1 from ⟨by omega, by omega⟩), (show (1 : Int) ≤ ν' 11 ∧ ν' 11 ≤ 940 from ⟨by omega, by omega⟩), trivial⟩ trivial trivial rfl ⟨⟨by decide, (show ((dw_si (dw_si μ 404 13 ((μ.2.2.1 404 13) + (1 : Int32))) 404 4 ((μ.2.2.1 404 4) + (1 : Int32))).2.2.1 404 4).toInt = ν' 1 + 1 from by show ((dw_up (dw_up μ.2.2.1 404 13 ((μ.2.2.1 404 13) + (1 : Int32))) 404 4 ((μ.2.2.1 404 4) + (1 : Int32))) 404 4).toInt = _; rw [r4]; omega)⟩, ⟨by decide, (show ((dw_si (dw_si μ 404 13 ((μ.2.2.1 404 13) + (1 : Int32))) 404 4 ((μ.2.2.1 404 4) + (1 : Int32))).2.2.1 404 13).toInt = ν' 11 + 0 from by show ((dw_up (dw_up μ.2.2.1 404 13 ((μ.2.2.1 404 13) + (1 : Int32))) 404 4 ((μ.2.2.1 404 4) + (1 : Int32))) 404 13).toInt = _; rw [r13]; omega)⟩, ⟨by decide, (show ((dw_si (dw_si μ 404 13 ((μ.2.2.1 404 13) + (1 : Int32))) 404 4 ((μ.2.2.1 404 4) + (1 : Int32))).2.2.1 404 12).toInt = ν' 3 + 0 from by have h : ((dw_up (dw_up μ.2.2.1 404 13 ((μ.2.2.1 404 13) + (1 : Int32))) 404 4 ((μ.2.2.1 404 4) + (1 : Int32))) 404 12).toInt = ν 3 + 0 := (up_eq (Or.inr (by decide)) (up_eq (Or.inr (by decide)) f2)); exact h.trans (by omega))⟩, ⟨by decide, (show ((dw_si (dw_si μ 404 13 ((μ.2.2.1 404 13) + (1 : Int32))) 404 4 ((μ.2.2.1 404 4) + (1 : Int32))).2.2.1 404 2).toInt = ν' 4 + 0 from by have h : ((dw_up (dw_up μ.2.2.1 404 13 ((μ.2.2.1 404 13) + (1 : Int32))) 404 4 ((μ.2.2.1 404 4) + (1 : Int32))) 404 2).toInt = ν 4 + 0 := (up_eq (Or.inr (by decide)) (up_eq (Or.inr (by decide)) f3)); exact h.trans (by omega))⟩, ⟨by decide, (show ((dw_si (dw_si μ 404 13 ((μ.2.2.1 404 13) + (1 : Int32))) 404 4 ((μ.2.2.1 404 4) + (1 : Int32))).2.2.1 404 3).toInt = ν' 5 + 0 from by have h : ((dw_up (dw_up μ.2.2.1 404 13 ((μ.2.2.1 404 13) + (1 : Int32))) 404 4 ((μ.2.2.1 404 4) + (1 : Int32))) 404 3).toInt = ν 5 + 0 := (up_eq (Or.inr (by decide)) (up_eq (Or.inr (by decide)) f4)); exact h.trans (by omega))⟩, ⟨by decide, (show ((dw_si (dw_si μ 404 13 ((μ.2.2.1 404 13) + (1 : Int32))) 404 4 ((μ.2.2.1 404 4) + (1 : Int32))).2.2.1 404 11).toInt = ν' 6 + 0 from by have h : ((dw_up (dw_up μ.2.2.1 404 13 ((μ.2.2.1 404 13) + (1 : Int32))) 404 4 ((μ.2.2.1 404 4) + (1 : Int32))) 404 11).toInt = ν 6 + 0 := (up_eq (Or.inr (by decide)) (up_eq (Or.inr (by decide)) f5)); exact h.trans (by omega))⟩, ⟨by decide, (show ((dw_si (dw_si μ 404 13 ((μ.2.2.1 404 13) + (1 : Int32))) 404 4 ((μ.2.2.1 404 4) + (1 : Int32))).2.2.1 404 14).toInt = ν' 7 + 0 from by have h : ((dw_up (dw_up μ.2.2.1 404 13 ((μ.2.2.1 404 13) + (1 : Int32))) 404 4 ((μ.2.2.1 404 4) + (1 : Int32))) 404 14).toInt = ν 7 + 0 := (up_eq (Or.inr (by decide)) (up_eq (Or.inr (by decide)) f6)); exact h.trans (by omega))⟩, ⟨by decide, (show ((dw_si (dw_si μ 404 13 ((μ.2.2.1 404 13) + (1 : Int32))) 404 4 ((μ.2.2.1 404 4) + (1 : Int32))).2.2.1 404 19).toInt = ν' 8 + 0 from by have h : ((dw_up (dw_up μ.2.2.1 404 13 ((μ.2.2.1 404 13) + (1 : Int32))) 404 4 ((μ.2.2.1 404 4) + (1 : Int32))) 404 19).toInt = ν 8 + 0 := (up_eq (Or.inr (by decide)) (up_eq (Or.inr (by decide)) f7)); exact h.trans (by omega))⟩, ⟨by decide, (show ((dw_si (dw_si μ 404 13 ((μ.2.2.1 404 13) + (1 : Int32))) 404 4 ((μ.2.2.1 404 4) + (1 : Int32))).2.2.1 404 21).toInt = ν' 9 + 0 from by have h : ((dw_up (dw_up μ.2.2.1 404 13 ((μ.2.2.1 404 13) + (1 : Int32))) 404 4 ((μ.2.2.1 404 4) + (1 : Int32))) 404 21).toInt = ν 9 + 0 := (up_eq (Or.inr (by decide)) (up_eq (Or.inr (by decide)) f8)); exact h.trans (by omega))⟩, ⟨by decide, (show ((dw_si (dw_si μ 404 13 ((μ.2.2.1 404 13) + (1 : Int32))) 404 4 ((μ.2.2.1 404 4) + (1 : Int32))).2.2.1 404 22).toInt = ν' 10 + 0 from by have h : ((dw_up (dw_up μ.2.2.1 404 13 ((μ.2.2.1 404 13) + (1 : Int32))) 404 4 ((μ.2.2.1 404 4) + (1 : Int32))) 404 22).toInt = ν 10 + 0 := (up_eq (Or.inr (by decide)) (up_eq (Or.inr (by decide)) f9)); exact h.trans (by omega))⟩, trivial⟩ ⟨⟨by decide, (show fl_P 11 (ν' 0 + 0) (dw_si (dw_si μ 404 13 ((μ.2.2.1 404 13) + (1 : Int32))) 404 4 ((μ.2.2.1 404 4) + (1 : Int32))).2.2.1 from by show ((dw_up (dw_up μ.2.2.1 404 13 ((μ.2.2.1 404 13) + (1 : Int32))) 404 4 ((μ.2.2.1 404 4) + (1 : Int32))) 404 12).toInt + ((dw_up (dw_up μ.2.2.1 404 13 ((μ.2.2.1 404 13) + (1 : Int32))) 404 4 ((μ.2.2.1 404 4) + (1 : Int32))) 404 13).toInt = ((dw_up (dw_up μ.2.2.1 404 13 ((μ.2.2.1 404 13) + (1 : Int32))) 404 4 ((μ.2.2.1 404 4) + (1 : Int32))) 404 4).toInt; rw [r12, r13, r4]; omega)⟩, trivial⟩)
set_option maxHeartbeats 2000000 in
theorem sp_nxTokE4 {SH : dw_Sh} {TT : Nat → dw_T} {K : dw_K} (hE : (EE SH TT).ok) : dx_SOK (EE SH TT) (pr_X12_next K) 334 sg_nxTokE4 := by
  intro ν ls vs args rest μ bc bs hvs hargs hcat g hk
  obtain rfl := vs0 (f := fun i => ls[i]?) hvs
  obtain ⟨x0, x1, rfl⟩ := ar2 hargs
  obtain ⟨g0, g1, -⟩ := g.gl
  obtain rfl : x0 = .ref 404 := Option.some.inj (gV_th g0)
  obtain ⟨-, w1, h1, q1⟩ := g1
  obtain rfl : x1 = .int w1 := Option.some.inj h1
  have f0 : (μ.2.2.1 404 4).toInt = ν 1 + 0 := (g.fa _ (List.Mem.head _)).2
  have f1 : (μ.2.2.1 404 13).toInt = ν 2 + 0 := (g.fa _ (List.Mem.tail _ (List.Mem.head _))).2
  have f2 : (μ.2.2.1 404 12).toInt = ν 3 + 0 := (g.fa _ (List.Mem.tail _ (List.Mem.tail _ (List.Mem.head _)))).2
  have f3 : (μ.2.2.1 404 2).toInt = ν 4 + 0 := (g.fa _ (List.Mem.tail _ (List.Mem.tail _ (List.Mem.tail _ (List.Mem.head _))))).2
  have f4 : (μ.2.2.1 404 3).toInt = ν 5 + 0 := (g.fa _ (List.Mem.tail _ (List.Mem.tail _ (List.Mem.tail _ (List.Mem.tail _ (List.Mem.head _)))))).2
  have f5 : (μ.2.2.1 404 14).toInt = ν 6 + 0 := (g.fa _ (List.Mem.tail _ (List.Mem.tail _ (List.Mem.tail _ (List.Mem.tail _ (List.Mem.tail _ (List.Mem.head _))))))).2
  have f6 : (μ.2.2.1 404 19).toInt = ν 7 + 0 := (g.fa _ (List.Mem.tail _ (List.Mem.tail _ (List.Mem.tail _ (List.Mem.tail _ (List.Mem.tail _ (List.Mem.tail _ (List.Mem.head _)))))))).2
  have f7 : (μ.2.2.1 404 21).toInt = ν 8 + 0 := (g.fa _ (List.Mem.tail _ (List.Mem.tail _ (List.Mem.tail _ (List.Mem.tail _ (List.Mem.tail _ (List.Mem.tail _ (List.Mem.tail _ (List.Mem.head _))))))))).2
  have f8 : (μ.2.2.1 404 22).toInt = ν 9 + 0 := (g.fa _ (List.Mem.tail _ (List.Mem.tail _ (List.Mem.tail _ (List.Mem.tail _ (List.Mem.tail _ (List.Mem.tail _ (List.Mem.tail _ (List.Mem.tail _ (List.Mem.head _)))))))))).2
  have b1 : (0 : Int) ≤ ν 1 ∧ ν 1 ≤ 940 := g.iv 1 (by decide)
  have b2 : (0 : Int) ≤ ν 2 ∧ ν 2 ≤ 940 := g.iv 2 (by decide)
  have b3 : (0 : Int) ≤ ν 3 ∧ ν 3 ≤ 940 := g.iv 3 (by decide)
  have b4 : (0 : Int) ≤ ν 4 ∧ ν 4 ≤ 940 := g.iv 4 (by decide)
  have b5 : (0 : Int) ≤ ν 5 ∧ ν 5 ≤ 940 := g.iv 5 (by decide)
  have b6 : (-2147483648 : Int) ≤ ν 6 ∧ ν 6 ≤ 2147483647 := g.iv 6 (by decide)
  have b7 : (-2147483648 : Int) ≤ ν 7 ∧ ν 7 ≤ 2147483647 := g.iv 7 (by decide)
  have b8 : (0 : Int) ≤ ν 8 ∧ ν 8 ≤ 30 := g.iv 8 (by decide)
  have b9 : (0 : Int) ≤ ν 9 ∧ ν 9 ≤ 1 := g.iv 9 (by decide)
  have z0 : ν 0 = 0 := g.z
  have k404 : (μ.2.1 404).1 = 12 := by rw [g.sh]; exact (hE.sh 404).1
  have n404 : (μ.2.1 404).2.1 = 57 := by rw [g.sh]; exact (hE.sh 404).2.1
  refine q_puti rfl k404 ?_
  exact hk _ _ ν [] (dw_si μ 404 11 w1) (List.Mem.head _) (post_mk g rfl (up_hi g.hi (⟨by show (0 : Int) ≤ _; omega, by show _ ≤ (4 : Int); omega⟩ : dx_in (0, 4) w1.toInt)) (up_fr (List.Mem.head _)) (by decide) (by decide) (fun _ _ => rfl) ⟨(show (0 : Int) ≤ ν 0 ∧ ν 0 ≤ 0 from ⟨by omega, by omega⟩), (show (0 : Int) ≤ ν 1 ∧ ν 1 ≤ 940 from ⟨by omega, by omega⟩), (show (0 : Int) ≤ ν 2 ∧ ν 2 ≤ 940 from ⟨by omega, by omega⟩), (show (0 : Int) ≤ ν 3 ∧ ν 3 ≤ 940 from ⟨by omega, by omega⟩), (show (0 : Int) ≤ ν 4 ∧ ν 4 ≤ 940 from ⟨by omega, by omega⟩), (show (0 : Int) ≤ ν 5 ∧ ν 5 ≤ 940 from ⟨by omega, by omega⟩), (show (-2147483648 : Int) ≤ ν 6 ∧ ν 6 ≤ 2147483647 from ⟨by omega, by omega⟩), (show (-2147483648 : Int) ≤ ν 7 ∧ ν 7 ≤ 2147483647 from ⟨by omega, by omega⟩), (show (0 : Int) ≤ ν 8 ∧ ν 8 ≤ 30 from ⟨by omega, by omega⟩), (show (0 : Int) ≤ ν 9 ∧ ν 9 ≤ 1 from ⟨by omega, by omega⟩), trivial⟩ trivial trivial rfl ⟨⟨by decide, (show ((dw_si μ 404 11 w1).2.2.1 404 4).toInt = ν 1 + 0 from (up_eq (Or.inr (by decide)) f0))⟩, ⟨by decide, (show ((dw_si μ 404 11 w1).2.2.1 404 13).toInt = ν 2 + 0 from (up_eq (Or.inr (by decide)) f1))⟩, ⟨by decide, (show ((dw_si μ 404 11 w1).2.2.1 404 12).toInt = ν 3 + 0 from (up_eq (Or.inr (by decide)) f2))⟩, ⟨by decide, (show ((dw_si μ 404 11 w1).2.2.1 404 2).toInt = ν 4 + 0 from (up_eq (Or.inr (by decide)) f3))⟩, ⟨by decide, (show ((dw_si μ 404 11 w1).2.2.1 404 3).toInt = ν 5 + 0 from (up_eq (Or.inr (by decide)) f4))⟩, ⟨by decide, (show ((dw_si μ 404 11 w1).2.2.1 404 14).toInt = ν 6 + 0 from (up_eq (Or.inr (by decide)) f5))⟩, ⟨by decide, (show ((dw_si μ 404 11 w1).2.2.1 404 19).toInt = ν 7 + 0 from (up_eq (Or.inr (by decide)) f6))⟩, ⟨by decide, (show ((dw_si μ 404 11 w1).2.2.1 404 21).toInt = ν 8 + 0 from (up_eq (Or.inr (by decide)) f7))⟩, ⟨by decide, (show ((dw_si μ 404 11 w1).2.2.1 404 22).toInt = ν 9 + 0 from (up_eq (Or.inr (by decide)) f8))⟩, ⟨by decide, (show ((dw_si μ 404 11 w1).2.2.1 404 11).toInt = ν 0 + 4 from by show ((dw_up μ.2.2.1 404 11 w1) 404 11).toInt = _; rw [up_at]; omega)⟩, trivial⟩ ⟨⟨by decide, (show fl_P 8 (ν 0 + 0) (dw_si μ 404 11 w1).2.2.1 from fun h => by have h2 : ((dw_up μ.2.2.1 404 11 w1) 404 11).toInt = 1 := h; rw [up_at] at h2; omega)⟩, trivial⟩)
set_option maxHeartbeats 2000000 in
theorem sp_nxTokN0 {SH : dw_Sh} {TT : Nat → dw_T} {K : dw_K} (hE : (EE SH TT).ok) : dx_SOK (EE SH TT) (pr_X12_next K) 76 sg_nxTokN0 := by
  intro ν ls vs args rest μ bc bs hvs hargs hcat g hk
  obtain rfl := vs0 (f := fun i => ls[i]?) hvs
  obtain ⟨x0, x1, rfl⟩ := ar2 hargs
  obtain ⟨g0, g1, -⟩ := g.gl
  obtain rfl : x0 = .ref 404 := Option.some.inj (gV_th g0)
  obtain ⟨-, w1, h1, q1⟩ := g1
  obtain rfl : x1 = .int w1 := Option.some.inj h1
  have f0 : (μ.2.2.1 404 4).toInt = ν 1 + 0 := (g.fa _ (List.Mem.head _)).2
  have f1 : (μ.2.2.1 404 13).toInt = ν 2 + 0 := (g.fa _ (List.Mem.tail _ (List.Mem.head _))).2
  have f2 : (μ.2.2.1 404 12).toInt = ν 3 + 0 := (g.fa _ (List.Mem.tail _ (List.Mem.tail _ (List.Mem.head _)))).2
  have f3 : (μ.2.2.1 404 2).toInt = ν 4 + 0 := (g.fa _ (List.Mem.tail _ (List.Mem.tail _ (List.Mem.tail _ (List.Mem.head _))))).2
  have f4 : (μ.2.2.1 404 3).toInt = ν 5 + 0 := (g.fa _ (List.Mem.tail _ (List.Mem.tail _ (List.Mem.tail _ (List.Mem.tail _ (List.Mem.head _)))))).2
  have f5 : (μ.2.2.1 404 14).toInt = ν 6 + 0 := (g.fa _ (List.Mem.tail _ (List.Mem.tail _ (List.Mem.tail _ (List.Mem.tail _ (List.Mem.tail _ (List.Mem.head _))))))).2
  have f6 : (μ.2.2.1 404 19).toInt = ν 7 + 0 := (g.fa _ (List.Mem.tail _ (List.Mem.tail _ (List.Mem.tail _ (List.Mem.tail _ (List.Mem.tail _ (List.Mem.tail _ (List.Mem.head _)))))))).2
  have f7 : (μ.2.2.1 404 21).toInt = ν 8 + 0 := (g.fa _ (List.Mem.tail _ (List.Mem.tail _ (List.Mem.tail _ (List.Mem.tail _ (List.Mem.tail _ (List.Mem.tail _ (List.Mem.tail _ (List.Mem.head _))))))))).2
  have f8 : (μ.2.2.1 404 22).toInt = ν 9 + 0 := (g.fa _ (List.Mem.tail _ (List.Mem.tail _ (List.Mem.tail _ (List.Mem.tail _ (List.Mem.tail _ (List.Mem.tail _ (List.Mem.tail _ (List.Mem.tail _ (List.Mem.head _)))))))))).2
  have b1 : (0 : Int) ≤ ν 1 ∧ ν 1 ≤ 940 := g.iv 1 (by decide)
  have b2 : (0 : Int) ≤ ν 2 ∧ ν 2 ≤ 940 := g.iv 2 (by decide)
  have b3 : (0 : Int) ≤ ν 3 ∧ ν 3 ≤ 940 := g.iv 3 (by decide)
  have b4 : (0 : Int) ≤ ν 4 ∧ ν 4 ≤ 940 := g.iv 4 (by decide)
  have b5 : (0 : Int) ≤ ν 5 ∧ ν 5 ≤ 940 := g.iv 5 (by decide)
  have b6 : (-2147483648 : Int) ≤ ν 6 ∧ ν 6 ≤ 2147483647 := g.iv 6 (by decide)
  have b7 : (-2147483648 : Int) ≤ ν 7 ∧ ν 7 ≤ 2147483647 := g.iv 7 (by decide)
  have b8 : (0 : Int) ≤ ν 8 ∧ ν 8 ≤ 30 := g.iv 8 (by decide)
  have b9 : (0 : Int) ≤ ν 9 ∧ ν 9 ≤ 1 := g.iv 9 (by decide)
  have z0 : ν 0 = 0 := g.z
  have k404 : (μ.2.1 404).1 = 12 := by rw [g.sh]; exact (hE.sh 404).1
  have n404 : (μ.2.1 404).2.1 = 57 := by rw [g.sh]; exact (hE.sh 404).2.1
  refine q_puti rfl k404 ?_
  exact hk _ _ ν [] (dw_si μ 404 11 w1) (List.Mem.head _) (post_mk g rfl (up_hi g.hi (⟨by show (0 : Int) ≤ _; omega, by show _ ≤ (4 : Int); omega⟩ : dx_in (0, 4) w1.toInt)) (up_fr (List.Mem.head _)) (by decide) (by decide) (fun _ _ => rfl) ⟨(show (0 : Int) ≤ ν 0 ∧ ν 0 ≤ 0 from ⟨by omega, by omega⟩), (show (0 : Int) ≤ ν 1 ∧ ν 1 ≤ 940 from ⟨by omega, by omega⟩), (show (0 : Int) ≤ ν 2 ∧ ν 2 ≤ 940 from ⟨by omega, by omega⟩), (show (0 : Int) ≤ ν 3 ∧ ν 3 ≤ 940 from ⟨by omega, by omega⟩), (show (0 : Int) ≤ ν 4 ∧ ν 4 ≤ 940 from ⟨by omega, by omega⟩), (show (0 : Int) ≤ ν 5 ∧ ν 5 ≤ 940 from ⟨by omega, by omega⟩), (show (-2147483648 : Int) ≤ ν 6 ∧ ν 6 ≤ 2147483647 from ⟨by omega, by omega⟩), (show (-2147483648 : Int) ≤ ν 7 ∧ ν 7 ≤ 2147483647 from ⟨by omega, by omega⟩), (show (0 : Int) ≤ ν 8 ∧ ν 8 ≤ 30 from ⟨by omega, by omega⟩), (show (0 : Int) ≤ ν 9 ∧ ν 9 ≤ 1 from ⟨by omega, by omega⟩), trivial⟩ trivial trivial rfl ⟨⟨by decide, (show ((dw_si μ 404 11 w1).2.2.1 404 4).toInt = ν 1 + 0 from (up_eq (Or.inr (by decide)) f0))⟩, ⟨by decide, (show ((dw_si μ 404 11 w1).2.2.1 404 13).toInt = ν 2 + 0 from (up_eq (Or.inr (by decide)) f1))⟩, ⟨by decide, (show ((dw_si μ 404 11 w1).2.2.1 404 12).toInt = ν 3 + 0 from (up_eq (Or.inr (by decide)) f2))⟩, ⟨by decide, (show ((dw_si μ 404 11 w1).2.2.1 404 2).toInt = ν 4 + 0 from (up_eq (Or.inr (by decide)) f3))⟩, ⟨by decide, (show ((dw_si μ 404 11 w1).2.2.1 404 3).toInt = ν 5 + 0 from (up_eq (Or.inr (by decide)) f4))⟩, ⟨by decide, (show ((dw_si μ 404 11 w1).2.2.1 404 14).toInt = ν 6 + 0 from (up_eq (Or.inr (by decide)) f5))⟩, ⟨by decide, (show ((dw_si μ 404 11 w1).2.2.1 404 19).toInt = ν 7 + 0 from (up_eq (Or.inr (by decide)) f6))⟩, ⟨by decide, (show ((dw_si μ 404 11 w1).2.2.1 404 21).toInt = ν 8 + 0 from (up_eq (Or.inr (by decide)) f7))⟩, ⟨by decide, (show ((dw_si μ 404 11 w1).2.2.1 404 22).toInt = ν 9 + 0 from (up_eq (Or.inr (by decide)) f8))⟩, ⟨by decide, (show ((dw_si μ 404 11 w1).2.2.1 404 11).toInt = ν 0 + 0 from by show ((dw_up μ.2.2.1 404 11 w1) 404 11).toInt = _; rw [up_at]; omega)⟩, trivial⟩ ⟨⟨by decide, (show fl_P 8 (ν 0 + 0) (dw_si μ 404 11 w1).2.2.1 from fun h => by have h2 : ((dw_up μ.2.2.1 404 11 w1) 404 11).toInt = 1 := h; rw [up_at] at h2; omega)⟩, trivial⟩)
set_option maxHeartbeats 2000000 in
theorem sp_nxTokO2 {SH : dw_Sh} {TT : Nat → dw_T} {K : dw_K} (hE : (EE SH TT).ok) : dx_SOK (EE SH TT) (pr_X12_next K) 121 sg_nxTokO2 := by
  intro ν ls vs args rest μ bc bs hvs hargs hcat g hk
  obtain rfl := vs0 (f := fun i => ls[i]?) hvs
  obtain ⟨x0, x1, rfl⟩ := ar2 hargs
  obtain ⟨g0, g1, -⟩ := g.gl
  obtain rfl : x0 = .ref 404 := Option.some.inj (gV_th g0)
  obtain ⟨-, w1, h1, q1⟩ := g1
  obtain rfl : x1 = .int w1 := Option.some.inj h1
  have f0 : (μ.2.2.1 404 4).toInt = ν 1 + 0 := (g.fa _ (List.Mem.head _)).2
  have f1 : (μ.2.2.1 404 13).toInt = ν 2 + 0 := (g.fa _ (List.Mem.tail _ (List.Mem.head _))).2
  have f2 : (μ.2.2.1 404 12).toInt = ν 3 + 0 := (g.fa _ (List.Mem.tail _ (List.Mem.tail _ (List.Mem.head _)))).2
  have f3 : (μ.2.2.1 404 2).toInt = ν 4 + 0 := (g.fa _ (List.Mem.tail _ (List.Mem.tail _ (List.Mem.tail _ (List.Mem.head _))))).2
  have f4 : (μ.2.2.1 404 3).toInt = ν 5 + 0 := (g.fa _ (List.Mem.tail _ (List.Mem.tail _ (List.Mem.tail _ (List.Mem.tail _ (List.Mem.head _)))))).2
  have f5 : (μ.2.2.1 404 14).toInt = ν 6 + 0 := (g.fa _ (List.Mem.tail _ (List.Mem.tail _ (List.Mem.tail _ (List.Mem.tail _ (List.Mem.tail _ (List.Mem.head _))))))).2
  have f6 : (μ.2.2.1 404 19).toInt = ν 7 + 0 := (g.fa _ (List.Mem.tail _ (List.Mem.tail _ (List.Mem.tail _ (List.Mem.tail _ (List.Mem.tail _ (List.Mem.tail _ (List.Mem.head _)))))))).2
  have f7 : (μ.2.2.1 404 21).toInt = ν 8 + 0 := (g.fa _ (List.Mem.tail _ (List.Mem.tail _ (List.Mem.tail _ (List.Mem.tail _ (List.Mem.tail _ (List.Mem.tail _ (List.Mem.tail _ (List.Mem.head _))))))))).2
  have f8 : (μ.2.2.1 404 22).toInt = ν 9 + 0 := (g.fa _ (List.Mem.tail _ (List.Mem.tail _ (List.Mem.tail _ (List.Mem.tail _ (List.Mem.tail _ (List.Mem.tail _ (List.Mem.tail _ (List.Mem.tail _ (List.Mem.head _)))))))))).2
  have b1 : (0 : Int) ≤ ν 1 ∧ ν 1 ≤ 940 := g.iv 1 (by decide)
  have b2 : (0 : Int) ≤ ν 2 ∧ ν 2 ≤ 940 := g.iv 2 (by decide)
  have b3 : (0 : Int) ≤ ν 3 ∧ ν 3 ≤ 940 := g.iv 3 (by decide)
  have b4 : (0 : Int) ≤ ν 4 ∧ ν 4 ≤ 940 := g.iv 4 (by decide)
  have b5 : (0 : Int) ≤ ν 5 ∧ ν 5 ≤ 940 := g.iv 5 (by decide)
  have b6 : (-2147483648 : Int) ≤ ν 6 ∧ ν 6 ≤ 2147483647 := g.iv 6 (by decide)
  have b7 : (-2147483648 : Int) ≤ ν 7 ∧ ν 7 ≤ 2147483647 := g.iv 7 (by decide)
  have b8 : (0 : Int) ≤ ν 8 ∧ ν 8 ≤ 30 := g.iv 8 (by decide)
  have b9 : (0 : Int) ≤ ν 9 ∧ ν 9 ≤ 1 := g.iv 9 (by decide)
  have z0 : ν 0 = 0 := g.z
  have k404 : (μ.2.1 404).1 = 12 := by rw [g.sh]; exact (hE.sh 404).1
  have n404 : (μ.2.1 404).2.1 = 57 := by rw [g.sh]; exact (hE.sh 404).2.1
  refine q_puti rfl k404 ?_
  exact hk _ _ ν [] (dw_si μ 404 11 w1) (List.Mem.head _) (post_mk g rfl (up_hi g.hi (⟨by show (0 : Int) ≤ _; omega, by show _ ≤ (4 : Int); omega⟩ : dx_in (0, 4) w1.toInt)) (up_fr (List.Mem.head _)) (by decide) (by decide) (fun _ _ => rfl) ⟨(show (0 : Int) ≤ ν 0 ∧ ν 0 ≤ 0 from ⟨by omega, by omega⟩), (show (0 : Int) ≤ ν 1 ∧ ν 1 ≤ 940 from ⟨by omega, by omega⟩), (show (0 : Int) ≤ ν 2 ∧ ν 2 ≤ 940 from ⟨by omega, by omega⟩), (show (0 : Int) ≤ ν 3 ∧ ν 3 ≤ 940 from ⟨by omega, by omega⟩), (show (0 : Int) ≤ ν 4 ∧ ν 4 ≤ 940 from ⟨by omega, by omega⟩), (show (0 : Int) ≤ ν 5 ∧ ν 5 ≤ 940 from ⟨by omega, by omega⟩), (show (-2147483648 : Int) ≤ ν 6 ∧ ν 6 ≤ 2147483647 from ⟨by omega, by omega⟩), (show (-2147483648 : Int) ≤ ν 7 ∧ ν 7 ≤ 2147483647 from ⟨by omega, by omega⟩), (show (0 : Int) ≤ ν 8 ∧ ν 8 ≤ 30 from ⟨by omega, by omega⟩), (show (0 : Int) ≤ ν 9 ∧ ν 9 ≤ 1 from ⟨by omega, by omega⟩), trivial⟩ trivial trivial rfl ⟨⟨by decide, (show ((dw_si μ 404 11 w1).2.2.1 404 4).toInt = ν 1 + 0 from (up_eq (Or.inr (by decide)) f0))⟩, ⟨by decide, (show ((dw_si μ 404 11 w1).2.2.1 404 13).toInt = ν 2 + 0 from (up_eq (Or.inr (by decide)) f1))⟩, ⟨by decide, (show ((dw_si μ 404 11 w1).2.2.1 404 12).toInt = ν 3 + 0 from (up_eq (Or.inr (by decide)) f2))⟩, ⟨by decide, (show ((dw_si μ 404 11 w1).2.2.1 404 2).toInt = ν 4 + 0 from (up_eq (Or.inr (by decide)) f3))⟩, ⟨by decide, (show ((dw_si μ 404 11 w1).2.2.1 404 3).toInt = ν 5 + 0 from (up_eq (Or.inr (by decide)) f4))⟩, ⟨by decide, (show ((dw_si μ 404 11 w1).2.2.1 404 14).toInt = ν 6 + 0 from (up_eq (Or.inr (by decide)) f5))⟩, ⟨by decide, (show ((dw_si μ 404 11 w1).2.2.1 404 19).toInt = ν 7 + 0 from (up_eq (Or.inr (by decide)) f6))⟩, ⟨by decide, (show ((dw_si μ 404 11 w1).2.2.1 404 21).toInt = ν 8 + 0 from (up_eq (Or.inr (by decide)) f7))⟩, ⟨by decide, (show ((dw_si μ 404 11 w1).2.2.1 404 22).toInt = ν 9 + 0 from (up_eq (Or.inr (by decide)) f8))⟩, ⟨by decide, (show ((dw_si μ 404 11 w1).2.2.1 404 11).toInt = ν 0 + 2 from by show ((dw_up μ.2.2.1 404 11 w1) 404 11).toInt = _; rw [up_at]; omega)⟩, trivial⟩ ⟨⟨by decide, (show fl_P 8 (ν 0 + 0) (dw_si μ 404 11 w1).2.2.1 from fun h => by have h2 : ((dw_up μ.2.2.1 404 11 w1) 404 11).toInt = 1 := h; rw [up_at] at h2; omega)⟩, trivial⟩)
set_option maxHeartbeats 2000000 in
theorem sp_plOff0 {SH : dw_Sh} {TT : Nat → dw_T} {K : dw_K} (hE : (EE SH TT).ok) : dx_SOK (EE SH TT) (pr_X12_planLine K) 206 sg_plOff0 := by
  intro ν ls vs args rest μ bc bs hvs hargs hcat g hk
  obtain ⟨v0, rfl, e0⟩ := vs1 (f := fun i => ls[i]?) (a := 0) hvs
  obtain rfl := ar0 hargs
  obtain ⟨g0, -⟩ := g.gl
  rw [show v0 = some (.ref 404) from gV_th g0] at e0
  have f0 : (μ.2.2.1 408 2).toInt = ν 1 + 0 := (g.fa _ (List.Mem.head _)).2
  have f1 : (μ.2.2.1 406 0).toInt = ν 2 + 0 := (g.fa _ (List.Mem.tail _ (List.Mem.head _))).2
  have p0 : fl_P 100 (ν 0 + 0) μ.2.2.1 := (g.fl _ (List.Mem.head _)).2
  have b1 : (0 : Int) ≤ ν 1 ∧ ν 1 ≤ 143 := g.iv 1 (by decide)
  have b2 : (1 : Int) ≤ ν 2 ∧ ν 2 ≤ 12 := g.iv 2 (by decide)
  have z0 : ν 0 = 0 := g.z
  have cst1 : (1 : Int32).toInt = 1 := rfl
  refine q_ic rfl ?_
  exact hk _ _ ν [.int 1] (μ) (List.Mem.head _) (post_mk g rfl g.hi (fun _ _ => ⟨rfl, rfl⟩) (by decide) (by decide) (fun _ _ => rfl) ⟨(show (0 : Int) ≤ ν 0 ∧ ν 0 ≤ 0 from ⟨by omega, by omega⟩), (show (0 : Int) ≤ ν 1 ∧ ν 1 ≤ 143 from ⟨by omega, by omega⟩), (show (1 : Int) ≤ ν 2 ∧ ν 2 ≤ 12 from ⟨by omega, by omega⟩), trivial⟩ trivial ⟨⟨by decide, 1, rfl, by rw [z0]; rfl⟩, trivial⟩ rfl trivial ⟨⟨by decide, (show fl_P 25 (ν 0 + 1) (μ).2.2.1 from pq_of (c := 1) (by decide) (by omega) (rp_off (c := 0) (y := 0) (by decide) p0 (show (μ.2.2.1 408 2).toInt ≤ 143 by omega) (by omega)))⟩, trivial⟩)
set_option maxHeartbeats 2000000 in
theorem sp_plOn2 {SH : dw_Sh} {TT : Nat → dw_T} {K : dw_K} (hE : (EE SH TT).ok) : dx_SOK (EE SH TT) (pr_X12_planLine K) 132 sg_plOn2 := by
  intro ν ls vs args rest μ bc bs hvs hargs hcat g hk
  obtain ⟨v0, rfl, e0⟩ := vs1 (f := fun i => ls[i]?) (a := 0) hvs
  obtain rfl := ar0 hargs
  obtain ⟨g0, -⟩ := g.gl
  rw [show v0 = some (.ref 404) from gV_th g0] at e0
  have f0 : (μ.2.2.1 408 7).toInt = ν 0 + 0 := (g.fa _ (List.Mem.head _)).2
  have p0 : fl_P 102 (ν 0 + 0) μ.2.2.1 := (g.fl _ (List.Mem.head _)).2
  have z0 : ν 0 = 0 := g.z
  have cst1 : (1 : Int32).toInt = 1 := rfl
  refine q_ic rfl ?_
  exact hk _ _ ν [.int 1] (μ) (List.Mem.head _) (post_mk g rfl g.hi (fun _ _ => ⟨rfl, rfl⟩) (by decide) (by decide) (fun _ _ => rfl) ⟨(show (0 : Int) ≤ ν 0 ∧ ν 0 ≤ 0 from ⟨by omega, by omega⟩), trivial⟩ trivial ⟨⟨by decide, 1, rfl, by rw [z0]; rfl⟩, trivial⟩ rfl trivial ⟨⟨by decide, (show fl_P 25 (ν 0 + 3) (μ).2.2.1 from pq_of (c := 3) (by decide) (by omega) (rp_on (c := 2) (y := 0) (by decide) p0 (show (μ.2.2.1 408 7).toInt = 0 by omega)))⟩, trivial⟩)
set_option maxHeartbeats 2000000 in
theorem sp_plIn4 {SH : dw_Sh} {TT : Nat → dw_T} {K : dw_K} (hE : (EE SH TT).ok) : dx_SOK (EE SH TT) (pr_X12_planLine K) 83 sg_plIn4 := by
  intro ν ls vs args rest μ bc bs hvs hargs hcat g hk
  obtain ⟨v0, rfl, e0⟩ := vs1 (f := fun i => ls[i]?) (a := 0) hvs
  obtain rfl := ar0 hargs
  obtain ⟨g0, -⟩ := g.gl
  rw [show v0 = some (.ref 404) from gV_th g0] at e0
  have f0 : (μ.2.2.1 404 21).toInt = ν 0 + 4 := (g.fa _ (List.Mem.head _)).2
  have p0 : fl_P 25 (ν 0 + 4) μ.2.2.1 := (g.fl _ (List.Mem.head _)).2
  have z0 : ν 0 = 0 := g.z
  have cst1 : (1 : Int32).toInt = 1 := rfl
  refine q_ic rfl ?_
  exact hk _ _ ν [.int 1] (μ) (List.Mem.head _) (post_mk g rfl g.hi (fun _ _ => ⟨rfl, rfl⟩) (by decide) (by decide) (fun _ _ => rfl) ⟨(show (0 : Int) ≤ ν 0 ∧ ν 0 ≤ 0 from ⟨by omega, by omega⟩), trivial⟩ trivial ⟨⟨by decide, 1, rfl, by rw [z0]; rfl⟩, trivial⟩ rfl trivial ⟨⟨by decide, (show fl_P 104 (ν 0 + 0) (μ).2.2.1 from pq_in (c := 4) (by decide) (by omega) p0)⟩, trivial⟩)
set_option maxHeartbeats 2000000 in
theorem sp_plOff5 {SH : dw_Sh} {TT : Nat → dw_T} {K : dw_K} (hE : (EE SH TT).ok) : dx_SOK (EE SH TT) (pr_X12_planLine K) 206 sg_plOff5 := by
  intro ν ls vs args rest μ bc bs hvs hargs hcat g hk
  obtain ⟨v0, rfl, e0⟩ := vs1 (f := fun i => ls[i]?) (a := 0) hvs
  obtain rfl := ar0 hargs
  obtain ⟨g0, -⟩ := g.gl
  rw [show v0 = some (.ref 404) from gV_th g0] at e0
  have f0 : (μ.2.2.1 408 17).toInt = ν 1 + 0 := (g.fa _ (List.Mem.head _)).2
  have f1 : (μ.2.2.1 406 0).toInt = ν 2 + 0 := (g.fa _ (List.Mem.tail _ (List.Mem.head _))).2
  have p0 : fl_P 105 (ν 0 + 0) μ.2.2.1 := (g.fl _ (List.Mem.head _)).2
  have b1 : (0 : Int) ≤ ν 1 ∧ ν 1 ≤ 143 := g.iv 1 (by decide)
  have b2 : (1 : Int) ≤ ν 2 ∧ ν 2 ≤ 12 := g.iv 2 (by decide)
  have z0 : ν 0 = 0 := g.z
  have cst1 : (1 : Int32).toInt = 1 := rfl
  refine q_ic rfl ?_
  exact hk _ _ ν [.int 1] (μ) (List.Mem.head _) (post_mk g rfl g.hi (fun _ _ => ⟨rfl, rfl⟩) (by decide) (by decide) (fun _ _ => rfl) ⟨(show (0 : Int) ≤ ν 0 ∧ ν 0 ≤ 0 from ⟨by omega, by omega⟩), (show (0 : Int) ≤ ν 1 ∧ ν 1 ≤ 143 from ⟨by omega, by omega⟩), (show (1 : Int) ≤ ν 2 ∧ ν 2 ≤ 12 from ⟨by omega, by omega⟩), trivial⟩ trivial ⟨⟨by decide, 1, rfl, by rw [z0]; rfl⟩, trivial⟩ rfl trivial ⟨⟨by decide, (show fl_P 25 (ν 0 + 6) (μ).2.2.1 from pq_of (c := 6) (by decide) (by omega) (rp_off (c := 5) (y := 0) (by decide) p0 (show (μ.2.2.1 408 17).toInt ≤ 143 by omega) (by omega)))⟩, trivial⟩)
set_option maxHeartbeats 2000000 in
theorem sp_plOn7 {SH : dw_Sh} {TT : Nat → dw_T} {K : dw_K} (hE : (EE SH TT).ok) : dx_SOK (EE SH TT) (pr_X12_planLine K) 132 sg_plOn7 := by
  intro ν ls vs args rest μ bc bs hvs hargs hcat g hk
  obtain ⟨v0, rfl, e0⟩ := vs1 (f := fun i => ls[i]?) (a := 0) hvs
  obtain rfl := ar0 hargs
  obtain ⟨g0, -⟩ := g.gl
  rw [show v0 = some (.ref 404) from gV_th g0] at e0
  have f0 : (μ.2.2.1 408 22).toInt = ν 0 + 0 := (g.fa _ (List.Mem.head _)).2
  have p0 : fl_P 107 (ν 0 + 0) μ.2.2.1 := (g.fl _ (List.Mem.head _)).2
  have z0 : ν 0 = 0 := g.z
  have cst1 : (1 : Int32).toInt = 1 := rfl
  refine q_ic rfl ?_
  exact hk _ _ ν [.int 1] (μ) (List.Mem.head _) (post_mk g rfl g.hi (fun _ _ => ⟨rfl, rfl⟩) (by decide) (by decide) (fun _ _ => rfl) ⟨(show (0 : Int) ≤ ν 0 ∧ ν 0 ≤ 0 from ⟨by omega, by omega⟩), trivial⟩ trivial ⟨⟨by decide, 1, rfl, by rw [z0]; rfl⟩, trivial⟩ rfl trivial ⟨⟨by decide, (show fl_P 25 (ν 0 + 8) (μ).2.2.1 from pq_of (c := 8) (by decide) (by omega) (rp_on (c := 7) (y := 0) (by decide) p0 (show (μ.2.2.1 408 22).toInt = 0 by omega)))⟩, trivial⟩)
set_option maxHeartbeats 2000000 in
theorem sp_plIn9 {SH : dw_Sh} {TT : Nat → dw_T} {K : dw_K} (hE : (EE SH TT).ok) : dx_SOK (EE SH TT) (pr_X12_planLine K) 83 sg_plIn9 := by
  intro ν ls vs args rest μ bc bs hvs hargs hcat g hk
  obtain ⟨v0, rfl, e0⟩ := vs1 (f := fun i => ls[i]?) (a := 0) hvs
  obtain rfl := ar0 hargs
  obtain ⟨g0, -⟩ := g.gl
  rw [show v0 = some (.ref 404) from gV_th g0] at e0
  have f0 : (μ.2.2.1 404 21).toInt = ν 0 + 9 := (g.fa _ (List.Mem.head _)).2
  have p0 : fl_P 25 (ν 0 + 9) μ.2.2.1 := (g.fl _ (List.Mem.head _)).2
  have z0 : ν 0 = 0 := g.z
  have cst1 : (1 : Int32).toInt = 1 := rfl
  refine q_ic rfl ?_
  exact hk _ _ ν [.int 1] (μ) (List.Mem.head _) (post_mk g rfl g.hi (fun _ _ => ⟨rfl, rfl⟩) (by decide) (by decide) (fun _ _ => rfl) ⟨(show (0 : Int) ≤ ν 0 ∧ ν 0 ≤ 0 from ⟨by omega, by omega⟩), trivial⟩ trivial ⟨⟨by decide, 1, rfl, by rw [z0]; rfl⟩, trivial⟩ rfl trivial ⟨⟨by decide, (show fl_P 109 (ν 0 + 0) (μ).2.2.1 from pq_in (c := 9) (by decide) (by omega) p0)⟩, trivial⟩)
set_option maxHeartbeats 2000000 in
theorem sp_plOff10 {SH : dw_Sh} {TT : Nat → dw_T} {K : dw_K} (hE : (EE SH TT).ok) : dx_SOK (EE SH TT) (pr_X12_planLine K) 206 sg_plOff10 := by
  intro ν ls vs args rest μ bc bs hvs hargs hcat g hk
  obtain ⟨v0, rfl, e0⟩ := vs1 (f := fun i => ls[i]?) (a := 0) hvs
  obtain rfl := ar0 hargs
  obtain ⟨g0, -⟩ := g.gl
  rw [show v0 = some (.ref 404) from gV_th g0] at e0
  have f0 : (μ.2.2.1 408 32).toInt = ν 1 + 0 := (g.fa _ (List.Mem.head _)).2
  have f1 : (μ.2.2.1 406 0).toInt = ν 2 + 0 := (g.fa _ (List.Mem.tail _ (List.Mem.head _))).2
  have p0 : fl_P 110 (ν 0 + 0) μ.2.2.1 := (g.fl _ (List.Mem.head _)).2
  have b1 : (0 : Int) ≤ ν 1 ∧ ν 1 ≤ 143 := g.iv 1 (by decide)
  have b2 : (1 : Int) ≤ ν 2 ∧ ν 2 ≤ 12 := g.iv 2 (by decide)
  have z0 : ν 0 = 0 := g.z
  have cst1 : (1 : Int32).toInt = 1 := rfl
  refine q_ic rfl ?_
  exact hk _ _ ν [.int 1] (μ) (List.Mem.head _) (post_mk g rfl g.hi (fun _ _ => ⟨rfl, rfl⟩) (by decide) (by decide) (fun _ _ => rfl) ⟨(show (0 : Int) ≤ ν 0 ∧ ν 0 ≤ 0 from ⟨by omega, by omega⟩), (show (0 : Int) ≤ ν 1 ∧ ν 1 ≤ 143 from ⟨by omega, by omega⟩), (show (1 : Int) ≤ ν 2 ∧ ν 2 ≤ 12 from ⟨by omega, by omega⟩), trivial⟩ trivial ⟨⟨by decide, 1, rfl, by rw [z0]; rfl⟩, trivial⟩ rfl trivial ⟨⟨by decide, (show fl_P 25 (ν 0 + 11) (μ).2.2.1 from pq_of (c := 11) (by decide) (by omega) (rp_off (c := 10) (y := 0) (by decide) p0 (show (μ.2.2.1 408 32).toInt ≤ 143 by omega) (by omega)))⟩, trivial⟩)
set_option maxHeartbeats 2000000 in
theorem sp_plOn12 {SH : dw_Sh} {TT : Nat → dw_T} {K : dw_K} (hE : (EE SH TT).ok) : dx_SOK (EE SH TT) (pr_X12_planLine K) 132 sg_plOn12 := by
  intro ν ls vs args rest μ bc bs hvs hargs hcat g hk
  obtain ⟨v0, rfl, e0⟩ := vs1 (f := fun i => ls[i]?) (a := 0) hvs
  obtain rfl := ar0 hargs
  obtain ⟨g0, -⟩ := g.gl
  rw [show v0 = some (.ref 404) from gV_th g0] at e0
  have f0 : (μ.2.2.1 408 37).toInt = ν 0 + 0 := (g.fa _ (List.Mem.head _)).2
  have p0 : fl_P 112 (ν 0 + 0) μ.2.2.1 := (g.fl _ (List.Mem.head _)).2
  have z0 : ν 0 = 0 := g.z
  have cst1 : (1 : Int32).toInt = 1 := rfl
  refine q_ic rfl ?_
  exact hk _ _ ν [.int 1] (μ) (List.Mem.head _) (post_mk g rfl g.hi (fun _ _ => ⟨rfl, rfl⟩) (by decide) (by decide) (fun _ _ => rfl) ⟨(show (0 : Int) ≤ ν 0 ∧ ν 0 ≤ 0 from ⟨by omega, by omega⟩), trivial⟩ trivial ⟨⟨by decide, 1, rfl, by rw [z0]; rfl⟩, trivial⟩ rfl trivial ⟨⟨by decide, (show fl_P 25 (ν 0 + 13) (μ).2.2.1 from pq_of (c := 13) (by decide) (by omega) (rp_on (c := 12) (y := 0) (by decide) p0 (show (μ.2.2.1 408 37).toInt = 0 by omega)))⟩, trivial⟩)
set_option maxHeartbeats 2000000 in
theorem sp_plIn14 {SH : dw_Sh} {TT : Nat → dw_T} {K : dw_K} (hE : (EE SH TT).ok) : dx_SOK (EE SH TT) (pr_X12_planLine K) 83 sg_plIn14 := by
  intro ν ls vs args rest μ bc bs hvs hargs hcat g hk
  obtain ⟨v0, rfl, e0⟩ := vs1 (f := fun i => ls[i]?) (a := 0) hvs
  obtain rfl := ar0 hargs
  obtain ⟨g0, -⟩ := g.gl
  rw [show v0 = some (.ref 404) from gV_th g0] at e0
  have f0 : (μ.2.2.1 404 21).toInt = ν 0 + 14 := (g.fa _ (List.Mem.head _)).2
  have p0 : fl_P 25 (ν 0 + 14) μ.2.2.1 := (g.fl _ (List.Mem.head _)).2
  have z0 : ν 0 = 0 := g.z
  have cst1 : (1 : Int32).toInt = 1 := rfl
  refine q_ic rfl ?_
  exact hk _ _ ν [.int 1] (μ) (List.Mem.head _) (post_mk g rfl g.hi (fun _ _ => ⟨rfl, rfl⟩) (by decide) (by decide) (fun _ _ => rfl) ⟨(show (0 : Int) ≤ ν 0 ∧ ν 0 ≤ 0 from ⟨by omega, by omega⟩), trivial⟩ trivial ⟨⟨by decide, 1, rfl, by rw [z0]; rfl⟩, trivial⟩ rfl trivial ⟨⟨by decide, (show fl_P 114 (ν 0 + 0) (μ).2.2.1 from pq_in (c := 14) (by decide) (by omega) p0)⟩, trivial⟩)
set_option maxHeartbeats 2000000 in
theorem sp_plOff15 {SH : dw_Sh} {TT : Nat → dw_T} {K : dw_K} (hE : (EE SH TT).ok) : dx_SOK (EE SH TT) (pr_X12_planLine K) 206 sg_plOff15 := by
  intro ν ls vs args rest μ bc bs hvs hargs hcat g hk
  obtain ⟨v0, rfl, e0⟩ := vs1 (f := fun i => ls[i]?) (a := 0) hvs
  obtain rfl := ar0 hargs
  obtain ⟨g0, -⟩ := g.gl
  rw [show v0 = some (.ref 404) from gV_th g0] at e0
  have f0 : (μ.2.2.1 408 47).toInt = ν 1 + 0 := (g.fa _ (List.Mem.head _)).2
  have f1 : (μ.2.2.1 406 0).toInt = ν 2 + 0 := (g.fa _ (List.Mem.tail _ (List.Mem.head _))).2
  have p0 : fl_P 115 (ν 0 + 0) μ.2.2.1 := (g.fl _ (List.Mem.head _)).2
  have b1 : (0 : Int) ≤ ν 1 ∧ ν 1 ≤ 143 := g.iv 1 (by decide)
  have b2 : (1 : Int) ≤ ν 2 ∧ ν 2 ≤ 12 := g.iv 2 (by decide)
  have z0 : ν 0 = 0 := g.z
  have cst1 : (1 : Int32).toInt = 1 := rfl
  refine q_ic rfl ?_
  exact hk _ _ ν [.int 1] (μ) (List.Mem.head _) (post_mk g rfl g.hi (fun _ _ => ⟨rfl, rfl⟩) (by decide) (by decide) (fun _ _ => rfl) ⟨(show (0 : Int) ≤ ν 0 ∧ ν 0 ≤ 0 from ⟨by omega, by omega⟩), (show (0 : Int) ≤ ν 1 ∧ ν 1 ≤ 143 from ⟨by omega, by omega⟩), (show (1 : Int) ≤ ν 2 ∧ ν 2 ≤ 12 from ⟨by omega, by omega⟩), trivial⟩ trivial ⟨⟨by decide, 1, rfl, by rw [z0]; rfl⟩, trivial⟩ rfl trivial ⟨⟨by decide, (show fl_P 25 (ν 0 + 16) (μ).2.2.1 from pq_of (c := 16) (by decide) (by omega) (rp_off (c := 15) (y := 0) (by decide) p0 (show (μ.2.2.1 408 47).toInt ≤ 143 by omega) (by omega)))⟩, trivial⟩)
set_option maxHeartbeats 2000000 in
theorem sp_plOn17 {SH : dw_Sh} {TT : Nat → dw_T} {K : dw_K} (hE : (EE SH TT).ok) : dx_SOK (EE SH TT) (pr_X12_planLine K) 132 sg_plOn17 := by
  intro ν ls vs args rest μ bc bs hvs hargs hcat g hk
  obtain ⟨v0, rfl, e0⟩ := vs1 (f := fun i => ls[i]?) (a := 0) hvs
  obtain rfl := ar0 hargs
  obtain ⟨g0, -⟩ := g.gl
  rw [show v0 = some (.ref 404) from gV_th g0] at e0
  have f0 : (μ.2.2.1 408 52).toInt = ν 0 + 0 := (g.fa _ (List.Mem.head _)).2
  have p0 : fl_P 117 (ν 0 + 0) μ.2.2.1 := (g.fl _ (List.Mem.head _)).2
  have z0 : ν 0 = 0 := g.z
  have cst1 : (1 : Int32).toInt = 1 := rfl
  refine q_ic rfl ?_
  exact hk _ _ ν [.int 1] (μ) (List.Mem.head _) (post_mk g rfl g.hi (fun _ _ => ⟨rfl, rfl⟩) (by decide) (by decide) (fun _ _ => rfl) ⟨(show (0 : Int) ≤ ν 0 ∧ ν 0 ≤ 0 from ⟨by omega, by omega⟩), trivial⟩ trivial ⟨⟨by decide, 1, rfl, by rw [z0]; rfl⟩, trivial⟩ rfl trivial ⟨⟨by decide, (show fl_P 25 (ν 0 + 18) (μ).2.2.1 from pq_of (c := 18) (by decide) (by omega) (rp_on (c := 17) (y := 0) (by decide) p0 (show (μ.2.2.1 408 52).toInt = 0 by omega)))⟩, trivial⟩)
set_option maxHeartbeats 2000000 in
theorem sp_plIn19 {SH : dw_Sh} {TT : Nat → dw_T} {K : dw_K} (hE : (EE SH TT).ok) : dx_SOK (EE SH TT) (pr_X12_planLine K) 83 sg_plIn19 := by
  intro ν ls vs args rest μ bc bs hvs hargs hcat g hk
  obtain ⟨v0, rfl, e0⟩ := vs1 (f := fun i => ls[i]?) (a := 0) hvs
  obtain rfl := ar0 hargs
  obtain ⟨g0, -⟩ := g.gl
  rw [show v0 = some (.ref 404) from gV_th g0] at e0
  have f0 : (μ.2.2.1 404 21).toInt = ν 0 + 19 := (g.fa _ (List.Mem.head _)).2
  have p0 : fl_P 25 (ν 0 + 19) μ.2.2.1 := (g.fl _ (List.Mem.head _)).2
  have z0 : ν 0 = 0 := g.z
  have cst1 : (1 : Int32).toInt = 1 := rfl
  refine q_ic rfl ?_
  exact hk _ _ ν [.int 1] (μ) (List.Mem.head _) (post_mk g rfl g.hi (fun _ _ => ⟨rfl, rfl⟩) (by decide) (by decide) (fun _ _ => rfl) ⟨(show (0 : Int) ≤ ν 0 ∧ ν 0 ≤ 0 from ⟨by omega, by omega⟩), trivial⟩ trivial ⟨⟨by decide, 1, rfl, by rw [z0]; rfl⟩, trivial⟩ rfl trivial ⟨⟨by decide, (show fl_P 119 (ν 0 + 0) (μ).2.2.1 from pq_in (c := 19) (by decide) (by omega) p0)⟩, trivial⟩)
set_option maxHeartbeats 2000000 in
theorem sp_plOff20 {SH : dw_Sh} {TT : Nat → dw_T} {K : dw_K} (hE : (EE SH TT).ok) : dx_SOK (EE SH TT) (pr_X12_planLine K) 206 sg_plOff20 := by
  intro ν ls vs args rest μ bc bs hvs hargs hcat g hk
  obtain ⟨v0, rfl, e0⟩ := vs1 (f := fun i => ls[i]?) (a := 0) hvs
  obtain rfl := ar0 hargs
  obtain ⟨g0, -⟩ := g.gl
  rw [show v0 = some (.ref 404) from gV_th g0] at e0
  have f0 : (μ.2.2.1 408 62).toInt = ν 1 + 0 := (g.fa _ (List.Mem.head _)).2
  have f1 : (μ.2.2.1 406 0).toInt = ν 2 + 0 := (g.fa _ (List.Mem.tail _ (List.Mem.head _))).2
  have p0 : fl_P 120 (ν 0 + 0) μ.2.2.1 := (g.fl _ (List.Mem.head _)).2
  have b1 : (0 : Int) ≤ ν 1 ∧ ν 1 ≤ 143 := g.iv 1 (by decide)
  have b2 : (1 : Int) ≤ ν 2 ∧ ν 2 ≤ 12 := g.iv 2 (by decide)
  have z0 : ν 0 = 0 := g.z
  have cst1 : (1 : Int32).toInt = 1 := rfl
  refine q_ic rfl ?_
  exact hk _ _ ν [.int 1] (μ) (List.Mem.head _) (post_mk g rfl g.hi (fun _ _ => ⟨rfl, rfl⟩) (by decide) (by decide) (fun _ _ => rfl) ⟨(show (0 : Int) ≤ ν 0 ∧ ν 0 ≤ 0 from ⟨by omega, by omega⟩), (show (0 : Int) ≤ ν 1 ∧ ν 1 ≤ 143 from ⟨by omega, by omega⟩), (show (1 : Int) ≤ ν 2 ∧ ν 2 ≤ 12 from ⟨by omega, by omega⟩), trivial⟩ trivial ⟨⟨by decide, 1, rfl, by rw [z0]; rfl⟩, trivial⟩ rfl trivial ⟨⟨by decide, (show fl_P 25 (ν 0 + 21) (μ).2.2.1 from pq_of (c := 21) (by decide) (by omega) (rp_off (c := 20) (y := 0) (by decide) p0 (show (μ.2.2.1 408 62).toInt ≤ 143 by omega) (by omega)))⟩, trivial⟩)
set_option maxHeartbeats 2000000 in
theorem sp_plOn22 {SH : dw_Sh} {TT : Nat → dw_T} {K : dw_K} (hE : (EE SH TT).ok) : dx_SOK (EE SH TT) (pr_X12_planLine K) 132 sg_plOn22 := by
  intro ν ls vs args rest μ bc bs hvs hargs hcat g hk
  obtain ⟨v0, rfl, e0⟩ := vs1 (f := fun i => ls[i]?) (a := 0) hvs
  obtain rfl := ar0 hargs
  obtain ⟨g0, -⟩ := g.gl
  rw [show v0 = some (.ref 404) from gV_th g0] at e0
  have f0 : (μ.2.2.1 408 67).toInt = ν 0 + 0 := (g.fa _ (List.Mem.head _)).2
  have p0 : fl_P 122 (ν 0 + 0) μ.2.2.1 := (g.fl _ (List.Mem.head _)).2
  have z0 : ν 0 = 0 := g.z
  have cst1 : (1 : Int32).toInt = 1 := rfl
  refine q_ic rfl ?_
  exact hk _ _ ν [.int 1] (μ) (List.Mem.head _) (post_mk g rfl g.hi (fun _ _ => ⟨rfl, rfl⟩) (by decide) (by decide) (fun _ _ => rfl) ⟨(show (0 : Int) ≤ ν 0 ∧ ν 0 ≤ 0 from ⟨by omega, by omega⟩), trivial⟩ trivial ⟨⟨by decide, 1, rfl, by rw [z0]; rfl⟩, trivial⟩ rfl trivial ⟨⟨by decide, (show fl_P 25 (ν 0 + 23) (μ).2.2.1 from pq_of (c := 23) (by decide) (by omega) (rp_on (c := 22) (y := 0) (by decide) p0 (show (μ.2.2.1 408 67).toInt = 0 by omega)))⟩, trivial⟩)
set_option maxHeartbeats 2000000 in
theorem sp_plIn24 {SH : dw_Sh} {TT : Nat → dw_T} {K : dw_K} (hE : (EE SH TT).ok) : dx_SOK (EE SH TT) (pr_X12_planLine K) 83 sg_plIn24 := by
  intro ν ls vs args rest μ bc bs hvs hargs hcat g hk
  obtain ⟨v0, rfl, e0⟩ := vs1 (f := fun i => ls[i]?) (a := 0) hvs
  obtain rfl := ar0 hargs
  obtain ⟨g0, -⟩ := g.gl
  rw [show v0 = some (.ref 404) from gV_th g0] at e0
  have f0 : (μ.2.2.1 404 21).toInt = ν 0 + 24 := (g.fa _ (List.Mem.head _)).2
  have p0 : fl_P 25 (ν 0 + 24) μ.2.2.1 := (g.fl _ (List.Mem.head _)).2
  have z0 : ν 0 = 0 := g.z
  have cst1 : (1 : Int32).toInt = 1 := rfl
  refine q_ic rfl ?_
  exact hk _ _ ν [.int 1] (μ) (List.Mem.head _) (post_mk g rfl g.hi (fun _ _ => ⟨rfl, rfl⟩) (by decide) (by decide) (fun _ _ => rfl) ⟨(show (0 : Int) ≤ ν 0 ∧ ν 0 ≤ 0 from ⟨by omega, by omega⟩), trivial⟩ trivial ⟨⟨by decide, 1, rfl, by rw [z0]; rfl⟩, trivial⟩ rfl trivial ⟨⟨by decide, (show fl_P 124 (ν 0 + 0) (μ).2.2.1 from pq_in (c := 24) (by decide) (by omega) p0)⟩, trivial⟩)
set_option maxHeartbeats 2000000 in
theorem sp_plOff25 {SH : dw_Sh} {TT : Nat → dw_T} {K : dw_K} (hE : (EE SH TT).ok) : dx_SOK (EE SH TT) (pr_X12_planLine K) 206 sg_plOff25 := by
  intro ν ls vs args rest μ bc bs hvs hargs hcat g hk
  obtain ⟨v0, rfl, e0⟩ := vs1 (f := fun i => ls[i]?) (a := 0) hvs
  obtain rfl := ar0 hargs
  obtain ⟨g0, -⟩ := g.gl
  rw [show v0 = some (.ref 404) from gV_th g0] at e0
  have f0 : (μ.2.2.1 408 77).toInt = ν 1 + 0 := (g.fa _ (List.Mem.head _)).2
  have f1 : (μ.2.2.1 406 0).toInt = ν 2 + 0 := (g.fa _ (List.Mem.tail _ (List.Mem.head _))).2
  have p0 : fl_P 125 (ν 0 + 0) μ.2.2.1 := (g.fl _ (List.Mem.head _)).2
  have b1 : (0 : Int) ≤ ν 1 ∧ ν 1 ≤ 143 := g.iv 1 (by decide)
  have b2 : (1 : Int) ≤ ν 2 ∧ ν 2 ≤ 12 := g.iv 2 (by decide)
  have z0 : ν 0 = 0 := g.z
  have cst1 : (1 : Int32).toInt = 1 := rfl
  refine q_ic rfl ?_
  exact hk _ _ ν [.int 1] (μ) (List.Mem.head _) (post_mk g rfl g.hi (fun _ _ => ⟨rfl, rfl⟩) (by decide) (by decide) (fun _ _ => rfl) ⟨(show (0 : Int) ≤ ν 0 ∧ ν 0 ≤ 0 from ⟨by omega, by omega⟩), (show (0 : Int) ≤ ν 1 ∧ ν 1 ≤ 143 from ⟨by omega, by omega⟩), (show (1 : Int) ≤ ν 2 ∧ ν 2 ≤ 12 from ⟨by omega, by omega⟩), trivial⟩ trivial ⟨⟨by decide, 1, rfl, by rw [z0]; rfl⟩, trivial⟩ rfl trivial ⟨⟨by decide, (show fl_P 25 (ν 0 + 26) (μ).2.2.1 from pq_of (c := 26) (by decide) (by omega) (rp_off (c := 25) (y := 0) (by decide) p0 (show (μ.2.2.1 408 77).toInt ≤ 143 by omega) (by omega)))⟩, trivial⟩)
set_option maxHeartbeats 2000000 in
theorem sp_plOn27 {SH : dw_Sh} {TT : Nat → dw_T} {K : dw_K} (hE : (EE SH TT).ok) : dx_SOK (EE SH TT) (pr_X12_planLine K) 132 sg_plOn27 := by
  intro ν ls vs args rest μ bc bs hvs hargs hcat g hk
  obtain ⟨v0, rfl, e0⟩ := vs1 (f := fun i => ls[i]?) (a := 0) hvs
  obtain rfl := ar0 hargs
  obtain ⟨g0, -⟩ := g.gl
  rw [show v0 = some (.ref 404) from gV_th g0] at e0
  have f0 : (μ.2.2.1 408 82).toInt = ν 0 + 0 := (g.fa _ (List.Mem.head _)).2
  have p0 : fl_P 127 (ν 0 + 0) μ.2.2.1 := (g.fl _ (List.Mem.head _)).2
  have z0 : ν 0 = 0 := g.z
  have cst1 : (1 : Int32).toInt = 1 := rfl
  refine q_ic rfl ?_
  exact hk _ _ ν [.int 1] (μ) (List.Mem.head _) (post_mk g rfl g.hi (fun _ _ => ⟨rfl, rfl⟩) (by decide) (by decide) (fun _ _ => rfl) ⟨(show (0 : Int) ≤ ν 0 ∧ ν 0 ≤ 0 from ⟨by omega, by omega⟩), trivial⟩ trivial ⟨⟨by decide, 1, rfl, by rw [z0]; rfl⟩, trivial⟩ rfl trivial ⟨⟨by decide, (show fl_P 25 (ν 0 + 28) (μ).2.2.1 from pq_of (c := 28) (by decide) (by omega) (rp_on (c := 27) (y := 0) (by decide) p0 (show (μ.2.2.1 408 82).toInt = 0 by omega)))⟩, trivial⟩)
set_option maxHeartbeats 2000000 in
theorem sp_plIn29 {SH : dw_Sh} {TT : Nat → dw_T} {K : dw_K} (hE : (EE SH TT).ok) : dx_SOK (EE SH TT) (pr_X12_planLine K) 83 sg_plIn29 := by
  intro ν ls vs args rest μ bc bs hvs hargs hcat g hk
  obtain ⟨v0, rfl, e0⟩ := vs1 (f := fun i => ls[i]?) (a := 0) hvs
  obtain rfl := ar0 hargs
  obtain ⟨g0, -⟩ := g.gl
  rw [show v0 = some (.ref 404) from gV_th g0] at e0
  have f0 : (μ.2.2.1 404 21).toInt = ν 0 + 29 := (g.fa _ (List.Mem.head _)).2
  have p0 : fl_P 25 (ν 0 + 29) μ.2.2.1 := (g.fl _ (List.Mem.head _)).2
  have z0 : ν 0 = 0 := g.z
  have cst1 : (1 : Int32).toInt = 1 := rfl
  refine q_ic rfl ?_
  exact hk _ _ ν [.int 1] (μ) (List.Mem.head _) (post_mk g rfl g.hi (fun _ _ => ⟨rfl, rfl⟩) (by decide) (by decide) (fun _ _ => rfl) ⟨(show (0 : Int) ≤ ν 0 ∧ ν 0 ≤ 0 from ⟨by omega, by omega⟩), trivial⟩ trivial ⟨⟨by decide, 1, rfl, by rw [z0]; rfl⟩, trivial⟩ rfl trivial ⟨⟨by decide, (show fl_P 129 (ν 0 + 0) (μ).2.2.1 from pq_in (c := 29) (by decide) (by omega) p0)⟩, trivial⟩)
set_option maxHeartbeats 2000000 in
theorem sp_plCopyR {SH : dw_Sh} {TT : Nat → dw_T} {K : dw_K} (hE : (EE SH TT).ok) : dx_SOK (EE SH TT) (pr_X12_plan K) 91 sg_plCopyR := by
  intro ν ls vs args rest μ bc bs hvs hargs hcat g hk
  obtain ⟨v0, v1, rfl, e0, e1⟩ := vs2 (f := fun i => ls[i]?) (a := 0) (b := 1) hvs
  obtain rfl := ar0 hargs
  obtain ⟨g0, g1, -⟩ := g.gl
  rw [show v0 = some (.ref 404) from gV_th g0] at e0
  obtain ⟨-, w1, h1, q1⟩ := g1
  rw [h1] at e1
  have f0 : (μ.2.2.1 406 0).toInt = ν 2 + 0 := (g.fa _ (List.Mem.head _)).2
  have f1 : (μ.2.2.1 406 1).toInt = ν 3 + 0 := (g.fa _ (List.Mem.tail _ (List.Mem.head _))).2
  have f2 : (μ.2.2.1 406 2).toInt = ν 4 + 0 := (g.fa _ (List.Mem.tail _ (List.Mem.tail _ (List.Mem.head _)))).2
  have f3 : (μ.2.2.1 406 3).toInt = ν 5 + 0 := (g.fa _ (List.Mem.tail _ (List.Mem.tail _ (List.Mem.tail _ (List.Mem.head _))))).2
  have f4 : (μ.2.2.1 408 0).toInt = ν 6 + 0 := (g.fa _ (List.Mem.tail _ (List.Mem.tail _ (List.Mem.tail _ (List.Mem.tail _ (List.Mem.head _)))))).2
  have f5 : (μ.2.2.1 404 21).toInt = ν 7 + 0 := (g.fa _ (List.Mem.tail _ (List.Mem.tail _ (List.Mem.tail _ (List.Mem.tail _ (List.Mem.tail _ (List.Mem.head _))))))).2
  have p0 : fl_P 23 (ν 1 + 0) μ.2.2.1 := (g.fl _ (List.Mem.head _)).2
  have p1 : fl_P 0 (ν 0 + 0) μ.2.2.1 := (g.fl _ (List.Mem.tail _ (List.Mem.head _))).2
  have p2 : fl_P 25 (ν 7 + 0) μ.2.2.1 := (g.fl _ (List.Mem.tail _ (List.Mem.tail _ (List.Mem.head _)))).2
  have b1 : (0 : Int) ≤ ν 1 ∧ ν 1 ≤ 90 := g.iv 1 (by decide)
  have b2 : (0 : Int) ≤ ν 2 ∧ ν 2 ≤ 12 := g.iv 2 (by decide)
  have b3 : (0 : Int) ≤ ν 3 ∧ ν 3 ≤ 12 := g.iv 3 (by decide)
  have b4 : (0 : Int) ≤ ν 4 ∧ ν 4 ≤ 8 := g.iv 4 (by decide)
  have b5 : (0 : Int) ≤ ν 5 ∧ ν 5 ≤ 12 := g.iv 5 (by decide)
  have b6 : (0 : Int) ≤ ν 6 ∧ ν 6 ≤ 30 := g.iv 6 (by decide)
  have b7 : (0 : Int) ≤ ν 7 ∧ ν 7 ≤ 30 := g.iv 7 (by decide)
  have z0 : ν 0 = 0 := g.z
  refine q_ald rfl e0 ?_
  have k404 : (μ.2.1 404).1 = 12 := by rw [g.sh]; exact (hE.sh 404).1
  have n404 : (μ.2.1 404).2.1 = 57 := by rw [g.sh]; exact (hE.sh 404).2.1
  have r404_6 : (μ.2.1 404).2.2 6 = some 406 := by rw [g.sh]; exact (hE.sh 404).2.2 6
  refine q_getr rfl k404 r404_6 ?_
  have cst803 : (803 : Int32).toInt = 803 := rfl
  refine q_ic rfl ?_
  refine q_ild rfl e1 ?_
  refine q_add rfl ?_
  have t1 : ((803 : Int32) + w1).toInt = ((803 : Int32)).toInt + (w1).toInt := i_add (by first | omega | (simp; omega)) (by first | omega | (simp; omega))
  refine q_ald rfl e0 ?_
  have r404_8 : (μ.2.1 404).2.2 8 = some 408 := by rw [g.sh]; exact (hE.sh 404).2.2 8
  refine q_getr rfl k404 r404_8 ?_
  refine q_ild rfl e1 ?_
  have k408 : (μ.2.1 408).1 = 16 := by rw [g.sh]; exact (hE.sh 408).1
  have n408 : (μ.2.1 408).2.1 = 121 := by rw [g.sh]; exact (hE.sh 408).2.1
  refine q_xald rfl (Or.inl rfl) k408 n408 (by omega) (by omega) ?_
  have k406 : (μ.2.1 406).1 = 16 := by rw [g.sh]; exact (hE.sh 406).1
  have n406 : (μ.2.1 406).2.1 = 1427 := by rw [g.sh]; exact (hE.sh 406).2.1
  refine q_iast rfl k406 n406 (by omega) (by omega) ?_
  have en : ((803 : Int32) + w1).toInt.toNat = 803 + w1.toInt.toNat := by omega
  rw [en]
  have hv := g.hi 408 w1.toInt.toNat
  rw [show dx_seg ((EE SH TT).ce 408).iv w1.toInt.toNat = (0, 144) from hi408 _ (by omega)] at hv
  have hh : dx_in (dx_seg (dx_ce 406).iv (803 + w1.toInt.toNat)) (μ.2.2.1 408 w1.toInt.toNat).toInt := by
    by_cases e : w1.toInt.toNat = 0
    · rw [e]; rw [hi803]; exact ⟨by show (0 : Int) ≤ _; omega, by show _ ≤ (30 : Int); omega⟩
    · rw [show 803 + w1.toInt.toNat = 804 + (w1.toInt.toNat - 1) by omega, hi406p _ (by omega)]; exact hv
  exact hk _ _ ν [] (dw_si μ 406 (803 + w1.toInt.toNat) (μ.2.2.1 408 w1.toInt.toNat)) (List.Mem.head _) (post_mk g rfl (up_hi g.hi hh) (up_fr (List.Mem.head _)) (by decide) (by decide) (fun _ _ => rfl) ⟨(show (0 : Int) ≤ ν 0 ∧ ν 0 ≤ 0 from ⟨by omega, by omega⟩), (show (0 : Int) ≤ ν 1 ∧ ν 1 ≤ 90 from ⟨by omega, by omega⟩), (show (0 : Int) ≤ ν 2 ∧ ν 2 ≤ 12 from ⟨by omega, by omega⟩), (show (0 : Int) ≤ ν 3 ∧ ν 3 ≤ 12 from ⟨by omega, by omega⟩), (show (0 : Int) ≤ ν 4 ∧ ν 4 ≤ 8 from ⟨by omega, by omega⟩), (show (0 : Int) ≤ ν 5 ∧ ν 5 ≤ 12 from ⟨by omega, by omega⟩), (show (0 : Int) ≤ ν 6 ∧ ν 6 ≤ 30 from ⟨by omega, by omega⟩), (show (0 : Int) ≤ ν 7 ∧ ν 7 ≤ 30 from ⟨by omega, by omega⟩), trivial⟩ trivial trivial rfl ⟨⟨by decide, (show ((dw_si μ 406 (803 + w1.toInt.toNat) (μ.2.2.1 408 w1.toInt.toNat)).2.2.1 406 0).toInt = ν 2 + 0 from up_eq (Or.inr (by omega)) f0)⟩, ⟨by decide, (show ((dw_si μ 406 (803 + w1.toInt.toNat) (μ.2.2.1 408 w1.toInt.toNat)).2.2.1 406 1).toInt = ν 3 + 0 from up_eq (Or.inr (by omega)) f1)⟩, ⟨by decide, (show ((dw_si μ 406 (803 + w1.toInt.toNat) (μ.2.2.1 408 w1.toInt.toNat)).2.2.1 406 2).toInt = ν 4 + 0 from up_eq (Or.inr (by omega)) f2)⟩, ⟨by decide, (show ((dw_si μ 406 (803 + w1.toInt.toNat) (μ.2.2.1 408 w1.toInt.toNat)).2.2.1 406 3).toInt = ν 5 + 0 from up_eq (Or.inr (by omega)) f3)⟩, trivial⟩ ⟨⟨by decide, (show fl_P 23 (ν 1 + 1) (dw_si μ 406 (803 + w1.toInt.toNat) (μ.2.2.1 408 w1.toInt.toNat)).2.2.1 from fun j hj hx => by
      show dw_up μ.2.2.1 406 (803 + w1.toInt.toNat) (μ.2.2.1 408 w1.toInt.toNat) 406 (803 + j) = dw_up μ.2.2.1 406 (803 + w1.toInt.toNat) (μ.2.2.1 408 w1.toInt.toNat) 408 j
      rw [up_ne (a' := 408) (Or.inl (by decide))]
      by_cases e : j = w1.toInt.toNat
      · rw [e, up_at]
      · rw [up_ne (Or.inr (by omega))]; exact p0 j hj (by omega))⟩, ⟨by decide, (show fl_P 0 (ν 0 + 0) (dw_si μ 406 (803 + w1.toInt.toNat) (μ.2.2.1 408 w1.toInt.toNat)).2.2.1 from up_keep 803 893 (by omega) (by omega) (by decide) p1)⟩, ⟨by decide, (show fl_P 25 (ν 7 + 0) (dw_si μ 406 (803 + w1.toInt.toNat) (μ.2.2.1 408 w1.toInt.toNat)).2.2.1 from up_keep 803 893 (by omega) (by omega) (by decide) p2)⟩, trivial⟩)
set_option maxHeartbeats 2000000 in
theorem sp_plEnd3 {SH : dw_Sh} {TT : Nat → dw_T} {K : dw_K} (hE : (EE SH TT).ok) : dx_SOK (EE SH TT) (pr_X12_plan K) 113 sg_plEnd3 := by
  intro ν ls vs args rest μ bc bs hvs hargs hcat g hk
  obtain ⟨v0, rfl, e0⟩ := vs1 (f := fun i => ls[i]?) (a := 0) hvs
  obtain rfl := ar0 hargs
  obtain ⟨g0, -⟩ := g.gl
  rw [show v0 = some (.ref 404) from gV_th g0] at e0
  have f0 : (μ.2.2.1 404 21).toInt = ν 0 + 3 := (g.fa _ (List.Mem.head _)).2
  have f1 : (μ.2.2.1 408 0).toInt = ν 0 + 3 := (g.fa _ (List.Mem.tail _ (List.Mem.head _))).2
  have p0 : fl_P 23 (ν 0 + 10) μ.2.2.1 := (g.fl _ (List.Mem.head _)).2
  have p1 : fl_P 25 (ν 0 + 3) μ.2.2.1 := (g.fl _ (List.Mem.tail _ (List.Mem.head _))).2
  have z0 : ν 0 = 0 := g.z
  refine q_ald rfl e0 ?_
  exact hk _ _ ν [.ref 404] (μ) (List.Mem.head _) (post_mk g rfl g.hi (fun _ _ => ⟨rfl, rfl⟩) (by decide) (by decide) (fun _ _ => rfl) ⟨(show (0 : Int) ≤ ν 0 ∧ ν 0 ≤ 0 from ⟨by omega, by omega⟩), trivial⟩ trivial ⟨⟨404, List.Mem.head _, rfl⟩, trivial⟩ rfl trivial ⟨⟨by decide, (show fl_P 6 (ν 0 + 0) (μ).2.2.1 from pl_end (c := 3) (y := 0) (by decide) (by omega) (by omega) p0 (pq_in (c := 3) (by decide) (by omega) p1))⟩, trivial⟩)
set_option maxHeartbeats 2000000 in
theorem sp_plEnd8 {SH : dw_Sh} {TT : Nat → dw_T} {K : dw_K} (hE : (EE SH TT).ok) : dx_SOK (EE SH TT) (pr_X12_plan K) 113 sg_plEnd8 := by
  intro ν ls vs args rest μ bc bs hvs hargs hcat g hk
  obtain ⟨v0, rfl, e0⟩ := vs1 (f := fun i => ls[i]?) (a := 0) hvs
  obtain rfl := ar0 hargs
  obtain ⟨g0, -⟩ := g.gl
  rw [show v0 = some (.ref 404) from gV_th g0] at e0
  have f0 : (μ.2.2.1 404 21).toInt = ν 0 + 8 := (g.fa _ (List.Mem.head _)).2
  have f1 : (μ.2.2.1 408 0).toInt = ν 0 + 8 := (g.fa _ (List.Mem.tail _ (List.Mem.head _))).2
  have p0 : fl_P 23 (ν 0 + 25) μ.2.2.1 := (g.fl _ (List.Mem.head _)).2
  have p1 : fl_P 25 (ν 0 + 8) μ.2.2.1 := (g.fl _ (List.Mem.tail _ (List.Mem.head _))).2
  have z0 : ν 0 = 0 := g.z
  refine q_ald rfl e0 ?_
  exact hk _ _ ν [.ref 404] (μ) (List.Mem.head _) (post_mk g rfl g.hi (fun _ _ => ⟨rfl, rfl⟩) (by decide) (by decide) (fun _ _ => rfl) ⟨(show (0 : Int) ≤ ν 0 ∧ ν 0 ≤ 0 from ⟨by omega, by omega⟩), trivial⟩ trivial ⟨⟨404, List.Mem.head _, rfl⟩, trivial⟩ rfl trivial ⟨⟨by decide, (show fl_P 6 (ν 0 + 0) (μ).2.2.1 from pl_end (c := 8) (y := 0) (by decide) (by omega) (by omega) p0 (pq_in (c := 8) (by decide) (by omega) p1))⟩, trivial⟩)
set_option maxHeartbeats 2000000 in
theorem sp_plEnd13 {SH : dw_Sh} {TT : Nat → dw_T} {K : dw_K} (hE : (EE SH TT).ok) : dx_SOK (EE SH TT) (pr_X12_plan K) 113 sg_plEnd13 := by
  intro ν ls vs args rest μ bc bs hvs hargs hcat g hk
  obtain ⟨v0, rfl, e0⟩ := vs1 (f := fun i => ls[i]?) (a := 0) hvs
  obtain rfl := ar0 hargs
  obtain ⟨g0, -⟩ := g.gl
  rw [show v0 = some (.ref 404) from gV_th g0] at e0
  have f0 : (μ.2.2.1 404 21).toInt = ν 0 + 13 := (g.fa _ (List.Mem.head _)).2
  have f1 : (μ.2.2.1 408 0).toInt = ν 0 + 13 := (g.fa _ (List.Mem.tail _ (List.Mem.head _))).2
  have p0 : fl_P 23 (ν 0 + 40) μ.2.2.1 := (g.fl _ (List.Mem.head _)).2
  have p1 : fl_P 25 (ν 0 + 13) μ.2.2.1 := (g.fl _ (List.Mem.tail _ (List.Mem.head _))).2
  have z0 : ν 0 = 0 := g.z
  refine q_ald rfl e0 ?_
  exact hk _ _ ν [.ref 404] (μ) (List.Mem.head _) (post_mk g rfl g.hi (fun _ _ => ⟨rfl, rfl⟩) (by decide) (by decide) (fun _ _ => rfl) ⟨(show (0 : Int) ≤ ν 0 ∧ ν 0 ≤ 0 from ⟨by omega, by omega⟩), trivial⟩ trivial ⟨⟨404, List.Mem.head _, rfl⟩, trivial⟩ rfl trivial ⟨⟨by decide, (show fl_P 6 (ν 0 + 0) (μ).2.2.1 from pl_end (c := 13) (y := 0) (by decide) (by omega) (by omega) p0 (pq_in (c := 13) (by decide) (by omega) p1))⟩, trivial⟩)
set_option maxHeartbeats 2000000 in
theorem sp_plEnd18 {SH : dw_Sh} {TT : Nat → dw_T} {K : dw_K} (hE : (EE SH TT).ok) : dx_SOK (EE SH TT) (pr_X12_plan K) 113 sg_plEnd18 := by
  intro ν ls vs args rest μ bc bs hvs hargs hcat g hk
  obtain ⟨v0, rfl, e0⟩ := vs1 (f := fun i => ls[i]?) (a := 0) hvs
  obtain rfl := ar0 hargs
  obtain ⟨g0, -⟩ := g.gl
  rw [show v0 = some (.ref 404) from gV_th g0] at e0
  have f0 : (μ.2.2.1 404 21).toInt = ν 0 + 18 := (g.fa _ (List.Mem.head _)).2
  have f1 : (μ.2.2.1 408 0).toInt = ν 0 + 18 := (g.fa _ (List.Mem.tail _ (List.Mem.head _))).2
  have p0 : fl_P 23 (ν 0 + 55) μ.2.2.1 := (g.fl _ (List.Mem.head _)).2
  have p1 : fl_P 25 (ν 0 + 18) μ.2.2.1 := (g.fl _ (List.Mem.tail _ (List.Mem.head _))).2
  have z0 : ν 0 = 0 := g.z
  refine q_ald rfl e0 ?_
  exact hk _ _ ν [.ref 404] (μ) (List.Mem.head _) (post_mk g rfl g.hi (fun _ _ => ⟨rfl, rfl⟩) (by decide) (by decide) (fun _ _ => rfl) ⟨(show (0 : Int) ≤ ν 0 ∧ ν 0 ≤ 0 from ⟨by omega, by omega⟩), trivial⟩ trivial ⟨⟨404, List.Mem.head _, rfl⟩, trivial⟩ rfl trivial ⟨⟨by decide, (show fl_P 6 (ν 0 + 0) (μ).2.2.1 from pl_end (c := 18) (y := 0) (by decide) (by omega) (by omega) p0 (pq_in (c := 18) (by decide) (by omega) p1))⟩, trivial⟩)
set_option maxHeartbeats 2000000 in
theorem sp_plEnd23 {SH : dw_Sh} {TT : Nat → dw_T} {K : dw_K} (hE : (EE SH TT).ok) : dx_SOK (EE SH TT) (pr_X12_plan K) 113 sg_plEnd23 := by
  intro ν ls vs args rest μ bc bs hvs hargs hcat g hk
  obtain ⟨v0, rfl, e0⟩ := vs1 (f := fun i => ls[i]?) (a := 0) hvs
  obtain rfl := ar0 hargs
  obtain ⟨g0, -⟩ := g.gl
  rw [show v0 = some (.ref 404) from gV_th g0] at e0
  have f0 : (μ.2.2.1 404 21).toInt = ν 0 + 23 := (g.fa _ (List.Mem.head _)).2
  have f1 : (μ.2.2.1 408 0).toInt = ν 0 + 23 := (g.fa _ (List.Mem.tail _ (List.Mem.head _))).2
  have p0 : fl_P 23 (ν 0 + 70) μ.2.2.1 := (g.fl _ (List.Mem.head _)).2
  have p1 : fl_P 25 (ν 0 + 23) μ.2.2.1 := (g.fl _ (List.Mem.tail _ (List.Mem.head _))).2
  have z0 : ν 0 = 0 := g.z
  refine q_ald rfl e0 ?_
  exact hk _ _ ν [.ref 404] (μ) (List.Mem.head _) (post_mk g rfl g.hi (fun _ _ => ⟨rfl, rfl⟩) (by decide) (by decide) (fun _ _ => rfl) ⟨(show (0 : Int) ≤ ν 0 ∧ ν 0 ≤ 0 from ⟨by omega, by omega⟩), trivial⟩ trivial ⟨⟨404, List.Mem.head _, rfl⟩, trivial⟩ rfl trivial ⟨⟨by decide, (show fl_P 6 (ν 0 + 0) (μ).2.2.1 from pl_end (c := 23) (y := 0) (by decide) (by omega) (by omega) p0 (pq_in (c := 23) (by decide) (by omega) p1))⟩, trivial⟩)
set_option maxHeartbeats 2000000 in
theorem sp_plEnd28 {SH : dw_Sh} {TT : Nat → dw_T} {K : dw_K} (hE : (EE SH TT).ok) : dx_SOK (EE SH TT) (pr_X12_plan K) 113 sg_plEnd28 := by
  intro ν ls vs args rest μ bc bs hvs hargs hcat g hk
  obtain ⟨v0, rfl, e0⟩ := vs1 (f := fun i => ls[i]?) (a := 0) hvs
  obtain rfl := ar0 hargs
  obtain ⟨g0, -⟩ := g.gl
  rw [show v0 = some (.ref 404) from gV_th g0] at e0
  have f0 : (μ.2.2.1 404 21).toInt = ν 0 + 28 := (g.fa _ (List.Mem.head _)).2
  have f1 : (μ.2.2.1 408 0).toInt = ν 0 + 28 := (g.fa _ (List.Mem.tail _ (List.Mem.head _))).2
  have p0 : fl_P 23 (ν 0 + 85) μ.2.2.1 := (g.fl _ (List.Mem.head _)).2
  have p1 : fl_P 25 (ν 0 + 28) μ.2.2.1 := (g.fl _ (List.Mem.tail _ (List.Mem.head _))).2
  have z0 : ν 0 = 0 := g.z
  refine q_ald rfl e0 ?_
  exact hk _ _ ν [.ref 404] (μ) (List.Mem.head _) (post_mk g rfl g.hi (fun _ _ => ⟨rfl, rfl⟩) (by decide) (by decide) (fun _ _ => rfl) ⟨(show (0 : Int) ≤ ν 0 ∧ ν 0 ≤ 0 from ⟨by omega, by omega⟩), trivial⟩ trivial ⟨⟨404, List.Mem.head _, rfl⟩, trivial⟩ rfl trivial ⟨⟨by decide, (show fl_P 6 (ν 0 + 0) (μ).2.2.1 from pl_end (c := 28) (y := 0) (by decide) (by omega) (by omega) p0 (pq_in (c := 28) (by decide) (by omega) p1))⟩, trivial⟩)
set_option maxHeartbeats 2000000 in
theorem sp_imEnd0 {SH : dw_Sh} {TT : Nat → dw_T} {K : dw_K} (hE : (EE SH TT).ok) : dx_SOK (EE SH TT) (pr_X12_image K) 49 sg_imEnd0 := by
  intro ν ls vs args rest μ bc bs hvs hargs hcat g hk
  obtain ⟨v0, v1, rfl, e0, e1⟩ := vs2 (f := fun i => ls[i]?) (a := 0) (b := 1) hvs
  obtain rfl := ar0 hargs
  obtain ⟨g0, g1, -⟩ := g.gl
  rw [show v0 = some (.ref 404) from gV_th g0] at e0
  obtain ⟨-, w1, h1, q1⟩ := g1
  rw [h1] at e1
  have f0 : (μ.2.2.1 433 0).toInt = ν 1 + 0 := (g.fa _ (List.Mem.head _)).2
  have f1 : (μ.2.2.1 433 1).toInt = ν 2 + 0 := (g.fa _ (List.Mem.tail _ (List.Mem.head _))).2
  have p0 : fl_P 15 (ν 0 + 1427) μ.2.2.1 := (g.fl _ (List.Mem.head _)).2
  have p1 : fl_P 0 (ν 0 + 0) μ.2.2.1 := (g.fl _ (List.Mem.tail _ (List.Mem.head _))).2
  have p2 : fl_P 6 (ν 0 + 0) μ.2.2.1 := (g.fl _ (List.Mem.tail _ (List.Mem.tail _ (List.Mem.head _)))).2
  have p3 : fl_P 3 (ν 0 + 0) μ.2.2.1 := (g.fl _ (List.Mem.tail _ (List.Mem.tail _ (List.Mem.tail _ (List.Mem.head _))))).2
  have b1 : (0 : Int) ≤ ν 1 ∧ ν 1 ≤ 1 := g.iv 1 (by decide)
  have b2 : (0 : Int) ≤ ν 2 ∧ ν 2 ≤ 1 := g.iv 2 (by decide)
  have z0 : ν 0 = 0 := g.z
  refine q_ald rfl e0 ?_
  have k404 : (μ.2.1 404).1 = 12 := by rw [g.sh]; exact (hE.sh 404).1
  have n404 : (μ.2.1 404).2.1 = 57 := by rw [g.sh]; exact (hE.sh 404).2.1
  have r404_56 : (μ.2.1 404).2.2 56 = some 433 := by rw [g.sh]; exact (hE.sh 404).2.2 56
  refine q_getr rfl k404 r404_56 ?_
  refine q_ild rfl e1 ?_
  have cst1 : (1 : Int32).toInt = 1 := rfl
  refine q_ic rfl ?_
  have k433 : (μ.2.1 433).1 = 19 := by rw [g.sh]; exact (hE.sh 433).1
  have n433 : (μ.2.1 433).2.1 = 2 := by rw [g.sh]; exact (hE.sh 433).2.1
  refine q_iastz rfl k433 n433 (by omega) (by omega) (Or.inr rfl) ?_
  have en : w1.toInt.toNat = 0 := by omega
  rw [en]
  have cp : ∀ j : Nat, j < 894 → μ.2.2.1 432 (0 + j) = μ.2.2.1 406 (0 + j) := fun j hj => by rw [Nat.zero_add]; exact p0 j hj (by omega)
  exact hk _ _ ν [] (dw_si μ 433 0 1) (List.Mem.head _) (post_mk g rfl (up_hi g.hi (show (dx_seg (dx_ce 433).iv 0).1 ≤ (1 : Int32).toInt ∧ (1 : Int32).toInt ≤ (dx_seg (dx_ce 433).iv 0).2 from by decide +kernel)) (up_fr (List.Mem.head _)) (by decide) (by decide) (fun _ _ => rfl) ⟨(show (0 : Int) ≤ ν 0 ∧ ν 0 ≤ 0 from ⟨by omega, by omega⟩), (show (0 : Int) ≤ ν 1 ∧ ν 1 ≤ 1 from ⟨by omega, by omega⟩), (show (0 : Int) ≤ ν 2 ∧ ν 2 ≤ 1 from ⟨by omega, by omega⟩), trivial⟩ trivial trivial rfl ⟨⟨by decide, (show ((dw_si μ 433 0 1).2.2.1 433 0).toInt = ν 0 + 1 from by show (dw_up μ.2.2.1 433 0 1 433 0).toInt = ν 0 + 1; rw [up_at, z0]; rfl)⟩, ⟨by decide, (show ((dw_si μ 433 0 1).2.2.1 433 1).toInt = ν 2 + 0 from up_eq (Or.inr (by decide)) f1)⟩, trivial⟩ ⟨⟨by decide, (show fl_P 2 (ν 0 + 0) (dw_si μ 433 0 1).2.2.1 from fun _ => (⟨wk_copy (I' := dw_up μ.2.2.1 433 0 1) (fun j hj => (up_ne (Or.inl (by decide))).trans (cp j hj)) p1, pl_copy (I' := dw_up μ.2.2.1 433 0 1) (fun j hj => (up_ne (Or.inl (by decide))).trans (cp j hj)) p2⟩ : fl_wk 432 0 (dw_up μ.2.2.1 433 0 1) ∧ fl_pl 432 0 (dw_up μ.2.2.1 433 0 1)))⟩, ⟨by decide, (show fl_P 3 (ν 0 + 0) (dw_si μ 433 0 1).2.2.1 from up_keep 0 0 (by decide) (by decide) (by decide) p3)⟩, trivial⟩)
set_option maxHeartbeats 2000000 in
theorem sp_imCopy1 {SH : dw_Sh} {TT : Nat → dw_T} {K : dw_K} (hE : (EE SH TT).ok) : dx_SOK (EE SH TT) (pr_X12_image K) 25 sg_imCopy1 := by
  intro ν ls vs args rest μ bc bs hvs hargs hcat g hk
  obtain ⟨v0, v1, v2, rfl, e0, e1, e2⟩ := vs3 (f := fun i => ls[i]?) (a := 0) (b := 1) (c := 2) hvs
  obtain rfl := ar0 hargs
  obtain ⟨g0, g1, g2, -⟩ := g.gl
  rw [show v0 = some (.ref 404) from gV_th g0] at e0
  obtain ⟨-, w1, h1, q1⟩ := g1
  rw [h1] at e1
  obtain ⟨-, w2, h2, q2⟩ := g2
  rw [h2] at e2
  have p0 : fl_P 16 (ν 1 + 0) μ.2.2.1 := (g.fl _ (List.Mem.head _)).2
  have p1 : fl_P 2 (ν 0 + 0) μ.2.2.1 := (g.fl _ (List.Mem.tail _ (List.Mem.head _))).2
  have b1 : (0 : Int) ≤ ν 1 ∧ ν 1 ≤ 1426 := g.iv 1 (by decide)
  have z0 : ν 0 = 0 := g.z
  refine q_ald rfl e0 ?_
  have k404 : (μ.2.1 404).1 = 12 := by rw [g.sh]; exact (hE.sh 404).1
  have n404 : (μ.2.1 404).2.1 = 57 := by rw [g.sh]; exact (hE.sh 404).2.1
  have r404_55 : (μ.2.1 404).2.2 55 = some 432 := by rw [g.sh]; exact (hE.sh 404).2.2 55
  refine q_getr rfl k404 r404_55 ?_
  have cst1427 : (1427 : Int32).toInt = 1427 := rfl
  refine q_ic rfl ?_
  refine q_ild rfl e1 ?_
  refine q_mul rfl ?_
  have t1 : ((1427 : Int32) * w1).toInt = 1427 * (w1).toInt := i_mul (by rw [cst1427]) (by omega) (by omega)
  refine q_ild rfl e2 ?_
  refine q_add rfl ?_
  have t2 : (((1427 : Int32) * w1) + w2).toInt = (((1427 : Int32) * w1)).toInt + (w2).toInt := i_add (by first | omega | (simp; omega)) (by first | omega | (simp; omega))
  refine q_ald rfl e0 ?_
  have r404_6 : (μ.2.1 404).2.2 6 = some 406 := by rw [g.sh]; exact (hE.sh 404).2.2 6
  refine q_getr rfl k404 r404_6 ?_
  refine q_ild rfl e2 ?_
  have k406 : (μ.2.1 406).1 = 16 := by rw [g.sh]; exact (hE.sh 406).1
  have n406 : (μ.2.1 406).2.1 = 1427 := by rw [g.sh]; exact (hE.sh 406).2.1
  refine q_xald rfl (Or.inl rfl) k406 n406 (by omega) (by omega) ?_
  have k432 : (μ.2.1 432).1 = 16 := by rw [g.sh]; exact (hE.sh 432).1
  have n432 : (μ.2.1 432).2.1 = 2854 := by rw [g.sh]; exact (hE.sh 432).2.1
  refine q_iast rfl k432 n432 (by omega) (by omega) ?_
  have cw : ((1427 : Int32) * w1).toInt = 1427 := by omega
  have en : (((1427 : Int32) * w1) + w2).toInt.toNat = 1427 + w2.toInt.toNat := by omega
  rw [en]
  have hh : dx_in (dx_seg (dx_ce 432).iv (1427 + w2.toInt.toNat)) (μ.2.2.1 406 w2.toInt.toNat).toInt := by rw [(hi32 w2.toInt.toNat (by omega)).2]; exact g.hi 406 w2.toInt.toNat
  exact hk _ _ ν [] (dw_si μ 432 (1427 + w2.toInt.toNat) (μ.2.2.1 406 w2.toInt.toNat)) (List.Mem.head _) (post_mk g rfl (up_hi g.hi hh) (up_fr (List.Mem.head _)) (by decide) (by decide) (fun _ _ => rfl) ⟨(show (0 : Int) ≤ ν 0 ∧ ν 0 ≤ 0 from ⟨by omega, by omega⟩), (show (0 : Int) ≤ ν 1 ∧ ν 1 ≤ 1426 from ⟨by omega, by omega⟩), trivial⟩ trivial trivial rfl trivial ⟨⟨by decide, (show fl_P 16 (ν 1 + 1) (dw_si μ 432 (1427 + w2.toInt.toNat) (μ.2.2.1 406 w2.toInt.toNat)).2.2.1 from fun j hj hx => by
      show dw_up μ.2.2.1 432 (1427 + w2.toInt.toNat) (μ.2.2.1 406 w2.toInt.toNat) 432 (1427 + j) = dw_up μ.2.2.1 432 (1427 + w2.toInt.toNat) (μ.2.2.1 406 w2.toInt.toNat) 406 j
      rw [up_ne (a' := 406) (Or.inl (by decide))]
      by_cases e : j = w2.toInt.toNat
      · rw [e, up_at]
      · rw [up_ne (Or.inr (by omega))]; exact p0 j hj (by omega))⟩, ⟨by decide, (show fl_P 2 (ν 0 + 0) (dw_si μ 432 (1427 + w2.toInt.toNat) (μ.2.2.1 406 w2.toInt.toNat)).2.2.1 from up_keep 1427 2853 (by omega) (by omega) (by decide) p1)⟩, trivial⟩)
set_option maxHeartbeats 2000000 in
theorem sp_slZero {SH : dw_Sh} {TT : Nat → dw_T} {K : dw_K} (hE : (EE SH TT).ok) : dx_SOK (EE SH TT) (pr_X12_slugs K) 86 sg_slZero := by
  intro ν ls vs args rest μ bc bs hvs hargs hcat g hk
  obtain ⟨v0, v1, rfl, e0, e1⟩ := vs2 (f := fun i => ls[i]?) (a := 0) (b := 5) hvs
  obtain rfl := ar0 hargs
  obtain ⟨g0, g1, -⟩ := g.gl
  rw [show v0 = some (.ref 404) from gV_th g0] at e0
  obtain ⟨-, w1, h1, q1⟩ := g1
  rw [h1] at e1
  have b1 : (0 : Int) ≤ ν 1 ∧ ν 1 ≤ 143 := g.iv 1 (by decide)
  have z0 : ν 0 = 0 := g.z
  refine q_ald rfl e0 ?_
  have k404 : (μ.2.1 404).1 = 12 := by rw [g.sh]; exact (hE.sh 404).1
  have n404 : (μ.2.1 404).2.1 = 57 := by rw [g.sh]; exact (hE.sh 404).2.1
  have r404_45 : (μ.2.1 404).2.2 45 = some 425 := by rw [g.sh]; exact (hE.sh 404).2.2 45
  refine q_getr rfl k404 r404_45 ?_
  refine q_ild rfl e1 ?_
  have cst1 : (1 : Int32).toInt = 1 := rfl
  refine q_ic rfl ?_
  have k425 : (μ.2.1 425).1 = 16 := by rw [g.sh]; exact (hE.sh 425).1
  have n425 : (μ.2.1 425).2.1 = 144 := by rw [g.sh]; exact (hE.sh 425).2.1
  refine q_iast rfl k425 n425 (by omega) (by omega) ?_
  have hs := fl_sum_le (f := fl_cnt (dw_up μ.2.2.1 425 w1.toInt.toNat 1)) (l := 0) (u := 1) 144 (fun c _ => by unfold fl_cnt; split <;> omega)
  obtain ⟨ν', hag, hn0⟩ := nu1 ν 2 (fl_sum (fl_cnt (dw_up μ.2.2.1 425 w1.toInt.toNat 1)) 144)
  have a0 : ν' 0 = ν 0 := hag 0 (by decide)
  have a1 : ν' 1 = ν 1 := hag 1 (by decide)
  exact hk _ _ ν' [] (dw_si μ 425 w1.toInt.toNat 1) (List.Mem.head _) (post_mk g rfl (up_hi g.hi (hi425 _ (by omega) _)) (up_fr (List.Mem.head _)) (by decide) (by decide) hag ⟨(show (0 : Int) ≤ ν' 0 ∧ ν' 0 ≤ 0 from ⟨by omega, by omega⟩), (show (0 : Int) ≤ ν' 1 ∧ ν' 1 ≤ 143 from ⟨by omega, by omega⟩), (show (0 : Int) ≤ ν' 2 ∧ ν' 2 ≤ 144 from ⟨by omega, by omega⟩), trivial⟩ trivial trivial rfl trivial ⟨⟨by decide, (show fl_P 12 (ν' 2 + 0) (dw_si μ 425 w1.toInt.toNat 1).2.2.1 from by show ν' 2 + 0 = fl_sum (fl_cnt (dw_up μ.2.2.1 425 w1.toInt.toNat 1)) 144; omega)⟩, trivial⟩)
set_option maxHeartbeats 2000000 in
theorem sp_st13_0 {SH : dw_Sh} {TT : Nat → dw_T} {K : dw_K} (hE : (EE SH TT).ok) : dx_SOK (EE SH TT) (pr_X9_says K) 13 sg_st13_0 := by
  intro ν ls vs args rest μ bc bs hvs hargs hcat g hk
  obtain rfl := vs0 (f := fun i => ls[i]?) hvs
  obtain ⟨x0, rfl⟩ := ar1 hargs
  obtain ⟨g0, -⟩ := g.gl
  obtain rfl : x0 = .ref 1000001 := Option.some.inj (gV_th g0)
  have z0 : ν 0 = 0 := g.z
  have hs : dw_isS 1000001 := isS 0 (by decide)
  have hc : dw_cats rest ≤ 8 := by omega
  refine q_callT1 rfl hs hc (t_length hs ?_)
  rw [show Int32.ofNat (dw_sb (dw_sx 1000001)).length = 4 from by decide +kernel]
  exact hk _ _ ν [.int 4] (μ) (List.Mem.head _) (post_mk g rfl g.hi (fun _ _ => ⟨rfl, rfl⟩) (by decide) (by decide) (fun _ _ => rfl) ⟨(show (0 : Int) ≤ ν 0 ∧ ν 0 ≤ 0 from ⟨by omega, by omega⟩), trivial⟩ trivial ⟨⟨by decide, 4, rfl, by rw [z0]; rfl⟩, trivial⟩ rfl trivial trivial)
set_option maxHeartbeats 2000000 in
theorem sp_st13_5 {SH : dw_Sh} {TT : Nat → dw_T} {K : dw_K} (hE : (EE SH TT).ok) : dx_SOK (EE SH TT) (pr_X9_says K) 13 sg_st13_5 := by
  intro ν ls vs args rest μ bc bs hvs hargs hcat g hk
  obtain rfl := vs0 (f := fun i => ls[i]?) hvs
  obtain ⟨x0, rfl⟩ := ar1 hargs
  obtain ⟨g0, -⟩ := g.gl
  obtain rfl : x0 = .ref 1000006 := Option.some.inj (gV_th g0)
  have z0 : ν 0 = 0 := g.z
  have hs : dw_isS 1000006 := isS 5 (by decide)
  have hc : dw_cats rest ≤ 8 := by omega
  refine q_callT1 rfl hs hc (t_length hs ?_)
  rw [show Int32.ofNat (dw_sb (dw_sx 1000006)).length = 5 from by decide +kernel]
  exact hk _ _ ν [.int 5] (μ) (List.Mem.head _) (post_mk g rfl g.hi (fun _ _ => ⟨rfl, rfl⟩) (by decide) (by decide) (fun _ _ => rfl) ⟨(show (0 : Int) ≤ ν 0 ∧ ν 0 ≤ 0 from ⟨by omega, by omega⟩), trivial⟩ trivial ⟨⟨by decide, 5, rfl, by rw [z0]; rfl⟩, trivial⟩ rfl trivial trivial)
set_option maxHeartbeats 2000000 in
theorem sp_st13_10 {SH : dw_Sh} {TT : Nat → dw_T} {K : dw_K} (hE : (EE SH TT).ok) : dx_SOK (EE SH TT) (pr_X9_says K) 13 sg_st13_10 := by
  intro ν ls vs args rest μ bc bs hvs hargs hcat g hk
  obtain rfl := vs0 (f := fun i => ls[i]?) hvs
  obtain ⟨x0, rfl⟩ := ar1 hargs
  obtain ⟨g0, -⟩ := g.gl
  obtain rfl : x0 = .ref 1000011 := Option.some.inj (gV_th g0)
  have z0 : ν 0 = 0 := g.z
  have hs : dw_isS 1000011 := isS 10 (by decide)
  have hc : dw_cats rest ≤ 8 := by omega
  refine q_callT1 rfl hs hc (t_length hs ?_)
  rw [show Int32.ofNat (dw_sb (dw_sx 1000011)).length = 2 from by decide +kernel]
  exact hk _ _ ν [.int 2] (μ) (List.Mem.head _) (post_mk g rfl g.hi (fun _ _ => ⟨rfl, rfl⟩) (by decide) (by decide) (fun _ _ => rfl) ⟨(show (0 : Int) ≤ ν 0 ∧ ν 0 ≤ 0 from ⟨by omega, by omega⟩), trivial⟩ trivial ⟨⟨by decide, 2, rfl, by rw [z0]; rfl⟩, trivial⟩ rfl trivial trivial)
set_option maxHeartbeats 2000000 in
theorem sp_st13_15 {SH : dw_Sh} {TT : Nat → dw_T} {K : dw_K} (hE : (EE SH TT).ok) : dx_SOK (EE SH TT) (pr_X9_says K) 13 sg_st13_15 := by
  intro ν ls vs args rest μ bc bs hvs hargs hcat g hk
  obtain rfl := vs0 (f := fun i => ls[i]?) hvs
  obtain ⟨x0, rfl⟩ := ar1 hargs
  obtain ⟨g0, -⟩ := g.gl
  obtain rfl : x0 = .ref 1000016 := Option.some.inj (gV_th g0)
  have z0 : ν 0 = 0 := g.z
  have hs : dw_isS 1000016 := isS 15 (by decide)
  have hc : dw_cats rest ≤ 8 := by omega
  refine q_callT1 rfl hs hc (t_length hs ?_)
  rw [show Int32.ofNat (dw_sb (dw_sx 1000016)).length = 3 from by decide +kernel]
  exact hk _ _ ν [.int 3] (μ) (List.Mem.head _) (post_mk g rfl g.hi (fun _ _ => ⟨rfl, rfl⟩) (by decide) (by decide) (fun _ _ => rfl) ⟨(show (0 : Int) ≤ ν 0 ∧ ν 0 ≤ 0 from ⟨by omega, by omega⟩), trivial⟩ trivial ⟨⟨by decide, 3, rfl, by rw [z0]; rfl⟩, trivial⟩ rfl trivial trivial)
set_option maxHeartbeats 2000000 in
theorem sp_st13_20 {SH : dw_Sh} {TT : Nat → dw_T} {K : dw_K} (hE : (EE SH TT).ok) : dx_SOK (EE SH TT) (pr_X9_says K) 13 sg_st13_20 := by
  intro ν ls vs args rest μ bc bs hvs hargs hcat g hk
  obtain rfl := vs0 (f := fun i => ls[i]?) hvs
  obtain ⟨x0, rfl⟩ := ar1 hargs
  obtain ⟨g0, -⟩ := g.gl
  obtain rfl : x0 = .ref 1000021 := Option.some.inj (gV_th g0)
  have z0 : ν 0 = 0 := g.z
  have hs : dw_isS 1000021 := isS 20 (by decide)
  have hc : dw_cats rest ≤ 8 := by omega
  refine q_callT1 rfl hs hc (t_length hs ?_)
  rw [show Int32.ofNat (dw_sb (dw_sx 1000021)).length = 3 from by decide +kernel]
  exact hk _ _ ν [.int 3] (μ) (List.Mem.head _) (post_mk g rfl g.hi (fun _ _ => ⟨rfl, rfl⟩) (by decide) (by decide) (fun _ _ => rfl) ⟨(show (0 : Int) ≤ ν 0 ∧ ν 0 ≤ 0 from ⟨by omega, by omega⟩), trivial⟩ trivial ⟨⟨by decide, 3, rfl, by rw [z0]; rfl⟩, trivial⟩ rfl trivial trivial)
set_option maxHeartbeats 2000000 in
theorem sp_st13_25 {SH : dw_Sh} {TT : Nat → dw_T} {K : dw_K} (hE : (EE SH TT).ok) : dx_SOK (EE SH TT) (pr_X9_says K) 13 sg_st13_25 := by
  intro ν ls vs args rest μ bc bs hvs hargs hcat g hk
  obtain rfl := vs0 (f := fun i => ls[i]?) hvs
  obtain ⟨x0, rfl⟩ := ar1 hargs
  obtain ⟨g0, -⟩ := g.gl
  obtain rfl : x0 = .ref 1000026 := Option.some.inj (gV_th g0)
  have z0 : ν 0 = 0 := g.z
  have hs : dw_isS 1000026 := isS 25 (by decide)
  have hc : dw_cats rest ≤ 8 := by omega
  refine q_callT1 rfl hs hc (t_length hs ?_)
  rw [show Int32.ofNat (dw_sb (dw_sx 1000026)).length = 4 from by decide +kernel]
  exact hk _ _ ν [.int 4] (μ) (List.Mem.head _) (post_mk g rfl g.hi (fun _ _ => ⟨rfl, rfl⟩) (by decide) (by decide) (fun _ _ => rfl) ⟨(show (0 : Int) ≤ ν 0 ∧ ν 0 ≤ 0 from ⟨by omega, by omega⟩), trivial⟩ trivial ⟨⟨by decide, 4, rfl, by rw [z0]; rfl⟩, trivial⟩ rfl trivial trivial)
set_option maxHeartbeats 2000000 in
theorem sp_st25_4 {SH : dw_Sh} {TT : Nat → dw_T} {K : dw_K} (hE : (EE SH TT).ok) : dx_SOK (EE SH TT) (pr_X9_says K) 25 sg_st25_4 := by
  intro ν ls vs args rest μ bc bs hvs hargs hcat g hk
  obtain rfl := vs0 (f := fun i => ls[i]?) hvs
  obtain ⟨x0, rfl⟩ := ar1 hargs
  obtain ⟨g0, -⟩ := g.gl
  obtain rfl : x0 = .ref 1000005 := Option.some.inj (gV_th g0)
  have z0 : ν 0 = 0 := g.z
  have hs : dw_isS 1000005 := isS 4 (by decide)
  have hc : dw_cats rest ≤ 8 := by omega
  refine q_callT1 rfl hs hc (t_length hs ?_)
  rw [show Int32.ofNat (dw_sb (dw_sx 1000005)).length = 5 from by decide +kernel]
  exact hk _ _ ν [.int 5] (μ) (List.Mem.head _) (post_mk g rfl g.hi (fun _ _ => ⟨rfl, rfl⟩) (by decide) (by decide) (fun _ _ => rfl) ⟨(show (0 : Int) ≤ ν 0 ∧ ν 0 ≤ 0 from ⟨by omega, by omega⟩), trivial⟩ trivial ⟨⟨by decide, 5, rfl, by rw [z0]; rfl⟩, trivial⟩ rfl trivial trivial)
set_option maxHeartbeats 2000000 in
theorem sp_st25_9 {SH : dw_Sh} {TT : Nat → dw_T} {K : dw_K} (hE : (EE SH TT).ok) : dx_SOK (EE SH TT) (pr_X9_says K) 25 sg_st25_9 := by
  intro ν ls vs args rest μ bc bs hvs hargs hcat g hk
  obtain rfl := vs0 (f := fun i => ls[i]?) hvs
  obtain ⟨x0, rfl⟩ := ar1 hargs
  obtain ⟨g0, -⟩ := g.gl
  obtain rfl : x0 = .ref 1000010 := Option.some.inj (gV_th g0)
  have z0 : ν 0 = 0 := g.z
  have hs : dw_isS 1000010 := isS 9 (by decide)
  have hc : dw_cats rest ≤ 8 := by omega
  refine q_callT1 rfl hs hc (t_length hs ?_)
  rw [show Int32.ofNat (dw_sb (dw_sx 1000010)).length = 3 from by decide +kernel]
  exact hk _ _ ν [.int 3] (μ) (List.Mem.head _) (post_mk g rfl g.hi (fun _ _ => ⟨rfl, rfl⟩) (by decide) (by decide) (fun _ _ => rfl) ⟨(show (0 : Int) ≤ ν 0 ∧ ν 0 ≤ 0 from ⟨by omega, by omega⟩), trivial⟩ trivial ⟨⟨by decide, 3, rfl, by rw [z0]; rfl⟩, trivial⟩ rfl trivial trivial)
set_option maxHeartbeats 2000000 in
theorem sp_st25_14 {SH : dw_Sh} {TT : Nat → dw_T} {K : dw_K} (hE : (EE SH TT).ok) : dx_SOK (EE SH TT) (pr_X9_says K) 25 sg_st25_14 := by
  intro ν ls vs args rest μ bc bs hvs hargs hcat g hk
  obtain rfl := vs0 (f := fun i => ls[i]?) hvs
  obtain ⟨x0, rfl⟩ := ar1 hargs
  obtain ⟨g0, -⟩ := g.gl
  obtain rfl : x0 = .ref 1000015 := Option.some.inj (gV_th g0)
  have z0 : ν 0 = 0 := g.z
  have hs : dw_isS 1000015 := isS 14 (by decide)
  have hc : dw_cats rest ≤ 8 := by omega
  refine q_callT1 rfl hs hc (t_length hs ?_)
  rw [show Int32.ofNat (dw_sb (dw_sx 1000015)).length = 5 from by decide +kernel]
  exact hk _ _ ν [.int 5] (μ) (List.Mem.head _) (post_mk g rfl g.hi (fun _ _ => ⟨rfl, rfl⟩) (by decide) (by decide) (fun _ _ => rfl) ⟨(show (0 : Int) ≤ ν 0 ∧ ν 0 ≤ 0 from ⟨by omega, by omega⟩), trivial⟩ trivial ⟨⟨by decide, 5, rfl, by rw [z0]; rfl⟩, trivial⟩ rfl trivial trivial)
set_option maxHeartbeats 2000000 in
theorem sp_st25_19 {SH : dw_Sh} {TT : Nat → dw_T} {K : dw_K} (hE : (EE SH TT).ok) : dx_SOK (EE SH TT) (pr_X9_says K) 25 sg_st25_19 := by
  intro ν ls vs args rest μ bc bs hvs hargs hcat g hk
  obtain rfl := vs0 (f := fun i => ls[i]?) hvs
  obtain ⟨x0, rfl⟩ := ar1 hargs
  obtain ⟨g0, -⟩ := g.gl
  obtain rfl : x0 = .ref 1000020 := Option.some.inj (gV_th g0)
  have z0 : ν 0 = 0 := g.z
  have hs : dw_isS 1000020 := isS 19 (by decide)
  have hc : dw_cats rest ≤ 8 := by omega
  refine q_callT1 rfl hs hc (t_length hs ?_)
  rw [show Int32.ofNat (dw_sb (dw_sx 1000020)).length = 4 from by decide +kernel]
  exact hk _ _ ν [.int 4] (μ) (List.Mem.head _) (post_mk g rfl g.hi (fun _ _ => ⟨rfl, rfl⟩) (by decide) (by decide) (fun _ _ => rfl) ⟨(show (0 : Int) ≤ ν 0 ∧ ν 0 ≤ 0 from ⟨by omega, by omega⟩), trivial⟩ trivial ⟨⟨by decide, 4, rfl, by rw [z0]; rfl⟩, trivial⟩ rfl trivial trivial)
set_option maxHeartbeats 2000000 in
theorem sp_st25_24 {SH : dw_Sh} {TT : Nat → dw_T} {K : dw_K} (hE : (EE SH TT).ok) : dx_SOK (EE SH TT) (pr_X9_says K) 25 sg_st25_24 := by
  intro ν ls vs args rest μ bc bs hvs hargs hcat g hk
  obtain rfl := vs0 (f := fun i => ls[i]?) hvs
  obtain ⟨x0, rfl⟩ := ar1 hargs
  obtain ⟨g0, -⟩ := g.gl
  obtain rfl : x0 = .ref 1000025 := Option.some.inj (gV_th g0)
  have z0 : ν 0 = 0 := g.z
  have hs : dw_isS 1000025 := isS 24 (by decide)
  have hc : dw_cats rest ≤ 8 := by omega
  refine q_callT1 rfl hs hc (t_length hs ?_)
  rw [show Int32.ofNat (dw_sb (dw_sx 1000025)).length = 5 from by decide +kernel]
  exact hk _ _ ν [.int 5] (μ) (List.Mem.head _) (post_mk g rfl g.hi (fun _ _ => ⟨rfl, rfl⟩) (by decide) (by decide) (fun _ _ => rfl) ⟨(show (0 : Int) ≤ ν 0 ∧ ν 0 ≤ 0 from ⟨by omega, by omega⟩), trivial⟩ trivial ⟨⟨by decide, 5, rfl, by rw [z0]; rfl⟩, trivial⟩ rfl trivial trivial)
set_option maxHeartbeats 2000000 in
theorem sp_st43_3 {SH : dw_Sh} {TT : Nat → dw_T} {K : dw_K} (hE : (EE SH TT).ok) : dx_SOK (EE SH TT) (pr_X9_says K) 43 sg_st43_3 := by
  intro ν ls vs args rest μ bc bs hvs hargs hcat g hk
  obtain rfl := vs0 (f := fun i => ls[i]?) hvs
  obtain ⟨x0, x1, rfl⟩ := ar2 hargs
  obtain ⟨g0, g1, -⟩ := g.gl
  obtain rfl : x0 = .ref 1000004 := Option.some.inj (gV_th g0)
  obtain ⟨-, w1, h1, q1⟩ := g1
  obtain rfl : x1 = .int w1 := Option.some.inj h1
  have b1 : (0 : Int) ≤ ν 1 ∧ ν 1 ≤ 2 := g.iv 1 (by decide)
  have z0 : ν 0 = 0 := g.z
  have hs : dw_isS 1000004 := isS 3 (by decide)
  have hc : dw_cats rest ≤ 8 := by omega
  have hn : (dw_sb (dw_sx 1000004)).length = 3 := by decide +kernel
  refine q_callT2 rfl hs hc (t_charAt hs (by omega) (by rw [hn]; omega) (by decide +kernel) (fun w l1 l2 => ?_))
  obtain ⟨ν', hag, hn0⟩ := nu1 ν 2 (w.toInt)
  have a0 : ν' 0 = ν 0 := hag 0 (by decide)
  have a1 : ν' 1 = ν 1 := hag 1 (by decide)
  exact hk _ _ ν' [.int w] (μ) (List.Mem.head _) (post_mk g rfl g.hi (fun _ _ => ⟨rfl, rfl⟩) (by decide) (by decide) hag ⟨(show (0 : Int) ≤ ν' 0 ∧ ν' 0 ≤ 0 from ⟨by omega, by omega⟩), (show (0 : Int) ≤ ν' 1 ∧ ν' 1 ≤ 2 from ⟨by omega, by omega⟩), (show (0 : Int) ≤ ν' 2 ∧ ν' 2 ≤ 65535 from ⟨by omega, by omega⟩), trivial⟩ trivial ⟨⟨by decide, w, rfl, by show _ = ν' 2 + 0; omega⟩, trivial⟩ rfl trivial trivial)
set_option maxHeartbeats 2000000 in
theorem sp_st43_8 {SH : dw_Sh} {TT : Nat → dw_T} {K : dw_K} (hE : (EE SH TT).ok) : dx_SOK (EE SH TT) (pr_X9_says K) 43 sg_st43_8 := by
  intro ν ls vs args rest μ bc bs hvs hargs hcat g hk
  obtain rfl := vs0 (f := fun i => ls[i]?) hvs
  obtain ⟨x0, x1, rfl⟩ := ar2 hargs
  obtain ⟨g0, g1, -⟩ := g.gl
  obtain rfl : x0 = .ref 1000009 := Option.some.inj (gV_th g0)
  obtain ⟨-, w1, h1, q1⟩ := g1
  obtain rfl : x1 = .int w1 := Option.some.inj h1
  have b1 : (0 : Int) ≤ ν 1 ∧ ν 1 ≤ 2 := g.iv 1 (by decide)
  have z0 : ν 0 = 0 := g.z
  have hs : dw_isS 1000009 := isS 8 (by decide)
  have hc : dw_cats rest ≤ 8 := by omega
  have hn : (dw_sb (dw_sx 1000009)).length = 3 := by decide +kernel
  refine q_callT2 rfl hs hc (t_charAt hs (by omega) (by rw [hn]; omega) (by decide +kernel) (fun w l1 l2 => ?_))
  obtain ⟨ν', hag, hn0⟩ := nu1 ν 2 (w.toInt)
  have a0 : ν' 0 = ν 0 := hag 0 (by decide)
  have a1 : ν' 1 = ν 1 := hag 1 (by decide)
  exact hk _ _ ν' [.int w] (μ) (List.Mem.head _) (post_mk g rfl g.hi (fun _ _ => ⟨rfl, rfl⟩) (by decide) (by decide) hag ⟨(show (0 : Int) ≤ ν' 0 ∧ ν' 0 ≤ 0 from ⟨by omega, by omega⟩), (show (0 : Int) ≤ ν' 1 ∧ ν' 1 ≤ 2 from ⟨by omega, by omega⟩), (show (0 : Int) ≤ ν' 2 ∧ ν' 2 ≤ 65535 from ⟨by omega, by omega⟩), trivial⟩ trivial ⟨⟨by decide, w, rfl, by show _ = ν' 2 + 0; omega⟩, trivial⟩ rfl trivial trivial)
set_option maxHeartbeats 2000000 in
theorem sp_st43_13 {SH : dw_Sh} {TT : Nat → dw_T} {K : dw_K} (hE : (EE SH TT).ok) : dx_SOK (EE SH TT) (pr_X9_says K) 43 sg_st43_13 := by
  intro ν ls vs args rest μ bc bs hvs hargs hcat g hk
  obtain rfl := vs0 (f := fun i => ls[i]?) hvs
  obtain ⟨x0, x1, rfl⟩ := ar2 hargs
  obtain ⟨g0, g1, -⟩ := g.gl
  obtain rfl : x0 = .ref 1000014 := Option.some.inj (gV_th g0)
  obtain ⟨-, w1, h1, q1⟩ := g1
  obtain rfl : x1 = .int w1 := Option.some.inj h1
  have b1 : (0 : Int) ≤ ν 1 ∧ ν 1 ≤ 3 := g.iv 1 (by decide)
  have z0 : ν 0 = 0 := g.z
  have hs : dw_isS 1000014 := isS 13 (by decide)
  have hc : dw_cats rest ≤ 8 := by omega
  have hn : (dw_sb (dw_sx 1000014)).length = 4 := by decide +kernel
  refine q_callT2 rfl hs hc (t_charAt hs (by omega) (by rw [hn]; omega) (by decide +kernel) (fun w l1 l2 => ?_))
  obtain ⟨ν', hag, hn0⟩ := nu1 ν 2 (w.toInt)
  have a0 : ν' 0 = ν 0 := hag 0 (by decide)
  have a1 : ν' 1 = ν 1 := hag 1 (by decide)
  exact hk _ _ ν' [.int w] (μ) (List.Mem.head _) (post_mk g rfl g.hi (fun _ _ => ⟨rfl, rfl⟩) (by decide) (by decide) hag ⟨(show (0 : Int) ≤ ν' 0 ∧ ν' 0 ≤ 0 from ⟨by omega, by omega⟩), (show (0 : Int) ≤ ν' 1 ∧ ν' 1 ≤ 3 from ⟨by omega, by omega⟩), (show (0 : Int) ≤ ν' 2 ∧ ν' 2 ≤ 65535 from ⟨by omega, by omega⟩), trivial⟩ trivial ⟨⟨by decide, w, rfl, by show _ = ν' 2 + 0; omega⟩, trivial⟩ rfl trivial trivial)
set_option maxHeartbeats 2000000 in
theorem sp_st43_18 {SH : dw_Sh} {TT : Nat → dw_T} {K : dw_K} (hE : (EE SH TT).ok) : dx_SOK (EE SH TT) (pr_X9_says K) 43 sg_st43_18 := by
  intro ν ls vs args rest μ bc bs hvs hargs hcat g hk
  obtain rfl := vs0 (f := fun i => ls[i]?) hvs
  obtain ⟨x0, x1, rfl⟩ := ar2 hargs
  obtain ⟨g0, g1, -⟩ := g.gl
  obtain rfl : x0 = .ref 1000019 := Option.some.inj (gV_th g0)
  obtain ⟨-, w1, h1, q1⟩ := g1
  obtain rfl : x1 = .int w1 := Option.some.inj h1
  have b1 : (0 : Int) ≤ ν 1 ∧ ν 1 ≤ 4 := g.iv 1 (by decide)
  have z0 : ν 0 = 0 := g.z
  have hs : dw_isS 1000019 := isS 18 (by decide)
  have hc : dw_cats rest ≤ 8 := by omega
  have hn : (dw_sb (dw_sx 1000019)).length = 5 := by decide +kernel
  refine q_callT2 rfl hs hc (t_charAt hs (by omega) (by rw [hn]; omega) (by decide +kernel) (fun w l1 l2 => ?_))
  obtain ⟨ν', hag, hn0⟩ := nu1 ν 2 (w.toInt)
  have a0 : ν' 0 = ν 0 := hag 0 (by decide)
  have a1 : ν' 1 = ν 1 := hag 1 (by decide)
  exact hk _ _ ν' [.int w] (μ) (List.Mem.head _) (post_mk g rfl g.hi (fun _ _ => ⟨rfl, rfl⟩) (by decide) (by decide) hag ⟨(show (0 : Int) ≤ ν' 0 ∧ ν' 0 ≤ 0 from ⟨by omega, by omega⟩), (show (0 : Int) ≤ ν' 1 ∧ ν' 1 ≤ 4 from ⟨by omega, by omega⟩), (show (0 : Int) ≤ ν' 2 ∧ ν' 2 ≤ 65535 from ⟨by omega, by omega⟩), trivial⟩ trivial ⟨⟨by decide, w, rfl, by show _ = ν' 2 + 0; omega⟩, trivial⟩ rfl trivial trivial)
set_option maxHeartbeats 2000000 in
theorem sp_st43_23 {SH : dw_Sh} {TT : Nat → dw_T} {K : dw_K} (hE : (EE SH TT).ok) : dx_SOK (EE SH TT) (pr_X9_says K) 43 sg_st43_23 := by
  intro ν ls vs args rest μ bc bs hvs hargs hcat g hk
  obtain rfl := vs0 (f := fun i => ls[i]?) hvs
  obtain ⟨x0, x1, rfl⟩ := ar2 hargs
  obtain ⟨g0, g1, -⟩ := g.gl
  obtain rfl : x0 = .ref 1000024 := Option.some.inj (gV_th g0)
  obtain ⟨-, w1, h1, q1⟩ := g1
  obtain rfl : x1 = .int w1 := Option.some.inj h1
  have b1 : (0 : Int) ≤ ν 1 ∧ ν 1 ≤ 3 := g.iv 1 (by decide)
  have z0 : ν 0 = 0 := g.z
  have hs : dw_isS 1000024 := isS 23 (by decide)
  have hc : dw_cats rest ≤ 8 := by omega
  have hn : (dw_sb (dw_sx 1000024)).length = 4 := by decide +kernel
  refine q_callT2 rfl hs hc (t_charAt hs (by omega) (by rw [hn]; omega) (by decide +kernel) (fun w l1 l2 => ?_))
  obtain ⟨ν', hag, hn0⟩ := nu1 ν 2 (w.toInt)
  have a0 : ν' 0 = ν 0 := hag 0 (by decide)
  have a1 : ν' 1 = ν 1 := hag 1 (by decide)
  exact hk _ _ ν' [.int w] (μ) (List.Mem.head _) (post_mk g rfl g.hi (fun _ _ => ⟨rfl, rfl⟩) (by decide) (by decide) hag ⟨(show (0 : Int) ≤ ν' 0 ∧ ν' 0 ≤ 0 from ⟨by omega, by omega⟩), (show (0 : Int) ≤ ν' 1 ∧ ν' 1 ≤ 3 from ⟨by omega, by omega⟩), (show (0 : Int) ≤ ν' 2 ∧ ν' 2 ≤ 65535 from ⟨by omega, by omega⟩), trivial⟩ trivial ⟨⟨by decide, w, rfl, by show _ = ν' 2 + 0; omega⟩, trivial⟩ rfl trivial trivial)
end
section
set_option maxHeartbeats 2000000 in
theorem sp_loadsKind0 {SH : dw_Sh} {TT : Nat → dw_T} {K : dw_K} (hE : (EE SH TT).ok) : dx_SOK (EE SH TT) (pr_X12_loads K) 53 sg_loadsKind0 := by
  intro ν ls vs args rest μ bc bs hvs hargs hcat g hk
  obtain ⟨v0, rfl, e0⟩ := vs1 (f := fun i => ls[i]?) (a := 0) hvs
  obtain rfl := ar0 hargs
  obtain ⟨g0, -⟩ := g.gl
  rw [show v0 = some (.ref 404) from gV_th g0] at e0
  have f0 : (μ.2.2.1 406 0).toInt = ν 0 + 0 := (g.fa _ (List.Mem.head _)).2
  have z0 : ν 0 = 0 := g.z
  have cst0 : (0 : Int32).toInt = 0 := rfl
  refine q_ic rfl ?_
  exact hk _ _ ν [.int 0] (μ) (List.Mem.head _) (post_mk g rfl g.hi (fun _ _ => ⟨rfl, rfl⟩) (by decide) (by decide) (fun _ _ => rfl) ⟨(show (0 : Int) ≤ ν 0 ∧ ν 0 ≤ 0 from ⟨by omega, by omega⟩), trivial⟩ trivial ⟨⟨by decide, 0, rfl, by rw [z0]; rfl⟩, trivial⟩ rfl trivial ⟨⟨by decide, (show fl_P 5 (ν 0 + 0) (μ).2.2.1 from by show ν 0 + 0 = (μ.2.2.1 406 0).toInt * (μ.2.2.1 406 1).toInt; rw [f0, z0]; simp)⟩, ⟨by decide, (show fl_P 4 (ν 0 + 0) (μ).2.2.1 from fun c _ hc => absurd hc (by omega))⟩, trivial⟩)
set_option maxHeartbeats 2000000 in
theorem sp_gZero0 {SH : dw_Sh} {TT : Nat → dw_T} {K : dw_K} (hE : (EE SH TT).ok) : dx_SOK (EE SH TT) (pr_X12_ground K) 27 sg_gZero0 := by
  intro ν ls vs args rest μ bc bs hvs hargs hcat g hk
  obtain ⟨v0, rfl, e0⟩ := vs1 (f := fun i => ls[i]?) (a := 0) hvs
  obtain rfl := ar0 hargs
  obtain ⟨g0, -⟩ := g.gl
  rw [show v0 = some (.ref 404) from gV_th g0] at e0
  have z0 : ν 0 = 0 := g.z
  have cst0 : (0 : Int32).toInt = 0 := rfl
  refine q_ic rfl ?_
  exact hk _ _ ν [.int 0] (μ) (List.Mem.head _) (post_mk g rfl g.hi (fun _ _ => ⟨rfl, rfl⟩) (by decide) (by decide) (fun _ _ => rfl) ⟨(show (0 : Int) ≤ ν 0 ∧ ν 0 ≤ 0 from ⟨by omega, by omega⟩), trivial⟩ trivial ⟨⟨by decide, 0, rfl, by rw [z0]; rfl⟩, trivial⟩ rfl trivial ⟨⟨by decide, (show fl_P 22 (ν 0 + 0) (μ).2.2.1 from fun j _ hj => absurd hj (by omega))⟩, trivial⟩)
set_option maxHeartbeats 2000000 in
theorem sp_gCopyEnd {SH : dw_Sh} {TT : Nat → dw_T} {K : dw_K} (hE : (EE SH TT).ok) : dx_SOK (EE SH TT) (pr_X12_ground K) 143 sg_gCopyEnd := by
  intro ν ls vs args rest μ bc bs hvs hargs hcat g hk
  obtain ⟨v0, rfl, e0⟩ := vs1 (f := fun i => ls[i]?) (a := 0) hvs
  obtain rfl := ar0 hargs
  obtain ⟨g0, -⟩ := g.gl
  rw [show v0 = some (.ref 404) from gV_th g0] at e0
  have p0 : fl_P 14 (ν 0 + 1427) μ.2.2.1 := (g.fl _ (List.Mem.head _)).2
  have p1 : fl_P 1 (ν 0 + 0) μ.2.2.1 := (g.fl _ (List.Mem.tail _ (List.Mem.head _))).2
  have z0 : ν 0 = 0 := g.z
  have cst0 : (0 : Int32).toInt = 0 := rfl
  refine q_ic rfl ?_
  obtain ⟨u1, u2, u3⟩ := p1
  simp only [Nat.zero_add] at u1 u2 u3
  have cp : ∀ j : Nat, j < 221 → μ.2.2.1 406 j = μ.2.2.1 407 j := fun j hj => by rw [p0 j (by omega) (by omega), if_pos hj]
  exact hk _ _ ν [.int 0] (μ) (List.Mem.head _) (post_mk g rfl g.hi (fun _ _ => ⟨rfl, rfl⟩) (by decide) (by decide) (fun _ _ => rfl) ⟨(show (0 : Int) ≤ ν 0 ∧ ν 0 ≤ 0 from ⟨by omega, by omega⟩), trivial⟩ trivial ⟨⟨by decide, 0, rfl, by rw [z0]; rfl⟩, trivial⟩ rfl trivial ⟨⟨by decide, (show fl_P 0 (ν 0 + 0) (μ).2.2.1 from ⟨fun k hk hx => by rw [Nat.zero_add] at hx ⊢; rw [cp 2 (by decide)] at hx; rw [cp _ (by omega)]; exact u1 k hk hx, fun c hc => by rw [Nat.zero_add, Nat.zero_add, cp _ (by omega), cp 2 (by decide)]; exact u2 c hc, fun hr => by rw [Nat.zero_add] at hr ⊢; rw [cp 1 (by decide)] at hr; rw [cp 2 (by decide)]; exact u3 hr⟩)⟩, ⟨by decide, (show fl_P 6 (ν 0 + 0) (μ).2.2.1 from fun i hi hx => by rw [show μ.2.2.1 406 (0 + 803) = 0 by rw [Nat.zero_add, p0 803 (by decide) (by omega), if_neg (by decide)]] at hx; exact absurd hx (by have : (0 : Int32).toInt = 0 := rfl; omega))⟩, trivial⟩)
set_option maxHeartbeats 2000000 in
theorem sp_rrStore {SH : dw_Sh} {TT : Nat → dw_T} {K : dw_K} (hE : (EE SH TT).ok) : dx_SOK (EE SH TT) (pr_X12_readRow K) 138 sg_rrStore := by
  intro ν ls vs args rest μ bc bs hvs hargs hcat g hk
  obtain ⟨v0, v1, v2, rfl, e0, e1, e2⟩ := vs3 (f := fun i => ls[i]?) (a := 0) (b := 1) (c := 3) hvs
  obtain rfl := ar0 hargs
  obtain ⟨g0, g1, g2, -⟩ := g.gl
  rw [show v0 = some (.ref 404) from gV_th g0] at e0
  obtain ⟨-, w1, h1, q1⟩ := g1
  rw [h1] at e1
  obtain ⟨-, w2, h2, q2⟩ := g2
  rw [h2] at e2
  have f0 : (μ.2.2.1 404 13).toInt = ν 3 + 0 := (g.fa _ (List.Mem.head _)).2
  have f1 : (μ.2.2.1 404 12).toInt = ν 4 + 0 := (g.fa _ (List.Mem.tail _ (List.Mem.head _))).2
  have f2 : (μ.2.2.1 407 2).toInt = ν 5 + 0 := (g.fa _ (List.Mem.tail _ (List.Mem.tail _ (List.Mem.head _)))).2
  have f3 : (μ.2.2.1 404 11).toInt = ν 0 + 1 := (g.fa _ (List.Mem.tail _ (List.Mem.tail _ (List.Mem.tail _ (List.Mem.head _))))).2
  have f4 : (μ.2.2.1 407 0).toInt = ν 6 + 0 := (g.fa _ (List.Mem.tail _ (List.Mem.tail _ (List.Mem.tail _ (List.Mem.tail _ (List.Mem.head _)))))).2
  have f5 : (μ.2.2.1 407 1).toInt = ν 1 + 0 := (g.fa _ (List.Mem.tail _ (List.Mem.tail _ (List.Mem.tail _ (List.Mem.tail _ (List.Mem.tail _ (List.Mem.head _))))))).2
  have f6 : (μ.2.2.1 407 3).toInt = ν 7 + 0 := (g.fa _ (List.Mem.tail _ (List.Mem.tail _ (List.Mem.tail _ (List.Mem.tail _ (List.Mem.tail _ (List.Mem.tail _ (List.Mem.head _)))))))).2
  have p0 : fl_P 8 (ν 0 + 0) μ.2.2.1 := (g.fl _ (List.Mem.head _)).2
  have p1 : fl_P 9 (ν 8 + 0) μ.2.2.1 := (g.fl _ (List.Mem.tail _ (List.Mem.head _))).2
  have p2 : fl_P 1 (ν 0 + 0) μ.2.2.1 := (g.fl _ (List.Mem.tail _ (List.Mem.tail _ (List.Mem.head _)))).2
  have b1 : (0 : Int) ≤ ν 1 ∧ ν 1 ≤ 11 := g.iv 1 (by decide)
  have b2 : (0 : Int) ≤ ν 2 ∧ ν 2 ≤ 11 := g.iv 2 (by decide)
  have b3 : (1 : Int) ≤ ν 3 ∧ ν 3 ≤ 12 := g.iv 3 (by decide)
  have b4 : (0 : Int) ≤ ν 4 ∧ ν 4 ≤ 940 := g.iv 4 (by decide)
  have b5 : (0 : Int) ≤ ν 5 ∧ ν 5 ≤ 8 := g.iv 5 (by decide)
  have b6 : (0 : Int) ≤ ν 6 ∧ ν 6 ≤ 12 := g.iv 6 (by decide)
  have b7 : (-2147483648 : Int) ≤ ν 7 ∧ ν 7 ≤ 2147483647 := g.iv 7 (by decide)
  have b8 : (-2147483648 : Int) ≤ ν 8 ∧ ν 8 ≤ 2147483647 := g.iv 8 (by decide)
  have d0 : ν 2 - ν 3 ≤ (-1) := (g.dc _ (List.Mem.head _)).2.2
  have d1 : ν 2 - ν 8 ≤ (-1) := (g.dc _ (List.Mem.tail _ (List.Mem.head _))).2.2
  have z0 : ν 0 = 0 := g.z
  obtain ⟨l0, l1, l2⟩ := p0 (by omega)
  have k404 : (μ.2.1 404).1 = 12 := by rw [g.sh]; exact (hE.sh 404).1
  have n404 : (μ.2.1 404).2.1 = 57 := by rw [g.sh]; exact (hE.sh 404).2.1
  have k407 : (μ.2.1 407).1 = 16 := by rw [g.sh]; exact (hE.sh 407).1
  have n407 : (μ.2.1 407).2.1 = 221 := by rw [g.sh]; exact (hE.sh 407).2.1
  have k405 : (μ.2.1 405).1 = 18 := by rw [g.sh]; exact (hE.sh 405).1
  have n405 : (μ.2.1 405).2.1 = 940 := by rw [g.sh]; exact (hE.sh 405).2.1
  have r404_7 : (μ.2.1 404).2.2 7 = some 407 := by rw [g.sh]; exact (hE.sh 404).2.2 7
  have r404_1 : (μ.2.1 404).2.2 1 = some 405 := by rw [g.sh]; exact (hE.sh 404).2.2 1
  refine q_ald rfl e0 ?_
  refine q_getr rfl k404 r404_7 ?_
  refine q_ic rfl ?_
  refine q_ald rfl e0 ?_
  refine q_geti rfl k404 ?_
  refine q_ild rfl e1 ?_
  refine q_mul rfl ?_
  refine q_add rfl ?_
  refine q_ild rfl e2 ?_
  refine q_add rfl ?_
  have c29 : (29 : Int32).toInt = 29 := rfl
  have c97 : (97 : Int32).toInt = 97 := rfl
  have m1 : 0 ≤ (μ.2.2.1 404 13).toInt * w1.toInt := Int.mul_nonneg (by omega) (by omega)
  have m2 : (μ.2.2.1 404 13).toInt * w1.toInt ≤ 12 * 11 := Int.mul_le_mul (by omega) (by omega) (by omega) (by omega)
  have t1 : ((μ.2.2.1 404 13) * w1).toInt = (μ.2.2.1 404 13).toInt * w1.toInt := i_mul rfl (by omega) (by omega)
  have t2 : ((29 : Int32) + ((μ.2.2.1 404 13) * w1)).toInt = 29 + (μ.2.2.1 404 13).toInt * w1.toInt := by rw [i_add (by omega) (by omega)]; omega
  have t3 : ((29 : Int32) + ((μ.2.2.1 404 13) * w1) + w2).toInt = 29 + (μ.2.2.1 404 13).toInt * w1.toInt + w2.toInt := by rw [i_add (by omega) (by omega)]; omega
  refine q_ald rfl e0 ?_
  refine q_ald rfl e0 ?_
  refine q_geti rfl k404 ?_
  refine q_ild rfl e2 ?_
  refine q_add rfl ?_
  have t4 : ((μ.2.2.1 404 12) + w2).toInt = (μ.2.2.1 404 12).toInt + w2.toInt := i_add (by omega) (by omega)
  refine q_octet rfl k404 r404_1 k405 n405 (show 1 + (1 + dw_cats rest) ≤ 8 by omega) (by omega) (by omega) ?_
  refine q_ic rfl ?_
  refine q_sub rfl ?_
  have en : ((μ.2.2.1 404 12) + w2).toInt.toNat = (μ.2.2.1 404 12).toInt.toNat + w2.toInt.toNat := by omega
  rw [en]
  have eo : (μ.2.2.1 405 ((μ.2.2.1 404 12).toInt.toNat + w2.toInt.toNat) &&& 255).toInt = fl_oc μ.2.2.1 ((μ.2.2.1 404 12).toInt.toNat + w2.toInt.toNat) := rfl
  have ho := l2 w2.toInt.toNat (by omega)
  have hk2 := p1 w2.toInt.toNat (by omega) (by omega)
  have es : ((μ.2.2.1 405 ((μ.2.2.1 404 12).toInt.toNat + w2.toInt.toNat) &&& 255) - 97).toInt = fl_oc μ.2.2.1 ((μ.2.2.1 404 12).toInt.toNat + w2.toInt.toNat) - 97 := by rw [i_sub (by omega) (by omega)]; omega
  refine q_iast rfl k407 n407 (by omega) (by omega) ?_
  obtain ⟨i, hi⟩ : ∃ i, ((29 : Int32) + ((μ.2.2.1 404 13) * w1) + w2).toInt.toNat = 29 + i := ⟨((29 : Int32) + ((μ.2.2.1 404 13) * w1) + w2).toInt.toNat - 29, by omega⟩
  have hi2 : i < 144 := by omega
  rw [hi]
  generalize hv : (μ.2.2.1 405 ((μ.2.2.1 404 12).toInt.toNat + w2.toInt.toNat) &&& 255) - 97 = v at *
  obtain ⟨u1, u2, u3⟩ := p2
  simp only [Nat.zero_add] at u1 u2 u3
  exact hk _ _ ν [] (dw_si μ 407 (29 + i) v) (List.Mem.head _) (post_mk g rfl (up_hi g.hi (by rw [show dx_seg ((EE SH TT).ce 407).iv (29 + i) = (0, 7) from hi407k _ (by omega)]; exact (⟨by show (0 : Int) ≤ _; omega, by show _ ≤ (7 : Int); omega⟩ : dx_in (0, 7) v.toInt))) (up_fr (List.Mem.head _)) (by decide) (by decide) (fun _ _ => rfl) ⟨(show (0 : Int) ≤ ν 0 ∧ ν 0 ≤ 0 from ⟨by omega, by omega⟩), (show (0 : Int) ≤ ν 1 ∧ ν 1 ≤ 11 from ⟨by omega, by omega⟩), (show (0 : Int) ≤ ν 2 ∧ ν 2 ≤ 11 from ⟨by omega, by omega⟩), (show (1 : Int) ≤ ν 3 ∧ ν 3 ≤ 12 from ⟨by omega, by omega⟩), (show (0 : Int) ≤ ν 4 ∧ ν 4 ≤ 940 from ⟨by omega, by omega⟩), (show (0 : Int) ≤ ν 5 ∧ ν 5 ≤ 8 from ⟨by omega, by omega⟩), (show (0 : Int) ≤ ν 6 ∧ ν 6 ≤ 12 from ⟨by omega, by omega⟩), (show (-2147483648 : Int) ≤ ν 7 ∧ ν 7 ≤ 2147483647 from ⟨by omega, by omega⟩), (show (-2147483648 : Int) ≤ ν 8 ∧ ν 8 ≤ 2147483647 from ⟨by omega, by omega⟩), trivial⟩ trivial trivial rfl ⟨⟨by decide, (show ((dw_si μ 407 (29 + i) v).2.2.1 407 2).toInt = ν 5 + 0 from up_eq (Or.inr (by omega)) f2)⟩, ⟨by decide, (show ((dw_si μ 407 (29 + i) v).2.2.1 407 0).toInt = ν 6 + 0 from up_eq (Or.inr (by omega)) f4)⟩, ⟨by decide, (show ((dw_si μ 407 (29 + i) v).2.2.1 407 1).toInt = ν 1 + 0 from up_eq (Or.inr (by omega)) f5)⟩, ⟨by decide, (show ((dw_si μ 407 (29 + i) v).2.2.1 407 3).toInt = ν 7 + 0 from up_eq (Or.inr (by omega)) f6)⟩, trivial⟩ ⟨⟨by decide, (show fl_P 9 (ν 8 + 0) (dw_si μ 407 (29 + i) v).2.2.1 from fun j hj hx => by
        have hj' : (μ.2.2.1 404 12).toInt.toNat + j < 940 := hx
        have := p1 j (by omega) hj'
        show fl_oc (dw_up μ.2.2.1 407 (29 + i) v) ((μ.2.2.1 404 12).toInt.toNat + j) - 97 < (dw_up μ.2.2.1 407 (29 + i) v 407 2).toInt
        rw [up_ne (j' := 2) (Or.inr (by omega))]
        exact this)⟩, ⟨by decide, (show fl_P 1 (ν 0 + 0) (dw_si μ 407 (29 + i) v).2.2.1 from ⟨fun k hk hx => by
        rw [Nat.zero_add] at hx ⊢
        have hx' : (k : Int) < (dw_up μ.2.2.1 407 (29 + i) v 407 2).toInt := hx
        rw [up_ne (Or.inr (by omega))] at hx'
        show 1 ≤ (dw_up μ.2.2.1 407 (29 + i) v 407 (5 + k)).toInt
        rw [up_ne (Or.inr (by omega))]
        exact u1 k hk hx', fun c hc => by
        rw [Nat.zero_add, Nat.zero_add]
        show (dw_up μ.2.2.1 407 (29 + i) v 407 (29 + c)).toInt = 0 ∨ (dw_up μ.2.2.1 407 (29 + i) v 407 (29 + c)).toInt < (dw_up μ.2.2.1 407 (29 + i) v 407 2).toInt
        rw [up_ne (j' := 2) (Or.inr (by omega))]
        by_cases e : c = i
        · rw [e, up_at]; omega
        · rw [up_ne (Or.inr (by omega))]; exact u2 c hc, fun hr => by
        rw [Nat.zero_add] at hr ⊢
        have hr' : (dw_up μ.2.2.1 407 (29 + i) v 407 1).toInt ≠ 0 := hr
        rw [up_ne (Or.inr (by omega))] at hr'
        show 1 ≤ (dw_up μ.2.2.1 407 (29 + i) v 407 2).toInt
        rw [up_ne (Or.inr (by omega))]
        exact u3 hr'⟩)⟩, trivial⟩)
set_option maxHeartbeats 2000000 in
theorem sp_nxTok1 {SH : dw_Sh} {TT : Nat → dw_T} {K : dw_K} (hE : (EE SH TT).ok) : dx_SOK (EE SH TT) (pr_X12_next K) 334 sg_nxTok1 := by
  intro ν ls vs args rest μ bc bs hvs hargs hcat g hk
  obtain rfl := vs0 (f := fun i => ls[i]?) hvs
  obtain ⟨x0, x1, rfl⟩ := ar2 hargs
  obtain ⟨g0, g1, -⟩ := g.gl
  obtain rfl : x0 = .ref 404 := Option.some.inj (gV_th g0)
  obtain ⟨-, w1, h1, q1⟩ := g1
  obtain rfl : x1 = .int w1 := Option.some.inj h1
  have f0 : (μ.2.2.1 404 4).toInt = ν 1 + 0 := (g.fa _ (List.Mem.head _)).2
  have f1 : (μ.2.2.1 404 13).toInt = ν 2 + 0 := (g.fa _ (List.Mem.tail _ (List.Mem.head _))).2
  have f2 : (μ.2.2.1 404 12).toInt = ν 3 + 0 := (g.fa _ (List.Mem.tail _ (List.Mem.tail _ (List.Mem.head _)))).2
  have f3 : (μ.2.2.1 404 2).toInt = ν 4 + 0 := (g.fa _ (List.Mem.tail _ (List.Mem.tail _ (List.Mem.tail _ (List.Mem.head _))))).2
  have f4 : (μ.2.2.1 404 3).toInt = ν 5 + 0 := (g.fa _ (List.Mem.tail _ (List.Mem.tail _ (List.Mem.tail _ (List.Mem.tail _ (List.Mem.head _)))))).2
  have f5 : (μ.2.2.1 404 14).toInt = ν 6 + 0 := (g.fa _ (List.Mem.tail _ (List.Mem.tail _ (List.Mem.tail _ (List.Mem.tail _ (List.Mem.tail _ (List.Mem.head _))))))).2
  have f6 : (μ.2.2.1 404 19).toInt = ν 7 + 0 := (g.fa _ (List.Mem.tail _ (List.Mem.tail _ (List.Mem.tail _ (List.Mem.tail _ (List.Mem.tail _ (List.Mem.tail _ (List.Mem.head _)))))))).2
  have f7 : (μ.2.2.1 404 21).toInt = ν 8 + 0 := (g.fa _ (List.Mem.tail _ (List.Mem.tail _ (List.Mem.tail _ (List.Mem.tail _ (List.Mem.tail _ (List.Mem.tail _ (List.Mem.tail _ (List.Mem.head _))))))))).2
  have f8 : (μ.2.2.1 404 22).toInt = ν 9 + 0 := (g.fa _ (List.Mem.tail _ (List.Mem.tail _ (List.Mem.tail _ (List.Mem.tail _ (List.Mem.tail _ (List.Mem.tail _ (List.Mem.tail _ (List.Mem.tail _ (List.Mem.head _)))))))))).2
  have p0 : fl_P 11 (ν 0 + 0) μ.2.2.1 := (g.fl _ (List.Mem.head _)).2
  have p1 : fl_P 10 (ν 0 + 0) μ.2.2.1 := (g.fl _ (List.Mem.tail _ (List.Mem.head _))).2
  have b1 : (0 : Int) ≤ ν 1 ∧ ν 1 ≤ 940 := g.iv 1 (by decide)
  have b2 : (0 : Int) ≤ ν 2 ∧ ν 2 ≤ 940 := g.iv 2 (by decide)
  have b3 : (0 : Int) ≤ ν 3 ∧ ν 3 ≤ 940 := g.iv 3 (by decide)
  have b4 : (0 : Int) ≤ ν 4 ∧ ν 4 ≤ 940 := g.iv 4 (by decide)
  have b5 : (0 : Int) ≤ ν 5 ∧ ν 5 ≤ 940 := g.iv 5 (by decide)
  have b6 : (-2147483648 : Int) ≤ ν 6 ∧ ν 6 ≤ 2147483647 := g.iv 6 (by decide)
  have b7 : (-2147483648 : Int) ≤ ν 7 ∧ ν 7 ≤ 2147483647 := g.iv 7 (by decide)
  have b8 : (0 : Int) ≤ ν 8 ∧ ν 8 ≤ 30 := g.iv 8 (by decide)
  have b9 : (0 : Int) ≤ ν 9 ∧ ν 9 ≤ 1 := g.iv 9 (by decide)
  have z0 : ν 0 = 0 := g.z
  have k404 : (μ.2.1 404).1 = 12 := by rw [g.sh]; exact (hE.sh 404).1
  have n404 : (μ.2.1 404).2.1 = 57 := by rw [g.sh]; exact (hE.sh 404).2.1
  refine q_puti rfl k404 ?_
  have as : (μ.2.2.1 404 12).toInt + (μ.2.2.1 404 13).toInt = (μ.2.2.1 404 4).toInt := p0
  exact hk _ _ ν [] (dw_si μ 404 11 w1) (List.Mem.head _) (post_mk g rfl (up_hi g.hi (⟨by show (0 : Int) ≤ _; omega, by show _ ≤ (4 : Int); omega⟩ : dx_in (0, 4) w1.toInt)) (up_fr (List.Mem.head _)) (by decide) (by decide) (fun _ _ => rfl) ⟨(show (0 : Int) ≤ ν 0 ∧ ν 0 ≤ 0 from ⟨by omega, by omega⟩), (show (0 : Int) ≤ ν 1 ∧ ν 1 ≤ 940 from ⟨by omega, by omega⟩), (show (0 : Int) ≤ ν 2 ∧ ν 2 ≤ 940 from ⟨by omega, by omega⟩), (show (0 : Int) ≤ ν 3 ∧ ν 3 ≤ 940 from ⟨by omega, by omega⟩), (show (0 : Int) ≤ ν 4 ∧ ν 4 ≤ 940 from ⟨by omega, by omega⟩), (show (0 : Int) ≤ ν 5 ∧ ν 5 ≤ 940 from ⟨by omega, by omega⟩), (show (-2147483648 : Int) ≤ ν 6 ∧ ν 6 ≤ 2147483647 from ⟨by omega, by omega⟩), (show (-2147483648 : Int) ≤ ν 7 ∧ ν 7 ≤ 2147483647 from ⟨by omega, by omega⟩), (show (0 : Int) ≤ ν 8 ∧ ν 8 ≤ 30 from ⟨by omega, by omega⟩), (show (0 : Int) ≤ ν 9 ∧ ν 9 ≤ 1 from ⟨by omega, by omega⟩), trivial⟩ trivial trivial rfl ⟨⟨by decide, (show ((dw_si μ 404 11 w1).2.2.1 404 4).toInt = ν 1 + 0 from (up_eq (Or.inr (by decide)) f0))⟩, ⟨by decide, (show ((dw_si μ 404 11 w1).2.2.1 404 13).toInt = ν 2 + 0 from (up_eq (Or.inr (by decide)) f1))⟩, ⟨by decide, (show ((dw_si μ 404 11 w1).2.2.1 404 12).toInt = ν 3 + 0 from (up_eq (Or.inr (by decide)) f2))⟩, ⟨by decide, (show ((dw_si μ 404 11 w1).2.2.1 404 2).toInt = ν 4 + 0 from (up_eq (Or.inr (by decide)) f3))⟩, ⟨by decide, (show ((dw_si μ 404 11 w1).2.2.1 404 3).toInt = ν 5 + 0 from (up_eq (Or.inr (by decide)) f4))⟩, ⟨by decide, (show ((dw_si μ 404 11 w1).2.2.1 404 14).toInt = ν 6 + 0 from (up_eq (Or.inr (by decide)) f5))⟩, ⟨by decide, (show ((dw_si μ 404 11 w1).2.2.1 404 19).toInt = ν 7 + 0 from (up_eq (Or.inr (by decide)) f6))⟩, ⟨by decide, (show ((dw_si μ 404 11 w1).2.2.1 404 21).toInt = ν 8 + 0 from (up_eq (Or.inr (by decide)) f7))⟩, ⟨by decide, (show ((dw_si μ 404 11 w1).2.2.1 404 22).toInt = ν 9 + 0 from (up_eq (Or.inr (by decide)) f8))⟩, ⟨by decide, (show ((dw_si μ 404 11 w1).2.2.1 404 11).toInt = ν 0 + 1 from by show ((dw_up μ.2.2.1 404 11 w1) 404 11).toInt = _; rw [up_at]; omega)⟩, trivial⟩ ⟨⟨by decide, (show fl_P 8 (ν 0 + 0) (dw_si μ 404 11 w1).2.2.1 from fun _ => (⟨by omega, by omega, fun j hj => p1 j hj (by omega)⟩ : 0 ≤ (μ.2.2.1 404 12).toInt ∧ (μ.2.2.1 404 12).toInt + (μ.2.2.1 404 13).toInt ≤ 940 ∧ ∀ j : Nat, (j : Int) < (μ.2.2.1 404 13).toInt → 97 ≤ fl_oc μ.2.2.1 ((μ.2.2.1 404 12).toInt.toNat + j) ∧ fl_oc μ.2.2.1 ((μ.2.2.1 404 12).toInt.toNat + j) ≤ 122))⟩, trivial⟩)
set_option maxHeartbeats 2000000 in
theorem sp_nxTokS0 {SH : dw_Sh} {TT : Nat → dw_T} {K : dw_K} (hE : (EE SH TT).ok) : dx_SOK (EE SH TT) (pr_X12_next K) 91 sg_nxTokS0 := by
  intro ν ls vs args rest μ bc bs hvs hargs hcat g hk
  obtain rfl := vs0 (f := fun i => ls[i]?) hvs
  obtain ⟨x0, x1, rfl⟩ := ar2 hargs
  obtain ⟨g0, g1, -⟩ := g.gl
  obtain rfl : x0 = .ref 404 := Option.some.inj (gV_th g0)
  obtain ⟨-, w1, h1, q1⟩ := g1
  obtain rfl : x1 = .int w1 := Option.some.inj h1
  have f0 : (μ.2.2.1 404 4).toInt = ν 1 + 0 := (g.fa _ (List.Mem.head _)).2
  have f1 : (μ.2.2.1 404 13).toInt = ν 2 + 0 := (g.fa _ (List.Mem.tail _ (List.Mem.head _))).2
  have f2 : (μ.2.2.1 404 12).toInt = ν 3 + 0 := (g.fa _ (List.Mem.tail _ (List.Mem.tail _ (List.Mem.head _)))).2
  have f3 : (μ.2.2.1 404 2).toInt = ν 4 + 0 := (g.fa _ (List.Mem.tail _ (List.Mem.tail _ (List.Mem.tail _ (List.Mem.head _))))).2
  have f4 : (μ.2.2.1 404 3).toInt = ν 5 + 0 := (g.fa _ (List.Mem.tail _ (List.Mem.tail _ (List.Mem.tail _ (List.Mem.tail _ (List.Mem.head _)))))).2
  have f5 : (μ.2.2.1 404 14).toInt = ν 6 + 0 := (g.fa _ (List.Mem.tail _ (List.Mem.tail _ (List.Mem.tail _ (List.Mem.tail _ (List.Mem.tail _ (List.Mem.head _))))))).2
  have f6 : (μ.2.2.1 404 19).toInt = ν 7 + 0 := (g.fa _ (List.Mem.tail _ (List.Mem.tail _ (List.Mem.tail _ (List.Mem.tail _ (List.Mem.tail _ (List.Mem.tail _ (List.Mem.head _)))))))).2
  have f7 : (μ.2.2.1 404 21).toInt = ν 8 + 0 := (g.fa _ (List.Mem.tail _ (List.Mem.tail _ (List.Mem.tail _ (List.Mem.tail _ (List.Mem.tail _ (List.Mem.tail _ (List.Mem.tail _ (List.Mem.head _))))))))).2
  have f8 : (μ.2.2.1 404 22).toInt = ν 9 + 0 := (g.fa _ (List.Mem.tail _ (List.Mem.tail _ (List.Mem.tail _ (List.Mem.tail _ (List.Mem.tail _ (List.Mem.tail _ (List.Mem.tail _ (List.Mem.tail _ (List.Mem.head _)))))))))).2
  have b1 : (0 : Int) ≤ ν 1 ∧ ν 1 ≤ 940 := g.iv 1 (by decide)
  have b2 : (0 : Int) ≤ ν 2 ∧ ν 2 ≤ 940 := g.iv 2 (by decide)
  have b3 : (0 : Int) ≤ ν 3 ∧ ν 3 ≤ 940 := g.iv 3 (by decide)
  have b4 : (0 : Int) ≤ ν 4 ∧ ν 4 ≤ 940 := g.iv 4 (by decide)
  have b5 : (0 : Int) ≤ ν 5 ∧ ν 5 ≤ 940 := g.iv 5 (by decide)
  have b6 : (-2147483648 : Int) ≤ ν 6 ∧ ν 6 ≤ 2147483647 := g.iv 6 (by decide)
  have b7 : (-2147483648 : Int) ≤ ν 7 ∧ ν 7 ≤ 2147483647 := g.iv 7 (by decide)
  have b8 : (0 : Int) ≤ ν 8 ∧ ν 8 ≤ 30 := g.iv 8 (by decide)
  have b9 : (0 : Int) ≤ ν 9 ∧ ν 9 ≤ 1 := g.iv 9 (by decide)
  have z0 : ν 0 = 0 := g.z
  have k404 : (μ.2.1 404).1 = 12 := by rw [g.sh]; exact (hE.sh 404).1
  have n404 : (μ.2.1 404).2.1 = 57 := by rw [g.sh]; exact (hE.sh 404).2.1
  refine q_puti rfl k404 ?_
  exact hk _ _ ν [] (dw_si μ 404 11 w1) (List.Mem.head _) (post_mk g rfl (up_hi g.hi (⟨by show (0 : Int) ≤ _; omega, by show _ ≤ (4 : Int); omega⟩ : dx_in (0, 4) w1.toInt)) (up_fr (List.Mem.head _)) (by decide) (by decide) (fun _ _ => rfl) ⟨(show (0 : Int) ≤ ν 0 ∧ ν 0 ≤ 0 from ⟨by omega, by omega⟩), (show (0 : Int) ≤ ν 1 ∧ ν 1 ≤ 940 from ⟨by omega, by omega⟩), (show (0 : Int) ≤ ν 2 ∧ ν 2 ≤ 940 from ⟨by omega, by omega⟩), (show (0 : Int) ≤ ν 3 ∧ ν 3 ≤ 940 from ⟨by omega, by omega⟩), (show (0 : Int) ≤ ν 4 ∧ ν 4 ≤ 940 from ⟨by omega, by omega⟩), (show (0 : Int) ≤ ν 5 ∧ ν 5 ≤ 940 from ⟨by omega, by omega⟩), (show (-2147483648 : Int) ≤ ν 6 ∧ ν 6 ≤ 2147483647 from ⟨by omega, by omega⟩), (show (-2147483648 : Int) ≤ ν 7 ∧ ν 7 ≤ 2147483647 from ⟨by omega, by omega⟩), (show (0 : Int) ≤ ν 8 ∧ ν 8 ≤ 30 from ⟨by omega, by omega⟩), (show (0 : Int) ≤ ν 9 ∧ ν 9 ≤ 1 from ⟨by omega, by omega⟩), trivial⟩ trivial trivial rfl ⟨⟨by decide, (show ((dw_si μ 404 11 w1).2.2.1 404 4).toInt = ν 1 + 0 from (up_eq (Or.inr (by decide)) f0))⟩, ⟨by decide, (show ((dw_si μ 404 11 w1).2.2.1 404 13).toInt = ν 2 + 0 from (up_eq (Or.inr (by decide)) f1))⟩, ⟨by decide, (show ((dw_si μ 404 11 w1).2.2.1 404 12).toInt = ν 3 + 0 from (up_eq (Or.inr (by decide)) f2))⟩, ⟨by decide, (show ((dw_si μ 404 11 w1).2.2.1 404 2).toInt = ν 4 + 0 from (up_eq (Or.inr (by decide)) f3))⟩, ⟨by decide, (show ((dw_si μ 404 11 w1).2.2.1 404 3).toInt = ν 5 + 0 from (up_eq (Or.inr (by decide)) f4))⟩, ⟨by decide, (show ((dw_si μ 404 11 w1).2.2.1 404 14).toInt = ν 6 + 0 from (up_eq (Or.inr (by decide)) f5))⟩, ⟨by decide, (show ((dw_si μ 404 11 w1).2.2.1 404 19).toInt = ν 7 + 0 from (up_eq (Or.inr (by decide)) f6))⟩, ⟨by decide, (show ((dw_si μ 404 11 w1).2.2.1 404 21).toInt = ν 8 + 0 from (up_eq (Or.inr (by decide)) f7))⟩, ⟨by decide, (show ((dw_si μ 404 11 w1).2.2.1 404 22).toInt = ν 9 + 0 from (up_eq (Or.inr (by decide)) f8))⟩, ⟨by decide, (show ((dw_si μ 404 11 w1).2.2.1 404 11).toInt = ν 0 + 0 from by show ((dw_up μ.2.2.1 404 11 w1) 404 11).toInt = _; rw [up_at]; omega)⟩, trivial⟩ ⟨⟨by decide, (show fl_P 8 (ν 0 + 0) (dw_si μ 404 11 w1).2.2.1 from fun h => by have h2 : ((dw_up μ.2.2.1 404 11 w1) 404 11).toInt = 1 := h; rw [up_at] at h2; omega)⟩, trivial⟩)
set_option maxHeartbeats 2000000 in
theorem sp_nxTokN2 {SH : dw_Sh} {TT : Nat → dw_T} {K : dw_K} (hE : (EE SH TT).ok) : dx_SOK (EE SH TT) (pr_X12_next K) 76 sg_nxTokN2 := by
  intro ν ls vs args rest μ bc bs hvs hargs hcat g hk
  obtain rfl := vs0 (f := fun i => ls[i]?) hvs
  obtain ⟨x0, x1, rfl⟩ := ar2 hargs
  obtain ⟨g0, g1, -⟩ := g.gl
  obtain rfl : x0 = .ref 404 := Option.some.inj (gV_th g0)
  obtain ⟨-, w1, h1, q1⟩ := g1
  obtain rfl : x1 = .int w1 := Option.some.inj h1
  have f0 : (μ.2.2.1 404 4).toInt = ν 1 + 0 := (g.fa _ (List.Mem.head _)).2
  have f1 : (μ.2.2.1 404 13).toInt = ν 2 + 0 := (g.fa _ (List.Mem.tail _ (List.Mem.head _))).2
  have f2 : (μ.2.2.1 404 12).toInt = ν 3 + 0 := (g.fa _ (List.Mem.tail _ (List.Mem.tail _ (List.Mem.head _)))).2
  have f3 : (μ.2.2.1 404 2).toInt = ν 4 + 0 := (g.fa _ (List.Mem.tail _ (List.Mem.tail _ (List.Mem.tail _ (List.Mem.head _))))).2
  have f4 : (μ.2.2.1 404 3).toInt = ν 5 + 0 := (g.fa _ (List.Mem.tail _ (List.Mem.tail _ (List.Mem.tail _ (List.Mem.tail _ (List.Mem.head _)))))).2
  have f5 : (μ.2.2.1 404 14).toInt = ν 6 + 0 := (g.fa _ (List.Mem.tail _ (List.Mem.tail _ (List.Mem.tail _ (List.Mem.tail _ (List.Mem.tail _ (List.Mem.head _))))))).2
  have f6 : (μ.2.2.1 404 19).toInt = ν 7 + 0 := (g.fa _ (List.Mem.tail _ (List.Mem.tail _ (List.Mem.tail _ (List.Mem.tail _ (List.Mem.tail _ (List.Mem.tail _ (List.Mem.head _)))))))).2
  have f7 : (μ.2.2.1 404 21).toInt = ν 8 + 0 := (g.fa _ (List.Mem.tail _ (List.Mem.tail _ (List.Mem.tail _ (List.Mem.tail _ (List.Mem.tail _ (List.Mem.tail _ (List.Mem.tail _ (List.Mem.head _))))))))).2
  have f8 : (μ.2.2.1 404 22).toInt = ν 9 + 0 := (g.fa _ (List.Mem.tail _ (List.Mem.tail _ (List.Mem.tail _ (List.Mem.tail _ (List.Mem.tail _ (List.Mem.tail _ (List.Mem.tail _ (List.Mem.tail _ (List.Mem.head _)))))))))).2
  have b1 : (0 : Int) ≤ ν 1 ∧ ν 1 ≤ 940 := g.iv 1 (by decide)
  have b2 : (0 : Int) ≤ ν 2 ∧ ν 2 ≤ 940 := g.iv 2 (by decide)
  have b3 : (0 : Int) ≤ ν 3 ∧ ν 3 ≤ 940 := g.iv 3 (by decide)
  have b4 : (0 : Int) ≤ ν 4 ∧ ν 4 ≤ 940 := g.iv 4 (by decide)
  have b5 : (0 : Int) ≤ ν 5 ∧ ν 5 ≤ 940 := g.iv 5 (by decide)
  have b6 : (-2147483648 : Int) ≤ ν 6 ∧ ν 6 ≤ 2147483647 := g.iv 6 (by decide)
  have b7 : (-2147483648 : Int) ≤ ν 7 ∧ ν 7 ≤ 2147483647 := g.iv 7 (by decide)
  have b8 : (0 : Int) ≤ ν 8 ∧ ν 8 ≤ 30 := g.iv 8 (by decide)
  have b9 : (0 : Int) ≤ ν 9 ∧ ν 9 ≤ 1 := g.iv 9 (by decide)
  have z0 : ν 0 = 0 := g.z
  have k404 : (μ.2.1 404).1 = 12 := by rw [g.sh]; exact (hE.sh 404).1
  have n404 : (μ.2.1 404).2.1 = 57 := by rw [g.sh]; exact (hE.sh 404).2.1
  refine q_puti rfl k404 ?_
  exact hk _ _ ν [] (dw_si μ 404 11 w1) (List.Mem.head _) (post_mk g rfl (up_hi g.hi (⟨by show (0 : Int) ≤ _; omega, by show _ ≤ (4 : Int); omega⟩ : dx_in (0, 4) w1.toInt)) (up_fr (List.Mem.head _)) (by decide) (by decide) (fun _ _ => rfl) ⟨(show (0 : Int) ≤ ν 0 ∧ ν 0 ≤ 0 from ⟨by omega, by omega⟩), (show (0 : Int) ≤ ν 1 ∧ ν 1 ≤ 940 from ⟨by omega, by omega⟩), (show (0 : Int) ≤ ν 2 ∧ ν 2 ≤ 940 from ⟨by omega, by omega⟩), (show (0 : Int) ≤ ν 3 ∧ ν 3 ≤ 940 from ⟨by omega, by omega⟩), (show (0 : Int) ≤ ν 4 ∧ ν 4 ≤ 940 from ⟨by omega, by omega⟩), (show (0 : Int) ≤ ν 5 ∧ ν 5 ≤ 940 from ⟨by omega, by omega⟩), (show (-2147483648 : Int) ≤ ν 6 ∧ ν 6 ≤ 2147483647 from ⟨by omega, by omega⟩), (show (-2147483648 : Int) ≤ ν 7 ∧ ν 7 ≤ 2147483647 from ⟨by omega, by omega⟩), (show (0 : Int) ≤ ν 8 ∧ ν 8 ≤ 30 from ⟨by omega, by omega⟩), (show (0 : Int) ≤ ν 9 ∧ ν 9 ≤ 1 from ⟨by omega, by omega⟩), trivial⟩ trivial trivial rfl ⟨⟨by decide, (show ((dw_si μ 404 11 w1).2.2.1 404 4).toInt = ν 1 + 0 from (up_eq (Or.inr (by decide)) f0))⟩, ⟨by decide, (show ((dw_si μ 404 11 w1).2.2.1 404 13).toInt = ν 2 + 0 from (up_eq (Or.inr (by decide)) f1))⟩, ⟨by decide, (show ((dw_si μ 404 11 w1).2.2.1 404 12).toInt = ν 3 + 0 from (up_eq (Or.inr (by decide)) f2))⟩, ⟨by decide, (show ((dw_si μ 404 11 w1).2.2.1 404 2).toInt = ν 4 + 0 from (up_eq (Or.inr (by decide)) f3))⟩, ⟨by decide, (show ((dw_si μ 404 11 w1).2.2.1 404 3).toInt = ν 5 + 0 from (up_eq (Or.inr (by decide)) f4))⟩, ⟨by decide, (show ((dw_si μ 404 11 w1).2.2.1 404 14).toInt = ν 6 + 0 from (up_eq (Or.inr (by decide)) f5))⟩, ⟨by decide, (show ((dw_si μ 404 11 w1).2.2.1 404 19).toInt = ν 7 + 0 from (up_eq (Or.inr (by decide)) f6))⟩, ⟨by decide, (show ((dw_si μ 404 11 w1).2.2.1 404 21).toInt = ν 8 + 0 from (up_eq (Or.inr (by decide)) f7))⟩, ⟨by decide, (show ((dw_si μ 404 11 w1).2.2.1 404 22).toInt = ν 9 + 0 from (up_eq (Or.inr (by decide)) f8))⟩, ⟨by decide, (show ((dw_si μ 404 11 w1).2.2.1 404 11).toInt = ν 0 + 2 from by show ((dw_up μ.2.2.1 404 11 w1) 404 11).toInt = _; rw [up_at]; omega)⟩, trivial⟩ ⟨⟨by decide, (show fl_P 8 (ν 0 + 0) (dw_si μ 404 11 w1).2.2.1 from fun h => by have h2 : ((dw_up μ.2.2.1 404 11 w1) 404 11).toInt = 1 := h; rw [up_at] at h2; omega)⟩, trivial⟩)
set_option maxHeartbeats 2000000 in
theorem sp_nxTokO3 {SH : dw_Sh} {TT : Nat → dw_T} {K : dw_K} (hE : (EE SH TT).ok) : dx_SOK (EE SH TT) (pr_X12_next K) 121 sg_nxTokO3 := by
  intro ν ls vs args rest μ bc bs hvs hargs hcat g hk
  obtain rfl := vs0 (f := fun i => ls[i]?) hvs
  obtain ⟨x0, x1, rfl⟩ := ar2 hargs
  obtain ⟨g0, g1, -⟩ := g.gl
  obtain rfl : x0 = .ref 404 := Option.some.inj (gV_th g0)
  obtain ⟨-, w1, h1, q1⟩ := g1
  obtain rfl : x1 = .int w1 := Option.some.inj h1
  have f0 : (μ.2.2.1 404 4).toInt = ν 1 + 0 := (g.fa _ (List.Mem.head _)).2
  have f1 : (μ.2.2.1 404 13).toInt = ν 2 + 0 := (g.fa _ (List.Mem.tail _ (List.Mem.head _))).2
  have f2 : (μ.2.2.1 404 12).toInt = ν 3 + 0 := (g.fa _ (List.Mem.tail _ (List.Mem.tail _ (List.Mem.head _)))).2
  have f3 : (μ.2.2.1 404 2).toInt = ν 4 + 0 := (g.fa _ (List.Mem.tail _ (List.Mem.tail _ (List.Mem.tail _ (List.Mem.head _))))).2
  have f4 : (μ.2.2.1 404 3).toInt = ν 5 + 0 := (g.fa _ (List.Mem.tail _ (List.Mem.tail _ (List.Mem.tail _ (List.Mem.tail _ (List.Mem.head _)))))).2
  have f5 : (μ.2.2.1 404 14).toInt = ν 6 + 0 := (g.fa _ (List.Mem.tail _ (List.Mem.tail _ (List.Mem.tail _ (List.Mem.tail _ (List.Mem.tail _ (List.Mem.head _))))))).2
  have f6 : (μ.2.2.1 404 19).toInt = ν 7 + 0 := (g.fa _ (List.Mem.tail _ (List.Mem.tail _ (List.Mem.tail _ (List.Mem.tail _ (List.Mem.tail _ (List.Mem.tail _ (List.Mem.head _)))))))).2
  have f7 : (μ.2.2.1 404 21).toInt = ν 8 + 0 := (g.fa _ (List.Mem.tail _ (List.Mem.tail _ (List.Mem.tail _ (List.Mem.tail _ (List.Mem.tail _ (List.Mem.tail _ (List.Mem.tail _ (List.Mem.head _))))))))).2
  have f8 : (μ.2.2.1 404 22).toInt = ν 9 + 0 := (g.fa _ (List.Mem.tail _ (List.Mem.tail _ (List.Mem.tail _ (List.Mem.tail _ (List.Mem.tail _ (List.Mem.tail _ (List.Mem.tail _ (List.Mem.tail _ (List.Mem.head _)))))))))).2
  have b1 : (0 : Int) ≤ ν 1 ∧ ν 1 ≤ 940 := g.iv 1 (by decide)
  have b2 : (0 : Int) ≤ ν 2 ∧ ν 2 ≤ 940 := g.iv 2 (by decide)
  have b3 : (0 : Int) ≤ ν 3 ∧ ν 3 ≤ 940 := g.iv 3 (by decide)
  have b4 : (0 : Int) ≤ ν 4 ∧ ν 4 ≤ 940 := g.iv 4 (by decide)
  have b5 : (0 : Int) ≤ ν 5 ∧ ν 5 ≤ 940 := g.iv 5 (by decide)
  have b6 : (-2147483648 : Int) ≤ ν 6 ∧ ν 6 ≤ 2147483647 := g.iv 6 (by decide)
  have b7 : (-2147483648 : Int) ≤ ν 7 ∧ ν 7 ≤ 2147483647 := g.iv 7 (by decide)
  have b8 : (0 : Int) ≤ ν 8 ∧ ν 8 ≤ 30 := g.iv 8 (by decide)
  have b9 : (0 : Int) ≤ ν 9 ∧ ν 9 ≤ 1 := g.iv 9 (by decide)
  have z0 : ν 0 = 0 := g.z
  have k404 : (μ.2.1 404).1 = 12 := by rw [g.sh]; exact (hE.sh 404).1
  have n404 : (μ.2.1 404).2.1 = 57 := by rw [g.sh]; exact (hE.sh 404).2.1
  refine q_puti rfl k404 ?_
  exact hk _ _ ν [] (dw_si μ 404 11 w1) (List.Mem.head _) (post_mk g rfl (up_hi g.hi (⟨by show (0 : Int) ≤ _; omega, by show _ ≤ (4 : Int); omega⟩ : dx_in (0, 4) w1.toInt)) (up_fr (List.Mem.head _)) (by decide) (by decide) (fun _ _ => rfl) ⟨(show (0 : Int) ≤ ν 0 ∧ ν 0 ≤ 0 from ⟨by omega, by omega⟩), (show (0 : Int) ≤ ν 1 ∧ ν 1 ≤ 940 from ⟨by omega, by omega⟩), (show (0 : Int) ≤ ν 2 ∧ ν 2 ≤ 940 from ⟨by omega, by omega⟩), (show (0 : Int) ≤ ν 3 ∧ ν 3 ≤ 940 from ⟨by omega, by omega⟩), (show (0 : Int) ≤ ν 4 ∧ ν 4 ≤ 940 from ⟨by omega, by omega⟩), (show (0 : Int) ≤ ν 5 ∧ ν 5 ≤ 940 from ⟨by omega, by omega⟩), (show (-2147483648 : Int) ≤ ν 6 ∧ ν 6 ≤ 2147483647 from ⟨by omega, by omega⟩), (show (-2147483648 : Int) ≤ ν 7 ∧ ν 7 ≤ 2147483647 from ⟨by omega, by omega⟩), (show (0 : Int) ≤ ν 8 ∧ ν 8 ≤ 30 from ⟨by omega, by omega⟩), (show (0 : Int) ≤ ν 9 ∧ ν 9 ≤ 1 from ⟨by omega, by omega⟩), trivial⟩ trivial trivial rfl ⟨⟨by decide, (show ((dw_si μ 404 11 w1).2.2.1 404 4).toInt = ν 1 + 0 from (up_eq (Or.inr (by decide)) f0))⟩, ⟨by decide, (show ((dw_si μ 404 11 w1).2.2.1 404 13).toInt = ν 2 + 0 from (up_eq (Or.inr (by decide)) f1))⟩, ⟨by decide, (show ((dw_si μ 404 11 w1).2.2.1 404 12).toInt = ν 3 + 0 from (up_eq (Or.inr (by decide)) f2))⟩, ⟨by decide, (show ((dw_si μ 404 11 w1).2.2.1 404 2).toInt = ν 4 + 0 from (up_eq (Or.inr (by decide)) f3))⟩, ⟨by decide, (show ((dw_si μ 404 11 w1).2.2.1 404 3).toInt = ν 5 + 0 from (up_eq (Or.inr (by decide)) f4))⟩, ⟨by decide, (show ((dw_si μ 404 11 w1).2.2.1 404 14).toInt = ν 6 + 0 from (up_eq (Or.inr (by decide)) f5))⟩, ⟨by decide, (show ((dw_si μ 404 11 w1).2.2.1 404 19).toInt = ν 7 + 0 from (up_eq (Or.inr (by decide)) f6))⟩, ⟨by decide, (show ((dw_si μ 404 11 w1).2.2.1 404 21).toInt = ν 8 + 0 from (up_eq (Or.inr (by decide)) f7))⟩, ⟨by decide, (show ((dw_si μ 404 11 w1).2.2.1 404 22).toInt = ν 9 + 0 from (up_eq (Or.inr (by decide)) f8))⟩, ⟨by decide, (show ((dw_si μ 404 11 w1).2.2.1 404 11).toInt = ν 0 + 3 from by show ((dw_up μ.2.2.1 404 11 w1) 404 11).toInt = _; rw [up_at]; omega)⟩, trivial⟩ ⟨⟨by decide, (show fl_P 8 (ν 0 + 0) (dw_si μ 404 11 w1).2.2.1 from fun h => by have h2 : ((dw_up μ.2.2.1 404 11 w1) 404 11).toInt = 1 := h; rw [up_at] at h2; omega)⟩, trivial⟩)
set_option maxHeartbeats 2000000 in
theorem sp_plIn1 {SH : dw_Sh} {TT : Nat → dw_T} {K : dw_K} (hE : (EE SH TT).ok) : dx_SOK (EE SH TT) (pr_X12_planLine K) 83 sg_plIn1 := by
  intro ν ls vs args rest μ bc bs hvs hargs hcat g hk
  obtain ⟨v0, rfl, e0⟩ := vs1 (f := fun i => ls[i]?) (a := 0) hvs
  obtain rfl := ar0 hargs
  obtain ⟨g0, -⟩ := g.gl
  rw [show v0 = some (.ref 404) from gV_th g0] at e0
  have f0 : (μ.2.2.1 404 21).toInt = ν 0 + 1 := (g.fa _ (List.Mem.head _)).2
  have p0 : fl_P 25 (ν 0 + 1) μ.2.2.1 := (g.fl _ (List.Mem.head _)).2
  have z0 : ν 0 = 0 := g.z
  have cst1 : (1 : Int32).toInt = 1 := rfl
  refine q_ic rfl ?_
  exact hk _ _ ν [.int 1] (μ) (List.Mem.head _) (post_mk g rfl g.hi (fun _ _ => ⟨rfl, rfl⟩) (by decide) (by decide) (fun _ _ => rfl) ⟨(show (0 : Int) ≤ ν 0 ∧ ν 0 ≤ 0 from ⟨by omega, by omega⟩), trivial⟩ trivial ⟨⟨by decide, 1, rfl, by rw [z0]; rfl⟩, trivial⟩ rfl trivial ⟨⟨by decide, (show fl_P 101 (ν 0 + 0) (μ).2.2.1 from pq_in (c := 1) (by decide) (by omega) p0)⟩, trivial⟩)
set_option maxHeartbeats 2000000 in
theorem sp_plOff2 {SH : dw_Sh} {TT : Nat → dw_T} {K : dw_K} (hE : (EE SH TT).ok) : dx_SOK (EE SH TT) (pr_X12_planLine K) 206 sg_plOff2 := by
  intro ν ls vs args rest μ bc bs hvs hargs hcat g hk
  obtain ⟨v0, rfl, e0⟩ := vs1 (f := fun i => ls[i]?) (a := 0) hvs
  obtain rfl := ar0 hargs
  obtain ⟨g0, -⟩ := g.gl
  rw [show v0 = some (.ref 404) from gV_th g0] at e0
  have f0 : (μ.2.2.1 408 8).toInt = ν 1 + 0 := (g.fa _ (List.Mem.head _)).2
  have f1 : (μ.2.2.1 406 0).toInt = ν 2 + 0 := (g.fa _ (List.Mem.tail _ (List.Mem.head _))).2
  have p0 : fl_P 102 (ν 0 + 0) μ.2.2.1 := (g.fl _ (List.Mem.head _)).2
  have b1 : (0 : Int) ≤ ν 1 ∧ ν 1 ≤ 143 := g.iv 1 (by decide)
  have b2 : (1 : Int) ≤ ν 2 ∧ ν 2 ≤ 12 := g.iv 2 (by decide)
  have z0 : ν 0 = 0 := g.z
  have cst1 : (1 : Int32).toInt = 1 := rfl
  refine q_ic rfl ?_
  exact hk _ _ ν [.int 1] (μ) (List.Mem.head _) (post_mk g rfl g.hi (fun _ _ => ⟨rfl, rfl⟩) (by decide) (by decide) (fun _ _ => rfl) ⟨(show (0 : Int) ≤ ν 0 ∧ ν 0 ≤ 0 from ⟨by omega, by omega⟩), (show (0 : Int) ≤ ν 1 ∧ ν 1 ≤ 143 from ⟨by omega, by omega⟩), (show (1 : Int) ≤ ν 2 ∧ ν 2 ≤ 12 from ⟨by omega, by omega⟩), trivial⟩ trivial ⟨⟨by decide, 1, rfl, by rw [z0]; rfl⟩, trivial⟩ rfl trivial ⟨⟨by decide, (show fl_P 25 (ν 0 + 3) (μ).2.2.1 from pq_of (c := 3) (by decide) (by omega) (rp_off (c := 2) (y := 0) (by decide) p0 (show (μ.2.2.1 408 8).toInt ≤ 143 by omega) (by omega)))⟩, trivial⟩)
set_option maxHeartbeats 2000000 in
theorem sp_plOn4 {SH : dw_Sh} {TT : Nat → dw_T} {K : dw_K} (hE : (EE SH TT).ok) : dx_SOK (EE SH TT) (pr_X12_planLine K) 132 sg_plOn4 := by
  intro ν ls vs args rest μ bc bs hvs hargs hcat g hk
  obtain ⟨v0, rfl, e0⟩ := vs1 (f := fun i => ls[i]?) (a := 0) hvs
  obtain rfl := ar0 hargs
  obtain ⟨g0, -⟩ := g.gl
  rw [show v0 = some (.ref 404) from gV_th g0] at e0
  have f0 : (μ.2.2.1 408 13).toInt = ν 0 + 0 := (g.fa _ (List.Mem.head _)).2
  have p0 : fl_P 104 (ν 0 + 0) μ.2.2.1 := (g.fl _ (List.Mem.head _)).2
  have z0 : ν 0 = 0 := g.z
  have cst1 : (1 : Int32).toInt = 1 := rfl
  refine q_ic rfl ?_
  exact hk _ _ ν [.int 1] (μ) (List.Mem.head _) (post_mk g rfl g.hi (fun _ _ => ⟨rfl, rfl⟩) (by decide) (by decide) (fun _ _ => rfl) ⟨(show (0 : Int) ≤ ν 0 ∧ ν 0 ≤ 0 from ⟨by omega, by omega⟩), trivial⟩ trivial ⟨⟨by decide, 1, rfl, by rw [z0]; rfl⟩, trivial⟩ rfl trivial ⟨⟨by decide, (show fl_P 25 (ν 0 + 5) (μ).2.2.1 from pq_of (c := 5) (by decide) (by omega) (rp_on (c := 4) (y := 0) (by decide) p0 (show (μ.2.2.1 408 13).toInt = 0 by omega)))⟩, trivial⟩)
set_option maxHeartbeats 2000000 in
theorem sp_plIn6 {SH : dw_Sh} {TT : Nat → dw_T} {K : dw_K} (hE : (EE SH TT).ok) : dx_SOK (EE SH TT) (pr_X12_planLine K) 83 sg_plIn6 := by
  intro ν ls vs args rest μ bc bs hvs hargs hcat g hk
  obtain ⟨v0, rfl, e0⟩ := vs1 (f := fun i => ls[i]?) (a := 0) hvs
  obtain rfl := ar0 hargs
  obtain ⟨g0, -⟩ := g.gl
  rw [show v0 = some (.ref 404) from gV_th g0] at e0
  have f0 : (μ.2.2.1 404 21).toInt = ν 0 + 6 := (g.fa _ (List.Mem.head _)).2
  have p0 : fl_P 25 (ν 0 + 6) μ.2.2.1 := (g.fl _ (List.Mem.head _)).2
  have z0 : ν 0 = 0 := g.z
  have cst1 : (1 : Int32).toInt = 1 := rfl
  refine q_ic rfl ?_
  exact hk _ _ ν [.int 1] (μ) (List.Mem.head _) (post_mk g rfl g.hi (fun _ _ => ⟨rfl, rfl⟩) (by decide) (by decide) (fun _ _ => rfl) ⟨(show (0 : Int) ≤ ν 0 ∧ ν 0 ≤ 0 from ⟨by omega, by omega⟩), trivial⟩ trivial ⟨⟨by decide, 1, rfl, by rw [z0]; rfl⟩, trivial⟩ rfl trivial ⟨⟨by decide, (show fl_P 106 (ν 0 + 0) (μ).2.2.1 from pq_in (c := 6) (by decide) (by omega) p0)⟩, trivial⟩)
set_option maxHeartbeats 2000000 in
theorem sp_plOff7 {SH : dw_Sh} {TT : Nat → dw_T} {K : dw_K} (hE : (EE SH TT).ok) : dx_SOK (EE SH TT) (pr_X12_planLine K) 206 sg_plOff7 := by
  intro ν ls vs args rest μ bc bs hvs hargs hcat g hk
  obtain ⟨v0, rfl, e0⟩ := vs1 (f := fun i => ls[i]?) (a := 0) hvs
  obtain rfl := ar0 hargs
  obtain ⟨g0, -⟩ := g.gl
  rw [show v0 = some (.ref 404) from gV_th g0] at e0
  have f0 : (μ.2.2.1 408 23).toInt = ν 1 + 0 := (g.fa _ (List.Mem.head _)).2
  have f1 : (μ.2.2.1 406 0).toInt = ν 2 + 0 := (g.fa _ (List.Mem.tail _ (List.Mem.head _))).2
  have p0 : fl_P 107 (ν 0 + 0) μ.2.2.1 := (g.fl _ (List.Mem.head _)).2
  have b1 : (0 : Int) ≤ ν 1 ∧ ν 1 ≤ 143 := g.iv 1 (by decide)
  have b2 : (1 : Int) ≤ ν 2 ∧ ν 2 ≤ 12 := g.iv 2 (by decide)
  have z0 : ν 0 = 0 := g.z
  have cst1 : (1 : Int32).toInt = 1 := rfl
  refine q_ic rfl ?_
  exact hk _ _ ν [.int 1] (μ) (List.Mem.head _) (post_mk g rfl g.hi (fun _ _ => ⟨rfl, rfl⟩) (by decide) (by decide) (fun _ _ => rfl) ⟨(show (0 : Int) ≤ ν 0 ∧ ν 0 ≤ 0 from ⟨by omega, by omega⟩), (show (0 : Int) ≤ ν 1 ∧ ν 1 ≤ 143 from ⟨by omega, by omega⟩), (show (1 : Int) ≤ ν 2 ∧ ν 2 ≤ 12 from ⟨by omega, by omega⟩), trivial⟩ trivial ⟨⟨by decide, 1, rfl, by rw [z0]; rfl⟩, trivial⟩ rfl trivial ⟨⟨by decide, (show fl_P 25 (ν 0 + 8) (μ).2.2.1 from pq_of (c := 8) (by decide) (by omega) (rp_off (c := 7) (y := 0) (by decide) p0 (show (μ.2.2.1 408 23).toInt ≤ 143 by omega) (by omega)))⟩, trivial⟩)
set_option maxHeartbeats 2000000 in
theorem sp_plOn9 {SH : dw_Sh} {TT : Nat → dw_T} {K : dw_K} (hE : (EE SH TT).ok) : dx_SOK (EE SH TT) (pr_X12_planLine K) 132 sg_plOn9 := by
  intro ν ls vs args rest μ bc bs hvs hargs hcat g hk
  obtain ⟨v0, rfl, e0⟩ := vs1 (f := fun i => ls[i]?) (a := 0) hvs
  obtain rfl := ar0 hargs
  obtain ⟨g0, -⟩ := g.gl
  rw [show v0 = some (.ref 404) from gV_th g0] at e0
  have f0 : (μ.2.2.1 408 28).toInt = ν 0 + 0 := (g.fa _ (List.Mem.head _)).2
  have p0 : fl_P 109 (ν 0 + 0) μ.2.2.1 := (g.fl _ (List.Mem.head _)).2
  have z0 : ν 0 = 0 := g.z
  have cst1 : (1 : Int32).toInt = 1 := rfl
  refine q_ic rfl ?_
  exact hk _ _ ν [.int 1] (μ) (List.Mem.head _) (post_mk g rfl g.hi (fun _ _ => ⟨rfl, rfl⟩) (by decide) (by decide) (fun _ _ => rfl) ⟨(show (0 : Int) ≤ ν 0 ∧ ν 0 ≤ 0 from ⟨by omega, by omega⟩), trivial⟩ trivial ⟨⟨by decide, 1, rfl, by rw [z0]; rfl⟩, trivial⟩ rfl trivial ⟨⟨by decide, (show fl_P 25 (ν 0 + 10) (μ).2.2.1 from pq_of (c := 10) (by decide) (by omega) (rp_on (c := 9) (y := 0) (by decide) p0 (show (μ.2.2.1 408 28).toInt = 0 by omega)))⟩, trivial⟩)
set_option maxHeartbeats 2000000 in
theorem sp_plIn11 {SH : dw_Sh} {TT : Nat → dw_T} {K : dw_K} (hE : (EE SH TT).ok) : dx_SOK (EE SH TT) (pr_X12_planLine K) 83 sg_plIn11 := by
  intro ν ls vs args rest μ bc bs hvs hargs hcat g hk
  obtain ⟨v0, rfl, e0⟩ := vs1 (f := fun i => ls[i]?) (a := 0) hvs
  obtain rfl := ar0 hargs
  obtain ⟨g0, -⟩ := g.gl
  rw [show v0 = some (.ref 404) from gV_th g0] at e0
  have f0 : (μ.2.2.1 404 21).toInt = ν 0 + 11 := (g.fa _ (List.Mem.head _)).2
  have p0 : fl_P 25 (ν 0 + 11) μ.2.2.1 := (g.fl _ (List.Mem.head _)).2
  have z0 : ν 0 = 0 := g.z
  have cst1 : (1 : Int32).toInt = 1 := rfl
  refine q_ic rfl ?_
  exact hk _ _ ν [.int 1] (μ) (List.Mem.head _) (post_mk g rfl g.hi (fun _ _ => ⟨rfl, rfl⟩) (by decide) (by decide) (fun _ _ => rfl) ⟨(show (0 : Int) ≤ ν 0 ∧ ν 0 ≤ 0 from ⟨by omega, by omega⟩), trivial⟩ trivial ⟨⟨by decide, 1, rfl, by rw [z0]; rfl⟩, trivial⟩ rfl trivial ⟨⟨by decide, (show fl_P 111 (ν 0 + 0) (μ).2.2.1 from pq_in (c := 11) (by decide) (by omega) p0)⟩, trivial⟩)
set_option maxHeartbeats 2000000 in
theorem sp_plOff12 {SH : dw_Sh} {TT : Nat → dw_T} {K : dw_K} (hE : (EE SH TT).ok) : dx_SOK (EE SH TT) (pr_X12_planLine K) 206 sg_plOff12 := by
  intro ν ls vs args rest μ bc bs hvs hargs hcat g hk
  obtain ⟨v0, rfl, e0⟩ := vs1 (f := fun i => ls[i]?) (a := 0) hvs
  obtain rfl := ar0 hargs
  obtain ⟨g0, -⟩ := g.gl
  rw [show v0 = some (.ref 404) from gV_th g0] at e0
  have f0 : (μ.2.2.1 408 38).toInt = ν 1 + 0 := (g.fa _ (List.Mem.head _)).2
  have f1 : (μ.2.2.1 406 0).toInt = ν 2 + 0 := (g.fa _ (List.Mem.tail _ (List.Mem.head _))).2
  have p0 : fl_P 112 (ν 0 + 0) μ.2.2.1 := (g.fl _ (List.Mem.head _)).2
  have b1 : (0 : Int) ≤ ν 1 ∧ ν 1 ≤ 143 := g.iv 1 (by decide)
  have b2 : (1 : Int) ≤ ν 2 ∧ ν 2 ≤ 12 := g.iv 2 (by decide)
  have z0 : ν 0 = 0 := g.z
  have cst1 : (1 : Int32).toInt = 1 := rfl
  refine q_ic rfl ?_
  exact hk _ _ ν [.int 1] (μ) (List.Mem.head _) (post_mk g rfl g.hi (fun _ _ => ⟨rfl, rfl⟩) (by decide) (by decide) (fun _ _ => rfl) ⟨(show (0 : Int) ≤ ν 0 ∧ ν 0 ≤ 0 from ⟨by omega, by omega⟩), (show (0 : Int) ≤ ν 1 ∧ ν 1 ≤ 143 from ⟨by omega, by omega⟩), (show (1 : Int) ≤ ν 2 ∧ ν 2 ≤ 12 from ⟨by omega, by omega⟩), trivial⟩ trivial ⟨⟨by decide, 1, rfl, by rw [z0]; rfl⟩, trivial⟩ rfl trivial ⟨⟨by decide, (show fl_P 25 (ν 0 + 13) (μ).2.2.1 from pq_of (c := 13) (by decide) (by omega) (rp_off (c := 12) (y := 0) (by decide) p0 (show (μ.2.2.1 408 38).toInt ≤ 143 by omega) (by omega)))⟩, trivial⟩)
set_option maxHeartbeats 2000000 in
theorem sp_plOn14 {SH : dw_Sh} {TT : Nat → dw_T} {K : dw_K} (hE : (EE SH TT).ok) : dx_SOK (EE SH TT) (pr_X12_planLine K) 132 sg_plOn14 := by
  intro ν ls vs args rest μ bc bs hvs hargs hcat g hk
  obtain ⟨v0, rfl, e0⟩ := vs1 (f := fun i => ls[i]?) (a := 0) hvs
  obtain rfl := ar0 hargs
  obtain ⟨g0, -⟩ := g.gl
  rw [show v0 = some (.ref 404) from gV_th g0] at e0
  have f0 : (μ.2.2.1 408 43).toInt = ν 0 + 0 := (g.fa _ (List.Mem.head _)).2
  have p0 : fl_P 114 (ν 0 + 0) μ.2.2.1 := (g.fl _ (List.Mem.head _)).2
  have z0 : ν 0 = 0 := g.z
  have cst1 : (1 : Int32).toInt = 1 := rfl
  refine q_ic rfl ?_
  exact hk _ _ ν [.int 1] (μ) (List.Mem.head _) (post_mk g rfl g.hi (fun _ _ => ⟨rfl, rfl⟩) (by decide) (by decide) (fun _ _ => rfl) ⟨(show (0 : Int) ≤ ν 0 ∧ ν 0 ≤ 0 from ⟨by omega, by omega⟩), trivial⟩ trivial ⟨⟨by decide, 1, rfl, by rw [z0]; rfl⟩, trivial⟩ rfl trivial ⟨⟨by decide, (show fl_P 25 (ν 0 + 15) (μ).2.2.1 from pq_of (c := 15) (by decide) (by omega) (rp_on (c := 14) (y := 0) (by decide) p0 (show (μ.2.2.1 408 43).toInt = 0 by omega)))⟩, trivial⟩)
set_option maxHeartbeats 2000000 in
theorem sp_plIn16 {SH : dw_Sh} {TT : Nat → dw_T} {K : dw_K} (hE : (EE SH TT).ok) : dx_SOK (EE SH TT) (pr_X12_planLine K) 83 sg_plIn16 := by
  intro ν ls vs args rest μ bc bs hvs hargs hcat g hk
  obtain ⟨v0, rfl, e0⟩ := vs1 (f := fun i => ls[i]?) (a := 0) hvs
  obtain rfl := ar0 hargs
  obtain ⟨g0, -⟩ := g.gl
  rw [show v0 = some (.ref 404) from gV_th g0] at e0
  have f0 : (μ.2.2.1 404 21).toInt = ν 0 + 16 := (g.fa _ (List.Mem.head _)).2
  have p0 : fl_P 25 (ν 0 + 16) μ.2.2.1 := (g.fl _ (List.Mem.head _)).2
  have z0 : ν 0 = 0 := g.z
  have cst1 : (1 : Int32).toInt = 1 := rfl
  refine q_ic rfl ?_
  exact hk _ _ ν [.int 1] (μ) (List.Mem.head _) (post_mk g rfl g.hi (fun _ _ => ⟨rfl, rfl⟩) (by decide) (by decide) (fun _ _ => rfl) ⟨(show (0 : Int) ≤ ν 0 ∧ ν 0 ≤ 0 from ⟨by omega, by omega⟩), trivial⟩ trivial ⟨⟨by decide, 1, rfl, by rw [z0]; rfl⟩, trivial⟩ rfl trivial ⟨⟨by decide, (show fl_P 116 (ν 0 + 0) (μ).2.2.1 from pq_in (c := 16) (by decide) (by omega) p0)⟩, trivial⟩)
set_option maxHeartbeats 2000000 in
theorem sp_plOff17 {SH : dw_Sh} {TT : Nat → dw_T} {K : dw_K} (hE : (EE SH TT).ok) : dx_SOK (EE SH TT) (pr_X12_planLine K) 206 sg_plOff17 := by
  intro ν ls vs args rest μ bc bs hvs hargs hcat g hk
  obtain ⟨v0, rfl, e0⟩ := vs1 (f := fun i => ls[i]?) (a := 0) hvs
  obtain rfl := ar0 hargs
  obtain ⟨g0, -⟩ := g.gl
  rw [show v0 = some (.ref 404) from gV_th g0] at e0
  have f0 : (μ.2.2.1 408 53).toInt = ν 1 + 0 := (g.fa _ (List.Mem.head _)).2
  have f1 : (μ.2.2.1 406 0).toInt = ν 2 + 0 := (g.fa _ (List.Mem.tail _ (List.Mem.head _))).2
  have p0 : fl_P 117 (ν 0 + 0) μ.2.2.1 := (g.fl _ (List.Mem.head _)).2
  have b1 : (0 : Int) ≤ ν 1 ∧ ν 1 ≤ 143 := g.iv 1 (by decide)
  have b2 : (1 : Int) ≤ ν 2 ∧ ν 2 ≤ 12 := g.iv 2 (by decide)
  have z0 : ν 0 = 0 := g.z
  have cst1 : (1 : Int32).toInt = 1 := rfl
  refine q_ic rfl ?_
  exact hk _ _ ν [.int 1] (μ) (List.Mem.head _) (post_mk g rfl g.hi (fun _ _ => ⟨rfl, rfl⟩) (by decide) (by decide) (fun _ _ => rfl) ⟨(show (0 : Int) ≤ ν 0 ∧ ν 0 ≤ 0 from ⟨by omega, by omega⟩), (show (0 : Int) ≤ ν 1 ∧ ν 1 ≤ 143 from ⟨by omega, by omega⟩), (show (1 : Int) ≤ ν 2 ∧ ν 2 ≤ 12 from ⟨by omega, by omega⟩), trivial⟩ trivial ⟨⟨by decide, 1, rfl, by rw [z0]; rfl⟩, trivial⟩ rfl trivial ⟨⟨by decide, (show fl_P 25 (ν 0 + 18) (μ).2.2.1 from pq_of (c := 18) (by decide) (by omega) (rp_off (c := 17) (y := 0) (by decide) p0 (show (μ.2.2.1 408 53).toInt ≤ 143 by omega) (by omega)))⟩, trivial⟩)
set_option maxHeartbeats 2000000 in
theorem sp_plOn19 {SH : dw_Sh} {TT : Nat → dw_T} {K : dw_K} (hE : (EE SH TT).ok) : dx_SOK (EE SH TT) (pr_X12_planLine K) 132 sg_plOn19 := by
  intro ν ls vs args rest μ bc bs hvs hargs hcat g hk
  obtain ⟨v0, rfl, e0⟩ := vs1 (f := fun i => ls[i]?) (a := 0) hvs
  obtain rfl := ar0 hargs
  obtain ⟨g0, -⟩ := g.gl
  rw [show v0 = some (.ref 404) from gV_th g0] at e0
  have f0 : (μ.2.2.1 408 58).toInt = ν 0 + 0 := (g.fa _ (List.Mem.head _)).2
  have p0 : fl_P 119 (ν 0 + 0) μ.2.2.1 := (g.fl _ (List.Mem.head _)).2
  have z0 : ν 0 = 0 := g.z
  have cst1 : (1 : Int32).toInt = 1 := rfl
  refine q_ic rfl ?_
  exact hk _ _ ν [.int 1] (μ) (List.Mem.head _) (post_mk g rfl g.hi (fun _ _ => ⟨rfl, rfl⟩) (by decide) (by decide) (fun _ _ => rfl) ⟨(show (0 : Int) ≤ ν 0 ∧ ν 0 ≤ 0 from ⟨by omega, by omega⟩), trivial⟩ trivial ⟨⟨by decide, 1, rfl, by rw [z0]; rfl⟩, trivial⟩ rfl trivial ⟨⟨by decide, (show fl_P 25 (ν 0 + 20) (μ).2.2.1 from pq_of (c := 20) (by decide) (by omega) (rp_on (c := 19) (y := 0) (by decide) p0 (show (μ.2.2.1 408 58).toInt = 0 by omega)))⟩, trivial⟩)
set_option maxHeartbeats 2000000 in
theorem sp_plIn21 {SH : dw_Sh} {TT : Nat → dw_T} {K : dw_K} (hE : (EE SH TT).ok) : dx_SOK (EE SH TT) (pr_X12_planLine K) 83 sg_plIn21 := by
  intro ν ls vs args rest μ bc bs hvs hargs hcat g hk
  obtain ⟨v0, rfl, e0⟩ := vs1 (f := fun i => ls[i]?) (a := 0) hvs
  obtain rfl := ar0 hargs
  obtain ⟨g0, -⟩ := g.gl
  rw [show v0 = some (.ref 404) from gV_th g0] at e0
  have f0 : (μ.2.2.1 404 21).toInt = ν 0 + 21 := (g.fa _ (List.Mem.head _)).2
  have p0 : fl_P 25 (ν 0 + 21) μ.2.2.1 := (g.fl _ (List.Mem.head _)).2
  have z0 : ν 0 = 0 := g.z
  have cst1 : (1 : Int32).toInt = 1 := rfl
  refine q_ic rfl ?_
  exact hk _ _ ν [.int 1] (μ) (List.Mem.head _) (post_mk g rfl g.hi (fun _ _ => ⟨rfl, rfl⟩) (by decide) (by decide) (fun _ _ => rfl) ⟨(show (0 : Int) ≤ ν 0 ∧ ν 0 ≤ 0 from ⟨by omega, by omega⟩), trivial⟩ trivial ⟨⟨by decide, 1, rfl, by rw [z0]; rfl⟩, trivial⟩ rfl trivial ⟨⟨by decide, (show fl_P 121 (ν 0 + 0) (μ).2.2.1 from pq_in (c := 21) (by decide) (by omega) p0)⟩, trivial⟩)
set_option maxHeartbeats 2000000 in
theorem sp_plOff22 {SH : dw_Sh} {TT : Nat → dw_T} {K : dw_K} (hE : (EE SH TT).ok) : dx_SOK (EE SH TT) (pr_X12_planLine K) 206 sg_plOff22 := by
  intro ν ls vs args rest μ bc bs hvs hargs hcat g hk
  obtain ⟨v0, rfl, e0⟩ := vs1 (f := fun i => ls[i]?) (a := 0) hvs
  obtain rfl := ar0 hargs
  obtain ⟨g0, -⟩ := g.gl
  rw [show v0 = some (.ref 404) from gV_th g0] at e0
  have f0 : (μ.2.2.1 408 68).toInt = ν 1 + 0 := (g.fa _ (List.Mem.head _)).2
  have f1 : (μ.2.2.1 406 0).toInt = ν 2 + 0 := (g.fa _ (List.Mem.tail _ (List.Mem.head _))).2
  have p0 : fl_P 122 (ν 0 + 0) μ.2.2.1 := (g.fl _ (List.Mem.head _)).2
  have b1 : (0 : Int) ≤ ν 1 ∧ ν 1 ≤ 143 := g.iv 1 (by decide)
  have b2 : (1 : Int) ≤ ν 2 ∧ ν 2 ≤ 12 := g.iv 2 (by decide)
  have z0 : ν 0 = 0 := g.z
  have cst1 : (1 : Int32).toInt = 1 := rfl
  refine q_ic rfl ?_
  exact hk _ _ ν [.int 1] (μ) (List.Mem.head _) (post_mk g rfl g.hi (fun _ _ => ⟨rfl, rfl⟩) (by decide) (by decide) (fun _ _ => rfl) ⟨(show (0 : Int) ≤ ν 0 ∧ ν 0 ≤ 0 from ⟨by omega, by omega⟩), (show (0 : Int) ≤ ν 1 ∧ ν 1 ≤ 143 from ⟨by omega, by omega⟩), (show (1 : Int) ≤ ν 2 ∧ ν 2 ≤ 12 from ⟨by omega, by omega⟩), trivial⟩ trivial ⟨⟨by decide, 1, rfl, by rw [z0]; rfl⟩, trivial⟩ rfl trivial ⟨⟨by decide, (show fl_P 25 (ν 0 + 23) (μ).2.2.1 from pq_of (c := 23) (by decide) (by omega) (rp_off (c := 22) (y := 0) (by decide) p0 (show (μ.2.2.1 408 68).toInt ≤ 143 by omega) (by omega)))⟩, trivial⟩)
set_option maxHeartbeats 2000000 in
theorem sp_plOn24 {SH : dw_Sh} {TT : Nat → dw_T} {K : dw_K} (hE : (EE SH TT).ok) : dx_SOK (EE SH TT) (pr_X12_planLine K) 132 sg_plOn24 := by
  intro ν ls vs args rest μ bc bs hvs hargs hcat g hk
  obtain ⟨v0, rfl, e0⟩ := vs1 (f := fun i => ls[i]?) (a := 0) hvs
  obtain rfl := ar0 hargs
  obtain ⟨g0, -⟩ := g.gl
  rw [show v0 = some (.ref 404) from gV_th g0] at e0
  have f0 : (μ.2.2.1 408 73).toInt = ν 0 + 0 := (g.fa _ (List.Mem.head _)).2
  have p0 : fl_P 124 (ν 0 + 0) μ.2.2.1 := (g.fl _ (List.Mem.head _)).2
  have z0 : ν 0 = 0 := g.z
  have cst1 : (1 : Int32).toInt = 1 := rfl
  refine q_ic rfl ?_
  exact hk _ _ ν [.int 1] (μ) (List.Mem.head _) (post_mk g rfl g.hi (fun _ _ => ⟨rfl, rfl⟩) (by decide) (by decide) (fun _ _ => rfl) ⟨(show (0 : Int) ≤ ν 0 ∧ ν 0 ≤ 0 from ⟨by omega, by omega⟩), trivial⟩ trivial ⟨⟨by decide, 1, rfl, by rw [z0]; rfl⟩, trivial⟩ rfl trivial ⟨⟨by decide, (show fl_P 25 (ν 0 + 25) (μ).2.2.1 from pq_of (c := 25) (by decide) (by omega) (rp_on (c := 24) (y := 0) (by decide) p0 (show (μ.2.2.1 408 73).toInt = 0 by omega)))⟩, trivial⟩)
set_option maxHeartbeats 2000000 in
theorem sp_plIn26 {SH : dw_Sh} {TT : Nat → dw_T} {K : dw_K} (hE : (EE SH TT).ok) : dx_SOK (EE SH TT) (pr_X12_planLine K) 83 sg_plIn26 := by
  intro ν ls vs args rest μ bc bs hvs hargs hcat g hk
  obtain ⟨v0, rfl, e0⟩ := vs1 (f := fun i => ls[i]?) (a := 0) hvs
  obtain rfl := ar0 hargs
  obtain ⟨g0, -⟩ := g.gl
  rw [show v0 = some (.ref 404) from gV_th g0] at e0
  have f0 : (μ.2.2.1 404 21).toInt = ν 0 + 26 := (g.fa _ (List.Mem.head _)).2
  have p0 : fl_P 25 (ν 0 + 26) μ.2.2.1 := (g.fl _ (List.Mem.head _)).2
  have z0 : ν 0 = 0 := g.z
  have cst1 : (1 : Int32).toInt = 1 := rfl
  refine q_ic rfl ?_
  exact hk _ _ ν [.int 1] (μ) (List.Mem.head _) (post_mk g rfl g.hi (fun _ _ => ⟨rfl, rfl⟩) (by decide) (by decide) (fun _ _ => rfl) ⟨(show (0 : Int) ≤ ν 0 ∧ ν 0 ≤ 0 from ⟨by omega, by omega⟩), trivial⟩ trivial ⟨⟨by decide, 1, rfl, by rw [z0]; rfl⟩, trivial⟩ rfl trivial ⟨⟨by decide, (show fl_P 126 (ν 0 + 0) (μ).2.2.1 from pq_in (c := 26) (by decide) (by omega) p0)⟩, trivial⟩)
set_option maxHeartbeats 2000000 in
theorem sp_plOff27 {SH : dw_Sh} {TT : Nat → dw_T} {K : dw_K} (hE : (EE SH TT).ok) : dx_SOK (EE SH TT) (pr_X12_planLine K) 206 sg_plOff27 := by
  intro ν ls vs args rest μ bc bs hvs hargs hcat g hk
  obtain ⟨v0, rfl, e0⟩ := vs1 (f := fun i => ls[i]?) (a := 0) hvs
  obtain rfl := ar0 hargs
  obtain ⟨g0, -⟩ := g.gl
  rw [show v0 = some (.ref 404) from gV_th g0] at e0
  have f0 : (μ.2.2.1 408 83).toInt = ν 1 + 0 := (g.fa _ (List.Mem.head _)).2
  have f1 : (μ.2.2.1 406 0).toInt = ν 2 + 0 := (g.fa _ (List.Mem.tail _ (List.Mem.head _))).2
  have p0 : fl_P 127 (ν 0 + 0) μ.2.2.1 := (g.fl _ (List.Mem.head _)).2
  have b1 : (0 : Int) ≤ ν 1 ∧ ν 1 ≤ 143 := g.iv 1 (by decide)
  have b2 : (1 : Int) ≤ ν 2 ∧ ν 2 ≤ 12 := g.iv 2 (by decide)
  have z0 : ν 0 = 0 := g.z
  have cst1 : (1 : Int32).toInt = 1 := rfl
  refine q_ic rfl ?_
  exact hk _ _ ν [.int 1] (μ) (List.Mem.head _) (post_mk g rfl g.hi (fun _ _ => ⟨rfl, rfl⟩) (by decide) (by decide) (fun _ _ => rfl) ⟨(show (0 : Int) ≤ ν 0 ∧ ν 0 ≤ 0 from ⟨by omega, by omega⟩), (show (0 : Int) ≤ ν 1 ∧ ν 1 ≤ 143 from ⟨by omega, by omega⟩), (show (1 : Int) ≤ ν 2 ∧ ν 2 ≤ 12 from ⟨by omega, by omega⟩), trivial⟩ trivial ⟨⟨by decide, 1, rfl, by rw [z0]; rfl⟩, trivial⟩ rfl trivial ⟨⟨by decide, (show fl_P 25 (ν 0 + 28) (μ).2.2.1 from pq_of (c := 28) (by decide) (by omega) (rp_off (c := 27) (y := 0) (by decide) p0 (show (μ.2.2.1 408 83).toInt ≤ 143 by omega) (by omega)))⟩, trivial⟩)
set_option maxHeartbeats 2000000 in
theorem sp_plOn29 {SH : dw_Sh} {TT : Nat → dw_T} {K : dw_K} (hE : (EE SH TT).ok) : dx_SOK (EE SH TT) (pr_X12_planLine K) 132 sg_plOn29 := by
  intro ν ls vs args rest μ bc bs hvs hargs hcat g hk
  obtain ⟨v0, rfl, e0⟩ := vs1 (f := fun i => ls[i]?) (a := 0) hvs
  obtain rfl := ar0 hargs
  obtain ⟨g0, -⟩ := g.gl
  rw [show v0 = some (.ref 404) from gV_th g0] at e0
  have f0 : (μ.2.2.1 408 88).toInt = ν 0 + 0 := (g.fa _ (List.Mem.head _)).2
  have p0 : fl_P 129 (ν 0 + 0) μ.2.2.1 := (g.fl _ (List.Mem.head _)).2
  have z0 : ν 0 = 0 := g.z
  have cst1 : (1 : Int32).toInt = 1 := rfl
  refine q_ic rfl ?_
  exact hk _ _ ν [.int 1] (μ) (List.Mem.head _) (post_mk g rfl g.hi (fun _ _ => ⟨rfl, rfl⟩) (by decide) (by decide) (fun _ _ => rfl) ⟨(show (0 : Int) ≤ ν 0 ∧ ν 0 ≤ 0 from ⟨by omega, by omega⟩), trivial⟩ trivial ⟨⟨by decide, 1, rfl, by rw [z0]; rfl⟩, trivial⟩ rfl trivial ⟨⟨by decide, (show fl_P 25 (ν 0 + 30) (μ).2.2.1 from pq_of (c := 30) (by decide) (by omega) (rp_on (c := 29) (y := 0) (by decide) p0 (show (μ.2.2.1 408 88).toInt = 0 by omega)))⟩, trivial⟩)
set_option maxHeartbeats 2000000 in
theorem sp_plCopy {SH : dw_Sh} {TT : Nat → dw_T} {K : dw_K} (hE : (EE SH TT).ok) : dx_SOK (EE SH TT) (pr_X12_plan K) 91 sg_plCopy := by
  intro ν ls vs args rest μ bc bs hvs hargs hcat g hk
  obtain ⟨v0, v1, rfl, e0, e1⟩ := vs2 (f := fun i => ls[i]?) (a := 0) (b := 1) hvs
  obtain rfl := ar0 hargs
  obtain ⟨g0, g1, -⟩ := g.gl
  rw [show v0 = some (.ref 404) from gV_th g0] at e0
  obtain ⟨-, w1, h1, q1⟩ := g1
  rw [h1] at e1
  have f0 : (μ.2.2.1 406 0).toInt = ν 2 + 0 := (g.fa _ (List.Mem.head _)).2
  have f1 : (μ.2.2.1 406 1).toInt = ν 3 + 0 := (g.fa _ (List.Mem.tail _ (List.Mem.head _))).2
  have f2 : (μ.2.2.1 406 2).toInt = ν 4 + 0 := (g.fa _ (List.Mem.tail _ (List.Mem.tail _ (List.Mem.head _)))).2
  have f3 : (μ.2.2.1 406 3).toInt = ν 5 + 0 := (g.fa _ (List.Mem.tail _ (List.Mem.tail _ (List.Mem.tail _ (List.Mem.head _))))).2
  have f4 : (μ.2.2.1 408 0).toInt = ν 6 + 0 := (g.fa _ (List.Mem.tail _ (List.Mem.tail _ (List.Mem.tail _ (List.Mem.tail _ (List.Mem.head _)))))).2
  have p0 : fl_P 23 (ν 1 + 0) μ.2.2.1 := (g.fl _ (List.Mem.head _)).2
  have p1 : fl_P 0 (ν 0 + 0) μ.2.2.1 := (g.fl _ (List.Mem.tail _ (List.Mem.head _))).2
  have b1 : (0 : Int) ≤ ν 1 ∧ ν 1 ≤ 90 := g.iv 1 (by decide)
  have b2 : (0 : Int) ≤ ν 2 ∧ ν 2 ≤ 12 := g.iv 2 (by decide)
  have b3 : (0 : Int) ≤ ν 3 ∧ ν 3 ≤ 12 := g.iv 3 (by decide)
  have b4 : (0 : Int) ≤ ν 4 ∧ ν 4 ≤ 8 := g.iv 4 (by decide)
  have b5 : (0 : Int) ≤ ν 5 ∧ ν 5 ≤ 12 := g.iv 5 (by decide)
  have b6 : (0 : Int) ≤ ν 6 ∧ ν 6 ≤ 30 := g.iv 6 (by decide)
  have z0 : ν 0 = 0 := g.z
  refine q_ald rfl e0 ?_
  have k404 : (μ.2.1 404).1 = 12 := by rw [g.sh]; exact (hE.sh 404).1
  have n404 : (μ.2.1 404).2.1 = 57 := by rw [g.sh]; exact (hE.sh 404).2.1
  have r404_6 : (μ.2.1 404).2.2 6 = some 406 := by rw [g.sh]; exact (hE.sh 404).2.2 6
  refine q_getr rfl k404 r404_6 ?_
  have cst803 : (803 : Int32).toInt = 803 := rfl
  refine q_ic rfl ?_
  refine q_ild rfl e1 ?_
  refine q_add rfl ?_
  have t1 : ((803 : Int32) + w1).toInt = ((803 : Int32)).toInt + (w1).toInt := i_add (by first | omega | (simp; omega)) (by first | omega | (simp; omega))
  refine q_ald rfl e0 ?_
  have r404_8 : (μ.2.1 404).2.2 8 = some 408 := by rw [g.sh]; exact (hE.sh 404).2.2 8
  refine q_getr rfl k404 r404_8 ?_
  refine q_ild rfl e1 ?_
  have k408 : (μ.2.1 408).1 = 16 := by rw [g.sh]; exact (hE.sh 408).1
  have n408 : (μ.2.1 408).2.1 = 121 := by rw [g.sh]; exact (hE.sh 408).2.1
  refine q_xald rfl (Or.inl rfl) k408 n408 (by omega) (by omega) ?_
  have k406 : (μ.2.1 406).1 = 16 := by rw [g.sh]; exact (hE.sh 406).1
  have n406 : (μ.2.1 406).2.1 = 1427 := by rw [g.sh]; exact (hE.sh 406).2.1
  refine q_iast rfl k406 n406 (by omega) (by omega) ?_
  have en : ((803 : Int32) + w1).toInt.toNat = 803 + w1.toInt.toNat := by omega
  rw [en]
  have hv := g.hi 408 w1.toInt.toNat
  rw [show dx_seg ((EE SH TT).ce 408).iv w1.toInt.toNat = (0, 144) from hi408 _ (by omega)] at hv
  have hh : dx_in (dx_seg (dx_ce 406).iv (803 + w1.toInt.toNat)) (μ.2.2.1 408 w1.toInt.toNat).toInt := by
    by_cases e : w1.toInt.toNat = 0
    · rw [e]; rw [hi803]; exact ⟨by show (0 : Int) ≤ _; omega, by show _ ≤ (30 : Int); omega⟩
    · rw [show 803 + w1.toInt.toNat = 804 + (w1.toInt.toNat - 1) by omega, hi406p _ (by omega)]; exact hv
  exact hk _ _ ν [] (dw_si μ 406 (803 + w1.toInt.toNat) (μ.2.2.1 408 w1.toInt.toNat)) (List.Mem.head _) (post_mk g rfl (up_hi g.hi hh) (up_fr (List.Mem.head _)) (by decide) (by decide) (fun _ _ => rfl) ⟨(show (0 : Int) ≤ ν 0 ∧ ν 0 ≤ 0 from ⟨by omega, by omega⟩), (show (0 : Int) ≤ ν 1 ∧ ν 1 ≤ 90 from ⟨by omega, by omega⟩), (show (0 : Int) ≤ ν 2 ∧ ν 2 ≤ 12 from ⟨by omega, by omega⟩), (show (0 : Int) ≤ ν 3 ∧ ν 3 ≤ 12 from ⟨by omega, by omega⟩), (show (0 : Int) ≤ ν 4 ∧ ν 4 ≤ 8 from ⟨by omega, by omega⟩), (show (0 : Int) ≤ ν 5 ∧ ν 5 ≤ 12 from ⟨by omega, by omega⟩), (show (0 : Int) ≤ ν 6 ∧ ν 6 ≤ 30 from ⟨by omega, by omega⟩), trivial⟩ trivial trivial rfl ⟨⟨by decide, (show ((dw_si μ 406 (803 + w1.toInt.toNat) (μ.2.2.1 408 w1.toInt.toNat)).2.2.1 406 0).toInt = ν 2 + 0 from up_eq (Or.inr (by omega)) f0)⟩, ⟨by decide, (show ((dw_si μ 406 (803 + w1.toInt.toNat) (μ.2.2.1 408 w1.toInt.toNat)).2.2.1 406 1).toInt = ν 3 + 0 from up_eq (Or.inr (by omega)) f1)⟩, ⟨by decide, (show ((dw_si μ 406 (803 + w1.toInt.toNat) (μ.2.2.1 408 w1.toInt.toNat)).2.2.1 406 2).toInt = ν 4 + 0 from up_eq (Or.inr (by omega)) f2)⟩, ⟨by decide, (show ((dw_si μ 406 (803 + w1.toInt.toNat) (μ.2.2.1 408 w1.toInt.toNat)).2.2.1 406 3).toInt = ν 5 + 0 from up_eq (Or.inr (by omega)) f3)⟩, trivial⟩ ⟨⟨by decide, (show fl_P 23 (ν 1 + 1) (dw_si μ 406 (803 + w1.toInt.toNat) (μ.2.2.1 408 w1.toInt.toNat)).2.2.1 from fun j hj hx => by
      show dw_up μ.2.2.1 406 (803 + w1.toInt.toNat) (μ.2.2.1 408 w1.toInt.toNat) 406 (803 + j) = dw_up μ.2.2.1 406 (803 + w1.toInt.toNat) (μ.2.2.1 408 w1.toInt.toNat) 408 j
      rw [up_ne (a' := 408) (Or.inl (by decide))]
      by_cases e : j = w1.toInt.toNat
      · rw [e, up_at]
      · rw [up_ne (Or.inr (by omega))]; exact p0 j hj (by omega))⟩, ⟨by decide, (show fl_P 0 (ν 0 + 0) (dw_si μ 406 (803 + w1.toInt.toNat) (μ.2.2.1 408 w1.toInt.toNat)).2.2.1 from up_keep 803 893 (by omega) (by omega) (by decide) p1)⟩, trivial⟩)
set_option maxHeartbeats 2000000 in
theorem sp_plEnd4 {SH : dw_Sh} {TT : Nat → dw_T} {K : dw_K} (hE : (EE SH TT).ok) : dx_SOK (EE SH TT) (pr_X12_plan K) 113 sg_plEnd4 := by
  intro ν ls vs args rest μ bc bs hvs hargs hcat g hk
  obtain ⟨v0, rfl, e0⟩ := vs1 (f := fun i => ls[i]?) (a := 0) hvs
  obtain rfl := ar0 hargs
  obtain ⟨g0, -⟩ := g.gl
  rw [show v0 = some (.ref 404) from gV_th g0] at e0
  have f0 : (μ.2.2.1 404 21).toInt = ν 0 + 4 := (g.fa _ (List.Mem.head _)).2
  have f1 : (μ.2.2.1 408 0).toInt = ν 0 + 4 := (g.fa _ (List.Mem.tail _ (List.Mem.head _))).2
  have p0 : fl_P 23 (ν 0 + 13) μ.2.2.1 := (g.fl _ (List.Mem.head _)).2
  have p1 : fl_P 25 (ν 0 + 4) μ.2.2.1 := (g.fl _ (List.Mem.tail _ (List.Mem.head _))).2
  have z0 : ν 0 = 0 := g.z
  refine q_ald rfl e0 ?_
  exact hk _ _ ν [.ref 404] (μ) (List.Mem.head _) (post_mk g rfl g.hi (fun _ _ => ⟨rfl, rfl⟩) (by decide) (by decide) (fun _ _ => rfl) ⟨(show (0 : Int) ≤ ν 0 ∧ ν 0 ≤ 0 from ⟨by omega, by omega⟩), trivial⟩ trivial ⟨⟨404, List.Mem.head _, rfl⟩, trivial⟩ rfl trivial ⟨⟨by decide, (show fl_P 6 (ν 0 + 0) (μ).2.2.1 from pl_end (c := 4) (y := 0) (by decide) (by omega) (by omega) p0 (pq_in (c := 4) (by decide) (by omega) p1))⟩, trivial⟩)
set_option maxHeartbeats 2000000 in
theorem sp_plEnd9 {SH : dw_Sh} {TT : Nat → dw_T} {K : dw_K} (hE : (EE SH TT).ok) : dx_SOK (EE SH TT) (pr_X12_plan K) 113 sg_plEnd9 := by
  intro ν ls vs args rest μ bc bs hvs hargs hcat g hk
  obtain ⟨v0, rfl, e0⟩ := vs1 (f := fun i => ls[i]?) (a := 0) hvs
  obtain rfl := ar0 hargs
  obtain ⟨g0, -⟩ := g.gl
  rw [show v0 = some (.ref 404) from gV_th g0] at e0
  have f0 : (μ.2.2.1 404 21).toInt = ν 0 + 9 := (g.fa _ (List.Mem.head _)).2
  have f1 : (μ.2.2.1 408 0).toInt = ν 0 + 9 := (g.fa _ (List.Mem.tail _ (List.Mem.head _))).2
  have p0 : fl_P 23 (ν 0 + 28) μ.2.2.1 := (g.fl _ (List.Mem.head _)).2
  have p1 : fl_P 25 (ν 0 + 9) μ.2.2.1 := (g.fl _ (List.Mem.tail _ (List.Mem.head _))).2
  have z0 : ν 0 = 0 := g.z
  refine q_ald rfl e0 ?_
  exact hk _ _ ν [.ref 404] (μ) (List.Mem.head _) (post_mk g rfl g.hi (fun _ _ => ⟨rfl, rfl⟩) (by decide) (by decide) (fun _ _ => rfl) ⟨(show (0 : Int) ≤ ν 0 ∧ ν 0 ≤ 0 from ⟨by omega, by omega⟩), trivial⟩ trivial ⟨⟨404, List.Mem.head _, rfl⟩, trivial⟩ rfl trivial ⟨⟨by decide, (show fl_P 6 (ν 0 + 0) (μ).2.2.1 from pl_end (c := 9) (y := 0) (by decide) (by omega) (by omega) p0 (pq_in (c := 9) (by decide) (by omega) p1))⟩, trivial⟩)
set_option maxHeartbeats 2000000 in
theorem sp_plEnd14 {SH : dw_Sh} {TT : Nat → dw_T} {K : dw_K} (hE : (EE SH TT).ok) : dx_SOK (EE SH TT) (pr_X12_plan K) 113 sg_plEnd14 := by
  intro ν ls vs args rest μ bc bs hvs hargs hcat g hk
  obtain ⟨v0, rfl, e0⟩ := vs1 (f := fun i => ls[i]?) (a := 0) hvs
  obtain rfl := ar0 hargs
  obtain ⟨g0, -⟩ := g.gl
  rw [show v0 = some (.ref 404) from gV_th g0] at e0
  have f0 : (μ.2.2.1 404 21).toInt = ν 0 + 14 := (g.fa _ (List.Mem.head _)).2
  have f1 : (μ.2.2.1 408 0).toInt = ν 0 + 14 := (g.fa _ (List.Mem.tail _ (List.Mem.head _))).2
  have p0 : fl_P 23 (ν 0 + 43) μ.2.2.1 := (g.fl _ (List.Mem.head _)).2
  have p1 : fl_P 25 (ν 0 + 14) μ.2.2.1 := (g.fl _ (List.Mem.tail _ (List.Mem.head _))).2
  have z0 : ν 0 = 0 := g.z
  refine q_ald rfl e0 ?_
  exact hk _ _ ν [.ref 404] (μ) (List.Mem.head _) (post_mk g rfl g.hi (fun _ _ => ⟨rfl, rfl⟩) (by decide) (by decide) (fun _ _ => rfl) ⟨(show (0 : Int) ≤ ν 0 ∧ ν 0 ≤ 0 from ⟨by omega, by omega⟩), trivial⟩ trivial ⟨⟨404, List.Mem.head _, rfl⟩, trivial⟩ rfl trivial ⟨⟨by decide, (show fl_P 6 (ν 0 + 0) (μ).2.2.1 from pl_end (c := 14) (y := 0) (by decide) (by omega) (by omega) p0 (pq_in (c := 14) (by decide) (by omega) p1))⟩, trivial⟩)
set_option maxHeartbeats 2000000 in
theorem sp_plEnd19 {SH : dw_Sh} {TT : Nat → dw_T} {K : dw_K} (hE : (EE SH TT).ok) : dx_SOK (EE SH TT) (pr_X12_plan K) 113 sg_plEnd19 := by
  intro ν ls vs args rest μ bc bs hvs hargs hcat g hk
  obtain ⟨v0, rfl, e0⟩ := vs1 (f := fun i => ls[i]?) (a := 0) hvs
  obtain rfl := ar0 hargs
  obtain ⟨g0, -⟩ := g.gl
  rw [show v0 = some (.ref 404) from gV_th g0] at e0
  have f0 : (μ.2.2.1 404 21).toInt = ν 0 + 19 := (g.fa _ (List.Mem.head _)).2
  have f1 : (μ.2.2.1 408 0).toInt = ν 0 + 19 := (g.fa _ (List.Mem.tail _ (List.Mem.head _))).2
  have p0 : fl_P 23 (ν 0 + 58) μ.2.2.1 := (g.fl _ (List.Mem.head _)).2
  have p1 : fl_P 25 (ν 0 + 19) μ.2.2.1 := (g.fl _ (List.Mem.tail _ (List.Mem.head _))).2
  have z0 : ν 0 = 0 := g.z
  refine q_ald rfl e0 ?_
  exact hk _ _ ν [.ref 404] (μ) (List.Mem.head _) (post_mk g rfl g.hi (fun _ _ => ⟨rfl, rfl⟩) (by decide) (by decide) (fun _ _ => rfl) ⟨(show (0 : Int) ≤ ν 0 ∧ ν 0 ≤ 0 from ⟨by omega, by omega⟩), trivial⟩ trivial ⟨⟨404, List.Mem.head _, rfl⟩, trivial⟩ rfl trivial ⟨⟨by decide, (show fl_P 6 (ν 0 + 0) (μ).2.2.1 from pl_end (c := 19) (y := 0) (by decide) (by omega) (by omega) p0 (pq_in (c := 19) (by decide) (by omega) p1))⟩, trivial⟩)
set_option maxHeartbeats 2000000 in
theorem sp_plEnd24 {SH : dw_Sh} {TT : Nat → dw_T} {K : dw_K} (hE : (EE SH TT).ok) : dx_SOK (EE SH TT) (pr_X12_plan K) 113 sg_plEnd24 := by
  intro ν ls vs args rest μ bc bs hvs hargs hcat g hk
  obtain ⟨v0, rfl, e0⟩ := vs1 (f := fun i => ls[i]?) (a := 0) hvs
  obtain rfl := ar0 hargs
  obtain ⟨g0, -⟩ := g.gl
  rw [show v0 = some (.ref 404) from gV_th g0] at e0
  have f0 : (μ.2.2.1 404 21).toInt = ν 0 + 24 := (g.fa _ (List.Mem.head _)).2
  have f1 : (μ.2.2.1 408 0).toInt = ν 0 + 24 := (g.fa _ (List.Mem.tail _ (List.Mem.head _))).2
  have p0 : fl_P 23 (ν 0 + 73) μ.2.2.1 := (g.fl _ (List.Mem.head _)).2
  have p1 : fl_P 25 (ν 0 + 24) μ.2.2.1 := (g.fl _ (List.Mem.tail _ (List.Mem.head _))).2
  have z0 : ν 0 = 0 := g.z
  refine q_ald rfl e0 ?_
  exact hk _ _ ν [.ref 404] (μ) (List.Mem.head _) (post_mk g rfl g.hi (fun _ _ => ⟨rfl, rfl⟩) (by decide) (by decide) (fun _ _ => rfl) ⟨(show (0 : Int) ≤ ν 0 ∧ ν 0 ≤ 0 from ⟨by omega, by omega⟩), trivial⟩ trivial ⟨⟨404, List.Mem.head _, rfl⟩, trivial⟩ rfl trivial ⟨⟨by decide, (show fl_P 6 (ν 0 + 0) (μ).2.2.1 from pl_end (c := 24) (y := 0) (by decide) (by omega) (by omega) p0 (pq_in (c := 24) (by decide) (by omega) p1))⟩, trivial⟩)
set_option maxHeartbeats 2000000 in
theorem sp_plEnd29 {SH : dw_Sh} {TT : Nat → dw_T} {K : dw_K} (hE : (EE SH TT).ok) : dx_SOK (EE SH TT) (pr_X12_plan K) 113 sg_plEnd29 := by
  intro ν ls vs args rest μ bc bs hvs hargs hcat g hk
  obtain ⟨v0, rfl, e0⟩ := vs1 (f := fun i => ls[i]?) (a := 0) hvs
  obtain rfl := ar0 hargs
  obtain ⟨g0, -⟩ := g.gl
  rw [show v0 = some (.ref 404) from gV_th g0] at e0
  have f0 : (μ.2.2.1 404 21).toInt = ν 0 + 29 := (g.fa _ (List.Mem.head _)).2
  have f1 : (μ.2.2.1 408 0).toInt = ν 0 + 29 := (g.fa _ (List.Mem.tail _ (List.Mem.head _))).2
  have p0 : fl_P 23 (ν 0 + 88) μ.2.2.1 := (g.fl _ (List.Mem.head _)).2
  have p1 : fl_P 25 (ν 0 + 29) μ.2.2.1 := (g.fl _ (List.Mem.tail _ (List.Mem.head _))).2
  have z0 : ν 0 = 0 := g.z
  refine q_ald rfl e0 ?_
  exact hk _ _ ν [.ref 404] (μ) (List.Mem.head _) (post_mk g rfl g.hi (fun _ _ => ⟨rfl, rfl⟩) (by decide) (by decide) (fun _ _ => rfl) ⟨(show (0 : Int) ≤ ν 0 ∧ ν 0 ≤ 0 from ⟨by omega, by omega⟩), trivial⟩ trivial ⟨⟨404, List.Mem.head _, rfl⟩, trivial⟩ rfl trivial ⟨⟨by decide, (show fl_P 6 (ν 0 + 0) (μ).2.2.1 from pl_end (c := 29) (y := 0) (by decide) (by omega) (by omega) p0 (pq_in (c := 29) (by decide) (by omega) p1))⟩, trivial⟩)
set_option maxHeartbeats 2000000 in
theorem sp_reZero0 {SH : dw_Sh} {TT : Nat → dw_T} {K : dw_K} (hE : (EE SH TT).ok) : dx_SOK (EE SH TT) (pr_X12_restore K) 25 sg_reZero0 := by
  intro ν ls vs args rest μ bc bs hvs hargs hcat g hk
  obtain ⟨v0, v1, rfl, e0, e1⟩ := vs2 (f := fun i => ls[i]?) (a := 0) (b := 1) hvs
  obtain rfl := ar0 hargs
  obtain ⟨g0, g1, -⟩ := g.gl
  rw [show v0 = some (.ref 404) from gV_th g0] at e0
  obtain ⟨-, w1, h1, q1⟩ := g1
  rw [h1] at e1
  have z0 : ν 0 = 0 := g.z
  have cst0 : (0 : Int32).toInt = 0 := rfl
  refine q_ic rfl ?_
  exact hk _ _ ν [.int 0] (μ) (List.Mem.head _) (post_mk g rfl g.hi (fun _ _ => ⟨rfl, rfl⟩) (by decide) (by decide) (fun _ _ => rfl) ⟨(show (0 : Int) ≤ ν 0 ∧ ν 0 ≤ 0 from ⟨by omega, by omega⟩), trivial⟩ trivial ⟨⟨by decide, 0, rfl, by rw [z0]; rfl⟩, trivial⟩ rfl trivial ⟨⟨by decide, (show fl_P 15 (ν 0 + 0) (μ).2.2.1 from fun j _ hj => absurd hj (by omega))⟩, trivial⟩)
set_option maxHeartbeats 2000000 in
theorem sp_imEnd1 {SH : dw_Sh} {TT : Nat → dw_T} {K : dw_K} (hE : (EE SH TT).ok) : dx_SOK (EE SH TT) (pr_X12_image K) 49 sg_imEnd1 := by
  intro ν ls vs args rest μ bc bs hvs hargs hcat g hk
  obtain ⟨v0, v1, rfl, e0, e1⟩ := vs2 (f := fun i => ls[i]?) (a := 0) (b := 1) hvs
  obtain rfl := ar0 hargs
  obtain ⟨g0, g1, -⟩ := g.gl
  rw [show v0 = some (.ref 404) from gV_th g0] at e0
  obtain ⟨-, w1, h1, q1⟩ := g1
  rw [h1] at e1
  have f0 : (μ.2.2.1 433 0).toInt = ν 1 + 0 := (g.fa _ (List.Mem.head _)).2
  have f1 : (μ.2.2.1 433 1).toInt = ν 2 + 0 := (g.fa _ (List.Mem.tail _ (List.Mem.head _))).2
  have p0 : fl_P 16 (ν 0 + 1427) μ.2.2.1 := (g.fl _ (List.Mem.head _)).2
  have p1 : fl_P 0 (ν 0 + 0) μ.2.2.1 := (g.fl _ (List.Mem.tail _ (List.Mem.head _))).2
  have p2 : fl_P 6 (ν 0 + 0) μ.2.2.1 := (g.fl _ (List.Mem.tail _ (List.Mem.tail _ (List.Mem.head _)))).2
  have p3 : fl_P 2 (ν 0 + 0) μ.2.2.1 := (g.fl _ (List.Mem.tail _ (List.Mem.tail _ (List.Mem.tail _ (List.Mem.head _))))).2
  have b1 : (0 : Int) ≤ ν 1 ∧ ν 1 ≤ 1 := g.iv 1 (by decide)
  have b2 : (0 : Int) ≤ ν 2 ∧ ν 2 ≤ 1 := g.iv 2 (by decide)
  have z0 : ν 0 = 0 := g.z
  refine q_ald rfl e0 ?_
  have k404 : (μ.2.1 404).1 = 12 := by rw [g.sh]; exact (hE.sh 404).1
  have n404 : (μ.2.1 404).2.1 = 57 := by rw [g.sh]; exact (hE.sh 404).2.1
  have r404_56 : (μ.2.1 404).2.2 56 = some 433 := by rw [g.sh]; exact (hE.sh 404).2.2 56
  refine q_getr rfl k404 r404_56 ?_
  refine q_ild rfl e1 ?_
  have cst1 : (1 : Int32).toInt = 1 := rfl
  refine q_ic rfl ?_
  have k433 : (μ.2.1 433).1 = 19 := by rw [g.sh]; exact (hE.sh 433).1
  have n433 : (μ.2.1 433).2.1 = 2 := by rw [g.sh]; exact (hE.sh 433).2.1
  refine q_iastz rfl k433 n433 (by omega) (by omega) (Or.inr rfl) ?_
  have en : w1.toInt.toNat = 1 := by omega
  rw [en]
  have cp : ∀ j : Nat, j < 894 → μ.2.2.1 432 (1427 + j) = μ.2.2.1 406 (0 + j) := fun j hj => by rw [Nat.zero_add]; exact p0 j hj (by omega)
  exact hk _ _ ν [] (dw_si μ 433 1 1) (List.Mem.head _) (post_mk g rfl (up_hi g.hi (show (dx_seg (dx_ce 433).iv 1).1 ≤ (1 : Int32).toInt ∧ (1 : Int32).toInt ≤ (dx_seg (dx_ce 433).iv 1).2 from by decide +kernel)) (up_fr (List.Mem.head _)) (by decide) (by decide) (fun _ _ => rfl) ⟨(show (0 : Int) ≤ ν 0 ∧ ν 0 ≤ 0 from ⟨by omega, by omega⟩), (show (0 : Int) ≤ ν 1 ∧ ν 1 ≤ 1 from ⟨by omega, by omega⟩), (show (0 : Int) ≤ ν 2 ∧ ν 2 ≤ 1 from ⟨by omega, by omega⟩), trivial⟩ trivial trivial rfl ⟨⟨by decide, (show ((dw_si μ 433 1 1).2.2.1 433 0).toInt = ν 1 + 0 from up_eq (Or.inr (by decide)) f0)⟩, ⟨by decide, (show ((dw_si μ 433 1 1).2.2.1 433 1).toInt = ν 0 + 1 from by show (dw_up μ.2.2.1 433 1 1 433 1).toInt = ν 0 + 1; rw [up_at, z0]; rfl)⟩, trivial⟩ ⟨⟨by decide, (show fl_P 2 (ν 0 + 0) (dw_si μ 433 1 1).2.2.1 from up_keep 1 1 (by decide) (by decide) (by decide) p3)⟩, ⟨by decide, (show fl_P 3 (ν 0 + 0) (dw_si μ 433 1 1).2.2.1 from fun _ => (⟨wk_copy (I' := dw_up μ.2.2.1 433 1 1) (fun j hj => (up_ne (Or.inl (by decide))).trans (cp j hj)) p1, pl_copy (I' := dw_up μ.2.2.1 433 1 1) (fun j hj => (up_ne (Or.inl (by decide))).trans (cp j hj)) p2⟩ : fl_wk 432 1427 (dw_up μ.2.2.1 433 1 1) ∧ fl_pl 432 1427 (dw_up μ.2.2.1 433 1 1)))⟩, trivial⟩)
set_option maxHeartbeats 2000000 in
theorem sp_slMark {SH : dw_Sh} {TT : Nat → dw_T} {K : dw_K} (hE : (EE SH TT).ok) : dx_SOK (EE SH TT) (pr_X12_slugs K) 165 sg_slMark := by
  intro ν ls vs args rest μ bc bs hvs hargs hcat g hk
  obtain ⟨v0, v1, rfl, e0, e1⟩ := vs2 (f := fun i => ls[i]?) (a := 0) (b := 10) hvs
  obtain rfl := ar0 hargs
  obtain ⟨g0, g1, -⟩ := g.gl
  rw [show v0 = some (.ref 404) from gV_th g0] at e0
  obtain ⟨-, w1, h1, q1⟩ := g1
  rw [h1] at e1
  have p0 : fl_P 12 (ν 2 + 0) μ.2.2.1 := (g.fl _ (List.Mem.head _)).2
  have b1 : (0 : Int) ≤ ν 1 ∧ ν 1 ≤ 143 := g.iv 1 (by decide)
  have b2 : (-2147483648 : Int) ≤ ν 2 ∧ ν 2 ≤ 2147483647 := g.iv 2 (by decide)
  have z0 : ν 0 = 0 := g.z
  refine q_ald rfl e0 ?_
  have k404 : (μ.2.1 404).1 = 12 := by rw [g.sh]; exact (hE.sh 404).1
  have n404 : (μ.2.1 404).2.1 = 57 := by rw [g.sh]; exact (hE.sh 404).2.1
  have r404_45 : (μ.2.1 404).2.2 45 = some 425 := by rw [g.sh]; exact (hE.sh 404).2.2 45
  refine q_getr rfl k404 r404_45 ?_
  refine q_ild rfl e1 ?_
  have k425 : (μ.2.1 425).1 = 16 := by rw [g.sh]; exact (hE.sh 425).1
  have n425 : (μ.2.1 425).2.1 = 144 := by rw [g.sh]; exact (hE.sh 425).2.1
  refine q_xald rfl (Or.inl rfl) k425 n425 (by omega) (by omega) ?_
  have cst1 : (1 : Int32).toInt = 1 := rfl
  refine q_ic rfl ?_
  have cn : ν 2 + 0 = fl_sum (fl_cnt μ.2.2.1) 144 := p0
  have c1 : (1 : Int32).toInt = 1 := rfl
  refine q_icmp (c := 1) rfl (by decide) (fun hc => ?_) (fun hc => ?_)
  · have hc1 : (μ.2.2.1 425 w1.toInt.toNat).toInt ≠ (1 : Int32).toInt := hc
    refine q_ald rfl e0 ?_
    refine q_getr rfl k404 r404_45 ?_
    refine q_ild rfl e1 ?_
    refine q_ic rfl ?_
    refine q_iast rfl k425 n425 (by omega) (by omega) ?_
    have hd : fl_cnt (dw_up μ.2.2.1 425 w1.toInt.toNat 1) w1.toInt.toNat = fl_cnt μ.2.2.1 w1.toInt.toNat + -1 := by unfold fl_cnt; rw [up_at, if_pos (show (1 : Int32).toInt = 1 from rfl), if_neg (by omega)]; rfl
    have hs := fl_sum_up (f := fl_cnt μ.2.2.1) (g := fl_cnt (dw_up μ.2.2.1 425 w1.toInt.toNat 1)) hd (fun c hc => by unfold fl_cnt; rw [up_ne (Or.inr hc)]) 144
    rw [if_pos (by omega)] at hs
    have hl := fl_sum_le (f := fl_cnt (dw_up μ.2.2.1 425 w1.toInt.toNat 1)) (l := 0) (u := 1) 144 (fun c _ => by unfold fl_cnt; split <;> omega)
    have hl2 := fl_sum_le (f := fl_cnt μ.2.2.1) (l := 0) (u := 1) 144 (fun c _ => by unfold fl_cnt; split <;> omega)
    exact hk _ _ ν [] (dw_si μ 425 w1.toInt.toNat 1) (List.Mem.tail _ (List.Mem.head _)) (post_mk g rfl (up_hi g.hi (hi425 _ (by omega) _)) (up_fr (List.Mem.head _)) (by decide) (by decide) (fun _ _ => rfl) ⟨(show (0 : Int) ≤ ν 0 ∧ ν 0 ≤ 0 from ⟨by omega, by omega⟩), (show (0 : Int) ≤ ν 1 ∧ ν 1 ≤ 143 from ⟨by omega, by omega⟩), (show (1 : Int) ≤ ν 2 ∧ ν 2 ≤ 144 from ⟨by omega, by omega⟩), trivial⟩ trivial trivial rfl trivial ⟨⟨by decide, (show fl_P 12 (ν 2 + (-1)) (dw_si μ 425 w1.toInt.toNat 1).2.2.1 from by show ν 2 + -1 = fl_sum (fl_cnt (dw_up μ.2.2.1 425 w1.toInt.toNat 1)) 144; omega)⟩, trivial⟩)
  · exact hk _ _ ν [] (μ) (List.Mem.head _) (post_mk g rfl g.hi (fun _ _ => ⟨rfl, rfl⟩) (by decide) (by decide) (fun _ _ => rfl) ⟨(show (0 : Int) ≤ ν 0 ∧ ν 0 ≤ 0 from ⟨by omega, by omega⟩), (show (0 : Int) ≤ ν 1 ∧ ν 1 ≤ 143 from ⟨by omega, by omega⟩), (show (-2147483648 : Int) ≤ ν 2 ∧ ν 2 ≤ 2147483647 from ⟨by omega, by omega⟩), trivial⟩ trivial trivial rfl trivial ⟨⟨by decide, (show fl_P 12 (ν 2 + 0) (μ).2.2.1 from p0)⟩, trivial⟩)
set_option maxHeartbeats 2000000 in
theorem sp_st13_1 {SH : dw_Sh} {TT : Nat → dw_T} {K : dw_K} (hE : (EE SH TT).ok) : dx_SOK (EE SH TT) (pr_X9_says K) 13 sg_st13_1 := by
  intro ν ls vs args rest μ bc bs hvs hargs hcat g hk
  obtain rfl := vs0 (f := fun i => ls[i]?) hvs
  obtain ⟨x0, rfl⟩ := ar1 hargs
  obtain ⟨g0, -⟩ := g.gl
  obtain rfl : x0 = .ref 1000002 := Option.some.inj (gV_th g0)
  have z0 : ν 0 = 0 := g.z
  have hs : dw_isS 1000002 := isS 1 (by decide)
  have hc : dw_cats rest ≤ 8 := by omega
  refine q_callT1 rfl hs hc (t_length hs ?_)
  rw [show Int32.ofNat (dw_sb (dw_sx 1000002)).length = 4 from by decide +kernel]
  exact hk _ _ ν [.int 4] (μ) (List.Mem.head _) (post_mk g rfl g.hi (fun _ _ => ⟨rfl, rfl⟩) (by decide) (by decide) (fun _ _ => rfl) ⟨(show (0 : Int) ≤ ν 0 ∧ ν 0 ≤ 0 from ⟨by omega, by omega⟩), trivial⟩ trivial ⟨⟨by decide, 4, rfl, by rw [z0]; rfl⟩, trivial⟩ rfl trivial trivial)
set_option maxHeartbeats 2000000 in
theorem sp_st13_6 {SH : dw_Sh} {TT : Nat → dw_T} {K : dw_K} (hE : (EE SH TT).ok) : dx_SOK (EE SH TT) (pr_X9_says K) 13 sg_st13_6 := by
  intro ν ls vs args rest μ bc bs hvs hargs hcat g hk
  obtain rfl := vs0 (f := fun i => ls[i]?) hvs
  obtain ⟨x0, rfl⟩ := ar1 hargs
  obtain ⟨g0, -⟩ := g.gl
  obtain rfl : x0 = .ref 1000007 := Option.some.inj (gV_th g0)
  have z0 : ν 0 = 0 := g.z
  have hs : dw_isS 1000007 := isS 6 (by decide)
  have hc : dw_cats rest ≤ 8 := by omega
  refine q_callT1 rfl hs hc (t_length hs ?_)
  rw [show Int32.ofNat (dw_sb (dw_sx 1000007)).length = 5 from by decide +kernel]
  exact hk _ _ ν [.int 5] (μ) (List.Mem.head _) (post_mk g rfl g.hi (fun _ _ => ⟨rfl, rfl⟩) (by decide) (by decide) (fun _ _ => rfl) ⟨(show (0 : Int) ≤ ν 0 ∧ ν 0 ≤ 0 from ⟨by omega, by omega⟩), trivial⟩ trivial ⟨⟨by decide, 5, rfl, by rw [z0]; rfl⟩, trivial⟩ rfl trivial trivial)
set_option maxHeartbeats 2000000 in
theorem sp_st13_11 {SH : dw_Sh} {TT : Nat → dw_T} {K : dw_K} (hE : (EE SH TT).ok) : dx_SOK (EE SH TT) (pr_X9_says K) 13 sg_st13_11 := by
  intro ν ls vs args rest μ bc bs hvs hargs hcat g hk
  obtain rfl := vs0 (f := fun i => ls[i]?) hvs
  obtain ⟨x0, rfl⟩ := ar1 hargs
  obtain ⟨g0, -⟩ := g.gl
  obtain rfl : x0 = .ref 1000012 := Option.some.inj (gV_th g0)
  have z0 : ν 0 = 0 := g.z
  have hs : dw_isS 1000012 := isS 11 (by decide)
  have hc : dw_cats rest ≤ 8 := by omega
  refine q_callT1 rfl hs hc (t_length hs ?_)
  rw [show Int32.ofNat (dw_sb (dw_sx 1000012)).length = 4 from by decide +kernel]
  exact hk _ _ ν [.int 4] (μ) (List.Mem.head _) (post_mk g rfl g.hi (fun _ _ => ⟨rfl, rfl⟩) (by decide) (by decide) (fun _ _ => rfl) ⟨(show (0 : Int) ≤ ν 0 ∧ ν 0 ≤ 0 from ⟨by omega, by omega⟩), trivial⟩ trivial ⟨⟨by decide, 4, rfl, by rw [z0]; rfl⟩, trivial⟩ rfl trivial trivial)
set_option maxHeartbeats 2000000 in
theorem sp_st13_16 {SH : dw_Sh} {TT : Nat → dw_T} {K : dw_K} (hE : (EE SH TT).ok) : dx_SOK (EE SH TT) (pr_X9_says K) 13 sg_st13_16 := by
  intro ν ls vs args rest μ bc bs hvs hargs hcat g hk
  obtain rfl := vs0 (f := fun i => ls[i]?) hvs
  obtain ⟨x0, rfl⟩ := ar1 hargs
  obtain ⟨g0, -⟩ := g.gl
  obtain rfl : x0 = .ref 1000017 := Option.some.inj (gV_th g0)
  have z0 : ν 0 = 0 := g.z
  have hs : dw_isS 1000017 := isS 16 (by decide)
  have hc : dw_cats rest ≤ 8 := by omega
  refine q_callT1 rfl hs hc (t_length hs ?_)
  rw [show Int32.ofNat (dw_sb (dw_sx 1000017)).length = 5 from by decide +kernel]
  exact hk _ _ ν [.int 5] (μ) (List.Mem.head _) (post_mk g rfl g.hi (fun _ _ => ⟨rfl, rfl⟩) (by decide) (by decide) (fun _ _ => rfl) ⟨(show (0 : Int) ≤ ν 0 ∧ ν 0 ≤ 0 from ⟨by omega, by omega⟩), trivial⟩ trivial ⟨⟨by decide, 5, rfl, by rw [z0]; rfl⟩, trivial⟩ rfl trivial trivial)
set_option maxHeartbeats 2000000 in
theorem sp_st13_21 {SH : dw_Sh} {TT : Nat → dw_T} {K : dw_K} (hE : (EE SH TT).ok) : dx_SOK (EE SH TT) (pr_X9_says K) 13 sg_st13_21 := by
  intro ν ls vs args rest μ bc bs hvs hargs hcat g hk
  obtain rfl := vs0 (f := fun i => ls[i]?) hvs
  obtain ⟨x0, rfl⟩ := ar1 hargs
  obtain ⟨g0, -⟩ := g.gl
  obtain rfl : x0 = .ref 1000022 := Option.some.inj (gV_th g0)
  have z0 : ν 0 = 0 := g.z
  have hs : dw_isS 1000022 := isS 21 (by decide)
  have hc : dw_cats rest ≤ 8 := by omega
  refine q_callT1 rfl hs hc (t_length hs ?_)
  rw [show Int32.ofNat (dw_sb (dw_sx 1000022)).length = 3 from by decide +kernel]
  exact hk _ _ ν [.int 3] (μ) (List.Mem.head _) (post_mk g rfl g.hi (fun _ _ => ⟨rfl, rfl⟩) (by decide) (by decide) (fun _ _ => rfl) ⟨(show (0 : Int) ≤ ν 0 ∧ ν 0 ≤ 0 from ⟨by omega, by omega⟩), trivial⟩ trivial ⟨⟨by decide, 3, rfl, by rw [z0]; rfl⟩, trivial⟩ rfl trivial trivial)
set_option maxHeartbeats 2000000 in
theorem sp_st25_0 {SH : dw_Sh} {TT : Nat → dw_T} {K : dw_K} (hE : (EE SH TT).ok) : dx_SOK (EE SH TT) (pr_X9_says K) 25 sg_st25_0 := by
  intro ν ls vs args rest μ bc bs hvs hargs hcat g hk
  obtain rfl := vs0 (f := fun i => ls[i]?) hvs
  obtain ⟨x0, rfl⟩ := ar1 hargs
  obtain ⟨g0, -⟩ := g.gl
  obtain rfl : x0 = .ref 1000001 := Option.some.inj (gV_th g0)
  have z0 : ν 0 = 0 := g.z
  have hs : dw_isS 1000001 := isS 0 (by decide)
  have hc : dw_cats rest ≤ 8 := by omega
  refine q_callT1 rfl hs hc (t_length hs ?_)
  rw [show Int32.ofNat (dw_sb (dw_sx 1000001)).length = 4 from by decide +kernel]
  exact hk _ _ ν [.int 4] (μ) (List.Mem.head _) (post_mk g rfl g.hi (fun _ _ => ⟨rfl, rfl⟩) (by decide) (by decide) (fun _ _ => rfl) ⟨(show (0 : Int) ≤ ν 0 ∧ ν 0 ≤ 0 from ⟨by omega, by omega⟩), trivial⟩ trivial ⟨⟨by decide, 4, rfl, by rw [z0]; rfl⟩, trivial⟩ rfl trivial trivial)
set_option maxHeartbeats 2000000 in
theorem sp_st25_5 {SH : dw_Sh} {TT : Nat → dw_T} {K : dw_K} (hE : (EE SH TT).ok) : dx_SOK (EE SH TT) (pr_X9_says K) 25 sg_st25_5 := by
  intro ν ls vs args rest μ bc bs hvs hargs hcat g hk
  obtain rfl := vs0 (f := fun i => ls[i]?) hvs
  obtain ⟨x0, rfl⟩ := ar1 hargs
  obtain ⟨g0, -⟩ := g.gl
  obtain rfl : x0 = .ref 1000006 := Option.some.inj (gV_th g0)
  have z0 : ν 0 = 0 := g.z
  have hs : dw_isS 1000006 := isS 5 (by decide)
  have hc : dw_cats rest ≤ 8 := by omega
  refine q_callT1 rfl hs hc (t_length hs ?_)
  rw [show Int32.ofNat (dw_sb (dw_sx 1000006)).length = 5 from by decide +kernel]
  exact hk _ _ ν [.int 5] (μ) (List.Mem.head _) (post_mk g rfl g.hi (fun _ _ => ⟨rfl, rfl⟩) (by decide) (by decide) (fun _ _ => rfl) ⟨(show (0 : Int) ≤ ν 0 ∧ ν 0 ≤ 0 from ⟨by omega, by omega⟩), trivial⟩ trivial ⟨⟨by decide, 5, rfl, by rw [z0]; rfl⟩, trivial⟩ rfl trivial trivial)
set_option maxHeartbeats 2000000 in
theorem sp_st25_10 {SH : dw_Sh} {TT : Nat → dw_T} {K : dw_K} (hE : (EE SH TT).ok) : dx_SOK (EE SH TT) (pr_X9_says K) 25 sg_st25_10 := by
  intro ν ls vs args rest μ bc bs hvs hargs hcat g hk
  obtain rfl := vs0 (f := fun i => ls[i]?) hvs
  obtain ⟨x0, rfl⟩ := ar1 hargs
  obtain ⟨g0, -⟩ := g.gl
  obtain rfl : x0 = .ref 1000011 := Option.some.inj (gV_th g0)
  have z0 : ν 0 = 0 := g.z
  have hs : dw_isS 1000011 := isS 10 (by decide)
  have hc : dw_cats rest ≤ 8 := by omega
  refine q_callT1 rfl hs hc (t_length hs ?_)
  rw [show Int32.ofNat (dw_sb (dw_sx 1000011)).length = 2 from by decide +kernel]
  exact hk _ _ ν [.int 2] (μ) (List.Mem.head _) (post_mk g rfl g.hi (fun _ _ => ⟨rfl, rfl⟩) (by decide) (by decide) (fun _ _ => rfl) ⟨(show (0 : Int) ≤ ν 0 ∧ ν 0 ≤ 0 from ⟨by omega, by omega⟩), trivial⟩ trivial ⟨⟨by decide, 2, rfl, by rw [z0]; rfl⟩, trivial⟩ rfl trivial trivial)
set_option maxHeartbeats 2000000 in
theorem sp_st25_15 {SH : dw_Sh} {TT : Nat → dw_T} {K : dw_K} (hE : (EE SH TT).ok) : dx_SOK (EE SH TT) (pr_X9_says K) 25 sg_st25_15 := by
  intro ν ls vs args rest μ bc bs hvs hargs hcat g hk
  obtain rfl := vs0 (f := fun i => ls[i]?) hvs
  obtain ⟨x0, rfl⟩ := ar1 hargs
  obtain ⟨g0, -⟩ := g.gl
  obtain rfl : x0 = .ref 1000016 := Option.some.inj (gV_th g0)
  have z0 : ν 0 = 0 := g.z
  have hs : dw_isS 1000016 := isS 15 (by decide)
  have hc : dw_cats rest ≤ 8 := by omega
  refine q_callT1 rfl hs hc (t_length hs ?_)
  rw [show Int32.ofNat (dw_sb (dw_sx 1000016)).length = 3 from by decide +kernel]
  exact hk _ _ ν [.int 3] (μ) (List.Mem.head _) (post_mk g rfl g.hi (fun _ _ => ⟨rfl, rfl⟩) (by decide) (by decide) (fun _ _ => rfl) ⟨(show (0 : Int) ≤ ν 0 ∧ ν 0 ≤ 0 from ⟨by omega, by omega⟩), trivial⟩ trivial ⟨⟨by decide, 3, rfl, by rw [z0]; rfl⟩, trivial⟩ rfl trivial trivial)
set_option maxHeartbeats 2000000 in
theorem sp_st25_20 {SH : dw_Sh} {TT : Nat → dw_T} {K : dw_K} (hE : (EE SH TT).ok) : dx_SOK (EE SH TT) (pr_X9_says K) 25 sg_st25_20 := by
  intro ν ls vs args rest μ bc bs hvs hargs hcat g hk
  obtain rfl := vs0 (f := fun i => ls[i]?) hvs
  obtain ⟨x0, rfl⟩ := ar1 hargs
  obtain ⟨g0, -⟩ := g.gl
  obtain rfl : x0 = .ref 1000021 := Option.some.inj (gV_th g0)
  have z0 : ν 0 = 0 := g.z
  have hs : dw_isS 1000021 := isS 20 (by decide)
  have hc : dw_cats rest ≤ 8 := by omega
  refine q_callT1 rfl hs hc (t_length hs ?_)
  rw [show Int32.ofNat (dw_sb (dw_sx 1000021)).length = 3 from by decide +kernel]
  exact hk _ _ ν [.int 3] (μ) (List.Mem.head _) (post_mk g rfl g.hi (fun _ _ => ⟨rfl, rfl⟩) (by decide) (by decide) (fun _ _ => rfl) ⟨(show (0 : Int) ≤ ν 0 ∧ ν 0 ≤ 0 from ⟨by omega, by omega⟩), trivial⟩ trivial ⟨⟨by decide, 3, rfl, by rw [z0]; rfl⟩, trivial⟩ rfl trivial trivial)
set_option maxHeartbeats 2000000 in
theorem sp_st25_25 {SH : dw_Sh} {TT : Nat → dw_T} {K : dw_K} (hE : (EE SH TT).ok) : dx_SOK (EE SH TT) (pr_X9_says K) 25 sg_st25_25 := by
  intro ν ls vs args rest μ bc bs hvs hargs hcat g hk
  obtain rfl := vs0 (f := fun i => ls[i]?) hvs
  obtain ⟨x0, rfl⟩ := ar1 hargs
  obtain ⟨g0, -⟩ := g.gl
  obtain rfl : x0 = .ref 1000026 := Option.some.inj (gV_th g0)
  have z0 : ν 0 = 0 := g.z
  have hs : dw_isS 1000026 := isS 25 (by decide)
  have hc : dw_cats rest ≤ 8 := by omega
  refine q_callT1 rfl hs hc (t_length hs ?_)
  rw [show Int32.ofNat (dw_sb (dw_sx 1000026)).length = 4 from by decide +kernel]
  exact hk _ _ ν [.int 4] (μ) (List.Mem.head _) (post_mk g rfl g.hi (fun _ _ => ⟨rfl, rfl⟩) (by decide) (by decide) (fun _ _ => rfl) ⟨(show (0 : Int) ≤ ν 0 ∧ ν 0 ≤ 0 from ⟨by omega, by omega⟩), trivial⟩ trivial ⟨⟨by decide, 4, rfl, by rw [z0]; rfl⟩, trivial⟩ rfl trivial trivial)
set_option maxHeartbeats 2000000 in
theorem sp_st43_4 {SH : dw_Sh} {TT : Nat → dw_T} {K : dw_K} (hE : (EE SH TT).ok) : dx_SOK (EE SH TT) (pr_X9_says K) 43 sg_st43_4 := by
  intro ν ls vs args rest μ bc bs hvs hargs hcat g hk
  obtain rfl := vs0 (f := fun i => ls[i]?) hvs
  obtain ⟨x0, x1, rfl⟩ := ar2 hargs
  obtain ⟨g0, g1, -⟩ := g.gl
  obtain rfl : x0 = .ref 1000005 := Option.some.inj (gV_th g0)
  obtain ⟨-, w1, h1, q1⟩ := g1
  obtain rfl : x1 = .int w1 := Option.some.inj h1
  have b1 : (0 : Int) ≤ ν 1 ∧ ν 1 ≤ 4 := g.iv 1 (by decide)
  have z0 : ν 0 = 0 := g.z
  have hs : dw_isS 1000005 := isS 4 (by decide)
  have hc : dw_cats rest ≤ 8 := by omega
  have hn : (dw_sb (dw_sx 1000005)).length = 5 := by decide +kernel
  refine q_callT2 rfl hs hc (t_charAt hs (by omega) (by rw [hn]; omega) (by decide +kernel) (fun w l1 l2 => ?_))
  obtain ⟨ν', hag, hn0⟩ := nu1 ν 2 (w.toInt)
  have a0 : ν' 0 = ν 0 := hag 0 (by decide)
  have a1 : ν' 1 = ν 1 := hag 1 (by decide)
  exact hk _ _ ν' [.int w] (μ) (List.Mem.head _) (post_mk g rfl g.hi (fun _ _ => ⟨rfl, rfl⟩) (by decide) (by decide) hag ⟨(show (0 : Int) ≤ ν' 0 ∧ ν' 0 ≤ 0 from ⟨by omega, by omega⟩), (show (0 : Int) ≤ ν' 1 ∧ ν' 1 ≤ 4 from ⟨by omega, by omega⟩), (show (0 : Int) ≤ ν' 2 ∧ ν' 2 ≤ 65535 from ⟨by omega, by omega⟩), trivial⟩ trivial ⟨⟨by decide, w, rfl, by show _ = ν' 2 + 0; omega⟩, trivial⟩ rfl trivial trivial)
set_option maxHeartbeats 2000000 in
theorem sp_st43_9 {SH : dw_Sh} {TT : Nat → dw_T} {K : dw_K} (hE : (EE SH TT).ok) : dx_SOK (EE SH TT) (pr_X9_says K) 43 sg_st43_9 := by
  intro ν ls vs args rest μ bc bs hvs hargs hcat g hk
  obtain rfl := vs0 (f := fun i => ls[i]?) hvs
  obtain ⟨x0, x1, rfl⟩ := ar2 hargs
  obtain ⟨g0, g1, -⟩ := g.gl
  obtain rfl : x0 = .ref 1000010 := Option.some.inj (gV_th g0)
  obtain ⟨-, w1, h1, q1⟩ := g1
  obtain rfl : x1 = .int w1 := Option.some.inj h1
  have b1 : (0 : Int) ≤ ν 1 ∧ ν 1 ≤ 2 := g.iv 1 (by decide)
  have z0 : ν 0 = 0 := g.z
  have hs : dw_isS 1000010 := isS 9 (by decide)
  have hc : dw_cats rest ≤ 8 := by omega
  have hn : (dw_sb (dw_sx 1000010)).length = 3 := by decide +kernel
  refine q_callT2 rfl hs hc (t_charAt hs (by omega) (by rw [hn]; omega) (by decide +kernel) (fun w l1 l2 => ?_))
  obtain ⟨ν', hag, hn0⟩ := nu1 ν 2 (w.toInt)
  have a0 : ν' 0 = ν 0 := hag 0 (by decide)
  have a1 : ν' 1 = ν 1 := hag 1 (by decide)
  exact hk _ _ ν' [.int w] (μ) (List.Mem.head _) (post_mk g rfl g.hi (fun _ _ => ⟨rfl, rfl⟩) (by decide) (by decide) hag ⟨(show (0 : Int) ≤ ν' 0 ∧ ν' 0 ≤ 0 from ⟨by omega, by omega⟩), (show (0 : Int) ≤ ν' 1 ∧ ν' 1 ≤ 2 from ⟨by omega, by omega⟩), (show (0 : Int) ≤ ν' 2 ∧ ν' 2 ≤ 65535 from ⟨by omega, by omega⟩), trivial⟩ trivial ⟨⟨by decide, w, rfl, by show _ = ν' 2 + 0; omega⟩, trivial⟩ rfl trivial trivial)
set_option maxHeartbeats 2000000 in
theorem sp_st43_14 {SH : dw_Sh} {TT : Nat → dw_T} {K : dw_K} (hE : (EE SH TT).ok) : dx_SOK (EE SH TT) (pr_X9_says K) 43 sg_st43_14 := by
  intro ν ls vs args rest μ bc bs hvs hargs hcat g hk
  obtain rfl := vs0 (f := fun i => ls[i]?) hvs
  obtain ⟨x0, x1, rfl⟩ := ar2 hargs
  obtain ⟨g0, g1, -⟩ := g.gl
  obtain rfl : x0 = .ref 1000015 := Option.some.inj (gV_th g0)
  obtain ⟨-, w1, h1, q1⟩ := g1
  obtain rfl : x1 = .int w1 := Option.some.inj h1
  have b1 : (0 : Int) ≤ ν 1 ∧ ν 1 ≤ 4 := g.iv 1 (by decide)
  have z0 : ν 0 = 0 := g.z
  have hs : dw_isS 1000015 := isS 14 (by decide)
  have hc : dw_cats rest ≤ 8 := by omega
  have hn : (dw_sb (dw_sx 1000015)).length = 5 := by decide +kernel
  refine q_callT2 rfl hs hc (t_charAt hs (by omega) (by rw [hn]; omega) (by decide +kernel) (fun w l1 l2 => ?_))
  obtain ⟨ν', hag, hn0⟩ := nu1 ν 2 (w.toInt)
  have a0 : ν' 0 = ν 0 := hag 0 (by decide)
  have a1 : ν' 1 = ν 1 := hag 1 (by decide)
  exact hk _ _ ν' [.int w] (μ) (List.Mem.head _) (post_mk g rfl g.hi (fun _ _ => ⟨rfl, rfl⟩) (by decide) (by decide) hag ⟨(show (0 : Int) ≤ ν' 0 ∧ ν' 0 ≤ 0 from ⟨by omega, by omega⟩), (show (0 : Int) ≤ ν' 1 ∧ ν' 1 ≤ 4 from ⟨by omega, by omega⟩), (show (0 : Int) ≤ ν' 2 ∧ ν' 2 ≤ 65535 from ⟨by omega, by omega⟩), trivial⟩ trivial ⟨⟨by decide, w, rfl, by show _ = ν' 2 + 0; omega⟩, trivial⟩ rfl trivial trivial)
set_option maxHeartbeats 2000000 in
theorem sp_st43_19 {SH : dw_Sh} {TT : Nat → dw_T} {K : dw_K} (hE : (EE SH TT).ok) : dx_SOK (EE SH TT) (pr_X9_says K) 43 sg_st43_19 := by
  intro ν ls vs args rest μ bc bs hvs hargs hcat g hk
  obtain rfl := vs0 (f := fun i => ls[i]?) hvs
  obtain ⟨x0, x1, rfl⟩ := ar2 hargs
  obtain ⟨g0, g1, -⟩ := g.gl
  obtain rfl : x0 = .ref 1000020 := Option.some.inj (gV_th g0)
  obtain ⟨-, w1, h1, q1⟩ := g1
  obtain rfl : x1 = .int w1 := Option.some.inj h1
  have b1 : (0 : Int) ≤ ν 1 ∧ ν 1 ≤ 3 := g.iv 1 (by decide)
  have z0 : ν 0 = 0 := g.z
  have hs : dw_isS 1000020 := isS 19 (by decide)
  have hc : dw_cats rest ≤ 8 := by omega
  have hn : (dw_sb (dw_sx 1000020)).length = 4 := by decide +kernel
  refine q_callT2 rfl hs hc (t_charAt hs (by omega) (by rw [hn]; omega) (by decide +kernel) (fun w l1 l2 => ?_))
  obtain ⟨ν', hag, hn0⟩ := nu1 ν 2 (w.toInt)
  have a0 : ν' 0 = ν 0 := hag 0 (by decide)
  have a1 : ν' 1 = ν 1 := hag 1 (by decide)
  exact hk _ _ ν' [.int w] (μ) (List.Mem.head _) (post_mk g rfl g.hi (fun _ _ => ⟨rfl, rfl⟩) (by decide) (by decide) hag ⟨(show (0 : Int) ≤ ν' 0 ∧ ν' 0 ≤ 0 from ⟨by omega, by omega⟩), (show (0 : Int) ≤ ν' 1 ∧ ν' 1 ≤ 3 from ⟨by omega, by omega⟩), (show (0 : Int) ≤ ν' 2 ∧ ν' 2 ≤ 65535 from ⟨by omega, by omega⟩), trivial⟩ trivial ⟨⟨by decide, w, rfl, by show _ = ν' 2 + 0; omega⟩, trivial⟩ rfl trivial trivial)
set_option maxHeartbeats 2000000 in
theorem sp_st43_24 {SH : dw_Sh} {TT : Nat → dw_T} {K : dw_K} (hE : (EE SH TT).ok) : dx_SOK (EE SH TT) (pr_X9_says K) 43 sg_st43_24 := by
  intro ν ls vs args rest μ bc bs hvs hargs hcat g hk
  obtain rfl := vs0 (f := fun i => ls[i]?) hvs
  obtain ⟨x0, x1, rfl⟩ := ar2 hargs
  obtain ⟨g0, g1, -⟩ := g.gl
  obtain rfl : x0 = .ref 1000025 := Option.some.inj (gV_th g0)
  obtain ⟨-, w1, h1, q1⟩ := g1
  obtain rfl : x1 = .int w1 := Option.some.inj h1
  have b1 : (0 : Int) ≤ ν 1 ∧ ν 1 ≤ 4 := g.iv 1 (by decide)
  have z0 : ν 0 = 0 := g.z
  have hs : dw_isS 1000025 := isS 24 (by decide)
  have hc : dw_cats rest ≤ 8 := by omega
  have hn : (dw_sb (dw_sx 1000025)).length = 5 := by decide +kernel
  refine q_callT2 rfl hs hc (t_charAt hs (by omega) (by rw [hn]; omega) (by decide +kernel) (fun w l1 l2 => ?_))
  obtain ⟨ν', hag, hn0⟩ := nu1 ν 2 (w.toInt)
  have a0 : ν' 0 = ν 0 := hag 0 (by decide)
  have a1 : ν' 1 = ν 1 := hag 1 (by decide)
  exact hk _ _ ν' [.int w] (μ) (List.Mem.head _) (post_mk g rfl g.hi (fun _ _ => ⟨rfl, rfl⟩) (by decide) (by decide) hag ⟨(show (0 : Int) ≤ ν' 0 ∧ ν' 0 ≤ 0 from ⟨by omega, by omega⟩), (show (0 : Int) ≤ ν' 1 ∧ ν' 1 ≤ 4 from ⟨by omega, by omega⟩), (show (0 : Int) ≤ ν' 2 ∧ ν' 2 ≤ 65535 from ⟨by omega, by omega⟩), trivial⟩ trivial ⟨⟨by decide, w, rfl, by show _ = ν' 2 + 0; omega⟩, trivial⟩ rfl trivial trivial)
end
