set_option maxHeartbeats 2000000 in
theorem sp_loadsKind {SH : dw_Sh} {TT : Nat → dw_T} {K : dw_K} (hE : (EE SH TT).ok) : dx_SOK (EE SH TT) (pr_X12_loads K) 136 sg_loadsKind := by
  intro ν ls vs args rest μ bc bs hvs hargs hcat g hk
  obtain ⟨v0, v1, rfl, e0, e1⟩ := vs2 (f := fun i => ls[i]?) (a := 0) (b := 1) hvs
  obtain rfl := ar0 hargs
  obtain ⟨g0, g1, -⟩ := g.gl
  rw [show v0 = some (.ref 404) from gV_th g0] at e0
  obtain ⟨-, w1, h1, q1⟩ := g1
  rw [h1] at e1
  have f0 : (μ.2.2.1 406 0).toInt = ν 2 + 0 := (g.fa _ (List.Mem.head _)).2
  have p0 : fl_P 0 (ν 0 + 0) μ.2.2.1 := (g.fl _ (List.Mem.head _)).2
  have p1 : fl_P 5 (ν 3 + 0) μ.2.2.1 := (g.fl _ (List.Mem.tail _ (List.Mem.head _))).2
  have p2 : fl_P 4 (ν 1 + 0) μ.2.2.1 := (g.fl _ (List.Mem.tail _ (List.Mem.tail _ (List.Mem.head _)))).2
  have b1 : (0 : Int) ≤ ν 1 ∧ ν 1 ≤ 143 := g.iv 1 (by decide)
  have b2 : (1 : Int) ≤ ν 2 ∧ ν 2 ≤ 12 := g.iv 2 (by decide)
  have b3 : (0 : Int) ≤ ν 3 ∧ ν 3 ≤ 144 := g.iv 3 (by decide)
  have d0 : ν 1 - ν 3 ≤ (-1) := (g.dc _ (List.Mem.head _)).2.2
  have z0 : ν 0 = 0 := g.z
  refine q_ald rfl e0 ?_
  have k404 : (μ.2.1 404).1 = 12 := by rw [g.sh]; exact (hE.sh 404).1
  have n404 : (μ.2.1 404).2.1 = 57 := by rw [g.sh]; exact (hE.sh 404).2.1
  have r404_31 : (μ.2.1 404).2.2 31 = some 419 := by rw [g.sh]; exact (hE.sh 404).2.2 31
  refine q_getr rfl k404 r404_31 ?_
  refine q_ild rfl e1 ?_
  refine q_ald rfl e0 ?_
  have r404_6 : (μ.2.1 404).2.2 6 = some 406 := by rw [g.sh]; exact (hE.sh 404).2.2 6
  refine q_getr rfl k404 r404_6 ?_
  have cst29 : (29 : Int32).toInt = 29 := rfl
  refine q_ic rfl ?_
  refine q_ild rfl e1 ?_
  refine q_add rfl ?_
  have t1 : ((29 : Int32) + w1).toInt = ((29 : Int32)).toInt + (w1).toInt := i_add (by first | omega | (simp; omega)) (by first | omega | (simp; omega))
  have k406 : (μ.2.1 406).1 = 16 := by rw [g.sh]; exact (hE.sh 406).1
  have n406 : (μ.2.1 406).2.1 = 1427 := by rw [g.sh]; exact (hE.sh 406).2.1
  refine q_xald rfl (Or.inl rfl) k406 n406 (by omega) (by omega) ?_
  have k419 : (μ.2.1 419).1 = 16 := by rw [g.sh]; exact (hE.sh 419).1
  have n419 : (μ.2.1 419).2.1 = 144 := by rw [g.sh]; exact (hE.sh 419).2.1
  refine q_iast rfl k419 n419 (by omega) (by omega) ?_
  have w29 : ((29 : Int32) + w1).toInt.toNat = 29 + w1.toInt.toNat := by have e : (29 : Int32).toInt = 29 := rfl; omega
  have hv := g.hi 406 (29 + w1.toInt.toNat)
  rw [show dx_seg ((EE SH TT).ce 406).iv (29 + w1.toInt.toNat) = (0, 7) from hi406 _ (by omega)] at hv
  have hv1 : (0 : Int) ≤ (μ.2.2.1 406 (29 + w1.toInt.toNat)).toInt := hv.1
  have hv2 : (μ.2.2.1 406 (29 + w1.toInt.toNat)).toInt ≤ 7 := hv.2
  rw [w29]
  obtain ⟨u1, u2, u3⟩ := p0
  simp only [Nat.zero_add] at u1 u2 u3
  exact hk _ _ ν [] (dw_si μ 419 w1.toInt.toNat (μ.2.2.1 406 (29 + w1.toInt.toNat))) (List.Mem.head _) (post_mk g rfl (up_hi g.hi (by rw [show dx_seg ((EE SH TT).ce 419).iv w1.toInt.toNat = (0, 7) from hi419 _ (by omega)]; exact hv)) (up_fr (List.Mem.head _)) (by decide) (by decide) (fun _ _ => rfl) ⟨(show (0 : Int) ≤ ν 0 ∧ ν 0 ≤ 0 from ⟨by omega, by omega⟩), (show (0 : Int) ≤ ν 1 ∧ ν 1 ≤ 143 from ⟨by omega, by omega⟩), (show (1 : Int) ≤ ν 2 ∧ ν 2 ≤ 12 from ⟨by omega, by omega⟩), (show (0 : Int) ≤ ν 3 ∧ ν 3 ≤ 144 from ⟨by omega, by omega⟩), trivial⟩ trivial trivial rfl ⟨⟨by decide, (show ((dw_si μ 419 w1.toInt.toNat (μ.2.2.1 406 (29 + w1.toInt.toNat))).2.2.1 406 0).toInt = ν 2 + 0 from up_eq (Or.inl (by decide)) f0)⟩, trivial⟩ ⟨⟨by decide, (show fl_P 4 (ν 1 + 1) (dw_si μ 419 w1.toInt.toNat (μ.2.2.1 406 (29 + w1.toInt.toNat))).2.2.1 from fun c hc hx h1 h2 => by
      show 1 ≤ (dw_up μ.2.2.1 419 w1.toInt.toNat (μ.2.2.1 406 (29 + w1.toInt.toNat)) 406 (5 + (dw_up μ.2.2.1 419 w1.toInt.toNat (μ.2.2.1 406 (29 + w1.toInt.toNat)) 419 c).toInt.toNat)).toInt
      rw [up_ne (Or.inl (by decide))]
      by_cases e : c = w1.toInt.toNat
      · rw [e, up_at]
        have hn : (ν 3 + 0 : Int) = (μ.2.2.1 406 0).toInt * (μ.2.2.1 406 1).toInt := p1
        have hr : (μ.2.2.1 406 1).toInt ≠ 0 := by
          intro e0
          rw [e0, Int.mul_zero] at hn
          omega
        have hk1 := u3 hr
        have hcc := u2 w1.toInt.toNat (by omega)
        exact u1 (μ.2.2.1 406 (29 + w1.toInt.toNat)).toInt.toNat (by omega) (by omega)
      · have h1' : 0 ≤ (dw_up μ.2.2.1 419 w1.toInt.toNat (μ.2.2.1 406 (29 + w1.toInt.toNat)) 419 c).toInt := h1
        have h2' : (dw_up μ.2.2.1 419 w1.toInt.toNat (μ.2.2.1 406 (29 + w1.toInt.toNat)) 419 c).toInt < 8 := h2
        rw [up_ne (Or.inr e)] at h1' h2' ⊢
        exact p2 c hc (by omega) h1' h2')⟩, trivial⟩)
set_option maxHeartbeats 2000000 in
theorem sp_stepHold {SH : dw_Sh} {TT : Nat → dw_T} {K : dw_K} (hE : (EE SH TT).ok) : dx_SOK (EE SH TT) (pr_X12_step K) 44 sg_stepHold := by
  intro ν ls vs args rest μ bc bs hvs hargs hcat g hk
  obtain ⟨v0, v1, rfl, e0, e1⟩ := vs2 (f := fun i => ls[i]?) (a := 0) (b := 2) hvs
  obtain rfl := ar0 hargs
  obtain ⟨g0, g1, -⟩ := g.gl
  rw [show v0 = some (.ref 404) from gV_th g0] at e0
  obtain ⟨-, w1, h1, q1⟩ := g1
  rw [h1] at e1
  have p0 : fl_P 4 (ν 2 + 0) μ.2.2.1 := (g.fl _ (List.Mem.head _)).2
  have b1 : (0 : Int) ≤ ν 1 ∧ ν 1 ≤ 143 := g.iv 1 (by decide)
  have b2 : (0 : Int) ≤ ν 2 ∧ ν 2 ≤ 144 := g.iv 2 (by decide)
  have d0 : ν 1 - ν 2 ≤ (-1) := (g.dc _ (List.Mem.head _)).2.2
  have z0 : ν 0 = 0 := g.z
  have hv := g.hi 419 w1.toInt.toNat
  rw [show dx_seg ((EE SH TT).ce 419).iv w1.toInt.toNat = (0, 7) from hi419 _ (by omega)] at hv
  have hv1 : (0 : Int) ≤ (μ.2.2.1 419 w1.toInt.toNat).toInt := hv.1
  have hv2 : (μ.2.2.1 419 w1.toInt.toNat).toInt ≤ 7 := hv.2
  refine q_ald rfl e0 ?_
  have k404 : (μ.2.1 404).1 = 12 := by rw [g.sh]; exact (hE.sh 404).1
  have n404 : (μ.2.1 404).2.1 = 57 := by rw [g.sh]; exact (hE.sh 404).2.1
  have r404_6 : (μ.2.1 404).2.2 6 = some 406 := by rw [g.sh]; exact (hE.sh 404).2.2 6
  refine q_getr rfl k404 r404_6 ?_
  have cst5 : (5 : Int32).toInt = 5 := rfl
  refine q_ic rfl ?_
  refine q_ald rfl e0 ?_
  have r404_31 : (μ.2.1 404).2.2 31 = some 419 := by rw [g.sh]; exact (hE.sh 404).2.2 31
  refine q_getr rfl k404 r404_31 ?_
  refine q_ild rfl e1 ?_
  have k419 : (μ.2.1 419).1 = 16 := by rw [g.sh]; exact (hE.sh 419).1
  have n419 : (μ.2.1 419).2.1 = 144 := by rw [g.sh]; exact (hE.sh 419).2.1
  refine q_xald rfl (Or.inl rfl) k419 n419 (by omega) (by omega) ?_
  refine q_add rfl ?_
  have t1 : ((5 : Int32) + (μ.2.2.1 419 (w1).toInt.toNat)).toInt = ((5 : Int32)).toInt + ((μ.2.2.1 419 (w1).toInt.toNat)).toInt := i_add (by first | omega | (simp; omega)) (by first | omega | (simp; omega))
  have k406 : (μ.2.1 406).1 = 16 := by rw [g.sh]; exact (hE.sh 406).1
  have n406 : (μ.2.1 406).2.1 = 1427 := by rw [g.sh]; exact (hE.sh 406).2.1
  refine q_xald rfl (Or.inl rfl) k406 n406 (by omega) (by omega) ?_
  have e5 : ((5 : Int32) + (μ.2.2.1 419 w1.toInt.toNat)).toInt.toNat = 5 + (μ.2.2.1 419 w1.toInt.toNat).toInt.toNat := by omega
  rw [e5]
  have lo := p0 w1.toInt.toNat (by omega) (by omega) hv1 (by omega)
  have hh := g.hi 406 (5 + (μ.2.2.1 419 w1.toInt.toNat).toInt.toNat)
  rw [show dx_seg ((EE SH TT).ce 406).iv (5 + (μ.2.2.1 419 w1.toInt.toNat).toInt.toNat) = (0, 50) from hi406h _ (by omega)] at hh
  have hh2 : (μ.2.2.1 406 (5 + (μ.2.2.1 419 w1.toInt.toNat).toInt.toNat)).toInt ≤ 50 := hh.2
  obtain ⟨ν', hag, hn0⟩ := nu1 ν 3 ((μ.2.2.1 406 (5 + (μ.2.2.1 419 w1.toInt.toNat).toInt.toNat)).toInt)
  have a0 : ν' 0 = ν 0 := hag 0 (by decide)
  have a1 : ν' 1 = ν 1 := hag 1 (by decide)
  have a2 : ν' 2 = ν 2 := hag 2 (by decide)
  exact hk _ _ ν' [.int (μ.2.2.1 406 (5 + (μ.2.2.1 419 w1.toInt.toNat).toInt.toNat))] (μ) (List.Mem.head _) (post_mk g rfl g.hi (fun _ _ => ⟨rfl, rfl⟩) (by decide) (by decide) hag ⟨(show (0 : Int) ≤ ν' 0 ∧ ν' 0 ≤ 0 from ⟨by omega, by omega⟩), (show (0 : Int) ≤ ν' 1 ∧ ν' 1 ≤ 143 from ⟨by omega, by omega⟩), (show (0 : Int) ≤ ν' 2 ∧ ν' 2 ≤ 144 from ⟨by omega, by omega⟩), (show (1 : Int) ≤ ν' 3 ∧ ν' 3 ≤ 50 from ⟨by omega, by omega⟩), trivial⟩ trivial ⟨⟨by decide, _, rfl, by show _ = ν' 3 + 0; omega⟩, trivial⟩ rfl trivial trivial)
set_option maxHeartbeats 2000000 in
theorem sp_gZeroEnd {SH : dw_Sh} {TT : Nat → dw_T} {K : dw_K} (hE : (EE SH TT).ok) : dx_SOK (EE SH TT) (pr_X12_ground K) 49 sg_gZeroEnd := by
  intro ν ls vs args rest μ bc bs hvs hargs hcat g hk
  obtain ⟨v0, rfl, e0⟩ := vs1 (f := fun i => ls[i]?) (a := 0) hvs
  obtain rfl := ar0 hargs
  obtain ⟨g0, -⟩ := g.gl
  rw [show v0 = some (.ref 404) from gV_th g0] at e0
  have p0 : fl_P 22 (ν 0 + 221) μ.2.2.1 := (g.fl _ (List.Mem.head _)).2
  have z0 : ν 0 = 0 := g.z
  refine q_ald rfl e0 ?_
  have zz : ∀ j : Nat, j < 221 → μ.2.2.1 407 j = 0 := fun j hj => p0 j hj (by omega)
  have c0 : (0 : Int32).toInt = 0 := rfl
  exact hk _ _ ν [.ref 404] (μ) (List.Mem.head _) (post_mk g rfl g.hi (fun _ _ => ⟨rfl, rfl⟩) (by decide) (by decide) (fun _ _ => rfl) ⟨(show (0 : Int) ≤ ν 0 ∧ ν 0 ≤ 0 from ⟨by omega, by omega⟩), trivial⟩ trivial ⟨⟨404, List.Mem.head _, rfl⟩, trivial⟩ rfl ⟨⟨by decide, (show ((μ).2.2.1 407 1).toInt = ν 0 + 0 from by rw [zz 1 (by decide), c0]; omega)⟩, ⟨by decide, (show ((μ).2.2.1 407 2).toInt = ν 0 + 0 from by rw [zz 2 (by decide), c0]; omega)⟩, ⟨by decide, (show ((μ).2.2.1 407 0).toInt = ν 0 + 0 from by rw [zz 0 (by decide), c0]; omega)⟩, ⟨by decide, (show ((μ).2.2.1 407 3).toInt = ν 0 + 0 from by rw [zz 3 (by decide), c0]; omega)⟩, trivial⟩ ⟨⟨by decide, (show fl_P 1 (ν 0 + 0) (μ).2.2.1 from ⟨fun k hk hx => by rw [show μ.2.2.1 407 (0 + 2) = 0 from zz 2 (by decide), c0] at hx; omega, fun c hc => Or.inl (by rw [Nat.zero_add, zz _ (by omega)]; rfl), fun hr => absurd (by rw [show μ.2.2.1 407 (0 + 1) = 0 from zz 1 (by decide)]; rfl) hr⟩)⟩, trivial⟩)
set_option maxHeartbeats 2000000 in
theorem sp_rkCount {SH : dw_Sh} {TT : Nat → dw_T} {K : dw_K} (hE : (EE SH TT).ok) : dx_SOK (EE SH TT) (pr_X12_readKind K) 232 sg_rkCount := by
  intro ν ls vs args rest μ bc bs hvs hargs hcat g hk
  obtain ⟨v0, rfl, e0⟩ := vs1 (f := fun i => ls[i]?) (a := 0) hvs
  obtain rfl := ar0 hargs
  obtain ⟨g0, -⟩ := g.gl
  rw [show v0 = some (.ref 404) from gV_th g0] at e0
  have f0 : (μ.2.2.1 407 2).toInt = ν 1 + 0 := (g.fa _ (List.Mem.head _)).2
  have f1 : (μ.2.2.1 407 1).toInt = ν 0 + 0 := (g.fa _ (List.Mem.tail _ (List.Mem.head _))).2
  have f2 : (μ.2.2.1 407 0).toInt = ν 2 + 0 := (g.fa _ (List.Mem.tail _ (List.Mem.tail _ (List.Mem.head _)))).2
  have f3 : (μ.2.2.1 407 3).toInt = ν 3 + 0 := (g.fa _ (List.Mem.tail _ (List.Mem.tail _ (List.Mem.tail _ (List.Mem.head _))))).2
  have p0 : fl_P 1 (ν 0 + 0) μ.2.2.1 := (g.fl _ (List.Mem.head _)).2
  have p1 : fl_P 20 (ν 0 + 0) μ.2.2.1 := (g.fl _ (List.Mem.tail _ (List.Mem.head _))).2
  have b1 : (0 : Int) ≤ ν 1 ∧ ν 1 ≤ 7 := g.iv 1 (by decide)
  have b2 : (-2147483648 : Int) ≤ ν 2 ∧ ν 2 ≤ 2147483647 := g.iv 2 (by decide)
  have b3 : (-2147483648 : Int) ≤ ν 3 ∧ ν 3 ≤ 2147483647 := g.iv 3 (by decide)
  have z0 : ν 0 = 0 := g.z
  refine q_ald rfl e0 ?_
  have k404 : (μ.2.1 404).1 = 12 := by rw [g.sh]; exact (hE.sh 404).1
  have n404 : (μ.2.1 404).2.1 = 57 := by rw [g.sh]; exact (hE.sh 404).2.1
  have r404_7 : (μ.2.1 404).2.2 7 = some 407 := by rw [g.sh]; exact (hE.sh 404).2.2 7
  refine q_getr rfl k404 r404_7 ?_
  have cst2 : (2 : Int32).toInt = 2 := rfl
  refine q_ic rfl ?_
  refine q_dup2 rfl ?_
  have k407 : (μ.2.1 407).1 = 16 := by rw [g.sh]; exact (hE.sh 407).1
  have n407 : (μ.2.1 407).2.1 = 221 := by rw [g.sh]; exact (hE.sh 407).2.1
  refine q_xald rfl (Or.inl rfl) k407 n407 (by omega) (by omega) ?_
  have cst1 : (1 : Int32).toInt = 1 := rfl
  refine q_ic rfl ?_
  refine q_add rfl ?_
  have t1 : ((μ.2.2.1 407 ((2 : Int32)).toInt.toNat) + (1 : Int32)).toInt = ((μ.2.2.1 407 ((2 : Int32)).toInt.toNat)).toInt + ((1 : Int32)).toInt := i_add (by first | omega | (simp; omega)) (by first | omega | (simp; omega))
  refine q_iast rfl k407 n407 (by omega) (by omega) ?_
  have c2n : ((2 : Int32)).toInt.toNat = 2 := rfl
  rw [c2n]
  have tk : ((μ.2.2.1 407 2) + (1 : Int32)).toInt = (μ.2.2.1 407 2).toInt + 1 := by have := i_add (x := (μ.2.2.1 407 2)) (y := 1) (by have : (1 : Int32).toInt = 1 := rfl; omega) (by have : (1 : Int32).toInt = 1 := rfl; omega); have e1 : (1 : Int32).toInt = 1 := rfl; omega
  obtain ⟨u1, u2, u3⟩ := p0
  simp only [Nat.zero_add] at u1 u2 u3
  have hk2 : 1 ≤ (μ.2.2.1 407 (5 + (μ.2.2.1 407 2).toInt.toNat)).toInt := p1 (by omega) (by omega)
  exact hk _ _ ν [] (dw_si μ 407 2 ((μ.2.2.1 407 2) + (1 : Int32))) (List.Mem.head _) (post_mk g rfl (up_hi g.hi (⟨by show (0 : Int) ≤ _; omega, by show _ ≤ (8 : Int); omega⟩ : dx_in (0, 8) (((μ.2.2.1 407 2) + (1 : Int32))).toInt)) (up_fr (List.Mem.head _)) (by decide) (by decide) (fun _ _ => rfl) ⟨(show (0 : Int) ≤ ν 0 ∧ ν 0 ≤ 0 from ⟨by omega, by omega⟩), (show (0 : Int) ≤ ν 1 ∧ ν 1 ≤ 7 from ⟨by omega, by omega⟩), (show (-2147483648 : Int) ≤ ν 2 ∧ ν 2 ≤ 2147483647 from ⟨by omega, by omega⟩), (show (-2147483648 : Int) ≤ ν 3 ∧ ν 3 ≤ 2147483647 from ⟨by omega, by omega⟩), trivial⟩ trivial trivial rfl ⟨⟨by decide, (show ((dw_si μ 407 2 ((μ.2.2.1 407 2) + (1 : Int32))).2.2.1 407 2).toInt = ν 1 + 1 from by show (dw_up μ.2.2.1 407 2 ((μ.2.2.1 407 2) + (1 : Int32)) 407 2).toInt = _; rw [up_at, tk]; omega)⟩, ⟨by decide, (show ((dw_si μ 407 2 ((μ.2.2.1 407 2) + (1 : Int32))).2.2.1 407 1).toInt = ν 0 + 0 from up_eq (Or.inr (by decide)) f1)⟩, ⟨by decide, (show ((dw_si μ 407 2 ((μ.2.2.1 407 2) + (1 : Int32))).2.2.1 407 0).toInt = ν 2 + 0 from up_eq (Or.inr (by decide)) f2)⟩, ⟨by decide, (show ((dw_si μ 407 2 ((μ.2.2.1 407 2) + (1 : Int32))).2.2.1 407 3).toInt = ν 3 + 0 from up_eq (Or.inr (by decide)) f3)⟩, trivial⟩ ⟨⟨by decide, (show fl_P 1 (ν 0 + 0) (dw_si μ 407 2 ((μ.2.2.1 407 2) + (1 : Int32))).2.2.1 from ⟨fun k hk hx => by
        rw [Nat.zero_add] at hx ⊢
        have hx' : (k : Int) < (dw_up μ.2.2.1 407 2 ((μ.2.2.1 407 2) + (1 : Int32)) 407 2).toInt := hx
        rw [up_at, tk] at hx'
        show 1 ≤ (dw_up μ.2.2.1 407 2 ((μ.2.2.1 407 2) + (1 : Int32)) 407 (5 + k)).toInt
        rw [up_ne (Or.inr (by omega))]
        by_cases e : (k : Int) < (μ.2.2.1 407 2).toInt
        · exact u1 k hk e
        · rw [show k = (μ.2.2.1 407 2).toInt.toNat by omega]; exact hk2, fun c hc => by
        rw [Nat.zero_add, Nat.zero_add]
        show (dw_up μ.2.2.1 407 2 ((μ.2.2.1 407 2) + (1 : Int32)) 407 (29 + c)).toInt = 0 ∨ (dw_up μ.2.2.1 407 2 ((μ.2.2.1 407 2) + (1 : Int32)) 407 (29 + c)).toInt < (dw_up μ.2.2.1 407 2 ((μ.2.2.1 407 2) + (1 : Int32)) 407 2).toInt
        rw [up_ne (j' := 29 + c) (Or.inr (by omega)), up_at, tk]
        have := u2 c hc
        omega, fun _ => by
        rw [Nat.zero_add]
        show 1 ≤ (dw_up μ.2.2.1 407 2 ((μ.2.2.1 407 2) + (1 : Int32)) 407 2).toInt
        rw [up_at, tk]
        omega⟩)⟩, trivial⟩)
set_option maxHeartbeats 2000000 in
theorem sp_nxAt {SH : dw_Sh} {TT : Nat → dw_T} {K : dw_K} (hE : (EE SH TT).ok) : dx_SOK (EE SH TT) (pr_X12_next K) 31 sg_nxAt := by
  intro ν ls vs args rest μ bc bs hvs hargs hcat g hk
  obtain ⟨v0, rfl, e0⟩ := vs1 (f := fun i => ls[i]?) (a := 0) hvs
  obtain rfl := ar0 hargs
  obtain ⟨g0, -⟩ := g.gl
  rw [show v0 = some (.ref 404) from gV_th g0] at e0
  have f0 : (μ.2.2.1 404 4).toInt = ν 1 + 0 := (g.fa _ (List.Mem.head _)).2
  have f1 : (μ.2.2.1 404 2).toInt = ν 2 + 0 := (g.fa _ (List.Mem.tail _ (List.Mem.head _))).2
  have f2 : (μ.2.2.1 404 3).toInt = ν 3 + 0 := (g.fa _ (List.Mem.tail _ (List.Mem.tail _ (List.Mem.head _)))).2
  have f3 : (μ.2.2.1 404 11).toInt = ν 4 + 0 := (g.fa _ (List.Mem.tail _ (List.Mem.tail _ (List.Mem.tail _ (List.Mem.head _))))).2
  have f4 : (μ.2.2.1 404 14).toInt = ν 5 + 0 := (g.fa _ (List.Mem.tail _ (List.Mem.tail _ (List.Mem.tail _ (List.Mem.tail _ (List.Mem.head _)))))).2
  have f5 : (μ.2.2.1 404 19).toInt = ν 6 + 0 := (g.fa _ (List.Mem.tail _ (List.Mem.tail _ (List.Mem.tail _ (List.Mem.tail _ (List.Mem.tail _ (List.Mem.head _))))))).2
  have f6 : (μ.2.2.1 404 21).toInt = ν 7 + 0 := (g.fa _ (List.Mem.tail _ (List.Mem.tail _ (List.Mem.tail _ (List.Mem.tail _ (List.Mem.tail _ (List.Mem.tail _ (List.Mem.head _)))))))).2
  have f7 : (μ.2.2.1 404 22).toInt = ν 8 + 0 := (g.fa _ (List.Mem.tail _ (List.Mem.tail _ (List.Mem.tail _ (List.Mem.tail _ (List.Mem.tail _ (List.Mem.tail _ (List.Mem.tail _ (List.Mem.head _))))))))).2
  have b1 : (0 : Int) ≤ ν 1 ∧ ν 1 ≤ 940 := g.iv 1 (by decide)
  have b2 : (0 : Int) ≤ ν 2 ∧ ν 2 ≤ 940 := g.iv 2 (by decide)
  have b3 : (0 : Int) ≤ ν 3 ∧ ν 3 ≤ 940 := g.iv 3 (by decide)
  have b4 : (0 : Int) ≤ ν 4 ∧ ν 4 ≤ 4 := g.iv 4 (by decide)
  have b5 : (-2147483648 : Int) ≤ ν 5 ∧ ν 5 ≤ 2147483647 := g.iv 5 (by decide)
  have b6 : (-2147483648 : Int) ≤ ν 6 ∧ ν 6 ≤ 2147483647 := g.iv 6 (by decide)
  have b7 : (0 : Int) ≤ ν 7 ∧ ν 7 ≤ 30 := g.iv 7 (by decide)
  have b8 : (0 : Int) ≤ ν 8 ∧ ν 8 ≤ 1 := g.iv 8 (by decide)
  have z0 : ν 0 = 0 := g.z
  refine q_ald rfl e0 ?_
  refine q_ald rfl e0 ?_
  have k404 : (μ.2.1 404).1 = 12 := by rw [g.sh]; exact (hE.sh 404).1
  have n404 : (μ.2.1 404).2.1 = 57 := by rw [g.sh]; exact (hE.sh 404).2.1
  refine q_geti rfl k404 ?_
  refine q_puti rfl k404 ?_
  refine q_ald rfl e0 ?_
  have cst0 : (0 : Int32).toInt = 0 := rfl
  refine q_ic rfl ?_
  refine q_puti rfl k404 ?_
  have c0 : (0 : Int32).toInt = 0 := rfl
  have r12 : (dw_up (dw_up μ.2.2.1 404 12 (μ.2.2.1 404 4)) 404 13 0) 404 12 = (μ.2.2.1 404 4) := (up_ne (Or.inr (by decide))).trans up_at
  have r13 : (dw_up (dw_up μ.2.2.1 404 12 (μ.2.2.1 404 4)) 404 13 0) 404 13 = 0 := up_at
  have r4 : (dw_up (dw_up μ.2.2.1 404 12 (μ.2.2.1 404 4)) 404 13 0) 404 4 = (μ.2.2.1 404 4) := (up_ne (Or.inr (by decide))).trans (up_ne (Or.inr (by decide)))
  exact hk _ _ ν [] (dw_si (dw_si μ 404 12 (μ.2.2.1 404 4)) 404 13 0) (List.Mem.head _) (post_mk g rfl (up_hi (up_hi g.hi (⟨by show (0 : Int) ≤ _; omega, by show _ ≤ (940 : Int); omega⟩ : dx_in (0, 940) (μ.2.2.1 404 4).toInt)) (⟨by show (0 : Int) ≤ _; omega, by show _ ≤ (940 : Int); omega⟩ : dx_in (0, 940) (0 : Int32).toInt)) (up_fr2 (List.Mem.head _)) (by decide) (by decide) (fun _ _ => rfl) ⟨(show (0 : Int) ≤ ν 0 ∧ ν 0 ≤ 0 from ⟨by omega, by omega⟩), (show (0 : Int) ≤ ν 1 ∧ ν 1 ≤ 940 from ⟨by omega, by omega⟩), (show (0 : Int) ≤ ν 2 ∧ ν 2 ≤ 940 from ⟨by omega, by omega⟩), (show (0 : Int) ≤ ν 3 ∧ ν 3 ≤ 940 from ⟨by omega, by omega⟩), (show (0 : Int) ≤ ν 4 ∧ ν 4 ≤ 4 from ⟨by omega, by omega⟩), (show (-2147483648 : Int) ≤ ν 5 ∧ ν 5 ≤ 2147483647 from ⟨by omega, by omega⟩), (show (-2147483648 : Int) ≤ ν 6 ∧ ν 6 ≤ 2147483647 from ⟨by omega, by omega⟩), (show (0 : Int) ≤ ν 7 ∧ ν 7 ≤ 30 from ⟨by omega, by omega⟩), (show (0 : Int) ≤ ν 8 ∧ ν 8 ≤ 1 from ⟨by omega, by omega⟩), trivial⟩ trivial trivial rfl ⟨⟨by decide, (show ((dw_si (dw_si μ 404 12 (μ.2.2.1 404 4)) 404 13 0).2.2.1 404 4).toInt = ν 1 + 0 from (up_eq (Or.inr (by decide)) (up_eq (Or.inr (by decide)) f0)))⟩, ⟨by decide, (show ((dw_si (dw_si μ 404 12 (μ.2.2.1 404 4)) 404 13 0).2.2.1 404 12).toInt = ν 1 + 0 from by show ((dw_up (dw_up μ.2.2.1 404 12 (μ.2.2.1 404 4)) 404 13 0) 404 12).toInt = _; rw [r12]; omega)⟩, ⟨by decide, (show ((dw_si (dw_si μ 404 12 (μ.2.2.1 404 4)) 404 13 0).2.2.1 404 13).toInt = ν 0 + 0 from by show ((dw_up (dw_up μ.2.2.1 404 12 (μ.2.2.1 404 4)) 404 13 0) 404 13).toInt = _; rw [r13]; omega)⟩, ⟨by decide, (show ((dw_si (dw_si μ 404 12 (μ.2.2.1 404 4)) 404 13 0).2.2.1 404 2).toInt = ν 2 + 0 from (up_eq (Or.inr (by decide)) (up_eq (Or.inr (by decide)) f1)))⟩, ⟨by decide, (show ((dw_si (dw_si μ 404 12 (μ.2.2.1 404 4)) 404 13 0).2.2.1 404 3).toInt = ν 3 + 0 from (up_eq (Or.inr (by decide)) (up_eq (Or.inr (by decide)) f2)))⟩, ⟨by decide, (show ((dw_si (dw_si μ 404 12 (μ.2.2.1 404 4)) 404 13 0).2.2.1 404 11).toInt = ν 4 + 0 from (up_eq (Or.inr (by decide)) (up_eq (Or.inr (by decide)) f3)))⟩, ⟨by decide, (show ((dw_si (dw_si μ 404 12 (μ.2.2.1 404 4)) 404 13 0).2.2.1 404 14).toInt = ν 5 + 0 from (up_eq (Or.inr (by decide)) (up_eq (Or.inr (by decide)) f4)))⟩, ⟨by decide, (show ((dw_si (dw_si μ 404 12 (μ.2.2.1 404 4)) 404 13 0).2.2.1 404 19).toInt = ν 6 + 0 from (up_eq (Or.inr (by decide)) (up_eq (Or.inr (by decide)) f5)))⟩, ⟨by decide, (show ((dw_si (dw_si μ 404 12 (μ.2.2.1 404 4)) 404 13 0).2.2.1 404 21).toInt = ν 7 + 0 from (up_eq (Or.inr (by decide)) (up_eq (Or.inr (by decide)) f6)))⟩, ⟨by decide, (show ((dw_si (dw_si μ 404 12 (μ.2.2.1 404 4)) 404 13 0).2.2.1 404 22).toInt = ν 8 + 0 from (up_eq (Or.inr (by decide)) (up_eq (Or.inr (by decide)) f7)))⟩, trivial⟩ ⟨⟨by decide, (show fl_P 11 (ν 0 + 0) (dw_si (dw_si μ 404 12 (μ.2.2.1 404 4)) 404 13 0).2.2.1 from by show ((dw_up (dw_up μ.2.2.1 404 12 (μ.2.2.1 404 4)) 404 13 0) 404 12).toInt + ((dw_up (dw_up μ.2.2.1 404 12 (μ.2.2.1 404 4)) 404 13 0) 404 13).toInt = ((dw_up (dw_up μ.2.2.1 404 12 (μ.2.2.1 404 4)) 404 13 0) 404 4).toInt; rw [r12, r13, r4]; omega)⟩, ⟨by decide, (show fl_P 10 (ν 0 + 0) (dw_si (dw_si μ 404 12 (μ.2.2.1 404 4)) 404 13 0).2.2.1 from fun j hj _ => by have hj2 : (j : Int) < ((dw_up (dw_up μ.2.2.1 404 12 (μ.2.2.1 404 4)) 404 13 0) 404 13).toInt := hj; rw [r13] at hj2; omega)⟩, trivial⟩)
set_option maxHeartbeats 2000000 in
theorem sp_nxTokE2 {SH : dw_Sh} {TT : Nat → dw_T} {K : dw_K} (hE : (EE SH TT).ok) : dx_SOK (EE SH TT) (pr_X12_next K) 334 sg_nxTokE2 := by
  intro ν ls vs args rest μ bc bs hvs hargs hcat g hk
  obtain rfl := vs0 (f := fun i => ls[i]?) hvs
  obtain ⟨x0, x1, rfl⟩ := ar2 hargs
  obtain ⟨g0, g1, -⟩ := g.gl
  obtain rfl : x0 = .ref 404 := Option.some.inj (gV_th g0)
  obtain ⟨-, w1, h1, q1⟩ := g1
  obtain rfl : x1 = .int w1 := Option.some.inj h1
  have f0 : (μ.2.2.1 404 4).toInt = ν 1 + 0 := (g.fa _ (List.Mem.head _)).2
  have f1 : (μ.2.2.1 404 13).toInt = ν 2 + 0 := (g.fa _ (List.Mem.tail _ (List.Mem.head _))).2
  have f2 : (μ.2.2.1 404 12).toInt = ν 3 + 0 := (g.fa _ (List.Mem.tail _ (List.Mem.tail _ (List.Mem.head _)))).2
  have f3 : (μ.2.2.1 404 2).toInt = ν 4 + 0 := (g.fa _ (List.Mem.tail _ (List.Mem.tail _ (List.Mem.tail _ (List.Mem.head _))))).2
  have f4 : (μ.2.2.1 404 3).toInt = ν 5 + 0 := (g.fa _ (List.Mem.tail _ (List.Mem.tail _ (List.Mem.tail _ (List.Mem.tail _ (List.Mem.head _)))))).2
  have f5 : (μ.2.2.1 404 14).toInt = ν 6 + 0 := (g.fa _ (List.Mem.tail _ (List.Mem.tail _ (List.Mem.tail _ (List.Mem.tail _ (List.Mem.tail _ (List.Mem.head _))))))).2
  have f6 : (μ.2.2.1 404 19).toInt = ν 7 + 0 := (g.fa _ (List.Mem.tail _ (List.Mem.tail _ (List.Mem.tail _ (List.Mem.tail _ (List.Mem.tail _ (List.Mem.tail _ (List.Mem.head _)))))))).2
  have f7 : (μ.2.2.1 404 21).toInt = ν 8 + 0 := (g.fa _ (List.Mem.tail _ (List.Mem.tail _ (List.Mem.tail _ (List.Mem.tail _ (List.Mem.tail _ (List.Mem.tail _ (List.Mem.tail _ (List.Mem.head _))))))))).2
  have f8 : (μ.2.2.1 404 22).toInt = ν 9 + 0 := (g.fa _ (List.Mem.tail _ (List.Mem.tail _ (List.Mem.tail _ (List.Mem.tail _ (List.Mem.tail _ (List.Mem.tail _ (List.Mem.tail _ (List.Mem.tail _ (List.Mem.head _)))))))))).2
  have b1 : (0 : Int) ≤ ν 1 ∧ ν 1 ≤ 940 := g.iv 1 (by decide)
  have b2 : (0 : Int) ≤ ν 2 ∧ ν 2 ≤ 940 := g.iv 2 (by decide)
  have b3 : (0 : Int) ≤ ν 3 ∧ ν 3 ≤ 940 := g.iv 3 (by decide)
  have b4 : (0 : Int) ≤ ν 4 ∧ ν 4 ≤ 940 := g.iv 4 (by decide)
  have b5 : (0 : Int) ≤ ν 5 ∧ ν 5 ≤ 940 := g.iv 5 (by decide)
  have b6 : (-2147483648 : Int) ≤ ν 6 ∧ ν 6 ≤ 2147483647 := g.iv 6 (by decide)
  have b7 : (-2147483648 : Int) ≤ ν 7 ∧ ν 7 ≤ 2147483647 := g.iv 7 (by decide)
  have b8 : (0 : Int) ≤ ν 8 ∧ ν 8 ≤ 30 := g.iv 8 (by decide)
  have b9 : (0 : Int) ≤ ν 9 ∧ ν 9 ≤ 1 := g.iv 9 (by decide)
  have z0 : ν 0 = 0 := g.z
  have k404 : (μ.2.1 404).1 = 12 := by rw [g.sh]; exact (hE.sh 404).1
  have n404 : (μ.2.1 404).2.1 = 57 := by rw [g.sh]; exact (hE.sh 404).2.1
  refine q_puti rfl k404 ?_
  exact hk _ _ ν [] (dw_si μ 404 11 w1) (List.Mem.head _) (post_mk g rfl (up_hi g.hi (⟨by show (0 : Int) ≤ _; omega, by show _ ≤ (4 : Int); omega⟩ : dx_in (0, 4) w1.toInt)) (up_fr (List.Mem.head _)) (by decide) (by decide) (fun _ _ => rfl) ⟨(show (0 : Int) ≤ ν 0 ∧ ν 0 ≤ 0 from ⟨by omega, by omega⟩), (show (0 : Int) ≤ ν 1 ∧ ν 1 ≤ 940 from ⟨by omega, by omega⟩), (show (0 : Int) ≤ ν 2 ∧ ν 2 ≤ 940 from ⟨by omega, by omega⟩), (show (0 : Int) ≤ ν 3 ∧ ν 3 ≤ 940 from ⟨by omega, by omega⟩), (show (0 : Int) ≤ ν 4 ∧ ν 4 ≤ 940 from ⟨by omega, by omega⟩), (show (0 : Int) ≤ ν 5 ∧ ν 5 ≤ 940 from ⟨by omega, by omega⟩), (show (-2147483648 : Int) ≤ ν 6 ∧ ν 6 ≤ 2147483647 from ⟨by omega, by omega⟩), (show (-2147483648 : Int) ≤ ν 7 ∧ ν 7 ≤ 2147483647 from ⟨by omega, by omega⟩), (show (0 : Int) ≤ ν 8 ∧ ν 8 ≤ 30 from ⟨by omega, by omega⟩), (show (0 : Int) ≤ ν 9 ∧ ν 9 ≤ 1 from ⟨by omega, by omega⟩), trivial⟩ trivial trivial rfl ⟨⟨by decide, (show ((dw_si μ 404 11 w1).2.2.1 404 4).toInt = ν 1 + 0 from (up_eq (Or.inr (by decide)) f0))⟩, ⟨by decide, (show ((dw_si μ 404 11 w1).2.2.1 404 13).toInt = ν 2 + 0 from (up_eq (Or.inr (by decide)) f1))⟩, ⟨by decide, (show ((dw_si μ 404 11 w1).2.2.1 404 12).toInt = ν 3 + 0 from (up_eq (Or.inr (by decide)) f2))⟩, ⟨by decide, (show ((dw_si μ 404 11 w1).2.2.1 404 2).toInt = ν 4 + 0 from (up_eq (Or.inr (by decide)) f3))⟩, ⟨by decide, (show ((dw_si μ 404 11 w1).2.2.1 404 3).toInt = ν 5 + 0 from (up_eq (Or.inr (by decide)) f4))⟩, ⟨by decide, (show ((dw_si μ 404 11 w1).2.2.1 404 14).toInt = ν 6 + 0 from (up_eq (Or.inr (by decide)) f5))⟩, ⟨by decide, (show ((dw_si μ 404 11 w1).2.2.1 404 19).toInt = ν 7 + 0 from (up_eq (Or.inr (by decide)) f6))⟩, ⟨by decide, (show ((dw_si μ 404 11 w1).2.2.1 404 21).toInt = ν 8 + 0 from (up_eq (Or.inr (by decide)) f7))⟩, ⟨by decide, (show ((dw_si μ 404 11 w1).2.2.1 404 22).toInt = ν 9 + 0 from (up_eq (Or.inr (by decide)) f8))⟩, ⟨by decide, (show ((dw_si μ 404 11 w1).2.2.1 404 11).toInt = ν 0 + 2 from by show ((dw_up μ.2.2.1 404 11 w1) 404 11).toInt = _; rw [up_at]; omega)⟩, trivial⟩ ⟨⟨by decide, (show fl_P 8 (ν 0 + 0) (dw_si μ 404 11 w1).2.2.1 from fun h => by have h2 : ((dw_up μ.2.2.1 404 11 w1) 404 11).toInt = 1 := h; rw [up_at] at h2; omega)⟩, trivial⟩)
set_option maxHeartbeats 2000000 in
theorem sp_nxTokS3 {SH : dw_Sh} {TT : Nat → dw_T} {K : dw_K} (hE : (EE SH TT).ok) : dx_SOK (EE SH TT) (pr_X12_next K) 91 sg_nxTokS3 := by
  intro ν ls vs args rest μ bc bs hvs hargs hcat g hk
  obtain rfl := vs0 (f := fun i => ls[i]?) hvs
  obtain ⟨x0, x1, rfl⟩ := ar2 hargs
  obtain ⟨g0, g1, -⟩ := g.gl
  obtain rfl : x0 = .ref 404 := Option.some.inj (gV_th g0)
  obtain ⟨-, w1, h1, q1⟩ := g1
  obtain rfl : x1 = .int w1 := Option.some.inj h1
  have f0 : (μ.2.2.1 404 4).toInt = ν 1 + 0 := (g.fa _ (List.Mem.head _)).2
  have f1 : (μ.2.2.1 404 13).toInt = ν 2 + 0 := (g.fa _ (List.Mem.tail _ (List.Mem.head _))).2
  have f2 : (μ.2.2.1 404 12).toInt = ν 3 + 0 := (g.fa _ (List.Mem.tail _ (List.Mem.tail _ (List.Mem.head _)))).2
  have f3 : (μ.2.2.1 404 2).toInt = ν 4 + 0 := (g.fa _ (List.Mem.tail _ (List.Mem.tail _ (List.Mem.tail _ (List.Mem.head _))))).2
  have f4 : (μ.2.2.1 404 3).toInt = ν 5 + 0 := (g.fa _ (List.Mem.tail _ (List.Mem.tail _ (List.Mem.tail _ (List.Mem.tail _ (List.Mem.head _)))))).2
  have f5 : (μ.2.2.1 404 14).toInt = ν 6 + 0 := (g.fa _ (List.Mem.tail _ (List.Mem.tail _ (List.Mem.tail _ (List.Mem.tail _ (List.Mem.tail _ (List.Mem.head _))))))).2
  have f6 : (μ.2.2.1 404 19).toInt = ν 7 + 0 := (g.fa _ (List.Mem.tail _ (List.Mem.tail _ (List.Mem.tail _ (List.Mem.tail _ (List.Mem.tail _ (List.Mem.tail _ (List.Mem.head _)))))))).2
  have f7 : (μ.2.2.1 404 21).toInt = ν 8 + 0 := (g.fa _ (List.Mem.tail _ (List.Mem.tail _ (List.Mem.tail _ (List.Mem.tail _ (List.Mem.tail _ (List.Mem.tail _ (List.Mem.tail _ (List.Mem.head _))))))))).2
  have f8 : (μ.2.2.1 404 22).toInt = ν 9 + 0 := (g.fa _ (List.Mem.tail _ (List.Mem.tail _ (List.Mem.tail _ (List.Mem.tail _ (List.Mem.tail _ (List.Mem.tail _ (List.Mem.tail _ (List.Mem.tail _ (List.Mem.head _)))))))))).2
  have b1 : (0 : Int) ≤ ν 1 ∧ ν 1 ≤ 940 := g.iv 1 (by decide)
  have b2 : (0 : Int) ≤ ν 2 ∧ ν 2 ≤ 940 := g.iv 2 (by decide)
  have b3 : (0 : Int) ≤ ν 3 ∧ ν 3 ≤ 940 := g.iv 3 (by decide)
  have b4 : (0 : Int) ≤ ν 4 ∧ ν 4 ≤ 940 := g.iv 4 (by decide)
  have b5 : (0 : Int) ≤ ν 5 ∧ ν 5 ≤ 940 := g.iv 5 (by decide)
  have b6 : (-2147483648 : Int) ≤ ν 6 ∧ ν 6 ≤ 2147483647 := g.iv 6 (by decide)
  have b7 : (-2147483648 : Int) ≤ ν 7 ∧ ν 7 ≤ 2147483647 := g.iv 7 (by decide)
  have b8 : (0 : Int) ≤ ν 8 ∧ ν 8 ≤ 30 := g.iv 8 (by decide)
  have b9 : (0 : Int) ≤ ν 9 ∧ ν 9 ≤ 1 := g.iv 9 (by decide)
  have z0 : ν 0 = 0 := g.z
  have k404 : (μ.2.1 404).1 = 12 := by rw [g.sh]; exact (hE.sh 404).1
  have n404 : (μ.2.1 404).2.1 = 57 := by rw [g.sh]; exact (hE.sh 404).2.1
  refine q_puti rfl k404 ?_
  exact hk _ _ ν [] (dw_si μ 404 11 w1) (List.Mem.head _) (post_mk g rfl (up_hi g.hi (⟨by show (0 : Int) ≤ _; omega, by show _ ≤ (4 : Int); omega⟩ : dx_in (0, 4) w1.toInt)) (up_fr (List.Mem.head _)) (by decide) (by decide) (fun _ _ => rfl) ⟨(show (0 : Int) ≤ ν 0 ∧ ν 0 ≤ 0 from ⟨by omega, by omega⟩), (show (0 : Int) ≤ ν 1 ∧ ν 1 ≤ 940 from ⟨by omega, by omega⟩), (show (0 : Int) ≤ ν 2 ∧ ν 2 ≤ 940 from ⟨by omega, by omega⟩), (show (0 : Int) ≤ ν 3 ∧ ν 3 ≤ 940 from ⟨by omega, by omega⟩), (show (0 : Int) ≤ ν 4 ∧ ν 4 ≤ 940 from ⟨by omega, by omega⟩), (show (0 : Int) ≤ ν 5 ∧ ν 5 ≤ 940 from ⟨by omega, by omega⟩), (show (-2147483648 : Int) ≤ ν 6 ∧ ν 6 ≤ 2147483647 from ⟨by omega, by omega⟩), (show (-2147483648 : Int) ≤ ν 7 ∧ ν 7 ≤ 2147483647 from ⟨by omega, by omega⟩), (show (0 : Int) ≤ ν 8 ∧ ν 8 ≤ 30 from ⟨by omega, by omega⟩), (show (0 : Int) ≤ ν 9 ∧ ν 9 ≤ 1 from ⟨by omega, by omega⟩), trivial⟩ trivial trivial rfl ⟨⟨by decide, (show ((dw_si μ 404 11 w1).2.2.1 404 4).toInt = ν 1 + 0 from (up_eq (Or.inr (by decide)) f0))⟩, ⟨by decide, (show ((dw_si μ 404 11 w1).2.2.1 404 13).toInt = ν 2 + 0 from (up_eq (Or.inr (by decide)) f1))⟩, ⟨by decide, (show ((dw_si μ 404 11 w1).2.2.1 404 12).toInt = ν 3 + 0 from (up_eq (Or.inr (by decide)) f2))⟩, ⟨by decide, (show ((dw_si μ 404 11 w1).2.2.1 404 2).toInt = ν 4 + 0 from (up_eq (Or.inr (by decide)) f3))⟩, ⟨by decide, (show ((dw_si μ 404 11 w1).2.2.1 404 3).toInt = ν 5 + 0 from (up_eq (Or.inr (by decide)) f4))⟩, ⟨by decide, (show ((dw_si μ 404 11 w1).2.2.1 404 14).toInt = ν 6 + 0 from (up_eq (Or.inr (by decide)) f5))⟩, ⟨by decide, (show ((dw_si μ 404 11 w1).2.2.1 404 19).toInt = ν 7 + 0 from (up_eq (Or.inr (by decide)) f6))⟩, ⟨by decide, (show ((dw_si μ 404 11 w1).2.2.1 404 21).toInt = ν 8 + 0 from (up_eq (Or.inr (by decide)) f7))⟩, ⟨by decide, (show ((dw_si μ 404 11 w1).2.2.1 404 22).toInt = ν 9 + 0 from (up_eq (Or.inr (by decide)) f8))⟩, ⟨by decide, (show ((dw_si μ 404 11 w1).2.2.1 404 11).toInt = ν 0 + 3 from by show ((dw_up μ.2.2.1 404 11 w1) 404 11).toInt = _; rw [up_at]; omega)⟩, trivial⟩ ⟨⟨by decide, (show fl_P 8 (ν 0 + 0) (dw_si μ 404 11 w1).2.2.1 from fun h => by have h2 : ((dw_up μ.2.2.1 404 11 w1) 404 11).toInt = 1 := h; rw [up_at] at h2; omega)⟩, trivial⟩)
set_option maxHeartbeats 2000000 in
theorem sp_nxTokN4 {SH : dw_Sh} {TT : Nat → dw_T} {K : dw_K} (hE : (EE SH TT).ok) : dx_SOK (EE SH TT) (pr_X12_next K) 76 sg_nxTokN4 := by
  intro ν ls vs args rest μ bc bs hvs hargs hcat g hk
  obtain rfl := vs0 (f := fun i => ls[i]?) hvs
  obtain ⟨x0, x1, rfl⟩ := ar2 hargs
  obtain ⟨g0, g1, -⟩ := g.gl
  obtain rfl : x0 = .ref 404 := Option.some.inj (gV_th g0)
  obtain ⟨-, w1, h1, q1⟩ := g1
  obtain rfl : x1 = .int w1 := Option.some.inj h1
  have f0 : (μ.2.2.1 404 4).toInt = ν 1 + 0 := (g.fa _ (List.Mem.head _)).2
  have f1 : (μ.2.2.1 404 13).toInt = ν 2 + 0 := (g.fa _ (List.Mem.tail _ (List.Mem.head _))).2
  have f2 : (μ.2.2.1 404 12).toInt = ν 3 + 0 := (g.fa _ (List.Mem.tail _ (List.Mem.tail _ (List.Mem.head _)))).2
  have f3 : (μ.2.2.1 404 2).toInt = ν 4 + 0 := (g.fa _ (List.Mem.tail _ (List.Mem.tail _ (List.Mem.tail _ (List.Mem.head _))))).2
  have f4 : (μ.2.2.1 404 3).toInt = ν 5 + 0 := (g.fa _ (List.Mem.tail _ (List.Mem.tail _ (List.Mem.tail _ (List.Mem.tail _ (List.Mem.head _)))))).2
  have f5 : (μ.2.2.1 404 14).toInt = ν 6 + 0 := (g.fa _ (List.Mem.tail _ (List.Mem.tail _ (List.Mem.tail _ (List.Mem.tail _ (List.Mem.tail _ (List.Mem.head _))))))).2
  have f6 : (μ.2.2.1 404 19).toInt = ν 7 + 0 := (g.fa _ (List.Mem.tail _ (List.Mem.tail _ (List.Mem.tail _ (List.Mem.tail _ (List.Mem.tail _ (List.Mem.tail _ (List.Mem.head _)))))))).2
  have f7 : (μ.2.2.1 404 21).toInt = ν 8 + 0 := (g.fa _ (List.Mem.tail _ (List.Mem.tail _ (List.Mem.tail _ (List.Mem.tail _ (List.Mem.tail _ (List.Mem.tail _ (List.Mem.tail _ (List.Mem.head _))))))))).2
  have f8 : (μ.2.2.1 404 22).toInt = ν 9 + 0 := (g.fa _ (List.Mem.tail _ (List.Mem.tail _ (List.Mem.tail _ (List.Mem.tail _ (List.Mem.tail _ (List.Mem.tail _ (List.Mem.tail _ (List.Mem.tail _ (List.Mem.head _)))))))))).2
  have b1 : (0 : Int) ≤ ν 1 ∧ ν 1 ≤ 940 := g.iv 1 (by decide)
  have b2 : (0 : Int) ≤ ν 2 ∧ ν 2 ≤ 940 := g.iv 2 (by decide)
  have b3 : (0 : Int) ≤ ν 3 ∧ ν 3 ≤ 940 := g.iv 3 (by decide)
  have b4 : (0 : Int) ≤ ν 4 ∧ ν 4 ≤ 940 := g.iv 4 (by decide)
  have b5 : (0 : Int) ≤ ν 5 ∧ ν 5 ≤ 940 := g.iv 5 (by decide)
  have b6 : (-2147483648 : Int) ≤ ν 6 ∧ ν 6 ≤ 2147483647 := g.iv 6 (by decide)
  have b7 : (-2147483648 : Int) ≤ ν 7 ∧ ν 7 ≤ 2147483647 := g.iv 7 (by decide)
  have b8 : (0 : Int) ≤ ν 8 ∧ ν 8 ≤ 30 := g.iv 8 (by decide)
  have b9 : (0 : Int) ≤ ν 9 ∧ ν 9 ≤ 1 := g.iv 9 (by decide)
  have z0 : ν 0 = 0 := g.z
  have k404 : (μ.2.1 404).1 = 12 := by rw [g.sh]; exact (hE.sh 404).1
  have n404 : (μ.2.1 404).2.1 = 57 := by rw [g.sh]; exact (hE.sh 404).2.1
  refine q_puti rfl k404 ?_
  exact hk _ _ ν [] (dw_si μ 404 11 w1) (List.Mem.head _) (post_mk g rfl (up_hi g.hi (⟨by show (0 : Int) ≤ _; omega, by show _ ≤ (4 : Int); omega⟩ : dx_in (0, 4) w1.toInt)) (up_fr (List.Mem.head _)) (by decide) (by decide) (fun _ _ => rfl) ⟨(show (0 : Int) ≤ ν 0 ∧ ν 0 ≤ 0 from ⟨by omega, by omega⟩), (show (0 : Int) ≤ ν 1 ∧ ν 1 ≤ 940 from ⟨by omega, by omega⟩), (show (0 : Int) ≤ ν 2 ∧ ν 2 ≤ 940 from ⟨by omega, by omega⟩), (show (0 : Int) ≤ ν 3 ∧ ν 3 ≤ 940 from ⟨by omega, by omega⟩), (show (0 : Int) ≤ ν 4 ∧ ν 4 ≤ 940 from ⟨by omega, by omega⟩), (show (0 : Int) ≤ ν 5 ∧ ν 5 ≤ 940 from ⟨by omega, by omega⟩), (show (-2147483648 : Int) ≤ ν 6 ∧ ν 6 ≤ 2147483647 from ⟨by omega, by omega⟩), (show (-2147483648 : Int) ≤ ν 7 ∧ ν 7 ≤ 2147483647 from ⟨by omega, by omega⟩), (show (0 : Int) ≤ ν 8 ∧ ν 8 ≤ 30 from ⟨by omega, by omega⟩), (show (0 : Int) ≤ ν 9 ∧ ν 9 ≤ 1 from ⟨by omega, by omega⟩), trivial⟩ trivial trivial rfl ⟨⟨by decide, (show ((dw_si μ 404 11 w1).2.2.1 404 4).toInt = ν 1 + 0 from (up_eq (Or.inr (by decide)) f0))⟩, ⟨by decide, (show ((dw_si μ 404 11 w1).2.2.1 404 13).toInt = ν 2 + 0 from (up_eq (Or.inr (by decide)) f1))⟩, ⟨by decide, (show ((dw_si μ 404 11 w1).2.2.1 404 12).toInt = ν 3 + 0 from (up_eq (Or.inr (by decide)) f2))⟩, ⟨by decide, (show ((dw_si μ 404 11 w1).2.2.1 404 2).toInt = ν 4 + 0 from (up_eq (Or.inr (by decide)) f3))⟩, ⟨by decide, (show ((dw_si μ 404 11 w1).2.2.1 404 3).toInt = ν 5 + 0 from (up_eq (Or.inr (by decide)) f4))⟩, ⟨by decide, (show ((dw_si μ 404 11 w1).2.2.1 404 14).toInt = ν 6 + 0 from (up_eq (Or.inr (by decide)) f5))⟩, ⟨by decide, (show ((dw_si μ 404 11 w1).2.2.1 404 19).toInt = ν 7 + 0 from (up_eq (Or.inr (by decide)) f6))⟩, ⟨by decide, (show ((dw_si μ 404 11 w1).2.2.1 404 21).toInt = ν 8 + 0 from (up_eq (Or.inr (by decide)) f7))⟩, ⟨by decide, (show ((dw_si μ 404 11 w1).2.2.1 404 22).toInt = ν 9 + 0 from (up_eq (Or.inr (by decide)) f8))⟩, ⟨by decide, (show ((dw_si μ 404 11 w1).2.2.1 404 11).toInt = ν 0 + 4 from by show ((dw_up μ.2.2.1 404 11 w1) 404 11).toInt = _; rw [up_at]; omega)⟩, trivial⟩ ⟨⟨by decide, (show fl_P 8 (ν 0 + 0) (dw_si μ 404 11 w1).2.2.1 from fun h => by have h2 : ((dw_up μ.2.2.1 404 11 w1) 404 11).toInt = 1 := h; rw [up_at] at h2; omega)⟩, trivial⟩)
set_option maxHeartbeats 2000000 in
theorem sp_plIn0 {SH : dw_Sh} {TT : Nat → dw_T} {K : dw_K} (hE : (EE SH TT).ok) : dx_SOK (EE SH TT) (pr_X12_planLine K) 83 sg_plIn0 := by
  intro ν ls vs args rest μ bc bs hvs hargs hcat g hk
  obtain ⟨v0, rfl, e0⟩ := vs1 (f := fun i => ls[i]?) (a := 0) hvs
  obtain rfl := ar0 hargs
  obtain ⟨g0, -⟩ := g.gl
  rw [show v0 = some (.ref 404) from gV_th g0] at e0
  have f0 : (μ.2.2.1 404 21).toInt = ν 0 + 0 := (g.fa _ (List.Mem.head _)).2
  have p0 : fl_P 25 (ν 0 + 0) μ.2.2.1 := (g.fl _ (List.Mem.head _)).2
  have z0 : ν 0 = 0 := g.z
  have cst1 : (1 : Int32).toInt = 1 := rfl
  refine q_ic rfl ?_
  exact hk _ _ ν [.int 1] (μ) (List.Mem.head _) (post_mk g rfl g.hi (fun _ _ => ⟨rfl, rfl⟩) (by decide) (by decide) (fun _ _ => rfl) ⟨(show (0 : Int) ≤ ν 0 ∧ ν 0 ≤ 0 from ⟨by omega, by omega⟩), trivial⟩ trivial ⟨⟨by decide, 1, rfl, by rw [z0]; rfl⟩, trivial⟩ rfl trivial ⟨⟨by decide, (show fl_P 100 (ν 0 + 0) (μ).2.2.1 from pq_in (c := 0) (by decide) (by omega) p0)⟩, trivial⟩)
set_option maxHeartbeats 2000000 in
theorem sp_plOff1 {SH : dw_Sh} {TT : Nat → dw_T} {K : dw_K} (hE : (EE SH TT).ok) : dx_SOK (EE SH TT) (pr_X12_planLine K) 206 sg_plOff1 := by
  intro ν ls vs args rest μ bc bs hvs hargs hcat g hk
  obtain ⟨v0, rfl, e0⟩ := vs1 (f := fun i => ls[i]?) (a := 0) hvs
  obtain rfl := ar0 hargs
  obtain ⟨g0, -⟩ := g.gl
  rw [show v0 = some (.ref 404) from gV_th g0] at e0
  have f0 : (μ.2.2.1 408 5).toInt = ν 1 + 0 := (g.fa _ (List.Mem.head _)).2
  have f1 : (μ.2.2.1 406 0).toInt = ν 2 + 0 := (g.fa _ (List.Mem.tail _ (List.Mem.head _))).2
  have p0 : fl_P 101 (ν 0 + 0) μ.2.2.1 := (g.fl _ (List.Mem.head _)).2
  have b1 : (0 : Int) ≤ ν 1 ∧ ν 1 ≤ 143 := g.iv 1 (by decide)
  have b2 : (1 : Int) ≤ ν 2 ∧ ν 2 ≤ 12 := g.iv 2 (by decide)
  have z0 : ν 0 = 0 := g.z
  have cst1 : (1 : Int32).toInt = 1 := rfl
  refine q_ic rfl ?_
  exact hk _ _ ν [.int 1] (μ) (List.Mem.head _) (post_mk g rfl g.hi (fun _ _ => ⟨rfl, rfl⟩) (by decide) (by decide) (fun _ _ => rfl) ⟨(show (0 : Int) ≤ ν 0 ∧ ν 0 ≤ 0 from ⟨by omega, by omega⟩), (show (0 : Int) ≤ ν 1 ∧ ν 1 ≤ 143 from ⟨by omega, by omega⟩), (show (1 : Int) ≤ ν 2 ∧ ν 2 ≤ 12 from ⟨by omega, by omega⟩), trivial⟩ trivial ⟨⟨by decide, 1, rfl, by rw [z0]; rfl⟩, trivial⟩ rfl trivial ⟨⟨by decide, (show fl_P 25 (ν 0 + 2) (μ).2.2.1 from pq_of (c := 2) (by decide) (by omega) (rp_off (c := 1) (y := 0) (by decide) p0 (show (μ.2.2.1 408 5).toInt ≤ 143 by omega) (by omega)))⟩, trivial⟩)
set_option maxHeartbeats 2000000 in
theorem sp_plOn3 {SH : dw_Sh} {TT : Nat → dw_T} {K : dw_K} (hE : (EE SH TT).ok) : dx_SOK (EE SH TT) (pr_X12_planLine K) 132 sg_plOn3 := by
  intro ν ls vs args rest μ bc bs hvs hargs hcat g hk
  obtain ⟨v0, rfl, e0⟩ := vs1 (f := fun i => ls[i]?) (a := 0) hvs
  obtain rfl := ar0 hargs
  obtain ⟨g0, -⟩ := g.gl
  rw [show v0 = some (.ref 404) from gV_th g0] at e0
  have f0 : (μ.2.2.1 408 10).toInt = ν 0 + 0 := (g.fa _ (List.Mem.head _)).2
  have p0 : fl_P 103 (ν 0 + 0) μ.2.2.1 := (g.fl _ (List.Mem.head _)).2
  have z0 : ν 0 = 0 := g.z
  have cst1 : (1 : Int32).toInt = 1 := rfl
  refine q_ic rfl ?_
  exact hk _ _ ν [.int 1] (μ) (List.Mem.head _) (post_mk g rfl g.hi (fun _ _ => ⟨rfl, rfl⟩) (by decide) (by decide) (fun _ _ => rfl) ⟨(show (0 : Int) ≤ ν 0 ∧ ν 0 ≤ 0 from ⟨by omega, by omega⟩), trivial⟩ trivial ⟨⟨by decide, 1, rfl, by rw [z0]; rfl⟩, trivial⟩ rfl trivial ⟨⟨by decide, (show fl_P 25 (ν 0 + 4) (μ).2.2.1 from pq_of (c := 4) (by decide) (by omega) (rp_on (c := 3) (y := 0) (by decide) p0 (show (μ.2.2.1 408 10).toInt = 0 by omega)))⟩, trivial⟩)
set_option maxHeartbeats 2000000 in
theorem sp_plIn5 {SH : dw_Sh} {TT : Nat → dw_T} {K : dw_K} (hE : (EE SH TT).ok) : dx_SOK (EE SH TT) (pr_X12_planLine K) 83 sg_plIn5 := by
  intro ν ls vs args rest μ bc bs hvs hargs hcat g hk
  obtain ⟨v0, rfl, e0⟩ := vs1 (f := fun i => ls[i]?) (a := 0) hvs
  obtain rfl := ar0 hargs
  obtain ⟨g0, -⟩ := g.gl
  rw [show v0 = some (.ref 404) from gV_th g0] at e0
  have f0 : (μ.2.2.1 404 21).toInt = ν 0 + 5 := (g.fa _ (List.Mem.head _)).2
  have p0 : fl_P 25 (ν 0 + 5) μ.2.2.1 := (g.fl _ (List.Mem.head _)).2
  have z0 : ν 0 = 0 := g.z
  have cst1 : (1 : Int32).toInt = 1 := rfl
  refine q_ic rfl ?_
  exact hk _ _ ν [.int 1] (μ) (List.Mem.head _) (post_mk g rfl g.hi (fun _ _ => ⟨rfl, rfl⟩) (by decide) (by decide) (fun _ _ => rfl) ⟨(show (0 : Int) ≤ ν 0 ∧ ν 0 ≤ 0 from ⟨by omega, by omega⟩), trivial⟩ trivial ⟨⟨by decide, 1, rfl, by rw [z0]; rfl⟩, trivial⟩ rfl trivial ⟨⟨by decide, (show fl_P 105 (ν 0 + 0) (μ).2.2.1 from pq_in (c := 5) (by decide) (by omega) p0)⟩, trivial⟩)
set_option maxHeartbeats 2000000 in
theorem sp_plOff6 {SH : dw_Sh} {TT : Nat → dw_T} {K : dw_K} (hE : (EE SH TT).ok) : dx_SOK (EE SH TT) (pr_X12_planLine K) 206 sg_plOff6 := by
  intro ν ls vs args rest μ bc bs hvs hargs hcat g hk
  obtain ⟨v0, rfl, e0⟩ := vs1 (f := fun i => ls[i]?) (a := 0) hvs
  obtain rfl := ar0 hargs
  obtain ⟨g0, -⟩ := g.gl
  rw [show v0 = some (.ref 404) from gV_th g0] at e0
  have f0 : (μ.2.2.1 408 20).toInt = ν 1 + 0 := (g.fa _ (List.Mem.head _)).2
  have f1 : (μ.2.2.1 406 0).toInt = ν 2 + 0 := (g.fa _ (List.Mem.tail _ (List.Mem.head _))).2
  have p0 : fl_P 106 (ν 0 + 0) μ.2.2.1 := (g.fl _ (List.Mem.head _)).2
  have b1 : (0 : Int) ≤ ν 1 ∧ ν 1 ≤ 143 := g.iv 1 (by decide)
  have b2 : (1 : Int) ≤ ν 2 ∧ ν 2 ≤ 12 := g.iv 2 (by decide)
  have z0 : ν 0 = 0 := g.z
  have cst1 : (1 : Int32).toInt = 1 := rfl
  refine q_ic rfl ?_
  exact hk _ _ ν [.int 1] (μ) (List.Mem.head _) (post_mk g rfl g.hi (fun _ _ => ⟨rfl, rfl⟩) (by decide) (by decide) (fun _ _ => rfl) ⟨(show (0 : Int) ≤ ν 0 ∧ ν 0 ≤ 0 from ⟨by omega, by omega⟩), (show (0 : Int) ≤ ν 1 ∧ ν 1 ≤ 143 from ⟨by omega, by omega⟩), (show (1 : Int) ≤ ν 2 ∧ ν 2 ≤ 12 from ⟨by omega, by omega⟩), trivial⟩ trivial ⟨⟨by decide, 1, rfl, by rw [z0]; rfl⟩, trivial⟩ rfl trivial ⟨⟨by decide, (show fl_P 25 (ν 0 + 7) (μ).2.2.1 from pq_of (c := 7) (by decide) (by omega) (rp_off (c := 6) (y := 0) (by decide) p0 (show (μ.2.2.1 408 20).toInt ≤ 143 by omega) (by omega)))⟩, trivial⟩)
set_option maxHeartbeats 2000000 in
theorem sp_plOn8 {SH : dw_Sh} {TT : Nat → dw_T} {K : dw_K} (hE : (EE SH TT).ok) : dx_SOK (EE SH TT) (pr_X12_planLine K) 132 sg_plOn8 := by
  intro ν ls vs args rest μ bc bs hvs hargs hcat g hk
  obtain ⟨v0, rfl, e0⟩ := vs1 (f := fun i => ls[i]?) (a := 0) hvs
  obtain rfl := ar0 hargs
  obtain ⟨g0, -⟩ := g.gl
  rw [show v0 = some (.ref 404) from gV_th g0] at e0
  have f0 : (μ.2.2.1 408 25).toInt = ν 0 + 0 := (g.fa _ (List.Mem.head _)).2
  have p0 : fl_P 108 (ν 0 + 0) μ.2.2.1 := (g.fl _ (List.Mem.head _)).2
  have z0 : ν 0 = 0 := g.z
  have cst1 : (1 : Int32).toInt = 1 := rfl
  refine q_ic rfl ?_
  exact hk _ _ ν [.int 1] (μ) (List.Mem.head _) (post_mk g rfl g.hi (fun _ _ => ⟨rfl, rfl⟩) (by decide) (by decide) (fun _ _ => rfl) ⟨(show (0 : Int) ≤ ν 0 ∧ ν 0 ≤ 0 from ⟨by omega, by omega⟩), trivial⟩ trivial ⟨⟨by decide, 1, rfl, by rw [z0]; rfl⟩, trivial⟩ rfl trivial ⟨⟨by decide, (show fl_P 25 (ν 0 + 9) (μ).2.2.1 from pq_of (c := 9) (by decide) (by omega) (rp_on (c := 8) (y := 0) (by decide) p0 (show (μ.2.2.1 408 25).toInt = 0 by omega)))⟩, trivial⟩)
set_option maxHeartbeats 2000000 in
theorem sp_plIn10 {SH : dw_Sh} {TT : Nat → dw_T} {K : dw_K} (hE : (EE SH TT).ok) : dx_SOK (EE SH TT) (pr_X12_planLine K) 83 sg_plIn10 := by
  intro ν ls vs args rest μ bc bs hvs hargs hcat g hk
  obtain ⟨v0, rfl, e0⟩ := vs1 (f := fun i => ls[i]?) (a := 0) hvs
  obtain rfl := ar0 hargs
  obtain ⟨g0, -⟩ := g.gl
  rw [show v0 = some (.ref 404) from gV_th g0] at e0
  have f0 : (μ.2.2.1 404 21).toInt = ν 0 + 10 := (g.fa _ (List.Mem.head _)).2
  have p0 : fl_P 25 (ν 0 + 10) μ.2.2.1 := (g.fl _ (List.Mem.head _)).2
  have z0 : ν 0 = 0 := g.z
  have cst1 : (1 : Int32).toInt = 1 := rfl
  refine q_ic rfl ?_
  exact hk _ _ ν [.int 1] (μ) (List.Mem.head _) (post_mk g rfl g.hi (fun _ _ => ⟨rfl, rfl⟩) (by decide) (by decide) (fun _ _ => rfl) ⟨(show (0 : Int) ≤ ν 0 ∧ ν 0 ≤ 0 from ⟨by omega, by omega⟩), trivial⟩ trivial ⟨⟨by decide, 1, rfl, by rw [z0]; rfl⟩, trivial⟩ rfl trivial ⟨⟨by decide, (show fl_P 110 (ν 0 + 0) (μ).2.2.1 from pq_in (c := 10) (by decide) (by omega) p0)⟩, trivial⟩)
set_option maxHeartbeats 2000000 in
theorem sp_plOff11 {SH : dw_Sh} {TT : Nat → dw_T} {K : dw_K} (hE : (EE SH TT).ok) : dx_SOK (EE SH TT) (pr_X12_planLine K) 206 sg_plOff11 := by
  intro ν ls vs args rest μ bc bs hvs hargs hcat g hk
  obtain ⟨v0, rfl, e0⟩ := vs1 (f := fun i => ls[i]?) (a := 0) hvs
  obtain rfl := ar0 hargs
  obtain ⟨g0, -⟩ := g.gl
  rw [show v0 = some (.ref 404) from gV_th g0] at e0
  have f0 : (μ.2.2.1 408 35).toInt = ν 1 + 0 := (g.fa _ (List.Mem.head _)).2
  have f1 : (μ.2.2.1 406 0).toInt = ν 2 + 0 := (g.fa _ (List.Mem.tail _ (List.Mem.head _))).2
  have p0 : fl_P 111 (ν 0 + 0) μ.2.2.1 := (g.fl _ (List.Mem.head _)).2
  have b1 : (0 : Int) ≤ ν 1 ∧ ν 1 ≤ 143 := g.iv 1 (by decide)
  have b2 : (1 : Int) ≤ ν 2 ∧ ν 2 ≤ 12 := g.iv 2 (by decide)
  have z0 : ν 0 = 0 := g.z
  have cst1 : (1 : Int32).toInt = 1 := rfl
  refine q_ic rfl ?_
  exact hk _ _ ν [.int 1] (μ) (List.Mem.head _) (post_mk g rfl g.hi (fun _ _ => ⟨rfl, rfl⟩) (by decide) (by decide) (fun _ _ => rfl) ⟨(show (0 : Int) ≤ ν 0 ∧ ν 0 ≤ 0 from ⟨by omega, by omega⟩), (show (0 : Int) ≤ ν 1 ∧ ν 1 ≤ 143 from ⟨by omega, by omega⟩), (show (1 : Int) ≤ ν 2 ∧ ν 2 ≤ 12 from ⟨by omega, by omega⟩), trivial⟩ trivial ⟨⟨by decide, 1, rfl, by rw [z0]; rfl⟩, trivial⟩ rfl trivial ⟨⟨by decide, (show fl_P 25 (ν 0 + 12) (μ).2.2.1 from pq_of (c := 12) (by decide) (by omega) (rp_off (c := 11) (y := 0) (by decide) p0 (show (μ.2.2.1 408 35).toInt ≤ 143 by omega) (by omega)))⟩, trivial⟩)
set_option maxHeartbeats 2000000 in
theorem sp_plOn13 {SH : dw_Sh} {TT : Nat → dw_T} {K : dw_K} (hE : (EE SH TT).ok) : dx_SOK (EE SH TT) (pr_X12_planLine K) 132 sg_plOn13 := by
  intro ν ls vs args rest μ bc bs hvs hargs hcat g hk
  obtain ⟨v0, rfl, e0⟩ := vs1 (f := fun i => ls[i]?) (a := 0) hvs
  obtain rfl := ar0 hargs
  obtain ⟨g0, -⟩ := g.gl
  rw [show v0 = some (.ref 404) from gV_th g0] at e0
  have f0 : (μ.2.2.1 408 40).toInt = ν 0 + 0 := (g.fa _ (List.Mem.head _)).2
  have p0 : fl_P 113 (ν 0 + 0) μ.2.2.1 := (g.fl _ (List.Mem.head _)).2
  have z0 : ν 0 = 0 := g.z
  have cst1 : (1 : Int32).toInt = 1 := rfl
  refine q_ic rfl ?_
  exact hk _ _ ν [.int 1] (μ) (List.Mem.head _) (post_mk g rfl g.hi (fun _ _ => ⟨rfl, rfl⟩) (by decide) (by decide) (fun _ _ => rfl) ⟨(show (0 : Int) ≤ ν 0 ∧ ν 0 ≤ 0 from ⟨by omega, by omega⟩), trivial⟩ trivial ⟨⟨by decide, 1, rfl, by rw [z0]; rfl⟩, trivial⟩ rfl trivial ⟨⟨by decide, (show fl_P 25 (ν 0 + 14) (μ).2.2.1 from pq_of (c := 14) (by decide) (by omega) (rp_on (c := 13) (y := 0) (by decide) p0 (show (μ.2.2.1 408 40).toInt = 0 by omega)))⟩, trivial⟩)
set_option maxHeartbeats 2000000 in
theorem sp_plIn15 {SH : dw_Sh} {TT : Nat → dw_T} {K : dw_K} (hE : (EE SH TT).ok) : dx_SOK (EE SH TT) (pr_X12_planLine K) 83 sg_plIn15 := by
  intro ν ls vs args rest μ bc bs hvs hargs hcat g hk
  obtain ⟨v0, rfl, e0⟩ := vs1 (f := fun i => ls[i]?) (a := 0) hvs
  obtain rfl := ar0 hargs
  obtain ⟨g0, -⟩ := g.gl
  rw [show v0 = some (.ref 404) from gV_th g0] at e0
  have f0 : (μ.2.2.1 404 21).toInt = ν 0 + 15 := (g.fa _ (List.Mem.head _)).2
  have p0 : fl_P 25 (ν 0 + 15) μ.2.2.1 := (g.fl _ (List.Mem.head _)).2
  have z0 : ν 0 = 0 := g.z
  have cst1 : (1 : Int32).toInt = 1 := rfl
  refine q_ic rfl ?_
  exact hk _ _ ν [.int 1] (μ) (List.Mem.head _) (post_mk g rfl g.hi (fun _ _ => ⟨rfl, rfl⟩) (by decide) (by decide) (fun _ _ => rfl) ⟨(show (0 : Int) ≤ ν 0 ∧ ν 0 ≤ 0 from ⟨by omega, by omega⟩), trivial⟩ trivial ⟨⟨by decide, 1, rfl, by rw [z0]; rfl⟩, trivial⟩ rfl trivial ⟨⟨by decide, (show fl_P 115 (ν 0 + 0) (μ).2.2.1 from pq_in (c := 15) (by decide) (by omega) p0)⟩, trivial⟩)
set_option maxHeartbeats 2000000 in
theorem sp_plOff16 {SH : dw_Sh} {TT : Nat → dw_T} {K : dw_K} (hE : (EE SH TT).ok) : dx_SOK (EE SH TT) (pr_X12_planLine K) 206 sg_plOff16 := by
  intro ν ls vs args rest μ bc bs hvs hargs hcat g hk
  obtain ⟨v0, rfl, e0⟩ := vs1 (f := fun i => ls[i]?) (a := 0) hvs
  obtain rfl := ar0 hargs
  obtain ⟨g0, -⟩ := g.gl
  rw [show v0 = some (.ref 404) from gV_th g0] at e0
  have f0 : (μ.2.2.1 408 50).toInt = ν 1 + 0 := (g.fa _ (List.Mem.head _)).2
  have f1 : (μ.2.2.1 406 0).toInt = ν 2 + 0 := (g.fa _ (List.Mem.tail _ (List.Mem.head _))).2
  have p0 : fl_P 116 (ν 0 + 0) μ.2.2.1 := (g.fl _ (List.Mem.head _)).2
  have b1 : (0 : Int) ≤ ν 1 ∧ ν 1 ≤ 143 := g.iv 1 (by decide)
  have b2 : (1 : Int) ≤ ν 2 ∧ ν 2 ≤ 12 := g.iv 2 (by decide)
  have z0 : ν 0 = 0 := g.z
  have cst1 : (1 : Int32).toInt = 1 := rfl
  refine q_ic rfl ?_
  exact hk _ _ ν [.int 1] (μ) (List.Mem.head _) (post_mk g rfl g.hi (fun _ _ => ⟨rfl, rfl⟩) (by decide) (by decide) (fun _ _ => rfl) ⟨(show (0 : Int) ≤ ν 0 ∧ ν 0 ≤ 0 from ⟨by omega, by omega⟩), (show (0 : Int) ≤ ν 1 ∧ ν 1 ≤ 143 from ⟨by omega, by omega⟩), (show (1 : Int) ≤ ν 2 ∧ ν 2 ≤ 12 from ⟨by omega, by omega⟩), trivial⟩ trivial ⟨⟨by decide, 1, rfl, by rw [z0]; rfl⟩, trivial⟩ rfl trivial ⟨⟨by decide, (show fl_P 25 (ν 0 + 17) (μ).2.2.1 from pq_of (c := 17) (by decide) (by omega) (rp_off (c := 16) (y := 0) (by decide) p0 (show (μ.2.2.1 408 50).toInt ≤ 143 by omega) (by omega)))⟩, trivial⟩)
set_option maxHeartbeats 2000000 in
theorem sp_plOn18 {SH : dw_Sh} {TT : Nat → dw_T} {K : dw_K} (hE : (EE SH TT).ok) : dx_SOK (EE SH TT) (pr_X12_planLine K) 132 sg_plOn18 := by
  intro ν ls vs args rest μ bc bs hvs hargs hcat g hk
  obtain ⟨v0, rfl, e0⟩ := vs1 (f := fun i => ls[i]?) (a := 0) hvs
  obtain rfl := ar0 hargs
  obtain ⟨g0, -⟩ := g.gl
  rw [show v0 = some (.ref 404) from gV_th g0] at e0
  have f0 : (μ.2.2.1 408 55).toInt = ν 0 + 0 := (g.fa _ (List.Mem.head _)).2
  have p0 : fl_P 118 (ν 0 + 0) μ.2.2.1 := (g.fl _ (List.Mem.head _)).2
  have z0 : ν 0 = 0 := g.z
  have cst1 : (1 : Int32).toInt = 1 := rfl
  refine q_ic rfl ?_
  exact hk _ _ ν [.int 1] (μ) (List.Mem.head _) (post_mk g rfl g.hi (fun _ _ => ⟨rfl, rfl⟩) (by decide) (by decide) (fun _ _ => rfl) ⟨(show (0 : Int) ≤ ν 0 ∧ ν 0 ≤ 0 from ⟨by omega, by omega⟩), trivial⟩ trivial ⟨⟨by decide, 1, rfl, by rw [z0]; rfl⟩, trivial⟩ rfl trivial ⟨⟨by decide, (show fl_P 25 (ν 0 + 19) (μ).2.2.1 from pq_of (c := 19) (by decide) (by omega) (rp_on (c := 18) (y := 0) (by decide) p0 (show (μ.2.2.1 408 55).toInt = 0 by omega)))⟩, trivial⟩)
set_option maxHeartbeats 2000000 in
theorem sp_plIn20 {SH : dw_Sh} {TT : Nat → dw_T} {K : dw_K} (hE : (EE SH TT).ok) : dx_SOK (EE SH TT) (pr_X12_planLine K) 83 sg_plIn20 := by
  intro ν ls vs args rest μ bc bs hvs hargs hcat g hk
  obtain ⟨v0, rfl, e0⟩ := vs1 (f := fun i => ls[i]?) (a := 0) hvs
  obtain rfl := ar0 hargs
  obtain ⟨g0, -⟩ := g.gl
  rw [show v0 = some (.ref 404) from gV_th g0] at e0
  have f0 : (μ.2.2.1 404 21).toInt = ν 0 + 20 := (g.fa _ (List.Mem.head _)).2
  have p0 : fl_P 25 (ν 0 + 20) μ.2.2.1 := (g.fl _ (List.Mem.head _)).2
  have z0 : ν 0 = 0 := g.z
  have cst1 : (1 : Int32).toInt = 1 := rfl
  refine q_ic rfl ?_
  exact hk _ _ ν [.int 1] (μ) (List.Mem.head _) (post_mk g rfl g.hi (fun _ _ => ⟨rfl, rfl⟩) (by decide) (by decide) (fun _ _ => rfl) ⟨(show (0 : Int) ≤ ν 0 ∧ ν 0 ≤ 0 from ⟨by omega, by omega⟩), trivial⟩ trivial ⟨⟨by decide, 1, rfl, by rw [z0]; rfl⟩, trivial⟩ rfl trivial ⟨⟨by decide, (show fl_P 120 (ν 0 + 0) (μ).2.2.1 from pq_in (c := 20) (by decide) (by omega) p0)⟩, trivial⟩)
set_option maxHeartbeats 2000000 in
theorem sp_plOff21 {SH : dw_Sh} {TT : Nat → dw_T} {K : dw_K} (hE : (EE SH TT).ok) : dx_SOK (EE SH TT) (pr_X12_planLine K) 206 sg_plOff21 := by
  intro ν ls vs args rest μ bc bs hvs hargs hcat g hk
  obtain ⟨v0, rfl, e0⟩ := vs1 (f := fun i => ls[i]?) (a := 0) hvs
  obtain rfl := ar0 hargs
  obtain ⟨g0, -⟩ := g.gl
  rw [show v0 = some (.ref 404) from gV_th g0] at e0
  have f0 : (μ.2.2.1 408 65).toInt = ν 1 + 0 := (g.fa _ (List.Mem.head _)).2
  have f1 : (μ.2.2.1 406 0).toInt = ν 2 + 0 := (g.fa _ (List.Mem.tail _ (List.Mem.head _))).2
  have p0 : fl_P 121 (ν 0 + 0) μ.2.2.1 := (g.fl _ (List.Mem.head _)).2
  have b1 : (0 : Int) ≤ ν 1 ∧ ν 1 ≤ 143 := g.iv 1 (by decide)
  have b2 : (1 : Int) ≤ ν 2 ∧ ν 2 ≤ 12 := g.iv 2 (by decide)
  have z0 : ν 0 = 0 := g.z
  have cst1 : (1 : Int32).toInt = 1 := rfl
  refine q_ic rfl ?_
  exact hk _ _ ν [.int 1] (μ) (List.Mem.head _) (post_mk g rfl g.hi (fun _ _ => ⟨rfl, rfl⟩) (by decide) (by decide) (fun _ _ => rfl) ⟨(show (0 : Int) ≤ ν 0 ∧ ν 0 ≤ 0 from ⟨by omega, by omega⟩), (show (0 : Int) ≤ ν 1 ∧ ν 1 ≤ 143 from ⟨by omega, by omega⟩), (show (1 : Int) ≤ ν 2 ∧ ν 2 ≤ 12 from ⟨by omega, by omega⟩), trivial⟩ trivial ⟨⟨by decide, 1, rfl, by rw [z0]; rfl⟩, trivial⟩ rfl trivial ⟨⟨by decide, (show fl_P 25 (ν 0 + 22) (μ).2.2.1 from pq_of (c := 22) (by decide) (by omega) (rp_off (c := 21) (y := 0) (by decide) p0 (show (μ.2.2.1 408 65).toInt ≤ 143 by omega) (by omega)))⟩, trivial⟩)
set_option maxHeartbeats 2000000 in
theorem sp_plOn23 {SH : dw_Sh} {TT : Nat → dw_T} {K : dw_K} (hE : (EE SH TT).ok) : dx_SOK (EE SH TT) (pr_X12_planLine K) 132 sg_plOn23 := by
  intro ν ls vs args rest μ bc bs hvs hargs hcat g hk
  obtain ⟨v0, rfl, e0⟩ := vs1 (f := fun i => ls[i]?) (a := 0) hvs
  obtain rfl := ar0 hargs
  obtain ⟨g0, -⟩ := g.gl
  rw [show v0 = some (.ref 404) from gV_th g0] at e0
  have f0 : (μ.2.2.1 408 70).toInt = ν 0 + 0 := (g.fa _ (List.Mem.head _)).2
  have p0 : fl_P 123 (ν 0 + 0) μ.2.2.1 := (g.fl _ (List.Mem.head _)).2
  have z0 : ν 0 = 0 := g.z
  have cst1 : (1 : Int32).toInt = 1 := rfl
  refine q_ic rfl ?_
  exact hk _ _ ν [.int 1] (μ) (List.Mem.head _) (post_mk g rfl g.hi (fun _ _ => ⟨rfl, rfl⟩) (by decide) (by decide) (fun _ _ => rfl) ⟨(show (0 : Int) ≤ ν 0 ∧ ν 0 ≤ 0 from ⟨by omega, by omega⟩), trivial⟩ trivial ⟨⟨by decide, 1, rfl, by rw [z0]; rfl⟩, trivial⟩ rfl trivial ⟨⟨by decide, (show fl_P 25 (ν 0 + 24) (μ).2.2.1 from pq_of (c := 24) (by decide) (by omega) (rp_on (c := 23) (y := 0) (by decide) p0 (show (μ.2.2.1 408 70).toInt = 0 by omega)))⟩, trivial⟩)
set_option maxHeartbeats 2000000 in
theorem sp_plIn25 {SH : dw_Sh} {TT : Nat → dw_T} {K : dw_K} (hE : (EE SH TT).ok) : dx_SOK (EE SH TT) (pr_X12_planLine K) 83 sg_plIn25 := by
  intro ν ls vs args rest μ bc bs hvs hargs hcat g hk
  obtain ⟨v0, rfl, e0⟩ := vs1 (f := fun i => ls[i]?) (a := 0) hvs
  obtain rfl := ar0 hargs
  obtain ⟨g0, -⟩ := g.gl
  rw [show v0 = some (.ref 404) from gV_th g0] at e0
  have f0 : (μ.2.2.1 404 21).toInt = ν 0 + 25 := (g.fa _ (List.Mem.head _)).2
  have p0 : fl_P 25 (ν 0 + 25) μ.2.2.1 := (g.fl _ (List.Mem.head _)).2
  have z0 : ν 0 = 0 := g.z
  have cst1 : (1 : Int32).toInt = 1 := rfl
  refine q_ic rfl ?_
  exact hk _ _ ν [.int 1] (μ) (List.Mem.head _) (post_mk g rfl g.hi (fun _ _ => ⟨rfl, rfl⟩) (by decide) (by decide) (fun _ _ => rfl) ⟨(show (0 : Int) ≤ ν 0 ∧ ν 0 ≤ 0 from ⟨by omega, by omega⟩), trivial⟩ trivial ⟨⟨by decide, 1, rfl, by rw [z0]; rfl⟩, trivial⟩ rfl trivial ⟨⟨by decide, (show fl_P 125 (ν 0 + 0) (μ).2.2.1 from pq_in (c := 25) (by decide) (by omega) p0)⟩, trivial⟩)
set_option maxHeartbeats 2000000 in
theorem sp_plOff26 {SH : dw_Sh} {TT : Nat → dw_T} {K : dw_K} (hE : (EE SH TT).ok) : dx_SOK (EE SH TT) (pr_X12_planLine K) 206 sg_plOff26 := by
  intro ν ls vs args rest μ bc bs hvs hargs hcat g hk
  obtain ⟨v0, rfl, e0⟩ := vs1 (f := fun i => ls[i]?) (a := 0) hvs
  obtain rfl := ar0 hargs
  obtain ⟨g0, -⟩ := g.gl
  rw [show v0 = some (.ref 404) from gV_th g0] at e0
  have f0 : (μ.2.2.1 408 80).toInt = ν 1 + 0 := (g.fa _ (List.Mem.head _)).2
  have f1 : (μ.2.2.1 406 0).toInt = ν 2 + 0 := (g.fa _ (List.Mem.tail _ (List.Mem.head _))).2
  have p0 : fl_P 126 (ν 0 + 0) μ.2.2.1 := (g.fl _ (List.Mem.head _)).2
  have b1 : (0 : Int) ≤ ν 1 ∧ ν 1 ≤ 143 := g.iv 1 (by decide)
  have b2 : (1 : Int) ≤ ν 2 ∧ ν 2 ≤ 12 := g.iv 2 (by decide)
  have z0 : ν 0 = 0 := g.z
  have cst1 : (1 : Int32).toInt = 1 := rfl
  refine q_ic rfl ?_
  exact hk _ _ ν [.int 1] (μ) (List.Mem.head _) (post_mk g rfl g.hi (fun _ _ => ⟨rfl, rfl⟩) (by decide) (by decide) (fun _ _ => rfl) ⟨(show (0 : Int) ≤ ν 0 ∧ ν 0 ≤ 0 from ⟨by omega, by omega⟩), (show (0 : Int) ≤ ν 1 ∧ ν 1 ≤ 143 from ⟨by omega, by omega⟩), (show (1 : Int) ≤ ν 2 ∧ ν 2 ≤ 12 from ⟨by omega, by omega⟩), trivial⟩ trivial ⟨⟨by decide, 1, rfl, by rw [z0]; rfl⟩, trivial⟩ rfl trivial ⟨⟨by decide, (show fl_P 25 (ν 0 + 27) (μ).2.2.1 from pq_of (c := 27) (by decide) (by omega) (rp_off (c := 26) (y := 0) (by decide) p0 (show (μ.2.2.1 408 80).toInt ≤ 143 by omega) (by omega)))⟩, trivial⟩)
set_option maxHeartbeats 2000000 in
theorem sp_plOn28 {SH : dw_Sh} {TT : Nat → dw_T} {K : dw_K} (hE : (EE SH TT).ok) : dx_SOK (EE SH TT) (pr_X12_planLine K) 132 sg_plOn28 := by
  intro ν ls vs args rest μ bc bs hvs hargs hcat g hk
  obtain ⟨v0, rfl, e0⟩ := vs1 (f := fun i => ls[i]?) (a := 0) hvs
  obtain rfl := ar0 hargs
  obtain ⟨g0, -⟩ := g.gl
  rw [show v0 = some (.ref 404) from gV_th g0] at e0
  have f0 : (μ.2.2.1 408 85).toInt = ν 0 + 0 := (g.fa _ (List.Mem.head _)).2
  have p0 : fl_P 128 (ν 0 + 0) μ.2.2.1 := (g.fl _ (List.Mem.head _)).2
  have z0 : ν 0 = 0 := g.z
  have cst1 : (1 : Int32).toInt = 1 := rfl
  refine q_ic rfl ?_
  exact hk _ _ ν [.int 1] (μ) (List.Mem.head _) (post_mk g rfl g.hi (fun _ _ => ⟨rfl, rfl⟩) (by decide) (by decide) (fun _ _ => rfl) ⟨(show (0 : Int) ≤ ν 0 ∧ ν 0 ≤ 0 from ⟨by omega, by omega⟩), trivial⟩ trivial ⟨⟨by decide, 1, rfl, by rw [z0]; rfl⟩, trivial⟩ rfl trivial ⟨⟨by decide, (show fl_P 25 (ν 0 + 29) (μ).2.2.1 from pq_of (c := 29) (by decide) (by omega) (rp_on (c := 28) (y := 0) (by decide) p0 (show (μ.2.2.1 408 85).toInt = 0 by omega)))⟩, trivial⟩)
set_option maxHeartbeats 2000000 in
theorem sp_plZero {SH : dw_Sh} {TT : Nat → dw_T} {K : dw_K} (hE : (EE SH TT).ok) : dx_SOK (EE SH TT) (pr_X12_plan K) 22 sg_plZero := by
  intro ν ls vs args rest μ bc bs hvs hargs hcat g hk
  obtain ⟨v0, rfl, e0⟩ := vs1 (f := fun i => ls[i]?) (a := 0) hvs
  obtain rfl := ar0 hargs
  obtain ⟨g0, -⟩ := g.gl
  rw [show v0 = some (.ref 404) from gV_th g0] at e0
  have z0 : ν 0 = 0 := g.z
  refine q_ald rfl e0 ?_
  exact hk _ _ ν [.ref 404] (μ) (List.Mem.head _) (post_mk g rfl g.hi (fun _ _ => ⟨rfl, rfl⟩) (by decide) (by decide) (fun _ _ => rfl) ⟨(show (0 : Int) ≤ ν 0 ∧ ν 0 ≤ 0 from ⟨by omega, by omega⟩), trivial⟩ trivial ⟨⟨404, List.Mem.head _, rfl⟩, trivial⟩ rfl trivial ⟨⟨by decide, (show fl_P 25 (ν 0 + 0) (μ).2.2.1 from fun i hi _ => absurd hi (by omega))⟩, trivial⟩)
set_option maxHeartbeats 2000000 in
theorem sp_plEnd1 {SH : dw_Sh} {TT : Nat → dw_T} {K : dw_K} (hE : (EE SH TT).ok) : dx_SOK (EE SH TT) (pr_X12_plan K) 113 sg_plEnd1 := by
  intro ν ls vs args rest μ bc bs hvs hargs hcat g hk
  obtain ⟨v0, rfl, e0⟩ := vs1 (f := fun i => ls[i]?) (a := 0) hvs
  obtain rfl := ar0 hargs
  obtain ⟨g0, -⟩ := g.gl
  rw [show v0 = some (.ref 404) from gV_th g0] at e0
  have f0 : (μ.2.2.1 404 21).toInt = ν 0 + 1 := (g.fa _ (List.Mem.head _)).2
  have f1 : (μ.2.2.1 408 0).toInt = ν 0 + 1 := (g.fa _ (List.Mem.tail _ (List.Mem.head _))).2
  have p0 : fl_P 23 (ν 0 + 4) μ.2.2.1 := (g.fl _ (List.Mem.head _)).2
  have p1 : fl_P 25 (ν 0 + 1) μ.2.2.1 := (g.fl _ (List.Mem.tail _ (List.Mem.head _))).2
  have z0 : ν 0 = 0 := g.z
  refine q_ald rfl e0 ?_
  exact hk _ _ ν [.ref 404] (μ) (List.Mem.head _) (post_mk g rfl g.hi (fun _ _ => ⟨rfl, rfl⟩) (by decide) (by decide) (fun _ _ => rfl) ⟨(show (0 : Int) ≤ ν 0 ∧ ν 0 ≤ 0 from ⟨by omega, by omega⟩), trivial⟩ trivial ⟨⟨404, List.Mem.head _, rfl⟩, trivial⟩ rfl trivial ⟨⟨by decide, (show fl_P 6 (ν 0 + 0) (μ).2.2.1 from pl_end (c := 1) (y := 0) (by decide) (by omega) (by omega) p0 (pq_in (c := 1) (by decide) (by omega) p1))⟩, trivial⟩)
set_option maxHeartbeats 2000000 in
theorem sp_plEnd6 {SH : dw_Sh} {TT : Nat → dw_T} {K : dw_K} (hE : (EE SH TT).ok) : dx_SOK (EE SH TT) (pr_X12_plan K) 113 sg_plEnd6 := by
  intro ν ls vs args rest μ bc bs hvs hargs hcat g hk
  obtain ⟨v0, rfl, e0⟩ := vs1 (f := fun i => ls[i]?) (a := 0) hvs
  obtain rfl := ar0 hargs
  obtain ⟨g0, -⟩ := g.gl
  rw [show v0 = some (.ref 404) from gV_th g0] at e0
  have f0 : (μ.2.2.1 404 21).toInt = ν 0 + 6 := (g.fa _ (List.Mem.head _)).2
  have f1 : (μ.2.2.1 408 0).toInt = ν 0 + 6 := (g.fa _ (List.Mem.tail _ (List.Mem.head _))).2
  have p0 : fl_P 23 (ν 0 + 19) μ.2.2.1 := (g.fl _ (List.Mem.head _)).2
  have p1 : fl_P 25 (ν 0 + 6) μ.2.2.1 := (g.fl _ (List.Mem.tail _ (List.Mem.head _))).2
  have z0 : ν 0 = 0 := g.z
  refine q_ald rfl e0 ?_
  exact hk _ _ ν [.ref 404] (μ) (List.Mem.head _) (post_mk g rfl g.hi (fun _ _ => ⟨rfl, rfl⟩) (by decide) (by decide) (fun _ _ => rfl) ⟨(show (0 : Int) ≤ ν 0 ∧ ν 0 ≤ 0 from ⟨by omega, by omega⟩), trivial⟩ trivial ⟨⟨404, List.Mem.head _, rfl⟩, trivial⟩ rfl trivial ⟨⟨by decide, (show fl_P 6 (ν 0 + 0) (μ).2.2.1 from pl_end (c := 6) (y := 0) (by decide) (by omega) (by omega) p0 (pq_in (c := 6) (by decide) (by omega) p1))⟩, trivial⟩)
set_option maxHeartbeats 2000000 in
theorem sp_plEnd11 {SH : dw_Sh} {TT : Nat → dw_T} {K : dw_K} (hE : (EE SH TT).ok) : dx_SOK (EE SH TT) (pr_X12_plan K) 113 sg_plEnd11 := by
  intro ν ls vs args rest μ bc bs hvs hargs hcat g hk
  obtain ⟨v0, rfl, e0⟩ := vs1 (f := fun i => ls[i]?) (a := 0) hvs
  obtain rfl := ar0 hargs
  obtain ⟨g0, -⟩ := g.gl
  rw [show v0 = some (.ref 404) from gV_th g0] at e0
  have f0 : (μ.2.2.1 404 21).toInt = ν 0 + 11 := (g.fa _ (List.Mem.head _)).2
  have f1 : (μ.2.2.1 408 0).toInt = ν 0 + 11 := (g.fa _ (List.Mem.tail _ (List.Mem.head _))).2
  have p0 : fl_P 23 (ν 0 + 34) μ.2.2.1 := (g.fl _ (List.Mem.head _)).2
  have p1 : fl_P 25 (ν 0 + 11) μ.2.2.1 := (g.fl _ (List.Mem.tail _ (List.Mem.head _))).2
  have z0 : ν 0 = 0 := g.z
  refine q_ald rfl e0 ?_
  exact hk _ _ ν [.ref 404] (μ) (List.Mem.head _) (post_mk g rfl g.hi (fun _ _ => ⟨rfl, rfl⟩) (by decide) (by decide) (fun _ _ => rfl) ⟨(show (0 : Int) ≤ ν 0 ∧ ν 0 ≤ 0 from ⟨by omega, by omega⟩), trivial⟩ trivial ⟨⟨404, List.Mem.head _, rfl⟩, trivial⟩ rfl trivial ⟨⟨by decide, (show fl_P 6 (ν 0 + 0) (μ).2.2.1 from pl_end (c := 11) (y := 0) (by decide) (by omega) (by omega) p0 (pq_in (c := 11) (by decide) (by omega) p1))⟩, trivial⟩)
set_option maxHeartbeats 2000000 in
theorem sp_plEnd16 {SH : dw_Sh} {TT : Nat → dw_T} {K : dw_K} (hE : (EE SH TT).ok) : dx_SOK (EE SH TT) (pr_X12_plan K) 113 sg_plEnd16 := by
  intro ν ls vs args rest μ bc bs hvs hargs hcat g hk
  obtain ⟨v0, rfl, e0⟩ := vs1 (f := fun i => ls[i]?) (a := 0) hvs
  obtain rfl := ar0 hargs
  obtain ⟨g0, -⟩ := g.gl
  rw [show v0 = some (.ref 404) from gV_th g0] at e0
  have f0 : (μ.2.2.1 404 21).toInt = ν 0 + 16 := (g.fa _ (List.Mem.head _)).2
  have f1 : (μ.2.2.1 408 0).toInt = ν 0 + 16 := (g.fa _ (List.Mem.tail _ (List.Mem.head _))).2
  have p0 : fl_P 23 (ν 0 + 49) μ.2.2.1 := (g.fl _ (List.Mem.head _)).2
  have p1 : fl_P 25 (ν 0 + 16) μ.2.2.1 := (g.fl _ (List.Mem.tail _ (List.Mem.head _))).2
  have z0 : ν 0 = 0 := g.z
  refine q_ald rfl e0 ?_
  exact hk _ _ ν [.ref 404] (μ) (List.Mem.head _) (post_mk g rfl g.hi (fun _ _ => ⟨rfl, rfl⟩) (by decide) (by decide) (fun _ _ => rfl) ⟨(show (0 : Int) ≤ ν 0 ∧ ν 0 ≤ 0 from ⟨by omega, by omega⟩), trivial⟩ trivial ⟨⟨404, List.Mem.head _, rfl⟩, trivial⟩ rfl trivial ⟨⟨by decide, (show fl_P 6 (ν 0 + 0) (μ).2.2.1 from pl_end (c := 16) (y := 0) (by decide) (by omega) (by omega) p0 (pq_in (c := 16) (by decide) (by omega) p1))⟩, trivial⟩)
set_option maxHeartbeats 2000000 in
theorem sp_plEnd21 {SH : dw_Sh} {TT : Nat → dw_T} {K : dw_K} (hE : (EE SH TT).ok) : dx_SOK (EE SH TT) (pr_X12_plan K) 113 sg_plEnd21 := by
  intro ν ls vs args rest μ bc bs hvs hargs hcat g hk
  obtain ⟨v0, rfl, e0⟩ := vs1 (f := fun i => ls[i]?) (a := 0) hvs
  obtain rfl := ar0 hargs
  obtain ⟨g0, -⟩ := g.gl
  rw [show v0 = some (.ref 404) from gV_th g0] at e0
  have f0 : (μ.2.2.1 404 21).toInt = ν 0 + 21 := (g.fa _ (List.Mem.head _)).2
  have f1 : (μ.2.2.1 408 0).toInt = ν 0 + 21 := (g.fa _ (List.Mem.tail _ (List.Mem.head _))).2
  have p0 : fl_P 23 (ν 0 + 64) μ.2.2.1 := (g.fl _ (List.Mem.head _)).2
  have p1 : fl_P 25 (ν 0 + 21) μ.2.2.1 := (g.fl _ (List.Mem.tail _ (List.Mem.head _))).2
  have z0 : ν 0 = 0 := g.z
  refine q_ald rfl e0 ?_
  exact hk _ _ ν [.ref 404] (μ) (List.Mem.head _) (post_mk g rfl g.hi (fun _ _ => ⟨rfl, rfl⟩) (by decide) (by decide) (fun _ _ => rfl) ⟨(show (0 : Int) ≤ ν 0 ∧ ν 0 ≤ 0 from ⟨by omega, by omega⟩), trivial⟩ trivial ⟨⟨404, List.Mem.head _, rfl⟩, trivial⟩ rfl trivial ⟨⟨by decide, (show fl_P 6 (ν 0 + 0) (μ).2.2.1 from pl_end (c := 21) (y := 0) (by decide) (by omega) (by omega) p0 (pq_in (c := 21) (by decide) (by omega) p1))⟩, trivial⟩)
set_option maxHeartbeats 2000000 in
theorem sp_plEnd26 {SH : dw_Sh} {TT : Nat → dw_T} {K : dw_K} (hE : (EE SH TT).ok) : dx_SOK (EE SH TT) (pr_X12_plan K) 113 sg_plEnd26 := by
  intro ν ls vs args rest μ bc bs hvs hargs hcat g hk
  obtain ⟨v0, rfl, e0⟩ := vs1 (f := fun i => ls[i]?) (a := 0) hvs
  obtain rfl := ar0 hargs
  obtain ⟨g0, -⟩ := g.gl
  rw [show v0 = some (.ref 404) from gV_th g0] at e0
  have f0 : (μ.2.2.1 404 21).toInt = ν 0 + 26 := (g.fa _ (List.Mem.head _)).2
  have f1 : (μ.2.2.1 408 0).toInt = ν 0 + 26 := (g.fa _ (List.Mem.tail _ (List.Mem.head _))).2
  have p0 : fl_P 23 (ν 0 + 79) μ.2.2.1 := (g.fl _ (List.Mem.head _)).2
  have p1 : fl_P 25 (ν 0 + 26) μ.2.2.1 := (g.fl _ (List.Mem.tail _ (List.Mem.head _))).2
  have z0 : ν 0 = 0 := g.z
  refine q_ald rfl e0 ?_
  exact hk _ _ ν [.ref 404] (μ) (List.Mem.head _) (post_mk g rfl g.hi (fun _ _ => ⟨rfl, rfl⟩) (by decide) (by decide) (fun _ _ => rfl) ⟨(show (0 : Int) ≤ ν 0 ∧ ν 0 ≤ 0 from ⟨by omega, by omega⟩), trivial⟩ trivial ⟨⟨404, List.Mem.head _, rfl⟩, trivial⟩ rfl trivial ⟨⟨by decide, (show fl_P 6 (ν 0 + 0) (μ).2.2.1 from pl_end (c := 26) (y := 0) (by decide) (by omega) (by omega) p0 (pq_in (c := 26) (by decide) (by omega) p1))⟩, trivial⟩)
set_option maxHeartbeats 2000000 in
theorem sp_imZero0 {SH : dw_Sh} {TT : Nat → dw_T} {K : dw_K} (hE : (EE SH TT).ok) : dx_SOK (EE SH TT) (pr_X12_image K) 16 sg_imZero0 := by
  intro ν ls vs args rest μ bc bs hvs hargs hcat g hk
  obtain ⟨v0, v1, rfl, e0, e1⟩ := vs2 (f := fun i => ls[i]?) (a := 0) (b := 1) hvs
  obtain rfl := ar0 hargs
  obtain ⟨g0, g1, -⟩ := g.gl
  rw [show v0 = some (.ref 404) from gV_th g0] at e0
  obtain ⟨-, w1, h1, q1⟩ := g1
  rw [h1] at e1
  have z0 : ν 0 = 0 := g.z
  have cst0 : (0 : Int32).toInt = 0 := rfl
  refine q_ic rfl ?_
  exact hk _ _ ν [.int 0] (μ) (List.Mem.head _) (post_mk g rfl g.hi (fun _ _ => ⟨rfl, rfl⟩) (by decide) (by decide) (fun _ _ => rfl) ⟨(show (0 : Int) ≤ ν 0 ∧ ν 0 ≤ 0 from ⟨by omega, by omega⟩), trivial⟩ trivial ⟨⟨by decide, 0, rfl, by rw [z0]; rfl⟩, trivial⟩ rfl trivial ⟨⟨by decide, (show fl_P 15 (ν 0 + 0) (μ).2.2.1 from fun j _ hj => absurd hj (by omega))⟩, trivial⟩)
set_option maxHeartbeats 2000000 in
theorem sp_reEnd0 {SH : dw_Sh} {TT : Nat → dw_T} {K : dw_K} (hE : (EE SH TT).ok) : dx_SOK (EE SH TT) (pr_X12_restore K) 58 sg_reEnd0 := by
  intro ν ls vs args rest μ bc bs hvs hargs hcat g hk
  obtain ⟨v0, v1, rfl, e0, e1⟩ := vs2 (f := fun i => ls[i]?) (a := 0) (b := 1) hvs
  obtain rfl := ar0 hargs
  obtain ⟨g0, g1, -⟩ := g.gl
  rw [show v0 = some (.ref 404) from gV_th g0] at e0
  obtain ⟨-, w1, h1, q1⟩ := g1
  rw [h1] at e1
  have f0 : (μ.2.2.1 433 0).toInt = ν 0 + 1 := (g.fa _ (List.Mem.head _)).2
  have p0 : fl_P 15 (ν 0 + 1427) μ.2.2.1 := (g.fl _ (List.Mem.head _)).2
  have p1 : fl_P 2 (ν 0 + 0) μ.2.2.1 := (g.fl _ (List.Mem.tail _ (List.Mem.head _))).2
  have z0 : ν 0 = 0 := g.z
  have cst1 : (1 : Int32).toInt = 1 := rfl
  refine q_ic rfl ?_
  obtain ⟨kw, kp⟩ := p1 (by omega)
  have cp : ∀ j : Nat, j < 894 → μ.2.2.1 406 (0 + j) = μ.2.2.1 432 (0 + j) := fun j hj => by rw [Nat.zero_add]; exact (p0 j hj (by omega)).symm
  exact hk _ _ ν [.int 1] (μ) (List.Mem.head _) (post_mk g rfl g.hi (fun _ _ => ⟨rfl, rfl⟩) (by decide) (by decide) (fun _ _ => rfl) ⟨(show (0 : Int) ≤ ν 0 ∧ ν 0 ≤ 0 from ⟨by omega, by omega⟩), trivial⟩ trivial ⟨⟨by decide, 1, rfl, by rw [z0]; rfl⟩, trivial⟩ rfl trivial ⟨⟨by decide, (show fl_P 0 (ν 0 + 0) (μ).2.2.1 from wk_copy cp kw)⟩, ⟨by decide, (show fl_P 6 (ν 0 + 0) (μ).2.2.1 from pl_copy cp kp)⟩, trivial⟩)
set_option maxHeartbeats 2000000 in
theorem sp_reCopy1 {SH : dw_Sh} {TT : Nat → dw_T} {K : dw_K} (hE : (EE SH TT).ok) : dx_SOK (EE SH TT) (pr_X12_restore K) 34 sg_reCopy1 := by
  intro ν ls vs args rest μ bc bs hvs hargs hcat g hk
  obtain ⟨v0, v1, v2, rfl, e0, e1, e2⟩ := vs3 (f := fun i => ls[i]?) (a := 0) (b := 1) (c := 2) hvs
  obtain rfl := ar0 hargs
  obtain ⟨g0, g1, g2, -⟩ := g.gl
  rw [show v0 = some (.ref 404) from gV_th g0] at e0
  obtain ⟨-, w1, h1, q1⟩ := g1
  rw [h1] at e1
  obtain ⟨-, w2, h2, q2⟩ := g2
  rw [h2] at e2
  have p0 : fl_P 16 (ν 1 + 0) μ.2.2.1 := (g.fl _ (List.Mem.head _)).2
  have b1 : (0 : Int) ≤ ν 1 ∧ ν 1 ≤ 1426 := g.iv 1 (by decide)
  have z0 : ν 0 = 0 := g.z
  have cw : ((1427 : Int32) * w1).toInt = 1427 := i_mul (n := 1427) (by rw [show (1427 : Int32).toInt = 1427 from rfl, q1]; omega) (by decide) (by decide)
  refine q_ald rfl e0 ?_
  have k404 : (μ.2.1 404).1 = 12 := by rw [g.sh]; exact (hE.sh 404).1
  have n404 : (μ.2.1 404).2.1 = 57 := by rw [g.sh]; exact (hE.sh 404).2.1
  have r404_6 : (μ.2.1 404).2.2 6 = some 406 := by rw [g.sh]; exact (hE.sh 404).2.2 6
  refine q_getr rfl k404 r404_6 ?_
  refine q_ild rfl e2 ?_
  refine q_ald rfl e0 ?_
  have r404_55 : (μ.2.1 404).2.2 55 = some 432 := by rw [g.sh]; exact (hE.sh 404).2.2 55
  refine q_getr rfl k404 r404_55 ?_
  have cst1427 : (1427 : Int32).toInt = 1427 := rfl
  refine q_ic rfl ?_
  refine q_ild rfl e1 ?_
  refine q_mul rfl ?_
  have t1 : ((1427 : Int32) * w1).toInt = 1427 * (w1).toInt := i_mul (by rw [cst1427]) (by omega) (by omega)
  refine q_ild rfl e2 ?_
  refine q_add rfl ?_
  have t2 : (((1427 : Int32) * w1) + w2).toInt = (((1427 : Int32) * w1)).toInt + (w2).toInt := i_add (by first | omega | (simp; omega)) (by first | omega | (simp; omega))
  have k432 : (μ.2.1 432).1 = 16 := by rw [g.sh]; exact (hE.sh 432).1
  have n432 : (μ.2.1 432).2.1 = 2854 := by rw [g.sh]; exact (hE.sh 432).2.1
  refine q_xald rfl (Or.inl rfl) k432 n432 (by omega) (by omega) ?_
  have k406 : (μ.2.1 406).1 = 16 := by rw [g.sh]; exact (hE.sh 406).1
  have n406 : (μ.2.1 406).2.1 = 1427 := by rw [g.sh]; exact (hE.sh 406).2.1
  refine q_iast rfl k406 n406 (by omega) (by omega) ?_
  have en : (((1427 : Int32) * w1) + w2).toInt.toNat = 1427 + w2.toInt.toNat := by omega
  rw [en]
  have hh : dx_in (dx_seg (dx_ce 406).iv w2.toInt.toNat) (μ.2.2.1 432 (1427 + w2.toInt.toNat)).toInt := by rw [← (hi32 w2.toInt.toNat (by omega)).2]; exact g.hi 432 _
  exact hk _ _ ν [] (dw_si μ 406 w2.toInt.toNat (μ.2.2.1 432 (1427 + w2.toInt.toNat))) (List.Mem.head _) (post_mk g rfl (up_hi g.hi hh) (up_fr (List.Mem.head _)) (by decide) (by decide) (fun _ _ => rfl) ⟨(show (0 : Int) ≤ ν 0 ∧ ν 0 ≤ 0 from ⟨by omega, by omega⟩), (show (0 : Int) ≤ ν 1 ∧ ν 1 ≤ 1426 from ⟨by omega, by omega⟩), trivial⟩ trivial trivial rfl trivial ⟨⟨by decide, (show fl_P 16 (ν 1 + 1) (dw_si μ 406 w2.toInt.toNat (μ.2.2.1 432 (1427 + w2.toInt.toNat))).2.2.1 from fun j hj hx => by
      show dw_up μ.2.2.1 406 w2.toInt.toNat (μ.2.2.1 432 (1427 + w2.toInt.toNat)) 432 (1427 + j) = dw_up μ.2.2.1 406 w2.toInt.toNat (μ.2.2.1 432 (1427 + w2.toInt.toNat)) 406 j
      rw [up_ne (a' := 432) (Or.inl (by decide))]
      by_cases e : j = w2.toInt.toNat
      · rw [e, up_at]
      · rw [up_ne (Or.inr e)]; exact p0 j hj (by omega))⟩, trivial⟩)
set_option maxHeartbeats 2000000 in
theorem sp_waBetter {SH : dw_Sh} {TT : Nat → dw_T} {K : dw_K} (hE : (EE SH TT).ok) : dx_SOK (EE SH TT) (pr_X12_walk K) 162 sg_waBetter := by
  intro ν ls vs args rest μ bc bs hvs hargs hcat g hk
  obtain ⟨v0, v1, v2, rfl, e0, e1, e2⟩ := vs3 (f := fun i => ls[i]?) (a := 0) (b := 6) (c := 8) hvs
  obtain rfl := ar0 hargs
  obtain ⟨g0, g1, g2, -⟩ := g.gl
  rw [show v0 = some (.ref 404) from gV_th g0] at e0
  obtain ⟨-, w1, h1, q1⟩ := g1
  rw [h1] at e1
  obtain ⟨-, w2, h2, q2⟩ := g2
  rw [h2] at e2
  have p0 : fl_P 13 (ν 3 + 0) μ.2.2.1 := (g.fl _ (List.Mem.head _)).2
  have b1 : (0 : Int) ≤ ν 1 ∧ ν 1 ≤ 143 := g.iv 1 (by decide)
  have b2 : (0 : Int) ≤ ν 2 ∧ ν 2 ≤ 143 := g.iv 2 (by decide)
  have b3 : (-309237645312 : Int) ≤ ν 3 ∧ ν 3 ≤ 309237645312 := g.iv 3 (by decide)
  have z0 : ν 0 = 0 := g.z
  have cn : ν 3 + 0 = fl_sum (fun c => (μ.2.2.1 425 c).toInt) 144 := p0
  refine q_ald rfl e0 ?_
  have k404 : (μ.2.1 404).1 = 12 := by rw [g.sh]; exact (hE.sh 404).1
  have n404 : (μ.2.1 404).2.1 = 57 := by rw [g.sh]; exact (hE.sh 404).2.1
  have r404_45 : (μ.2.1 404).2.2 45 = some 425 := by rw [g.sh]; exact (hE.sh 404).2.2 45
  refine q_getr rfl k404 r404_45 ?_
  refine q_ild rfl e1 ?_
  have k425 : (μ.2.1 425).1 = 16 := by rw [g.sh]; exact (hE.sh 425).1
  have n425 : (μ.2.1 425).2.1 = 144 := by rw [g.sh]; exact (hE.sh 425).2.1
  refine q_xald rfl (Or.inl rfl) k425 n425 (by omega) (by omega) ?_
  refine q_ald rfl e0 ?_
  have r404_29 : (μ.2.1 404).2.2 29 = some 417 := by rw [g.sh]; exact (hE.sh 404).2.2 29
  refine q_getr rfl k404 r404_29 ?_
  refine q_ild rfl e2 ?_
  have k417 : (μ.2.1 417).1 = 16 := by rw [g.sh]; exact (hE.sh 417).1
  have n417 : (μ.2.1 417).2.1 = 144 := by rw [g.sh]; exact (hE.sh 417).2.1
  refine q_xald rfl (Or.inl rfl) k417 n417 (by omega) (by omega) ?_
  refine q_add rfl ?_
  refine q_ald rfl e0 ?_
  refine q_getr rfl k404 r404_45 ?_
  refine q_ild rfl e2 ?_
  refine q_xald rfl (Or.inl rfl) k425 n425 (by omega) (by omega) ?_
  refine q_icmp (c := 2) rfl (by decide) (fun hc => ?_) (fun hc => ?_)
  · have hc1 : ((μ.2.2.1 425 (w1).toInt.toNat) + (μ.2.2.1 417 (w2).toInt.toNat)).toInt < (μ.2.2.1 425 (w2).toInt.toNat).toInt := hc
    refine q_ald rfl e0 ?_
    refine q_getr rfl k404 r404_45 ?_
    refine q_ild rfl e2 ?_
    refine q_ald rfl e0 ?_
    refine q_getr rfl k404 r404_45 ?_
    refine q_ild rfl e1 ?_
    refine q_xald rfl (Or.inl rfl) k425 n425 (by omega) (by omega) ?_
    refine q_ald rfl e0 ?_
    refine q_getr rfl k404 r404_29 ?_
    refine q_ild rfl e2 ?_
    refine q_xald rfl (Or.inl rfl) k417 n417 (by omega) (by omega) ?_
    refine q_add rfl ?_
    refine q_iast rfl k425 n425 (by omega) (by omega) ?_
    generalize hv : ((μ.2.2.1 425 (w1).toInt.toNat) + (μ.2.2.1 417 (w2).toInt.toNat)) = v at *
    have hs := fl_sum_up (f := fun c => (μ.2.2.1 425 c).toInt) (g := fun c => ((dw_up μ.2.2.1 425 w2.toInt.toNat v) 425 c).toInt) (m := w2.toInt.toNat) (d := v.toInt - (μ.2.2.1 425 (w2).toInt.toNat).toInt) (by show ((dw_up μ.2.2.1 425 w2.toInt.toNat v) 425 w2.toInt.toNat).toInt = _; rw [up_at]; omega) (fun c hc => by show ((dw_up μ.2.2.1 425 w2.toInt.toNat v) 425 c).toInt = _; rw [up_ne (Or.inr hc)]) 144
    rw [if_pos (by omega)] at hs
    have hl := fl_sum_le (f := fun c => ((dw_up μ.2.2.1 425 w2.toInt.toNat v) 425 c).toInt) (l := -2147483648) (u := 2147483647) 144 (fun c _ => ⟨dx_b1 _, dx_b2 _⟩)
    obtain ⟨ν', hag, hn0⟩ := nu1 ν 4 (fl_sum (fun c => ((dw_up μ.2.2.1 425 w2.toInt.toNat v) 425 c).toInt) 144)
    have a0 : ν' 0 = ν 0 := hag 0 (by decide)
    have a1 : ν' 1 = ν 1 := hag 1 (by decide)
    have a2 : ν' 2 = ν 2 := hag 2 (by decide)
    have a3 : ν' 3 = ν 3 := hag 3 (by decide)
    exact hk _ _ ν' [] (dw_si μ 425 w2.toInt.toNat v) (List.Mem.tail _ (List.Mem.head _)) (post_mk g rfl (up_hi g.hi (hi425 _ (by omega) _)) (up_fr (List.Mem.head _)) (by decide) (by decide) hag ⟨(show (0 : Int) ≤ ν' 0 ∧ ν' 0 ≤ 0 from ⟨by omega, by omega⟩), (show (0 : Int) ≤ ν' 1 ∧ ν' 1 ≤ 143 from ⟨by omega, by omega⟩), (show (0 : Int) ≤ ν' 2 ∧ ν' 2 ≤ 143 from ⟨by omega, by omega⟩), (show (-309237645312 : Int) ≤ ν' 3 ∧ ν' 3 ≤ 309237645312 from ⟨by omega, by omega⟩), (show (-309237645312 : Int) ≤ ν' 4 ∧ ν' 4 ≤ 309237645312 from ⟨by omega, by omega⟩), trivial⟩ ⟨⟨by decide, by decide, (show ν' 4 - ν' 3 ≤ (-1) from by omega)⟩, trivial⟩ trivial rfl trivial ⟨⟨by decide, (show fl_P 13 (ν' 4 + 0) (dw_si μ 425 w2.toInt.toNat v).2.2.1 from by show ν' 4 + 0 = fl_sum (fun c => ((dw_up μ.2.2.1 425 w2.toInt.toNat v) 425 c).toInt) 144; omega)⟩, trivial⟩)
  · exact hk _ _ ν [] (μ) (List.Mem.head _) (post_mk g rfl g.hi (fun _ _ => ⟨rfl, rfl⟩) (by decide) (by decide) (fun _ _ => rfl) ⟨(show (0 : Int) ≤ ν 0 ∧ ν 0 ≤ 0 from ⟨by omega, by omega⟩), (show (0 : Int) ≤ ν 1 ∧ ν 1 ≤ 143 from ⟨by omega, by omega⟩), (show (0 : Int) ≤ ν 2 ∧ ν 2 ≤ 143 from ⟨by omega, by omega⟩), (show (-309237645312 : Int) ≤ ν 3 ∧ ν 3 ≤ 309237645312 from ⟨by omega, by omega⟩), trivial⟩ trivial trivial rfl trivial ⟨⟨by decide, (show fl_P 13 (ν 3 + 0) (μ).2.2.1 from p0)⟩, trivial⟩)
set_option maxHeartbeats 2000000 in
theorem sp_st13_3 {SH : dw_Sh} {TT : Nat → dw_T} {K : dw_K} (hE : (EE SH TT).ok) : dx_SOK (EE SH TT) (pr_X9_says K) 13 sg_st13_3 := by
  intro ν ls vs args rest μ bc bs hvs hargs hcat g hk
  obtain rfl := vs0 (f := fun i => ls[i]?) hvs
  obtain ⟨x0, rfl⟩ := ar1 hargs
  obtain ⟨g0, -⟩ := g.gl
  obtain rfl : x0 = .ref 1000004 := Option.some.inj (gV_th g0)
  have z0 : ν 0 = 0 := g.z
  have hs : dw_isS 1000004 := isS 3 (by decide)
  have hc : dw_cats rest ≤ 8 := by omega
  refine q_callT1 rfl hs hc (t_length hs ?_)
  rw [show Int32.ofNat (dw_sb (dw_sx 1000004)).length = 3 from by decide +kernel]
  exact hk _ _ ν [.int 3] (μ) (List.Mem.head _) (post_mk g rfl g.hi (fun _ _ => ⟨rfl, rfl⟩) (by decide) (by decide) (fun _ _ => rfl) ⟨(show (0 : Int) ≤ ν 0 ∧ ν 0 ≤ 0 from ⟨by omega, by omega⟩), trivial⟩ trivial ⟨⟨by decide, 3, rfl, by rw [z0]; rfl⟩, trivial⟩ rfl trivial trivial)
set_option maxHeartbeats 2000000 in
theorem sp_st13_8 {SH : dw_Sh} {TT : Nat → dw_T} {K : dw_K} (hE : (EE SH TT).ok) : dx_SOK (EE SH TT) (pr_X9_says K) 13 sg_st13_8 := by
  intro ν ls vs args rest μ bc bs hvs hargs hcat g hk
  obtain rfl := vs0 (f := fun i => ls[i]?) hvs
  obtain ⟨x0, rfl⟩ := ar1 hargs
  obtain ⟨g0, -⟩ := g.gl
  obtain rfl : x0 = .ref 1000009 := Option.some.inj (gV_th g0)
  have z0 : ν 0 = 0 := g.z
  have hs : dw_isS 1000009 := isS 8 (by decide)
  have hc : dw_cats rest ≤ 8 := by omega
  refine q_callT1 rfl hs hc (t_length hs ?_)
  rw [show Int32.ofNat (dw_sb (dw_sx 1000009)).length = 3 from by decide +kernel]
  exact hk _ _ ν [.int 3] (μ) (List.Mem.head _) (post_mk g rfl g.hi (fun _ _ => ⟨rfl, rfl⟩) (by decide) (by decide) (fun _ _ => rfl) ⟨(show (0 : Int) ≤ ν 0 ∧ ν 0 ≤ 0 from ⟨by omega, by omega⟩), trivial⟩ trivial ⟨⟨by decide, 3, rfl, by rw [z0]; rfl⟩, trivial⟩ rfl trivial trivial)
set_option maxHeartbeats 2000000 in
theorem sp_st13_13 {SH : dw_Sh} {TT : Nat → dw_T} {K : dw_K} (hE : (EE SH TT).ok) : dx_SOK (EE SH TT) (pr_X9_says K) 13 sg_st13_13 := by
  intro ν ls vs args rest μ bc bs hvs hargs hcat g hk
  obtain rfl := vs0 (f := fun i => ls[i]?) hvs
  obtain ⟨x0, rfl⟩ := ar1 hargs
  obtain ⟨g0, -⟩ := g.gl
  obtain rfl : x0 = .ref 1000014 := Option.some.inj (gV_th g0)
  have z0 : ν 0 = 0 := g.z
  have hs : dw_isS 1000014 := isS 13 (by decide)
  have hc : dw_cats rest ≤ 8 := by omega
  refine q_callT1 rfl hs hc (t_length hs ?_)
  rw [show Int32.ofNat (dw_sb (dw_sx 1000014)).length = 4 from by decide +kernel]
  exact hk _ _ ν [.int 4] (μ) (List.Mem.head _) (post_mk g rfl g.hi (fun _ _ => ⟨rfl, rfl⟩) (by decide) (by decide) (fun _ _ => rfl) ⟨(show (0 : Int) ≤ ν 0 ∧ ν 0 ≤ 0 from ⟨by omega, by omega⟩), trivial⟩ trivial ⟨⟨by decide, 4, rfl, by rw [z0]; rfl⟩, trivial⟩ rfl trivial trivial)
set_option maxHeartbeats 2000000 in
theorem sp_st13_18 {SH : dw_Sh} {TT : Nat → dw_T} {K : dw_K} (hE : (EE SH TT).ok) : dx_SOK (EE SH TT) (pr_X9_says K) 13 sg_st13_18 := by
  intro ν ls vs args rest μ bc bs hvs hargs hcat g hk
  obtain rfl := vs0 (f := fun i => ls[i]?) hvs
  obtain ⟨x0, rfl⟩ := ar1 hargs
  obtain ⟨g0, -⟩ := g.gl
  obtain rfl : x0 = .ref 1000019 := Option.some.inj (gV_th g0)
  have z0 : ν 0 = 0 := g.z
  have hs : dw_isS 1000019 := isS 18 (by decide)
  have hc : dw_cats rest ≤ 8 := by omega
  refine q_callT1 rfl hs hc (t_length hs ?_)
  rw [show Int32.ofNat (dw_sb (dw_sx 1000019)).length = 5 from by decide +kernel]
  exact hk _ _ ν [.int 5] (μ) (List.Mem.head _) (post_mk g rfl g.hi (fun _ _ => ⟨rfl, rfl⟩) (by decide) (by decide) (fun _ _ => rfl) ⟨(show (0 : Int) ≤ ν 0 ∧ ν 0 ≤ 0 from ⟨by omega, by omega⟩), trivial⟩ trivial ⟨⟨by decide, 5, rfl, by rw [z0]; rfl⟩, trivial⟩ rfl trivial trivial)
set_option maxHeartbeats 2000000 in
theorem sp_st13_23 {SH : dw_Sh} {TT : Nat → dw_T} {K : dw_K} (hE : (EE SH TT).ok) : dx_SOK (EE SH TT) (pr_X9_says K) 13 sg_st13_23 := by
  intro ν ls vs args rest μ bc bs hvs hargs hcat g hk
  obtain rfl := vs0 (f := fun i => ls[i]?) hvs
  obtain ⟨x0, rfl⟩ := ar1 hargs
  obtain ⟨g0, -⟩ := g.gl
  obtain rfl : x0 = .ref 1000024 := Option.some.inj (gV_th g0)
  have z0 : ν 0 = 0 := g.z
  have hs : dw_isS 1000024 := isS 23 (by decide)
  have hc : dw_cats rest ≤ 8 := by omega
  refine q_callT1 rfl hs hc (t_length hs ?_)
  rw [show Int32.ofNat (dw_sb (dw_sx 1000024)).length = 4 from by decide +kernel]
  exact hk _ _ ν [.int 4] (μ) (List.Mem.head _) (post_mk g rfl g.hi (fun _ _ => ⟨rfl, rfl⟩) (by decide) (by decide) (fun _ _ => rfl) ⟨(show (0 : Int) ≤ ν 0 ∧ ν 0 ≤ 0 from ⟨by omega, by omega⟩), trivial⟩ trivial ⟨⟨by decide, 4, rfl, by rw [z0]; rfl⟩, trivial⟩ rfl trivial trivial)
set_option maxHeartbeats 2000000 in
theorem sp_st25_2 {SH : dw_Sh} {TT : Nat → dw_T} {K : dw_K} (hE : (EE SH TT).ok) : dx_SOK (EE SH TT) (pr_X9_says K) 25 sg_st25_2 := by
  intro ν ls vs args rest μ bc bs hvs hargs hcat g hk
  obtain rfl := vs0 (f := fun i => ls[i]?) hvs
  obtain ⟨x0, rfl⟩ := ar1 hargs
  obtain ⟨g0, -⟩ := g.gl
  obtain rfl : x0 = .ref 1000003 := Option.some.inj (gV_th g0)
  have z0 : ν 0 = 0 := g.z
  have hs : dw_isS 1000003 := isS 2 (by decide)
  have hc : dw_cats rest ≤ 8 := by omega
  refine q_callT1 rfl hs hc (t_length hs ?_)
  rw [show Int32.ofNat (dw_sb (dw_sx 1000003)).length = 5 from by decide +kernel]
  exact hk _ _ ν [.int 5] (μ) (List.Mem.head _) (post_mk g rfl g.hi (fun _ _ => ⟨rfl, rfl⟩) (by decide) (by decide) (fun _ _ => rfl) ⟨(show (0 : Int) ≤ ν 0 ∧ ν 0 ≤ 0 from ⟨by omega, by omega⟩), trivial⟩ trivial ⟨⟨by decide, 5, rfl, by rw [z0]; rfl⟩, trivial⟩ rfl trivial trivial)
set_option maxHeartbeats 2000000 in
theorem sp_st25_7 {SH : dw_Sh} {TT : Nat → dw_T} {K : dw_K} (hE : (EE SH TT).ok) : dx_SOK (EE SH TT) (pr_X9_says K) 25 sg_st25_7 := by
  intro ν ls vs args rest μ bc bs hvs hargs hcat g hk
  obtain rfl := vs0 (f := fun i => ls[i]?) hvs
  obtain ⟨x0, rfl⟩ := ar1 hargs
  obtain ⟨g0, -⟩ := g.gl
  obtain rfl : x0 = .ref 1000008 := Option.some.inj (gV_th g0)
  have z0 : ν 0 = 0 := g.z
  have hs : dw_isS 1000008 := isS 7 (by decide)
  have hc : dw_cats rest ≤ 8 := by omega
  refine q_callT1 rfl hs hc (t_length hs ?_)
  rw [show Int32.ofNat (dw_sb (dw_sx 1000008)).length = 4 from by decide +kernel]
  exact hk _ _ ν [.int 4] (μ) (List.Mem.head _) (post_mk g rfl g.hi (fun _ _ => ⟨rfl, rfl⟩) (by decide) (by decide) (fun _ _ => rfl) ⟨(show (0 : Int) ≤ ν 0 ∧ ν 0 ≤ 0 from ⟨by omega, by omega⟩), trivial⟩ trivial ⟨⟨by decide, 4, rfl, by rw [z0]; rfl⟩, trivial⟩ rfl trivial trivial)
set_option maxHeartbeats 2000000 in
theorem sp_st25_12 {SH : dw_Sh} {TT : Nat → dw_T} {K : dw_K} (hE : (EE SH TT).ok) : dx_SOK (EE SH TT) (pr_X9_says K) 25 sg_st25_12 := by
  intro ν ls vs args rest μ bc bs hvs hargs hcat g hk
  obtain rfl := vs0 (f := fun i => ls[i]?) hvs
  obtain ⟨x0, rfl⟩ := ar1 hargs
  obtain ⟨g0, -⟩ := g.gl
  obtain rfl : x0 = .ref 1000013 := Option.some.inj (gV_th g0)
  have z0 : ν 0 = 0 := g.z
  have hs : dw_isS 1000013 := isS 12 (by decide)
  have hc : dw_cats rest ≤ 8 := by omega
  refine q_callT1 rfl hs hc (t_length hs ?_)
  rw [show Int32.ofNat (dw_sb (dw_sx 1000013)).length = 5 from by decide +kernel]
  exact hk _ _ ν [.int 5] (μ) (List.Mem.head _) (post_mk g rfl g.hi (fun _ _ => ⟨rfl, rfl⟩) (by decide) (by decide) (fun _ _ => rfl) ⟨(show (0 : Int) ≤ ν 0 ∧ ν 0 ≤ 0 from ⟨by omega, by omega⟩), trivial⟩ trivial ⟨⟨by decide, 5, rfl, by rw [z0]; rfl⟩, trivial⟩ rfl trivial trivial)
set_option maxHeartbeats 2000000 in
theorem sp_st25_17 {SH : dw_Sh} {TT : Nat → dw_T} {K : dw_K} (hE : (EE SH TT).ok) : dx_SOK (EE SH TT) (pr_X9_says K) 25 sg_st25_17 := by
  intro ν ls vs args rest μ bc bs hvs hargs hcat g hk
  obtain rfl := vs0 (f := fun i => ls[i]?) hvs
  obtain ⟨x0, rfl⟩ := ar1 hargs
  obtain ⟨g0, -⟩ := g.gl
  obtain rfl : x0 = .ref 1000018 := Option.some.inj (gV_th g0)
  have z0 : ν 0 = 0 := g.z
  have hs : dw_isS 1000018 := isS 17 (by decide)
  have hc : dw_cats rest ≤ 8 := by omega
  refine q_callT1 rfl hs hc (t_length hs ?_)
  rw [show Int32.ofNat (dw_sb (dw_sx 1000018)).length = 5 from by decide +kernel]
  exact hk _ _ ν [.int 5] (μ) (List.Mem.head _) (post_mk g rfl g.hi (fun _ _ => ⟨rfl, rfl⟩) (by decide) (by decide) (fun _ _ => rfl) ⟨(show (0 : Int) ≤ ν 0 ∧ ν 0 ≤ 0 from ⟨by omega, by omega⟩), trivial⟩ trivial ⟨⟨by decide, 5, rfl, by rw [z0]; rfl⟩, trivial⟩ rfl trivial trivial)
set_option maxHeartbeats 2000000 in
theorem sp_st25_22 {SH : dw_Sh} {TT : Nat → dw_T} {K : dw_K} (hE : (EE SH TT).ok) : dx_SOK (EE SH TT) (pr_X9_says K) 25 sg_st25_22 := by
  intro ν ls vs args rest μ bc bs hvs hargs hcat g hk
  obtain rfl := vs0 (f := fun i => ls[i]?) hvs
  obtain ⟨x0, rfl⟩ := ar1 hargs
  obtain ⟨g0, -⟩ := g.gl
  obtain rfl : x0 = .ref 1000023 := Option.some.inj (gV_th g0)
  have z0 : ν 0 = 0 := g.z
  have hs : dw_isS 1000023 := isS 22 (by decide)
  have hc : dw_cats rest ≤ 8 := by omega
  refine q_callT1 rfl hs hc (t_length hs ?_)
  rw [show Int32.ofNat (dw_sb (dw_sx 1000023)).length = 2 from by decide +kernel]
  exact hk _ _ ν [.int 2] (μ) (List.Mem.head _) (post_mk g rfl g.hi (fun _ _ => ⟨rfl, rfl⟩) (by decide) (by decide) (fun _ _ => rfl) ⟨(show (0 : Int) ≤ ν 0 ∧ ν 0 ≤ 0 from ⟨by omega, by omega⟩), trivial⟩ trivial ⟨⟨by decide, 2, rfl, by rw [z0]; rfl⟩, trivial⟩ rfl trivial trivial)
set_option maxHeartbeats 2000000 in
theorem sp_st43_1 {SH : dw_Sh} {TT : Nat → dw_T} {K : dw_K} (hE : (EE SH TT).ok) : dx_SOK (EE SH TT) (pr_X9_says K) 43 sg_st43_1 := by
  intro ν ls vs args rest μ bc bs hvs hargs hcat g hk
  obtain rfl := vs0 (f := fun i => ls[i]?) hvs
  obtain ⟨x0, x1, rfl⟩ := ar2 hargs
  obtain ⟨g0, g1, -⟩ := g.gl
  obtain rfl : x0 = .ref 1000002 := Option.some.inj (gV_th g0)
  obtain ⟨-, w1, h1, q1⟩ := g1
  obtain rfl : x1 = .int w1 := Option.some.inj h1
  have b1 : (0 : Int) ≤ ν 1 ∧ ν 1 ≤ 3 := g.iv 1 (by decide)
  have z0 : ν 0 = 0 := g.z
  have hs : dw_isS 1000002 := isS 1 (by decide)
  have hc : dw_cats rest ≤ 8 := by omega
  have hn : (dw_sb (dw_sx 1000002)).length = 4 := by decide +kernel
  refine q_callT2 rfl hs hc (t_charAt hs (by omega) (by rw [hn]; omega) (by decide +kernel) (fun w l1 l2 => ?_))
  obtain ⟨ν', hag, hn0⟩ := nu1 ν 2 (w.toInt)
  have a0 : ν' 0 = ν 0 := hag 0 (by decide)
  have a1 : ν' 1 = ν 1 := hag 1 (by decide)
  exact hk _ _ ν' [.int w] (μ) (List.Mem.head _) (post_mk g rfl g.hi (fun _ _ => ⟨rfl, rfl⟩) (by decide) (by decide) hag ⟨(show (0 : Int) ≤ ν' 0 ∧ ν' 0 ≤ 0 from ⟨by omega, by omega⟩), (show (0 : Int) ≤ ν' 1 ∧ ν' 1 ≤ 3 from ⟨by omega, by omega⟩), (show (0 : Int) ≤ ν' 2 ∧ ν' 2 ≤ 65535 from ⟨by omega, by omega⟩), trivial⟩ trivial ⟨⟨by decide, w, rfl, by show _ = ν' 2 + 0; omega⟩, trivial⟩ rfl trivial trivial)
set_option maxHeartbeats 2000000 in
theorem sp_st43_6 {SH : dw_Sh} {TT : Nat → dw_T} {K : dw_K} (hE : (EE SH TT).ok) : dx_SOK (EE SH TT) (pr_X9_says K) 43 sg_st43_6 := by
  intro ν ls vs args rest μ bc bs hvs hargs hcat g hk
  obtain rfl := vs0 (f := fun i => ls[i]?) hvs
  obtain ⟨x0, x1, rfl⟩ := ar2 hargs
  obtain ⟨g0, g1, -⟩ := g.gl
  obtain rfl : x0 = .ref 1000007 := Option.some.inj (gV_th g0)
  obtain ⟨-, w1, h1, q1⟩ := g1
  obtain rfl : x1 = .int w1 := Option.some.inj h1
  have b1 : (0 : Int) ≤ ν 1 ∧ ν 1 ≤ 4 := g.iv 1 (by decide)
  have z0 : ν 0 = 0 := g.z
  have hs : dw_isS 1000007 := isS 6 (by decide)
  have hc : dw_cats rest ≤ 8 := by omega
  have hn : (dw_sb (dw_sx 1000007)).length = 5 := by decide +kernel
  refine q_callT2 rfl hs hc (t_charAt hs (by omega) (by rw [hn]; omega) (by decide +kernel) (fun w l1 l2 => ?_))
  obtain ⟨ν', hag, hn0⟩ := nu1 ν 2 (w.toInt)
  have a0 : ν' 0 = ν 0 := hag 0 (by decide)
  have a1 : ν' 1 = ν 1 := hag 1 (by decide)
  exact hk _ _ ν' [.int w] (μ) (List.Mem.head _) (post_mk g rfl g.hi (fun _ _ => ⟨rfl, rfl⟩) (by decide) (by decide) hag ⟨(show (0 : Int) ≤ ν' 0 ∧ ν' 0 ≤ 0 from ⟨by omega, by omega⟩), (show (0 : Int) ≤ ν' 1 ∧ ν' 1 ≤ 4 from ⟨by omega, by omega⟩), (show (0 : Int) ≤ ν' 2 ∧ ν' 2 ≤ 65535 from ⟨by omega, by omega⟩), trivial⟩ trivial ⟨⟨by decide, w, rfl, by show _ = ν' 2 + 0; omega⟩, trivial⟩ rfl trivial trivial)
set_option maxHeartbeats 2000000 in
theorem sp_st43_11 {SH : dw_Sh} {TT : Nat → dw_T} {K : dw_K} (hE : (EE SH TT).ok) : dx_SOK (EE SH TT) (pr_X9_says K) 43 sg_st43_11 := by
  intro ν ls vs args rest μ bc bs hvs hargs hcat g hk
  obtain rfl := vs0 (f := fun i => ls[i]?) hvs
  obtain ⟨x0, x1, rfl⟩ := ar2 hargs
  obtain ⟨g0, g1, -⟩ := g.gl
  obtain rfl : x0 = .ref 1000012 := Option.some.inj (gV_th g0)
  obtain ⟨-, w1, h1, q1⟩ := g1
  obtain rfl : x1 = .int w1 := Option.some.inj h1
  have b1 : (0 : Int) ≤ ν 1 ∧ ν 1 ≤ 3 := g.iv 1 (by decide)
  have z0 : ν 0 = 0 := g.z
  have hs : dw_isS 1000012 := isS 11 (by decide)
  have hc : dw_cats rest ≤ 8 := by omega
  have hn : (dw_sb (dw_sx 1000012)).length = 4 := by decide +kernel
  refine q_callT2 rfl hs hc (t_charAt hs (by omega) (by rw [hn]; omega) (by decide +kernel) (fun w l1 l2 => ?_))
  obtain ⟨ν', hag, hn0⟩ := nu1 ν 2 (w.toInt)
  have a0 : ν' 0 = ν 0 := hag 0 (by decide)
  have a1 : ν' 1 = ν 1 := hag 1 (by decide)
  exact hk _ _ ν' [.int w] (μ) (List.Mem.head _) (post_mk g rfl g.hi (fun _ _ => ⟨rfl, rfl⟩) (by decide) (by decide) hag ⟨(show (0 : Int) ≤ ν' 0 ∧ ν' 0 ≤ 0 from ⟨by omega, by omega⟩), (show (0 : Int) ≤ ν' 1 ∧ ν' 1 ≤ 3 from ⟨by omega, by omega⟩), (show (0 : Int) ≤ ν' 2 ∧ ν' 2 ≤ 65535 from ⟨by omega, by omega⟩), trivial⟩ trivial ⟨⟨by decide, w, rfl, by show _ = ν' 2 + 0; omega⟩, trivial⟩ rfl trivial trivial)
set_option maxHeartbeats 2000000 in
theorem sp_st43_16 {SH : dw_Sh} {TT : Nat → dw_T} {K : dw_K} (hE : (EE SH TT).ok) : dx_SOK (EE SH TT) (pr_X9_says K) 43 sg_st43_16 := by
  intro ν ls vs args rest μ bc bs hvs hargs hcat g hk
  obtain rfl := vs0 (f := fun i => ls[i]?) hvs
  obtain ⟨x0, x1, rfl⟩ := ar2 hargs
  obtain ⟨g0, g1, -⟩ := g.gl
  obtain rfl : x0 = .ref 1000017 := Option.some.inj (gV_th g0)
  obtain ⟨-, w1, h1, q1⟩ := g1
  obtain rfl : x1 = .int w1 := Option.some.inj h1
  have b1 : (0 : Int) ≤ ν 1 ∧ ν 1 ≤ 4 := g.iv 1 (by decide)
  have z0 : ν 0 = 0 := g.z
  have hs : dw_isS 1000017 := isS 16 (by decide)
  have hc : dw_cats rest ≤ 8 := by omega
  have hn : (dw_sb (dw_sx 1000017)).length = 5 := by decide +kernel
  refine q_callT2 rfl hs hc (t_charAt hs (by omega) (by rw [hn]; omega) (by decide +kernel) (fun w l1 l2 => ?_))
  obtain ⟨ν', hag, hn0⟩ := nu1 ν 2 (w.toInt)
  have a0 : ν' 0 = ν 0 := hag 0 (by decide)
  have a1 : ν' 1 = ν 1 := hag 1 (by decide)
  exact hk _ _ ν' [.int w] (μ) (List.Mem.head _) (post_mk g rfl g.hi (fun _ _ => ⟨rfl, rfl⟩) (by decide) (by decide) hag ⟨(show (0 : Int) ≤ ν' 0 ∧ ν' 0 ≤ 0 from ⟨by omega, by omega⟩), (show (0 : Int) ≤ ν' 1 ∧ ν' 1 ≤ 4 from ⟨by omega, by omega⟩), (show (0 : Int) ≤ ν' 2 ∧ ν' 2 ≤ 65535 from ⟨by omega, by omega⟩), trivial⟩ trivial ⟨⟨by decide, w, rfl, by show _ = ν' 2 + 0; omega⟩, trivial⟩ rfl trivial trivial)
set_option maxHeartbeats 2000000 in
theorem sp_st43_21 {SH : dw_Sh} {TT : Nat → dw_T} {K : dw_K} (hE : (EE SH TT).ok) : dx_SOK (EE SH TT) (pr_X9_says K) 43 sg_st43_21 := by
  intro ν ls vs args rest μ bc bs hvs hargs hcat g hk
  obtain rfl := vs0 (f := fun i => ls[i]?) hvs
  obtain ⟨x0, x1, rfl⟩ := ar2 hargs
  obtain ⟨g0, g1, -⟩ := g.gl
  obtain rfl : x0 = .ref 1000022 := Option.some.inj (gV_th g0)
  obtain ⟨-, w1, h1, q1⟩ := g1
  obtain rfl : x1 = .int w1 := Option.some.inj h1
  have b1 : (0 : Int) ≤ ν 1 ∧ ν 1 ≤ 2 := g.iv 1 (by decide)
  have z0 : ν 0 = 0 := g.z
  have hs : dw_isS 1000022 := isS 21 (by decide)
  have hc : dw_cats rest ≤ 8 := by omega
  have hn : (dw_sb (dw_sx 1000022)).length = 3 := by decide +kernel
  refine q_callT2 rfl hs hc (t_charAt hs (by omega) (by rw [hn]; omega) (by decide +kernel) (fun w l1 l2 => ?_))
  obtain ⟨ν', hag, hn0⟩ := nu1 ν 2 (w.toInt)
  have a0 : ν' 0 = ν 0 := hag 0 (by decide)
  have a1 : ν' 1 = ν 1 := hag 1 (by decide)
  exact hk _ _ ν' [.int w] (μ) (List.Mem.head _) (post_mk g rfl g.hi (fun _ _ => ⟨rfl, rfl⟩) (by decide) (by decide) hag ⟨(show (0 : Int) ≤ ν' 0 ∧ ν' 0 ≤ 0 from ⟨by omega, by omega⟩), (show (0 : Int) ≤ ν' 1 ∧ ν' 1 ≤ 2 from ⟨by omega, by omega⟩), (show (0 : Int) ≤ ν' 2 ∧ ν' 2 ≤ 65535 from ⟨by omega, by omega⟩), trivial⟩ trivial ⟨⟨by decide, w, rfl, by show _ = ν' 2 + 0; omega⟩, trivial⟩ rfl trivial trivial)
set_option maxHeartbeats 2000000 in
theorem sp_rgStore {SH : dw_Sh} {TT : Nat → dw_T} {K : dw_K} (hE : (EE SH TT).ok) : dx_SOK (EE SH TT) (pr_X1_readRow K) 111 sg_rgStore := by
  intro ν ls vs args rest μ bc bs hvs hargs hcat g hk
  obtain ⟨v0, v1, v2, v3, rfl, e0, e1, e2, e3⟩ := vs4 (f := fun i => ls[i]?) (a := 0) (b := 3) (c := 4) (d := 5) hvs
  obtain rfl := ar0 hargs
  obtain ⟨g0, g1, g2, g3, -⟩ := g.gl
  rw [show v0 = some (.ref 101) from gV_th g0] at e0
  obtain ⟨-, w1, h1, q1⟩ := g1
  rw [h1] at e1
  obtain ⟨-, w2, h2, q2⟩ := g2
  rw [h2] at e2
  obtain ⟨-, w3, h3, q3⟩ := g3
  rw [h3] at e3
  have b1 : (0 : Int) ≤ ν 1 ∧ ν 1 ≤ 10340 := g.iv 1 (by decide)
  have b2 : (0 : Int) ≤ ν 2 ∧ ν 2 ≤ 939 := g.iv 2 (by decide)
  have b3 : (-2147483648 : Int) ≤ ν 3 ∧ ν 3 ≤ 2147483647 := g.iv 3 (by decide)
  have z0 : ν 0 = 0 := g.z
  have c144 : (144 : Int32).toInt = 144 := rfl
  refine q_ild rfl e1 ?_
  refine q_ild rfl e2 ?_
  refine q_add rfl ?_
  refine q_ic rfl ?_
  have t1 : (w1 + w2).toInt = w1.toInt + w2.toInt := i_add (by omega) (by omega)
  refine q_icmp (c := 2) rfl (by decide) (fun hc => ?_) (fun hc => ?_)
  · have hc1 : (w1 + w2).toInt < (144 : Int32).toInt := hc
    have k101 : (μ.2.1 101).1 = 1 := by rw [g.sh]; exact (hE.sh 101).1
    have n101 : (μ.2.1 101).2.1 = 5 := by rw [g.sh]; exact (hE.sh 101).2.1
    have r101_0 : (μ.2.1 101).2.2 0 = some 102 := by rw [g.sh]; exact (hE.sh 101).2.2 0
    have k102 : (μ.2.1 102).1 = 0 := by rw [g.sh]; exact (hE.sh 102).1
    have n102 : (μ.2.1 102).2.1 = 10 := by rw [g.sh]; exact (hE.sh 102).2.1
    have r102_8 : (μ.2.1 102).2.2 8 = some 106 := by rw [g.sh]; exact (hE.sh 102).2.2 8
    have k106 : (μ.2.1 106).1 = 16 := by rw [g.sh]; exact (hE.sh 106).1
    have n106 : (μ.2.1 106).2.1 = 144 := by rw [g.sh]; exact (hE.sh 106).2.1
    refine q_ald rfl e0 ?_
    refine q_getr rfl k101 r101_0 ?_
    refine q_getr rfl k102 r102_8 ?_
    refine q_ild rfl e1 ?_
    refine q_ild rfl e2 ?_
    refine q_add rfl ?_
    refine q_ild rfl e3 ?_
    refine q_iast rfl k106 n106 (by omega) (by omega) ?_
    exact hk _ _ ν [] (dw_si μ 106 (w1 + w2).toInt.toNat w3) (List.Mem.tail _ (List.Mem.head _)) (post_mk g rfl (up_hi g.hi (show dx_in (-2147483648, 2147483647) _ from ⟨dx_b1 _, dx_b2 _⟩)) (up_fr (List.Mem.head _)) (by decide) (by decide) (fun _ _ => rfl) ⟨(show (0 : Int) ≤ ν 0 ∧ ν 0 ≤ 0 from ⟨by omega, by omega⟩), (show (0 : Int) ≤ ν 1 ∧ ν 1 ≤ 10340 from ⟨by omega, by omega⟩), (show (0 : Int) ≤ ν 2 ∧ ν 2 ≤ 939 from ⟨by omega, by omega⟩), (show (-2147483648 : Int) ≤ ν 3 ∧ ν 3 ≤ 2147483647 from ⟨by omega, by omega⟩), trivial⟩ trivial trivial rfl trivial trivial)
  · exact hk _ _ ν [] (μ) (List.Mem.head _) (post_mk g rfl g.hi (fun _ _ => ⟨rfl, rfl⟩) (by decide) (by decide) (fun _ _ => rfl) ⟨(show (0 : Int) ≤ ν 0 ∧ ν 0 ≤ 0 from ⟨by omega, by omega⟩), (show (0 : Int) ≤ ν 1 ∧ ν 1 ≤ 10340 from ⟨by omega, by omega⟩), (show (0 : Int) ≤ ν 2 ∧ ν 2 ≤ 939 from ⟨by omega, by omega⟩), (show (-2147483648 : Int) ≤ ν 3 ∧ ν 3 ≤ 2147483647 from ⟨by omega, by omega⟩), trivial⟩ trivial trivial rfl trivial trivial)
