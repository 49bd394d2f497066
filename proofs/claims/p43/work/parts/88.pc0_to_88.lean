section
set_option maxHeartbeats 2000000 in
theorem sp_startKind {SH : dw_Sh} {TT : Nat → dw_T} {K : dw_K} (hE : (EE SH TT).ok) : dx_SOK (EE SH TT) (pr_X12_start K) 77 sg_startKind := by
  intro ν ls vs args rest μ bc bs hvs hargs hcat g hk
  obtain ⟨v0, v1, rfl, e0, e1⟩ := vs2 (f := fun i => ls[i]?) (a := 0) (b := 3) hvs
  obtain rfl := ar0 hargs
  obtain ⟨g0, g1, -⟩ := g.gl
  rw [show v0 = some (.ref 404) from gV_th g0] at e0
  obtain ⟨-, w1, h1, q1⟩ := g1
  rw [h1] at e1
  have f0 : (μ.2.2.1 406 0).toInt = ν 2 + 0 := (g.fa _ (List.Mem.head _)).2
  have p0 : fl_P 0 (ν 0 + 0) μ.2.2.1 := (g.fl _ (List.Mem.head _)).2
  have p1 : fl_P 5 (ν 3 + 0) μ.2.2.1 := (g.fl _ (List.Mem.tail _ (List.Mem.head _))).2
  have p2 : fl_P 4 (ν 1 + 0) μ.2.2.1 := (g.fl _ (List.Mem.tail _ (List.Mem.tail _ (List.Mem.head _)))).2
  have b1 : (0 : Int) ≤ ν 1 ∧ ν 1 ≤ 143 := g.iv 1 (by decide)
  have b2 : (1 : Int) ≤ ν 2 ∧ ν 2 ≤ 12 := g.iv 2 (by decide)
  have b3 : (0 : Int) ≤ ν 3 ∧ ν 3 ≤ 144 := g.iv 3 (by decide)
  have d0 : ν 1 - ν 3 ≤ (-1) := (g.dc _ (List.Mem.head _)).2.2
  have z0 : ν 0 = 0 := g.z
  refine q_ald rfl e0 ?_
  have k404 : (μ.2.1 404).1 = 12 := by rw [g.sh]; exact (hE.sh 404).1
  have n404 : (μ.2.1 404).2.1 = 57 := by rw [g.sh]; exact (hE.sh 404).2.1
  have r404_31 : (μ.2.1 404).2.2 31 = some 419 := by rw [g.sh]; exact (hE.sh 404).2.2 31
  refine q_getr rfl k404 r404_31 ?_
  refine q_ild rfl e1 ?_
  refine q_ald rfl e0 ?_
  have r404_6 : (μ.2.1 404).2.2 6 = some 406 := by rw [g.sh]; exact (hE.sh 404).2.2 6
  refine q_getr rfl k404 r404_6 ?_
  have cst29 : (29 : Int32).toInt = 29 := rfl
  refine q_ic rfl ?_
  refine q_ild rfl e1 ?_
  refine q_add rfl ?_
  have t1 : ((29 : Int32) + w1).toInt = ((29 : Int32)).toInt + (w1).toInt := i_add (by first | omega | (simp; omega)) (by first | omega | (simp; omega))
  have k406 : (μ.2.1 406).1 = 16 := by rw [g.sh]; exact (hE.sh 406).1
  have n406 : (μ.2.1 406).2.1 = 1427 := by rw [g.sh]; exact (hE.sh 406).2.1
  refine q_xald rfl (Or.inl rfl) k406 n406 (by omega) (by omega) ?_
  have k419 : (μ.2.1 419).1 = 16 := by rw [g.sh]; exact (hE.sh 419).1
  have n419 : (μ.2.1 419).2.1 = 144 := by rw [g.sh]; exact (hE.sh 419).2.1
  refine q_iast rfl k419 n419 (by omega) (by omega) ?_
  have w29 : ((29 : Int32) + w1).toInt.toNat = 29 + w1.toInt.toNat := by have e : (29 : Int32).toInt = 29 := rfl; omega
  have hv := g.hi 406 (29 + w1.toInt.toNat)
  rw [show dx_seg ((EE SH TT).ce 406).iv (29 + w1.toInt.toNat) = (0, 7) from hi406 _ (by omega)] at hv
  have hv1 : (0 : Int) ≤ (μ.2.2.1 406 (29 + w1.toInt.toNat)).toInt := hv.1
  have hv2 : (μ.2.2.1 406 (29 + w1.toInt.toNat)).toInt ≤ 7 := hv.2
  rw [w29]
  obtain ⟨u1, u2, u3⟩ := p0
  simp only [Nat.zero_add] at u1 u2 u3
  exact hk _ _ ν [] (dw_si μ 419 w1.toInt.toNat (μ.2.2.1 406 (29 + w1.toInt.toNat))) (List.Mem.head _) (post_mk g rfl (up_hi g.hi (by rw [show dx_seg ((EE SH TT).ce 419).iv w1.toInt.toNat = (0, 7) from hi419 _ (by omega)]; exact hv)) (up_fr (List.Mem.head _)) (by decide) (by decide) (fun _ _ => rfl) ⟨(show (0 : Int) ≤ ν 0 ∧ ν 0 ≤ 0 from ⟨by omega, by omega⟩), (show (0 : Int) ≤ ν 1 ∧ ν 1 ≤ 143 from ⟨by omega, by omega⟩), (show (1 : Int) ≤ ν 2 ∧ ν 2 ≤ 12 from ⟨by omega, by omega⟩), (show (0 : Int) ≤ ν 3 ∧ ν 3 ≤ 144 from ⟨by omega, by omega⟩), trivial⟩ trivial trivial rfl ⟨⟨by decide, (show ((dw_si μ 419 w1.toInt.toNat (μ.2.2.1 406 (29 + w1.toInt.toNat))).2.2.1 406 0).toInt = ν 2 + 0 from up_eq (Or.inl (by decide)) f0)⟩, trivial⟩ ⟨⟨by decide, (show fl_P 4 (ν 1 + 1) (dw_si μ 419 w1.toInt.toNat (μ.2.2.1 406 (29 + w1.toInt.toNat))).2.2.1 from fun c hc hx h1 h2 => by
      show 1 ≤ (dw_up μ.2.2.1 419 w1.toInt.toNat (μ.2.2.1 406 (29 + w1.toInt.toNat)) 406 (5 + (dw_up μ.2.2.1 419 w1.toInt.toNat (μ.2.2.1 406 (29 + w1.toInt.toNat)) 419 c).toInt.toNat)).toInt
      rw [up_ne (Or.inl (by decide))]
      by_cases e : c = w1.toInt.toNat
      · rw [e, up_at]
        have hn : (ν 3 + 0 : Int) = (μ.2.2.1 406 0).toInt * (μ.2.2.1 406 1).toInt := p1
        have hr : (μ.2.2.1 406 1).toInt ≠ 0 := by
          intro e0
          rw [e0, Int.mul_zero] at hn
          omega
        have hk1 := u3 hr
        have hcc := u2 w1.toInt.toNat (by omega)
        exact u1 (μ.2.2.1 406 (29 + w1.toInt.toNat)).toInt.toNat (by omega) (by omega)
      · have h1' : 0 ≤ (dw_up μ.2.2.1 419 w1.toInt.toNat (μ.2.2.1 406 (29 + w1.toInt.toNat)) 419 c).toInt := h1
        have h2' : (dw_up μ.2.2.1 419 w1.toInt.toNat (μ.2.2.1 406 (29 + w1.toInt.toNat)) 419 c).toInt < 8 := h2
        rw [up_ne (Or.inr e)] at h1' h2' ⊢
        exact p2 c hc (by omega) h1' h2')⟩, trivial⟩)
set_option maxHeartbeats 2000000 in
theorem sp_loadsKind1 {SH : dw_Sh} {TT : Nat → dw_T} {K : dw_K} (hE : (EE SH TT).ok) : dx_SOK (EE SH TT) (pr_X12_loads K) 53 sg_loadsKind1 := by
  intro ν ls vs args rest μ bc bs hvs hargs hcat g hk
  obtain ⟨v0, rfl, e0⟩ := vs1 (f := fun i => ls[i]?) (a := 0) hvs
  obtain rfl := ar0 hargs
  obtain ⟨g0, -⟩ := g.gl
  rw [show v0 = some (.ref 404) from gV_th g0] at e0
  have f0 : (μ.2.2.1 406 0).toInt = ν 1 + 0 := (g.fa _ (List.Mem.head _)).2
  have f1 : (μ.2.2.1 406 1).toInt = ν 2 + 0 := (g.fa _ (List.Mem.tail _ (List.Mem.head _))).2
  have b1 : (1 : Int) ≤ ν 1 ∧ ν 1 ≤ 12 := g.iv 1 (by decide)
  have b2 : (0 : Int) ≤ ν 2 ∧ ν 2 ≤ 12 := g.iv 2 (by decide)
  have z0 : ν 0 = 0 := g.z
  have cst0 : (0 : Int32).toInt = 0 := rfl
  refine q_ic rfl ?_
  have m1 := Int.mul_nonneg (a := (μ.2.2.1 406 0).toInt) (b := (μ.2.2.1 406 1).toInt) (by omega) (by omega)
  have m2 := Int.mul_le_mul (a := (μ.2.2.1 406 0).toInt) (b := (μ.2.2.1 406 1).toInt) (c := 12) (d := 12) (by omega) (by omega) (by omega) (by omega)
  obtain ⟨ν', hag, hn0⟩ := nu1 ν 3 ((μ.2.2.1 406 0).toInt * (μ.2.2.1 406 1).toInt)
  have a0 : ν' 0 = ν 0 := hag 0 (by decide)
  have a1 : ν' 1 = ν 1 := hag 1 (by decide)
  have a2 : ν' 2 = ν 2 := hag 2 (by decide)
  exact hk _ _ ν' [.int 0] (μ) (List.Mem.head _) (post_mk g rfl g.hi (fun _ _ => ⟨rfl, rfl⟩) (by decide) (by decide) hag ⟨(show (0 : Int) ≤ ν' 0 ∧ ν' 0 ≤ 0 from ⟨by omega, by omega⟩), (show (1 : Int) ≤ ν' 1 ∧ ν' 1 ≤ 12 from ⟨by omega, by omega⟩), (show (0 : Int) ≤ ν' 2 ∧ ν' 2 ≤ 12 from ⟨by omega, by omega⟩), (show (0 : Int) ≤ ν' 3 ∧ ν' 3 ≤ 144 from ⟨by omega, by omega⟩), trivial⟩ trivial ⟨⟨by decide, 0, rfl, by rw [a0, z0]; rfl⟩, trivial⟩ rfl trivial ⟨⟨by decide, (show fl_P 5 (ν' 3 + 0) (μ).2.2.1 from by show ν' 3 + 0 = (μ.2.2.1 406 0).toInt * (μ.2.2.1 406 1).toInt; omega)⟩, ⟨by decide, (show fl_P 4 (ν' 0 + 0) (μ).2.2.1 from fun c _ hc => absurd hc (by omega))⟩, trivial⟩)
set_option maxHeartbeats 2000000 in
theorem sp_gZero {SH : dw_Sh} {TT : Nat → dw_T} {K : dw_K} (hE : (EE SH TT).ok) : dx_SOK (EE SH TT) (pr_X12_ground K) 36 sg_gZero := by
  intro ν ls vs args rest μ bc bs hvs hargs hcat g hk
  obtain ⟨v0, v1, rfl, e0, e1⟩ := vs2 (f := fun i => ls[i]?) (a := 0) (b := 1) hvs
  obtain rfl := ar0 hargs
  obtain ⟨g0, g1, -⟩ := g.gl
  rw [show v0 = some (.ref 404) from gV_th g0] at e0
  obtain ⟨-, w1, h1, q1⟩ := g1
  rw [h1] at e1
  have p0 : fl_P 22 (ν 1 + 0) μ.2.2.1 := (g.fl _ (List.Mem.head _)).2
  have b1 : (0 : Int) ≤ ν 1 ∧ ν 1 ≤ 220 := g.iv 1 (by decide)
  have z0 : ν 0 = 0 := g.z
  refine q_ald rfl e0 ?_
  have k404 : (μ.2.1 404).1 = 12 := by rw [g.sh]; exact (hE.sh 404).1
  have n404 : (μ.2.1 404).2.1 = 57 := by rw [g.sh]; exact (hE.sh 404).2.1
  have r404_7 : (μ.2.1 404).2.2 7 = some 407 := by rw [g.sh]; exact (hE.sh 404).2.2 7
  refine q_getr rfl k404 r404_7 ?_
  refine q_ild rfl e1 ?_
  have cst0 : (0 : Int32).toInt = 0 := rfl
  refine q_ic rfl ?_
  have k407 : (μ.2.1 407).1 = 16 := by rw [g.sh]; exact (hE.sh 407).1
  have n407 : (μ.2.1 407).2.1 = 221 := by rw [g.sh]; exact (hE.sh 407).2.1
  refine q_iast rfl k407 n407 (by omega) (by omega) ?_
  exact hk _ _ ν [] (dw_si μ 407 w1.toInt.toNat 0) (List.Mem.head _) (post_mk g rfl (up_hi g.hi (hi407 w1.toInt.toNat (by omega))) (up_fr (List.Mem.head _)) (by decide) (by decide) (fun _ _ => rfl) ⟨(show (0 : Int) ≤ ν 0 ∧ ν 0 ≤ 0 from ⟨by omega, by omega⟩), (show (0 : Int) ≤ ν 1 ∧ ν 1 ≤ 220 from ⟨by omega, by omega⟩), trivial⟩ trivial trivial rfl trivial ⟨⟨by decide, (show fl_P 22 (ν 1 + 1) (dw_si μ 407 w1.toInt.toNat 0).2.2.1 from fun j hj hx => by
      show dw_up μ.2.2.1 407 w1.toInt.toNat 0 407 j = 0
      by_cases e : j = w1.toInt.toNat
      · rw [e, up_at]
      · rw [up_ne (Or.inr e)]; exact p0 j hj (by omega))⟩, trivial⟩)
set_option maxHeartbeats 2000000 in
theorem sp_rkHold {SH : dw_Sh} {TT : Nat → dw_T} {K : dw_K} (hE : (EE SH TT).ok) : dx_SOK (EE SH TT) (pr_X12_readKind K) 146 sg_rkHold := by
  intro ν ls vs args rest μ bc bs hvs hargs hcat g hk
  obtain ⟨v0, v1, rfl, e0, e1⟩ := vs2 (f := fun i => ls[i]?) (a := 0) (b := 1) hvs
  obtain rfl := ar0 hargs
  obtain ⟨g0, g1, -⟩ := g.gl
  rw [show v0 = some (.ref 404) from gV_th g0] at e0
  obtain ⟨-, w1, h1, q1⟩ := g1
  rw [h1] at e1
  have f0 : (μ.2.2.1 407 2).toInt = ν 1 + 0 := (g.fa _ (List.Mem.head _)).2
  have f1 : (μ.2.2.1 404 19).toInt = ν 2 + 0 := (g.fa _ (List.Mem.tail _ (List.Mem.head _))).2
  have f2 : (μ.2.2.1 407 0).toInt = ν 3 + 0 := (g.fa _ (List.Mem.tail _ (List.Mem.tail _ (List.Mem.head _)))).2
  have f3 : (μ.2.2.1 407 1).toInt = ν 4 + 0 := (g.fa _ (List.Mem.tail _ (List.Mem.tail _ (List.Mem.tail _ (List.Mem.head _))))).2
  have f4 : (μ.2.2.1 407 3).toInt = ν 5 + 0 := (g.fa _ (List.Mem.tail _ (List.Mem.tail _ (List.Mem.tail _ (List.Mem.tail _ (List.Mem.head _)))))).2
  have p0 : fl_P 1 (ν 0 + 0) μ.2.2.1 := (g.fl _ (List.Mem.head _)).2
  have b1 : (0 : Int) ≤ ν 1 ∧ ν 1 ≤ 7 := g.iv 1 (by decide)
  have b2 : (1 : Int) ≤ ν 2 ∧ ν 2 ≤ 50 := g.iv 2 (by decide)
  have b3 : (-2147483648 : Int) ≤ ν 3 ∧ ν 3 ≤ 2147483647 := g.iv 3 (by decide)
  have b4 : (0 : Int) ≤ ν 4 ∧ ν 4 ≤ 12 := g.iv 4 (by decide)
  have b5 : (-2147483648 : Int) ≤ ν 5 ∧ ν 5 ≤ 2147483647 := g.iv 5 (by decide)
  have z0 : ν 0 = 0 := g.z
  refine q_ald rfl e0 ?_
  have k404 : (μ.2.1 404).1 = 12 := by rw [g.sh]; exact (hE.sh 404).1
  have n404 : (μ.2.1 404).2.1 = 57 := by rw [g.sh]; exact (hE.sh 404).2.1
  have r404_7 : (μ.2.1 404).2.2 7 = some 407 := by rw [g.sh]; exact (hE.sh 404).2.2 7
  refine q_getr rfl k404 r404_7 ?_
  have cst5 : (5 : Int32).toInt = 5 := rfl
  refine q_ic rfl ?_
  refine q_ild rfl e1 ?_
  refine q_add rfl ?_
  have t1 : ((5 : Int32) + w1).toInt = ((5 : Int32)).toInt + (w1).toInt := i_add (by first | omega | (simp; omega)) (by first | omega | (simp; omega))
  refine q_ald rfl e0 ?_
  refine q_geti rfl k404 ?_
  have k407 : (μ.2.1 407).1 = 16 := by rw [g.sh]; exact (hE.sh 407).1
  have n407 : (μ.2.1 407).2.1 = 221 := by rw [g.sh]; exact (hE.sh 407).2.1
  refine q_iast rfl k407 n407 (by omega) (by omega) ?_
  have en : ((5 : Int32) + w1).toInt.toNat = 5 + w1.toInt.toNat := by omega
  rw [en]
  obtain ⟨u1, u2, u3⟩ := p0
  simp only [Nat.zero_add] at u1 u2 u3
  exact hk _ _ ν [] (dw_si μ 407 (5 + w1.toInt.toNat) (μ.2.2.1 404 19)) (List.Mem.head _) (post_mk g rfl (up_hi g.hi (by rw [show dx_seg ((EE SH TT).ce 407).iv (5 + w1.toInt.toNat) = (0, 50) from hi407h _ (by omega)]; exact (⟨by show (0 : Int) ≤ _; omega, by show _ ≤ (50 : Int); omega⟩ : dx_in (0, 50) (μ.2.2.1 404 19).toInt))) (up_fr (List.Mem.head _)) (by decide) (by decide) (fun _ _ => rfl) ⟨(show (0 : Int) ≤ ν 0 ∧ ν 0 ≤ 0 from ⟨by omega, by omega⟩), (show (0 : Int) ≤ ν 1 ∧ ν 1 ≤ 7 from ⟨by omega, by omega⟩), (show (1 : Int) ≤ ν 2 ∧ ν 2 ≤ 50 from ⟨by omega, by omega⟩), (show (-2147483648 : Int) ≤ ν 3 ∧ ν 3 ≤ 2147483647 from ⟨by omega, by omega⟩), (show (0 : Int) ≤ ν 4 ∧ ν 4 ≤ 12 from ⟨by omega, by omega⟩), (show (-2147483648 : Int) ≤ ν 5 ∧ ν 5 ≤ 2147483647 from ⟨by omega, by omega⟩), trivial⟩ trivial trivial rfl ⟨⟨by decide, (show ((dw_si μ 407 (5 + w1.toInt.toNat) (μ.2.2.1 404 19)).2.2.1 407 2).toInt = ν 1 + 0 from up_eq (Or.inr (by omega)) f0)⟩, ⟨by decide, (show ((dw_si μ 407 (5 + w1.toInt.toNat) (μ.2.2.1 404 19)).2.2.1 407 0).toInt = ν 3 + 0 from up_eq (Or.inr (by omega)) f2)⟩, ⟨by decide, (show ((dw_si μ 407 (5 + w1.toInt.toNat) (μ.2.2.1 404 19)).2.2.1 407 1).toInt = ν 4 + 0 from up_eq (Or.inr (by omega)) f3)⟩, ⟨by decide, (show ((dw_si μ 407 (5 + w1.toInt.toNat) (μ.2.2.1 404 19)).2.2.1 407 3).toInt = ν 5 + 0 from up_eq (Or.inr (by omega)) f4)⟩, trivial⟩ ⟨⟨by decide, (show fl_P 1 (ν 0 + 0) (dw_si μ 407 (5 + w1.toInt.toNat) (μ.2.2.1 404 19)).2.2.1 from ⟨fun k hk hx => by
        rw [Nat.zero_add] at hx ⊢
        have hx' : (k : Int) < (dw_up μ.2.2.1 407 (5 + w1.toInt.toNat) (μ.2.2.1 404 19) 407 2).toInt := hx
        rw [up_ne (a := 407) (a' := 407) (j := 5 + w1.toInt.toNat) (j' := 2) (Or.inr (by omega))] at hx'
        show 1 ≤ (dw_up μ.2.2.1 407 (5 + w1.toInt.toNat) (μ.2.2.1 404 19) 407 (5 + k)).toInt
        rw [up_ne (Or.inr (by omega))]
        exact u1 k hk hx', fun c hc => by
        rw [Nat.zero_add, Nat.zero_add]
        show (dw_up μ.2.2.1 407 (5 + w1.toInt.toNat) (μ.2.2.1 404 19) 407 (29 + c)).toInt = 0 ∨ (dw_up μ.2.2.1 407 (5 + w1.toInt.toNat) (μ.2.2.1 404 19) 407 (29 + c)).toInt < (dw_up μ.2.2.1 407 (5 + w1.toInt.toNat) (μ.2.2.1 404 19) 407 2).toInt
        rw [up_ne (j' := 29 + c) (Or.inr (by omega)), up_ne (a := 407) (a' := 407) (j := 5 + w1.toInt.toNat) (j' := 2) (Or.inr (by omega))]
        exact u2 c hc, fun hr => by
        rw [Nat.zero_add] at hr ⊢
        have hr' : (dw_up μ.2.2.1 407 (5 + w1.toInt.toNat) (μ.2.2.1 404 19) 407 1).toInt ≠ 0 := hr
        rw [up_ne (a := 407) (a' := 407) (j := 5 + w1.toInt.toNat) (j' := 1) (Or.inr (by omega))] at hr'
        show 1 ≤ (dw_up μ.2.2.1 407 (5 + w1.toInt.toNat) (μ.2.2.1 404 19) 407 2).toInt
        rw [up_ne (a := 407) (a' := 407) (j := 5 + w1.toInt.toNat) (j' := 2) (Or.inr (by omega))]
        exact u3 hr'⟩)⟩, ⟨by decide, (show fl_P 20 (ν 0 + 0) (dw_si μ 407 (5 + w1.toInt.toNat) (μ.2.2.1 404 19)).2.2.1 from fun h1 h2 => by
        have e : (dw_up μ.2.2.1 407 (5 + w1.toInt.toNat) (μ.2.2.1 404 19) 407 2).toInt.toNat = w1.toInt.toNat := by rw [up_ne (a := 407) (a' := 407) (j := 5 + w1.toInt.toNat) (j' := 2) (Or.inr (by omega))]; omega
        show 1 ≤ (dw_up μ.2.2.1 407 (5 + w1.toInt.toNat) (μ.2.2.1 404 19) 407 (5 + (dw_up μ.2.2.1 407 (5 + w1.toInt.toNat) (μ.2.2.1 404 19) 407 2).toInt.toNat)).toInt
        rw [e, up_at]
        omega)⟩, trivial⟩)
set_option maxHeartbeats 2000000 in
theorem sp_rrCount {SH : dw_Sh} {TT : Nat → dw_T} {K : dw_K} (hE : (EE SH TT).ok) : dx_SOK (EE SH TT) (pr_X12_readRow K) 173 sg_rrCount := by
  intro ν ls vs args rest μ bc bs hvs hargs hcat g hk
  obtain ⟨v0, rfl, e0⟩ := vs1 (f := fun i => ls[i]?) (a := 0) hvs
  obtain rfl := ar0 hargs
  obtain ⟨g0, -⟩ := g.gl
  rw [show v0 = some (.ref 404) from gV_th g0] at e0
  have f0 : (μ.2.2.1 407 1).toInt = ν 1 + 0 := (g.fa _ (List.Mem.head _)).2
  have f1 : (μ.2.2.1 404 13).toInt = ν 2 + 0 := (g.fa _ (List.Mem.tail _ (List.Mem.head _))).2
  have f2 : (μ.2.2.1 404 12).toInt = ν 3 + 0 := (g.fa _ (List.Mem.tail _ (List.Mem.tail _ (List.Mem.head _)))).2
  have f3 : (μ.2.2.1 404 11).toInt = ν 0 + 1 := (g.fa _ (List.Mem.tail _ (List.Mem.tail _ (List.Mem.tail _ (List.Mem.head _))))).2
  have f4 : (μ.2.2.1 407 2).toInt = ν 4 + 0 := (g.fa _ (List.Mem.tail _ (List.Mem.tail _ (List.Mem.tail _ (List.Mem.tail _ (List.Mem.head _)))))).2
  have f5 : (μ.2.2.1 407 0).toInt = ν 5 + 0 := (g.fa _ (List.Mem.tail _ (List.Mem.tail _ (List.Mem.tail _ (List.Mem.tail _ (List.Mem.tail _ (List.Mem.head _))))))).2
  have f6 : (μ.2.2.1 407 3).toInt = ν 6 + 0 := (g.fa _ (List.Mem.tail _ (List.Mem.tail _ (List.Mem.tail _ (List.Mem.tail _ (List.Mem.tail _ (List.Mem.tail _ (List.Mem.head _)))))))).2
  have p0 : fl_P 8 (ν 0 + 0) μ.2.2.1 := (g.fl _ (List.Mem.head _)).2
  have p1 : fl_P 9 (ν 7 + 0) μ.2.2.1 := (g.fl _ (List.Mem.tail _ (List.Mem.head _))).2
  have p2 : fl_P 1 (ν 0 + 0) μ.2.2.1 := (g.fl _ (List.Mem.tail _ (List.Mem.tail _ (List.Mem.head _)))).2
  have b1 : (0 : Int) ≤ ν 1 ∧ ν 1 ≤ 11 := g.iv 1 (by decide)
  have b2 : (1 : Int) ≤ ν 2 ∧ ν 2 ≤ 12 := g.iv 2 (by decide)
  have b3 : (0 : Int) ≤ ν 3 ∧ ν 3 ≤ 940 := g.iv 3 (by decide)
  have b4 : (0 : Int) ≤ ν 4 ∧ ν 4 ≤ 8 := g.iv 4 (by decide)
  have b5 : (0 : Int) ≤ ν 5 ∧ ν 5 ≤ 12 := g.iv 5 (by decide)
  have b6 : (-2147483648 : Int) ≤ ν 6 ∧ ν 6 ≤ 2147483647 := g.iv 6 (by decide)
  have b7 : (-2147483648 : Int) ≤ ν 7 ∧ ν 7 ≤ 2147483647 := g.iv 7 (by decide)
  have d0 : ν 2 - ν 7 ≤ 0 := (g.dc _ (List.Mem.head _)).2.2
  have z0 : ν 0 = 0 := g.z
  obtain ⟨l0, l1, l2⟩ := p0 (by omega)
  refine q_ald rfl e0 ?_
  have k404 : (μ.2.1 404).1 = 12 := by rw [g.sh]; exact (hE.sh 404).1
  have n404 : (μ.2.1 404).2.1 = 57 := by rw [g.sh]; exact (hE.sh 404).2.1
  have r404_7 : (μ.2.1 404).2.2 7 = some 407 := by rw [g.sh]; exact (hE.sh 404).2.2 7
  refine q_getr rfl k404 r404_7 ?_
  have cst1 : (1 : Int32).toInt = 1 := rfl
  refine q_ic rfl ?_
  refine q_dup2 rfl ?_
  have k407 : (μ.2.1 407).1 = 16 := by rw [g.sh]; exact (hE.sh 407).1
  have n407 : (μ.2.1 407).2.1 = 221 := by rw [g.sh]; exact (hE.sh 407).2.1
  refine q_xald rfl (Or.inl rfl) k407 n407 (by omega) (by omega) ?_
  refine q_ic rfl ?_
  refine q_add rfl ?_
  have t1 : ((μ.2.2.1 407 ((1 : Int32)).toInt.toNat) + (1 : Int32)).toInt = ((μ.2.2.1 407 ((1 : Int32)).toInt.toNat)).toInt + ((1 : Int32)).toInt := i_add (by first | omega | (simp; omega)) (by first | omega | (simp; omega))
  refine q_iast rfl k407 n407 (by omega) (by omega) ?_
  have c1n : ((1 : Int32)).toInt.toNat = 1 := rfl
  rw [c1n]
  have e1 : (1 : Int32).toInt = 1 := rfl
  have tk : ((μ.2.2.1 407 1) + (1 : Int32)).toInt = (μ.2.2.1 407 1).toInt + 1 := by rw [i_add (by omega) (by omega)]; omega
  have ho := l2 0 (by omega)
  have hk2 := p1 0 (by omega) (by omega)
  obtain ⟨u1, u2, u3⟩ := p2
  simp only [Nat.zero_add] at u1 u2 u3
  exact hk _ _ ν [] (dw_si μ 407 1 ((μ.2.2.1 407 1) + (1 : Int32))) (List.Mem.head _) (post_mk g rfl (up_hi g.hi (⟨by show (0 : Int) ≤ _; omega, by show _ ≤ (12 : Int); omega⟩ : dx_in (0, 12) (((μ.2.2.1 407 1) + (1 : Int32))).toInt)) (up_fr (List.Mem.head _)) (by decide) (by decide) (fun _ _ => rfl) ⟨(show (0 : Int) ≤ ν 0 ∧ ν 0 ≤ 0 from ⟨by omega, by omega⟩), (show (0 : Int) ≤ ν 1 ∧ ν 1 ≤ 11 from ⟨by omega, by omega⟩), (show (1 : Int) ≤ ν 2 ∧ ν 2 ≤ 12 from ⟨by omega, by omega⟩), (show (0 : Int) ≤ ν 3 ∧ ν 3 ≤ 940 from ⟨by omega, by omega⟩), (show (0 : Int) ≤ ν 4 ∧ ν 4 ≤ 8 from ⟨by omega, by omega⟩), (show (0 : Int) ≤ ν 5 ∧ ν 5 ≤ 12 from ⟨by omega, by omega⟩), (show (-2147483648 : Int) ≤ ν 6 ∧ ν 6 ≤ 2147483647 from ⟨by omega, by omega⟩), (show (-2147483648 : Int) ≤ ν 7 ∧ ν 7 ≤ 2147483647 from ⟨by omega, by omega⟩), trivial⟩ trivial trivial rfl ⟨⟨by decide, (show ((dw_si μ 407 1 ((μ.2.2.1 407 1) + (1 : Int32))).2.2.1 407 1).toInt = ν 1 + 1 from by show (dw_up μ.2.2.1 407 1 ((μ.2.2.1 407 1) + (1 : Int32)) 407 1).toInt = _; rw [up_at, tk]; omega)⟩, ⟨by decide, (show ((dw_si μ 407 1 ((μ.2.2.1 407 1) + (1 : Int32))).2.2.1 407 2).toInt = ν 4 + 0 from up_eq (Or.inr (by decide)) f4)⟩, ⟨by decide, (show ((dw_si μ 407 1 ((μ.2.2.1 407 1) + (1 : Int32))).2.2.1 407 0).toInt = ν 5 + 0 from up_eq (Or.inr (by decide)) f5)⟩, ⟨by decide, (show ((dw_si μ 407 1 ((μ.2.2.1 407 1) + (1 : Int32))).2.2.1 407 3).toInt = ν 6 + 0 from up_eq (Or.inr (by decide)) f6)⟩, trivial⟩ ⟨⟨by decide, (show fl_P 1 (ν 0 + 0) (dw_si μ 407 1 ((μ.2.2.1 407 1) + (1 : Int32))).2.2.1 from ⟨fun k hk hx => by
        rw [Nat.zero_add] at hx ⊢
        have hx' : (k : Int) < (dw_up μ.2.2.1 407 1 ((μ.2.2.1 407 1) + (1 : Int32)) 407 2).toInt := hx
        rw [up_ne (Or.inr (by decide))] at hx'
        show 1 ≤ (dw_up μ.2.2.1 407 1 ((μ.2.2.1 407 1) + (1 : Int32)) 407 (5 + k)).toInt
        rw [up_ne (Or.inr (by omega))]
        exact u1 k hk hx', fun c hc => by
        rw [Nat.zero_add, Nat.zero_add]
        show (dw_up μ.2.2.1 407 1 ((μ.2.2.1 407 1) + (1 : Int32)) 407 (29 + c)).toInt = 0 ∨ (dw_up μ.2.2.1 407 1 ((μ.2.2.1 407 1) + (1 : Int32)) 407 (29 + c)).toInt < (dw_up μ.2.2.1 407 1 ((μ.2.2.1 407 1) + (1 : Int32)) 407 2).toInt
        rw [up_ne (j' := 2) (Or.inr (by decide)), up_ne (Or.inr (by omega))]
        exact u2 c hc, fun _ => by
        rw [Nat.zero_add]
        show 1 ≤ (dw_up μ.2.2.1 407 1 ((μ.2.2.1 407 1) + (1 : Int32)) 407 2).toInt
        rw [up_ne (Or.inr (by decide))]
        omega⟩)⟩, trivial⟩)
set_option maxHeartbeats 2000000 in
theorem sp_nxTokE0 {SH : dw_Sh} {TT : Nat → dw_T} {K : dw_K} (hE : (EE SH TT).ok) : dx_SOK (EE SH TT) (pr_X12_next K) 334 sg_nxTokE0 := by
  intro ν ls vs args rest μ bc bs hvs hargs hcat g hk
  obtain rfl := vs0 (f := fun i => ls[i]?) hvs
  obtain ⟨x0, x1, rfl⟩ := ar2 hargs
  obtain ⟨g0, g1, -⟩ := g.gl
  obtain rfl : x0 = .ref 404 := Option.some.inj (gV_th g0)
  obtain ⟨-, w1, h1, q1⟩ := g1
  obtain rfl : x1 = .int w1 := Option.some.inj h1
  have f0 : (μ.2.2.1 404 4).toInt = ν 1 + 0 := (g.fa _ (List.Mem.head _)).2
  have f1 : (μ.2.2.1 404 13).toInt = ν 2 + 0 := (g.fa _ (List.Mem.tail _ (List.Mem.head _))).2
  have f2 : (μ.2.2.1 404 12).toInt = ν 3 + 0 := (g.fa _ (List.Mem.tail _ (List.Mem.tail _ (List.Mem.head _)))).2
  have f3 : (μ.2.2.1 404 2).toInt = ν 4 + 0 := (g.fa _ (List.Mem.tail _ (List.Mem.tail _ (List.Mem.tail _ (List.Mem.head _))))).2
  have f4 : (μ.2.2.1 404 3).toInt = ν 5 + 0 := (g.fa _ (List.Mem.tail _ (List.Mem.tail _ (List.Mem.tail _ (List.Mem.tail _ (List.Mem.head _)))))).2
  have f5 : (μ.2.2.1 404 14).toInt = ν 6 + 0 := (g.fa _ (List.Mem.tail _ (List.Mem.tail _ (List.Mem.tail _ (List.Mem.tail _ (List.Mem.tail _ (List.Mem.head _))))))).2
  have f6 : (μ.2.2.1 404 19).toInt = ν 7 + 0 := (g.fa _ (List.Mem.tail _ (List.Mem.tail _ (List.Mem.tail _ (List.Mem.tail _ (List.Mem.tail _ (List.Mem.tail _ (List.Mem.head _)))))))).2
  have f7 : (μ.2.2.1 404 21).toInt = ν 8 + 0 := (g.fa _ (List.Mem.tail _ (List.Mem.tail _ (List.Mem.tail _ (List.Mem.tail _ (List.Mem.tail _ (List.Mem.tail _ (List.Mem.tail _ (List.Mem.head _))))))))).2
  have f8 : (μ.2.2.1 404 22).toInt = ν 9 + 0 := (g.fa _ (List.Mem.tail _ (List.Mem.tail _ (List.Mem.tail _ (List.Mem.tail _ (List.Mem.tail _ (List.Mem.tail _ (List.Mem.tail _ (List.Mem.tail _ (List.Mem.head _)))))))))).2
  have b1 : (0 : Int) ≤ ν 1 ∧ ν 1 ≤ 940 := g.iv 1 (by decide)
  have b2 : (0 : Int) ≤ ν 2 ∧ ν 2 ≤ 940 := g.iv 2 (by decide)
  have b3 : (0 : Int) ≤ ν 3 ∧ ν 3 ≤ 940 := g.iv 3 (by decide)
  have b4 : (0 : Int) ≤ ν 4 ∧ ν 4 ≤ 940 := g.iv 4 (by decide)
  have b5 : (0 : Int) ≤ ν 5 ∧ ν 5 ≤ 940 := g.iv 5 (by decide)
  have b6 : (-2147483648 : Int) ≤ ν 6 ∧ ν 6 ≤ 2147483647 := g.iv 6 (by decide)
  have b7 : (-2147483648 : Int) ≤ ν 7 ∧ ν 7 ≤ 2147483647 := g.iv 7 (by decide)
  have b8 : (0 : Int) ≤ ν 8 ∧ ν 8 ≤ 30 := g.iv 8 (by decide)
  have b9 : (0 : Int) ≤ ν 9 ∧ ν 9 ≤ 1 := g.iv 9 (by decide)
  have z0 : ν 0 = 0 := g.z
  have k404 : (μ.2.1 404).1 = 12 := by rw [g.sh]; exact (hE.sh 404).1
  have n404 : (μ.2.1 404).2.1 = 57 := by rw [g.sh]; exact (hE.sh 404).2.1
  refine q_puti rfl k404 ?_
  exact hk _ _ ν [] (dw_si μ 404 11 w1) (List.Mem.head _) (post_mk g rfl (up_hi g.hi (⟨by show (0 : Int) ≤ _; omega, by show _ ≤ (4 : Int); omega⟩ : dx_in (0, 4) w1.toInt)) (up_fr (List.Mem.head _)) (by decide) (by decide) (fun _ _ => rfl) ⟨(show (0 : Int) ≤ ν 0 ∧ ν 0 ≤ 0 from ⟨by omega, by omega⟩), (show (0 : Int) ≤ ν 1 ∧ ν 1 ≤ 940 from ⟨by omega, by omega⟩), (show (0 : Int) ≤ ν 2 ∧ ν 2 ≤ 940 from ⟨by omega, by omega⟩), (show (0 : Int) ≤ ν 3 ∧ ν 3 ≤ 940 from ⟨by omega, by omega⟩), (show (0 : Int) ≤ ν 4 ∧ ν 4 ≤ 940 from ⟨by omega, by omega⟩), (show (0 : Int) ≤ ν 5 ∧ ν 5 ≤ 940 from ⟨by omega, by omega⟩), (show (-2147483648 : Int) ≤ ν 6 ∧ ν 6 ≤ 2147483647 from ⟨by omega, by omega⟩), (show (-2147483648 : Int) ≤ ν 7 ∧ ν 7 ≤ 2147483647 from ⟨by omega, by omega⟩), (show (0 : Int) ≤ ν 8 ∧ ν 8 ≤ 30 from ⟨by omega, by omega⟩), (show (0 : Int) ≤ ν 9 ∧ ν 9 ≤ 1 from ⟨by omega, by omega⟩), trivial⟩ trivial trivial rfl ⟨⟨by decide, (show ((dw_si μ 404 11 w1).2.2.1 404 4).toInt = ν 1 + 0 from (up_eq (Or.inr (by decide)) f0))⟩, ⟨by decide, (show ((dw_si μ 404 11 w1).2.2.1 404 13).toInt = ν 2 + 0 from (up_eq (Or.inr (by decide)) f1))⟩, ⟨by decide, (show ((dw_si μ 404 11 w1).2.2.1 404 12).toInt = ν 3 + 0 from (up_eq (Or.inr (by decide)) f2))⟩, ⟨by decide, (show ((dw_si μ 404 11 w1).2.2.1 404 2).toInt = ν 4 + 0 from (up_eq (Or.inr (by decide)) f3))⟩, ⟨by decide, (show ((dw_si μ 404 11 w1).2.2.1 404 3).toInt = ν 5 + 0 from (up_eq (Or.inr (by decide)) f4))⟩, ⟨by decide, (show ((dw_si μ 404 11 w1).2.2.1 404 14).toInt = ν 6 + 0 from (up_eq (Or.inr (by decide)) f5))⟩, ⟨by decide, (show ((dw_si μ 404 11 w1).2.2.1 404 19).toInt = ν 7 + 0 from (up_eq (Or.inr (by decide)) f6))⟩, ⟨by decide, (show ((dw_si μ 404 11 w1).2.2.1 404 21).toInt = ν 8 + 0 from (up_eq (Or.inr (by decide)) f7))⟩, ⟨by decide, (show ((dw_si μ 404 11 w1).2.2.1 404 22).toInt = ν 9 + 0 from (up_eq (Or.inr (by decide)) f8))⟩, ⟨by decide, (show ((dw_si μ 404 11 w1).2.2.1 404 11).toInt = ν 0 + 0 from by show ((dw_up μ.2.2.1 404 11 w1) 404 11).toInt = _; rw [up_at]; omega)⟩, trivial⟩ ⟨⟨by decide, (show fl_P 8 (ν 0 + 0) (dw_si μ 404 11 w1).2.2.1 from fun h => by have h2 : ((dw_up μ.2.2.1 404 11 w1) 404 11).toInt = 1 := h; rw [up_at] at h2; omega)⟩, trivial⟩)
set_option maxHeartbeats 2000000 in
theorem sp_nxTokS2 {SH : dw_Sh} {TT : Nat → dw_T} {K : dw_K} (hE : (EE SH TT).ok) : dx_SOK (EE SH TT) (pr_X12_next K) 91 sg_nxTokS2 := by
  intro ν ls vs args rest μ bc bs hvs hargs hcat g hk
  obtain rfl := vs0 (f := fun i => ls[i]?) hvs
  obtain ⟨x0, x1, rfl⟩ := ar2 hargs
  obtain ⟨g0, g1, -⟩ := g.gl
  obtain rfl : x0 = .ref 404 := Option.some.inj (gV_th g0)
  obtain ⟨-, w1, h1, q1⟩ := g1
  obtain rfl : x1 = .int w1 := Option.some.inj h1
  have f0 : (μ.2.2.1 404 4).toInt = ν 1 + 0 := (g.fa _ (List.Mem.head _)).2
  have f1 : (μ.2.2.1 404 13).toInt = ν 2 + 0 := (g.fa _ (List.Mem.tail _ (List.Mem.head _))).2
  have f2 : (μ.2.2.1 404 12).toInt = ν 3 + 0 := (g.fa _ (List.Mem.tail _ (List.Mem.tail _ (List.Mem.head _)))).2
  have f3 : (μ.2.2.1 404 2).toInt = ν 4 + 0 := (g.fa _ (List.Mem.tail _ (List.Mem.tail _ (List.Mem.tail _ (List.Mem.head _))))).2
  have f4 : (μ.2.2.1 404 3).toInt = ν 5 + 0 := (g.fa _ (List.Mem.tail _ (List.Mem.tail _ (List.Mem.tail _ (List.Mem.tail _ (List.Mem.head _)))))).2
  have f5 : (μ.2.2.1 404 14).toInt = ν 6 + 0 := (g.fa _ (List.Mem.tail _ (List.Mem.tail _ (List.Mem.tail _ (List.Mem.tail _ (List.Mem.tail _ (List.Mem.head _))))))).2
  have f6 : (μ.2.2.1 404 19).toInt = ν 7 + 0 := (g.fa _ (List.Mem.tail _ (List.Mem.tail _ (List.Mem.tail _ (List.Mem.tail _ (List.Mem.tail _ (List.Mem.tail _ (List.Mem.head _)))))))).2
  have f7 : (μ.2.2.1 404 21).toInt = ν 8 + 0 := (g.fa _ (List.Mem.tail _ (List.Mem.tail _ (List.Mem.tail _ (List.Mem.tail _ (List.Mem.tail _ (List.Mem.tail _ (List.Mem.tail _ (List.Mem.head _))))))))).2
  have f8 : (μ.2.2.1 404 22).toInt = ν 9 + 0 := (g.fa _ (List.Mem.tail _ (List.Mem.tail _ (List.Mem.tail _ (List.Mem.tail _ (List.Mem.tail _ (List.Mem.tail _ (List.Mem.tail _ (List.Mem.tail _ (List.Mem.head _)))))))))).2
  have b1 : (0 : Int) ≤ ν 1 ∧ ν 1 ≤ 940 := g.iv 1 (by decide)
  have b2 : (0 : Int) ≤ ν 2 ∧ ν 2 ≤ 940 := g.iv 2 (by decide)
  have b3 : (0 : Int) ≤ ν 3 ∧ ν 3 ≤ 940 := g.iv 3 (by decide)
  have b4 : (0 : Int) ≤ ν 4 ∧ ν 4 ≤ 940 := g.iv 4 (by decide)
  have b5 : (0 : Int) ≤ ν 5 ∧ ν 5 ≤ 940 := g.iv 5 (by decide)
  have b6 : (-2147483648 : Int) ≤ ν 6 ∧ ν 6 ≤ 2147483647 := g.iv 6 (by decide)
  have b7 : (-2147483648 : Int) ≤ ν 7 ∧ ν 7 ≤ 2147483647 := g.iv 7 (by decide)
  have b8 : (0 : Int) ≤ ν 8 ∧ ν 8 ≤ 30 := g.iv 8 (by decide)
  have b9 : (0 : Int) ≤ ν 9 ∧ ν 9 ≤ 1 := g.iv 9 (by decide)
  have z0 : ν 0 = 0 := g.z
  have k404 : (μ.2.1 404).1 = 12 := by rw [g.sh]; exact (hE.sh 404).1
  have n404 : (μ.2.1 404).2.1 = 57 := by rw [g.sh]; exact (hE.sh 404).2.1
  refine q_puti rfl k404 ?_
  exact hk _ _ ν [] (dw_si μ 404 11 w1) (List.Mem.head _) (post_mk g rfl (up_hi g.hi (⟨by show (0 : Int) ≤ _; omega, by show _ ≤ (4 : Int); omega⟩ : dx_in (0, 4) w1.toInt)) (up_fr (List.Mem.head _)) (by decide) (by decide) (fun _ _ => rfl) ⟨(show (0 : Int) ≤ ν 0 ∧ ν 0 ≤ 0 from ⟨by omega, by omega⟩), (show (0 : Int) ≤ ν 1 ∧ ν 1 ≤ 940 from ⟨by omega, by omega⟩), (show (0 : Int) ≤ ν 2 ∧ ν 2 ≤ 940 from ⟨by omega, by omega⟩), (show (0 : Int) ≤ ν 3 ∧ ν 3 ≤ 940 from ⟨by omega, by omega⟩), (show (0 : Int) ≤ ν 4 ∧ ν 4 ≤ 940 from ⟨by omega, by omega⟩), (show (0 : Int) ≤ ν 5 ∧ ν 5 ≤ 940 from ⟨by omega, by omega⟩), (show (-2147483648 : Int) ≤ ν 6 ∧ ν 6 ≤ 2147483647 from ⟨by omega, by omega⟩), (show (-2147483648 : Int) ≤ ν 7 ∧ ν 7 ≤ 2147483647 from ⟨by omega, by omega⟩), (show (0 : Int) ≤ ν 8 ∧ ν 8 ≤ 30 from ⟨by omega, by omega⟩), (show (0 : Int) ≤ ν 9 ∧ ν 9 ≤ 1 from ⟨by omega, by omega⟩), trivial⟩ trivial trivial rfl ⟨⟨by decide, (show ((dw_si μ 404 11 w1).2.2.1 404 4).toInt = ν 1 + 0 from (up_eq (Or.inr (by decide)) f0))⟩, ⟨by decide, (show ((dw_si μ 404 11 w1).2.2.1 404 13).toInt = ν 2 + 0 from (up_eq (Or.inr (by decide)) f1))⟩, ⟨by decide, (show ((dw_si μ 404 11 w1).2.2.1 404 12).toInt = ν 3 + 0 from (up_eq (Or.inr (by decide)) f2))⟩, ⟨by decide, (show ((dw_si μ 404 11 w1).2.2.1 404 2).toInt = ν 4 + 0 from (up_eq (Or.inr (by decide)) f3))⟩, ⟨by decide, (show ((dw_si μ 404 11 w1).2.2.1 404 3).toInt = ν 5 + 0 from (up_eq (Or.inr (by decide)) f4))⟩, ⟨by decide, (show ((dw_si μ 404 11 w1).2.2.1 404 14).toInt = ν 6 + 0 from (up_eq (Or.inr (by decide)) f5))⟩, ⟨by decide, (show ((dw_si μ 404 11 w1).2.2.1 404 19).toInt = ν 7 + 0 from (up_eq (Or.inr (by decide)) f6))⟩, ⟨by decide, (show ((dw_si μ 404 11 w1).2.2.1 404 21).toInt = ν 8 + 0 from (up_eq (Or.inr (by decide)) f7))⟩, ⟨by decide, (show ((dw_si μ 404 11 w1).2.2.1 404 22).toInt = ν 9 + 0 from (up_eq (Or.inr (by decide)) f8))⟩, ⟨by decide, (show ((dw_si μ 404 11 w1).2.2.1 404 11).toInt = ν 0 + 2 from by show ((dw_up μ.2.2.1 404 11 w1) 404 11).toInt = _; rw [up_at]; omega)⟩, trivial⟩ ⟨⟨by decide, (show fl_P 8 (ν 0 + 0) (dw_si μ 404 11 w1).2.2.1 from fun h => by have h2 : ((dw_up μ.2.2.1 404 11 w1) 404 11).toInt = 1 := h; rw [up_at] at h2; omega)⟩, trivial⟩)
set_option maxHeartbeats 2000000 in
theorem sp_nxTokN3 {SH : dw_Sh} {TT : Nat → dw_T} {K : dw_K} (hE : (EE SH TT).ok) : dx_SOK (EE SH TT) (pr_X12_next K) 76 sg_nxTokN3 := by
  intro ν ls vs args rest μ bc bs hvs hargs hcat g hk
  obtain rfl := vs0 (f := fun i => ls[i]?) hvs
  obtain ⟨x0, x1, rfl⟩ := ar2 hargs
  obtain ⟨g0, g1, -⟩ := g.gl
  obtain rfl : x0 = .ref 404 := Option.some.inj (gV_th g0)
  obtain ⟨-, w1, h1, q1⟩ := g1
  obtain rfl : x1 = .int w1 := Option.some.inj h1
  have f0 : (μ.2.2.1 404 4).toInt = ν 1 + 0 := (g.fa _ (List.Mem.head _)).2
  have f1 : (μ.2.2.1 404 13).toInt = ν 2 + 0 := (g.fa _ (List.Mem.tail _ (List.Mem.head _))).2
  have f2 : (μ.2.2.1 404 12).toInt = ν 3 + 0 := (g.fa _ (List.Mem.tail _ (List.Mem.tail _ (List.Mem.head _)))).2
  have f3 : (μ.2.2.1 404 2).toInt = ν 4 + 0 := (g.fa _ (List.Mem.tail _ (List.Mem.tail _ (List.Mem.tail _ (List.Mem.head _))))).2
  have f4 : (μ.2.2.1 404 3).toInt = ν 5 + 0 := (g.fa _ (List.Mem.tail _ (List.Mem.tail _ (List.Mem.tail _ (List.Mem.tail _ (List.Mem.head _)))))).2
  have f5 : (μ.2.2.1 404 14).toInt = ν 6 + 0 := (g.fa _ (List.Mem.tail _ (List.Mem.tail _ (List.Mem.tail _ (List.Mem.tail _ (List.Mem.tail _ (List.Mem.head _))))))).2
  have f6 : (μ.2.2.1 404 19).toInt = ν 7 + 0 := (g.fa _ (List.Mem.tail _ (List.Mem.tail _ (List.Mem.tail _ (List.Mem.tail _ (List.Mem.tail _ (List.Mem.tail _ (List.Mem.head _)))))))).2
  have f7 : (μ.2.2.1 404 21).toInt = ν 8 + 0 := (g.fa _ (List.Mem.tail _ (List.Mem.tail _ (List.Mem.tail _ (List.Mem.tail _ (List.Mem.tail _ (List.Mem.tail _ (List.Mem.tail _ (List.Mem.head _))))))))).2
  have f8 : (μ.2.2.1 404 22).toInt = ν 9 + 0 := (g.fa _ (List.Mem.tail _ (List.Mem.tail _ (List.Mem.tail _ (List.Mem.tail _ (List.Mem.tail _ (List.Mem.tail _ (List.Mem.tail _ (List.Mem.tail _ (List.Mem.head _)))))))))).2
  have b1 : (0 : Int) ≤ ν 1 ∧ ν 1 ≤ 940 := g.iv 1 (by decide)
  have b2 : (0 : Int) ≤ ν 2 ∧ ν 2 ≤ 940 := g.iv 2 (by decide)
  have b3 : (0 : Int) ≤ ν 3 ∧ ν 3 ≤ 940 := g.iv 3 (by decide)
  have b4 : (0 : Int) ≤ ν 4 ∧ ν 4 ≤ 940 := g.iv 4 (by decide)
  have b5 : (0 : Int) ≤ ν 5 ∧ ν 5 ≤ 940 := g.iv 5 (by decide)
  have b6 : (-2147483648 : Int) ≤ ν 6 ∧ ν 6 ≤ 2147483647 := g.iv 6 (by decide)
  have b7 : (-2147483648 : Int) ≤ ν 7 ∧ ν 7 ≤ 2147483647 := g.iv 7 (by decide)
  have b8 : (0 : Int) ≤ ν 8 ∧ ν 8 ≤ 30 := g.iv 8 (by decide)
  have b9 : (0 : Int) ≤ ν 9 ∧ ν 9 ≤ 1 := g.iv 9 (by decide)
  have z0 : ν 0 = 0 := g.z
  have k404 : (μ.2.1 404).1 = 12 := by rw [g.sh]; exact (hE.sh 404).1
  have n404 : (μ.2.1 404).2.1 = 57 := by rw [g.sh]; exact (hE.sh 404).2.1
  refine q_puti rfl k404 ?_
  exact hk _ _ ν [] (dw_si μ 404 11 w1) (List.Mem.head _) (post_mk g rfl (up_hi g.hi (⟨by show (0 : Int) ≤ _; omega, by show _ ≤ (4 : Int); omega⟩ : dx_in (0, 4) w1.toInt)) (up_fr (List.Mem.head _)) (by decide) (by decide) (fun _ _ => rfl) ⟨(show (0 : Int) ≤ ν 0 ∧ ν 0 ≤ 0 from ⟨by omega, by omega⟩), (show (0 : Int) ≤ ν 1 ∧ ν 1 ≤ 940 from ⟨by omega, by omega⟩), (show (0 : Int) ≤ ν 2 ∧ ν 2 ≤ 940 from ⟨by omega, by omega⟩), (show (0 : Int) ≤ ν 3 ∧ ν 3 ≤ 940 from ⟨by omega, by omega⟩), (show (0 : Int) ≤ ν 4 ∧ ν 4 ≤ 940 from ⟨by omega, by omega⟩), (show (0 : Int) ≤ ν 5 ∧ ν 5 ≤ 940 from ⟨by omega, by omega⟩), (show (-2147483648 : Int) ≤ ν 6 ∧ ν 6 ≤ 2147483647 from ⟨by omega, by omega⟩), (show (-2147483648 : Int) ≤ ν 7 ∧ ν 7 ≤ 2147483647 from ⟨by omega, by omega⟩), (show (0 : Int) ≤ ν 8 ∧ ν 8 ≤ 30 from ⟨by omega, by omega⟩), (show (0 : Int) ≤ ν 9 ∧ ν 9 ≤ 1 from ⟨by omega, by omega⟩), trivial⟩ trivial trivial rfl ⟨⟨by decide, (show ((dw_si μ 404 11 w1).2.2.1 404 4).toInt = ν 1 + 0 from (up_eq (Or.inr (by decide)) f0))⟩, ⟨by decide, (show ((dw_si μ 404 11 w1).2.2.1 404 13).toInt = ν 2 + 0 from (up_eq (Or.inr (by decide)) f1))⟩, ⟨by decide, (show ((dw_si μ 404 11 w1).2.2.1 404 12).toInt = ν 3 + 0 from (up_eq (Or.inr (by decide)) f2))⟩, ⟨by decide, (show ((dw_si μ 404 11 w1).2.2.1 404 2).toInt = ν 4 + 0 from (up_eq (Or.inr (by decide)) f3))⟩, ⟨by decide, (show ((dw_si μ 404 11 w1).2.2.1 404 3).toInt = ν 5 + 0 from (up_eq (Or.inr (by decide)) f4))⟩, ⟨by decide, (show ((dw_si μ 404 11 w1).2.2.1 404 14).toInt = ν 6 + 0 from (up_eq (Or.inr (by decide)) f5))⟩, ⟨by decide, (show ((dw_si μ 404 11 w1).2.2.1 404 19).toInt = ν 7 + 0 from (up_eq (Or.inr (by decide)) f6))⟩, ⟨by decide, (show ((dw_si μ 404 11 w1).2.2.1 404 21).toInt = ν 8 + 0 from (up_eq (Or.inr (by decide)) f7))⟩, ⟨by decide, (show ((dw_si μ 404 11 w1).2.2.1 404 22).toInt = ν 9 + 0 from (up_eq (Or.inr (by decide)) f8))⟩, ⟨by decide, (show ((dw_si μ 404 11 w1).2.2.1 404 11).toInt = ν 0 + 3 from by show ((dw_up μ.2.2.1 404 11 w1) 404 11).toInt = _; rw [up_at]; omega)⟩, trivial⟩ ⟨⟨by decide, (show fl_P 8 (ν 0 + 0) (dw_si μ 404 11 w1).2.2.1 from fun h => by have h2 : ((dw_up μ.2.2.1 404 11 w1) 404 11).toInt = 1 := h; rw [up_at] at h2; omega)⟩, trivial⟩)
set_option maxHeartbeats 2000000 in
theorem sp_nxTokO4 {SH : dw_Sh} {TT : Nat → dw_T} {K : dw_K} (hE : (EE SH TT).ok) : dx_SOK (EE SH TT) (pr_X12_next K) 121 sg_nxTokO4 := by
  intro ν ls vs args rest μ bc bs hvs hargs hcat g hk
  obtain rfl := vs0 (f := fun i => ls[i]?) hvs
  obtain ⟨x0, x1, rfl⟩ := ar2 hargs
  obtain ⟨g0, g1, -⟩ := g.gl
  obtain rfl : x0 = .ref 404 := Option.some.inj (gV_th g0)
  obtain ⟨-, w1, h1, q1⟩ := g1
  obtain rfl : x1 = .int w1 := Option.some.inj h1
  have f0 : (μ.2.2.1 404 4).toInt = ν 1 + 0 := (g.fa _ (List.Mem.head _)).2
  have f1 : (μ.2.2.1 404 13).toInt = ν 2 + 0 := (g.fa _ (List.Mem.tail _ (List.Mem.head _))).2
  have f2 : (μ.2.2.1 404 12).toInt = ν 3 + 0 := (g.fa _ (List.Mem.tail _ (List.Mem.tail _ (List.Mem.head _)))).2
  have f3 : (μ.2.2.1 404 2).toInt = ν 4 + 0 := (g.fa _ (List.Mem.tail _ (List.Mem.tail _ (List.Mem.tail _ (List.Mem.head _))))).2
  have f4 : (μ.2.2.1 404 3).toInt = ν 5 + 0 := (g.fa _ (List.Mem.tail _ (List.Mem.tail _ (List.Mem.tail _ (List.Mem.tail _ (List.Mem.head _)))))).2
  have f5 : (μ.2.2.1 404 14).toInt = ν 6 + 0 := (g.fa _ (List.Mem.tail _ (List.Mem.tail _ (List.Mem.tail _ (List.Mem.tail _ (List.Mem.tail _ (List.Mem.head _))))))).2
  have f6 : (μ.2.2.1 404 19).toInt = ν 7 + 0 := (g.fa _ (List.Mem.tail _ (List.Mem.tail _ (List.Mem.tail _ (List.Mem.tail _ (List.Mem.tail _ (List.Mem.tail _ (List.Mem.head _)))))))).2
  have f7 : (μ.2.2.1 404 21).toInt = ν 8 + 0 := (g.fa _ (List.Mem.tail _ (List.Mem.tail _ (List.Mem.tail _ (List.Mem.tail _ (List.Mem.tail _ (List.Mem.tail _ (List.Mem.tail _ (List.Mem.head _))))))))).2
  have f8 : (μ.2.2.1 404 22).toInt = ν 9 + 0 := (g.fa _ (List.Mem.tail _ (List.Mem.tail _ (List.Mem.tail _ (List.Mem.tail _ (List.Mem.tail _ (List.Mem.tail _ (List.Mem.tail _ (List.Mem.tail _ (List.Mem.head _)))))))))).2
  have b1 : (0 : Int) ≤ ν 1 ∧ ν 1 ≤ 940 := g.iv 1 (by decide)
  have b2 : (0 : Int) ≤ ν 2 ∧ ν 2 ≤ 940 := g.iv 2 (by decide)
  have b3 : (0 : Int) ≤ ν 3 ∧ ν 3 ≤ 940 := g.iv 3 (by decide)
  have b4 : (0 : Int) ≤ ν 4 ∧ ν 4 ≤ 940 := g.iv 4 (by decide)
  have b5 : (0 : Int) ≤ ν 5 ∧ ν 5 ≤ 940 := g.iv 5 (by decide)
  have b6 : (-2147483648 : Int) ≤ ν 6 ∧ ν 6 ≤ 2147483647 := g.iv 6 (by decide)
  have b7 : (-2147483648 : Int) ≤ ν 7 ∧ ν 7 ≤ 2147483647 := g.iv 7 (by decide)
  have b8 : (0 : Int) ≤ ν 8 ∧ ν 8 ≤ 30 := g.iv 8 (by decide)
  have b9 : (0 : Int) ≤ ν 9 ∧ ν 9 ≤ 1 := g.iv 9 (by decide)
  have z0 : ν 0 = 0 := g.z
  have k404 : (μ.2.1 404).1 = 12 := by rw [g.sh]; exact (hE.sh 404).1
  have n404 : (μ.2.1 404).2.1 = 57 := by rw [g.sh]; exact (hE.sh 404).2.1
  refine q_puti rfl k404 ?_
  exact hk _ _ ν [] (dw_si μ 404 11 w1) (List.Mem.head _) (post_mk g rfl (up_hi g.hi (⟨by show (0 : Int) ≤ _; omega, by show _ ≤ (4 : Int); omega⟩ : dx_in (0, 4) w1.toInt)) (up_fr (List.Mem.head _)) (by decide) (by decide) (fun _ _ => rfl) ⟨(show (0 : Int) ≤ ν 0 ∧ ν 0 ≤ 0 from ⟨by omega, by omega⟩), (show (0 : Int) ≤ ν 1 ∧ ν 1 ≤ 940 from ⟨by omega, by omega⟩), (show (0 : Int) ≤ ν 2 ∧ ν 2 ≤ 940 from ⟨by omega, by omega⟩), (show (0 : Int) ≤ ν 3 ∧ ν 3 ≤ 940 from ⟨by omega, by omega⟩), (show (0 : Int) ≤ ν 4 ∧ ν 4 ≤ 940 from ⟨by omega, by omega⟩), (show (0 : Int) ≤ ν 5 ∧ ν 5 ≤ 940 from ⟨by omega, by omega⟩), (show (-2147483648 : Int) ≤ ν 6 ∧ ν 6 ≤ 2147483647 from ⟨by omega, by omega⟩), (show (-2147483648 : Int) ≤ ν 7 ∧ ν 7 ≤ 2147483647 from ⟨by omega, by omega⟩), (show (0 : Int) ≤ ν 8 ∧ ν 8 ≤ 30 from ⟨by omega, by omega⟩), (show (0 : Int) ≤ ν 9 ∧ ν 9 ≤ 1 from ⟨by omega, by omega⟩), trivial⟩ trivial trivial rfl ⟨⟨by decide, (show ((dw_si μ 404 11 w1).2.2.1 404 4).toInt = ν 1 + 0 from (up_eq (Or.inr (by decide)) f0))⟩, ⟨by decide, (show ((dw_si μ 404 11 w1).2.2.1 404 13).toInt = ν 2 + 0 from (up_eq (Or.inr (by decide)) f1))⟩, ⟨by decide, (show ((dw_si μ 404 11 w1).2.2.1 404 12).toInt = ν 3 + 0 from (up_eq (Or.inr (by decide)) f2))⟩, ⟨by decide, (show ((dw_si μ 404 11 w1).2.2.1 404 2).toInt = ν 4 + 0 from (up_eq (Or.inr (by decide)) f3))⟩, ⟨by decide, (show ((dw_si μ 404 11 w1).2.2.1 404 3).toInt = ν 5 + 0 from (up_eq (Or.inr (by decide)) f4))⟩, ⟨by decide, (show ((dw_si μ 404 11 w1).2.2.1 404 14).toInt = ν 6 + 0 from (up_eq (Or.inr (by decide)) f5))⟩, ⟨by decide, (show ((dw_si μ 404 11 w1).2.2.1 404 19).toInt = ν 7 + 0 from (up_eq (Or.inr (by decide)) f6))⟩, ⟨by decide, (show ((dw_si μ 404 11 w1).2.2.1 404 21).toInt = ν 8 + 0 from (up_eq (Or.inr (by decide)) f7))⟩, ⟨by decide, (show ((dw_si μ 404 11 w1).2.2.1 404 22).toInt = ν 9 + 0 from (up_eq (Or.inr (by decide)) f8))⟩, ⟨by decide, (show ((dw_si μ 404 11 w1).2.2.1 404 11).toInt = ν 0 + 4 from by show ((dw_up μ.2.2.1 404 11 w1) 404 11).toInt = _; rw [up_at]; omega)⟩, trivial⟩ ⟨⟨by decide, (show fl_P 8 (ν 0 + 0) (dw_si μ 404 11 w1).2.2.1 from fun h => by have h2 : ((dw_up μ.2.2.1 404 11 w1) 404 11).toInt = 1 := h; rw [up_at] at h2; omega)⟩, trivial⟩)
set_option maxHeartbeats 2000000 in
theorem sp_plOn1 {SH : dw_Sh} {TT : Nat → dw_T} {K : dw_K} (hE : (EE SH TT).ok) : dx_SOK (EE SH TT) (pr_X12_planLine K) 132 sg_plOn1 := by
  intro ν ls vs args rest μ bc bs hvs hargs hcat g hk
  obtain ⟨v0, rfl, e0⟩ := vs1 (f := fun i => ls[i]?) (a := 0) hvs
  obtain rfl := ar0 hargs
  obtain ⟨g0, -⟩ := g.gl
  rw [show v0 = some (.ref 404) from gV_th g0] at e0
  have f0 : (μ.2.2.1 408 4).toInt = ν 0 + 0 := (g.fa _ (List.Mem.head _)).2
  have p0 : fl_P 101 (ν 0 + 0) μ.2.2.1 := (g.fl _ (List.Mem.head _)).2
  have z0 : ν 0 = 0 := g.z
  have cst1 : (1 : Int32).toInt = 1 := rfl
  refine q_ic rfl ?_
  exact hk _ _ ν [.int 1] (μ) (List.Mem.head _) (post_mk g rfl g.hi (fun _ _ => ⟨rfl, rfl⟩) (by decide) (by decide) (fun _ _ => rfl) ⟨(show (0 : Int) ≤ ν 0 ∧ ν 0 ≤ 0 from ⟨by omega, by omega⟩), trivial⟩ trivial ⟨⟨by decide, 1, rfl, by rw [z0]; rfl⟩, trivial⟩ rfl trivial ⟨⟨by decide, (show fl_P 25 (ν 0 + 2) (μ).2.2.1 from pq_of (c := 2) (by decide) (by omega) (rp_on (c := 1) (y := 0) (by decide) p0 (show (μ.2.2.1 408 4).toInt = 0 by omega)))⟩, trivial⟩)
set_option maxHeartbeats 2000000 in
theorem sp_plIn3 {SH : dw_Sh} {TT : Nat → dw_T} {K : dw_K} (hE : (EE SH TT).ok) : dx_SOK (EE SH TT) (pr_X12_planLine K) 83 sg_plIn3 := by
  intro ν ls vs args rest μ bc bs hvs hargs hcat g hk
  obtain ⟨v0, rfl, e0⟩ := vs1 (f := fun i => ls[i]?) (a := 0) hvs
  obtain rfl := ar0 hargs
  obtain ⟨g0, -⟩ := g.gl
  rw [show v0 = some (.ref 404) from gV_th g0] at e0
  have f0 : (μ.2.2.1 404 21).toInt = ν 0 + 3 := (g.fa _ (List.Mem.head _)).2
  have p0 : fl_P 25 (ν 0 + 3) μ.2.2.1 := (g.fl _ (List.Mem.head _)).2
  have z0 : ν 0 = 0 := g.z
  have cst1 : (1 : Int32).toInt = 1 := rfl
  refine q_ic rfl ?_
  exact hk _ _ ν [.int 1] (μ) (List.Mem.head _) (post_mk g rfl g.hi (fun _ _ => ⟨rfl, rfl⟩) (by decide) (by decide) (fun _ _ => rfl) ⟨(show (0 : Int) ≤ ν 0 ∧ ν 0 ≤ 0 from ⟨by omega, by omega⟩), trivial⟩ trivial ⟨⟨by decide, 1, rfl, by rw [z0]; rfl⟩, trivial⟩ rfl trivial ⟨⟨by decide, (show fl_P 103 (ν 0 + 0) (μ).2.2.1 from pq_in (c := 3) (by decide) (by omega) p0)⟩, trivial⟩)
set_option maxHeartbeats 2000000 in
theorem sp_plOff4 {SH : dw_Sh} {TT : Nat → dw_T} {K : dw_K} (hE : (EE SH TT).ok) : dx_SOK (EE SH TT) (pr_X12_planLine K) 206 sg_plOff4 := by
  intro ν ls vs args rest μ bc bs hvs hargs hcat g hk
  obtain ⟨v0, rfl, e0⟩ := vs1 (f := fun i => ls[i]?) (a := 0) hvs
  obtain rfl := ar0 hargs
  obtain ⟨g0, -⟩ := g.gl
  rw [show v0 = some (.ref 404) from gV_th g0] at e0
  have f0 : (μ.2.2.1 408 14).toInt = ν 1 + 0 := (g.fa _ (List.Mem.head _)).2
  have f1 : (μ.2.2.1 406 0).toInt = ν 2 + 0 := (g.fa _ (List.Mem.tail _ (List.Mem.head _))).2
  have p0 : fl_P 104 (ν 0 + 0) μ.2.2.1 := (g.fl _ (List.Mem.head _)).2
  have b1 : (0 : Int) ≤ ν 1 ∧ ν 1 ≤ 143 := g.iv 1 (by decide)
  have b2 : (1 : Int) ≤ ν 2 ∧ ν 2 ≤ 12 := g.iv 2 (by decide)
  have z0 : ν 0 = 0 := g.z
  have cst1 : (1 : Int32).toInt = 1 := rfl
  refine q_ic rfl ?_
  exact hk _ _ ν [.int 1] (μ) (List.Mem.head _) (post_mk g rfl g.hi (fun _ _ => ⟨rfl, rfl⟩) (by decide) (by decide) (fun _ _ => rfl) ⟨(show (0 : Int) ≤ ν 0 ∧ ν 0 ≤ 0 from ⟨by omega, by omega⟩), (show (0 : Int) ≤ ν 1 ∧ ν 1 ≤ 143 from ⟨by omega, by omega⟩), (show (1 : Int) ≤ ν 2 ∧ ν 2 ≤ 12 from ⟨by omega, by omega⟩), trivial⟩ trivial ⟨⟨by decide, 1, rfl, by rw [z0]; rfl⟩, trivial⟩ rfl trivial ⟨⟨by decide, (show fl_P 25 (ν 0 + 5) (μ).2.2.1 from pq_of (c := 5) (by decide) (by omega) (rp_off (c := 4) (y := 0) (by decide) p0 (show (μ.2.2.1 408 14).toInt ≤ 143 by omega) (by omega)))⟩, trivial⟩)
set_option maxHeartbeats 2000000 in
theorem sp_plOn6 {SH : dw_Sh} {TT : Nat → dw_T} {K : dw_K} (hE : (EE SH TT).ok) : dx_SOK (EE SH TT) (pr_X12_planLine K) 132 sg_plOn6 := by
  intro ν ls vs args rest μ bc bs hvs hargs hcat g hk
  obtain ⟨v0, rfl, e0⟩ := vs1 (f := fun i => ls[i]?) (a := 0) hvs
  obtain rfl := ar0 hargs
  obtain ⟨g0, -⟩ := g.gl
  rw [show v0 = some (.ref 404) from gV_th g0] at e0
  have f0 : (μ.2.2.1 408 19).toInt = ν 0 + 0 := (g.fa _ (List.Mem.head _)).2
  have p0 : fl_P 106 (ν 0 + 0) μ.2.2.1 := (g.fl _ (List.Mem.head _)).2
  have z0 : ν 0 = 0 := g.z
  have cst1 : (1 : Int32).toInt = 1 := rfl
  refine q_ic rfl ?_
  exact hk _ _ ν [.int 1] (μ) (List.Mem.head _) (post_mk g rfl g.hi (fun _ _ => ⟨rfl, rfl⟩) (by decide) (by decide) (fun _ _ => rfl) ⟨(show (0 : Int) ≤ ν 0 ∧ ν 0 ≤ 0 from ⟨by omega, by omega⟩), trivial⟩ trivial ⟨⟨by decide, 1, rfl, by rw [z0]; rfl⟩, trivial⟩ rfl trivial ⟨⟨by decide, (show fl_P 25 (ν 0 + 7) (μ).2.2.1 from pq_of (c := 7) (by decide) (by omega) (rp_on (c := 6) (y := 0) (by decide) p0 (show (μ.2.2.1 408 19).toInt = 0 by omega)))⟩, trivial⟩)
set_option maxHeartbeats 2000000 in
theorem sp_plIn8 {SH : dw_Sh} {TT : Nat → dw_T} {K : dw_K} (hE : (EE SH TT).ok) : dx_SOK (EE SH TT) (pr_X12_planLine K) 83 sg_plIn8 := by
  intro ν ls vs args rest μ bc bs hvs hargs hcat g hk
  obtain ⟨v0, rfl, e0⟩ := vs1 (f := fun i => ls[i]?) (a := 0) hvs
  obtain rfl := ar0 hargs
  obtain ⟨g0, -⟩ := g.gl
  rw [show v0 = some (.ref 404) from gV_th g0] at e0
  have f0 : (μ.2.2.1 404 21).toInt = ν 0 + 8 := (g.fa _ (List.Mem.head _)).2
  have p0 : fl_P 25 (ν 0 + 8) μ.2.2.1 := (g.fl _ (List.Mem.head _)).2
  have z0 : ν 0 = 0 := g.z
  have cst1 : (1 : Int32).toInt = 1 := rfl
  refine q_ic rfl ?_
  exact hk _ _ ν [.int 1] (μ) (List.Mem.head _) (post_mk g rfl g.hi (fun _ _ => ⟨rfl, rfl⟩) (by decide) (by decide) (fun _ _ => rfl) ⟨(show (0 : Int) ≤ ν 0 ∧ ν 0 ≤ 0 from ⟨by omega, by omega⟩), trivial⟩ trivial ⟨⟨by decide, 1, rfl, by rw [z0]; rfl⟩, trivial⟩ rfl trivial ⟨⟨by decide, (show fl_P 108 (ν 0 + 0) (μ).2.2.1 from pq_in (c := 8) (by decide) (by omega) p0)⟩, trivial⟩)
set_option maxHeartbeats 2000000 in
theorem sp_plOff9 {SH : dw_Sh} {TT : Nat → dw_T} {K : dw_K} (hE : (EE SH TT).ok) : dx_SOK (EE SH TT) (pr_X12_planLine K) 206 sg_plOff9 := by
  intro ν ls vs args rest μ bc bs hvs hargs hcat g hk
  obtain ⟨v0, rfl, e0⟩ := vs1 (f := fun i => ls[i]?) (a := 0) hvs
  obtain rfl := ar0 hargs
  obtain ⟨g0, -⟩ := g.gl
  rw [show v0 = some (.ref 404) from gV_th g0] at e0
  have f0 : (μ.2.2.1 408 29).toInt = ν 1 + 0 := (g.fa _ (List.Mem.head _)).2
  have f1 : (μ.2.2.1 406 0).toInt = ν 2 + 0 := (g.fa _ (List.Mem.tail _ (List.Mem.head _))).2
  have p0 : fl_P 109 (ν 0 + 0) μ.2.2.1 := (g.fl _ (List.Mem.head _)).2
  have b1 : (0 : Int) ≤ ν 1 ∧ ν 1 ≤ 143 := g.iv 1 (by decide)
  have b2 : (1 : Int) ≤ ν 2 ∧ ν 2 ≤ 12 := g.iv 2 (by decide)
  have z0 : ν 0 = 0 := g.z
  have cst1 : (1 : Int32).toInt = 1 := rfl
  refine q_ic rfl ?_
  exact hk _ _ ν [.int 1] (μ) (List.Mem.head _) (post_mk g rfl g.hi (fun _ _ => ⟨rfl, rfl⟩) (by decide) (by decide) (fun _ _ => rfl) ⟨(show (0 : Int) ≤ ν 0 ∧ ν 0 ≤ 0 from ⟨by omega, by omega⟩), (show (0 : Int) ≤ ν 1 ∧ ν 1 ≤ 143 from ⟨by omega, by omega⟩), (show (1 : Int) ≤ ν 2 ∧ ν 2 ≤ 12 from ⟨by omega, by omega⟩), trivial⟩ trivial ⟨⟨by decide, 1, rfl, by rw [z0]; rfl⟩, trivial⟩ rfl trivial ⟨⟨by decide, (show fl_P 25 (ν 0 + 10) (μ).2.2.1 from pq_of (c := 10) (by decide) (by omega) (rp_off (c := 9) (y := 0) (by decide) p0 (show (μ.2.2.1 408 29).toInt ≤ 143 by omega) (by omega)))⟩, trivial⟩)
set_option maxHeartbeats 2000000 in
theorem sp_plOn11 {SH : dw_Sh} {TT : Nat → dw_T} {K : dw_K} (hE : (EE SH TT).ok) : dx_SOK (EE SH TT) (pr_X12_planLine K) 132 sg_plOn11 := by
  intro ν ls vs args rest μ bc bs hvs hargs hcat g hk
  obtain ⟨v0, rfl, e0⟩ := vs1 (f := fun i => ls[i]?) (a := 0) hvs
  obtain rfl := ar0 hargs
  obtain ⟨g0, -⟩ := g.gl
  rw [show v0 = some (.ref 404) from gV_th g0] at e0
  have f0 : (μ.2.2.1 408 34).toInt = ν 0 + 0 := (g.fa _ (List.Mem.head _)).2
  have p0 : fl_P 111 (ν 0 + 0) μ.2.2.1 := (g.fl _ (List.Mem.head _)).2
  have z0 : ν 0 = 0 := g.z
  have cst1 : (1 : Int32).toInt = 1 := rfl
  refine q_ic rfl ?_
  exact hk _ _ ν [.int 1] (μ) (List.Mem.head _) (post_mk g rfl g.hi (fun _ _ => ⟨rfl, rfl⟩) (by decide) (by decide) (fun _ _ => rfl) ⟨(show (0 : Int) ≤ ν 0 ∧ ν 0 ≤ 0 from ⟨by omega, by omega⟩), trivial⟩ trivial ⟨⟨by decide, 1, rfl, by rw [z0]; rfl⟩, trivial⟩ rfl trivial ⟨⟨by decide, (show fl_P 25 (ν 0 + 12) (μ).2.2.1 from pq_of (c := 12) (by decide) (by omega) (rp_on (c := 11) (y := 0) (by decide) p0 (show (μ.2.2.1 408 34).toInt = 0 by omega)))⟩, trivial⟩)
set_option maxHeartbeats 2000000 in
theorem sp_plIn13 {SH : dw_Sh} {TT : Nat → dw_T} {K : dw_K} (hE : (EE SH TT).ok) : dx_SOK (EE SH TT) (pr_X12_planLine K) 83 sg_plIn13 := by
  intro ν ls vs args rest μ bc bs hvs hargs hcat g hk
  obtain ⟨v0, rfl, e0⟩ := vs1 (f := fun i => ls[i]?) (a := 0) hvs
  obtain rfl := ar0 hargs
  obtain ⟨g0, -⟩ := g.gl
  rw [show v0 = some (.ref 404) from gV_th g0] at e0
  have f0 : (μ.2.2.1 404 21).toInt = ν 0 + 13 := (g.fa _ (List.Mem.head _)).2
  have p0 : fl_P 25 (ν 0 + 13) μ.2.2.1 := (g.fl _ (List.Mem.head _)).2
  have z0 : ν 0 = 0 := g.z
  have cst1 : (1 : Int32).toInt = 1 := rfl
  refine q_ic rfl ?_
  exact hk _ _ ν [.int 1] (μ) (List.Mem.head _) (post_mk g rfl g.hi (fun _ _ => ⟨rfl, rfl⟩) (by decide) (by decide) (fun _ _ => rfl) ⟨(show (0 : Int) ≤ ν 0 ∧ ν 0 ≤ 0 from ⟨by omega, by omega⟩), trivial⟩ trivial ⟨⟨by decide, 1, rfl, by rw [z0]; rfl⟩, trivial⟩ rfl trivial ⟨⟨by decide, (show fl_P 113 (ν 0 + 0) (μ).2.2.1 from pq_in (c := 13) (by decide) (by omega) p0)⟩, trivial⟩)
set_option maxHeartbeats 2000000 in
theorem sp_plOff14 {SH : dw_Sh} {TT : Nat → dw_T} {K : dw_K} (hE : (EE SH TT).ok) : dx_SOK (EE SH TT) (pr_X12_planLine K) 206 sg_plOff14 := by
  intro ν ls vs args rest μ bc bs hvs hargs hcat g hk
  obtain ⟨v0, rfl, e0⟩ := vs1 (f := fun i => ls[i]?) (a := 0) hvs
  obtain rfl := ar0 hargs
  obtain ⟨g0, -⟩ := g.gl
  rw [show v0 = some (.ref 404) from gV_th g0] at e0
  have f0 : (μ.2.2.1 408 44).toInt = ν 1 + 0 := (g.fa _ (List.Mem.head _)).2
  have f1 : (μ.2.2.1 406 0).toInt = ν 2 + 0 := (g.fa _ (List.Mem.tail _ (List.Mem.head _))).2
  have p0 : fl_P 114 (ν 0 + 0) μ.2.2.1 := (g.fl _ (List.Mem.head _)).2
  have b1 : (0 : Int) ≤ ν 1 ∧ ν 1 ≤ 143 := g.iv 1 (by decide)
  have b2 : (1 : Int) ≤ ν 2 ∧ ν 2 ≤ 12 := g.iv 2 (by decide)
  have z0 : ν 0 = 0 := g.z
  have cst1 : (1 : Int32).toInt = 1 := rfl
  refine q_ic rfl ?_
  exact hk _ _ ν [.int 1] (μ) (List.Mem.head _) (post_mk g rfl g.hi (fun _ _ => ⟨rfl, rfl⟩) (by decide) (by decide) (fun _ _ => rfl) ⟨(show (0 : Int) ≤ ν 0 ∧ ν 0 ≤ 0 from ⟨by omega, by omega⟩), (show (0 : Int) ≤ ν 1 ∧ ν 1 ≤ 143 from ⟨by omega, by omega⟩), (show (1 : Int) ≤ ν 2 ∧ ν 2 ≤ 12 from ⟨by omega, by omega⟩), trivial⟩ trivial ⟨⟨by decide, 1, rfl, by rw [z0]; rfl⟩, trivial⟩ rfl trivial ⟨⟨by decide, (show fl_P 25 (ν 0 + 15) (μ).2.2.1 from pq_of (c := 15) (by decide) (by omega) (rp_off (c := 14) (y := 0) (by decide) p0 (show (μ.2.2.1 408 44).toInt ≤ 143 by omega) (by omega)))⟩, trivial⟩)
set_option maxHeartbeats 2000000 in
theorem sp_plOn16 {SH : dw_Sh} {TT : Nat → dw_T} {K : dw_K} (hE : (EE SH TT).ok) : dx_SOK (EE SH TT) (pr_X12_planLine K) 132 sg_plOn16 := by
  intro ν ls vs args rest μ bc bs hvs hargs hcat g hk
  obtain ⟨v0, rfl, e0⟩ := vs1 (f := fun i => ls[i]?) (a := 0) hvs
  obtain rfl := ar0 hargs
  obtain ⟨g0, -⟩ := g.gl
  rw [show v0 = some (.ref 404) from gV_th g0] at e0
  have f0 : (μ.2.2.1 408 49).toInt = ν 0 + 0 := (g.fa _ (List.Mem.head _)).2
  have p0 : fl_P 116 (ν 0 + 0) μ.2.2.1 := (g.fl _ (List.Mem.head _)).2
  have z0 : ν 0 = 0 := g.z
  have cst1 : (1 : Int32).toInt = 1 := rfl
  refine q_ic rfl ?_
  exact hk _ _ ν [.int 1] (μ) (List.Mem.head _) (post_mk g rfl g.hi (fun _ _ => ⟨rfl, rfl⟩) (by decide) (by decide) (fun _ _ => rfl) ⟨(show (0 : Int) ≤ ν 0 ∧ ν 0 ≤ 0 from ⟨by omega, by omega⟩), trivial⟩ trivial ⟨⟨by decide, 1, rfl, by rw [z0]; rfl⟩, trivial⟩ rfl trivial ⟨⟨by decide, (show fl_P 25 (ν 0 + 17) (μ).2.2.1 from pq_of (c := 17) (by decide) (by omega) (rp_on (c := 16) (y := 0) (by decide) p0 (show (μ.2.2.1 408 49).toInt = 0 by omega)))⟩, trivial⟩)
set_option maxHeartbeats 2000000 in
theorem sp_plIn18 {SH : dw_Sh} {TT : Nat → dw_T} {K : dw_K} (hE : (EE SH TT).ok) : dx_SOK (EE SH TT) (pr_X12_planLine K) 83 sg_plIn18 := by
  intro ν ls vs args rest μ bc bs hvs hargs hcat g hk
  obtain ⟨v0, rfl, e0⟩ := vs1 (f := fun i => ls[i]?) (a := 0) hvs
  obtain rfl := ar0 hargs
  obtain ⟨g0, -⟩ := g.gl
  rw [show v0 = some (.ref 404) from gV_th g0] at e0
  have f0 : (μ.2.2.1 404 21).toInt = ν 0 + 18 := (g.fa _ (List.Mem.head _)).2
  have p0 : fl_P 25 (ν 0 + 18) μ.2.2.1 := (g.fl _ (List.Mem.head _)).2
  have z0 : ν 0 = 0 := g.z
  have cst1 : (1 : Int32).toInt = 1 := rfl
  refine q_ic rfl ?_
  exact hk _ _ ν [.int 1] (μ) (List.Mem.head _) (post_mk g rfl g.hi (fun _ _ => ⟨rfl, rfl⟩) (by decide) (by decide) (fun _ _ => rfl) ⟨(show (0 : Int) ≤ ν 0 ∧ ν 0 ≤ 0 from ⟨by omega, by omega⟩), trivial⟩ trivial ⟨⟨by decide, 1, rfl, by rw [z0]; rfl⟩, trivial⟩ rfl trivial ⟨⟨by decide, (show fl_P 118 (ν 0 + 0) (μ).2.2.1 from pq_in (c := 18) (by decide) (by omega) p0)⟩, trivial⟩)
set_option maxHeartbeats 2000000 in
theorem sp_plOff19 {SH : dw_Sh} {TT : Nat → dw_T} {K : dw_K} (hE : (EE SH TT).ok) : dx_SOK (EE SH TT) (pr_X12_planLine K) 206 sg_plOff19 := by
  intro ν ls vs args rest μ bc bs hvs hargs hcat g hk
  obtain ⟨v0, rfl, e0⟩ := vs1 (f := fun i => ls[i]?) (a := 0) hvs
  obtain rfl := ar0 hargs
  obtain ⟨g0, -⟩ := g.gl
  rw [show v0 = some (.ref 404) from gV_th g0] at e0
  have f0 : (μ.2.2.1 408 59).toInt = ν 1 + 0 := (g.fa _ (List.Mem.head _)).2
  have f1 : (μ.2.2.1 406 0).toInt = ν 2 + 0 := (g.fa _ (List.Mem.tail _ (List.Mem.head _))).2
  have p0 : fl_P 119 (ν 0 + 0) μ.2.2.1 := (g.fl _ (List.Mem.head _)).2
  have b1 : (0 : Int) ≤ ν 1 ∧ ν 1 ≤ 143 := g.iv 1 (by decide)
  have b2 : (1 : Int) ≤ ν 2 ∧ ν 2 ≤ 12 := g.iv 2 (by decide)
  have z0 : ν 0 = 0 := g.z
  have cst1 : (1 : Int32).toInt = 1 := rfl
  refine q_ic rfl ?_
  exact hk _ _ ν [.int 1] (μ) (List.Mem.head _) (post_mk g rfl g.hi (fun _ _ => ⟨rfl, rfl⟩) (by decide) (by decide) (fun _ _ => rfl) ⟨(show (0 : Int) ≤ ν 0 ∧ ν 0 ≤ 0 from ⟨by omega, by omega⟩), (show (0 : Int) ≤ ν 1 ∧ ν 1 ≤ 143 from ⟨by omega, by omega⟩), (show (1 : Int) ≤ ν 2 ∧ ν 2 ≤ 12 from ⟨by omega, by omega⟩), trivial⟩ trivial ⟨⟨by decide, 1, rfl, by rw [z0]; rfl⟩, trivial⟩ rfl trivial ⟨⟨by decide, (show fl_P 25 (ν 0 + 20) (μ).2.2.1 from pq_of (c := 20) (by decide) (by omega) (rp_off (c := 19) (y := 0) (by decide) p0 (show (μ.2.2.1 408 59).toInt ≤ 143 by omega) (by omega)))⟩, trivial⟩)
set_option maxHeartbeats 2000000 in
theorem sp_plOn21 {SH : dw_Sh} {TT : Nat → dw_T} {K : dw_K} (hE : (EE SH TT).ok) : dx_SOK (EE SH TT) (pr_X12_planLine K) 132 sg_plOn21 := by
  intro ν ls vs args rest μ bc bs hvs hargs hcat g hk
  obtain ⟨v0, rfl, e0⟩ := vs1 (f := fun i => ls[i]?) (a := 0) hvs
  obtain rfl := ar0 hargs
  obtain ⟨g0, -⟩ := g.gl
  rw [show v0 = some (.ref 404) from gV_th g0] at e0
  have f0 : (μ.2.2.1 408 64).toInt = ν 0 + 0 := (g.fa _ (List.Mem.head _)).2
  have p0 : fl_P 121 (ν 0 + 0) μ.2.2.1 := (g.fl _ (List.Mem.head _)).2
  have z0 : ν 0 = 0 := g.z
  have cst1 : (1 : Int32).toInt = 1 := rfl
  refine q_ic rfl ?_
  exact hk _ _ ν [.int 1] (μ) (List.Mem.head _) (post_mk g rfl g.hi (fun _ _ => ⟨rfl, rfl⟩) (by decide) (by decide) (fun _ _ => rfl) ⟨(show (0 : Int) ≤ ν 0 ∧ ν 0 ≤ 0 from ⟨by omega, by omega⟩), trivial⟩ trivial ⟨⟨by decide, 1, rfl, by rw [z0]; rfl⟩, trivial⟩ rfl trivial ⟨⟨by decide, (show fl_P 25 (ν 0 + 22) (μ).2.2.1 from pq_of (c := 22) (by decide) (by omega) (rp_on (c := 21) (y := 0) (by decide) p0 (show (μ.2.2.1 408 64).toInt = 0 by omega)))⟩, trivial⟩)
set_option maxHeartbeats 2000000 in
theorem sp_plIn23 {SH : dw_Sh} {TT : Nat → dw_T} {K : dw_K} (hE : (EE SH TT).ok) : dx_SOK (EE SH TT) (pr_X12_planLine K) 83 sg_plIn23 := by
  intro ν ls vs args rest μ bc bs hvs hargs hcat g hk
  obtain ⟨v0, rfl, e0⟩ := vs1 (f := fun i => ls[i]?) (a := 0) hvs
  obtain rfl := ar0 hargs
  obtain ⟨g0, -⟩ := g.gl
  rw [show v0 = some (.ref 404) from gV_th g0] at e0
  have f0 : (μ.2.2.1 404 21).toInt = ν 0 + 23 := (g.fa _ (List.Mem.head _)).2
  have p0 : fl_P 25 (ν 0 + 23) μ.2.2.1 := (g.fl _ (List.Mem.head _)).2
  have z0 : ν 0 = 0 := g.z
  have cst1 : (1 : Int32).toInt = 1 := rfl
  refine q_ic rfl ?_
  exact hk _ _ ν [.int 1] (μ) (List.Mem.head _) (post_mk g rfl g.hi (fun _ _ => ⟨rfl, rfl⟩) (by decide) (by decide) (fun _ _ => rfl) ⟨(show (0 : Int) ≤ ν 0 ∧ ν 0 ≤ 0 from ⟨by omega, by omega⟩), trivial⟩ trivial ⟨⟨by decide, 1, rfl, by rw [z0]; rfl⟩, trivial⟩ rfl trivial ⟨⟨by decide, (show fl_P 123 (ν 0 + 0) (μ).2.2.1 from pq_in (c := 23) (by decide) (by omega) p0)⟩, trivial⟩)
set_option maxHeartbeats 2000000 in
theorem sp_plOff24 {SH : dw_Sh} {TT : Nat → dw_T} {K : dw_K} (hE : (EE SH TT).ok) : dx_SOK (EE SH TT) (pr_X12_planLine K) 206 sg_plOff24 := by
  intro ν ls vs args rest μ bc bs hvs hargs hcat g hk
  obtain ⟨v0, rfl, e0⟩ := vs1 (f := fun i => ls[i]?) (a := 0) hvs
  obtain rfl := ar0 hargs
  obtain ⟨g0, -⟩ := g.gl
  rw [show v0 = some (.ref 404) from gV_th g0] at e0
  have f0 : (μ.2.2.1 408 74).toInt = ν 1 + 0 := (g.fa _ (List.Mem.head _)).2
  have f1 : (μ.2.2.1 406 0).toInt = ν 2 + 0 := (g.fa _ (List.Mem.tail _ (List.Mem.head _))).2
  have p0 : fl_P 124 (ν 0 + 0) μ.2.2.1 := (g.fl _ (List.Mem.head _)).2
  have b1 : (0 : Int) ≤ ν 1 ∧ ν 1 ≤ 143 := g.iv 1 (by decide)
  have b2 : (1 : Int) ≤ ν 2 ∧ ν 2 ≤ 12 := g.iv 2 (by decide)
  have z0 : ν 0 = 0 := g.z
  have cst1 : (1 : Int32).toInt = 1 := rfl
  refine q_ic rfl ?_
  exact hk _ _ ν [.int 1] (μ) (List.Mem.head _) (post_mk g rfl g.hi (fun _ _ => ⟨rfl, rfl⟩) (by decide) (by decide) (fun _ _ => rfl) ⟨(show (0 : Int) ≤ ν 0 ∧ ν 0 ≤ 0 from ⟨by omega, by omega⟩), (show (0 : Int) ≤ ν 1 ∧ ν 1 ≤ 143 from ⟨by omega, by omega⟩), (show (1 : Int) ≤ ν 2 ∧ ν 2 ≤ 12 from ⟨by omega, by omega⟩), trivial⟩ trivial ⟨⟨by decide, 1, rfl, by rw [z0]; rfl⟩, trivial⟩ rfl trivial ⟨⟨by decide, (show fl_P 25 (ν 0 + 25) (μ).2.2.1 from pq_of (c := 25) (by decide) (by omega) (rp_off (c := 24) (y := 0) (by decide) p0 (show (μ.2.2.1 408 74).toInt ≤ 143 by omega) (by omega)))⟩, trivial⟩)
set_option maxHeartbeats 2000000 in
theorem sp_plOn26 {SH : dw_Sh} {TT : Nat → dw_T} {K : dw_K} (hE : (EE SH TT).ok) : dx_SOK (EE SH TT) (pr_X12_planLine K) 132 sg_plOn26 := by
  intro ν ls vs args rest μ bc bs hvs hargs hcat g hk
  obtain ⟨v0, rfl, e0⟩ := vs1 (f := fun i => ls[i]?) (a := 0) hvs
  obtain rfl := ar0 hargs
  obtain ⟨g0, -⟩ := g.gl
  rw [show v0 = some (.ref 404) from gV_th g0] at e0
  have f0 : (μ.2.2.1 408 79).toInt = ν 0 + 0 := (g.fa _ (List.Mem.head _)).2
  have p0 : fl_P 126 (ν 0 + 0) μ.2.2.1 := (g.fl _ (List.Mem.head _)).2
  have z0 : ν 0 = 0 := g.z
  have cst1 : (1 : Int32).toInt = 1 := rfl
  refine q_ic rfl ?_
  exact hk _ _ ν [.int 1] (μ) (List.Mem.head _) (post_mk g rfl g.hi (fun _ _ => ⟨rfl, rfl⟩) (by decide) (by decide) (fun _ _ => rfl) ⟨(show (0 : Int) ≤ ν 0 ∧ ν 0 ≤ 0 from ⟨by omega, by omega⟩), trivial⟩ trivial ⟨⟨by decide, 1, rfl, by rw [z0]; rfl⟩, trivial⟩ rfl trivial ⟨⟨by decide, (show fl_P 25 (ν 0 + 27) (μ).2.2.1 from pq_of (c := 27) (by decide) (by omega) (rp_on (c := 26) (y := 0) (by decide) p0 (show (μ.2.2.1 408 79).toInt = 0 by omega)))⟩, trivial⟩)
set_option maxHeartbeats 2000000 in
theorem sp_plIn28 {SH : dw_Sh} {TT : Nat → dw_T} {K : dw_K} (hE : (EE SH TT).ok) : dx_SOK (EE SH TT) (pr_X12_planLine K) 83 sg_plIn28 := by
  intro ν ls vs args rest μ bc bs hvs hargs hcat g hk
  obtain ⟨v0, rfl, e0⟩ := vs1 (f := fun i => ls[i]?) (a := 0) hvs
  obtain rfl := ar0 hargs
  obtain ⟨g0, -⟩ := g.gl
  rw [show v0 = some (.ref 404) from gV_th g0] at e0
  have f0 : (μ.2.2.1 404 21).toInt = ν 0 + 28 := (g.fa _ (List.Mem.head _)).2
  have p0 : fl_P 25 (ν 0 + 28) μ.2.2.1 := (g.fl _ (List.Mem.head _)).2
  have z0 : ν 0 = 0 := g.z
  have cst1 : (1 : Int32).toInt = 1 := rfl
  refine q_ic rfl ?_
  exact hk _ _ ν [.int 1] (μ) (List.Mem.head _) (post_mk g rfl g.hi (fun _ _ => ⟨rfl, rfl⟩) (by decide) (by decide) (fun _ _ => rfl) ⟨(show (0 : Int) ≤ ν 0 ∧ ν 0 ≤ 0 from ⟨by omega, by omega⟩), trivial⟩ trivial ⟨⟨by decide, 1, rfl, by rw [z0]; rfl⟩, trivial⟩ rfl trivial ⟨⟨by decide, (show fl_P 128 (ν 0 + 0) (μ).2.2.1 from pq_in (c := 28) (by decide) (by omega) p0)⟩, trivial⟩)
set_option maxHeartbeats 2000000 in
theorem sp_plOff29 {SH : dw_Sh} {TT : Nat → dw_T} {K : dw_K} (hE : (EE SH TT).ok) : dx_SOK (EE SH TT) (pr_X12_planLine K) 206 sg_plOff29 := by
  intro ν ls vs args rest μ bc bs hvs hargs hcat g hk
  obtain ⟨v0, rfl, e0⟩ := vs1 (f := fun i => ls[i]?) (a := 0) hvs
  obtain rfl := ar0 hargs
  obtain ⟨g0, -⟩ := g.gl
  rw [show v0 = some (.ref 404) from gV_th g0] at e0
  have f0 : (μ.2.2.1 408 89).toInt = ν 1 + 0 := (g.fa _ (List.Mem.head _)).2
  have f1 : (μ.2.2.1 406 0).toInt = ν 2 + 0 := (g.fa _ (List.Mem.tail _ (List.Mem.head _))).2
  have p0 : fl_P 129 (ν 0 + 0) μ.2.2.1 := (g.fl _ (List.Mem.head _)).2
  have b1 : (0 : Int) ≤ ν 1 ∧ ν 1 ≤ 143 := g.iv 1 (by decide)
  have b2 : (1 : Int) ≤ ν 2 ∧ ν 2 ≤ 12 := g.iv 2 (by decide)
  have z0 : ν 0 = 0 := g.z
  have cst1 : (1 : Int32).toInt = 1 := rfl
  refine q_ic rfl ?_
  exact hk _ _ ν [.int 1] (μ) (List.Mem.head _) (post_mk g rfl g.hi (fun _ _ => ⟨rfl, rfl⟩) (by decide) (by decide) (fun _ _ => rfl) ⟨(show (0 : Int) ≤ ν 0 ∧ ν 0 ≤ 0 from ⟨by omega, by omega⟩), (show (0 : Int) ≤ ν 1 ∧ ν 1 ≤ 143 from ⟨by omega, by omega⟩), (show (1 : Int) ≤ ν 2 ∧ ν 2 ≤ 12 from ⟨by omega, by omega⟩), trivial⟩ trivial ⟨⟨by decide, 1, rfl, by rw [z0]; rfl⟩, trivial⟩ rfl trivial ⟨⟨by decide, (show fl_P 25 (ν 0 + 30) (μ).2.2.1 from pq_of (c := 30) (by decide) (by omega) (rp_off (c := 29) (y := 0) (by decide) p0 (show (μ.2.2.1 408 89).toInt ≤ 143 by omega) (by omega)))⟩, trivial⟩)
set_option maxHeartbeats 2000000 in
theorem sp_plEnd0 {SH : dw_Sh} {TT : Nat → dw_T} {K : dw_K} (hE : (EE SH TT).ok) : dx_SOK (EE SH TT) (pr_X12_plan K) 113 sg_plEnd0 := by
  intro ν ls vs args rest μ bc bs hvs hargs hcat g hk
  obtain ⟨v0, rfl, e0⟩ := vs1 (f := fun i => ls[i]?) (a := 0) hvs
  obtain rfl := ar0 hargs
  obtain ⟨g0, -⟩ := g.gl
  rw [show v0 = some (.ref 404) from gV_th g0] at e0
  have f0 : (μ.2.2.1 404 21).toInt = ν 0 + 0 := (g.fa _ (List.Mem.head _)).2
  have f1 : (μ.2.2.1 408 0).toInt = ν 0 + 0 := (g.fa _ (List.Mem.tail _ (List.Mem.head _))).2
  have p0 : fl_P 23 (ν 0 + 1) μ.2.2.1 := (g.fl _ (List.Mem.head _)).2
  have p1 : fl_P 25 (ν 0 + 0) μ.2.2.1 := (g.fl _ (List.Mem.tail _ (List.Mem.head _))).2
  have z0 : ν 0 = 0 := g.z
  refine q_ald rfl e0 ?_
  exact hk _ _ ν [.ref 404] (μ) (List.Mem.head _) (post_mk g rfl g.hi (fun _ _ => ⟨rfl, rfl⟩) (by decide) (by decide) (fun _ _ => rfl) ⟨(show (0 : Int) ≤ ν 0 ∧ ν 0 ≤ 0 from ⟨by omega, by omega⟩), trivial⟩ trivial ⟨⟨404, List.Mem.head _, rfl⟩, trivial⟩ rfl trivial ⟨⟨by decide, (show fl_P 6 (ν 0 + 0) (μ).2.2.1 from pl_end (c := 0) (y := 0) (by decide) (by omega) (by omega) p0 (pq_in (c := 0) (by decide) (by omega) p1))⟩, trivial⟩)
set_option maxHeartbeats 2000000 in
theorem sp_plEnd5 {SH : dw_Sh} {TT : Nat → dw_T} {K : dw_K} (hE : (EE SH TT).ok) : dx_SOK (EE SH TT) (pr_X12_plan K) 113 sg_plEnd5 := by
  intro ν ls vs args rest μ bc bs hvs hargs hcat g hk
  obtain ⟨v0, rfl, e0⟩ := vs1 (f := fun i => ls[i]?) (a := 0) hvs
  obtain rfl := ar0 hargs
  obtain ⟨g0, -⟩ := g.gl
  rw [show v0 = some (.ref 404) from gV_th g0] at e0
  have f0 : (μ.2.2.1 404 21).toInt = ν 0 + 5 := (g.fa _ (List.Mem.head _)).2
  have f1 : (μ.2.2.1 408 0).toInt = ν 0 + 5 := (g.fa _ (List.Mem.tail _ (List.Mem.head _))).2
  have p0 : fl_P 23 (ν 0 + 16) μ.2.2.1 := (g.fl _ (List.Mem.head _)).2
  have p1 : fl_P 25 (ν 0 + 5) μ.2.2.1 := (g.fl _ (List.Mem.tail _ (List.Mem.head _))).2
  have z0 : ν 0 = 0 := g.z
  refine q_ald rfl e0 ?_
  exact hk _ _ ν [.ref 404] (μ) (List.Mem.head _) (post_mk g rfl g.hi (fun _ _ => ⟨rfl, rfl⟩) (by decide) (by decide) (fun _ _ => rfl) ⟨(show (0 : Int) ≤ ν 0 ∧ ν 0 ≤ 0 from ⟨by omega, by omega⟩), trivial⟩ trivial ⟨⟨404, List.Mem.head _, rfl⟩, trivial⟩ rfl trivial ⟨⟨by decide, (show fl_P 6 (ν 0 + 0) (μ).2.2.1 from pl_end (c := 5) (y := 0) (by decide) (by omega) (by omega) p0 (pq_in (c := 5) (by decide) (by omega) p1))⟩, trivial⟩)
set_option maxHeartbeats 2000000 in
theorem sp_plEnd10 {SH : dw_Sh} {TT : Nat → dw_T} {K : dw_K} (hE : (EE SH TT).ok) : dx_SOK (EE SH TT) (pr_X12_plan K) 113 sg_plEnd10 := by
  intro ν ls vs args rest μ bc bs hvs hargs hcat g hk
  obtain ⟨v0, rfl, e0⟩ := vs1 (f := fun i => ls[i]?) (a := 0) hvs
  obtain rfl := ar0 hargs
  obtain ⟨g0, -⟩ := g.gl
  rw [show v0 = some (.ref 404) from gV_th g0] at e0
  have f0 : (μ.2.2.1 404 21).toInt = ν 0 + 10 := (g.fa _ (List.Mem.head _)).2
  have f1 : (μ.2.2.1 408 0).toInt = ν 0 + 10 := (g.fa _ (List.Mem.tail _ (List.Mem.head _))).2
  have p0 : fl_P 23 (ν 0 + 31) μ.2.2.1 := (g.fl _ (List.Mem.head _)).2
  have p1 : fl_P 25 (ν 0 + 10) μ.2.2.1 := (g.fl _ (List.Mem.tail _ (List.Mem.head _))).2
  have z0 : ν 0 = 0 := g.z
  refine q_ald rfl e0 ?_
  exact hk _ _ ν [.ref 404] (μ) (List.Mem.head _) (post_mk g rfl g.hi (fun _ _ => ⟨rfl, rfl⟩) (by decide) (by decide) (fun _ _ => rfl) ⟨(show (0 : Int) ≤ ν 0 ∧ ν 0 ≤ 0 from ⟨by omega, by omega⟩), trivial⟩ trivial ⟨⟨404, List.Mem.head _, rfl⟩, trivial⟩ rfl trivial ⟨⟨by decide, (show fl_P 6 (ν 0 + 0) (μ).2.2.1 from pl_end (c := 10) (y := 0) (by decide) (by omega) (by omega) p0 (pq_in (c := 10) (by decide) (by omega) p1))⟩, trivial⟩)
set_option maxHeartbeats 2000000 in
theorem sp_plEnd15 {SH : dw_Sh} {TT : Nat → dw_T} {K : dw_K} (hE : (EE SH TT).ok) : dx_SOK (EE SH TT) (pr_X12_plan K) 113 sg_plEnd15 := by
  intro ν ls vs args rest μ bc bs hvs hargs hcat g hk
  obtain ⟨v0, rfl, e0⟩ := vs1 (f := fun i => ls[i]?) (a := 0) hvs
  obtain rfl := ar0 hargs
  obtain ⟨g0, -⟩ := g.gl
  rw [show v0 = some (.ref 404) from gV_th g0] at e0
  have f0 : (μ.2.2.1 404 21).toInt = ν 0 + 15 := (g.fa _ (List.Mem.head _)).2
  have f1 : (μ.2.2.1 408 0).toInt = ν 0 + 15 := (g.fa _ (List.Mem.tail _ (List.Mem.head _))).2
  have p0 : fl_P 23 (ν 0 + 46) μ.2.2.1 := (g.fl _ (List.Mem.head _)).2
  have p1 : fl_P 25 (ν 0 + 15) μ.2.2.1 := (g.fl _ (List.Mem.tail _ (List.Mem.head _))).2
  have z0 : ν 0 = 0 := g.z
  refine q_ald rfl e0 ?_
  exact hk _ _ ν [.ref 404] (μ) (List.Mem.head _) (post_mk g rfl g.hi (fun _ _ => ⟨rfl, rfl⟩) (by decide) (by decide) (fun _ _ => rfl) ⟨(show (0 : Int) ≤ ν 0 ∧ ν 0 ≤ 0 from ⟨by omega, by omega⟩), trivial⟩ trivial ⟨⟨404, List.Mem.head _, rfl⟩, trivial⟩ rfl trivial ⟨⟨by decide, (show fl_P 6 (ν 0 + 0) (μ).2.2.1 from pl_end (c := 15) (y := 0) (by decide) (by omega) (by omega) p0 (pq_in (c := 15) (by decide) (by omega) p1))⟩, trivial⟩)
set_option maxHeartbeats 2000000 in
theorem sp_plEnd20 {SH : dw_Sh} {TT : Nat → dw_T} {K : dw_K} (hE : (EE SH TT).ok) : dx_SOK (EE SH TT) (pr_X12_plan K) 113 sg_plEnd20 := by
  intro ν ls vs args rest μ bc bs hvs hargs hcat g hk
  obtain ⟨v0, rfl, e0⟩ := vs1 (f := fun i => ls[i]?) (a := 0) hvs
  obtain rfl := ar0 hargs
  obtain ⟨g0, -⟩ := g.gl
  rw [show v0 = some (.ref 404) from gV_th g0] at e0
  have f0 : (μ.2.2.1 404 21).toInt = ν 0 + 20 := (g.fa _ (List.Mem.head _)).2
  have f1 : (μ.2.2.1 408 0).toInt = ν 0 + 20 := (g.fa _ (List.Mem.tail _ (List.Mem.head _))).2
  have p0 : fl_P 23 (ν 0 + 61) μ.2.2.1 := (g.fl _ (List.Mem.head _)).2
  have p1 : fl_P 25 (ν 0 + 20) μ.2.2.1 := (g.fl _ (List.Mem.tail _ (List.Mem.head _))).2
  have z0 : ν 0 = 0 := g.z
  refine q_ald rfl e0 ?_
  exact hk _ _ ν [.ref 404] (μ) (List.Mem.head _) (post_mk g rfl g.hi (fun _ _ => ⟨rfl, rfl⟩) (by decide) (by decide) (fun _ _ => rfl) ⟨(show (0 : Int) ≤ ν 0 ∧ ν 0 ≤ 0 from ⟨by omega, by omega⟩), trivial⟩ trivial ⟨⟨404, List.Mem.head _, rfl⟩, trivial⟩ rfl trivial ⟨⟨by decide, (show fl_P 6 (ν 0 + 0) (μ).2.2.1 from pl_end (c := 20) (y := 0) (by decide) (by omega) (by omega) p0 (pq_in (c := 20) (by decide) (by omega) p1))⟩, trivial⟩)
set_option maxHeartbeats 2000000 in
theorem sp_plEnd25 {SH : dw_Sh} {TT : Nat → dw_T} {K : dw_K} (hE : (EE SH TT).ok) : dx_SOK (EE SH TT) (pr_X12_plan K) 113 sg_plEnd25 := by
  intro ν ls vs args rest μ bc bs hvs hargs hcat g hk
  obtain ⟨v0, rfl, e0⟩ := vs1 (f := fun i => ls[i]?) (a := 0) hvs
  obtain rfl := ar0 hargs
  obtain ⟨g0, -⟩ := g.gl
  rw [show v0 = some (.ref 404) from gV_th g0] at e0
  have f0 : (μ.2.2.1 404 21).toInt = ν 0 + 25 := (g.fa _ (List.Mem.head _)).2
  have f1 : (μ.2.2.1 408 0).toInt = ν 0 + 25 := (g.fa _ (List.Mem.tail _ (List.Mem.head _))).2
  have p0 : fl_P 23 (ν 0 + 76) μ.2.2.1 := (g.fl _ (List.Mem.head _)).2
  have p1 : fl_P 25 (ν 0 + 25) μ.2.2.1 := (g.fl _ (List.Mem.tail _ (List.Mem.head _))).2
  have z0 : ν 0 = 0 := g.z
  refine q_ald rfl e0 ?_
  exact hk _ _ ν [.ref 404] (μ) (List.Mem.head _) (post_mk g rfl g.hi (fun _ _ => ⟨rfl, rfl⟩) (by decide) (by decide) (fun _ _ => rfl) ⟨(show (0 : Int) ≤ ν 0 ∧ ν 0 ≤ 0 from ⟨by omega, by omega⟩), trivial⟩ trivial ⟨⟨404, List.Mem.head _, rfl⟩, trivial⟩ rfl trivial ⟨⟨by decide, (show fl_P 6 (ν 0 + 0) (μ).2.2.1 from pl_end (c := 25) (y := 0) (by decide) (by omega) (by omega) p0 (pq_in (c := 25) (by decide) (by omega) p1))⟩, trivial⟩)
set_option maxHeartbeats 2000000 in
theorem sp_plEnd30 {SH : dw_Sh} {TT : Nat → dw_T} {K : dw_K} (hE : (EE SH TT).ok) : dx_SOK (EE SH TT) (pr_X12_plan K) 113 sg_plEnd30 := by
  intro ν ls vs args rest μ bc bs hvs hargs hcat g hk
  obtain ⟨v0, rfl, e0⟩ := vs1 (f := fun i => ls[i]?) (a := 0) hvs
  obtain rfl := ar0 hargs
  obtain ⟨g0, -⟩ := g.gl
  rw [show v0 = some (.ref 404) from gV_th g0] at e0
  have f0 : (μ.2.2.1 404 21).toInt = ν 0 + 30 := (g.fa _ (List.Mem.head _)).2
  have f1 : (μ.2.2.1 408 0).toInt = ν 0 + 30 := (g.fa _ (List.Mem.tail _ (List.Mem.head _))).2
  have p0 : fl_P 23 (ν 0 + 91) μ.2.2.1 := (g.fl _ (List.Mem.head _)).2
  have p1 : fl_P 25 (ν 0 + 30) μ.2.2.1 := (g.fl _ (List.Mem.tail _ (List.Mem.head _))).2
  have z0 : ν 0 = 0 := g.z
  refine q_ald rfl e0 ?_
  exact hk _ _ ν [.ref 404] (μ) (List.Mem.head _) (post_mk g rfl g.hi (fun _ _ => ⟨rfl, rfl⟩) (by decide) (by decide) (fun _ _ => rfl) ⟨(show (0 : Int) ≤ ν 0 ∧ ν 0 ≤ 0 from ⟨by omega, by omega⟩), trivial⟩ trivial ⟨⟨404, List.Mem.head _, rfl⟩, trivial⟩ rfl trivial ⟨⟨by decide, (show fl_P 6 (ν 0 + 0) (μ).2.2.1 from pl_end (c := 30) (y := 0) (by decide) (by omega) (by omega) p0 (pq_in (c := 30) (by decide) (by omega) p1))⟩, trivial⟩)
set_option maxHeartbeats 2000000 in
theorem sp_reCopy0 {SH : dw_Sh} {TT : Nat → dw_T} {K : dw_K} (hE : (EE SH TT).ok) : dx_SOK (EE SH TT) (pr_X12_restore K) 34 sg_reCopy0 := by
  intro ν ls vs args rest μ bc bs hvs hargs hcat g hk
  obtain ⟨v0, v1, v2, rfl, e0, e1, e2⟩ := vs3 (f := fun i => ls[i]?) (a := 0) (b := 1) (c := 2) hvs
  obtain rfl := ar0 hargs
  obtain ⟨g0, g1, g2, -⟩ := g.gl
  rw [show v0 = some (.ref 404) from gV_th g0] at e0
  obtain ⟨-, w1, h1, q1⟩ := g1
  rw [h1] at e1
  obtain ⟨-, w2, h2, q2⟩ := g2
  rw [h2] at e2
  have p0 : fl_P 15 (ν 1 + 0) μ.2.2.1 := (g.fl _ (List.Mem.head _)).2
  have b1 : (0 : Int) ≤ ν 1 ∧ ν 1 ≤ 1426 := g.iv 1 (by decide)
  have z0 : ν 0 = 0 := g.z
  have cw : ((1427 : Int32) * w1).toInt = 0 := i_mul (n := 0) (by rw [show (1427 : Int32).toInt = 1427 from rfl, q1]; omega) (by decide) (by decide)
  refine q_ald rfl e0 ?_
  have k404 : (μ.2.1 404).1 = 12 := by rw [g.sh]; exact (hE.sh 404).1
  have n404 : (μ.2.1 404).2.1 = 57 := by rw [g.sh]; exact (hE.sh 404).2.1
  have r404_6 : (μ.2.1 404).2.2 6 = some 406 := by rw [g.sh]; exact (hE.sh 404).2.2 6
  refine q_getr rfl k404 r404_6 ?_
  refine q_ild rfl e2 ?_
  refine q_ald rfl e0 ?_
  have r404_55 : (μ.2.1 404).2.2 55 = some 432 := by rw [g.sh]; exact (hE.sh 404).2.2 55
  refine q_getr rfl k404 r404_55 ?_
  have cst1427 : (1427 : Int32).toInt = 1427 := rfl
  refine q_ic rfl ?_
  refine q_ild rfl e1 ?_
  refine q_mul rfl ?_
  have t1 : ((1427 : Int32) * w1).toInt = 1427 * (w1).toInt := i_mul (by rw [cst1427]) (by omega) (by omega)
  refine q_ild rfl e2 ?_
  refine q_add rfl ?_
  have t2 : (((1427 : Int32) * w1) + w2).toInt = (((1427 : Int32) * w1)).toInt + (w2).toInt := i_add (by first | omega | (simp; omega)) (by first | omega | (simp; omega))
  have k432 : (μ.2.1 432).1 = 16 := by rw [g.sh]; exact (hE.sh 432).1
  have n432 : (μ.2.1 432).2.1 = 2854 := by rw [g.sh]; exact (hE.sh 432).2.1
  refine q_xald rfl (Or.inl rfl) k432 n432 (by omega) (by omega) ?_
  have k406 : (μ.2.1 406).1 = 16 := by rw [g.sh]; exact (hE.sh 406).1
  have n406 : (μ.2.1 406).2.1 = 1427 := by rw [g.sh]; exact (hE.sh 406).2.1
  refine q_iast rfl k406 n406 (by omega) (by omega) ?_
  have en : (((1427 : Int32) * w1) + w2).toInt.toNat = w2.toInt.toNat := by omega
  rw [en]
  have hh : dx_in (dx_seg (dx_ce 406).iv w2.toInt.toNat) (μ.2.2.1 432 (w2.toInt.toNat)).toInt := by rw [← (hi32 w2.toInt.toNat (by omega)).1]; exact g.hi 432 _
  exact hk _ _ ν [] (dw_si μ 406 w2.toInt.toNat (μ.2.2.1 432 (w2.toInt.toNat))) (List.Mem.head _) (post_mk g rfl (up_hi g.hi hh) (up_fr (List.Mem.head _)) (by decide) (by decide) (fun _ _ => rfl) ⟨(show (0 : Int) ≤ ν 0 ∧ ν 0 ≤ 0 from ⟨by omega, by omega⟩), (show (0 : Int) ≤ ν 1 ∧ ν 1 ≤ 1426 from ⟨by omega, by omega⟩), trivial⟩ trivial trivial rfl trivial ⟨⟨by decide, (show fl_P 15 (ν 1 + 1) (dw_si μ 406 w2.toInt.toNat (μ.2.2.1 432 (w2.toInt.toNat))).2.2.1 from fun j hj hx => by
      show dw_up μ.2.2.1 406 w2.toInt.toNat (μ.2.2.1 432 (w2.toInt.toNat)) 432 j = dw_up μ.2.2.1 406 w2.toInt.toNat (μ.2.2.1 432 (w2.toInt.toNat)) 406 j
      rw [up_ne (a' := 432) (Or.inl (by decide))]
      by_cases e : j = w2.toInt.toNat
      · rw [e, up_at]
      · rw [up_ne (Or.inr e)]; exact p0 j hj (by omega))⟩, trivial⟩)
set_option maxHeartbeats 2000000 in
theorem sp_reZero1 {SH : dw_Sh} {TT : Nat → dw_T} {K : dw_K} (hE : (EE SH TT).ok) : dx_SOK (EE SH TT) (pr_X12_restore K) 25 sg_reZero1 := by
  intro ν ls vs args rest μ bc bs hvs hargs hcat g hk
  obtain ⟨v0, v1, rfl, e0, e1⟩ := vs2 (f := fun i => ls[i]?) (a := 0) (b := 1) hvs
  obtain rfl := ar0 hargs
  obtain ⟨g0, g1, -⟩ := g.gl
  rw [show v0 = some (.ref 404) from gV_th g0] at e0
  obtain ⟨-, w1, h1, q1⟩ := g1
  rw [h1] at e1
  have z0 : ν 0 = 0 := g.z
  have cst0 : (0 : Int32).toInt = 0 := rfl
  refine q_ic rfl ?_
  exact hk _ _ ν [.int 0] (μ) (List.Mem.head _) (post_mk g rfl g.hi (fun _ _ => ⟨rfl, rfl⟩) (by decide) (by decide) (fun _ _ => rfl) ⟨(show (0 : Int) ≤ ν 0 ∧ ν 0 ≤ 0 from ⟨by omega, by omega⟩), trivial⟩ trivial ⟨⟨by decide, 0, rfl, by rw [z0]; rfl⟩, trivial⟩ rfl trivial ⟨⟨by decide, (show fl_P 16 (ν 0 + 0) (μ).2.2.1 from fun j _ hj => absurd hj (by omega))⟩, trivial⟩)
set_option maxHeartbeats 2000000 in
theorem sp_waZero {SH : dw_Sh} {TT : Nat → dw_T} {K : dw_K} (hE : (EE SH TT).ok) : dx_SOK (EE SH TT) (pr_X12_walk K) 102 sg_waZero := by
  intro ν ls vs args rest μ bc bs hvs hargs hcat g hk
  obtain ⟨v0, rfl, e0⟩ := vs1 (f := fun i => ls[i]?) (a := 0) hvs
  obtain rfl := ar0 hargs
  obtain ⟨g0, -⟩ := g.gl
  rw [show v0 = some (.ref 404) from gV_th g0] at e0
  have z0 : ν 0 = 0 := g.z
  have cst1 : (1 : Int32).toInt = 1 := rfl
  refine q_ic rfl ?_
  have hs := fl_sum_le (f := fun c => (μ.2.2.1 425 c).toInt) (l := -2147483648) (u := 2147483647) 144 (fun c _ => ⟨dx_b1 _, dx_b2 _⟩)
  obtain ⟨ν', hag, hn0⟩ := nu1 ν 1 (fl_sum (fun c => (μ.2.2.1 425 c).toInt) 144)
  have a0 : ν' 0 = ν 0 := hag 0 (by decide)
  exact hk _ _ ν' [.int 1] (μ) (List.Mem.head _) (post_mk g rfl g.hi (fun _ _ => ⟨rfl, rfl⟩) (by decide) (by decide) hag ⟨(show (0 : Int) ≤ ν' 0 ∧ ν' 0 ≤ 0 from ⟨by omega, by omega⟩), (show (-309237645312 : Int) ≤ ν' 1 ∧ ν' 1 ≤ 309237645312 from ⟨by omega, by omega⟩), trivial⟩ trivial ⟨⟨by decide, 1, rfl, by rw [a0, z0]; rfl⟩, trivial⟩ rfl trivial ⟨⟨by decide, (show fl_P 13 (ν' 1 + 0) (μ).2.2.1 from by show ν' 1 + 0 = fl_sum (fun c => (μ.2.2.1 425 c).toInt) 144; omega)⟩, trivial⟩)
set_option maxHeartbeats 2000000 in
theorem sp_st13_2 {SH : dw_Sh} {TT : Nat → dw_T} {K : dw_K} (hE : (EE SH TT).ok) : dx_SOK (EE SH TT) (pr_X9_says K) 13 sg_st13_2 := by
  intro ν ls vs args rest μ bc bs hvs hargs hcat g hk
  obtain rfl := vs0 (f := fun i => ls[i]?) hvs
  obtain ⟨x0, rfl⟩ := ar1 hargs
  obtain ⟨g0, -⟩ := g.gl
  obtain rfl : x0 = .ref 1000003 := Option.some.inj (gV_th g0)
  have z0 : ν 0 = 0 := g.z
  have hs : dw_isS 1000003 := isS 2 (by decide)
  have hc : dw_cats rest ≤ 8 := by omega
  refine q_callT1 rfl hs hc (t_length hs ?_)
  rw [show Int32.ofNat (dw_sb (dw_sx 1000003)).length = 5 from by decide +kernel]
  exact hk _ _ ν [.int 5] (μ) (List.Mem.head _) (post_mk g rfl g.hi (fun _ _ => ⟨rfl, rfl⟩) (by decide) (by decide) (fun _ _ => rfl) ⟨(show (0 : Int) ≤ ν 0 ∧ ν 0 ≤ 0 from ⟨by omega, by omega⟩), trivial⟩ trivial ⟨⟨by decide, 5, rfl, by rw [z0]; rfl⟩, trivial⟩ rfl trivial trivial)
set_option maxHeartbeats 2000000 in
theorem sp_st13_7 {SH : dw_Sh} {TT : Nat → dw_T} {K : dw_K} (hE : (EE SH TT).ok) : dx_SOK (EE SH TT) (pr_X9_says K) 13 sg_st13_7 := by
  intro ν ls vs args rest μ bc bs hvs hargs hcat g hk
  obtain rfl := vs0 (f := fun i => ls[i]?) hvs
  obtain ⟨x0, rfl⟩ := ar1 hargs
  obtain ⟨g0, -⟩ := g.gl
  obtain rfl : x0 = .ref 1000008 := Option.some.inj (gV_th g0)
  have z0 : ν 0 = 0 := g.z
  have hs : dw_isS 1000008 := isS 7 (by decide)
  have hc : dw_cats rest ≤ 8 := by omega
  refine q_callT1 rfl hs hc (t_length hs ?_)
  rw [show Int32.ofNat (dw_sb (dw_sx 1000008)).length = 4 from by decide +kernel]
  exact hk _ _ ν [.int 4] (μ) (List.Mem.head _) (post_mk g rfl g.hi (fun _ _ => ⟨rfl, rfl⟩) (by decide) (by decide) (fun _ _ => rfl) ⟨(show (0 : Int) ≤ ν 0 ∧ ν 0 ≤ 0 from ⟨by omega, by omega⟩), trivial⟩ trivial ⟨⟨by decide, 4, rfl, by rw [z0]; rfl⟩, trivial⟩ rfl trivial trivial)
set_option maxHeartbeats 2000000 in
theorem sp_st13_12 {SH : dw_Sh} {TT : Nat → dw_T} {K : dw_K} (hE : (EE SH TT).ok) : dx_SOK (EE SH TT) (pr_X9_says K) 13 sg_st13_12 := by
  intro ν ls vs args rest μ bc bs hvs hargs hcat g hk
  obtain rfl := vs0 (f := fun i => ls[i]?) hvs
  obtain ⟨x0, rfl⟩ := ar1 hargs
  obtain ⟨g0, -⟩ := g.gl
  obtain rfl : x0 = .ref 1000013 := Option.some.inj (gV_th g0)
  have z0 : ν 0 = 0 := g.z
  have hs : dw_isS 1000013 := isS 12 (by decide)
  have hc : dw_cats rest ≤ 8 := by omega
  refine q_callT1 rfl hs hc (t_length hs ?_)
  rw [show Int32.ofNat (dw_sb (dw_sx 1000013)).length = 5 from by decide +kernel]
  exact hk _ _ ν [.int 5] (μ) (List.Mem.head _) (post_mk g rfl g.hi (fun _ _ => ⟨rfl, rfl⟩) (by decide) (by decide) (fun _ _ => rfl) ⟨(show (0 : Int) ≤ ν 0 ∧ ν 0 ≤ 0 from ⟨by omega, by omega⟩), trivial⟩ trivial ⟨⟨by decide, 5, rfl, by rw [z0]; rfl⟩, trivial⟩ rfl trivial trivial)
set_option maxHeartbeats 2000000 in
theorem sp_st13_17 {SH : dw_Sh} {TT : Nat → dw_T} {K : dw_K} (hE : (EE SH TT).ok) : dx_SOK (EE SH TT) (pr_X9_says K) 13 sg_st13_17 := by
  intro ν ls vs args rest μ bc bs hvs hargs hcat g hk
  obtain rfl := vs0 (f := fun i => ls[i]?) hvs
  obtain ⟨x0, rfl⟩ := ar1 hargs
  obtain ⟨g0, -⟩ := g.gl
  obtain rfl : x0 = .ref 1000018 := Option.some.inj (gV_th g0)
  have z0 : ν 0 = 0 := g.z
  have hs : dw_isS 1000018 := isS 17 (by decide)
  have hc : dw_cats rest ≤ 8 := by omega
  refine q_callT1 rfl hs hc (t_length hs ?_)
  rw [show Int32.ofNat (dw_sb (dw_sx 1000018)).length = 5 from by decide +kernel]
  exact hk _ _ ν [.int 5] (μ) (List.Mem.head _) (post_mk g rfl g.hi (fun _ _ => ⟨rfl, rfl⟩) (by decide) (by decide) (fun _ _ => rfl) ⟨(show (0 : Int) ≤ ν 0 ∧ ν 0 ≤ 0 from ⟨by omega, by omega⟩), trivial⟩ trivial ⟨⟨by decide, 5, rfl, by rw [z0]; rfl⟩, trivial⟩ rfl trivial trivial)
set_option maxHeartbeats 2000000 in
theorem sp_st13_22 {SH : dw_Sh} {TT : Nat → dw_T} {K : dw_K} (hE : (EE SH TT).ok) : dx_SOK (EE SH TT) (pr_X9_says K) 13 sg_st13_22 := by
  intro ν ls vs args rest μ bc bs hvs hargs hcat g hk
  obtain rfl := vs0 (f := fun i => ls[i]?) hvs
  obtain ⟨x0, rfl⟩ := ar1 hargs
  obtain ⟨g0, -⟩ := g.gl
  obtain rfl : x0 = .ref 1000023 := Option.some.inj (gV_th g0)
  have z0 : ν 0 = 0 := g.z
  have hs : dw_isS 1000023 := isS 22 (by decide)
  have hc : dw_cats rest ≤ 8 := by omega
  refine q_callT1 rfl hs hc (t_length hs ?_)
  rw [show Int32.ofNat (dw_sb (dw_sx 1000023)).length = 2 from by decide +kernel]
  exact hk _ _ ν [.int 2] (μ) (List.Mem.head _) (post_mk g rfl g.hi (fun _ _ => ⟨rfl, rfl⟩) (by decide) (by decide) (fun _ _ => rfl) ⟨(show (0 : Int) ≤ ν 0 ∧ ν 0 ≤ 0 from ⟨by omega, by omega⟩), trivial⟩ trivial ⟨⟨by decide, 2, rfl, by rw [z0]; rfl⟩, trivial⟩ rfl trivial trivial)
set_option maxHeartbeats 2000000 in
theorem sp_st25_1 {SH : dw_Sh} {TT : Nat → dw_T} {K : dw_K} (hE : (EE SH TT).ok) : dx_SOK (EE SH TT) (pr_X9_says K) 25 sg_st25_1 := by
  intro ν ls vs args rest μ bc bs hvs hargs hcat g hk
  obtain rfl := vs0 (f := fun i => ls[i]?) hvs
  obtain ⟨x0, rfl⟩ := ar1 hargs
  obtain ⟨g0, -⟩ := g.gl
  obtain rfl : x0 = .ref 1000002 := Option.some.inj (gV_th g0)
  have z0 : ν 0 = 0 := g.z
  have hs : dw_isS 1000002 := isS 1 (by decide)
  have hc : dw_cats rest ≤ 8 := by omega
  refine q_callT1 rfl hs hc (t_length hs ?_)
  rw [show Int32.ofNat (dw_sb (dw_sx 1000002)).length = 4 from by decide +kernel]
  exact hk _ _ ν [.int 4] (μ) (List.Mem.head _) (post_mk g rfl g.hi (fun _ _ => ⟨rfl, rfl⟩) (by decide) (by decide) (fun _ _ => rfl) ⟨(show (0 : Int) ≤ ν 0 ∧ ν 0 ≤ 0 from ⟨by omega, by omega⟩), trivial⟩ trivial ⟨⟨by decide, 4, rfl, by rw [z0]; rfl⟩, trivial⟩ rfl trivial trivial)
set_option maxHeartbeats 2000000 in
theorem sp_st25_6 {SH : dw_Sh} {TT : Nat → dw_T} {K : dw_K} (hE : (EE SH TT).ok) : dx_SOK (EE SH TT) (pr_X9_says K) 25 sg_st25_6 := by
  intro ν ls vs args rest μ bc bs hvs hargs hcat g hk
  obtain rfl := vs0 (f := fun i => ls[i]?) hvs
  obtain ⟨x0, rfl⟩ := ar1 hargs
  obtain ⟨g0, -⟩ := g.gl
  obtain rfl : x0 = .ref 1000007 := Option.some.inj (gV_th g0)
  have z0 : ν 0 = 0 := g.z
  have hs : dw_isS 1000007 := isS 6 (by decide)
  have hc : dw_cats rest ≤ 8 := by omega
  refine q_callT1 rfl hs hc (t_length hs ?_)
  rw [show Int32.ofNat (dw_sb (dw_sx 1000007)).length = 5 from by decide +kernel]
  exact hk _ _ ν [.int 5] (μ) (List.Mem.head _) (post_mk g rfl g.hi (fun _ _ => ⟨rfl, rfl⟩) (by decide) (by decide) (fun _ _ => rfl) ⟨(show (0 : Int) ≤ ν 0 ∧ ν 0 ≤ 0 from ⟨by omega, by omega⟩), trivial⟩ trivial ⟨⟨by decide, 5, rfl, by rw [z0]; rfl⟩, trivial⟩ rfl trivial trivial)
set_option maxHeartbeats 2000000 in
theorem sp_st25_11 {SH : dw_Sh} {TT : Nat → dw_T} {K : dw_K} (hE : (EE SH TT).ok) : dx_SOK (EE SH TT) (pr_X9_says K) 25 sg_st25_11 := by
  intro ν ls vs args rest μ bc bs hvs hargs hcat g hk
  obtain rfl := vs0 (f := fun i => ls[i]?) hvs
  obtain ⟨x0, rfl⟩ := ar1 hargs
  obtain ⟨g0, -⟩ := g.gl
  obtain rfl : x0 = .ref 1000012 := Option.some.inj (gV_th g0)
  have z0 : ν 0 = 0 := g.z
  have hs : dw_isS 1000012 := isS 11 (by decide)
  have hc : dw_cats rest ≤ 8 := by omega
  refine q_callT1 rfl hs hc (t_length hs ?_)
  rw [show Int32.ofNat (dw_sb (dw_sx 1000012)).length = 4 from by decide +kernel]
  exact hk _ _ ν [.int 4] (μ) (List.Mem.head _) (post_mk g rfl g.hi (fun _ _ => ⟨rfl, rfl⟩) (by decide) (by decide) (fun _ _ => rfl) ⟨(show (0 : Int) ≤ ν 0 ∧ ν 0 ≤ 0 from ⟨by omega, by omega⟩), trivial⟩ trivial ⟨⟨by decide, 4, rfl, by rw [z0]; rfl⟩, trivial⟩ rfl trivial trivial)
set_option maxHeartbeats 2000000 in
theorem sp_st25_16 {SH : dw_Sh} {TT : Nat → dw_T} {K : dw_K} (hE : (EE SH TT).ok) : dx_SOK (EE SH TT) (pr_X9_says K) 25 sg_st25_16 := by
  intro ν ls vs args rest μ bc bs hvs hargs hcat g hk
  obtain rfl := vs0 (f := fun i => ls[i]?) hvs
  obtain ⟨x0, rfl⟩ := ar1 hargs
  obtain ⟨g0, -⟩ := g.gl
  obtain rfl : x0 = .ref 1000017 := Option.some.inj (gV_th g0)
  have z0 : ν 0 = 0 := g.z
  have hs : dw_isS 1000017 := isS 16 (by decide)
  have hc : dw_cats rest ≤ 8 := by omega
  refine q_callT1 rfl hs hc (t_length hs ?_)
  rw [show Int32.ofNat (dw_sb (dw_sx 1000017)).length = 5 from by decide +kernel]
  exact hk _ _ ν [.int 5] (μ) (List.Mem.head _) (post_mk g rfl g.hi (fun _ _ => ⟨rfl, rfl⟩) (by decide) (by decide) (fun _ _ => rfl) ⟨(show (0 : Int) ≤ ν 0 ∧ ν 0 ≤ 0 from ⟨by omega, by omega⟩), trivial⟩ trivial ⟨⟨by decide, 5, rfl, by rw [z0]; rfl⟩, trivial⟩ rfl trivial trivial)
set_option maxHeartbeats 2000000 in
theorem sp_st25_21 {SH : dw_Sh} {TT : Nat → dw_T} {K : dw_K} (hE : (EE SH TT).ok) : dx_SOK (EE SH TT) (pr_X9_says K) 25 sg_st25_21 := by
  intro ν ls vs args rest μ bc bs hvs hargs hcat g hk
  obtain rfl := vs0 (f := fun i => ls[i]?) hvs
  obtain ⟨x0, rfl⟩ := ar1 hargs
  obtain ⟨g0, -⟩ := g.gl
  obtain rfl : x0 = .ref 1000022 := Option.some.inj (gV_th g0)
  have z0 : ν 0 = 0 := g.z
  have hs : dw_isS 1000022 := isS 21 (by decide)
  have hc : dw_cats rest ≤ 8 := by omega
  refine q_callT1 rfl hs hc (t_length hs ?_)
  rw [show Int32.ofNat (dw_sb (dw_sx 1000022)).length = 3 from by decide +kernel]
  exact hk _ _ ν [.int 3] (μ) (List.Mem.head _) (post_mk g rfl g.hi (fun _ _ => ⟨rfl, rfl⟩) (by decide) (by decide) (fun _ _ => rfl) ⟨(show (0 : Int) ≤ ν 0 ∧ ν 0 ≤ 0 from ⟨by omega, by omega⟩), trivial⟩ trivial ⟨⟨by decide, 3, rfl, by rw [z0]; rfl⟩, trivial⟩ rfl trivial trivial)
set_option maxHeartbeats 2000000 in
theorem sp_st43_0 {SH : dw_Sh} {TT : Nat → dw_T} {K : dw_K} (hE : (EE SH TT).ok) : dx_SOK (EE SH TT) (pr_X9_says K) 43 sg_st43_0 := by
  intro ν ls vs args rest μ bc bs hvs hargs hcat g hk
  obtain rfl := vs0 (f := fun i => ls[i]?) hvs
  obtain ⟨x0, x1, rfl⟩ := ar2 hargs
  obtain ⟨g0, g1, -⟩ := g.gl
  obtain rfl : x0 = .ref 1000001 := Option.some.inj (gV_th g0)
  obtain ⟨-, w1, h1, q1⟩ := g1
  obtain rfl : x1 = .int w1 := Option.some.inj h1
  have b1 : (0 : Int) ≤ ν 1 ∧ ν 1 ≤ 3 := g.iv 1 (by decide)
  have z0 : ν 0 = 0 := g.z
  have hs : dw_isS 1000001 := isS 0 (by decide)
  have hc : dw_cats rest ≤ 8 := by omega
  have hn : (dw_sb (dw_sx 1000001)).length = 4 := by decide +kernel
  refine q_callT2 rfl hs hc (t_charAt hs (by omega) (by rw [hn]; omega) (by decide +kernel) (fun w l1 l2 => ?_))
  obtain ⟨ν', hag, hn0⟩ := nu1 ν 2 (w.toInt)
  have a0 : ν' 0 = ν 0 := hag 0 (by decide)
  have a1 : ν' 1 = ν 1 := hag 1 (by decide)
  exact hk _ _ ν' [.int w] (μ) (List.Mem.head _) (post_mk g rfl g.hi (fun _ _ => ⟨rfl, rfl⟩) (by decide) (by decide) hag ⟨(show (0 : Int) ≤ ν' 0 ∧ ν' 0 ≤ 0 from ⟨by omega, by omega⟩), (show (0 : Int) ≤ ν' 1 ∧ ν' 1 ≤ 3 from ⟨by omega, by omega⟩), (show (0 : Int) ≤ ν' 2 ∧ ν' 2 ≤ 65535 from ⟨by omega, by omega⟩), trivial⟩ trivial ⟨⟨by decide, w, rfl, by show _ = ν' 2 + 0; omega⟩, trivial⟩ rfl trivial trivial)
set_option maxHeartbeats 2000000 in
theorem sp_st43_5 {SH : dw_Sh} {TT : Nat → dw_T} {K : dw_K} (hE : (EE SH TT).ok) : dx_SOK (EE SH TT) (pr_X9_says K) 43 sg_st43_5 := by
  intro ν ls vs args rest μ bc bs hvs hargs hcat g hk
  obtain rfl := vs0 (f := fun i => ls[i]?) hvs
  obtain ⟨x0, x1, rfl⟩ := ar2 hargs
  obtain ⟨g0, g1, -⟩ := g.gl
  obtain rfl : x0 = .ref 1000006 := Option.some.inj (gV_th g0)
  obtain ⟨-, w1, h1, q1⟩ := g1
  obtain rfl : x1 = .int w1 := Option.some.inj h1
  have b1 : (0 : Int) ≤ ν 1 ∧ ν 1 ≤ 4 := g.iv 1 (by decide)
  have z0 : ν 0 = 0 := g.z
  have hs : dw_isS 1000006 := isS 5 (by decide)
  have hc : dw_cats rest ≤ 8 := by omega
  have hn : (dw_sb (dw_sx 1000006)).length = 5 := by decide +kernel
  refine q_callT2 rfl hs hc (t_charAt hs (by omega) (by rw [hn]; omega) (by decide +kernel) (fun w l1 l2 => ?_))
  obtain ⟨ν', hag, hn0⟩ := nu1 ν 2 (w.toInt)
  have a0 : ν' 0 = ν 0 := hag 0 (by decide)
  have a1 : ν' 1 = ν 1 := hag 1 (by decide)
  exact hk _ _ ν' [.int w] (μ) (List.Mem.head _) (post_mk g rfl g.hi (fun _ _ => ⟨rfl, rfl⟩) (by decide) (by decide) hag ⟨(show (0 : Int) ≤ ν' 0 ∧ ν' 0 ≤ 0 from ⟨by omega, by omega⟩), (show (0 : Int) ≤ ν' 1 ∧ ν' 1 ≤ 4 from ⟨by omega, by omega⟩), (show (0 : Int) ≤ ν' 2 ∧ ν' 2 ≤ 65535 from ⟨by omega, by omega⟩), trivial⟩ trivial ⟨⟨by decide, w, rfl, by show _ = ν' 2 + 0; omega⟩, trivial⟩ rfl trivial trivial)
set_option maxHeartbeats 2000000 in
theorem sp_st43_10 {SH : dw_Sh} {TT : Nat → dw_T} {K : dw_K} (hE : (EE SH TT).ok) : dx_SOK (EE SH TT) (pr_X9_says K) 43 sg_st43_10 := by
  intro ν ls vs args rest μ bc bs hvs hargs hcat g hk
  obtain rfl := vs0 (f := fun i => ls[i]?) hvs
  obtain ⟨x0, x1, rfl⟩ := ar2 hargs
  obtain ⟨g0, g1, -⟩ := g.gl
  obtain rfl : x0 = .ref 1000011 := Option.some.inj (gV_th g0)
  obtain ⟨-, w1, h1, q1⟩ := g1
  obtain rfl : x1 = .int w1 := Option.some.inj h1
  have b1 : (0 : Int) ≤ ν 1 ∧ ν 1 ≤ 1 := g.iv 1 (by decide)
  have z0 : ν 0 = 0 := g.z
  have hs : dw_isS 1000011 := isS 10 (by decide)
  have hc : dw_cats rest ≤ 8 := by omega
  have hn : (dw_sb (dw_sx 1000011)).length = 2 := by decide +kernel
  refine q_callT2 rfl hs hc (t_charAt hs (by omega) (by rw [hn]; omega) (by decide +kernel) (fun w l1 l2 => ?_))
  obtain ⟨ν', hag, hn0⟩ := nu1 ν 2 (w.toInt)
  have a0 : ν' 0 = ν 0 := hag 0 (by decide)
  have a1 : ν' 1 = ν 1 := hag 1 (by decide)
  exact hk _ _ ν' [.int w] (μ) (List.Mem.head _) (post_mk g rfl g.hi (fun _ _ => ⟨rfl, rfl⟩) (by decide) (by decide) hag ⟨(show (0 : Int) ≤ ν' 0 ∧ ν' 0 ≤ 0 from ⟨by omega, by omega⟩), (show (0 : Int) ≤ ν' 1 ∧ ν' 1 ≤ 1 from ⟨by omega, by omega⟩), (show (0 : Int) ≤ ν' 2 ∧ ν' 2 ≤ 65535 from ⟨by omega, by omega⟩), trivial⟩ trivial ⟨⟨by decide, w, rfl, by show _ = ν' 2 + 0; omega⟩, trivial⟩ rfl trivial trivial)
set_option maxHeartbeats 2000000 in
theorem sp_st43_15 {SH : dw_Sh} {TT : Nat → dw_T} {K : dw_K} (hE : (EE SH TT).ok) : dx_SOK (EE SH TT) (pr_X9_says K) 43 sg_st43_15 := by
  intro ν ls vs args rest μ bc bs hvs hargs hcat g hk
  obtain rfl := vs0 (f := fun i => ls[i]?) hvs
  obtain ⟨x0, x1, rfl⟩ := ar2 hargs
  obtain ⟨g0, g1, -⟩ := g.gl
  obtain rfl : x0 = .ref 1000016 := Option.some.inj (gV_th g0)
  obtain ⟨-, w1, h1, q1⟩ := g1
  obtain rfl : x1 = .int w1 := Option.some.inj h1
  have b1 : (0 : Int) ≤ ν 1 ∧ ν 1 ≤ 2 := g.iv 1 (by decide)
  have z0 : ν 0 = 0 := g.z
  have hs : dw_isS 1000016 := isS 15 (by decide)
  have hc : dw_cats rest ≤ 8 := by omega
  have hn : (dw_sb (dw_sx 1000016)).length = 3 := by decide +kernel
  refine q_callT2 rfl hs hc (t_charAt hs (by omega) (by rw [hn]; omega) (by decide +kernel) (fun w l1 l2 => ?_))
  obtain ⟨ν', hag, hn0⟩ := nu1 ν 2 (w.toInt)
  have a0 : ν' 0 = ν 0 := hag 0 (by decide)
  have a1 : ν' 1 = ν 1 := hag 1 (by decide)
  exact hk _ _ ν' [.int w] (μ) (List.Mem.head _) (post_mk g rfl g.hi (fun _ _ => ⟨rfl, rfl⟩) (by decide) (by decide) hag ⟨(show (0 : Int) ≤ ν' 0 ∧ ν' 0 ≤ 0 from ⟨by omega, by omega⟩), (show (0 : Int) ≤ ν' 1 ∧ ν' 1 ≤ 2 from ⟨by omega, by omega⟩), (show (0 : Int) ≤ ν' 2 ∧ ν' 2 ≤ 65535 from ⟨by omega, by omega⟩), trivial⟩ trivial ⟨⟨by decide, w, rfl, by show _ = ν' 2 + 0; omega⟩, trivial⟩ rfl trivial trivial)
set_option maxHeartbeats 2000000 in
theorem sp_st43_20 {SH : dw_Sh} {TT : Nat → dw_T} {K : dw_K} (hE : (EE SH TT).ok) : dx_SOK (EE SH TT) (pr_X9_says K) 43 sg_st43_20 := by
  intro ν ls vs args rest μ bc bs hvs hargs hcat g hk
  obtain rfl := vs0 (f := fun i => ls[i]?) hvs
  obtain ⟨x0, x1, rfl⟩ := ar2 hargs
  obtain ⟨g0, g1, -⟩ := g.gl
  obtain rfl : x0 = .ref 1000021 := Option.some.inj (gV_th g0)
  obtain ⟨-, w1, h1, q1⟩ := g1
  obtain rfl : x1 = .int w1 := Option.some.inj h1
  have b1 : (0 : Int) ≤ ν 1 ∧ ν 1 ≤ 2 := g.iv 1 (by decide)
  have z0 : ν 0 = 0 := g.z
  have hs : dw_isS 1000021 := isS 20 (by decide)
  have hc : dw_cats rest ≤ 8 := by omega
  have hn : (dw_sb (dw_sx 1000021)).length = 3 := by decide +kernel
  refine q_callT2 rfl hs hc (t_charAt hs (by omega) (by rw [hn]; omega) (by decide +kernel) (fun w l1 l2 => ?_))
  obtain ⟨ν', hag, hn0⟩ := nu1 ν 2 (w.toInt)
  have a0 : ν' 0 = ν 0 := hag 0 (by decide)
  have a1 : ν' 1 = ν 1 := hag 1 (by decide)
  exact hk _ _ ν' [.int w] (μ) (List.Mem.head _) (post_mk g rfl g.hi (fun _ _ => ⟨rfl, rfl⟩) (by decide) (by decide) hag ⟨(show (0 : Int) ≤ ν' 0 ∧ ν' 0 ≤ 0 from ⟨by omega, by omega⟩), (show (0 : Int) ≤ ν' 1 ∧ ν' 1 ≤ 2 from ⟨by omega, by omega⟩), (show (0 : Int) ≤ ν' 2 ∧ ν' 2 ≤ 65535 from ⟨by omega, by omega⟩), trivial⟩ trivial ⟨⟨by decide, w, rfl, by show _ = ν' 2 + 0; omega⟩, trivial⟩ rfl trivial trivial)
set_option maxHeartbeats 2000000 in
theorem sp_st43_25 {SH : dw_Sh} {TT : Nat → dw_T} {K : dw_K} (hE : (EE SH TT).ok) : dx_SOK (EE SH TT) (pr_X9_says K) 43 sg_st43_25 := by
  intro ν ls vs args rest μ bc bs hvs hargs hcat g hk
  obtain rfl := vs0 (f := fun i => ls[i]?) hvs
  obtain ⟨x0, x1, rfl⟩ := ar2 hargs
  obtain ⟨g0, g1, -⟩ := g.gl
  obtain rfl : x0 = .ref 1000026 := Option.some.inj (gV_th g0)
  obtain ⟨-, w1, h1, q1⟩ := g1
  obtain rfl : x1 = .int w1 := Option.some.inj h1
  have b1 : (0 : Int) ≤ ν 1 ∧ ν 1 ≤ 3 := g.iv 1 (by decide)
  have z0 : ν 0 = 0 := g.z
  have hs : dw_isS 1000026 := isS 25 (by decide)
  have hc : dw_cats rest ≤ 8 := by omega
  have hn : (dw_sb (dw_sx 1000026)).length = 4 := by decide +kernel
  refine q_callT2 rfl hs hc (t_charAt hs (by omega) (by rw [hn]; omega) (by decide +kernel) (fun w l1 l2 => ?_))
  obtain ⟨ν', hag, hn0⟩ := nu1 ν 2 (w.toInt)
  have a0 : ν' 0 = ν 0 := hag 0 (by decide)
  have a1 : ν' 1 = ν 1 := hag 1 (by decide)
  exact hk _ _ ν' [.int w] (μ) (List.Mem.head _) (post_mk g rfl g.hi (fun _ _ => ⟨rfl, rfl⟩) (by decide) (by decide) hag ⟨(show (0 : Int) ≤ ν' 0 ∧ ν' 0 ≤ 0 from ⟨by omega, by omega⟩), (show (0 : Int) ≤ ν' 1 ∧ ν' 1 ≤ 3 from ⟨by omega, by omega⟩), (show (0 : Int) ≤ ν' 2 ∧ ν' 2 ≤ 65535 from ⟨by omega, by omega⟩), trivial⟩ trivial ⟨⟨by decide, w, rfl, by show _ = ν' 2 + 0; omega⟩, trivial⟩ rfl trivial trivial)
end
section
set_option maxHeartbeats 2000000 in
theorem sp_loadsKind {SH : dw_Sh} {TT : Nat → dw_T} {K : dw_K} (hE : (EE SH TT).ok) : dx_SOK (EE SH TT) (pr_X12_loads K) 136 sg_loadsKind := by
  intro ν ls vs args rest μ bc bs hvs hargs hcat g hk
  obtain ⟨v0, v1, rfl, e0, e1⟩ := vs2 (f := fun i => ls[i]?) (a := 0) (b := 1) hvs
  obtain rfl := ar0 hargs
  obtain ⟨g0, g1, -⟩ := g.gl
  rw [show v0 = some (.ref 404) from gV_th g0] at e0
  obtain ⟨-, w1, h1, q1⟩ := g1
  rw [h1] at e1
  have f0 : (μ.2.2.1 406 0).toInt = ν 2 + 0 := (g.fa _ (List.Mem.head _)).2
  have p0 : fl_P 0 (ν 0 + 0) μ.2.2.1 := (g.fl _ (List.Mem.head _)).2
  have p1 : fl_P 5 (ν 3 + 0) μ.2.2.1 := (g.fl _ (List.Mem.tail _ (List.Mem.head _))).2
  have p2 : fl_P 4 (ν 1 + 0) μ.2.2.1 := (g.fl _ (List.Mem.tail _ (List.Mem.tail _ (List.Mem.head _)))).2
  have b1 : (0 : Int) ≤ ν 1 ∧ ν 1 ≤ 143 := g.iv 1 (by decide)
  have b2 : (1 : Int) ≤ ν 2 ∧ ν 2 ≤ 12 := g.iv 2 (by decide)
  have b3 : (0 : Int) ≤ ν 3 ∧ ν 3 ≤ 144 := g.iv 3 (by decide)
  have d0 : ν 1 - ν 3 ≤ (-1) := (g.dc _ (List.Mem.head _)).2.2
  have z0 : ν 0 = 0 := g.z
  refine q_ald rfl e0 ?_
  have k404 : (μ.2.1 404).1 = 12 := by rw [g.sh]; exact (hE.sh 404).1
  have n404 : (μ.2.1 404).2.1 = 57 := by rw [g.sh]; exact (hE.sh 404).2.1
  have r404_31 : (μ.2.1 404).2.2 31 = some 419 := by rw [g.sh]; exact (hE.sh 404).2.2 31
  refine q_getr rfl k404 r404_31 ?_
  refine q_ild rfl e1 ?_
  refine q_ald rfl e0 ?_
  have r404_6 : (μ.2.1 404).2.2 6 = some 406 := by rw [g.sh]; exact (hE.sh 404).2.2 6
  refine q_getr rfl k404 r404_6 ?_
  have cst29 : (29 : Int32).toInt = 29 := rfl
  refine q_ic rfl ?_
  refine q_ild rfl e1 ?_
  refine q_add rfl ?_
  have t1 : ((29 : Int32) + w1).toInt = ((29 : Int32)).toInt + (w1).toInt := i_add (by first | omega | (simp; omega)) (by first | omega | (simp; omega))
  have k406 : (μ.2.1 406).1 = 16 := by rw [g.sh]; exact (hE.sh 406).1
  have n406 : (μ.2.1 406).2.1 = 1427 := by rw [g.sh]; exact (hE.sh 406).2.1
  refine q_xald rfl (Or.inl rfl) k406 n406 (by omega) (by omega) ?_
  have k419 : (μ.2.1 419).1 = 16 := by rw [g.sh]; exact (hE.sh 419).1
  have n419 : (μ.2.1 419).2.1 = 144 := by rw [g.sh]; exact (hE.sh 419).2.1
  refine q_iast rfl k419 n419 (by omega) (by omega) ?_
  have w29 : ((29 : Int32) + w1).toInt.toNat = 29 + w1.toInt.toNat := by have e : (29 : Int32).toInt = 29 := rfl; omega
  have hv := g.hi 406 (29 + w1.toInt.toNat)
  rw [show dx_seg ((EE SH TT).ce 406).iv (29 + w1.toInt.toNat) = (0, 7) from hi406 _ (by omega)] at hv
  have hv1 : (0 : Int) ≤ (μ.2.2.1 406 (29 + w1.toInt.toNat)).toInt := hv.1
  have hv2 : (μ.2.2.1 406 (29 + w1.toInt.toNat)).toInt ≤ 7 := hv.2
  rw [w29]
  obtain ⟨u1, u2, u3⟩ := p0
  simp only [Nat.zero_add] at u1 u2 u3
  exact hk _ _ ν [] (dw_si μ 419 w1.toInt.toNat (μ.2.2.1 406 (29 + w1.toInt.toNat))) (List.Mem.head _) (post_mk g rfl (up_hi g.hi (by rw [show dx_seg ((EE SH TT).ce 419).iv w1.toInt.toNat = (0, 7) from hi419 _ (by omega)]; exact hv)) (up_fr (List.Mem.head _)) (by decide) (by decide) (fun _ _ => rfl) ⟨(show (0 : Int) ≤ ν 0 ∧ ν 0 ≤ 0 from ⟨by omega, by omega⟩), (show (0 : Int) ≤ ν 1 ∧ ν 1 ≤ 143 from ⟨by omega, by omega⟩), (show (1 : Int) ≤ ν 2 ∧ ν 2 ≤ 12 from ⟨by omega, by omega⟩), (show (0 : Int) ≤ ν 3 ∧ ν 3 ≤ 144 from ⟨by omega, by omega⟩), trivial⟩ trivial trivial rfl ⟨⟨by decide, (show ((dw_si μ 419 w1.toInt.toNat (μ.2.2.1 406 (29 + w1.toInt.toNat))).2.2.1 406 0).toInt = ν 2 + 0 from up_eq (Or.inl (by decide)) f0)⟩, trivial⟩ ⟨⟨by decide, (show fl_P 4 (ν 1 + 1) (dw_si μ 419 w1.toInt.toNat (μ.2.2.1 406 (29 + w1.toInt.toNat))).2.2.1 from fun c hc hx h1 h2 => by
      show 1 ≤ (dw_up μ.2.2.1 419 w1.toInt.toNat (μ.2.2.1 406 (29 + w1.toInt.toNat)) 406 (5 + (dw_up μ.2.2.1 419 w1.toInt.toNat (μ.2.2.1 406 (29 + w1.toInt.toNat)) 419 c).toInt.toNat)).toInt
      rw [up_ne (Or.inl (by decide))]
      by_cases e : c = w1.toInt.toNat
      · rw [e, up_at]
        have hn : (ν 3 + 0 : Int) = (μ.2.2.1 406 0).toInt * (μ.2.2.1 406 1).toInt := p1
        have hr : (μ.2.2.1 406 1).toInt ≠ 0 := by
          intro e0
          rw [e0, Int.mul_zero] at hn
          omega
        have hk1 := u3 hr
        have hcc := u2 w1.toInt.toNat (by omega)
        exact u1 (μ.2.2.1 406 (29 + w1.toInt.toNat)).toInt.toNat (by omega) (by omega)
      · have h1' : 0 ≤ (dw_up μ.2.2.1 419 w1.toInt.toNat (μ.2.2.1 406 (29 + w1.toInt.toNat)) 419 c).toInt := h1
        have h2' : (dw_up μ.2.2.1 419 w1.toInt.toNat (μ.2.2.1 406 (29 + w1.toInt.toNat)) 419 c).toInt < 8 := h2
        rw [up_ne (Or.inr e)] at h1' h2' ⊢
        exact p2 c hc (by omega) h1' h2')⟩, trivial⟩)
set_option maxHeartbeats 2000000 in
theorem sp_stepHold {SH : dw_Sh} {TT : Nat → dw_T} {K : dw_K} (hE : (EE SH TT).ok) : dx_SOK (EE SH TT) (pr_X12_step K) 44 sg_stepHold := by
  intro ν ls vs args rest μ bc bs hvs hargs hcat g hk
  obtain ⟨v0, v1, rfl, e0, e1⟩ := vs2 (f := fun i => ls[i]?) (a := 0) (b := 2) hvs
  obtain rfl := ar0 hargs
  obtain ⟨g0, g1, -⟩ := g.gl
  rw [show v0 = some (.ref 404) from gV_th g0] at e0
  obtain ⟨-, w1, h1, q1⟩ := g1
  rw [h1] at e1
  have p0 : fl_P 4 (ν 2 + 0) μ.2.2.1 := (g.fl _ (List.Mem.head _)).2
  have b1 : (0 : Int) ≤ ν 1 ∧ ν 1 ≤ 143 := g.iv 1 (by decide)
  have b2 : (0 : Int) ≤ ν 2 ∧ ν 2 ≤ 144 := g.iv 2 (by decide)
  have d0 : ν 1 - ν 2 ≤ (-1) := (g.dc _ (List.Mem.head _)).2.2
  have z0 : ν 0 = 0 := g.z
  have hv := g.hi 419 w1.toInt.toNat
  rw [show dx_seg ((EE SH TT).ce 419).iv w1.toInt.toNat = (0, 7) from hi419 _ (by omega)] at hv
  have hv1 : (0 : Int) ≤ (μ.2.2.1 419 w1.toInt.toNat).toInt := hv.1
  have hv2 : (μ.2.2.1 419 w1.toInt.toNat).toInt ≤ 7 := hv.2
  refine q_ald rfl e0 ?_
  have k404 : (μ.2.1 404).1 = 12 := by rw [g.sh]; exact (hE.sh 404).1
  have n404 : (μ.2.1 404).2.1 = 57 := by rw [g.sh]; exact (hE.sh 404).2.1
  have r404_6 : (μ.2.1 404).2.2 6 = some 406 := by rw [g.sh]; exact (hE.sh 404).2.2 6
  refine q_getr rfl k404 r404_6 ?_
  have cst5 : (5 : Int32).toInt = 5 := rfl
  refine q_ic rfl ?_
  refine q_ald rfl e0 ?_
  have r404_31 : (μ.2.1 404).2.2 31 = some 419 := by rw [g.sh]; exact (hE.sh 404).2.2 31
  refine q_getr rfl k404 r404_31 ?_
  refine q_ild rfl e1 ?_
  have k419 : (μ.2.1 419).1 = 16 := by rw [g.sh]; exact (hE.sh 419).1
  have n419 : (μ.2.1 419).2.1 = 144 := by rw [g.sh]; exact (hE.sh 419).2.1
  refine q_xald rfl (Or.inl rfl) k419 n419 (by omega) (by omega) ?_
  refine q_add rfl ?_
  have t1 : ((5 : Int32) + (μ.2.2.1 419 (w1).toInt.toNat)).toInt = ((5 : Int32)).toInt + ((μ.2.2.1 419 (w1).toInt.toNat)).toInt := i_add (by first | omega | (simp; omega)) (by first | omega | (simp; omega))
  have k406 : (μ.2.1 406).1 = 16 := by rw [g.sh]; exact (hE.sh 406).1
  have n406 : (μ.2.1 406).2.1 = 1427 := by rw [g.sh]; exact (hE.sh 406).2.1
  refine q_xald rfl (Or.inl rfl) k406 n406 (by omega) (by omega) ?_
  have e5 : ((5 : Int32) + (μ.2.2.1 419 w1.toInt.toNat)).toInt.toNat = 5 + (μ.2.2.1 419 w1.toInt.toNat).toInt.toNat := by omega
  rw [e5]
  have lo := p0 w1.toInt.toNat (by omega) (by omega) hv1 (by omega)
  have hh := g.hi 406 (5 + (μ.2.2.1 419 w1.toInt.toNat).toInt.toNat)
  rw [show dx_seg ((EE SH TT).ce 406).iv (5 + (μ.2.2.1 419 w1.toInt.toNat).toInt.toNat) = (0, 50) from hi406h _ (by omega)] at hh
  have hh2 : (μ.2.2.1 406 (5 + (μ.2.2.1 419 w1.toInt.toNat).toInt.toNat)).toInt ≤ 50 := hh.2
  obtain ⟨ν', hag, hn0⟩ := nu1 ν 3 ((μ.2.2.1 406 (5 + (μ.2.2.1 419 w1.toInt.toNat).toInt.toNat)).toInt)
  have a0 : ν' 0 = ν 0 := hag 0 (by decide)
  have a1 : ν' 1 = ν 1 := hag 1 (by decide)
  have a2 : ν' 2 = ν 2 := hag 2 (by decide)
  exact hk _ _ ν' [.int (μ.2.2.1 406 (5 + (μ.2.2.1 419 w1.toInt.toNat).toInt.toNat))] (μ) (List.Mem.head _) (post_mk g rfl g.hi (fun _ _ => ⟨rfl, rfl⟩) (by decide) (by decide) hag ⟨(show (0 : Int) ≤ ν' 0 ∧ ν' 0 ≤ 0 from ⟨by omega, by omega⟩), (show (0 : Int) ≤ ν' 1 ∧ ν' 1 ≤ 143 from ⟨by omega, by omega⟩), (show (0 : Int) ≤ ν' 2 ∧ ν' 2 ≤ 144 from ⟨by omega, by omega⟩), (show (1 : Int) ≤ ν' 3 ∧ ν' 3 ≤ 50 from ⟨by omega, by omega⟩), trivial⟩ trivial ⟨⟨by decide, _, rfl, by show _ = ν' 3 + 0; omega⟩, trivial⟩ rfl trivial trivial)
set_option maxHeartbeats 2000000 in
theorem sp_gZeroEnd {SH : dw_Sh} {TT : Nat → dw_T} {K : dw_K} (hE : (EE SH TT).ok) : dx_SOK (EE SH TT) (pr_X12_ground K) 49 sg_gZeroEnd := by
  intro ν ls vs args rest μ bc bs hvs hargs hcat g hk
  obtain ⟨v0, rfl, e0⟩ := vs1 (f := fun i => ls[i]?) (a := 0) hvs
  obtain rfl := ar0 hargs
  obtain ⟨g0, -⟩ := g.gl
  rw [show v0 = some (.ref 404) from gV_th g0] at e0
  have p0 : fl_P 22 (ν 0 + 221) μ.2.2.1 := (g.fl _ (List.Mem.head _)).2
  have z0 : ν 0 = 0 := g.z
  refine q_ald rfl e0 ?_
  have zz : ∀ j : Nat, j < 221 → μ.2.2.1 407 j = 0 := fun j hj => p0 j hj (by omega)
  have c0 : (0 : Int32).toInt = 0 := rfl
  exact hk _ _ ν [.ref 404] (μ) (List.Mem.head _) (post_mk g rfl g.hi (fun _ _ => ⟨rfl, rfl⟩) (by decide) (by decide) (fun _ _ => rfl) ⟨(show (0 : Int) ≤ ν 0 ∧ ν 0 ≤ 0 from ⟨by omega, by omega⟩), trivial⟩ trivial ⟨⟨404, List.Mem.head _, rfl⟩, trivial⟩ rfl ⟨⟨by decide, (show ((μ).2.2.1 407 1).toInt = ν 0 + 0 from by rw [zz 1 (by decide), c0]; omega)⟩, ⟨by decide, (show ((μ).2.2.1 407 2).toInt = ν 0 + 0 from by rw [zz 2 (by decide), c0]; omega)⟩, ⟨by decide, (show ((μ).2.2.1 407 0).toInt = ν 0 + 0 from by rw [zz 0 (by decide), c0]; omega)⟩, ⟨by decide, (show ((μ).2.2.1 407 3).toInt = ν 0 + 0 from by rw [zz 3 (by decide), c0]; omega)⟩, trivial⟩ ⟨⟨by decide, (show fl_P 1 (ν 0 + 0) (μ).2.2.1 from ⟨fun k hk hx => by rw [show μ.2.2.1 407 (0 + 2) = 0 from zz 2 (by decide), c0] at hx; omega, fun c hc => Or.inl (by rw [Nat.zero_add, zz _ (by omega)]; rfl), fun hr => absurd (by rw [show μ.2.2.1 407 (0 + 1) = 0 from zz 1 (by decide)]; rfl) hr⟩)⟩, trivial⟩)
set_option maxHeartbeats 2000000 in
theorem sp_rkCount {SH : dw_Sh} {TT : Nat → dw_T} {K : dw_K} (hE : (EE SH TT).ok) : dx_SOK (EE SH TT) (pr_X12_readKind K) 232 sg_rkCount := by
  intro ν ls vs args rest μ bc bs hvs hargs hcat g hk
  obtain ⟨v0, rfl, e0⟩ := vs1 (f := fun i => ls[i]?) (a := 0) hvs
  obtain rfl := ar0 hargs
  obtain ⟨g0, -⟩ := g.gl
  rw [show v0 = some (.ref 404) from gV_th g0] at e0
  have f0 : (μ.2.2.1 407 2).toInt = ν 1 + 0 := (g.fa _ (List.Mem.head _)).2
  have f1 : (μ.2.2.1 407 1).toInt = ν 0 + 0 := (g.fa _ (List.Mem.tail _ (List.Mem.head _))).2
  have f2 : (μ.2.2.1 407 0).toInt = ν 2 + 0 := (g.fa _ (List.Mem.tail _ (List.Mem.tail _ (List.Mem.head _)))).2
  have f3 : (μ.2.2.1 407 3).toInt = ν 3 + 0 := (g.fa _ (List.Mem.tail _ (List.Mem.tail _ (List.Mem.tail _ (List.Mem.head _))))).2
  have p0 : fl_P 1 (ν 0 + 0) μ.2.2.1 := (g.fl _ (List.Mem.head _)).2
  have p1 : fl_P 20 (ν 0 + 0) μ.2.2.1 := (g.fl _ (List.Mem.tail _ (List.Mem.head _))).2
  have b1 : (0 : Int) ≤ ν 1 ∧ ν 1 ≤ 7 := g.iv 1 (by decide)
  have b2 : (-2147483648 : Int) ≤ ν 2 ∧ ν 2 ≤ 2147483647 := g.iv 2 (by decide)
  have b3 : (-2147483648 : Int) ≤ ν 3 ∧ ν 3 ≤ 2147483647 := g.iv 3 (by decide)
  have z0 : ν 0 = 0 := g.z
  refine q_ald rfl e0 ?_
  have k404 : (μ.2.1 404).1 = 12 := by rw [g.sh]; exact (hE.sh 404).1
  have n404 : (μ.2.1 404).2.1 = 57 := by rw [g.sh]; exact (hE.sh 404).2.1
  have r404_7 : (μ.2.1 404).2.2 7 = some 407 := by rw [g.sh]; exact (hE.sh 404).2.2 7
  refine q_getr rfl k404 r404_7 ?_
  have cst2 : (2 : Int32).toInt = 2 := rfl
  refine q_ic rfl ?_
  refine q_dup2 rfl ?_
  have k407 : (μ.2.1 407).1 = 16 := by rw [g.sh]; exact (hE.sh 407).1
  have n407 : (μ.2.1 407).2.1 = 221 := by rw [g.sh]; exact (hE.sh 407).2.1
  refine q_xald rfl (Or.inl rfl) k407 n407 (by omega) (by omega) ?_
  have cst1 : (1 : Int32).toInt = 1 := rfl
  refine q_ic rfl ?_
  refine q_add rfl ?_
  have t1 : ((μ.2.2.1 407 ((2 : Int32)).toInt.toNat) + (1 : Int32)).toInt = ((μ.2.2.1 407 ((2 : Int32)).toInt.toNat)).toInt + ((1 : Int32)).toInt := i_add (by first | omega | (simp; omega)) (by first | omega | (simp; omega))
  refine q_iast rfl k407 n407 (by omega) (by omega) ?_
  have c2n : ((2 : Int32)).toInt.toNat = 2 := rfl
  rw [c2n]
  have tk : ((μ.2.2.1 407 2) + (1 : Int32)).toInt = (μ.2.2.1 407 2).toInt + 1 := by have := i_add (x := (μ.2.2.1 407 2)) (y := 1) (by have : (1 : Int32).toInt = 1 := rfl; omega) (by have : (1 : Int32).toInt = 1 := rfl; omega); have e1 : (1 : Int32).toInt = 1 := rfl; omega
  obtain ⟨u1, u2, u3⟩ := p0
  simp only [Nat.zero_add] at u1 u2 u3
  have hk2 : 1 ≤ (μ.2.2.1 407 (5 + (μ.2.2.1 407 2).toInt.toNat)).toInt := p1 (by omega) (by omega)
  exact hk _ _ ν [] (dw_si μ 407 2 ((μ.2.2.1 407 2) + (1 : Int32))) (List.Mem.head _) (post_mk g rfl (up_hi g.hi (⟨by show (0 : Int) ≤ _; omega, by show _ ≤ (8 : Int); omega⟩ : dx_in (0, 8) (((μ.2.2.1 407 2) + (1 : Int32))).toInt)) (up_fr (List.Mem.head _)) (by decide) (by decide) (fun _ _ => rfl) ⟨(show (0 : Int) ≤ ν 0 ∧ ν 0 ≤ 0 from ⟨by omega, by omega⟩), (show (0 : Int) ≤ ν 1 ∧ ν 1 ≤ 7 from ⟨by omega, by omega⟩), (show (-2147483648 : Int) ≤ ν 2 ∧ ν 2 ≤ 2147483647 from ⟨by omega, by omega⟩), (show (-2147483648 : Int) ≤ ν 3 ∧ ν 3 ≤ 2147483647 from ⟨by omega, by omega⟩), trivial⟩ trivial trivial rfl ⟨⟨by decide, (show ((dw_si μ 407 2 ((μ.2.2.1 407 2) + (1 : Int32))).2.2.1 407 2).toInt = ν 1 + 1 from by show (dw_up μ.2.2.1 407 2 ((μ.2.2.1 407 2) + (1 : Int32)) 407 2).toInt = _; rw [up_at, tk]; omega)⟩, ⟨by decide, (show ((dw_si μ 407 2 ((μ.2.2.1 407 2) + (1 : Int32))).2.2.1 407 1).toInt = ν 0 + 0 from up_eq (Or.inr (by decide)) f1)⟩, ⟨by decide, (show ((dw_si μ 407 2 ((μ.2.2.1 407 2) + (1 : Int32))).2.2.1 407 0).toInt = ν 2 + 0 from up_eq (Or.inr (by decide)) f2)⟩, ⟨by decide, (show ((dw_si μ 407 2 ((μ.2.2.1 407 2) + (1 : Int32))).2.2.1 407 3).toInt = ν 3 + 0 from up_eq (Or.inr (by decide)) f3)⟩, trivial⟩ ⟨⟨by decide, (show fl_P 1 (ν 0 + 0) (dw_si μ 407 2 ((μ.2.2.1 407 2) + (1 : Int32))).2.2.1 from ⟨fun k hk hx => by
        rw [Nat.zero_add] at hx ⊢
        have hx' : (k : Int) < (dw_up μ.2.2.1 407 2 ((μ.2.2.1 407 2) + (1 : Int32)) 407 2).toInt := hx
        rw [up_at, tk] at hx'
        show 1 ≤ (dw_up μ.2.2.1 407 2 ((μ.2.2.1 407 2) + (1 : Int32)) 407 (5 + k)).toInt
        rw [up_ne (Or.inr (by omega))]
        by_cases e : (k : Int) < (μ.2.2.1 407 2).toInt
        · exact u1 k hk e
        · rw [show k = (μ.2.2.1 407 2).toInt.toNat by omega]; exact hk2, fun c hc => by
        rw [Nat.zero_add, Nat.zero_add]
        show (dw_up μ.2.2.1 407 2 ((μ.2.2.1 407 2) + (1 : Int32)) 407 (29 + c)).toInt = 0 ∨ (dw_up μ.2.2.1 407 2 ((μ.2.2.1 407 2) + (1 : Int32)) 407 (29 + c)).toInt < (dw_up μ.2.2.1 407 2 ((μ.2.2.1 407 2) + (1 : Int32)) 407 2).toInt
        rw [up_ne (j' := 29 + c) (Or.inr (by omega)), up_at, tk]
        have := u2 c hc
        omega, fun _ => by
        rw [Nat.zero_add]
        show 1 ≤ (dw_up μ.2.2.1 407 2 ((μ.2.2.1 407 2) + (1 : Int32)) 407 2).toInt
        rw [up_at, tk]
        omega⟩)⟩, trivial⟩)
set_option maxHeartbeats 2000000 in
theorem sp_nxAt {SH : dw_Sh} {TT : Nat → dw_T} {K : dw_K} (hE : (EE SH TT).ok) : dx_SOK (EE SH TT) (pr_X12_next K) 31 sg_nxAt := by
  intro ν ls vs args rest μ bc bs hvs hargs hcat g hk
  obtain ⟨v0, rfl, e0⟩ := vs1 (f := fun i => ls[i]?) (a := 0) hvs
  obtain rfl := ar0 hargs
  obtain ⟨g0, -⟩ := g.gl
  rw [show v0 = some (.ref 404) from gV_th g0] at e0
  have f0 : (μ.2.2.1 404 4).toInt = ν 1 + 0 := (g.fa _ (List.Mem.head _)).2
  have f1 : (μ.2.2.1 404 2).toInt = ν 2 + 0 := (g.fa _ (List.Mem.tail _ (List.Mem.head _))).2
  have f2 : (μ.2.2.1 404 3).toInt = ν 3 + 0 := (g.fa _ (List.Mem.tail _ (List.Mem.tail _ (List.Mem.head _)))).2
  have f3 : (μ.2.2.1 404 11).toInt = ν 4 + 0 := (g.fa _ (List.Mem.tail _ (List.Mem.tail _ (List.Mem.tail _ (List.Mem.head _))))).2
  have f4 : (μ.2.2.1 404 14).toInt = ν 5 + 0 := (g.fa _ (List.Mem.tail _ (List.Mem.tail _ (List.Mem.tail _ (List.Mem.tail _ (List.Mem.head _)))))).2
  have f5 : (μ.2.2.1 404 19).toInt = ν 6 + 0 := (g.fa _ (List.Mem.tail _ (List.Mem.tail _ (List.Mem.tail _ (List.Mem.tail _ (List.Mem.tail _ (List.Mem.head _))))))).2
  have f6 : (μ.2.2.1 404 21).toInt = ν 7 + 0 := (g.fa _ (List.Mem.tail _ (List.Mem.tail _ (List.Mem.tail _ (List.Mem.tail _ (List.Mem.tail _ (List.Mem.tail _ (List.Mem.head _)))))))).2
  have f7 : (μ.2.2.1 404 22).toInt = ν 8 + 0 := (g.fa _ (List.Mem.tail _ (List.Mem.tail _ (List.Mem.tail _ (List.Mem.tail _ (List.Mem.tail _ (List.Mem.tail _ (List.Mem.tail _ (List.Mem.head _))))))))).2
  have b1 : (0 : Int) ≤ ν 1 ∧ ν 1 ≤ 940 := g.iv 1 (by decide)
  have b2 : (0 : Int) ≤ ν 2 ∧ ν 2 ≤ 940 := g.iv 2 (by decide)
  have b3 : (0 : Int) ≤ ν 3 ∧ ν 3 ≤ 940 := g.iv 3 (by decide)
  have b4 : (0 : Int) ≤ ν 4 ∧ ν 4 ≤ 4 := g.iv 4 (by decide)
  have b5 : (-2147483648 : Int) ≤ ν 5 ∧ ν 5 ≤ 2147483647 := g.iv 5 (by decide)
  have b6 : (-2147483648 : Int) ≤ ν 6 ∧ ν 6 ≤ 2147483647 := g.iv 6 (by decide)
  have b7 : (0 : Int) ≤ ν 7 ∧ ν 7 ≤ 30 := g.iv 7 (by decide)
  have b8 : (0 : Int) ≤ ν 8 ∧ ν 8 ≤ 1 := g.iv 8 (by decide)
  have z0 : ν 0 = 0 := g.z
  refine q_ald rfl e0 ?_
  refine q_ald rfl e0 ?_
  have k404 : (μ.2.1 404).1 = 12 := by rw [g.sh]; exact (hE.sh 404).1
  have n404 : (μ.2.1 404).2.1 = 57 := by rw [g.sh]; exact (hE.sh 404).2.1
  refine q_geti rfl k404 ?_
  refine q_puti rfl k404 ?_
  refine q_ald rfl e0 ?_
  have cst0 : (0 : Int32).toInt = 0 := rfl
  refine q_ic rfl ?_
  refine q_puti rfl k404 ?_
  have c0 : (0 : Int32).toInt = 0 := rfl
  have r12 : (dw_up (dw_up μ.2.2.1 404 12 (μ.2.2.1 404 4)) 404 13 0) 404 12 = (μ.2.2.1 404 4) := (up_ne (Or.inr (by decide))).trans up_at
  have r13 : (dw_up (dw_up μ.2.2.1 404 12 (μ.2.2.1 404 4)) 404 13 0) 404 13 = 0 := up_at
  have r4 : (dw_up (dw_up μ.2.2.1 404 12 (μ.2.2.1 404 4)) 404 13 0) 404 4 = (μ.2.2.1 404 4) := (up_ne (Or.inr (by decide))).trans (up_ne (Or.inr (by decide)))
  exact hk _ _ ν [] (dw_si (dw_si μ 404 12 (μ.2.2.1 404 4)) 404 13 0) (List.Mem.head _) (post_mk g rfl (up_hi (up_hi g.hi (⟨by show (0 : Int) ≤ _; omega, by show _ ≤ (940 : Int); omega⟩ : dx_in (0, 940) (μ.2.2.1 404 4).toInt)) (⟨by show (0 : Int) ≤ _; omega, by show _ ≤ (940 : Int); omega⟩ : dx_in (0, 940) (0 : Int32).toInt)) (up_fr2 (List.Mem.head _)) (by decide) (by decide) (fun _ _ => rfl) ⟨(show (0 : Int) ≤ ν 0 ∧ ν 0 ≤ 0 from ⟨by omega, by omega⟩), (show (0 : Int) ≤ ν 1 ∧ ν 1 ≤ 940 from ⟨by omega, by omega⟩), (show (0 : Int) ≤ ν 2 ∧ ν 2 ≤ 940 from ⟨by omega, by omega⟩), (show (0 : Int) ≤ ν 3 ∧ ν 3 ≤ 940 from ⟨by omega, by omega⟩), (show (0 : Int) ≤ ν 4 ∧ ν 4 ≤ 4 from ⟨by omega, by omega⟩), (show (-2147483648 : Int) ≤ ν 5 ∧ ν 5 ≤ 2147483647 from ⟨by omega, by omega⟩), (show (-2147483648 : Int) ≤ ν 6 ∧ ν 6 ≤ 2147483647 from ⟨by omega, by omega⟩), (show (0 : Int) ≤ ν 7 ∧ ν 7 ≤ 30 from ⟨by omega, by omega⟩), (show (0 : Int) ≤ ν 8 ∧ ν 8 ≤ 1 from ⟨by omega, by omega⟩), trivial⟩ trivial trivial rfl ⟨⟨by decide, (show ((dw_si (dw_si μ 404 12 (μ.2.2.1 404 4)) 404 13 0).2.2.1 404 4).toInt = ν 1 + 0 from (up_eq (Or.inr (by decide)) (up_eq (Or.inr (by decide)) f0)))⟩, ⟨by decide, (show ((dw_si (dw_si μ 404 12 (μ.2.2.1 404 4)) 404 13 0).2.2.1 404 12).toInt = ν 1 + 0 from by show ((dw_up (dw_up μ.2.2.1 404 12 (μ.2.2.1 404 4)) 404 13 0) 404 12).toInt = _; rw [r12]; omega)⟩, ⟨by decide, (show ((dw_si (dw_si μ 404 12 (μ.2.2.1 404 4)) 404 13 0).2.2.1 404 13).toInt = ν 0 + 0 from by show ((dw_up (dw_up μ.2.2.1 404 12 (μ.2.2.1 404 4)) 404 13 0) 404 13).toInt = _; rw [r13]; omega)⟩, ⟨by decide, (show ((dw_si (dw_si μ 404 12 (μ.2.2.1 404 4)) 404 13 0).2.2.1 404 2).toInt = ν 2 + 0 from (up_eq (Or.inr (by decide)) (up_eq (Or.inr (by decide)) f1)))⟩, ⟨by decide, (show ((dw_si (dw_si μ 404 12 (μ.2.2.1 404 4)) 404 13 0).2.2.1 404 3).toInt = ν 3 + 0 from (up_eq (Or.inr (by decide)) (up_eq (Or.inr (by decide)) f2)))⟩, ⟨by decide, (show ((dw_si (dw_si μ 404 12 (μ.2.2.1 404 4)) 404 13 0).2.2.1 404 11).toInt = ν 4 + 0 from (up_eq (Or.inr (by decide)) (up_eq (Or.inr (by decide)) f3)))⟩, ⟨by decide, (show ((dw_si (dw_si μ 404 12 (μ.2.2.1 404 4)) 404 13 0).2.2.1 404 14).toInt = ν 5 + 0 from (up_eq (Or.inr (by decide)) (up_eq (Or.inr (by decide)) f4)))⟩, ⟨by decide, (show ((dw_si (dw_si μ 404 12 (μ.2.2.1 404 4)) 404 13 0).2.2.1 404 19).toInt = ν 6 + 0 from (up_eq (Or.inr (by decide)) (up_eq (Or.inr (by decide)) f5)))⟩, ⟨by decide, (show ((dw_si (dw_si μ 404 12 (μ.2.2.1 404 4)) 404 13 0).2.2.1 404 21).toInt = ν 7 + 0 from (up_eq (Or.inr (by decide)) (up_eq (Or.inr (by decide)) f6)))⟩, ⟨by decide, (show ((dw_si (dw_si μ 404 12 (μ.2.2.1 404 4)) 404 13 0).2.2.1 404 22).toInt = ν 8 + 0 from (up_eq (Or.inr (by decide)) (up_eq (Or.inr (by decide)) f7)))⟩, trivial⟩ ⟨⟨by decide, (show fl_P 11 (ν 0 + 0) (dw_si (dw_si μ 404 12 (μ.2.2.1 404 4)) 404 13 0).2.2.1 from by show ((dw_up (dw_up μ.2.2.1 404 12 (μ.2.2.1 404 4)) 404 13 0) 404 12).toInt + ((dw_up (dw_up μ.2.2.1 404 12 (μ.2.2.1 404 4)) 404 13 0) 404 13).toInt = ((dw_up (dw_up μ.2.2.1 404 12 (μ.2.2.1 404 4)) 404 13 0) 404 4).toInt; rw [r12, r13, r4]; omega)⟩, ⟨by decide, (show fl_P 10 (ν 0 + 0) (dw_si (dw_si μ 404 12 (μ.2.2.1 404 4)) 404 13 0).2.2.1 from fun j hj _ => by have hj2 : (j : Int) < ((dw_up (dw_up μ.2.2.1 404 12 (μ.2.2.1 404 4)) 404 13 0) 404 13).toInt := hj; rw [r13] at hj2; omega)⟩, trivial⟩)
set_option maxHeartbeats 2000000 in
theorem sp_nxTokE2 {SH : dw_Sh} {TT : Nat → dw_T} {K : dw_K} (hE : (EE SH TT).ok) : dx_SOK (EE SH TT) (pr_X12_next K) 334 sg_nxTokE2 := by
  intro ν ls vs args rest μ bc bs hvs hargs hcat g hk
  obtain rfl := vs0 (f := fun i => ls[i]?) hvs
  obtain ⟨x0, x1, rfl⟩ := ar2 hargs
  obtain ⟨g0, g1, -⟩ := g.gl
  obtain rfl : x0 = .ref 404 := Option.some.inj (gV_th g0)
  obtain ⟨-, w1, h1, q1⟩ := g1
  obtain rfl : x1 = .int w1 := Option.some.inj h1
  have f0 : (μ.2.2.1 404 4).toInt = ν 1 + 0 := (g.fa _ (List.Mem.head _)).2
  have f1 : (μ.2.2.1 404 13).toInt = ν 2 + 0 := (g.fa _ (List.Mem.tail _ (List.Mem.head _))).2
  have f2 : (μ.2.2.1 404 12).toInt = ν 3 + 0 := (g.fa _ (List.Mem.tail _ (List.Mem.tail _ (List.Mem.head _)))).2
  have f3 : (μ.2.2.1 404 2).toInt = ν 4 + 0 := (g.fa _ (List.Mem.tail _ (List.Mem.tail _ (List.Mem.tail _ (List.Mem.head _))))).2
  have f4 : (μ.2.2.1 404 3).toInt = ν 5 + 0 := (g.fa _ (List.Mem.tail _ (List.Mem.tail _ (List.Mem.tail _ (List.Mem.tail _ (List.Mem.head _)))))).2
  have f5 : (μ.2.2.1 404 14).toInt = ν 6 + 0 := (g.fa _ (List.Mem.tail _ (List.Mem.tail _ (List.Mem.tail _ (List.Mem.tail _ (List.Mem.tail _ (List.Mem.head _))))))).2
  have f6 : (μ.2.2.1 404 19).toInt = ν 7 + 0 := (g.fa _ (List.Mem.tail _ (List.Mem.tail _ (List.Mem.tail _ (List.Mem.tail _ (List.Mem.tail _ (List.Mem.tail _ (List.Mem.head _)))))))).2
  have f7 : (μ.2.2.1 404 21).toInt = ν 8 + 0 := (g.fa _ (List.Mem.tail _ (List.Mem.tail _ (List.Mem.tail _ (List.Mem.tail _ (List.Mem.tail _ (List.Mem.tail _ (List.Mem.tail _ (List.Mem.head _))))))))).2
  have f8 : (μ.2.2.1 404 22).toInt = ν 9 + 0 := (g.fa _ (List.Mem.tail _ (List.Mem.tail _ (List.Mem.tail _ (List.Mem.tail _ (List.Mem.tail _ (List.Mem.tail _ (List.Mem.tail _ (List.Mem.tail _ (List.Mem.head _)))))))))).2
  have b1 : (0 : Int) ≤ ν 1 ∧ ν 1 ≤ 940 := g.iv 1 (by decide)
  have b2 : (0 : Int) ≤ ν 2 ∧ ν 2 ≤ 940 := g.iv 2 (by decide)
  have b3 : (0 : Int) ≤ ν 3 ∧ ν 3 ≤ 940 := g.iv 3 (by decide)
  have b4 : (0 : Int) ≤ ν 4 ∧ ν 4 ≤ 940 := g.iv 4 (by decide)
  have b5 : (0 : Int) ≤ ν 5 ∧ ν 5 ≤ 940 := g.iv 5 (by decide)
  have b6 : (-2147483648 : Int) ≤ ν 6 ∧ ν 6 ≤ 2147483647 := g.iv 6 (by decide)
  have b7 : (-2147483648 : Int) ≤ ν 7 ∧ ν 7 ≤ 2147483647 := g.iv 7 (by decide)
  have b8 : (0 : Int) ≤ ν 8 ∧ ν 8 ≤ 30 := g.iv 8 (by decide)
  have b9 : (0 : Int) ≤ ν 9 ∧ ν 9 ≤ 1 := g.iv 9 (by decide)
  have z0 : ν 0 = 0 := g.z
  have k404 : (μ.2.1 404).1 = 12 := by rw [g.sh]; exact (hE.sh 404).1
  have n404 : (μ.2.1 404).2.1 = 57 := by rw [g.sh]; exact (hE.sh 404).2.1
  refine q_puti rfl k404 ?_
  exact hk _ _ ν [] (dw_si μ 404 11 w1) (List.Mem.head _) (post_mk g rfl (up_hi g.hi (⟨by show (0 : Int) ≤ _; omega, by show _ ≤ (4 : Int); omega⟩ : dx_in (0, 4) w1.toInt)) (up_fr (List.Mem.head _)) (by decide) (by decide) (fun _ _ => rfl) ⟨(show (0 : Int) ≤ ν 0 ∧ ν 0 ≤ 0 from ⟨by omega, by omega⟩), (show (0 : Int) ≤ ν 1 ∧ ν 1 ≤ 940 from ⟨by omega, by omega⟩), (show (0 : Int) ≤ ν 2 ∧ ν 2 ≤ 940 from ⟨by omega, by omega⟩), (show (0 : Int) ≤ ν 3 ∧ ν 3 ≤ 940 from ⟨by omega, by omega⟩), (show (0 : Int) ≤ ν 4 ∧ ν 4 ≤ 940 from ⟨by omega, by omega⟩), (show (0 : Int) ≤ ν 5 ∧ ν 5 ≤ 940 from ⟨by omega, by omega⟩), (show (-2147483648 : Int) ≤ ν 6 ∧ ν 6 ≤ 2147483647 from ⟨by omega, by omega⟩), (show (-2147483648 : Int) ≤ ν 7 ∧ ν 7 ≤ 2147483647 from ⟨by omega, by omega⟩), (show (0 : Int) ≤ ν 8 ∧ ν 8 ≤ 30 from ⟨by omega, by omega⟩), (show (0 : Int) ≤ ν 9 ∧ ν 9 ≤ 1 from ⟨by omega, by omega⟩), trivial⟩ trivial trivial rfl ⟨⟨by decide, (show ((dw_si μ 404 11 w1).2.2.1 404 4).toInt = ν 1 + 0 from (up_eq (Or.inr (by decide)) f0))⟩, ⟨by decide, (show ((dw_si μ 404 11 w1).2.2.1 404 13).toInt = ν 2 + 0 from (up_eq (Or.inr (by decide)) f1))⟩, ⟨by decide, (show ((dw_si μ 404 11 w1).2.2.1 404 12).toInt = ν 3 + 0 from (up_eq (Or.inr (by decide)) f2))⟩, ⟨by decide, (show ((dw_si μ 404 11 w1).2.2.1 404 2).toInt = ν 4 + 0 from (up_eq (Or.inr (by decide)) f3))⟩, ⟨by decide, (show ((dw_si μ 404 11 w1).2.2.1 404 3).toInt = ν 5 + 0 from (up_eq (Or.inr (by decide)) f4))⟩, ⟨by decide, (show ((dw_si μ 404 11 w1).2.2.1 404 14).toInt = ν 6 + 0 from (up_eq (Or.inr (by decide)) f5))⟩, ⟨by decide, (show ((dw_si μ 404 11 w1).2.2.1 404 19).toInt = ν 7 + 0 from (up_eq (Or.inr (by decide)) f6))⟩, ⟨by decide, (show ((dw_si μ 404 11 w1).2.2.1 404 21).toInt = ν 8 + 0 from (up_eq (Or.inr (by decide)) f7))⟩, ⟨by decide, (show ((dw_si μ 404 11 w1).2.2.1 404 22).toInt = ν 9 + 0 from (up_eq (Or.inr (by decide)) f8))⟩, ⟨by decide, (show ((dw_si μ 404 11 w1).2.2.1 404 11).toInt = ν 0 + 2 from by show ((dw_up μ.2.2.1 404 11 w1) 404 11).toInt = _; rw [up_at]; omega)⟩, trivial⟩ ⟨⟨by decide, (show fl_P 8 (ν 0 + 0) (dw_si μ 404 11 w1).2.2.1 from fun h => by have h2 : ((dw_up μ.2.2.1 404 11 w1) 404 11).toInt = 1 := h; rw [up_at] at h2; omega)⟩, trivial⟩)
set_option maxHeartbeats 2000000 in
theorem sp_nxTokS3 {SH : dw_Sh} {TT : Nat → dw_T} {K : dw_K} (hE : (EE SH TT).ok) : dx_SOK (EE SH TT) (pr_X12_next K) 91 sg_nxTokS3 := by
  intro ν ls vs args rest μ bc bs hvs hargs hcat g hk
  obtain rfl := vs0 (f := fun i => ls[i]?) hvs
  obtain ⟨x0, x1, rfl⟩ := ar2 hargs
  obtain ⟨g0, g1, -⟩ := g.gl
  obtain rfl : x0 = .ref 404 := Option.some.inj (gV_th g0)
  obtain ⟨-, w1, h1, q1⟩ := g1
  obtain rfl : x1 = .int w1 := Option.some.inj h1
  have f0 : (μ.2.2.1 404 4).toInt = ν 1 + 0 := (g.fa _ (List.Mem.head _)).2
  have f1 : (μ.2.2.1 404 13).toInt = ν 2 + 0 := (g.fa _ (List.Mem.tail _ (List.Mem.head _))).2
  have f2 : (μ.2.2.1 404 12).toInt = ν 3 + 0 := (g.fa _ (List.Mem.tail _ (List.Mem.tail _ (List.Mem.head _)))).2
  have f3 : (μ.2.2.1 404 2).toInt = ν 4 + 0 := (g.fa _ (List.Mem.tail _ (List.Mem.tail _ (List.Mem.tail _ (List.Mem.head _))))).2
  have f4 : (μ.2.2.1 404 3).toInt = ν 5 + 0 := (g.fa _ (List.Mem.tail _ (List.Mem.tail _ (List.Mem.tail _ (List.Mem.tail _ (List.Mem.head _)))))).2
  have f5 : (μ.2.2.1 404 14).toInt = ν 6 + 0 := (g.fa _ (List.Mem.tail _ (List.Mem.tail _ (List.Mem.tail _ (List.Mem.tail _ (List.Mem.tail _ (List.Mem.head _))))))).2
  have f6 : (μ.2.2.1 404 19).toInt = ν 7 + 0 := (g.fa _ (List.Mem.tail _ (List.Mem.tail _ (List.Mem.tail _ (List.Mem.tail _ (List.Mem.tail _ (List.Mem.tail _ (List.Mem.head _)))))))).2
  have f7 : (μ.2.2.1 404 21).toInt = ν 8 + 0 := (g.fa _ (List.Mem.tail _ (List.Mem.tail _ (List.Mem.tail _ (List.Mem.tail _ (List.Mem.tail _ (List.Mem.tail _ (List.Mem.tail _ (List.Mem.head _))))))))).2
  have f8 : (μ.2.2.1 404 22).toInt = ν 9 + 0 := (g.fa _ (List.Mem.tail _ (List.Mem.tail _ (List.Mem.tail _ (List.Mem.tail _ (List.Mem.tail _ (List.Mem.tail _ (List.Mem.tail _ (List.Mem.tail _ (List.Mem.head _)))))))))).2
  have b1 : (0 : Int) ≤ ν 1 ∧ ν 1 ≤ 940 := g.iv 1 (by decide)
  have b2 : (0 : Int) ≤ ν 2 ∧ ν 2 ≤ 940 := g.iv 2 (by decide)
  have b3 : (0 : Int) ≤ ν 3 ∧ ν 3 ≤ 940 := g.iv 3 (by decide)
  have b4 : (0 : Int) ≤ ν 4 ∧ ν 4 ≤ 940 := g.iv 4 (by decide)
  have b5 : (0 : Int) ≤ ν 5 ∧ ν 5 ≤ 940 := g.iv 5 (by decide)
  have b6 : (-2147483648 : Int) ≤ ν 6 ∧ ν 6 ≤ 2147483647 := g.iv 6 (by decide)
  have b7 : (-2147483648 : Int) ≤ ν 7 ∧ ν 7 ≤ 2147483647 := g.iv 7 (by decide)
  have b8 : (0 : Int) ≤ ν 8 ∧ ν 8 ≤ 30 := g.iv 8 (by decide)
  have b9 : (0 : Int) ≤ ν 9 ∧ ν 9 ≤ 1 := g.iv 9 (by decide)
  have z0 : ν 0 = 0 := g.z
  have k404 : (μ.2.1 404).1 = 12 := by rw [g.sh]; exact (hE.sh 404).1
  have n404 : (μ.2.1 404).2.1 = 57 := by rw [g.sh]; exact (hE.sh 404).2.1
  refine q_puti rfl k404 ?_
  exact hk _ _ ν [] (dw_si μ 404 11 w1) (List.Mem.head _) (post_mk g rfl (up_hi g.hi (⟨by show (0 : Int) ≤ _; omega, by show _ ≤ (4 : Int); omega⟩ : dx_in (0, 4) w1.toInt)) (up_fr (List.Mem.head _)) (by decide) (by decide) (fun _ _ => rfl) ⟨(show (0 : Int) ≤ ν 0 ∧ ν 0 ≤ 0 from ⟨by omega, by omega⟩), (show (0 : Int) ≤ ν 1 ∧ ν 1 ≤ 940 from ⟨by omega, by omega⟩), (show (0 : Int) ≤ ν 2 ∧ ν 2 ≤ 940 from ⟨by omega, by omega⟩), (show (0 : Int) ≤ ν 3 ∧ ν 3 ≤ 940 from ⟨by omega, by omega⟩), (show (0 : Int) ≤ ν 4 ∧ ν 4 ≤ 940 from ⟨by omega, by omega⟩), (show (0 : Int) ≤ ν 5 ∧ ν 5 ≤ 940 from ⟨by omega, by omega⟩), (show (-2147483648 : Int) ≤ ν 6 ∧ ν 6 ≤ 2147483647 from ⟨by omega, by omega⟩), (show (-2147483648 : Int) ≤ ν 7 ∧ ν 7 ≤ 2147483647 from ⟨by omega, by omega⟩), (show (0 : Int) ≤ ν 8 ∧ ν 8 ≤ 30 from ⟨by omega, by omega⟩), (show (0 : Int) ≤ ν 9 ∧ ν 9 ≤ 1 from ⟨by omega, by omega⟩), trivial⟩ trivial trivial rfl ⟨⟨by decide, (show ((dw_si μ 404 11 w1).2.2.1 404 4).toInt = ν 1 + 0 from (up_eq (Or.inr (by decide)) f0))⟩, ⟨by decide, (show ((dw_si μ 404 11 w1).2.2.1 404 13).toInt = ν 2 + 0 from (up_eq (Or.inr (by decide)) f1))⟩, ⟨by decide, (show ((dw_si μ 404 11 w1).2.2.1 404 12).toInt = ν 3 + 0 from (up_eq (Or.inr (by decide)) f2))⟩, ⟨by decide, (show ((dw_si μ 404 11 w1).2.2.1 404 2).toInt = ν 4 + 0 from (up_eq (Or.inr (by decide)) f3))⟩, ⟨by decide, (show ((dw_si μ 404 11 w1).2.2.1 404 3).toInt = ν 5 + 0 from (up_eq (Or.inr (by decide)) f4))⟩, ⟨by decide, (show ((dw_si μ 404 11 w1).2.2.1 404 14).toInt = ν 6 + 0 from (up_eq (Or.inr (by decide)) f5))⟩, ⟨by decide, (show ((dw_si μ 404 11 w1).2.2.1 404 19).toInt = ν 7 + 0 from (up_eq (Or.inr (by decide)) f6))⟩, ⟨by decide, (show ((dw_si μ 404 11 w1).2.2.1 404 21).toInt = ν 8 + 0 from (up_eq (Or.inr (by decide)) f7))⟩, ⟨by decide, (show ((dw_si μ 404 11 w1).2.2.1 404 22).toInt = ν 9 + 0 from (up_eq (Or.inr (by decide)) f8))⟩, ⟨by decide, (show ((dw_si μ 404 11 w1).2.2.1 404 11).toInt = ν 0 + 3 from by show ((dw_up μ.2.2.1 404 11 w1) 404 11).toInt = _; rw [up_at]; omega)⟩, trivial⟩ ⟨⟨by decide, (show fl_P 8 (ν 0 + 0) (dw_si μ 404 11 w1).2.2.1 from fun h => by have h2 : ((dw_up μ.2.2.1 404 11 w1) 404 11).toInt = 1 := h; rw [up_at] at h2; omega)⟩, trivial⟩)
set_option maxHeartbeats 2000000 in
theorem sp_nxTokN4 {SH : dw_Sh} {TT : Nat → dw_T} {K : dw_K} (hE : (EE SH TT).ok) : dx_SOK (EE SH TT) (pr_X12_next K) 76 sg_nxTokN4 := by
  intro ν ls vs args rest μ bc bs hvs hargs hcat g hk
  obtain rfl := vs0 (f := fun i => ls[i]?) hvs
  obtain ⟨x0, x1, rfl⟩ := ar2 hargs
  obtain ⟨g0, g1, -⟩ := g.gl
  obtain rfl : x0 = .ref 404 := Option.some.inj (gV_th g0)
  obtain ⟨-, w1, h1, q1⟩ := g1
  obtain rfl : x1 = .int w1 := Option.some.inj h1
  have f0 : (μ.2.2.1 404 4).toInt = ν 1 + 0 := (g.fa _ (List.Mem.head _)).2
  have f1 : (μ.2.2.1 404 13).toInt = ν 2 + 0 := (g.fa _ (List.Mem.tail _ (List.Mem.head _))).2
  have f2 : (μ.2.2.1 404 12).toInt = ν 3 + 0 := (g.fa _ (List.Mem.tail _ (List.Mem.tail _ (List.Mem.head _)))).2
  have f3 : (μ.2.2.1 404 2).toInt = ν 4 + 0 := (g.fa _ (List.Mem.tail _ (List.Mem.tail _ (List.Mem.tail _ (List.Mem.head _))))).2
  have f4 : (μ.2.2.1 404 3).toInt = ν 5 + 0 := (g.fa _ (List.Mem.tail _ (List.Mem.tail _ (List.Mem.tail _ (List.Mem.tail _ (List.Mem.head _)))))).2
  have f5 : (μ.2.2.1 404 14).toInt = ν 6 + 0 := (g.fa _ (List.Mem.tail _ (List.Mem.tail _ (List.Mem.tail _ (List.Mem.tail _ (List.Mem.tail _ (List.Mem.head _))))))).2
  have f6 : (μ.2.2.1 404 19).toInt = ν 7 + 0 := (g.fa _ (List.Mem.tail _ (List.Mem.tail _ (List.Mem.tail _ (List.Mem.tail _ (List.Mem.tail _ (List.Mem.tail _ (List.Mem.head _)))))))).2
  have f7 : (μ.2.2.1 404 21).toInt = ν 8 + 0 := (g.fa _ (List.Mem.tail _ (List.Mem.tail _ (List.Mem.tail _ (List.Mem.tail _ (List.Mem.tail _ (List.Mem.tail _ (List.Mem.tail _ (List.Mem.head _))))))))).2
  have f8 : (μ.2.2.1 404 22).toInt = ν 9 + 0 := (g.fa _ (List.Mem.tail _ (List.Mem.tail _ (List.Mem.tail _ (List.Mem.tail _ (List.Mem.tail _ (List.Mem.tail _ (List.Mem.tail _ (List.Mem.tail _ (List.Mem.head _)))))))))).2
  have b1 : (0 : Int) ≤ ν 1 ∧ ν 1 ≤ 940 := g.iv 1 (by decide)
  have b2 : (0 : Int) ≤ ν 2 ∧ ν 2 ≤ 940 := g.iv 2 (by decide)
  have b3 : (0 : Int) ≤ ν 3 ∧ ν 3 ≤ 940 := g.iv 3 (by decide)
  have b4 : (0 : Int) ≤ ν 4 ∧ ν 4 ≤ 940 := g.iv 4 (by decide)
  have b5 : (0 : Int) ≤ ν 5 ∧ ν 5 ≤ 940 := g.iv 5 (by decide)
  have b6 : (-2147483648 : Int) ≤ ν 6 ∧ ν 6 ≤ 2147483647 := g.iv 6 (by decide)
  have b7 : (-2147483648 : Int) ≤ ν 7 ∧ ν 7 ≤ 2147483647 := g.iv 7 (by decide)
  have b8 : (0 : Int) ≤ ν 8 ∧ ν 8 ≤ 30 := g.iv 8 (by decide)
  have b9 : (0 : Int) ≤ ν 9 ∧ ν 9 ≤ 1 := g.iv 9 (by decide)
  have z0 : ν 0 = 0 := g.z
  have k404 : (μ.2.1 404).1 = 12 := by rw [g.sh]; exact (hE.sh 404).1
  have n404 : (μ.2.1 404).2.1 = 57 := by rw [g.sh]; exact (hE.sh 404).2.1
  refine q_puti rfl k404 ?_
  exact hk _ _ ν [] (dw_si μ 404 11 w1) (List.Mem.head _) (post_mk g rfl (up_hi g.hi (⟨by show (0 : Int) ≤ _; omega, by show _ ≤ (4 : Int); omega⟩ : dx_in (0, 4) w1.toInt)) (up_fr (List.Mem.head _)) (by decide) (by decide) (fun _ _ => rfl) ⟨(show (0 : Int) ≤ ν 0 ∧ ν 0 ≤ 0 from ⟨by omega, by omega⟩), (show (0 : Int) ≤ ν 1 ∧ ν 1 ≤ 940 from ⟨by omega, by omega⟩), (show (0 : Int) ≤ ν 2 ∧ ν 2 ≤ 940 from ⟨by omega, by omega⟩), (show (0 : Int) ≤ ν 3 ∧ ν 3 ≤ 940 from ⟨by omega, by omega⟩), (show (0 : Int) ≤ ν 4 ∧ ν 4 ≤ 940 from ⟨by omega, by omega⟩), (show (0 : Int) ≤ ν 5 ∧ ν 5 ≤ 940 from ⟨by omega, by omega⟩), (show (-2147483648 : Int) ≤ ν 6 ∧ ν 6 ≤ 2147483647 from ⟨by omega, by omega⟩), (show (-2147483648 : Int) ≤ ν 7 ∧ ν 7 ≤ 2147483647 from ⟨by omega, by omega⟩), (show (0 : Int) ≤ ν 8 ∧ ν 8 ≤ 30 from ⟨by omega, by omega⟩), (show (0 : Int) ≤ ν 9 ∧ ν 9 ≤ 1 from ⟨by omega, by omega⟩), trivial⟩ trivial trivial rfl ⟨⟨by decide, (show ((dw_si μ 404 11 w1).2.2.1 404 4).toInt = ν 1 + 0 from (up_eq (Or.inr (by decide)) f0))⟩, ⟨by decide, (show ((dw_si μ 404 11 w1).2.2.1 404 13).toInt = ν 2 + 0 from (up_eq (Or.inr (by decide)) f1))⟩, ⟨by decide, (show ((dw_si μ 404 11 w1).2.2.1 404 12).toInt = ν 3 + 0 from (up_eq (Or.inr (by decide)) f2))⟩, ⟨by decide, (show ((dw_si μ 404 11 w1).2.2.1 404 2).toInt = ν 4 + 0 from (up_eq (Or.inr (by decide)) f3))⟩, ⟨by decide, (show ((dw_si μ 404 11 w1).2.2.1 404 3).toInt = ν 5 + 0 from (up_eq (Or.inr (by decide)) f4))⟩, ⟨by decide, (show ((dw_si μ 404 11 w1).2.2.1 404 14).toInt = ν 6 + 0 from (up_eq (Or.inr (by decide)) f5))⟩, ⟨by decide, (show ((dw_si μ 404 11 w1).2.2.1 404 19).toInt = ν 7 + 0 from (up_eq (Or.inr (by decide)) f6))⟩, ⟨by decide, (show ((dw_si μ 404 11 w1).2.2.1 404 21).toInt = ν 8 + 0 from (up_eq (Or.inr (by decide)) f7))⟩, ⟨by decide, (show ((dw_si μ 404 11 w1).2.2.1 404 22).toInt = ν 9 + 0 from (up_eq (Or.inr (by decide)) f8))⟩, ⟨by decide, (show ((dw_si μ 404 11 w1).2.2.1 404 11).toInt = ν 0 + 4 from by show ((dw_up μ.2.2.1 404 11 w1) 404 11).toInt = _; rw [up_at]; omega)⟩, trivial⟩ ⟨⟨by decide, (show fl_P 8 (ν 0 + 0) (dw_si μ 404 11 w1).2.2.1 from fun h => by have h2 : ((dw_up μ.2.2.1 404 11 w1) 404 11).toInt = 1 := h; rw [up_at] at h2; omega)⟩, trivial⟩)
set_option maxHeartbeats 2000000 in
theorem sp_plIn0 {SH : dw_Sh} {TT : Nat → dw_T} {K : dw_K} (hE : (EE SH TT).ok) : dx_SOK (EE SH TT) (pr_X12_planLine K) 83 sg_plIn0 := by
  intro ν ls vs args rest μ bc bs hvs hargs hcat g hk
  obtain ⟨v0, rfl, e0⟩ := vs1 (f := fun i => ls[i]?) (a := 0) hvs
  obtain rfl := ar0 hargs
  obtain ⟨g0, -⟩ := g.gl
  rw [show v0 = some (.ref 404) from gV_th g0] at e0
  have f0 : (μ.2.2.1 404 21).toInt = ν 0 + 0 := (g.fa _ (List.Mem.head _)).2
  have p0 : fl_P 25 (ν 0 + 0) μ.2.2.1 := (g.fl _ (List.Mem.head _)).2
  have z0 : ν 0 = 0 := g.z
  have cst1 : (1 : Int32).toInt = 1 := rfl
  refine q_ic rfl ?_
  exact hk _ _ ν [.int 1] (μ) (List.Mem.head _) (post_mk g rfl g.hi (fun _ _ => ⟨rfl, rfl⟩) (by decide) (by decide) (fun _ _ => rfl) ⟨(show (0 : Int) ≤ ν 0 ∧ ν 0 ≤ 0 from ⟨by omega, by omega⟩), trivial⟩ trivial ⟨⟨by decide, 1, rfl, by rw [z0]; rfl⟩, trivial⟩ rfl trivial ⟨⟨by decide, (show fl_P 100 (ν 0 + 0) (μ).2.2.1 from pq_in (c := 0) (by decide) (by omega) p0)⟩, trivial⟩)
set_option maxHeartbeats 2000000 in
theorem sp_plOff1 {SH : dw_Sh} {TT : Nat → dw_T} {K : dw_K} (hE : (EE SH TT).ok) : dx_SOK (EE SH TT) (pr_X12_planLine K) 206 sg_plOff1 := by
  intro ν ls vs args rest μ bc bs hvs hargs hcat g hk
  obtain ⟨v0, rfl, e0⟩ := vs1 (f := fun i => ls[i]?) (a := 0) hvs
  obtain rfl := ar0 hargs
  obtain ⟨g0, -⟩ := g.gl
  rw [show v0 = some (.ref 404) from gV_th g0] at e0
  have f0 : (μ.2.2.1 408 5).toInt = ν 1 + 0 := (g.fa _ (List.Mem.head _)).2
  have f1 : (μ.2.2.1 406 0).toInt = ν 2 + 0 := (g.fa _ (List.Mem.tail _ (List.Mem.head _))).2
  have p0 : fl_P 101 (ν 0 + 0) μ.2.2.1 := (g.fl _ (List.Mem.head _)).2
  have b1 : (0 : Int) ≤ ν 1 ∧ ν 1 ≤ 143 := g.iv 1 (by decide)
  have b2 : (1 : Int) ≤ ν 2 ∧ ν 2 ≤ 12 := g.iv 2 (by decide)
  have z0 : ν 0 = 0 := g.z
  have cst1 : (1 : Int32).toInt = 1 := rfl
  refine q_ic rfl ?_
  exact hk _ _ ν [.int 1] (μ) (List.Mem.head _) (post_mk g rfl g.hi (fun _ _ => ⟨rfl, rfl⟩) (by decide) (by decide) (fun _ _ => rfl) ⟨(show (0 : Int) ≤ ν 0 ∧ ν 0 ≤ 0 from ⟨by omega, by omega⟩), (show (0 : Int) ≤ ν 1 ∧ ν 1 ≤ 143 from ⟨by omega, by omega⟩), (show (1 : Int) ≤ ν 2 ∧ ν 2 ≤ 12 from ⟨by omega, by omega⟩), trivial⟩ trivial ⟨⟨by decide, 1, rfl, by rw [z0]; rfl⟩, trivial⟩ rfl trivial ⟨⟨by decide, (show fl_P 25 (ν 0 + 2) (μ).2.2.1 from pq_of (c := 2) (by decide) (by omega) (rp_off (c := 1) (y := 0) (by decide) p0 (show (μ.2.2.1 408 5).toInt ≤ 143 by omega) (by omega)))⟩, trivial⟩)
set_option maxHeartbeats 2000000 in
theorem sp_plOn3 {SH : dw_Sh} {TT : Nat → dw_T} {K : dw_K} (hE : (EE SH TT).ok) : dx_SOK (EE SH TT) (pr_X12_planLine K) 132 sg_plOn3 := by
  intro ν ls vs args rest μ bc bs hvs hargs hcat g hk
  obtain ⟨v0, rfl, e0⟩ := vs1 (f := fun i => ls[i]?) (a := 0) hvs
  obtain rfl := ar0 hargs
  obtain ⟨g0, -⟩ := g.gl
  rw [show v0 = some (.ref 404) from gV_th g0] at e0
  have f0 : (μ.2.2.1 408 10).toInt = ν 0 + 0 := (g.fa _ (List.Mem.head _)).2
  have p0 : fl_P 103 (ν 0 + 0) μ.2.2.1 := (g.fl _ (List.Mem.head _)).2
  have z0 : ν 0 = 0 := g.z
  have cst1 : (1 : Int32).toInt = 1 := rfl
  refine q_ic rfl ?_
  exact hk _ _ ν [.int 1] (μ) (List.Mem.head _) (post_mk g rfl g.hi (fun _ _ => ⟨rfl, rfl⟩) (by decide) (by decide) (fun _ _ => rfl) ⟨(show (0 : Int) ≤ ν 0 ∧ ν 0 ≤ 0 from ⟨by omega, by omega⟩), trivial⟩ trivial ⟨⟨by decide, 1, rfl, by rw [z0]; rfl⟩, trivial⟩ rfl trivial ⟨⟨by decide, (show fl_P 25 (ν 0 + 4) (μ).2.2.1 from pq_of (c := 4) (by decide) (by omega) (rp_on (c := 3) (y := 0) (by decide) p0 (show (μ.2.2.1 408 10).toInt = 0 by omega)))⟩, trivial⟩)
set_option maxHeartbeats 2000000 in
theorem sp_plIn5 {SH : dw_Sh} {TT : Nat → dw_T} {K : dw_K} (hE : (EE SH TT).ok) : dx_SOK (EE SH TT) (pr_X12_planLine K) 83 sg_plIn5 := by
  intro ν ls vs args rest μ bc bs hvs hargs hcat g hk
  obtain ⟨v0, rfl, e0⟩ := vs1 (f := fun i => ls[i]?) (a := 0) hvs
  obtain rfl := ar0 hargs
  obtain ⟨g0, -⟩ := g.gl
  rw [show v0 = some (.ref 404) from gV_th g0] at e0
  have f0 : (μ.2.2.1 404 21).toInt = ν 0 + 5 := (g.fa _ (List.Mem.head _)).2
  have p0 : fl_P 25 (ν 0 + 5) μ.2.2.1 := (g.fl _ (List.Mem.head _)).2
  have z0 : ν 0 = 0 := g.z
  have cst1 : (1 : Int32).toInt = 1 := rfl
  refine q_ic rfl ?_
  exact hk _ _ ν [.int 1] (μ) (List.Mem.head _) (post_mk g rfl g.hi (fun _ _ => ⟨rfl, rfl⟩) (by decide) (by decide) (fun _ _ => rfl) ⟨(show (0 : Int) ≤ ν 0 ∧ ν 0 ≤ 0 from ⟨by omega, by omega⟩), trivial⟩ trivial ⟨⟨by decide, 1, rfl, by rw [z0]; rfl⟩, trivial⟩ rfl trivial ⟨⟨by decide, (show fl_P 105 (ν 0 + 0) (μ).2.2.1 from pq_in (c := 5) (by decide) (by omega) p0)⟩, trivial⟩)
set_option maxHeartbeats 2000000 in
theorem sp_plOff6 {SH : dw_Sh} {TT : Nat → dw_T} {K : dw_K} (hE : (EE SH TT).ok) : dx_SOK (EE SH TT) (pr_X12_planLine K) 206 sg_plOff6 := by
  intro ν ls vs args rest μ bc bs hvs hargs hcat g hk
  obtain ⟨v0, rfl, e0⟩ := vs1 (f := fun i => ls[i]?) (a := 0) hvs
  obtain rfl := ar0 hargs
  obtain ⟨g0, -⟩ := g.gl
  rw [show v0 = some (.ref 404) from gV_th g0] at e0
  have f0 : (μ.2.2.1 408 20).toInt = ν 1 + 0 := (g.fa _ (List.Mem.head _)).2
  have f1 : (μ.2.2.1 406 0).toInt = ν 2 + 0 := (g.fa _ (List.Mem.tail _ (List.Mem.head _))).2
  have p0 : fl_P 106 (ν 0 + 0) μ.2.2.1 := (g.fl _ (List.Mem.head _)).2
  have b1 : (0 : Int) ≤ ν 1 ∧ ν 1 ≤ 143 := g.iv 1 (by decide)
  have b2 : (1 : Int) ≤ ν 2 ∧ ν 2 ≤ 12 := g.iv 2 (by decide)
  have z0 : ν 0 = 0 := g.z
  have cst1 : (1 : Int32).toInt = 1 := rfl
  refine q_ic rfl ?_
  exact hk _ _ ν [.int 1] (μ) (List.Mem.head _) (post_mk g rfl g.hi (fun _ _ => ⟨rfl, rfl⟩) (by decide) (by decide) (fun _ _ => rfl) ⟨(show (0 : Int) ≤ ν 0 ∧ ν 0 ≤ 0 from ⟨by omega, by omega⟩), (show (0 : Int) ≤ ν 1 ∧ ν 1 ≤ 143 from ⟨by omega, by omega⟩), (show (1 : Int) ≤ ν 2 ∧ ν 2 ≤ 12 from ⟨by omega, by omega⟩), trivial⟩ trivial ⟨⟨by decide, 1, rfl, by rw [z0]; rfl⟩, trivial⟩ rfl trivial ⟨⟨by decide, (show fl_P 25 (ν 0 + 7) (μ).2.2.1 from pq_of (c := 7) (by decide) (by omega) (rp_off (c := 6) (y := 0) (by decide) p0 (show (μ.2.2.1 408 20).toInt ≤ 143 by omega) (by omega)))⟩, trivial⟩)
set_option maxHeartbeats 2000000 in
theorem sp_plOn8 {SH : dw_Sh} {TT : Nat → dw_T} {K : dw_K} (hE : (EE SH TT).ok) : dx_SOK (EE SH TT) (pr_X12_planLine K) 132 sg_plOn8 := by
  intro ν ls vs args rest μ bc bs hvs hargs hcat g hk
  obtain ⟨v0, rfl, e0⟩ := vs1 (f := fun i => ls[i]?) (a := 0) hvs
  obtain rfl := ar0 hargs
  obtain ⟨g0, -⟩ := g.gl
  rw [show v0 = some (.ref 404) from gV_th g0] at e0
  have f0 : (μ.2.2.1 408 25).toInt = ν 0 + 0 := (g.fa _ (List.Mem.head _)).2
  have p0 : fl_P 108 (ν 0 + 0) μ.2.2.1 := (g.fl _ (List.Mem.head _)).2
  have z0 : ν 0 = 0 := g.z
  have cst1 : (1 : Int32).toInt = 1 := rfl
  refine q_ic rfl ?_
  exact hk _ _ ν [.int 1] (μ) (List.Mem.head _) (post_mk g rfl g.hi (fun _ _ => ⟨rfl, rfl⟩) (by decide) (by decide) (fun _ _ => rfl) ⟨(show (0 : Int) ≤ ν 0 ∧ ν 0 ≤ 0 from ⟨by omega, by omega⟩), trivial⟩ trivial ⟨⟨by decide, 1, rfl, by rw [z0]; rfl⟩, trivial⟩ rfl trivial ⟨⟨by decide, (show fl_P 25 (ν 0 + 9) (μ).2.2.1 from pq_of (c := 9) (by decide) (by omega) (rp_on (c := 8) (y := 0) (by decide) p0 (show (μ.2.2.1 408 25).toInt = 0 by omega)))⟩, trivial⟩)
set_option maxHeartbeats 2000000 in
theorem sp_plIn10 {SH : dw_Sh} {TT : Nat → dw_T} {K : dw_K} (hE : (EE SH TT).ok) : dx_SOK (EE SH TT) (pr_X12_planLine K) 83 sg_plIn10 := by
  intro ν ls vs args rest μ bc bs hvs hargs hcat g hk
  obtain ⟨v0, rfl, e0⟩ := vs1 (f := fun i => ls[i]?) (a := 0) hvs
  obtain rfl := ar0 hargs
  obtain ⟨g0, -⟩ := g.gl
  rw [show v0 = some (.ref 404) from gV_th g0] at e0
  have f0 : (μ.2.2.1 404 21).toInt = ν 0 + 10 := (g.fa _ (List.Mem.head _)).2
  have p0 : fl_P 25 (ν 0 + 10) μ.2.2.1 := (g.fl _ (List.Mem.head _)).2
  have z0 : ν 0 = 0 := g.z
  have cst1 : (1 : Int32).toInt = 1 := rfl
  refine q_ic rfl ?_
  exact hk _ _ ν [.int 1] (μ) (List.Mem.head _) (post_mk g rfl g.hi (fun _ _ => ⟨rfl, rfl⟩) (by decide) (by decide) (fun _ _ => rfl) ⟨(show (0 : Int) ≤ ν 0 ∧ ν 0 ≤ 0 from ⟨by omega, by omega⟩), trivial⟩ trivial ⟨⟨by decide, 1, rfl, by rw [z0]; rfl⟩, trivial⟩ rfl trivial ⟨⟨by decide, (show fl_P 110 (ν 0 + 0) (μ).2.2.1 from pq_in (c := 10) (by decide) (by omega) p0)⟩, trivial⟩)
set_option maxHeartbeats 2000000 in
theorem sp_plOff11 {SH : dw_Sh} {TT : Nat → dw_T} {K : dw_K} (hE : (EE SH TT).ok) : dx_SOK (EE SH TT) (pr_X12_planLine K) 206 sg_plOff11 := by
  intro ν ls vs args rest μ bc bs hvs hargs hcat g hk
  obtain ⟨v0, rfl, e0⟩ := vs1 (f := fun i => ls[i]?) (a := 0) hvs
  obtain rfl := ar0 hargs
  obtain ⟨g0, -⟩ := g.gl
  rw [show v0 = some (.ref 404) from gV_th g0] at e0
  have f0 : (μ.2.2.1 408 35).toInt = ν 1 + 0 := (g.fa _ (List.Mem.head _)).2
  have f1 : (μ.2.2.1 406 0).toInt = ν 2 + 0 := (g.fa _ (List.Mem.tail _ (List.Mem.head _))).2
  have p0 : fl_P 111 (ν 0 + 0) μ.2.2.1 := (g.fl _ (List.Mem.head _)).2
  have b1 : (0 : Int) ≤ ν 1 ∧ ν 1 ≤ 143 := g.iv 1 (by decide)
  have b2 : (1 : Int) ≤ ν 2 ∧ ν 2 ≤ 12 := g.iv 2 (by decide)
  have z0 : ν 0 = 0 := g.z
  have cst1 : (1 : Int32).toInt = 1 := rfl
  refine q_ic rfl ?_
  exact hk _ _ ν [.int 1] (μ) (List.Mem.head _) (post_mk g rfl g.hi (fun _ _ => ⟨rfl, rfl⟩) (by decide) (by decide) (fun _ _ => rfl) ⟨(show (0 : Int) ≤ ν 0 ∧ ν 0 ≤ 0 from ⟨by omega, by omega⟩), (show (0 : Int) ≤ ν 1 ∧ ν 1 ≤ 143 from ⟨by omega, by omega⟩), (show (1 : Int) ≤ ν 2 ∧ ν 2 ≤ 12 from ⟨by omega, by omega⟩), trivial⟩ trivial ⟨⟨by decide, 1, rfl, by rw [z0]; rfl⟩, trivial⟩ rfl trivial ⟨⟨by decide, (show fl_P 25 (ν 0 + 12) (μ).2.2.1 from pq_of (c := 12) (by decide) (by omega) (rp_off (c := 11) (y := 0) (by decide) p0 (show (μ.2.2.1 408 35).toInt ≤ 143 by omega) (by omega)))⟩, trivial⟩)
set_option maxHeartbeats 2000000 in
theorem sp_plOn13 {SH : dw_Sh} {TT : Nat → dw_T} {K : dw_K} (hE : (EE SH TT).ok) : dx_SOK (EE SH TT) (pr_X12_planLine K) 132 sg_plOn13 := by
  intro ν ls vs args rest μ bc bs hvs hargs hcat g hk
  obtain ⟨v0, rfl, e0⟩ := vs1 (f := fun i => ls[i]?) (a := 0) hvs
  obtain rfl := ar0 hargs
  obtain ⟨g0, -⟩ := g.gl
  rw [show v0 = some (.ref 404) from gV_th g0] at e0
  have f0 : (μ.2.2.1 408 40).toInt = ν 0 + 0 := (g.fa _ (List.Mem.head _)).2
  have p0 : fl_P 113 (ν 0 + 0) μ.2.2.1 := (g.fl _ (List.Mem.head _)).2
  have z0 : ν 0 = 0 := g.z
  have cst1 : (1 : Int32).toInt = 1 := rfl
  refine q_ic rfl ?_
  exact hk _ _ ν [.int 1] (μ) (List.Mem.head _) (post_mk g rfl g.hi (fun _ _ => ⟨rfl, rfl⟩) (by decide) (by decide) (fun _ _ => rfl) ⟨(show (0 : Int) ≤ ν 0 ∧ ν 0 ≤ 0 from ⟨by omega, by omega⟩), trivial⟩ trivial ⟨⟨by decide, 1, rfl, by rw [z0]; rfl⟩, trivial⟩ rfl trivial ⟨⟨by decide, (show fl_P 25 (ν 0 + 14) (μ).2.2.1 from pq_of (c := 14) (by decide) (by omega) (rp_on (c := 13) (y := 0) (by decide) p0 (show (μ.2.2.1 408 40).toInt = 0 by omega)))⟩, trivial⟩)
set_option maxHeartbeats 2000000 in
theorem sp_plIn15 {SH : dw_Sh} {TT : Nat → dw_T} {K : dw_K} (hE : (EE SH TT).ok) : dx_SOK (EE SH TT) (pr_X12_planLine K) 83 sg_plIn15 := by
  intro ν ls vs args rest μ bc bs hvs hargs hcat g hk
  obtain ⟨v0, rfl, e0⟩ := vs1 (f := fun i => ls[i]?) (a := 0) hvs
  obtain rfl := ar0 hargs
  obtain ⟨g0, -⟩ := g.gl
  rw [show v0 = some (.ref 404) from gV_th g0] at e0
  have f0 : (μ.2.2.1 404 21).toInt = ν 0 + 15 := (g.fa _ (List.Mem.head _)).2
  have p0 : fl_P 25 (ν 0 + 15) μ.2.2.1 := (g.fl _ (List.Mem.head _)).2
  have z0 : ν 0 = 0 := g.z
  have cst1 : (1 : Int32).toInt = 1 := rfl
  refine q_ic rfl ?_
  exact hk _ _ ν [.int 1] (μ) (List.Mem.head _) (post_mk g rfl g.hi (fun _ _ => ⟨rfl, rfl⟩) (by decide) (by decide) (fun _ _ => rfl) ⟨(show (0 : Int) ≤ ν 0 ∧ ν 0 ≤ 0 from ⟨by omega, by omega⟩), trivial⟩ trivial ⟨⟨by decide, 1, rfl, by rw [z0]; rfl⟩, trivial⟩ rfl trivial ⟨⟨by decide, (show fl_P 115 (ν 0 + 0) (μ).2.2.1 from pq_in (c := 15) (by decide) (by omega) p0)⟩, trivial⟩)
set_option maxHeartbeats 2000000 in
theorem sp_plOff16 {SH : dw_Sh} {TT : Nat → dw_T} {K : dw_K} (hE : (EE SH TT).ok) : dx_SOK (EE SH TT) (pr_X12_planLine K) 206 sg_plOff16 := by
  intro ν ls vs args rest μ bc bs hvs hargs hcat g hk
  obtain ⟨v0, rfl, e0⟩ := vs1 (f := fun i => ls[i]?) (a := 0) hvs
  obtain rfl := ar0 hargs
  obtain ⟨g0, -⟩ := g.gl
  rw [show v0 = some (.ref 404) from gV_th g0] at e0
  have f0 : (μ.2.2.1 408 50).toInt = ν 1 + 0 := (g.fa _ (List.Mem.head _)).2
  have f1 : (μ.2.2.1 406 0).toInt = ν 2 + 0 := (g.fa _ (List.Mem.tail _ (List.Mem.head _))).2
  have p0 : fl_P 116 (ν 0 + 0) μ.2.2.1 := (g.fl _ (List.Mem.head _)).2
  have b1 : (0 : Int) ≤ ν 1 ∧ ν 1 ≤ 143 := g.iv 1 (by decide)
  have b2 : (1 : Int) ≤ ν 2 ∧ ν 2 ≤ 12 := g.iv 2 (by decide)
  have z0 : ν 0 = 0 := g.z
  have cst1 : (1 : Int32).toInt = 1 := rfl
  refine q_ic rfl ?_
  exact hk _ _ ν [.int 1] (μ) (List.Mem.head _) (post_mk g rfl g.hi (fun _ _ => ⟨rfl, rfl⟩) (by decide) (by decide) (fun _ _ => rfl) ⟨(show (0 : Int) ≤ ν 0 ∧ ν 0 ≤ 0 from ⟨by omega, by omega⟩), (show (0 : Int) ≤ ν 1 ∧ ν 1 ≤ 143 from ⟨by omega, by omega⟩), (show (1 : Int) ≤ ν 2 ∧ ν 2 ≤ 12 from ⟨by omega, by omega⟩), trivial⟩ trivial ⟨⟨by decide, 1, rfl, by rw [z0]; rfl⟩, trivial⟩ rfl trivial ⟨⟨by decide, (show fl_P 25 (ν 0 + 17) (μ).2.2.1 from pq_of (c := 17) (by decide) (by omega) (rp_off (c := 16) (y := 0) (by decide) p0 (show (μ.2.2.1 408 50).toInt ≤ 143 by omega) (by omega)))⟩, trivial⟩)
set_option maxHeartbeats 2000000 in
theorem sp_plOn18 {SH : dw_Sh} {TT : Nat → dw_T} {K : dw_K} (hE : (EE SH TT).ok) : dx_SOK (EE SH TT) (pr_X12_planLine K) 132 sg_plOn18 := by
  intro ν ls vs args rest μ bc bs hvs hargs hcat g hk
  obtain ⟨v0, rfl, e0⟩ := vs1 (f := fun i => ls[i]?) (a := 0) hvs
  obtain rfl := ar0 hargs
  obtain ⟨g0, -⟩ := g.gl
  rw [show v0 = some (.ref 404) from gV_th g0] at e0
  have f0 : (μ.2.2.1 408 55).toInt = ν 0 + 0 := (g.fa _ (List.Mem.head _)).2
  have p0 : fl_P 118 (ν 0 + 0) μ.2.2.1 := (g.fl _ (List.Mem.head _)).2
  have z0 : ν 0 = 0 := g.z
  have cst1 : (1 : Int32).toInt = 1 := rfl
  refine q_ic rfl ?_
  exact hk _ _ ν [.int 1] (μ) (List.Mem.head _) (post_mk g rfl g.hi (fun _ _ => ⟨rfl, rfl⟩) (by decide) (by decide) (fun _ _ => rfl) ⟨(show (0 : Int) ≤ ν 0 ∧ ν 0 ≤ 0 from ⟨by omega, by omega⟩), trivial⟩ trivial ⟨⟨by decide, 1, rfl, by rw [z0]; rfl⟩, trivial⟩ rfl trivial ⟨⟨by decide, (show fl_P 25 (ν 0 + 19) (μ).2.2.1 from pq_of (c := 19) (by decide) (by omega) (rp_on (c := 18) (y := 0) (by decide) p0 (show (μ.2.2.1 408 55).toInt = 0 by omega)))⟩, trivial⟩)
set_option maxHeartbeats 2000000 in
theorem sp_plIn20 {SH : dw_Sh} {TT : Nat → dw_T} {K : dw_K} (hE : (EE SH TT).ok) : dx_SOK (EE SH TT) (pr_X12_planLine K) 83 sg_plIn20 := by
  intro ν ls vs args rest μ bc bs hvs hargs hcat g hk
  obtain ⟨v0, rfl, e0⟩ := vs1 (f := fun i => ls[i]?) (a := 0) hvs
  obtain rfl := ar0 hargs
  obtain ⟨g0, -⟩ := g.gl
  rw [show v0 = some (.ref 404) from gV_th g0] at e0
  have f0 : (μ.2.2.1 404 21).toInt = ν 0 + 20 := (g.fa _ (List.Mem.head _)).2
  have p0 : fl_P 25 (ν 0 + 20) μ.2.2.1 := (g.fl _ (List.Mem.head _)).2
  have z0 : ν 0 = 0 := g.z
  have cst1 : (1 : Int32).toInt = 1 := rfl
  refine q_ic rfl ?_
  exact hk _ _ ν [.int 1] (μ) (List.Mem.head _) (post_mk g rfl g.hi (fun _ _ => ⟨rfl, rfl⟩) (by decide) (by decide) (fun _ _ => rfl) ⟨(show (0 : Int) ≤ ν 0 ∧ ν 0 ≤ 0 from ⟨by omega, by omega⟩), trivial⟩ trivial ⟨⟨by decide, 1, rfl, by rw [z0]; rfl⟩, trivial⟩ rfl trivial ⟨⟨by decide, (show fl_P 120 (ν 0 + 0) (μ).2.2.1 from pq_in (c := 20) (by decide) (by omega) p0)⟩, trivial⟩)
set_option maxHeartbeats 2000000 in
theorem sp_plOff21 {SH : dw_Sh} {TT : Nat → dw_T} {K : dw_K} (hE : (EE SH TT).ok) : dx_SOK (EE SH TT) (pr_X12_planLine K) 206 sg_plOff21 := by
  intro ν ls vs args rest μ bc bs hvs hargs hcat g hk
  obtain ⟨v0, rfl, e0⟩ := vs1 (f := fun i => ls[i]?) (a := 0) hvs
  obtain rfl := ar0 hargs
  obtain ⟨g0, -⟩ := g.gl
  rw [show v0 = some (.ref 404) from gV_th g0] at e0
  have f0 : (μ.2.2.1 408 65).toInt = ν 1 + 0 := (g.fa _ (List.Mem.head _)).2
  have f1 : (μ.2.2.1 406 0).toInt = ν 2 + 0 := (g.fa _ (List.Mem.tail _ (List.Mem.head _))).2
  have p0 : fl_P 121 (ν 0 + 0) μ.2.2.1 := (g.fl _ (List.Mem.head _)).2
  have b1 : (0 : Int) ≤ ν 1 ∧ ν 1 ≤ 143 := g.iv 1 (by decide)
  have b2 : (1 : Int) ≤ ν 2 ∧ ν 2 ≤ 12 := g.iv 2 (by decide)
  have z0 : ν 0 = 0 := g.z
  have cst1 : (1 : Int32).toInt = 1 := rfl
  refine q_ic rfl ?_
  exact hk _ _ ν [.int 1] (μ) (List.Mem.head _) (post_mk g rfl g.hi (fun _ _ => ⟨rfl, rfl⟩) (by decide) (by decide) (fun _ _ => rfl) ⟨(show (0 : Int) ≤ ν 0 ∧ ν 0 ≤ 0 from ⟨by omega, by omega⟩), (show (0 : Int) ≤ ν 1 ∧ ν 1 ≤ 143 from ⟨by omega, by omega⟩), (show (1 : Int) ≤ ν 2 ∧ ν 2 ≤ 12 from ⟨by omega, by omega⟩), trivial⟩ trivial ⟨⟨by decide, 1, rfl, by rw [z0]; rfl⟩, trivial⟩ rfl trivial ⟨⟨by decide, (show fl_P 25 (ν 0 + 22) (μ).2.2.1 from pq_of (c := 22) (by decide) (by omega) (rp_off (c := 21) (y := 0) (by decide) p0 (show (μ.2.2.1 408 65).toInt ≤ 143 by omega) (by omega)))⟩, trivial⟩)
set_option maxHeartbeats 2000000 in
theorem sp_plOn23 {SH : dw_Sh} {TT : Nat → dw_T} {K : dw_K} (hE : (EE SH TT).ok) : dx_SOK (EE SH TT) (pr_X12_planLine K) 132 sg_plOn23 := by
  intro ν ls vs args rest μ bc bs hvs hargs hcat g hk
  obtain ⟨v0, rfl, e0⟩ := vs1 (f := fun i => ls[i]?) (a := 0) hvs
  obtain rfl := ar0 hargs
  obtain ⟨g0, -⟩ := g.gl
  rw [show v0 = some (.ref 404) from gV_th g0] at e0
  have f0 : (μ.2.2.1 408 70).toInt = ν 0 + 0 := (g.fa _ (List.Mem.head _)).2
  have p0 : fl_P 123 (ν 0 + 0) μ.2.2.1 := (g.fl _ (List.Mem.head _)).2
  have z0 : ν 0 = 0 := g.z
  have cst1 : (1 : Int32).toInt = 1 := rfl
  refine q_ic rfl ?_
  exact hk _ _ ν [.int 1] (μ) (List.Mem.head _) (post_mk g rfl g.hi (fun _ _ => ⟨rfl, rfl⟩) (by decide) (by decide) (fun _ _ => rfl) ⟨(show (0 : Int) ≤ ν 0 ∧ ν 0 ≤ 0 from ⟨by omega, by omega⟩), trivial⟩ trivial ⟨⟨by decide, 1, rfl, by rw [z0]; rfl⟩, trivial⟩ rfl trivial ⟨⟨by decide, (show fl_P 25 (ν 0 + 24) (μ).2.2.1 from pq_of (c := 24) (by decide) (by omega) (rp_on (c := 23) (y := 0) (by decide) p0 (show (μ.2.2.1 408 70).toInt = 0 by omega)))⟩, trivial⟩)
set_option maxHeartbeats 2000000 in
theorem sp_plIn25 {SH : dw_Sh} {TT : Nat → dw_T} {K : dw_K} (hE : (EE SH TT).ok) : dx_SOK (EE SH TT) (pr_X12_planLine K) 83 sg_plIn25 := by
  intro ν ls vs args rest μ bc bs hvs hargs hcat g hk
  obtain ⟨v0, rfl, e0⟩ := vs1 (f := fun i => ls[i]?) (a := 0) hvs
  obtain rfl := ar0 hargs
  obtain ⟨g0, -⟩ := g.gl
  rw [show v0 = some (.ref 404) from gV_th g0] at e0
  have f0 : (μ.2.2.1 404 21).toInt = ν 0 + 25 := (g.fa _ (List.Mem.head _)).2
  have p0 : fl_P 25 (ν 0 + 25) μ.2.2.1 := (g.fl _ (List.Mem.head _)).2
  have z0 : ν 0 = 0 := g.z
  have cst1 : (1 : Int32).toInt = 1 := rfl
  refine q_ic rfl ?_
  exact hk _ _ ν [.int 1] (μ) (List.Mem.head _) (post_mk g rfl g.hi (fun _ _ => ⟨rfl, rfl⟩) (by decide) (by decide) (fun _ _ => rfl) ⟨(show (0 : Int) ≤ ν 0 ∧ ν 0 ≤ 0 from ⟨by omega, by omega⟩), trivial⟩ trivial ⟨⟨by decide, 1, rfl, by rw [z0]; rfl⟩, trivial⟩ rfl trivial ⟨⟨by decide, (show fl_P 125 (ν 0 + 0) (μ).2.2.1 from pq_in (c := 25) (by decide) (by omega) p0)⟩, trivial⟩)
set_option maxHeartbeats 2000000 in
theorem sp_plOff26 {SH : dw_Sh} {TT : Nat → dw_T} {K : dw_K} (hE : (EE SH TT).ok) : dx_SOK (EE SH TT) (pr_X12_planLine K) 206 sg_plOff26 := by
  intro ν ls vs args rest μ bc bs hvs hargs hcat g hk
  obtain ⟨v0, rfl, e0⟩ := vs1 (f := fun i => ls[i]?) (a := 0) hvs
  obtain rfl := ar0 hargs
  obtain ⟨g0, -⟩ := g.gl
  rw [show v0 = some (.ref 404) from gV_th g0] at e0
  have f0 : (μ.2.2.1 408 80).toInt = ν 1 + 0 := (g.fa _ (List.Mem.head _)).2
  have f1 : (μ.2.2.1 406 0).toInt = ν 2 + 0 := (g.fa _ (List.Mem.tail _ (List.Mem.head _))).2
  have p0 : fl_P 126 (ν 0 + 0) μ.2.2.1 := (g.fl _ (List.Mem.head _)).2
  have b1 : (0 : Int) ≤ ν 1 ∧ ν 1 ≤ 143 := g.iv 1 (by decide)
  have b2 : (1 : Int) ≤ ν 2 ∧ ν 2 ≤ 12 := g.iv 2 (by decide)
  have z0 : ν 0 = 0 := g.z
  have cst1 : (1 : Int32).toInt = 1 := rfl
  refine q_ic rfl ?_
  exact hk _ _ ν [.int 1] (μ) (List.Mem.head _) (post_mk g rfl g.hi (fun _ _ => ⟨rfl, rfl⟩) (by decide) (by decide) (fun _ _ => rfl) ⟨(show (0 : Int) ≤ ν 0 ∧ ν 0 ≤ 0 from ⟨by omega, by omega⟩), (show (0 : Int) ≤ ν 1 ∧ ν 1 ≤ 143 from ⟨by omega, by omega⟩), (show (1 : Int) ≤ ν 2 ∧ ν 2 ≤ 12 from ⟨by omega, by omega⟩), trivial⟩ trivial ⟨⟨by decide, 1, rfl, by rw [z0]; rfl⟩, trivial⟩ rfl trivial ⟨⟨by decide, (show fl_P 25 (ν 0 + 27) (μ).2.2.1 from pq_of (c := 27) (by decide) (by omega) (rp_off (c := 26) (y := 0) (by decide) p0 (show (μ.2.2.1 408 80).toInt ≤ 143 by omega) (by omega)))⟩, trivial⟩)
set_option maxHeartbeats 2000000 in
theorem sp_plOn28 {SH : dw_Sh} {TT : Nat → dw_T} {K : dw_K} (hE : (EE SH TT).ok) : dx_SOK (EE SH TT) (pr_X12_planLine K) 132 sg_plOn28 := by
  intro ν ls vs args rest μ bc bs hvs hargs hcat g hk
  obtain ⟨v0, rfl, e0⟩ := vs1 (f := fun i => ls[i]?) (a := 0) hvs
  obtain rfl := ar0 hargs
  obtain ⟨g0, -⟩ := g.gl
  rw [show v0 = some (.ref 404) from gV_th g0] at e0
  have f0 : (μ.2.2.1 408 85).toInt = ν 0 + 0 := (g.fa _ (List.Mem.head _)).2
  have p0 : fl_P 128 (ν 0 + 0) μ.2.2.1 := (g.fl _ (List.Mem.head _)).2
  have z0 : ν 0 = 0 := g.z
  have cst1 : (1 : Int32).toInt = 1 := rfl
  refine q_ic rfl ?_
  exact hk _ _ ν [.int 1] (μ) (List.Mem.head _) (post_mk g rfl g.hi (fun _ _ => ⟨rfl, rfl⟩) (by decide) (by decide) (fun _ _ => rfl) ⟨(show (0 : Int) ≤ ν 0 ∧ ν 0 ≤ 0 from ⟨by omega, by omega⟩), trivial⟩ trivial ⟨⟨by decide, 1, rfl, by rw [z0]; rfl⟩, trivial⟩ rfl trivial ⟨⟨by decide, (show fl_P 25 (ν 0 + 29) (μ).2.2.1 from pq_of (c := 29) (by decide) (by omega) (rp_on (c := 28) (y := 0) (by decide) p0 (show (μ.2.2.1 408 85).toInt = 0 by omega)))⟩, trivial⟩)
set_option maxHeartbeats 2000000 in
theorem sp_plZero {SH : dw_Sh} {TT : Nat → dw_T} {K : dw_K} (hE : (EE SH TT).ok) : dx_SOK (EE SH TT) (pr_X12_plan K) 22 sg_plZero := by
  intro ν ls vs args rest μ bc bs hvs hargs hcat g hk
  obtain ⟨v0, rfl, e0⟩ := vs1 (f := fun i => ls[i]?) (a := 0) hvs
  obtain rfl := ar0 hargs
  obtain ⟨g0, -⟩ := g.gl
  rw [show v0 = some (.ref 404) from gV_th g0] at e0
  have z0 : ν 0 = 0 := g.z
  refine q_ald rfl e0 ?_
  exact hk _ _ ν [.ref 404] (μ) (List.Mem.head _) (post_mk g rfl g.hi (fun _ _ => ⟨rfl, rfl⟩) (by decide) (by decide) (fun _ _ => rfl) ⟨(show (0 : Int) ≤ ν 0 ∧ ν 0 ≤ 0 from ⟨by omega, by omega⟩), trivial⟩ trivial ⟨⟨404, List.Mem.head _, rfl⟩, trivial⟩ rfl trivial ⟨⟨by decide, (show fl_P 25 (ν 0 + 0) (μ).2.2.1 from fun i hi _ => absurd hi (by omega))⟩, trivial⟩)
set_option maxHeartbeats 2000000 in
theorem sp_plEnd1 {SH : dw_Sh} {TT : Nat → dw_T} {K : dw_K} (hE : (EE SH TT).ok) : dx_SOK (EE SH TT) (pr_X12_plan K) 113 sg_plEnd1 := by
  intro ν ls vs args rest μ bc bs hvs hargs hcat g hk
  obtain ⟨v0, rfl, e0⟩ := vs1 (f := fun i => ls[i]?) (a := 0) hvs
  obtain rfl := ar0 hargs
  obtain ⟨g0, -⟩ := g.gl
  rw [show v0 = some (.ref 404) from gV_th g0] at e0
  have f0 : (μ.2.2.1 404 21).toInt = ν 0 + 1 := (g.fa _ (List.Mem.head _)).2
  have f1 : (μ.2.2.1 408 0).toInt = ν 0 + 1 := (g.fa _ (List.Mem.tail _ (List.Mem.head _))).2
  have p0 : fl_P 23 (ν 0 + 4) μ.2.2.1 := (g.fl _ (List.Mem.head _)).2
  have p1 : fl_P 25 (ν 0 + 1) μ.2.2.1 := (g.fl _ (List.Mem.tail _ (List.Mem.head _))).2
  have z0 : ν 0 = 0 := g.z
  refine q_ald rfl e0 ?_
  exact hk _ _ ν [.ref 404] (μ) (List.Mem.head _) (post_mk g rfl g.hi (fun _ _ => ⟨rfl, rfl⟩) (by decide) (by decide) (fun _ _ => rfl) ⟨(show (0 : Int) ≤ ν 0 ∧ ν 0 ≤ 0 from ⟨by omega, by omega⟩), trivial⟩ trivial ⟨⟨404, List.Mem.head _, rfl⟩, trivial⟩ rfl trivial ⟨⟨by decide, (show fl_P 6 (ν 0 + 0) (μ).2.2.1 from pl_end (c := 1) (y := 0) (by decide) (by omega) (by omega) p0 (pq_in (c := 1) (by decide) (by omega) p1))⟩, trivial⟩)
set_option maxHeartbeats 2000000 in
theorem sp_plEnd6 {SH : dw_Sh} {TT : Nat → dw_T} {K : dw_K} (hE : (EE SH TT).ok) : dx_SOK (EE SH TT) (pr_X12_plan K) 113 sg_plEnd6 := by
  intro ν ls vs args rest μ bc bs hvs hargs hcat g hk
  obtain ⟨v0, rfl, e0⟩ := vs1 (f := fun i => ls[i]?) (a := 0) hvs
  obtain rfl := ar0 hargs
  obtain ⟨g0, -⟩ := g.gl
  rw [show v0 = some (.ref 404) from gV_th g0] at e0
  have f0 : (μ.2.2.1 404 21).toInt = ν 0 + 6 := (g.fa _ (List.Mem.head _)).2
  have f1 : (μ.2.2.1 408 0).toInt = ν 0 + 6 := (g.fa _ (List.Mem.tail _ (List.Mem.head _))).2
  have p0 : fl_P 23 (ν 0 + 19) μ.2.2.1 := (g.fl _ (List.Mem.head _)).2
  have p1 : fl_P 25 (ν 0 + 6) μ.2.2.1 := (g.fl _ (List.Mem.tail _ (List.Mem.head _))).2
  have z0 : ν 0 = 0 := g.z
  refine q_ald rfl e0 ?_
  exact hk _ _ ν [.ref 404] (μ) (List.Mem.head _) (post_mk g rfl g.hi (fun _ _ => ⟨rfl, rfl⟩) (by decide) (by decide) (fun _ _ => rfl) ⟨(show (0 : Int) ≤ ν 0 ∧ ν 0 ≤ 0 from ⟨by omega, by omega⟩), trivial⟩ trivial ⟨⟨404, List.Mem.head _, rfl⟩, trivial⟩ rfl trivial ⟨⟨by decide, (show fl_P 6 (ν 0 + 0) (μ).2.2.1 from pl_end (c := 6) (y := 0) (by decide) (by omega) (by omega) p0 (pq_in (c := 6) (by decide) (by omega) p1))⟩, trivial⟩)
set_option maxHeartbeats 2000000 in
theorem sp_plEnd11 {SH : dw_Sh} {TT : Nat → dw_T} {K : dw_K} (hE : (EE SH TT).ok) : dx_SOK (EE SH TT) (pr_X12_plan K) 113 sg_plEnd11 := by
  intro ν ls vs args rest μ bc bs hvs hargs hcat g hk
  obtain ⟨v0, rfl, e0⟩ := vs1 (f := fun i => ls[i]?) (a := 0) hvs
  obtain rfl := ar0 hargs
  obtain ⟨g0, -⟩ := g.gl
  rw [show v0 = some (.ref 404) from gV_th g0] at e0
  have f0 : (μ.2.2.1 404 21).toInt = ν 0 + 11 := (g.fa _ (List.Mem.head _)).2
  have f1 : (μ.2.2.1 408 0).toInt = ν 0 + 11 := (g.fa _ (List.Mem.tail _ (List.Mem.head _))).2
  have p0 : fl_P 23 (ν 0 + 34) μ.2.2.1 := (g.fl _ (List.Mem.head _)).2
  have p1 : fl_P 25 (ν 0 + 11) μ.2.2.1 := (g.fl _ (List.Mem.tail _ (List.Mem.head _))).2
  have z0 : ν 0 = 0 := g.z
  refine q_ald rfl e0 ?_
  exact hk _ _ ν [.ref 404] (μ) (List.Mem.head _) (post_mk g rfl g.hi (fun _ _ => ⟨rfl, rfl⟩) (by decide) (by decide) (fun _ _ => rfl) ⟨(show (0 : Int) ≤ ν 0 ∧ ν 0 ≤ 0 from ⟨by omega, by omega⟩), trivial⟩ trivial ⟨⟨404, List.Mem.head _, rfl⟩, trivial⟩ rfl trivial ⟨⟨by decide, (show fl_P 6 (ν 0 + 0) (μ).2.2.1 from pl_end (c := 11) (y := 0) (by decide) (by omega) (by omega) p0 (pq_in (c := 11) (by decide) (by omega) p1))⟩, trivial⟩)
set_option maxHeartbeats 2000000 in
theorem sp_plEnd16 {SH : dw_Sh} {TT : Nat → dw_T} {K : dw_K} (hE : (EE SH TT).ok) : dx_SOK (EE SH TT) (pr_X12_plan K) 113 sg_plEnd16 := by
  intro ν ls vs args rest μ bc bs hvs hargs hcat g hk
  obtain ⟨v0, rfl, e0⟩ := vs1 (f := fun i => ls[i]?) (a := 0) hvs
  obtain rfl := ar0 hargs
  obtain ⟨g0, -⟩ := g.gl
  rw [show v0 = some (.ref 404) from gV_th g0] at e0
  have f0 : (μ.2.2.1 404 21).toInt = ν 0 + 16 := (g.fa _ (List.Mem.head _)).2
  have f1 : (μ.2.2.1 408 0).toInt = ν 0 + 16 := (g.fa _ (List.Mem.tail _ (List.Mem.head _))).2
  have p0 : fl_P 23 (ν 0 + 49) μ.2.2.1 := (g.fl _ (List.Mem.head _)).2
  have p1 : fl_P 25 (ν 0 + 16) μ.2.2.1 := (g.fl _ (List.Mem.tail _ (List.Mem.head _))).2
  have z0 : ν 0 = 0 := g.z
  refine q_ald rfl e0 ?_
  exact hk _ _ ν [.ref 404] (μ) (List.Mem.head _) (post_mk g rfl g.hi (fun _ _ => ⟨rfl, rfl⟩) (by decide) (by decide) (fun _ _ => rfl) ⟨(show (0 : Int) ≤ ν 0 ∧ ν 0 ≤ 0 from ⟨by omega, by omega⟩), trivial⟩ trivial ⟨⟨404, List.Mem.head _, rfl⟩, trivial⟩ rfl trivial ⟨⟨by decide, (show fl_P 6 (ν 0 + 0) (μ).2.2.1 from pl_end (c := 16) (y := 0) (by decide) (by omega) (by omega) p0 (pq_in (c := 16) (by decide) (by omega) p1))⟩, trivial⟩)
set_option maxHeartbeats 2000000 in
theorem sp_plEnd21 {SH : dw_Sh} {TT : Nat → dw_T} {K : dw_K} (hE : (EE SH TT).ok) : dx_SOK (EE SH TT) (pr_X12_plan K) 113 sg_plEnd21 := by
  intro ν ls vs args rest μ bc bs hvs hargs hcat g hk
  obtain ⟨v0, rfl, e0⟩ := vs1 (f := fun i => ls[i]?) (a := 0) hvs
  obtain rfl := ar0 hargs
  obtain ⟨g0, -⟩ := g.gl
  rw [show v0 = some (.ref 404) from gV_th g0] at e0
  have f0 : (μ.2.2.1 404 21).toInt = ν 0 + 21 := (g.fa _ (List.Mem.head _)).2
  have f1 : (μ.2.2.1 408 0).toInt = ν 0 + 21 := (g.fa _ (List.Mem.tail _ (List.Mem.head _))).2
  have p0 : fl_P 23 (ν 0 + 64) μ.2.2.1 := (g.fl _ (List.Mem.head _)).2
  have p1 : fl_P 25 (ν 0 + 21) μ.2.2.1 := (g.fl _ (List.Mem.tail _ (List.Mem.head _))).2
  have z0 : ν 0 = 0 := g.z
  refine q_ald rfl e0 ?_
  exact hk _ _ ν [.ref 404] (μ) (List.Mem.head _) (post_mk g rfl g.hi (fun _ _ => ⟨rfl, rfl⟩) (by decide) (by decide) (fun _ _ => rfl) ⟨(show (0 : Int) ≤ ν 0 ∧ ν 0 ≤ 0 from ⟨by omega, by omega⟩), trivial⟩ trivial ⟨⟨404, List.Mem.head _, rfl⟩, trivial⟩ rfl trivial ⟨⟨by decide, (show fl_P 6 (ν 0 + 0) (μ).2.2.1 from pl_end (c := 21) (y := 0) (by decide) (by omega) (by omega) p0 (pq_in (c := 21) (by decide) (by omega) p1))⟩, trivial⟩)
set_option maxHeartbeats 2000000 in
theorem sp_plEnd26 {SH : dw_Sh} {TT : Nat → dw_T} {K : dw_K} (hE : (EE SH TT).ok) : dx_SOK (EE SH TT) (pr_X12_plan K) 113 sg_plEnd26 := by
  intro ν ls vs args rest μ bc bs hvs hargs hcat g hk
  obtain ⟨v0, rfl, e0⟩ := vs1 (f := fun i => ls[i]?) (a := 0) hvs
  obtain rfl := ar0 hargs
  obtain ⟨g0, -⟩ := g.gl
  rw [show v0 = some (.ref 404) from gV_th g0] at e0
  have f0 : (μ.2.2.1 404 21).toInt = ν 0 + 26 := (g.fa _ (List.Mem.head _)).2
  have f1 : (μ.2.2.1 408 0).toInt = ν 0 + 26 := (g.fa _ (List.Mem.tail _ (List.Mem.head _))).2
  have p0 : fl_P 23 (ν 0 + 79) μ.2.2.1 := (g.fl _ (List.Mem.head _)).2
  have p1 : fl_P 25 (ν 0 + 26) μ.2.2.1 := (g.fl _ (List.Mem.tail _ (List.Mem.head _))).2
  have z0 : ν 0 = 0 := g.z
  refine q_ald rfl e0 ?_
  exact hk _ _ ν [.ref 404] (μ) (List.Mem.head _) (post_mk g rfl g.hi (fun _ _ => ⟨rfl, rfl⟩) (by decide) (by decide) (fun _ _ => rfl) ⟨(show (0 : Int) ≤ ν 0 ∧ ν 0 ≤ 0 from ⟨by omega, by omega⟩), trivial⟩ trivial ⟨⟨404, List.Mem.head _, rfl⟩, trivial⟩ rfl trivial ⟨⟨by decide, (show fl_P 6 (ν 0 + 0) (μ).2.2.1 from pl_end (c := 26) (y := 0) (by decide) (by omega) (by omega) p0 (pq_in (c := 26) (by decide) (by omega) p1))⟩, trivial⟩)
set_option maxHeartbeats 2000000 in
theorem sp_imZero0 {SH : dw_Sh} {TT : Nat → dw_T} {K : dw_K} (hE : (EE SH TT).ok) : dx_SOK (EE SH TT) (pr_X12_image K) 16 sg_imZero0 := by
  intro ν ls vs args rest μ bc bs hvs hargs hcat g hk
  obtain ⟨v0, v1, rfl, e0, e1⟩ := vs2 (f := fun i => ls[i]?) (a := 0) (b := 1) hvs
  obtain rfl := ar0 hargs
  obtain ⟨g0, g1, -⟩ := g.gl
  rw [show v0 = some (.ref 404) from gV_th g0] at e0
  obtain ⟨-, w1, h1, q1⟩ := g1
  rw [h1] at e1
  have z0 : ν 0 = 0 := g.z
  have cst0 : (0 : Int32).toInt = 0 := rfl
  refine q_ic rfl ?_
  exact hk _ _ ν [.int 0] (μ) (List.Mem.head _) (post_mk g rfl g.hi (fun _ _ => ⟨rfl, rfl⟩) (by decide) (by decide) (fun _ _ => rfl) ⟨(show (0 : Int) ≤ ν 0 ∧ ν 0 ≤ 0 from ⟨by omega, by omega⟩), trivial⟩ trivial ⟨⟨by decide, 0, rfl, by rw [z0]; rfl⟩, trivial⟩ rfl trivial ⟨⟨by decide, (show fl_P 15 (ν 0 + 0) (μ).2.2.1 from fun j _ hj => absurd hj (by omega))⟩, trivial⟩)
set_option maxHeartbeats 2000000 in
theorem sp_reEnd0 {SH : dw_Sh} {TT : Nat → dw_T} {K : dw_K} (hE : (EE SH TT).ok) : dx_SOK (EE SH TT) (pr_X12_restore K) 58 sg_reEnd0 := by
  intro ν ls vs args rest μ bc bs hvs hargs hcat g hk
  obtain ⟨v0, v1, rfl, e0, e1⟩ := vs2 (f := fun i => ls[i]?) (a := 0) (b := 1) hvs
  obtain rfl := ar0 hargs
  obtain ⟨g0, g1, -⟩ := g.gl
  rw [show v0 = some (.ref 404) from gV_th g0] at e0
  obtain ⟨-, w1, h1, q1⟩ := g1
  rw [h1] at e1
  have f0 : (μ.2.2.1 433 0).toInt = ν 0 + 1 := (g.fa _ (List.Mem.head _)).2
  have p0 : fl_P 15 (ν 0 + 1427) μ.2.2.1 := (g.fl _ (List.Mem.head _)).2
  have p1 : fl_P 2 (ν 0 + 0) μ.2.2.1 := (g.fl _ (List.Mem.tail _ (List.Mem.head _))).2
  have z0 : ν 0 = 0 := g.z
  have cst1 : (1 : Int32).toInt = 1 := rfl
  refine q_ic rfl ?_
  obtain ⟨kw, kp⟩ := p1 (by omega)
  have cp : ∀ j : Nat, j < 894 → μ.2.2.1 406 (0 + j) = μ.2.2.1 432 (0 + j) := fun j hj => by rw [Nat.zero_add]; exact (p0 j hj (by omega)).symm
  exact hk _ _ ν [.int 1] (μ) (List.Mem.head _) (post_mk g rfl g.hi (fun _ _ => ⟨rfl, rfl⟩) (by decide) (by decide) (fun _ _ => rfl) ⟨(show (0 : Int) ≤ ν 0 ∧ ν 0 ≤ 0 from ⟨by omega, by omega⟩), trivial⟩ trivial ⟨⟨by decide, 1, rfl, by rw [z0]; rfl⟩, trivial⟩ rfl trivial ⟨⟨by decide, (show fl_P 0 (ν 0 + 0) (μ).2.2.1 from wk_copy cp kw)⟩, ⟨by decide, (show fl_P 6 (ν 0 + 0) (μ).2.2.1 from pl_copy cp kp)⟩, trivial⟩)
set_option maxHeartbeats 2000000 in
theorem sp_reCopy1 {SH : dw_Sh} {TT : Nat → dw_T} {K : dw_K} (hE : (EE SH TT).ok) : dx_SOK (EE SH TT) (pr_X12_restore K) 34 sg_reCopy1 := by
  intro ν ls vs args rest μ bc bs hvs hargs hcat g hk
  obtain ⟨v0, v1, v2, rfl, e0, e1, e2⟩ := vs3 (f := fun i => ls[i]?) (a := 0) (b := 1) (c := 2) hvs
  obtain rfl := ar0 hargs
  obtain ⟨g0, g1, g2, -⟩ := g.gl
  rw [show v0 = some (.ref 404) from gV_th g0] at e0
  obtain ⟨-, w1, h1, q1⟩ := g1
  rw [h1] at e1
  obtain ⟨-, w2, h2, q2⟩ := g2
  rw [h2] at e2
  have p0 : fl_P 16 (ν 1 + 0) μ.2.2.1 := (g.fl _ (List.Mem.head _)).2
  have b1 : (0 : Int) ≤ ν 1 ∧ ν 1 ≤ 1426 := g.iv 1 (by decide)
  have z0 : ν 0 = 0 := g.z
  have cw : ((1427 : Int32) * w1).toInt = 1427 := i_mul (n := 1427) (by rw [show (1427 : Int32).toInt = 1427 from rfl, q1]; omega) (by decide) (by decide)
  refine q_ald rfl e0 ?_
  have k404 : (μ.2.1 404).1 = 12 := by rw [g.sh]; exact (hE.sh 404).1
  have n404 : (μ.2.1 404).2.1 = 57 := by rw [g.sh]; exact (hE.sh 404).2.1
  have r404_6 : (μ.2.1 404).2.2 6 = some 406 := by rw [g.sh]; exact (hE.sh 404).2.2 6
  refine q_getr rfl k404 r404_6 ?_
  refine q_ild rfl e2 ?_
  refine q_ald rfl e0 ?_
  have r404_55 : (μ.2.1 404).2.2 55 = some 432 := by rw [g.sh]; exact (hE.sh 404).2.2 55
  refine q_getr rfl k404 r404_55 ?_
  have cst1427 : (1427 : Int32).toInt = 1427 := rfl
  refine q_ic rfl ?_
  refine q_ild rfl e1 ?_
  refine q_mul rfl ?_
  have t1 : ((1427 : Int32) * w1).toInt = 1427 * (w1).toInt := i_mul (by rw [cst1427]) (by omega) (by omega)
  refine q_ild rfl e2 ?_
  refine q_add rfl ?_
  have t2 : (((1427 : Int32) * w1) + w2).toInt = (((1427 : Int32) * w1)).toInt + (w2).toInt := i_add (by first | omega | (simp; omega)) (by first | omega | (simp; omega))
  have k432 : (μ.2.1 432).1 = 16 := by rw [g.sh]; exact (hE.sh 432).1
  have n432 : (μ.2.1 432).2.1 = 2854 := by rw [g.sh]; exact (hE.sh 432).2.1
  refine q_xald rfl (Or.inl rfl) k432 n432 (by omega) (by omega) ?_
  have k406 : (μ.2.1 406).1 = 16 := by rw [g.sh]; exact (hE.sh 406).1
  have n406 : (μ.2.1 406).2.1 = 1427 := by rw [g.sh]; exact (hE.sh 406).2.1
  refine q_iast rfl k406 n406 (by omega) (by omega) ?_
  have en : (((1427 : Int32) * w1) + w2).toInt.toNat = 1427 + w2.toInt.toNat := by omega
  rw [en]
  have hh : dx_in (dx_seg (dx_ce 406).iv w2.toInt.toNat) (μ.2.2.1 432 (1427 + w2.toInt.toNat)).toInt := by rw [← (hi32 w2.toInt.toNat (by omega)).2]; exact g.hi 432 _
  exact hk _ _ ν [] (dw_si μ 406 w2.toInt.toNat (μ.2.2.1 432 (1427 + w2.toInt.toNat))) (List.Mem.head _) (post_mk g rfl (up_hi g.hi hh) (up_fr (List.Mem.head _)) (by decide) (by decide) (fun _ _ => rfl) ⟨(show (0 : Int) ≤ ν 0 ∧ ν 0 ≤ 0 from ⟨by omega, by omega⟩), (show (0 : Int) ≤ ν 1 ∧ ν 1 ≤ 1426 from ⟨by omega, by omega⟩), trivial⟩ trivial trivial rfl trivial ⟨⟨by decide, (show fl_P 16 (ν 1 + 1) (dw_si μ 406 w2.toInt.toNat (μ.2.2.1 432 (1427 + w2.toInt.toNat))).2.2.1 from fun j hj hx => by
      show dw_up μ.2.2.1 406 w2.toInt.toNat (μ.2.2.1 432 (1427 + w2.toInt.toNat)) 432 (1427 + j) = dw_up μ.2.2.1 406 w2.toInt.toNat (μ.2.2.1 432 (1427 + w2.toInt.toNat)) 406 j
      rw [up_ne (a' := 432) (Or.inl (by decide))]
      by_cases e : j = w2.toInt.toNat
      · rw [e, up_at]
      · rw [up_ne (Or.inr e)]; exact p0 j hj (by omega))⟩, trivial⟩)
set_option maxHeartbeats 2000000 in
theorem sp_waBetter {SH : dw_Sh} {TT : Nat → dw_T} {K : dw_K} (hE : (EE SH TT).ok) : dx_SOK (EE SH TT) (pr_X12_walk K) 162 sg_waBetter := by
  intro ν ls vs args rest μ bc bs hvs hargs hcat g hk
  obtain ⟨v0, v1, v2, rfl, e0, e1, e2⟩ := vs3 (f := fun i => ls[i]?) (a := 0) (b := 6) (c := 8) hvs
  obtain rfl := ar0 hargs
  obtain ⟨g0, g1, g2, -⟩ := g.gl
  rw [show v0 = some (.ref 404) from gV_th g0] at e0
  obtain ⟨-, w1, h1, q1⟩ := g1
  rw [h1] at e1
  obtain ⟨-, w2, h2, q2⟩ := g2
  rw [h2] at e2
  have p0 : fl_P 13 (ν 3 + 0) μ.2.2.1 := (g.fl _ (List.Mem.head _)).2
  have b1 : (0 : Int) ≤ ν 1 ∧ ν 1 ≤ 143 := g.iv 1 (by decide)
  have b2 : (0 : Int) ≤ ν 2 ∧ ν 2 ≤ 143 := g.iv 2 (by decide)
  have b3 : (-309237645312 : Int) ≤ ν 3 ∧ ν 3 ≤ 309237645312 := g.iv 3 (by decide)
  have z0 : ν 0 = 0 := g.z
  have cn : ν 3 + 0 = fl_sum (fun c => (μ.2.2.1 425 c).toInt) 144 := p0
  refine q_ald rfl e0 ?_
  have k404 : (μ.2.1 404).1 = 12 := by rw [g.sh]; exact (hE.sh 404).1
  have n404 : (μ.2.1 404).2.1 = 57 := by rw [g.sh]; exact (hE.sh 404).2.1
  have r404_45 : (μ.2.1 404).2.2 45 = some 425 := by rw [g.sh]; exact (hE.sh 404).2.2 45
  refine q_getr rfl k404 r404_45 ?_
  refine q_ild rfl e1 ?_
  have k425 : (μ.2.1 425).1 = 16 := by rw [g.sh]; exact (hE.sh 425).1
  have n425 : (μ.2.1 425).2.1 = 144 := by rw [g.sh]; exact (hE.sh 425).2.1
  refine q_xald rfl (Or.inl rfl) k425 n425 (by omega) (by omega) ?_
  refine q_ald rfl e0 ?_
  have r404_29 : (μ.2.1 404).2.2 29 = some 417 := by rw [g.sh]; exact (hE.sh 404).2.2 29
  refine q_getr rfl k404 r404_29 ?_
  refine q_ild rfl e2 ?_
  have k417 : (μ.2.1 417).1 = 16 := by rw [g.sh]; exact (hE.sh 417).1
  have n417 : (μ.2.1 417).2.1 = 144 := by rw [g.sh]; exact (hE.sh 417).2.1
  refine q_xald rfl (Or.inl rfl) k417 n417 (by omega) (by omega) ?_
  refine q_add rfl ?_
  refine q_ald rfl e0 ?_
  refine q_getr rfl k404 r404_45 ?_
  refine q_ild rfl e2 ?_
  refine q_xald rfl (Or.inl rfl) k425 n425 (by omega) (by omega) ?_
  refine q_icmp (c := 2) rfl (by decide) (fun hc => ?_) (fun hc => ?_)
  · have hc1 : ((μ.2.2.1 425 (w1).toInt.toNat) + (μ.2.2.1 417 (w2).toInt.toNat)).toInt < (μ.2.2.1 425 (w2).toInt.toNat).toInt := hc
    refine q_ald rfl e0 ?_
    refine q_getr rfl k404 r404_45 ?_
    refine q_ild rfl e2 ?_
    refine q_ald rfl e0 ?_
    refine q_getr rfl k404 r404_45 ?_
    refine q_ild rfl e1 ?_
    refine q_xald rfl (Or.inl rfl) k425 n425 (by omega) (by omega) ?_
    refine q_ald rfl e0 ?_
    refine q_getr rfl k404 r404_29 ?_
    refine q_ild rfl e2 ?_
    refine q_xald rfl (Or.inl rfl) k417 n417 (by omega) (by omega) ?_
    refine q_add rfl ?_
    refine q_iast rfl k425 n425 (by omega) (by omega) ?_
    generalize hv : ((μ.2.2.1 425 (w1).toInt.toNat) + (μ.2.2.1 417 (w2).toInt.toNat)) = v at *
    have hs := fl_sum_up (f := fun c => (μ.2.2.1 425 c).toInt) (g := fun c => ((dw_up μ.2.2.1 425 w2.toInt.toNat v) 425 c).toInt) (m := w2.toInt.toNat) (d := v.toInt - (μ.2.2.1 425 (w2).toInt.toNat).toInt) (by show ((dw_up μ.2.2.1 425 w2.toInt.toNat v) 425 w2.toInt.toNat).toInt = _; rw [up_at]; omega) (fun c hc => by show ((dw_up μ.2.2.1 425 w2.toInt.toNat v) 425 c).toInt = _; rw [up_ne (Or.inr hc)]) 144
    rw [if_pos (by omega)] at hs
    have hl := fl_sum_le (f := fun c => ((dw_up μ.2.2.1 425 w2.toInt.toNat v) 425 c).toInt) (l := -2147483648) (u := 2147483647) 144 (fun c _ => ⟨dx_b1 _, dx_b2 _⟩)
    obtain ⟨ν', hag, hn0⟩ := nu1 ν 4 (fl_sum (fun c => ((dw_up μ.2.2.1 425 w2.toInt.toNat v) 425 c).toInt) 144)
    have a0 : ν' 0 = ν 0 := hag 0 (by decide)
    have a1 : ν' 1 = ν 1 := hag 1 (by decide)
    have a2 : ν' 2 = ν 2 := hag 2 (by decide)
    have a3 : ν' 3 = ν 3 := hag 3 (by decide)
    exact hk _ _ ν' [] (dw_si μ 425 w2.toInt.toNat v) (List.Mem.tail _ (List.Mem.head _)) (post_mk g rfl (up_hi g.hi (hi425 _ (by omega) _)) (up_fr (List.Mem.head _)) (by decide) (by decide) hag ⟨(show (0 : Int) ≤ ν' 0 ∧ ν' 0 ≤ 0 from ⟨by omega, by omega⟩), (show (0 : Int) ≤ ν' 1 ∧ ν' 1 ≤ 143 from ⟨by omega, by omega⟩), (show (0 : Int) ≤ ν' 2 ∧ ν' 2 ≤ 143 from ⟨by omega, by omega⟩), (show (-309237645312 : Int) ≤ ν' 3 ∧ ν' 3 ≤ 309237645312 from ⟨by omega, by omega⟩), (show (-309237645312 : Int) ≤ ν' 4 ∧ ν' 4 ≤ 309237645312 from ⟨by omega, by omega⟩), trivial⟩ ⟨⟨by decide, by decide, (show ν' 4 - ν' 3 ≤ (-1) from by omega)⟩, trivial⟩ trivial rfl trivial ⟨⟨by decide, (show fl_P 13 (ν' 4 + 0) (dw_si μ 425 w2.toInt.toNat v).2.2.1 from by show ν' 4 + 0 = fl_sum (fun c => ((dw_up μ.2.2.1 425 w2.toInt.toNat v) 425 c).toInt) 144; omega)⟩, trivial⟩)
  · exact hk _ _ ν [] (μ) (List.Mem.head _) (post_mk g rfl g.hi (fun _ _ => ⟨rfl, rfl⟩) (by decide) (by decide) (fun _ _ => rfl) ⟨(show (0 : Int) ≤ ν 0 ∧ ν 0 ≤ 0 from ⟨by omega, by omega⟩), (show (0 : Int) ≤ ν 1 ∧ ν 1 ≤ 143 from ⟨by omega, by omega⟩), (show (0 : Int) ≤ ν 2 ∧ ν 2 ≤ 143 from ⟨by omega, by omega⟩), (show (-309237645312 : Int) ≤ ν 3 ∧ ν 3 ≤ 309237645312 from ⟨by omega, by omega⟩), trivial⟩ trivial trivial rfl trivial ⟨⟨by decide, (show fl_P 13 (ν 3 + 0) (μ).2.2.1 from p0)⟩, trivial⟩)
set_option maxHeartbeats 2000000 in
theorem sp_st13_3 {SH : dw_Sh} {TT : Nat → dw_T} {K : dw_K} (hE : (EE SH TT).ok) : dx_SOK (EE SH TT) (pr_X9_says K) 13 sg_st13_3 := by
  intro ν ls vs args rest μ bc bs hvs hargs hcat g hk
  obtain rfl := vs0 (f := fun i => ls[i]?) hvs
  obtain ⟨x0, rfl⟩ := ar1 hargs
  obtain ⟨g0, -⟩ := g.gl
  obtain rfl : x0 = .ref 1000004 := Option.some.inj (gV_th g0)
  have z0 : ν 0 = 0 := g.z
  have hs : dw_isS 1000004 := isS 3 (by decide)
  have hc : dw_cats rest ≤ 8 := by omega
  refine q_callT1 rfl hs hc (t_length hs ?_)
  rw [show Int32.ofNat (dw_sb (dw_sx 1000004)).length = 3 from by decide +kernel]
  exact hk _ _ ν [.int 3] (μ) (List.Mem.head _) (post_mk g rfl g.hi (fun _ _ => ⟨rfl, rfl⟩) (by decide) (by decide) (fun _ _ => rfl) ⟨(show (0 : Int) ≤ ν 0 ∧ ν 0 ≤ 0 from ⟨by omega, by omega⟩), trivial⟩ trivial ⟨⟨by decide, 3, rfl, by rw [z0]; rfl⟩, trivial⟩ rfl trivial trivial)
set_option maxHeartbeats 2000000 in
theorem sp_st13_8 {SH : dw_Sh} {TT : Nat → dw_T} {K : dw_K} (hE : (EE SH TT).ok) : dx_SOK (EE SH TT) (pr_X9_says K) 13 sg_st13_8 := by
  intro ν ls vs args rest μ bc bs hvs hargs hcat g hk
  obtain rfl := vs0 (f := fun i => ls[i]?) hvs
  obtain ⟨x0, rfl⟩ := ar1 hargs
  obtain ⟨g0, -⟩ := g.gl
  obtain rfl : x0 = .ref 1000009 := Option.some.inj (gV_th g0)
  have z0 : ν 0 = 0 := g.z
  have hs : dw_isS 1000009 := isS 8 (by decide)
  have hc : dw_cats rest ≤ 8 := by omega
  refine q_callT1 rfl hs hc (t_length hs ?_)
  rw [show Int32.ofNat (dw_sb (dw_sx 1000009)).length = 3 from by decide +kernel]
  exact hk _ _ ν [.int 3] (μ) (List.Mem.head _) (post_mk g rfl g.hi (fun _ _ => ⟨rfl, rfl⟩) (by decide) (by decide) (fun _ _ => rfl) ⟨(show (0 : Int) ≤ ν 0 ∧ ν 0 ≤ 0 from ⟨by omega, by omega⟩), trivial⟩ trivial ⟨⟨by decide, 3, rfl, by rw [z0]; rfl⟩, trivial⟩ rfl trivial trivial)
set_option maxHeartbeats 2000000 in
theorem sp_st13_13 {SH : dw_Sh} {TT : Nat → dw_T} {K : dw_K} (hE : (EE SH TT).ok) : dx_SOK (EE SH TT) (pr_X9_says K) 13 sg_st13_13 := by
  intro ν ls vs args rest μ bc bs hvs hargs hcat g hk
  obtain rfl := vs0 (f := fun i => ls[i]?) hvs
  obtain ⟨x0, rfl⟩ := ar1 hargs
  obtain ⟨g0, -⟩ := g.gl
  obtain rfl : x0 = .ref 1000014 := Option.some.inj (gV_th g0)
  have z0 : ν 0 = 0 := g.z
  have hs : dw_isS 1000014 := isS 13 (by decide)
  have hc : dw_cats rest ≤ 8 := by omega
  refine q_callT1 rfl hs hc (t_length hs ?_)
  rw [show Int32.ofNat (dw_sb (dw_sx 1000014)).length = 4 from by decide +kernel]
  exact hk _ _ ν [.int 4] (μ) (List.Mem.head _) (post_mk g rfl g.hi (fun _ _ => ⟨rfl, rfl⟩) (by decide) (by decide) (fun _ _ => rfl) ⟨(show (0 : Int) ≤ ν 0 ∧ ν 0 ≤ 0 from ⟨by omega, by omega⟩), trivial⟩ trivial ⟨⟨by decide, 4, rfl, by rw [z0]; rfl⟩, trivial⟩ rfl trivial trivial)
set_option maxHeartbeats 2000000 in
theorem sp_st13_18 {SH : dw_Sh} {TT : Nat → dw_T} {K : dw_K} (hE : (EE SH TT).ok) : dx_SOK (EE SH TT) (pr_X9_says K) 13 sg_st13_18 := by
  intro ν ls vs args rest μ bc bs hvs hargs hcat g hk
  obtain rfl := vs0 (f := fun i => ls[i]?) hvs
  obtain ⟨x0, rfl⟩ := ar1 hargs
  obtain ⟨g0, -⟩ := g.gl
  obtain rfl : x0 = .ref 1000019 := Option.some.inj (gV_th g0)
  have z0 : ν 0 = 0 := g.z
  have hs : dw_isS 1000019 := isS 18 (by decide)
  have hc : dw_cats rest ≤ 8 := by omega
  refine q_callT1 rfl hs hc (t_length hs ?_)
  rw [show Int32.ofNat (dw_sb (dw_sx 1000019)).length = 5 from by decide +kernel]
  exact hk _ _ ν [.int 5] (μ) (List.Mem.head _) (post_mk g rfl g.hi (fun _ _ => ⟨rfl, rfl⟩) (by decide) (by decide) (fun _ _ => rfl) ⟨(show (0 : Int) ≤ ν 0 ∧ ν 0 ≤ 0 from ⟨by omega, by omega⟩), trivial⟩ trivial ⟨⟨by decide, 5, rfl, by rw [z0]; rfl⟩, trivial⟩ rfl trivial trivial)
set_option maxHeartbeats 2000000 in
theorem sp_st13_23 {SH : dw_Sh} {TT : Nat → dw_T} {K : dw_K} (hE : (EE SH TT).ok) : dx_SOK (EE SH TT) (pr_X9_says K) 13 sg_st13_23 := by
  intro ν ls vs args rest μ bc bs hvs hargs hcat g hk
  obtain rfl := vs0 (f := fun i => ls[i]?) hvs
  obtain ⟨x0, rfl⟩ := ar1 hargs
  obtain ⟨g0, -⟩ := g.gl
  obtain rfl : x0 = .ref 1000024 := Option.some.inj (gV_th g0)
  have z0 : ν 0 = 0 := g.z
  have hs : dw_isS 1000024 := isS 23 (by decide)
  have hc : dw_cats rest ≤ 8 := by omega
  refine q_callT1 rfl hs hc (t_length hs ?_)
  rw [show Int32.ofNat (dw_sb (dw_sx 1000024)).length = 4 from by decide +kernel]
  exact hk _ _ ν [.int 4] (μ) (List.Mem.head _) (post_mk g rfl g.hi (fun _ _ => ⟨rfl, rfl⟩) (by decide) (by decide) (fun _ _ => rfl) ⟨(show (0 : Int) ≤ ν 0 ∧ ν 0 ≤ 0 from ⟨by omega, by omega⟩), trivial⟩ trivial ⟨⟨by decide, 4, rfl, by rw [z0]; rfl⟩, trivial⟩ rfl trivial trivial)
set_option maxHeartbeats 2000000 in
theorem sp_st25_2 {SH : dw_Sh} {TT : Nat → dw_T} {K : dw_K} (hE : (EE SH TT).ok) : dx_SOK (EE SH TT) (pr_X9_says K) 25 sg_st25_2 := by
  intro ν ls vs args rest μ bc bs hvs hargs hcat g hk
  obtain rfl := vs0 (f := fun i => ls[i]?) hvs
  obtain ⟨x0, rfl⟩ := ar1 hargs
  obtain ⟨g0, -⟩ := g.gl
  obtain rfl : x0 = .ref 1000003 := Option.some.inj (gV_th g0)
  have z0 : ν 0 = 0 := g.z
  have hs : dw_isS 1000003 := isS 2 (by decide)
  have hc : dw_cats rest ≤ 8 := by omega
  refine q_callT1 rfl hs hc (t_length hs ?_)
  rw [show Int32.ofNat (dw_sb (dw_sx 1000003)).length = 5 from by decide +kernel]
  exact hk _ _ ν [.int 5] (μ) (List.Mem.head _) (post_mk g rfl g.hi (fun _ _ => ⟨rfl, rfl⟩) (by decide) (by decide) (fun _ _ => rfl) ⟨(show (0 : Int) ≤ ν 0 ∧ ν 0 ≤ 0 from ⟨by omega, by omega⟩), trivial⟩ trivial ⟨⟨by decide, 5, rfl, by rw [z0]; rfl⟩, trivial⟩ rfl trivial trivial)
set_option maxHeartbeats 2000000 in
theorem sp_st25_7 {SH : dw_Sh} {TT : Nat → dw_T} {K : dw_K} (hE : (EE SH TT).ok) : dx_SOK (EE SH TT) (pr_X9_says K) 25 sg_st25_7 := by
  intro ν ls vs args rest μ bc bs hvs hargs hcat g hk
  obtain rfl := vs0 (f := fun i => ls[i]?) hvs
  obtain ⟨x0, rfl⟩ := ar1 hargs
  obtain ⟨g0, -⟩ := g.gl
  obtain rfl : x0 = .ref 1000008 := Option.some.inj (gV_th g0)
  have z0 : ν 0 = 0 := g.z
  have hs : dw_isS 1000008 := isS 7 (by decide)
  have hc : dw_cats rest ≤ 8 := by omega
  refine q_callT1 rfl hs hc (t_length hs ?_)
  rw [show Int32.ofNat (dw_sb (dw_sx 1000008)).length = 4 from by decide +kernel]
  exact hk _ _ ν [.int 4] (μ) (List.Mem.head _) (post_mk g rfl g.hi (fun _ _ => ⟨rfl, rfl⟩) (by decide) (by decide) (fun _ _ => rfl) ⟨(show (0 : Int) ≤ ν 0 ∧ ν 0 ≤ 0 from ⟨by omega, by omega⟩), trivial⟩ trivial ⟨⟨by decide, 4, rfl, by rw [z0]; rfl⟩, trivial⟩ rfl trivial trivial)
set_option maxHeartbeats 2000000 in
theorem sp_st25_12 {SH : dw_Sh} {TT : Nat → dw_T} {K : dw_K} (hE : (EE SH TT).ok) : dx_SOK (EE SH TT) (pr_X9_says K) 25 sg_st25_12 := by
  intro ν ls vs args rest μ bc bs hvs hargs hcat g hk
  obtain rfl := vs0 (f := fun i => ls[i]?) hvs
  obtain ⟨x0, rfl⟩ := ar1 hargs
  obtain ⟨g0, -⟩ := g.gl
  obtain rfl : x0 = .ref 1000013 := Option.some.inj (gV_th g0)
  have z0 : ν 0 = 0 := g.z
  have hs : dw_isS 1000013 := isS 12 (by decide)
  have hc : dw_cats rest ≤ 8 := by omega
  refine q_callT1 rfl hs hc (t_length hs ?_)
  rw [show Int32.ofNat (dw_sb (dw_sx 1000013)).length = 5 from by decide +kernel]
  exact hk _ _ ν [.int 5] (μ) (List.Mem.head _) (post_mk g rfl g.hi (fun _ _ => ⟨rfl, rfl⟩) (by decide) (by decide) (fun _ _ => rfl) ⟨(show (0 : Int) ≤ ν 0 ∧ ν 0 ≤ 0 from ⟨by omega, by omega⟩), trivial⟩ trivial ⟨⟨by decide, 5, rfl, by rw [z0]; rfl⟩, trivial⟩ rfl trivial trivial)
set_option maxHeartbeats 2000000 in
theorem sp_st25_17 {SH : dw_Sh} {TT : Nat → dw_T} {K : dw_K} (hE : (EE SH TT).ok) : dx_SOK (EE SH TT) (pr_X9_says K) 25 sg_st25_17 := by
  intro ν ls vs args rest μ bc bs hvs hargs hcat g hk
  obtain rfl := vs0 (f := fun i => ls[i]?) hvs
  obtain ⟨x0, rfl⟩ := ar1 hargs
  obtain ⟨g0, -⟩ := g.gl
  obtain rfl : x0 = .ref 1000018 := Option.some.inj (gV_th g0)
  have z0 : ν 0 = 0 := g.z
  have hs : dw_isS 1000018 := isS 17 (by decide)
  have hc : dw_cats rest ≤ 8 := by omega
  refine q_callT1 rfl hs hc (t_length hs ?_)
  rw [show Int32.ofNat (dw_sb (dw_sx 1000018)).length = 5 from by decide +kernel]
  exact hk _ _ ν [.int 5] (μ) (List.Mem.head _) (post_mk g rfl g.hi (fun _ _ => ⟨rfl, rfl⟩) (by decide) (by decide) (fun _ _ => rfl) ⟨(show (0 : Int) ≤ ν 0 ∧ ν 0 ≤ 0 from ⟨by omega, by omega⟩), trivial⟩ trivial ⟨⟨by decide, 5, rfl, by rw [z0]; rfl⟩, trivial⟩ rfl trivial trivial)
set_option maxHeartbeats 2000000 in
theorem sp_st25_22 {SH : dw_Sh} {TT : Nat → dw_T} {K : dw_K} (hE : (EE SH TT).ok) : dx_SOK (EE SH TT) (pr_X9_says K) 25 sg_st25_22 := by
  intro ν ls vs args rest μ bc bs hvs hargs hcat g hk
  obtain rfl := vs0 (f := fun i => ls[i]?) hvs
  obtain ⟨x0, rfl⟩ := ar1 hargs
  obtain ⟨g0, -⟩ := g.gl
  obtain rfl : x0 = .ref 1000023 := Option.some.inj (gV_th g0)
  have z0 : ν 0 = 0 := g.z
  have hs : dw_isS 1000023 := isS 22 (by decide)
  have hc : dw_cats rest ≤ 8 := by omega
  refine q_callT1 rfl hs hc (t_length hs ?_)
  rw [show Int32.ofNat (dw_sb (dw_sx 1000023)).length = 2 from by decide +kernel]
  exact hk _ _ ν [.int 2] (μ) (List.Mem.head _) (post_mk g rfl g.hi (fun _ _ => ⟨rfl, rfl⟩) (by decide) (by decide) (fun _ _ => rfl) ⟨(show (0 : Int) ≤ ν 0 ∧ ν 0 ≤ 0 from ⟨by omega, by omega⟩), trivial⟩ trivial ⟨⟨by decide, 2, rfl, by rw [z0]; rfl⟩, trivial⟩ rfl trivial trivial)
set_option maxHeartbeats 2000000 in
theorem sp_st43_1 {SH : dw_Sh} {TT : Nat → dw_T} {K : dw_K} (hE : (EE SH TT).ok) : dx_SOK (EE SH TT) (pr_X9_says K) 43 sg_st43_1 := by
  intro ν ls vs args rest μ bc bs hvs hargs hcat g hk
  obtain rfl := vs0 (f := fun i => ls[i]?) hvs
  obtain ⟨x0, x1, rfl⟩ := ar2 hargs
  obtain ⟨g0, g1, -⟩ := g.gl
  obtain rfl : x0 = .ref 1000002 := Option.some.inj (gV_th g0)
  obtain ⟨-, w1, h1, q1⟩ := g1
  obtain rfl : x1 = .int w1 := Option.some.inj h1
  have b1 : (0 : Int) ≤ ν 1 ∧ ν 1 ≤ 3 := g.iv 1 (by decide)
  have z0 : ν 0 = 0 := g.z
  have hs : dw_isS 1000002 := isS 1 (by decide)
  have hc : dw_cats rest ≤ 8 := by omega
  have hn : (dw_sb (dw_sx 1000002)).length = 4 := by decide +kernel
  refine q_callT2 rfl hs hc (t_charAt hs (by omega) (by rw [hn]; omega) (by decide +kernel) (fun w l1 l2 => ?_))
  obtain ⟨ν', hag, hn0⟩ := nu1 ν 2 (w.toInt)
  have a0 : ν' 0 = ν 0 := hag 0 (by decide)
  have a1 : ν' 1 = ν 1 := hag 1 (by decide)
  exact hk _ _ ν' [.int w] (μ) (List.Mem.head _) (post_mk g rfl g.hi (fun _ _ => ⟨rfl, rfl⟩) (by decide) (by decide) hag ⟨(show (0 : Int) ≤ ν' 0 ∧ ν' 0 ≤ 0 from ⟨by omega, by omega⟩), (show (0 : Int) ≤ ν' 1 ∧ ν' 1 ≤ 3 from ⟨by omega, by omega⟩), (show (0 : Int) ≤ ν' 2 ∧ ν' 2 ≤ 65535 from ⟨by omega, by omega⟩), trivial⟩ trivial ⟨⟨by decide, w, rfl, by show _ = ν' 2 + 0; omega⟩, trivial⟩ rfl trivial trivial)
set_option maxHeartbeats 2000000 in
theorem sp_st43_6 {SH : dw_Sh} {TT : Nat → dw_T} {K : dw_K} (hE : (EE SH TT).ok) : dx_SOK (EE SH TT) (pr_X9_says K) 43 sg_st43_6 := by
  intro ν ls vs args rest μ bc bs hvs hargs hcat g hk
  obtain rfl := vs0 (f := fun i => ls[i]?) hvs
  obtain ⟨x0, x1, rfl⟩ := ar2 hargs
  obtain ⟨g0, g1, -⟩ := g.gl
  obtain rfl : x0 = .ref 1000007 := Option.some.inj (gV_th g0)
  obtain ⟨-, w1, h1, q1⟩ := g1
  obtain rfl : x1 = .int w1 := Option.some.inj h1
  have b1 : (0 : Int) ≤ ν 1 ∧ ν 1 ≤ 4 := g.iv 1 (by decide)
  have z0 : ν 0 = 0 := g.z
  have hs : dw_isS 1000007 := isS 6 (by decide)
  have hc : dw_cats rest ≤ 8 := by omega
  have hn : (dw_sb (dw_sx 1000007)).length = 5 := by decide +kernel
  refine q_callT2 rfl hs hc (t_charAt hs (by omega) (by rw [hn]; omega) (by decide +kernel) (fun w l1 l2 => ?_))
  obtain ⟨ν', hag, hn0⟩ := nu1 ν 2 (w.toInt)
  have a0 : ν' 0 = ν 0 := hag 0 (by decide)
  have a1 : ν' 1 = ν 1 := hag 1 (by decide)
  exact hk _ _ ν' [.int w] (μ) (List.Mem.head _) (post_mk g rfl g.hi (fun _ _ => ⟨rfl, rfl⟩) (by decide) (by decide) hag ⟨(show (0 : Int) ≤ ν' 0 ∧ ν' 0 ≤ 0 from ⟨by omega, by omega⟩), (show (0 : Int) ≤ ν' 1 ∧ ν' 1 ≤ 4 from ⟨by omega, by omega⟩), (show (0 : Int) ≤ ν' 2 ∧ ν' 2 ≤ 65535 from ⟨by omega, by omega⟩), trivial⟩ trivial ⟨⟨by decide, w, rfl, by show _ = ν' 2 + 0; omega⟩, trivial⟩ rfl trivial trivial)
set_option maxHeartbeats 2000000 in
theorem sp_st43_11 {SH : dw_Sh} {TT : Nat → dw_T} {K : dw_K} (hE : (EE SH TT).ok) : dx_SOK (EE SH TT) (pr_X9_says K) 43 sg_st43_11 := by
  intro ν ls vs args rest μ bc bs hvs hargs hcat g hk
  obtain rfl := vs0 (f := fun i => ls[i]?) hvs
  obtain ⟨x0, x1, rfl⟩ := ar2 hargs
  obtain ⟨g0, g1, -⟩ := g.gl
  obtain rfl : x0 = .ref 1000012 := Option.some.inj (gV_th g0)
  obtain ⟨-, w1, h1, q1⟩ := g1
  obtain rfl : x1 = .int w1 := Option.some.inj h1
  have b1 : (0 : Int) ≤ ν 1 ∧ ν 1 ≤ 3 := g.iv 1 (by decide)
  have z0 : ν 0 = 0 := g.z
  have hs : dw_isS 1000012 := isS 11 (by decide)
  have hc : dw_cats rest ≤ 8 := by omega
  have hn : (dw_sb (dw_sx 1000012)).length = 4 := by decide +kernel
  refine q_callT2 rfl hs hc (t_charAt hs (by omega) (by rw [hn]; omega) (by decide +kernel) (fun w l1 l2 => ?_))
  obtain ⟨ν', hag, hn0⟩ := nu1 ν 2 (w.toInt)
  have a0 : ν' 0 = ν 0 := hag 0 (by decide)
  have a1 : ν' 1 = ν 1 := hag 1 (by decide)
  exact hk _ _ ν' [.int w] (μ) (List.Mem.head _) (post_mk g rfl g.hi (fun _ _ => ⟨rfl, rfl⟩) (by decide) (by decide) hag ⟨(show (0 : Int) ≤ ν' 0 ∧ ν' 0 ≤ 0 from ⟨by omega, by omega⟩), (show (0 : Int) ≤ ν' 1 ∧ ν' 1 ≤ 3 from ⟨by omega, by omega⟩), (show (0 : Int) ≤ ν' 2 ∧ ν' 2 ≤ 65535 from ⟨by omega, by omega⟩), trivial⟩ trivial ⟨⟨by decide, w, rfl, by show _ = ν' 2 + 0; omega⟩, trivial⟩ rfl trivial trivial)
set_option maxHeartbeats 2000000 in
theorem sp_st43_16 {SH : dw_Sh} {TT : Nat → dw_T} {K : dw_K} (hE : (EE SH TT).ok) : dx_SOK (EE SH TT) (pr_X9_says K) 43 sg_st43_16 := by
  intro ν ls vs args rest μ bc bs hvs hargs hcat g hk
  obtain rfl := vs0 (f := fun i => ls[i]?) hvs
  obtain ⟨x0, x1, rfl⟩ := ar2 hargs
  obtain ⟨g0, g1, -⟩ := g.gl
  obtain rfl : x0 = .ref 1000017 := Option.some.inj (gV_th g0)
  obtain ⟨-, w1, h1, q1⟩ := g1
  obtain rfl : x1 = .int w1 := Option.some.inj h1
  have b1 : (0 : Int) ≤ ν 1 ∧ ν 1 ≤ 4 := g.iv 1 (by decide)
  have z0 : ν 0 = 0 := g.z
  have hs : dw_isS 1000017 := isS 16 (by decide)
  have hc : dw_cats rest ≤ 8 := by omega
  have hn : (dw_sb (dw_sx 1000017)).length = 5 := by decide +kernel
  refine q_callT2 rfl hs hc (t_charAt hs (by omega) (by rw [hn]; omega) (by decide +kernel) (fun w l1 l2 => ?_))
  obtain ⟨ν', hag, hn0⟩ := nu1 ν 2 (w.toInt)
  have a0 : ν' 0 = ν 0 := hag 0 (by decide)
  have a1 : ν' 1 = ν 1 := hag 1 (by decide)
  exact hk _ _ ν' [.int w] (μ) (List.Mem.head _) (post_mk g rfl g.hi (fun _ _ => ⟨rfl, rfl⟩) (by decide) (by decide) hag ⟨(show (0 : Int) ≤ ν' 0 ∧ ν' 0 ≤ 0 from ⟨by omega, by omega⟩), (show (0 : Int) ≤ ν' 1 ∧ ν' 1 ≤ 4 from ⟨by omega, by omega⟩), (show (0 : Int) ≤ ν' 2 ∧ ν' 2 ≤ 65535 from ⟨by omega, by omega⟩), trivial⟩ trivial ⟨⟨by decide, w, rfl, by show _ = ν' 2 + 0; omega⟩, trivial⟩ rfl trivial trivial)
set_option maxHeartbeats 2000000 in
theorem sp_st43_21 {SH : dw_Sh} {TT : Nat → dw_T} {K : dw_K} (hE : (EE SH TT).ok) : dx_SOK (EE SH TT) (pr_X9_says K) 43 sg_st43_21 := by
  intro ν ls vs args rest μ bc bs hvs hargs hcat g hk
  obtain rfl := vs0 (f := fun i => ls[i]?) hvs
  obtain ⟨x0, x1, rfl⟩ := ar2 hargs
  obtain ⟨g0, g1, -⟩ := g.gl
  obtain rfl : x0 = .ref 1000022 := Option.some.inj (gV_th g0)
  obtain ⟨-, w1, h1, q1⟩ := g1
  obtain rfl : x1 = .int w1 := Option.some.inj h1
  have b1 : (0 : Int) ≤ ν 1 ∧ ν 1 ≤ 2 := g.iv 1 (by decide)
  have z0 : ν 0 = 0 := g.z
  have hs : dw_isS 1000022 := isS 21 (by decide)
  have hc : dw_cats rest ≤ 8 := by omega
  have hn : (dw_sb (dw_sx 1000022)).length = 3 := by decide +kernel
  refine q_callT2 rfl hs hc (t_charAt hs (by omega) (by rw [hn]; omega) (by decide +kernel) (fun w l1 l2 => ?_))
  obtain ⟨ν', hag, hn0⟩ := nu1 ν 2 (w.toInt)
  have a0 : ν' 0 = ν 0 := hag 0 (by decide)
  have a1 : ν' 1 = ν 1 := hag 1 (by decide)
  exact hk _ _ ν' [.int w] (μ) (List.Mem.head _) (post_mk g rfl g.hi (fun _ _ => ⟨rfl, rfl⟩) (by decide) (by decide) hag ⟨(show (0 : Int) ≤ ν' 0 ∧ ν' 0 ≤ 0 from ⟨by omega, by omega⟩), (show (0 : Int) ≤ ν' 1 ∧ ν' 1 ≤ 2 from ⟨by omega, by omega⟩), (show (0 : Int) ≤ ν' 2 ∧ ν' 2 ≤ 65535 from ⟨by omega, by omega⟩), trivial⟩ trivial ⟨⟨by decide, w, rfl, by show _ = ν' 2 + 0; omega⟩, trivial⟩ rfl trivial trivial)
set_option maxHeartbeats 2000000 in
theorem sp_rgStore {SH : dw_Sh} {TT : Nat → dw_T} {K : dw_K} (hE : (EE SH TT).ok) : dx_SOK (EE SH TT) (pr_X1_readRow K) 111 sg_rgStore := by
  intro ν ls vs args rest μ bc bs hvs hargs hcat g hk
  obtain ⟨v0, v1, v2, v3, rfl, e0, e1, e2, e3⟩ := vs4 (f := fun i => ls[i]?) (a := 0) (b := 3) (c := 4) (d := 5) hvs
  obtain rfl := ar0 hargs
  obtain ⟨g0, g1, g2, g3, -⟩ := g.gl
  rw [show v0 = some (.ref 101) from gV_th g0] at e0
  obtain ⟨-, w1, h1, q1⟩ := g1
  rw [h1] at e1
  obtain ⟨-, w2, h2, q2⟩ := g2
  rw [h2] at e2
  obtain ⟨-, w3, h3, q3⟩ := g3
  rw [h3] at e3
  have b1 : (0 : Int) ≤ ν 1 ∧ ν 1 ≤ 10340 := g.iv 1 (by decide)
  have b2 : (0 : Int) ≤ ν 2 ∧ ν 2 ≤ 939 := g.iv 2 (by decide)
  have b3 : (-2147483648 : Int) ≤ ν 3 ∧ ν 3 ≤ 2147483647 := g.iv 3 (by decide)
  have z0 : ν 0 = 0 := g.z
  have c144 : (144 : Int32).toInt = 144 := rfl
  refine q_ild rfl e1 ?_
  refine q_ild rfl e2 ?_
  refine q_add rfl ?_
  refine q_ic rfl ?_
  have t1 : (w1 + w2).toInt = w1.toInt + w2.toInt := i_add (by omega) (by omega)
  refine q_icmp (c := 2) rfl (by decide) (fun hc => ?_) (fun hc => ?_)
  · have hc1 : (w1 + w2).toInt < (144 : Int32).toInt := hc
    have k101 : (μ.2.1 101).1 = 1 := by rw [g.sh]; exact (hE.sh 101).1
    have n101 : (μ.2.1 101).2.1 = 5 := by rw [g.sh]; exact (hE.sh 101).2.1
    have r101_0 : (μ.2.1 101).2.2 0 = some 102 := by rw [g.sh]; exact (hE.sh 101).2.2 0
    have k102 : (μ.2.1 102).1 = 0 := by rw [g.sh]; exact (hE.sh 102).1
    have n102 : (μ.2.1 102).2.1 = 10 := by rw [g.sh]; exact (hE.sh 102).2.1
    have r102_8 : (μ.2.1 102).2.2 8 = some 106 := by rw [g.sh]; exact (hE.sh 102).2.2 8
    have k106 : (μ.2.1 106).1 = 16 := by rw [g.sh]; exact (hE.sh 106).1
    have n106 : (μ.2.1 106).2.1 = 144 := by rw [g.sh]; exact (hE.sh 106).2.1
    refine q_ald rfl e0 ?_
    refine q_getr rfl k101 r101_0 ?_
    refine q_getr rfl k102 r102_8 ?_
    refine q_ild rfl e1 ?_
    refine q_ild rfl e2 ?_
    refine q_add rfl ?_
    refine q_ild rfl e3 ?_
    refine q_iast rfl k106 n106 (by omega) (by omega) ?_
    exact hk _ _ ν [] (dw_si μ 106 (w1 + w2).toInt.toNat w3) (List.Mem.tail _ (List.Mem.head _)) (post_mk g rfl (up_hi g.hi (show dx_in (-2147483648, 2147483647) _ from ⟨dx_b1 _, dx_b2 _⟩)) (up_fr (List.Mem.head _)) (by decide) (by decide) (fun _ _ => rfl) ⟨(show (0 : Int) ≤ ν 0 ∧ ν 0 ≤ 0 from ⟨by omega, by omega⟩), (show (0 : Int) ≤ ν 1 ∧ ν 1 ≤ 10340 from ⟨by omega, by omega⟩), (show (0 : Int) ≤ ν 2 ∧ ν 2 ≤ 939 from ⟨by omega, by omega⟩), (show (-2147483648 : Int) ≤ ν 3 ∧ ν 3 ≤ 2147483647 from ⟨by omega, by omega⟩), trivial⟩ trivial trivial rfl trivial trivial)
  · exact hk _ _ ν [] (μ) (List.Mem.head _) (post_mk g rfl g.hi (fun _ _ => ⟨rfl, rfl⟩) (by decide) (by decide) (fun _ _ => rfl) ⟨(show (0 : Int) ≤ ν 0 ∧ ν 0 ≤ 0 from ⟨by omega, by omega⟩), (show (0 : Int) ≤ ν 1 ∧ ν 1 ≤ 10340 from ⟨by omega, by omega⟩), (show (0 : Int) ≤ ν 2 ∧ ν 2 ≤ 939 from ⟨by omega, by omega⟩), (show (-2147483648 : Int) ≤ ν 3 ∧ ν 3 ≤ 2147483647 from ⟨by omega, by omega⟩), trivial⟩ trivial trivial rfl trivial trivial)
end
section
set_option maxHeartbeats 2000000 in
theorem sp_startKind0 {SH : dw_Sh} {TT : Nat → dw_T} {K : dw_K} (hE : (EE SH TT).ok) : dx_SOK (EE SH TT) (pr_X12_start K) 34 sg_startKind0 := by
  intro ν ls vs args rest μ bc bs hvs hargs hcat g hk
  obtain ⟨v0, rfl, e0⟩ := vs1 (f := fun i => ls[i]?) (a := 0) hvs
  obtain rfl := ar0 hargs
  obtain ⟨g0, -⟩ := g.gl
  rw [show v0 = some (.ref 404) from gV_th g0] at e0
  have f0 : (μ.2.2.1 406 0).toInt = ν 0 + 0 := (g.fa _ (List.Mem.head _)).2
  have z0 : ν 0 = 0 := g.z
  have cst0 : (0 : Int32).toInt = 0 := rfl
  refine q_ic rfl ?_
  exact hk _ _ ν [.int 0] (μ) (List.Mem.head _) (post_mk g rfl g.hi (fun _ _ => ⟨rfl, rfl⟩) (by decide) (by decide) (fun _ _ => rfl) ⟨(show (0 : Int) ≤ ν 0 ∧ ν 0 ≤ 0 from ⟨by omega, by omega⟩), trivial⟩ trivial ⟨⟨by decide, 0, rfl, by rw [z0]; rfl⟩, trivial⟩ rfl trivial ⟨⟨by decide, (show fl_P 5 (ν 0 + 0) (μ).2.2.1 from by show ν 0 + 0 = (μ.2.2.1 406 0).toInt * (μ.2.2.1 406 1).toInt; rw [f0, z0]; simp)⟩, ⟨by decide, (show fl_P 4 (ν 0 + 0) (μ).2.2.1 from fun c _ hc => absurd hc (by omega))⟩, trivial⟩)
set_option maxHeartbeats 2000000 in
theorem sp_catchKind {SH : dw_Sh} {TT : Nat → dw_T} {K : dw_K} (hE : (EE SH TT).ok) : dx_SOK (EE SH TT) (pr_X12_catcher K) 58 sg_catchKind := by
  intro ν ls vs args rest μ bc bs hvs hargs hcat g hk
  obtain ⟨v0, v1, v2, rfl, e0, e1, e2⟩ := vs3 (f := fun i => ls[i]?) (a := 0) (b := 4) (c := 7) hvs
  obtain rfl := ar0 hargs
  obtain ⟨g0, g1, g2, -⟩ := g.gl
  rw [show v0 = some (.ref 404) from gV_th g0] at e0
  obtain ⟨-, w1, h1, q1⟩ := g1
  rw [h1] at e1
  obtain ⟨-, w2, h2, q2⟩ := g2
  rw [h2] at e2
  have f0 : (μ.2.2.1 406 2).toInt = ν 3 + 0 := (g.fa _ (List.Mem.head _)).2
  have p0 : fl_P 0 (ν 0 + 0) μ.2.2.1 := (g.fl _ (List.Mem.head _)).2
  have p1 : fl_P 4 (ν 4 + 0) μ.2.2.1 := (g.fl _ (List.Mem.tail _ (List.Mem.head _))).2
  have b1 : (0 : Int) ≤ ν 1 ∧ ν 1 ≤ 143 := g.iv 1 (by decide)
  have b2 : (0 : Int) ≤ ν 2 ∧ ν 2 ≤ 7 := g.iv 2 (by decide)
  have b3 : (0 : Int) ≤ ν 3 ∧ ν 3 ≤ 8 := g.iv 3 (by decide)
  have b4 : (-2147483648 : Int) ≤ ν 4 ∧ ν 4 ≤ 2147483647 := g.iv 4 (by decide)
  have d0 : ν 2 - ν 3 ≤ (-1) := (g.dc _ (List.Mem.head _)).2.2
  have z0 : ν 0 = 0 := g.z
  refine q_ald rfl e0 ?_
  have k404 : (μ.2.1 404).1 = 12 := by rw [g.sh]; exact (hE.sh 404).1
  have n404 : (μ.2.1 404).2.1 = 57 := by rw [g.sh]; exact (hE.sh 404).2.1
  have r404_31 : (μ.2.1 404).2.2 31 = some 419 := by rw [g.sh]; exact (hE.sh 404).2.2 31
  refine q_getr rfl k404 r404_31 ?_
  refine q_ild rfl e1 ?_
  refine q_ild rfl e2 ?_
  have k419 : (μ.2.1 419).1 = 16 := by rw [g.sh]; exact (hE.sh 419).1
  have n419 : (μ.2.1 419).2.1 = 144 := by rw [g.sh]; exact (hE.sh 419).2.1
  refine q_iast rfl k419 n419 (by omega) (by omega) ?_
  obtain ⟨u1, u2, u3⟩ := p0
  simp only [Nat.zero_add] at u1 u2 u3
  exact hk _ _ ν [] (dw_si μ 419 w1.toInt.toNat w2) (List.Mem.head _) (post_mk g rfl (up_hi g.hi (by rw [show dx_seg ((EE SH TT).ce 419).iv w1.toInt.toNat = (0, 7) from hi419 _ (by omega)]; exact (⟨by show (0 : Int) ≤ _; omega, by show _ ≤ (7 : Int); omega⟩ : dx_in (0, 7) w2.toInt))) (up_fr (List.Mem.head _)) (by decide) (by decide) (fun _ _ => rfl) ⟨(show (0 : Int) ≤ ν 0 ∧ ν 0 ≤ 0 from ⟨by omega, by omega⟩), (show (0 : Int) ≤ ν 1 ∧ ν 1 ≤ 143 from ⟨by omega, by omega⟩), (show (0 : Int) ≤ ν 2 ∧ ν 2 ≤ 7 from ⟨by omega, by omega⟩), (show (0 : Int) ≤ ν 3 ∧ ν 3 ≤ 8 from ⟨by omega, by omega⟩), (show (-2147483648 : Int) ≤ ν 4 ∧ ν 4 ≤ 2147483647 from ⟨by omega, by omega⟩), trivial⟩ trivial trivial rfl trivial ⟨⟨by decide, (show fl_P 4 (ν 4 + 0) (dw_si μ 419 w1.toInt.toNat w2).2.2.1 from fun c hc hx h1 h2 => by
      show 1 ≤ (dw_up μ.2.2.1 419 w1.toInt.toNat w2 406 (5 + (dw_up μ.2.2.1 419 w1.toInt.toNat w2 419 c).toInt.toNat)).toInt
      rw [up_ne (Or.inl (by decide))]
      by_cases e : c = w1.toInt.toNat
      · rw [e, up_at]
        exact u1 w2.toInt.toNat (by omega) (by omega)
      · have h1' : 0 ≤ (dw_up μ.2.2.1 419 w1.toInt.toNat w2 419 c).toInt := h1
        have h2' : (dw_up μ.2.2.1 419 w1.toInt.toNat w2 419 c).toInt < 8 := h2
        rw [up_ne (Or.inr e)] at h1' h2' ⊢
        exact p1 c hc (by omega) h1' h2')⟩, trivial⟩)
set_option maxHeartbeats 2000000 in
theorem sp_gCopy0 {SH : dw_Sh} {TT : Nat → dw_T} {K : dw_K} (hE : (EE SH TT).ok) : dx_SOK (EE SH TT) (pr_X12_ground K) 105 sg_gCopy0 := by
  intro ν ls vs args rest μ bc bs hvs hargs hcat g hk
  obtain ⟨v0, rfl, e0⟩ := vs1 (f := fun i => ls[i]?) (a := 0) hvs
  obtain rfl := ar0 hargs
  obtain ⟨g0, -⟩ := g.gl
  rw [show v0 = some (.ref 404) from gV_th g0] at e0
  have z0 : ν 0 = 0 := g.z
  have cst0 : (0 : Int32).toInt = 0 := rfl
  refine q_ic rfl ?_
  exact hk _ _ ν [.int 0] (μ) (List.Mem.head _) (post_mk g rfl g.hi (fun _ _ => ⟨rfl, rfl⟩) (by decide) (by decide) (fun _ _ => rfl) ⟨(show (0 : Int) ≤ ν 0 ∧ ν 0 ≤ 0 from ⟨by omega, by omega⟩), trivial⟩ trivial ⟨⟨by decide, 0, rfl, by rw [z0]; rfl⟩, trivial⟩ rfl trivial ⟨⟨by decide, (show fl_P 14 (ν 0 + 0) (μ).2.2.1 from fun j _ hj => absurd hj (by omega))⟩, trivial⟩)
set_option maxHeartbeats 2000000 in
theorem sp_rrTest0 {SH : dw_Sh} {TT : Nat → dw_T} {K : dw_K} (hE : (EE SH TT).ok) : dx_SOK (EE SH TT) (pr_X12_readRow K) 60 sg_rrTest0 := by
  intro ν ls vs args rest μ bc bs hvs hargs hcat g hk
  obtain ⟨v0, rfl, e0⟩ := vs1 (f := fun i => ls[i]?) (a := 0) hvs
  obtain rfl := ar0 hargs
  obtain ⟨g0, -⟩ := g.gl
  rw [show v0 = some (.ref 404) from gV_th g0] at e0
  have z0 : ν 0 = 0 := g.z
  have cst0 : (0 : Int32).toInt = 0 := rfl
  refine q_ic rfl ?_
  exact hk _ _ ν [.int 0] (μ) (List.Mem.head _) (post_mk g rfl g.hi (fun _ _ => ⟨rfl, rfl⟩) (by decide) (by decide) (fun _ _ => rfl) ⟨(show (0 : Int) ≤ ν 0 ∧ ν 0 ≤ 0 from ⟨by omega, by omega⟩), trivial⟩ trivial ⟨⟨by decide, 0, rfl, by rw [z0]; rfl⟩, trivial⟩ rfl trivial ⟨⟨by decide, (show fl_P 9 (ν 0 + 0) (μ).2.2.1 from fun j hj => absurd hj (by omega))⟩, trivial⟩)
set_option maxHeartbeats 2000000 in
theorem sp_nxOnL {SH : dw_Sh} {TT : Nat → dw_T} {K : dw_K} (hE : (EE SH TT).ok) : dx_SOK (EE SH TT) (pr_X12_next K) 276 sg_nxOnL := by
  intro ν ls vs args rest μ bc bs hvs hargs hcat g hk
  obtain ⟨v0, rfl, e0⟩ := vs1 (f := fun i => ls[i]?) (a := 0) hvs
  obtain rfl := ar0 hargs
  obtain ⟨g0, -⟩ := g.gl
  rw [show v0 = some (.ref 404) from gV_th g0] at e0
  have f0 : (μ.2.2.1 404 4).toInt = ν 1 + 0 := (g.fa _ (List.Mem.head _)).2
  have f1 : (μ.2.2.1 404 13).toInt = ν 2 + 0 := (g.fa _ (List.Mem.tail _ (List.Mem.head _))).2
  have f2 : (μ.2.2.1 404 12).toInt = ν 3 + 0 := (g.fa _ (List.Mem.tail _ (List.Mem.tail _ (List.Mem.head _)))).2
  have f3 : (μ.2.2.1 404 2).toInt = ν 4 + 0 := (g.fa _ (List.Mem.tail _ (List.Mem.tail _ (List.Mem.tail _ (List.Mem.head _))))).2
  have f4 : (μ.2.2.1 404 3).toInt = ν 5 + 0 := (g.fa _ (List.Mem.tail _ (List.Mem.tail _ (List.Mem.tail _ (List.Mem.tail _ (List.Mem.head _)))))).2
  have f5 : (μ.2.2.1 404 11).toInt = ν 6 + 0 := (g.fa _ (List.Mem.tail _ (List.Mem.tail _ (List.Mem.tail _ (List.Mem.tail _ (List.Mem.tail _ (List.Mem.head _))))))).2
  have f6 : (μ.2.2.1 404 14).toInt = ν 7 + 0 := (g.fa _ (List.Mem.tail _ (List.Mem.tail _ (List.Mem.tail _ (List.Mem.tail _ (List.Mem.tail _ (List.Mem.tail _ (List.Mem.head _)))))))).2
  have f7 : (μ.2.2.1 404 19).toInt = ν 8 + 0 := (g.fa _ (List.Mem.tail _ (List.Mem.tail _ (List.Mem.tail _ (List.Mem.tail _ (List.Mem.tail _ (List.Mem.tail _ (List.Mem.tail _ (List.Mem.head _))))))))).2
  have f8 : (μ.2.2.1 404 21).toInt = ν 9 + 0 := (g.fa _ (List.Mem.tail _ (List.Mem.tail _ (List.Mem.tail _ (List.Mem.tail _ (List.Mem.tail _ (List.Mem.tail _ (List.Mem.tail _ (List.Mem.tail _ (List.Mem.head _)))))))))).2
  have f9 : (μ.2.2.1 404 22).toInt = ν 10 + 0 := (g.fa _ (List.Mem.tail _ (List.Mem.tail _ (List.Mem.tail _ (List.Mem.tail _ (List.Mem.tail _ (List.Mem.tail _ (List.Mem.tail _ (List.Mem.tail _ (List.Mem.tail _ (List.Mem.head _))))))))))).2
  have p0 : fl_P 11 (ν 0 + 0) μ.2.2.1 := (g.fl _ (List.Mem.head _)).2
  have p1 : fl_P 10 (ν 0 + 0) μ.2.2.1 := (g.fl _ (List.Mem.tail _ (List.Mem.head _))).2
  have p2 : fl_P 21 (ν 11 + 0) μ.2.2.1 := (g.fl _ (List.Mem.tail _ (List.Mem.tail _ (List.Mem.head _)))).2
  have b1 : (0 : Int) ≤ ν 1 ∧ ν 1 ≤ 939 := g.iv 1 (by decide)
  have b2 : (0 : Int) ≤ ν 2 ∧ ν 2 ≤ 940 := g.iv 2 (by decide)
  have b3 : (0 : Int) ≤ ν 3 ∧ ν 3 ≤ 940 := g.iv 3 (by decide)
  have b4 : (0 : Int) ≤ ν 4 ∧ ν 4 ≤ 940 := g.iv 4 (by decide)
  have b5 : (0 : Int) ≤ ν 5 ∧ ν 5 ≤ 940 := g.iv 5 (by decide)
  have b6 : (0 : Int) ≤ ν 6 ∧ ν 6 ≤ 4 := g.iv 6 (by decide)
  have b7 : (-2147483648 : Int) ≤ ν 7 ∧ ν 7 ≤ 2147483647 := g.iv 7 (by decide)
  have b8 : (-2147483648 : Int) ≤ ν 8 ∧ ν 8 ≤ 2147483647 := g.iv 8 (by decide)
  have b9 : (0 : Int) ≤ ν 9 ∧ ν 9 ≤ 30 := g.iv 9 (by decide)
  have b10 : (0 : Int) ≤ ν 10 ∧ ν 10 ≤ 1 := g.iv 10 (by decide)
  have b11 : (97 : Int) ≤ ν 11 ∧ ν 11 ≤ 122 := g.iv 11 (by decide)
  have z0 : ν 0 = 0 := g.z
  have as : (μ.2.2.1 404 12).toInt + (μ.2.2.1 404 13).toInt = (μ.2.2.1 404 4).toInt := p0
  refine q_ald rfl e0 ?_
  refine q_dup rfl ?_
  have k404 : (μ.2.1 404).1 = 12 := by rw [g.sh]; exact (hE.sh 404).1
  have n404 : (μ.2.1 404).2.1 = 57 := by rw [g.sh]; exact (hE.sh 404).2.1
  refine q_geti rfl k404 ?_
  have cst1 : (1 : Int32).toInt = 1 := rfl
  refine q_ic rfl ?_
  refine q_add rfl ?_
  have t1 : ((μ.2.2.1 404 13) + (1 : Int32)).toInt = ((μ.2.2.1 404 13)).toInt + ((1 : Int32)).toInt := i_add (by first | omega | (simp; omega)) (by first | omega | (simp; omega))
  refine q_puti rfl k404 ?_
  refine q_ald rfl e0 ?_
  refine q_dup rfl ?_
  refine q_geti rfl k404 ?_
  refine q_ic rfl ?_
  refine q_add rfl ?_
  have t2 : ((μ.2.2.1 404 4) + (1 : Int32)).toInt = ((μ.2.2.1 404 4)).toInt + ((1 : Int32)).toInt := i_add (by first | omega | (simp; omega)) (by first | omega | (simp; omega))
  refine q_puti rfl k404 ?_
  have r12 : (dw_up (dw_up μ.2.2.1 404 13 ((μ.2.2.1 404 13) + (1 : Int32))) 404 4 ((μ.2.2.1 404 4) + (1 : Int32))) 404 12 = μ.2.2.1 404 12 := (up_ne (Or.inr (by decide))).trans (up_ne (Or.inr (by decide)))
  have r13 : (dw_up (dw_up μ.2.2.1 404 13 ((μ.2.2.1 404 13) + (1 : Int32))) 404 4 ((μ.2.2.1 404 4) + (1 : Int32))) 404 13 = ((μ.2.2.1 404 13) + (1 : Int32)) := (up_ne (Or.inr (by decide))).trans up_at
  have r4 : (dw_up (dw_up μ.2.2.1 404 13 ((μ.2.2.1 404 13) + (1 : Int32))) 404 4 ((μ.2.2.1 404 4) + (1 : Int32))) 404 4 = ((μ.2.2.1 404 4) + (1 : Int32)) := up_at
  obtain ⟨ν', hag, hn0⟩ := nu1 ν 12 ((μ.2.2.1 404 13).toInt + 1)
  have a0 : ν' 0 = ν 0 := hag 0 (by decide)
  have a1 : ν' 1 = ν 1 := hag 1 (by decide)
  have a2 : ν' 2 = ν 2 := hag 2 (by decide)
  have a3 : ν' 3 = ν 3 := hag 3 (by decide)
  have a4 : ν' 4 = ν 4 := hag 4 (by decide)
  have a5 : ν' 5 = ν 5 := hag 5 (by decide)
  have a6 : ν' 6 = ν 6 := hag 6 (by decide)
  have a7 : ν' 7 = ν 7 := hag 7 (by decide)
  have a8 : ν' 8 = ν 8 := hag 8 (by decide)
  have a9 : ν' 9 = ν 9 := hag 9 (by decide)
  have a10 : ν' 10 = ν 10 := hag 10 (by decide)
  have a11 : ν' 11 = ν 11 := hag 11 (by decide)
  exact hk _ _ ν' [] (dw_si (dw_si μ 404 13 ((μ.2.2.1 404 13) + (1 : Int32))) 404 4 ((μ.2.2.1 404 4) + (1 : Int32))) (List.Mem.head _) (post_mk g rfl (up_hi (up_hi g.hi (⟨by show (0 : Int) ≤ _; omega, by show _ ≤ (940 : Int); omega⟩ : dx_in (0, 940) ((μ.2.2.1 404 13) + (1 : Int32)).toInt)) (⟨by show (0 : Int) ≤ _; omega, by show _ ≤ (940 : Int); omega⟩ : dx_in (0, 940) ((μ.2.2.1 404 4) + (1 : Int32)).toInt)) (up_fr2 (List.Mem.head _)) (by decide) (by decide) hag ⟨(show (0 : Int) ≤ ν' 0 ∧ ν' 0 ≤ 0 from ⟨by omega, by omega⟩), (show (0 : Int) ≤ ν' 1 ∧ ν' 1 ≤ 939 from ⟨by omega, by omega⟩), (show (0 : Int) ≤ ν' 2 ∧ ν' 2 ≤ 940 from ⟨by omega, by omega⟩), (show (0 : Int) ≤ ν' 3 ∧ ν' 3 ≤ 940 from ⟨by omega, by omega⟩), (show (0 : Int) ≤ ν' 4 ∧ ν' 4 ≤ 940 from ⟨by omega, by omega⟩), (show (0 : Int) ≤ ν' 5 ∧ ν' 5 ≤ 940 from ⟨by omega, by omega⟩), (show (0 : Int) ≤ ν' 6 ∧ ν' 6 ≤ 4 from ⟨by omega, by omega⟩), (show (-2147483648 : Int) ≤ ν' 7 ∧ ν' 7 ≤ 2147483647 from ⟨by omega, by omega⟩), (show (-2147483648 : Int) ≤ ν' 8 ∧ ν' 8 ≤ 2147483647 from ⟨by omega, by omega⟩), (show (0 : Int) ≤ ν' 9 ∧ ν' 9 ≤ 30 from ⟨by omega, by omega⟩), (show (0 : Int) ≤ ν' 10 ∧ ν' 10 ≤ 1 from ⟨by omega, by omega⟩), (show (97 : Int) ≤ ν' 11 ∧ ν' 11 ≤ 122 from ⟨by omega, by omega⟩), (show (1 : Int) ≤ ν' 12 ∧ ν' 12 ≤ 940 from ⟨by omega, by omega⟩), trivial⟩ trivial trivial rfl ⟨⟨by decide, (show ((dw_si (dw_si μ 404 13 ((μ.2.2.1 404 13) + (1 : Int32))) 404 4 ((μ.2.2.1 404 4) + (1 : Int32))).2.2.1 404 4).toInt = ν' 1 + 1 from by show ((dw_up (dw_up μ.2.2.1 404 13 ((μ.2.2.1 404 13) + (1 : Int32))) 404 4 ((μ.2.2.1 404 4) + (1 : Int32))) 404 4).toInt = _; rw [r4]; omega)⟩, ⟨by decide, (show ((dw_si (dw_si μ 404 13 ((μ.2.2.1 404 13) + (1 : Int32))) 404 4 ((μ.2.2.1 404 4) + (1 : Int32))).2.2.1 404 13).toInt = ν' 12 + 0 from by show ((dw_up (dw_up μ.2.2.1 404 13 ((μ.2.2.1 404 13) + (1 : Int32))) 404 4 ((μ.2.2.1 404 4) + (1 : Int32))) 404 13).toInt = _; rw [r13]; omega)⟩, ⟨by decide, (show ((dw_si (dw_si μ 404 13 ((μ.2.2.1 404 13) + (1 : Int32))) 404 4 ((μ.2.2.1 404 4) + (1 : Int32))).2.2.1 404 12).toInt = ν' 3 + 0 from by have h : ((dw_up (dw_up μ.2.2.1 404 13 ((μ.2.2.1 404 13) + (1 : Int32))) 404 4 ((μ.2.2.1 404 4) + (1 : Int32))) 404 12).toInt = ν 3 + 0 := (up_eq (Or.inr (by decide)) (up_eq (Or.inr (by decide)) f2)); exact h.trans (by omega))⟩, ⟨by decide, (show ((dw_si (dw_si μ 404 13 ((μ.2.2.1 404 13) + (1 : Int32))) 404 4 ((μ.2.2.1 404 4) + (1 : Int32))).2.2.1 404 2).toInt = ν' 4 + 0 from by have h : ((dw_up (dw_up μ.2.2.1 404 13 ((μ.2.2.1 404 13) + (1 : Int32))) 404 4 ((μ.2.2.1 404 4) + (1 : Int32))) 404 2).toInt = ν 4 + 0 := (up_eq (Or.inr (by decide)) (up_eq (Or.inr (by decide)) f3)); exact h.trans (by omega))⟩, ⟨by decide, (show ((dw_si (dw_si μ 404 13 ((μ.2.2.1 404 13) + (1 : Int32))) 404 4 ((μ.2.2.1 404 4) + (1 : Int32))).2.2.1 404 3).toInt = ν' 5 + 0 from by have h : ((dw_up (dw_up μ.2.2.1 404 13 ((μ.2.2.1 404 13) + (1 : Int32))) 404 4 ((μ.2.2.1 404 4) + (1 : Int32))) 404 3).toInt = ν 5 + 0 := (up_eq (Or.inr (by decide)) (up_eq (Or.inr (by decide)) f4)); exact h.trans (by omega))⟩, ⟨by decide, (show ((dw_si (dw_si μ 404 13 ((μ.2.2.1 404 13) + (1 : Int32))) 404 4 ((μ.2.2.1 404 4) + (1 : Int32))).2.2.1 404 11).toInt = ν' 6 + 0 from by have h : ((dw_up (dw_up μ.2.2.1 404 13 ((μ.2.2.1 404 13) + (1 : Int32))) 404 4 ((μ.2.2.1 404 4) + (1 : Int32))) 404 11).toInt = ν 6 + 0 := (up_eq (Or.inr (by decide)) (up_eq (Or.inr (by decide)) f5)); exact h.trans (by omega))⟩, ⟨by decide, (show ((dw_si (dw_si μ 404 13 ((μ.2.2.1 404 13) + (1 : Int32))) 404 4 ((μ.2.2.1 404 4) + (1 : Int32))).2.2.1 404 14).toInt = ν' 7 + 0 from by have h : ((dw_up (dw_up μ.2.2.1 404 13 ((μ.2.2.1 404 13) + (1 : Int32))) 404 4 ((μ.2.2.1 404 4) + (1 : Int32))) 404 14).toInt = ν 7 + 0 := (up_eq (Or.inr (by decide)) (up_eq (Or.inr (by decide)) f6)); exact h.trans (by omega))⟩, ⟨by decide, (show ((dw_si (dw_si μ 404 13 ((μ.2.2.1 404 13) + (1 : Int32))) 404 4 ((μ.2.2.1 404 4) + (1 : Int32))).2.2.1 404 19).toInt = ν' 8 + 0 from by have h : ((dw_up (dw_up μ.2.2.1 404 13 ((μ.2.2.1 404 13) + (1 : Int32))) 404 4 ((μ.2.2.1 404 4) + (1 : Int32))) 404 19).toInt = ν 8 + 0 := (up_eq (Or.inr (by decide)) (up_eq (Or.inr (by decide)) f7)); exact h.trans (by omega))⟩, ⟨by decide, (show ((dw_si (dw_si μ 404 13 ((μ.2.2.1 404 13) + (1 : Int32))) 404 4 ((μ.2.2.1 404 4) + (1 : Int32))).2.2.1 404 21).toInt = ν' 9 + 0 from by have h : ((dw_up (dw_up μ.2.2.1 404 13 ((μ.2.2.1 404 13) + (1 : Int32))) 404 4 ((μ.2.2.1 404 4) + (1 : Int32))) 404 21).toInt = ν 9 + 0 := (up_eq (Or.inr (by decide)) (up_eq (Or.inr (by decide)) f8)); exact h.trans (by omega))⟩, ⟨by decide, (show ((dw_si (dw_si μ 404 13 ((μ.2.2.1 404 13) + (1 : Int32))) 404 4 ((μ.2.2.1 404 4) + (1 : Int32))).2.2.1 404 22).toInt = ν' 10 + 0 from by have h : ((dw_up (dw_up μ.2.2.1 404 13 ((μ.2.2.1 404 13) + (1 : Int32))) 404 4 ((μ.2.2.1 404 4) + (1 : Int32))) 404 22).toInt = ν 10 + 0 := (up_eq (Or.inr (by decide)) (up_eq (Or.inr (by decide)) f9)); exact h.trans (by omega))⟩, trivial⟩ ⟨⟨by decide, (show fl_P 11 (ν' 0 + 0) (dw_si (dw_si μ 404 13 ((μ.2.2.1 404 13) + (1 : Int32))) 404 4 ((μ.2.2.1 404 4) + (1 : Int32))).2.2.1 from by show ((dw_up (dw_up μ.2.2.1 404 13 ((μ.2.2.1 404 13) + (1 : Int32))) 404 4 ((μ.2.2.1 404 4) + (1 : Int32))) 404 12).toInt + ((dw_up (dw_up μ.2.2.1 404 13 ((μ.2.2.1 404 13) + (1 : Int32))) 404 4 ((μ.2.2.1 404 4) + (1 : Int32))) 404 13).toInt = ((dw_up (dw_up μ.2.2.1 404 13 ((μ.2.2.1 404 13) + (1 : Int32))) 404 4 ((μ.2.2.1 404 4) + (1 : Int32))) 404 4).toInt; rw [r12, r13, r4]; omega)⟩, ⟨by decide, (show fl_P 10 (ν' 0 + 0) (dw_si (dw_si μ 404 13 ((μ.2.2.1 404 13) + (1 : Int32))) 404 4 ((μ.2.2.1 404 4) + (1 : Int32))).2.2.1 from fun j hj hx => by
      have hj2 : (j : Int) < ((dw_up (dw_up μ.2.2.1 404 13 ((μ.2.2.1 404 13) + (1 : Int32))) 404 4 ((μ.2.2.1 404 4) + (1 : Int32))) 404 13).toInt := hj
      have hx2 : ((dw_up (dw_up μ.2.2.1 404 13 ((μ.2.2.1 404 13) + (1 : Int32))) 404 4 ((μ.2.2.1 404 4) + (1 : Int32))) 404 12).toInt.toNat + j < 940 := hx
      rw [r13] at hj2
      rw [r12] at hx2
      show 97 ≤ fl_oc μ.2.2.1 (((dw_up (dw_up μ.2.2.1 404 13 ((μ.2.2.1 404 13) + (1 : Int32))) 404 4 ((μ.2.2.1 404 4) + (1 : Int32))) 404 12).toInt.toNat + j) ∧ fl_oc μ.2.2.1 (((dw_up (dw_up μ.2.2.1 404 13 ((μ.2.2.1 404 13) + (1 : Int32))) 404 4 ((μ.2.2.1 404 4) + (1 : Int32))) 404 12).toInt.toNat + j) ≤ 122
      rw [r12]
      by_cases e : (j : Int) < (μ.2.2.1 404 13).toInt
      · exact p1 j e hx2
      · obtain ⟨c1, c2⟩ := p2
        have e2 : (μ.2.2.1 404 12).toInt.toNat + j = (μ.2.2.1 404 4).toInt.toNat := by omega
        rw [e2]
        by_cases e3 : (μ.2.2.1 404 4).toInt < (μ.2.2.1 404 3).toInt
        · have := c1 e3 (by omega); omega
        · have := c2 e3; omega)⟩, trivial⟩)
set_option maxHeartbeats 2000000 in
theorem sp_nxTokE3 {SH : dw_Sh} {TT : Nat → dw_T} {K : dw_K} (hE : (EE SH TT).ok) : dx_SOK (EE SH TT) (pr_X12_next K) 334 sg_nxTokE3 := by
  intro ν ls vs args rest μ bc bs hvs hargs hcat g hk
  obtain rfl := vs0 (f := fun i => ls[i]?) hvs
  obtain ⟨x0, x1, rfl⟩ := ar2 hargs
  obtain ⟨g0, g1, -⟩ := g.gl
  obtain rfl : x0 = .ref 404 := Option.some.inj (gV_th g0)
  obtain ⟨-, w1, h1, q1⟩ := g1
  obtain rfl : x1 = .int w1 := Option.some.inj h1
  have f0 : (μ.2.2.1 404 4).toInt = ν 1 + 0 := (g.fa _ (List.Mem.head _)).2
  have f1 : (μ.2.2.1 404 13).toInt = ν 2 + 0 := (g.fa _ (List.Mem.tail _ (List.Mem.head _))).2
  have f2 : (μ.2.2.1 404 12).toInt = ν 3 + 0 := (g.fa _ (List.Mem.tail _ (List.Mem.tail _ (List.Mem.head _)))).2
  have f3 : (μ.2.2.1 404 2).toInt = ν 4 + 0 := (g.fa _ (List.Mem.tail _ (List.Mem.tail _ (List.Mem.tail _ (List.Mem.head _))))).2
  have f4 : (μ.2.2.1 404 3).toInt = ν 5 + 0 := (g.fa _ (List.Mem.tail _ (List.Mem.tail _ (List.Mem.tail _ (List.Mem.tail _ (List.Mem.head _)))))).2
  have f5 : (μ.2.2.1 404 14).toInt = ν 6 + 0 := (g.fa _ (List.Mem.tail _ (List.Mem.tail _ (List.Mem.tail _ (List.Mem.tail _ (List.Mem.tail _ (List.Mem.head _))))))).2
  have f6 : (μ.2.2.1 404 19).toInt = ν 7 + 0 := (g.fa _ (List.Mem.tail _ (List.Mem.tail _ (List.Mem.tail _ (List.Mem.tail _ (List.Mem.tail _ (List.Mem.tail _ (List.Mem.head _)))))))).2
  have f7 : (μ.2.2.1 404 21).toInt = ν 8 + 0 := (g.fa _ (List.Mem.tail _ (List.Mem.tail _ (List.Mem.tail _ (List.Mem.tail _ (List.Mem.tail _ (List.Mem.tail _ (List.Mem.tail _ (List.Mem.head _))))))))).2
  have f8 : (μ.2.2.1 404 22).toInt = ν 9 + 0 := (g.fa _ (List.Mem.tail _ (List.Mem.tail _ (List.Mem.tail _ (List.Mem.tail _ (List.Mem.tail _ (List.Mem.tail _ (List.Mem.tail _ (List.Mem.tail _ (List.Mem.head _)))))))))).2
  have b1 : (0 : Int) ≤ ν 1 ∧ ν 1 ≤ 940 := g.iv 1 (by decide)
  have b2 : (0 : Int) ≤ ν 2 ∧ ν 2 ≤ 940 := g.iv 2 (by decide)
  have b3 : (0 : Int) ≤ ν 3 ∧ ν 3 ≤ 940 := g.iv 3 (by decide)
  have b4 : (0 : Int) ≤ ν 4 ∧ ν 4 ≤ 940 := g.iv 4 (by decide)
  have b5 : (0 : Int) ≤ ν 5 ∧ ν 5 ≤ 940 := g.iv 5 (by decide)
  have b6 : (-2147483648 : Int) ≤ ν 6 ∧ ν 6 ≤ 2147483647 := g.iv 6 (by decide)
  have b7 : (-2147483648 : Int) ≤ ν 7 ∧ ν 7 ≤ 2147483647 := g.iv 7 (by decide)
  have b8 : (0 : Int) ≤ ν 8 ∧ ν 8 ≤ 30 := g.iv 8 (by decide)
  have b9 : (0 : Int) ≤ ν 9 ∧ ν 9 ≤ 1 := g.iv 9 (by decide)
  have z0 : ν 0 = 0 := g.z
  have k404 : (μ.2.1 404).1 = 12 := by rw [g.sh]; exact (hE.sh 404).1
  have n404 : (μ.2.1 404).2.1 = 57 := by rw [g.sh]; exact (hE.sh 404).2.1
  refine q_puti rfl k404 ?_
  exact hk _ _ ν [] (dw_si μ 404 11 w1) (List.Mem.head _) (post_mk g rfl (up_hi g.hi (⟨by show (0 : Int) ≤ _; omega, by show _ ≤ (4 : Int); omega⟩ : dx_in (0, 4) w1.toInt)) (up_fr (List.Mem.head _)) (by decide) (by decide) (fun _ _ => rfl) ⟨(show (0 : Int) ≤ ν 0 ∧ ν 0 ≤ 0 from ⟨by omega, by omega⟩), (show (0 : Int) ≤ ν 1 ∧ ν 1 ≤ 940 from ⟨by omega, by omega⟩), (show (0 : Int) ≤ ν 2 ∧ ν 2 ≤ 940 from ⟨by omega, by omega⟩), (show (0 : Int) ≤ ν 3 ∧ ν 3 ≤ 940 from ⟨by omega, by omega⟩), (show (0 : Int) ≤ ν 4 ∧ ν 4 ≤ 940 from ⟨by omega, by omega⟩), (show (0 : Int) ≤ ν 5 ∧ ν 5 ≤ 940 from ⟨by omega, by omega⟩), (show (-2147483648 : Int) ≤ ν 6 ∧ ν 6 ≤ 2147483647 from ⟨by omega, by omega⟩), (show (-2147483648 : Int) ≤ ν 7 ∧ ν 7 ≤ 2147483647 from ⟨by omega, by omega⟩), (show (0 : Int) ≤ ν 8 ∧ ν 8 ≤ 30 from ⟨by omega, by omega⟩), (show (0 : Int) ≤ ν 9 ∧ ν 9 ≤ 1 from ⟨by omega, by omega⟩), trivial⟩ trivial trivial rfl ⟨⟨by decide, (show ((dw_si μ 404 11 w1).2.2.1 404 4).toInt = ν 1 + 0 from (up_eq (Or.inr (by decide)) f0))⟩, ⟨by decide, (show ((dw_si μ 404 11 w1).2.2.1 404 13).toInt = ν 2 + 0 from (up_eq (Or.inr (by decide)) f1))⟩, ⟨by decide, (show ((dw_si μ 404 11 w1).2.2.1 404 12).toInt = ν 3 + 0 from (up_eq (Or.inr (by decide)) f2))⟩, ⟨by decide, (show ((dw_si μ 404 11 w1).2.2.1 404 2).toInt = ν 4 + 0 from (up_eq (Or.inr (by decide)) f3))⟩, ⟨by decide, (show ((dw_si μ 404 11 w1).2.2.1 404 3).toInt = ν 5 + 0 from (up_eq (Or.inr (by decide)) f4))⟩, ⟨by decide, (show ((dw_si μ 404 11 w1).2.2.1 404 14).toInt = ν 6 + 0 from (up_eq (Or.inr (by decide)) f5))⟩, ⟨by decide, (show ((dw_si μ 404 11 w1).2.2.1 404 19).toInt = ν 7 + 0 from (up_eq (Or.inr (by decide)) f6))⟩, ⟨by decide, (show ((dw_si μ 404 11 w1).2.2.1 404 21).toInt = ν 8 + 0 from (up_eq (Or.inr (by decide)) f7))⟩, ⟨by decide, (show ((dw_si μ 404 11 w1).2.2.1 404 22).toInt = ν 9 + 0 from (up_eq (Or.inr (by decide)) f8))⟩, ⟨by decide, (show ((dw_si μ 404 11 w1).2.2.1 404 11).toInt = ν 0 + 3 from by show ((dw_up μ.2.2.1 404 11 w1) 404 11).toInt = _; rw [up_at]; omega)⟩, trivial⟩ ⟨⟨by decide, (show fl_P 8 (ν 0 + 0) (dw_si μ 404 11 w1).2.2.1 from fun h => by have h2 : ((dw_up μ.2.2.1 404 11 w1) 404 11).toInt = 1 := h; rw [up_at] at h2; omega)⟩, trivial⟩)
set_option maxHeartbeats 2000000 in
theorem sp_nxTokS4 {SH : dw_Sh} {TT : Nat → dw_T} {K : dw_K} (hE : (EE SH TT).ok) : dx_SOK (EE SH TT) (pr_X12_next K) 91 sg_nxTokS4 := by
  intro ν ls vs args rest μ bc bs hvs hargs hcat g hk
  obtain rfl := vs0 (f := fun i => ls[i]?) hvs
  obtain ⟨x0, x1, rfl⟩ := ar2 hargs
  obtain ⟨g0, g1, -⟩ := g.gl
  obtain rfl : x0 = .ref 404 := Option.some.inj (gV_th g0)
  obtain ⟨-, w1, h1, q1⟩ := g1
  obtain rfl : x1 = .int w1 := Option.some.inj h1
  have f0 : (μ.2.2.1 404 4).toInt = ν 1 + 0 := (g.fa _ (List.Mem.head _)).2
  have f1 : (μ.2.2.1 404 13).toInt = ν 2 + 0 := (g.fa _ (List.Mem.tail _ (List.Mem.head _))).2
  have f2 : (μ.2.2.1 404 12).toInt = ν 3 + 0 := (g.fa _ (List.Mem.tail _ (List.Mem.tail _ (List.Mem.head _)))).2
  have f3 : (μ.2.2.1 404 2).toInt = ν 4 + 0 := (g.fa _ (List.Mem.tail _ (List.Mem.tail _ (List.Mem.tail _ (List.Mem.head _))))).2
  have f4 : (μ.2.2.1 404 3).toInt = ν 5 + 0 := (g.fa _ (List.Mem.tail _ (List.Mem.tail _ (List.Mem.tail _ (List.Mem.tail _ (List.Mem.head _)))))).2
  have f5 : (μ.2.2.1 404 14).toInt = ν 6 + 0 := (g.fa _ (List.Mem.tail _ (List.Mem.tail _ (List.Mem.tail _ (List.Mem.tail _ (List.Mem.tail _ (List.Mem.head _))))))).2
  have f6 : (μ.2.2.1 404 19).toInt = ν 7 + 0 := (g.fa _ (List.Mem.tail _ (List.Mem.tail _ (List.Mem.tail _ (List.Mem.tail _ (List.Mem.tail _ (List.Mem.tail _ (List.Mem.head _)))))))).2
  have f7 : (μ.2.2.1 404 21).toInt = ν 8 + 0 := (g.fa _ (List.Mem.tail _ (List.Mem.tail _ (List.Mem.tail _ (List.Mem.tail _ (List.Mem.tail _ (List.Mem.tail _ (List.Mem.tail _ (List.Mem.head _))))))))).2
  have f8 : (μ.2.2.1 404 22).toInt = ν 9 + 0 := (g.fa _ (List.Mem.tail _ (List.Mem.tail _ (List.Mem.tail _ (List.Mem.tail _ (List.Mem.tail _ (List.Mem.tail _ (List.Mem.tail _ (List.Mem.tail _ (List.Mem.head _)))))))))).2
  have b1 : (0 : Int) ≤ ν 1 ∧ ν 1 ≤ 940 := g.iv 1 (by decide)
  have b2 : (0 : Int) ≤ ν 2 ∧ ν 2 ≤ 940 := g.iv 2 (by decide)
  have b3 : (0 : Int) ≤ ν 3 ∧ ν 3 ≤ 940 := g.iv 3 (by decide)
  have b4 : (0 : Int) ≤ ν 4 ∧ ν 4 ≤ 940 := g.iv 4 (by decide)
  have b5 : (0 : Int) ≤ ν 5 ∧ ν 5 ≤ 940 := g.iv 5 (by decide)
  have b6 : (-2147483648 : Int) ≤ ν 6 ∧ ν 6 ≤ 2147483647 := g.iv 6 (by decide)
  have b7 : (-2147483648 : Int) ≤ ν 7 ∧ ν 7 ≤ 2147483647 := g.iv 7 (by decide)
  have b8 : (0 : Int) ≤ ν 8 ∧ ν 8 ≤ 30 := g.iv 8 (by decide)
  have b9 : (0 : Int) ≤ ν 9 ∧ ν 9 ≤ 1 := g.iv 9 (by decide)
  have z0 : ν 0 = 0 := g.z
  have k404 : (μ.2.1 404).1 = 12 := by rw [g.sh]; exact (hE.sh 404).1
  have n404 : (μ.2.1 404).2.1 = 57 := by rw [g.sh]; exact (hE.sh 404).2.1
  refine q_puti rfl k404 ?_
  exact hk _ _ ν [] (dw_si μ 404 11 w1) (List.Mem.head _) (post_mk g rfl (up_hi g.hi (⟨by show (0 : Int) ≤ _; omega, by show _ ≤ (4 : Int); omega⟩ : dx_in (0, 4) w1.toInt)) (up_fr (List.Mem.head _)) (by decide) (by decide) (fun _ _ => rfl) ⟨(show (0 : Int) ≤ ν 0 ∧ ν 0 ≤ 0 from ⟨by omega, by omega⟩), (show (0 : Int) ≤ ν 1 ∧ ν 1 ≤ 940 from ⟨by omega, by omega⟩), (show (0 : Int) ≤ ν 2 ∧ ν 2 ≤ 940 from ⟨by omega, by omega⟩), (show (0 : Int) ≤ ν 3 ∧ ν 3 ≤ 940 from ⟨by omega, by omega⟩), (show (0 : Int) ≤ ν 4 ∧ ν 4 ≤ 940 from ⟨by omega, by omega⟩), (show (0 : Int) ≤ ν 5 ∧ ν 5 ≤ 940 from ⟨by omega, by omega⟩), (show (-2147483648 : Int) ≤ ν 6 ∧ ν 6 ≤ 2147483647 from ⟨by omega, by omega⟩), (show (-2147483648 : Int) ≤ ν 7 ∧ ν 7 ≤ 2147483647 from ⟨by omega, by omega⟩), (show (0 : Int) ≤ ν 8 ∧ ν 8 ≤ 30 from ⟨by omega, by omega⟩), (show (0 : Int) ≤ ν 9 ∧ ν 9 ≤ 1 from ⟨by omega, by omega⟩), trivial⟩ trivial trivial rfl ⟨⟨by decide, (show ((dw_si μ 404 11 w1).2.2.1 404 4).toInt = ν 1 + 0 from (up_eq (Or.inr (by decide)) f0))⟩, ⟨by decide, (show ((dw_si μ 404 11 w1).2.2.1 404 13).toInt = ν 2 + 0 from (up_eq (Or.inr (by decide)) f1))⟩, ⟨by decide, (show ((dw_si μ 404 11 w1).2.2.1 404 12).toInt = ν 3 + 0 from (up_eq (Or.inr (by decide)) f2))⟩, ⟨by decide, (show ((dw_si μ 404 11 w1).2.2.1 404 2).toInt = ν 4 + 0 from (up_eq (Or.inr (by decide)) f3))⟩, ⟨by decide, (show ((dw_si μ 404 11 w1).2.2.1 404 3).toInt = ν 5 + 0 from (up_eq (Or.inr (by decide)) f4))⟩, ⟨by decide, (show ((dw_si μ 404 11 w1).2.2.1 404 14).toInt = ν 6 + 0 from (up_eq (Or.inr (by decide)) f5))⟩, ⟨by decide, (show ((dw_si μ 404 11 w1).2.2.1 404 19).toInt = ν 7 + 0 from (up_eq (Or.inr (by decide)) f6))⟩, ⟨by decide, (show ((dw_si μ 404 11 w1).2.2.1 404 21).toInt = ν 8 + 0 from (up_eq (Or.inr (by decide)) f7))⟩, ⟨by decide, (show ((dw_si μ 404 11 w1).2.2.1 404 22).toInt = ν 9 + 0 from (up_eq (Or.inr (by decide)) f8))⟩, ⟨by decide, (show ((dw_si μ 404 11 w1).2.2.1 404 11).toInt = ν 0 + 4 from by show ((dw_up μ.2.2.1 404 11 w1) 404 11).toInt = _; rw [up_at]; omega)⟩, trivial⟩ ⟨⟨by decide, (show fl_P 8 (ν 0 + 0) (dw_si μ 404 11 w1).2.2.1 from fun h => by have h2 : ((dw_up μ.2.2.1 404 11 w1) 404 11).toInt = 1 := h; rw [up_at] at h2; omega)⟩, trivial⟩)
set_option maxHeartbeats 2000000 in
theorem sp_nxTokO0 {SH : dw_Sh} {TT : Nat → dw_T} {K : dw_K} (hE : (EE SH TT).ok) : dx_SOK (EE SH TT) (pr_X12_next K) 121 sg_nxTokO0 := by
  intro ν ls vs args rest μ bc bs hvs hargs hcat g hk
  obtain rfl := vs0 (f := fun i => ls[i]?) hvs
  obtain ⟨x0, x1, rfl⟩ := ar2 hargs
  obtain ⟨g0, g1, -⟩ := g.gl
  obtain rfl : x0 = .ref 404 := Option.some.inj (gV_th g0)
  obtain ⟨-, w1, h1, q1⟩ := g1
  obtain rfl : x1 = .int w1 := Option.some.inj h1
  have f0 : (μ.2.2.1 404 4).toInt = ν 1 + 0 := (g.fa _ (List.Mem.head _)).2
  have f1 : (μ.2.2.1 404 13).toInt = ν 2 + 0 := (g.fa _ (List.Mem.tail _ (List.Mem.head _))).2
  have f2 : (μ.2.2.1 404 12).toInt = ν 3 + 0 := (g.fa _ (List.Mem.tail _ (List.Mem.tail _ (List.Mem.head _)))).2
  have f3 : (μ.2.2.1 404 2).toInt = ν 4 + 0 := (g.fa _ (List.Mem.tail _ (List.Mem.tail _ (List.Mem.tail _ (List.Mem.head _))))).2
  have f4 : (μ.2.2.1 404 3).toInt = ν 5 + 0 := (g.fa _ (List.Mem.tail _ (List.Mem.tail _ (List.Mem.tail _ (List.Mem.tail _ (List.Mem.head _)))))).2
  have f5 : (μ.2.2.1 404 14).toInt = ν 6 + 0 := (g.fa _ (List.Mem.tail _ (List.Mem.tail _ (List.Mem.tail _ (List.Mem.tail _ (List.Mem.tail _ (List.Mem.head _))))))).2
  have f6 : (μ.2.2.1 404 19).toInt = ν 7 + 0 := (g.fa _ (List.Mem.tail _ (List.Mem.tail _ (List.Mem.tail _ (List.Mem.tail _ (List.Mem.tail _ (List.Mem.tail _ (List.Mem.head _)))))))).2
  have f7 : (μ.2.2.1 404 21).toInt = ν 8 + 0 := (g.fa _ (List.Mem.tail _ (List.Mem.tail _ (List.Mem.tail _ (List.Mem.tail _ (List.Mem.tail _ (List.Mem.tail _ (List.Mem.tail _ (List.Mem.head _))))))))).2
  have f8 : (μ.2.2.1 404 22).toInt = ν 9 + 0 := (g.fa _ (List.Mem.tail _ (List.Mem.tail _ (List.Mem.tail _ (List.Mem.tail _ (List.Mem.tail _ (List.Mem.tail _ (List.Mem.tail _ (List.Mem.tail _ (List.Mem.head _)))))))))).2
  have b1 : (0 : Int) ≤ ν 1 ∧ ν 1 ≤ 940 := g.iv 1 (by decide)
  have b2 : (0 : Int) ≤ ν 2 ∧ ν 2 ≤ 940 := g.iv 2 (by decide)
  have b3 : (0 : Int) ≤ ν 3 ∧ ν 3 ≤ 940 := g.iv 3 (by decide)
  have b4 : (0 : Int) ≤ ν 4 ∧ ν 4 ≤ 940 := g.iv 4 (by decide)
  have b5 : (0 : Int) ≤ ν 5 ∧ ν 5 ≤ 940 := g.iv 5 (by decide)
  have b6 : (-2147483648 : Int) ≤ ν 6 ∧ ν 6 ≤ 2147483647 := g.iv 6 (by decide)
  have b7 : (-2147483648 : Int) ≤ ν 7 ∧ ν 7 ≤ 2147483647 := g.iv 7 (by decide)
  have b8 : (0 : Int) ≤ ν 8 ∧ ν 8 ≤ 30 := g.iv 8 (by decide)
  have b9 : (0 : Int) ≤ ν 9 ∧ ν 9 ≤ 1 := g.iv 9 (by decide)
  have z0 : ν 0 = 0 := g.z
  have k404 : (μ.2.1 404).1 = 12 := by rw [g.sh]; exact (hE.sh 404).1
  have n404 : (μ.2.1 404).2.1 = 57 := by rw [g.sh]; exact (hE.sh 404).2.1
  refine q_puti rfl k404 ?_
  exact hk _ _ ν [] (dw_si μ 404 11 w1) (List.Mem.head _) (post_mk g rfl (up_hi g.hi (⟨by show (0 : Int) ≤ _; omega, by show _ ≤ (4 : Int); omega⟩ : dx_in (0, 4) w1.toInt)) (up_fr (List.Mem.head _)) (by decide) (by decide) (fun _ _ => rfl) ⟨(show (0 : Int) ≤ ν 0 ∧ ν 0 ≤ 0 from ⟨by omega, by omega⟩), (show (0 : Int) ≤ ν 1 ∧ ν 1 ≤ 940 from ⟨by omega, by omega⟩), (show (0 : Int) ≤ ν 2 ∧ ν 2 ≤ 940 from ⟨by omega, by omega⟩), (show (0 : Int) ≤ ν 3 ∧ ν 3 ≤ 940 from ⟨by omega, by omega⟩), (show (0 : Int) ≤ ν 4 ∧ ν 4 ≤ 940 from ⟨by omega, by omega⟩), (show (0 : Int) ≤ ν 5 ∧ ν 5 ≤ 940 from ⟨by omega, by omega⟩), (show (-2147483648 : Int) ≤ ν 6 ∧ ν 6 ≤ 2147483647 from ⟨by omega, by omega⟩), (show (-2147483648 : Int) ≤ ν 7 ∧ ν 7 ≤ 2147483647 from ⟨by omega, by omega⟩), (show (0 : Int) ≤ ν 8 ∧ ν 8 ≤ 30 from ⟨by omega, by omega⟩), (show (0 : Int) ≤ ν 9 ∧ ν 9 ≤ 1 from ⟨by omega, by omega⟩), trivial⟩ trivial trivial rfl ⟨⟨by decide, (show ((dw_si μ 404 11 w1).2.2.1 404 4).toInt = ν 1 + 0 from (up_eq (Or.inr (by decide)) f0))⟩, ⟨by decide, (show ((dw_si μ 404 11 w1).2.2.1 404 13).toInt = ν 2 + 0 from (up_eq (Or.inr (by decide)) f1))⟩, ⟨by decide, (show ((dw_si μ 404 11 w1).2.2.1 404 12).toInt = ν 3 + 0 from (up_eq (Or.inr (by decide)) f2))⟩, ⟨by decide, (show ((dw_si μ 404 11 w1).2.2.1 404 2).toInt = ν 4 + 0 from (up_eq (Or.inr (by decide)) f3))⟩, ⟨by decide, (show ((dw_si μ 404 11 w1).2.2.1 404 3).toInt = ν 5 + 0 from (up_eq (Or.inr (by decide)) f4))⟩, ⟨by decide, (show ((dw_si μ 404 11 w1).2.2.1 404 14).toInt = ν 6 + 0 from (up_eq (Or.inr (by decide)) f5))⟩, ⟨by decide, (show ((dw_si μ 404 11 w1).2.2.1 404 19).toInt = ν 7 + 0 from (up_eq (Or.inr (by decide)) f6))⟩, ⟨by decide, (show ((dw_si μ 404 11 w1).2.2.1 404 21).toInt = ν 8 + 0 from (up_eq (Or.inr (by decide)) f7))⟩, ⟨by decide, (show ((dw_si μ 404 11 w1).2.2.1 404 22).toInt = ν 9 + 0 from (up_eq (Or.inr (by decide)) f8))⟩, ⟨by decide, (show ((dw_si μ 404 11 w1).2.2.1 404 11).toInt = ν 0 + 0 from by show ((dw_up μ.2.2.1 404 11 w1) 404 11).toInt = _; rw [up_at]; omega)⟩, trivial⟩ ⟨⟨by decide, (show fl_P 8 (ν 0 + 0) (dw_si μ 404 11 w1).2.2.1 from fun h => by have h2 : ((dw_up μ.2.2.1 404 11 w1) 404 11).toInt = 1 := h; rw [up_at] at h2; omega)⟩, trivial⟩)
set_option maxHeartbeats 2000000 in
theorem sp_plOn0 {SH : dw_Sh} {TT : Nat → dw_T} {K : dw_K} (hE : (EE SH TT).ok) : dx_SOK (EE SH TT) (pr_X12_planLine K) 132 sg_plOn0 := by
  intro ν ls vs args rest μ bc bs hvs hargs hcat g hk
  obtain ⟨v0, rfl, e0⟩ := vs1 (f := fun i => ls[i]?) (a := 0) hvs
  obtain rfl := ar0 hargs
  obtain ⟨g0, -⟩ := g.gl
  rw [show v0 = some (.ref 404) from gV_th g0] at e0
  have f0 : (μ.2.2.1 408 1).toInt = ν 0 + 0 := (g.fa _ (List.Mem.head _)).2
  have p0 : fl_P 100 (ν 0 + 0) μ.2.2.1 := (g.fl _ (List.Mem.head _)).2
  have z0 : ν 0 = 0 := g.z
  have cst1 : (1 : Int32).toInt = 1 := rfl
  refine q_ic rfl ?_
  exact hk _ _ ν [.int 1] (μ) (List.Mem.head _) (post_mk g rfl g.hi (fun _ _ => ⟨rfl, rfl⟩) (by decide) (by decide) (fun _ _ => rfl) ⟨(show (0 : Int) ≤ ν 0 ∧ ν 0 ≤ 0 from ⟨by omega, by omega⟩), trivial⟩ trivial ⟨⟨by decide, 1, rfl, by rw [z0]; rfl⟩, trivial⟩ rfl trivial ⟨⟨by decide, (show fl_P 25 (ν 0 + 1) (μ).2.2.1 from pq_of (c := 1) (by decide) (by omega) (rp_on (c := 0) (y := 0) (by decide) p0 (show (μ.2.2.1 408 1).toInt = 0 by omega)))⟩, trivial⟩)
set_option maxHeartbeats 2000000 in
theorem sp_plIn2 {SH : dw_Sh} {TT : Nat → dw_T} {K : dw_K} (hE : (EE SH TT).ok) : dx_SOK (EE SH TT) (pr_X12_planLine K) 83 sg_plIn2 := by
  intro ν ls vs args rest μ bc bs hvs hargs hcat g hk
  obtain ⟨v0, rfl, e0⟩ := vs1 (f := fun i => ls[i]?) (a := 0) hvs
  obtain rfl := ar0 hargs
  obtain ⟨g0, -⟩ := g.gl
  rw [show v0 = some (.ref 404) from gV_th g0] at e0
  have f0 : (μ.2.2.1 404 21).toInt = ν 0 + 2 := (g.fa _ (List.Mem.head _)).2
  have p0 : fl_P 25 (ν 0 + 2) μ.2.2.1 := (g.fl _ (List.Mem.head _)).2
  have z0 : ν 0 = 0 := g.z
  have cst1 : (1 : Int32).toInt = 1 := rfl
  refine q_ic rfl ?_
  exact hk _ _ ν [.int 1] (μ) (List.Mem.head _) (post_mk g rfl g.hi (fun _ _ => ⟨rfl, rfl⟩) (by decide) (by decide) (fun _ _ => rfl) ⟨(show (0 : Int) ≤ ν 0 ∧ ν 0 ≤ 0 from ⟨by omega, by omega⟩), trivial⟩ trivial ⟨⟨by decide, 1, rfl, by rw [z0]; rfl⟩, trivial⟩ rfl trivial ⟨⟨by decide, (show fl_P 102 (ν 0 + 0) (μ).2.2.1 from pq_in (c := 2) (by decide) (by omega) p0)⟩, trivial⟩)
set_option maxHeartbeats 2000000 in
theorem sp_plOff3 {SH : dw_Sh} {TT : Nat → dw_T} {K : dw_K} (hE : (EE SH TT).ok) : dx_SOK (EE SH TT) (pr_X12_planLine K) 206 sg_plOff3 := by
  intro ν ls vs args rest μ bc bs hvs hargs hcat g hk
  obtain ⟨v0, rfl, e0⟩ := vs1 (f := fun i => ls[i]?) (a := 0) hvs
  obtain rfl := ar0 hargs
  obtain ⟨g0, -⟩ := g.gl
  rw [show v0 = some (.ref 404) from gV_th g0] at e0
  have f0 : (μ.2.2.1 408 11).toInt = ν 1 + 0 := (g.fa _ (List.Mem.head _)).2
  have f1 : (μ.2.2.1 406 0).toInt = ν 2 + 0 := (g.fa _ (List.Mem.tail _ (List.Mem.head _))).2
  have p0 : fl_P 103 (ν 0 + 0) μ.2.2.1 := (g.fl _ (List.Mem.head _)).2
  have b1 : (0 : Int) ≤ ν 1 ∧ ν 1 ≤ 143 := g.iv 1 (by decide)
  have b2 : (1 : Int) ≤ ν 2 ∧ ν 2 ≤ 12 := g.iv 2 (by decide)
  have z0 : ν 0 = 0 := g.z
  have cst1 : (1 : Int32).toInt = 1 := rfl
  refine q_ic rfl ?_
  exact hk _ _ ν [.int 1] (μ) (List.Mem.head _) (post_mk g rfl g.hi (fun _ _ => ⟨rfl, rfl⟩) (by decide) (by decide) (fun _ _ => rfl) ⟨(show (0 : Int) ≤ ν 0 ∧ ν 0 ≤ 0 from ⟨by omega, by omega⟩), (show (0 : Int) ≤ ν 1 ∧ ν 1 ≤ 143 from ⟨by omega, by omega⟩), (show (1 : Int) ≤ ν 2 ∧ ν 2 ≤ 12 from ⟨by omega, by omega⟩), trivial⟩ trivial ⟨⟨by decide, 1, rfl, by rw [z0]; rfl⟩, trivial⟩ rfl trivial ⟨⟨by decide, (show fl_P 25 (ν 0 + 4) (μ).2.2.1 from pq_of (c := 4) (by decide) (by omega) (rp_off (c := 3) (y := 0) (by decide) p0 (show (μ.2.2.1 408 11).toInt ≤ 143 by omega) (by omega)))⟩, trivial⟩)
set_option maxHeartbeats 2000000 in
theorem sp_plOn5 {SH : dw_Sh} {TT : Nat → dw_T} {K : dw_K} (hE : (EE SH TT).ok) : dx_SOK (EE SH TT) (pr_X12_planLine K) 132 sg_plOn5 := by
  intro ν ls vs args rest μ bc bs hvs hargs hcat g hk
  obtain ⟨v0, rfl, e0⟩ := vs1 (f := fun i => ls[i]?) (a := 0) hvs
  obtain rfl := ar0 hargs
  obtain ⟨g0, -⟩ := g.gl
  rw [show v0 = some (.ref 404) from gV_th g0] at e0
  have f0 : (μ.2.2.1 408 16).toInt = ν 0 + 0 := (g.fa _ (List.Mem.head _)).2
  have p0 : fl_P 105 (ν 0 + 0) μ.2.2.1 := (g.fl _ (List.Mem.head _)).2
  have z0 : ν 0 = 0 := g.z
  have cst1 : (1 : Int32).toInt = 1 := rfl
  refine q_ic rfl ?_
  exact hk _ _ ν [.int 1] (μ) (List.Mem.head _) (post_mk g rfl g.hi (fun _ _ => ⟨rfl, rfl⟩) (by decide) (by decide) (fun _ _ => rfl) ⟨(show (0 : Int) ≤ ν 0 ∧ ν 0 ≤ 0 from ⟨by omega, by omega⟩), trivial⟩ trivial ⟨⟨by decide, 1, rfl, by rw [z0]; rfl⟩, trivial⟩ rfl trivial ⟨⟨by decide, (show fl_P 25 (ν 0 + 6) (μ).2.2.1 from pq_of (c := 6) (by decide) (by omega) (rp_on (c := 5) (y := 0) (by decide) p0 (show (μ.2.2.1 408 16).toInt = 0 by omega)))⟩, trivial⟩)
set_option maxHeartbeats 2000000 in
theorem sp_plIn7 {SH : dw_Sh} {TT : Nat → dw_T} {K : dw_K} (hE : (EE SH TT).ok) : dx_SOK (EE SH TT) (pr_X12_planLine K) 83 sg_plIn7 := by
  intro ν ls vs args rest μ bc bs hvs hargs hcat g hk
  obtain ⟨v0, rfl, e0⟩ := vs1 (f := fun i => ls[i]?) (a := 0) hvs
  obtain rfl := ar0 hargs
  obtain ⟨g0, -⟩ := g.gl
  rw [show v0 = some (.ref 404) from gV_th g0] at e0
  have f0 : (μ.2.2.1 404 21).toInt = ν 0 + 7 := (g.fa _ (List.Mem.head _)).2
  have p0 : fl_P 25 (ν 0 + 7) μ.2.2.1 := (g.fl _ (List.Mem.head _)).2
  have z0 : ν 0 = 0 := g.z
  have cst1 : (1 : Int32).toInt = 1 := rfl
  refine q_ic rfl ?_
  exact hk _ _ ν [.int 1] (μ) (List.Mem.head _) (post_mk g rfl g.hi (fun _ _ => ⟨rfl, rfl⟩) (by decide) (by decide) (fun _ _ => rfl) ⟨(show (0 : Int) ≤ ν 0 ∧ ν 0 ≤ 0 from ⟨by omega, by omega⟩), trivial⟩ trivial ⟨⟨by decide, 1, rfl, by rw [z0]; rfl⟩, trivial⟩ rfl trivial ⟨⟨by decide, (show fl_P 107 (ν 0 + 0) (μ).2.2.1 from pq_in (c := 7) (by decide) (by omega) p0)⟩, trivial⟩)
set_option maxHeartbeats 2000000 in
theorem sp_plOff8 {SH : dw_Sh} {TT : Nat → dw_T} {K : dw_K} (hE : (EE SH TT).ok) : dx_SOK (EE SH TT) (pr_X12_planLine K) 206 sg_plOff8 := by
  intro ν ls vs args rest μ bc bs hvs hargs hcat g hk
  obtain ⟨v0, rfl, e0⟩ := vs1 (f := fun i => ls[i]?) (a := 0) hvs
  obtain rfl := ar0 hargs
  obtain ⟨g0, -⟩ := g.gl
  rw [show v0 = some (.ref 404) from gV_th g0] at e0
  have f0 : (μ.2.2.1 408 26).toInt = ν 1 + 0 := (g.fa _ (List.Mem.head _)).2
  have f1 : (μ.2.2.1 406 0).toInt = ν 2 + 0 := (g.fa _ (List.Mem.tail _ (List.Mem.head _))).2
  have p0 : fl_P 108 (ν 0 + 0) μ.2.2.1 := (g.fl _ (List.Mem.head _)).2
  have b1 : (0 : Int) ≤ ν 1 ∧ ν 1 ≤ 143 := g.iv 1 (by decide)
  have b2 : (1 : Int) ≤ ν 2 ∧ ν 2 ≤ 12 := g.iv 2 (by decide)
  have z0 : ν 0 = 0 := g.z
  have cst1 : (1 : Int32).toInt = 1 := rfl
  refine q_ic rfl ?_
  exact hk _ _ ν [.int 1] (μ) (List.Mem.head _) (post_mk g rfl g.hi (fun _ _ => ⟨rfl, rfl⟩) (by decide) (by decide) (fun _ _ => rfl) ⟨(show (0 : Int) ≤ ν 0 ∧ ν 0 ≤ 0 from ⟨by omega, by omega⟩), (show (0 : Int) ≤ ν 1 ∧ ν 1 ≤ 143 from ⟨by omega, by omega⟩), (show (1 : Int) ≤ ν 2 ∧ ν 2 ≤ 12 from ⟨by omega, by omega⟩), trivial⟩ trivial ⟨⟨by decide, 1, rfl, by rw [z0]; rfl⟩, trivial⟩ rfl trivial ⟨⟨by decide, (show fl_P 25 (ν 0 + 9) (μ).2.2.1 from pq_of (c := 9) (by decide) (by omega) (rp_off (c := 8) (y := 0) (by decide) p0 (show (μ.2.2.1 408 26).toInt ≤ 143 by omega) (by omega)))⟩, trivial⟩)
set_option maxHeartbeats 2000000 in
theorem sp_plOn10 {SH : dw_Sh} {TT : Nat → dw_T} {K : dw_K} (hE : (EE SH TT).ok) : dx_SOK (EE SH TT) (pr_X12_planLine K) 132 sg_plOn10 := by
  intro ν ls vs args rest μ bc bs hvs hargs hcat g hk
  obtain ⟨v0, rfl, e0⟩ := vs1 (f := fun i => ls[i]?) (a := 0) hvs
  obtain rfl := ar0 hargs
  obtain ⟨g0, -⟩ := g.gl
  rw [show v0 = some (.ref 404) from gV_th g0] at e0
  have f0 : (μ.2.2.1 408 31).toInt = ν 0 + 0 := (g.fa _ (List.Mem.head _)).2
  have p0 : fl_P 110 (ν 0 + 0) μ.2.2.1 := (g.fl _ (List.Mem.head _)).2
  have z0 : ν 0 = 0 := g.z
  have cst1 : (1 : Int32).toInt = 1 := rfl
  refine q_ic rfl ?_
  exact hk _ _ ν [.int 1] (μ) (List.Mem.head _) (post_mk g rfl g.hi (fun _ _ => ⟨rfl, rfl⟩) (by decide) (by decide) (fun _ _ => rfl) ⟨(show (0 : Int) ≤ ν 0 ∧ ν 0 ≤ 0 from ⟨by omega, by omega⟩), trivial⟩ trivial ⟨⟨by decide, 1, rfl, by rw [z0]; rfl⟩, trivial⟩ rfl trivial ⟨⟨by decide, (show fl_P 25 (ν 0 + 11) (μ).2.2.1 from pq_of (c := 11) (by decide) (by omega) (rp_on (c := 10) (y := 0) (by decide) p0 (show (μ.2.2.1 408 31).toInt = 0 by omega)))⟩, trivial⟩)
set_option maxHeartbeats 2000000 in
theorem sp_plIn12 {SH : dw_Sh} {TT : Nat → dw_T} {K : dw_K} (hE : (EE SH TT).ok) : dx_SOK (EE SH TT) (pr_X12_planLine K) 83 sg_plIn12 := by
  intro ν ls vs args rest μ bc bs hvs hargs hcat g hk
  obtain ⟨v0, rfl, e0⟩ := vs1 (f := fun i => ls[i]?) (a := 0) hvs
  obtain rfl := ar0 hargs
  obtain ⟨g0, -⟩ := g.gl
  rw [show v0 = some (.ref 404) from gV_th g0] at e0
  have f0 : (μ.2.2.1 404 21).toInt = ν 0 + 12 := (g.fa _ (List.Mem.head _)).2
  have p0 : fl_P 25 (ν 0 + 12) μ.2.2.1 := (g.fl _ (List.Mem.head _)).2
  have z0 : ν 0 = 0 := g.z
  have cst1 : (1 : Int32).toInt = 1 := rfl
  refine q_ic rfl ?_
  exact hk _ _ ν [.int 1] (μ) (List.Mem.head _) (post_mk g rfl g.hi (fun _ _ => ⟨rfl, rfl⟩) (by decide) (by decide) (fun _ _ => rfl) ⟨(show (0 : Int) ≤ ν 0 ∧ ν 0 ≤ 0 from ⟨by omega, by omega⟩), trivial⟩ trivial ⟨⟨by decide, 1, rfl, by rw [z0]; rfl⟩, trivial⟩ rfl trivial ⟨⟨by decide, (show fl_P 112 (ν 0 + 0) (μ).2.2.1 from pq_in (c := 12) (by decide) (by omega) p0)⟩, trivial⟩)
set_option maxHeartbeats 2000000 in
theorem sp_plOff13 {SH : dw_Sh} {TT : Nat → dw_T} {K : dw_K} (hE : (EE SH TT).ok) : dx_SOK (EE SH TT) (pr_X12_planLine K) 206 sg_plOff13 := by
  intro ν ls vs args rest μ bc bs hvs hargs hcat g hk
  obtain ⟨v0, rfl, e0⟩ := vs1 (f := fun i => ls[i]?) (a := 0) hvs
  obtain rfl := ar0 hargs
  obtain ⟨g0, -⟩ := g.gl
  rw [show v0 = some (.ref 404) from gV_th g0] at e0
  have f0 : (μ.2.2.1 408 41).toInt = ν 1 + 0 := (g.fa _ (List.Mem.head _)).2
  have f1 : (μ.2.2.1 406 0).toInt = ν 2 + 0 := (g.fa _ (List.Mem.tail _ (List.Mem.head _))).2
  have p0 : fl_P 113 (ν 0 + 0) μ.2.2.1 := (g.fl _ (List.Mem.head _)).2
  have b1 : (0 : Int) ≤ ν 1 ∧ ν 1 ≤ 143 := g.iv 1 (by decide)
  have b2 : (1 : Int) ≤ ν 2 ∧ ν 2 ≤ 12 := g.iv 2 (by decide)
  have z0 : ν 0 = 0 := g.z
  have cst1 : (1 : Int32).toInt = 1 := rfl
  refine q_ic rfl ?_
  exact hk _ _ ν [.int 1] (μ) (List.Mem.head _) (post_mk g rfl g.hi (fun _ _ => ⟨rfl, rfl⟩) (by decide) (by decide) (fun _ _ => rfl) ⟨(show (0 : Int) ≤ ν 0 ∧ ν 0 ≤ 0 from ⟨by omega, by omega⟩), (show (0 : Int) ≤ ν 1 ∧ ν 1 ≤ 143 from ⟨by omega, by omega⟩), (show (1 : Int) ≤ ν 2 ∧ ν 2 ≤ 12 from ⟨by omega, by omega⟩), trivial⟩ trivial ⟨⟨by decide, 1, rfl, by rw [z0]; rfl⟩, trivial⟩ rfl trivial ⟨⟨by decide, (show fl_P 25 (ν 0 + 14) (μ).2.2.1 from pq_of (c := 14) (by decide) (by omega) (rp_off (c := 13) (y := 0) (by decide) p0 (show (μ.2.2.1 408 41).toInt ≤ 143 by omega) (by omega)))⟩, trivial⟩)
set_option maxHeartbeats 2000000 in
theorem sp_plOn15 {SH : dw_Sh} {TT : Nat → dw_T} {K : dw_K} (hE : (EE SH TT).ok) : dx_SOK (EE SH TT) (pr_X12_planLine K) 132 sg_plOn15 := by
  intro ν ls vs args rest μ bc bs hvs hargs hcat g hk
  obtain ⟨v0, rfl, e0⟩ := vs1 (f := fun i => ls[i]?) (a := 0) hvs
  obtain rfl := ar0 hargs
  obtain ⟨g0, -⟩ := g.gl
  rw [show v0 = some (.ref 404) from gV_th g0] at e0
  have f0 : (μ.2.2.1 408 46).toInt = ν 0 + 0 := (g.fa _ (List.Mem.head _)).2
  have p0 : fl_P 115 (ν 0 + 0) μ.2.2.1 := (g.fl _ (List.Mem.head _)).2
  have z0 : ν 0 = 0 := g.z
  have cst1 : (1 : Int32).toInt = 1 := rfl
  refine q_ic rfl ?_
  exact hk _ _ ν [.int 1] (μ) (List.Mem.head _) (post_mk g rfl g.hi (fun _ _ => ⟨rfl, rfl⟩) (by decide) (by decide) (fun _ _ => rfl) ⟨(show (0 : Int) ≤ ν 0 ∧ ν 0 ≤ 0 from ⟨by omega, by omega⟩), trivial⟩ trivial ⟨⟨by decide, 1, rfl, by rw [z0]; rfl⟩, trivial⟩ rfl trivial ⟨⟨by decide, (show fl_P 25 (ν 0 + 16) (μ).2.2.1 from pq_of (c := 16) (by decide) (by omega) (rp_on (c := 15) (y := 0) (by decide) p0 (show (μ.2.2.1 408 46).toInt = 0 by omega)))⟩, trivial⟩)
set_option maxHeartbeats 2000000 in
theorem sp_plIn17 {SH : dw_Sh} {TT : Nat → dw_T} {K : dw_K} (hE : (EE SH TT).ok) : dx_SOK (EE SH TT) (pr_X12_planLine K) 83 sg_plIn17 := by
  intro ν ls vs args rest μ bc bs hvs hargs hcat g hk
  obtain ⟨v0, rfl, e0⟩ := vs1 (f := fun i => ls[i]?) (a := 0) hvs
  obtain rfl := ar0 hargs
  obtain ⟨g0, -⟩ := g.gl
  rw [show v0 = some (.ref 404) from gV_th g0] at e0
  have f0 : (μ.2.2.1 404 21).toInt = ν 0 + 17 := (g.fa _ (List.Mem.head _)).2
  have p0 : fl_P 25 (ν 0 + 17) μ.2.2.1 := (g.fl _ (List.Mem.head _)).2
  have z0 : ν 0 = 0 := g.z
  have cst1 : (1 : Int32).toInt = 1 := rfl
  refine q_ic rfl ?_
  exact hk _ _ ν [.int 1] (μ) (List.Mem.head _) (post_mk g rfl g.hi (fun _ _ => ⟨rfl, rfl⟩) (by decide) (by decide) (fun _ _ => rfl) ⟨(show (0 : Int) ≤ ν 0 ∧ ν 0 ≤ 0 from ⟨by omega, by omega⟩), trivial⟩ trivial ⟨⟨by decide, 1, rfl, by rw [z0]; rfl⟩, trivial⟩ rfl trivial ⟨⟨by decide, (show fl_P 117 (ν 0 + 0) (μ).2.2.1 from pq_in (c := 17) (by decide) (by omega) p0)⟩, trivial⟩)
set_option maxHeartbeats 2000000 in
theorem sp_plOff18 {SH : dw_Sh} {TT : Nat → dw_T} {K : dw_K} (hE : (EE SH TT).ok) : dx_SOK (EE SH TT) (pr_X12_planLine K) 206 sg_plOff18 := by
  intro ν ls vs args rest μ bc bs hvs hargs hcat g hk
  obtain ⟨v0, rfl, e0⟩ := vs1 (f := fun i => ls[i]?) (a := 0) hvs
  obtain rfl := ar0 hargs
  obtain ⟨g0, -⟩ := g.gl
  rw [show v0 = some (.ref 404) from gV_th g0] at e0
  have f0 : (μ.2.2.1 408 56).toInt = ν 1 + 0 := (g.fa _ (List.Mem.head _)).2
  have f1 : (μ.2.2.1 406 0).toInt = ν 2 + 0 := (g.fa _ (List.Mem.tail _ (List.Mem.head _))).2
  have p0 : fl_P 118 (ν 0 + 0) μ.2.2.1 := (g.fl _ (List.Mem.head _)).2
  have b1 : (0 : Int) ≤ ν 1 ∧ ν 1 ≤ 143 := g.iv 1 (by decide)
  have b2 : (1 : Int) ≤ ν 2 ∧ ν 2 ≤ 12 := g.iv 2 (by decide)
  have z0 : ν 0 = 0 := g.z
  have cst1 : (1 : Int32).toInt = 1 := rfl
  refine q_ic rfl ?_
  exact hk _ _ ν [.int 1] (μ) (List.Mem.head _) (post_mk g rfl g.hi (fun _ _ => ⟨rfl, rfl⟩) (by decide) (by decide) (fun _ _ => rfl) ⟨(show (0 : Int) ≤ ν 0 ∧ ν 0 ≤ 0 from ⟨by omega, by omega⟩), (show (0 : Int) ≤ ν 1 ∧ ν 1 ≤ 143 from ⟨by omega, by omega⟩), (show (1 : Int) ≤ ν 2 ∧ ν 2 ≤ 12 from ⟨by omega, by omega⟩), trivial⟩ trivial ⟨⟨by decide, 1, rfl, by rw [z0]; rfl⟩, trivial⟩ rfl trivial ⟨⟨by decide, (show fl_P 25 (ν 0 + 19) (μ).2.2.1 from pq_of (c := 19) (by decide) (by omega) (rp_off (c := 18) (y := 0) (by decide) p0 (show (μ.2.2.1 408 56).toInt ≤ 143 by omega) (by omega)))⟩, trivial⟩)
set_option maxHeartbeats 2000000 in
theorem sp_plOn20 {SH : dw_Sh} {TT : Nat → dw_T} {K : dw_K} (hE : (EE SH TT).ok) : dx_SOK (EE SH TT) (pr_X12_planLine K) 132 sg_plOn20 := by
  intro ν ls vs args rest μ bc bs hvs hargs hcat g hk
  obtain ⟨v0, rfl, e0⟩ := vs1 (f := fun i => ls[i]?) (a := 0) hvs
  obtain rfl := ar0 hargs
  obtain ⟨g0, -⟩ := g.gl
  rw [show v0 = some (.ref 404) from gV_th g0] at e0
  have f0 : (μ.2.2.1 408 61).toInt = ν 0 + 0 := (g.fa _ (List.Mem.head _)).2
  have p0 : fl_P 120 (ν 0 + 0) μ.2.2.1 := (g.fl _ (List.Mem.head _)).2
  have z0 : ν 0 = 0 := g.z
  have cst1 : (1 : Int32).toInt = 1 := rfl
  refine q_ic rfl ?_
  exact hk _ _ ν [.int 1] (μ) (List.Mem.head _) (post_mk g rfl g.hi (fun _ _ => ⟨rfl, rfl⟩) (by decide) (by decide) (fun _ _ => rfl) ⟨(show (0 : Int) ≤ ν 0 ∧ ν 0 ≤ 0 from ⟨by omega, by omega⟩), trivial⟩ trivial ⟨⟨by decide, 1, rfl, by rw [z0]; rfl⟩, trivial⟩ rfl trivial ⟨⟨by decide, (show fl_P 25 (ν 0 + 21) (μ).2.2.1 from pq_of (c := 21) (by decide) (by omega) (rp_on (c := 20) (y := 0) (by decide) p0 (show (μ.2.2.1 408 61).toInt = 0 by omega)))⟩, trivial⟩)
set_option maxHeartbeats 2000000 in
theorem sp_plIn22 {SH : dw_Sh} {TT : Nat → dw_T} {K : dw_K} (hE : (EE SH TT).ok) : dx_SOK (EE SH TT) (pr_X12_planLine K) 83 sg_plIn22 := by
  intro ν ls vs args rest μ bc bs hvs hargs hcat g hk
  obtain ⟨v0, rfl, e0⟩ := vs1 (f := fun i => ls[i]?) (a := 0) hvs
  obtain rfl := ar0 hargs
  obtain ⟨g0, -⟩ := g.gl
  rw [show v0 = some (.ref 404) from gV_th g0] at e0
  have f0 : (μ.2.2.1 404 21).toInt = ν 0 + 22 := (g.fa _ (List.Mem.head _)).2
  have p0 : fl_P 25 (ν 0 + 22) μ.2.2.1 := (g.fl _ (List.Mem.head _)).2
  have z0 : ν 0 = 0 := g.z
  have cst1 : (1 : Int32).toInt = 1 := rfl
  refine q_ic rfl ?_
  exact hk _ _ ν [.int 1] (μ) (List.Mem.head _) (post_mk g rfl g.hi (fun _ _ => ⟨rfl, rfl⟩) (by decide) (by decide) (fun _ _ => rfl) ⟨(show (0 : Int) ≤ ν 0 ∧ ν 0 ≤ 0 from ⟨by omega, by omega⟩), trivial⟩ trivial ⟨⟨by decide, 1, rfl, by rw [z0]; rfl⟩, trivial⟩ rfl trivial ⟨⟨by decide, (show fl_P 122 (ν 0 + 0) (μ).2.2.1 from pq_in (c := 22) (by decide) (by omega) p0)⟩, trivial⟩)
set_option maxHeartbeats 2000000 in
theorem sp_plOff23 {SH : dw_Sh} {TT : Nat → dw_T} {K : dw_K} (hE : (EE SH TT).ok) : dx_SOK (EE SH TT) (pr_X12_planLine K) 206 sg_plOff23 := by
  intro ν ls vs args rest μ bc bs hvs hargs hcat g hk
  obtain ⟨v0, rfl, e0⟩ := vs1 (f := fun i => ls[i]?) (a := 0) hvs
  obtain rfl := ar0 hargs
  obtain ⟨g0, -⟩ := g.gl
  rw [show v0 = some (.ref 404) from gV_th g0] at e0
  have f0 : (μ.2.2.1 408 71).toInt = ν 1 + 0 := (g.fa _ (List.Mem.head _)).2
  have f1 : (μ.2.2.1 406 0).toInt = ν 2 + 0 := (g.fa _ (List.Mem.tail _ (List.Mem.head _))).2
  have p0 : fl_P 123 (ν 0 + 0) μ.2.2.1 := (g.fl _ (List.Mem.head _)).2
  have b1 : (0 : Int) ≤ ν 1 ∧ ν 1 ≤ 143 := g.iv 1 (by decide)
  have b2 : (1 : Int) ≤ ν 2 ∧ ν 2 ≤ 12 := g.iv 2 (by decide)
  have z0 : ν 0 = 0 := g.z
  have cst1 : (1 : Int32).toInt = 1 := rfl
  refine q_ic rfl ?_
  exact hk _ _ ν [.int 1] (μ) (List.Mem.head _) (post_mk g rfl g.hi (fun _ _ => ⟨rfl, rfl⟩) (by decide) (by decide) (fun _ _ => rfl) ⟨(show (0 : Int) ≤ ν 0 ∧ ν 0 ≤ 0 from ⟨by omega, by omega⟩), (show (0 : Int) ≤ ν 1 ∧ ν 1 ≤ 143 from ⟨by omega, by omega⟩), (show (1 : Int) ≤ ν 2 ∧ ν 2 ≤ 12 from ⟨by omega, by omega⟩), trivial⟩ trivial ⟨⟨by decide, 1, rfl, by rw [z0]; rfl⟩, trivial⟩ rfl trivial ⟨⟨by decide, (show fl_P 25 (ν 0 + 24) (μ).2.2.1 from pq_of (c := 24) (by decide) (by omega) (rp_off (c := 23) (y := 0) (by decide) p0 (show (μ.2.2.1 408 71).toInt ≤ 143 by omega) (by omega)))⟩, trivial⟩)
set_option maxHeartbeats 2000000 in
theorem sp_plOn25 {SH : dw_Sh} {TT : Nat → dw_T} {K : dw_K} (hE : (EE SH TT).ok) : dx_SOK (EE SH TT) (pr_X12_planLine K) 132 sg_plOn25 := by
  intro ν ls vs args rest μ bc bs hvs hargs hcat g hk
  obtain ⟨v0, rfl, e0⟩ := vs1 (f := fun i => ls[i]?) (a := 0) hvs
  obtain rfl := ar0 hargs
  obtain ⟨g0, -⟩ := g.gl
  rw [show v0 = some (.ref 404) from gV_th g0] at e0
  have f0 : (μ.2.2.1 408 76).toInt = ν 0 + 0 := (g.fa _ (List.Mem.head _)).2
  have p0 : fl_P 125 (ν 0 + 0) μ.2.2.1 := (g.fl _ (List.Mem.head _)).2
  have z0 : ν 0 = 0 := g.z
  have cst1 : (1 : Int32).toInt = 1 := rfl
  refine q_ic rfl ?_
  exact hk _ _ ν [.int 1] (μ) (List.Mem.head _) (post_mk g rfl g.hi (fun _ _ => ⟨rfl, rfl⟩) (by decide) (by decide) (fun _ _ => rfl) ⟨(show (0 : Int) ≤ ν 0 ∧ ν 0 ≤ 0 from ⟨by omega, by omega⟩), trivial⟩ trivial ⟨⟨by decide, 1, rfl, by rw [z0]; rfl⟩, trivial⟩ rfl trivial ⟨⟨by decide, (show fl_P 25 (ν 0 + 26) (μ).2.2.1 from pq_of (c := 26) (by decide) (by omega) (rp_on (c := 25) (y := 0) (by decide) p0 (show (μ.2.2.1 408 76).toInt = 0 by omega)))⟩, trivial⟩)
set_option maxHeartbeats 2000000 in
theorem sp_plIn27 {SH : dw_Sh} {TT : Nat → dw_T} {K : dw_K} (hE : (EE SH TT).ok) : dx_SOK (EE SH TT) (pr_X12_planLine K) 83 sg_plIn27 := by
  intro ν ls vs args rest μ bc bs hvs hargs hcat g hk
  obtain ⟨v0, rfl, e0⟩ := vs1 (f := fun i => ls[i]?) (a := 0) hvs
  obtain rfl := ar0 hargs
  obtain ⟨g0, -⟩ := g.gl
  rw [show v0 = some (.ref 404) from gV_th g0] at e0
  have f0 : (μ.2.2.1 404 21).toInt = ν 0 + 27 := (g.fa _ (List.Mem.head _)).2
  have p0 : fl_P 25 (ν 0 + 27) μ.2.2.1 := (g.fl _ (List.Mem.head _)).2
  have z0 : ν 0 = 0 := g.z
  have cst1 : (1 : Int32).toInt = 1 := rfl
  refine q_ic rfl ?_
  exact hk _ _ ν [.int 1] (μ) (List.Mem.head _) (post_mk g rfl g.hi (fun _ _ => ⟨rfl, rfl⟩) (by decide) (by decide) (fun _ _ => rfl) ⟨(show (0 : Int) ≤ ν 0 ∧ ν 0 ≤ 0 from ⟨by omega, by omega⟩), trivial⟩ trivial ⟨⟨by decide, 1, rfl, by rw [z0]; rfl⟩, trivial⟩ rfl trivial ⟨⟨by decide, (show fl_P 127 (ν 0 + 0) (μ).2.2.1 from pq_in (c := 27) (by decide) (by omega) p0)⟩, trivial⟩)
set_option maxHeartbeats 2000000 in
theorem sp_plOff28 {SH : dw_Sh} {TT : Nat → dw_T} {K : dw_K} (hE : (EE SH TT).ok) : dx_SOK (EE SH TT) (pr_X12_planLine K) 206 sg_plOff28 := by
  intro ν ls vs args rest μ bc bs hvs hargs hcat g hk
  obtain ⟨v0, rfl, e0⟩ := vs1 (f := fun i => ls[i]?) (a := 0) hvs
  obtain rfl := ar0 hargs
  obtain ⟨g0, -⟩ := g.gl
  rw [show v0 = some (.ref 404) from gV_th g0] at e0
  have f0 : (μ.2.2.1 408 86).toInt = ν 1 + 0 := (g.fa _ (List.Mem.head _)).2
  have f1 : (μ.2.2.1 406 0).toInt = ν 2 + 0 := (g.fa _ (List.Mem.tail _ (List.Mem.head _))).2
  have p0 : fl_P 128 (ν 0 + 0) μ.2.2.1 := (g.fl _ (List.Mem.head _)).2
  have b1 : (0 : Int) ≤ ν 1 ∧ ν 1 ≤ 143 := g.iv 1 (by decide)
  have b2 : (1 : Int) ≤ ν 2 ∧ ν 2 ≤ 12 := g.iv 2 (by decide)
  have z0 : ν 0 = 0 := g.z
  have cst1 : (1 : Int32).toInt = 1 := rfl
  refine q_ic rfl ?_
  exact hk _ _ ν [.int 1] (μ) (List.Mem.head _) (post_mk g rfl g.hi (fun _ _ => ⟨rfl, rfl⟩) (by decide) (by decide) (fun _ _ => rfl) ⟨(show (0 : Int) ≤ ν 0 ∧ ν 0 ≤ 0 from ⟨by omega, by omega⟩), (show (0 : Int) ≤ ν 1 ∧ ν 1 ≤ 143 from ⟨by omega, by omega⟩), (show (1 : Int) ≤ ν 2 ∧ ν 2 ≤ 12 from ⟨by omega, by omega⟩), trivial⟩ trivial ⟨⟨by decide, 1, rfl, by rw [z0]; rfl⟩, trivial⟩ rfl trivial ⟨⟨by decide, (show fl_P 25 (ν 0 + 29) (μ).2.2.1 from pq_of (c := 29) (by decide) (by omega) (rp_off (c := 28) (y := 0) (by decide) p0 (show (μ.2.2.1 408 86).toInt ≤ 143 by omega) (by omega)))⟩, trivial⟩)
set_option maxHeartbeats 2000000 in
theorem sp_plCopy0 {SH : dw_Sh} {TT : Nat → dw_T} {K : dw_K} (hE : (EE SH TT).ok) : dx_SOK (EE SH TT) (pr_X12_plan K) 79 sg_plCopy0 := by
  intro ν ls vs args rest μ bc bs hvs hargs hcat g hk
  obtain ⟨v0, rfl, e0⟩ := vs1 (f := fun i => ls[i]?) (a := 0) hvs
  obtain rfl := ar0 hargs
  obtain ⟨g0, -⟩ := g.gl
  rw [show v0 = some (.ref 404) from gV_th g0] at e0
  have z0 : ν 0 = 0 := g.z
  have cst0 : (0 : Int32).toInt = 0 := rfl
  refine q_ic rfl ?_
  exact hk _ _ ν [.int 0] (μ) (List.Mem.head _) (post_mk g rfl g.hi (fun _ _ => ⟨rfl, rfl⟩) (by decide) (by decide) (fun _ _ => rfl) ⟨(show (0 : Int) ≤ ν 0 ∧ ν 0 ≤ 0 from ⟨by omega, by omega⟩), trivial⟩ trivial ⟨⟨by decide, 0, rfl, by rw [z0]; rfl⟩, trivial⟩ rfl trivial ⟨⟨by decide, (show fl_P 23 (ν 0 + 0) (μ).2.2.1 from fun j _ hj => absurd hj (by omega))⟩, trivial⟩)
set_option maxHeartbeats 2000000 in
theorem sp_plEnd2 {SH : dw_Sh} {TT : Nat → dw_T} {K : dw_K} (hE : (EE SH TT).ok) : dx_SOK (EE SH TT) (pr_X12_plan K) 113 sg_plEnd2 := by
  intro ν ls vs args rest μ bc bs hvs hargs hcat g hk
  obtain ⟨v0, rfl, e0⟩ := vs1 (f := fun i => ls[i]?) (a := 0) hvs
  obtain rfl := ar0 hargs
  obtain ⟨g0, -⟩ := g.gl
  rw [show v0 = some (.ref 404) from gV_th g0] at e0
  have f0 : (μ.2.2.1 404 21).toInt = ν 0 + 2 := (g.fa _ (List.Mem.head _)).2
  have f1 : (μ.2.2.1 408 0).toInt = ν 0 + 2 := (g.fa _ (List.Mem.tail _ (List.Mem.head _))).2
  have p0 : fl_P 23 (ν 0 + 7) μ.2.2.1 := (g.fl _ (List.Mem.head _)).2
  have p1 : fl_P 25 (ν 0 + 2) μ.2.2.1 := (g.fl _ (List.Mem.tail _ (List.Mem.head _))).2
  have z0 : ν 0 = 0 := g.z
  refine q_ald rfl e0 ?_
  exact hk _ _ ν [.ref 404] (μ) (List.Mem.head _) (post_mk g rfl g.hi (fun _ _ => ⟨rfl, rfl⟩) (by decide) (by decide) (fun _ _ => rfl) ⟨(show (0 : Int) ≤ ν 0 ∧ ν 0 ≤ 0 from ⟨by omega, by omega⟩), trivial⟩ trivial ⟨⟨404, List.Mem.head _, rfl⟩, trivial⟩ rfl trivial ⟨⟨by decide, (show fl_P 6 (ν 0 + 0) (μ).2.2.1 from pl_end (c := 2) (y := 0) (by decide) (by omega) (by omega) p0 (pq_in (c := 2) (by decide) (by omega) p1))⟩, trivial⟩)
set_option maxHeartbeats 2000000 in
theorem sp_plEnd7 {SH : dw_Sh} {TT : Nat → dw_T} {K : dw_K} (hE : (EE SH TT).ok) : dx_SOK (EE SH TT) (pr_X12_plan K) 113 sg_plEnd7 := by
  intro ν ls vs args rest μ bc bs hvs hargs hcat g hk
  obtain ⟨v0, rfl, e0⟩ := vs1 (f := fun i => ls[i]?) (a := 0) hvs
  obtain rfl := ar0 hargs
  obtain ⟨g0, -⟩ := g.gl
  rw [show v0 = some (.ref 404) from gV_th g0] at e0
  have f0 : (μ.2.2.1 404 21).toInt = ν 0 + 7 := (g.fa _ (List.Mem.head _)).2
  have f1 : (μ.2.2.1 408 0).toInt = ν 0 + 7 := (g.fa _ (List.Mem.tail _ (List.Mem.head _))).2
  have p0 : fl_P 23 (ν 0 + 22) μ.2.2.1 := (g.fl _ (List.Mem.head _)).2
  have p1 : fl_P 25 (ν 0 + 7) μ.2.2.1 := (g.fl _ (List.Mem.tail _ (List.Mem.head _))).2
  have z0 : ν 0 = 0 := g.z
  refine q_ald rfl e0 ?_
  exact hk _ _ ν [.ref 404] (μ) (List.Mem.head _) (post_mk g rfl g.hi (fun _ _ => ⟨rfl, rfl⟩) (by decide) (by decide) (fun _ _ => rfl) ⟨(show (0 : Int) ≤ ν 0 ∧ ν 0 ≤ 0 from ⟨by omega, by omega⟩), trivial⟩ trivial ⟨⟨404, List.Mem.head _, rfl⟩, trivial⟩ rfl trivial ⟨⟨by decide, (show fl_P 6 (ν 0 + 0) (μ).2.2.1 from pl_end (c := 7) (y := 0) (by decide) (by omega) (by omega) p0 (pq_in (c := 7) (by decide) (by omega) p1))⟩, trivial⟩)
set_option maxHeartbeats 2000000 in
theorem sp_plEnd12 {SH : dw_Sh} {TT : Nat → dw_T} {K : dw_K} (hE : (EE SH TT).ok) : dx_SOK (EE SH TT) (pr_X12_plan K) 113 sg_plEnd12 := by
  intro ν ls vs args rest μ bc bs hvs hargs hcat g hk
  obtain ⟨v0, rfl, e0⟩ := vs1 (f := fun i => ls[i]?) (a := 0) hvs
  obtain rfl := ar0 hargs
  obtain ⟨g0, -⟩ := g.gl
  rw [show v0 = some (.ref 404) from gV_th g0] at e0
  have f0 : (μ.2.2.1 404 21).toInt = ν 0 + 12 := (g.fa _ (List.Mem.head _)).2
  have f1 : (μ.2.2.1 408 0).toInt = ν 0 + 12 := (g.fa _ (List.Mem.tail _ (List.Mem.head _))).2
  have p0 : fl_P 23 (ν 0 + 37) μ.2.2.1 := (g.fl _ (List.Mem.head _)).2
  have p1 : fl_P 25 (ν 0 + 12) μ.2.2.1 := (g.fl _ (List.Mem.tail _ (List.Mem.head _))).2
  have z0 : ν 0 = 0 := g.z
  refine q_ald rfl e0 ?_
  exact hk _ _ ν [.ref 404] (μ) (List.Mem.head _) (post_mk g rfl g.hi (fun _ _ => ⟨rfl, rfl⟩) (by decide) (by decide) (fun _ _ => rfl) ⟨(show (0 : Int) ≤ ν 0 ∧ ν 0 ≤ 0 from ⟨by omega, by omega⟩), trivial⟩ trivial ⟨⟨404, List.Mem.head _, rfl⟩, trivial⟩ rfl trivial ⟨⟨by decide, (show fl_P 6 (ν 0 + 0) (μ).2.2.1 from pl_end (c := 12) (y := 0) (by decide) (by omega) (by omega) p0 (pq_in (c := 12) (by decide) (by omega) p1))⟩, trivial⟩)
set_option maxHeartbeats 2000000 in
theorem sp_plEnd17 {SH : dw_Sh} {TT : Nat → dw_T} {K : dw_K} (hE : (EE SH TT).ok) : dx_SOK (EE SH TT) (pr_X12_plan K) 113 sg_plEnd17 := by
  intro ν ls vs args rest μ bc bs hvs hargs hcat g hk
  obtain ⟨v0, rfl, e0⟩ := vs1 (f := fun i => ls[i]?) (a := 0) hvs
  obtain rfl := ar0 hargs
  obtain ⟨g0, -⟩ := g.gl
  rw [show v0 = some (.ref 404) from gV_th g0] at e0
  have f0 : (μ.2.2.1 404 21).toInt = ν 0 + 17 := (g.fa _ (List.Mem.head _)).2
  have f1 : (μ.2.2.1 408 0).toInt = ν 0 + 17 := (g.fa _ (List.Mem.tail _ (List.Mem.head _))).2
  have p0 : fl_P 23 (ν 0 + 52) μ.2.2.1 := (g.fl _ (List.Mem.head _)).2
  have p1 : fl_P 25 (ν 0 + 17) μ.2.2.1 := (g.fl _ (List.Mem.tail _ (List.Mem.head _))).2
  have z0 : ν 0 = 0 := g.z
  refine q_ald rfl e0 ?_
  exact hk _ _ ν [.ref 404] (μ) (List.Mem.head _) (post_mk g rfl g.hi (fun _ _ => ⟨rfl, rfl⟩) (by decide) (by decide) (fun _ _ => rfl) ⟨(show (0 : Int) ≤ ν 0 ∧ ν 0 ≤ 0 from ⟨by omega, by omega⟩), trivial⟩ trivial ⟨⟨404, List.Mem.head _, rfl⟩, trivial⟩ rfl trivial ⟨⟨by decide, (show fl_P 6 (ν 0 + 0) (μ).2.2.1 from pl_end (c := 17) (y := 0) (by decide) (by omega) (by omega) p0 (pq_in (c := 17) (by decide) (by omega) p1))⟩, trivial⟩)
set_option maxHeartbeats 2000000 in
theorem sp_plEnd22 {SH : dw_Sh} {TT : Nat → dw_T} {K : dw_K} (hE : (EE SH TT).ok) : dx_SOK (EE SH TT) (pr_X12_plan K) 113 sg_plEnd22 := by
  intro ν ls vs args rest μ bc bs hvs hargs hcat g hk
  obtain ⟨v0, rfl, e0⟩ := vs1 (f := fun i => ls[i]?) (a := 0) hvs
  obtain rfl := ar0 hargs
  obtain ⟨g0, -⟩ := g.gl
  rw [show v0 = some (.ref 404) from gV_th g0] at e0
  have f0 : (μ.2.2.1 404 21).toInt = ν 0 + 22 := (g.fa _ (List.Mem.head _)).2
  have f1 : (μ.2.2.1 408 0).toInt = ν 0 + 22 := (g.fa _ (List.Mem.tail _ (List.Mem.head _))).2
  have p0 : fl_P 23 (ν 0 + 67) μ.2.2.1 := (g.fl _ (List.Mem.head _)).2
  have p1 : fl_P 25 (ν 0 + 22) μ.2.2.1 := (g.fl _ (List.Mem.tail _ (List.Mem.head _))).2
  have z0 : ν 0 = 0 := g.z
  refine q_ald rfl e0 ?_
  exact hk _ _ ν [.ref 404] (μ) (List.Mem.head _) (post_mk g rfl g.hi (fun _ _ => ⟨rfl, rfl⟩) (by decide) (by decide) (fun _ _ => rfl) ⟨(show (0 : Int) ≤ ν 0 ∧ ν 0 ≤ 0 from ⟨by omega, by omega⟩), trivial⟩ trivial ⟨⟨404, List.Mem.head _, rfl⟩, trivial⟩ rfl trivial ⟨⟨by decide, (show fl_P 6 (ν 0 + 0) (μ).2.2.1 from pl_end (c := 22) (y := 0) (by decide) (by omega) (by omega) p0 (pq_in (c := 22) (by decide) (by omega) p1))⟩, trivial⟩)
set_option maxHeartbeats 2000000 in
theorem sp_plEnd27 {SH : dw_Sh} {TT : Nat → dw_T} {K : dw_K} (hE : (EE SH TT).ok) : dx_SOK (EE SH TT) (pr_X12_plan K) 113 sg_plEnd27 := by
  intro ν ls vs args rest μ bc bs hvs hargs hcat g hk
  obtain ⟨v0, rfl, e0⟩ := vs1 (f := fun i => ls[i]?) (a := 0) hvs
  obtain rfl := ar0 hargs
  obtain ⟨g0, -⟩ := g.gl
  rw [show v0 = some (.ref 404) from gV_th g0] at e0
  have f0 : (μ.2.2.1 404 21).toInt = ν 0 + 27 := (g.fa _ (List.Mem.head _)).2
  have f1 : (μ.2.2.1 408 0).toInt = ν 0 + 27 := (g.fa _ (List.Mem.tail _ (List.Mem.head _))).2
  have p0 : fl_P 23 (ν 0 + 82) μ.2.2.1 := (g.fl _ (List.Mem.head _)).2
  have p1 : fl_P 25 (ν 0 + 27) μ.2.2.1 := (g.fl _ (List.Mem.tail _ (List.Mem.head _))).2
  have z0 : ν 0 = 0 := g.z
  refine q_ald rfl e0 ?_
  exact hk _ _ ν [.ref 404] (μ) (List.Mem.head _) (post_mk g rfl g.hi (fun _ _ => ⟨rfl, rfl⟩) (by decide) (by decide) (fun _ _ => rfl) ⟨(show (0 : Int) ≤ ν 0 ∧ ν 0 ≤ 0 from ⟨by omega, by omega⟩), trivial⟩ trivial ⟨⟨404, List.Mem.head _, rfl⟩, trivial⟩ rfl trivial ⟨⟨by decide, (show fl_P 6 (ν 0 + 0) (μ).2.2.1 from pl_end (c := 27) (y := 0) (by decide) (by omega) (by omega) p0 (pq_in (c := 27) (by decide) (by omega) p1))⟩, trivial⟩)
set_option maxHeartbeats 2000000 in
theorem sp_imCopy0 {SH : dw_Sh} {TT : Nat → dw_T} {K : dw_K} (hE : (EE SH TT).ok) : dx_SOK (EE SH TT) (pr_X12_image K) 25 sg_imCopy0 := by
  intro ν ls vs args rest μ bc bs hvs hargs hcat g hk
  obtain ⟨v0, v1, v2, rfl, e0, e1, e2⟩ := vs3 (f := fun i => ls[i]?) (a := 0) (b := 1) (c := 2) hvs
  obtain rfl := ar0 hargs
  obtain ⟨g0, g1, g2, -⟩ := g.gl
  rw [show v0 = some (.ref 404) from gV_th g0] at e0
  obtain ⟨-, w1, h1, q1⟩ := g1
  rw [h1] at e1
  obtain ⟨-, w2, h2, q2⟩ := g2
  rw [h2] at e2
  have p0 : fl_P 15 (ν 1 + 0) μ.2.2.1 := (g.fl _ (List.Mem.head _)).2
  have p1 : fl_P 3 (ν 0 + 0) μ.2.2.1 := (g.fl _ (List.Mem.tail _ (List.Mem.head _))).2
  have b1 : (0 : Int) ≤ ν 1 ∧ ν 1 ≤ 1426 := g.iv 1 (by decide)
  have z0 : ν 0 = 0 := g.z
  refine q_ald rfl e0 ?_
  have k404 : (μ.2.1 404).1 = 12 := by rw [g.sh]; exact (hE.sh 404).1
  have n404 : (μ.2.1 404).2.1 = 57 := by rw [g.sh]; exact (hE.sh 404).2.1
  have r404_55 : (μ.2.1 404).2.2 55 = some 432 := by rw [g.sh]; exact (hE.sh 404).2.2 55
  refine q_getr rfl k404 r404_55 ?_
  have cst1427 : (1427 : Int32).toInt = 1427 := rfl
  refine q_ic rfl ?_
  refine q_ild rfl e1 ?_
  refine q_mul rfl ?_
  have t1 : ((1427 : Int32) * w1).toInt = 1427 * (w1).toInt := i_mul (by rw [cst1427]) (by omega) (by omega)
  refine q_ild rfl e2 ?_
  refine q_add rfl ?_
  have t2 : (((1427 : Int32) * w1) + w2).toInt = (((1427 : Int32) * w1)).toInt + (w2).toInt := i_add (by first | omega | (simp; omega)) (by first | omega | (simp; omega))
  refine q_ald rfl e0 ?_
  have r404_6 : (μ.2.1 404).2.2 6 = some 406 := by rw [g.sh]; exact (hE.sh 404).2.2 6
  refine q_getr rfl k404 r404_6 ?_
  refine q_ild rfl e2 ?_
  have k406 : (μ.2.1 406).1 = 16 := by rw [g.sh]; exact (hE.sh 406).1
  have n406 : (μ.2.1 406).2.1 = 1427 := by rw [g.sh]; exact (hE.sh 406).2.1
  refine q_xald rfl (Or.inl rfl) k406 n406 (by omega) (by omega) ?_
  have k432 : (μ.2.1 432).1 = 16 := by rw [g.sh]; exact (hE.sh 432).1
  have n432 : (μ.2.1 432).2.1 = 2854 := by rw [g.sh]; exact (hE.sh 432).2.1
  refine q_iast rfl k432 n432 (by omega) (by omega) ?_
  have cw : ((1427 : Int32) * w1).toInt = 0 := by omega
  have en : (((1427 : Int32) * w1) + w2).toInt.toNat = w2.toInt.toNat := by omega
  rw [en]
  have hh : dx_in (dx_seg (dx_ce 432).iv (w2.toInt.toNat)) (μ.2.2.1 406 w2.toInt.toNat).toInt := by rw [(hi32 w2.toInt.toNat (by omega)).1]; exact g.hi 406 w2.toInt.toNat
  exact hk _ _ ν [] (dw_si μ 432 (w2.toInt.toNat) (μ.2.2.1 406 w2.toInt.toNat)) (List.Mem.head _) (post_mk g rfl (up_hi g.hi hh) (up_fr (List.Mem.head _)) (by decide) (by decide) (fun _ _ => rfl) ⟨(show (0 : Int) ≤ ν 0 ∧ ν 0 ≤ 0 from ⟨by omega, by omega⟩), (show (0 : Int) ≤ ν 1 ∧ ν 1 ≤ 1426 from ⟨by omega, by omega⟩), trivial⟩ trivial trivial rfl trivial ⟨⟨by decide, (show fl_P 15 (ν 1 + 1) (dw_si μ 432 (w2.toInt.toNat) (μ.2.2.1 406 w2.toInt.toNat)).2.2.1 from fun j hj hx => by
      show dw_up μ.2.2.1 432 (w2.toInt.toNat) (μ.2.2.1 406 w2.toInt.toNat) 432 j = dw_up μ.2.2.1 432 (w2.toInt.toNat) (μ.2.2.1 406 w2.toInt.toNat) 406 j
      rw [up_ne (a' := 406) (Or.inl (by decide))]
      by_cases e : j = w2.toInt.toNat
      · rw [e, up_at]
      · rw [up_ne (Or.inr (by omega))]; exact p0 j hj (by omega))⟩, ⟨by decide, (show fl_P 3 (ν 0 + 0) (dw_si μ 432 (w2.toInt.toNat) (μ.2.2.1 406 w2.toInt.toNat)).2.2.1 from up_keep 0 1426 (by omega) (by omega) (by decide) p1)⟩, trivial⟩)
set_option maxHeartbeats 2000000 in
theorem sp_imZero1 {SH : dw_Sh} {TT : Nat → dw_T} {K : dw_K} (hE : (EE SH TT).ok) : dx_SOK (EE SH TT) (pr_X12_image K) 16 sg_imZero1 := by
  intro ν ls vs args rest μ bc bs hvs hargs hcat g hk
  obtain ⟨v0, v1, rfl, e0, e1⟩ := vs2 (f := fun i => ls[i]?) (a := 0) (b := 1) hvs
  obtain rfl := ar0 hargs
  obtain ⟨g0, g1, -⟩ := g.gl
  rw [show v0 = some (.ref 404) from gV_th g0] at e0
  obtain ⟨-, w1, h1, q1⟩ := g1
  rw [h1] at e1
  have z0 : ν 0 = 0 := g.z
  have cst0 : (0 : Int32).toInt = 0 := rfl
  refine q_ic rfl ?_
  exact hk _ _ ν [.int 0] (μ) (List.Mem.head _) (post_mk g rfl g.hi (fun _ _ => ⟨rfl, rfl⟩) (by decide) (by decide) (fun _ _ => rfl) ⟨(show (0 : Int) ≤ ν 0 ∧ ν 0 ≤ 0 from ⟨by omega, by omega⟩), trivial⟩ trivial ⟨⟨by decide, 0, rfl, by rw [z0]; rfl⟩, trivial⟩ rfl trivial ⟨⟨by decide, (show fl_P 16 (ν 0 + 0) (μ).2.2.1 from fun j _ hj => absurd hj (by omega))⟩, trivial⟩)
set_option maxHeartbeats 2000000 in
theorem sp_reEnd1 {SH : dw_Sh} {TT : Nat → dw_T} {K : dw_K} (hE : (EE SH TT).ok) : dx_SOK (EE SH TT) (pr_X12_restore K) 58 sg_reEnd1 := by
  intro ν ls vs args rest μ bc bs hvs hargs hcat g hk
  obtain ⟨v0, v1, rfl, e0, e1⟩ := vs2 (f := fun i => ls[i]?) (a := 0) (b := 1) hvs
  obtain rfl := ar0 hargs
  obtain ⟨g0, g1, -⟩ := g.gl
  rw [show v0 = some (.ref 404) from gV_th g0] at e0
  obtain ⟨-, w1, h1, q1⟩ := g1
  rw [h1] at e1
  have f0 : (μ.2.2.1 433 1).toInt = ν 0 + 1 := (g.fa _ (List.Mem.head _)).2
  have p0 : fl_P 16 (ν 0 + 1427) μ.2.2.1 := (g.fl _ (List.Mem.head _)).2
  have p1 : fl_P 3 (ν 0 + 0) μ.2.2.1 := (g.fl _ (List.Mem.tail _ (List.Mem.head _))).2
  have z0 : ν 0 = 0 := g.z
  have cst1 : (1 : Int32).toInt = 1 := rfl
  refine q_ic rfl ?_
  obtain ⟨kw, kp⟩ := p1 (by omega)
  have cp : ∀ j : Nat, j < 894 → μ.2.2.1 406 (0 + j) = μ.2.2.1 432 (1427 + j) := fun j hj => by rw [Nat.zero_add]; exact (p0 j hj (by omega)).symm
  exact hk _ _ ν [.int 1] (μ) (List.Mem.head _) (post_mk g rfl g.hi (fun _ _ => ⟨rfl, rfl⟩) (by decide) (by decide) (fun _ _ => rfl) ⟨(show (0 : Int) ≤ ν 0 ∧ ν 0 ≤ 0 from ⟨by omega, by omega⟩), trivial⟩ trivial ⟨⟨by decide, 1, rfl, by rw [z0]; rfl⟩, trivial⟩ rfl trivial ⟨⟨by decide, (show fl_P 0 (ν 0 + 0) (μ).2.2.1 from wk_copy cp kw)⟩, ⟨by decide, (show fl_P 6 (ν 0 + 0) (μ).2.2.1 from pl_copy cp kp)⟩, trivial⟩)
set_option maxHeartbeats 2000000 in
theorem sp_dnTest {SH : dw_Sh} {TT : Nat → dw_T} {K : dw_K} (hE : (EE SH TT).ok) : dx_SOK (EE SH TT) (pr_X12_does K) 4 sg_dnTest := by
  intro ν ls vs args rest μ bc bs hvs hargs hcat g hk
  obtain ⟨v0, v1, rfl, e0, e1⟩ := vs2 (f := fun i => ls[i]?) (a := 0) (b := 2) hvs
  obtain rfl := ar0 hargs
  obtain ⟨g0, g1, -⟩ := g.gl
  rw [show v0 = some (.ref 404) from gV_th g0] at e0
  obtain ⟨-, w1, h1, q1⟩ := g1
  rw [h1] at e1
  have f0 : (μ.2.2.1 404 38).toInt = ν 2 + 0 := (g.fa _ (List.Mem.head _)).2
  have b1 : (0 : Int) ≤ ν 1 ∧ ν 1 ≤ 144 := g.iv 1 (by decide)
  have b2 : (0 : Int) ≤ ν 2 ∧ ν 2 ≤ 144 := g.iv 2 (by decide)
  have z0 : ν 0 = 0 := g.z
  refine q_ald rfl e0 ?_
  have k404 : (μ.2.1 404).1 = 12 := by rw [g.sh]; exact (hE.sh 404).1
  have n404 : (μ.2.1 404).2.1 = 57 := by rw [g.sh]; exact (hE.sh 404).2.1
  refine q_geti rfl k404 ?_
  refine q_ild rfl e1 ?_
  refine q_add rfl ?_
  have t1 : ((μ.2.2.1 404 38) + w1).toInt = ((μ.2.2.1 404 38)).toInt + (w1).toInt := i_add (by first | omega | (simp; omega)) (by first | omega | (simp; omega))
  have cst144 : (144 : Int32).toInt = 144 := rfl
  refine q_ic rfl ?_
  have c144 : (144 : Int32).toInt = 144 := rfl
  refine q_icmp (c := 5) rfl (by decide) (fun hc => ?_) (fun hc => ?_)
  · have hc1 : ((μ.2.2.1 404 38) + w1).toInt ≤ (144 : Int32).toInt := hc
    exact hk _ _ ν [] (μ) (List.Mem.tail _ (List.Mem.head _)) (post_mk g rfl g.hi (fun _ _ => ⟨rfl, rfl⟩) (by decide) (by decide) (fun _ _ => rfl) ⟨(show (0 : Int) ≤ ν 0 ∧ ν 0 ≤ 0 from ⟨by omega, by omega⟩), (show (0 : Int) ≤ ν 1 ∧ ν 1 ≤ 144 from ⟨by omega, by omega⟩), (show (0 : Int) ≤ ν 2 ∧ ν 2 ≤ 144 from ⟨by omega, by omega⟩), trivial⟩ trivial trivial rfl trivial ⟨⟨by decide, (show fl_P 24 (ν 1 + 0) (μ).2.2.1 from by show (μ.2.2.1 404 38).toInt + (ν 1 + 0) ≤ 144; omega)⟩, trivial⟩)
  · exact hk _ _ ν [] (μ) (List.Mem.head _) (post_mk g rfl g.hi (fun _ _ => ⟨rfl, rfl⟩) (by decide) (by decide) (fun _ _ => rfl) ⟨(show (0 : Int) ≤ ν 0 ∧ ν 0 ≤ 0 from ⟨by omega, by omega⟩), (show (0 : Int) ≤ ν 1 ∧ ν 1 ≤ 144 from ⟨by omega, by omega⟩), (show (0 : Int) ≤ ν 2 ∧ ν 2 ≤ 144 from ⟨by omega, by omega⟩), trivial⟩ trivial trivial rfl trivial trivial)
set_option maxHeartbeats 2000000 in
theorem sp_st13_4 {SH : dw_Sh} {TT : Nat → dw_T} {K : dw_K} (hE : (EE SH TT).ok) : dx_SOK (EE SH TT) (pr_X9_says K) 13 sg_st13_4 := by
  intro ν ls vs args rest μ bc bs hvs hargs hcat g hk
  obtain rfl := vs0 (f := fun i => ls[i]?) hvs
  obtain ⟨x0, rfl⟩ := ar1 hargs
  obtain ⟨g0, -⟩ := g.gl
  obtain rfl : x0 = .ref 1000005 := Option.some.inj (gV_th g0)
  have z0 : ν 0 = 0 := g.z
  have hs : dw_isS 1000005 := isS 4 (by decide)
  have hc : dw_cats rest ≤ 8 := by omega
  refine q_callT1 rfl hs hc (t_length hs ?_)
  rw [show Int32.ofNat (dw_sb (dw_sx 1000005)).length = 5 from by decide +kernel]
  exact hk _ _ ν [.int 5] (μ) (List.Mem.head _) (post_mk g rfl g.hi (fun _ _ => ⟨rfl, rfl⟩) (by decide) (by decide) (fun _ _ => rfl) ⟨(show (0 : Int) ≤ ν 0 ∧ ν 0 ≤ 0 from ⟨by omega, by omega⟩), trivial⟩ trivial ⟨⟨by decide, 5, rfl, by rw [z0]; rfl⟩, trivial⟩ rfl trivial trivial)
set_option maxHeartbeats 2000000 in
theorem sp_st13_9 {SH : dw_Sh} {TT : Nat → dw_T} {K : dw_K} (hE : (EE SH TT).ok) : dx_SOK (EE SH TT) (pr_X9_says K) 13 sg_st13_9 := by
  intro ν ls vs args rest μ bc bs hvs hargs hcat g hk
  obtain rfl := vs0 (f := fun i => ls[i]?) hvs
  obtain ⟨x0, rfl⟩ := ar1 hargs
  obtain ⟨g0, -⟩ := g.gl
  obtain rfl : x0 = .ref 1000010 := Option.some.inj (gV_th g0)
  have z0 : ν 0 = 0 := g.z
  have hs : dw_isS 1000010 := isS 9 (by decide)
  have hc : dw_cats rest ≤ 8 := by omega
  refine q_callT1 rfl hs hc (t_length hs ?_)
  rw [show Int32.ofNat (dw_sb (dw_sx 1000010)).length = 3 from by decide +kernel]
  exact hk _ _ ν [.int 3] (μ) (List.Mem.head _) (post_mk g rfl g.hi (fun _ _ => ⟨rfl, rfl⟩) (by decide) (by decide) (fun _ _ => rfl) ⟨(show (0 : Int) ≤ ν 0 ∧ ν 0 ≤ 0 from ⟨by omega, by omega⟩), trivial⟩ trivial ⟨⟨by decide, 3, rfl, by rw [z0]; rfl⟩, trivial⟩ rfl trivial trivial)
set_option maxHeartbeats 2000000 in
theorem sp_st13_14 {SH : dw_Sh} {TT : Nat → dw_T} {K : dw_K} (hE : (EE SH TT).ok) : dx_SOK (EE SH TT) (pr_X9_says K) 13 sg_st13_14 := by
  intro ν ls vs args rest μ bc bs hvs hargs hcat g hk
  obtain rfl := vs0 (f := fun i => ls[i]?) hvs
  obtain ⟨x0, rfl⟩ := ar1 hargs
  obtain ⟨g0, -⟩ := g.gl
  obtain rfl : x0 = .ref 1000015 := Option.some.inj (gV_th g0)
  have z0 : ν 0 = 0 := g.z
  have hs : dw_isS 1000015 := isS 14 (by decide)
  have hc : dw_cats rest ≤ 8 := by omega
  refine q_callT1 rfl hs hc (t_length hs ?_)
  rw [show Int32.ofNat (dw_sb (dw_sx 1000015)).length = 5 from by decide +kernel]
  exact hk _ _ ν [.int 5] (μ) (List.Mem.head _) (post_mk g rfl g.hi (fun _ _ => ⟨rfl, rfl⟩) (by decide) (by decide) (fun _ _ => rfl) ⟨(show (0 : Int) ≤ ν 0 ∧ ν 0 ≤ 0 from ⟨by omega, by omega⟩), trivial⟩ trivial ⟨⟨by decide, 5, rfl, by rw [z0]; rfl⟩, trivial⟩ rfl trivial trivial)
set_option maxHeartbeats 2000000 in
theorem sp_st13_19 {SH : dw_Sh} {TT : Nat → dw_T} {K : dw_K} (hE : (EE SH TT).ok) : dx_SOK (EE SH TT) (pr_X9_says K) 13 sg_st13_19 := by
  intro ν ls vs args rest μ bc bs hvs hargs hcat g hk
  obtain rfl := vs0 (f := fun i => ls[i]?) hvs
  obtain ⟨x0, rfl⟩ := ar1 hargs
  obtain ⟨g0, -⟩ := g.gl
  obtain rfl : x0 = .ref 1000020 := Option.some.inj (gV_th g0)
  have z0 : ν 0 = 0 := g.z
  have hs : dw_isS 1000020 := isS 19 (by decide)
  have hc : dw_cats rest ≤ 8 := by omega
  refine q_callT1 rfl hs hc (t_length hs ?_)
  rw [show Int32.ofNat (dw_sb (dw_sx 1000020)).length = 4 from by decide +kernel]
  exact hk _ _ ν [.int 4] (μ) (List.Mem.head _) (post_mk g rfl g.hi (fun _ _ => ⟨rfl, rfl⟩) (by decide) (by decide) (fun _ _ => rfl) ⟨(show (0 : Int) ≤ ν 0 ∧ ν 0 ≤ 0 from ⟨by omega, by omega⟩), trivial⟩ trivial ⟨⟨by decide, 4, rfl, by rw [z0]; rfl⟩, trivial⟩ rfl trivial trivial)
set_option maxHeartbeats 2000000 in
theorem sp_st13_24 {SH : dw_Sh} {TT : Nat → dw_T} {K : dw_K} (hE : (EE SH TT).ok) : dx_SOK (EE SH TT) (pr_X9_says K) 13 sg_st13_24 := by
  intro ν ls vs args rest μ bc bs hvs hargs hcat g hk
  obtain rfl := vs0 (f := fun i => ls[i]?) hvs
  obtain ⟨x0, rfl⟩ := ar1 hargs
  obtain ⟨g0, -⟩ := g.gl
  obtain rfl : x0 = .ref 1000025 := Option.some.inj (gV_th g0)
  have z0 : ν 0 = 0 := g.z
  have hs : dw_isS 1000025 := isS 24 (by decide)
  have hc : dw_cats rest ≤ 8 := by omega
  refine q_callT1 rfl hs hc (t_length hs ?_)
  rw [show Int32.ofNat (dw_sb (dw_sx 1000025)).length = 5 from by decide +kernel]
  exact hk _ _ ν [.int 5] (μ) (List.Mem.head _) (post_mk g rfl g.hi (fun _ _ => ⟨rfl, rfl⟩) (by decide) (by decide) (fun _ _ => rfl) ⟨(show (0 : Int) ≤ ν 0 ∧ ν 0 ≤ 0 from ⟨by omega, by omega⟩), trivial⟩ trivial ⟨⟨by decide, 5, rfl, by rw [z0]; rfl⟩, trivial⟩ rfl trivial trivial)
set_option maxHeartbeats 2000000 in
theorem sp_st25_3 {SH : dw_Sh} {TT : Nat → dw_T} {K : dw_K} (hE : (EE SH TT).ok) : dx_SOK (EE SH TT) (pr_X9_says K) 25 sg_st25_3 := by
  intro ν ls vs args rest μ bc bs hvs hargs hcat g hk
  obtain rfl := vs0 (f := fun i => ls[i]?) hvs
  obtain ⟨x0, rfl⟩ := ar1 hargs
  obtain ⟨g0, -⟩ := g.gl
  obtain rfl : x0 = .ref 1000004 := Option.some.inj (gV_th g0)
  have z0 : ν 0 = 0 := g.z
  have hs : dw_isS 1000004 := isS 3 (by decide)
  have hc : dw_cats rest ≤ 8 := by omega
  refine q_callT1 rfl hs hc (t_length hs ?_)
  rw [show Int32.ofNat (dw_sb (dw_sx 1000004)).length = 3 from by decide +kernel]
  exact hk _ _ ν [.int 3] (μ) (List.Mem.head _) (post_mk g rfl g.hi (fun _ _ => ⟨rfl, rfl⟩) (by decide) (by decide) (fun _ _ => rfl) ⟨(show (0 : Int) ≤ ν 0 ∧ ν 0 ≤ 0 from ⟨by omega, by omega⟩), trivial⟩ trivial ⟨⟨by decide, 3, rfl, by rw [z0]; rfl⟩, trivial⟩ rfl trivial trivial)
set_option maxHeartbeats 2000000 in
theorem sp_st25_8 {SH : dw_Sh} {TT : Nat → dw_T} {K : dw_K} (hE : (EE SH TT).ok) : dx_SOK (EE SH TT) (pr_X9_says K) 25 sg_st25_8 := by
  intro ν ls vs args rest μ bc bs hvs hargs hcat g hk
  obtain rfl := vs0 (f := fun i => ls[i]?) hvs
  obtain ⟨x0, rfl⟩ := ar1 hargs
  obtain ⟨g0, -⟩ := g.gl
  obtain rfl : x0 = .ref 1000009 := Option.some.inj (gV_th g0)
  have z0 : ν 0 = 0 := g.z
  have hs : dw_isS 1000009 := isS 8 (by decide)
  have hc : dw_cats rest ≤ 8 := by omega
  refine q_callT1 rfl hs hc (t_length hs ?_)
  rw [show Int32.ofNat (dw_sb (dw_sx 1000009)).length = 3 from by decide +kernel]
  exact hk _ _ ν [.int 3] (μ) (List.Mem.head _) (post_mk g rfl g.hi (fun _ _ => ⟨rfl, rfl⟩) (by decide) (by decide) (fun _ _ => rfl) ⟨(show (0 : Int) ≤ ν 0 ∧ ν 0 ≤ 0 from ⟨by omega, by omega⟩), trivial⟩ trivial ⟨⟨by decide, 3, rfl, by rw [z0]; rfl⟩, trivial⟩ rfl trivial trivial)
set_option maxHeartbeats 2000000 in
theorem sp_st25_13 {SH : dw_Sh} {TT : Nat → dw_T} {K : dw_K} (hE : (EE SH TT).ok) : dx_SOK (EE SH TT) (pr_X9_says K) 25 sg_st25_13 := by
  intro ν ls vs args rest μ bc bs hvs hargs hcat g hk
  obtain rfl := vs0 (f := fun i => ls[i]?) hvs
  obtain ⟨x0, rfl⟩ := ar1 hargs
  obtain ⟨g0, -⟩ := g.gl
  obtain rfl : x0 = .ref 1000014 := Option.some.inj (gV_th g0)
  have z0 : ν 0 = 0 := g.z
  have hs : dw_isS 1000014 := isS 13 (by decide)
  have hc : dw_cats rest ≤ 8 := by omega
  refine q_callT1 rfl hs hc (t_length hs ?_)
  rw [show Int32.ofNat (dw_sb (dw_sx 1000014)).length = 4 from by decide +kernel]
  exact hk _ _ ν [.int 4] (μ) (List.Mem.head _) (post_mk g rfl g.hi (fun _ _ => ⟨rfl, rfl⟩) (by decide) (by decide) (fun _ _ => rfl) ⟨(show (0 : Int) ≤ ν 0 ∧ ν 0 ≤ 0 from ⟨by omega, by omega⟩), trivial⟩ trivial ⟨⟨by decide, 4, rfl, by rw [z0]; rfl⟩, trivial⟩ rfl trivial trivial)
set_option maxHeartbeats 2000000 in
theorem sp_st25_18 {SH : dw_Sh} {TT : Nat → dw_T} {K : dw_K} (hE : (EE SH TT).ok) : dx_SOK (EE SH TT) (pr_X9_says K) 25 sg_st25_18 := by
  intro ν ls vs args rest μ bc bs hvs hargs hcat g hk
  obtain rfl := vs0 (f := fun i => ls[i]?) hvs
  obtain ⟨x0, rfl⟩ := ar1 hargs
  obtain ⟨g0, -⟩ := g.gl
  obtain rfl : x0 = .ref 1000019 := Option.some.inj (gV_th g0)
  have z0 : ν 0 = 0 := g.z
  have hs : dw_isS 1000019 := isS 18 (by decide)
  have hc : dw_cats rest ≤ 8 := by omega
  refine q_callT1 rfl hs hc (t_length hs ?_)
  rw [show Int32.ofNat (dw_sb (dw_sx 1000019)).length = 5 from by decide +kernel]
  exact hk _ _ ν [.int 5] (μ) (List.Mem.head _) (post_mk g rfl g.hi (fun _ _ => ⟨rfl, rfl⟩) (by decide) (by decide) (fun _ _ => rfl) ⟨(show (0 : Int) ≤ ν 0 ∧ ν 0 ≤ 0 from ⟨by omega, by omega⟩), trivial⟩ trivial ⟨⟨by decide, 5, rfl, by rw [z0]; rfl⟩, trivial⟩ rfl trivial trivial)
set_option maxHeartbeats 2000000 in
theorem sp_st25_23 {SH : dw_Sh} {TT : Nat → dw_T} {K : dw_K} (hE : (EE SH TT).ok) : dx_SOK (EE SH TT) (pr_X9_says K) 25 sg_st25_23 := by
  intro ν ls vs args rest μ bc bs hvs hargs hcat g hk
  obtain rfl := vs0 (f := fun i => ls[i]?) hvs
  obtain ⟨x0, rfl⟩ := ar1 hargs
  obtain ⟨g0, -⟩ := g.gl
  obtain rfl : x0 = .ref 1000024 := Option.some.inj (gV_th g0)
  have z0 : ν 0 = 0 := g.z
  have hs : dw_isS 1000024 := isS 23 (by decide)
  have hc : dw_cats rest ≤ 8 := by omega
  refine q_callT1 rfl hs hc (t_length hs ?_)
  rw [show Int32.ofNat (dw_sb (dw_sx 1000024)).length = 4 from by decide +kernel]
  exact hk _ _ ν [.int 4] (μ) (List.Mem.head _) (post_mk g rfl g.hi (fun _ _ => ⟨rfl, rfl⟩) (by decide) (by decide) (fun _ _ => rfl) ⟨(show (0 : Int) ≤ ν 0 ∧ ν 0 ≤ 0 from ⟨by omega, by omega⟩), trivial⟩ trivial ⟨⟨by decide, 4, rfl, by rw [z0]; rfl⟩, trivial⟩ rfl trivial trivial)
set_option maxHeartbeats 2000000 in
theorem sp_st43_2 {SH : dw_Sh} {TT : Nat → dw_T} {K : dw_K} (hE : (EE SH TT).ok) : dx_SOK (EE SH TT) (pr_X9_says K) 43 sg_st43_2 := by
  intro ν ls vs args rest μ bc bs hvs hargs hcat g hk
  obtain rfl := vs0 (f := fun i => ls[i]?) hvs
  obtain ⟨x0, x1, rfl⟩ := ar2 hargs
  obtain ⟨g0, g1, -⟩ := g.gl
  obtain rfl : x0 = .ref 1000003 := Option.some.inj (gV_th g0)
  obtain ⟨-, w1, h1, q1⟩ := g1
  obtain rfl : x1 = .int w1 := Option.some.inj h1
  have b1 : (0 : Int) ≤ ν 1 ∧ ν 1 ≤ 4 := g.iv 1 (by decide)
  have z0 : ν 0 = 0 := g.z
  have hs : dw_isS 1000003 := isS 2 (by decide)
  have hc : dw_cats rest ≤ 8 := by omega
  have hn : (dw_sb (dw_sx 1000003)).length = 5 := by decide +kernel
  refine q_callT2 rfl hs hc (t_charAt hs (by omega) (by rw [hn]; omega) (by decide +kernel) (fun w l1 l2 => ?_))
  obtain ⟨ν', hag, hn0⟩ := nu1 ν 2 (w.toInt)
  have a0 : ν' 0 = ν 0 := hag 0 (by decide)
  have a1 : ν' 1 = ν 1 := hag 1 (by decide)
  exact hk _ _ ν' [.int w] (μ) (List.Mem.head _) (post_mk g rfl g.hi (fun _ _ => ⟨rfl, rfl⟩) (by decide) (by decide) hag ⟨(show (0 : Int) ≤ ν' 0 ∧ ν' 0 ≤ 0 from ⟨by omega, by omega⟩), (show (0 : Int) ≤ ν' 1 ∧ ν' 1 ≤ 4 from ⟨by omega, by omega⟩), (show (0 : Int) ≤ ν' 2 ∧ ν' 2 ≤ 65535 from ⟨by omega, by omega⟩), trivial⟩ trivial ⟨⟨by decide, w, rfl, by show _ = ν' 2 + 0; omega⟩, trivial⟩ rfl trivial trivial)
set_option maxHeartbeats 2000000 in
theorem sp_st43_7 {SH : dw_Sh} {TT : Nat → dw_T} {K : dw_K} (hE : (EE SH TT).ok) : dx_SOK (EE SH TT) (pr_X9_says K) 43 sg_st43_7 := by
  intro ν ls vs args rest μ bc bs hvs hargs hcat g hk
  obtain rfl := vs0 (f := fun i => ls[i]?) hvs
  obtain ⟨x0, x1, rfl⟩ := ar2 hargs
  obtain ⟨g0, g1, -⟩ := g.gl
  obtain rfl : x0 = .ref 1000008 := Option.some.inj (gV_th g0)
  obtain ⟨-, w1, h1, q1⟩ := g1
  obtain rfl : x1 = .int w1 := Option.some.inj h1
  have b1 : (0 : Int) ≤ ν 1 ∧ ν 1 ≤ 3 := g.iv 1 (by decide)
  have z0 : ν 0 = 0 := g.z
  have hs : dw_isS 1000008 := isS 7 (by decide)
  have hc : dw_cats rest ≤ 8 := by omega
  have hn : (dw_sb (dw_sx 1000008)).length = 4 := by decide +kernel
  refine q_callT2 rfl hs hc (t_charAt hs (by omega) (by rw [hn]; omega) (by decide +kernel) (fun w l1 l2 => ?_))
  obtain ⟨ν', hag, hn0⟩ := nu1 ν 2 (w.toInt)
  have a0 : ν' 0 = ν 0 := hag 0 (by decide)
  have a1 : ν' 1 = ν 1 := hag 1 (by decide)
  exact hk _ _ ν' [.int w] (μ) (List.Mem.head _) (post_mk g rfl g.hi (fun _ _ => ⟨rfl, rfl⟩) (by decide) (by decide) hag ⟨(show (0 : Int) ≤ ν' 0 ∧ ν' 0 ≤ 0 from ⟨by omega, by omega⟩), (show (0 : Int) ≤ ν' 1 ∧ ν' 1 ≤ 3 from ⟨by omega, by omega⟩), (show (0 : Int) ≤ ν' 2 ∧ ν' 2 ≤ 65535 from ⟨by omega, by omega⟩), trivial⟩ trivial ⟨⟨by decide, w, rfl, by show _ = ν' 2 + 0; omega⟩, trivial⟩ rfl trivial trivial)
set_option maxHeartbeats 2000000 in
theorem sp_st43_12 {SH : dw_Sh} {TT : Nat → dw_T} {K : dw_K} (hE : (EE SH TT).ok) : dx_SOK (EE SH TT) (pr_X9_says K) 43 sg_st43_12 := by
  intro ν ls vs args rest μ bc bs hvs hargs hcat g hk
  obtain rfl := vs0 (f := fun i => ls[i]?) hvs
  obtain ⟨x0, x1, rfl⟩ := ar2 hargs
  obtain ⟨g0, g1, -⟩ := g.gl
  obtain rfl : x0 = .ref 1000013 := Option.some.inj (gV_th g0)
  obtain ⟨-, w1, h1, q1⟩ := g1
  obtain rfl : x1 = .int w1 := Option.some.inj h1
  have b1 : (0 : Int) ≤ ν 1 ∧ ν 1 ≤ 4 := g.iv 1 (by decide)
  have z0 : ν 0 = 0 := g.z
  have hs : dw_isS 1000013 := isS 12 (by decide)
  have hc : dw_cats rest ≤ 8 := by omega
  have hn : (dw_sb (dw_sx 1000013)).length = 5 := by decide +kernel
  refine q_callT2 rfl hs hc (t_charAt hs (by omega) (by rw [hn]; omega) (by decide +kernel) (fun w l1 l2 => ?_))
  obtain ⟨ν', hag, hn0⟩ := nu1 ν 2 (w.toInt)
  have a0 : ν' 0 = ν 0 := hag 0 (by decide)
  have a1 : ν' 1 = ν 1 := hag 1 (by decide)
  exact hk _ _ ν' [.int w] (μ) (List.Mem.head _) (post_mk g rfl g.hi (fun _ _ => ⟨rfl, rfl⟩) (by decide) (by decide) hag ⟨(show (0 : Int) ≤ ν' 0 ∧ ν' 0 ≤ 0 from ⟨by omega, by omega⟩), (show (0 : Int) ≤ ν' 1 ∧ ν' 1 ≤ 4 from ⟨by omega, by omega⟩), (show (0 : Int) ≤ ν' 2 ∧ ν' 2 ≤ 65535 from ⟨by omega, by omega⟩), trivial⟩ trivial ⟨⟨by decide, w, rfl, by show _ = ν' 2 + 0; omega⟩, trivial⟩ rfl trivial trivial)
set_option maxHeartbeats 2000000 in
theorem sp_st43_17 {SH : dw_Sh} {TT : Nat → dw_T} {K : dw_K} (hE : (EE SH TT).ok) : dx_SOK (EE SH TT) (pr_X9_says K) 43 sg_st43_17 := by
  intro ν ls vs args rest μ bc bs hvs hargs hcat g hk
  obtain rfl := vs0 (f := fun i => ls[i]?) hvs
  obtain ⟨x0, x1, rfl⟩ := ar2 hargs
  obtain ⟨g0, g1, -⟩ := g.gl
  obtain rfl : x0 = .ref 1000018 := Option.some.inj (gV_th g0)
  obtain ⟨-, w1, h1, q1⟩ := g1
  obtain rfl : x1 = .int w1 := Option.some.inj h1
  have b1 : (0 : Int) ≤ ν 1 ∧ ν 1 ≤ 4 := g.iv 1 (by decide)
  have z0 : ν 0 = 0 := g.z
  have hs : dw_isS 1000018 := isS 17 (by decide)
  have hc : dw_cats rest ≤ 8 := by omega
  have hn : (dw_sb (dw_sx 1000018)).length = 5 := by decide +kernel
  refine q_callT2 rfl hs hc (t_charAt hs (by omega) (by rw [hn]; omega) (by decide +kernel) (fun w l1 l2 => ?_))
  obtain ⟨ν', hag, hn0⟩ := nu1 ν 2 (w.toInt)
  have a0 : ν' 0 = ν 0 := hag 0 (by decide)
  have a1 : ν' 1 = ν 1 := hag 1 (by decide)
  exact hk _ _ ν' [.int w] (μ) (List.Mem.head _) (post_mk g rfl g.hi (fun _ _ => ⟨rfl, rfl⟩) (by decide) (by decide) hag ⟨(show (0 : Int) ≤ ν' 0 ∧ ν' 0 ≤ 0 from ⟨by omega, by omega⟩), (show (0 : Int) ≤ ν' 1 ∧ ν' 1 ≤ 4 from ⟨by omega, by omega⟩), (show (0 : Int) ≤ ν' 2 ∧ ν' 2 ≤ 65535 from ⟨by omega, by omega⟩), trivial⟩ trivial ⟨⟨by decide, w, rfl, by show _ = ν' 2 + 0; omega⟩, trivial⟩ rfl trivial trivial)
set_option maxHeartbeats 2000000 in
theorem sp_st43_22 {SH : dw_Sh} {TT : Nat → dw_T} {K : dw_K} (hE : (EE SH TT).ok) : dx_SOK (EE SH TT) (pr_X9_says K) 43 sg_st43_22 := by
  intro ν ls vs args rest μ bc bs hvs hargs hcat g hk
  obtain rfl := vs0 (f := fun i => ls[i]?) hvs
  obtain ⟨x0, x1, rfl⟩ := ar2 hargs
  obtain ⟨g0, g1, -⟩ := g.gl
  obtain rfl : x0 = .ref 1000023 := Option.some.inj (gV_th g0)
  obtain ⟨-, w1, h1, q1⟩ := g1
  obtain rfl : x1 = .int w1 := Option.some.inj h1
  have b1 : (0 : Int) ≤ ν 1 ∧ ν 1 ≤ 1 := g.iv 1 (by decide)
  have z0 : ν 0 = 0 := g.z
  have hs : dw_isS 1000023 := isS 22 (by decide)
  have hc : dw_cats rest ≤ 8 := by omega
  have hn : (dw_sb (dw_sx 1000023)).length = 2 := by decide +kernel
  refine q_callT2 rfl hs hc (t_charAt hs (by omega) (by rw [hn]; omega) (by decide +kernel) (fun w l1 l2 => ?_))
  obtain ⟨ν', hag, hn0⟩ := nu1 ν 2 (w.toInt)
  have a0 : ν' 0 = ν 0 := hag 0 (by decide)
  have a1 : ν' 1 = ν 1 := hag 1 (by decide)
  exact hk _ _ ν' [.int w] (μ) (List.Mem.head _) (post_mk g rfl g.hi (fun _ _ => ⟨rfl, rfl⟩) (by decide) (by decide) hag ⟨(show (0 : Int) ≤ ν' 0 ∧ ν' 0 ≤ 0 from ⟨by omega, by omega⟩), (show (0 : Int) ≤ ν' 1 ∧ ν' 1 ≤ 1 from ⟨by omega, by omega⟩), (show (0 : Int) ≤ ν' 2 ∧ ν' 2 ≤ 65535 from ⟨by omega, by omega⟩), trivial⟩ trivial ⟨⟨by decide, w, rfl, by show _ = ν' 2 + 0; omega⟩, trivial⟩ rfl trivial trivial)
end
