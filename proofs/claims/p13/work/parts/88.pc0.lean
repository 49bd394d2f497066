set_option maxHeartbeats 2000000 in
theorem sp_startKind {SH : dw_Sh} {TT : Nat → dw_T} {K : dw_K} (hE : (EE SH TT).ok) : dx_SOK (EE SH TT) (pr_X12_start K) 77 sg_startKind := by
  intro ν ls vs args rest μ bc bs hvs hargs hcat g hk
  obtain ⟨v0, v1, rfl, e0, e1⟩ := vs2 (f := fun i => ls[i]?) (a := 0) (b := 3) hvs
  obtain rfl := ar0 hargs
  obtain ⟨g0, g1, -⟩ := g.gl
  rw [show v0 = some (.ref 404) from gV_th g0] at e0
  obtain ⟨-, w1, h1, q1⟩ := g1
  rw [h1] at e1
  have f0 : (μ.2.2.1 406 0).toInt = ν 2 + 0 := (g.fa _ (List.Mem.head _)).2
  have p0 : fl_P 0 (ν 0 + 0) μ.2.2.1 := (g.fl _ (List.Mem.head _)).2
  have p1 : fl_P 5 (ν 3 + 0) μ.2.2.1 := (g.fl _ (List.Mem.tail _ (List.Mem.head _))).2
  have p2 : fl_P 4 (ν 1 + 0) μ.2.2.1 := (g.fl _ (List.Mem.tail _ (List.Mem.tail _ (List.Mem.head _)))).2
  have b1 : (0 : Int) ≤ ν 1 ∧ ν 1 ≤ 143 := g.iv 1 (by decide)
  have b2 : (1 : Int) ≤ ν 2 ∧ ν 2 ≤ 12 := g.iv 2 (by decide)
  have b3 : (0 : Int) ≤ ν 3 ∧ ν 3 ≤ 144 := g.iv 3 (by decide)
  have d0 : ν 1 - ν 3 ≤ (-1) := (g.dc _ (List.Mem.head _)).2.2
  have z0 : ν 0 = 0 := g.z
  refine q_ald rfl e0 ?_
  have k404 : (μ.2.1 404).1 = 12 := by rw [g.sh]; exact (hE.sh 404).1
  have n404 : (μ.2.1 404).2.1 = 57 := by rw [g.sh]; exact (hE.sh 404).2.1
  have r404_31 : (μ.2.1 404).2.2 31 = some 419 := by rw [g.sh]; exact (hE.sh 404).2.2 31
  refine q_getr rfl k404 r404_31 ?_
  refine q_ild rfl e1 ?_
  refine q_ald rfl e0 ?_
  have r404_6 : (μ.2.1 404).2.2 6 = some 406 := by rw [g.sh]; exact (hE.sh 404).2.2 6
  refine q_getr rfl k404 r404_6 ?_
  have cst29 : (29 : Int32).toInt = 29 := rfl
  refine q_ic rfl ?_
  refine q_ild rfl e1 ?_
  refine q_add rfl ?_
  have t1 : ((29 : Int32) + w1).toInt = ((29 : Int32)).toInt + (w1).toInt := i_add (by first | omega | (simp; omega)) (by first | omega | (simp; omega))
  have k406 : (μ.2.1 406).1 = 16 := by rw [g.sh]; exact (hE.sh 406).1
  have n406 : (μ.2.1 406).2.1 = 1427 := by rw [g.sh]; exact (hE.sh 406).2.1
  refine q_xald rfl (Or.inl rfl) k406 n406 (by omega) (by omega) ?_
  have k419 : (μ.2.1 419).1 = 16 := by rw [g.sh]; exact (hE.sh 419).1
  have n419 : (μ.2.1 419).2.1 = 144 := by rw [g.sh]; exact (hE.sh 419).2.1
  refine q_iast rfl k419 n419 (by omega) (by omega) ?_
  have w29 : ((29 : Int32) + w1).toInt.toNat = 29 + w1.toInt.toNat := by have e : (29 : Int32).toInt = 29 := rfl; omega
  have hv := g.hi 406 (29 + w1.toInt.toNat)
  rw [show dx_seg ((EE SH TT).ce 406).iv (29 + w1.toInt.toNat) = (0, 7) from hi406 _ (by omega)] at hv
  have hv1 : (0 : Int) ≤ (μ.2.2.1 406 (29 + w1.toInt.toNat)).toInt := hv.1
  have hv2 : (μ.2.2.1 406 (29 + w1.toInt.toNat)).toInt ≤ 7 := hv.2
  rw [w29]
  obtain ⟨u1, u2, u3⟩ := p0
  simp only [Nat.zero_add] at u1 u2 u3
  exact hk _ _ ν [] (dw_si μ 419 w1.toInt.toNat (μ.2.2.1 406 (29 + w1.toInt.toNat))) (List.Mem.head _) (post_mk g rfl (up_hi g.hi (by rw [show dx_seg ((EE SH TT).ce 419).iv w1.toInt.toNat = (0, 7) from hi419 _ (by omega)]; exact hv)) (up_fr (List.Mem.head _)) (by decide) (by decide) (fun _ _ => rfl) ⟨(show (0 : Int) ≤ ν 0 ∧ ν 0 ≤ 0 from ⟨by omega, by omega⟩), (show (0 : Int) ≤ ν 1 ∧ ν 1 ≤ 143 from ⟨by omega, by omega⟩), (show (1 : Int) ≤ ν 2 ∧ ν 2 ≤ 12 from ⟨by omega, by omega⟩), (show (0 : Int) ≤ ν 3 ∧ ν 3 ≤ 144 from ⟨by omega, by omega⟩), trivial⟩ trivial trivial rfl ⟨⟨by decide, (show ((dw_si μ 419 w1.toInt.toNat (μ.2.2.1 406 (29 + w1.toInt.toNat))).2.2.1 406 0).toInt = ν 2 + 0 from up_eq (Or.inl (by decide)) f0)⟩, trivial⟩ ⟨⟨by decide, (show fl_P 4 (ν 1 + 1) (dw_si μ 419 w1.toInt.toNat (μ.2.2.1 406 (29 + w1.toInt.toNat))).2.2.1 from fun c hc hx h1 h2 => by
      show 1 ≤ (dw_up μ.2.2.1 419 w1.toInt.toNat (μ.2.2.1 406 (29 + w1.toInt.toNat)) 406 (5 + (dw_up μ.2.2.1 419 w1.toInt.toNat (μ.2.2.1 406 (29 + w1.toInt.toNat)) 419 c).toInt.toNat)).toInt
      rw [up_ne (Or.inl (by decide))]
      by_cases e : c = w1.toInt.toNat
      · rw [e, up_at]
        have hn : (ν 3 + 0 : Int) = (μ.2.2.1 406 0).toInt * (μ.2.2.1 406 1).toInt := p1
        have hr : (μ.2.2.1 406 1).toInt ≠ 0 := by
          intro e0
          rw [e0, Int.mul_zero] at hn
          omega
        have hk1 := u3 hr
        have hcc := u2 w1.toInt.toNat (by omega)
        exact u1 (μ.2.2.1 406 (29 + w1.toInt.toNat)).toInt.toNat (by omega) (by omega)
      · have h1' : 0 ≤ (dw_up μ.2.2.1 419 w1.toInt.toNat (μ.2.2.1 406 (29 + w1.toInt.toNat)) 419 c).toInt := h1
        have h2' : (dw_up μ.2.2.1 419 w1.toInt.toNat (μ.2.2.1 406 (29 + w1.toInt.toNat)) 419 c).toInt < 8 := h2
        rw [up_ne (Or.inr e)] at h1' h2' ⊢
        exact p2 c hc (by omega) h1' h2')⟩, trivial⟩)
set_option maxHeartbeats 2000000 in
theorem sp_loadsKind1 {SH : dw_Sh} {TT : Nat → dw_T} {K : dw_K} (hE : (EE SH TT).ok) : dx_SOK (EE SH TT) (pr_X12_loads K) 53 sg_loadsKind1 := by
  intro ν ls vs args rest μ bc bs hvs hargs hcat g hk
  obtain ⟨v0, rfl, e0⟩ := vs1 (f := fun i => ls[i]?) (a := 0) hvs
  obtain rfl := ar0 hargs
  obtain ⟨g0, -⟩ := g.gl
  rw [show v0 = some (.ref 404) from gV_th g0] at e0
  have f0 : (μ.2.2.1 406 0).toInt = ν 1 + 0 := (g.fa _ (List.Mem.head _)).2
  have f1 : (μ.2.2.1 406 1).toInt = ν 2 + 0 := (g.fa _ (List.Mem.tail _ (List.Mem.head _))).2
  have b1 : (1 : Int) ≤ ν 1 ∧ ν 1 ≤ 12 := g.iv 1 (by decide)
  have b2 : (0 : Int) ≤ ν 2 ∧ ν 2 ≤ 12 := g.iv 2 (by decide)
  have z0 : ν 0 = 0 := g.z
  have cst0 : (0 : Int32).toInt = 0 := rfl
  refine q_ic rfl ?_
  have m1 := Int.mul_nonneg (a := (μ.2.2.1 406 0).toInt) (b := (μ.2.2.1 406 1).toInt) (by omega) (by omega)
  have m2 := Int.mul_le_mul (a := (μ.2.2.1 406 0).toInt) (b := (μ.2.2.1 406 1).toInt) (c := 12) (d := 12) (by omega) (by omega) (by omega) (by omega)
  obtain ⟨ν', hag, hn0⟩ := nu1 ν 3 ((μ.2.2.1 406 0).toInt * (μ.2.2.1 406 1).toInt)
  have a0 : ν' 0 = ν 0 := hag 0 (by decide)
  have a1 : ν' 1 = ν 1 := hag 1 (by decide)
  have a2 : ν' 2 = ν 2 := hag 2 (by decide)
  exact hk _ _ ν' [.int 0] (μ) (List.Mem.head _) (post_mk g rfl g.hi (fun _ _ => ⟨rfl, rfl⟩) (by decide) (by decide) hag ⟨(show (0 : Int) ≤ ν' 0 ∧ ν' 0 ≤ 0 from ⟨by omega, by omega⟩), (show (1 : Int) ≤ ν' 1 ∧ ν' 1 ≤ 12 from ⟨by omega, by omega⟩), (show (0 : Int) ≤ ν' 2 ∧ ν' 2 ≤ 12 from ⟨by omega, by omega⟩), (show (0 : Int) ≤ ν' 3 ∧ ν' 3 ≤ 144 from ⟨by omega, by omega⟩), trivial⟩ trivial ⟨⟨by decide, 0, rfl, by rw [a0, z0]; rfl⟩, trivial⟩ rfl trivial ⟨⟨by decide, (show fl_P 5 (ν' 3 + 0) (μ).2.2.1 from by show ν' 3 + 0 = (μ.2.2.1 406 0).toInt * (μ.2.2.1 406 1).toInt; omega)⟩, ⟨by decide, (show fl_P 4 (ν' 0 + 0) (μ).2.2.1 from fun c _ hc => absurd hc (by omega))⟩, trivial⟩)
set_option maxHeartbeats 2000000 in
theorem sp_gZero {SH : dw_Sh} {TT : Nat → dw_T} {K : dw_K} (hE : (EE SH TT).ok) : dx_SOK (EE SH TT) (pr_X12_ground K) 36 sg_gZero := by
  intro ν ls vs args rest μ bc bs hvs hargs hcat g hk
  obtain ⟨v0, v1, rfl, e0, e1⟩ := vs2 (f := fun i => ls[i]?) (a := 0) (b := 1) hvs
  obtain rfl := ar0 hargs
  obtain ⟨g0, g1, -⟩ := g.gl
  rw [show v0 = some (.ref 404) from gV_th g0] at e0
  obtain ⟨-, w1, h1, q1⟩ := g1
  rw [h1] at e1
  have p0 : fl_P 22 (ν 1 + 0) μ.2.2.1 := (g.fl _ (List.Mem.head _)).2
  have b1 : (0 : Int) ≤ ν 1 ∧ ν 1 ≤ 220 := g.iv 1 (by decide)
  have z0 : ν 0 = 0 := g.z
  refine q_ald rfl e0 ?_
  have k404 : (μ.2.1 404).1 = 12 := by rw [g.sh]; exact (hE.sh 404).1
  have n404 : (μ.2.1 404).2.1 = 57 := by rw [g.sh]; exact (hE.sh 404).2.1
  have r404_7 : (μ.2.1 404).2.2 7 = some 407 := by rw [g.sh]; exact (hE.sh 404).2.2 7
  refine q_getr rfl k404 r404_7 ?_
  refine q_ild rfl e1 ?_
  have cst0 : (0 : Int32).toInt = 0 := rfl
  refine q_ic rfl ?_
  have k407 : (μ.2.1 407).1 = 16 := by rw [g.sh]; exact (hE.sh 407).1
  have n407 : (μ.2.1 407).2.1 = 221 := by rw [g.sh]; exact (hE.sh 407).2.1
  refine q_iast rfl k407 n407 (by omega) (by omega) ?_
  exact hk _ _ ν [] (dw_si μ 407 w1.toInt.toNat 0) (List.Mem.head _) (post_mk g rfl (up_hi g.hi (hi407 w1.toInt.toNat (by omega))) (up_fr (List.Mem.head _)) (by decide) (by decide) (fun _ _ => rfl) ⟨(show (0 : Int) ≤ ν 0 ∧ ν 0 ≤ 0 from ⟨by omega, by omega⟩), (show (0 : Int) ≤ ν 1 ∧ ν 1 ≤ 220 from ⟨by omega, by omega⟩), trivial⟩ trivial trivial rfl trivial ⟨⟨by decide, (show fl_P 22 (ν 1 + 1) (dw_si μ 407 w1.toInt.toNat 0).2.2.1 from fun j hj hx => by
      show dw_up μ.2.2.1 407 w1.toInt.toNat 0 407 j = 0
      by_cases e : j = w1.toInt.toNat
      · rw [e, up_at]
      · rw [up_ne (Or.inr e)]; exact p0 j hj (by omega))⟩, trivial⟩)
set_option maxHeartbeats 2000000 in
theorem sp_rkHold {SH : dw_Sh} {TT : Nat → dw_T} {K : dw_K} (hE : (EE SH TT).ok) : dx_SOK (EE SH TT) (pr_X12_readKind K) 146 sg_rkHold := by
  intro ν ls vs args rest μ bc bs hvs hargs hcat g hk
  obtain ⟨v0, v1, rfl, e0, e1⟩ := vs2 (f := fun i => ls[i]?) (a := 0) (b := 1) hvs
  obtain rfl := ar0 hargs
  obtain ⟨g0, g1, -⟩ := g.gl
  rw [show v0 = some (.ref 404) from gV_th g0] at e0
  obtain ⟨-, w1, h1, q1⟩ := g1
  rw [h1] at e1
  have f0 : (μ.2.2.1 407 2).toInt = ν 1 + 0 := (g.fa _ (List.Mem.head _)).2
  have f1 : (μ.2.2.1 404 19).toInt = ν 2 + 0 := (g.fa _ (List.Mem.tail _ (List.Mem.head _))).2
  have f2 : (μ.2.2.1 407 0).toInt = ν 3 + 0 := (g.fa _ (List.Mem.tail _ (List.Mem.tail _ (List.Mem.head _)))).2
  have f3 : (μ.2.2.1 407 1).toInt = ν 4 + 0 := (g.fa _ (List.Mem.tail _ (List.Mem.tail _ (List.Mem.tail _ (List.Mem.head _))))).2
  have f4 : (μ.2.2.1 407 3).toInt = ν 5 + 0 := (g.fa _ (List.Mem.tail _ (List.Mem.tail _ (List.Mem.tail _ (List.Mem.tail _ (List.Mem.head _)))))).2
  have p0 : fl_P 1 (ν 0 + 0) μ.2.2.1 := (g.fl _ (List.Mem.head _)).2
  have b1 : (0 : Int) ≤ ν 1 ∧ ν 1 ≤ 7 := g.iv 1 (by decide)
  have b2 : (1 : Int) ≤ ν 2 ∧ ν 2 ≤ 50 := g.iv 2 (by decide)
  have b3 : (-2147483648 : Int) ≤ ν 3 ∧ ν 3 ≤ 2147483647 := g.iv 3 (by decide)
  have b4 : (0 : Int) ≤ ν 4 ∧ ν 4 ≤ 12 := g.iv 4 (by decide)
  have b5 : (-2147483648 : Int) ≤ ν 5 ∧ ν 5 ≤ 2147483647 := g.iv 5 (by decide)
  have z0 : ν 0 = 0 := g.z
  refine q_ald rfl e0 ?_
  have k404 : (μ.2.1 404).1 = 12 := by rw [g.sh]; exact (hE.sh 404).1
  have n404 : (μ.2.1 404).2.1 = 57 := by rw [g.sh]; exact (hE.sh 404).2.1
  have r404_7 : (μ.2.1 404).2.2 7 = some 407 := by rw [g.sh]; exact (hE.sh 404).2.2 7
  refine q_getr rfl k404 r404_7 ?_
  have cst5 : (5 : Int32).toInt = 5 := rfl
  refine q_ic rfl ?_
  refine q_ild rfl e1 ?_
  refine q_add rfl ?_
  have t1 : ((5 : Int32) + w1).toInt = ((5 : Int32)).toInt + (w1).toInt := i_add (by first | omega | (simp; omega)) (by first | omega | (simp; omega))
  refine q_ald rfl e0 ?_
  refine q_geti rfl k404 ?_
  have k407 : (μ.2.1 407).1 = 16 := by rw [g.sh]; exact (hE.sh 407).1
  have n407 : (μ.2.1 407).2.1 = 221 := by rw [g.sh]; exact (hE.sh 407).2.1
  refine q_iast rfl k407 n407 (by omega) (by omega) ?_
  have en : ((5 : Int32) + w1).toInt.toNat = 5 + w1.toInt.toNat := by omega
  rw [en]
  obtain ⟨u1, u2, u3⟩ := p0
  simp only [Nat.zero_add] at u1 u2 u3
  exact hk _ _ ν [] (dw_si μ 407 (5 + w1.toInt.toNat) (μ.2.2.1 404 19)) (List.Mem.head _) (post_mk g rfl (up_hi g.hi (by rw [show dx_seg ((EE SH TT).ce 407).iv (5 + w1.toInt.toNat) = (0, 50) from hi407h _ (by omega)]; exact (⟨by show (0 : Int) ≤ _; omega, by show _ ≤ (50 : Int); omega⟩ : dx_in (0, 50) (μ.2.2.1 404 19).toInt))) (up_fr (List.Mem.head _)) (by decide) (by decide) (fun _ _ => rfl) ⟨(show (0 : Int) ≤ ν 0 ∧ ν 0 ≤ 0 from ⟨by omega, by omega⟩), (show (0 : Int) ≤ ν 1 ∧ ν 1 ≤ 7 from ⟨by omega, by omega⟩), (show (1 : Int) ≤ ν 2 ∧ ν 2 ≤ 50 from ⟨by omega, by omega⟩), (show (-2147483648 : Int) ≤ ν 3 ∧ ν 3 ≤ 2147483647 from ⟨by omega, by omega⟩), (show (0 : Int) ≤ ν 4 ∧ ν 4 ≤ 12 from ⟨by omega, by omega⟩), (show (-2147483648 : Int) ≤ ν 5 ∧ ν 5 ≤ 2147483647 from ⟨by omega, by omega⟩), trivial⟩ trivial trivial rfl ⟨⟨by decide, (show ((dw_si μ 407 (5 + w1.toInt.toNat) (μ.2.2.1 404 19)).2.2.1 407 2).toInt = ν 1 + 0 from up_eq (Or.inr (by omega)) f0)⟩, ⟨by decide, (show ((dw_si μ 407 (5 + w1.toInt.toNat) (μ.2.2.1 404 19)).2.2.1 407 0).toInt = ν 3 + 0 from up_eq (Or.inr (by omega)) f2)⟩, ⟨by decide, (show ((dw_si μ 407 (5 + w1.toInt.toNat) (μ.2.2.1 404 19)).2.2.1 407 1).toInt = ν 4 + 0 from up_eq (Or.inr (by omega)) f3)⟩, ⟨by decide, (show ((dw_si μ 407 (5 + w1.toInt.toNat) (μ.2.2.1 404 19)).2.2.1 407 3).toInt = ν 5 + 0 from up_eq (Or.inr (by omega)) f4)⟩, trivial⟩ ⟨⟨by decide, (show fl_P 1 (ν 0 + 0) (dw_si μ 407 (5 + w1.toInt.toNat) (μ.2.2.1 404 19)).2.2.1 from ⟨fun k hk hx => by
        rw [Nat.zero_add] at hx ⊢
        have hx' : (k : Int) < (dw_up μ.2.2.1 407 (5 + w1.toInt.toNat) (μ.2.2.1 404 19) 407 2).toInt := hx
        rw [up_ne (a := 407) (a' := 407) (j := 5 + w1.toInt.toNat) (j' := 2) (Or.inr (by omega))] at hx'
        show 1 ≤ (dw_up μ.2.2.1 407 (5 + w1.toInt.toNat) (μ.2.2.1 404 19) 407 (5 + k)).toInt
        rw [up_ne (Or.inr (by omega))]
        exact u1 k hk hx', fun c hc => by
        rw [Nat.zero_add, Nat.zero_add]
        show (dw_up μ.2.2.1 407 (5 + w1.toInt.toNat) (μ.2.2.1 404 19) 407 (29 + c)).toInt = 0 ∨ (dw_up μ.2.2.1 407 (5 + w1.toInt.toNat) (μ.2.2.1 404 19) 407 (29 + c)).toInt < (dw_up μ.2.2.1 407 (5 + w1.toInt.toNat) (μ.2.2.1 404 19) 407 2).toInt
        rw [up_ne (j' := 29 + c) (Or.inr (by omega)), up_ne (a := 407) (a' := 407) (j := 5 + w1.toInt.toNat) (j' := 2) (Or.inr (by omega))]
        exact u2 c hc, fun hr => by
        rw [Nat.zero_add] at hr ⊢
        have hr' : (dw_up μ.2.2.1 407 (5 + w1.toInt.toNat) (μ.2.2.1 404 19) 407 1).toInt ≠ 0 := hr
        rw [up_ne (a := 407) (a' := 407) (j := 5 + w1.toInt.toNat) (j' := 1) (Or.inr (by omega))] at hr'
        show 1 ≤ (dw_up μ.2.2.1 407 (5 + w1.toInt.toNat) (μ.2.2.1 404 19) 407 2).toInt
        rw [up_ne (a := 407) (a' := 407) (j := 5 + w1.toInt.toNat) (j' := 2) (Or.inr (by omega))]
        exact u3 hr'⟩)⟩, ⟨by decide, (show fl_P 20 (ν 0 + 0) (dw_si μ 407 (5 + w1.toInt.toNat) (μ.2.2.1 404 19)).2.2.1 from fun h1 h2 => by
        have e : (dw_up μ.2.2.1 407 (5 + w1.toInt.toNat) (μ.2.2.1 404 19) 407 2).toInt.toNat = w1.toInt.toNat := by rw [up_ne (a := 407) (a' := 407) (j := 5 + w1.toInt.toNat) (j' := 2) (Or.inr (by omega))]; omega
        show 1 ≤ (dw_up μ.2.2.1 407 (5 + w1.toInt.toNat) (μ.2.2.1 404 19) 407 (5 + (dw_up μ.2.2.1 407 (5 + w1.toInt.toNat) (μ.2.2.1 404 19) 407 2).toInt.toNat)).toInt
        rw [e, up_at]
        omega)⟩, trivial⟩)
set_option maxHeartbeats 2000000 in
theorem sp_rrCount {SH : dw_Sh} {TT : Nat → dw_T} {K : dw_K} (hE : (EE SH TT).ok) : dx_SOK (EE SH TT) (pr_X12_readRow K) 173 sg_rrCount := by
  intro ν ls vs args rest μ bc bs hvs hargs hcat g hk
  obtain ⟨v0, rfl, e0⟩ := vs1 (f := fun i => ls[i]?) (a := 0) hvs
  obtain rfl := ar0 hargs
  obtain ⟨g0, -⟩ := g.gl
  rw [show v0 = some (.ref 404) from gV_th g0] at e0
  have f0 : (μ.2.2.1 407 1).toInt = ν 1 + 0 := (g.fa _ (List.Mem.head _)).2
  have f1 : (μ.2.2.1 404 13).toInt = ν 2 + 0 := (g.fa _ (List.Mem.tail _ (List.Mem.head _))).2
  have f2 : (μ.2.2.1 404 12).toInt = ν 3 + 0 := (g.fa _ (List.Mem.tail _ (List.Mem.tail _ (List.Mem.head _)))).2
  have f3 : (μ.2.2.1 404 11).toInt = ν 0 + 1 := (g.fa _ (List.Mem.tail _ (List.Mem.tail _ (List.Mem.tail _ (List.Mem.head _))))).2
  have f4 : (μ.2.2.1 407 2).toInt = ν 4 + 0 := (g.fa _ (List.Mem.tail _ (List.Mem.tail _ (List.Mem.tail _ (List.Mem.tail _ (List.Mem.head _)))))).2
  have f5 : (μ.2.2.1 407 0).toInt = ν 5 + 0 := (g.fa _ (List.Mem.tail _ (List.Mem.tail _ (List.Mem.tail _ (List.Mem.tail _ (List.Mem.tail _ (List.Mem.head _))))))).2
  have f6 : (μ.2.2.1 407 3).toInt = ν 6 + 0 := (g.fa _ (List.Mem.tail _ (List.Mem.tail _ (List.Mem.tail _ (List.Mem.tail _ (List.Mem.tail _ (List.Mem.tail _ (List.Mem.head _)))))))).2
  have p0 : fl_P 8 (ν 0 + 0) μ.2.2.1 := (g.fl _ (List.Mem.head _)).2
  have p1 : fl_P 9 (ν 7 + 0) μ.2.2.1 := (g.fl _ (List.Mem.tail _ (List.Mem.head _))).2
  have p2 : fl_P 1 (ν 0 + 0) μ.2.2.1 := (g.fl _ (List.Mem.tail _ (List.Mem.tail _ (List.Mem.head _)))).2
  have b1 : (0 : Int) ≤ ν 1 ∧ ν 1 ≤ 11 := g.iv 1 (by decide)
  have b2 : (1 : Int) ≤ ν 2 ∧ ν 2 ≤ 12 := g.iv 2 (by decide)
  have b3 : (0 : Int) ≤ ν 3 ∧ ν 3 ≤ 940 := g.iv 3 (by decide)
  have b4 : (0 : Int) ≤ ν 4 ∧ ν 4 ≤ 8 := g.iv 4 (by decide)
  have b5 : (0 : Int) ≤ ν 5 ∧ ν 5 ≤ 12 := g.iv 5 (by decide)
  have b6 : (-2147483648 : Int) ≤ ν 6 ∧ ν 6 ≤ 2147483647 := g.iv 6 (by decide)
  have b7 : (-2147483648 : Int) ≤ ν 7 ∧ ν 7 ≤ 2147483647 := g.iv 7 (by decide)
  have d0 : ν 2 - ν 7 ≤ 0 := (g.dc _ (List.Mem.head _)).2.2
  have z0 : ν 0 = 0 := g.z
  obtain ⟨l0, l1, l2⟩ := p0 (by omega)
  refine q_ald rfl e0 ?_
  have k404 : (μ.2.1 404).1 = 12 := by rw [g.sh]; exact (hE.sh 404).1
  have n404 : (μ.2.1 404).2.1 = 57 := by rw [g.sh]; exact (hE.sh 404).2.1
  have r404_7 : (μ.2.1 404).2.2 7 = some 407 := by rw [g.sh]; exact (hE.sh 404).2.2 7
  refine q_getr rfl k404 r404_7 ?_
  have cst1 : (1 : Int32).toInt = 1 := rfl
  refine q_ic rfl ?_
  refine q_dup2 rfl ?_
  have k407 : (μ.2.1 407).1 = 16 := by rw [g.sh]; exact (hE.sh 407).1
  have n407 : (μ.2.1 407).2.1 = 221 := by rw [g.sh]; exact (hE.sh 407).2.1
  refine q_xald rfl (Or.inl rfl) k407 n407 (by omega) (by omega) ?_
  refine q_ic rfl ?_
  refine q_add rfl ?_
  have t1 : ((μ.2.2.1 407 ((1 : Int32)).toInt.toNat) + (1 : Int32)).toInt = ((μ.2.2.1 407 ((1 : Int32)).toInt.toNat)).toInt + ((1 : Int32)).toInt := i_add (by first | omega | (simp; omega)) (by first | omega | (simp; omega))
  refine q_iast rfl k407 n407 (by omega) (by omega) ?_
  have c1n : ((1 : Int32)).toInt.toNat = 1 := rfl
  rw [c1n]
  have e1 : (1 : Int32).toInt = 1 := rfl
  have tk : ((μ.2.2.1 407 1) + (1 : Int32)).toInt = (μ.2.2.1 407 1).toInt + 1 := by rw [i_add (by omega) (by omega)]; omega
  have ho := l2 0 (by omega)
  have hk2 := p1 0 (by omega) (by omega)
  obtain ⟨u1, u2, u3⟩ := p2
  simp only [Nat.zero_add] at u1 u2 u3
  exact hk _ _ ν [] (dw_si μ 407 1 ((μ.2.2.1 407 1) + (1 : Int32))) (List.Mem.head _) (post_mk g rfl (up_hi g.hi (⟨by show (0 : Int) ≤ _; omega, by show _ ≤ (12 : Int); omega⟩ : dx_in (0, 12) (((μ.2.2.1 407 1) + (1 : Int32))).toInt)) (up_fr (List.Mem.head _)) (by decide) (by decide) (fun _ _ => rfl) ⟨(show (0 : Int) ≤ ν 0 ∧ ν 0 ≤ 0 from ⟨by omega, by omega⟩), (show (0 : Int) ≤ ν 1 ∧ ν 1 ≤ 11 from ⟨by omega, by omega⟩), (show (1 : Int) ≤ ν 2 ∧ ν 2 ≤ 12 from ⟨by omega, by omega⟩), (show (0 : Int) ≤ ν 3 ∧ ν 3 ≤ 940 from ⟨by omega, by omega⟩), (show (0 : Int) ≤ ν 4 ∧ ν 4 ≤ 8 from ⟨by omega, by omega⟩), (show (0 : Int) ≤ ν 5 ∧ ν 5 ≤ 12 from ⟨by omega, by omega⟩), (show (-2147483648 : Int) ≤ ν 6 ∧ ν 6 ≤ 2147483647 from ⟨by omega, by omega⟩), (show (-2147483648 : Int) ≤ ν 7 ∧ ν 7 ≤ 2147483647 from ⟨by omega, by omega⟩), trivial⟩ trivial trivial rfl ⟨⟨by decide, (show ((dw_si μ 407 1 ((μ.2.2.1 407 1) + (1 : Int32))).2.2.1 407 1).toInt = ν 1 + 1 from by show (dw_up μ.2.2.1 407 1 ((μ.2.2.1 407 1) + (1 : Int32)) 407 1).toInt = _; rw [up_at, tk]; omega)⟩, ⟨by decide, (show ((dw_si μ 407 1 ((μ.2.2.1 407 1) + (1 : Int32))).2.2.1 407 2).toInt = ν 4 + 0 from up_eq (Or.inr (by decide)) f4)⟩, ⟨by decide, (show ((dw_si μ 407 1 ((μ.2.2.1 407 1) + (1 : Int32))).2.2.1 407 0).toInt = ν 5 + 0 from up_eq (Or.inr (by decide)) f5)⟩, ⟨by decide, (show ((dw_si μ 407 1 ((μ.2.2.1 407 1) + (1 : Int32))).2.2.1 407 3).toInt = ν 6 + 0 from up_eq (Or.inr (by decide)) f6)⟩, trivial⟩ ⟨⟨by decide, (show fl_P 1 (ν 0 + 0) (dw_si μ 407 1 ((μ.2.2.1 407 1) + (1 : Int32))).2.2.1 from ⟨fun k hk hx => by
        rw [Nat.zero_add] at hx ⊢
        have hx' : (k : Int) < (dw_up μ.2.2.1 407 1 ((μ.2.2.1 407 1) + (1 : Int32)) 407 2).toInt := hx
        rw [up_ne (Or.inr (by decide))] at hx'
        show 1 ≤ (dw_up μ.2.2.1 407 1 ((μ.2.2.1 407 1) + (1 : Int32)) 407 (5 + k)).toInt
        rw [up_ne (Or.inr (by omega))]
        exact u1 k hk hx', fun c hc => by
        rw [Nat.zero_add, Nat.zero_add]
        show (dw_up μ.2.2.1 407 1 ((μ.2.2.1 407 1) + (1 : Int32)) 407 (29 + c)).toInt = 0 ∨ (dw_up μ.2.2.1 407 1 ((μ.2.2.1 407 1) + (1 : Int32)) 407 (29 + c)).toInt < (dw_up μ.2.2.1 407 1 ((μ.2.2.1 407 1) + (1 : Int32)) 407 2).toInt
        rw [up_ne (j' := 2) (Or.inr (by decide)), up_ne (Or.inr (by omega))]
        exact u2 c hc, fun _ => by
        rw [Nat.zero_add]
        show 1 ≤ (dw_up μ.2.2.1 407 1 ((μ.2.2.1 407 1) + (1 : Int32)) 407 2).toInt
        rw [up_ne (Or.inr (by decide))]
        omega⟩)⟩, trivial⟩)
set_option maxHeartbeats 2000000 in
theorem sp_nxTokE0 {SH : dw_Sh} {TT : Nat → dw_T} {K : dw_K} (hE : (EE SH TT).ok) : dx_SOK (EE SH TT) (pr_X12_next K) 334 sg_nxTokE0 := by
  intro ν ls vs args rest μ bc bs hvs hargs hcat g hk
  obtain rfl := vs0 (f := fun i => ls[i]?) hvs
  obtain ⟨x0, x1, rfl⟩ := ar2 hargs
  obtain ⟨g0, g1, -⟩ := g.gl
  obtain rfl : x0 = .ref 404 := Option.some.inj (gV_th g0)
  obtain ⟨-, w1, h1, q1⟩ := g1
  obtain rfl : x1 = .int w1 := Option.some.inj h1
  have f0 : (μ.2.2.1 404 4).toInt = ν 1 + 0 := (g.fa _ (List.Mem.head _)).2
  have f1 : (μ.2.2.1 404 13).toInt = ν 2 + 0 := (g.fa _ (List.Mem.tail _ (List.Mem.head _))).2
  have f2 : (μ.2.2.1 404 12).toInt = ν 3 + 0 := (g.fa _ (List.Mem.tail _ (List.Mem.tail _ (List.Mem.head _)))).2
  have f3 : (μ.2.2.1 404 2).toInt = ν 4 + 0 := (g.fa _ (List.Mem.tail _ (List.Mem.tail _ (List.Mem.tail _ (List.Mem.head _))))).2
  have f4 : (μ.2.2.1 404 3).toInt = ν 5 + 0 := (g.fa _ (List.Mem.tail _ (List.Mem.tail _ (List.Mem.tail _ (List.Mem.tail _ (List.Mem.head _)))))).2
  have f5 : (μ.2.2.1 404 14).toInt = ν 6 + 0 := (g.fa _ (List.Mem.tail _ (List.Mem.tail _ (List.Mem.tail _ (List.Mem.tail _ (List.Mem.tail _ (List.Mem.head _))))))).2
  have f6 : (μ.2.2.1 404 19).toInt = ν 7 + 0 := (g.fa _ (List.Mem.tail _ (List.Mem.tail _ (List.Mem.tail _ (List.Mem.tail _ (List.Mem.tail _ (List.Mem.tail _ (List.Mem.head _)))))))).2
  have f7 : (μ.2.2.1 404 21).toInt = ν 8 + 0 := (g.fa _ (List.Mem.tail _ (List.Mem.tail _ (List.Mem.tail _ (List.Mem.tail _ (List.Mem.tail _ (List.Mem.tail _ (List.Mem.tail _ (List.Mem.head _))))))))).2
  have f8 : (μ.2.2.1 404 22).toInt = ν 9 + 0 := (g.fa _ (List.Mem.tail _ (List.Mem.tail _ (List.Mem.tail _ (List.Mem.tail _ (List.Mem.tail _ (List.Mem.tail _ (List.Mem.tail _ (List.Mem.tail _ (List.Mem.head _)))))))))).2
  have b1 : (0 : Int) ≤ ν 1 ∧ ν 1 ≤ 940 := g.iv 1 (by decide)
  have b2 : (0 : Int) ≤ ν 2 ∧ ν 2 ≤ 940 := g.iv 2 (by decide)
  have b3 : (0 : Int) ≤ ν 3 ∧ ν 3 ≤ 940 := g.iv 3 (by decide)
  have b4 : (0 : Int) ≤ ν 4 ∧ ν 4 ≤ 940 := g.iv 4 (by decide)
  have b5 : (0 : Int) ≤ ν 5 ∧ ν 5 ≤ 940 := g.iv 5 (by decide)
  have b6 : (-2147483648 : Int) ≤ ν 6 ∧ ν 6 ≤ 2147483647 := g.iv 6 (by decide)
  have b7 : (-2147483648 : Int) ≤ ν 7 ∧ ν 7 ≤ 2147483647 := g.iv 7 (by decide)
  have b8 : (0 : Int) ≤ ν 8 ∧ ν 8 ≤ 30 := g.iv 8 (by decide)
  have b9 : (0 : Int) ≤ ν 9 ∧ ν 9 ≤ 1 := g.iv 9 (by decide)
  have z0 : ν 0 = 0 := g.z
  have k404 : (μ.2.1 404).1 = 12 := by rw [g.sh]; exact (hE.sh 404).1
  have n404 : (μ.2.1 404).2.1 = 57 := by rw [g.sh]; exact (hE.sh 404).2.1
  refine q_puti rfl k404 ?_
  exact hk _ _ ν [] (dw_si μ 404 11 w1) (List.Mem.head _) (post_mk g rfl (up_hi g.hi (⟨by show (0 : Int) ≤ _; omega, by show _ ≤ (4 : Int); omega⟩ : dx_in (0, 4) w1.toInt)) (up_fr (List.Mem.head _)) (by decide) (by decide) (fun _ _ => rfl) ⟨(show (0 : Int) ≤ ν 0 ∧ ν 0 ≤ 0 from ⟨by omega, by omega⟩), (show (0 : Int) ≤ ν 1 ∧ ν 1 ≤ 940 from ⟨by omega, by omega⟩), (show (0 : Int) ≤ ν 2 ∧ ν 2 ≤ 940 from ⟨by omega, by omega⟩), (show (0 : Int) ≤ ν 3 ∧ ν 3 ≤ 940 from ⟨by omega, by omega⟩), (show (0 : Int) ≤ ν 4 ∧ ν 4 ≤ 940 from ⟨by omega, by omega⟩), (show (0 : Int) ≤ ν 5 ∧ ν 5 ≤ 940 from ⟨by omega, by omega⟩), (show (-2147483648 : Int) ≤ ν 6 ∧ ν 6 ≤ 2147483647 from ⟨by omega, by omega⟩), (show (-2147483648 : Int) ≤ ν 7 ∧ ν 7 ≤ 2147483647 from ⟨by omega, by omega⟩), (show (0 : Int) ≤ ν 8 ∧ ν 8 ≤ 30 from ⟨by omega, by omega⟩), (show (0 : Int) ≤ ν 9 ∧ ν 9 ≤ 1 from ⟨by omega, by omega⟩), trivial⟩ trivial trivial rfl ⟨⟨by decide, (show ((dw_si μ 404 11 w1).2.2.1 404 4).toInt = ν 1 + 0 from (up_eq (Or.inr (by decide)) f0))⟩, ⟨by decide, (show ((dw_si μ 404 11 w1).2.2.1 404 13).toInt = ν 2 + 0 from (up_eq (Or.inr (by decide)) f1))⟩, ⟨by decide, (show ((dw_si μ 404 11 w1).2.2.1 404 12).toInt = ν 3 + 0 from (up_eq (Or.inr (by decide)) f2))⟩, ⟨by decide, (show ((dw_si μ 404 11 w1).2.2.1 404 2).toInt = ν 4 + 0 from (up_eq (Or.inr (by decide)) f3))⟩, ⟨by decide, (show ((dw_si μ 404 11 w1).2.2.1 404 3).toInt = ν 5 + 0 from (up_eq (Or.inr (by decide)) f4))⟩, ⟨by decide, (show ((dw_si μ 404 11 w1).2.2.1 404 14).toInt = ν 6 + 0 from (up_eq (Or.inr (by decide)) f5))⟩, ⟨by decide, (show ((dw_si μ 404 11 w1).2.2.1 404 19).toInt = ν 7 + 0 from (up_eq (Or.inr (by decide)) f6))⟩, ⟨by decide, (show ((dw_si μ 404 11 w1).2.2.1 404 21).toInt = ν 8 + 0 from (up_eq (Or.inr (by decide)) f7))⟩, ⟨by decide, (show ((dw_si μ 404 11 w1).2.2.1 404 22).toInt = ν 9 + 0 from (up_eq (Or.inr (by decide)) f8))⟩, ⟨by decide, (show ((dw_si μ 404 11 w1).2.2.1 404 11).toInt = ν 0 + 0 from by show ((dw_up μ.2.2.1 404 11 w1) 404 11).toInt = _; rw [up_at]; omega)⟩, trivial⟩ ⟨⟨by decide, (show fl_P 8 (ν 0 + 0) (dw_si μ 404 11 w1).2.2.1 from fun h => by have h2 : ((dw_up μ.2.2.1 404 11 w1) 404 11).toInt = 1 := h; rw [up_at] at h2; omega)⟩, trivial⟩)
set_option maxHeartbeats 2000000 in
theorem sp_nxTokS2 {SH : dw_Sh} {TT : Nat → dw_T} {K : dw_K} (hE : (EE SH TT).ok) : dx_SOK (EE SH TT) (pr_X12_next K) 91 sg_nxTokS2 := by
  intro ν ls vs args rest μ bc bs hvs hargs hcat g hk
  obtain rfl := vs0 (f := fun i => ls[i]?) hvs
  obtain ⟨x0, x1, rfl⟩ := ar2 hargs
  obtain ⟨g0, g1, -⟩ := g.gl
  obtain rfl : x0 = .ref 404 := Option.some.inj (gV_th g0)
  obtain ⟨-, w1, h1, q1⟩ := g1
  obtain rfl : x1 = .int w1 := Option.some.inj h1
  have f0 : (μ.2.2.1 404 4).toInt = ν 1 + 0 := (g.fa _ (List.Mem.head _)).2
  have f1 : (μ.2.2.1 404 13).toInt = ν 2 + 0 := (g.fa _ (List.Mem.tail _ (List.Mem.head _))).2
  have f2 : (μ.2.2.1 404 12).toInt = ν 3 + 0 := (g.fa _ (List.Mem.tail _ (List.Mem.tail _ (List.Mem.head _)))).2
  have f3 : (μ.2.2.1 404 2).toInt = ν 4 + 0 := (g.fa _ (List.Mem.tail _ (List.Mem.tail _ (List.Mem.tail _ (List.Mem.head _))))).2
  have f4 : (μ.2.2.1 404 3).toInt = ν 5 + 0 := (g.fa _ (List.Mem.tail _ (List.Mem.tail _ (List.Mem.tail _ (List.Mem.tail _ (List.Mem.head _)))))).2
  have f5 : (μ.2.2.1 404 14).toInt = ν 6 + 0 := (g.fa _ (List.Mem.tail _ (List.Mem.tail _ (List.Mem.tail _ (List.Mem.tail _ (List.Mem.tail _ (List.Mem.head _))))))).2
  have f6 : (μ.2.2.1 404 19).toInt = ν 7 + 0 := (g.fa _ (List.Mem.tail _ (List.Mem.tail _ (List.Mem.tail _ (List.Mem.tail _ (List.Mem.tail _ (List.Mem.tail _ (List.Mem.head _)))))))).2
  have f7 : (μ.2.2.1 404 21).toInt = ν 8 + 0 := (g.fa _ (List.Mem.tail _ (List.Mem.tail _ (List.Mem.tail _ (List.Mem.tail _ (List.Mem.tail _ (List.Mem.tail _ (List.Mem.tail _ (List.Mem.head _))))))))).2
  have f8 : (μ.2.2.1 404 22).toInt = ν 9 + 0 := (g.fa _ (List.Mem.tail _ (List.Mem.tail _ (List.Mem.tail _ (List.Mem.tail _ (List.Mem.tail _ (List.Mem.tail _ (List.Mem.tail _ (List.Mem.tail _ (List.Mem.head _)))))))))).2
  have b1 : (0 : Int) ≤ ν 1 ∧ ν 1 ≤ 940 := g.iv 1 (by decide)
  have b2 : (0 : Int) ≤ ν 2 ∧ ν 2 ≤ 940 := g.iv 2 (by decide)
  have b3 : (0 : Int) ≤ ν 3 ∧ ν 3 ≤ 940 := g.iv 3 (by decide)
  have b4 : (0 : Int) ≤ ν 4 ∧ ν 4 ≤ 940 := g.iv 4 (by decide)
  have b5 : (0 : Int) ≤ ν 5 ∧ ν 5 ≤ 940 := g.iv 5 (by decide)
  have b6 : (-2147483648 : Int) ≤ ν 6 ∧ ν 6 ≤ 2147483647 := g.iv 6 (by decide)
  have b7 : (-2147483648 : Int) ≤ ν 7 ∧ ν 7 ≤ 2147483647 := g.iv 7 (by decide)
  have b8 : (0 : Int) ≤ ν 8 ∧ ν 8 ≤ 30 := g.iv 8 (by decide)
  have b9 : (0 : Int) ≤ ν 9 ∧ ν 9 ≤ 1 := g.iv 9 (by decide)
  have z0 : ν 0 = 0 := g.z
  have k404 : (μ.2.1 404).1 = 12 := by rw [g.sh]; exact (hE.sh 404).1
  have n404 : (μ.2.1 404).2.1 = 57 := by rw [g.sh]; exact (hE.sh 404).2.1
  refine q_puti rfl k404 ?_
  exact hk _ _ ν [] (dw_si μ 404 11 w1) (List.Mem.head _) (post_mk g rfl (up_hi g.hi (⟨by show (0 : Int) ≤ _; omega, by show _ ≤ (4 : Int); omega⟩ : dx_in (0, 4) w1.toInt)) (up_fr (List.Mem.head _)) (by decide) (by decide) (fun _ _ => rfl) ⟨(show (0 : Int) ≤ ν 0 ∧ ν 0 ≤ 0 from ⟨by omega, by omega⟩), (show (0 : Int) ≤ ν 1 ∧ ν 1 ≤ 940 from ⟨by omega, by omega⟩), (show (0 : Int) ≤ ν 2 ∧ ν 2 ≤ 940 from ⟨by omega, by omega⟩), (show (0 : Int) ≤ ν 3 ∧ ν 3 ≤ 940 from ⟨by omega, by omega⟩), (show (0 : Int) ≤ ν 4 ∧ ν 4 ≤ 940 from ⟨by omega, by omega⟩), (show (0 : Int) ≤ ν 5 ∧ ν 5 ≤ 940 from ⟨by omega, by omega⟩), (show (-2147483648 : Int) ≤ ν 6 ∧ ν 6 ≤ 2147483647 from ⟨by omega, by omega⟩), (show (-2147483648 : Int) ≤ ν 7 ∧ ν 7 ≤ 2147483647 from ⟨by omega, by omega⟩), (show (0 : Int) ≤ ν 8 ∧ ν 8 ≤ 30 from ⟨by omega, by omega⟩), (show (0 : Int) ≤ ν 9 ∧ ν 9 ≤ 1 from ⟨by omega, by omega⟩), trivial⟩ trivial trivial rfl ⟨⟨by decide, (show ((dw_si μ 404 11 w1).2.2.1 404 4).toInt = ν 1 + 0 from (up_eq (Or.inr (by decide)) f0))⟩, ⟨by decide, (show ((dw_si μ 404 11 w1).2.2.1 404 13).toInt = ν 2 + 0 from (up_eq (Or.inr (by decide)) f1))⟩, ⟨by decide, (show ((dw_si μ 404 11 w1).2.2.1 404 12).toInt = ν 3 + 0 from (up_eq (Or.inr (by decide)) f2))⟩, ⟨by decide, (show ((dw_si μ 404 11 w1).2.2.1 404 2).toInt = ν 4 + 0 from (up_eq (Or.inr (by decide)) f3))⟩, ⟨by decide, (show ((dw_si μ 404 11 w1).2.2.1 404 3).toInt = ν 5 + 0 from (up_eq (Or.inr (by decide)) f4))⟩, ⟨by decide, (show ((dw_si μ 404 11 w1).2.2.1 404 14).toInt = ν 6 + 0 from (up_eq (Or.inr (by decide)) f5))⟩, ⟨by decide, (show ((dw_si μ 404 11 w1).2.2.1 404 19).toInt = ν 7 + 0 from (up_eq (Or.inr (by decide)) f6))⟩, ⟨by decide, (show ((dw_si μ 404 11 w1).2.2.1 404 21).toInt = ν 8 + 0 from (up_eq (Or.inr (by decide)) f7))⟩, ⟨by decide, (show ((dw_si μ 404 11 w1).2.2.1 404 22).toInt = ν 9 + 0 from (up_eq (Or.inr (by decide)) f8))⟩, ⟨by decide, (show ((dw_si μ 404 11 w1).2.2.1 404 11).toInt = ν 0 + 2 from by show ((dw_up μ.2.2.1 404 11 w1) 404 11).toInt = _; rw [up_at]; omega)⟩, trivial⟩ ⟨⟨by decide, (show fl_P 8 (ν 0 + 0) (dw_si μ 404 11 w1).2.2.1 from fun h => by have h2 : ((dw_up μ.2.2.1 404 11 w1) 404 11).toInt = 1 := h; rw [up_at] at h2; omega)⟩, trivial⟩)
set_option maxHeartbeats 2000000 in
theorem sp_nxTokN3 {SH : dw_Sh} {TT : Nat → dw_T} {K : dw_K} (hE : (EE SH TT).ok) : dx_SOK (EE SH TT) (pr_X12_next K) 76 sg_nxTokN3 := by
  intro ν ls vs args rest μ bc bs hvs hargs hcat g hk
  obtain rfl := vs0 (f := fun i => ls[i]?) hvs
  obtain ⟨x0, x1, rfl⟩ := ar2 hargs
  obtain ⟨g0, g1, -⟩ := g.gl
  obtain rfl : x0 = .ref 404 := Option.some.inj (gV_th g0)
  obtain ⟨-, w1, h1, q1⟩ := g1
  obtain rfl : x1 = .int w1 := Option.some.inj h1
  have f0 : (μ.2.2.1 404 4).toInt = ν 1 + 0 := (g.fa _ (List.Mem.head _)).2
  have f1 : (μ.2.2.1 404 13).toInt = ν 2 + 0 := (g.fa _ (List.Mem.tail _ (List.Mem.head _))).2
  have f2 : (μ.2.2.1 404 12).toInt = ν 3 + 0 := (g.fa _ (List.Mem.tail _ (List.Mem.tail _ (List.Mem.head _)))).2
  have f3 : (μ.2.2.1 404 2).toInt = ν 4 + 0 := (g.fa _ (List.Mem.tail _ (List.Mem.tail _ (List.Mem.tail _ (List.Mem.head _))))).2
  have f4 : (μ.2.2.1 404 3).toInt = ν 5 + 0 := (g.fa _ (List.Mem.tail _ (List.Mem.tail _ (List.Mem.tail _ (List.Mem.tail _ (List.Mem.head _)))))).2
  have f5 : (μ.2.2.1 404 14).toInt = ν 6 + 0 := (g.fa _ (List.Mem.tail _ (List.Mem.tail _ (List.Mem.tail _ (List.Mem.tail _ (List.Mem.tail _ (List.Mem.head _))))))).2
  have f6 : (μ.2.2.1 404 19).toInt = ν 7 + 0 := (g.fa _ (List.Mem.tail _ (List.Mem.tail _ (List.Mem.tail _ (List.Mem.tail _ (List.Mem.tail _ (List.Mem.tail _ (List.Mem.head _)))))))).2
  have f7 : (μ.2.2.1 404 21).toInt = ν 8 + 0 := (g.fa _ (List.Mem.tail _ (List.Mem.tail _ (List.Mem.tail _ (List.Mem.tail _ (List.Mem.tail _ (List.Mem.tail _ (List.Mem.tail _ (List.Mem.head _))))))))).2
  have f8 : (μ.2.2.1 404 22).toInt = ν 9 + 0 := (g.fa _ (List.Mem.tail _ (List.Mem.tail _ (List.Mem.tail _ (List.Mem.tail _ (List.Mem.tail _ (List.Mem.tail _ (List.Mem.tail _ (List.Mem.tail _ (List.Mem.head _)))))))))).2
  have b1 : (0 : Int) ≤ ν 1 ∧ ν 1 ≤ 940 := g.iv 1 (by decide)
  have b2 : (0 : Int) ≤ ν 2 ∧ ν 2 ≤ 940 := g.iv 2 (by decide)
  have b3 : (0 : Int) ≤ ν 3 ∧ ν 3 ≤ 940 := g.iv 3 (by decide)
  have b4 : (0 : Int) ≤ ν 4 ∧ ν 4 ≤ 940 := g.iv 4 (by decide)
  have b5 : (0 : Int) ≤ ν 5 ∧ ν 5 ≤ 940 := g.iv 5 (by decide)
  have b6 : (-2147483648 : Int) ≤ ν 6 ∧ ν 6 ≤ 2147483647 := g.iv 6 (by decide)
  have b7 : (-2147483648 : Int) ≤ ν 7 ∧ ν 7 ≤ 2147483647 := g.iv 7 (by decide)
  have b8 : (0 : Int) ≤ ν 8 ∧ ν 8 ≤ 30 := g.iv 8 (by decide)
  have b9 : (0 : Int) ≤ ν 9 ∧ ν 9 ≤ 1 := g.iv 9 (by decide)
  have z0 : ν 0 = 0 := g.z
  have k404 : (μ.2.1 404).1 = 12 := by rw [g.sh]; exact (hE.sh 404).1
  have n404 : (μ.2.1 404).2.1 = 57 := by rw [g.sh]; exact (hE.sh 404).2.1
  refine q_puti rfl k404 ?_
  exact hk _ _ ν [] (dw_si μ 404 11 w1) (List.Mem.head _) (post_mk g rfl (up_hi g.hi (⟨by show (0 : Int) ≤ _; omega, by show _ ≤ (4 : Int); omega⟩ : dx_in (0, 4) w1.toInt)) (up_fr (List.Mem.head _)) (by decide) (by decide) (fun _ _ => rfl) ⟨(show (0 : Int) ≤ ν 0 ∧ ν 0 ≤ 0 from ⟨by omega, by omega⟩), (show (0 : Int) ≤ ν 1 ∧ ν 1 ≤ 940 from ⟨by omega, by omega⟩), (show (0 : Int) ≤ ν 2 ∧ ν 2 ≤ 940 from ⟨by omega, by omega⟩), (show (0 : Int) ≤ ν 3 ∧ ν 3 ≤ 940 from ⟨by omega, by omega⟩), (show (0 : Int) ≤ ν 4 ∧ ν 4 ≤ 940 from ⟨by omega, by omega⟩), (show (0 : Int) ≤ ν 5 ∧ ν 5 ≤ 940 from ⟨by omega, by omega⟩), (show (-2147483648 : Int) ≤ ν 6 ∧ ν 6 ≤ 2147483647 from ⟨by omega, by omega⟩), (show (-2147483648 : Int) ≤ ν 7 ∧ ν 7 ≤ 2147483647 from ⟨by omega, by omega⟩), (show (0 : Int) ≤ ν 8 ∧ ν 8 ≤ 30 from ⟨by omega, by omega⟩), (show (0 : Int) ≤ ν 9 ∧ ν 9 ≤ 1 from ⟨by omega, by omega⟩), trivial⟩ trivial trivial rfl ⟨⟨by decide, (show ((dw_si μ 404 11 w1).2.2.1 404 4).toInt = ν 1 + 0 from (up_eq (Or.inr (by decide)) f0))⟩, ⟨by decide, (show ((dw_si μ 404 11 w1).2.2.1 404 13).toInt = ν 2 + 0 from (up_eq (Or.inr (by decide)) f1))⟩, ⟨by decide, (show ((dw_si μ 404 11 w1).2.2.1 404 12).toInt = ν 3 + 0 from (up_eq (Or.inr (by decide)) f2))⟩, ⟨by decide, (show ((dw_si μ 404 11 w1).2.2.1 404 2).toInt = ν 4 + 0 from (up_eq (Or.inr (by decide)) f3))⟩, ⟨by decide, (show ((dw_si μ 404 11 w1).2.2.1 404 3).toInt = ν 5 + 0 from (up_eq (Or.inr (by decide)) f4))⟩, ⟨by decide, (show ((dw_si μ 404 11 w1).2.2.1 404 14).toInt = ν 6 + 0 from (up_eq (Or.inr (by decide)) f5))⟩, ⟨by decide, (show ((dw_si μ 404 11 w1).2.2.1 404 19).toInt = ν 7 + 0 from (up_eq (Or.inr (by decide)) f6))⟩, ⟨by decide, (show ((dw_si μ 404 11 w1).2.2.1 404 21).toInt = ν 8 + 0 from (up_eq (Or.inr (by decide)) f7))⟩, ⟨by decide, (show ((dw_si μ 404 11 w1).2.2.1 404 22).toInt = ν 9 + 0 from (up_eq (Or.inr (by decide)) f8))⟩, ⟨by decide, (show ((dw_si μ 404 11 w1).2.2.1 404 11).toInt = ν 0 + 3 from by show ((dw_up μ.2.2.1 404 11 w1) 404 11).toInt = _; rw [up_at]; omega)⟩, trivial⟩ ⟨⟨by decide, (show fl_P 8 (ν 0 + 0) (dw_si μ 404 11 w1).2.2.1 from fun h => by have h2 : ((dw_up μ.2.2.1 404 11 w1) 404 11).toInt = 1 := h; rw [up_at] at h2; omega)⟩, trivial⟩)
set_option maxHeartbeats 2000000 in
theorem sp_nxTokO4 {SH : dw_Sh} {TT : Nat → dw_T} {K : dw_K} (hE : (EE SH TT).ok) : dx_SOK (EE SH TT) (pr_X12_next K) 121 sg_nxTokO4 := by
  intro ν ls vs args rest μ bc bs hvs hargs hcat g hk
  obtain rfl := vs0 (f := fun i => ls[i]?) hvs
  obtain ⟨x0, x1, rfl⟩ := ar2 hargs
  obtain ⟨g0, g1, -⟩ := g.gl
  obtain rfl : x0 = .ref 404 := Option.some.inj (gV_th g0)
  obtain ⟨-, w1, h1, q1⟩ := g1
  obtain rfl : x1 = .int w1 := Option.some.inj h1
  have f0 : (μ.2.2.1 404 4).toInt = ν 1 + 0 := (g.fa _ (List.Mem.head _)).2
  have f1 : (μ.2.2.1 404 13).toInt = ν 2 + 0 := (g.fa _ (List.Mem.tail _ (List.Mem.head _))).2
  have f2 : (μ.2.2.1 404 12).toInt = ν 3 + 0 := (g.fa _ (List.Mem.tail _ (List.Mem.tail _ (List.Mem.head _)))).2
  have f3 : (μ.2.2.1 404 2).toInt = ν 4 + 0 := (g.fa _ (List.Mem.tail _ (List.Mem.tail _ (List.Mem.tail _ (List.Mem.head _))))).2
  have f4 : (μ.2.2.1 404 3).toInt = ν 5 + 0 := (g.fa _ (List.Mem.tail _ (List.Mem.tail _ (List.Mem.tail _ (List.Mem.tail _ (List.Mem.head _)))))).2
  have f5 : (μ.2.2.1 404 14).toInt = ν 6 + 0 := (g.fa _ (List.Mem.tail _ (List.Mem.tail _ (List.Mem.tail _ (List.Mem.tail _ (List.Mem.tail _ (List.Mem.head _))))))).2
  have f6 : (μ.2.2.1 404 19).toInt = ν 7 + 0 := (g.fa _ (List.Mem.tail _ (List.Mem.tail _ (List.Mem.tail _ (List.Mem.tail _ (List.Mem.tail _ (List.Mem.tail _ (List.Mem.head _)))))))).2
  have f7 : (μ.2.2.1 404 21).toInt = ν 8 + 0 := (g.fa _ (List.Mem.tail _ (List.Mem.tail _ (List.Mem.tail _ (List.Mem.tail _ (List.Mem.tail _ (List.Mem.tail _ (List.Mem.tail _ (List.Mem.head _))))))))).2
  have f8 : (μ.2.2.1 404 22).toInt = ν 9 + 0 := (g.fa _ (List.Mem.tail _ (List.Mem.tail _ (List.Mem.tail _ (List.Mem.tail _ (List.Mem.tail _ (List.Mem.tail _ (List.Mem.tail _ (List.Mem.tail _ (List.Mem.head _)))))))))).2
  have b1 : (0 : Int) ≤ ν 1 ∧ ν 1 ≤ 940 := g.iv 1 (by decide)
  have b2 : (0 : Int) ≤ ν 2 ∧ ν 2 ≤ 940 := g.iv 2 (by decide)
  have b3 : (0 : Int) ≤ ν 3 ∧ ν 3 ≤ 940 := g.iv 3 (by decide)
  have b4 : (0 : Int) ≤ ν 4 ∧ ν 4 ≤ 940 := g.iv 4 (by decide)
  have b5 : (0 : Int) ≤ ν 5 ∧ ν 5 ≤ 940 := g.iv 5 (by decide)
  have b6 : (-2147483648 : Int) ≤ ν 6 ∧ ν 6 ≤ 2147483647 := g.iv 6 (by decide)
  have b7 : (-2147483648 : Int) ≤ ν 7 ∧ ν 7 ≤ 2147483647 := g.iv 7 (by decide)
  have b8 : (0 : Int) ≤ ν 8 ∧ ν 8 ≤ 30 := g.iv 8 (by decide)
  have b9 : (0 : Int) ≤ ν 9 ∧ ν 9 ≤ 1 := g.iv 9 (by decide)
  have z0 : ν 0 = 0 := g.z
  have k404 : (μ.2.1 404).1 = 12 := by rw [g.sh]; exact (hE.sh 404).1
  have n404 : (μ.2.1 404).2.1 = 57 := by rw [g.sh]; exact (hE.sh 404).2.1
  refine q_puti rfl k404 ?_
  exact hk _ _ ν [] (dw_si μ 404 11 w1) (List.Mem.head _) (post_mk g rfl (up_hi g.hi (⟨by show (0 : Int) ≤ _; omega, by show _ ≤ (4 : Int); omega⟩ : dx_in (0, 4) w1.toInt)) (up_fr (List.Mem.head _)) (by decide) (by decide) (fun _ _ => rfl) ⟨(show (0 : Int) ≤ ν 0 ∧ ν 0 ≤ 0 from ⟨by omega, by omega⟩), (show (0 : Int) ≤ ν 1 ∧ ν 1 ≤ 940 from ⟨by omega, by omega⟩), (show (0 : Int) ≤ ν 2 ∧ ν 2 ≤ 940 from ⟨by omega, by omega⟩), (show (0 : Int) ≤ ν 3 ∧ ν 3 ≤ 940 from ⟨by omega, by omega⟩), (show (0 : Int) ≤ ν 4 ∧ ν 4 ≤ 940 from ⟨by omega, by omega⟩), (show (0 : Int) ≤ ν 5 ∧ ν 5 ≤ 940 from ⟨by omega, by omega⟩), (show (-2147483648 : Int) ≤ ν 6 ∧ ν 6 ≤ 2147483647 from ⟨by omega, by omega⟩), (show (-2147483648 : Int) ≤ ν 7 ∧ ν 7 ≤ 2147483647 from ⟨by omega, by omega⟩), (show (0 : Int) ≤ ν 8 ∧ ν 8 ≤ 30 from ⟨by omega, by omega⟩), (show (0 : Int) ≤ ν 9 ∧ ν 9 ≤ 1 from ⟨by omega, by omega⟩), trivial⟩ trivial trivial rfl ⟨⟨by decide, (show ((dw_si μ 404 11 w1).2.2.1 404 4).toInt = ν 1 + 0 from (up_eq (Or.inr (by decide)) f0))⟩, ⟨by decide, (show ((dw_si μ 404 11 w1).2.2.1 404 13).toInt = ν 2 + 0 from (up_eq (Or.inr (by decide)) f1))⟩, ⟨by decide, (show ((dw_si μ 404 11 w1).2.2.1 404 12).toInt = ν 3 + 0 from (up_eq (Or.inr (by decide)) f2))⟩, ⟨by decide, (show ((dw_si μ 404 11 w1).2.2.1 404 2).toInt = ν 4 + 0 from (up_eq (Or.inr (by decide)) f3))⟩, ⟨by decide, (show ((dw_si μ 404 11 w1).2.2.1 404 3).toInt = ν 5 + 0 from (up_eq (Or.inr (by decide)) f4))⟩, ⟨by decide, (show ((dw_si μ 404 11 w1).2.2.1 404 14).toInt = ν 6 + 0 from (up_eq (Or.inr (by decide)) f5))⟩, ⟨by decide, (show ((dw_si μ 404 11 w1).2.2.1 404 19).toInt = ν 7 + 0 from (up_eq (Or.inr (by decide)) f6))⟩, ⟨by decide, (show ((dw_si μ 404 11 w1).2.2.1 404 21).toInt = ν 8 + 0 from (up_eq (Or.inr (by decide)) f7))⟩, ⟨by decide, (show ((dw_si μ 404 11 w1).2.2.1 404 22).toInt = ν 9 + 0 from (up_eq (Or.inr (by decide)) f8))⟩, ⟨by decide, (show ((dw_si μ 404 11 w1).2.2.1 404 11).toInt = ν 0 + 4 from by show ((dw_up μ.2.2.1 404 11 w1) 404 11).toInt = _; rw [up_at]; omega)⟩, trivial⟩ ⟨⟨by decide, (show fl_P 8 (ν 0 + 0) (dw_si μ 404 11 w1).2.2.1 from fun h => by have h2 : ((dw_up μ.2.2.1 404 11 w1) 404 11).toInt = 1 := h; rw [up_at] at h2; omega)⟩, trivial⟩)
set_option maxHeartbeats 2000000 in
theorem sp_plOn1 {SH : dw_Sh} {TT : Nat → dw_T} {K : dw_K} (hE : (EE SH TT).ok) : dx_SOK (EE SH TT) (pr_X12_planLine K) 132 sg_plOn1 := by
  intro ν ls vs args rest μ bc bs hvs hargs hcat g hk
  obtain ⟨v0, rfl, e0⟩ := vs1 (f := fun i => ls[i]?) (a := 0) hvs
  obtain rfl := ar0 hargs
  obtain ⟨g0, -⟩ := g.gl
  rw [show v0 = some (.ref 404) from gV_th g0] at e0
  have f0 : (μ.2.2.1 408 4).toInt = ν 0 + 0 := (g.fa _ (List.Mem.head _)).2
  have p0 : fl_P 101 (ν 0 + 0) μ.2.2.1 := (g.fl _ (List.Mem.head _)).2
  have z0 : ν 0 = 0 := g.z
  have cst1 : (1 : Int32).toInt = 1 := rfl
  refine q_ic rfl ?_
  exact hk _ _ ν [.int 1] (μ) (List.Mem.head _) (post_mk g rfl g.hi (fun _ _ => ⟨rfl, rfl⟩) (by decide) (by decide) (fun _ _ => rfl) ⟨(show (0 : Int) ≤ ν 0 ∧ ν 0 ≤ 0 from ⟨by omega, by omega⟩), trivial⟩ trivial ⟨⟨by decide, 1, rfl, by rw [z0]; rfl⟩, trivial⟩ rfl trivial ⟨⟨by decide, (show fl_P 25 (ν 0 + 2) (μ).2.2.1 from pq_of (c := 2) (by decide) (by omega) (rp_on (c := 1) (y := 0) (by decide) p0 (show (μ.2.2.1 408 4).toInt = 0 by omega)))⟩, trivial⟩)
set_option maxHeartbeats 2000000 in
theorem sp_plIn3 {SH : dw_Sh} {TT : Nat → dw_T} {K : dw_K} (hE : (EE SH TT).ok) : dx_SOK (EE SH TT) (pr_X12_planLine K) 83 sg_plIn3 := by
  intro ν ls vs args rest μ bc bs hvs hargs hcat g hk
  obtain ⟨v0, rfl, e0⟩ := vs1 (f := fun i => ls[i]?) (a := 0) hvs
  obtain rfl := ar0 hargs
  obtain ⟨g0, -⟩ := g.gl
  rw [show v0 = some (.ref 404) from gV_th g0] at e0
  have f0 : (μ.2.2.1 404 21).toInt = ν 0 + 3 := (g.fa _ (List.Mem.head _)).2
  have p0 : fl_P 25 (ν 0 + 3) μ.2.2.1 := (g.fl _ (List.Mem.head _)).2
  have z0 : ν 0 = 0 := g.z
  have cst1 : (1 : Int32).toInt = 1 := rfl
  refine q_ic rfl ?_
  exact hk _ _ ν [.int 1] (μ) (List.Mem.head _) (post_mk g rfl g.hi (fun _ _ => ⟨rfl, rfl⟩) (by decide) (by decide) (fun _ _ => rfl) ⟨(show (0 : Int) ≤ ν 0 ∧ ν 0 ≤ 0 from ⟨by omega, by omega⟩), trivial⟩ trivial ⟨⟨by decide, 1, rfl, by rw [z0]; rfl⟩, trivial⟩ rfl trivial ⟨⟨by decide, (show fl_P 103 (ν 0 + 0) (μ).2.2.1 from pq_in (c := 3) (by decide) (by omega) p0)⟩, trivial⟩)
set_option maxHeartbeats 2000000 in
theorem sp_plOff4 {SH : dw_Sh} {TT : Nat → dw_T} {K : dw_K} (hE : (EE SH TT).ok) : dx_SOK (EE SH TT) (pr_X12_planLine K) 206 sg_plOff4 := by
  intro ν ls vs args rest μ bc bs hvs hargs hcat g hk
  obtain ⟨v0, rfl, e0⟩ := vs1 (f := fun i => ls[i]?) (a := 0) hvs
  obtain rfl := ar0 hargs
  obtain ⟨g0, -⟩ := g.gl
  rw [show v0 = some (.ref 404) from gV_th g0] at e0
  have f0 : (μ.2.2.1 408 14).toInt = ν 1 + 0 := (g.fa _ (List.Mem.head _)).2
  have f1 : (μ.2.2.1 406 0).toInt = ν 2 + 0 := (g.fa _ (List.Mem.tail _ (List.Mem.head _))).2
  have p0 : fl_P 104 (ν 0 + 0) μ.2.2.1 := (g.fl _ (List.Mem.head _)).2
  have b1 : (0 : Int) ≤ ν 1 ∧ ν 1 ≤ 143 := g.iv 1 (by decide)
  have b2 : (1 : Int) ≤ ν 2 ∧ ν 2 ≤ 12 := g.iv 2 (by decide)
  have z0 : ν 0 = 0 := g.z
  have cst1 : (1 : Int32).toInt = 1 := rfl
  refine q_ic rfl ?_
  exact hk _ _ ν [.int 1] (μ) (List.Mem.head _) (post_mk g rfl g.hi (fun _ _ => ⟨rfl, rfl⟩) (by decide) (by decide) (fun _ _ => rfl) ⟨(show (0 : Int) ≤ ν 0 ∧ ν 0 ≤ 0 from ⟨by omega, by omega⟩), (show (0 : Int) ≤ ν 1 ∧ ν 1 ≤ 143 from ⟨by omega, by omega⟩), (show (1 : Int) ≤ ν 2 ∧ ν 2 ≤ 12 from ⟨by omega, by omega⟩), trivial⟩ trivial ⟨⟨by decide, 1, rfl, by rw [z0]; rfl⟩, trivial⟩ rfl trivial ⟨⟨by decide, (show fl_P 25 (ν 0 + 5) (μ).2.2.1 from pq_of (c := 5) (by decide) (by omega) (rp_off (c := 4) (y := 0) (by decide) p0 (show (μ.2.2.1 408 14).toInt ≤ 143 by omega) (by omega)))⟩, trivial⟩)
set_option maxHeartbeats 2000000 in
theorem sp_plOn6 {SH : dw_Sh} {TT : Nat → dw_T} {K : dw_K} (hE : (EE SH TT).ok) : dx_SOK (EE SH TT) (pr_X12_planLine K) 132 sg_plOn6 := by
  intro ν ls vs args rest μ bc bs hvs hargs hcat g hk
  obtain ⟨v0, rfl, e0⟩ := vs1 (f := fun i => ls[i]?) (a := 0) hvs
  obtain rfl := ar0 hargs
  obtain ⟨g0, -⟩ := g.gl
  rw [show v0 = some (.ref 404) from gV_th g0] at e0
  have f0 : (μ.2.2.1 408 19).toInt = ν 0 + 0 := (g.fa _ (List.Mem.head _)).2
  have p0 : fl_P 106 (ν 0 + 0) μ.2.2.1 := (g.fl _ (List.Mem.head _)).2
  have z0 : ν 0 = 0 := g.z
  have cst1 : (1 : Int32).toInt = 1 := rfl
  refine q_ic rfl ?_
  exact hk _ _ ν [.int 1] (μ) (List.Mem.head _) (post_mk g rfl g.hi (fun _ _ => ⟨rfl, rfl⟩) (by decide) (by decide) (fun _ _ => rfl) ⟨(show (0 : Int) ≤ ν 0 ∧ ν 0 ≤ 0 from ⟨by omega, by omega⟩), trivial⟩ trivial ⟨⟨by decide, 1, rfl, by rw [z0]; rfl⟩, trivial⟩ rfl trivial ⟨⟨by decide, (show fl_P 25 (ν 0 + 7) (μ).2.2.1 from pq_of (c := 7) (by decide) (by omega) (rp_on (c := 6) (y := 0) (by decide) p0 (show (μ.2.2.1 408 19).toInt = 0 by omega)))⟩, trivial⟩)
set_option maxHeartbeats 2000000 in
theorem sp_plIn8 {SH : dw_Sh} {TT : Nat → dw_T} {K : dw_K} (hE : (EE SH TT).ok) : dx_SOK (EE SH TT) (pr_X12_planLine K) 83 sg_plIn8 := by
  intro ν ls vs args rest μ bc bs hvs hargs hcat g hk
  obtain ⟨v0, rfl, e0⟩ := vs1 (f := fun i => ls[i]?) (a := 0) hvs
  obtain rfl := ar0 hargs
  obtain ⟨g0, -⟩ := g.gl
  rw [show v0 = some (.ref 404) from gV_th g0] at e0
  have f0 : (μ.2.2.1 404 21).toInt = ν 0 + 8 := (g.fa _ (List.Mem.head _)).2
  have p0 : fl_P 25 (ν 0 + 8) μ.2.2.1 := (g.fl _ (List.Mem.head _)).2
  have z0 : ν 0 = 0 := g.z
  have cst1 : (1 : Int32).toInt = 1 := rfl
  refine q_ic rfl ?_
  exact hk _ _ ν [.int 1] (μ) (List.Mem.head _) (post_mk g rfl g.hi (fun _ _ => ⟨rfl, rfl⟩) (by decide) (by decide) (fun _ _ => rfl) ⟨(show (0 : Int) ≤ ν 0 ∧ ν 0 ≤ 0 from ⟨by omega, by omega⟩), trivial⟩ trivial ⟨⟨by decide, 1, rfl, by rw [z0]; rfl⟩, trivial⟩ rfl trivial ⟨⟨by decide, (show fl_P 108 (ν 0 + 0) (μ).2.2.1 from pq_in (c := 8) (by decide) (by omega) p0)⟩, trivial⟩)
set_option maxHeartbeats 2000000 in
theorem sp_plOff9 {SH : dw_Sh} {TT : Nat → dw_T} {K : dw_K} (hE : (EE SH TT).ok) : dx_SOK (EE SH TT) (pr_X12_planLine K) 206 sg_plOff9 := by
  intro ν ls vs args rest μ bc bs hvs hargs hcat g hk
  obtain ⟨v0, rfl, e0⟩ := vs1 (f := fun i => ls[i]?) (a := 0) hvs
  obtain rfl := ar0 hargs
  obtain ⟨g0, -⟩ := g.gl
  rw [show v0 = some (.ref 404) from gV_th g0] at e0
  have f0 : (μ.2.2.1 408 29).toInt = ν 1 + 0 := (g.fa _ (List.Mem.head _)).2
  have f1 : (μ.2.2.1 406 0).toInt = ν 2 + 0 := (g.fa _ (List.Mem.tail _ (List.Mem.head _))).2
  have p0 : fl_P 109 (ν 0 + 0) μ.2.2.1 := (g.fl _ (List.Mem.head _)).2
  have b1 : (0 : Int) ≤ ν 1 ∧ ν 1 ≤ 143 := g.iv 1 (by decide)
  have b2 : (1 : Int) ≤ ν 2 ∧ ν 2 ≤ 12 := g.iv 2 (by decide)
  have z0 : ν 0 = 0 := g.z
  have cst1 : (1 : Int32).toInt = 1 := rfl
  refine q_ic rfl ?_
  exact hk _ _ ν [.int 1] (μ) (List.Mem.head _) (post_mk g rfl g.hi (fun _ _ => ⟨rfl, rfl⟩) (by decide) (by decide) (fun _ _ => rfl) ⟨(show (0 : Int) ≤ ν 0 ∧ ν 0 ≤ 0 from ⟨by omega, by omega⟩), (show (0 : Int) ≤ ν 1 ∧ ν 1 ≤ 143 from ⟨by omega, by omega⟩), (show (1 : Int) ≤ ν 2 ∧ ν 2 ≤ 12 from ⟨by omega, by omega⟩), trivial⟩ trivial ⟨⟨by decide, 1, rfl, by rw [z0]; rfl⟩, trivial⟩ rfl trivial ⟨⟨by decide, (show fl_P 25 (ν 0 + 10) (μ).2.2.1 from pq_of (c := 10) (by decide) (by omega) (rp_off (c := 9) (y := 0) (by decide) p0 (show (μ.2.2.1 408 29).toInt ≤ 143 by omega) (by omega)))⟩, trivial⟩)
set_option maxHeartbeats 2000000 in
theorem sp_plOn11 {SH : dw_Sh} {TT : Nat → dw_T} {K : dw_K} (hE : (EE SH TT).ok) : dx_SOK (EE SH TT) (pr_X12_planLine K) 132 sg_plOn11 := by
  intro ν ls vs args rest μ bc bs hvs hargs hcat g hk
  obtain ⟨v0, rfl, e0⟩ := vs1 (f := fun i => ls[i]?) (a := 0) hvs
  obtain rfl := ar0 hargs
  obtain ⟨g0, -⟩ := g.gl
  rw [show v0 = some (.ref 404) from gV_th g0] at e0
  have f0 : (μ.2.2.1 408 34).toInt = ν 0 + 0 := (g.fa _ (List.Mem.head _)).2
  have p0 : fl_P 111 (ν 0 + 0) μ.2.2.1 := (g.fl _ (List.Mem.head _)).2
  have z0 : ν 0 = 0 := g.z
  have cst1 : (1 : Int32).toInt = 1 := rfl
  refine q_ic rfl ?_
  exact hk _ _ ν [.int 1] (μ) (List.Mem.head _) (post_mk g rfl g.hi (fun _ _ => ⟨rfl, rfl⟩) (by decide) (by decide) (fun _ _ => rfl) ⟨(show (0 : Int) ≤ ν 0 ∧ ν 0 ≤ 0 from ⟨by omega, by omega⟩), trivial⟩ trivial ⟨⟨by decide, 1, rfl, by rw [z0]; rfl⟩, trivial⟩ rfl trivial ⟨⟨by decide, (show fl_P 25 (ν 0 + 12) (μ).2.2.1 from pq_of (c := 12) (by decide) (by omega) (rp_on (c := 11) (y := 0) (by decide) p0 (show (μ.2.2.1 408 34).toInt = 0 by omega)))⟩, trivial⟩)
set_option maxHeartbeats 2000000 in
theorem sp_plIn13 {SH : dw_Sh} {TT : Nat → dw_T} {K : dw_K} (hE : (EE SH TT).ok) : dx_SOK (EE SH TT) (pr_X12_planLine K) 83 sg_plIn13 := by
  intro ν ls vs args rest μ bc bs hvs hargs hcat g hk
  obtain ⟨v0, rfl, e0⟩ := vs1 (f := fun i => ls[i]?) (a := 0) hvs
  obtain rfl := ar0 hargs
  obtain ⟨g0, -⟩ := g.gl
  rw [show v0 = some (.ref 404) from gV_th g0] at e0
  have f0 : (μ.2.2.1 404 21).toInt = ν 0 + 13 := (g.fa _ (List.Mem.head _)).2
  have p0 : fl_P 25 (ν 0 + 13) μ.2.2.1 := (g.fl _ (List.Mem.head _)).2
  have z0 : ν 0 = 0 := g.z
  have cst1 : (1 : Int32).toInt = 1 := rfl
  refine q_ic rfl ?_
  exact hk _ _ ν [.int 1] (μ) (List.Mem.head _) (post_mk g rfl g.hi (fun _ _ => ⟨rfl, rfl⟩) (by decide) (by decide) (fun _ _ => rfl) ⟨(show (0 : Int) ≤ ν 0 ∧ ν 0 ≤ 0 from ⟨by omega, by omega⟩), trivial⟩ trivial ⟨⟨by decide, 1, rfl, by rw [z0]; rfl⟩, trivial⟩ rfl trivial ⟨⟨by decide, (show fl_P 113 (ν 0 + 0) (μ).2.2.1 from pq_in (c := 13) (by decide) (by omega) p0)⟩, trivial⟩)
set_option maxHeartbeats 2000000 in
theorem sp_plOff14 {SH : dw_Sh} {TT : Nat → dw_T} {K : dw_K} (hE : (EE SH TT).ok) : dx_SOK (EE SH TT) (pr_X12_planLine K) 206 sg_plOff14 := by
  intro ν ls vs args rest μ bc bs hvs hargs hcat g hk
  obtain ⟨v0, rfl, e0⟩ := vs1 (f := fun i => ls[i]?) (a := 0) hvs
  obtain rfl := ar0 hargs
  obtain ⟨g0, -⟩ := g.gl
  rw [show v0 = some (.ref 404) from gV_th g0] at e0
  have f0 : (μ.2.2.1 408 44).toInt = ν 1 + 0 := (g.fa _ (List.Mem.head _)).2
  have f1 : (μ.2.2.1 406 0).toInt = ν 2 + 0 := (g.fa _ (List.Mem.tail _ (List.Mem.head _))).2
  have p0 : fl_P 114 (ν 0 + 0) μ.2.2.1 := (g.fl _ (List.Mem.head _)).2
  have b1 : (0 : Int) ≤ ν 1 ∧ ν 1 ≤ 143 := g.iv 1 (by decide)
  have b2 : (1 : Int) ≤ ν 2 ∧ ν 2 ≤ 12 := g.iv 2 (by decide)
  have z0 : ν 0 = 0 := g.z
  have cst1 : (1 : Int32).toInt = 1 := rfl
  refine q_ic rfl ?_
  exact hk _ _ ν [.int 1] (μ) (List.Mem.head _) (post_mk g rfl g.hi (fun _ _ => ⟨rfl, rfl⟩) (by decide) (by decide) (fun _ _ => rfl) ⟨(show (0 : Int) ≤ ν 0 ∧ ν 0 ≤ 0 from ⟨by omega, by omega⟩), (show (0 : Int) ≤ ν 1 ∧ ν 1 ≤ 143 from ⟨by omega, by omega⟩), (show (1 : Int) ≤ ν 2 ∧ ν 2 ≤ 12 from ⟨by omega, by omega⟩), trivial⟩ trivial ⟨⟨by decide, 1, rfl, by rw [z0]; rfl⟩, trivial⟩ rfl trivial ⟨⟨by decide, (show fl_P 25 (ν 0 + 15) (μ).2.2.1 from pq_of (c := 15) (by decide) (by omega) (rp_off (c := 14) (y := 0) (by decide) p0 (show (μ.2.2.1 408 44).toInt ≤ 143 by omega) (by omega)))⟩, trivial⟩)
set_option maxHeartbeats 2000000 in
theorem sp_plOn16 {SH : dw_Sh} {TT : Nat → dw_T} {K : dw_K} (hE : (EE SH TT).ok) : dx_SOK (EE SH TT) (pr_X12_planLine K) 132 sg_plOn16 := by
  intro ν ls vs args rest μ bc bs hvs hargs hcat g hk
  obtain ⟨v0, rfl, e0⟩ := vs1 (f := fun i => ls[i]?) (a := 0) hvs
  obtain rfl := ar0 hargs
  obtain ⟨g0, -⟩ := g.gl
  rw [show v0 = some (.ref 404) from gV_th g0] at e0
  have f0 : (μ.2.2.1 408 49).toInt = ν 0 + 0 := (g.fa _ (List.Mem.head _)).2
  have p0 : fl_P 116 (ν 0 + 0) μ.2.2.1 := (g.fl _ (List.Mem.head _)).2
  have z0 : ν 0 = 0 := g.z
  have cst1 : (1 : Int32).toInt = 1 := rfl
  refine q_ic rfl ?_
  exact hk _ _ ν [.int 1] (μ) (List.Mem.head _) (post_mk g rfl g.hi (fun _ _ => ⟨rfl, rfl⟩) (by decide) (by decide) (fun _ _ => rfl) ⟨(show (0 : Int) ≤ ν 0 ∧ ν 0 ≤ 0 from ⟨by omega, by omega⟩), trivial⟩ trivial ⟨⟨by decide, 1, rfl, by rw [z0]; rfl⟩, trivial⟩ rfl trivial ⟨⟨by decide, (show fl_P 25 (ν 0 + 17) (μ).2.2.1 from pq_of (c := 17) (by decide) (by omega) (rp_on (c := 16) (y := 0) (by decide) p0 (show (μ.2.2.1 408 49).toInt = 0 by omega)))⟩, trivial⟩)
set_option maxHeartbeats 2000000 in
theorem sp_plIn18 {SH : dw_Sh} {TT : Nat → dw_T} {K : dw_K} (hE : (EE SH TT).ok) : dx_SOK (EE SH TT) (pr_X12_planLine K) 83 sg_plIn18 := by
  intro ν ls vs args rest μ bc bs hvs hargs hcat g hk
  obtain ⟨v0, rfl, e0⟩ := vs1 (f := fun i => ls[i]?) (a := 0) hvs
  obtain rfl := ar0 hargs
  obtain ⟨g0, -⟩ := g.gl
  rw [show v0 = some (.ref 404) from gV_th g0] at e0
  have f0 : (μ.2.2.1 404 21).toInt = ν 0 + 18 := (g.fa _ (List.Mem.head _)).2
  have p0 : fl_P 25 (ν 0 + 18) μ.2.2.1 := (g.fl _ (List.Mem.head _)).2
  have z0 : ν 0 = 0 := g.z
  have cst1 : (1 : Int32).toInt = 1 := rfl
  refine q_ic rfl ?_
  exact hk _ _ ν [.int 1] (μ) (List.Mem.head _) (post_mk g rfl g.hi (fun _ _ => ⟨rfl, rfl⟩) (by decide) (by decide) (fun _ _ => rfl) ⟨(show (0 : Int) ≤ ν 0 ∧ ν 0 ≤ 0 from ⟨by omega, by omega⟩), trivial⟩ trivial ⟨⟨by decide, 1, rfl, by rw [z0]; rfl⟩, trivial⟩ rfl trivial ⟨⟨by decide, (show fl_P 118 (ν 0 + 0) (μ).2.2.1 from pq_in (c := 18) (by decide) (by omega) p0)⟩, trivial⟩)
set_option maxHeartbeats 2000000 in
theorem sp_plOff19 {SH : dw_Sh} {TT : Nat → dw_T} {K : dw_K} (hE : (EE SH TT).ok) : dx_SOK (EE SH TT) (pr_X12_planLine K) 206 sg_plOff19 := by
  intro ν ls vs args rest μ bc bs hvs hargs hcat g hk
  obtain ⟨v0, rfl, e0⟩ := vs1 (f := fun i => ls[i]?) (a := 0) hvs
  obtain rfl := ar0 hargs
  obtain ⟨g0, -⟩ := g.gl
  rw [show v0 = some (.ref 404) from gV_th g0] at e0
  have f0 : (μ.2.2.1 408 59).toInt = ν 1 + 0 := (g.fa _ (List.Mem.head _)).2
  have f1 : (μ.2.2.1 406 0).toInt = ν 2 + 0 := (g.fa _ (List.Mem.tail _ (List.Mem.head _))).2
  have p0 : fl_P 119 (ν 0 + 0) μ.2.2.1 := (g.fl _ (List.Mem.head _)).2
  have b1 : (0 : Int) ≤ ν 1 ∧ ν 1 ≤ 143 := g.iv 1 (by decide)
  have b2 : (1 : Int) ≤ ν 2 ∧ ν 2 ≤ 12 := g.iv 2 (by decide)
  have z0 : ν 0 = 0 := g.z
  have cst1 : (1 : Int32).toInt = 1 := rfl
  refine q_ic rfl ?_
  exact hk _ _ ν [.int 1] (μ) (List.Mem.head _) (post_mk g rfl g.hi (fun _ _ => ⟨rfl, rfl⟩) (by decide) (by decide) (fun _ _ => rfl) ⟨(show (0 : Int) ≤ ν 0 ∧ ν 0 ≤ 0 from ⟨by omega, by omega⟩), (show (0 : Int) ≤ ν 1 ∧ ν 1 ≤ 143 from ⟨by omega, by omega⟩), (show (1 : Int) ≤ ν 2 ∧ ν 2 ≤ 12 from ⟨by omega, by omega⟩), trivial⟩ trivial ⟨⟨by decide, 1, rfl, by rw [z0]; rfl⟩, trivial⟩ rfl trivial ⟨⟨by decide, (show fl_P 25 (ν 0 + 20) (μ).2.2.1 from pq_of (c := 20) (by decide) (by omega) (rp_off (c := 19) (y := 0) (by decide) p0 (show (μ.2.2.1 408 59).toInt ≤ 143 by omega) (by omega)))⟩, trivial⟩)
set_option maxHeartbeats 2000000 in
theorem sp_plOn21 {SH : dw_Sh} {TT : Nat → dw_T} {K : dw_K} (hE : (EE SH TT).ok) : dx_SOK (EE SH TT) (pr_X12_planLine K) 132 sg_plOn21 := by
  intro ν ls vs args rest μ bc bs hvs hargs hcat g hk
  obtain ⟨v0, rfl, e0⟩ := vs1 (f := fun i => ls[i]?) (a := 0) hvs
  obtain rfl := ar0 hargs
  obtain ⟨g0, -⟩ := g.gl
  rw [show v0 = some (.ref 404) from gV_th g0] at e0
  have f0 : (μ.2.2.1 408 64).toInt = ν 0 + 0 := (g.fa _ (List.Mem.head _)).2
  have p0 : fl_P 121 (ν 0 + 0) μ.2.2.1 := (g.fl _ (List.Mem.head _)).2
  have z0 : ν 0 = 0 := g.z
  have cst1 : (1 : Int32).toInt = 1 := rfl
  refine q_ic rfl ?_
  exact hk _ _ ν [.int 1] (μ) (List.Mem.head _) (post_mk g rfl g.hi (fun _ _ => ⟨rfl, rfl⟩) (by decide) (by decide) (fun _ _ => rfl) ⟨(show (0 : Int) ≤ ν 0 ∧ ν 0 ≤ 0 from ⟨by omega, by omega⟩), trivial⟩ trivial ⟨⟨by decide, 1, rfl, by rw [z0]; rfl⟩, trivial⟩ rfl trivial ⟨⟨by decide, (show fl_P 25 (ν 0 + 22) (μ).2.2.1 from pq_of (c := 22) (by decide) (by omega) (rp_on (c := 21) (y := 0) (by decide) p0 (show (μ.2.2.1 408 64).toInt = 0 by omega)))⟩, trivial⟩)
set_option maxHeartbeats 2000000 in
theorem sp_plIn23 {SH : dw_Sh} {TT : Nat → dw_T} {K : dw_K} (hE : (EE SH TT).ok) : dx_SOK (EE SH TT) (pr_X12_planLine K) 83 sg_plIn23 := by
  intro ν ls vs args rest μ bc bs hvs hargs hcat g hk
  obtain ⟨v0, rfl, e0⟩ := vs1 (f := fun i => ls[i]?) (a := 0) hvs
  obtain rfl := ar0 hargs
  obtain ⟨g0, -⟩ := g.gl
  rw [show v0 = some (.ref 404) from gV_th g0] at e0
  have f0 : (μ.2.2.1 404 21).toInt = ν 0 + 23 := (g.fa _ (List.Mem.head _)).2
  have p0 : fl_P 25 (ν 0 + 23) μ.2.2.1 := (g.fl _ (List.Mem.head _)).2
  have z0 : ν 0 = 0 := g.z
  have cst1 : (1 : Int32).toInt = 1 := rfl
  refine q_ic rfl ?_
  exact hk _ _ ν [.int 1] (μ) (List.Mem.head _) (post_mk g rfl g.hi (fun _ _ => ⟨rfl, rfl⟩) (by decide) (by decide) (fun _ _ => rfl) ⟨(show (0 : Int) ≤ ν 0 ∧ ν 0 ≤ 0 from ⟨by omega, by omega⟩), trivial⟩ trivial ⟨⟨by decide, 1, rfl, by rw [z0]; rfl⟩, trivial⟩ rfl trivial ⟨⟨by decide, (show fl_P 123 (ν 0 + 0) (μ).2.2.1 from pq_in (c := 23) (by decide) (by omega) p0)⟩, trivial⟩)
set_option maxHeartbeats 2000000 in
theorem sp_plOff24 {SH : dw_Sh} {TT : Nat → dw_T} {K : dw_K} (hE : (EE SH TT).ok) : dx_SOK (EE SH TT) (pr_X12_planLine K) 206 sg_plOff24 := by
  intro ν ls vs args rest μ bc bs hvs hargs hcat g hk
  obtain ⟨v0, rfl, e0⟩ := vs1 (f := fun i => ls[i]?) (a := 0) hvs
  obtain rfl := ar0 hargs
  obtain ⟨g0, -⟩ := g.gl
  rw [show v0 = some (.ref 404) from gV_th g0] at e0
  have f0 : (μ.2.2.1 408 74).toInt = ν 1 + 0 := (g.fa _ (List.Mem.head _)).2
  have f1 : (μ.2.2.1 406 0).toInt = ν 2 + 0 := (g.fa _ (List.Mem.tail _ (List.Mem.head _))).2
  have p0 : fl_P 124 (ν 0 + 0) μ.2.2.1 := (g.fl _ (List.Mem.head _)).2
  have b1 : (0 : Int) ≤ ν 1 ∧ ν 1 ≤ 143 := g.iv 1 (by decide)
  have b2 : (1 : Int) ≤ ν 2 ∧ ν 2 ≤ 12 := g.iv 2 (by decide)
  have z0 : ν 0 = 0 := g.z
  have cst1 : (1 : Int32).toInt = 1 := rfl
  refine q_ic rfl ?_
  exact hk _ _ ν [.int 1] (μ) (List.Mem.head _) (post_mk g rfl g.hi (fun _ _ => ⟨rfl, rfl⟩) (by decide) (by decide) (fun _ _ => rfl) ⟨(show (0 : Int) ≤ ν 0 ∧ ν 0 ≤ 0 from ⟨by omega, by omega⟩), (show (0 : Int) ≤ ν 1 ∧ ν 1 ≤ 143 from ⟨by omega, by omega⟩), (show (1 : Int) ≤ ν 2 ∧ ν 2 ≤ 12 from ⟨by omega, by omega⟩), trivial⟩ trivial ⟨⟨by decide, 1, rfl, by rw [z0]; rfl⟩, trivial⟩ rfl trivial ⟨⟨by decide, (show fl_P 25 (ν 0 + 25) (μ).2.2.1 from pq_of (c := 25) (by decide) (by omega) (rp_off (c := 24) (y := 0) (by decide) p0 (show (μ.2.2.1 408 74).toInt ≤ 143 by omega) (by omega)))⟩, trivial⟩)
set_option maxHeartbeats 2000000 in
theorem sp_plOn26 {SH : dw_Sh} {TT : Nat → dw_T} {K : dw_K} (hE : (EE SH TT).ok) : dx_SOK (EE SH TT) (pr_X12_planLine K) 132 sg_plOn26 := by
  intro ν ls vs args rest μ bc bs hvs hargs hcat g hk
  obtain ⟨v0, rfl, e0⟩ := vs1 (f := fun i => ls[i]?) (a := 0) hvs
  obtain rfl := ar0 hargs
  obtain ⟨g0, -⟩ := g.gl
  rw [show v0 = some (.ref 404) from gV_th g0] at e0
  have f0 : (μ.2.2.1 408 79).toInt = ν 0 + 0 := (g.fa _ (List.Mem.head _)).2
  have p0 : fl_P 126 (ν 0 + 0) μ.2.2.1 := (g.fl _ (List.Mem.head _)).2
  have z0 : ν 0 = 0 := g.z
  have cst1 : (1 : Int32).toInt = 1 := rfl
  refine q_ic rfl ?_
  exact hk _ _ ν [.int 1] (μ) (List.Mem.head _) (post_mk g rfl g.hi (fun _ _ => ⟨rfl, rfl⟩) (by decide) (by decide) (fun _ _ => rfl) ⟨(show (0 : Int) ≤ ν 0 ∧ ν 0 ≤ 0 from ⟨by omega, by omega⟩), trivial⟩ trivial ⟨⟨by decide, 1, rfl, by rw [z0]; rfl⟩, trivial⟩ rfl trivial ⟨⟨by decide, (show fl_P 25 (ν 0 + 27) (μ).2.2.1 from pq_of (c := 27) (by decide) (by omega) (rp_on (c := 26) (y := 0) (by decide) p0 (show (μ.2.2.1 408 79).toInt = 0 by omega)))⟩, trivial⟩)
set_option maxHeartbeats 2000000 in
theorem sp_plIn28 {SH : dw_Sh} {TT : Nat → dw_T} {K : dw_K} (hE : (EE SH TT).ok) : dx_SOK (EE SH TT) (pr_X12_planLine K) 83 sg_plIn28 := by
  intro ν ls vs args rest μ bc bs hvs hargs hcat g hk
  obtain ⟨v0, rfl, e0⟩ := vs1 (f := fun i => ls[i]?) (a := 0) hvs
  obtain rfl := ar0 hargs
  obtain ⟨g0, -⟩ := g.gl
  rw [show v0 = some (.ref 404) from gV_th g0] at e0
  have f0 : (μ.2.2.1 404 21).toInt = ν 0 + 28 := (g.fa _ (List.Mem.head _)).2
  have p0 : fl_P 25 (ν 0 + 28) μ.2.2.1 := (g.fl _ (List.Mem.head _)).2
  have z0 : ν 0 = 0 := g.z
  have cst1 : (1 : Int32).toInt = 1 := rfl
  refine q_ic rfl ?_
  exact hk _ _ ν [.int 1] (μ) (List.Mem.head _) (post_mk g rfl g.hi (fun _ _ => ⟨rfl, rfl⟩) (by decide) (by decide) (fun _ _ => rfl) ⟨(show (0 : Int) ≤ ν 0 ∧ ν 0 ≤ 0 from ⟨by omega, by omega⟩), trivial⟩ trivial ⟨⟨by decide, 1, rfl, by rw [z0]; rfl⟩, trivial⟩ rfl trivial ⟨⟨by decide, (show fl_P 128 (ν 0 + 0) (μ).2.2.1 from pq_in (c := 28) (by decide) (by omega) p0)⟩, trivial⟩)
set_option maxHeartbeats 2000000 in
theorem sp_plOff29 {SH : dw_Sh} {TT : Nat → dw_T} {K : dw_K} (hE : (EE SH TT).ok) : dx_SOK (EE SH TT) (pr_X12_planLine K) 206 sg_plOff29 := by
  intro ν ls vs args rest μ bc bs hvs hargs hcat g hk
  obtain ⟨v0, rfl, e0⟩ := vs1 (f := fun i => ls[i]?) (a := 0) hvs
  obtain rfl := ar0 hargs
  obtain ⟨g0, -⟩ := g.gl
  rw [show v0 = some (.ref 404) from gV_th g0] at e0
  have f0 : (μ.2.2.1 408 89).toInt = ν 1 + 0 := (g.fa _ (List.Mem.head _)).2
  have f1 : (μ.2.2.1 406 0).toInt = ν 2 + 0 := (g.fa _ (List.Mem.tail _ (List.Mem.head _))).2
  have p0 : fl_P 129 (ν 0 + 0) μ.2.2.1 := (g.fl _ (List.Mem.head _)).2
  have b1 : (0 : Int) ≤ ν 1 ∧ ν 1 ≤ 143 := g.iv 1 (by decide)
  have b2 : (1 : Int) ≤ ν 2 ∧ ν 2 ≤ 12 := g.iv 2 (by decide)
  have z0 : ν 0 = 0 := g.z
  have cst1 : (1 : Int32).toInt = 1 := rfl
  refine q_ic rfl ?_
  exact hk _ _ ν [.int 1] (μ) (List.Mem.head _) (post_mk g rfl g.hi (fun _ _ => ⟨rfl, rfl⟩) (by decide) (by decide) (fun _ _ => rfl) ⟨(show (0 : Int) ≤ ν 0 ∧ ν 0 ≤ 0 from ⟨by omega, by omega⟩), (show (0 : Int) ≤ ν 1 ∧ ν 1 ≤ 143 from ⟨by omega, by omega⟩), (show (1 : Int) ≤ ν 2 ∧ ν 2 ≤ 12 from ⟨by omega, by omega⟩), trivial⟩ trivial ⟨⟨by decide, 1, rfl, by rw [z0]; rfl⟩, trivial⟩ rfl trivial ⟨⟨by decide, (show fl_P 25 (ν 0 + 30) (μ).2.2.1 from pq_of (c := 30) (by decide) (by omega) (rp_off (c := 29) (y := 0) (by decide) p0 (show (μ.2.2.1 408 89).toInt ≤ 143 by omega) (by omega)))⟩, trivial⟩)
set_option maxHeartbeats 2000000 in
theorem sp_plEnd0 {SH : dw_Sh} {TT : Nat → dw_T} {K : dw_K} (hE : (EE SH TT).ok) : dx_SOK (EE SH TT) (pr_X12_plan K) 113 sg_plEnd0 := by
  intro ν ls vs args rest μ bc bs hvs hargs hcat g hk
  obtain ⟨v0, rfl, e0⟩ := vs1 (f := fun i => ls[i]?) (a := 0) hvs
  obtain rfl := ar0 hargs
  obtain ⟨g0, -⟩ := g.gl
  rw [show v0 = some (.ref 404) from gV_th g0] at e0
  have f0 : (μ.2.2.1 404 21).toInt = ν 0 + 0 := (g.fa _ (List.Mem.head _)).2
  have f1 : (μ.2.2.1 408 0).toInt = ν 0 + 0 := (g.fa _ (List.Mem.tail _ (List.Mem.head _))).2
  have p0 : fl_P 23 (ν 0 + 1) μ.2.2.1 := (g.fl _ (List.Mem.head _)).2
  have p1 : fl_P 25 (ν 0 + 0) μ.2.2.1 := (g.fl _ (List.Mem.tail _ (List.Mem.head _))).2
  have z0 : ν 0 = 0 := g.z
  refine q_ald rfl e0 ?_
  exact hk _ _ ν [.ref 404] (μ) (List.Mem.head _) (post_mk g rfl g.hi (fun _ _ => ⟨rfl, rfl⟩) (by decide) (by decide) (fun _ _ => rfl) ⟨(show (0 : Int) ≤ ν 0 ∧ ν 0 ≤ 0 from ⟨by omega, by omega⟩), trivial⟩ trivial ⟨⟨404, List.Mem.head _, rfl⟩, trivial⟩ rfl trivial ⟨⟨by decide, (show fl_P 6 (ν 0 + 0) (μ).2.2.1 from pl_end (c := 0) (y := 0) (by decide) (by omega) (by omega) p0 (pq_in (c := 0) (by decide) (by omega) p1))⟩, trivial⟩)
set_option maxHeartbeats 2000000 in
theorem sp_plEnd5 {SH : dw_Sh} {TT : Nat → dw_T} {K : dw_K} (hE : (EE SH TT).ok) : dx_SOK (EE SH TT) (pr_X12_plan K) 113 sg_plEnd5 := by
  intro ν ls vs args rest μ bc bs hvs hargs hcat g hk
  obtain ⟨v0, rfl, e0⟩ := vs1 (f := fun i => ls[i]?) (a := 0) hvs
  obtain rfl := ar0 hargs
  obtain ⟨g0, -⟩ := g.gl
  rw [show v0 = some (.ref 404) from gV_th g0] at e0
  have f0 : (μ.2.2.1 404 21).toInt = ν 0 + 5 := (g.fa _ (List.Mem.head _)).2
  have f1 : (μ.2.2.1 408 0).toInt = ν 0 + 5 := (g.fa _ (List.Mem.tail _ (List.Mem.head _))).2
  have p0 : fl_P 23 (ν 0 + 16) μ.2.2.1 := (g.fl _ (List.Mem.head _)).2
  have p1 : fl_P 25 (ν 0 + 5) μ.2.2.1 := (g.fl _ (List.Mem.tail _ (List.Mem.head _))).2
  have z0 : ν 0 = 0 := g.z
  refine q_ald rfl e0 ?_
  exact hk _ _ ν [.ref 404] (μ) (List.Mem.head _) (post_mk g rfl g.hi (fun _ _ => ⟨rfl, rfl⟩) (by decide) (by decide) (fun _ _ => rfl) ⟨(show (0 : Int) ≤ ν 0 ∧ ν 0 ≤ 0 from ⟨by omega, by omega⟩), trivial⟩ trivial ⟨⟨404, List.Mem.head _, rfl⟩, trivial⟩ rfl trivial ⟨⟨by decide, (show fl_P 6 (ν 0 + 0) (μ).2.2.1 from pl_end (c := 5) (y := 0) (by decide) (by omega) (by omega) p0 (pq_in (c := 5) (by decide) (by omega) p1))⟩, trivial⟩)
set_option maxHeartbeats 2000000 in
theorem sp_plEnd10 {SH : dw_Sh} {TT : Nat → dw_T} {K : dw_K} (hE : (EE SH TT).ok) : dx_SOK (EE SH TT) (pr_X12_plan K) 113 sg_plEnd10 := by
  intro ν ls vs args rest μ bc bs hvs hargs hcat g hk
  obtain ⟨v0, rfl, e0⟩ := vs1 (f := fun i => ls[i]?) (a := 0) hvs
  obtain rfl := ar0 hargs
  obtain ⟨g0, -⟩ := g.gl
  rw [show v0 = some (.ref 404) from gV_th g0] at e0
  have f0 : (μ.2.2.1 404 21).toInt = ν 0 + 10 := (g.fa _ (List.Mem.head _)).2
  have f1 : (μ.2.2.1 408 0).toInt = ν 0 + 10 := (g.fa _ (List.Mem.tail _ (List.Mem.head _))).2
  have p0 : fl_P 23 (ν 0 + 31) μ.2.2.1 := (g.fl _ (List.Mem.head _)).2
  have p1 : fl_P 25 (ν 0 + 10) μ.2.2.1 := (g.fl _ (List.Mem.tail _ (List.Mem.head _))).2
  have z0 : ν 0 = 0 := g.z
  refine q_ald rfl e0 ?_
  exact hk _ _ ν [.ref 404] (μ) (List.Mem.head _) (post_mk g rfl g.hi (fun _ _ => ⟨rfl, rfl⟩) (by decide) (by decide) (fun _ _ => rfl) ⟨(show (0 : Int) ≤ ν 0 ∧ ν 0 ≤ 0 from ⟨by omega, by omega⟩), trivial⟩ trivial ⟨⟨404, List.Mem.head _, rfl⟩, trivial⟩ rfl trivial ⟨⟨by decide, (show fl_P 6 (ν 0 + 0) (μ).2.2.1 from pl_end (c := 10) (y := 0) (by decide) (by omega) (by omega) p0 (pq_in (c := 10) (by decide) (by omega) p1))⟩, trivial⟩)
set_option maxHeartbeats 2000000 in
theorem sp_plEnd15 {SH : dw_Sh} {TT : Nat → dw_T} {K : dw_K} (hE : (EE SH TT).ok) : dx_SOK (EE SH TT) (pr_X12_plan K) 113 sg_plEnd15 := by
  intro ν ls vs args rest μ bc bs hvs hargs hcat g hk
  obtain ⟨v0, rfl, e0⟩ := vs1 (f := fun i => ls[i]?) (a := 0) hvs
  obtain rfl := ar0 hargs
  obtain ⟨g0, -⟩ := g.gl
  rw [show v0 = some (.ref 404) from gV_th g0] at e0
  have f0 : (μ.2.2.1 404 21).toInt = ν 0 + 15 := (g.fa _ (List.Mem.head _)).2
  have f1 : (μ.2.2.1 408 0).toInt = ν 0 + 15 := (g.fa _ (List.Mem.tail _ (List.Mem.head _))).2
  have p0 : fl_P 23 (ν 0 + 46) μ.2.2.1 := (g.fl _ (List.Mem.head _)).2
  have p1 : fl_P 25 (ν 0 + 15) μ.2.2.1 := (g.fl _ (List.Mem.tail _ (List.Mem.head _))).2
  have z0 : ν 0 = 0 := g.z
  refine q_ald rfl e0 ?_
  exact hk _ _ ν [.ref 404] (μ) (List.Mem.head _) (post_mk g rfl g.hi (fun _ _ => ⟨rfl, rfl⟩) (by decide) (by decide) (fun _ _ => rfl) ⟨(show (0 : Int) ≤ ν 0 ∧ ν 0 ≤ 0 from ⟨by omega, by omega⟩), trivial⟩ trivial ⟨⟨404, List.Mem.head _, rfl⟩, trivial⟩ rfl trivial ⟨⟨by decide, (show fl_P 6 (ν 0 + 0) (μ).2.2.1 from pl_end (c := 15) (y := 0) (by decide) (by omega) (by omega) p0 (pq_in (c := 15) (by decide) (by omega) p1))⟩, trivial⟩)
set_option maxHeartbeats 2000000 in
theorem sp_plEnd20 {SH : dw_Sh} {TT : Nat → dw_T} {K : dw_K} (hE : (EE SH TT).ok) : dx_SOK (EE SH TT) (pr_X12_plan K) 113 sg_plEnd20 := by
  intro ν ls vs args rest μ bc bs hvs hargs hcat g hk
  obtain ⟨v0, rfl, e0⟩ := vs1 (f := fun i => ls[i]?) (a := 0) hvs
  obtain rfl := ar0 hargs
  obtain ⟨g0, -⟩ := g.gl
  rw [show v0 = some (.ref 404) from gV_th g0] at e0
  have f0 : (μ.2.2.1 404 21).toInt = ν 0 + 20 := (g.fa _ (List.Mem.head _)).2
  have f1 : (μ.2.2.1 408 0).toInt = ν 0 + 20 := (g.fa _ (List.Mem.tail _ (List.Mem.head _))).2
  have p0 : fl_P 23 (ν 0 + 61) μ.2.2.1 := (g.fl _ (List.Mem.head _)).2
  have p1 : fl_P 25 (ν 0 + 20) μ.2.2.1 := (g.fl _ (List.Mem.tail _ (List.Mem.head _))).2
  have z0 : ν 0 = 0 := g.z
  refine q_ald rfl e0 ?_
  exact hk _ _ ν [.ref 404] (μ) (List.Mem.head _) (post_mk g rfl g.hi (fun _ _ => ⟨rfl, rfl⟩) (by decide) (by decide) (fun _ _ => rfl) ⟨(show (0 : Int) ≤ ν 0 ∧ ν 0 ≤ 0 from ⟨by omega, by omega⟩), trivial⟩ trivial ⟨⟨404, List.Mem.head _, rfl⟩, trivial⟩ rfl trivial ⟨⟨by decide, (show fl_P 6 (ν 0 + 0) (μ).2.2.1 from pl_end (c := 20) (y := 0) (by decide) (by omega) (by omega) p0 (pq_in (c := 20) (by decide) (by omega) p1))⟩, trivial⟩)
set_option maxHeartbeats 2000000 in
theorem sp_plEnd25 {SH : dw_Sh} {TT : Nat → dw_T} {K : dw_K} (hE : (EE SH TT).ok) : dx_SOK (EE SH TT) (pr_X12_plan K) 113 sg_plEnd25 := by
  intro ν ls vs args rest μ bc bs hvs hargs hcat g hk
  obtain ⟨v0, rfl, e0⟩ := vs1 (f := fun i => ls[i]?) (a := 0) hvs
  obtain rfl := ar0 hargs
  obtain ⟨g0, -⟩ := g.gl
  rw [show v0 = some (.ref 404) from gV_th g0] at e0
  have f0 : (μ.2.2.1 404 21).toInt = ν 0 + 25 := (g.fa _ (List.Mem.head _)).2
  have f1 : (μ.2.2.1 408 0).toInt = ν 0 + 25 := (g.fa _ (List.Mem.tail _ (List.Mem.head _))).2
  have p0 : fl_P 23 (ν 0 + 76) μ.2.2.1 := (g.fl _ (List.Mem.head _)).2
  have p1 : fl_P 25 (ν 0 + 25) μ.2.2.1 := (g.fl _ (List.Mem.tail _ (List.Mem.head _))).2
  have z0 : ν 0 = 0 := g.z
  refine q_ald rfl e0 ?_
  exact hk _ _ ν [.ref 404] (μ) (List.Mem.head _) (post_mk g rfl g.hi (fun _ _ => ⟨rfl, rfl⟩) (by decide) (by decide) (fun _ _ => rfl) ⟨(show (0 : Int) ≤ ν 0 ∧ ν 0 ≤ 0 from ⟨by omega, by omega⟩), trivial⟩ trivial ⟨⟨404, List.Mem.head _, rfl⟩, trivial⟩ rfl trivial ⟨⟨by decide, (show fl_P 6 (ν 0 + 0) (μ).2.2.1 from pl_end (c := 25) (y := 0) (by decide) (by omega) (by omega) p0 (pq_in (c := 25) (by decide) (by omega) p1))⟩, trivial⟩)
set_option maxHeartbeats 2000000 in
theorem sp_plEnd30 {SH : dw_Sh} {TT : Nat → dw_T} {K : dw_K} (hE : (EE SH TT).ok) : dx_SOK (EE SH TT) (pr_X12_plan K) 113 sg_plEnd30 := by
  intro ν ls vs args rest μ bc bs hvs hargs hcat g hk
  obtain ⟨v0, rfl, e0⟩ := vs1 (f := fun i => ls[i]?) (a := 0) hvs
  obtain rfl := ar0 hargs
  obtain ⟨g0, -⟩ := g.gl
  rw [show v0 = some (.ref 404) from gV_th g0] at e0
  have f0 : (μ.2.2.1 404 21).toInt = ν 0 + 30 := (g.fa _ (List.Mem.head _)).2
  have f1 : (μ.2.2.1 408 0).toInt = ν 0 + 30 := (g.fa _ (List.Mem.tail _ (List.Mem.head _))).2
  have p0 : fl_P 23 (ν 0 + 91) μ.2.2.1 := (g.fl _ (List.Mem.head _)).2
  have p1 : fl_P 25 (ν 0 + 30) μ.2.2.1 := (g.fl _ (List.Mem.tail _ (List.Mem.head _))).2
  have z0 : ν 0 = 0 := g.z
  refine q_ald rfl e0 ?_
  exact hk _ _ ν [.ref 404] (μ) (List.Mem.head _) (post_mk g rfl g.hi (fun _ _ => ⟨rfl, rfl⟩) (by decide) (by decide) (fun _ _ => rfl) ⟨(show (0 : Int) ≤ ν 0 ∧ ν 0 ≤ 0 from ⟨by omega, by omega⟩), trivial⟩ trivial ⟨⟨404, List.Mem.head _, rfl⟩, trivial⟩ rfl trivial ⟨⟨by decide, (show fl_P 6 (ν 0 + 0) (μ).2.2.1 from pl_end (c := 30) (y := 0) (by decide) (by omega) (by omega) p0 (pq_in (c := 30) (by decide) (by omega) p1))⟩, trivial⟩)
set_option maxHeartbeats 2000000 in
theorem sp_reCopy0 {SH : dw_Sh} {TT : Nat → dw_T} {K : dw_K} (hE : (EE SH TT).ok) : dx_SOK (EE SH TT) (pr_X12_restore K) 34 sg_reCopy0 := by
  intro ν ls vs args rest μ bc bs hvs hargs hcat g hk
  obtain ⟨v0, v1, v2, rfl, e0, e1, e2⟩ := vs3 (f := fun i => ls[i]?) (a := 0) (b := 1) (c := 2) hvs
  obtain rfl := ar0 hargs
  obtain ⟨g0, g1, g2, -⟩ := g.gl
  rw [show v0 = some (.ref 404) from gV_th g0] at e0
  obtain ⟨-, w1, h1, q1⟩ := g1
  rw [h1] at e1
  obtain ⟨-, w2, h2, q2⟩ := g2
  rw [h2] at e2
  have p0 : fl_P 15 (ν 1 + 0) μ.2.2.1 := (g.fl _ (List.Mem.head _)).2
  have b1 : (0 : Int) ≤ ν 1 ∧ ν 1 ≤ 1426 := g.iv 1 (by decide)
  have z0 : ν 0 = 0 := g.z
  have cw : ((1427 : Int32) * w1).toInt = 0 := i_mul (n := 0) (by rw [show (1427 : Int32).toInt = 1427 from rfl, q1]; omega) (by decide) (by decide)
  refine q_ald rfl e0 ?_
  have k404 : (μ.2.1 404).1 = 12 := by rw [g.sh]; exact (hE.sh 404).1
  have n404 : (μ.2.1 404).2.1 = 57 := by rw [g.sh]; exact (hE.sh 404).2.1
  have r404_6 : (μ.2.1 404).2.2 6 = some 406 := by rw [g.sh]; exact (hE.sh 404).2.2 6
  refine q_getr rfl k404 r404_6 ?_
  refine q_ild rfl e2 ?_
  refine q_ald rfl e0 ?_
  have r404_55 : (μ.2.1 404).2.2 55 = some 432 := by rw [g.sh]; exact (hE.sh 404).2.2 55
  refine q_getr rfl k404 r404_55 ?_
  have cst1427 : (1427 : Int32).toInt = 1427 := rfl
  refine q_ic rfl ?_
  refine q_ild rfl e1 ?_
  refine q_mul rfl ?_
  have t1 : ((1427 : Int32) * w1).toInt = 1427 * (w1).toInt := i_mul (by rw [cst1427]) (by omega) (by omega)
  refine q_ild rfl e2 ?_
  refine q_add rfl ?_
  have t2 : (((1427 : Int32) * w1) + w2).toInt = (((1427 : Int32) * w1)).toInt + (w2).toInt := i_add (by first | omega | (simp; omega)) (by first | omega | (simp; omega))
  have k432 : (μ.2.1 432).1 = 16 := by rw [g.sh]; exact (hE.sh 432).1
  have n432 : (μ.2.1 432).2.1 = 2854 := by rw [g.sh]; exact (hE.sh 432).2.1
  refine q_xald rfl (Or.inl rfl) k432 n432 (by omega) (by omega) ?_
  have k406 : (μ.2.1 406).1 = 16 := by rw [g.sh]; exact (hE.sh 406).1
  have n406 : (μ.2.1 406).2.1 = 1427 := by rw [g.sh]; exact (hE.sh 406).2.1
  refine q_iast rfl k406 n406 (by omega) (by omega) ?_
  have en : (((1427 : Int32) * w1) + w2).toInt.toNat = w2.toInt.toNat := by omega
  rw [en]
  have hh : dx_in (dx_seg (dx_ce 406).iv w2.toInt.toNat) (μ.2.2.1 432 (w2.toInt.toNat)).toInt := by rw [← (hi32 w2.toInt.toNat (by omega)).1]; exact g.hi 432 _
  exact hk _ _ ν [] (dw_si μ 406 w2.toInt.toNat (μ.2.2.1 432 (w2.toInt.toNat))) (List.Mem.head _) (post_mk g rfl (up_hi g.hi hh) (up_fr (List.Mem.head _)) (by decide) (by decide) (fun _ _ => rfl) ⟨(show (0 : Int) ≤ ν 0 ∧ ν 0 ≤ 0 from ⟨by omega, by omega⟩), (show (0 : Int) ≤ ν 1 ∧ ν 1 ≤ 1426 from ⟨by omega, by omega⟩), trivial⟩ trivial trivial rfl trivial ⟨⟨by decide, (show fl_P 15 (ν 1 + 1) (dw_si μ 406 w2.toInt.toNat (μ.2.2.1 432 (w2.toInt.toNat))).2.2.1 from fun j hj hx => by
      show dw_up μ.2.2.1 406 w2.toInt.toNat (μ.2.2.1 432 (w2.toInt.toNat)) 432 j = dw_up μ.2.2.1 406 w2.toInt.toNat (μ.2.2.1 432 (w2.toInt.toNat)) 406 j
      rw [up_ne (a' := 432) (Or.inl (by decide))]
      by_cases e : j = w2.toInt.toNat
      · rw [e, up_at]
      · rw [up_ne (Or.inr e)]; exact p0 j hj (by omega))⟩, trivial⟩)
set_option maxHeartbeats 2000000 in
theorem sp_reZero1 {SH : dw_Sh} {TT : Nat → dw_T} {K : dw_K} (hE : (EE SH TT).ok) : dx_SOK (EE SH TT) (pr_X12_restore K) 25 sg_reZero1 := by
  intro ν ls vs args rest μ bc bs hvs hargs hcat g hk
  obtain ⟨v0, v1, rfl, e0, e1⟩ := vs2 (f := fun i => ls[i]?) (a := 0) (b := 1) hvs
  obtain rfl := ar0 hargs
  obtain ⟨g0, g1, -⟩ := g.gl
  rw [show v0 = some (.ref 404) from gV_th g0] at e0
  obtain ⟨-, w1, h1, q1⟩ := g1
  rw [h1] at e1
  have z0 : ν 0 = 0 := g.z
  have cst0 : (0 : Int32).toInt = 0 := rfl
  refine q_ic rfl ?_
  exact hk _ _ ν [.int 0] (μ) (List.Mem.head _) (post_mk g rfl g.hi (fun _ _ => ⟨rfl, rfl⟩) (by decide) (by decide) (fun _ _ => rfl) ⟨(show (0 : Int) ≤ ν 0 ∧ ν 0 ≤ 0 from ⟨by omega, by omega⟩), trivial⟩ trivial ⟨⟨by decide, 0, rfl, by rw [z0]; rfl⟩, trivial⟩ rfl trivial ⟨⟨by decide, (show fl_P 16 (ν 0 + 0) (μ).2.2.1 from fun j _ hj => absurd hj (by omega))⟩, trivial⟩)
set_option maxHeartbeats 2000000 in
theorem sp_waZero {SH : dw_Sh} {TT : Nat → dw_T} {K : dw_K} (hE : (EE SH TT).ok) : dx_SOK (EE SH TT) (pr_X12_walk K) 102 sg_waZero := by
  intro ν ls vs args rest μ bc bs hvs hargs hcat g hk
  obtain ⟨v0, rfl, e0⟩ := vs1 (f := fun i => ls[i]?) (a := 0) hvs
  obtain rfl := ar0 hargs
  obtain ⟨g0, -⟩ := g.gl
  rw [show v0 = some (.ref 404) from gV_th g0] at e0
  have z0 : ν 0 = 0 := g.z
  have cst1 : (1 : Int32).toInt = 1 := rfl
  refine q_ic rfl ?_
  have hs := fl_sum_le (f := fun c => (μ.2.2.1 425 c).toInt) (l := -2147483648) (u := 2147483647) 144 (fun c _ => ⟨dx_b1 _, dx_b2 _⟩)
  obtain ⟨ν', hag, hn0⟩ := nu1 ν 1 (fl_sum (fun c => (μ.2.2.1 425 c).toInt) 144)
  have a0 : ν' 0 = ν 0 := hag 0 (by decide)
  exact hk _ _ ν' [.int 1] (μ) (List.Mem.head _) (post_mk g rfl g.hi (fun _ _ => ⟨rfl, rfl⟩) (by decide) (by decide) hag ⟨(show (0 : Int) ≤ ν' 0 ∧ ν' 0 ≤ 0 from ⟨by omega, by omega⟩), (show (-309237645312 : Int) ≤ ν' 1 ∧ ν' 1 ≤ 309237645312 from ⟨by omega, by omega⟩), trivial⟩ trivial ⟨⟨by decide, 1, rfl, by rw [a0, z0]; rfl⟩, trivial⟩ rfl trivial ⟨⟨by decide, (show fl_P 13 (ν' 1 + 0) (μ).2.2.1 from by show ν' 1 + 0 = fl_sum (fun c => (μ.2.2.1 425 c).toInt) 144; omega)⟩, trivial⟩)
set_option maxHeartbeats 2000000 in
theorem sp_st13_2 {SH : dw_Sh} {TT : Nat → dw_T} {K : dw_K} (hE : (EE SH TT).ok) : dx_SOK (EE SH TT) (pr_X9_says K) 13 sg_st13_2 := by
  intro ν ls vs args rest μ bc bs hvs hargs hcat g hk
  obtain rfl := vs0 (f := fun i => ls[i]?) hvs
  obtain ⟨x0, rfl⟩ := ar1 hargs
  obtain ⟨g0, -⟩ := g.gl
  obtain rfl : x0 = .ref 1000003 := Option.some.inj (gV_th g0)
  have z0 : ν 0 = 0 := g.z
  have hs : dw_isS 1000003 := isS 2 (by decide)
  have hc : dw_cats rest ≤ 8 := by omega
  refine q_callT1 rfl hs hc (t_length hs ?_)
  rw [show Int32.ofNat (dw_sb (dw_sx 1000003)).length = 5 from by decide +kernel]
  exact hk _ _ ν [.int 5] (μ) (List.Mem.head _) (post_mk g rfl g.hi (fun _ _ => ⟨rfl, rfl⟩) (by decide) (by decide) (fun _ _ => rfl) ⟨(show (0 : Int) ≤ ν 0 ∧ ν 0 ≤ 0 from ⟨by omega, by omega⟩), trivial⟩ trivial ⟨⟨by decide, 5, rfl, by rw [z0]; rfl⟩, trivial⟩ rfl trivial trivial)
set_option maxHeartbeats 2000000 in
theorem sp_st13_7 {SH : dw_Sh} {TT : Nat → dw_T} {K : dw_K} (hE : (EE SH TT).ok) : dx_SOK (EE SH TT) (pr_X9_says K) 13 sg_st13_7 := by
  intro ν ls vs args rest μ bc bs hvs hargs hcat g hk
  obtain rfl := vs0 (f := fun i => ls[i]?) hvs
  obtain ⟨x0, rfl⟩ := ar1 hargs
  obtain ⟨g0, -⟩ := g.gl
  obtain rfl : x0 = .ref 1000008 := Option.some.inj (gV_th g0)
  have z0 : ν 0 = 0 := g.z
  have hs : dw_isS 1000008 := isS 7 (by decide)
  have hc : dw_cats rest ≤ 8 := by omega
  refine q_callT1 rfl hs hc (t_length hs ?_)
  rw [show Int32.ofNat (dw_sb (dw_sx 1000008)).length = 4 from by decide +kernel]
  exact hk _ _ ν [.int 4] (μ) (List.Mem.head _) (post_mk g rfl g.hi (fun _ _ => ⟨rfl, rfl⟩) (by decide) (by decide) (fun _ _ => rfl) ⟨(show (0 : Int) ≤ ν 0 ∧ ν 0 ≤ 0 from ⟨by omega, by omega⟩), trivial⟩ trivial ⟨⟨by decide, 4, rfl, by rw [z0]; rfl⟩, trivial⟩ rfl trivial trivial)
set_option maxHeartbeats 2000000 in
theorem sp_st13_12 {SH : dw_Sh} {TT : Nat → dw_T} {K : dw_K} (hE : (EE SH TT).ok) : dx_SOK (EE SH TT) (pr_X9_says K) 13 sg_st13_12 := by
  intro ν ls vs args rest μ bc bs hvs hargs hcat g hk
  obtain rfl := vs0 (f := fun i => ls[i]?) hvs
  obtain ⟨x0, rfl⟩ := ar1 hargs
  obtain ⟨g0, -⟩ := g.gl
  obtain rfl : x0 = .ref 1000013 := Option.some.inj (gV_th g0)
  have z0 : ν 0 = 0 := g.z
  have hs : dw_isS 1000013 := isS 12 (by decide)
  have hc : dw_cats rest ≤ 8 := by omega
  refine q_callT1 rfl hs hc (t_length hs ?_)
  rw [show Int32.ofNat (dw_sb (dw_sx 1000013)).length = 5 from by decide +kernel]
  exact hk _ _ ν [.int 5] (μ) (List.Mem.head _) (post_mk g rfl g.hi (fun _ _ => ⟨rfl, rfl⟩) (by decide) (by decide) (fun _ _ => rfl) ⟨(show (0 : Int) ≤ ν 0 ∧ ν 0 ≤ 0 from ⟨by omega, by omega⟩), trivial⟩ trivial ⟨⟨by decide, 5, rfl, by rw [z0]; rfl⟩, trivial⟩ rfl trivial trivial)
set_option maxHeartbeats 2000000 in
theorem sp_st13_17 {SH : dw_Sh} {TT : Nat → dw_T} {K : dw_K} (hE : (EE SH TT).ok) : dx_SOK (EE SH TT) (pr_X9_says K) 13 sg_st13_17 := by
  intro ν ls vs args rest μ bc bs hvs hargs hcat g hk
  obtain rfl := vs0 (f := fun i => ls[i]?) hvs
  obtain ⟨x0, rfl⟩ := ar1 hargs
  obtain ⟨g0, -⟩ := g.gl
  obtain rfl : x0 = .ref 1000018 := Option.some.inj (gV_th g0)
  have z0 : ν 0 = 0 := g.z
  have hs : dw_isS 1000018 := isS 17 (by decide)
  have hc : dw_cats rest ≤ 8 := by omega
  refine q_callT1 rfl hs hc (t_length hs ?_)
  rw [show Int32.ofNat (dw_sb (dw_sx 1000018)).length = 5 from by decide +kernel]
  exact hk _ _ ν [.int 5] (μ) (List.Mem.head _) (post_mk g rfl g.hi (fun _ _ => ⟨rfl, rfl⟩) (by decide) (by decide) (fun _ _ => rfl) ⟨(show (0 : Int) ≤ ν 0 ∧ ν 0 ≤ 0 from ⟨by omega, by omega⟩), trivial⟩ trivial ⟨⟨by decide, 5, rfl, by rw [z0]; rfl⟩, trivial⟩ rfl trivial trivial)
set_option maxHeartbeats 2000000 in
theorem sp_st13_22 {SH : dw_Sh} {TT : Nat → dw_T} {K : dw_K} (hE : (EE SH TT).ok) : dx_SOK (EE SH TT) (pr_X9_says K) 13 sg_st13_22 := by
  intro ν ls vs args rest μ bc bs hvs hargs hcat g hk
  obtain rfl := vs0 (f := fun i => ls[i]?) hvs
  obtain ⟨x0, rfl⟩ := ar1 hargs
  obtain ⟨g0, -⟩ := g.gl
  obtain rfl : x0 = .ref 1000023 := Option.some.inj (gV_th g0)
  have z0 : ν 0 = 0 := g.z
  have hs : dw_isS 1000023 := isS 22 (by decide)
  have hc : dw_cats rest ≤ 8 := by omega
  refine q_callT1 rfl hs hc (t_length hs ?_)
  rw [show Int32.ofNat (dw_sb (dw_sx 1000023)).length = 2 from by decide +kernel]
  exact hk _ _ ν [.int 2] (μ) (List.Mem.head _) (post_mk g rfl g.hi (fun _ _ => ⟨rfl, rfl⟩) (by decide) (by decide) (fun _ _ => rfl) ⟨(show (0 : Int) ≤ ν 0 ∧ ν 0 ≤ 0 from ⟨by omega, by omega⟩), trivial⟩ trivial ⟨⟨by decide, 2, rfl, by rw [z0]; rfl⟩, trivial⟩ rfl trivial trivial)
set_option maxHeartbeats 2000000 in
theorem sp_st25_1 {SH : dw_Sh} {TT : Nat → dw_T} {K : dw_K} (hE : (EE SH TT).ok) : dx_SOK (EE SH TT) (pr_X9_says K) 25 sg_st25_1 := by
  intro ν ls vs args rest μ bc bs hvs hargs hcat g hk
  obtain rfl := vs0 (f := fun i => ls[i]?) hvs
  obtain ⟨x0, rfl⟩ := ar1 hargs
  obtain ⟨g0, -⟩ := g.gl
  obtain rfl : x0 = .ref 1000002 := Option.some.inj (gV_th g0)
  have z0 : ν 0 = 0 := g.z
  have hs : dw_isS 1000002 := isS 1 (by decide)
  have hc : dw_cats rest ≤ 8 := by omega
  refine q_callT1 rfl hs hc (t_length hs ?_)
  rw [show Int32.ofNat (dw_sb (dw_sx 1000002)).length = 4 from by decide +kernel]
  exact hk _ _ ν [.int 4] (μ) (List.Mem.head _) (post_mk g rfl g.hi (fun _ _ => ⟨rfl, rfl⟩) (by decide) (by decide) (fun _ _ => rfl) ⟨(show (0 : Int) ≤ ν 0 ∧ ν 0 ≤ 0 from ⟨by omega, by omega⟩), trivial⟩ trivial ⟨⟨by decide, 4, rfl, by rw [z0]; rfl⟩, trivial⟩ rfl trivial trivial)
set_option maxHeartbeats 2000000 in
theorem sp_st25_6 {SH : dw_Sh} {TT : Nat → dw_T} {K : dw_K} (hE : (EE SH TT).ok) : dx_SOK (EE SH TT) (pr_X9_says K) 25 sg_st25_6 := by
  intro ν ls vs args rest μ bc bs hvs hargs hcat g hk
  obtain rfl := vs0 (f := fun i => ls[i]?) hvs
  obtain ⟨x0, rfl⟩ := ar1 hargs
  obtain ⟨g0, -⟩ := g.gl
  obtain rfl : x0 = .ref 1000007 := Option.some.inj (gV_th g0)
  have z0 : ν 0 = 0 := g.z
  have hs : dw_isS 1000007 := isS 6 (by decide)
  have hc : dw_cats rest ≤ 8 := by omega
  refine q_callT1 rfl hs hc (t_length hs ?_)
  rw [show Int32.ofNat (dw_sb (dw_sx 1000007)).length = 5 from by decide +kernel]
  exact hk _ _ ν [.int 5] (μ) (List.Mem.head _) (post_mk g rfl g.hi (fun _ _ => ⟨rfl, rfl⟩) (by decide) (by decide) (fun _ _ => rfl) ⟨(show (0 : Int) ≤ ν 0 ∧ ν 0 ≤ 0 from ⟨by omega, by omega⟩), trivial⟩ trivial ⟨⟨by decide, 5, rfl, by rw [z0]; rfl⟩, trivial⟩ rfl trivial trivial)
set_option maxHeartbeats 2000000 in
theorem sp_st25_11 {SH : dw_Sh} {TT : Nat → dw_T} {K : dw_K} (hE : (EE SH TT).ok) : dx_SOK (EE SH TT) (pr_X9_says K) 25 sg_st25_11 := by
  intro ν ls vs args rest μ bc bs hvs hargs hcat g hk
  obtain rfl := vs0 (f := fun i => ls[i]?) hvs
  obtain ⟨x0, rfl⟩ := ar1 hargs
  obtain ⟨g0, -⟩ := g.gl
  obtain rfl : x0 = .ref 1000012 := Option.some.inj (gV_th g0)
  have z0 : ν 0 = 0 := g.z
  have hs : dw_isS 1000012 := isS 11 (by decide)
  have hc : dw_cats rest ≤ 8 := by omega
  refine q_callT1 rfl hs hc (t_length hs ?_)
  rw [show Int32.ofNat (dw_sb (dw_sx 1000012)).length = 4 from by decide +kernel]
  exact hk _ _ ν [.int 4] (μ) (List.Mem.head _) (post_mk g rfl g.hi (fun _ _ => ⟨rfl, rfl⟩) (by decide) (by decide) (fun _ _ => rfl) ⟨(show (0 : Int) ≤ ν 0 ∧ ν 0 ≤ 0 from ⟨by omega, by omega⟩), trivial⟩ trivial ⟨⟨by decide, 4, rfl, by rw [z0]; rfl⟩, trivial⟩ rfl trivial trivial)
set_option maxHeartbeats 2000000 in
theorem sp_st25_16 {SH : dw_Sh} {TT : Nat → dw_T} {K : dw_K} (hE : (EE SH TT).ok) : dx_SOK (EE SH TT) (pr_X9_says K) 25 sg_st25_16 := by
  intro ν ls vs args rest μ bc bs hvs hargs hcat g hk
  obtain rfl := vs0 (f := fun i => ls[i]?) hvs
  obtain ⟨x0, rfl⟩ := ar1 hargs
  obtain ⟨g0, -⟩ := g.gl
  obtain rfl : x0 = .ref 1000017 := Option.some.inj (gV_th g0)
  have z0 : ν 0 = 0 := g.z
  have hs : dw_isS 1000017 := isS 16 (by decide)
  have hc : dw_cats rest ≤ 8 := by omega
  refine q_callT1 rfl hs hc (t_length hs ?_)
  rw [show Int32.ofNat (dw_sb (dw_sx 1000017)).length = 5 from by decide +kernel]
  exact hk _ _ ν [.int 5] (μ) (List.Mem.head _) (post_mk g rfl g.hi (fun _ _ => ⟨rfl, rfl⟩) (by decide) (by decide) (fun _ _ => rfl) ⟨(show (0 : Int) ≤ ν 0 ∧ ν 0 ≤ 0 from ⟨by omega, by omega⟩), trivial⟩ trivial ⟨⟨by decide, 5, rfl, by rw [z0]; rfl⟩, trivial⟩ rfl trivial trivial)
set_option maxHeartbeats 2000000 in
theorem sp_st25_21 {SH : dw_Sh} {TT : Nat → dw_T} {K : dw_K} (hE : (EE SH TT).ok) : dx_SOK (EE SH TT) (pr_X9_says K) 25 sg_st25_21 := by
  intro ν ls vs args rest μ bc bs hvs hargs hcat g hk
  obtain rfl := vs0 (f := fun i => ls[i]?) hvs
  obtain ⟨x0, rfl⟩ := ar1 hargs
  obtain ⟨g0, -⟩ := g.gl
  obtain rfl : x0 = .ref 1000022 := Option.some.inj (gV_th g0)
  have z0 : ν 0 = 0 := g.z
  have hs : dw_isS 1000022 := isS 21 (by decide)
  have hc : dw_cats rest ≤ 8 := by omega
  refine q_callT1 rfl hs hc (t_length hs ?_)
  rw [show Int32.ofNat (dw_sb (dw_sx 1000022)).length = 3 from by decide +kernel]
  exact hk _ _ ν [.int 3] (μ) (List.Mem.head _) (post_mk g rfl g.hi (fun _ _ => ⟨rfl, rfl⟩) (by decide) (by decide) (fun _ _ => rfl) ⟨(show (0 : Int) ≤ ν 0 ∧ ν 0 ≤ 0 from ⟨by omega, by omega⟩), trivial⟩ trivial ⟨⟨by decide, 3, rfl, by rw [z0]; rfl⟩, trivial⟩ rfl trivial trivial)
set_option maxHeartbeats 2000000 in
theorem sp_st43_0 {SH : dw_Sh} {TT : Nat → dw_T} {K : dw_K} (hE : (EE SH TT).ok) : dx_SOK (EE SH TT) (pr_X9_says K) 43 sg_st43_0 := by
  intro ν ls vs args rest μ bc bs hvs hargs hcat g hk
  obtain rfl := vs0 (f := fun i => ls[i]?) hvs
  obtain ⟨x0, x1, rfl⟩ := ar2 hargs
  obtain ⟨g0, g1, -⟩ := g.gl
  obtain rfl : x0 = .ref 1000001 := Option.some.inj (gV_th g0)
  obtain ⟨-, w1, h1, q1⟩ := g1
  obtain rfl : x1 = .int w1 := Option.some.inj h1
  have b1 : (0 : Int) ≤ ν 1 ∧ ν 1 ≤ 3 := g.iv 1 (by decide)
  have z0 : ν 0 = 0 := g.z
  have hs : dw_isS 1000001 := isS 0 (by decide)
  have hc : dw_cats rest ≤ 8 := by omega
  have hn : (dw_sb (dw_sx 1000001)).length = 4 := by decide +kernel
  refine q_callT2 rfl hs hc (t_charAt hs (by omega) (by rw [hn]; omega) (by decide +kernel) (fun w l1 l2 => ?_))
  obtain ⟨ν', hag, hn0⟩ := nu1 ν 2 (w.toInt)
  have a0 : ν' 0 = ν 0 := hag 0 (by decide)
  have a1 : ν' 1 = ν 1 := hag 1 (by decide)
  exact hk _ _ ν' [.int w] (μ) (List.Mem.head _) (post_mk g rfl g.hi (fun _ _ => ⟨rfl, rfl⟩) (by decide) (by decide) hag ⟨(show (0 : Int) ≤ ν' 0 ∧ ν' 0 ≤ 0 from ⟨by omega, by omega⟩), (show (0 : Int) ≤ ν' 1 ∧ ν' 1 ≤ 3 from ⟨by omega, by omega⟩), (show (0 : Int) ≤ ν' 2 ∧ ν' 2 ≤ 65535 from ⟨by omega, by omega⟩), trivial⟩ trivial ⟨⟨by decide, w, rfl, by show _ = ν' 2 + 0; omega⟩, trivial⟩ rfl trivial trivial)
set_option maxHeartbeats 2000000 in
theorem sp_st43_5 {SH : dw_Sh} {TT : Nat → dw_T} {K : dw_K} (hE : (EE SH TT).ok) : dx_SOK (EE SH TT) (pr_X9_says K) 43 sg_st43_5 := by
  intro ν ls vs args rest μ bc bs hvs hargs hcat g hk
  obtain rfl := vs0 (f := fun i => ls[i]?) hvs
  obtain ⟨x0, x1, rfl⟩ := ar2 hargs
  obtain ⟨g0, g1, -⟩ := g.gl
  obtain rfl : x0 = .ref 1000006 := Option.some.inj (gV_th g0)
  obtain ⟨-, w1, h1, q1⟩ := g1
  obtain rfl : x1 = .int w1 := Option.some.inj h1
  have b1 : (0 : Int) ≤ ν 1 ∧ ν 1 ≤ 4 := g.iv 1 (by decide)
  have z0 : ν 0 = 0 := g.z
  have hs : dw_isS 1000006 := isS 5 (by decide)
  have hc : dw_cats rest ≤ 8 := by omega
  have hn : (dw_sb (dw_sx 1000006)).length = 5 := by decide +kernel
  refine q_callT2 rfl hs hc (t_charAt hs (by omega) (by rw [hn]; omega) (by decide +kernel) (fun w l1 l2 => ?_))
  obtain ⟨ν', hag, hn0⟩ := nu1 ν 2 (w.toInt)
  have a0 : ν' 0 = ν 0 := hag 0 (by decide)
  have a1 : ν' 1 = ν 1 := hag 1 (by decide)
  exact hk _ _ ν' [.int w] (μ) (List.Mem.head _) (post_mk g rfl g.hi (fun _ _ => ⟨rfl, rfl⟩) (by decide) (by decide) hag ⟨(show (0 : Int) ≤ ν' 0 ∧ ν' 0 ≤ 0 from ⟨by omega, by omega⟩), (show (0 : Int) ≤ ν' 1 ∧ ν' 1 ≤ 4 from ⟨by omega, by omega⟩), (show (0 : Int) ≤ ν' 2 ∧ ν' 2 ≤ 65535 from ⟨by omega, by omega⟩), trivial⟩ trivial ⟨⟨by decide, w, rfl, by show _ = ν' 2 + 0; omega⟩, trivial⟩ rfl trivial trivial)
set_option maxHeartbeats 2000000 in
theorem sp_st43_10 {SH : dw_Sh} {TT : Nat → dw_T} {K : dw_K} (hE : (EE SH TT).ok) : dx_SOK (EE SH TT) (pr_X9_says K) 43 sg_st43_10 := by
  intro ν ls vs args rest μ bc bs hvs hargs hcat g hk
  obtain rfl := vs0 (f := fun i => ls[i]?) hvs
  obtain ⟨x0, x1, rfl⟩ := ar2 hargs
  obtain ⟨g0, g1, -⟩ := g.gl
  obtain rfl : x0 = .ref 1000011 := Option.some.inj (gV_th g0)
  obtain ⟨-, w1, h1, q1⟩ := g1
  obtain rfl : x1 = .int w1 := Option.some.inj h1
  have b1 : (0 : Int) ≤ ν 1 ∧ ν 1 ≤ 1 := g.iv 1 (by decide)
  have z0 : ν 0 = 0 := g.z
  have hs : dw_isS 1000011 := isS 10 (by decide)
  have hc : dw_cats rest ≤ 8 := by omega
  have hn : (dw_sb (dw_sx 1000011)).length = 2 := by decide +kernel
  refine q_callT2 rfl hs hc (t_charAt hs (by omega) (by rw [hn]; omega) (by decide +kernel) (fun w l1 l2 => ?_))
  obtain ⟨ν', hag, hn0⟩ := nu1 ν 2 (w.toInt)
  have a0 : ν' 0 = ν 0 := hag 0 (by decide)
  have a1 : ν' 1 = ν 1 := hag 1 (by decide)
  exact hk _ _ ν' [.int w] (μ) (List.Mem.head _) (post_mk g rfl g.hi (fun _ _ => ⟨rfl, rfl⟩) (by decide) (by decide) hag ⟨(show (0 : Int) ≤ ν' 0 ∧ ν' 0 ≤ 0 from ⟨by omega, by omega⟩), (show (0 : Int) ≤ ν' 1 ∧ ν' 1 ≤ 1 from ⟨by omega, by omega⟩), (show (0 : Int) ≤ ν' 2 ∧ ν' 2 ≤ 65535 from ⟨by omega, by omega⟩), trivial⟩ trivial ⟨⟨by decide, w, rfl, by show _ = ν' 2 + 0; omega⟩, trivial⟩ rfl trivial trivial)
set_option maxHeartbeats 2000000 in
theorem sp_st43_15 {SH : dw_Sh} {TT : Nat → dw_T} {K : dw_K} (hE : (EE SH TT).ok) : dx_SOK (EE SH TT) (pr_X9_says K) 43 sg_st43_15 := by
  intro ν ls vs args rest μ bc bs hvs hargs hcat g hk
  obtain rfl := vs0 (f := fun i => ls[i]?) hvs
  obtain ⟨x0, x1, rfl⟩ := ar2 hargs
  obtain ⟨g0, g1, -⟩ := g.gl
  obtain rfl : x0 = .ref 1000016 := Option.some.inj (gV_th g0)
  obtain ⟨-, w1, h1, q1⟩ := g1
  obtain rfl : x1 = .int w1 := Option.some.inj h1
  have b1 : (0 : Int) ≤ ν 1 ∧ ν 1 ≤ 2 := g.iv 1 (by decide)
  have z0 : ν 0 = 0 := g.z
  have hs : dw_isS 1000016 := isS 15 (by decide)
  have hc : dw_cats rest ≤ 8 := by omega
  have hn : (dw_sb (dw_sx 1000016)).length = 3 := by decide +kernel
  refine q_callT2 rfl hs hc (t_charAt hs (by omega) (by rw [hn]; omega) (by decide +kernel) (fun w l1 l2 => ?_))
  obtain ⟨ν', hag, hn0⟩ := nu1 ν 2 (w.toInt)
  have a0 : ν' 0 = ν 0 := hag 0 (by decide)
  have a1 : ν' 1 = ν 1 := hag 1 (by decide)
  exact hk _ _ ν' [.int w] (μ) (List.Mem.head _) (post_mk g rfl g.hi (fun _ _ => ⟨rfl, rfl⟩) (by decide) (by decide) hag ⟨(show (0 : Int) ≤ ν' 0 ∧ ν' 0 ≤ 0 from ⟨by omega, by omega⟩), (show (0 : Int) ≤ ν' 1 ∧ ν' 1 ≤ 2 from ⟨by omega, by omega⟩), (show (0 : Int) ≤ ν' 2 ∧ ν' 2 ≤ 65535 from ⟨by omega, by omega⟩), trivial⟩ trivial ⟨⟨by decide, w, rfl, by show _ = ν' 2 + 0; omega⟩, trivial⟩ rfl trivial trivial)
set_option maxHeartbeats 2000000 in
theorem sp_st43_20 {SH : dw_Sh} {TT : Nat → dw_T} {K : dw_K} (hE : (EE SH TT).ok) : dx_SOK (EE SH TT) (pr_X9_says K) 43 sg_st43_20 := by
  intro ν ls vs args rest μ bc bs hvs hargs hcat g hk
  obtain rfl := vs0 (f := fun i => ls[i]?) hvs
  obtain ⟨x0, x1, rfl⟩ := ar2 hargs
  obtain ⟨g0, g1, -⟩ := g.gl
  obtain rfl : x0 = .ref 1000021 := Option.some.inj (gV_th g0)
  obtain ⟨-, w1, h1, q1⟩ := g1
  obtain rfl : x1 = .int w1 := Option.some.inj h1
  have b1 : (0 : Int) ≤ ν 1 ∧ ν 1 ≤ 2 := g.iv 1 (by decide)
  have z0 : ν 0 = 0 := g.z
  have hs : dw_isS 1000021 := isS 20 (by decide)
  have hc : dw_cats rest ≤ 8 := by omega
  have hn : (dw_sb (dw_sx 1000021)).length = 3 := by decide +kernel
  refine q_callT2 rfl hs hc (t_charAt hs (by omega) (by rw [hn]; omega) (by decide +kernel) (fun w l1 l2 => ?_))
  obtain ⟨ν', hag, hn0⟩ := nu1 ν 2 (w.toInt)
  have a0 : ν' 0 = ν 0 := hag 0 (by decide)
  have a1 : ν' 1 = ν 1 := hag 1 (by decide)
  exact hk _ _ ν' [.int w] (μ) (List.Mem.head _) (post_mk g rfl g.hi (fun _ _ => ⟨rfl, rfl⟩) (by decide) (by decide) hag ⟨(show (0 : Int) ≤ ν' 0 ∧ ν' 0 ≤ 0 from ⟨by omega, by omega⟩), (show (0 : Int) ≤ ν' 1 ∧ ν' 1 ≤ 2 from ⟨by omega, by omega⟩), (show (0 : Int) ≤ ν' 2 ∧ ν' 2 ≤ 65535 from ⟨by omega, by omega⟩), trivial⟩ trivial ⟨⟨by decide, w, rfl, by show _ = ν' 2 + 0; omega⟩, trivial⟩ rfl trivial trivial)
set_option maxHeartbeats 2000000 in
theorem sp_st43_25 {SH : dw_Sh} {TT : Nat → dw_T} {K : dw_K} (hE : (EE SH TT).ok) : dx_SOK (EE SH TT) (pr_X9_says K) 43 sg_st43_25 := by
  intro ν ls vs args rest μ bc bs hvs hargs hcat g hk
  obtain rfl := vs0 (f := fun i => ls[i]?) hvs
  obtain ⟨x0, x1, rfl⟩ := ar2 hargs
  obtain ⟨g0, g1, -⟩ := g.gl
  obtain rfl : x0 = .ref 1000026 := Option.some.inj (gV_th g0)
  obtain ⟨-, w1, h1, q1⟩ := g1
  obtain rfl : x1 = .int w1 := Option.some.inj h1
  have b1 : (0 : Int) ≤ ν 1 ∧ ν 1 ≤ 3 := g.iv 1 (by decide)
  have z0 : ν 0 = 0 := g.z
  have hs : dw_isS 1000026 := isS 25 (by decide)
  have hc : dw_cats rest ≤ 8 := by omega
  have hn : (dw_sb (dw_sx 1000026)).length = 4 := by decide +kernel
  refine q_callT2 rfl hs hc (t_charAt hs (by omega) (by rw [hn]; omega) (by decide +kernel) (fun w l1 l2 => ?_))
  obtain ⟨ν', hag, hn0⟩ := nu1 ν 2 (w.toInt)
  have a0 : ν' 0 = ν 0 := hag 0 (by decide)
  have a1 : ν' 1 = ν 1 := hag 1 (by decide)
  exact hk _ _ ν' [.int w] (μ) (List.Mem.head _) (post_mk g rfl g.hi (fun _ _ => ⟨rfl, rfl⟩) (by decide) (by decide) hag ⟨(show (0 : Int) ≤ ν' 0 ∧ ν' 0 ≤ 0 from ⟨by omega, by omega⟩), (show (0 : Int) ≤ ν' 1 ∧ ν' 1 ≤ 3 from ⟨by omega, by omega⟩), (show (0 : Int) ≤ ν' 2 ∧ ν' 2 ≤ 65535 from ⟨by omega, by omega⟩), trivial⟩ trivial ⟨⟨by decide, w, rfl, by show _ = ν' 2 + 0; omega⟩, trivial⟩ rfl trivial trivial)
