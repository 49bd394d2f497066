/-! ===== a PLAN's text read by the model ===== -/
/-- what the model keeps of lines (the latest first); W: how many columns -/
def mpF (R : Nat → Int32) (W : Int32) : List pL → Prop
  | [] => True
  | l :: r => R (1 + 3 * r.length) = Int32.ofNat l.1 ∧ R (2 + 3 * r.length) = (if l.1 = 0 then l.2.1 else W * l.2.2 + l.2.1) ∧ mpF R W r
set_option maxRecDepth 8000 in
theorem mp_same {R R' : Nat → Int32} {W : Int32} : ∀ (L : List pL), (∀ j, 1 ≤ j → j < 1 + 3 * L.length → R' j = R j) → mpF R W L → mpF R' W L
  | [], _, _ => trivial
  | l :: r, h, g => by
    have hl : (l :: r).length = r.length + 1 := rfl
    obtain ⟨g1, g2, g3⟩ := g
    exact ⟨(h _ (by omega) (by omega)).trans g1, (h _ (by omega) (by omega)).trans g2, mp_same r (fun j h1 hj => h j h1 (by omega)) g3⟩
/-- the model's reader of a PLAN, going on: behind ln lines -/
def PMp (I0 : Nat → Nat → Int32) (J0 : Nat → Nat → Int64) (ln : Nat) (I : Nat → Nat → Int32) (J : Nat → Nat → Int64) : Prop :=
  (∀ a, a ≠ 404 → a ≠ 408 → I a = I0 a) ∧ (∀ j, mF j → I 404 j = I0 404 j) ∧ (∀ j, j < 1 + 3 * ln → I 408 j = I0 408 j) ∧ (∀ a, a ≠ 404 → J a = J0 a) ∧ ∀ j, j ≠ 17 → j ≠ 18 → J 404 j = J0 404 j
set_option maxRecDepth 8000 in
theorem pmV {I0 : Nat → Nat → Int32} {J0 : Nat → Nat → Int64} {ln : Nat} {P : (Nat → Int32) → Prop} : MInv I0 (fun I J => PMp I0 J0 ln I J ∧ P (I 408)) := by
  refine ⟨fun I J I1 J1 h hA hF hJa hJf => ⟨⟨fun a h1 h2 => (hA a h1).trans (h.1.1 a h1 h2), fun j hj => (hF j hj).trans (h.1.2.1 j hj), fun j hj => ?_, fun a ha => (hJa a ha).trans (h.1.2.2.2.1 a ha), fun j h1 h2 => (hJf j h1 h2).trans (h.1.2.2.2.2 j h1 h2)⟩, ?_⟩, fun I J h => ⟨h.1.2.1 3 (by decide), h.1.2.1 5 (by decide), h.1.1 405 (by decide) (by decide)⟩⟩
  · rw [hA 408 (by decide)]; exact h.1.2.2.1 j hj
  · rw [hA 408 (by decide)]; exact h.2
set_option maxRecDepth 8000 in
theorem pm_up {I0 I : Nat → Nat → Int32} {J0 J : Nat → Nat → Int64} {ln q : Nat} {x : Int32} (h : PMp I0 J0 ln I J) (hq : 1 + 3 * ln ≤ q) : PMp I0 J0 ln (dw_up I 408 q x) J := by
  refine ⟨fun a h1 h2 => (up_row h2).trans (h.1 a h1 h2), fun j hj => (congrFun (up_row (show 404 ≠ 408 by decide)) j).trans (h.2.1 j hj), fun j hj => ?_, h.2.2.2.1, h.2.2.2.2⟩
  rw [up_fld (by omega)]; exact h.2.2.1 j hj
set_option maxRecDepth 8000 in
theorem v_numberOf {n : Nat} {I : Nat → Nat → Int32} {J : Nat → Nat → Int64} {K : dw_K} {x y : Int32} (hk : K (some (.int (I 406 0 * y + x))) (n, SH1, I, J)) : t_X12_numberOf [.ref 404, .int x, .int y] (n, SH1, I, J) K := by
  refine q_body (Nat.le_of_ble_eq_true rfl) ?_
  refine q_ald rfl rfl ?_
  refine q_getr rfl sk_404 sr_404_6 ?_
  refine q_ic rfl ?_
  refine q_xald rfl (Or.inl rfl) sk_406 sn_406 (by decide) (by decide) ?_
  refine q_ild rfl rfl ?_
  refine q_mul rfl ?_
  refine q_ild rfl rfl ?_
  refine q_add rfl ?_
  exact q_iret rfl hk
set_option maxRecDepth 8000 in
set_option maxHeartbeats 4000000 in
theorem v_mpline0 {n : Nat} {I : Nat → Nat → Int32} {J : Nat → Nat → Int64} {K : dw_K} {I0 : Nat → Nat → Int32} {J0 : Nat → Nat → Int64} {T : fT} {N m ln p : Nat} {C R : Int} (hR : PMp I0 J0 ln I J) (hN : (I0 404 3).toInt = N) (hN9 : N ≤ 940) (hm : (I0 404 5).toInt = m) (hT : MK (tbM I0) T I J) (hTe : T = tkF (tbM I0) N m p) (hp : p ≤ N) (hln : (I0 404 21).toInt = ln) (hl30 : ln ≤ 30) (hC : (I0 406 0).toInt = C) (hC0 : 0 ≤ C) (hC9 : C ≤ 144) (hRr : (I0 406 1).toInt = R) (hR0 : 0 ≤ R) (hR9 : R ≤ 144) (hw : wpF (tbM I0) T = 0)
    (hok : ∀ (T' : fT) (p' : Nat) (l : pL) (I' : Nat → Nat → Int32) (J' : Nat → Nat → Int64), (plF (tbM I0) N m ln C R T) = stP T' (fun p => (0, 0, p, l)) → T' = tkF (tbM I0) N m p' → p' ≤ N → MK (tbM I0) T' I' J' → PMp I0 J0 ln I' J' → I' 408 (1 + 3 * ln) = Int32.ofNat l.1 ∧ I' 408 (2 + 3 * ln) = (if l.1 = 0 then l.2.1 else I0 406 0 * l.2.2 + l.2.1) → K (some (.int 1)) (n, SH1, I', J'))
    (hno : (plF (tbM I0) N m ln C R T).1 ≠ 0 → ∀ (I' : Nat → Nat → Int32) (J' : Nat → Nat → Int64), PMp I0 J0 ln I' J' → (I' 404 15).toInt = (plF (tbM I0) N m ln C R T).1 → (I' 404 16).toInt = (plF (tbM I0) N m ln C R T).2.1 → K (some (.int 0)) (n, SH1, I', J')) : dw_ok (pr_X12_planLine K) 58 0 0 [some (.ref 404), some (.int 0), none] [] (n, SH1, I, J) := by
  have c30 : (30 : Int32).toInt = 30 := rfl
  have c1 : (1 : Int32).toInt = 1 := rfl
  have c3 : (3 : Int32).toInt = 3 := rfl
  have hw9 : ¬ (0 = 9) := by decide
  have h21 : (I 404 21).toInt = ln := by rw [hR.2.1 21 (by decide)]; exact hln
  have hI0 : PMp I0 J0 ln I J ∧ (fun _ => True) (I 408) := ⟨hR, trivial⟩
  refine q_ild rfl rfl ?_
  refine q_if (c := 3) rfl (by decide) (fun _ => ?_) (fun h => absurd (show (0 : Int32).toInt < 0 from h) (by decide))
  refine q_ald rfl rfl ?_
  refine q_geti rfl sk_404 ?_
  refine q_ic rfl ?_
  refine q_icmp (c := 1) rfl (by decide) (fun h => ?_) (fun h => ?_)
  rotate_left
  · have h : (I 404 21).toInt = (30 : Int32).toInt := h
    have hg : 30 ≤ ln := by omega
    have eR : (plF (tbM I0) N m ln C R T) = (4, T.2.1, 0, p0) := by simp only [plF, hw, hg, hw9, ↓reduceIte]
    refine q_ald rfl rfl ?_
    refine q_ic rfl ?_
    refine mb_step (c := 4) rfl rfl (pmV (J0 := J0) (P := fun _ => True)) hI0 (fun I1 J1 hI1 g7 g8 => ?_)
    rw [eR] at hno
    exact hno (nn rfl) I1 J1 hI1.1 g7 (g8.trans hT.2.1)
  have h : (I 404 21).toInt ≠ (30 : Int32).toInt := h
  have hg : ¬ (30 ≤ ln) := by omega
  have t3 : (3 * I 404 21).toInt = 3 * ln := i_mul (by rw [c3, h21]) (by omega) (by omega)
  have tto : (1 + 3 * I 404 21).toInt = 1 + 3 * ln := by rw [i_add (by omega) (by omega), c1, t3]
  have tt1 : (1 + 3 * I 404 21 + 1).toInt = 2 + 3 * ln := by rw [i_add (by omega) (by omega), tto, c1]; omega
  have n0 : (1 + 3 * I 404 21).toInt.toNat = 1 + 3 * ln := by omega
  have n1 : (1 + 3 * I 404 21 + 1).toInt.toNat = 2 + 3 * ln := by omega
  refine q_ic rfl ?_
  refine q_ic rfl ?_
  refine q_ald rfl rfl ?_
  refine q_geti rfl sk_404 ?_
  refine q_mul rfl ?_
  refine q_add rfl ?_
  refine q_ist rfl rfl ?_
  show dw_ok (pr_X12_planLine K) 92 0 0 [some (.ref 404), some (.int 0), some (.int (1 + 3 * I 404 21))] [] (n, SH1, I, J)
  have hw1 : T.1 = 1 := wp_1 (by rw [hw]; decide)
  have hin := tkF_in (b := tbM I0) (n := N) (m := m) (p := p) hp
  rw [← hTe] at hin
  refine q_ald rfl rfl ?_
  refine mn_step (p := T.2.2.1) rfl (pmV (J0 := J0) (P := fun _ => True)) hI0 hN hN9 hm hin.2.2.1 (hT.2.2.1 (Or.inl hw1)) (fun I1 J1 hI1 hM1 => ?_)
  obtain ⟨T1, hT1⟩ : ∃ t, t = tkF (tbM I0) N m T.2.2.1 := ⟨_, rfl⟩
  have hin1 := tkF_in (b := tbM I0) (n := N) (m := m) (p := T.2.2.1) hin.2.2.1
  rw [← hT1] at hM1 hin1
  refine q_ald rfl rfl ?_
  refine q_getr rfl sk_404 sr_404_8 ?_
  refine q_ild rfl rfl ?_
  refine q_ild rfl rfl ?_
  refine q_iast rfl sk_408 sn_408 (by omega) (by omega) ?_
  rw [n0]
  show dw_ok (pr_X12_planLine K) 103 0 0 [some (.ref 404), some (.int 0), some (.int (1 + 3 * I 404 21))] [] (n, SH1, dw_up I1 408 (1 + 3 * ln) 0, J1)
  obtain ⟨I2, hI2⟩ : ∃ X, X = dw_up I1 408 (1 + 3 * ln) 0 := ⟨_, rfl⟩
  have hR2 : PMp I0 J0 ln I2 J1 := by rw [hI2]; exact pm_up hI1.1 (by omega)
  have hD2 : I2 408 (1 + 3 * ln) = 0 := by rw [hI2]; exact up_same
  have hM2 : MK (tbM I0) T1 I2 J1 := mk_row (by rw [hI2]; exact up_row (by decide)) hM1
  rw [← hI2]
  refine q_ild rfl rfl ?_
  refine q_if (c := 1) rfl (by decide) (fun h => absurd rfl h) (fun _ => ?_)
  refine q_ald rfl rfl ?_
  refine q_ic rfl ?_
  refine q_ic rfl ?_
  refine mt_step (T := T1) (lo := 1) (hi := 144) rfl rfl rfl rfl (pmV (P := fun f => f (1 + 3 * ln) = 0)) ⟨hR2, hD2⟩ hN hN9 hm hM2 hin1.2.2.1 ?_ ?_
  rotate_left
  · intro e1 I9 J9 hI9 g7 g8
    have e1 : nbF T1 1 144 ≠ 0 := e1
    have eR : (plF (tbM I0) N m ln C R T) = (nbF T1 1 144, T1.2.1, 0, p0) := by simp only [plF, nbP, hw, hw9, hg, ← hT1, e1, ↓reduceIte]
    rw [eR] at hno
    exact hno e1 I9 J9 hI9.1 g7 g8
  intro e1 I3 J3 hI3 hM3 g19
  have e1 : nbF T1 1 144 = 0 := e1
  obtain ⟨hR3, hD3⟩ := hI3
  refine q_ald rfl rfl ?_
  refine q_getr rfl sk_404 sr_404_8 ?_
  refine q_ild rfl rfl ?_
  refine q_ic rfl ?_
  refine q_add rfl ?_
  refine q_ald rfl rfl ?_
  refine q_geti rfl sk_404 ?_
  refine q_iast rfl sk_408 sn_408 (by omega) (by omega) ?_
  rw [n1]
  show dw_ok (pr_X12_planLine K) 132 0 0 [some (.ref 404), some (.int 0), some (.int (1 + 3 * I 404 21))] [] (n, SH1, dw_up I3 408 (2 + 3 * ln) (I3 404 19), J3)
  rw [g19]
  refine q_ic rfl ?_
  have eR : (plF (tbM I0) N m ln C R T) = stP (tkF (tbM I0) N m T1.2.2.1) (fun p => (0, 0, p, 0, T1.2.2.2, 0)) := by simp only [plF, nbP, hw, hw9, hg, ← hT1, e1, ↓reduceIte]
  refine q_zret rfl (Or.inr rfl) (hok _ _ (0, T1.2.2.2, 0) (dw_up I3 408 (2 + 3 * ln) T1.2.2.2) J3 eR rfl hin1.2.2.1 (mk_row (up_row (by decide)) hM3) (pm_up hR3 (by omega)) ⟨?_, ?_⟩)
  · exact (up_fld (by omega)).trans hD3
  · exact up_same
set_option maxRecDepth 8000 in
set_option maxHeartbeats 4000000 in
theorem v_mpline1 {n : Nat} {I : Nat → Nat → Int32} {J : Nat → Nat → Int64} {K : dw_K} {I0 : Nat → Nat → Int32} {J0 : Nat → Nat → Int64} {T : fT} {N m ln p : Nat} {C R : Int} (hR : PMp I0 J0 ln I J) (hN : (I0 404 3).toInt = N) (hN9 : N ≤ 940) (hm : (I0 404 5).toInt = m) (hT : MK (tbM I0) T I J) (hTe : T = tkF (tbM I0) N m p) (hp : p ≤ N) (hln : (I0 404 21).toInt = ln) (hl30 : ln ≤ 30) (hC : (I0 406 0).toInt = C) (hC0 : 0 ≤ C) (hC9 : C ≤ 144) (hRr : (I0 406 1).toInt = R) (hR0 : 0 ≤ R) (hR9 : R ≤ 144) (hw : wpF (tbM I0) T = 1)
    (hok : ∀ (T' : fT) (p' : Nat) (l : pL) (I' : Nat → Nat → Int32) (J' : Nat → Nat → Int64), (plF (tbM I0) N m ln C R T) = stP T' (fun p => (0, 0, p, l)) → T' = tkF (tbM I0) N m p' → p' ≤ N → MK (tbM I0) T' I' J' → PMp I0 J0 ln I' J' → I' 408 (1 + 3 * ln) = Int32.ofNat l.1 ∧ I' 408 (2 + 3 * ln) = (if l.1 = 0 then l.2.1 else I0 406 0 * l.2.2 + l.2.1) → K (some (.int 1)) (n, SH1, I', J'))
    (hno : (plF (tbM I0) N m ln C R T).1 ≠ 0 → ∀ (I' : Nat → Nat → Int32) (J' : Nat → Nat → Int64), PMp I0 J0 ln I' J' → (I' 404 15).toInt = (plF (tbM I0) N m ln C R T).1 → (I' 404 16).toInt = (plF (tbM I0) N m ln C R T).2.1 → K (some (.int 0)) (n, SH1, I', J')) : dw_ok (pr_X12_planLine K) 58 0 0 [some (.ref 404), some (.int 1), none] [] (n, SH1, I, J) := by
  have c30 : (30 : Int32).toInt = 30 := rfl
  have c1 : (1 : Int32).toInt = 1 := rfl
  have c3 : (3 : Int32).toInt = 3 := rfl
  have hw9 : ¬ (1 = 9) := by decide
  have hk0 : ¬ (1 = 0) := by decide
  have h21 : (I 404 21).toInt = ln := by rw [hR.2.1 21 (by decide)]; exact hln
  have hI0 : PMp I0 J0 ln I J ∧ (fun _ => True) (I 408) := ⟨hR, trivial⟩
  refine q_ild rfl rfl ?_
  refine q_if (c := 3) rfl (by decide) (fun _ => ?_) (fun h => absurd (show (1 : Int32).toInt < 0 from h) (by decide))
  refine q_ald rfl rfl ?_
  refine q_geti rfl sk_404 ?_
  refine q_ic rfl ?_
  refine q_icmp (c := 1) rfl (by decide) (fun h => ?_) (fun h => ?_)
  rotate_left
  · have h : (I 404 21).toInt = (30 : Int32).toInt := h
    have hg : 30 ≤ ln := by omega
    have eR : (plF (tbM I0) N m ln C R T) = (4, T.2.1, 0, p0) := by simp only [plF, hw, hg, hw9, ↓reduceIte]
    refine q_ald rfl rfl ?_
    refine q_ic rfl ?_
    refine mb_step (c := 4) rfl rfl (pmV (J0 := J0) (P := fun _ => True)) hI0 (fun I1 J1 hI1 g7 g8 => ?_)
    rw [eR] at hno
    exact hno (nn rfl) I1 J1 hI1.1 g7 (g8.trans hT.2.1)
  have h : (I 404 21).toInt ≠ (30 : Int32).toInt := h
  have hg : ¬ (30 ≤ ln) := by omega
  have t3 : (3 * I 404 21).toInt = 3 * ln := i_mul (by rw [c3, h21]) (by omega) (by omega)
  have tto : (1 + 3 * I 404 21).toInt = 1 + 3 * ln := by rw [i_add (by omega) (by omega), c1, t3]
  have tt1 : (1 + 3 * I 404 21 + 1).toInt = 2 + 3 * ln := by rw [i_add (by omega) (by omega), tto, c1]; omega
  have n0 : (1 + 3 * I 404 21).toInt.toNat = 1 + 3 * ln := by omega
  have n1 : (1 + 3 * I 404 21 + 1).toInt.toNat = 2 + 3 * ln := by omega
  refine q_ic rfl ?_
  refine q_ic rfl ?_
  refine q_ald rfl rfl ?_
  refine q_geti rfl sk_404 ?_
  refine q_mul rfl ?_
  refine q_add rfl ?_
  refine q_ist rfl rfl ?_
  show dw_ok (pr_X12_planLine K) 92 0 0 [some (.ref 404), some (.int 1), some (.int (1 + 3 * I 404 21))] [] (n, SH1, I, J)
  have hw1 : T.1 = 1 := wp_1 (by rw [hw]; decide)
  have hin := tkF_in (b := tbM I0) (n := N) (m := m) (p := p) hp
  rw [← hTe] at hin
  refine q_ald rfl rfl ?_
  refine mn_step (p := T.2.2.1) rfl (pmV (J0 := J0) (P := fun _ => True)) hI0 hN hN9 hm hin.2.2.1 (hT.2.2.1 (Or.inl hw1)) (fun I1 J1 hI1 hM1 => ?_)
  obtain ⟨T1, hT1⟩ : ∃ t, t = tkF (tbM I0) N m T.2.2.1 := ⟨_, rfl⟩
  have hin1 := tkF_in (b := tbM I0) (n := N) (m := m) (p := T.2.2.1) hin.2.2.1
  rw [← hT1] at hM1 hin1
  refine q_ald rfl rfl ?_
  refine q_getr rfl sk_404 sr_404_8 ?_
  refine q_ild rfl rfl ?_
  refine q_ild rfl rfl ?_
  refine q_iast rfl sk_408 sn_408 (by omega) (by omega) ?_
  rw [n0]
  show dw_ok (pr_X12_planLine K) 103 0 0 [some (.ref 404), some (.int 1), some (.int (1 + 3 * I 404 21))] [] (n, SH1, dw_up I1 408 (1 + 3 * ln) 1, J1)
  obtain ⟨I2, hI2⟩ : ∃ X, X = dw_up I1 408 (1 + 3 * ln) 1 := ⟨_, rfl⟩
  have hR2 : PMp I0 J0 ln I2 J1 := by rw [hI2]; exact pm_up hI1.1 (by omega)
  have hD2 : I2 408 (1 + 3 * ln) = 1 := by rw [hI2]; exact up_same
  have hM2 : MK (tbM I0) T1 I2 J1 := mk_row (by rw [hI2]; exact up_row (by decide)) hM1
  rw [← hI2]
  refine q_ild rfl rfl ?_
  refine q_if (c := 1) rfl (by decide) (fun _ => ?_) (fun h => absurd (show (1 : Int32).toInt = 0 from h) (by decide))
  refine q_ald rfl rfl ?_
  refine q_ic rfl ?_
  refine q_ald rfl rfl ?_
  refine q_getr rfl sk_404 sr_404_6 ?_
  refine q_ic rfl ?_
  refine q_xald rfl (Or.inl rfl) sk_406 sn_406 (by decide) (by decide) ?_
  refine q_ic rfl ?_
  refine q_sub rfl ?_
  show dw_ok (pr_X12_planLine K) 144 0 0 [some (.ref 404), some (.int 1), some (.int (1 + 3 * I 404 21))] [.int (I2 406 0 - 1), .int 0, .ref 404] (n, SH1, I2, J1)
  have eh1 : (I2 406 0 - 1).toInt = C - 1 := by
    rw [hR2.1 406 (by decide) (by decide), i_sub (by omega) (by omega), hC, c1]
  refine mt_step (T := T1) rfl rfl rfl rfl (pmV (P := fun f => f (1 + 3 * ln) = 1)) ⟨hR2, hD2⟩ hN hN9 hm hM2 hin1.2.2.1 ?_ ?_
  rotate_left
  · intro e1 I9 J9 hI9 g7 g8
    rw [eh1] at e1 g7
    have e1 : nbF T1 0 (C - 1) ≠ 0 := e1
    have eR : (plF (tbM I0) N m ln C R T) = (nbF T1 0 (C - 1), T1.2.1, 0, p0) := by simp only [plF, nbP, hw, hw9, hg, hk0, ← hT1, e1, ↓reduceIte]
    rw [eR] at hno
    exact hno e1 I9 J9 hI9.1 g7 g8
  intro e1 I3 J3 hI3 hM3 g319
  rw [eh1] at e1
  have e1 : nbF T1 0 (C - 1) = 0 := e1
  obtain ⟨hR3, hD3⟩ := hI3
  refine q_ald rfl rfl ?_
  refine q_getr rfl sk_404 sr_404_8 ?_
  refine q_ild rfl rfl ?_
  refine q_ic rfl ?_
  refine q_add rfl ?_
  refine q_ald rfl rfl ?_
  refine q_geti rfl sk_404 ?_
  refine q_iast rfl sk_408 sn_408 (by omega) (by omega) ?_
  rw [n1]
  show dw_ok (pr_X12_planLine K) 164 0 0 [some (.ref 404), some (.int 1), some (.int (1 + 3 * I 404 21))] [] (n, SH1, dw_up I3 408 (2 + 3 * ln) (I3 404 19), J3)
  rw [g319]
  obtain ⟨I4, hI4⟩ : ∃ X, X = dw_up I3 408 (2 + 3 * ln) T1.2.2.2 := ⟨_, rfl⟩
  have hR4 : PMp I0 J0 ln I4 J3 := by rw [hI4]; exact pm_up hR3 (by omega)
  have hD4 : I4 408 (1 + 3 * ln) = 1 ∧ I4 408 (2 + 3 * ln) = T1.2.2.2 := by
    rw [hI4]
    exact ⟨(up_fld (by omega)).trans hD3, up_same⟩
  have hM4 : MK (tbM I0) (tkF (tbM I0) N m T1.2.2.1) I4 J3 := mk_row (by rw [hI4]; exact up_row (by decide)) hM3
  obtain ⟨T2, hT2⟩ : ∃ t, t = tkF (tbM I0) N m T1.2.2.1 := ⟨_, rfl⟩
  have hin2 := tkF_in (b := tbM I0) (n := N) (m := m) (p := T1.2.2.1) hin1.2.2.1
  rw [← hT2] at hM4 hin2
  rw [← hI4]
  refine q_ald rfl rfl ?_
  refine q_ic rfl ?_
  refine q_ald rfl rfl ?_
  refine q_getr rfl sk_404 sr_404_6 ?_
  refine q_ic rfl ?_
  refine q_xald rfl (Or.inl rfl) sk_406 sn_406 (by decide) (by decide) ?_
  refine q_ic rfl ?_
  refine q_sub rfl ?_
  show dw_ok (pr_X12_planLine K) 174 0 0 [some (.ref 404), some (.int 1), some (.int (1 + 3 * I 404 21))] [.int (I4 406 1 - 1), .int 0, .ref 404] (n, SH1, I4, J3)
  have eh2 : (I4 406 1 - 1).toInt = R - 1 := by
    rw [hR4.1 406 (by decide) (by decide), i_sub (by omega) (by omega), hRr, c1]
  refine mt_step (T := T2) rfl rfl rfl rfl (pmV (P := fun f => f (1 + 3 * ln) = 1 ∧ f (2 + 3 * ln) = T1.2.2.2)) ⟨hR4, hD4⟩ hN hN9 hm hM4 hin2.2.2.1 ?_ ?_
  rotate_left
  · intro e2 I9 J9 hI9 g7 g8
    rw [eh2] at e2 g7
    have e2 : nbF T2 0 (R - 1) ≠ 0 := e2
    have eR : (plF (tbM I0) N m ln C R T) = (nbF T2 0 (R - 1), T2.2.1, 0, p0) := by simp only [plF, nbP, hw, hw9, hg, hk0, ← hT1, e1, ← hT2, e2, ↓reduceIte]
    rw [eR] at hno
    exact hno e2 I9 J9 hI9.1 g7 g8
  intro e2 I5 J5 hI5 hM5 g519
  rw [eh2] at e2
  have e2 : nbF T2 0 (R - 1) = 0 := e2
  obtain ⟨hR5, hD5⟩ := hI5
  refine q_ald rfl rfl ?_
  refine q_getr rfl sk_404 sr_404_8 ?_
  refine q_ild rfl rfl ?_
  refine q_ic rfl ?_
  refine q_add rfl ?_
  refine q_ald rfl rfl ?_
  refine q_ald rfl rfl ?_
  refine q_getr rfl sk_404 sr_404_8 ?_
  refine q_ild rfl rfl ?_
  refine q_ic rfl ?_
  refine q_add rfl ?_
  refine q_xald rfl (Or.inl rfl) sk_408 sn_408 (by omega) (by omega) ?_
  refine q_ald rfl rfl ?_
  refine q_geti rfl sk_404 ?_
  show dw_ok (pr_X12_planLine K) 202 0 0 [some (.ref 404), some (.int 1), some (.int (1 + 3 * I 404 21))] [.int (I5 404 19), .int (I5 408 (1 + 3 * I 404 21 + 1).toInt.toNat), .ref 404, .int (1 + 3 * I 404 21 + 1), .ref 408] (n, SH1, I5, J5)
  rw [g519, n1, hD5.2]
  refine q_callV (as := [.int T1.2.2.2, .int T2.2.2.2]) (rest := [.int (1 + 3 * I 404 21 + 1), .ref 408]) rfl rfl sk_404 rfl (Nat.le_of_ble_eq_true rfl) ?_
  refine v_numberOf ?_
  rw [hR5.1 406 (by decide) (by decide)]
  show dw_ok (pr_X12_planLine K) 205 0 0 [some (.ref 404), some (.int 1), some (.int (1 + 3 * I 404 21))] [.int (I0 406 0 * T2.2.2.2 + T1.2.2.2), .int (1 + 3 * I 404 21 + 1), .ref 408] (n, SH1, I5, J5)
  refine q_iast rfl sk_408 sn_408 (by omega) (by omega) ?_
  rw [n1]
  refine q_ic rfl ?_
  have eR : (plF (tbM I0) N m ln C R T) = stP (tkF (tbM I0) N m T2.2.2.1) (fun p => (0, 0, p, 1, T1.2.2.2, T2.2.2.2)) := by simp only [plF, nbP, hw, hw9, hg, hk0, ← hT1, e1, ← hT2, e2, ↓reduceIte]
  refine q_zret rfl (Or.inr rfl) (hok _ _ (1, T1.2.2.2, T2.2.2.2) (dw_up I5 408 (2 + 3 * ln) (I0 406 0 * T2.2.2.2 + T1.2.2.2)) J5 eR rfl hin2.2.2.1 (mk_row (up_row (by decide)) hM5) (pm_up hR5 (by omega)) ⟨?_, ?_⟩)
  · exact (up_fld (by omega)).trans hD5.1
  · rw [if_neg hk0]; exact up_same
set_option maxRecDepth 8000 in
set_option maxHeartbeats 4000000 in
theorem v_mpline2 {n : Nat} {I : Nat → Nat → Int32} {J : Nat → Nat → Int64} {K : dw_K} {I0 : Nat → Nat → Int32} {J0 : Nat → Nat → Int64} {T : fT} {N m ln p : Nat} {C R : Int} (hR : PMp I0 J0 ln I J) (hN : (I0 404 3).toInt = N) (hN9 : N ≤ 940) (hm : (I0 404 5).toInt = m) (hT : MK (tbM I0) T I J) (hTe : T = tkF (tbM I0) N m p) (hp : p ≤ N) (hln : (I0 404 21).toInt = ln) (hl30 : ln ≤ 30) (hC : (I0 406 0).toInt = C) (hC0 : 0 ≤ C) (hC9 : C ≤ 144) (hRr : (I0 406 1).toInt = R) (hR0 : 0 ≤ R) (hR9 : R ≤ 144) (hw : wpF (tbM I0) T = 2)
    (hok : ∀ (T' : fT) (p' : Nat) (l : pL) (I' : Nat → Nat → Int32) (J' : Nat → Nat → Int64), (plF (tbM I0) N m ln C R T) = stP T' (fun p => (0, 0, p, l)) → T' = tkF (tbM I0) N m p' → p' ≤ N → MK (tbM I0) T' I' J' → PMp I0 J0 ln I' J' → I' 408 (1 + 3 * ln) = Int32.ofNat l.1 ∧ I' 408 (2 + 3 * ln) = (if l.1 = 0 then l.2.1 else I0 406 0 * l.2.2 + l.2.1) → K (some (.int 1)) (n, SH1, I', J'))
    (hno : (plF (tbM I0) N m ln C R T).1 ≠ 0 → ∀ (I' : Nat → Nat → Int32) (J' : Nat → Nat → Int64), PMp I0 J0 ln I' J' → (I' 404 15).toInt = (plF (tbM I0) N m ln C R T).1 → (I' 404 16).toInt = (plF (tbM I0) N m ln C R T).2.1 → K (some (.int 0)) (n, SH1, I', J')) : dw_ok (pr_X12_planLine K) 58 0 0 [some (.ref 404), some (.int 2), none] [] (n, SH1, I, J) := by
  have c30 : (30 : Int32).toInt = 30 := rfl
  have c1 : (1 : Int32).toInt = 1 := rfl
  have c3 : (3 : Int32).toInt = 3 := rfl
  have hw9 : ¬ (2 = 9) := by decide
  have hk0 : ¬ (2 = 0) := by decide
  have h21 : (I 404 21).toInt = ln := by rw [hR.2.1 21 (by decide)]; exact hln
  have hI0 : PMp I0 J0 ln I J ∧ (fun _ => True) (I 408) := ⟨hR, trivial⟩
  refine q_ild rfl rfl ?_
  refine q_if (c := 3) rfl (by decide) (fun _ => ?_) (fun h => absurd (show (2 : Int32).toInt < 0 from h) (by decide))
  refine q_ald rfl rfl ?_
  refine q_geti rfl sk_404 ?_
  refine q_ic rfl ?_
  refine q_icmp (c := 1) rfl (by decide) (fun h => ?_) (fun h => ?_)
  rotate_left
  · have h : (I 404 21).toInt = (30 : Int32).toInt := h
    have hg : 30 ≤ ln := by omega
    have eR : (plF (tbM I0) N m ln C R T) = (4, T.2.1, 0, p0) := by simp only [plF, hw, hg, hw9, ↓reduceIte]
    refine q_ald rfl rfl ?_
    refine q_ic rfl ?_
    refine mb_step (c := 4) rfl rfl (pmV (J0 := J0) (P := fun _ => True)) hI0 (fun I1 J1 hI1 g7 g8 => ?_)
    rw [eR] at hno
    exact hno (nn rfl) I1 J1 hI1.1 g7 (g8.trans hT.2.1)
  have h : (I 404 21).toInt ≠ (30 : Int32).toInt := h
  have hg : ¬ (30 ≤ ln) := by omega
  have t3 : (3 * I 404 21).toInt = 3 * ln := i_mul (by rw [c3, h21]) (by omega) (by omega)
  have tto : (1 + 3 * I 404 21).toInt = 1 + 3 * ln := by rw [i_add (by omega) (by omega), c1, t3]
  have tt1 : (1 + 3 * I 404 21 + 1).toInt = 2 + 3 * ln := by rw [i_add (by omega) (by omega), tto, c1]; omega
  have n0 : (1 + 3 * I 404 21).toInt.toNat = 1 + 3 * ln := by omega
  have n1 : (1 + 3 * I 404 21 + 1).toInt.toNat = 2 + 3 * ln := by omega
  refine q_ic rfl ?_
  refine q_ic rfl ?_
  refine q_ald rfl rfl ?_
  refine q_geti rfl sk_404 ?_
  refine q_mul rfl ?_
  refine q_add rfl ?_
  refine q_ist rfl rfl ?_
  show dw_ok (pr_X12_planLine K) 92 0 0 [some (.ref 404), some (.int 2), some (.int (1 + 3 * I 404 21))] [] (n, SH1, I, J)
  have hw1 : T.1 = 1 := wp_1 (by rw [hw]; decide)
  have hin := tkF_in (b := tbM I0) (n := N) (m := m) (p := p) hp
  rw [← hTe] at hin
  refine q_ald rfl rfl ?_
  refine mn_step (p := T.2.2.1) rfl (pmV (J0 := J0) (P := fun _ => True)) hI0 hN hN9 hm hin.2.2.1 (hT.2.2.1 (Or.inl hw1)) (fun I1 J1 hI1 hM1 => ?_)
  obtain ⟨T1, hT1⟩ : ∃ t, t = tkF (tbM I0) N m T.2.2.1 := ⟨_, rfl⟩
  have hin1 := tkF_in (b := tbM I0) (n := N) (m := m) (p := T.2.2.1) hin.2.2.1
  rw [← hT1] at hM1 hin1
  refine q_ald rfl rfl ?_
  refine q_getr rfl sk_404 sr_404_8 ?_
  refine q_ild rfl rfl ?_
  refine q_ild rfl rfl ?_
  refine q_iast rfl sk_408 sn_408 (by omega) (by omega) ?_
  rw [n0]
  show dw_ok (pr_X12_planLine K) 103 0 0 [some (.ref 404), some (.int 2), some (.int (1 + 3 * I 404 21))] [] (n, SH1, dw_up I1 408 (1 + 3 * ln) 2, J1)
  obtain ⟨I2, hI2⟩ : ∃ X, X = dw_up I1 408 (1 + 3 * ln) 2 := ⟨_, rfl⟩
  have hR2 : PMp I0 J0 ln I2 J1 := by rw [hI2]; exact pm_up hI1.1 (by omega)
  have hD2 : I2 408 (1 + 3 * ln) = 2 := by rw [hI2]; exact up_same
  have hM2 : MK (tbM I0) T1 I2 J1 := mk_row (by rw [hI2]; exact up_row (by decide)) hM1
  rw [← hI2]
  refine q_ild rfl rfl ?_
  refine q_if (c := 1) rfl (by decide) (fun _ => ?_) (fun h => absurd (show (2 : Int32).toInt = 0 from h) (by decide))
  refine q_ald rfl rfl ?_
  refine q_ic rfl ?_
  refine q_ald rfl rfl ?_
  refine q_getr rfl sk_404 sr_404_6 ?_
  refine q_ic rfl ?_
  refine q_xald rfl (Or.inl rfl) sk_406 sn_406 (by decide) (by decide) ?_
  refine q_ic rfl ?_
  refine q_sub rfl ?_
  show dw_ok (pr_X12_planLine K) 144 0 0 [some (.ref 404), some (.int 2), some (.int (1 + 3 * I 404 21))] [.int (I2 406 0 - 1), .int 0, .ref 404] (n, SH1, I2, J1)
  have eh1 : (I2 406 0 - 1).toInt = C - 1 := by
    rw [hR2.1 406 (by decide) (by decide), i_sub (by omega) (by omega), hC, c1]
  refine mt_step (T := T1) rfl rfl rfl rfl (pmV (P := fun f => f (1 + 3 * ln) = 2)) ⟨hR2, hD2⟩ hN hN9 hm hM2 hin1.2.2.1 ?_ ?_
  rotate_left
  · intro e1 I9 J9 hI9 g7 g8
    rw [eh1] at e1 g7
    have e1 : nbF T1 0 (C - 1) ≠ 0 := e1
    have eR : (plF (tbM I0) N m ln C R T) = (nbF T1 0 (C - 1), T1.2.1, 0, p0) := by simp only [plF, nbP, hw, hw9, hg, hk0, ← hT1, e1, ↓reduceIte]
    rw [eR] at hno
    exact hno e1 I9 J9 hI9.1 g7 g8
  intro e1 I3 J3 hI3 hM3 g319
  rw [eh1] at e1
  have e1 : nbF T1 0 (C - 1) = 0 := e1
  obtain ⟨hR3, hD3⟩ := hI3
  refine q_ald rfl rfl ?_
  refine q_getr rfl sk_404 sr_404_8 ?_
  refine q_ild rfl rfl ?_
  refine q_ic rfl ?_
  refine q_add rfl ?_
  refine q_ald rfl rfl ?_
  refine q_geti rfl sk_404 ?_
  refine q_iast rfl sk_408 sn_408 (by omega) (by omega) ?_
  rw [n1]
  show dw_ok (pr_X12_planLine K) 164 0 0 [some (.ref 404), some (.int 2), some (.int (1 + 3 * I 404 21))] [] (n, SH1, dw_up I3 408 (2 + 3 * ln) (I3 404 19), J3)
  rw [g319]
  obtain ⟨I4, hI4⟩ : ∃ X, X = dw_up I3 408 (2 + 3 * ln) T1.2.2.2 := ⟨_, rfl⟩
  have hR4 : PMp I0 J0 ln I4 J3 := by rw [hI4]; exact pm_up hR3 (by omega)
  have hD4 : I4 408 (1 + 3 * ln) = 2 ∧ I4 408 (2 + 3 * ln) = T1.2.2.2 := by
    rw [hI4]
    exact ⟨(up_fld (by omega)).trans hD3, up_same⟩
  have hM4 : MK (tbM I0) (tkF (tbM I0) N m T1.2.2.1) I4 J3 := mk_row (by rw [hI4]; exact up_row (by decide)) hM3
  obtain ⟨T2, hT2⟩ : ∃ t, t = tkF (tbM I0) N m T1.2.2.1 := ⟨_, rfl⟩
  have hin2 := tkF_in (b := tbM I0) (n := N) (m := m) (p := T1.2.2.1) hin1.2.2.1
  rw [← hT2] at hM4 hin2
  rw [← hI4]
  refine q_ald rfl rfl ?_
  refine q_ic rfl ?_
  refine q_ald rfl rfl ?_
  refine q_getr rfl sk_404 sr_404_6 ?_
  refine q_ic rfl ?_
  refine q_xald rfl (Or.inl rfl) sk_406 sn_406 (by decide) (by decide) ?_
  refine q_ic rfl ?_
  refine q_sub rfl ?_
  show dw_ok (pr_X12_planLine K) 174 0 0 [some (.ref 404), some (.int 2), some (.int (1 + 3 * I 404 21))] [.int (I4 406 1 - 1), .int 0, .ref 404] (n, SH1, I4, J3)
  have eh2 : (I4 406 1 - 1).toInt = R - 1 := by
    rw [hR4.1 406 (by decide) (by decide), i_sub (by omega) (by omega), hRr, c1]
  refine mt_step (T := T2) rfl rfl rfl rfl (pmV (P := fun f => f (1 + 3 * ln) = 2 ∧ f (2 + 3 * ln) = T1.2.2.2)) ⟨hR4, hD4⟩ hN hN9 hm hM4 hin2.2.2.1 ?_ ?_
  rotate_left
  · intro e2 I9 J9 hI9 g7 g8
    rw [eh2] at e2 g7
    have e2 : nbF T2 0 (R - 1) ≠ 0 := e2
    have eR : (plF (tbM I0) N m ln C R T) = (nbF T2 0 (R - 1), T2.2.1, 0, p0) := by simp only [plF, nbP, hw, hw9, hg, hk0, ← hT1, e1, ← hT2, e2, ↓reduceIte]
    rw [eR] at hno
    exact hno e2 I9 J9 hI9.1 g7 g8
  intro e2 I5 J5 hI5 hM5 g519
  rw [eh2] at e2
  have e2 : nbF T2 0 (R - 1) = 0 := e2
  obtain ⟨hR5, hD5⟩ := hI5
  refine q_ald rfl rfl ?_
  refine q_getr rfl sk_404 sr_404_8 ?_
  refine q_ild rfl rfl ?_
  refine q_ic rfl ?_
  refine q_add rfl ?_
  refine q_ald rfl rfl ?_
  refine q_ald rfl rfl ?_
  refine q_getr rfl sk_404 sr_404_8 ?_
  refine q_ild rfl rfl ?_
  refine q_ic rfl ?_
  refine q_add rfl ?_
  refine q_xald rfl (Or.inl rfl) sk_408 sn_408 (by omega) (by omega) ?_
  refine q_ald rfl rfl ?_
  refine q_geti rfl sk_404 ?_
  show dw_ok (pr_X12_planLine K) 202 0 0 [some (.ref 404), some (.int 2), some (.int (1 + 3 * I 404 21))] [.int (I5 404 19), .int (I5 408 (1 + 3 * I 404 21 + 1).toInt.toNat), .ref 404, .int (1 + 3 * I 404 21 + 1), .ref 408] (n, SH1, I5, J5)
  rw [g519, n1, hD5.2]
  refine q_callV (as := [.int T1.2.2.2, .int T2.2.2.2]) (rest := [.int (1 + 3 * I 404 21 + 1), .ref 408]) rfl rfl sk_404 rfl (Nat.le_of_ble_eq_true rfl) ?_
  refine v_numberOf ?_
  rw [hR5.1 406 (by decide) (by decide)]
  show dw_ok (pr_X12_planLine K) 205 0 0 [some (.ref 404), some (.int 2), some (.int (1 + 3 * I 404 21))] [.int (I0 406 0 * T2.2.2.2 + T1.2.2.2), .int (1 + 3 * I 404 21 + 1), .ref 408] (n, SH1, I5, J5)
  refine q_iast rfl sk_408 sn_408 (by omega) (by omega) ?_
  rw [n1]
  refine q_ic rfl ?_
  have eR : (plF (tbM I0) N m ln C R T) = stP (tkF (tbM I0) N m T2.2.2.1) (fun p => (0, 0, p, 2, T1.2.2.2, T2.2.2.2)) := by simp only [plF, nbP, hw, hw9, hg, hk0, ← hT1, e1, ← hT2, e2, ↓reduceIte]
  refine q_zret rfl (Or.inr rfl) (hok _ _ (2, T1.2.2.2, T2.2.2.2) (dw_up I5 408 (2 + 3 * ln) (I0 406 0 * T2.2.2.2 + T1.2.2.2)) J5 eR rfl hin2.2.2.1 (mk_row (up_row (by decide)) hM5) (pm_up hR5 (by omega)) ⟨?_, ?_⟩)
  · exact (up_fld (by omega)).trans hD5.1
  · rw [if_neg hk0]; exact up_same
set_option maxRecDepth 8000 in
set_option maxHeartbeats 4000000 in
theorem v_mpline3 {n : Nat} {I : Nat → Nat → Int32} {J : Nat → Nat → Int64} {K : dw_K} {I0 : Nat → Nat → Int32} {J0 : Nat → Nat → Int64} {T : fT} {N m ln p : Nat} {C R : Int} (hR : PMp I0 J0 ln I J) (hN : (I0 404 3).toInt = N) (hN9 : N ≤ 940) (hm : (I0 404 5).toInt = m) (hT : MK (tbM I0) T I J) (hTe : T = tkF (tbM I0) N m p) (hp : p ≤ N) (hln : (I0 404 21).toInt = ln) (hl30 : ln ≤ 30) (hC : (I0 406 0).toInt = C) (hC0 : 0 ≤ C) (hC9 : C ≤ 144) (hRr : (I0 406 1).toInt = R) (hR0 : 0 ≤ R) (hR9 : R ≤ 144) (hw : wpF (tbM I0) T = 3)
    (hok : ∀ (T' : fT) (p' : Nat) (l : pL) (I' : Nat → Nat → Int32) (J' : Nat → Nat → Int64), (plF (tbM I0) N m ln C R T) = stP T' (fun p => (0, 0, p, l)) → T' = tkF (tbM I0) N m p' → p' ≤ N → MK (tbM I0) T' I' J' → PMp I0 J0 ln I' J' → I' 408 (1 + 3 * ln) = Int32.ofNat l.1 ∧ I' 408 (2 + 3 * ln) = (if l.1 = 0 then l.2.1 else I0 406 0 * l.2.2 + l.2.1) → K (some (.int 1)) (n, SH1, I', J'))
    (hno : (plF (tbM I0) N m ln C R T).1 ≠ 0 → ∀ (I' : Nat → Nat → Int32) (J' : Nat → Nat → Int64), PMp I0 J0 ln I' J' → (I' 404 15).toInt = (plF (tbM I0) N m ln C R T).1 → (I' 404 16).toInt = (plF (tbM I0) N m ln C R T).2.1 → K (some (.int 0)) (n, SH1, I', J')) : dw_ok (pr_X12_planLine K) 58 0 0 [some (.ref 404), some (.int 3), none] [] (n, SH1, I, J) := by
  have c30 : (30 : Int32).toInt = 30 := rfl
  have c1 : (1 : Int32).toInt = 1 := rfl
  have c3 : (3 : Int32).toInt = 3 := rfl
  have hw9 : ¬ (3 = 9) := by decide
  have hk0 : ¬ (3 = 0) := by decide
  have h21 : (I 404 21).toInt = ln := by rw [hR.2.1 21 (by decide)]; exact hln
  have hI0 : PMp I0 J0 ln I J ∧ (fun _ => True) (I 408) := ⟨hR, trivial⟩
  refine q_ild rfl rfl ?_
  refine q_if (c := 3) rfl (by decide) (fun _ => ?_) (fun h => absurd (show (3 : Int32).toInt < 0 from h) (by decide))
  refine q_ald rfl rfl ?_
  refine q_geti rfl sk_404 ?_
  refine q_ic rfl ?_
  refine q_icmp (c := 1) rfl (by decide) (fun h => ?_) (fun h => ?_)
  rotate_left
  · have h : (I 404 21).toInt = (30 : Int32).toInt := h
    have hg : 30 ≤ ln := by omega
    have eR : (plF (tbM I0) N m ln C R T) = (4, T.2.1, 0, p0) := by simp only [plF, hw, hg, hw9, ↓reduceIte]
    refine q_ald rfl rfl ?_
    refine q_ic rfl ?_
    refine mb_step (c := 4) rfl rfl (pmV (J0 := J0) (P := fun _ => True)) hI0 (fun I1 J1 hI1 g7 g8 => ?_)
    rw [eR] at hno
    exact hno (nn rfl) I1 J1 hI1.1 g7 (g8.trans hT.2.1)
  have h : (I 404 21).toInt ≠ (30 : Int32).toInt := h
  have hg : ¬ (30 ≤ ln) := by omega
  have t3 : (3 * I 404 21).toInt = 3 * ln := i_mul (by rw [c3, h21]) (by omega) (by omega)
  have tto : (1 + 3 * I 404 21).toInt = 1 + 3 * ln := by rw [i_add (by omega) (by omega), c1, t3]
  have tt1 : (1 + 3 * I 404 21 + 1).toInt = 2 + 3 * ln := by rw [i_add (by omega) (by omega), tto, c1]; omega
  have n0 : (1 + 3 * I 404 21).toInt.toNat = 1 + 3 * ln := by omega
  have n1 : (1 + 3 * I 404 21 + 1).toInt.toNat = 2 + 3 * ln := by omega
  refine q_ic rfl ?_
  refine q_ic rfl ?_
  refine q_ald rfl rfl ?_
  refine q_geti rfl sk_404 ?_
  refine q_mul rfl ?_
  refine q_add rfl ?_
  refine q_ist rfl rfl ?_
  show dw_ok (pr_X12_planLine K) 92 0 0 [some (.ref 404), some (.int 3), some (.int (1 + 3 * I 404 21))] [] (n, SH1, I, J)
  have hw1 : T.1 = 1 := wp_1 (by rw [hw]; decide)
  have hin := tkF_in (b := tbM I0) (n := N) (m := m) (p := p) hp
  rw [← hTe] at hin
  refine q_ald rfl rfl ?_
  refine mn_step (p := T.2.2.1) rfl (pmV (J0 := J0) (P := fun _ => True)) hI0 hN hN9 hm hin.2.2.1 (hT.2.2.1 (Or.inl hw1)) (fun I1 J1 hI1 hM1 => ?_)
  obtain ⟨T1, hT1⟩ : ∃ t, t = tkF (tbM I0) N m T.2.2.1 := ⟨_, rfl⟩
  have hin1 := tkF_in (b := tbM I0) (n := N) (m := m) (p := T.2.2.1) hin.2.2.1
  rw [← hT1] at hM1 hin1
  refine q_ald rfl rfl ?_
  refine q_getr rfl sk_404 sr_404_8 ?_
  refine q_ild rfl rfl ?_
  refine q_ild rfl rfl ?_
  refine q_iast rfl sk_408 sn_408 (by omega) (by omega) ?_
  rw [n0]
  show dw_ok (pr_X12_planLine K) 103 0 0 [some (.ref 404), some (.int 3), some (.int (1 + 3 * I 404 21))] [] (n, SH1, dw_up I1 408 (1 + 3 * ln) 3, J1)
  obtain ⟨I2, hI2⟩ : ∃ X, X = dw_up I1 408 (1 + 3 * ln) 3 := ⟨_, rfl⟩
  have hR2 : PMp I0 J0 ln I2 J1 := by rw [hI2]; exact pm_up hI1.1 (by omega)
  have hD2 : I2 408 (1 + 3 * ln) = 3 := by rw [hI2]; exact up_same
  have hM2 : MK (tbM I0) T1 I2 J1 := mk_row (by rw [hI2]; exact up_row (by decide)) hM1
  rw [← hI2]
  refine q_ild rfl rfl ?_
  refine q_if (c := 1) rfl (by decide) (fun _ => ?_) (fun h => absurd (show (3 : Int32).toInt = 0 from h) (by decide))
  refine q_ald rfl rfl ?_
  refine q_ic rfl ?_
  refine q_ald rfl rfl ?_
  refine q_getr rfl sk_404 sr_404_6 ?_
  refine q_ic rfl ?_
  refine q_xald rfl (Or.inl rfl) sk_406 sn_406 (by decide) (by decide) ?_
  refine q_ic rfl ?_
  refine q_sub rfl ?_
  show dw_ok (pr_X12_planLine K) 144 0 0 [some (.ref 404), some (.int 3), some (.int (1 + 3 * I 404 21))] [.int (I2 406 0 - 1), .int 0, .ref 404] (n, SH1, I2, J1)
  have eh1 : (I2 406 0 - 1).toInt = C - 1 := by
    rw [hR2.1 406 (by decide) (by decide), i_sub (by omega) (by omega), hC, c1]
  refine mt_step (T := T1) rfl rfl rfl rfl (pmV (P := fun f => f (1 + 3 * ln) = 3)) ⟨hR2, hD2⟩ hN hN9 hm hM2 hin1.2.2.1 ?_ ?_
  rotate_left
  · intro e1 I9 J9 hI9 g7 g8
    rw [eh1] at e1 g7
    have e1 : nbF T1 0 (C - 1) ≠ 0 := e1
    have eR : (plF (tbM I0) N m ln C R T) = (nbF T1 0 (C - 1), T1.2.1, 0, p0) := by simp only [plF, nbP, hw, hw9, hg, hk0, ← hT1, e1, ↓reduceIte]
    rw [eR] at hno
    exact hno e1 I9 J9 hI9.1 g7 g8
  intro e1 I3 J3 hI3 hM3 g319
  rw [eh1] at e1
  have e1 : nbF T1 0 (C - 1) = 0 := e1
  obtain ⟨hR3, hD3⟩ := hI3
  refine q_ald rfl rfl ?_
  refine q_getr rfl sk_404 sr_404_8 ?_
  refine q_ild rfl rfl ?_
  refine q_ic rfl ?_
  refine q_add rfl ?_
  refine q_ald rfl rfl ?_
  refine q_geti rfl sk_404 ?_
  refine q_iast rfl sk_408 sn_408 (by omega) (by omega) ?_
  rw [n1]
  show dw_ok (pr_X12_planLine K) 164 0 0 [some (.ref 404), some (.int 3), some (.int (1 + 3 * I 404 21))] [] (n, SH1, dw_up I3 408 (2 + 3 * ln) (I3 404 19), J3)
  rw [g319]
  obtain ⟨I4, hI4⟩ : ∃ X, X = dw_up I3 408 (2 + 3 * ln) T1.2.2.2 := ⟨_, rfl⟩
  have hR4 : PMp I0 J0 ln I4 J3 := by rw [hI4]; exact pm_up hR3 (by omega)
  have hD4 : I4 408 (1 + 3 * ln) = 3 ∧ I4 408 (2 + 3 * ln) = T1.2.2.2 := by
    rw [hI4]
    exact ⟨(up_fld (by omega)).trans hD3, up_same⟩
  have hM4 : MK (tbM I0) (tkF (tbM I0) N m T1.2.2.1) I4 J3 := mk_row (by rw [hI4]; exact up_row (by decide)) hM3
  obtain ⟨T2, hT2⟩ : ∃ t, t = tkF (tbM I0) N m T1.2.2.1 := ⟨_, rfl⟩
  have hin2 := tkF_in (b := tbM I0) (n := N) (m := m) (p := T1.2.2.1) hin1.2.2.1
  rw [← hT2] at hM4 hin2
  rw [← hI4]
  refine q_ald rfl rfl ?_
  refine q_ic rfl ?_
  refine q_ald rfl rfl ?_
  refine q_getr rfl sk_404 sr_404_6 ?_
  refine q_ic rfl ?_
  refine q_xald rfl (Or.inl rfl) sk_406 sn_406 (by decide) (by decide) ?_
  refine q_ic rfl ?_
  refine q_sub rfl ?_
  show dw_ok (pr_X12_planLine K) 174 0 0 [some (.ref 404), some (.int 3), some (.int (1 + 3 * I 404 21))] [.int (I4 406 1 - 1), .int 0, .ref 404] (n, SH1, I4, J3)
  have eh2 : (I4 406 1 - 1).toInt = R - 1 := by
    rw [hR4.1 406 (by decide) (by decide), i_sub (by omega) (by omega), hRr, c1]
  refine mt_step (T := T2) rfl rfl rfl rfl (pmV (P := fun f => f (1 + 3 * ln) = 3 ∧ f (2 + 3 * ln) = T1.2.2.2)) ⟨hR4, hD4⟩ hN hN9 hm hM4 hin2.2.2.1 ?_ ?_
  rotate_left
  · intro e2 I9 J9 hI9 g7 g8
    rw [eh2] at e2 g7
    have e2 : nbF T2 0 (R - 1) ≠ 0 := e2
    have eR : (plF (tbM I0) N m ln C R T) = (nbF T2 0 (R - 1), T2.2.1, 0, p0) := by simp only [plF, nbP, hw, hw9, hg, hk0, ← hT1, e1, ← hT2, e2, ↓reduceIte]
    rw [eR] at hno
    exact hno e2 I9 J9 hI9.1 g7 g8
  intro e2 I5 J5 hI5 hM5 g519
  rw [eh2] at e2
  have e2 : nbF T2 0 (R - 1) = 0 := e2
  obtain ⟨hR5, hD5⟩ := hI5
  refine q_ald rfl rfl ?_
  refine q_getr rfl sk_404 sr_404_8 ?_
  refine q_ild rfl rfl ?_
  refine q_ic rfl ?_
  refine q_add rfl ?_
  refine q_ald rfl rfl ?_
  refine q_ald rfl rfl ?_
  refine q_getr rfl sk_404 sr_404_8 ?_
  refine q_ild rfl rfl ?_
  refine q_ic rfl ?_
  refine q_add rfl ?_
  refine q_xald rfl (Or.inl rfl) sk_408 sn_408 (by omega) (by omega) ?_
  refine q_ald rfl rfl ?_
  refine q_geti rfl sk_404 ?_
  show dw_ok (pr_X12_planLine K) 202 0 0 [some (.ref 404), some (.int 3), some (.int (1 + 3 * I 404 21))] [.int (I5 404 19), .int (I5 408 (1 + 3 * I 404 21 + 1).toInt.toNat), .ref 404, .int (1 + 3 * I 404 21 + 1), .ref 408] (n, SH1, I5, J5)
  rw [g519, n1, hD5.2]
  refine q_callV (as := [.int T1.2.2.2, .int T2.2.2.2]) (rest := [.int (1 + 3 * I 404 21 + 1), .ref 408]) rfl rfl sk_404 rfl (Nat.le_of_ble_eq_true rfl) ?_
  refine v_numberOf ?_
  rw [hR5.1 406 (by decide) (by decide)]
  show dw_ok (pr_X12_planLine K) 205 0 0 [some (.ref 404), some (.int 3), some (.int (1 + 3 * I 404 21))] [.int (I0 406 0 * T2.2.2.2 + T1.2.2.2), .int (1 + 3 * I 404 21 + 1), .ref 408] (n, SH1, I5, J5)
  refine q_iast rfl sk_408 sn_408 (by omega) (by omega) ?_
  rw [n1]
  refine q_ic rfl ?_
  have eR : (plF (tbM I0) N m ln C R T) = stP (tkF (tbM I0) N m T2.2.2.1) (fun p => (0, 0, p, 3, T1.2.2.2, T2.2.2.2)) := by simp only [plF, nbP, hw, hw9, hg, hk0, ← hT1, e1, ← hT2, e2, ↓reduceIte]
  refine q_zret rfl (Or.inr rfl) (hok _ _ (3, T1.2.2.2, T2.2.2.2) (dw_up I5 408 (2 + 3 * ln) (I0 406 0 * T2.2.2.2 + T1.2.2.2)) J5 eR rfl hin2.2.2.1 (mk_row (up_row (by decide)) hM5) (pm_up hR5 (by omega)) ⟨?_, ?_⟩)
  · exact (up_fld (by omega)).trans hD5.1
  · rw [if_neg hk0]; exact up_same
set_option maxRecDepth 8000 in
set_option maxHeartbeats 1000000 in
theorem v_mpline {n : Nat} {I : Nat → Nat → Int32} {J : Nat → Nat → Int64} {K : dw_K} {I0 : Nat → Nat → Int32} {J0 : Nat → Nat → Int64} {T : fT} {N m ln p : Nat} {C R : Int} (hR : PMp I0 J0 ln I J) (hN : (I0 404 3).toInt = N) (hN9 : N ≤ 940) (hm : (I0 404 5).toInt = m) (hT : MK (tbM I0) T I J) (hTe : T = tkF (tbM I0) N m p) (hp : p ≤ N) (hln : (I0 404 21).toInt = ln) (hl30 : ln ≤ 30) (hC : (I0 406 0).toInt = C) (hC0 : 0 ≤ C) (hC9 : C ≤ 144) (hRr : (I0 406 1).toInt = R) (hR0 : 0 ≤ R) (hR9 : R ≤ 144)
    (hok : ∀ (T' : fT) (p' : Nat) (l : pL) (I' : Nat → Nat → Int32) (J' : Nat → Nat → Int64), (plF (tbM I0) N m ln C R T) = stP T' (fun p => (0, 0, p, l)) → T' = tkF (tbM I0) N m p' → p' ≤ N → MK (tbM I0) T' I' J' → PMp I0 J0 ln I' J' → I' 408 (1 + 3 * ln) = Int32.ofNat l.1 ∧ I' 408 (2 + 3 * ln) = (if l.1 = 0 then l.2.1 else I0 406 0 * l.2.2 + l.2.1) → K (some (.int 1)) (n, SH1, I', J'))
    (hno : (plF (tbM I0) N m ln C R T).1 ≠ 0 → ∀ (I' : Nat → Nat → Int32) (J' : Nat → Nat → Int64), PMp I0 J0 ln I' J' → (I' 404 15).toInt = (plF (tbM I0) N m ln C R T).1 → (I' 404 16).toInt = (plF (tbM I0) N m ln C R T).2.1 → K (some (.int 0)) (n, SH1, I', J')) : t_X12_planLine [.ref 404] (n, SH1, I, J) K := by
  refine q_body (Nat.le_of_ble_eq_true rfl) ?_
  have hT' := hT
  rw [hTe] at hT'
  refine q_ald rfl rfl ?_
  refine q_lc rfl ?_
  refine mw_step (i := 22) (W := 28526) rfl hT' hp (by decide) (by decide) (sm_ok (by decide)) (by decide +kernel) (fun s22 => ?_) (fun s22 => ?_)
  · refine q_if (c := 0) rfl (by decide) (fun h => absurd (show (1 : Int32).toInt = 0 from h) (by decide)) (fun _ => ?_)
    refine q_ic rfl ?_
    refine q_goto rfl ?_
    refine q_ist rfl rfl ?_
    have hw : wpF (tbM I0) T = 0 := by rw [hTe]; unfold wpF; rw [if_pos s22]
    exact v_mpline0 hR hN hN9 hm hT hTe hp hln hl30 hC hC0 hC9 hRr hR0 hR9 hw hok hno
  refine q_if (c := 0) rfl (by decide) (fun _ => ?_) (fun h => absurd rfl h)
  refine q_ald rfl rfl ?_
  refine q_lc rfl ?_
  refine mw_step (i := 23) (W := 2003398757) rfl hT' hp (by decide) (by decide) (sm_ok (by decide)) (by decide +kernel) (fun s23 => ?_) (fun s23 => ?_)
  · refine q_if (c := 0) rfl (by decide) (fun h => absurd (show (1 : Int32).toInt = 0 from h) (by decide)) (fun _ => ?_)
    refine q_ic rfl ?_
    refine q_goto rfl ?_
    refine q_ist rfl rfl ?_
    have hw : wpF (tbM I0) T = 1 := by rw [hTe]; unfold wpF; rw [if_neg s22, if_pos s23]
    exact v_mpline1 hR hN hN9 hm hT hTe hp hln hl30 hC hC0 hC9 hRr hR0 hR9 hw hok hno
  refine q_if (c := 0) rfl (by decide) (fun _ => ?_) (fun h => absurd rfl h)
  refine q_ald rfl rfl ?_
  refine q_lc rfl ?_
  refine mw_step (i := 24) (W := 427071792498) rfl hT' hp (by decide) (by decide) (sm_ok (by decide)) (by decide +kernel) (fun s24 => ?_) (fun s24 => ?_)
  · refine q_if (c := 0) rfl (by decide) (fun h => absurd (show (1 : Int32).toInt = 0 from h) (by decide)) (fun _ => ?_)
    refine q_ic rfl ?_
    refine q_goto rfl ?_
    refine q_ist rfl rfl ?_
    have hw : wpF (tbM I0) T = 2 := by rw [hTe]; unfold wpF; rw [if_neg s22, if_neg s23, if_pos s24]
    exact v_mpline2 hR hN hN9 hm hT hTe hp hln hl30 hC hC0 hC9 hRr hR0 hR9 hw hok hno
  refine q_if (c := 0) rfl (by decide) (fun _ => ?_) (fun h => absurd rfl h)
  refine q_ald rfl rfl ?_
  refine q_lc rfl ?_
  refine mw_step (i := 25) (W := 1650553445) rfl hT' hp (by decide) (by decide) (sm_ok (by decide)) (by decide +kernel) (fun s25 => ?_) (fun s25 => ?_)
  · refine q_if (c := 0) rfl (by decide) (fun h => absurd (show (1 : Int32).toInt = 0 from h) (by decide)) (fun _ => ?_)
    refine q_ic rfl ?_
    refine q_goto rfl ?_
    refine q_ist rfl rfl ?_
    have hw : wpF (tbM I0) T = 3 := by rw [hTe]; unfold wpF; rw [if_neg s22, if_neg s23, if_neg s24, if_pos s25]
    exact v_mpline3 hR hN hN9 hm hT hTe hp hln hl30 hC hC0 hC9 hRr hR0 hR9 hw hok hno
  refine q_if (c := 0) rfl (by decide) (fun _ => ?_) (fun h => absurd rfl h)
  refine q_ic rfl ?_
  refine q_ist rfl rfl ?_
  have hw : wpF (tbM I0) T = 9 := by rw [hTe]; unfold wpF; rw [if_neg s22, if_neg s23, if_neg s24, if_neg s25]
  have eR : (plF (tbM I0) N m ln C R T) = (1, T.2.1, 0, p0) := by simp only [plF, hw, ↓reduceIte]
  refine q_ild rfl rfl ?_
  refine q_if (c := 3) rfl (by decide) (fun h => absurd (show 0 ≤ (-1 : Int32).toInt from h) (by decide)) (fun _ => ?_)
  refine q_ald rfl rfl ?_
  refine q_ic rfl ?_
  refine mb_step (c := 1) rfl rfl (pmV (J0 := J0) (P := fun _ => True)) ⟨hR, trivial⟩ (fun I1 J1 hI1 g7 g8 => ?_)
  rw [eR] at hno
  exact hno (nn rfl) I1 J1 hI1.1 g7 (g8.trans hT.2.1)
/-! ===== plan() of the model ===== -/
set_option maxRecDepth 8000 in
theorem PL_N {I0 I I' : Nat → Nat → Int32} {J0 J J' : Nat → Nat → Int64} {ln : Nat} (h : NLp I0 J0 I J) (g : PMp I J ln I' J') : NLp I0 J0 I' J' :=
  ⟨fun a h1 h2 => (g.1 a h1 h2).trans (h.1 a h1 h2), fun j h1 h2 => (g.2.1 j h1).trans (h.2.1 j h1 h2), fun a ha => (g.2.2.2.1 a ha).trans (h.2.2.1 a ha), fun j h1 h2 => (g.2.2.2.2 j h1 h2).trans (h.2.2.2 j h1 h2)⟩
set_option maxRecDepth 8000 in
/-- a fault is told: -1 less its place -/
theorem pn_bad {n bc bs : Nat} {I : Nat → Nat → Int32} {J : Nat → Nat → Int64} {K : dw_K} {q : Nat} (h : (I 404 16).toInt = q) (hq : q ≤ 940) (hk : ∀ w : Int32, w.toInt = -1 - (q : Int) → K (some (.int w)) (n, SH1, I, J)) : dw_ok (pr_X12_plan K) 49 bc bs [some (.ref 404), none] [] (n, SH1, I, J) := by
  have cm : (-1 : Int32).toInt = -1 := rfl
  refine q_ic rfl ?_
  refine q_ald rfl rfl ?_
  refine q_geti rfl sk_404 ?_
  refine q_sub rfl ?_
  exact q_iret rfl (hk _ (by show ((-1 : Int32) - I 404 16).toInt = _; rw [i_sub (by omega) (by omega), cm, h]))
set_option maxRecDepth 8000 in
theorem pn_loop {n bc bs : Nat} {K : dw_K} {I0 : Nat → Nat → Int32} {J0 : Nat → Nat → Int64} {N m : Nat} {C R : Int} {G : Nat × Nat × Nat × List pL} (hN : (I0 404 3).toInt = N) (hN9 : N ≤ 940) (hm : (I0 404 5).toInt = m) (hpl : G.2.1 ≤ 940) (hC : (I0 406 0).toInt = C) (hC0 : 0 ≤ C) (hC9 : C ≤ 144) (hRr : (I0 406 1).toInt = R) (hR0 : 0 ≤ R) (hR9 : R ≤ 144)
    (hok : G.1 = 0 → ∀ (I' : Nat → Nat → Int32) (J' : Nat → Nat → Int64), NLp I0 J0 I' J' → mpF (I' 408) (I0 406 0) G.2.2.2 → (I' 404 21).toInt = G.2.2.1 → G.2.2.1 = G.2.2.2.length → G.2.2.1 ≤ 30 → dw_ok (pr_X12_plan K) 69 bc bs [some (.ref 404), none] [] (n, SH1, I', J'))
    (hno : G.1 ≠ 0 → ∀ (I' : Nat → Nat → Int32) (J' : Nat → Nat → Int64) (w : Int32), NLp I0 J0 I' J' → w.toInt = -1 - (G.2.1 : Int) → K (some (.int w)) (n, SH1, I', J')) :
    ∀ (f ln p : Nat) (L : List pL) (I : Nat → Nat → Int32) (J : Nat → Nat → Int64), ln + f = 30 → L.length = ln → pgF (tbM I0) N m C R (f + 1) ln p L = G → NLp I0 J0 I J → (I 404 21).toInt = ln → mpF (I 408) (I0 406 0) L → MK (tbM I0) (tkF (tbM I0) N m p) I J → p ≤ N → dw_ok (pr_X12_plan K) 26 bc bs [some (.ref 404), none] [] (n, SH1, I, J) := by
  have c1 : (1 : Int32).toInt = 1 := rfl
  intro f
  induction f with
  | zero =>
    intro ln p L I J hf hL hG hR h21 hD hT hp
    have hb : tbM I = tbM I0 := tbM_eq (hR.2.1 3 (by decide) (by decide)) (hR.1 405 (by decide) (by decide))
    have hNI : (I 404 3).toInt = N := by rw [hR.2.1 3 (by decide) (by decide)]; exact hN
    have hmI : (I 404 5).toInt = m := by rw [hR.2.1 5 (by decide) (by decide)]; exact hm
    unfold pgF at hG
    refine q_ald rfl rfl ?_
    refine q_geti rfl sk_404 ?_
    refine q_if (c := 0) rfl (by decide) (fun h => ?_) (fun h => ?_)
    · have h : (I 404 11).toInt = 0 := h
      have hT0 : (tkF (tbM I0) N m p).1 = 0 := by have := hT.1; omega
      rw [if_pos hT0] at hG
      rw [← hG] at hok
      exact hok rfl I J hR hD h21 hL.symm (by show ln ≤ 30; omega)
    have h : (I 404 11).toInt ≠ 0 := h
    have hT0 : ¬ (tkF (tbM I0) N m p).1 = 0 := by have := hT.1; omega
    rw [if_neg hT0] at hG
    refine q_ald rfl rfl ?_
    refine q_callV (as := []) (rest := []) rfl rfl sk_404 rfl (Nat.le_of_ble_eq_true rfl) ?_
    rw [← hb] at hT hG
    have h406 : I 406 = I0 406 := hR.1 406 (by decide) (by decide)
    have hC' : (I 406 0).toInt = C := by rw [h406]; exact hC
    have hR'' : (I 406 1).toInt = R := by rw [h406]; exact hRr
    refine v_mpline (I0 := I) (J0 := J) (p := p) (ln := ln) ⟨fun _ _ _ => rfl, fun _ _ => rfl, fun _ _ => rfl, fun _ _ => rfl, fun _ _ _ => rfl⟩ hNI hN9 hmI hT rfl hp h21 (by omega) hC' hC0 hC9 hR'' hR0 hR9 (fun T' p' l I' J' e hTe hp' hM hR' hD' => ?_) (fun hr I' J' hR' g15 g16 => ?_)
    · have hr : (plF (tbM I) N m ln C R (tkF (tbM I) N m p)).1 ≠ 0 := pl_30 (by omega)
      rw [if_neg hr] at hG
      have h3 : T'.1 ≠ 3 := fun h3 => hr (by rw [e]; unfold stP; rw [if_pos h3])
      have e2 : plF (tbM I) N m ln C R (tkF (tbM I) N m p) = (1, T'.2.1, 0, p0) := by rw [e]; unfold stP; rw [if_neg h3]
      rw [e2] at hG
      have hin' := tkF_in (b := tbM I) (n := N) (m := m) (p := p') hp'
      rw [← hTe] at hin'
      show dw_ok (pr_X12_plan K) 37 bc bs [some (.ref 404), none] [.int 1] (n, SH1, I', J')
      refine q_if (c := 0) rfl (by decide) (fun h => absurd (show (1 : Int32).toInt = 0 from h) (by decide)) (fun _ => ?_)
      refine q_ald rfl rfl ?_
      refine q_ic rfl ?_
      refine q_callV (as := [.int 59]) (rest := []) rfl rfl sk_404 rfl (Nat.le_of_ble_eq_true rfl) ?_
      refine v_sign (b := tbM I) (T := T') (N := N) (m := m) (by rw [hR'.2.1 3 (by decide)]; exact hNI) hN9 (by rw [hR'.2.1 5 (by decide)]; exact hmI) (tbM_eq (hR'.2.1 3 (by decide)) (hR'.1 405 (by decide) (by decide))) hM hin'.2.2.1 (fun g => absurd g h3) (fun _ => ?_)
      show dw_ok (pr_X12_plan K) 46 bc bs [some (.ref 404), none] [.int 0] (n, SH1, dw_up (dw_up I' 404 15 1) 404 16 (I' 404 12), J')
      refine q_if (c := 1) rfl (by decide) (fun h => absurd rfl h) (fun _ => ?_)
      have hR2 : NLp I0 J0 (dw_up (dw_up I' 404 15 1) 404 16 (I' 404 12)) J' := by
        have q := PL_N hR hR'
        exact ⟨fun a h1 h2 => (up_row h1).trans ((up_row h1).trans (q.1 a h1 h2)), fun j h1 h2 => (up_fld h1.2.2.2.2.2.2.1).trans ((up_fld h1.2.2.2.2.2.1).trans (q.2.1 j h1 h2)), q.2.2.1, q.2.2.2⟩
      rw [← hG] at hno hpl
      exact pn_bad (q := T'.2.1) hM.2.1 hpl (fun w hw => hno (nn rfl) _ _ w hR2 hw)
    · rw [if_neg hr] at hG
      show dw_ok (pr_X12_plan K) 37 bc bs [some (.ref 404), none] [.int 0] (n, SH1, I', J')
      refine q_if (c := 0) rfl (by decide) (fun _ => ?_) (fun h => absurd rfl h)
      rw [← hG] at hno hpl
      exact pn_bad g16 hpl (fun w hw => hno hr _ _ w (PL_N hR hR') hw)
  | succ f ih =>
    intro ln p L I J hf hL hG hR h21 hD hT hp
    have hb : tbM I = tbM I0 := tbM_eq (hR.2.1 3 (by decide) (by decide)) (hR.1 405 (by decide) (by decide))
    have hNI : (I 404 3).toInt = N := by rw [hR.2.1 3 (by decide) (by decide)]; exact hN
    have hmI : (I 404 5).toInt = m := by rw [hR.2.1 5 (by decide) (by decide)]; exact hm
    unfold pgF at hG
    refine q_ald rfl rfl ?_
    refine q_geti rfl sk_404 ?_
    refine q_if (c := 0) rfl (by decide) (fun h => ?_) (fun h => ?_)
    · have h : (I 404 11).toInt = 0 := h
      have hT0 : (tkF (tbM I0) N m p).1 = 0 := by have := hT.1; omega
      rw [if_pos hT0] at hG
      rw [← hG] at hok
      exact hok rfl I J hR hD h21 hL.symm (by show ln ≤ 30; omega)
    have h : (I 404 11).toInt ≠ 0 := h
    have hT0 : ¬ (tkF (tbM I0) N m p).1 = 0 := by have := hT.1; omega
    rw [if_neg hT0] at hG
    refine q_ald rfl rfl ?_
    refine q_callV (as := []) (rest := []) rfl rfl sk_404 rfl (Nat.le_of_ble_eq_true rfl) ?_
    rw [← hb] at hT hG
    have h406 : I 406 = I0 406 := hR.1 406 (by decide) (by decide)
    have hC' : (I 406 0).toInt = C := by rw [h406]; exact hC
    have hR'' : (I 406 1).toInt = R := by rw [h406]; exact hRr
    refine v_mpline (I0 := I) (J0 := J) (p := p) (ln := ln) ⟨fun _ _ _ => rfl, fun _ _ => rfl, fun _ _ => rfl, fun _ _ => rfl, fun _ _ _ => rfl⟩ hNI hN9 hmI hT rfl hp h21 (by omega) hC' hC0 hC9 hR'' hR0 hR9 (fun T' p' l I' J' e hTe hp' hM hR' hD' => ?_) (fun hr I' J' hR' g15 g16 => ?_)
    · have hin' := tkF_in (b := tbM I) (n := N) (m := m) (p := p') hp'
      rw [← hTe] at hin'
      show dw_ok (pr_X12_plan K) 37 bc bs [some (.ref 404), none] [.int 1] (n, SH1, I', J')
      refine q_if (c := 0) rfl (by decide) (fun h => absurd (show (1 : Int32).toInt = 0 from h) (by decide)) (fun _ => ?_)
      refine q_ald rfl rfl ?_
      refine q_ic rfl ?_
      refine q_callV (as := [.int 59]) (rest := []) rfl rfl sk_404 rfl (Nat.le_of_ble_eq_true rfl) ?_
      have hb' : tbM I' = tbM I := tbM_eq (hR'.2.1 3 (by decide)) (hR'.1 405 (by decide) (by decide))
      refine v_sign (b := tbM I) (T := T') (N := N) (m := m) (by rw [hR'.2.1 3 (by decide)]; exact hNI) hN9 (by rw [hR'.2.1 5 (by decide)]; exact hmI) hb' hM hin'.2.2.1 (fun h3 I2 J2 hA hF hJa hJf hM2 => ?_) (fun h3 => ?_)
      · have e2 : plF (tbM I) N m ln C R (tkF (tbM I) N m p) = (0, 0, T'.2.2.1, l) := by rw [e]; unfold stP; rw [if_pos h3]
        rw [e2, if_pos rfl] at hG
        have h212 : (I2 404 21).toInt = ln := by rw [hF 21 (by decide) (by decide) (by decide) (by decide) (by decide), hR'.2.1 21 (by decide)]; exact h21
        have t21 : (I2 404 21 + 1).toInt = (ln + 1 : Nat) := by rw [i_add (by omega) (by omega), c1, h212]; omega
        show dw_ok (pr_X12_plan K) 46 bc bs [some (.ref 404), none] [.int 1] (n, SH1, I2, J2)
        refine q_if (c := 1) rfl (by decide) (fun _ => ?_) (fun h => absurd (show (1 : Int32).toInt = 0 from h) (by decide))
        refine q_ald rfl rfl ?_
        refine q_dup rfl ?_
        refine q_geti rfl sk_404 ?_
        refine q_ic rfl ?_
        refine q_add rfl ?_
        refine q_puti rfl sk_404 ?_
        refine q_goto rfl ?_
        show dw_ok (pr_X12_plan K) 26 bc bs [some (.ref 404), none] [] (n, SH1, dw_up I2 404 21 (I2 404 21 + 1), J2)
        have q := PL_N hR hR'
        rw [hb] at hM2 hG
        refine ih (ln + 1) T'.2.2.1 (l :: L) (dw_up I2 404 21 (I2 404 21 + 1)) J2 (by omega) (by rw [List.length_cons, hL]) hG ⟨fun a h1 h2 => (up_row h1).trans ((hA a h1).trans (q.1 a h1 h2)), fun j h1 h2 => (up_fld h2).trans ((hF j h1.1 h1.2.1 h1.2.2.1 h1.2.2.2.1 h1.2.2.2.2.1).trans (q.2.1 j h1 h2)), fun a ha => (hJa a ha).trans (q.2.2.1 a ha), fun j h1 h2 => (hJf j h1 h2).trans (q.2.2.2 j h1 h2)⟩ ?_ ?_ ?_ hin'.2.2.1
        · show (I2 404 21 + 1).toInt = _; exact t21
        · have hr8 : (dw_up I2 404 21 (I2 404 21 + 1)) 408 = I' 408 := (up_row (by decide)).trans (hA 408 (by decide))
          have hLl : L.length = ln := hL
          refine ⟨?_, ?_, mp_same (R := I 408) L (fun j _ hj => ?_) hD⟩
          · rw [hr8, hLl]; exact hD'.1
          · rw [hr8, hLl, ← h406]; exact hD'.2
          · rw [hr8]; exact hR'.2.2.1 j (by omega)
        · exact mk_fld (fun j hj => up_fld hj) hM2
      · have e2 : plF (tbM I) N m ln C R (tkF (tbM I) N m p) = (1, T'.2.1, 0, p0) := by rw [e]; unfold stP; rw [if_neg h3]
        rw [e2] at hG
        show dw_ok (pr_X12_plan K) 46 bc bs [some (.ref 404), none] [.int 0] (n, SH1, dw_up (dw_up I' 404 15 1) 404 16 (I' 404 12), J')
        refine q_if (c := 1) rfl (by decide) (fun h => absurd rfl h) (fun _ => ?_)
        have hR2 : NLp I0 J0 (dw_up (dw_up I' 404 15 1) 404 16 (I' 404 12)) J' := by
          have q := PL_N hR hR'
          exact ⟨fun a h1 h2 => (up_row h1).trans ((up_row h1).trans (q.1 a h1 h2)), fun j h1 h2 => (up_fld h1.2.2.2.2.2.2.1).trans ((up_fld h1.2.2.2.2.2.1).trans (q.2.1 j h1 h2)), q.2.2.1, q.2.2.2⟩
        rw [if_neg (show ¬ (((1, T'.2.1, 0, p0) : pR).1 = 0) from nn rfl)] at hG
        rw [← hG] at hno hpl
        exact pn_bad (q := T'.2.1) hM.2.1 hpl (fun w hw => hno (nn rfl) _ _ w hR2 hw)
    · rw [if_neg hr] at hG
      show dw_ok (pr_X12_plan K) 37 bc bs [some (.ref 404), none] [.int 0] (n, SH1, I', J')
      refine q_if (c := 0) rfl (by decide) (fun _ => ?_) (fun h => absurd rfl h)
      rw [← hG] at hno hpl
      exact pn_bad g16 hpl (fun w hw => hno hr _ _ w (PL_N hR hR') hw)
set_option maxRecDepth 8000 in
theorem mpk_loop {n bc bs c : Nat} {K : dw_K} {I0 : Nat → Nat → Int32} {J : Nat → Nat → Int64} (hc : (I0 404 21).toInt = c) (hc9 : c ≤ 30)
    (hk : ∀ I' : Nat → Nat → Int32, (∀ a, a ≠ 406 → I' a = I0 a) → (∀ j, I' 406 j = if 803 ≤ j ∧ j < 803 + (3 * c + 1) then I0 408 (j - 803) else I0 406 j) → K (some (.int (I0 404 21))) (n, SH1, I', J)) :
    ∀ (f k : Nat) (y : Int32) (I : Nat → Nat → Int32), k ≤ 3 * c + 1 → 3 * c + 1 - k ≤ f → y.toInt = k → (∀ a, a ≠ 406 → I a = I0 a) → (∀ j, I 406 j = if 803 ≤ j ∧ j < 803 + k then I0 408 (j - 803) else I0 406 j) → dw_ok (pr_X12_plan K) 81 bc bs [some (.ref 404), some (.int y)] [] (n, SH1, I, J) := by
  have c1 : (1 : Int32).toInt = 1 := rfl
  have c3 : (3 : Int32).toInt = 3 := rfl
  have c803 : (803 : Int32).toInt = 803 := rfl
  intro f
  induction f with
  | zero =>
    intro k y I hk1 hf hy hA hB
    have h4 : I 404 = I0 404 := hA 404 (by decide)
    have t4 : (3 * I 404 21).toInt = 3 * c := i_mul (by rw [c3, h4, hc]) (by omega) (by omega)
    refine q_ild rfl rfl ?_
    refine q_ic rfl ?_
    refine q_ald rfl rfl ?_
    refine q_geti rfl sk_404 ?_
    refine q_mul rfl ?_
    refine q_icmp (c := 4) rfl (by decide) (fun _ => ?_) (fun h => absurd (show y.toInt ≤ (3 * I 404 21).toInt from h) (by omega))
    refine q_ald rfl rfl ?_
    refine q_geti rfl sk_404 ?_
    refine q_iret rfl ?_
    show K (some (.int (I 404 21))) (n, SH1, I, J)
    rw [h4]
    exact hk I hA (fun j => by rw [hB j, show k = 3 * c + 1 by omega])
  | succ f ih =>
    intro k y I hk1 hf hy hA hB
    have h4 : I 404 = I0 404 := hA 404 (by decide)
    have t4 : (3 * I 404 21).toInt = 3 * c := i_mul (by rw [c3, h4, hc]) (by omega) (by omega)
    refine q_ild rfl rfl ?_
    refine q_ic rfl ?_
    refine q_ald rfl rfl ?_
    refine q_geti rfl sk_404 ?_
    refine q_mul rfl ?_
    refine q_icmp (c := 4) rfl (by decide) (fun h => ?_) (fun h => ?_)
    · have h : (3 * I 404 21).toInt < y.toInt := h
      refine q_ald rfl rfl ?_
      refine q_geti rfl sk_404 ?_
      refine q_iret rfl ?_
      show K (some (.int (I 404 21))) (n, SH1, I, J)
      rw [h4]
      exact hk I hA (fun j => by rw [hB j, show k = 3 * c + 1 by omega])
    have h : y.toInt ≤ (3 * I 404 21).toInt := h
    have t3 : (803 + y).toInt = 803 + k := by rw [i_add (by omega) (by omega), c803, hy]
    have ty : (y + 1).toInt = y.toInt + 1 := by rw [i_add (by omega) (by omega), c1]
    refine q_ald rfl rfl ?_
    refine q_getr rfl sk_404 sr_404_6 ?_
    refine q_ic rfl ?_
    refine q_ild rfl rfl ?_
    refine q_add rfl ?_
    refine q_ald rfl rfl ?_
    refine q_getr rfl sk_404 sr_404_8 ?_
    refine q_ild rfl rfl ?_
    refine q_xald rfl (Or.inl rfl) sk_408 sn_408 (by omega) (by omega) ?_
    refine q_iast rfl sk_406 sn_406 (by omega) (by omega) ?_
    refine q_inc rfl rfl rfl ?_
    refine q_goto rfl ?_
    refine ih (k + 1) (y + 1) (dw_up I 406 (803 + y).toInt.toNat (I 408 y.toInt.toNat)) (by omega) (by omega) (by omega) (fun a ha => (up_row ha).trans (hA a ha)) (fun j => ?_)
    have n3 : (803 + y).toInt.toNat = 803 + k := by omega
    rw [n3, show y.toInt.toNat = k by omega, show I 408 = I0 408 from hA 408 (by decide)]
    by_cases e : j = 803 + k
    · rw [if_pos (by omega), e, show 803 + k - 803 = k by omega]; exact up_same
    · rw [up_fld e, hB j]
      by_cases g : 803 ≤ j ∧ j < 803 + k
      · rw [if_pos g, if_pos (by omega)]
      · rw [if_neg g, if_neg (by omega)]
set_option maxRecDepth 8000 in
theorem v_mplan {n : Nat} {I : Nat → Nat → Int32} {J : Nat → Nat → Int64} {K : dw_K} {N : Nat} {C R : Int} {G : Nat × Nat × Nat × List pL} (hN : (I 404 2).toInt = N) (hN9 : N ≤ 940) (hC : (I 406 0).toInt = C) (hC0 : 0 ≤ C) (hC9 : C ≤ 144) (hRr : (I 406 1).toInt = R) (hR0 : 0 ≤ R) (hR9 : R ≤ 144) (hG : pgF (tbL I) N 300 C R 31 0 0 [] = G)
    (h1 : G.1 = 0 → ∀ (I' : Nat → Nat → Int32) (J' : Nat → Nat → Int64) (w : Int32), (∀ a, a ≠ 404 → a ≠ 406 → a ≠ 408 → I' a = I a) → (∀ j, 23 ≤ j → I' 404 j = I 404 j) → I' 404 2 = 0 → (∀ a, a ≠ 404 → J' a = J a) → (∀ j, j < 803 ∨ 894 ≤ j → I' 406 j = I 406 j) → I' 406 803 = w → mpF (fun j => I' 406 (803 + j)) (I 406 0) G.2.2.2 → w.toInt = G.2.2.1 → G.2.2.1 = G.2.2.2.length → G.2.2.1 ≤ 30 → K (some (.int w)) (n, SH1, I', J'))
    (h2 : G.1 ≠ 0 → ∀ (I' : Nat → Nat → Int32) (J' : Nat → Nat → Int64) (w : Int32), (∀ a, a ≠ 404 → a ≠ 408 → I' a = I a) → (∀ j, 23 ≤ j → I' 404 j = I 404 j) → I' 404 2 = 0 → (∀ a, a ≠ 404 → J' a = J a) → w.toInt = -1 - (G.2.1 : Int) → K (some (.int w)) (n, SH1, I', J')) : t_X12_plan [.ref 404] (n, SH1, I, J) K := by
  have hpl : G.2.1 ≤ 940 := by rw [← hG]; exact Nat.le_trans (pp_pg 31 0 0 [] (Nat.zero_le _)) hN9
  refine q_body (Nat.le_of_ble_eq_true rfl) ?_
  refine q_ald rfl rfl ?_
  refine q_ic rfl ?_
  refine q_puti rfl sk_404 ?_
  refine q_ald rfl rfl ?_
  refine q_ic rfl ?_
  refine q_callV (as := [.int 300]) (rest := []) rfl rfl sk_404 rfl (Nat.le_of_ble_eq_true rfl) ?_
  refine v_taken (I := dw_up I 404 0 0) ?_
  refine q_ald rfl rfl ?_
  refine q_ic rfl ?_
  refine q_puti rfl sk_404 ?_
  refine q_ald rfl rfl ?_
  refine q_ic rfl ?_
  refine q_puti rfl sk_404 ?_
  obtain ⟨I2, hI2⟩ : ∃ X, X = dw_up (dw_up (dw_up (dw_up (dw_up (dw_up (dw_up I 404 0 0) 404 3 (I 404 2)) 404 2 0) 404 4 0) 404 5 300) 404 15 0) 404 21 0 := ⟨_, rfl⟩
  have hA2 : ∀ a, a ≠ 404 → I2 a = I a := fun a ha => by rw [hI2]; funext j; simp [dw_up, ha]
  have hF2 : ∀ j, 23 ≤ j → I2 404 j = I 404 j := fun j hj => by
    rw [hI2]
    exact (up_fld (by omega)).trans ((up_fld (by omega)).trans ((up_fld (by omega)).trans ((up_fld (by omega)).trans ((up_fld (by omega)).trans ((up_fld (by omega)).trans (up_fld (by omega)))))))
  have e3 : I2 404 3 = I 404 2 := by rw [hI2]; rfl
  have e2 : I2 404 2 = 0 := by rw [hI2]; rfl
  have e4 : I2 404 4 = 0 := by rw [hI2]; rfl
  have e5 : I2 404 5 = 300 := by rw [hI2]; rfl
  have e21 : I2 404 21 = 0 := by rw [hI2]; rfl
  have hb : tbM I2 = tbL I := by
    funext k
    unfold tbM tbL
    rw [e3, hA2 405 (by decide)]
  show dw_ok (pr_X12_plan K) 22 0 0 [some (.ref 404), none] [] (n, SH1, dw_up (dw_up (dw_up (dw_up (dw_up (dw_up (dw_up I 404 0 0) 404 3 (I 404 2)) 404 2 0) 404 4 0) 404 5 300) 404 15 0) 404 21 0, J)
  rw [← hI2]
  refine q_ald rfl rfl ?_
  refine q_callV (as := []) (rest := []) rfl rfl sk_404 rfl (Nat.le_of_ble_eq_true rfl) ?_
  refine v_next (p := 0) (N := N) (m := 300) (by rw [e3]; exact hN) hN9 (by rw [e5]; rfl) (by rw [e4]; rfl) (Nat.zero_le _) (fun I3 J3 hA3 hF3 hJa3 hJf3 hM3 => ?_)
  show dw_ok (pr_X12_plan K) 26 0 0 [some (.ref 404), none] [] (n, SH1, I3, J3)
  have hb3 : tbM I3 = tbL I := (tbM_eq (hF3 3 (by decide) (by decide) (by decide) (by decide) (by decide)) (hA3 405 (by decide))).trans hb
  rw [hb, ← hb3] at hM3
  rw [← hb3] at hG
  have h406 : I3 406 = I 406 := (hA3 406 (by decide)).trans (hA2 406 (by decide))
  refine pn_loop (I0 := I3) (J0 := J3) (N := N) (m := 300) (C := C) (R := R) (G := G) (by rw [hF3 3 (by decide) (by decide) (by decide) (by decide) (by decide), e3]; exact hN) hN9 (by rw [hF3 5 (by decide) (by decide) (by decide) (by decide) (by decide), e5]; rfl) hpl (by rw [h406]; exact hC) hC0 hC9 (by rw [h406]; exact hRr) hR0 hR9 (fun hg I4 J4 hR4 hD4 h21 hlen h24 => ?_) (fun hg I4 J4 w hR4 hw => ?_) 30 0 0 [] I3 J3 rfl rfl hG ⟨fun _ _ _ => rfl, fun _ _ _ => rfl, fun _ _ => rfl, fun _ _ _ => rfl⟩ (by rw [hF3 21 (by decide) (by decide) (by decide) (by decide) (by decide), e21]; rfl) trivial hM3 (Nat.zero_le _)
  · rw [h406] at hD4
    refine q_ald rfl rfl ?_
    refine q_getr rfl sk_404 sr_404_8 ?_
    refine q_ic rfl ?_
    refine q_ald rfl rfl ?_
    refine q_geti rfl sk_404 ?_
    refine q_iast rfl sk_408 sn_408 (by decide) (by decide) ?_
    refine q_ic rfl ?_
    refine q_ist rfl rfl ?_
    show dw_ok (pr_X12_plan K) 81 0 0 [some (.ref 404), some (.int 0)] [] (n, SH1, dw_up I4 408 0 (I4 404 21), J4)
    refine mpk_loop (c := G.2.2.1) (I0 := dw_up I4 408 0 (I4 404 21)) h21 h24 (fun I5 hA5 hB5 => ?_) (3 * G.2.2.1 + 1) 0 0 (dw_up I4 408 0 (I4 404 21)) (Nat.zero_le _) (by omega) rfl (fun _ _ => rfl) (fun j => by rw [if_neg (by omega)])
    have g406 : dw_up I4 408 0 (I4 404 21) 406 = I 406 := (up_row (by decide)).trans ((hR4.1 406 (by decide) (by decide)).trans h406)
    have h404 : ∀ j, I5 404 j = I4 404 j := fun j => by rw [hA5 404 (by decide), up_row (by decide)]
    refine h1 hg I5 J4 (I4 404 21) (fun a q1 q2 q3 => ?_) (fun j hj => ?_) ?_ (fun a ha => ?_) (fun j hj => ?_) ?_ ?_ h21 hlen h24
    · rw [hA5 a q2, up_row q3, hR4.1 a q1 q3, hA3 a q1]; exact hA2 a q1
    · rw [h404 j, hR4.2.1 j ⟨by omega, by omega, by omega, by omega, by omega, by omega, by omega, by omega⟩ (by omega), hF3 j (by omega) (by omega) (by omega) (by omega) (by omega)]; exact hF2 j hj
    · rw [h404 2, hR4.2.1 2 (by decide) (by decide), hF3 2 (by decide) (by decide) (by decide) (by decide) (by decide)]; exact e2
    · rw [hR4.2.2.1 a ha]; exact hJa3 a ha
    · rw [hB5 j, if_neg (by omega), g406]
    · rw [hB5 803, if_pos (by omega)]; exact up_same
    · refine mp_same (R := I4 408) G.2.2.2 (fun j h1 hj => ?_) hD4
      show I5 406 (803 + j) = I4 408 j
      rw [hB5 (803 + j), if_pos (by omega), show 803 + j - 803 = j by omega]
      exact up_fld (by omega)
  · refine h2 hg I4 J4 w (fun a q1 q2 => ?_) (fun j hj => ?_) ?_ (fun a ha => ?_) hw
    · rw [hR4.1 a q1 q2, hA3 a q1]; exact hA2 a q1
    · rw [hR4.2.1 j ⟨by omega, by omega, by omega, by omega, by omega, by omega, by omega, by omega⟩ (by omega), hF3 j (by omega) (by omega) (by omega) (by omega) (by omega)]; exact hF2 j hj
    · rw [hR4.2.1 2 (by decide) (by decide), hF3 2 (by decide) (by decide) (by decide) (by decide) (by decide)]; exact e2
    · rw [hR4.2.2.1 a ha]; exact hJa3 a ha
