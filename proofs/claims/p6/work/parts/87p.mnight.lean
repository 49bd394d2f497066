/-! ===== a NIGHT read by the model ===== -/
/-- what the model keeps of lines (the latest first) -/
def mdF (I : Nat → Nat → Int32) : List fL → Prop
  | [] => True
  | l :: r => I 408 (1 + 4 * r.length) = Int32.ofNat l.1 ∧ I 408 (2 + 4 * r.length) = l.2.1 ∧ I 408 (3 + 4 * r.length) = l.2.2.1 ∧ I 408 (4 + 4 * r.length) = l.2.2.2 ∧ mdF I r
set_option maxRecDepth 8000 in
theorem md_same {I I' : Nat → Nat → Int32} : ∀ (L : List fL), (∀ j, j < 1 + 4 * L.length → I' 408 j = I 408 j) → mdF I L → mdF I' L
  | [], _, _ => trivial
  | l :: r, h, g => by
    have hl : (l :: r).length = r.length + 1 := rfl
    obtain ⟨g1, g2, g3, g4, g5⟩ := g
    refine ⟨(h _ (by omega)).trans g1, (h _ (by omega)).trans g2, (h _ (by omega)).trans g3, (h _ (by omega)).trans g4, md_same r (fun j hj => h j (by omega)) g5⟩
set_option maxRecDepth 8000 in
theorem md_pos {I I' : Nat → Nat → Int32} : ∀ (L : List fL), (∀ j, 1 ≤ j → I' 408 j = I 408 j) → mdF I L → mdF I' L
  | [], _, _ => trivial
  | l :: r, h, g => by
    obtain ⟨g1, g2, g3, g4, g5⟩ := g
    exact ⟨(h _ (by omega)).trans g1, (h _ (by omega)).trans g2, (h _ (by omega)).trans g3, (h _ (by omega)).trans g4, md_pos r h g5⟩
def laF : List fL → Int32
  | [] => 0
  | l :: _ => l.2.1
/-- the model's reader of a NIGHT, going on: behind ln lines -/
def NMp (I0 : Nat → Nat → Int32) (J0 : Nat → Nat → Int64) (ln : Nat) (I : Nat → Nat → Int32) (J : Nat → Nat → Int64) : Prop :=
  (∀ a, a ≠ 404 → a ≠ 408 → I a = I0 a) ∧ (∀ j, mF j → I 404 j = I0 404 j) ∧ (∀ j, j < 1 + 4 * ln → I 408 j = I0 408 j) ∧ (∀ a, a ≠ 404 → J a = J0 a) ∧ ∀ j, j ≠ 17 → j ≠ 18 → J 404 j = J0 404 j
set_option maxRecDepth 8000 in
theorem nmV {I0 : Nat → Nat → Int32} {J0 : Nat → Nat → Int64} {ln : Nat} {P : (Nat → Int32) → Prop} : MInv I0 (fun I J => NMp I0 J0 ln I J ∧ P (I 408)) := by
  refine ⟨fun I J I1 J1 h hA hF hJa hJf => ⟨⟨fun a h1 h2 => (hA a h1).trans (h.1.1 a h1 h2), fun j hj => (hF j hj).trans (h.1.2.1 j hj), fun j hj => ?_, fun a ha => (hJa a ha).trans (h.1.2.2.2.1 a ha), fun j h1 h2 => (hJf j h1 h2).trans (h.1.2.2.2.2 j h1 h2)⟩, ?_⟩, fun I J h => ⟨h.1.2.1 3 (by decide), h.1.2.1 5 (by decide), h.1.1 405 (by decide) (by decide)⟩⟩
  · rw [hA 408 (by decide)]; exact h.1.2.2.1 j hj
  · rw [hA 408 (by decide)]; exact h.2
set_option maxRecDepth 8000 in
theorem nm_up {I0 I : Nat → Nat → Int32} {J0 J : Nat → Nat → Int64} {ln q : Nat} {x : Int32} (h : NMp I0 J0 ln I J) (hq : 1 + 4 * ln ≤ q) : NMp I0 J0 ln (dw_up I 408 q x) J := by
  refine ⟨fun a h1 h2 => (up_row h2).trans (h.1 a h1 h2), fun j hj => (congrFun (up_row (show 404 ≠ 408 by decide)) j).trans (h.2.1 j hj), fun j hj => ?_, h.2.2.2.1, h.2.2.2.2⟩
  rw [up_fld (by omega)]; exact h.2.2.1 j hj
set_option maxRecDepth 8000 in
theorem wk_1 {b : fB} {T : fT} (h : wkF b T ≠ 9) : T.1 = 1 := by
  by_cases g : T.1 = 1
  · exact g
  · exfalso
    apply h
    unfold wkF
    rw [if_neg (fun s => g s.1), if_neg (fun s => g s.1), if_neg (fun s => g s.1), if_neg (fun s => g s.1)]
set_option maxRecDepth 8000 in
theorem mk_row {b : fB} {T : fT} {I I' : Nat → Nat → Int32} {J : Nat → Nat → Int64} (h : I' 404 = I 404) (g : MK b T I J) : MK b T I' J := by
  unfold MK at g ⊢
  rw [h]
  exact g
set_option maxRecDepth 8000 in
theorem mk_fld {b : fB} {T : fT} {I I' : Nat → Nat → Int32} {J : Nat → Nat → Int64} {q : Nat} (h : ∀ j, j ≠ q → I' 404 j = I 404 j) (g : MK b T I J) (hq : q = 21 := by rfl) : MK b T I' J := by
  subst hq
  unfold MK at g ⊢
  rw [h 11 (by decide), h 12 (by decide), h 4 (by decide), h 14 (by decide), h 13 (by decide)]
  exact g
set_option maxRecDepth 8000 in
set_option maxHeartbeats 4000000 in
theorem v_mline0 {n : Nat} {I : Nat → Nat → Int32} {J : Nat → Nat → Int64} {K : dw_K} {I0 : Nat → Nat → Int32} {J0 : Nat → Nat → Int64} {lat : Int32} {T : fT} {N m ln p : Nat} (hR : NMp I0 J0 ln I J) (hN : (I0 404 3).toInt = N) (hN9 : N ≤ 940) (hm : (I0 404 5).toInt = m) (hT : MK (tbM I0) T I J) (hTe : T = tkF (tbM I0) N m p) (hp : p ≤ N) (hln : (I0 404 21).toInt = ln) (hl24 : ln ≤ 24) (hlat : (ln = 0 → lat = 0) ∧ (ln ≠ 0 → I0 408 (4 * ln - 2) = lat)) (hl0 : 0 ≤ lat.toInt) (hw : wkF (tbM I0) T = 0)
    (hok : ∀ (T' : fT) (p' : Nat) (l : fL) (I' : Nat → Nat → Int32) (J' : Nat → Nat → Int64), (nlF (tbM I0) N m ln lat T) = stK T' (fun p => (0, 0, p, l)) → T' = tkF (tbM I0) N m p' → p' ≤ N → 0 ≤ l.2.1.toInt → MK (tbM I0) T' I' J' → NMp I0 J0 ln I' J' → I' 408 (1 + 4 * ln) = Int32.ofNat l.1 ∧ I' 408 (2 + 4 * ln) = l.2.1 ∧ I' 408 (3 + 4 * ln) = l.2.2.1 ∧ I' 408 (4 + 4 * ln) = l.2.2.2 → K (some (.int 1)) (n, SH1, I', J'))
    (hno : (nlF (tbM I0) N m ln lat T).1 ≠ 0 → ∀ (I' : Nat → Nat → Int32) (J' : Nat → Nat → Int64), NMp I0 J0 ln I' J' → (I' 404 15).toInt = (nlF (tbM I0) N m ln lat T).1 → (I' 404 16).toInt = (nlF (tbM I0) N m ln lat T).2.1 → K (some (.int 0)) (n, SH1, I', J')) : dw_ok (pr_X12_nightLine K) 58 0 0 [some (.ref 404), some (.int 0), none] [] (n, SH1, I, J) := by
  have c24 : (24 : Int32).toInt = 24 := rfl
  have c1 : (1 : Int32).toInt = 1 := rfl
  have c2 : (2 : Int32).toInt = 2 := rfl
  have c3 : (3 : Int32).toInt = 3 := rfl
  have c4 : (4 : Int32).toInt = 4 := rfl
  have hw9 : ¬ (0 = 9) := by decide
  have h21 : (I 404 21).toInt = ln := by rw [hR.2.1 21 (by decide)]; exact hln
  have hI0 : NMp I0 J0 ln I J ∧ (fun _ => True) (I 408) := ⟨hR, trivial⟩
  refine q_ild rfl rfl ?_
  refine q_if (c := 3) rfl (by decide) (fun _ => ?_) (fun h => absurd (show (0 : Int32).toInt < 0 from h) (by decide))
  refine q_ald rfl rfl ?_
  refine q_geti rfl sk_404 ?_
  refine q_ic rfl ?_
  refine q_icmp (c := 1) rfl (by decide) (fun h => ?_) (fun h => ?_)
  rotate_left
  · have h : (I 404 21).toInt = (24 : Int32).toInt := h
    have hg : 24 ≤ ln := by omega
    have eR : (nlF (tbM I0) N m ln lat T) = (4, T.2.1, 0, 0, 0, 0, 0) := by simp only [nlF, hw, hg, hw9, ↓reduceIte]
    refine q_ald rfl rfl ?_
    refine q_ic rfl ?_
    refine mb_step (c := 4) rfl rfl (nmV (J0 := J0) (P := fun _ => True)) hI0 (fun I1 J1 hI1 g7 g8 => ?_)
    rw [eR] at hno
    exact hno (nn rfl) I1 J1 hI1.1 g7 (g8.trans hT.2.1)
  have h : (I 404 21).toInt ≠ (24 : Int32).toInt := h
  have hg : ¬ (24 ≤ ln) := by omega
  have t4 : (4 * I 404 21).toInt = 4 * ln := i_mul (by rw [c4, h21]) (by omega) (by omega)
  have tto : (1 + 4 * I 404 21).toInt = 1 + 4 * ln := by rw [i_add (by omega) (by omega), c1, t4]
  refine q_ic rfl ?_
  refine q_ic rfl ?_
  refine q_ald rfl rfl ?_
  refine q_geti rfl sk_404 ?_
  refine q_mul rfl ?_
  refine q_add rfl ?_
  refine q_ist rfl rfl ?_
  show dw_ok (pr_X12_nightLine K) 92 0 0 [some (.ref 404), some (.int 0), some (.int (1 + 4 * I 404 21))] [] (n, SH1, I, J)
  have hw1 : T.1 = 1 := wk_1 (by rw [hw]; decide)
  have hin := tkF_in (b := tbM I0) (n := N) (m := m) (p := p) hp
  rw [← hTe] at hin
  refine q_ald rfl rfl ?_
  refine mn_step (p := T.2.2.1) rfl (nmV (J0 := J0) (P := fun _ => True)) hI0 hN hN9 hm hin.2.2.1 (hT.2.2.1 (Or.inl hw1)) (fun I1 J1 hI1 hM1 => ?_)
  obtain ⟨T1, hT1⟩ : ∃ t, t = tkF (tbM I0) N m T.2.2.1 := ⟨_, rfl⟩
  have hin1 := tkF_in (b := tbM I0) (n := N) (m := m) (p := T.2.2.1) hin.2.2.1
  rw [← hT1] at hM1 hin1
  have h211 : (I1 404 21).toInt = ln := by rw [hI1.1.2.1 21 (by decide)]; exact hln
  -- the number told first
  have J119 : ∀ I1 J1, NMp I0 J0 ln I1 J1 ∧ (fun _ => True) (I1 408) → MK (tbM I0) T1 I1 J1 → dw_ok (pr_X12_nightLine K) 119 0 0 [some (.ref 404), some (.int 0), some (.int (1 + 4 * I 404 21))] [.int 143, .int lat, .ref 404] (n, SH1, I1, J1) := by
    intro I1 J1 hI1 hM1
    refine mt_step (T := T1) rfl rfl rfl rfl (nmV (P := fun _ => True)) hI1 hN hN9 hm hM1 hin1.2.2.1 ?_ ?_
    rotate_left
    · intro e1 I2 J2 hI2 g7 g8
      have e1 : nbF T1 lat.toInt 143 ≠ 0 := e1
      have eR : (nlF (tbM I0) N m ln lat T) = (nbF T1 lat.toInt 143, T1.2.1, 0, 0, 0, 0, 0) := by simp only [nlF, nbK, hw, hw9, hg, ← hT1, e1, ↓reduceIte]
      rw [eR] at hno
      exact hno e1 I2 J2 hI2.1 g7 g8
    intro e1 I2 J2 hI2 hM2 g19
    have e1 : nbF T1 lat.toInt 143 = 0 := e1
    have r1 := nb_r e1
    have tt1 : (1 + 4 * I 404 21 + 1).toInt = 2 + 4 * ln := by rw [i_add (by omega) (by omega), tto, c1]; omega
    have tt2 : (1 + 4 * I 404 21 + 2).toInt = 3 + 4 * ln := by rw [i_add (by omega) (by omega), tto, c2]; omega
    have tt3 : (1 + 4 * I 404 21 + 3).toInt = 4 + 4 * ln := by rw [i_add (by omega) (by omega), tto, c3]; omega
    have n0 : (1 + 4 * I 404 21).toInt.toNat = 1 + 4 * ln := by omega
    have n1 : (1 + 4 * I 404 21 + 1).toInt.toNat = 2 + 4 * ln := by omega
    have n2 : (1 + 4 * I 404 21 + 2).toInt.toNat = 3 + 4 * ln := by omega
    have n3 : (1 + 4 * I 404 21 + 3).toInt.toNat = 4 + 4 * ln := by omega
    refine q_ald rfl rfl ?_
    refine q_getr rfl sk_404 sr_404_8 ?_
    refine q_ild rfl rfl ?_
    refine q_ild rfl rfl ?_
    refine q_iast rfl sk_408 sn_408 (by omega) (by omega) ?_
    rw [n0]
    refine q_ald rfl rfl ?_
    refine q_getr rfl sk_404 sr_404_8 ?_
    refine q_ild rfl rfl ?_
    refine q_ic rfl ?_
    refine q_add rfl ?_
    refine q_ald rfl rfl ?_
    refine q_geti rfl sk_404 ?_
    refine q_iast rfl sk_408 sn_408 (by omega) (by omega) ?_
    rw [n1]
    refine q_ald rfl rfl ?_
    refine q_getr rfl sk_404 sr_404_8 ?_
    refine q_ild rfl rfl ?_
    refine q_ic rfl ?_
    refine q_add rfl ?_
    refine q_ic rfl ?_
    refine q_iast rfl sk_408 sn_408 (by omega) (by omega) ?_
    rw [n2]
    refine q_ald rfl rfl ?_
    refine q_getr rfl sk_404 sr_404_8 ?_
    refine q_ild rfl rfl ?_
    refine q_ic rfl ?_
    refine q_add rfl ?_
    refine q_ic rfl ?_
    refine q_iast rfl sk_408 sn_408 (by omega) (by omega) ?_
    rw [n3]
    show dw_ok (pr_X12_nightLine K) 164 0 0 [some (.ref 404), some (.int 0), some (.int (1 + 4 * I 404 21))] [] (n, SH1, dw_up (dw_up (dw_up (dw_up I2 408 (1 + 4 * ln) 0) 408 (2 + 4 * ln) (I2 404 19)) 408 (3 + 4 * ln) 0) 408 (4 + 4 * ln) 0, J2)
    rw [g19]
    obtain ⟨I3, hI3⟩ : ∃ X, X = dw_up (dw_up (dw_up (dw_up I2 408 (1 + 4 * ln) 0) 408 (2 + 4 * ln) T1.2.2.2) 408 (3 + 4 * ln) 0) 408 (4 + 4 * ln) 0 := ⟨_, rfl⟩
    have hR3 : NMp I0 J0 ln I3 J2 := by rw [hI3]; exact nm_up (nm_up (nm_up (nm_up hI2.1 (by omega)) (by omega)) (by omega)) (by omega)
    have hD3 : I3 408 (1 + 4 * ln) = 0 ∧ I3 408 (2 + 4 * ln) = T1.2.2.2 ∧ I3 408 (3 + 4 * ln) = 0 ∧ I3 408 (4 + 4 * ln) = 0 := by
      rw [hI3]
      refine ⟨?_, ?_, ?_, up_same⟩
      · rw [up_fld (by omega), up_fld (by omega), up_fld (by omega)]; exact up_same
      · rw [up_fld (by omega), up_fld (by omega)]; exact up_same
      · rw [up_fld (by omega)]; exact up_same
    have hM3 : MK (tbM I0) (tkF (tbM I0) N m T1.2.2.1) I3 J2 := mk_row (by rw [hI3]; exact (up_row (by decide)).trans ((up_row (by decide)).trans ((up_row (by decide)).trans (up_row (by decide))))) hM2
    obtain ⟨T2, hT2⟩ : ∃ t, t = tkF (tbM I0) N m T1.2.2.1 := ⟨_, rfl⟩
    have hin2 := tkF_in (b := tbM I0) (n := N) (m := m) (p := T1.2.2.1) hin1.2.2.1
    rw [← hT2] at hM3 hin2
    rw [← hI3]
    refine q_ild rfl rfl ?_
    refine q_ic rfl ?_
    refine q_icmp (c := 1) rfl (by decide) (fun _ => ?_) (fun h => absurd (show (0 : Int32).toInt = (3 : Int32).toInt from h) (by decide))
    refine q_ald rfl rfl ?_
    refine q_ic rfl ?_
    refine q_ild rfl rfl ?_
    refine q_if (c := 1) rfl (by decide) (fun h => absurd rfl h) (fun _ => ?_)
    refine q_ic rfl ?_
    refine q_goto rfl ?_
    refine mt_step (T := T2) (lo := 0) (hi := 100) rfl rfl rfl rfl (nmV (P := fun f => f (1 + 4 * ln) = 0 ∧ f (2 + 4 * ln) = T1.2.2.2 ∧ f (3 + 4 * ln) = 0 ∧ f (4 + 4 * ln) = 0)) ⟨hR3, hD3⟩ hN hN9 hm hM3 hin2.2.2.1 ?_ ?_
    rotate_left
    · intro e2 I4 J4 hI4 g7 g8
      have e2 : nbF T2 0 100 ≠ 0 := e2
      have eR : (nlF (tbM I0) N m ln lat T) = (nbF T2 0 100, T2.2.1, 0, 0, 0, 0, 0) := by simp only [nlF, nbK, hw, hw9, hg, ← hT1, e1, ← hT2, e2, moF, ↓reduceIte, show ¬ (0 = 3) by decide, show ¬ (0 = 2) by decide]
      rw [eR] at hno
      exact hno e2 I4 J4 hI4.1 g7 g8
    intro e2 I4 J4 hI4 hM4 g419
    have e2 : nbF T2 0 100 = 0 := e2
    obtain ⟨hR4, hD4⟩ := hI4
    refine q_ald rfl rfl ?_
    refine q_getr rfl sk_404 sr_404_8 ?_
    refine q_ild rfl rfl ?_
    refine q_ic rfl ?_
    refine q_add rfl ?_
    refine q_ald rfl rfl ?_
    refine q_geti rfl sk_404 ?_
    refine q_iast rfl sk_408 sn_408 (by omega) (by omega) ?_
    rw [n2]
    show dw_ok (pr_X12_nightLine K) 214 0 0 [some (.ref 404), some (.int 0), some (.int (1 + 4 * I 404 21))] [] (n, SH1, dw_up I4 408 (3 + 4 * ln) (I4 404 19), J4)
    rw [g419]
    obtain ⟨I5, hI5⟩ : ∃ X, X = dw_up I4 408 (3 + 4 * ln) T2.2.2.2 := ⟨_, rfl⟩
    have hR5 : NMp I0 J0 ln I5 J4 := by rw [hI5]; exact nm_up hR4 (by omega)
    have hD5 : I5 408 (1 + 4 * ln) = 0 ∧ I5 408 (2 + 4 * ln) = T1.2.2.2 ∧ I5 408 (3 + 4 * ln) = T2.2.2.2 ∧ I5 408 (4 + 4 * ln) = 0 := by
      rw [hI5]
      refine ⟨?_, ?_, up_same, ?_⟩
      · rw [up_fld (by omega)]; exact hD4.1
      · rw [up_fld (by omega)]; exact hD4.2.1
      · rw [up_fld (by omega)]; exact hD4.2.2.2
    have hM5 : MK (tbM I0) (tkF (tbM I0) N m T2.2.2.1) I5 J4 := mk_row (by rw [hI5]; exact up_row (by decide)) hM4
    obtain ⟨T3, hT3⟩ : ∃ t, t = tkF (tbM I0) N m T2.2.2.1 := ⟨_, rfl⟩
    have hin3 := tkF_in (b := tbM I0) (n := N) (m := m) (p := T2.2.2.1) hin2.2.2.1
    rw [← hT3] at hM5 hin3
    rw [← hI5]
    refine q_ild rfl rfl ?_
    refine q_ic rfl ?_
    refine q_icmp (c := 0) rfl (by decide) (fun h => absurd (show (0 : Int32).toInt = (2 : Int32).toInt from h) (by decide)) (fun _ => ?_)
    refine q_ic rfl ?_
    have eR : (nlF (tbM I0) N m ln lat T) = stK T3 (fun p => (0, 0, p, 0, T1.2.2.2, T2.2.2.2, 0)) := by simp only [nlF, nbK, hw, hw9, hg, ← hT1, e1, ← hT2, e2, ← hT3, moF, ↓reduceIte, show ¬ (0 = 3) by decide, show ¬ (0 = 2) by decide]
    exact q_zret rfl (Or.inr rfl) (hok T3 _ _ I5 J4 eR hT3 hin2.2.2.1 (show 0 ≤ T1.2.2.2.toInt by omega) hM5 hR5 hD5)
  refine q_ald rfl rfl ?_
  refine q_ald rfl rfl ?_
  refine q_geti rfl sk_404 ?_
  refine q_if (c := 1) rfl (by decide) (fun h => ?_) (fun h => ?_)
  · have h : (I1 404 21).toInt ≠ 0 := h
    have tm3 : (1 + 4 * I 404 21 - 3).toInt = 4 * ln - 2 := by rw [i_sub (by omega) (by omega), tto, c3]; omega
    refine q_ald rfl rfl ?_
    refine q_getr rfl sk_404 sr_404_8 ?_
    refine q_ild rfl rfl ?_
    refine q_ic rfl ?_
    refine q_sub rfl ?_
    refine q_xald rfl (Or.inl rfl) sk_408 sn_408 (by omega) (by omega) ?_
    refine q_ic rfl ?_
    show dw_ok (pr_X12_nightLine K) 119 0 0 [some (.ref 404), some (.int 0), some (.int (1 + 4 * I 404 21))] [.int 143, .int (I1 408 (1 + 4 * I 404 21 - 3).toInt.toNat), .ref 404] (n, SH1, I1, J1)
    rw [show (1 + 4 * I 404 21 - 3).toInt.toNat = 4 * ln - 2 by omega, hI1.1.2.2.1 (4 * ln - 2) (by omega), hlat.2 (by omega)]
    exact J119 I1 J1 hI1 hM1
  · have h : (I1 404 21).toInt = 0 := h
    refine q_ic rfl ?_
    refine q_goto rfl ?_
    refine q_ic rfl ?_
    have e := J119 I1 J1 hI1 hM1
    rw [hlat.1 (by omega)] at e
    exact e
set_option maxRecDepth 8000 in
set_option maxHeartbeats 4000000 in
theorem v_mline1 {n : Nat} {I : Nat → Nat → Int32} {J : Nat → Nat → Int64} {K : dw_K} {I0 : Nat → Nat → Int32} {J0 : Nat → Nat → Int64} {lat : Int32} {T : fT} {N m ln p : Nat} (hR : NMp I0 J0 ln I J) (hN : (I0 404 3).toInt = N) (hN9 : N ≤ 940) (hm : (I0 404 5).toInt = m) (hT : MK (tbM I0) T I J) (hTe : T = tkF (tbM I0) N m p) (hp : p ≤ N) (hln : (I0 404 21).toInt = ln) (hl24 : ln ≤ 24) (hlat : (ln = 0 → lat = 0) ∧ (ln ≠ 0 → I0 408 (4 * ln - 2) = lat)) (hl0 : 0 ≤ lat.toInt) (hw : wkF (tbM I0) T = 1)
    (hok : ∀ (T' : fT) (p' : Nat) (l : fL) (I' : Nat → Nat → Int32) (J' : Nat → Nat → Int64), (nlF (tbM I0) N m ln lat T) = stK T' (fun p => (0, 0, p, l)) → T' = tkF (tbM I0) N m p' → p' ≤ N → 0 ≤ l.2.1.toInt → MK (tbM I0) T' I' J' → NMp I0 J0 ln I' J' → I' 408 (1 + 4 * ln) = Int32.ofNat l.1 ∧ I' 408 (2 + 4 * ln) = l.2.1 ∧ I' 408 (3 + 4 * ln) = l.2.2.1 ∧ I' 408 (4 + 4 * ln) = l.2.2.2 → K (some (.int 1)) (n, SH1, I', J'))
    (hno : (nlF (tbM I0) N m ln lat T).1 ≠ 0 → ∀ (I' : Nat → Nat → Int32) (J' : Nat → Nat → Int64), NMp I0 J0 ln I' J' → (I' 404 15).toInt = (nlF (tbM I0) N m ln lat T).1 → (I' 404 16).toInt = (nlF (tbM I0) N m ln lat T).2.1 → K (some (.int 0)) (n, SH1, I', J')) : dw_ok (pr_X12_nightLine K) 58 0 0 [some (.ref 404), some (.int 1), none] [] (n, SH1, I, J) := by
  have c24 : (24 : Int32).toInt = 24 := rfl
  have c1 : (1 : Int32).toInt = 1 := rfl
  have c2 : (2 : Int32).toInt = 2 := rfl
  have c3 : (3 : Int32).toInt = 3 := rfl
  have c4 : (4 : Int32).toInt = 4 := rfl
  have hw9 : ¬ (1 = 9) := by decide
  have h21 : (I 404 21).toInt = ln := by rw [hR.2.1 21 (by decide)]; exact hln
  have hI0 : NMp I0 J0 ln I J ∧ (fun _ => True) (I 408) := ⟨hR, trivial⟩
  refine q_ild rfl rfl ?_
  refine q_if (c := 3) rfl (by decide) (fun _ => ?_) (fun h => absurd (show (1 : Int32).toInt < 0 from h) (by decide))
  refine q_ald rfl rfl ?_
  refine q_geti rfl sk_404 ?_
  refine q_ic rfl ?_
  refine q_icmp (c := 1) rfl (by decide) (fun h => ?_) (fun h => ?_)
  rotate_left
  · have h : (I 404 21).toInt = (24 : Int32).toInt := h
    have hg : 24 ≤ ln := by omega
    have eR : (nlF (tbM I0) N m ln lat T) = (4, T.2.1, 0, 0, 0, 0, 0) := by simp only [nlF, hw, hg, hw9, ↓reduceIte]
    refine q_ald rfl rfl ?_
    refine q_ic rfl ?_
    refine mb_step (c := 4) rfl rfl (nmV (J0 := J0) (P := fun _ => True)) hI0 (fun I1 J1 hI1 g7 g8 => ?_)
    rw [eR] at hno
    exact hno (nn rfl) I1 J1 hI1.1 g7 (g8.trans hT.2.1)
  have h : (I 404 21).toInt ≠ (24 : Int32).toInt := h
  have hg : ¬ (24 ≤ ln) := by omega
  have t4 : (4 * I 404 21).toInt = 4 * ln := i_mul (by rw [c4, h21]) (by omega) (by omega)
  have tto : (1 + 4 * I 404 21).toInt = 1 + 4 * ln := by rw [i_add (by omega) (by omega), c1, t4]
  refine q_ic rfl ?_
  refine q_ic rfl ?_
  refine q_ald rfl rfl ?_
  refine q_geti rfl sk_404 ?_
  refine q_mul rfl ?_
  refine q_add rfl ?_
  refine q_ist rfl rfl ?_
  show dw_ok (pr_X12_nightLine K) 92 0 0 [some (.ref 404), some (.int 1), some (.int (1 + 4 * I 404 21))] [] (n, SH1, I, J)
  have hw1 : T.1 = 1 := wk_1 (by rw [hw]; decide)
  have hin := tkF_in (b := tbM I0) (n := N) (m := m) (p := p) hp
  rw [← hTe] at hin
  refine q_ald rfl rfl ?_
  refine mn_step (p := T.2.2.1) rfl (nmV (J0 := J0) (P := fun _ => True)) hI0 hN hN9 hm hin.2.2.1 (hT.2.2.1 (Or.inl hw1)) (fun I1 J1 hI1 hM1 => ?_)
  obtain ⟨T1, hT1⟩ : ∃ t, t = tkF (tbM I0) N m T.2.2.1 := ⟨_, rfl⟩
  have hin1 := tkF_in (b := tbM I0) (n := N) (m := m) (p := T.2.2.1) hin.2.2.1
  rw [← hT1] at hM1 hin1
  have h211 : (I1 404 21).toInt = ln := by rw [hI1.1.2.1 21 (by decide)]; exact hln
  -- the number told first
  have J119 : ∀ I1 J1, NMp I0 J0 ln I1 J1 ∧ (fun _ => True) (I1 408) → MK (tbM I0) T1 I1 J1 → dw_ok (pr_X12_nightLine K) 119 0 0 [some (.ref 404), some (.int 1), some (.int (1 + 4 * I 404 21))] [.int 143, .int lat, .ref 404] (n, SH1, I1, J1) := by
    intro I1 J1 hI1 hM1
    refine mt_step (T := T1) rfl rfl rfl rfl (nmV (P := fun _ => True)) hI1 hN hN9 hm hM1 hin1.2.2.1 ?_ ?_
    rotate_left
    · intro e1 I2 J2 hI2 g7 g8
      have e1 : nbF T1 lat.toInt 143 ≠ 0 := e1
      have eR : (nlF (tbM I0) N m ln lat T) = (nbF T1 lat.toInt 143, T1.2.1, 0, 0, 0, 0, 0) := by simp only [nlF, nbK, hw, hw9, hg, ← hT1, e1, ↓reduceIte]
      rw [eR] at hno
      exact hno e1 I2 J2 hI2.1 g7 g8
    intro e1 I2 J2 hI2 hM2 g19
    have e1 : nbF T1 lat.toInt 143 = 0 := e1
    have r1 := nb_r e1
    have tt1 : (1 + 4 * I 404 21 + 1).toInt = 2 + 4 * ln := by rw [i_add (by omega) (by omega), tto, c1]; omega
    have tt2 : (1 + 4 * I 404 21 + 2).toInt = 3 + 4 * ln := by rw [i_add (by omega) (by omega), tto, c2]; omega
    have tt3 : (1 + 4 * I 404 21 + 3).toInt = 4 + 4 * ln := by rw [i_add (by omega) (by omega), tto, c3]; omega
    have n0 : (1 + 4 * I 404 21).toInt.toNat = 1 + 4 * ln := by omega
    have n1 : (1 + 4 * I 404 21 + 1).toInt.toNat = 2 + 4 * ln := by omega
    have n2 : (1 + 4 * I 404 21 + 2).toInt.toNat = 3 + 4 * ln := by omega
    have n3 : (1 + 4 * I 404 21 + 3).toInt.toNat = 4 + 4 * ln := by omega
    refine q_ald rfl rfl ?_
    refine q_getr rfl sk_404 sr_404_8 ?_
    refine q_ild rfl rfl ?_
    refine q_ild rfl rfl ?_
    refine q_iast rfl sk_408 sn_408 (by omega) (by omega) ?_
    rw [n0]
    refine q_ald rfl rfl ?_
    refine q_getr rfl sk_404 sr_404_8 ?_
    refine q_ild rfl rfl ?_
    refine q_ic rfl ?_
    refine q_add rfl ?_
    refine q_ald rfl rfl ?_
    refine q_geti rfl sk_404 ?_
    refine q_iast rfl sk_408 sn_408 (by omega) (by omega) ?_
    rw [n1]
    refine q_ald rfl rfl ?_
    refine q_getr rfl sk_404 sr_404_8 ?_
    refine q_ild rfl rfl ?_
    refine q_ic rfl ?_
    refine q_add rfl ?_
    refine q_ic rfl ?_
    refine q_iast rfl sk_408 sn_408 (by omega) (by omega) ?_
    rw [n2]
    refine q_ald rfl rfl ?_
    refine q_getr rfl sk_404 sr_404_8 ?_
    refine q_ild rfl rfl ?_
    refine q_ic rfl ?_
    refine q_add rfl ?_
    refine q_ic rfl ?_
    refine q_iast rfl sk_408 sn_408 (by omega) (by omega) ?_
    rw [n3]
    show dw_ok (pr_X12_nightLine K) 164 0 0 [some (.ref 404), some (.int 1), some (.int (1 + 4 * I 404 21))] [] (n, SH1, dw_up (dw_up (dw_up (dw_up I2 408 (1 + 4 * ln) 1) 408 (2 + 4 * ln) (I2 404 19)) 408 (3 + 4 * ln) 0) 408 (4 + 4 * ln) 0, J2)
    rw [g19]
    obtain ⟨I3, hI3⟩ : ∃ X, X = dw_up (dw_up (dw_up (dw_up I2 408 (1 + 4 * ln) 1) 408 (2 + 4 * ln) T1.2.2.2) 408 (3 + 4 * ln) 0) 408 (4 + 4 * ln) 0 := ⟨_, rfl⟩
    have hR3 : NMp I0 J0 ln I3 J2 := by rw [hI3]; exact nm_up (nm_up (nm_up (nm_up hI2.1 (by omega)) (by omega)) (by omega)) (by omega)
    have hD3 : I3 408 (1 + 4 * ln) = 1 ∧ I3 408 (2 + 4 * ln) = T1.2.2.2 ∧ I3 408 (3 + 4 * ln) = 0 ∧ I3 408 (4 + 4 * ln) = 0 := by
      rw [hI3]
      refine ⟨?_, ?_, ?_, up_same⟩
      · rw [up_fld (by omega), up_fld (by omega), up_fld (by omega)]; exact up_same
      · rw [up_fld (by omega), up_fld (by omega)]; exact up_same
      · rw [up_fld (by omega)]; exact up_same
    have hM3 : MK (tbM I0) (tkF (tbM I0) N m T1.2.2.1) I3 J2 := mk_row (by rw [hI3]; exact (up_row (by decide)).trans ((up_row (by decide)).trans ((up_row (by decide)).trans (up_row (by decide))))) hM2
    obtain ⟨T2, hT2⟩ : ∃ t, t = tkF (tbM I0) N m T1.2.2.1 := ⟨_, rfl⟩
    have hin2 := tkF_in (b := tbM I0) (n := N) (m := m) (p := T1.2.2.1) hin1.2.2.1
    rw [← hT2] at hM3 hin2
    rw [← hI3]
    refine q_ild rfl rfl ?_
    refine q_ic rfl ?_
    refine q_icmp (c := 1) rfl (by decide) (fun _ => ?_) (fun h => absurd (show (1 : Int32).toInt = (3 : Int32).toInt from h) (by decide))
    refine q_ald rfl rfl ?_
    refine q_ic rfl ?_
    refine q_ild rfl rfl ?_
    refine q_if (c := 1) rfl (by decide) (fun _ => ?_) (fun h => absurd (show (1 : Int32).toInt = 0 from h) (by decide))
    refine q_ild rfl rfl ?_
    refine q_ic rfl ?_
    refine q_icmp (c := 1) rfl (by decide) (fun h => absurd rfl h) (fun _ => ?_)
    refine q_ic rfl ?_
    refine q_goto rfl ?_
    refine mt_step (T := T2) (lo := 0) (hi := 9) rfl rfl rfl rfl (nmV (P := fun f => f (1 + 4 * ln) = 1 ∧ f (2 + 4 * ln) = T1.2.2.2 ∧ f (3 + 4 * ln) = 0 ∧ f (4 + 4 * ln) = 0)) ⟨hR3, hD3⟩ hN hN9 hm hM3 hin2.2.2.1 ?_ ?_
    rotate_left
    · intro e2 I4 J4 hI4 g7 g8
      have e2 : nbF T2 0 9 ≠ 0 := e2
      have eR : (nlF (tbM I0) N m ln lat T) = (nbF T2 0 9, T2.2.1, 0, 0, 0, 0, 0) := by simp only [nlF, nbK, hw, hw9, hg, ← hT1, e1, ← hT2, e2, moF, ↓reduceIte, show ¬ (1 = 3) by decide, show ¬ (1 = 2) by decide, show ¬ (1 = 0) by decide]
      rw [eR] at hno
      exact hno e2 I4 J4 hI4.1 g7 g8
    intro e2 I4 J4 hI4 hM4 g419
    have e2 : nbF T2 0 9 = 0 := e2
    obtain ⟨hR4, hD4⟩ := hI4
    refine q_ald rfl rfl ?_
    refine q_getr rfl sk_404 sr_404_8 ?_
    refine q_ild rfl rfl ?_
    refine q_ic rfl ?_
    refine q_add rfl ?_
    refine q_ald rfl rfl ?_
    refine q_geti rfl sk_404 ?_
    refine q_iast rfl sk_408 sn_408 (by omega) (by omega) ?_
    rw [n2]
    show dw_ok (pr_X12_nightLine K) 214 0 0 [some (.ref 404), some (.int 1), some (.int (1 + 4 * I 404 21))] [] (n, SH1, dw_up I4 408 (3 + 4 * ln) (I4 404 19), J4)
    rw [g419]
    obtain ⟨I5, hI5⟩ : ∃ X, X = dw_up I4 408 (3 + 4 * ln) T2.2.2.2 := ⟨_, rfl⟩
    have hR5 : NMp I0 J0 ln I5 J4 := by rw [hI5]; exact nm_up hR4 (by omega)
    have hD5 : I5 408 (1 + 4 * ln) = 1 ∧ I5 408 (2 + 4 * ln) = T1.2.2.2 ∧ I5 408 (3 + 4 * ln) = T2.2.2.2 ∧ I5 408 (4 + 4 * ln) = 0 := by
      rw [hI5]
      refine ⟨?_, ?_, up_same, ?_⟩
      · rw [up_fld (by omega)]; exact hD4.1
      · rw [up_fld (by omega)]; exact hD4.2.1
      · rw [up_fld (by omega)]; exact hD4.2.2.2
    have hM5 : MK (tbM I0) (tkF (tbM I0) N m T2.2.2.1) I5 J4 := mk_row (by rw [hI5]; exact up_row (by decide)) hM4
    obtain ⟨T3, hT3⟩ : ∃ t, t = tkF (tbM I0) N m T2.2.2.1 := ⟨_, rfl⟩
    have hin3 := tkF_in (b := tbM I0) (n := N) (m := m) (p := T2.2.2.1) hin2.2.2.1
    rw [← hT3] at hM5 hin3
    rw [← hI5]
    refine q_ild rfl rfl ?_
    refine q_ic rfl ?_
    refine q_icmp (c := 0) rfl (by decide) (fun h => absurd (show (1 : Int32).toInt = (2 : Int32).toInt from h) (by decide)) (fun _ => ?_)
    refine q_ic rfl ?_
    have eR : (nlF (tbM I0) N m ln lat T) = stK T3 (fun p => (0, 0, p, 1, T1.2.2.2, T2.2.2.2, 0)) := by simp only [nlF, nbK, hw, hw9, hg, ← hT1, e1, ← hT2, e2, ← hT3, moF, ↓reduceIte, show ¬ (1 = 3) by decide, show ¬ (1 = 2) by decide, show ¬ (1 = 0) by decide]
    exact q_zret rfl (Or.inr rfl) (hok T3 _ _ I5 J4 eR hT3 hin2.2.2.1 (show 0 ≤ T1.2.2.2.toInt by omega) hM5 hR5 hD5)
  refine q_ald rfl rfl ?_
  refine q_ald rfl rfl ?_
  refine q_geti rfl sk_404 ?_
  refine q_if (c := 1) rfl (by decide) (fun h => ?_) (fun h => ?_)
  · have h : (I1 404 21).toInt ≠ 0 := h
    have tm3 : (1 + 4 * I 404 21 - 3).toInt = 4 * ln - 2 := by rw [i_sub (by omega) (by omega), tto, c3]; omega
    refine q_ald rfl rfl ?_
    refine q_getr rfl sk_404 sr_404_8 ?_
    refine q_ild rfl rfl ?_
    refine q_ic rfl ?_
    refine q_sub rfl ?_
    refine q_xald rfl (Or.inl rfl) sk_408 sn_408 (by omega) (by omega) ?_
    refine q_ic rfl ?_
    show dw_ok (pr_X12_nightLine K) 119 0 0 [some (.ref 404), some (.int 1), some (.int (1 + 4 * I 404 21))] [.int 143, .int (I1 408 (1 + 4 * I 404 21 - 3).toInt.toNat), .ref 404] (n, SH1, I1, J1)
    rw [show (1 + 4 * I 404 21 - 3).toInt.toNat = 4 * ln - 2 by omega, hI1.1.2.2.1 (4 * ln - 2) (by omega), hlat.2 (by omega)]
    exact J119 I1 J1 hI1 hM1
  · have h : (I1 404 21).toInt = 0 := h
    refine q_ic rfl ?_
    refine q_goto rfl ?_
    refine q_ic rfl ?_
    have e := J119 I1 J1 hI1 hM1
    rw [hlat.1 (by omega)] at e
    exact e
set_option maxRecDepth 8000 in
set_option maxHeartbeats 4000000 in
theorem v_mline2 {n : Nat} {I : Nat → Nat → Int32} {J : Nat → Nat → Int64} {K : dw_K} {I0 : Nat → Nat → Int32} {J0 : Nat → Nat → Int64} {lat : Int32} {T : fT} {N m ln p : Nat} (hR : NMp I0 J0 ln I J) (hN : (I0 404 3).toInt = N) (hN9 : N ≤ 940) (hm : (I0 404 5).toInt = m) (hT : MK (tbM I0) T I J) (hTe : T = tkF (tbM I0) N m p) (hp : p ≤ N) (hln : (I0 404 21).toInt = ln) (hl24 : ln ≤ 24) (hlat : (ln = 0 → lat = 0) ∧ (ln ≠ 0 → I0 408 (4 * ln - 2) = lat)) (hl0 : 0 ≤ lat.toInt) (hw : wkF (tbM I0) T = 2)
    (hok : ∀ (T' : fT) (p' : Nat) (l : fL) (I' : Nat → Nat → Int32) (J' : Nat → Nat → Int64), (nlF (tbM I0) N m ln lat T) = stK T' (fun p => (0, 0, p, l)) → T' = tkF (tbM I0) N m p' → p' ≤ N → 0 ≤ l.2.1.toInt → MK (tbM I0) T' I' J' → NMp I0 J0 ln I' J' → I' 408 (1 + 4 * ln) = Int32.ofNat l.1 ∧ I' 408 (2 + 4 * ln) = l.2.1 ∧ I' 408 (3 + 4 * ln) = l.2.2.1 ∧ I' 408 (4 + 4 * ln) = l.2.2.2 → K (some (.int 1)) (n, SH1, I', J'))
    (hno : (nlF (tbM I0) N m ln lat T).1 ≠ 0 → ∀ (I' : Nat → Nat → Int32) (J' : Nat → Nat → Int64), NMp I0 J0 ln I' J' → (I' 404 15).toInt = (nlF (tbM I0) N m ln lat T).1 → (I' 404 16).toInt = (nlF (tbM I0) N m ln lat T).2.1 → K (some (.int 0)) (n, SH1, I', J')) : dw_ok (pr_X12_nightLine K) 58 0 0 [some (.ref 404), some (.int 2), none] [] (n, SH1, I, J) := by
  have c24 : (24 : Int32).toInt = 24 := rfl
  have c1 : (1 : Int32).toInt = 1 := rfl
  have c2 : (2 : Int32).toInt = 2 := rfl
  have c3 : (3 : Int32).toInt = 3 := rfl
  have c4 : (4 : Int32).toInt = 4 := rfl
  have hw9 : ¬ (2 = 9) := by decide
  have h21 : (I 404 21).toInt = ln := by rw [hR.2.1 21 (by decide)]; exact hln
  have hI0 : NMp I0 J0 ln I J ∧ (fun _ => True) (I 408) := ⟨hR, trivial⟩
  refine q_ild rfl rfl ?_
  refine q_if (c := 3) rfl (by decide) (fun _ => ?_) (fun h => absurd (show (2 : Int32).toInt < 0 from h) (by decide))
  refine q_ald rfl rfl ?_
  refine q_geti rfl sk_404 ?_
  refine q_ic rfl ?_
  refine q_icmp (c := 1) rfl (by decide) (fun h => ?_) (fun h => ?_)
  rotate_left
  · have h : (I 404 21).toInt = (24 : Int32).toInt := h
    have hg : 24 ≤ ln := by omega
    have eR : (nlF (tbM I0) N m ln lat T) = (4, T.2.1, 0, 0, 0, 0, 0) := by simp only [nlF, hw, hg, hw9, ↓reduceIte]
    refine q_ald rfl rfl ?_
    refine q_ic rfl ?_
    refine mb_step (c := 4) rfl rfl (nmV (J0 := J0) (P := fun _ => True)) hI0 (fun I1 J1 hI1 g7 g8 => ?_)
    rw [eR] at hno
    exact hno (nn rfl) I1 J1 hI1.1 g7 (g8.trans hT.2.1)
  have h : (I 404 21).toInt ≠ (24 : Int32).toInt := h
  have hg : ¬ (24 ≤ ln) := by omega
  have t4 : (4 * I 404 21).toInt = 4 * ln := i_mul (by rw [c4, h21]) (by omega) (by omega)
  have tto : (1 + 4 * I 404 21).toInt = 1 + 4 * ln := by rw [i_add (by omega) (by omega), c1, t4]
  refine q_ic rfl ?_
  refine q_ic rfl ?_
  refine q_ald rfl rfl ?_
  refine q_geti rfl sk_404 ?_
  refine q_mul rfl ?_
  refine q_add rfl ?_
  refine q_ist rfl rfl ?_
  show dw_ok (pr_X12_nightLine K) 92 0 0 [some (.ref 404), some (.int 2), some (.int (1 + 4 * I 404 21))] [] (n, SH1, I, J)
  have hw1 : T.1 = 1 := wk_1 (by rw [hw]; decide)
  have hin := tkF_in (b := tbM I0) (n := N) (m := m) (p := p) hp
  rw [← hTe] at hin
  refine q_ald rfl rfl ?_
  refine mn_step (p := T.2.2.1) rfl (nmV (J0 := J0) (P := fun _ => True)) hI0 hN hN9 hm hin.2.2.1 (hT.2.2.1 (Or.inl hw1)) (fun I1 J1 hI1 hM1 => ?_)
  obtain ⟨T1, hT1⟩ : ∃ t, t = tkF (tbM I0) N m T.2.2.1 := ⟨_, rfl⟩
  have hin1 := tkF_in (b := tbM I0) (n := N) (m := m) (p := T.2.2.1) hin.2.2.1
  rw [← hT1] at hM1 hin1
  have h211 : (I1 404 21).toInt = ln := by rw [hI1.1.2.1 21 (by decide)]; exact hln
  -- the number told first
  have J119 : ∀ I1 J1, NMp I0 J0 ln I1 J1 ∧ (fun _ => True) (I1 408) → MK (tbM I0) T1 I1 J1 → dw_ok (pr_X12_nightLine K) 119 0 0 [some (.ref 404), some (.int 2), some (.int (1 + 4 * I 404 21))] [.int 143, .int lat, .ref 404] (n, SH1, I1, J1) := by
    intro I1 J1 hI1 hM1
    refine mt_step (T := T1) rfl rfl rfl rfl (nmV (P := fun _ => True)) hI1 hN hN9 hm hM1 hin1.2.2.1 ?_ ?_
    rotate_left
    · intro e1 I2 J2 hI2 g7 g8
      have e1 : nbF T1 lat.toInt 143 ≠ 0 := e1
      have eR : (nlF (tbM I0) N m ln lat T) = (nbF T1 lat.toInt 143, T1.2.1, 0, 0, 0, 0, 0) := by simp only [nlF, nbK, hw, hw9, hg, ← hT1, e1, ↓reduceIte]
      rw [eR] at hno
      exact hno e1 I2 J2 hI2.1 g7 g8
    intro e1 I2 J2 hI2 hM2 g19
    have e1 : nbF T1 lat.toInt 143 = 0 := e1
    have r1 := nb_r e1
    have tt1 : (1 + 4 * I 404 21 + 1).toInt = 2 + 4 * ln := by rw [i_add (by omega) (by omega), tto, c1]; omega
    have tt2 : (1 + 4 * I 404 21 + 2).toInt = 3 + 4 * ln := by rw [i_add (by omega) (by omega), tto, c2]; omega
    have tt3 : (1 + 4 * I 404 21 + 3).toInt = 4 + 4 * ln := by rw [i_add (by omega) (by omega), tto, c3]; omega
    have n0 : (1 + 4 * I 404 21).toInt.toNat = 1 + 4 * ln := by omega
    have n1 : (1 + 4 * I 404 21 + 1).toInt.toNat = 2 + 4 * ln := by omega
    have n2 : (1 + 4 * I 404 21 + 2).toInt.toNat = 3 + 4 * ln := by omega
    have n3 : (1 + 4 * I 404 21 + 3).toInt.toNat = 4 + 4 * ln := by omega
    refine q_ald rfl rfl ?_
    refine q_getr rfl sk_404 sr_404_8 ?_
    refine q_ild rfl rfl ?_
    refine q_ild rfl rfl ?_
    refine q_iast rfl sk_408 sn_408 (by omega) (by omega) ?_
    rw [n0]
    refine q_ald rfl rfl ?_
    refine q_getr rfl sk_404 sr_404_8 ?_
    refine q_ild rfl rfl ?_
    refine q_ic rfl ?_
    refine q_add rfl ?_
    refine q_ald rfl rfl ?_
    refine q_geti rfl sk_404 ?_
    refine q_iast rfl sk_408 sn_408 (by omega) (by omega) ?_
    rw [n1]
    refine q_ald rfl rfl ?_
    refine q_getr rfl sk_404 sr_404_8 ?_
    refine q_ild rfl rfl ?_
    refine q_ic rfl ?_
    refine q_add rfl ?_
    refine q_ic rfl ?_
    refine q_iast rfl sk_408 sn_408 (by omega) (by omega) ?_
    rw [n2]
    refine q_ald rfl rfl ?_
    refine q_getr rfl sk_404 sr_404_8 ?_
    refine q_ild rfl rfl ?_
    refine q_ic rfl ?_
    refine q_add rfl ?_
    refine q_ic rfl ?_
    refine q_iast rfl sk_408 sn_408 (by omega) (by omega) ?_
    rw [n3]
    show dw_ok (pr_X12_nightLine K) 164 0 0 [some (.ref 404), some (.int 2), some (.int (1 + 4 * I 404 21))] [] (n, SH1, dw_up (dw_up (dw_up (dw_up I2 408 (1 + 4 * ln) 2) 408 (2 + 4 * ln) (I2 404 19)) 408 (3 + 4 * ln) 0) 408 (4 + 4 * ln) 0, J2)
    rw [g19]
    obtain ⟨I3, hI3⟩ : ∃ X, X = dw_up (dw_up (dw_up (dw_up I2 408 (1 + 4 * ln) 2) 408 (2 + 4 * ln) T1.2.2.2) 408 (3 + 4 * ln) 0) 408 (4 + 4 * ln) 0 := ⟨_, rfl⟩
    have hR3 : NMp I0 J0 ln I3 J2 := by rw [hI3]; exact nm_up (nm_up (nm_up (nm_up hI2.1 (by omega)) (by omega)) (by omega)) (by omega)
    have hD3 : I3 408 (1 + 4 * ln) = 2 ∧ I3 408 (2 + 4 * ln) = T1.2.2.2 ∧ I3 408 (3 + 4 * ln) = 0 ∧ I3 408 (4 + 4 * ln) = 0 := by
      rw [hI3]
      refine ⟨?_, ?_, ?_, up_same⟩
      · rw [up_fld (by omega), up_fld (by omega), up_fld (by omega)]; exact up_same
      · rw [up_fld (by omega), up_fld (by omega)]; exact up_same
      · rw [up_fld (by omega)]; exact up_same
    have hM3 : MK (tbM I0) (tkF (tbM I0) N m T1.2.2.1) I3 J2 := mk_row (by rw [hI3]; exact (up_row (by decide)).trans ((up_row (by decide)).trans ((up_row (by decide)).trans (up_row (by decide))))) hM2
    obtain ⟨T2, hT2⟩ : ∃ t, t = tkF (tbM I0) N m T1.2.2.1 := ⟨_, rfl⟩
    have hin2 := tkF_in (b := tbM I0) (n := N) (m := m) (p := T1.2.2.1) hin1.2.2.1
    rw [← hT2] at hM3 hin2
    rw [← hI3]
    refine q_ild rfl rfl ?_
    refine q_ic rfl ?_
    refine q_icmp (c := 1) rfl (by decide) (fun _ => ?_) (fun h => absurd (show (2 : Int32).toInt = (3 : Int32).toInt from h) (by decide))
    refine q_ald rfl rfl ?_
    refine q_ic rfl ?_
    refine q_ild rfl rfl ?_
    refine q_if (c := 1) rfl (by decide) (fun _ => ?_) (fun h => absurd (show (2 : Int32).toInt = 0 from h) (by decide))
    refine q_ild rfl rfl ?_
    refine q_ic rfl ?_
    refine q_icmp (c := 1) rfl (by decide) (fun _ => ?_) (fun h => absurd (show (2 : Int32).toInt = (1 : Int32).toInt from h) (by decide))
    refine q_ic rfl ?_
    refine mt_step (T := T2) (lo := 0) (hi := 40) rfl rfl rfl rfl (nmV (P := fun f => f (1 + 4 * ln) = 2 ∧ f (2 + 4 * ln) = T1.2.2.2 ∧ f (3 + 4 * ln) = 0 ∧ f (4 + 4 * ln) = 0)) ⟨hR3, hD3⟩ hN hN9 hm hM3 hin2.2.2.1 ?_ ?_
    rotate_left
    · intro e2 I4 J4 hI4 g7 g8
      have e2 : nbF T2 0 40 ≠ 0 := e2
      have eR : (nlF (tbM I0) N m ln lat T) = (nbF T2 0 40, T2.2.1, 0, 0, 0, 0, 0) := by simp only [nlF, nbK, hw, hw9, hg, ← hT1, e1, ← hT2, e2, moF, ↓reduceIte, show ¬ (2 = 3) by decide, show ¬ (2 = 0) by decide, show ¬ (2 = 1) by decide]
      rw [eR] at hno
      exact hno e2 I4 J4 hI4.1 g7 g8
    intro e2 I4 J4 hI4 hM4 g419
    have e2 : nbF T2 0 40 = 0 := e2
    obtain ⟨hR4, hD4⟩ := hI4
    refine q_ald rfl rfl ?_
    refine q_getr rfl sk_404 sr_404_8 ?_
    refine q_ild rfl rfl ?_
    refine q_ic rfl ?_
    refine q_add rfl ?_
    refine q_ald rfl rfl ?_
    refine q_geti rfl sk_404 ?_
    refine q_iast rfl sk_408 sn_408 (by omega) (by omega) ?_
    rw [n2]
    show dw_ok (pr_X12_nightLine K) 214 0 0 [some (.ref 404), some (.int 2), some (.int (1 + 4 * I 404 21))] [] (n, SH1, dw_up I4 408 (3 + 4 * ln) (I4 404 19), J4)
    rw [g419]
    obtain ⟨I5, hI5⟩ : ∃ X, X = dw_up I4 408 (3 + 4 * ln) T2.2.2.2 := ⟨_, rfl⟩
    have hR5 : NMp I0 J0 ln I5 J4 := by rw [hI5]; exact nm_up hR4 (by omega)
    have hD5 : I5 408 (1 + 4 * ln) = 2 ∧ I5 408 (2 + 4 * ln) = T1.2.2.2 ∧ I5 408 (3 + 4 * ln) = T2.2.2.2 ∧ I5 408 (4 + 4 * ln) = 0 := by
      rw [hI5]
      refine ⟨?_, ?_, up_same, ?_⟩
      · rw [up_fld (by omega)]; exact hD4.1
      · rw [up_fld (by omega)]; exact hD4.2.1
      · rw [up_fld (by omega)]; exact hD4.2.2.2
    have hM5 : MK (tbM I0) (tkF (tbM I0) N m T2.2.2.1) I5 J4 := mk_row (by rw [hI5]; exact up_row (by decide)) hM4
    obtain ⟨T3, hT3⟩ : ∃ t, t = tkF (tbM I0) N m T2.2.2.1 := ⟨_, rfl⟩
    have hin3 := tkF_in (b := tbM I0) (n := N) (m := m) (p := T2.2.2.1) hin2.2.2.1
    rw [← hT3] at hM5 hin3
    rw [← hI5]
    refine q_ild rfl rfl ?_
    refine q_ic rfl ?_
    refine q_icmp (c := 0) rfl (by decide) (fun _ => ?_) (fun h => absurd rfl h)
    refine q_ald rfl rfl ?_
    refine q_ic rfl ?_
    refine q_ic rfl ?_
    refine mt_step (T := T3) (lo := 0) (hi := 40) rfl rfl rfl rfl (nmV (P := fun f => f (1 + 4 * ln) = 2 ∧ f (2 + 4 * ln) = T1.2.2.2 ∧ f (3 + 4 * ln) = T2.2.2.2 ∧ f (4 + 4 * ln) = 0)) ⟨hR5, hD5⟩ hN hN9 hm hM5 hin3.2.2.1 ?_ ?_
    rotate_left
    · intro e3 I6 J6 hI6 g7 g8
      have e3 : nbF T3 0 40 ≠ 0 := e3
      have eR : (nlF (tbM I0) N m ln lat T) = (nbF T3 0 40, T3.2.1, 0, 0, 0, 0, 0) := by simp only [nlF, nbK, hw, hw9, hg, ← hT1, e1, ← hT2, e2, ← hT3, e3, moF, ↓reduceIte, show ¬ (2 = 3) by decide, show ¬ (2 = 0) by decide, show ¬ (2 = 1) by decide]
      rw [eR] at hno
      exact hno e3 I6 J6 hI6.1 g7 g8
    intro e3 I6 J6 hI6 hM6 g619
    have e3 : nbF T3 0 40 = 0 := e3
    obtain ⟨hR6, hD6⟩ := hI6
    refine q_ald rfl rfl ?_
    refine q_getr rfl sk_404 sr_404_8 ?_
    refine q_ild rfl rfl ?_
    refine q_ic rfl ?_
    refine q_add rfl ?_
    refine q_ald rfl rfl ?_
    refine q_geti rfl sk_404 ?_
    refine q_iast rfl sk_408 sn_408 (by omega) (by omega) ?_
    rw [n3]
    show dw_ok (pr_X12_nightLine K) 245 0 0 [some (.ref 404), some (.int 2), some (.int (1 + 4 * I 404 21))] [] (n, SH1, dw_up I6 408 (4 + 4 * ln) (I6 404 19), J6)
    rw [g619]
    obtain ⟨I7, hI7⟩ : ∃ X, X = dw_up I6 408 (4 + 4 * ln) T3.2.2.2 := ⟨_, rfl⟩
    have hR7 : NMp I0 J0 ln I7 J6 := by rw [hI7]; exact nm_up hR6 (by omega)
    have hD7 : I7 408 (1 + 4 * ln) = 2 ∧ I7 408 (2 + 4 * ln) = T1.2.2.2 ∧ I7 408 (3 + 4 * ln) = T2.2.2.2 ∧ I7 408 (4 + 4 * ln) = T3.2.2.2 := by
      rw [hI7]
      refine ⟨?_, ?_, ?_, up_same⟩
      · rw [up_fld (by omega)]; exact hD6.1
      · rw [up_fld (by omega)]; exact hD6.2.1
      · rw [up_fld (by omega)]; exact hD6.2.2.1
    have hM7 : MK (tbM I0) (tkF (tbM I0) N m T3.2.2.1) I7 J6 := mk_row (by rw [hI7]; exact up_row (by decide)) hM6
    rw [← hI7]
    refine q_ic rfl ?_
    have eR : (nlF (tbM I0) N m ln lat T) = stK (tkF (tbM I0) N m T3.2.2.1) (fun p => (0, 0, p, 2, T1.2.2.2, T2.2.2.2, T3.2.2.2)) := by simp only [nlF, nbK, hw, hw9, hg, ← hT1, e1, ← hT2, e2, ← hT3, e3, moF, ↓reduceIte, show ¬ (2 = 3) by decide, show ¬ (2 = 0) by decide, show ¬ (2 = 1) by decide]
    exact q_zret rfl (Or.inr rfl) (hok _ _ _ I7 J6 eR rfl hin3.2.2.1 (show 0 ≤ T1.2.2.2.toInt by omega) hM7 hR7 hD7)
  refine q_ald rfl rfl ?_
  refine q_ald rfl rfl ?_
  refine q_geti rfl sk_404 ?_
  refine q_if (c := 1) rfl (by decide) (fun h => ?_) (fun h => ?_)
  · have h : (I1 404 21).toInt ≠ 0 := h
    have tm3 : (1 + 4 * I 404 21 - 3).toInt = 4 * ln - 2 := by rw [i_sub (by omega) (by omega), tto, c3]; omega
    refine q_ald rfl rfl ?_
    refine q_getr rfl sk_404 sr_404_8 ?_
    refine q_ild rfl rfl ?_
    refine q_ic rfl ?_
    refine q_sub rfl ?_
    refine q_xald rfl (Or.inl rfl) sk_408 sn_408 (by omega) (by omega) ?_
    refine q_ic rfl ?_
    show dw_ok (pr_X12_nightLine K) 119 0 0 [some (.ref 404), some (.int 2), some (.int (1 + 4 * I 404 21))] [.int 143, .int (I1 408 (1 + 4 * I 404 21 - 3).toInt.toNat), .ref 404] (n, SH1, I1, J1)
    rw [show (1 + 4 * I 404 21 - 3).toInt.toNat = 4 * ln - 2 by omega, hI1.1.2.2.1 (4 * ln - 2) (by omega), hlat.2 (by omega)]
    exact J119 I1 J1 hI1 hM1
  · have h : (I1 404 21).toInt = 0 := h
    refine q_ic rfl ?_
    refine q_goto rfl ?_
    refine q_ic rfl ?_
    have e := J119 I1 J1 hI1 hM1
    rw [hlat.1 (by omega)] at e
    exact e
set_option maxRecDepth 8000 in
set_option maxHeartbeats 4000000 in
theorem v_mline3 {n : Nat} {I : Nat → Nat → Int32} {J : Nat → Nat → Int64} {K : dw_K} {I0 : Nat → Nat → Int32} {J0 : Nat → Nat → Int64} {lat : Int32} {T : fT} {N m ln p : Nat} (hR : NMp I0 J0 ln I J) (hN : (I0 404 3).toInt = N) (hN9 : N ≤ 940) (hm : (I0 404 5).toInt = m) (hT : MK (tbM I0) T I J) (hTe : T = tkF (tbM I0) N m p) (hp : p ≤ N) (hln : (I0 404 21).toInt = ln) (hl24 : ln ≤ 24) (hlat : (ln = 0 → lat = 0) ∧ (ln ≠ 0 → I0 408 (4 * ln - 2) = lat)) (hl0 : 0 ≤ lat.toInt) (hw : wkF (tbM I0) T = 3)
    (hok : ∀ (T' : fT) (p' : Nat) (l : fL) (I' : Nat → Nat → Int32) (J' : Nat → Nat → Int64), (nlF (tbM I0) N m ln lat T) = stK T' (fun p => (0, 0, p, l)) → T' = tkF (tbM I0) N m p' → p' ≤ N → 0 ≤ l.2.1.toInt → MK (tbM I0) T' I' J' → NMp I0 J0 ln I' J' → I' 408 (1 + 4 * ln) = Int32.ofNat l.1 ∧ I' 408 (2 + 4 * ln) = l.2.1 ∧ I' 408 (3 + 4 * ln) = l.2.2.1 ∧ I' 408 (4 + 4 * ln) = l.2.2.2 → K (some (.int 1)) (n, SH1, I', J'))
    (hno : (nlF (tbM I0) N m ln lat T).1 ≠ 0 → ∀ (I' : Nat → Nat → Int32) (J' : Nat → Nat → Int64), NMp I0 J0 ln I' J' → (I' 404 15).toInt = (nlF (tbM I0) N m ln lat T).1 → (I' 404 16).toInt = (nlF (tbM I0) N m ln lat T).2.1 → K (some (.int 0)) (n, SH1, I', J')) : dw_ok (pr_X12_nightLine K) 58 0 0 [some (.ref 404), some (.int 3), none] [] (n, SH1, I, J) := by
  have c24 : (24 : Int32).toInt = 24 := rfl
  have c1 : (1 : Int32).toInt = 1 := rfl
  have c2 : (2 : Int32).toInt = 2 := rfl
  have c3 : (3 : Int32).toInt = 3 := rfl
  have c4 : (4 : Int32).toInt = 4 := rfl
  have hw9 : ¬ (3 = 9) := by decide
  have h21 : (I 404 21).toInt = ln := by rw [hR.2.1 21 (by decide)]; exact hln
  have hI0 : NMp I0 J0 ln I J ∧ (fun _ => True) (I 408) := ⟨hR, trivial⟩
  refine q_ild rfl rfl ?_
  refine q_if (c := 3) rfl (by decide) (fun _ => ?_) (fun h => absurd (show (3 : Int32).toInt < 0 from h) (by decide))
  refine q_ald rfl rfl ?_
  refine q_geti rfl sk_404 ?_
  refine q_ic rfl ?_
  refine q_icmp (c := 1) rfl (by decide) (fun h => ?_) (fun h => ?_)
  rotate_left
  · have h : (I 404 21).toInt = (24 : Int32).toInt := h
    have hg : 24 ≤ ln := by omega
    have eR : (nlF (tbM I0) N m ln lat T) = (4, T.2.1, 0, 0, 0, 0, 0) := by simp only [nlF, hw, hg, hw9, ↓reduceIte]
    refine q_ald rfl rfl ?_
    refine q_ic rfl ?_
    refine mb_step (c := 4) rfl rfl (nmV (J0 := J0) (P := fun _ => True)) hI0 (fun I1 J1 hI1 g7 g8 => ?_)
    rw [eR] at hno
    exact hno (nn rfl) I1 J1 hI1.1 g7 (g8.trans hT.2.1)
  have h : (I 404 21).toInt ≠ (24 : Int32).toInt := h
  have hg : ¬ (24 ≤ ln) := by omega
  have t4 : (4 * I 404 21).toInt = 4 * ln := i_mul (by rw [c4, h21]) (by omega) (by omega)
  have tto : (1 + 4 * I 404 21).toInt = 1 + 4 * ln := by rw [i_add (by omega) (by omega), c1, t4]
  refine q_ic rfl ?_
  refine q_ic rfl ?_
  refine q_ald rfl rfl ?_
  refine q_geti rfl sk_404 ?_
  refine q_mul rfl ?_
  refine q_add rfl ?_
  refine q_ist rfl rfl ?_
  show dw_ok (pr_X12_nightLine K) 92 0 0 [some (.ref 404), some (.int 3), some (.int (1 + 4 * I 404 21))] [] (n, SH1, I, J)
  have hw1 : T.1 = 1 := wk_1 (by rw [hw]; decide)
  have hin := tkF_in (b := tbM I0) (n := N) (m := m) (p := p) hp
  rw [← hTe] at hin
  refine q_ald rfl rfl ?_
  refine mn_step (p := T.2.2.1) rfl (nmV (J0 := J0) (P := fun _ => True)) hI0 hN hN9 hm hin.2.2.1 (hT.2.2.1 (Or.inl hw1)) (fun I1 J1 hI1 hM1 => ?_)
  obtain ⟨T1, hT1⟩ : ∃ t, t = tkF (tbM I0) N m T.2.2.1 := ⟨_, rfl⟩
  have hin1 := tkF_in (b := tbM I0) (n := N) (m := m) (p := T.2.2.1) hin.2.2.1
  rw [← hT1] at hM1 hin1
  have h211 : (I1 404 21).toInt = ln := by rw [hI1.1.2.1 21 (by decide)]; exact hln
  -- the number told first
  have J119 : ∀ I1 J1, NMp I0 J0 ln I1 J1 ∧ (fun _ => True) (I1 408) → MK (tbM I0) T1 I1 J1 → dw_ok (pr_X12_nightLine K) 119 0 0 [some (.ref 404), some (.int 3), some (.int (1 + 4 * I 404 21))] [.int 143, .int lat, .ref 404] (n, SH1, I1, J1) := by
    intro I1 J1 hI1 hM1
    refine mt_step (T := T1) rfl rfl rfl rfl (nmV (P := fun _ => True)) hI1 hN hN9 hm hM1 hin1.2.2.1 ?_ ?_
    rotate_left
    · intro e1 I2 J2 hI2 g7 g8
      have e1 : nbF T1 lat.toInt 143 ≠ 0 := e1
      have eR : (nlF (tbM I0) N m ln lat T) = (nbF T1 lat.toInt 143, T1.2.1, 0, 0, 0, 0, 0) := by simp only [nlF, nbK, hw, hw9, hg, ← hT1, e1, ↓reduceIte]
      rw [eR] at hno
      exact hno e1 I2 J2 hI2.1 g7 g8
    intro e1 I2 J2 hI2 hM2 g19
    have e1 : nbF T1 lat.toInt 143 = 0 := e1
    have r1 := nb_r e1
    have tt1 : (1 + 4 * I 404 21 + 1).toInt = 2 + 4 * ln := by rw [i_add (by omega) (by omega), tto, c1]; omega
    have tt2 : (1 + 4 * I 404 21 + 2).toInt = 3 + 4 * ln := by rw [i_add (by omega) (by omega), tto, c2]; omega
    have tt3 : (1 + 4 * I 404 21 + 3).toInt = 4 + 4 * ln := by rw [i_add (by omega) (by omega), tto, c3]; omega
    have n0 : (1 + 4 * I 404 21).toInt.toNat = 1 + 4 * ln := by omega
    have n1 : (1 + 4 * I 404 21 + 1).toInt.toNat = 2 + 4 * ln := by omega
    have n2 : (1 + 4 * I 404 21 + 2).toInt.toNat = 3 + 4 * ln := by omega
    have n3 : (1 + 4 * I 404 21 + 3).toInt.toNat = 4 + 4 * ln := by omega
    refine q_ald rfl rfl ?_
    refine q_getr rfl sk_404 sr_404_8 ?_
    refine q_ild rfl rfl ?_
    refine q_ild rfl rfl ?_
    refine q_iast rfl sk_408 sn_408 (by omega) (by omega) ?_
    rw [n0]
    refine q_ald rfl rfl ?_
    refine q_getr rfl sk_404 sr_404_8 ?_
    refine q_ild rfl rfl ?_
    refine q_ic rfl ?_
    refine q_add rfl ?_
    refine q_ald rfl rfl ?_
    refine q_geti rfl sk_404 ?_
    refine q_iast rfl sk_408 sn_408 (by omega) (by omega) ?_
    rw [n1]
    refine q_ald rfl rfl ?_
    refine q_getr rfl sk_404 sr_404_8 ?_
    refine q_ild rfl rfl ?_
    refine q_ic rfl ?_
    refine q_add rfl ?_
    refine q_ic rfl ?_
    refine q_iast rfl sk_408 sn_408 (by omega) (by omega) ?_
    rw [n2]
    refine q_ald rfl rfl ?_
    refine q_getr rfl sk_404 sr_404_8 ?_
    refine q_ild rfl rfl ?_
    refine q_ic rfl ?_
    refine q_add rfl ?_
    refine q_ic rfl ?_
    refine q_iast rfl sk_408 sn_408 (by omega) (by omega) ?_
    rw [n3]
    show dw_ok (pr_X12_nightLine K) 164 0 0 [some (.ref 404), some (.int 3), some (.int (1 + 4 * I 404 21))] [] (n, SH1, dw_up (dw_up (dw_up (dw_up I2 408 (1 + 4 * ln) 3) 408 (2 + 4 * ln) (I2 404 19)) 408 (3 + 4 * ln) 0) 408 (4 + 4 * ln) 0, J2)
    rw [g19]
    obtain ⟨I3, hI3⟩ : ∃ X, X = dw_up (dw_up (dw_up (dw_up I2 408 (1 + 4 * ln) 3) 408 (2 + 4 * ln) T1.2.2.2) 408 (3 + 4 * ln) 0) 408 (4 + 4 * ln) 0 := ⟨_, rfl⟩
    have hR3 : NMp I0 J0 ln I3 J2 := by rw [hI3]; exact nm_up (nm_up (nm_up (nm_up hI2.1 (by omega)) (by omega)) (by omega)) (by omega)
    have hD3 : I3 408 (1 + 4 * ln) = 3 ∧ I3 408 (2 + 4 * ln) = T1.2.2.2 ∧ I3 408 (3 + 4 * ln) = 0 ∧ I3 408 (4 + 4 * ln) = 0 := by
      rw [hI3]
      refine ⟨?_, ?_, ?_, up_same⟩
      · rw [up_fld (by omega), up_fld (by omega), up_fld (by omega)]; exact up_same
      · rw [up_fld (by omega), up_fld (by omega)]; exact up_same
      · rw [up_fld (by omega)]; exact up_same
    have hM3 : MK (tbM I0) (tkF (tbM I0) N m T1.2.2.1) I3 J2 := mk_row (by rw [hI3]; exact (up_row (by decide)).trans ((up_row (by decide)).trans ((up_row (by decide)).trans (up_row (by decide))))) hM2
    obtain ⟨T2, hT2⟩ : ∃ t, t = tkF (tbM I0) N m T1.2.2.1 := ⟨_, rfl⟩
    have hin2 := tkF_in (b := tbM I0) (n := N) (m := m) (p := T1.2.2.1) hin1.2.2.1
    rw [← hT2] at hM3 hin2
    rw [← hI3]
    refine q_ild rfl rfl ?_
    refine q_ic rfl ?_
    refine q_icmp (c := 1) rfl (by decide) (fun h => absurd rfl h) (fun _ => ?_)
    refine q_ic rfl ?_
    have eR : (nlF (tbM I0) N m ln lat T) = stK T2 (fun p => (0, 0, p, 3, T1.2.2.2, 0, 0)) := by simp only [nlF, nbK, hw, hw9, hg, ← hT1, e1, ← hT2, ↓reduceIte]
    exact q_zret rfl (Or.inr rfl) (hok T2 _ _ I3 J2 eR hT2 hin1.2.2.1 (show 0 ≤ T1.2.2.2.toInt by omega) hM3 hR3 hD3)
  refine q_ald rfl rfl ?_
  refine q_ald rfl rfl ?_
  refine q_geti rfl sk_404 ?_
  refine q_if (c := 1) rfl (by decide) (fun h => ?_) (fun h => ?_)
  · have h : (I1 404 21).toInt ≠ 0 := h
    have tm3 : (1 + 4 * I 404 21 - 3).toInt = 4 * ln - 2 := by rw [i_sub (by omega) (by omega), tto, c3]; omega
    refine q_ald rfl rfl ?_
    refine q_getr rfl sk_404 sr_404_8 ?_
    refine q_ild rfl rfl ?_
    refine q_ic rfl ?_
    refine q_sub rfl ?_
    refine q_xald rfl (Or.inl rfl) sk_408 sn_408 (by omega) (by omega) ?_
    refine q_ic rfl ?_
    show dw_ok (pr_X12_nightLine K) 119 0 0 [some (.ref 404), some (.int 3), some (.int (1 + 4 * I 404 21))] [.int 143, .int (I1 408 (1 + 4 * I 404 21 - 3).toInt.toNat), .ref 404] (n, SH1, I1, J1)
    rw [show (1 + 4 * I 404 21 - 3).toInt.toNat = 4 * ln - 2 by omega, hI1.1.2.2.1 (4 * ln - 2) (by omega), hlat.2 (by omega)]
    exact J119 I1 J1 hI1 hM1
  · have h : (I1 404 21).toInt = 0 := h
    refine q_ic rfl ?_
    refine q_goto rfl ?_
    refine q_ic rfl ?_
    have e := J119 I1 J1 hI1 hM1
    rw [hlat.1 (by omega)] at e
    exact e
set_option maxRecDepth 8000 in
set_option maxHeartbeats 1000000 in
theorem v_mline {n : Nat} {I : Nat → Nat → Int32} {J : Nat → Nat → Int64} {K : dw_K} {I0 : Nat → Nat → Int32} {J0 : Nat → Nat → Int64} {lat : Int32} {T : fT} {N m ln p : Nat} (hR : NMp I0 J0 ln I J) (hN : (I0 404 3).toInt = N) (hN9 : N ≤ 940) (hm : (I0 404 5).toInt = m) (hT : MK (tbM I0) T I J) (hTe : T = tkF (tbM I0) N m p) (hp : p ≤ N) (hln : (I0 404 21).toInt = ln) (hl24 : ln ≤ 24) (hlat : (ln = 0 → lat = 0) ∧ (ln ≠ 0 → I0 408 (4 * ln - 2) = lat)) (hl0 : 0 ≤ lat.toInt)
    (hok : ∀ (T' : fT) (p' : Nat) (l : fL) (I' : Nat → Nat → Int32) (J' : Nat → Nat → Int64), (nlF (tbM I0) N m ln lat T) = stK T' (fun p => (0, 0, p, l)) → T' = tkF (tbM I0) N m p' → p' ≤ N → 0 ≤ l.2.1.toInt → MK (tbM I0) T' I' J' → NMp I0 J0 ln I' J' → I' 408 (1 + 4 * ln) = Int32.ofNat l.1 ∧ I' 408 (2 + 4 * ln) = l.2.1 ∧ I' 408 (3 + 4 * ln) = l.2.2.1 ∧ I' 408 (4 + 4 * ln) = l.2.2.2 → K (some (.int 1)) (n, SH1, I', J'))
    (hno : (nlF (tbM I0) N m ln lat T).1 ≠ 0 → ∀ (I' : Nat → Nat → Int32) (J' : Nat → Nat → Int64), NMp I0 J0 ln I' J' → (I' 404 15).toInt = (nlF (tbM I0) N m ln lat T).1 → (I' 404 16).toInt = (nlF (tbM I0) N m ln lat T).2.1 → K (some (.int 0)) (n, SH1, I', J')) : t_X12_nightLine [.ref 404] (n, SH1, I, J) K := by
  refine q_body (Nat.le_of_ble_eq_true rfl) ?_
  have hT' := hT
  rw [hTe] at hT'
  refine q_ald rfl rfl ?_
  refine q_lc rfl ?_
  refine mw_step (i := 18) (W := 427021006180) rfl hT' hp (by decide) (by decide) (sm_ok (by decide)) (by decide +kernel) (fun s18 => ?_) (fun s18 => ?_)
  · refine q_if (c := 0) rfl (by decide) (fun h => absurd (show (1 : Int32).toInt = 0 from h) (by decide)) (fun _ => ?_)
    refine q_ic rfl ?_
    refine q_goto rfl ?_
    refine q_ist rfl rfl ?_
    have hw : wkF (tbM I0) T = 0 := by rw [hTe]; unfold wkF; rw [if_pos s18]
    exact v_mline0 hR hN hN9 hm hT hTe hp hln hl24 hlat hl0 hw hok hno
  refine q_if (c := 0) rfl (by decide) (fun _ => ?_) (fun h => absurd rfl h)
  refine q_ald rfl rfl ?_
  refine q_lc rfl ?_
  refine mw_step (i := 19) (W := 2003398244) rfl hT' hp (by decide) (by decide) (sm_ok (by decide)) (by decide +kernel) (fun s19 => ?_) (fun s19 => ?_)
  · refine q_if (c := 0) rfl (by decide) (fun h => absurd (show (1 : Int32).toInt = 0 from h) (by decide)) (fun _ => ?_)
    refine q_ic rfl ?_
    refine q_goto rfl ?_
    refine q_ist rfl rfl ?_
    have hw : wkF (tbM I0) T = 1 := by rw [hTe]; unfold wkF; rw [if_neg s18, if_pos s19]
    exact v_mline1 hR hN hN9 hm hT hTe hp hln hl24 hlat hl0 hw hok hno
  refine q_if (c := 0) rfl (by decide) (fun _ => ?_) (fun h => absurd rfl h)
  refine q_ald rfl rfl ?_
  refine q_lc rfl ?_
  refine mw_step (i := 20) (W := 6383986) rfl hT' hp (by decide) (by decide) (sm_ok (by decide)) (by decide +kernel) (fun s20 => ?_) (fun s20 => ?_)
  · refine q_if (c := 0) rfl (by decide) (fun h => absurd (show (1 : Int32).toInt = 0 from h) (by decide)) (fun _ => ?_)
    refine q_ic rfl ?_
    refine q_goto rfl ?_
    refine q_ist rfl rfl ?_
    have hw : wkF (tbM I0) T = 2 := by rw [hTe]; unfold wkF; rw [if_neg s18, if_neg s19, if_pos s20]
    exact v_mline2 hR hN hN9 hm hT hTe hp hln hl24 hlat hl0 hw hok hno
  refine q_if (c := 0) rfl (by decide) (fun _ => ?_) (fun h => absurd rfl h)
  refine q_ald rfl rfl ?_
  refine q_lc rfl ?_
  refine mw_step (i := 21) (W := 7566702) rfl hT' hp (by decide) (by decide) (sm_ok (by decide)) (by decide +kernel) (fun s21 => ?_) (fun s21 => ?_)
  · refine q_if (c := 0) rfl (by decide) (fun h => absurd (show (1 : Int32).toInt = 0 from h) (by decide)) (fun _ => ?_)
    refine q_ic rfl ?_
    refine q_goto rfl ?_
    refine q_ist rfl rfl ?_
    have hw : wkF (tbM I0) T = 3 := by rw [hTe]; unfold wkF; rw [if_neg s18, if_neg s19, if_neg s20, if_pos s21]
    exact v_mline3 hR hN hN9 hm hT hTe hp hln hl24 hlat hl0 hw hok hno
  refine q_if (c := 0) rfl (by decide) (fun _ => ?_) (fun h => absurd rfl h)
  refine q_ic rfl ?_
  refine q_ist rfl rfl ?_
  have hw : wkF (tbM I0) T = 9 := by rw [hTe]; unfold wkF; rw [if_neg s18, if_neg s19, if_neg s20, if_neg s21]
  have eR : (nlF (tbM I0) N m ln lat T) = (1, T.2.1, 0, 0, 0, 0, 0) := by simp only [nlF, hw, ↓reduceIte]
  refine q_ild rfl rfl ?_
  refine q_if (c := 3) rfl (by decide) (fun h => absurd (show 0 ≤ (-1 : Int32).toInt from h) (by decide)) (fun _ => ?_)
  refine q_ald rfl rfl ?_
  refine q_ic rfl ?_
  refine mb_step (c := 1) rfl rfl (nmV (J0 := J0) (P := fun _ => True)) ⟨hR, trivial⟩ (fun I1 J1 hI1 g7 g8 => ?_)
  rw [eR] at hno
  exact hno (nn rfl) I1 J1 hI1.1 g7 (g8.trans hT.2.1)
