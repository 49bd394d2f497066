/-! ===== night() of the model ===== -/
def NLp (I0 : Nat → Nat → Int32) (J0 : Nat → Nat → Int64) (I : Nat → Nat → Int32) (J : Nat → Nat → Int64) : Prop :=
  (∀ a, a ≠ 404 → a ≠ 408 → I a = I0 a) ∧ (∀ j, mF j → j ≠ 21 → I 404 j = I0 404 j) ∧ (∀ a, a ≠ 404 → J a = J0 a) ∧ ∀ j, j ≠ 17 → j ≠ 18 → J 404 j = J0 404 j
set_option maxRecDepth 8000 in
theorem NL_N {I0 I I' : Nat → Nat → Int32} {J0 J J' : Nat → Nat → Int64} {ln : Nat} (h : NLp I0 J0 I J) (g : NMp I J ln I' J') : NLp I0 J0 I' J' :=
  ⟨fun a h1 h2 => (g.1 a h1 h2).trans (h.1 a h1 h2), fun j h1 h2 => (g.2.1 j h1).trans (h.2.1 j h1 h2), fun a ha => (g.2.2.2.1 a ha).trans (h.2.2.1 a ha), fun j h1 h2 => (g.2.2.2.2 j h1 h2).trans (h.2.2.2 j h1 h2)⟩
set_option maxRecDepth 8000 in
theorem la_eq {I : Nat → Nat → Int32} : ∀ {L : List fL}, mdF I L → (L.length = 0 → laF L = 0) ∧ (L.length ≠ 0 → I 408 (4 * L.length - 2) = laF L)
  | [], _ => ⟨fun _ => rfl, fun h => absurd rfl h⟩
  | l :: r, h => by
    refine ⟨fun g => absurd g (Nat.succ_ne_zero _), fun _ => ?_⟩
    have hl : (l :: r).length = r.length + 1 := rfl
    rw [show 4 * (l :: r).length - 2 = 2 + 4 * r.length by omega]
    exact h.2.1
set_option maxRecDepth 8000 in
/-- a fault is told: -1 less its place -/
theorem mn_bad {n bc bs : Nat} {I : Nat → Nat → Int32} {J : Nat → Nat → Int64} {K : dw_K} {x : Int32} {q : Nat} (h : (I 404 16).toInt = q) (hq : q ≤ 940) (hk : ∀ w : Int32, w.toInt = -1 - (q : Int) → K (some (.int w)) (n, SH1, I, J)) : dw_ok (pr_X12_night K) 62 bc bs [some (.ref 404), some (.int x), none] [] (n, SH1, I, J) := by
  have cm : (-1 : Int32).toInt = -1 := rfl
  refine q_ic rfl ?_
  refine q_ald rfl rfl ?_
  refine q_geti rfl sk_404 ?_
  refine q_sub rfl ?_
  exact q_iret rfl (hk _ (by show ((-1 : Int32) - I 404 16).toInt = _; rw [i_sub (by omega) (by omega), cm, h]))
set_option maxRecDepth 8000 in
theorem mn_loop {n bc bs : Nat} {K : dw_K} {I0 : Nat → Nat → Int32} {J0 : Nat → Nat → Int64} {N m : Nat} {x : Int32} {G : Nat × Nat × Nat × List fL} (hN : (I0 404 3).toInt = N) (hN9 : N ≤ 940) (hm : (I0 404 5).toInt = m) (hpl : G.2.1 ≤ 940)
    (hok : G.1 = 0 → ∀ (I' : Nat → Nat → Int32) (J' : Nat → Nat → Int64), NLp I0 J0 I' J' → mdF I' G.2.2.2 → (I' 404 21).toInt = G.2.2.1 → G.2.2.1 = G.2.2.2.length → G.2.2.1 ≤ 24 → dw_ok (pr_X12_night K) 82 bc bs [some (.ref 404), some (.int x), none] [] (n, SH1, I', J'))
    (hno : G.1 ≠ 0 → ∀ (I' : Nat → Nat → Int32) (J' : Nat → Nat → Int64) (w : Int32), NLp I0 J0 I' J' → w.toInt = -1 - (G.2.1 : Int) → K (some (.int w)) (n, SH1, I', J')) :
    ∀ (f ln p : Nat) (L : List fL) (I : Nat → Nat → Int32) (J : Nat → Nat → Int64), ln + f = 24 → L.length = ln → ngF (tbM I0) N m (f + 1) ln (laF L) p L = G → NLp I0 J0 I J → (I 404 21).toInt = ln → mdF I L → MK (tbM I0) (tkF (tbM I0) N m p) I J → p ≤ N → 0 ≤ (laF L).toInt → dw_ok (pr_X12_night K) 39 bc bs [some (.ref 404), some (.int x), none] [] (n, SH1, I, J) := by
  have c1 : (1 : Int32).toInt = 1 := rfl
  intro f
  induction f with
  | zero =>
    intro ln p L I J hf hL hG hR h21 hD hT hp hl0
    have hb : tbM I = tbM I0 := tbM_eq (hR.2.1 3 (by decide) (by decide)) (hR.1 405 (by decide) (by decide))
    have hNI : (I 404 3).toInt = N := by rw [hR.2.1 3 (by decide) (by decide)]; exact hN
    have hmI : (I 404 5).toInt = m := by rw [hR.2.1 5 (by decide) (by decide)]; exact hm
    unfold ngF at hG
    refine q_ald rfl rfl ?_
    refine q_geti rfl sk_404 ?_
    refine q_if (c := 0) rfl (by decide) (fun h => ?_) (fun h => ?_)
    · have h : (I 404 11).toInt = 0 := h
      have hT0 : (tkF (tbM I0) N m p).1 = 0 := by have := hT.1; omega
      rw [if_pos hT0] at hG
      rw [← hG] at hok
      exact hok rfl I J hR hD h21 hL.symm (by show ln ≤ 24; omega)
    have h : (I 404 11).toInt ≠ 0 := h
    have hT0 : ¬ (tkF (tbM I0) N m p).1 = 0 := by have := hT.1; omega
    rw [if_neg hT0] at hG
    refine q_ald rfl rfl ?_
    refine q_callV (as := []) (rest := []) rfl rfl sk_404 rfl (Nat.le_of_ble_eq_true rfl) ?_
    have hla := la_eq hD
    rw [hL] at hla
    rw [← hb] at hT hG
    refine v_mline (I0 := I) (J0 := J) (lat := laF L) (p := p) (ln := ln) ⟨fun _ _ _ => rfl, fun _ _ => rfl, fun _ _ => rfl, fun _ _ => rfl, fun _ _ _ => rfl⟩ hNI hN9 hmI hT rfl hp h21 (by omega) hla hl0 (fun T' p' l I' J' e hTe hp' hl hM hR' hD' => ?_) (fun hr I' J' hR' g15 g16 => ?_)
    · have hr : (nlF (tbM I) N m ln (laF L) (tkF (tbM I) N m p)).1 ≠ 0 := nl_24 (by omega)
      rw [if_neg hr] at hG
      have h3 : T'.1 ≠ 3 := fun h3 => hr (by rw [e]; unfold stK; rw [if_pos h3])
      have e2 : nlF (tbM I) N m ln (laF L) (tkF (tbM I) N m p) = (1, T'.2.1, 0, 0, 0, 0, 0) := by rw [e]; unfold stK; rw [if_neg h3]
      rw [e2] at hG
      have hin' := tkF_in (b := tbM I) (n := N) (m := m) (p := p') hp'
      rw [← hTe] at hin'
      show dw_ok (pr_X12_night K) 50 bc bs [some (.ref 404), some (.int x), none] [.int 1] (n, SH1, I', J')
      refine q_if (c := 0) rfl (by decide) (fun h => absurd (show (1 : Int32).toInt = 0 from h) (by decide)) (fun _ => ?_)
      refine q_ald rfl rfl ?_
      refine q_ic rfl ?_
      refine q_callV (as := [.int 59]) (rest := []) rfl rfl sk_404 rfl (Nat.le_of_ble_eq_true rfl) ?_
      refine v_sign (b := tbM I) (T := T') (N := N) (m := m) (by rw [hR'.2.1 3 (by decide)]; exact hNI) hN9 (by rw [hR'.2.1 5 (by decide)]; exact hmI) (tbM_eq (hR'.2.1 3 (by decide)) (hR'.1 405 (by decide) (by decide))) hM hin'.2.2.1 (fun g => absurd g h3) (fun _ => ?_)
      show dw_ok (pr_X12_night K) 59 bc bs [some (.ref 404), some (.int x), none] [.int 0] (n, SH1, dw_up (dw_up I' 404 15 1) 404 16 (I' 404 12), J')
      refine q_if (c := 1) rfl (by decide) (fun h => absurd rfl h) (fun _ => ?_)
      have hR2 : NLp I0 J0 (dw_up (dw_up I' 404 15 1) 404 16 (I' 404 12)) J' := by
        have q := NL_N hR hR'
        exact ⟨fun a h1 h2 => (up_row h1).trans ((up_row h1).trans (q.1 a h1 h2)), fun j h1 h2 => (up_fld h1.2.2.2.2.2.2.1).trans ((up_fld h1.2.2.2.2.2.1).trans (q.2.1 j h1 h2)), q.2.2.1, q.2.2.2⟩
      rw [← hG] at hno hpl
      exact mn_bad (q := T'.2.1) hM.2.1 hpl (fun w hw => hno (nn rfl) _ _ w hR2 hw)
    · rw [if_neg hr] at hG
      show dw_ok (pr_X12_night K) 50 bc bs [some (.ref 404), some (.int x), none] [.int 0] (n, SH1, I', J')
      refine q_if (c := 0) rfl (by decide) (fun _ => ?_) (fun h => absurd rfl h)
      rw [← hG] at hno hpl
      exact mn_bad g16 hpl (fun w hw => hno hr _ _ w (NL_N hR hR') hw)
  | succ f ih =>
    intro ln p L I J hf hL hG hR h21 hD hT hp hl0
    have hb : tbM I = tbM I0 := tbM_eq (hR.2.1 3 (by decide) (by decide)) (hR.1 405 (by decide) (by decide))
    have hNI : (I 404 3).toInt = N := by rw [hR.2.1 3 (by decide) (by decide)]; exact hN
    have hmI : (I 404 5).toInt = m := by rw [hR.2.1 5 (by decide) (by decide)]; exact hm
    unfold ngF at hG
    refine q_ald rfl rfl ?_
    refine q_geti rfl sk_404 ?_
    refine q_if (c := 0) rfl (by decide) (fun h => ?_) (fun h => ?_)
    · have h : (I 404 11).toInt = 0 := h
      have hT0 : (tkF (tbM I0) N m p).1 = 0 := by have := hT.1; omega
      rw [if_pos hT0] at hG
      rw [← hG] at hok
      exact hok rfl I J hR hD h21 hL.symm (by show ln ≤ 24; omega)
    have h : (I 404 11).toInt ≠ 0 := h
    have hT0 : ¬ (tkF (tbM I0) N m p).1 = 0 := by have := hT.1; omega
    rw [if_neg hT0] at hG
    refine q_ald rfl rfl ?_
    refine q_callV (as := []) (rest := []) rfl rfl sk_404 rfl (Nat.le_of_ble_eq_true rfl) ?_
    have hla := la_eq hD
    rw [hL] at hla
    rw [← hb] at hT hG
    refine v_mline (I0 := I) (J0 := J) (lat := laF L) (p := p) (ln := ln) ⟨fun _ _ _ => rfl, fun _ _ => rfl, fun _ _ => rfl, fun _ _ => rfl, fun _ _ _ => rfl⟩ hNI hN9 hmI hT rfl hp h21 (by omega) hla hl0 (fun T' p' l I' J' e hTe hp' hl hM hR' hD' => ?_) (fun hr I' J' hR' g15 g16 => ?_)
    · have hin' := tkF_in (b := tbM I) (n := N) (m := m) (p := p') hp'
      rw [← hTe] at hin'
      show dw_ok (pr_X12_night K) 50 bc bs [some (.ref 404), some (.int x), none] [.int 1] (n, SH1, I', J')
      refine q_if (c := 0) rfl (by decide) (fun h => absurd (show (1 : Int32).toInt = 0 from h) (by decide)) (fun _ => ?_)
      refine q_ald rfl rfl ?_
      refine q_ic rfl ?_
      refine q_callV (as := [.int 59]) (rest := []) rfl rfl sk_404 rfl (Nat.le_of_ble_eq_true rfl) ?_
      have hb' : tbM I' = tbM I := tbM_eq (hR'.2.1 3 (by decide)) (hR'.1 405 (by decide) (by decide))
      refine v_sign (b := tbM I) (T := T') (N := N) (m := m) (by rw [hR'.2.1 3 (by decide)]; exact hNI) hN9 (by rw [hR'.2.1 5 (by decide)]; exact hmI) hb' hM hin'.2.2.1 (fun h3 I2 J2 hA hF hJa hJf hM2 => ?_) (fun h3 => ?_)
      · have e2 : nlF (tbM I) N m ln (laF L) (tkF (tbM I) N m p) = (0, 0, T'.2.2.1, l) := by rw [e]; unfold stK; rw [if_pos h3]
        rw [e2, if_pos rfl] at hG
        have h212 : (I2 404 21).toInt = ln := by rw [hF 21 (by decide) (by decide) (by decide) (by decide) (by decide), hR'.2.1 21 (by decide)]; exact h21
        have t21 : (I2 404 21 + 1).toInt = (ln + 1 : Nat) := by rw [i_add (by omega) (by omega), c1, h212]; omega
        show dw_ok (pr_X12_night K) 59 bc bs [some (.ref 404), some (.int x), none] [.int 1] (n, SH1, I2, J2)
        refine q_if (c := 1) rfl (by decide) (fun _ => ?_) (fun h => absurd (show (1 : Int32).toInt = 0 from h) (by decide))
        refine q_ald rfl rfl ?_
        refine q_dup rfl ?_
        refine q_geti rfl sk_404 ?_
        refine q_ic rfl ?_
        refine q_add rfl ?_
        refine q_puti rfl sk_404 ?_
        refine q_goto rfl ?_
        show dw_ok (pr_X12_night K) 39 bc bs [some (.ref 404), some (.int x), none] [] (n, SH1, dw_up I2 404 21 (I2 404 21 + 1), J2)
        have q := NL_N hR hR'
        rw [hb] at hM2 hG
        refine ih (ln + 1) T'.2.2.1 (l :: L) (dw_up I2 404 21 (I2 404 21 + 1)) J2 (by omega) (by rw [List.length_cons, hL]) hG ⟨fun a h1 h2 => (up_row h1).trans ((hA a h1).trans (q.1 a h1 h2)), fun j h1 h2 => (up_fld h2).trans ((hF j h1.1 h1.2.1 h1.2.2.1 h1.2.2.2.1 h1.2.2.2.2.1).trans (q.2.1 j h1 h2)), fun a ha => (hJa a ha).trans (q.2.2.1 a ha), fun j h1 h2 => (hJf j h1 h2).trans (q.2.2.2 j h1 h2)⟩ ?_ ?_ ?_ hin'.2.2.1 hl
        · show (I2 404 21 + 1).toInt = _; exact t21
        · have hr8 : (dw_up I2 404 21 (I2 404 21 + 1)) 408 = I' 408 := (up_row (by decide)).trans (hA 408 (by decide))
          have hLl : L.length = ln := hL
          refine ⟨?_, ?_, ?_, ?_, md_same (I := I) L (fun j hj => ?_) hD⟩
          · rw [hr8, hLl]; exact hD'.1
          · rw [hr8, hLl]; exact hD'.2.1
          · rw [hr8, hLl]; exact hD'.2.2.1
          · rw [hr8, hLl]; exact hD'.2.2.2
          · rw [hr8]; exact hR'.2.2.1 j (by omega)
        · exact mk_fld (fun j hj => up_fld hj) hM2
      · have e2 : nlF (tbM I) N m ln (laF L) (tkF (tbM I) N m p) = (1, T'.2.1, 0, 0, 0, 0, 0) := by rw [e]; unfold stK; rw [if_neg h3]
        rw [e2] at hG
        show dw_ok (pr_X12_night K) 59 bc bs [some (.ref 404), some (.int x), none] [.int 0] (n, SH1, dw_up (dw_up I' 404 15 1) 404 16 (I' 404 12), J')
        refine q_if (c := 1) rfl (by decide) (fun h => absurd rfl h) (fun _ => ?_)
        have hR2 : NLp I0 J0 (dw_up (dw_up I' 404 15 1) 404 16 (I' 404 12)) J' := by
          have q := NL_N hR hR'
          exact ⟨fun a h1 h2 => (up_row h1).trans ((up_row h1).trans (q.1 a h1 h2)), fun j h1 h2 => (up_fld h1.2.2.2.2.2.2.1).trans ((up_fld h1.2.2.2.2.2.1).trans (q.2.1 j h1 h2)), q.2.2.1, q.2.2.2⟩
        rw [if_neg (show ¬ (((1, T'.2.1, 0, 0, 0, 0, 0) : fR).1 = 0) from nn rfl)] at hG
        rw [← hG] at hno hpl
        exact mn_bad (q := T'.2.1) hM.2.1 hpl (fun w hw => hno (nn rfl) _ _ w hR2 hw)
    · rw [if_neg hr] at hG
      show dw_ok (pr_X12_night K) 50 bc bs [some (.ref 404), some (.int x), none] [.int 0] (n, SH1, I', J')
      refine q_if (c := 0) rfl (by decide) (fun _ => ?_) (fun h => absurd rfl h)
      rw [← hG] at hno hpl
      exact mn_bad g16 hpl (fun w hw => hno hr _ _ w (NL_N hR hR') hw)
