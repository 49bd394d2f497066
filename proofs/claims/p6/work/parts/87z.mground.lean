/-! ===== ground() of the model ===== -/
set_option maxRecDepth 8000 in
theorem hz_loop {n bc bs : Nat} {K : dw_K} {I0 : Nat → Nat → Int32} {J : Nat → Nat → Int64}
    (hk : ∀ (x : Int32) (I : Nat → Nat → Int32), (∀ a, a ≠ 407 → I a = I0 a) → (∀ j, j < 221 → I 407 j = 0) → dw_ok (pr_X12_ground K) 49 bc bs [some (.ref 404), some (.int x)] [] (n, SH1, I, J)) :
    ∀ (f i : Nat) (x : Int32) (I : Nat → Nat → Int32), i + f = 221 → x.toInt = i → (∀ a, a ≠ 407 → I a = I0 a) → (∀ j, j < i → I 407 j = 0) → dw_ok (pr_X12_ground K) 29 bc bs [some (.ref 404), some (.int x)] [] (n, SH1, I, J) := by
  have c1 : (1 : Int32).toInt = 1 := rfl
  have c221 : (221 : Int32).toInt = 221 := rfl
  intro f
  induction f with
  | zero =>
    intro i x I hi hx hA hz
    refine q_ild rfl rfl ?_
    refine q_ic rfl ?_
    refine q_icmp (c := 3) rfl (by decide) (fun _ => ?_) (fun h => absurd (show x.toInt < (221 : Int32).toInt from h) (by omega))
    exact hk x I hA (fun j hj => hz j (by omega))
  | succ f ih =>
    intro i x I hi hx hA hz
    refine q_ild rfl rfl ?_
    refine q_ic rfl ?_
    refine q_icmp (c := 3) rfl (by decide) (fun h => absurd (show (221 : Int32).toInt ≤ x.toInt from h) (by omega)) (fun _ => ?_)
    refine q_ald rfl rfl ?_
    refine q_getr rfl sk_404 sr_404_7 ?_
    refine q_ild rfl rfl ?_
    refine q_ic rfl ?_
    refine q_iast rfl sk_407 sn_407 (by omega) (show x.toInt < (221 : Nat) by omega) ?_
    refine q_inc rfl rfl rfl ?_
    refine q_goto rfl ?_
    refine ih (i + 1) (x + 1) (dw_up I 407 x.toInt.toNat 0) (by omega) (by rw [i_add (by omega) (by omega), c1]; omega) (fun a ha => (up_row ha).trans (hA a ha)) (fun j hj => ?_)
    by_cases e : j = x.toInt.toNat
    · rw [e]; exact up_same
    · rw [up_fld e]; exact hz j (by omega)
/-- the model's GROUND taken: what s keeps -/
def GTk (I0 I : Nat → Nat → Int32) (h : Nat → Int32) : Prop :=
  (∀ a, a ≠ 406 → I a = I0 a) ∧ (∀ j, j < 221 → I 406 j = h j) ∧ (∀ j, 221 ≤ j → j < 1427 → (∀ k, k < 6 → j ≠ 221 + 97 * k) → I 406 j = 0) ∧ ∀ k, k < 6 → I 406 (221 + 97 * k) = -1
set_option maxRecDepth 8000 in
theorem sn_loop {n bc bs : Nat} {K : dw_K} {I0 : Nat → Nat → Int32} {J : Nat → Nat → Int64} {h : Nat → Int32}
    (hk : ∀ I : Nat → Nat → Int32, GTk I0 I h → K (some (.int (I0 404 20))) (n, SH1, I, J)) :
    ∀ (f i : Nat) (x : Int32) (I : Nat → Nat → Int32), i + f = 6 → x.toInt = i → (∀ a, a ≠ 406 → I a = I0 a) → (∀ j, j < 221 → I 406 j = h j) → (∀ j, 221 ≤ j → j < 1427 → (∀ k, k < 6 → j ≠ 221 + 97 * k) → I 406 j = 0) → (∀ k, k < i → I 406 (221 + 97 * k) = -1) → dw_ok (pr_X12_ground K) 145 bc bs [some (.ref 404), some (.int x)] [] (n, SH1, I, J) := by
  have c1 : (1 : Int32).toInt = 1 := rfl
  have c6 : (6 : Int32).toInt = 6 := rfl
  have c97 : (97 : Int32).toInt = 97 := rfl
  have c221 : (221 : Int32).toInt = 221 := rfl
  intro f
  induction f with
  | zero =>
    intro i x I hi hx hA h1 h2 h3
    refine q_ild rfl rfl ?_
    refine q_ic rfl ?_
    refine q_icmp (c := 3) rfl (by decide) (fun _ => ?_) (fun h => absurd (show x.toInt < (6 : Int32).toInt from h) (by omega))
    refine q_ald rfl rfl ?_
    refine q_geti rfl sk_404 ?_
    rw [show (n, SH1, I, J).2.2.1 404 20 = I0 404 20 from congrFun (hA 404 (by decide)) 20]
    exact q_iret rfl (hk I ⟨hA, h1, h2, fun k hk6 => h3 k (by omega)⟩)
  | succ f ih =>
    intro i x I hi hx hA h1 h2 h3
    have tm : (97 * x).toInt = 97 * i := i_mul (by rw [c97, hx]) (by omega) (by omega)
    have tt : (221 + 97 * x).toInt = 221 + 97 * i := by rw [i_add (by omega) (by omega), tm, c221]
    refine q_ild rfl rfl ?_
    refine q_ic rfl ?_
    refine q_icmp (c := 3) rfl (by decide) (fun h => absurd (show (6 : Int32).toInt ≤ x.toInt from h) (by omega)) (fun _ => ?_)
    refine q_ald rfl rfl ?_
    refine q_getr rfl sk_404 sr_404_6 ?_
    refine q_ic rfl ?_
    refine q_ic rfl ?_
    refine q_ild rfl rfl ?_
    refine q_mul rfl ?_
    refine q_add rfl ?_
    refine q_ic rfl ?_
    refine q_iast rfl sk_406 sn_406 (by omega) (show (221 + 97 * x).toInt < (1427 : Nat) by omega) ?_
    refine q_inc rfl rfl rfl ?_
    refine q_goto rfl ?_
    show dw_ok (pr_X12_ground K) 145 bc bs [some (.ref 404), some (.int (x + 1))] [] (n, SH1, dw_up I 406 (221 + 97 * x).toInt.toNat (-1), J)
    rw [show (221 + 97 * x).toInt.toNat = 221 + 97 * i by omega]
    refine ih (i + 1) (x + 1) _ (by omega) (by rw [i_add (by omega) (by omega), c1]; omega) (fun a ha => (up_row ha).trans (hA a ha)) (fun j hj => ?_) (fun j g1 g2 g3 => ?_) (fun k hk6 => ?_)
    · rw [up_fld (by omega)]; exact h1 j hj
    · rw [up_fld (g3 i (by omega))]; exact h2 j g1 g2 g3
    · by_cases e : k = i
      · rw [e]; exact up_same
      · rw [up_fld (by omega)]; exact h3 k (by omega)
set_option maxRecDepth 8000 in
theorem sc_loop {n bc bs : Nat} {K : dw_K} {I0 : Nat → Nat → Int32} {J : Nat → Nat → Int64}
    (hk : ∀ (x : Int32) (I : Nat → Nat → Int32), (∀ a, a ≠ 406 → I a = I0 a) → (∀ j, j < 221 → I 406 j = I0 407 j) → (∀ j, 221 ≤ j → j < 1427 → I 406 j = 0) → dw_ok (pr_X12_ground K) 143 bc bs [some (.ref 404), some (.int x)] [] (n, SH1, I, J)) :
    ∀ (f i : Nat) (x : Int32) (I : Nat → Nat → Int32), i + f = 1427 → x.toInt = i → (∀ a, a ≠ 406 → I a = I0 a) → (∀ j, j < i → I 406 j = if j < 221 then I0 407 j else 0) → dw_ok (pr_X12_ground K) 107 bc bs [some (.ref 404), some (.int x)] [] (n, SH1, I, J) := by
  have c1 : (1 : Int32).toInt = 1 := rfl
  have c221 : (221 : Int32).toInt = 221 := rfl
  have c1427 : (1427 : Int32).toInt = 1427 := rfl
  intro f
  induction f with
  | zero =>
    intro i x I hi hx hA h1
    refine q_ild rfl rfl ?_
    refine q_ic rfl ?_
    refine q_icmp (c := 3) rfl (by decide) (fun _ => ?_) (fun h => absurd (show x.toInt < (1427 : Int32).toInt from h) (by omega))
    exact hk x I hA (fun j hj => by rw [h1 j (by omega), if_pos hj]) (fun j g1 g2 => by rw [h1 j (by omega), if_neg (by omega)])
  | succ f ih =>
    intro i x I hi hx hA h1
    have t2 : (x + 1).toInt = x.toInt + 1 := by rw [i_add (by omega) (by omega), c1]
    have hxn : x.toInt.toNat = i := by omega
    have fin : ∀ v : Int32, v = (if i < 221 then I0 407 i else 0) → dw_ok (pr_X12_ground K) 136 bc bs [some (.ref 404), some (.int x)] [.int v, .int x, .ref 406] (n, SH1, I, J) := by
      intro v hv
      refine q_iast rfl sk_406 sn_406 (by omega) (show x.toInt < (1427 : Nat) by omega) ?_
      refine q_inc rfl rfl rfl ?_
      refine q_goto rfl ?_
      show dw_ok (pr_X12_ground K) 107 bc bs [some (.ref 404), some (.int (x + 1))] [] (n, SH1, dw_up I 406 x.toInt.toNat v, J)
      rw [hxn]
      refine ih (i + 1) (x + 1) _ (by omega) (by omega) (fun a ha => (up_row ha).trans (hA a ha)) (fun j hj => ?_)
      by_cases e : j = i
      · rw [e, up_same]; exact hv
      · rw [up_fld e]; exact h1 j (by omega)
    refine q_ild rfl rfl ?_
    refine q_ic rfl ?_
    refine q_icmp (c := 3) rfl (by decide) (fun h => absurd (show (1427 : Int32).toInt ≤ x.toInt from h) (by omega)) (fun _ => ?_)
    refine q_ald rfl rfl ?_
    refine q_getr rfl sk_404 sr_404_6 ?_
    refine q_ild rfl rfl ?_
    refine q_ild rfl rfl ?_
    refine q_ic rfl ?_
    refine q_icmp (c := 3) rfl (by decide) (fun w => ?_) (fun w => ?_)
    · have w : (221 : Int32).toInt ≤ x.toInt := w
      refine q_ic rfl ?_
      exact fin 0 (by rw [if_neg (by omega)])
    · have w : x.toInt < (221 : Int32).toInt := w
      refine q_ald rfl rfl ?_
      refine q_getr rfl sk_404 sr_404_7 ?_
      refine q_ild rfl rfl ?_
      refine q_xald rfl (Or.inl rfl) sk_407 sn_407 (by omega) (show x.toInt < (221 : Nat) by omega) ?_
      refine q_goto rfl ?_
      exact fin _ (by rw [if_pos (by omega)]; show I 407 x.toInt.toNat = _; rw [hxn, hA 407 (by decide)])
set_option maxRecDepth 8000 in
/-- a fault is told: -1 less its place -/
theorem mg_bad {n bc bs : Nat} {I : Nat → Nat → Int32} {J : Nat → Nat → Int64} {K : dw_K} {x : Int32} {q : Nat} (h : (I 404 16).toInt = q) (hq : q ≤ 940) (hk : ∀ w : Int32, w.toInt = -1 - (q : Int) → K (some (.int w)) (n, SH1, I, J)) : dw_ok (pr_X12_ground K) 85 bc bs [some (.ref 404), some (.int x)] [] (n, SH1, I, J) := by
  have cm : (-1 : Int32).toInt = -1 := rfl
  refine q_ic rfl ?_
  refine q_ald rfl rfl ?_
  refine q_geti rfl sk_404 ?_
  refine q_sub rfl ?_
  exact q_iret rfl (hk _ (by show (-1 - I 404 16).toInt = _; rw [i_sub (by omega) (by omega), cm, h]))
/-- the rows that ground() leaves -/
def GMl (I0 : Nat → Nat → Int32) (J0 : Nat → Nat → Int64) (I : Nat → Nat → Int32) (J : Nat → Nat → Int64) : Prop :=
  (∀ a, a ≠ 404 → a ≠ 407 → I a = I0 a) ∧ (∀ j, mF j → j ≠ 20 → j ≠ 22 → I 404 j = I0 404 j) ∧ (∀ a, a ≠ 404 → a ≠ 409 → J a = J0 a) ∧ ∀ j, j ≠ 17 → j ≠ 18 → J 404 j = J0 404 j
set_option maxRecDepth 8000 in
theorem GL_f {I0 I I' : Nat → Nat → Int32} {J0 J J' : Nat → Nat → Int64} (h : GMl I0 J0 I J) (g : GMf I J I' J') : GMl I0 J0 I' J' :=
  ⟨fun a h1 h2 => (g.1 a h1 h2).trans (h.1 a h1 h2), fun j h1 h2 h3 => (g.2.1 j h1 h3).trans (h.2.1 j h1 h2 h3), fun a h1 h2 => (g.2.2.1 a h1 h2).trans (h.2.2.1 a h1 h2), fun j h1 h2 => (g.2.2.2 j h1 h2).trans (h.2.2.2 j h1 h2)⟩
set_option maxRecDepth 8000 in
theorem mg_loop {n bc bs : Nat} {K : dw_K} {I0 : Nat → Nat → Int32} {J0 : Nat → Nat → Int64} {b : fB} {N m : Nat} {x : Int32} {G : Nat × Nat × Nat × gS} (hJ : mRes J0) (hb0 : tbM I0 = b) (hN : (I0 404 3).toInt = N) (hN9 : N ≤ 940) (hm : (I0 404 5).toInt = m) (hpl : G.2.1 ≤ 940)
    (hok : G.1 = 0 → ∀ (I' : Nat → Nat → Int32) (J' : Nat → Nat → Int64), GMl I0 J0 I' J' → GMp I' J' I' J' G.2.2.2 → gOK N G.2.2.2 → (I' 404 20).toInt = G.2.2.1 → dw_ok (pr_X12_ground K) 105 bc bs [some (.ref 404), some (.int x)] [] (n, SH1, I', J'))
    (hno : G.1 ≠ 0 → ∀ (I' : Nat → Nat → Int32) (J' : Nat → Nat → Int64) (w : Int32), GMl I0 J0 I' J' → w.toInt = -1 - (G.2.1 : Int) → K (some (.int w)) (n, SH1, I', J')) :
    ∀ (f ln p : Nat) (s : gS) (I : Nat → Nat → Int32) (J : Nat → Nat → Int64), ln + f = 940 → ln ≤ p → ggF b N m (f + 1) ln p s = G → GMl I0 J0 I J → GMp I J I J s → gOK N s → gLet b s → (I 404 20).toInt = ln → MK b (tkF b N m p) I J → p ≤ N → dw_ok (pr_X12_ground K) 62 bc bs [some (.ref 404), some (.int x)] [] (n, SH1, I, J) := by
  have c1 : (1 : Int32).toInt = 1 := rfl
  have round : ∀ (f ln p : Nat) (s : gS) (I : Nat → Nat → Int32) (J : Nat → Nat → Int64), ln ≤ 940 → ggF b N m (f + 1) ln p s = G → GMl I0 J0 I J → GMp I J I J s → gOK N s → gLet b s → (I 404 20).toInt = ln → MK b (tkF b N m p) I J → p ≤ N →
      (∀ (p' : Nat) (s' : gS) (I' : Nat → Nat → Int32) (J' : Nat → Nat → Int64), p < p' → ggF b N m f (ln + 1) p' s' = G → GMl I0 J0 I' J' → GMp I' J' I' J' s' → gOK N s' → gLet b s' → (I' 404 20).toInt = (ln + 1 : Nat) → MK b (tkF b N m p') I' J' → p' ≤ N → dw_ok (pr_X12_ground K) 62 bc bs [some (.ref 404), some (.int x)] [] (n, SH1, I', J')) →
      dw_ok (pr_X12_ground K) 62 bc bs [some (.ref 404), some (.int x)] [] (n, SH1, I, J) := by
    intro f ln p s I J hl9 hG hL hR hOK hLet h20 hT hp next
    have e3 : I 404 3 = I0 404 3 := hL.2.1 3 (by decide) (by decide) (by decide)
    have e5 : I 404 5 = I0 404 5 := hL.2.1 5 (by decide) (by decide) (by decide)
    have hbI : tbM I = b := (tbM_eq e3 (hL.1 405 (by decide) (by decide))).trans hb0
    subst hbI
    have hNI : (I 404 3).toInt = N := by rw [e3]; exact hN
    have hmI : (I 404 5).toInt = m := by rw [e5]; exact hm
    have hJI : mRes J := mRes_eq hJ (hL.2.2.1 410 (by decide) (by decide))
    have hin := tkF_in (b := tbM I) (n := N) (m := m) (p := p) hp
    unfold ggF at hG
    refine q_ald rfl rfl ?_
    refine q_geti rfl sk_404 ?_
    refine q_if (c := 0) rfl (by decide) (fun h => ?_) (fun h => ?_)
    · have h : (I 404 11).toInt = 0 := h
      have hT0 : (tkF (tbM I) N m p).1 = 0 := by have := hT.1; omega
      rw [if_pos hT0] at hG
      rw [← hG] at hok
      exact hok rfl I J hL hR hOK h20
    have h : (I 404 11).toInt ≠ 0 := h
    have hT0 : ¬ (tkF (tbM I) N m p).1 = 0 := by have := hT.1; omega
    rw [if_neg hT0] at hG
    refine q_ald rfl rfl ?_
    refine q_callV (as := []) (rest := []) rfl rfl sk_404 rfl (Nat.le_of_ble_eq_true rfl) ?_
    refine v_mgline (I0 := I) (J0 := J) hR hOK hLet hJI hNI hN9 hmI hT hin.2.2.1 rfl hp (fun T' p' s' I' J' eG hTe hp' hadv hM hR' hO' hL' => ?_) (fun hr I' J' hF g15 g16 => ?_)
    rotate_left
    · show dw_ok (pr_X12_ground K) 73 bc bs [some (.ref 404), some (.int x)] [.int 0] (n, SH1, I', J')
      rw [if_neg hr] at hG
      rw [← hG] at hno hpl
      refine q_if (c := 0) rfl (by decide) (fun _ => ?_) (fun h => absurd rfl h)
      exact mg_bad g16 hpl (fun w hw => hno hr I' J' w (GL_f hL hF) hw)
    show dw_ok (pr_X12_ground K) 73 bc bs [some (.ref 404), some (.int x)] [.int 1] (n, SH1, I', J')
    have hin' := tkF_in (b := tbM I) (n := N) (m := m) (p := p') hp'
    rw [← hTe] at hin'
    obtain ⟨e1, e2, e4⟩ := gmV.2 I' J' hR'
    have hb' : tbM I' = tbM I := tbM_eq e1 e4
    have h20' : (I' 404 20).toInt = ln := by rw [hR'.1.2.1 20 (by decide) (by decide)]; exact h20
    have hk1 : (gkF (tbM I) N m (tkF (tbM I) N m p) s).1 = 0 → (tkF (tbM I) N m p).1 = 1 := gk_kind
    rw [eG] at hG hk1
    refine q_if (c := 0) rfl (by decide) (fun h => absurd (show (1 : Int32).toInt = 0 from h) (by decide)) (fun _ => ?_)
    refine q_ald rfl rfl ?_
    refine q_ic rfl ?_
    refine q_callV (as := [.int 59]) (rest := []) rfl rfl sk_404 rfl (Nat.le_of_ble_eq_true rfl) ?_
    refine v_sign (b := tbM I) (T := T') (N := N) (m := m) (by rw [e1]; exact hNI) hN9 (by rw [e2]; exact hmI) hb' hM hin'.2.2.1 (fun h3 I2 J2 hA hF hJa hJf hM2 => ?_) (fun h3 => ?_)
    · have eS : stG T' (fun p => (0, 0, p, s')) = (0, 0, T'.2.2.1, s') := if_pos h3
      rw [eS] at hG hk1
      have hw := hk1 rfl
      have hG : ggF (tbM I) N m f (ln + 1) T'.2.2.1 s' = G := hG
      have hR2 : GMp I J I2 J2 s' := GM_tok hR' hA (fun j hj => hF j hj.1 hj.2.1 hj.2.2.1 hj.2.2.2.1 hj.2.2.2.2.1) hJa hJf
      have h202 : (I2 404 20).toInt = ln := by rw [hF 20 (by decide) (by decide) (by decide) (by decide) (by decide)]; exact h20'
      have t20 : (I2 404 20 + 1).toInt = (ln + 1 : Nat) := by rw [i_add (by omega) (by omega), c1, h202]; omega
      show dw_ok (pr_X12_ground K) 82 bc bs [some (.ref 404), some (.int x)] [.int 1] (n, SH1, I2, J2)
      refine q_if (c := 1) rfl (by decide) (fun _ => ?_) (fun h => absurd (show (1 : Int32).toInt = 0 from h) (by decide))
      refine q_ald rfl rfl ?_
      refine q_dup rfl ?_
      refine q_geti rfl sk_404 ?_
      refine q_ic rfl ?_
      refine q_add rfl ?_
      refine q_puti rfl sk_404 ?_
      refine q_goto rfl ?_
      have hL2 := GL_f hL hR2.1
      have hpp := (hin.2.2.2 (Or.inl hw)).1
      exact next T'.2.2.1 s' (dw_up I2 404 20 (I2 404 20 + 1)) J2 (by omega) hG ⟨fun a h1 h2 => (up_row h1).trans (hL2.1 a h1 h2), fun j h1 h2 h3 => (up_fld h2).trans (hL2.2.1 j h1 h2 h3), hL2.2.2.1, hL2.2.2.2⟩ (GM_20 (GM_self hR2)) hO' hL' (by rw [up_same]; exact t20) (MK_20 hM2) hin'.2.2.1
    · have eS : stG T' (fun p => (0, 0, p, s')) = (1, T'.2.1, 0, g0) := if_neg h3
      rw [eS] at hG
      have hG : (1, T'.2.1, 0, g0) = G := hG
      show dw_ok (pr_X12_ground K) 82 bc bs [some (.ref 404), some (.int x)] [.int 0] (n, SH1, dw_up (dw_up I' 404 15 1) 404 16 (I' 404 12), J')
      refine q_if (c := 1) rfl (by decide) (fun h => absurd rfl h) (fun _ => ?_)
      have hL2 := GL_f hL hR'.1
      rw [← hG] at hno hpl
      exact mg_bad (q := T'.2.1) hM.2.1 hpl (fun w hw => hno (nn rfl) _ _ w ⟨fun a h1 h2 => (up_row h1).trans ((up_row h1).trans (hL2.1 a h1 h2)), fun j h1 h2 h3 => (up_fld h1.2.2.2.2.2.2.1).trans ((up_fld h1.2.2.2.2.2.1).trans (hL2.2.1 j h1 h2 h3)), hL2.2.2.1, hL2.2.2.2⟩ hw)
  intro f
  induction f with
  | zero =>
    intro ln p s I J hf hlp hG hL hR hOK hLet h20 hT hp
    refine round 0 ln p s I J (by omega) hG hL hR hOK hLet h20 hT hp (fun p' s' I' J' hp' _ _ _ _ _ _ _ hle => ?_)
    omega
  | succ f ih =>
    intro ln p s I J hf hlp hG hL hR hOK hLet h20 hT hp
    exact round (f + 1) ln p s I J (by omega) hG hL hR hOK hLet h20 hT hp (fun p' s' I' J' hp' hG' a1 a2 a3 a4 a5 a6 hle => ih (ln + 1) p' s' I' J' (by omega) (by omega) hG' a1 a2 a3 a4 a5 a6 hle)
/-- a line's places lie on the tape -/
abbrev gB (N : Nat) (r : gR) : Prop := r.2.1 ≤ N ∧ r.2.2.1 ≤ N
set_option maxRecDepth 8000 in
theorem nbG_b {t : fT} {lo hi : Int} {k : Int32 → Nat → gR} {N : Nat} (h1 : t.2.1 ≤ N) (h2 : ∀ v, gB N (k v t.2.2.1)) : gB N (nbG t lo hi k) := by
  unfold nbG
  by_cases c : nbF t lo hi = 0
  · rw [if_pos c]; exact h2 _
  · rw [if_neg c]; exact ⟨h1, Nat.zero_le _⟩
set_option maxRecDepth 8000 in
theorem stG_b {t : fT} {k : Nat → gR} {N : Nat} (h1 : t.2.1 ≤ N) (h2 : gB N (k t.2.2.1)) : gB N (stG t k) := by
  unfold stG
  by_cases c : t.1 = 3
  · rw [if_pos c]; exact h2
  · rw [if_neg c]; exact ⟨h1, Nat.zero_le _⟩
set_option maxRecDepth 8000 in
theorem gkF_b {b : fB} {N m : Nat} {T : fT} {s : gS} (hT : T.2.1 ≤ N) (hTN : T.2.2.1 ≤ N) : gB N (gkF b N m T s) := by
  have tk : ∀ {p : Nat}, p ≤ N → (tkF b N m p).2.1 ≤ N ∧ (tkF b N m p).2.2.1 ≤ N := fun hp => ⟨(tkF_in hp).1, (tkF_in hp).2.2.1⟩
  have i1 := tk hTN
  unfold gkF
  by_cases c1 : sayF b T (dw_sb 0)
  · rw [if_pos c1]
    unfold gkA
    by_cases d1 : 0 < s.2.2.1.length
    · rw [if_pos d1]; exact ⟨hT, Nat.zero_le _⟩
    rw [if_neg d1]
    by_cases d2 : 8 ≤ s.1.length
    · rw [if_pos d2]; exact ⟨hT, Nat.zero_le _⟩
    rw [if_neg d2]
    by_cases d3 : (tkF b N m T.2.2.1).1 ≠ 1
    · rw [if_pos d3]; exact ⟨i1.1, Nat.zero_le _⟩
    rw [if_neg d3]
    by_cases d4 : tdF b (tkF b N m T.2.2.1)
    · rw [if_pos d4]; exact ⟨i1.1, Nat.zero_le _⟩
    rw [if_neg d4]
    by_cases d5 : nmF b (tkF b N m T.2.2.1) s.1
    · rw [if_pos d5]; exact ⟨i1.1, Nat.zero_le _⟩
    rw [if_neg d5]
    have i2 := tk i1.2
    have i3 := tk i2.2
    have i4 := tk i3.2
    refine nbG_b i2.1 (fun v1 => nbG_b i3.1 (fun v2 => ?_))
    by_cases d6 : sayF b (tkF b N m (tkF b N m (tkF b N m (tkF b N m T.2.2.1).2.2.1).2.2.1).2.2.1) (dw_sb 14)
    · rw [if_pos d6]
      have i5 := tk i4.2
      have i6 := tk i5.2
      exact nbG_b i5.1 (fun v3 => stG_b i6.1 ⟨Nat.zero_le _, i6.2⟩)
    · rw [if_neg d6]
      exact stG_b i4.1 ⟨Nat.zero_le _, i4.2⟩
  rw [if_neg c1]
  by_cases c2 : sayF b T (dw_sb 15)
  · rw [if_pos c2]
    unfold gkR
    by_cases d1 : 12 ≤ s.2.2.1.length
    · rw [if_pos d1]; exact ⟨hT, Nat.zero_le _⟩
    rw [if_neg d1]
    by_cases d2 : (tkF b N m T.2.2.1).1 ≠ 1
    · rw [if_pos d2]; exact ⟨i1.1, Nat.zero_le _⟩
    rw [if_neg d2]
    by_cases d3 : 0 < s.2.2.1.length ∧ (tkF b N m T.2.2.1).2.2.1 ≠ (tkF b N m T.2.2.1).2.1 + s.2.1
    · rw [if_pos d3]; exact ⟨i1.1, Nat.zero_le _⟩
    rw [if_neg d3]
    by_cases d4 : ¬ lrF b (tkF b N m T.2.2.1).2.1 ((tkF b N m T.2.2.1).2.2.1 - (tkF b N m T.2.2.1).2.1) s.1.length
    · rw [if_pos d4]; exact ⟨i1.1, Nat.zero_le _⟩
    rw [if_neg d4]
    have i2 := tk i1.2
    exact stG_b i2.1 ⟨Nat.zero_le _, i2.2⟩
  rw [if_neg c2]
  by_cases c3 : sayF b T (dw_sb 16)
  · rw [if_pos c3]
    unfold gkS
    by_cases d1 : 12 ≤ s.2.2.2.1.length
    · rw [if_pos d1]; exact ⟨hT, Nat.zero_le _⟩
    rw [if_neg d1]
    have i2 := tk i1.2
    have i3 := tk i2.2
    have i4 := tk i3.2
    have i5 := tk i4.2
    exact nbG_b i1.1 (fun v1 => nbG_b i2.1 (fun v2 => nbG_b i3.1 (fun v3 => nbG_b i4.1 (fun v4 => stG_b i5.1 ⟨Nat.zero_le _, i5.2⟩))))
  rw [if_neg c3]
  by_cases c4 : sayF b T (dw_sb 17)
  · rw [if_pos c4]
    unfold gkW
    by_cases d1 : s.2.2.2.2 ≠ none
    · rw [if_pos d1]; exact ⟨hT, Nat.zero_le _⟩
    rw [if_neg d1]
    have i2 := tk i1.2
    exact nbG_b i1.1 (fun v1 => stG_b i2.1 ⟨Nat.zero_le _, i2.2⟩)
  rw [if_neg c4]
  exact ⟨hT, Nat.zero_le _⟩
set_option maxRecDepth 8000 in
theorem pl_gg {b : fB} {N m : Nat} : ∀ (f ln p : Nat) (s : gS), p ≤ N → (ggF b N m f ln p s).2.1 ≤ N
  | 0, _, _, _, _ => Nat.zero_le _
  | f + 1, ln, p, s, hp => by
    have i1 := tkF_in (b := b) (n := N) (m := m) (p := p) hp
    have g := gkF_b (b := b) (m := m) (T := tkF b N m p) (s := s) i1.1 i1.2.2.1
    unfold ggF
    by_cases c : (tkF b N m p).1 = 0
    · rw [if_pos c]; exact Nat.zero_le _
    rw [if_neg c]
    by_cases d : (gkF b N m (tkF b N m p) s).1 = 0
    · rw [if_pos d]; exact pl_gg f _ _ _ g.2
    · rw [if_neg d]; exact g.1
set_option maxRecDepth 8000 in
theorem v_mground {n : Nat} {I : Nat → Nat → Int32} {J : Nat → Nat → Int64} {K : dw_K} {N : Nat} {G : Nat × Nat × Nat × gS} (hJ : mRes J) (hN : (I 404 2).toInt = N) (hN9 : N ≤ 940) (hG : ggF (tbL I) N 900 941 0 0 g0 = G)
    (h1 : G.1 = 0 → ∀ (I3 I' : Nat → Nat → Int32) (J' : Nat → Nat → Int64) (w : Int32), GMp I3 J' I3 J' G.2.2.2 → tbM I3 = tbL I → gOK N G.2.2.2 → GTk I3 I' (I3 407) → (∀ a, a ≠ 404 → a ≠ 406 → a ≠ 407 → I' a = I a) → (∀ j, 23 ≤ j → I' 404 j = I 404 j) → I' 404 2 = 0 → (∀ a, a ≠ 404 → a ≠ 409 → J' a = J a) → w.toInt = G.2.2.1 → K (some (.int w)) (n, SH1, I', J'))
    (h2 : G.1 ≠ 0 → ∀ (I' : Nat → Nat → Int32) (J' : Nat → Nat → Int64) (w : Int32), (∀ a, a ≠ 404 → a ≠ 407 → I' a = I a) → (∀ j, 23 ≤ j → I' 404 j = I 404 j) → I' 404 2 = 0 → (∀ a, a ≠ 404 → a ≠ 409 → J' a = J a) → w.toInt = -1 - (G.2.1 : Int) → K (some (.int w)) (n, SH1, I', J')) : t_X12_ground [.ref 404] (n, SH1, I, J) K := by
  have c0 : (0 : Int32).toInt = 0 := rfl
  have hpl : G.2.1 ≤ 940 := by rw [← hG]; exact Nat.le_trans (pl_gg 941 0 0 g0 (Nat.zero_le _)) hN9
  refine q_body (Nat.le_of_ble_eq_true rfl) ?_
  refine q_ald rfl rfl ?_
  refine q_ic rfl ?_
  refine q_puti rfl sk_404 ?_
  refine q_ald rfl rfl ?_
  refine q_ic rfl ?_
  refine q_callV (as := [.int 900]) (rest := []) rfl rfl sk_404 rfl (Nat.le_of_ble_eq_true rfl) ?_
  refine v_taken (I := dw_up I 404 0 0) ?_
  refine q_ald rfl rfl ?_
  refine q_ic rfl ?_
  refine q_puti rfl sk_404 ?_
  refine q_ald rfl rfl ?_
  refine q_ic rfl ?_
  refine q_puti rfl sk_404 ?_
  refine q_ald rfl rfl ?_
  refine q_ic rfl ?_
  refine q_putz rfl sk_404 (Or.inl rfl) ?_
  refine q_ic rfl ?_
  refine q_ist rfl rfl ?_
  obtain ⟨I2, hI2⟩ : ∃ X, X = dw_up (dw_up (dw_up (dw_up (dw_up (dw_up (dw_up (dw_up I 404 0 0) 404 3 (dw_up I 404 0 0 404 2)) 404 2 0) 404 4 0) 404 5 900) 404 15 0) 404 20 0) 404 22 0 := ⟨_, rfl⟩
  show dw_ok (pr_X12_ground K) 29 0 0 [some (.ref 404), some (.int 0)] [] (n, SH1, dw_up (dw_up (dw_up (dw_up (dw_up (dw_up (dw_up (dw_up I 404 0 0) 404 3 (dw_up I 404 0 0 404 2)) 404 2 0) 404 4 0) 404 5 900) 404 15 0) 404 20 0) 404 22 0, J)
  rw [← hI2]
  have hA2 : ∀ a, a ≠ 404 → I2 a = I a := fun a h => by rw [hI2]; funext j; simp [dw_up, h]
  have hF2 : ∀ j, 23 ≤ j → I2 404 j = I 404 j := fun j h => by
    rw [hI2]
    simp [dw_up, show j ≠ 22 by omega, show j ≠ 20 by omega, show j ≠ 15 by omega, show j ≠ 5 by omega, show j ≠ 4 by omega, show j ≠ 2 by omega, show j ≠ 3 by omega, show j ≠ 0 by omega]
  have f2 : I2 404 2 = 0 := by rw [hI2]; rfl
  have f3 : I2 404 3 = I 404 2 := by rw [hI2]; rfl
  have f4 : I2 404 4 = 0 := by rw [hI2]; rfl
  have f5 : I2 404 5 = 900 := by rw [hI2]; rfl
  have f20 : I2 404 20 = 0 := by rw [hI2]; rfl
  have f22 : I2 404 22 = 0 := by rw [hI2]; rfl
  refine hz_loop (I0 := I2) (fun x I3 hA3 hz3 => ?_) 221 0 0 I2 rfl rfl (fun _ _ => rfl) (fun j hj => absurd hj (Nat.not_lt_zero j))
  refine q_ald rfl rfl ?_
  refine q_getr rfl sk_404 sr_404_7 ?_
  refine q_ic rfl ?_
  refine q_ic rfl ?_
  refine q_iast rfl sk_407 sn_407 (by decide) (by decide) ?_
  show dw_ok (pr_X12_ground K) 58 0 0 [some (.ref 404), some (.int x)] [] (n, SH1, dw_up I3 407 4 500, J)
  have hA4 : ∀ a, a ≠ 407 → dw_up I3 407 4 500 a = I2 a := fun a ha => (up_row ha).trans (hA3 a ha)
  have hz4 : ∀ j, j < 221 → j ≠ 4 → dw_up I3 407 4 500 407 j = 0 := fun j hj h4 => (up_fld h4).trans (hz3 j hj)
  have hz5 : dw_up I3 407 4 500 407 4 = 500 := up_same
  generalize dw_up I3 407 4 500 = I4 at hA4 hz4 hz5 ⊢
  have e404 : I4 404 = I2 404 := hA4 404 (by decide)
  have hb4 : tbM I4 = tbL I := by
    funext k
    unfold tbM tbL
    rw [e404, f3, hA4 405 (by decide), hA2 405 (by decide)]
  have hR4 : GMp I4 J I4 J g0 := by
    refine ⟨⟨fun _ _ _ => rfl, fun _ _ _ => rfl, fun _ _ _ => rfl, fun _ _ _ => rfl⟩, ⟨?_, ?_, ?_, ?_, ?_⟩, ?_, fun i hi => absurd hi (Nat.not_lt_zero i), fun i hi => absurd hi (Nat.not_lt_zero i), fun y hy => absurd hy (Nat.not_lt_zero y), fun i hi => absurd hi (Nat.not_lt_zero i)⟩
    · rw [hz4 0 (by decide) (by decide)]; rfl
    · rw [hz4 1 (by decide) (by decide)]; rfl
    · rw [hz4 2 (by decide) (by decide)]; rfl
    · rw [hz4 3 (by decide) (by decide)]; rfl
    · rw [hz5]; rfl
    · rw [e404, f22]; rfl
  have hOK0 : gOK N g0 := ⟨Nat.zero_le _, Nat.zero_le _, Nat.zero_le _, Nat.zero_le _, fun x hx => absurd hx List.not_mem_nil, fun x hx => absurd hx List.not_mem_nil⟩
  have hL0 : gLet (tbL I) g0 := fun x hx => absurd hx List.not_mem_nil
  have h4N : (I4 404 3).toInt = N := by rw [e404, f3]; exact hN
  have h4m : (I4 404 5).toInt = 900 := by rw [e404, f5]; rfl
  refine q_ald rfl rfl ?_
  refine mn_step (p := 0) rfl gmV hR4 h4N hN9 (m := 900) h4m (Nat.zero_le _) (by rw [e404, f4]; rfl) (fun I5 J5 hR5 hM5 => ?_)
  rw [hb4] at hM5
  obtain ⟨g1, g2, g3⟩ := gmV.2 I5 J5 hR5
  have hb5 : tbM I5 = tbL I := (tbM_eq g1 g3).trans hb4
  have h520 : (I5 404 20).toInt = (0 : Nat) := by rw [hR5.1.2.1 20 (by decide) (by decide), e404, f20]; rfl
  have fr5 : ∀ a, a ≠ 404 → a ≠ 407 → I5 a = I a := fun a a1 a2 => (hR5.1.1 a a1 a2).trans ((hA4 a a2).trans (hA2 a a1))
  have ff5 : ∀ j, 23 ≤ j → I5 404 j = I 404 j := fun j hj => by rw [hR5.1.2.1 j ⟨by omega, by omega, by omega, by omega, by omega, by omega, by omega, by omega⟩ (by omega), e404]; exact hF2 j hj
  have f52 : I5 404 2 = 0 := by rw [hR5.1.2.1 2 (by decide) (by decide), e404]; exact f2
  have fJ5 : ∀ a, a ≠ 404 → a ≠ 409 → J5 a = J a := fun a a1 a2 => hR5.1.2.2.1 a a1 a2
  have hL5 : GMl I5 J5 I5 J5 := ⟨fun _ _ _ => rfl, fun _ _ _ _ => rfl, fun _ _ _ => rfl, fun _ _ _ => rfl⟩
  refine mg_loop (I0 := I5) (J0 := J5) (G := G) (m := 900) (mRes_eq hJ (fJ5 410 (by decide) (by decide))) hb5 (by rw [g1]; exact h4N) hN9 (by rw [g2]; exact h4m) hpl (fun hg I6 J6 hL6 hR6 hO6 h620 => ?_) (fun hg I6 J6 w hL6 hw => ?_) 940 0 0 g0 I5 J5 rfl (Nat.le_refl _) hG hL5 (GM_self hR5) hOK0 hL0 h520 hM5 (Nat.zero_le _)
  · have e3 : I6 404 3 = I5 404 3 := hL6.2.1 3 (by decide) (by decide) (by decide)
    have hb6 : tbM I6 = tbL I := (tbM_eq e3 (hL6.1 405 (by decide) (by decide))).trans hb5
    refine q_ic rfl ?_
    refine q_ist rfl rfl ?_
    show dw_ok (pr_X12_ground K) 107 0 0 [some (.ref 404), some (.int 0)] [] (n, SH1, I6, J6)
    refine sc_loop (I0 := I6) (fun x I7 hA7 b1 b2 => ?_) 1427 0 0 I6 rfl rfl (fun _ _ => rfl) (fun j hj => absurd hj (Nat.not_lt_zero j))
    refine q_ic rfl ?_
    refine q_ist rfl rfl ?_
    show dw_ok (pr_X12_ground K) 145 0 0 [some (.ref 404), some (.int 0)] [] (n, SH1, I7, J6)
    refine sn_loop (I0 := I6) (h := I6 407) (fun I8 hG8 => ?_) 6 0 0 I7 rfl rfl hA7 b1 (fun j j1 j2 _ => b2 j j1 j2) (fun k hk => absurd hk (Nat.not_lt_zero k))
    refine h1 hg I6 I8 J6 (I6 404 20) hR6 hb6 hO6 hG8 (fun a a1 a2 a3 => ?_) (fun j hj => ?_) ?_ (fun a a1 a2 => (hL6.2.2.1 a a1 a2).trans (fJ5 a a1 a2)) h620
    · rw [hG8.1 a a2, hL6.1 a a1 a3]; exact fr5 a a1 a3
    · rw [hG8.1 404 (by decide), hL6.2.1 j ⟨by omega, by omega, by omega, by omega, by omega, by omega, by omega, by omega⟩ (by omega) (by omega)]; exact ff5 j hj
    · rw [hG8.1 404 (by decide), hL6.2.1 2 (by decide) (by decide) (by decide)]; exact f52
  · refine h2 hg I6 J6 w (fun a a1 a2 => (hL6.1 a a1 a2).trans (fr5 a a1 a2)) (fun j hj => ?_) ?_ (fun a a1 a2 => (hL6.2.2.1 a a1 a2).trans (fJ5 a a1 a2)) hw
    · rw [hL6.2.1 j ⟨by omega, by omega, by omega, by omega, by omega, by omega, by omega, by omega⟩ (by omega) (by omega)]; exact ff5 j hj
    · rw [hL6.2.1 2 (by decide) (by decide) (by decide)]; exact f52
