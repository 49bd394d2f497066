/-! ===== a NIGHT's text, purely ===== -/
/-- a line: 0 cloud, 1 wind, 2 air, 3 sun; T; its numbers -/
abbrev fL : Type := Nat × Int32 × Int32 × Int32
/-- a fault's kind (0: none), its place, the next place, the line -/
abbrev fR : Type := Nat × Nat × Nat × fL
def wkF (b : fB) (T : fT) : Nat := if sayF b T (dw_sb 18) then 0 else if sayF b T (dw_sb 19) then 1 else if sayF b T (dw_sb 20) then 2 else if sayF b T (dw_sb 21) then 3 else 9
def moF (k : Nat) : Int := if k = 0 then 100 else if k = 1 then 9 else 40
def nbK (t : fT) (lo hi : Int) (k : Int32 → Nat → fR) : fR := if nbF t lo hi = 0 then k t.2.2.2 t.2.2.1 else (nbF t lo hi, t.2.1, 0, 0, 0, 0, 0)
def stK (t : fT) (k : Nat → fR) : fR := if t.1 = 3 then k t.2.2.1 else (1, t.2.1, 0, 0, 0, 0, 0)
def nlF (b : fB) (N m ln : Nat) (lat : Int32) (T : fT) : fR :=
  if wkF b T = 9 then (1, T.2.1, 0, 0, 0, 0, 0)
  else if 24 ≤ ln then (4, T.2.1, 0, 0, 0, 0, 0)
  else nbK (tkF b N m T.2.2.1) lat.toInt 143 (fun v1 p1 =>
    if wkF b T = 3 then stK (tkF b N m p1) (fun p2 => (0, 0, p2, 3, v1, 0, 0))
    else nbK (tkF b N m p1) 0 (moF (wkF b T)) (fun v2 p2 =>
      if wkF b T = 2 then nbK (tkF b N m p2) 0 40 (fun v3 p3 => stK (tkF b N m p3) (fun p4 => (0, 0, p4, 2, v1, v2, v3)))
      else stK (tkF b N m p2) (fun p3 => (0, 0, p3, wkF b T, v1, v2, 0))))
/-- a text: a fault's kind, its place, how many lines, the lines (the latest first) -/
def ngF (b : fB) (N m : Nat) : Nat → Nat → Int32 → Nat → List fL → Nat × Nat × Nat × List fL
  | 0, _, _, _, _ => (9, 0, 0, [])
  | f + 1, ln, lat, p, L =>
    if (tkF b N m p).1 = 0 then (0, 0, ln, L)
    else if (nlF b N m ln lat (tkF b N m p)).1 = 0 then ngF b N m f (ln + 1) (nlF b N m ln lat (tkF b N m p)).2.2.2.2.1 (nlF b N m ln lat (tkF b N m p)).2.2.1 ((nlF b N m ln lat (tkF b N m p)).2.2.2 :: L)
    else ((nlF b N m ln lat (tkF b N m p)).1, (nlF b N m ln lat (tkF b N m p)).2.1, 0, [])
/-- what the lines tell of each step: what, from when on, how much (the latest first) -/
def udF (l : fL) : List (Nat × Nat × Int32) :=
  if l.1 = 3 then [(4, l.2.1.toInt.toNat, 1)] else if l.1 = 2 then [(3, l.2.1.toInt.toNat, l.2.2.2), (2, l.2.1.toInt.toNat, l.2.2.1)] else [(l.1, l.2.1.toInt.toNat, l.2.2.1)]
def uaF : List fL → List (Nat × Nat × Int32)
  | [] => [(4, 0, 0), (3, 0, 8), (2, 0, 10), (1, 0, 0), (0, 0, 0)]
  | l :: r => udF l ++ uaF r
def ndF : List (Nat × Nat × Int32) → Nat → Nat → Int32
  | [], _, _ => 0
  | u :: r, w, t => if w = u.1 ∧ u.2.1 ≤ t then u.2.2 else ndF r w t
/-- the class's reader of a NIGHT, going on -/
def NRp (I0 I : Nat → Nat → Int32) (lat : Int32) (U : List (Nat × Nat × Int32)) : Prop :=
  (∀ a, a ≠ 1 → a ≠ 123 → (a < 126 ∨ 130 < a) → I a = I0 a) ∧ (∀ j, j < 3 → I 1 j = I0 1 j) ∧ I 123 1 = lat ∧ ∀ w, w < 5 → ∀ t, t < 144 → I (126 + w) t = ndF U w t
set_option maxRecDepth 8000 in
theorem NR_tape {I0 I I1 : Nat → Nat → Int32} {lat : Int32} {U : List (Nat × Nat × Int32)} (h : NRp I0 I lat U) (hA : ∀ a, a ≠ 1 → I1 a = I a) (hF : ∀ j, j < 3 → I1 1 j = I 1 j) : NRp I0 I1 lat U := by
  refine ⟨fun a h1 h2 h3 => (hA a h1).trans (h.1 a h1 h2 h3), fun j hj => (hF j hj).trans (h.2.1 j hj), ?_, fun w hw t ht => ?_⟩
  · rw [hA 123 (by decide)]; exact h.2.2.1
  · rw [hA (126 + w) (by omega)]; exact h.2.2.2 w hw t ht
set_option maxRecDepth 8000 in
theorem NR_lat {I0 I : Nat → Nat → Int32} {lat v : Int32} {U : List (Nat × Nat × Int32)} (h : NRp I0 I lat U) : NRp I0 (dw_up I 123 1 v) v U := by
  refine ⟨fun a h1 h2 h3 => (up_row h2).trans (h.1 a h1 h2 h3), fun j hj => ?_, up_same, fun w hw t ht => ?_⟩
  · rw [up_row (by decide)]; exact h.2.1 j hj
  · rw [up_row (by omega)]; exact h.2.2.2 w hw t ht
set_option maxRecDepth 8000 in
theorem NR_set {I0 I I1 : Nat → Nat → Int32} {lat v : Int32} {U : List (Nat × Nat × Int32)} {w t0 : Nat} (h : NRp I0 I lat U) (hw : w < 5) (hA : ∀ a, a ≠ 126 + w → I1 a = I a) (hB : ∀ j, I1 (126 + w) j = if t0 ≤ j ∧ j < 144 then v else I (126 + w) j) : NRp I0 I1 lat ((w, t0, v) :: U) := by
  refine ⟨fun a h1 h2 h3 => (hA a (by omega)).trans (h.1 a h1 h2 h3), fun j hj => ?_, ?_, fun w' hw' t ht => ?_⟩
  · rw [hA 1 (by omega)]; exact h.2.1 j hj
  · rw [hA 123 (by omega)]; exact h.2.2.1
  · unfold ndF
    by_cases e : w' = w
    · subst e
      rw [hB t]
      by_cases g : t0 ≤ t
      · rw [if_pos ⟨g, ht⟩, if_pos ⟨rfl, g⟩]
      · rw [if_neg (fun q => g q.1), if_neg (fun q => g q.2)]; exact h.2.2.2 w' hw' t ht
    · rw [hA (126 + w') (by omega), if_neg (fun q => e q.1)]; exact h.2.2.2 w' hw' t ht
set_option maxRecDepth 8000 in
/-- the class's NIGHT being read: the table of an array of it -/
theorem nt_ref {w : Nat} (hw : w < 5) : (SH1 125).2.2 w = some (126 + w) ∧ (SH1 (126 + w)).1 = 16 ∧ (SH1 (126 + w)).2.1 = 144 := by
  match w, hw with
  | 0, _ => exact ⟨sr_125_0, sk_126, sn_126⟩
  | 1, _ => exact ⟨sr_125_1, sk_127, sn_127⟩
  | 2, _ => exact ⟨sr_125_2, sk_128, sn_128⟩
  | 3, _ => exact ⟨sr_125_3, sk_129, sn_129⟩
  | 4, _ => exact ⟨sr_125_4, sk_130, sn_130⟩
  | k + 5, h => exact absurd h (by omega)
set_option maxRecDepth 8000 in
theorem ns_loop {n : Nat} {J : Nat → Nat → Int64} {K : dw_K} {bc bs w t0 : Nat} {I0 : Nat → Nat → Int32} {x t v : Int32} (hw : w < 5) (hx : x.toInt = w)
    (hk : ∀ I' : Nat → Nat → Int32, (∀ a, a ≠ 126 + w → I' a = I0 a) → (∀ j, I' (126 + w) j = if t0 ≤ j ∧ j < 144 then v else I0 (126 + w) j) → K none (n, SH1, I', J)) :
    ∀ (f k : Nat) (y : Int32) (I : Nat → Nat → Int32), t0 + k ≤ 144 → 144 - (t0 + k) ≤ f → y.toInt = (t0 + k : Nat) → (∀ a, a ≠ 126 + w → I a = I0 a) → (∀ j, I (126 + w) j = if t0 ≤ j ∧ j < t0 + k then v else I0 (126 + w) j) → dw_ok (pr_X2_set K) 7 bc bs [some (.ref 124), some (.int x), some (.int t), some (.int v), some (.int y)] [] (n, SH1, I, J) := by
  obtain ⟨r1, r2, r3⟩ := nt_ref hw
  have c144 : (144 : Int32).toInt = 144 := rfl
  have c5 : (5 : Int32).toInt = 5 := rfl
  have c1 : (1 : Int32).toInt = 1 := rfl
  have hxn : x.toInt.toNat = w := by omega
  intro f
  induction f with
  | zero =>
    intro k y I hk1 hf hy hA hB
    refine q_ild rfl rfl ?_
    refine q_ic rfl ?_
    refine q_icmp (c := 3) rfl (by decide) (fun _ => ?_) (fun h => absurd (show y.toInt < (144 : Int32).toInt from h) (by omega))
    exact q_vret rfl (hk I hA (fun j => by rw [hB j, show t0 + k = 144 by omega]))
  | succ f ih =>
    intro k y I hk1 hf hy hA hB
    refine q_ild rfl rfl ?_
    refine q_ic rfl ?_
    refine q_icmp (c := 3) rfl (by decide) (fun h => ?_) (fun h => ?_)
    · have h : (144 : Int32).toInt ≤ y.toInt := h
      exact q_vret rfl (hk I hA (fun j => by rw [hB j, show t0 + k = 144 by omega]))
    have h : y.toInt < (144 : Int32).toInt := h
    have ty : (y + 1).toInt = y.toInt + 1 := by rw [i_add (by omega) (by omega), c1]
    refine q_ild rfl rfl ?_
    refine q_if (c := 2) rfl (by decide) (fun g => absurd (show x.toInt < 0 from g) (by omega)) (fun _ => ?_)
    refine q_ild rfl rfl ?_
    refine q_ic rfl ?_
    refine q_icmp (c := 3) rfl (by decide) (fun g => absurd (show (5 : Int32).toInt ≤ x.toInt from g) (by omega)) (fun _ => ?_)
    refine q_ald rfl rfl ?_
    refine q_getr rfl sk_124 sr_124_1 ?_
    refine q_ild rfl rfl ?_
    refine q_xaldr rfl sk_125 sn_125 (by omega) (show x.toInt < (5 : Nat) by omega) (show (SH1 125).2.2 x.toInt.toNat = some (126 + w) by rw [hxn]; exact r1) ?_
    refine q_ild rfl rfl ?_
    refine q_ild rfl rfl ?_
    refine q_iast rfl r2 r3 (by omega) (by omega) ?_
    refine q_inc rfl rfl rfl ?_
    refine q_goto rfl ?_
    have hyn : y.toInt.toNat = t0 + k := by omega
    refine ih (k + 1) (y + 1) (dw_up I (126 + w) y.toInt.toNat v) (by omega) (by omega) (by omega) (fun a ha => (up_row ha).trans (hA a ha)) (fun j => ?_)
    by_cases e : j = t0 + k
    · rw [if_pos (by omega), hyn, e]; exact up_same
    · rw [up_fld (by omega), hB j]
      by_cases g : t0 ≤ j ∧ j < t0 + k
      · rw [if_pos g, if_pos (by omega)]
      · rw [if_neg g, if_neg (by omega)]
set_option maxRecDepth 8000 in
theorem v_nset {n : Nat} {I : Nat → Nat → Int32} {J : Nat → Nat → Int64} {K : dw_K} {w t0 : Nat} {x t v : Int32} (hw : w < 5) (hx : x.toInt = w) (ht : t.toInt = t0) (ht9 : t0 ≤ 143)
    (hk : ∀ I' : Nat → Nat → Int32, (∀ a, a ≠ 126 + w → I' a = I a) → (∀ j, I' (126 + w) j = if t0 ≤ j ∧ j < 144 then v else I (126 + w) j) → K none (n, SH1, I', J)) : t_X2_set [.ref 124, .int x, .int t, .int v] (n, SH1, I, J) K := by
  refine q_body (Nat.le_of_ble_eq_true rfl) ?_
  refine q_ic rfl ?_
  refine q_ild rfl rfl ?_
  refine q_max rfl rfl ?_
  refine q_ist rfl rfl ?_
  have e : (fi_max 0 t).toInt = t.toInt := by
    rw [fi_max_i]
    have c0 : (0 : Int32).toInt = 0 := rfl
    omega
  exact ns_loop hw hx hk 144 0 (fi_max 0 t) I (by omega) (by omega) (by omega) (fun _ _ => rfl) (fun j => by rw [if_neg (by omega)])
set_option maxRecDepth 8000 in
theorem v_nclear {n : Nat} {I : Nat → Nat → Int32} {J : Nat → Nat → Int64} {K : dw_K}
    (hk : ∀ I' : Nat → Nat → Int32, (∀ a, a ≠ 124 → (a < 126 ∨ 130 < a) → I' a = I a) → (∀ j, j ≠ 0 → I' 124 j = I 124 j) → (∀ w, w < 5 → ∀ t, t < 144 → I' (126 + w) t = ndF (uaF []) w t) → K none (n, SH1, I', J)) : t_X2_clear [.ref 124] (n, SH1, I, J) K := by
  refine q_body (Nat.le_of_ble_eq_true rfl) ?_
  refine q_ald rfl rfl ?_
  refine q_ic rfl ?_
  refine q_putz rfl sk_124 (Or.inl rfl) ?_
  refine q_ald rfl rfl ?_
  refine q_ic rfl ?_
  refine q_ic rfl ?_
  refine q_ic rfl ?_
  refine q_callV (as := [.int 0, .int 0, .int 0]) (rest := []) rfl rfl sk_124 rfl (Nat.le_of_ble_eq_true rfl) ?_
  refine v_nset (w := 0) (t0 := 0) (I := dw_up I 124 0 0) (by decide) rfl rfl (by decide) (fun I1 hA1 hB1 => ?_)
  show dw_ok (pr_X2_clear K) 12 0 0 [some (.ref 124)] [] (n, SH1, I1, J)
  refine q_ald rfl rfl ?_
  refine q_ic rfl ?_
  refine q_ic rfl ?_
  refine q_ic rfl ?_
  refine q_callV (as := [.int 1, .int 0, .int 0]) (rest := []) rfl rfl sk_124 rfl (Nat.le_of_ble_eq_true rfl) ?_
  refine v_nset (w := 1) (t0 := 0) (by decide) rfl rfl (by decide) (fun I2 hA2 hB2 => ?_)
  show dw_ok (pr_X2_clear K) 19 0 0 [some (.ref 124)] [] (n, SH1, I2, J)
  refine q_ald rfl rfl ?_
  refine q_ic rfl ?_
  refine q_ic rfl ?_
  refine q_ic rfl ?_
  refine q_callV (as := [.int 2, .int 0, .int 10]) (rest := []) rfl rfl sk_124 rfl (Nat.le_of_ble_eq_true rfl) ?_
  refine v_nset (w := 2) (t0 := 0) (by decide) rfl rfl (by decide) (fun I3 hA3 hB3 => ?_)
  show dw_ok (pr_X2_clear K) 27 0 0 [some (.ref 124)] [] (n, SH1, I3, J)
  refine q_ald rfl rfl ?_
  refine q_ic rfl ?_
  refine q_ic rfl ?_
  refine q_ic rfl ?_
  refine q_callV (as := [.int 3, .int 0, .int 8]) (rest := []) rfl rfl sk_124 rfl (Nat.le_of_ble_eq_true rfl) ?_
  refine v_nset (w := 3) (t0 := 0) (by decide) rfl rfl (by decide) (fun I4 hA4 hB4 => ?_)
  show dw_ok (pr_X2_clear K) 35 0 0 [some (.ref 124)] [] (n, SH1, I4, J)
  refine q_ald rfl rfl ?_
  refine q_ic rfl ?_
  refine q_ic rfl ?_
  refine q_ic rfl ?_
  refine q_callV (as := [.int 4, .int 0, .int 0]) (rest := []) rfl rfl sk_124 rfl (Nat.le_of_ble_eq_true rfl) ?_
  refine v_nset (w := 4) (t0 := 0) (by decide) rfl rfl (by decide) (fun I5 hA5 hB5 => ?_)
  refine q_vret rfl (hk I5 (fun a h1 h2 => ?_) (fun j hj => ?_) (fun w hw t ht => ?_))
  · rw [hA5 a (by omega), hA4 a (by omega), hA3 a (by omega), hA2 a (by omega), hA1 a (by omega)]; exact up_row h1
  · rw [hA5 124 (by decide), hA4 124 (by decide), hA3 124 (by decide), hA2 124 (by decide), hA1 124 (by decide)]; exact up_fld hj
  · match w, hw with
    | 0, _ => rw [hA5 126 (by decide), hA4 126 (by decide), hA3 126 (by decide), hA2 126 (by decide), hB1 t, if_pos (by omega)]; simp [uaF, ndF]
    | 1, _ => rw [hA5 127 (by decide), hA4 127 (by decide), hA3 127 (by decide), hB2 t, if_pos (by omega)]; simp [uaF, ndF]
    | 2, _ => rw [hA5 128 (by decide), hA4 128 (by decide), hB3 t, if_pos (by omega)]; simp [uaF, ndF]
    | 3, _ => rw [hA5 129 (by decide), hB4 t, if_pos (by omega)]; simp [uaF, ndF]
    | 4, _ => rw [hB5 t, if_pos (by omega)]; simp [uaF, ndF]
    | k + 5, h => exact absurd h (by omega)
