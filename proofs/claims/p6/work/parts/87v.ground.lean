/-! ===== a GROUND's text, purely ===== -/
/-- the latest first: the i-th told -/
def atF {α : Type} (d : α) : List α → Nat → α
  | [], _ => d
  | x :: r, i => if i = r.length then x else atF d r i
set_option maxRecDepth 8000 in
theorem at_hd {α : Type} {d x : α} {r : List α} : atF d (x :: r) r.length = x := if_pos rfl
set_option maxRecDepth 8000 in
theorem at_tl {α : Type} {d x : α} {r : List α} {i : Nat} (h : i ≠ r.length) : atF d (x :: r) i = atF d r i := if_neg h
/-- a KIND: its name's place, its length, what it holds, gives, its gift -/
abbrev gK : Type := Nat × Nat × Int32 × Int32 × Int32
/-- kinds, columns, the rows' places, the shades, the stock told -/
abbrev gS : Type := List gK × Nat × List Nat × List (Int32 × Int32 × Int32 × Int32) × Option Int32
abbrev gR : Type := Nat × Nat × Nat × gS
def g0 : gS := ([], 0, [], [], none)
def nbG (t : fT) (lo hi : Int) (k : Int32 → Nat → gR) : gR := if nbF t lo hi = 0 then k t.2.2.2 t.2.2.1 else (nbF t lo hi, t.2.1, 0, g0)
def stG (t : fT) (k : Nat → gR) : gR := if t.1 = 3 then k t.2.2.1 else (1, t.2.1, 0, g0)
/-- a word of the notation -/
def tdF (b : fB) (T : fT) : Prop := sayF b T (dw_sb 1) ∨ sayF b T (dw_sb 2) ∨ sayF b T (dw_sb 3) ∨ sayF b T (dw_sb 4) ∨ sayF b T (dw_sb 5) ∨ sayF b T (dw_sb 6) ∨ sayF b T (dw_sb 7) ∨ sayF b T (dw_sb 8) ∨ sayF b T (dw_sb 9) ∨ sayF b T (dw_sb 10) ∨ sayF b T (dw_sb 11) ∨ sayF b T (dw_sb 12) ∨ sayF b T (dw_sb 13)
/-- the word as at another place -/
abbrev asF (b : fB) (T : fT) (q k : Nat) : Prop := T.1 = 1 ∧ T.2.2.1 = T.2.1 + k ∧ ∀ i, i < k → b (T.2.1 + i) = b (q + i)
/-- one of the names told -/
def nmF (b : fB) (T : fT) : List gK → Prop
  | [] => False
  | x :: r => asF b T x.1 x.2.1 ∨ nmF b T r
noncomputable def gkA (b : fB) (N m : Nat) (T : fT) (s : gS) : gR :=
  if 0 < s.2.2.1.length then (3, T.2.1, 0, g0)
  else if 8 ≤ s.1.length then (4, T.2.1, 0, g0)
  else if (tkF b N m T.2.2.1).1 ≠ 1 then (1, (tkF b N m T.2.2.1).2.1, 0, g0)
  else @ite gR (tdF b (tkF b N m T.2.2.1)) (Classical.propDecidable _) (1, (tkF b N m T.2.2.1).2.1, 0, g0)
  (@ite gR (nmF b (tkF b N m T.2.2.1) s.1) (Classical.propDecidable _) (3, (tkF b N m T.2.2.1).2.1, 0, g0)
  (nbG (tkF b N m (tkF b N m T.2.2.1).2.2.1) 1 50 (fun v1 p1 => nbG (tkF b N m p1) 0 99 (fun v2 p2 =>
    if sayF b (tkF b N m p2) (dw_sb 14) then nbG (tkF b N m (tkF b N m p2).2.2.1) 1 9 (fun v3 p3 => stG (tkF b N m p3) (fun p4 =>
      (0, 0, p4, ((tkF b N m T.2.2.1).2.1, (tkF b N m T.2.2.1).2.2.1 - (tkF b N m T.2.2.1).2.1, v1, v2, v3) :: s.1, s.2)))
    else stG (tkF b N m p2) (fun p3 => (0, 0, p3, ((tkF b N m T.2.2.1).2.1, (tkF b N m T.2.2.1).2.2.1 - (tkF b N m T.2.2.1).2.1, v1, v2, 0) :: s.1, s.2))))))
/-- the letters of a row's word name kinds told -/
abbrev lrF (b : fB) (q k K : Nat) : Prop := ∀ i, i < k → (b (q + i)).toInt < 97 + K
def gkR (b : fB) (N m : Nat) (T : fT) (s : gS) : gR :=
  if 12 ≤ s.2.2.1.length then (4, T.2.1, 0, g0)
  else if (tkF b N m T.2.2.1).1 ≠ 1 then (1, (tkF b N m T.2.2.1).2.1, 0, g0)
  else if 0 < s.2.2.1.length ∧ (tkF b N m T.2.2.1).2.2.1 ≠ (tkF b N m T.2.2.1).2.1 + s.2.1 then (2, (tkF b N m T.2.2.1).2.1, 0, g0)
  else if ¬ lrF b (tkF b N m T.2.2.1).2.1 ((tkF b N m T.2.2.1).2.2.1 - (tkF b N m T.2.2.1).2.1) s.1.length then (2, (tkF b N m T.2.2.1).2.1, 0, g0)
  else stG (tkF b N m (tkF b N m T.2.2.1).2.2.1) (fun p => (0, 0, p, s.1, (tkF b N m T.2.2.1).2.2.1 - (tkF b N m T.2.2.1).2.1, (tkF b N m T.2.2.1).2.1 :: s.2.2.1, s.2.2.2))
def gkS (b : fB) (N m : Nat) (T : fT) (s : gS) : gR :=
  if 12 ≤ s.2.2.2.1.length then (4, T.2.1, 0, g0)
  else nbG (tkF b N m T.2.2.1) 0 ((s.2.1 : Int) - 1) (fun v1 p1 => nbG (tkF b N m p1) 0 ((s.2.2.1.length : Int) - 1) (fun v2 p2 => nbG (tkF b N m p2) 0 9 (fun v3 p3 => nbG (tkF b N m p3) 1 100 (fun v4 p4 =>
    stG (tkF b N m p4) (fun p5 => (0, 0, p5, s.1, s.2.1, s.2.2.1, (v1, v2, v3, v4) :: s.2.2.2.1, s.2.2.2.2))))))
def gkW (b : fB) (N m : Nat) (T : fT) (s : gS) : gR :=
  if s.2.2.2.2 ≠ none then (3, T.2.1, 0, g0)
  else nbG (tkF b N m T.2.2.1) 0 999 (fun v1 p1 => stG (tkF b N m p1) (fun p2 => (0, 0, p2, s.1, s.2.1, s.2.2.1, s.2.2.2.1, some v1)))
noncomputable def gkF (b : fB) (N m : Nat) (T : fT) (s : gS) : gR :=
  if sayF b T (dw_sb 0) then gkA b N m T s else if sayF b T (dw_sb 15) then gkR b N m T s else if sayF b T (dw_sb 16) then gkS b N m T s else if sayF b T (dw_sb 17) then gkW b N m T s else (1, T.2.1, 0, g0)
/-- a text: a fault's kind, its place, how many lines, what it told -/
noncomputable def ggF (b : fB) (N m : Nat) : Nat → Nat → Nat → gS → Nat × Nat × Nat × gS
  | 0, _, _, _ => (9, 0, 0, g0)
  | f + 1, ln, p, s =>
    if (tkF b N m p).1 = 0 then (0, 0, ln, s)
    else if (gkF b N m (tkF b N m p) s).1 = 0 then ggF b N m f (ln + 1) (gkF b N m (tkF b N m p) s).2.2.1 (gkF b N m (tkF b N m p) s).2.2.2
    else ((gkF b N m (tkF b N m p) s).1, (gkF b N m (tkF b N m p) s).2.1, 0, g0)
/-- the class's reader of a GROUND, going on -/
def GRp (I0 I : Nat → Nat → Int32) (s : gS) : Prop :=
  (∀ a, a ≠ 1 → (a < 101 ∨ 122 < a) → I a = I0 a) ∧ (∀ j, j < 3 → I 1 j = I0 1 j) ∧
  ((I 102 0).toInt = s.2.1 ∧ (I 102 1).toInt = s.2.2.1.length ∧ (I 102 2).toInt = s.1.length ∧ (I 102 3).toInt = s.2.2.2.1.length ∧ I 102 4 = s.2.2.2.2.getD 500) ∧
  ((I 101 4).toInt = (if s.2.2.2.2 = none then 0 else 1)) ∧
  (∀ i, i < s.1.length → (I 108 i).toInt = (atF (0, 0, 0, 0, 0) s.1 i).1 ∧ (I 109 i).toInt = (atF (0, 0, 0, 0, 0) s.1 i).2.1 ∧ I 103 i = (atF (0, 0, 0, 0, 0) s.1 i).2.2.1 ∧ I 104 i = (atF (0, 0, 0, 0, 0) s.1 i).2.2.2.1 ∧ I 105 i = (atF (0, 0, 0, 0, 0) s.1 i).2.2.2.2) ∧
  (∀ y, y < s.2.2.1.length → ∀ x, x < s.2.1 → (I 106 (y * s.2.1 + x)).toInt = (tbC I0 (atF 0 s.2.2.1 y + x)).toInt - 97) ∧
  (∀ i, i < s.2.2.2.1.length → I (111 + i) 0 = (atF (0, 0, 0, 0) s.2.2.2.1 i).1 ∧ I (111 + i) 1 = (atF (0, 0, 0, 0) s.2.2.2.1 i).2.1 ∧ I (111 + i) 2 = (atF (0, 0, 0, 0) s.2.2.2.1 i).2.2.1 ∧ I (111 + i) 3 = (atF (0, 0, 0, 0) s.2.2.2.1 i).2.2.2)
/-- what a GROUND told keeps -/
def gOK (N : Nat) (s : gS) : Prop :=
  s.1.length ≤ 8 ∧ s.2.1 ≤ 12 ∧ s.2.2.1.length ≤ 12 ∧ s.2.2.2.1.length ≤ 12 ∧
  (∀ x, x ∈ s.1 → x.1 + x.2.1 ≤ N ∧ x.2.1 ≤ 12 ∧ 1 ≤ x.2.1) ∧
  ∀ v, v ∈ s.2.2.2.1 → (0 ≤ v.1.toInt ∧ v.1.toInt ≤ 11) ∧ (0 ≤ v.2.1.toInt ∧ v.2.1.toInt ≤ 11) ∧ (0 ≤ v.2.2.1.toInt ∧ v.2.2.1.toInt ≤ 9) ∧ 1 ≤ v.2.2.2.toInt ∧ v.2.2.2.toInt ≤ 100
set_option maxRecDepth 8000 in
theorem GR_tape {I0 I I1 : Nat → Nat → Int32} {s : gS} (h : GRp I0 I s) (hA : ∀ a, a ≠ 1 → I1 a = I a) (hF : ∀ j, j < 3 → I1 1 j = I 1 j) : GRp I0 I1 s := by
  obtain ⟨h1, h2, h3, h4, h5, h6, h7⟩ := h
  refine ⟨fun a e1 e2 => (hA a e1).trans (h1 a e1 e2), fun j hj => (hF j hj).trans (h2 j hj), ?_, ?_, fun i hi => ?_, fun y hy x hx => ?_, fun i hi => ?_⟩
  · rw [hA 102 (by decide)]; exact h3
  · rw [hA 101 (by decide)]; exact h4
  · rw [hA 108 (by decide), hA 109 (by decide), hA 103 (by decide), hA 104 (by decide), hA 105 (by decide)]; exact h5 i hi
  · rw [hA 106 (by decide)]; exact h6 y hy x hx
  · rw [hA (111 + i) (by omega)]; exact h7 i hi
set_option maxRecDepth 8000 in
theorem grT {I0 : Nat → Nat → Int32} {s : gS} : TapeInv I0 (fun I => GRp I0 I s) :=
  ⟨fun _ _ h hA hF => GR_tape h hA hF, fun _ h => ⟨h.2.1 1 (by decide), h.2.1 2 (by decide), h.1 2 (by decide) (by decide)⟩⟩
