/-! ===== texts: bytes, tokens, as pure functions ===== -/
set_option maxRecDepth 8000 in
theorem nn {a b : Nat} (h : Nat.beq a b = false) : a ≠ b := fun e => by
  rw [e, Nat.beq_refl] at h
  exact absurd h (by decide)
abbrev fB : Type := Nat → Int32
abbrev f_sm (c : Int32) : Prop := 97 ≤ c.toInt ∧ c.toInt ≤ 122
abbrev f_dg (c : Int32) : Prop := 48 ≤ c.toInt ∧ c.toInt ≤ 57
abbrev f_bl (c : Int32) : Prop := c.toInt = 32 ∨ c.toInt = 10
def skF (b : fB) (n : Nat) : Nat → Nat → Nat
  | 0, p => p
  | f + 1, p => if p < n ∧ f_bl (b p) then skF b n f (p + 1) else p
def rnF (b : fB) (n : Nat) : Nat → Nat → Nat
  | 0, p => p
  | f + 1, p => if p < n ∧ (f_sm (b p) ∨ f_dg (b p)) then rnF b n f (p + 1) else p
def ltF (b : fB) (q : Nat) : Nat → Nat
  | 0 => 0
  | k + 1 => ltF b q k + if f_sm (b (q + k)) then 1 else 0
def dtF (b : fB) (q : Nat) : Nat → Nat
  | 0 => 0
  | k + 1 => dtF b q k + if f_dg (b (q + k)) then 1 else 0
def vlF (b : fB) (q : Nat) : Nat → Int32
  | 0 => 0
  | k + 1 => 10 * vlF b q k + b (q + k) - 48
/-- kind, place, the next place, value -/
abbrev fT : Type := Nat × Nat × Nat × Int32
def tkF (b : fB) (n m p : Nat) : fT :=
  if m < n ∧ m ≤ skF b n (n - p) p then (4, m, skF b n (n - p) p, 0)
  else if n ≤ skF b n (n - p) p then (0, n, skF b n (n - p) p, 0)
  else if (b (skF b n (n - p) p)).toInt = 59 then (3, skF b n (n - p) p, skF b n (n - p) p + 1, 0)
  else if dtF b (skF b n (n - p) p) (rnF b n (n - skF b n (n - p) p) (skF b n (n - p) p) - skF b n (n - p) p) = 0 ∧ 1 ≤ rnF b n (n - skF b n (n - p) p) (skF b n (n - p) p) - skF b n (n - p) p ∧ rnF b n (n - skF b n (n - p) p) (skF b n (n - p) p) - skF b n (n - p) p ≤ 12 then
    (1, skF b n (n - p) p, rnF b n (n - skF b n (n - p) p) (skF b n (n - p) p), 0)
  else if ltF b (skF b n (n - p) p) (rnF b n (n - skF b n (n - p) p) (skF b n (n - p) p) - skF b n (n - p) p) = 0 ∧ 1 ≤ rnF b n (n - skF b n (n - p) p) (skF b n (n - p) p) - skF b n (n - p) p ∧ rnF b n (n - skF b n (n - p) p) (skF b n (n - p) p) - skF b n (n - p) p ≤ 3 then
    (2, skF b n (n - p) p, rnF b n (n - skF b n (n - p) p) (skF b n (n - p) p), vlF b (skF b n (n - p) p) (rnF b n (n - skF b n (n - p) p) (skF b n (n - p) p) - skF b n (n - p) p))
  else (4, skF b n (n - p) p, rnF b n (n - skF b n (n - p) p) (skF b n (n - p) p), 0)
set_option maxRecDepth 8000 in
theorem skF_ge {b : fB} {n : Nat} : ∀ (f p : Nat), p ≤ skF b n f p
  | 0, p => Nat.le_refl p
  | f + 1, p => by
    unfold skF
    by_cases h : p < n ∧ f_bl (b p)
    · rw [if_pos h]; have := skF_ge (b := b) (n := n) f (p + 1); omega
    · rw [if_neg h]; exact Nat.le_refl p
set_option maxRecDepth 8000 in
theorem skF_le {b : fB} {n : Nat} : ∀ (f p : Nat), p ≤ n → skF b n f p ≤ n
  | 0, p, h => h
  | f + 1, p, h => by
    unfold skF
    by_cases h2 : p < n ∧ f_bl (b p)
    · rw [if_pos h2]; exact skF_le f (p + 1) (by omega)
    · rw [if_neg h2]; exact h
set_option maxRecDepth 8000 in
theorem rnF_ge {b : fB} {n : Nat} : ∀ (f p : Nat), p ≤ rnF b n f p
  | 0, p => Nat.le_refl p
  | f + 1, p => by
    unfold rnF
    by_cases h : p < n ∧ (f_sm (b p) ∨ f_dg (b p))
    · rw [if_pos h]; have := rnF_ge (b := b) (n := n) f (p + 1); omega
    · rw [if_neg h]; exact Nat.le_refl p
set_option maxRecDepth 8000 in
theorem rnF_le {b : fB} {n : Nat} : ∀ (f p : Nat), p ≤ n → rnF b n f p ≤ n
  | 0, p, h => h
  | f + 1, p, h => by
    unfold rnF
    by_cases h2 : p < n ∧ (f_sm (b p) ∨ f_dg (b p))
    · rw [if_pos h2]; exact rnF_le f (p + 1) (by omega)
    · rw [if_neg h2]; exact h
set_option maxRecDepth 8000 in
/-- what lies between is of letters and digits -/
theorem rnF_in {b : fB} {n : Nat} : ∀ (f p i : Nat), p ≤ i → i < rnF b n f p → i < n ∧ (f_sm (b i) ∨ f_dg (b i))
  | 0, p, i, h, h2 => by have : i < p := h2; omega
  | f + 1, p, i, h, h2 => by
    unfold rnF at h2
    by_cases h3 : p < n ∧ (f_sm (b p) ∨ f_dg (b p))
    · rw [if_pos h3] at h2
      by_cases e : i = p
      · rw [e]; exact h3
      · exact rnF_in f (p + 1) i (by omega) h2
    · rw [if_neg h3] at h2; omega
set_option maxRecDepth 8000 in
theorem ltdt {b : fB} {q : Nat} : ∀ k : Nat, (∀ i, i < k → f_sm (b (q + i)) ∨ f_dg (b (q + i))) → ltF b q k + dtF b q k = k
  | 0, _ => rfl
  | k + 1, h => by
    have h1 := ltdt (b := b) (q := q) k (fun i hi => h i (by omega))
    have h2 := h k (by omega)
    unfold ltF dtF
    rcases h2 with h2 | h2
    · rw [if_pos h2, if_neg (by omega)]; omega
    · rw [if_neg (by omega), if_pos h2]; omega
set_option maxRecDepth 8000 in
theorem dtF_0 {b : fB} {q : Nat} : ∀ k : Nat, dtF b q k = 0 → (∀ i, i < k → f_sm (b (q + i)) ∨ f_dg (b (q + i))) → ∀ i, i < k → f_sm (b (q + i))
  | 0, _, _, i, hi => absurd hi (Nat.not_lt_zero i)
  | k + 1, h, ha, i, hi => by
    unfold dtF at h
    by_cases e : i = k
    · subst e
      rcases ha i (by omega) with q1 | q1
      · exact q1
      · rw [if_pos q1] at h; omega
    · exact dtF_0 k (by omega) (fun j hj => ha j (by omega)) i (by omega)
set_option maxRecDepth 8000 in
theorem ltF_0 {b : fB} {q : Nat} : ∀ k : Nat, ltF b q k = 0 → (∀ i, i < k → f_sm (b (q + i)) ∨ f_dg (b (q + i))) → ∀ i, i < k → f_dg (b (q + i))
  | 0, _, _, i, hi => absurd hi (Nat.not_lt_zero i)
  | k + 1, h, ha, i, hi => by
    unfold ltF at h
    by_cases e : i = k
    · subst e
      rcases ha i (by omega) with q1 | q1
      · rw [if_pos q1] at h; omega
      · exact q1
    · exact ltF_0 k (by omega) (fun j hj => ha j (by omega)) i (by omega)
set_option maxRecDepth 8000 in
/-- a token is within -/
theorem tkF_in {b : fB} {n m p : Nat} (hp : p ≤ n) : (tkF b n m p).2.1 ≤ n ∧ p ≤ (tkF b n m p).2.2.1 ∧ (tkF b n m p).2.2.1 ≤ n ∧ ((tkF b n m p).1 = 1 ∨ (tkF b n m p).1 = 2 ∨ (tkF b n m p).1 = 3 → p < (tkF b n m p).2.2.1 ∧ (tkF b n m p).2.1 < (tkF b n m p).2.2.1) := by
  have h1 := skF_ge (b := b) (n := n) (n - p) p
  have h2 := skF_le (b := b) (n := n) (n - p) p hp
  have h3 := rnF_ge (b := b) (n := n) (n - skF b n (n - p) p) (skF b n (n - p) p)
  have h4 := rnF_le (b := b) (n := n) (n - skF b n (n - p) p) (skF b n (n - p) p) h2
  unfold tkF
  by_cases c1 : m < n ∧ m ≤ skF b n (n - p) p
  · rw [if_pos c1]; dsimp only; omega
  rw [if_neg c1]
  by_cases c2 : n ≤ skF b n (n - p) p
  · rw [if_pos c2]; dsimp only; omega
  rw [if_neg c2]
  by_cases c3 : (b (skF b n (n - p) p)).toInt = 59
  · rw [if_pos c3]; dsimp only; omega
  rw [if_neg c3]
  split
  · dsimp only; omega
  · split <;> (dsimp only; omega)
set_option maxRecDepth 8000 in
/-- memory: writing twice, writing what is there -/
theorem up_up {α : Type} {I : Nat → Nat → α} {a j : Nat} {x y : α} : dw_up (dw_up I a j x) a j y = dw_up I a j y := by
  funext a' j'
  unfold dw_up
  by_cases h : a' = a
  · by_cases h2 : j' = j
    · simp [h, h2]
    · simp [h, h2]
  · simp [h]
set_option maxRecDepth 8000 in
theorem up_id {α : Type} {I : Nat → Nat → α} {a j : Nat} {x : α} (h : x = I a j) : dw_up I a j x = I := by
  funext a' j'
  unfold dw_up
  by_cases h1 : a' = a
  · rw [if_pos h1]
    by_cases h2 : j' = j
    · rw [if_pos h2, h, h1, h2]
    · rw [if_neg h2]
  · rw [if_neg h1]
set_option maxRecDepth 8000 in
theorem up_row {α : Type} {I : Nat → Nat → α} {a j a' : Nat} {x : α} (h : a' ≠ a) : dw_up I a j x a' = I a' := by
  funext j'
  unfold dw_up
  rw [if_neg h]
set_option maxRecDepth 8000 in
theorem up_fld {α : Type} {I : Nat → Nat → α} {a j a' j' : Nat} {x : α} (h : j' ≠ j) : dw_up I a j x a' j' = I a' j' := by
  unfold dw_up
  by_cases h1 : a' = a
  · rw [if_pos h1, if_neg h]
  · rw [if_neg h1]
set_option maxRecDepth 8000 in
theorem up_same {α : Type} {I : Nat → Nat → α} {a j : Nat} {x : α} : dw_up I a j x a j = x := by
  unfold dw_up
  rw [if_pos rfl, if_pos rfl]
set_option maxRecDepth 8000 in
theorem oN {k : Nat} (h : k < 2147483648) : (Int32.ofNat k).toInt = k := Int32.toInt_ofNat_of_lt (by omega)
set_option maxRecDepth 8000 in
theorem i_eq {x y : Int32} (h : x.toInt = y.toInt) : x = y := dx_eqI.mpr h
/-- bytes of the class's tape, cut where it ends -/
def tbC (I : Nat → Nat → Int32) : fB := fun k => if (k : Int) < (I 1 1).toInt then I 2 k else 0
set_option maxRecDepth 8000 in
theorem tbC_in {I : Nat → Nat → Int32} {k : Nat} (h : (k : Int) < (I 1 1).toInt) : tbC I k = I 2 k := if_pos h
set_option maxRecDepth 8000 in
theorem tbC_eq {I I' : Nat → Nat → Int32} (h1 : I' 1 1 = I 1 1) (h2 : I' 2 = I 2) : tbC I' = tbC I := by
  funext k
  unfold tbC
  rw [h1, h2]
