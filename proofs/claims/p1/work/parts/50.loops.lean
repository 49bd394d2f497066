/-!: filling loops as one exact step -/
def dw_ff (I : Nat → Nat → Int32) (r f i : Nat) (g : Nat → Int32) : Nat → Nat → Int32 := fun a j => if a = r then (if f ≤ j ∧ j < i then g j else I a j) else I a j
theorem dw_ff_0 {I : Nat → Nat → Int32} {r f : Nat} {g : Nat → Int32} : dw_ff I r f f g = I := by
  funext a j
  unfold dw_ff
  by_cases h : a = r
  · rw [if_pos h, if_neg (by omega)]
  · rw [if_neg h]
theorem dw_ff_s {I : Nat → Nat → Int32} {r f i : Nat} {g : Nat → Int32} (h : f ≤ i) : dw_up (dw_ff I r f i g) r i (g i) = dw_ff I r f (i + 1) g := by
  funext a j
  unfold dw_up dw_ff
  by_cases ha : a = r
  · rw [if_pos ha, if_pos ha, if_pos ha]
    by_cases hj : j = i
    · rw [if_pos hj, if_pos (by omega), hj]
    · rw [if_neg hj]
      by_cases hq : f ≤ j ∧ j < i
      · rw [if_pos hq, if_pos (by omega)]
      · rw [if_neg hq, if_neg (by omega)]
  · rw [if_neg ha, if_neg ha, if_neg ha]
theorem dw_cI {pr : Nat → dw_Op} {pc bc bs n : Nat} {ls : dw_L} {st : List Value} {sh : dw_Sh} {I I2 : Nat → Nat → Int32} {J : Nat → Nat → Int64} (h : I2 = I) (hk : dw_ok pr pc bc bs ls st (n, sh, I, J)) : dw_ok pr pc bc bs ls st (n, sh, I2, J) := by
  rw [h]
  exact hk
