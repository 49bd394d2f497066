/-! ===== pure reasoning: entering, branching ===== -/
theorem dw_ite {c : Prop} {d : Decidable c} {A B : Prop} (h1 : c → A) (h2 : ¬ c → B) : @ite Prop c d A B := by
  by_cases h : c
  · rw [if_pos h]; exact h1 h
  · rw [if_neg h]; exact h2 h
theorem dw_itp {c : Prop} {d : Decidable c} {A B : Prop} (h : c) (h1 : A) : @ite Prop c d A B := by
  rw [if_pos h]; exact h1
theorem dw_itn {c : Prop} {d : Decidable c} {A B : Prop} (h : ¬ c) (h1 : B) : @ite Prop c d A B := by
  rw [if_neg h]; exact h1
theorem dw_enter {nL mc ms : Nat} {pr : dw_K → Nat → dw_Op} {as : List Value} {μ : dw_S} {K : dw_K} (h : Nat.ble (dw_inl as).length nL = true) (k : dw_ok (pr K) 0 mc ms (dw_pad nL (dw_inl as)) [] μ) : dw_body nL mc ms pr as μ K := by
  unfold dw_body
  rw [if_pos (Nat.le_of_ble_eq_true h)]
  exact k
/-- nothing is written from n on -/
def dw_Z (n : Nat) (I : Nat → Nat → Int32) (J : Nat → Nat → Int64) : Prop := ∀ a, n ≤ a → ∀ j, I a j = 0 ∧ J a j = 0
theorem dw_Z.up {n m : Nat} {I : Nat → Nat → Int32} {J : Nat → Nat → Int64} (h : dw_Z n I J) (hm : n ≤ m) : dw_Z m I J := fun a ha j => h a (by omega) j
/-- shapes behind a making -/
def sh_nw (n : Nat) (sh : dw_Sh) (kd N : Nat) : dw_Sh := fun a => if a = n then (kd, N, fun _ => none) else sh a
def sh_nm (n0 : Nat) (sh : dw_Sh) (n k : Nat) : dw_Sh := fun a => if a = n0 then (20, n, fun i => if i < n then some (n0 + 1 + i) else none) else if n0 < a ∧ a < n0 + (1 + n) then (16, k, fun _ => none) else sh a
def sh_sr (sh : dw_Sh) (a j : Nat) (x : Option Nat) : dw_Sh := fun a' => if a' = a then ((sh a').1, (sh a').2.1, fun j' => if j' = j then x else (sh a').2.2 j') else sh a'
theorem dw_nw_eq {n m : Nat} {sh : dw_Sh} {I : Nat → Nat → Int32} {J : Nat → Nat → Int64} {kd N : Nat} (h : dw_Z n I J) (hm : n + 1 = m) : dw_nw (n, sh, I, J) kd N = (m, sh_nw n sh kd N, I, J) := by
  subst hm
  unfold dw_nw sh_nw
  refine Prod.ext rfl (Prod.ext rfl (Prod.ext ?_ ?_))
  · funext a j
    show (if a = n then 0 else I a j) = I a j
    by_cases e : a = n
    · rw [if_pos e, e]; exact ((h n (Nat.le_refl n) j).1).symm
    · rw [if_neg e]
  · funext a j
    show (if a = n then 0 else J a j) = J a j
    by_cases e : a = n
    · rw [if_pos e, e]; exact ((h n (Nat.le_refl n) j).2).symm
    · rw [if_neg e]
theorem dw_nm_eq {n0 m : Nat} {sh : dw_Sh} {I : Nat → Nat → Int32} {J : Nat → Nat → Int64} {n k : Nat} (h : dw_Z n0 I J) (hm : n0 + (1 + n) = m) : dw_nm (n0, sh, I, J) n k = (m, sh_nm n0 sh n k, I, J) := by
  subst hm
  unfold dw_nm sh_nm
  refine Prod.ext rfl (Prod.ext rfl (Prod.ext ?_ ?_))
  · funext a j
    show (if n0 ≤ a ∧ a < n0 + (1 + n) then 0 else I a j) = I a j
    by_cases e : n0 ≤ a ∧ a < n0 + (1 + n)
    · rw [if_pos e]; exact ((h a e.1 j).1).symm
    · rw [if_neg e]
  · funext a j
    show (if n0 ≤ a ∧ a < n0 + (1 + n) then 0 else J a j) = J a j
    by_cases e : n0 ≤ a ∧ a < n0 + (1 + n)
    · rw [if_pos e]; exact ((h a e.1 j).2).symm
    · rw [if_neg e]
theorem dw_si_eq {n : Nat} {sh : dw_Sh} {I : Nat → Nat → Int32} {J : Nat → Nat → Int64} {a j : Nat} {x : Int32} : dw_si (n, sh, I, J) a j x = (n, sh, dw_up I a j x, J) := rfl
theorem dw_sl_eq {n : Nat} {sh : dw_Sh} {I : Nat → Nat → Int32} {J : Nat → Nat → Int64} {a j : Nat} {x : Int64} : dw_sl (n, sh, I, J) a j x = (n, sh, I, dw_up J a j x) := rfl
theorem dw_sr_eq {n : Nat} {sh : dw_Sh} {I : Nat → Nat → Int32} {J : Nat → Nat → Int64} {a j : Nat} {x : Option Nat} : dw_sr (n, sh, I, J) a j x = (n, sh_sr sh a j x, I, J) := rfl
theorem sh_sr_k {sh : dw_Sh} {a b j : Nat} {x : Option Nat} : ((sh_sr sh b j x) a).1 = (sh a).1 := by
  unfold sh_sr
  by_cases h : a = b <;> simp [h]
theorem sh_nw_lt {sh : dw_Sh} {a n kd N : Nat} (h : a < n) : (sh_nw n sh kd N) a = sh a := by
  unfold sh_nw
  rw [if_neg (by omega)]
theorem sh_nw_at {sh : dw_Sh} {n kd N : Nat} : ((sh_nw n sh kd N) n).1 = kd := by
  unfold sh_nw
  rw [if_pos rfl]
theorem sh_nm_lt {sh : dw_Sh} {a n0 n k : Nat} (h : a < n0) : (sh_nm n0 sh n k) a = sh a := by
  unfold sh_nm
  rw [if_neg (by omega), if_neg (by omega)]
