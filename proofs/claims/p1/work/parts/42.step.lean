/-! ===== running with stops: the rest of the run is a variable ===== -/
theorem dw_runB {pr : Nat → dw_Op} {pc bc bs : Nat} {ls : dw_L} {st : List Value} {μ : dw_S} (n : Nat) (sp : Nat → Bool) (h : ∀ B : dw_B, (∀ pc bc bs ls st μ, dw_ok pr pc bc bs ls st μ → B pc bc bs ls st μ) → pr pc (dw_go pr sp B n) bc bs ls st μ) : dw_ok pr pc bc bs ls st μ :=
  dw_run n sp (h (dw_ok pr) (fun _ _ _ _ _ _ q => q))
theorem dw_okV {pr : Nat → dw_Op} {pc bc bs : Nat} {ls : dw_L} {st : List Value} {μ : dw_S} {ci k mc ms nx a : Nat} {T : dw_T} {as rest : List Value} (ho : pr pc = o_callV ci k mc ms T nx) (h : dw_sp k st [] = (.ref a :: as, rest)) (h1 : (μ.2.1 a).1 = ci) (h2 : as.length + 1 = k) (h3 : dw_cats rest ≤ 8) (h4 : Nat.ble mc bc = true) (h5 : Nat.ble ms bs = true) (hT : T (.ref a :: as) μ (fun r μ' => dw_ok pr nx (bc - mc) (bs - ms) ls (r.toList ++ rest) μ')) : dw_ok pr pc bc bs ls st μ := by
  refine dw_run 0 (fun _ => false) ?_
  rw [ho]
  exact dw_callV h h1 h2 h3 (Nat.le_of_ble_eq_true h4) (Nat.le_of_ble_eq_true h5) hT
theorem dw_okS {pr : Nat → dw_Op} {pc bc bs : Nat} {ls : dw_L} {st : List Value} {μ : dw_S} {k mc ms nx : Nat} {T : dw_T} {as rest : List Value} (ho : pr pc = o_callS k mc ms T nx) (h : dw_sp k st [] = (as, rest)) (h2 : as.length = k) (h3 : dw_cats rest ≤ 8) (h4 : Nat.ble mc bc = true) (h5 : Nat.ble ms bs = true) (hT : T as μ (fun r μ' => dw_ok pr nx (bc - mc) (bs - ms) ls (r.toList ++ rest) μ')) : dw_ok pr pc bc bs ls st μ := by
  refine dw_run 0 (fun _ => false) ?_
  rw [ho]
  unfold o_callS
  rw [h]
  exact dw_itp ⟨h2, h3, Nat.le_of_ble_eq_true h4, Nat.le_of_ble_eq_true h5⟩ hT
