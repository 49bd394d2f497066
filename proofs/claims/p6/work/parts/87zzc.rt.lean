/-! ===== where a RUN lies ===== -/
/-- a RUN lies at A -/
def RT (A : Nat) : Prop := (SH1 A).1 = 7 ∧ ((SH1 A).2.2 7 = some (A + 1) ∧ (SH1 A).2.2 8 = some (A + 8) ∧ (SH1 A).2.2 9 = some (A + 9) ∧ (SH1 A).2.2 10 = some (A + 10) ∧ (SH1 A).2.2 11 = some (A + 11) ∧ (SH1 A).2.2 12 = some (A + 12) ∧ (SH1 A).2.2 13 = some (A + 13) ∧ (SH1 A).2.2 14 = some (A + 14)) ∧
  ((SH1 (A + 8)).1 = 16 ∧ (SH1 (A + 9)).1 = 16 ∧ (SH1 (A + 10)).1 = 16 ∧ (SH1 (A + 11)).1 = 16 ∧ (SH1 (A + 12)).1 = 16 ∧ (SH1 (A + 13)).1 = 16 ∧ (SH1 (A + 14)).1 = 16) ∧
  ((SH1 (A + 8)).2.1 = 144 ∧ (SH1 (A + 9)).2.1 = 144 ∧ (SH1 (A + 10)).2.1 = 144 ∧ (SH1 (A + 11)).2.1 = 144 ∧ (SH1 (A + 12)).2.1 = 144 ∧ (SH1 (A + 13)).2.1 = 144 ∧ (SH1 (A + 14)).2.1 = 144) ∧ NT (A + 1)
def rt_list : List Nat := [43, 164, 179, 250, 347]
def nt_list2 : List Nat := [44, 165, 180, 251, 348, 265, 272, 279, 286, 293, 300, 362, 369, 376, 383, 390, 397]
set_option maxRecDepth 8000 in
theorem nt_dec2 : (nt_list2.all (fun A => decide ((dx_ce A).k = 2) && decide (((dx_ce A).rf[1]?).join = some (A + 1)) && decide ((dx_ce (A + 1)).k = 20) && decide ((dx_ce (A + 1)).n = 5) && (List.range 5).all (fun w => decide (((dx_ce (A + 1)).rf[w]?).join = some (A + 2 + w)) && decide ((dx_ce (A + 2 + w)).k = 16) && decide ((dx_ce (A + 2 + w)).n = 144)))) = true := by decide +kernel
set_option maxRecDepth 8000 in
theorem nt_ok2 {A : Nat} (h : A ∈ nt_list2) : NT A := by
  have h1 := List.all_eq_true.mp nt_dec2 A h
  simp only [Bool.and_eq_true, decide_eq_true_eq] at h1
  obtain ⟨⟨⟨⟨a1, a2⟩, a3⟩, a4⟩, a5⟩ := h1
  refine ⟨(shE A).1.trans a1, ((shE A).2.2 1).trans a2, (shE (A + 1)).1.trans a3, (shE (A + 1)).2.1.trans a4, fun w hw => ?_⟩
  have h2 := List.all_eq_true.mp a5 w (List.mem_range.mpr hw)
  simp only [Bool.and_eq_true, decide_eq_true_eq] at h2
  obtain ⟨⟨b1, b2⟩, b3⟩ := h2
  exact ⟨((shE (A + 1)).2.2 w).trans b1, (shE (A + 2 + w)).1.trans b2, (shE (A + 2 + w)).2.1.trans b3⟩
set_option maxRecDepth 8000 in
theorem rt_dec : (rt_list.all (fun A => decide ((dx_ce A).k = 7) && (decide (((dx_ce A).rf[7]?).join = some (A + 1)) && decide (A + 1 ∈ nt_list2) && (List.range 7).all (fun j => decide (((dx_ce A).rf[8 + j]?).join = some (A + (8 + j))) && decide ((dx_ce (A + (8 + j))).k = 16) && decide ((dx_ce (A + (8 + j))).n = 144))))) = true := by decide +kernel
set_option maxRecDepth 8000 in
theorem rt_ok {A : Nat} (h : A ∈ rt_list) : RT A := by
  have h1 := List.all_eq_true.mp rt_dec A h
  simp only [Bool.and_eq_true, decide_eq_true_eq] at h1
  obtain ⟨a1, ⟨a2, a3⟩, a4⟩ := h1
  have g : ∀ j, j < 7 → (SH1 A).2.2 (8 + j) = some (A + (8 + j)) ∧ (SH1 (A + (8 + j))).1 = 16 ∧ (SH1 (A + (8 + j))).2.1 = 144 := fun j hj => by
    have h2 := List.all_eq_true.mp a4 j (List.mem_range.mpr hj)
    simp only [Bool.and_eq_true, decide_eq_true_eq] at h2
    obtain ⟨⟨b1, b2⟩, b3⟩ := h2
    exact ⟨((shE A).2.2 (8 + j)).trans b1, (shE (A + (8 + j))).1.trans b2, (shE (A + (8 + j))).2.1.trans b3⟩
  exact ⟨(shE A).1.trans a1, ⟨((shE A).2.2 7).trans a2, (g 0 (by decide)).1, (g 1 (by decide)).1, (g 2 (by decide)).1, (g 3 (by decide)).1, (g 4 (by decide)).1, (g 5 (by decide)).1, (g 6 (by decide)).1⟩,
    ⟨(g 0 (by decide)).2.1, (g 1 (by decide)).2.1, (g 2 (by decide)).2.1, (g 3 (by decide)).2.1, (g 4 (by decide)).2.1, (g 5 (by decide)).2.1, (g 6 (by decide)).2.1⟩,
    ⟨(g 0 (by decide)).2.2, (g 1 (by decide)).2.2, (g 2 (by decide)).2.2, (g 3 (by decide)).2.2, (g 4 (by decide)).2.2, (g 5 (by decide)).2.2, (g 6 (by decide)).2.2⟩, nt_ok2 a3⟩
