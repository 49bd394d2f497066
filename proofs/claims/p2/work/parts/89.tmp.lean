theorem al_394 : ∀ j, j < 394 → dx_OK XE (dx_ist j) := sorry
