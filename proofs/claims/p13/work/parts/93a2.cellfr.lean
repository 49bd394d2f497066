/-! ===== the two calls that throw, with the rows that stay ===== -/
abbrev ck_L_cell (a1 a2 a3 : Int32) (μ : dw_S) (r : Option Value) (w : Int32) (μ' : dw_S) : Prop := (INV μ') ∧ (r = some (.int w)) ∧ ((μ'.2.2.1 1 1).toInt = (μ.2.2.1 1 1).toInt ∧ (μ'.2.2.1 210 0).toInt = (μ.2.2.1 210 0).toInt ∧ (μ'.2.2.1 307 0).toInt = (μ.2.2.1 307 0).toInt) ∧ ((μ'.2.2.1 404 2).toInt = (μ.2.2.1 404 2).toInt ∧ (μ'.2.2.1 433 0).toInt = (μ.2.2.1 433 0).toInt ∧ (μ'.2.2.1 433 1).toInt = (μ.2.2.1 433 1).toInt) ∧ (∀ a, a ∉ [434] → μ'.2.2.1 a = μ.2.2.1 a ∧ μ'.2.2.2 a = μ.2.2.2 a)
abbrev ck_L_is (a1 a2 a3 : Int32) (μ : dw_S) (r : Option Value) (w : Int32) (μ' : dw_S) : Prop := (INV μ') ∧ (r = some (.int w)) ∧ ((μ'.2.2.1 1 1).toInt = (μ.2.2.1 1 1).toInt ∧ (μ'.2.2.1 210 0).toInt = (μ.2.2.1 210 0).toInt ∧ (μ'.2.2.1 307 0).toInt = (μ.2.2.1 307 0).toInt) ∧ ((μ'.2.2.1 404 2).toInt = (μ.2.2.1 404 2).toInt ∧ (μ'.2.2.1 433 0).toInt = (μ.2.2.1 433 0).toInt ∧ (μ'.2.2.1 433 1).toInt = (μ.2.2.1 433 1).toInt) ∧ (∀ a, a ∉ [434] → μ'.2.2.1 a = μ.2.2.1 a ∧ μ'.2.2.2 a = μ.2.2.2 a)
theorem cf_L_cell {a1 a2 a3 : Int32} {μ : dw_S} {K : dw_K} (hI : INV μ) (hK : ∀ (r : Option Value) (w : Int32) (μ' : dw_S), ck_L_cell a1 a2 a3 μ r w μ' → K r μ') : t_L_cell [.ref 0, .int a1, .int a2, .int a3, .ref 434] μ K := by
  have hS := hI.1
  have k434 : (μ.2.1 434).1 = 17 := by rw [hS]; exact (shE 434).1
  have n434 : (μ.2.1 434).2.1 = 1 := by rw [hS]; exact (shE 434).2.1
  refine q_body (show 5 ≤ 6 by decide) ?_
  refine q_ald rfl rfl ?_
  refine q_ic rfl ?_
  refine q_ald rfl rfl ?_
  refine q_ild rfl rfl ?_
  refine q_ild rfl rfl ?_
  refine q_ild rfl rfl ?_
  refine q_callX (as := [.int a1, .int a2, .int a3]) (rest := [.int 0, .ref 434]) rfl rfl (k_0 hI) rfl (by decide) (by decide) (by decide) ?_
  refine cl_X11_cell hS (fun w => ?_) (fun n' => hK _ 1 (n', μ.2) ⟨hI, rfl, ⟨rfl, rfl, rfl⟩, ⟨rfl, rfl, rfl⟩, fun _ _ => ⟨rfl, rfl⟩⟩)
  refine q_i2l rfl ?_
  refine q_last rfl k434 n434 (by decide) (by decide) ?_
  refine q_goto rfl ?_
  refine q_ic rfl ?_
  exact q_iret rfl (hK _ 0 (dw_sl μ 434 0 w.toInt64) ⟨hI, rfl, ⟨rfl, rfl, rfl⟩, ⟨rfl, rfl, rfl⟩, fun a ha => ⟨rfl, funext fun j => dw_up_ne (fun e => ha (e ▸ List.Mem.head _))⟩⟩)
theorem cf_L_is {a1 a2 a3 : Int32} {μ : dw_S} {K : dw_K} (hI : INV μ) (hK : ∀ (r : Option Value) (w : Int32) (μ' : dw_S), ck_L_is a1 a2 a3 μ r w μ' → K r μ') : t_L_is [.ref 0, .int a1, .int a2, .int a3, .ref 434] μ K := by
  have hS := hI.1
  have k434 : (μ.2.1 434).1 = 17 := by rw [hS]; exact (shE 434).1
  have n434 : (μ.2.1 434).2.1 = 1 := by rw [hS]; exact (shE 434).2.1
  refine q_body (show 5 ≤ 6 by decide) ?_
  refine q_ald rfl rfl ?_
  refine q_ic rfl ?_
  refine q_ald rfl rfl ?_
  refine q_ild rfl rfl ?_
  refine q_ild rfl rfl ?_
  refine q_ild rfl rfl ?_
  refine q_callX (as := [.int a1, .int a2, .int a3]) (rest := [.int 0, .ref 434]) rfl rfl (k_0 hI) rfl (by decide) (by decide) (by decide) ?_
  refine cl_X11_is hS (fun w => ?_) (fun n' => hK _ 1 (n', μ.2) ⟨hI, rfl, ⟨rfl, rfl, rfl⟩, ⟨rfl, rfl, rfl⟩, fun _ _ => ⟨rfl, rfl⟩⟩)
  refine q_i2l rfl ?_
  refine q_last rfl k434 n434 (by decide) (by decide) ?_
  refine q_goto rfl ?_
  refine q_ic rfl ?_
  exact q_iret rfl (hK _ 0 (dw_sl μ 434 0 w.toInt64) ⟨hI, rfl, ⟨rfl, rfl, rfl⟩, ⟨rfl, rfl, rfl⟩, fun a ha => ⟨rfl, funext fun j => dw_up_ne (fun e => ha (e ▸ List.Mem.head _))⟩⟩)
