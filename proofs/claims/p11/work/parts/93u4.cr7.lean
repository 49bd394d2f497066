/-! ===== the two that throw, wholly ===== -/
theorem cr_L_is {a1 a2 a3 : Int32} {μ : dw_S} {K : dw_K} {R : Nat → Int32} (hI : INV μ) (hR : SREL μ.2.2.1 3 R) (hK : ∀ (r : Option Value) (w : Int32) (μ' : dw_S), ck_L_is a1 a2 a3 μ r w μ' → (okIs R a1 a2 a3 ∧ w = 0 ∧ ∃ v : Int32, μ'.2.2.2 434 0 = v.toInt64 ∧ v = aIs R (cN R a1 a2) a3.toInt) ∨ (¬ okIs R a1 a2 a3 ∧ w = 1) → K r μ') : t_L_is [.ref 0, .int a1, .int a2, .int a3, .ref 434] μ K := by
  have hS := hI.1
  have k434 : (μ.2.1 434).1 = 17 := by rw [hS]; exact (shE 434).1
  have n434 : (μ.2.1 434).2.1 = 1 := by rw [hS]; exact (shE 434).2.1
  obtain ⟨n, sh, I, J⟩ := μ
  obtain rfl : sh = SH1 := hS
  refine q_body (show 5 ≤ 6 by decide) ?_
  refine q_ald rfl rfl ?_
  refine q_ic rfl ?_
  refine q_ald rfl rfl ?_
  refine q_ild rfl rfl ?_
  refine q_ild rfl rfl ?_
  refine q_ild rfl rfl ?_
  refine q_callX (as := [.int a1, .int a2, .int a3]) (rest := [.int 0, .ref 434]) rfl rfl (k_0 hI) rfl (by decide) (by decide) (by decide) ?_
  refine v_cis (R := R) hR (fun oq => ?_) (fun nq n' => hK _ 1 (n', SH1, I, J) ⟨hI, rfl, ⟨rfl, rfl, rfl⟩, ⟨rfl, rfl, rfl⟩, fun _ _ => ⟨rfl, rfl⟩⟩ (Or.inr ⟨nq, rfl⟩))
  refine q_i2l rfl ?_
  refine q_last rfl k434 n434 (by decide) (by decide) ?_
  refine q_goto rfl ?_
  refine q_ic rfl ?_
  refine q_iret rfl (hK _ 0 (dw_sl (n, SH1, I, J) 434 0 ((aIs R (cN R a1 a2) a3.toInt)).toInt64) ⟨hI, rfl, ⟨rfl, rfl, rfl⟩, ⟨rfl, rfl, rfl⟩, fun a ha => ⟨rfl, funext fun j => dw_up_ne (fun e => ha (e ▸ List.Mem.head _))⟩⟩ (Or.inl ⟨oq, rfl, (aIs R (cN R a1 a2) a3.toInt), ?_, rfl⟩))
  show dw_up J 434 0 ((aIs R (cN R a1 a2) a3.toInt)).toInt64 434 0 = _
  unfold dw_up
  rw [if_pos rfl, if_pos rfl]
theorem cr_X12_is {a1 a2 a3 : Int32} {μ : dw_S} {K : dw_K} {R : Nat → Int32} (hI : INV μ) (e6 : μ.2.2.1 406 = R) (hG : GOK R) (hK : ∀ (r : Option Value) (w : Int32) (μ' : dw_S), ck_X12_is a1 a2 a3 μ r w μ' → (okIs R a1 a2 a3 ∧ μ'.2.2.1 404 0 = 0 ∧ w = aIs R (cN R a1 a2) a3.toInt) ∨ (¬ okIs R a1 a2 a3 ∧ μ'.2.2.1 404 0 = 1) → K r μ') : t_X12_is [.ref 404, .int a1, .int a2, .int a3] μ K := by
  refine cj_X12_is _ μ (fun r μ' => ∃ w, ck_X12_is a1 a2 a3 μ r w μ') (fun r μ' => ∀ w, r = some (.int w) → ((okIs R a1 a2 a3 ∧ μ'.2.2.1 404 0 = 0 ∧ w = aIs R (cN R a1 a2) a3.toInt) ∨ (¬ okIs R a1 a2 a3 ∧ μ'.2.2.1 404 0 = 1))) K (fun r μ' h q => h.elim (fun w h => hK r w μ' h (q w h.2.1))) (cl_X12_is hI (fun r w μ' h => ⟨w, h⟩)) ?_
  obtain ⟨n, sh, I, J⟩ := μ
  obtain rfl : sh = SH1 := hI.1
  refine v_mis e6 hG (fun w I' h w' q => ?_)
  obtain rfl : w = w' := by injection q with q; injection q
  exact h
theorem q_mthrown {μ : dw_S} {K : dw_K} (hI : INV μ) (hk : K (some (.int (μ.2.2.1 404 0))) μ) : t_X12_thrown [.ref 404] μ K := by
  obtain ⟨n, sh, I, J⟩ := μ
  obtain rfl : sh = SH1 := hI.1
  exact v_mthrown hk
