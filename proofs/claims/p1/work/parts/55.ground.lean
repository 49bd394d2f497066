theorem l_g1s {K : dw_K} {I : Nat → Nat → Int32} (hK : dw_ok (pr_X12_ground K) 49 0 0 [some (.ref 404), some (.int (Int32.ofNat 221))] [] (435, SH1, dw_ff I 407 0 221 (fun _ => 0), JN1)) : dw_ok (pr_X12_ground K) 29 0 0 [some (.ref 404), some (.int 0)] [] (435, SH1, I, JN1) := by
  have hr := l_g1 hK 221 0 rfl
  rw [dw_ff_0] at hr
  exact hr
theorem l_g2s {K : dw_K} {I : Nat → Nat → Int32} (hK : dw_ok (pr_X12_ground K) 143 0 0 [some (.ref 404), some (.int (Int32.ofNat 1427))] [] (435, SH1, dw_ff I 406 0 1427 (gs_v I), JN1)) : dw_ok (pr_X12_ground K) 107 0 0 [some (.ref 404), some (.int 0)] [] (435, SH1, I, JN1) := by
  have hr := l_g2 hK 1427 0 rfl
  rw [dw_ff_0] at hr
  exact hr
theorem rC_X12_ground {K : dw_K} {pc bc bs : Nat} {ls : dw_L} {st : List Value} {μ : dw_S} (h : ∀ B : dw_B, (∀ pc bc bs ls st μ, dw_ok (pr_X12_ground K) pc bc bs ls st μ → B pc bc bs ls st μ) → (pr_X12_ground K) pc (dw_go (pr_X12_ground K) (fun pc => [9, 29, 59, 70, 79, 107].any (Nat.beq pc)) B 1500) bc bs ls st μ) : dw_ok (pr_X12_ground K) pc bc bs ls st μ := dw_runB 1500 _ h
