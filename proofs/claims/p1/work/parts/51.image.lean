set_option maxRecDepth 20000 in
theorem l_image0 {K : dw_K} (hK : ∀ I, dw_ok (pr_X12_image K) 49 0 0 [some (.ref 404), some (.int 0), some (.int (Int32.ofNat 1427))] [] (435, SH1, I, JN1)) : ∀ (m i : Nat) (I : Nat → Nat → Int32), i + m = 1427 → dw_ok (pr_X12_image K) 18 0 0 [some (.ref 404), some (.int 0), some (.int (Int32.ofNat i))] [] (435, SH1, I, JN1)
  | 0, i, I, h => by
    have e : i = 1427 := by omega
    subst e
    refine dw_runB 4 (fun pc => Nat.beq pc 49) (fun B hB => ?_)
    refine hB _ _ _ _ _ _ ?_
    exact hK I
  | m + 1, i, I, h => by
    have h1 : ¬ (1427 : Int32) ≤ Int32.ofNat i := by
      rw [show (1427 : Int32) = Int32.ofNat 1427 from rfl, Int32.ofNat_le_iff_le (by decide) (by omega)]
      omega
    have h2 : ¬ Int32.ofNat i < 0 := by
      rw [show (0 : Int32) = Int32.ofNat 0 from rfl, Int32.ofNat_lt_iff_lt (by omega) (by decide)]
      omega
    have h3 : (Int32.ofNat i).toNatClampNeg = i := Int32.toNatClampNeg_ofNat_of_lt (by omega)
    have h4 : (1427 * 0 + Int32.ofNat i : Int32) = Int32.ofNat i := by rw [show (1427 * 0 : Int32) = 0 from rfl, Int32.zero_add]
    have h5 : ¬ (1427 * 0 + Int32.ofNat i : Int32) < 0 := by
      rw [h4, show (0 : Int32) = Int32.ofNat 0 from rfl, Int32.ofNat_lt_iff_lt (by omega) (by decide)]
      omega
    have h6 : (1427 * 0 + Int32.ofNat i : Int32).toNatClampNeg < 2854 := by
      rw [h4, Int32.toNatClampNeg_ofNat_of_lt (by omega)]
      omega
    refine dw_runB 60 (fun pc => Nat.beq pc 18) (fun B hB => ?_)
    refine dw_itn h1 ?_
    refine dw_itp ⟨h2, (show (Int32.ofNat i).toNatClampNeg < 1427 by omega)⟩ ?_
    refine dw_itp ⟨h5, h6⟩ ?_
    refine hB _ _ _ _ _ _ ?_
    have hr := fun I2 => l_image0 hK m (i + 1) I2 (by omega)
    simp only [Int32.ofNat_add] at hr
    exact hr _
set_option maxRecDepth 20000 in
theorem l_image1 {K : dw_K} (hK : ∀ I, dw_ok (pr_X12_image K) 49 0 0 [some (.ref 404), some (.int 1), some (.int (Int32.ofNat 1427))] [] (435, SH1, I, JN1)) : ∀ (m i : Nat) (I : Nat → Nat → Int32), i + m = 1427 → dw_ok (pr_X12_image K) 18 0 0 [some (.ref 404), some (.int 1), some (.int (Int32.ofNat i))] [] (435, SH1, I, JN1)
  | 0, i, I, h => by
    have e : i = 1427 := by omega
    subst e
    refine dw_runB 4 (fun pc => Nat.beq pc 49) (fun B hB => ?_)
    refine hB _ _ _ _ _ _ ?_
    exact hK I
  | m + 1, i, I, h => by
    have h1 : ¬ (1427 : Int32) ≤ Int32.ofNat i := by
      rw [show (1427 : Int32) = Int32.ofNat 1427 from rfl, Int32.ofNat_le_iff_le (by decide) (by omega)]
      omega
    have h2 : ¬ Int32.ofNat i < 0 := by
      rw [show (0 : Int32) = Int32.ofNat 0 from rfl, Int32.ofNat_lt_iff_lt (by omega) (by decide)]
      omega
    have h3 : (Int32.ofNat i).toNatClampNeg = i := Int32.toNatClampNeg_ofNat_of_lt (by omega)
    have h4 : (1427 * 1 + Int32.ofNat i : Int32) = Int32.ofNat (1427 + i) := by rw [show (1427 * 1 : Int32) = Int32.ofNat 1427 from rfl, ← Int32.ofNat_add]
    have h5 : ¬ (1427 * 1 + Int32.ofNat i : Int32) < 0 := by
      rw [h4, show (0 : Int32) = Int32.ofNat 0 from rfl, Int32.ofNat_lt_iff_lt (by omega) (by decide)]
      omega
    have h6 : (1427 * 1 + Int32.ofNat i : Int32).toNatClampNeg < 2854 := by
      rw [h4, Int32.toNatClampNeg_ofNat_of_lt (by omega)]
      omega
    refine dw_runB 60 (fun pc => Nat.beq pc 18) (fun B hB => ?_)
    refine dw_itn h1 ?_
    refine dw_itp ⟨h2, (show (Int32.ofNat i).toNatClampNeg < 1427 by omega)⟩ ?_
    refine dw_itp ⟨h5, h6⟩ ?_
    refine hB _ _ _ _ _ _ ?_
    have hr := fun I2 => l_image1 hK m (i + 1) I2 (by omega)
    simp only [Int32.ofNat_add] at hr
    exact hr _
theorem rC_X12_image {K : dw_K} {pc bc bs : Nat} {ls : dw_L} {st : List Value} {μ : dw_S} (h : ∀ B : dw_B, (∀ pc bc bs ls st μ, dw_ok (pr_X12_image K) pc bc bs ls st μ → B pc bc bs ls st μ) → (pr_X12_image K) pc (dw_go (pr_X12_image K) (fun pc => [8, 18].any (Nat.beq pc)) B 1500) bc bs ls st μ) : dw_ok (pr_X12_image K) pc bc bs ls st μ := dw_runB 1500 _ h
