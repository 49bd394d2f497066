set_option maxRecDepth 20000 in
theorem l_g1 {K : dw_K} {I : Nat → Nat → Int32} (hK : dw_ok (pr_X12_ground K) 49 0 0 [some (.ref 404), some (.int (Int32.ofNat 221))] [] (435, SH1, dw_ff I 407 0 221 (fun _ => 0), JN1)) : ∀ (m i : Nat), i + m = 221 → dw_ok (pr_X12_ground K) 29 0 0 [some (.ref 404), some (.int (Int32.ofNat i))] [] (435, SH1, dw_ff I 407 0 i (fun _ => 0), JN1)
  | 0, i, e0 => by
    have e : i = 221 := by omega
    subst e
    refine dw_runB 4 (fun pc => Nat.beq pc 49) (fun B hB => ?_)
    refine hB _ _ _ _ _ _ ?_
    exact hK
  | m + 1, i, e0 => by
    have h1 : ¬ (221 : Int32) ≤ Int32.ofNat i := by
      rw [show (221 : Int32) = Int32.ofNat 221 from rfl, Int32.ofNat_le_iff_le (by decide) (by omega)]
      omega
    have h2 : ¬ Int32.ofNat i < 0 := by
      rw [show (0 : Int32) = Int32.ofNat 0 from rfl, Int32.ofNat_lt_iff_lt (by omega) (by decide)]
      omega
    have h3 : (Int32.ofNat i).toNatClampNeg = i := Int32.toNatClampNeg_ofNat_of_lt (by omega)
    refine dw_runB 60 (fun pc => Nat.beq pc 29) (fun B hB => ?_)
    refine dw_itn h1 ?_
    refine dw_itp ⟨h2, (show (Int32.ofNat i).toNatClampNeg < 221 by omega)⟩ ?_
    refine hB _ _ _ _ _ _ ?_
    have hr := l_g1 hK m (i + 1) (by omega)
    rw [← dw_ff_s (Nat.zero_le i)] at hr
    simp only [Int32.ofNat_add] at hr
    show dw_ok _ 29 0 0 [some (.ref 404), some (.int (Int32.ofNat i + Int32.ofNat 1))] [] (435, SH1, dw_up (dw_ff I 407 0 i (fun _ => 0)) 407 (Int32.ofNat i).toNatClampNeg 0, JN1)
    rw [h3]
    exact hr
def gs_v (I : Nat → Nat → Int32) : Nat → Int32 := fun j => if j < 221 then I 407 j else 0
set_option maxRecDepth 20000 in
theorem l_g2 {K : dw_K} {I : Nat → Nat → Int32} (hK : dw_ok (pr_X12_ground K) 143 0 0 [some (.ref 404), some (.int (Int32.ofNat 1427))] [] (435, SH1, dw_ff I 406 0 1427 (gs_v I), JN1)) : ∀ (m i : Nat), i + m = 1427 → dw_ok (pr_X12_ground K) 107 0 0 [some (.ref 404), some (.int (Int32.ofNat i))] [] (435, SH1, dw_ff I 406 0 i (gs_v I), JN1)
  | 0, i, e0 => by
    have e : i = 1427 := by omega
    subst e
    refine dw_runB 4 (fun pc => Nat.beq pc 143) (fun B hB => ?_)
    refine hB _ _ _ _ _ _ ?_
    exact hK
  | m + 1, i, e0 => by
    have h1 : ¬ (1427 : Int32) ≤ Int32.ofNat i := by
      rw [show (1427 : Int32) = Int32.ofNat 1427 from rfl, Int32.ofNat_le_iff_le (by decide) (by omega)]
      omega
    have h2 : ¬ Int32.ofNat i < 0 := by
      rw [show (0 : Int32) = Int32.ofNat 0 from rfl, Int32.ofNat_lt_iff_lt (by omega) (by decide)]
      omega
    have h3 : (Int32.ofNat i).toNatClampNeg = i := Int32.toNatClampNeg_ofNat_of_lt (by omega)
    have hr := l_g2 hK m (i + 1) (by omega)
    rw [← dw_ff_s (Nat.zero_le i)] at hr
    simp only [Int32.ofNat_add] at hr
    refine dw_runB 60 (fun pc => Nat.beq pc 107) (fun B hB => ?_)
    refine dw_itn h1 ?_
    refine dw_ite (fun h7 => ?_) (fun h7 => ?_)
    · have h8 : 221 ≤ i := by
        rw [show (221 : Int32) = Int32.ofNat 221 from rfl, Int32.ofNat_le_iff_le (by decide) (by omega)] at h7
        exact h7
      refine dw_itp ⟨h2, (show (Int32.ofNat i).toNatClampNeg < 1427 by omega)⟩ ?_
      refine hB _ _ _ _ _ _ ?_
      show dw_ok _ 107 0 0 [some (.ref 404), some (.int (Int32.ofNat i + Int32.ofNat 1))] [] (435, SH1, dw_up (dw_ff I 406 0 i (gs_v I)) 406 (Int32.ofNat i).toNatClampNeg 0, JN1)
      rw [h3]
      rw [show gs_v I i = 0 from if_neg (by omega)] at hr
      exact hr
    · have h8 : i < 221 := by
        rw [show (221 : Int32) = Int32.ofNat 221 from rfl, Int32.ofNat_le_iff_le (by decide) (by omega)] at h7
        omega
      refine dw_itp ⟨h2, (show (Int32.ofNat i).toNatClampNeg < 221 by omega)⟩ ?_
      refine dw_itp ⟨h2, (show (Int32.ofNat i).toNatClampNeg < 1427 by omega)⟩ ?_
      refine hB _ _ _ _ _ _ ?_
      show dw_ok _ 107 0 0 [some (.ref 404), some (.int (Int32.ofNat i + Int32.ofNat 1))] [] (435, SH1, dw_up (dw_ff I 406 0 i (gs_v I)) 406 (Int32.ofNat i).toNatClampNeg ((dw_ff I 406 0 i (gs_v I)) 407 (Int32.ofNat i).toNatClampNeg), JN1)
      rw [h3]
      rw [show (dw_ff I 406 0 i (gs_v I)) 407 i = gs_v I i from (show (dw_ff I 406 0 i (gs_v I)) 407 i = I 407 i from if_neg (by decide)).trans (if_pos h8).symm]
      exact hr
