set_option maxRecDepth 20000 in
theorem l_set124_0 {K : dw_K} {I : Nat → Nat → Int32} (hK : dw_ok (pr_X2_set K) 40 0 0 [some (.ref 124), some (.int 0), some (.int 0), some (.int 0), some (.int (Int32.ofNat 144))] [] (435, SH1, dw_ff I 126 0 144 (fun _ => 0), JN1)) : ∀ (m i : Nat), i + m = 144 → dw_ok (pr_X2_set K) 7 0 0 [some (.ref 124), some (.int 0), some (.int 0), some (.int 0), some (.int (Int32.ofNat i))] [] (435, SH1, dw_ff I 126 0 i (fun _ => 0), JN1)
  | 0, i, e0 => by
    have e : i = 144 := by omega
    subst e
    refine dw_runB 4 (fun pc => Nat.beq pc 40) (fun B hB => ?_)
    refine hB _ _ _ _ _ _ ?_
    exact hK
  | m + 1, i, e0 => by
    have h1 : ¬ (144 : Int32) ≤ Int32.ofNat i := by
      rw [show (144 : Int32) = Int32.ofNat 144 from rfl, Int32.ofNat_le_iff_le (by decide) (by omega)]
      omega
    have h2 : ¬ Int32.ofNat i < 0 := by
      rw [show (0 : Int32) = Int32.ofNat 0 from rfl, Int32.ofNat_lt_iff_lt (by omega) (by decide)]
      omega
    have h3 : (Int32.ofNat i).toNatClampNeg = i := Int32.toNatClampNeg_ofNat_of_lt (by omega)
    refine dw_runB 60 (fun pc => Nat.beq pc 7) (fun B hB => ?_)
    refine dw_itn h1 ?_
    refine dw_itp ⟨h2, (show (Int32.ofNat i).toNatClampNeg < 144 by omega)⟩ ?_
    refine hB _ _ _ _ _ _ ?_
    have hr := l_set124_0 hK m (i + 1) (by omega)
    rw [← dw_ff_s (Nat.zero_le i)] at hr
    simp only [Int32.ofNat_add] at hr
    show dw_ok _ 7 0 0 [some (.ref 124), some (.int 0), some (.int 0), some (.int 0), some (.int (Int32.ofNat i + Int32.ofNat 1))] [] (435, SH1, dw_up (dw_ff I 126 0 i (fun _ => 0)) 126 (Int32.ofNat i).toNatClampNeg 0, JN1)
    rw [h3]
    exact hr
theorem l_set124_0s {K : dw_K} {I : Nat → Nat → Int32} (hK : dw_ok (pr_X2_set K) 40 0 0 [some (.ref 124), some (.int 0), some (.int 0), some (.int 0), some (.int (Int32.ofNat 144))] [] (435, SH1, dw_ff I 126 0 144 (fun _ => 0), JN1)) : dw_ok (pr_X2_set K) 7 0 0 [some (.ref 124), some (.int 0), some (.int 0), some (.int 0), some (.int (0))] [] (435, SH1, I, JN1) := by
  have hr := l_set124_0 hK 144 0 rfl
  rw [dw_ff_0] at hr
  exact hr
set_option maxRecDepth 20000 in
theorem l_set124_1 {K : dw_K} {I : Nat → Nat → Int32} (hK : dw_ok (pr_X2_set K) 40 0 0 [some (.ref 124), some (.int 1), some (.int 0), some (.int 0), some (.int (Int32.ofNat 144))] [] (435, SH1, dw_ff I 127 0 144 (fun _ => 0), JN1)) : ∀ (m i : Nat), i + m = 144 → dw_ok (pr_X2_set K) 7 0 0 [some (.ref 124), some (.int 1), some (.int 0), some (.int 0), some (.int (Int32.ofNat i))] [] (435, SH1, dw_ff I 127 0 i (fun _ => 0), JN1)
  | 0, i, e0 => by
    have e : i = 144 := by omega
    subst e
    refine dw_runB 4 (fun pc => Nat.beq pc 40) (fun B hB => ?_)
    refine hB _ _ _ _ _ _ ?_
    exact hK
  | m + 1, i, e0 => by
    have h1 : ¬ (144 : Int32) ≤ Int32.ofNat i := by
      rw [show (144 : Int32) = Int32.ofNat 144 from rfl, Int32.ofNat_le_iff_le (by decide) (by omega)]
      omega
    have h2 : ¬ Int32.ofNat i < 0 := by
      rw [show (0 : Int32) = Int32.ofNat 0 from rfl, Int32.ofNat_lt_iff_lt (by omega) (by decide)]
      omega
    have h3 : (Int32.ofNat i).toNatClampNeg = i := Int32.toNatClampNeg_ofNat_of_lt (by omega)
    refine dw_runB 60 (fun pc => Nat.beq pc 7) (fun B hB => ?_)
    refine dw_itn h1 ?_
    refine dw_itp ⟨h2, (show (Int32.ofNat i).toNatClampNeg < 144 by omega)⟩ ?_
    refine hB _ _ _ _ _ _ ?_
    have hr := l_set124_1 hK m (i + 1) (by omega)
    rw [← dw_ff_s (Nat.zero_le i)] at hr
    simp only [Int32.ofNat_add] at hr
    show dw_ok _ 7 0 0 [some (.ref 124), some (.int 1), some (.int 0), some (.int 0), some (.int (Int32.ofNat i + Int32.ofNat 1))] [] (435, SH1, dw_up (dw_ff I 127 0 i (fun _ => 0)) 127 (Int32.ofNat i).toNatClampNeg 0, JN1)
    rw [h3]
    exact hr
theorem l_set124_1s {K : dw_K} {I : Nat → Nat → Int32} (hK : dw_ok (pr_X2_set K) 40 0 0 [some (.ref 124), some (.int 1), some (.int 0), some (.int 0), some (.int (Int32.ofNat 144))] [] (435, SH1, dw_ff I 127 0 144 (fun _ => 0), JN1)) : dw_ok (pr_X2_set K) 7 0 0 [some (.ref 124), some (.int 1), some (.int 0), some (.int 0), some (.int (0))] [] (435, SH1, I, JN1) := by
  have hr := l_set124_1 hK 144 0 rfl
  rw [dw_ff_0] at hr
  exact hr
set_option maxRecDepth 20000 in
theorem l_set124_2 {K : dw_K} {I : Nat → Nat → Int32} (hK : dw_ok (pr_X2_set K) 40 0 0 [some (.ref 124), some (.int 2), some (.int 0), some (.int 10), some (.int (Int32.ofNat 144))] [] (435, SH1, dw_ff I 128 0 144 (fun _ => 10), JN1)) : ∀ (m i : Nat), i + m = 144 → dw_ok (pr_X2_set K) 7 0 0 [some (.ref 124), some (.int 2), some (.int 0), some (.int 10), some (.int (Int32.ofNat i))] [] (435, SH1, dw_ff I 128 0 i (fun _ => 10), JN1)
  | 0, i, e0 => by
    have e : i = 144 := by omega
    subst e
    refine dw_runB 4 (fun pc => Nat.beq pc 40) (fun B hB => ?_)
    refine hB _ _ _ _ _ _ ?_
    exact hK
  | m + 1, i, e0 => by
    have h1 : ¬ (144 : Int32) ≤ Int32.ofNat i := by
      rw [show (144 : Int32) = Int32.ofNat 144 from rfl, Int32.ofNat_le_iff_le (by decide) (by omega)]
      omega
    have h2 : ¬ Int32.ofNat i < 0 := by
      rw [show (0 : Int32) = Int32.ofNat 0 from rfl, Int32.ofNat_lt_iff_lt (by omega) (by decide)]
      omega
    have h3 : (Int32.ofNat i).toNatClampNeg = i := Int32.toNatClampNeg_ofNat_of_lt (by omega)
    refine dw_runB 60 (fun pc => Nat.beq pc 7) (fun B hB => ?_)
    refine dw_itn h1 ?_
    refine dw_itp ⟨h2, (show (Int32.ofNat i).toNatClampNeg < 144 by omega)⟩ ?_
    refine hB _ _ _ _ _ _ ?_
    have hr := l_set124_2 hK m (i + 1) (by omega)
    rw [← dw_ff_s (Nat.zero_le i)] at hr
    simp only [Int32.ofNat_add] at hr
    show dw_ok _ 7 0 0 [some (.ref 124), some (.int 2), some (.int 0), some (.int 10), some (.int (Int32.ofNat i + Int32.ofNat 1))] [] (435, SH1, dw_up (dw_ff I 128 0 i (fun _ => 10)) 128 (Int32.ofNat i).toNatClampNeg 10, JN1)
    rw [h3]
    exact hr
theorem l_set124_2s {K : dw_K} {I : Nat → Nat → Int32} (hK : dw_ok (pr_X2_set K) 40 0 0 [some (.ref 124), some (.int 2), some (.int 0), some (.int 10), some (.int (Int32.ofNat 144))] [] (435, SH1, dw_ff I 128 0 144 (fun _ => 10), JN1)) : dw_ok (pr_X2_set K) 7 0 0 [some (.ref 124), some (.int 2), some (.int 0), some (.int 10), some (.int (0))] [] (435, SH1, I, JN1) := by
  have hr := l_set124_2 hK 144 0 rfl
  rw [dw_ff_0] at hr
  exact hr
set_option maxRecDepth 20000 in
theorem l_set124_3 {K : dw_K} {I : Nat → Nat → Int32} (hK : dw_ok (pr_X2_set K) 40 0 0 [some (.ref 124), some (.int 3), some (.int 0), some (.int 8), some (.int (Int32.ofNat 144))] [] (435, SH1, dw_ff I 129 0 144 (fun _ => 8), JN1)) : ∀ (m i : Nat), i + m = 144 → dw_ok (pr_X2_set K) 7 0 0 [some (.ref 124), some (.int 3), some (.int 0), some (.int 8), some (.int (Int32.ofNat i))] [] (435, SH1, dw_ff I 129 0 i (fun _ => 8), JN1)
  | 0, i, e0 => by
    have e : i = 144 := by omega
    subst e
    refine dw_runB 4 (fun pc => Nat.beq pc 40) (fun B hB => ?_)
    refine hB _ _ _ _ _ _ ?_
    exact hK
  | m + 1, i, e0 => by
    have h1 : ¬ (144 : Int32) ≤ Int32.ofNat i := by
      rw [show (144 : Int32) = Int32.ofNat 144 from rfl, Int32.ofNat_le_iff_le (by decide) (by omega)]
      omega
    have h2 : ¬ Int32.ofNat i < 0 := by
      rw [show (0 : Int32) = Int32.ofNat 0 from rfl, Int32.ofNat_lt_iff_lt (by omega) (by decide)]
      omega
    have h3 : (Int32.ofNat i).toNatClampNeg = i := Int32.toNatClampNeg_ofNat_of_lt (by omega)
    refine dw_runB 60 (fun pc => Nat.beq pc 7) (fun B hB => ?_)
    refine dw_itn h1 ?_
    refine dw_itp ⟨h2, (show (Int32.ofNat i).toNatClampNeg < 144 by omega)⟩ ?_
    refine hB _ _ _ _ _ _ ?_
    have hr := l_set124_3 hK m (i + 1) (by omega)
    rw [← dw_ff_s (Nat.zero_le i)] at hr
    simp only [Int32.ofNat_add] at hr
    show dw_ok _ 7 0 0 [some (.ref 124), some (.int 3), some (.int 0), some (.int 8), some (.int (Int32.ofNat i + Int32.ofNat 1))] [] (435, SH1, dw_up (dw_ff I 129 0 i (fun _ => 8)) 129 (Int32.ofNat i).toNatClampNeg 8, JN1)
    rw [h3]
    exact hr
theorem l_set124_3s {K : dw_K} {I : Nat → Nat → Int32} (hK : dw_ok (pr_X2_set K) 40 0 0 [some (.ref 124), some (.int 3), some (.int 0), some (.int 8), some (.int (Int32.ofNat 144))] [] (435, SH1, dw_ff I 129 0 144 (fun _ => 8), JN1)) : dw_ok (pr_X2_set K) 7 0 0 [some (.ref 124), some (.int 3), some (.int 0), some (.int 8), some (.int (0))] [] (435, SH1, I, JN1) := by
  have hr := l_set124_3 hK 144 0 rfl
  rw [dw_ff_0] at hr
  exact hr
set_option maxRecDepth 20000 in
theorem l_set124_4 {K : dw_K} {I : Nat → Nat → Int32} (hK : dw_ok (pr_X2_set K) 40 0 0 [some (.ref 124), some (.int 4), some (.int 0), some (.int 0), some (.int (Int32.ofNat 144))] [] (435, SH1, dw_ff I 130 0 144 (fun _ => 0), JN1)) : ∀ (m i : Nat), i + m = 144 → dw_ok (pr_X2_set K) 7 0 0 [some (.ref 124), some (.int 4), some (.int 0), some (.int 0), some (.int (Int32.ofNat i))] [] (435, SH1, dw_ff I 130 0 i (fun _ => 0), JN1)
  | 0, i, e0 => by
    have e : i = 144 := by omega
    subst e
    refine dw_runB 4 (fun pc => Nat.beq pc 40) (fun B hB => ?_)
    refine hB _ _ _ _ _ _ ?_
    exact hK
  | m + 1, i, e0 => by
    have h1 : ¬ (144 : Int32) ≤ Int32.ofNat i := by
      rw [show (144 : Int32) = Int32.ofNat 144 from rfl, Int32.ofNat_le_iff_le (by decide) (by omega)]
      omega
    have h2 : ¬ Int32.ofNat i < 0 := by
      rw [show (0 : Int32) = Int32.ofNat 0 from rfl, Int32.ofNat_lt_iff_lt (by omega) (by decide)]
      omega
    have h3 : (Int32.ofNat i).toNatClampNeg = i := Int32.toNatClampNeg_ofNat_of_lt (by omega)
    refine dw_runB 60 (fun pc => Nat.beq pc 7) (fun B hB => ?_)
    refine dw_itn h1 ?_
    refine dw_itp ⟨h2, (show (Int32.ofNat i).toNatClampNeg < 144 by omega)⟩ ?_
    refine hB _ _ _ _ _ _ ?_
    have hr := l_set124_4 hK m (i + 1) (by omega)
    rw [← dw_ff_s (Nat.zero_le i)] at hr
    simp only [Int32.ofNat_add] at hr
    show dw_ok _ 7 0 0 [some (.ref 124), some (.int 4), some (.int 0), some (.int 0), some (.int (Int32.ofNat i + Int32.ofNat 1))] [] (435, SH1, dw_up (dw_ff I 130 0 i (fun _ => 0)) 130 (Int32.ofNat i).toNatClampNeg 0, JN1)
    rw [h3]
    exact hr
theorem l_set124_4s {K : dw_K} {I : Nat → Nat → Int32} (hK : dw_ok (pr_X2_set K) 40 0 0 [some (.ref 124), some (.int 4), some (.int 0), some (.int 0), some (.int (Int32.ofNat 144))] [] (435, SH1, dw_ff I 130 0 144 (fun _ => 0), JN1)) : dw_ok (pr_X2_set K) 7 0 0 [some (.ref 124), some (.int 4), some (.int 0), some (.int 0), some (.int (0))] [] (435, SH1, I, JN1) := by
  have hr := l_set124_4 hK 144 0 rfl
  rw [dw_ff_0] at hr
  exact hr
theorem rC_X2_set {K : dw_K} {pc bc bs : Nat} {ls : dw_L} {st : List Value} {μ : dw_S} (h : ∀ B : dw_B, (∀ pc bc bs ls st μ, dw_ok (pr_X2_set K) pc bc bs ls st μ → B pc bc bs ls st μ) → (pr_X2_set K) pc (dw_go (pr_X2_set K) (fun pc => [7].any (Nat.beq pc)) B 1500) bc bs ls st μ) : dw_ok (pr_X2_set K) pc bc bs ls st μ := dw_runB 1500 _ h
