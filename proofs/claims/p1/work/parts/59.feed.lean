/-! ===== feeding: four bytes, as one step ===== -/
theorem dw_on1 {k : Nat} (h : k < 2147483648) : ¬ Int32.ofNat k < 0 := by
  rw [show (0 : Int32) = Int32.ofNat 0 from rfl, Int32.ofNat_lt_iff_lt (by omega) (by decide)]
  omega
theorem dw_on2 {k m : Nat} (h : k < 2147483648) (hm : m < 2147483648) (hk : k < m) : ¬ Int32.ofNat m ≤ Int32.ofNat k := by
  rw [Int32.ofNat_le_iff_le (by omega) (by omega)]
  omega
set_option maxRecDepth 20000 in
theorem l_add1 {K : dw_K} {n : Nat} {I : Nat → Nat → Int32} {J : Nat → Nat → Int64} {v sf : Int32} {k : Nat} (hk : k < 940) (hs : I 1 1 = Int32.ofNat k) (h0 : ¬ sf < 0)
    (hK : ∀ x, dw_ok (pr_X9_add K) 3 0 0 [some (.ref 1), some (.int v), some (.int (sf + -8))] [] (n, SH1, dw_up (dw_up I 2 k x) 1 1 (Int32.ofNat (k + 1)), J)) :
    dw_ok (pr_X9_add K) 3 0 0 [some (.ref 1), some (.int v), some (.int sf)] [] (n, SH1, I, J) := by
  have h2 : ¬ I 1 1 < 0 := by rw [hs]; exact dw_on1 (by omega)
  have h3 : (I 1 1).toNatClampNeg = k := by rw [hs]; exact Int32.toNatClampNeg_ofNat_of_lt (by omega)
  have h4 : ¬ (940 : Int32) ≤ I 1 1 := by rw [hs]; exact dw_on2 (m := 940) (by omega) (by omega) hk
  refine dw_runB 60 (fun pc => Nat.beq pc 3) (fun B hB => ?_)
  refine dw_itn h0 ?_
  refine dw_itn h2 ?_
  refine dw_itn h4 ?_
  refine dw_itp ⟨h2, (show (I 1 1).toNatClampNeg < 940 by omega)⟩ ?_
  refine hB _ _ _ _ _ _ ?_
  show dw_ok _ 3 0 0 [some (.ref 1), some (.int v), some (.int (sf + -8))] [] (n, SH1, dw_up (dw_up I 2 (I 1 1).toNatClampNeg _) 1 1 (I 1 1 + Int32.ofNat 1), J)
  rw [h3, hs, ← Int32.ofNat_add]
  exact hK _
/-- what a feeding leaves as it was -/
def dw_kp (a b : Nat) (I I' : Nat → Nat → Int32) : Prop := ∀ x j, x ≠ b → ¬ (x = a ∧ j = 1) → I' x j = I x j
set_option maxRecDepth 20000 in
theorem l_add {K : dw_K} {n : Nat} {I : Nat → Nat → Int32} {J : Nat → Nat → Int64} {v : Int32} {k : Nat} (hk : k ≤ 936) (hs : I 1 1 = Int32.ofNat k)
    (hK : ∀ I', I' 1 1 = Int32.ofNat (k + 4) → (∀ x j, x ≠ 1 → x ≠ 2 → I' x j = I x j) → K none (n, SH1, I', J)) : t_X9_add [.ref 1, .int v] (n, SH1, I, J) K := by
  refine dw_enter rfl ?_
  refine dw_runB 60 (fun pc => Nat.beq pc 3) (fun B hB => ?_)
  refine hB _ _ _ _ _ _ ?_
  refine l_add1 (k := k) (sf := 24) (by omega) hs (by decide) (fun x1 => ?_)
  refine l_add1 (k := k + 1) (sf := 24 + -8) (by omega) rfl (by decide) (fun x2 => ?_)
  refine l_add1 (k := k + 1 + 1) (sf := 24 + -8 + -8) (by omega) rfl (by decide) (fun x3 => ?_)
  refine l_add1 (k := k + 1 + 1 + 1) (sf := 24 + -8 + -8 + -8) (by omega) rfl (by decide) (fun x4 => ?_)
  refine dw_runB 60 (fun pc => Nat.beq pc 58) (fun B hB => ?_)
  refine hB _ _ _ _ _ _ ?_
  refine dw_run 0 (fun _ => false) ?_
  refine hK _ rfl (fun x j h1 h2 => ?_)
  unfold dw_up
  rw [if_neg h1, if_neg h2, if_neg h1, if_neg h2, if_neg h1, if_neg h2, if_neg h1, if_neg h2]
set_option maxRecDepth 20000 in
theorem l_four1 {K : dw_K} {n : Nat} {I : Nat → Nat → Int32} {J : Nat → Nat → Int64} {v sf : Int32} {k : Nat} (hk : k < 940) (hs : I 404 2 = Int32.ofNat k) (h0 : ¬ sf < 0)
    (hK : ∀ x, dw_ok (pr_X12_four K) 3 0 0 [some (.ref 404), some (.int v), some (.int (sf + -8))] [] (n, SH1, dw_up (dw_up I 405 k x) 404 2 (Int32.ofNat (k + 1)), J)) :
    dw_ok (pr_X12_four K) 3 0 0 [some (.ref 404), some (.int v), some (.int sf)] [] (n, SH1, I, J) := by
  have h2 : ¬ I 404 2 < 0 := by rw [hs]; exact dw_on1 (by omega)
  have h3 : (I 404 2).toNatClampNeg = k := by rw [hs]; exact Int32.toNatClampNeg_ofNat_of_lt (by omega)
  refine dw_runB 60 (fun pc => Nat.beq pc 3) (fun B hB => ?_)
  refine dw_itn h0 ?_
  refine dw_itp ⟨h2, (show (I 404 2).toNatClampNeg < 940 by omega)⟩ ?_
  refine dw_itp dw_b8 ?_
  refine hB _ _ _ _ _ _ ?_
  show dw_ok _ 3 0 0 [some (.ref 404), some (.int v), some (.int (sf + -8))] [] (n, SH1, dw_up (dw_up I 405 (I 404 2).toNatClampNeg _) 404 2 (I 404 2 + Int32.ofNat 1), J)
  rw [h3, hs, ← Int32.ofNat_add]
  exact hK _
set_option maxRecDepth 20000 in
theorem l_four {K : dw_K} {n : Nat} {I : Nat → Nat → Int32} {J : Nat → Nat → Int64} {v : Int32} {k : Nat} (hk : k ≤ 936) (hs : I 404 2 = Int32.ofNat k)
    (hK : ∀ I', I' 404 2 = Int32.ofNat (k + 4) → K none (n, SH1, I', J)) : t_X12_four [.ref 404, .int v] (n, SH1, I, J) K := by
  refine dw_enter rfl ?_
  refine dw_runB 60 (fun pc => Nat.beq pc 3) (fun B hB => ?_)
  refine hB _ _ _ _ _ _ ?_
  refine l_four1 (k := k) (sf := 24) (by omega) hs (by decide) (fun x1 => ?_)
  refine l_four1 (k := k + 1) (sf := 24 + -8) (by omega) rfl (by decide) (fun x2 => ?_)
  refine l_four1 (k := k + 1 + 1) (sf := 24 + -8 + -8) (by omega) rfl (by decide) (fun x3 => ?_)
  refine l_four1 (k := k + 1 + 1 + 1) (sf := 24 + -8 + -8 + -8) (by omega) rfl (by decide) (fun x4 => ?_)
  refine dw_runB 60 (fun pc => Nat.beq pc 36) (fun B hB => ?_)
  refine hB _ _ _ _ _ _ ?_
  refine dw_run 0 (fun _ => false) ?_
  exact hK _ rfl
