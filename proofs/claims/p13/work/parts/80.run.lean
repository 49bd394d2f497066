/-! ===== single ops, for pieces by hand ===== -/
section
variable {pr : Nat → dw_Op} {pc bc bs nx : Nat} {ls : dw_L} {st : List Value} {μ : dw_S}
theorem q_ald {i a : Nat} (ho : pr pc = o_ald i nx) (hl : ls[i]? = some (some (.ref a))) (k : dw_ok pr nx bc bs ls (.ref a :: st) μ) : dw_ok pr pc bc bs ls st μ := dw_ok.step (by rw [ho]; unfold o_ald; rw [hl]; exact k)
theorem q_ild {i : Nat} {x : Int32} (ho : pr pc = o_ild i nx) (hl : ls[i]? = some (some (.int x))) (k : dw_ok pr nx bc bs ls (.int x :: st) μ) : dw_ok pr pc bc bs ls st μ := dw_ok.step (by rw [ho]; unfold o_ild; rw [hl]; exact k)
theorem q_ic {v : Int32} (ho : pr pc = o_ic v nx) (k : dw_ok pr nx bc bs ls (.int v :: st) μ) : dw_ok pr pc bc bs ls st μ := dw_ok.step (by rw [ho]; exact k)
theorem q_goto (ho : pr pc = o_goto nx) (k : dw_ok pr nx bc bs ls st μ) : dw_ok pr pc bc bs ls st μ := dw_ok.step (by rw [ho]; exact k)
theorem q_getr {ci j a b : Nat} (ho : pr pc = o_getf ci j 2 nx) (hk : (μ.2.1 a).1 = ci) (hr : (μ.2.1 a).2.2 j = some b) (k : dw_ok pr nx bc bs ls (.ref b :: st) μ) : dw_ok pr pc bc bs ls (.ref a :: st) μ :=
  dw_ok.step (by
    rw [ho]
    show (if (μ.2.1 a).1 = ci then dw_fitI 2 (μ.2.2.1 a j) (dw_ok pr nx bc bs ls (dw_rv ((μ.2.1 a).2.2 j) :: st) μ) else False)
    rw [if_pos hk, hr]
    exact k)
theorem q_geti {ci j a : Nat} (ho : pr pc = o_getf ci j 0 nx) (hk : (μ.2.1 a).1 = ci) (k : dw_ok pr nx bc bs ls (.int (μ.2.2.1 a j) :: st) μ) : dw_ok pr pc bc bs ls (.ref a :: st) μ :=
  dw_ok.step (by
    rw [ho]
    show (if (μ.2.1 a).1 = ci then dw_fitI 0 (μ.2.2.1 a j) (dw_ok pr nx bc bs ls (.int (μ.2.2.1 a j) :: st) μ) else False)
    rw [if_pos hk]
    exact k)
theorem q_puti {ci j a : Nat} {x : Int32} (ho : pr pc = o_puti ci j 0 nx) (hk : (μ.2.1 a).1 = ci) (k : dw_ok pr nx bc bs ls st (dw_si μ a j x)) : dw_ok pr pc bc bs ls (.int x :: .ref a :: st) μ :=
  dw_ok.step (by
    rw [ho]
    show (if (μ.2.1 a).1 = ci then dw_fitC 0 x (dw_ok pr nx bc bs ls st (dw_si μ a j x)) else False)
    rw [if_pos hk]
    exact k)
theorem q_xald {kd t a n : Nat} {x : Int32} (ho : pr pc = o_xald kd t nx) (ht : t = 0 ∨ t = 3 ∨ t = 4) (hk : (μ.2.1 a).1 = kd) (hn : (μ.2.1 a).2.1 = n) (h0 : 0 ≤ x.toInt) (h1 : x.toInt < n) (k : dw_ok pr nx bc bs ls (.int (μ.2.2.1 a x.toInt.toNat) :: st) μ) : dw_ok pr pc bc bs ls (.int x :: .ref a :: st) μ :=
  dw_ok.step (by
    rw [ho]
    show (if (μ.2.1 a).1 = kd then (if ¬ x < 0 ∧ x.toNatClampNeg < (μ.2.1 a).2.1 then dw_fitI t (μ.2.2.1 a x.toNatClampNeg) (dw_ok pr nx bc bs ls (dw_vt t μ a x.toNatClampNeg :: st) μ) else False) else False)
    rw [if_pos hk, if_pos ⟨dx_nlt h0, by rw [hn, dx_tn]; omega⟩]
    refine dx_fitI_ok ?_
    rcases ht with rfl | rfl | rfl
    · exact k
    · exact k
    · exact k)
theorem q_iast {kd a n : Nat} {x v : Int32} (ho : pr pc = o_iast kd 0 nx) (hk : (μ.2.1 a).1 = kd) (hn : (μ.2.1 a).2.1 = n) (h0 : 0 ≤ x.toInt) (h1 : x.toInt < n) (k : dw_ok pr nx bc bs ls st (dw_si μ a x.toInt.toNat v)) : dw_ok pr pc bc bs ls (.int v :: .int x :: .ref a :: st) μ :=
  dw_ok.step (by
    rw [ho]
    show (if (μ.2.1 a).1 = kd then (if ¬ x < 0 ∧ x.toNatClampNeg < (μ.2.1 a).2.1 then dw_fitC 0 v (dw_ok pr nx bc bs ls st (dw_si μ a x.toNatClampNeg v)) else False) else False)
    rw [if_pos hk, if_pos ⟨dx_nlt h0, by rw [hn, dx_tn]; omega⟩]
    exact k)
theorem q_iastz {kd a n : Nat} {x v : Int32} (ho : pr pc = o_iast kd 3 nx) (hk : (μ.2.1 a).1 = kd) (hn : (μ.2.1 a).2.1 = n) (h0 : 0 ≤ x.toInt) (h1 : x.toInt < n) (hv : v = 0 ∨ v = 1) (k : dw_ok pr nx bc bs ls st (dw_si μ a x.toInt.toNat v)) : dw_ok pr pc bc bs ls (.int v :: .int x :: .ref a :: st) μ :=
  dw_ok.step (by
    rw [ho]
    show (if (μ.2.1 a).1 = kd then (if ¬ x < 0 ∧ x.toNatClampNeg < (μ.2.1 a).2.1 then dw_fitC 3 v (dw_ok pr nx bc bs ls st (dw_si μ a x.toNatClampNeg v)) else False) else False)
    rw [if_pos hk, if_pos ⟨dx_nlt h0, by rw [hn, dx_tn]; omega⟩]
    show (if v = 0 ∨ v = 1 then _ else False)
    rw [if_pos hv]
    exact k)
theorem q_add {x y : Int32} (ho : pr pc = o_iadd nx) (k : dw_ok pr nx bc bs ls (.int (x + y) :: st) μ) : dw_ok pr pc bc bs ls (.int y :: .int x :: st) μ := dw_ok.step (by rw [ho]; exact k)
theorem q_sub {x y : Int32} (ho : pr pc = o_isub nx) (k : dw_ok pr nx bc bs ls (.int (x - y) :: st) μ) : dw_ok pr pc bc bs ls (.int y :: .int x :: st) μ := dw_ok.step (by rw [ho]; exact k)
theorem q_mul {x y : Int32} (ho : pr pc = o_imul nx) (k : dw_ok pr nx bc bs ls (.int (x * y) :: st) μ) : dw_ok pr pc bc bs ls (.int y :: .int x :: st) μ := dw_ok.step (by rw [ho]; exact k)
theorem q_and {x y : Int32} (ho : pr pc = o_iand nx) (k : dw_ok pr nx bc bs ls (.int (x &&& y) :: st) μ) : dw_ok pr pc bc bs ls (.int y :: .int x :: st) μ := dw_ok.step (by rw [ho]; exact k)
theorem q_dup {a : Nat} (ho : pr pc = o_dup nx) (k : dw_ok pr nx bc bs ls (.ref a :: .ref a :: st) μ) : dw_ok pr pc bc bs ls (.ref a :: st) μ := dw_ok.step (by rw [ho]; exact k)
theorem q_dup2 {a : Nat} {x : Int32} (ho : pr pc = o_dup2 nx) (k : dw_ok pr nx bc bs ls (.int x :: .ref a :: .int x :: .ref a :: st) μ) : dw_ok pr pc bc bs ls (.int x :: .ref a :: st) μ := dw_ok.step (by rw [ho]; exact k)
theorem q_icmp {c tg : Nat} {x y : Int32} (ho : pr pc = dx_ic c tg nx) (hc : c ≤ 5) (k1 : dx_cp c x.toInt y.toInt → dw_ok pr tg bc bs ls st μ) (k2 : dx_cp (dx_ng c) x.toInt y.toInt → dw_ok pr nx bc bs ls st μ) : dw_ok pr pc bc bs ls (.int y :: .int x :: st) μ := dw_ok.step (by rw [ho]; exact dx_ic_ok hc k1 k2)
theorem q_if {c tg : Nat} {x : Int32} (ho : pr pc = dx_if c tg nx) (hc : c ≤ 5) (k1 : dx_cp c x.toInt 0 → dw_ok pr tg bc bs ls st μ) (k2 : dx_cp (dx_ng c) x.toInt 0 → dw_ok pr nx bc bs ls st μ) : dw_ok pr pc bc bs ls (.int x :: st) μ := dw_ok.step (by rw [ho]; exact dx_if_ok hc k1 k2)
end
theorem i_add {x y : Int32} (h1 : -2147483648 ≤ x.toInt + y.toInt) (h2 : x.toInt + y.toInt ≤ 2147483647) : (x + y).toInt = x.toInt + y.toInt := by rw [Int32.toInt_add]; exact dx_bm h1 h2
theorem i_sub {x y : Int32} (h1 : -2147483648 ≤ x.toInt - y.toInt) (h2 : x.toInt - y.toInt ≤ 2147483647) : (x - y).toInt = x.toInt - y.toInt := by rw [Int32.toInt_sub]; exact dx_bm h1 h2
theorem i_mul {x y : Int32} {n : Int} (h : x.toInt * y.toInt = n) (h1 : -2147483648 ≤ n) (h2 : n ≤ 2147483647) : (x * y).toInt = n := by rw [Int32.toInt_mul, h]; exact dx_bm h1 h2
theorem up_at {I : Nat → Nat → Int32} {a j : Nat} {x : Int32} : dw_up I a j x a j = x := by unfold dw_up; rw [if_pos rfl, if_pos rfl]
theorem up_ne {I : Nat → Nat → Int32} {a j a' j' : Nat} {x : Int32} (h : a' ≠ a ∨ j' ≠ j) : dw_up I a j x a' j' = I a' j' := by
  unfold dw_up
  by_cases e : a' = a
  · rw [if_pos e, if_neg (by rcases h with h | h; exact absurd e h; exact h)]
  · rw [if_neg e]
theorem oc_rng (I : Nat → Nat → Int32) (n : Nat) : 0 ≤ fl_oc I n ∧ fl_oc I n ≤ 255 := by
  unfold fl_oc
  have h : (0 : Int) ≤ (255 : Int32).toInt := by decide
  have := dx_and (x := I 405 n) (y := 255) h
  have e : (255 : Int32).toInt = 255 := rfl
  omega
theorem gV_th {k : Nat} {ν : Nat → Int} {x : Option Value} {a : Nat} (h : dx_gV k ν ((.inr (.inl [a]))) x) : x = some (.ref a) := by
  obtain ⟨b, h1, h2⟩ := h
  rw [List.mem_singleton] at h1
  rw [h2, h1]
theorem fl_sum_up {f g : Nat → Int} {m : Nat} {d : Int} (hm : g m = f m + d) (h : ∀ c, c ≠ m → g c = f c) : ∀ n : Nat, fl_sum g n = fl_sum f n + if m < n then d else 0
  | 0 => by simp [fl_sum]
  | n + 1 => by
    show fl_sum g n + g n = fl_sum f n + f n + _
    rw [fl_sum_up hm h n]
    by_cases e : m = n
    · subst e
      rw [if_neg (by omega), if_pos (by omega), hm]; omega
    · rw [h n (fun q => e q.symm)]
      by_cases e2 : m < n
      · rw [if_pos e2, if_pos (by omega)]; omega
      · rw [if_neg e2, if_neg (by omega)]; omega
theorem fl_sum_le {f : Nat → Int} {l u : Int} : ∀ n : Nat, (∀ c, c < n → l ≤ f c ∧ f c ≤ u) → (n : Int) * l ≤ fl_sum f n ∧ fl_sum f n ≤ (n : Int) * u
  | 0, _ => by simp [fl_sum]
  | n + 1, h => by
    have h1 := fl_sum_le n (fun c hc => h c (by omega))
    have h2 := h n (by omega)
    have e1 : ((n + 1 : Nat) : Int) * l = (n : Int) * l + l := by rw [Int.natCast_add, Int.add_mul]; simp
    have e2 : ((n + 1 : Nat) : Int) * u = (n : Int) * u + u := by rw [Int.natCast_add, Int.add_mul]; simp
    show _ ≤ fl_sum f n + f n ∧ fl_sum f n + f n ≤ _
    omega
