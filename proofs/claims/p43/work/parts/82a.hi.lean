def EE (SH : dw_Sh) (TT : Nat → dw_T) : dx_Env := ⟨SH, dx_ce, TT, fl_P, fl_s⟩
/-! ===== bounds of cells, read off the table ===== -/
theorem hz407 : (List.range 221).all (fun j => decide ((dx_seg (dx_ce 407).iv j).1 ≤ 0) && decide (0 ≤ (dx_seg (dx_ce 407).iv j).2)) = true := by decide +kernel
theorem hi407 (j : Nat) (h : j < 221) : dx_in (dx_seg (dx_ce 407).iv j) (0 : Int32).toInt := by
  have := List.all_eq_true.mp hz407 j (List.mem_range.mpr h)
  rw [Bool.and_eq_true, decide_eq_true_eq, decide_eq_true_eq] at this
  exact this
theorem hz419 : (List.range 144).all (fun j => decide (dx_seg (dx_ce 419).iv j = (0, 7))) = true := by decide +kernel
theorem hi419 (j : Nat) (h : j < 144) : dx_seg (dx_ce 419).iv j = (0, 7) := by
  have := List.all_eq_true.mp hz419 j (List.mem_range.mpr h)
  rw [decide_eq_true_eq] at this
  exact this
theorem hz406 : (List.range 144).all (fun j => decide (dx_seg (dx_ce 406).iv (29 + j) = (0, 7))) = true := by decide +kernel
theorem hi406 (j : Nat) (h : j < 144) : dx_seg (dx_ce 406).iv (29 + j) = (0, 7) := by
  have := List.all_eq_true.mp hz406 j (List.mem_range.mpr h)
  rw [decide_eq_true_eq] at this
  exact this
theorem hz407k : (List.range 144).all (fun j => decide (dx_seg (dx_ce 407).iv (29 + j) = (0, 7))) = true := by decide +kernel
theorem hi407k (j : Nat) (h : j < 144) : dx_seg (dx_ce 407).iv (29 + j) = (0, 7) := by
  have := List.all_eq_true.mp hz407k j (List.mem_range.mpr h)
  rw [decide_eq_true_eq] at this
  exact this
/-- what the ground's copy and the images copy goes from like to like -/
def dx_tot : List (Nat × Int × Int) → Nat
  | [] => 0
  | q :: r => q.1 + dx_tot r
theorem dx_seg_ap : ∀ (l r : List (Nat × Int × Int)) (j : Nat), dx_seg (l ++ r) j = if j < dx_tot l then dx_seg l j else dx_seg r (j - dx_tot l)
  | [], r, j => by
    rw [if_neg (by unfold dx_tot; omega)]
    rfl
  | (c, lo, hi) :: l, r, j => by
    have ih := dx_seg_ap l r (j - c)
    show (if j < c then (lo, hi) else dx_seg (l ++ r) (j - c)) = if j < c + dx_tot l then (if j < c then (lo, hi) else dx_seg l (j - c)) else dx_seg r (j - (c + dx_tot l))
    by_cases e : j < c
    · rw [if_pos e, if_pos (by omega), if_pos e]
    · rw [if_neg e, ih]
      by_cases e2 : j < c + dx_tot l
      · rw [if_pos e2, if_pos (by omega), if_neg e]
      · rw [if_neg e2, if_neg (by omega), show j - c - dx_tot l = j - (c + dx_tot l) from by omega]
theorem dx_seg_0 : ∀ (l : List (Nat × Int × Int)) (j : Nat), (l.all fun q => decide (q.2.1 ≤ 0) && decide (0 ≤ q.2.2)) = true → dx_in (dx_seg l j) (0 : Int32).toInt
  | [], _, _ => ⟨show (-2147483648 : Int) ≤ (0 : Int32).toInt from by decide, show (0 : Int32).toInt ≤ (2147483647 : Int) from by decide⟩
  | (c, lo, hi) :: l, j, h => by
    rw [List.all_cons, Bool.and_eq_true, Bool.and_eq_true, decide_eq_true_eq, decide_eq_true_eq] at h
    show dx_in (if j < c then (lo, hi) else dx_seg l (j - c)) _
    by_cases e : j < c
    · rw [if_pos e]; exact h.1
    · rw [if_neg e]; exact dx_seg_0 l (j - c) h.2
theorem dx_seg_end : ∀ (l : List (Nat × Int × Int)) (j : Nat), dx_tot l ≤ j → dx_seg l j = dx_full
  | [], _, _ => rfl
  | (c, lo, hi) :: l, j, h => by
    have h2 : c + dx_tot l ≤ j := h
    show (if j < c then (lo, hi) else dx_seg l (j - c)) = dx_full
    rw [if_neg (by omega), dx_seg_end l (j - c) (by omega)]
theorem dx_seg_fl (l : List (Nat × Int × Int)) (c j : Nat) : dx_seg (l ++ [(c, -2147483648, 2147483647)]) j = dx_seg l j := by
  rw [dx_seg_ap]
  by_cases e : j < dx_tot l
  · rw [if_pos e]
  · rw [if_neg e, dx_seg_end l j (by omega)]
    show (if j - dx_tot l < c then dx_full else dx_full) = dx_full
    split <;> rfl
theorem hz7 : (dx_ce 406).iv = ((dx_ce 407).iv ++ [(48, -2147483648, 2147483647)]) ++ (dx_ce 406).iv.drop ((dx_ce 407).iv.length + 1) := by decide +kernel
theorem hz7t : dx_tot ((dx_ce 407).iv ++ [(48, -2147483648, 2147483647)]) = 221 := by decide +kernel
theorem hz70 : ((dx_ce 406).iv.all fun q => decide (q.2.1 ≤ 0) && decide (0 ≤ q.2.2)) = true := by decide +kernel
theorem hi7 (j : Nat) (h : j < 221) : dx_seg (dx_ce 406).iv j = dx_seg (dx_ce 407).iv j := by
  rw [hz7, dx_seg_ap, hz7t, if_pos h, dx_seg_fl]
theorem hi0 (j : Nat) (h : j < 1427) (h2 : ¬ j < 221) : dx_in (dx_seg (dx_ce 406).iv j) (0 : Int32).toInt := dx_seg_0 _ _ hz70
theorem hz32 : (dx_ce 432).iv = ((dx_ce 406).iv ++ [(432, -2147483648, 2147483647)]) ++ (dx_ce 406).iv := by decide +kernel
theorem hz32t : dx_tot ((dx_ce 406).iv ++ [(432, -2147483648, 2147483647)]) = 1427 := by decide +kernel
theorem hi32 (j : Nat) (h : j < 1427) : dx_seg (dx_ce 432).iv j = dx_seg (dx_ce 406).iv j ∧ dx_seg (dx_ce 432).iv (1427 + j) = dx_seg (dx_ce 406).iv j := by
  constructor
  · rw [hz32, dx_seg_ap, hz32t, if_pos h, dx_seg_fl]
  · rw [hz32, dx_seg_ap, hz32t, if_neg (by omega), Nat.add_sub_cancel_left]
theorem hz406h : (List.range 8).all (fun j => decide (dx_seg (dx_ce 406).iv (5 + j) = (0, 50)) && decide (dx_seg (dx_ce 407).iv (5 + j) = (0, 50))) = true := by decide +kernel
theorem hi406h (j : Nat) (h : j < 8) : dx_seg (dx_ce 406).iv (5 + j) = (0, 50) := by
  have := List.all_eq_true.mp hz406h j (List.mem_range.mpr h)
  rw [Bool.and_eq_true, decide_eq_true_eq, decide_eq_true_eq] at this
  exact this.1
theorem hi407h (j : Nat) (h : j < 8) : dx_seg (dx_ce 407).iv (5 + j) = (0, 50) := by
  have := List.all_eq_true.mp hz406h j (List.mem_range.mpr h)
  rw [Bool.and_eq_true, decide_eq_true_eq, decide_eq_true_eq] at this
  exact this.2
theorem hz406p : (List.range 90).all (fun j => decide (dx_seg (dx_ce 406).iv (804 + j) = (0, 144))) = true := by decide +kernel
theorem hi406p (j : Nat) (h : j < 90) : dx_seg (dx_ce 406).iv (804 + j) = (0, 144) := by
  have := List.all_eq_true.mp hz406p j (List.mem_range.mpr h)
  rw [decide_eq_true_eq] at this
  exact this
theorem q_octet {pr : Nat → dw_Op} {pc bc bs nx : Nat} {ls : dw_L} {st : List Value} {μ : dw_S} {x : Int32} (ho : pr pc = o_callV 12 2 0 0 t_X12_octet nx) (k1 : (μ.2.1 404).1 = 12) (r1 : (μ.2.1 404).2.2 1 = some 405) (k2 : (μ.2.1 405).1 = 18) (n2 : (μ.2.1 405).2.1 = 940) (hc : dw_cats st ≤ 8) (h0 : 0 ≤ x.toInt) (h1 : x.toInt < 940)
    (k : dw_ok pr nx bc bs ls (.int (μ.2.2.1 405 x.toInt.toNat &&& 255) :: st) μ) : dw_ok pr pc bc bs ls (.int x :: .ref 404 :: st) μ := by
  refine dw_ok.step ?_
  rw [ho]
  show (if (μ.2.1 404).1 = 12 ∧ [Value.int x].length + 1 = 2 ∧ dw_cats st ≤ 8 ∧ 0 ≤ bc ∧ 0 ≤ bs then t_X12_octet [.ref 404, .int x] μ (fun r μ' => dw_ok pr nx (bc - 0) (bs - 0) ls (r.toList ++ st) μ') else False)
  rw [if_pos ⟨k1, rfl, hc, Nat.zero_le _, Nat.zero_le _⟩]
  show dw_body 2 0 0 pr_X12_octet _ _ _
  unfold dw_body
  rw [if_pos (show (dw_inl [Value.ref 404, Value.int x]).length ≤ 2 from Nat.le_refl 2)]
  refine q_ald rfl rfl ?_
  refine q_getr rfl k1 r1 ?_
  refine q_ild rfl rfl ?_
  refine q_xald rfl (Or.inr (Or.inr rfl)) k2 n2 h0 h1 ?_
  refine q_ic rfl ?_
  refine q_and rfl ?_
  exact dw_ok.step k
