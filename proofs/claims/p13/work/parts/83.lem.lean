/-! ===== what the pieces need more ===== -/
theorem up_fr2 {μ : dw_S} {a j j2 : Nat} {x x2 : Int32} {md : List Nat} (hm : a ∈ md) : ∀ a', a' ∉ md → (dw_si (dw_si μ a j x) a j2 x2).2.2.1 a' = μ.2.2.1 a' ∧ (dw_si (dw_si μ a j x) a j2 x2).2.2.2 a' = μ.2.2.2 a' :=
  fun a' hn => ⟨(up_fr (μ := dw_si μ a j x) (j := j2) (x := x2) hm a' hn).1.trans (up_fr (μ := μ) (j := j) (x := x) hm a' hn).1, rfl⟩
theorem up_keep {f a j : Nat} {x : Int} {v : Int32} {I : Nat → Nat → Int32} (lo hi : Nat) (h1 : lo ≤ j) (h2 : j ≤ hi) (hc : (fl_s f).all (fun q => q.1 != a || decide (hi < q.2.1) || decide (q.2.2 < lo)) = true) (h : fl_P f x I) : fl_P f x (dw_up I a j v) := by
  refine fl_fp (fun q hq i hi1 hi2 => up_ne ?_) h
  have := List.all_eq_true.mp hc q hq
  rw [Bool.or_eq_true, Bool.or_eq_true, decide_eq_true_eq, decide_eq_true_eq, bne_iff_ne] at this
  rcases this with (e | e) | e
  · exact Or.inl e
  · exact Or.inr (by omega)
  · exact Or.inr (by omega)
theorem fl_rp {c : Nat} (hc : c ≤ 30) {x : Int} {I : Nat → Nat → Int32} : fl_P (100 + c) x I ↔ ∀ i : Nat, i < c → (I 408 (1 + 3 * i)).toInt ≠ 0 → (I 408 (2 + 3 * i)).toInt ≤ 143 ∧ 1 ≤ (I 406 0).toInt := by
  unfold fl_P
  split
  case h_23 => rw [if_pos ⟨by omega, by omega⟩, Nat.add_sub_cancel_left]
  all_goals (exfalso; omega)
theorem fl_oc2 {j : Nat} (hj : j ≤ 15) {x : Int} {I : Nat → Nat → Int32} : fl_P (200 + j) x I ↔ x = fl_oc I j := by
  unfold fl_P
  split
  case h_23 => rw [if_neg (by omega), if_pos ⟨by omega, by omega⟩, Nat.add_sub_cancel_left]
  all_goals (exfalso; omega)
theorem pl_end {c : Nat} (hc : c ≤ 30) {x y : Int} {I : Nat → Nat → Int32} (h0 : (I 408 0).toInt = c) (hx : x = 3 * c + 1) (hp : fl_P 23 x I) (hr : fl_P (100 + c) y I) : fl_pl 406 0 I := by
  rw [fl_rp hc] at hr
  have hp' : ∀ j : Nat, j < 91 → (j : Int) < x → I 406 (803 + j) = I 408 j := hp
  intro i hi h1 h2
  rw [Nat.zero_add] at h1 h2 ⊢
  have e0 := hp' 0 (by omega) (by omega)
  rw [show 803 = 803 + 0 from rfl, e0, h0] at h1
  have e1 := hp' (1 + 3 * i) (by omega) (by omega)
  have e2 := hp' (2 + 3 * i) (by omega) (by omega)
  rw [show 804 + 3 * i = 803 + (1 + 3 * i) by omega, e1] at h2
  rw [show 805 + 3 * i = 803 + (2 + 3 * i) by omega, e2]
  exact hr i (by omega) h2
theorem rp_on {c : Nat} (hc : c + 1 ≤ 30) {x y : Int} {I : Nat → Nat → Int32} (h : fl_P (100 + c) x I) (h0 : (I 408 (1 + 3 * c)).toInt = 0) : fl_P (100 + (c + 1)) y I := by
  rw [fl_rp (by omega)] at h
  rw [fl_rp hc]
  intro i hi h1
  by_cases e : i = c
  · rw [e] at h1; exact absurd h0 h1
  · exact h i (by omega) h1
theorem rp_off {c : Nat} (hc : c + 1 ≤ 30) {x y : Int} {I : Nat → Nat → Int32} (h : fl_P (100 + c) x I) (h0 : (I 408 (2 + 3 * c)).toInt ≤ 143) (h2 : 1 ≤ (I 406 0).toInt) : fl_P (100 + (c + 1)) y I := by
  rw [fl_rp (by omega)] at h
  rw [fl_rp hc]
  intro i hi h1
  by_cases e : i = c
  · rw [e]; exact ⟨h0, h2⟩
  · exact h i (by omega) h1
theorem pq_in {c : Nat} (hc : c ≤ 30) {x y : Int} {I : Nat → Nat → Int32} (hx : x = c) (h : fl_P 25 x I) : fl_P (100 + c) y I := by
  have h' : ∀ i : Nat, (i : Int) < x → i < 30 → (I 408 (1 + 3 * i)).toInt ≠ 0 → (I 408 (2 + 3 * i)).toInt ≤ 143 ∧ 1 ≤ (I 406 0).toInt := h
  rw [fl_rp hc]
  exact fun i hi => h' i (by omega) (by omega)
theorem pq_of {c : Nat} (hc : c ≤ 30) {x y : Int} {I : Nat → Nat → Int32} (hx : x = c) (h : fl_P (100 + c) y I) : fl_P 25 x I := by
  rw [fl_rp hc] at h
  exact (fun i hi _ => h i (by omega) : ∀ i : Nat, (i : Int) < x → i < 30 → (I 408 (1 + 3 * i)).toInt ≠ 0 → (I 408 (2 + 3 * i)).toInt ≤ 143 ∧ 1 ≤ (I 406 0).toInt)
theorem wk_copy {a o a' o' : Nat} {I I' : Nat → Nat → Int32} (h : ∀ j : Nat, j < 894 → I' a' (o' + j) = I a (o + j)) (g : fl_wk a o I) : fl_wk a' o' I' := by
  obtain ⟨g1, g2, g3⟩ := g
  refine ⟨fun k hk hx => ?_, fun c hc => ?_, fun hr => ?_⟩
  · rw [h 2 (by omega)] at hx
    rw [Nat.add_assoc, h (5 + k) (by omega), ← Nat.add_assoc]
    exact g1 k hk hx
  · rw [Nat.add_assoc, h (29 + c) (by omega), h 2 (by omega), ← Nat.add_assoc]
    exact g2 c hc
  · rw [h 1 (by omega)] at hr
    rw [h 2 (by omega)]
    exact g3 hr
theorem pl_copy {a o a' o' : Nat} {I I' : Nat → Nat → Int32} (h : ∀ j : Nat, j < 894 → I' a' (o' + j) = I a (o + j)) (g : fl_pl a o I) : fl_pl a' o' I' := by
  intro i hi h1 h2
  rw [h 803 (by omega)] at h1
  rw [Nat.add_assoc, h (804 + 3 * i) (by omega), ← Nat.add_assoc] at h2
  rw [Nat.add_assoc, h (805 + 3 * i) (by omega), ← Nat.add_assoc, show o' = o' + 0 from rfl, h 0 (by omega)]
  exact g i hi h1 h2
theorem hi803 : dx_seg (dx_ce 406).iv 803 = (0, 30) := by decide +kernel
theorem hz408 : (List.range 91).all (fun j => decide (dx_seg (dx_ce 408).iv j = (0, 144))) = true := by decide +kernel
theorem hi408 (j : Nat) (h : j < 91) : dx_seg (dx_ce 408).iv j = (0, 144) := by
  have := List.all_eq_true.mp hz408 j (List.mem_range.mpr h)
  rw [decide_eq_true_eq] at this
  exact this
theorem hz425 : (List.range 144).all (fun j => decide (dx_seg (dx_ce 425).iv j = (-2147483648, 2147483647))) = true := by decide +kernel
theorem hi425 (j : Nat) (h : j < 144) (x : Int32) : dx_in (dx_seg (dx_ce 425).iv j) x.toInt := by
  have := List.all_eq_true.mp hz425 j (List.mem_range.mpr h)
  rw [decide_eq_true_eq] at this
  rw [this]
  exact ⟨dx_b1 x, dx_b2 x⟩
