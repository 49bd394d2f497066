def dx_rq (m : Nat) (sh : dw_Sh) : Prop := (∀ a j, 57 ≤ j → (sh a).2.2 j = none) ∧ ∀ a, m ≤ a → sh a = (999, 0, fun _ => none)
theorem rq_nw {m n kd N : Nat} {sh : dw_Sh} (hn : n < m) (h : dx_rq m sh) : dx_rq m (sh_nw n sh kd N) := by
  refine ⟨fun a j hj => ?_, fun a ha => ?_⟩
  · unfold sh_nw
    by_cases e : a = n
    · rw [if_pos e]
    · rw [if_neg e]; exact h.1 a j hj
  · unfold sh_nw
    rw [if_neg (by omega)]
    exact h.2 a ha
theorem rq_nm {m n0 n k : Nat} {sh : dw_Sh} (hn : n0 + (1 + n) ≤ m) (hk : n ≤ 57) (h : dx_rq m sh) : dx_rq m (sh_nm n0 sh n k) := by
  refine ⟨fun a j hj => ?_, fun a ha => ?_⟩
  · unfold sh_nm
    by_cases e : a = n0
    · rw [if_pos e]; show (if j < n then _ else none) = none; rw [if_neg (by omega)]
    · rw [if_neg e]
      by_cases e2 : n0 < a ∧ a < n0 + (1 + n)
      · rw [if_pos e2]
      · rw [if_neg e2]; exact h.1 a j hj
  · unfold sh_nm
    rw [if_neg (by omega), if_neg (by omega)]
    exact h.2 a ha
theorem rq_sr {m a j : Nat} {x : Option Nat} {sh : dw_Sh} (ha : a < m) (hj : j < 57) (h : dx_rq m sh) : dx_rq m (sh_sr sh a j x) := by
  refine ⟨fun a' j' hj' => ?_, fun a' ha' => ?_⟩
  · unfold sh_sr
    by_cases e : a' = a
    · rw [if_pos e]; show (if j' = j then x else (sh a').2.2 j') = none; rw [if_neg (by omega)]; exact h.1 a' j' hj'
    · rw [if_neg e]; exact h.1 a' j' hj'
  · unfold sh_sr
    rw [if_neg (by omega)]
    exact h.2 a' ha'
theorem rq_X0 {m n a : Nat} {sh : dw_Sh} (hn : n + 5 ≤ m) (ha : a < m) (h : dx_rq m sh) : dx_rq m (f_X0_init n sh a) := by
  unfold f_X0_init
  exact (rq_sr (by omega) (by decide) (rq_nw (by omega) (rq_sr (by omega) (by decide) (rq_nw (by omega) (rq_sr (by omega) (by decide) (rq_nw (by omega) (rq_sr (by omega) (by decide) (rq_nw (by omega) (rq_sr (by omega) (by decide) (rq_nw (by omega) h))))))))))
theorem rq_X1 {m n a : Nat} {sh : dw_Sh} (hn : n + 21 ≤ m) (ha : a < m) (h : dx_rq m sh) : dx_rq m (f_X1_init n sh a) := by
  unfold f_X1_init
  exact (rq_sr (by omega) (by decide) (rq_nm (by omega) (by decide) (rq_sr (by omega) (by decide) (rq_nw (by omega) (rq_sr (by omega) (by decide) (rq_nw (by omega) (rq_sr (by omega) (by decide) (rq_X0 (by omega) (by omega) (rq_nw (by omega) h)))))))))
theorem rq_X2 {m n a : Nat} {sh : dw_Sh} (hn : n + 6 ≤ m) (ha : a < m) (h : dx_rq m sh) : dx_rq m (f_X2_init n sh a) := by
  unfold f_X2_init
  exact (rq_sr (by omega) (by decide) (rq_nm (by omega) (by decide) h))
theorem rq_X3 {m n a : Nat} {sh : dw_Sh} (hn : n + 7 ≤ m) (ha : a < m) (h : dx_rq m sh) : dx_rq m (f_X3_init n sh a) := by
  unfold f_X3_init
  exact (rq_sr (by omega) (by decide) (rq_X2 (by omega) (by omega) (rq_nw (by omega) h)))
theorem rq_X4 {m n a : Nat} {sh : dw_Sh} (hn : n + 1 ≤ m) (ha : a < m) (h : dx_rq m sh) : dx_rq m (f_X4_init n sh a) := by
  unfold f_X4_init
  exact (rq_sr (by omega) (by decide) (rq_nw (by omega) h))
theorem rq_X5 {m n a : Nat} {sh : dw_Sh} (hn : n + 31 ≤ m) (ha : a < m) (h : dx_rq m sh) : dx_rq m (f_X5_init n sh a) := by
  unfold f_X5_init
  exact (rq_sr (by omega) (by decide) (rq_nm (by omega) (by decide) h))
theorem rq_X6 {m n a : Nat} {sh : dw_Sh} (hn : n + 32 ≤ m) (ha : a < m) (h : dx_rq m sh) : dx_rq m (f_X6_init n sh a) := by
  unfold f_X6_init
  exact (rq_sr (by omega) (by decide) (rq_X5 (by omega) (by omega) (rq_nw (by omega) h)))
theorem rq_X7 {m n a : Nat} {sh : dw_Sh} (hn : n + 14 ≤ m) (ha : a < m) (h : dx_rq m sh) : dx_rq m (f_X7_init n sh a) := by
  unfold f_X7_init
  exact (rq_sr (by omega) (by decide) (rq_nw (by omega) (rq_sr (by omega) (by decide) (rq_nw (by omega) (rq_sr (by omega) (by decide) (rq_nw (by omega) (rq_sr (by omega) (by decide) (rq_nw (by omega) (rq_sr (by omega) (by decide) (rq_nw (by omega) (rq_sr (by omega) (by decide) (rq_nw (by omega) (rq_sr (by omega) (by decide) (rq_nw (by omega) (rq_sr (by omega) (by decide) (rq_X2 (by omega) (by omega) (rq_nw (by omega) h)))))))))))))))))
theorem rq_X8 {m n a : Nat} {sh : dw_Sh} (hn : n + 96 ≤ m) (ha : a < m) (h : dx_rq m sh) : dx_rq m (f_X8_init n sh a) := by
  unfold f_X8_init
  exact (rq_sr (by omega) (by decide) (rq_X2 (by omega) (by omega) (rq_nw (by omega) (rq_sr (by omega) (by decide) (rq_X2 (by omega) (by omega) (rq_nw (by omega) (rq_sr (by omega) (by decide) (rq_X2 (by omega) (by omega) (rq_nw (by omega) (rq_sr (by omega) (by decide) (rq_X2 (by omega) (by omega) (rq_nw (by omega) (rq_sr (by omega) (by decide) (rq_X2 (by omega) (by omega) (rq_nw (by omega) (rq_sr (by omega) (by decide) (rq_X2 (by omega) (by omega) (rq_nw (by omega) (rq_sr (by omega) (by decide) (rq_X7 (by omega) (by omega) (rq_nw (by omega) (rq_sr (by omega) (by decide) (rq_X5 (by omega) (by omega) (rq_nw (by omega) (rq_sr (by omega) (by decide) (rq_nw (by omega) (rq_sr (by omega) (by decide) (rq_X0 (by omega) (by omega) (rq_nw (by omega) h)))))))))))))))))))))))))))))
theorem rq_X9 {m n a : Nat} {sh : dw_Sh} (hn : n + 1 ≤ m) (ha : a < m) (h : dx_rq m sh) : dx_rq m (f_X9_init n sh a) := by
  unfold f_X9_init
  exact (rq_sr (by omega) (by decide) (rq_nw (by omega) h))
theorem rq_X10 {m n a : Nat} {sh : dw_Sh} (hn : n + 6 ≤ m) (ha : a < m) (h : dx_rq m sh) : dx_rq m (f_X10_init n sh a) := by
  unfold f_X10_init
  exact (rq_sr (by omega) (by decide) (rq_nw (by omega) (rq_sr (by omega) (by decide) (rq_nw (by omega) (rq_sr (by omega) (by decide) (rq_nw (by omega) (rq_sr (by omega) (by decide) (rq_nw (by omega) (rq_sr (by omega) (by decide) (rq_nw (by omega) (rq_sr (by omega) (by decide) (rq_nw (by omega) h))))))))))))
theorem rq_X11 {m n a : Nat} {sh : dw_Sh} (hn : n + 403 ≤ m) (ha : a < m) (h : dx_rq m sh) : dx_rq m (f_X11_init n sh a) := by
  unfold f_X11_init
  exact (rq_sr (by omega) (by decide) (rq_X8 (by omega) (by omega) (rq_nw (by omega) (rq_sr (by omega) (by decide) (rq_X8 (by omega) (by omega) (rq_nw (by omega) (rq_sr (by omega) (by decide) (rq_nw (by omega) (rq_sr (by omega) (by decide) (rq_nw (by omega) (rq_sr (by omega) (by decide) (rq_nm (by omega) (by decide) (rq_sr (by omega) (by decide) (rq_nw (by omega) (rq_sr (by omega) (by decide) (rq_X4 (by omega) (by omega) (rq_nw (by omega) (rq_sr (by omega) (by decide) (rq_X10 (by omega) (by omega) (rq_nw (by omega) (rq_sr (by omega) (by decide) (rq_X7 (by omega) (by omega) (rq_nw (by omega) (rq_sr (by omega) (by decide) (rq_X7 (by omega) (by omega) (rq_nw (by omega) (rq_sr (by omega) (by decide) (rq_X6 (by omega) (by omega) (rq_nw (by omega) (rq_sr (by omega) (by decide) (rq_X3 (by omega) (by omega) (rq_nw (by omega) (rq_sr (by omega) (by decide) (rq_X1 (by omega) (by omega) (rq_nw (by omega) (rq_sr (by omega) (by decide) (rq_nw (by omega) (rq_sr (by omega) (by decide) (rq_X8 (by omega) (by omega) (rq_nw (by omega) (rq_sr (by omega) (by decide) (rq_X9 (by omega) (by omega) (rq_nw (by omega) h)))))))))))))))))))))))))))))))))))))))))))
theorem rq_X12 {m n a : Nat} {sh : dw_Sh} (hn : n + 29 ≤ m) (ha : a < m) (h : dx_rq m sh) : dx_rq m (f_X12_init n sh a) := by
  unfold f_X12_init
  exact (rq_sr (by omega) (by decide) (rq_nw (by omega) (rq_sr (by omega) (by decide) (rq_nw (by omega) (rq_sr (by omega) (by decide) (rq_nw (by omega) (rq_sr (by omega) (by decide) (rq_nw (by omega) (rq_sr (by omega) (by decide) (rq_nw (by omega) (rq_sr (by omega) (by decide) (rq_nw (by omega) (rq_sr (by omega) (by decide) (rq_nw (by omega) (rq_sr (by omega) (by decide) (rq_nw (by omega) (rq_sr (by omega) (by decide) (rq_nw (by omega) (rq_sr (by omega) (by decide) (rq_nw (by omega) (rq_sr (by omega) (by decide) (rq_nw (by omega) (rq_sr (by omega) (by decide) (rq_nw (by omega) (rq_sr (by omega) (by decide) (rq_nw (by omega) (rq_sr (by omega) (by decide) (rq_nw (by omega) (rq_sr (by omega) (by decide) (rq_nw (by omega) (rq_sr (by omega) (by decide) (rq_nw (by omega) (rq_sr (by omega) (by decide) (rq_nw (by omega) (rq_sr (by omega) (by decide) (rq_nw (by omega) (rq_sr (by omega) (by decide) (rq_nw (by omega) (rq_sr (by omega) (by decide) (rq_nw (by omega) (rq_sr (by omega) (by decide) (rq_nw (by omega) (rq_sr (by omega) (by decide) (rq_nw (by omega) (rq_sr (by omega) (by decide) (rq_nw (by omega) (rq_sr (by omega) (by decide) (rq_nw (by omega) (rq_sr (by omega) (by decide) (rq_nw (by omega) (rq_sr (by omega) (by decide) (rq_nw (by omega) (rq_sr (by omega) (by decide) (rq_nw (by omega) (rq_sr (by omega) (by decide) (rq_nw (by omega) (rq_sr (by omega) (by decide) (rq_nw (by omega) h))))))))))))))))))))))))))))))))))))))))))))))))))))))))))
theorem rq_SH1 : dx_rq 435 SH1 := rq_nw (by decide) (rq_X12 (by decide) (by decide) (rq_nw (by decide) (rq_X11 (by decide) (by decide) (rq_nw (by decide) ⟨fun _ _ _ => rfl, fun _ _ => rfl⟩))))
theorem sh_dec : (List.range 435).all (fun a => decide ((SH1 a).1 = (dx_ce a).k) && decide ((SH1 a).2.1 = (dx_ce a).n) && (List.range 57).all (fun j => decide ((SH1 a).2.2 j = ((dx_ce a).rf[j]?).join))) = true := by decide +kernel
theorem ce_len : (List.range 435).all (fun a => Nat.ble (dx_ce a).rf.length 57) = true := by decide +kernel
theorem dx_tr_ge {α : Type} {k n : Nat} {a b : Nat → α} (h : k ≤ n) : dx_tr k a b n = b n := by
  unfold dx_tr
  rw [Nat.ble_eq_true_of_le h]
  rfl
theorem ce_ge {a : Nat} (h : 435 ≤ a) : dx_ce a = ⟨999, 0, [], []⟩ := by
  have t : ∀ {k : Nat} {x y : Nat → dx_C}, k ≤ 435 → dx_tr k x y a = y a := fun hk => dx_tr_ge (by omega)
  exact (Eq.trans (t (by decide)) (Eq.trans (t (by decide)) (Eq.trans (t (by decide)) (Eq.trans (t (by decide)) (Eq.trans (t (by decide)) (Eq.trans (t (by decide)) (Eq.trans (t (by decide)) (Eq.trans (t (by decide)) (t (by decide))))))))))
theorem hEE : XE.ok := by
  refine ⟨fun a => ?_, fun f x I I' e h => fl_fp e h⟩
  show (SH1 a).1 = (dx_ce a).k ∧ (SH1 a).2.1 = (dx_ce a).n ∧ ∀ j, (SH1 a).2.2 j = ((dx_ce a).rf[j]?).join
  by_cases ha : a < 435
  · have h1 := List.all_eq_true.mp sh_dec a (List.mem_range.mpr ha)
    rw [Bool.and_eq_true, Bool.and_eq_true, decide_eq_true_eq, decide_eq_true_eq] at h1
    refine ⟨h1.1.1, h1.1.2, fun j => ?_⟩
    by_cases hj : j < 57
    · have h2 := List.all_eq_true.mp h1.2 j (List.mem_range.mpr hj)
      rw [decide_eq_true_eq] at h2
      exact h2
    · rw [rq_SH1.1 a j (by omega)]
      have h3 := Nat.le_of_ble_eq_true (List.all_eq_true.mp ce_len a (List.mem_range.mpr ha))
      rw [List.getElem?_eq_none (by omega)]
      rfl
  · rw [ce_ge (by omega), rq_SH1.2 a (by omega)]
    exact ⟨rfl, rfl, fun j => rfl⟩
