/-! ===== stops at a lookupswitch and at calls that may throw ===== -/
theorem dw_okL {pr : Nat → dw_Op} {pc bc bs df tg : Nat} {ps : List (Int × Nat)} {ls : dw_L} {st : List Value} {μ : dw_S} {x : Int32} (ho : pr pc = o_look ps df) (hx : dw_pick x.toInt df ps = tg) (h : dw_ok pr tg bc bs ls st μ) : dw_ok pr pc bc bs ls (.int x :: st) μ := by
  refine dw_run 0 (fun _ => false) ?_
  rw [ho]
  show dw_ok pr (dw_pick x.toInt df ps) bc bs ls st μ
  rw [hx]
  exact h
theorem dw_okX {pr : Nat → dw_Op} {pc bc bs : Nat} {ls : dw_L} {st : List Value} {μ : dw_S} {ci k mc ms nx a : Nat} {T : List Value → dw_S → dw_K → (dw_S → Prop) → Prop} {K : dw_K} {as rest : List Value} (ho : pr pc = o_callX ci k mc ms T K nx) (h : dw_sp k st [] = (.ref a :: as, rest)) (h1 : (μ.2.1 a).1 = ci) (h2 : as.length + 1 = k) (h3 : dw_cats rest ≤ 8) (h4 : Nat.ble mc bc = true) (h5 : Nat.ble ms bs = true) (hT : T (.ref a :: as) μ (fun r μ' => dw_ok pr nx (bc - mc) (bs - ms) ls (r.toList ++ rest) μ') (fun μ' => K (some (.int 1)) μ')) : dw_ok pr pc bc bs ls st μ := by
  refine dw_run 0 (fun _ => false) ?_
  rw [ho]
  unfold o_callX
  rw [h]
  exact dw_itp ⟨h1, h2, h3, Nat.le_of_ble_eq_true h4, Nat.le_of_ble_eq_true h5⟩ hT
theorem dw_tr8 {x : Int32} (h : 7 < x) : 4 < x := by
  simp only [Int32.lt_iff_toInt_lt] at h ⊢
  rw [show (7 : Int32).toInt = 7 from rfl] at h
  rw [show (4 : Int32).toInt = 4 from rfl]
  omega
theorem dw_nm1 {x : Int32} (h : 0 ≤ x) : ¬ x ≤ -1 := by
  simp only [Int32.le_iff_toInt_le] at h ⊢
  rw [show (0 : Int32).toInt = 0 from rfl] at h
  rw [show (-1 : Int32).toInt = -1 from rfl]
  omega
theorem dw_nm2 {x : Int32} (h : 0 ≤ x) : -1 < x := by
  simp only [Int32.le_iff_toInt_le, Int32.lt_iff_toInt_lt] at h ⊢
  rw [show (0 : Int32).toInt = 0 from rfl] at h
  rw [show (-1 : Int32).toInt = -1 from rfl]
  omega

theorem rC_X11_cameAt {K : dw_K} {pc bc bs : Nat} {ls : dw_L} {st : List Value} {μ : dw_S} (h : ∀ B : dw_B, (∀ pc bc bs ls st μ, dw_ok (pr_X11_cameAt K) pc bc bs ls st μ → B pc bc bs ls st μ) → (pr_X11_cameAt K) pc (dw_go (pr_X11_cameAt K) (fun pc => [1].any (Nat.beq pc)) B 1500) bc bs ls st μ) : dw_ok (pr_X11_cameAt K) pc bc bs ls st μ := dw_runB 1500 _ h
theorem rC_L_cell {K : dw_K} {pc bc bs : Nat} {ls : dw_L} {st : List Value} {μ : dw_S} (h : ∀ B : dw_B, (∀ pc bc bs ls st μ, dw_ok (pr_L_cell K) pc bc bs ls st μ → B pc bc bs ls st μ) → (pr_L_cell K) pc (dw_go (pr_L_cell K) (fun pc => [7].any (Nat.beq pc)) B 1500) bc bs ls st μ) : dw_ok (pr_L_cell K) pc bc bs ls st μ := dw_runB 1500 _ h
theorem rC_L_is {K : dw_K} {pc bc bs : Nat} {ls : dw_L} {st : List Value} {μ : dw_S} (h : ∀ B : dw_B, (∀ pc bc bs ls st μ, dw_ok (pr_L_is K) pc bc bs ls st μ → B pc bc bs ls st μ) → (pr_L_is K) pc (dw_go (pr_L_is K) (fun pc => [7].any (Nat.beq pc)) B 1500) bc bs ls st μ) : dw_ok (pr_L_is K) pc bc bs ls st μ := dw_runB 1500 _ h
theorem rC_X11_cell {n0 : Nat} {Kx : dw_S → Prop} {K : dw_K} {pc bc bs : Nat} {ls : dw_L} {st : List Value} {μ : dw_S} (h : ∀ B : dw_B, (∀ pc bc bs ls st μ, dw_ok (pr_X11_cell n0 K Kx) pc bc bs ls st μ → B pc bc bs ls st μ) → (pr_X11_cell n0 K Kx) pc (dw_go (pr_X11_cell n0 K Kx) (fun pc => [9, 29, 49].any (Nat.beq pc)) B 1500) bc bs ls st μ) : dw_ok (pr_X11_cell n0 K Kx) pc bc bs ls st μ := dw_runB 1500 _ h
theorem rT_X11_cell {n0 : Nat} {Kx : dw_S → Prop} {K : dw_K} {bc bs : Nat} {ls : dw_L} {st : List Value} {μ : dw_S} (h1 : n0 ≤ μ.1) (h2 : Nat.ble 1 bc = true) (h3 : Nat.ble 6 bs = true) (h4 : dw_cats st ≤ 8) (h : ∀ n2, μ.1 ≤ n2 → Kx (n2, μ.2)) : dw_ok (pr_X11_cell n0 K Kx) 29 bc bs ls st μ := by
  refine dw_run 0 (fun _ => false) ?_
  exact dw_itp ⟨h1, Nat.le_of_ble_eq_true h2, Nat.le_of_ble_eq_true h3, h4⟩ h
theorem rC_X11_is {n0 : Nat} {Kx : dw_S → Prop} {K : dw_K} {pc bc bs : Nat} {ls : dw_L} {st : List Value} {μ : dw_S} (h : ∀ B : dw_B, (∀ pc bc bs ls st μ, dw_ok (pr_X11_is n0 K Kx) pc bc bs ls st μ → B pc bc bs ls st μ) → (pr_X11_is n0 K Kx) pc (dw_go (pr_X11_is n0 K Kx) (fun pc => [9, 42, 65, 80].any (Nat.beq pc)) B 1500) bc bs ls st μ) : dw_ok (pr_X11_is n0 K Kx) pc bc bs ls st μ := dw_runB 1500 _ h
theorem rT_X11_is {n0 : Nat} {Kx : dw_S → Prop} {K : dw_K} {bc bs : Nat} {ls : dw_L} {st : List Value} {μ : dw_S} (h1 : n0 ≤ μ.1) (h2 : Nat.ble 1 bc = true) (h3 : Nat.ble 6 bs = true) (h4 : dw_cats st ≤ 8) (h : ∀ n2, μ.1 ≤ n2 → Kx (n2, μ.2)) : dw_ok (pr_X11_is n0 K Kx) 42 bc bs ls st μ := by
  refine dw_run 0 (fun _ => false) ?_
  exact dw_itp ⟨h1, Nat.le_of_ble_eq_true h2, Nat.le_of_ble_eq_true h3, h4⟩ h
theorem okX_L_cell {K : dw_K} {bc bs : Nat} {ls : dw_L} {st : List Value} {μ : dw_S} {a : Nat} {as rest : List Value} (h : dw_sp 4 st [] = (.ref a :: as, rest)) (h1 : (μ.2.1 a).1 = 11) (h2 : as.length + 1 = 4) (h3 : dw_cats rest ≤ 8) (h4 : Nat.ble 1 bc = true) (h5 : Nat.ble 6 bs = true) (hT : t_X11_cell (.ref a :: as) μ (fun r μ' => dw_ok (pr_L_cell K) 10 (bc - 1) (bs - 6) ls (r.toList ++ rest) μ') (fun μ' => K (some (.int 1)) μ')) : dw_ok (pr_L_cell K) 7 bc bs ls st μ := dw_okX (K := K) (T := t_X11_cell) (ci := 11) (k := 4) (mc := 1) (ms := 6) (nx := 10) (show pr_L_cell K 7 = o_callX 11 4 1 6 t_X11_cell K 10 from rfl) h h1 h2 h3 h4 h5 hT
theorem okX_L_is {K : dw_K} {bc bs : Nat} {ls : dw_L} {st : List Value} {μ : dw_S} {a : Nat} {as rest : List Value} (h : dw_sp 4 st [] = (.ref a :: as, rest)) (h1 : (μ.2.1 a).1 = 11) (h2 : as.length + 1 = 4) (h3 : dw_cats rest ≤ 8) (h4 : Nat.ble 1 bc = true) (h5 : Nat.ble 6 bs = true) (hT : t_X11_is (.ref a :: as) μ (fun r μ' => dw_ok (pr_L_is K) 10 (bc - 1) (bs - 6) ls (r.toList ++ rest) μ') (fun μ' => K (some (.int 1)) μ')) : dw_ok (pr_L_is K) 7 bc bs ls st μ := dw_okX (K := K) (T := t_X11_is) (ci := 11) (k := 4) (mc := 1) (ms := 6) (nx := 10) (show pr_L_is K 7 = o_callX 11 4 1 6 t_X11_is K 10 from rfl) h h1 h2 h3 h4 h5 hT
