section
/-! ===== the two calls that throw ===== -/
theorem k_0 {μ : dw_S} (h : INV μ) : (μ.2.1 0).1 = 11 := by rw [h.1]; exact (shE 0).1
theorem k_404 {μ : dw_S} (h : INV μ) : (μ.2.1 404).1 = 12 := by rw [h.1]; exact (shE 404).1
/-- what cellAt answers -/
def fc_at (W H x y : Int32) : Int32 := if 0 ≤ x.toInt ∧ x.toInt < W.toInt ∧ 0 ≤ y.toInt ∧ y.toInt < H.toInt then y * W + x else -1
theorem cl_X0_cellAt {a : Nat} {x y : Int32} {μ : dw_S} {K : dw_K} (k : (μ.2.1 a).1 = 0) (hk : K (some (.int (fc_at (μ.2.2.1 a 0) (μ.2.2.1 a 1) x y))) μ) : t_X0_cellAt [.ref a, .int x, .int y] μ K := by
  refine q_body (Nat.le_refl 3) ?_
  refine q_ild rfl rfl ?_
  refine q_if (c := 2) rfl (by decide) (fun h1 => ?_) (fun h1 => ?_)
  · have h1' : x.toInt < 0 := h1
    have e : fc_at (μ.2.2.1 a 0) (μ.2.2.1 a 1) x y = -1 := if_neg (by omega)
    rw [e] at hk
    refine q_ic rfl ?_
    exact q_iret rfl hk
  have h1' : 0 ≤ x.toInt := h1
  refine q_ild rfl rfl ?_
  refine q_ald rfl rfl ?_
  refine q_geti rfl k ?_
  refine q_icmp (c := 3) rfl (by decide) (fun h2 => ?_) (fun h2 => ?_)
  · have h2' : (μ.2.2.1 a 0).toInt ≤ x.toInt := h2
    have e : fc_at (μ.2.2.1 a 0) (μ.2.2.1 a 1) x y = -1 := if_neg (by omega)
    rw [e] at hk
    refine q_ic rfl ?_
    exact q_iret rfl hk
  have h2' : x.toInt < (μ.2.2.1 a 0).toInt := h2
  refine q_ild rfl rfl ?_
  refine q_if (c := 2) rfl (by decide) (fun h3 => ?_) (fun h3 => ?_)
  · have h3' : y.toInt < 0 := h3
    have e : fc_at (μ.2.2.1 a 0) (μ.2.2.1 a 1) x y = -1 := if_neg (by omega)
    rw [e] at hk
    refine q_ic rfl ?_
    exact q_iret rfl hk
  have h3' : 0 ≤ y.toInt := h3
  refine q_ild rfl rfl ?_
  refine q_ald rfl rfl ?_
  refine q_geti rfl k ?_
  refine q_icmp (c := 3) rfl (by decide) (fun h4 => ?_) (fun h4 => ?_)
  · have h4' : (μ.2.2.1 a 1).toInt ≤ y.toInt := h4
    have e : fc_at (μ.2.2.1 a 0) (μ.2.2.1 a 1) x y = -1 := if_neg (by omega)
    rw [e] at hk
    refine q_ic rfl ?_
    exact q_iret rfl hk
  have h4' : y.toInt < (μ.2.2.1 a 1).toInt := h4
  have e : fc_at (μ.2.2.1 a 0) (μ.2.2.1 a 1) x y = y * (μ.2.2.1 a 0) + x := if_pos (by omega)
  rw [e] at hk
  refine q_ild rfl rfl ?_
  refine q_ald rfl rfl ?_
  refine q_geti rfl k ?_
  refine q_mul rfl ?_
  refine q_ild rfl rfl ?_
  refine q_add rfl ?_
  refine q_goto rfl ?_
  exact q_iret rfl hk
theorem cl_X0_ofKind {g a : Nat} {k : Int32} {μ : dw_S} {K : dw_K} (ha : (μ.2.1 a).1 = 16) (hn : (μ.2.1 a).2.1 = 8) (hk : ∀ w, K (some (.int w)) μ) : t_X0_ofKind [.ref g, .ref a, .int k] μ K := by
  have c8 : (Int32.ofNat 8).toInt = 8 := rfl
  refine q_body (Nat.le_refl 3) ?_
  refine q_ild rfl rfl ?_
  refine q_if (c := 2) rfl (by decide) (fun h1 => ?_) (fun h1 => ?_)
  · refine q_ic rfl ?_
    exact q_iret rfl (hk _)
  have h1' : 0 ≤ k.toInt := h1
  refine q_ild rfl rfl ?_
  refine q_ald rfl rfl ?_
  refine q_alen rfl (by rw [ha]; decide) (by rw [ha]; decide) ?_
  refine q_icmp (c := 3) rfl (by decide) (fun h2 => ?_) (fun h2 => ?_)
  · refine q_ic rfl ?_
    exact q_iret rfl (hk _)
  have h2' : k.toInt < (Int32.ofNat (μ.2.1 a).2.1).toInt := h2
  rw [hn] at h2'
  refine q_ald rfl rfl ?_
  refine q_ild rfl rfl ?_
  refine q_xald rfl (Or.inl rfl) ha hn h1' (by omega) ?_
  refine q_goto rfl ?_
  exact q_iret rfl (hk _)
theorem cl_X0_tell {c t : Int32} {μ : dw_S} {K : dw_K} (hS : μ.2.1 = SH1) (hk : ∀ w, K (some (.int w)) μ) : t_X0_tell [.ref 4, .int c, .int t] μ K := by
  have c144 : (144 : Int32).toInt = 144 := rfl
  have k4 : (μ.2.1 4).1 = 0 := by rw [hS]; exact (shE 4).1
  have r5 : (μ.2.1 4).2.2 5 = some 5 := by rw [hS]; exact (shE 4).2.2 5
  have r6 : (μ.2.1 4).2.2 6 = some 6 := by rw [hS]; exact (shE 4).2.2 6
  have r7 : (μ.2.1 4).2.2 7 = some 7 := by rw [hS]; exact (shE 4).2.2 7
  have r8 : (μ.2.1 4).2.2 8 = some 8 := by rw [hS]; exact (shE 4).2.2 8
  have r9 : (μ.2.1 4).2.2 9 = some 9 := by rw [hS]; exact (shE 4).2.2 9
  have a5 : (μ.2.1 5).1 = 16 := by rw [hS]; exact (shE 5).1
  have a6 : (μ.2.1 6).1 = 16 := by rw [hS]; exact (shE 6).1
  have a7 : (μ.2.1 7).1 = 16 := by rw [hS]; exact (shE 7).1
  have a8 : (μ.2.1 8).1 = 16 := by rw [hS]; exact (shE 8).1
  have a9 : (μ.2.1 9).1 = 16 := by rw [hS]; exact (shE 9).1
  have n5 : (μ.2.1 5).2.1 = 8 := by rw [hS]; exact (shE 5).2.1
  have n6 : (μ.2.1 6).2.1 = 8 := by rw [hS]; exact (shE 6).2.1
  have n7 : (μ.2.1 7).2.1 = 8 := by rw [hS]; exact (shE 7).2.1
  have n8 : (μ.2.1 8).2.1 = 144 := by rw [hS]; exact (shE 8).2.1
  have n9 : (μ.2.1 9).2.1 = 144 := by rw [hS]; exact (shE 9).2.1
  refine q_body (Nat.le_refl 3) ?_
  refine q_ild rfl rfl ?_
  refine q_if (c := 2) rfl (by decide) (fun h1 => ?_) (fun h1 => ?_)
  · refine q_ic rfl ?_
    exact q_iret rfl (hk _)
  have h1' : 0 ≤ c.toInt := h1
  refine q_ild rfl rfl ?_
  refine q_ic rfl ?_
  refine q_icmp (c := 2) rfl (by decide) (fun h2 => ?_) (fun h2 => ?_)
  rotate_left
  · refine q_ic rfl ?_
    exact q_iret rfl (hk _)
  have h2' : c.toInt < (144 : Int32).toInt := h2
  refine q_ild rfl rfl ?_
  refine q_tab rfl (fun h3 => ?_) (fun h3 => ?_)
  · refine q_ald rfl rfl ?_
    refine q_ald rfl rfl ?_
    refine q_getr rfl k4 r7 ?_
    refine q_ald rfl rfl ?_
    refine q_getr rfl k4 r8 ?_
    refine q_ild rfl rfl ?_
    refine q_xald rfl (Or.inl rfl) a8 n8 h1' (by omega) ?_
    refine q_callV (as := [.ref 7, .int (μ.2.2.1 8 c.toInt.toNat)]) (rest := []) rfl rfl k4 rfl (Nat.le_of_ble_eq_true rfl) ?_
    refine cl_X0_ofKind a7 n7 (fun w => ?_)
    exact q_iret rfl (hk _)
  · have e : (t.toInt - 0).toNat = 0 ∨ (t.toInt - 0).toNat = 1 ∨ (t.toInt - 0).toNat = 2 ∨ (t.toInt - 0).toNat = 3 := by omega
    rcases e with e | e | e | e
    · refine ⟨44, by rw [e]; rfl, ?_⟩
      refine q_ald rfl rfl ?_
      refine q_getr rfl k4 r8 ?_
      refine q_ild rfl rfl ?_
      refine q_xald rfl (Or.inl rfl) a8 n8 h1' (by omega) ?_
      exact q_iret rfl (hk _)
    · refine ⟨51, by rw [e]; rfl, ?_⟩
      refine q_ald rfl rfl ?_
      refine q_getr rfl k4 r9 ?_
      refine q_ild rfl rfl ?_
      refine q_xald rfl (Or.inl rfl) a9 n9 h1' (by omega) ?_
      exact q_iret rfl (hk _)
    · refine ⟨58, by rw [e]; rfl, ?_⟩
      refine q_ald rfl rfl ?_
      refine q_ald rfl rfl ?_
      refine q_getr rfl k4 r5 ?_
      refine q_ald rfl rfl ?_
      refine q_getr rfl k4 r8 ?_
      refine q_ild rfl rfl ?_
      refine q_xald rfl (Or.inl rfl) a8 n8 h1' (by omega) ?_
      refine q_callV (as := [.ref 5, .int (μ.2.2.1 8 c.toInt.toNat)]) (rest := []) rfl rfl k4 rfl (Nat.le_of_ble_eq_true rfl) ?_
      refine cl_X0_ofKind a5 n5 (fun w => ?_)
      exact q_iret rfl (hk _)
    · refine ⟨73, by rw [e]; rfl, ?_⟩
      refine q_ald rfl rfl ?_
      refine q_ald rfl rfl ?_
      refine q_getr rfl k4 r6 ?_
      refine q_ald rfl rfl ?_
      refine q_getr rfl k4 r8 ?_
      refine q_ild rfl rfl ?_
      refine q_xald rfl (Or.inl rfl) a8 n8 h1' (by omega) ?_
      refine q_callV (as := [.ref 6, .int (μ.2.2.1 8 c.toInt.toNat)]) (rest := []) rfl rfl k4 rfl (Nat.le_of_ble_eq_true rfl) ?_
      refine cl_X0_ofKind a6 n6 (fun w => ?_)
      exact q_iret rfl (hk _)
theorem cl_X7_has {a : Nat} {c : Int32} {μ : dw_S} {K : dw_K} (ka : (μ.2.1 a).1 = 7) (hk : ∀ w : Int32, (w = 1 ∧ 0 ≤ c.toInt ∧ c.toInt < 144) ∨ w = 0 → K (some (.int w)) μ) : t_X7_has [.ref a, .int c] μ K := by
  have c144 : (144 : Int32).toInt = 144 := rfl
  refine q_body (Nat.le_refl 2) ?_
  refine q_ild rfl rfl ?_
  refine q_if (c := 2) rfl (by decide) (fun h1 => ?_) (fun h1 => ?_)
  · refine q_ic rfl ?_
    exact q_zret rfl (Or.inl rfl) (hk _ (Or.inr rfl))
  have h1' : 0 ≤ c.toInt := h1
  refine q_ild rfl rfl ?_
  refine q_ald rfl rfl ?_
  refine q_geti rfl ka ?_
  refine q_icmp (c := 3) rfl (by decide) (fun h2 => ?_) (fun h2 => ?_)
  · refine q_ic rfl ?_
    exact q_zret rfl (Or.inl rfl) (hk _ (Or.inr rfl))
  refine q_ild rfl rfl ?_
  refine q_ic rfl ?_
  refine q_icmp (c := 3) rfl (by decide) (fun h3 => ?_) (fun h3 => ?_)
  · refine q_ic rfl ?_
    exact q_zret rfl (Or.inl rfl) (hk _ (Or.inr rfl))
  have h3' : c.toInt < (144 : Int32).toInt := h3
  refine q_ic rfl ?_
  refine q_goto rfl ?_
  exact q_zret rfl (Or.inr rfl) (hk _ (Or.inl ⟨rfl, h1', by omega⟩))
theorem cl_X7_warmthOf {c : Int32} {μ : dw_S} {K : dw_K} (hS : μ.2.1 = SH1) (hk : ∀ w, K (some (.int w)) μ) : t_X7_warmthOf [.ref 43, .int c] μ K := by
  have k43 : (μ.2.1 43).1 = 7 := by rw [hS]; exact (shE 43).1
  have r13 : (μ.2.1 43).2.2 13 = some 56 := by rw [hS]; exact (shE 43).2.2 13
  have k56 : (μ.2.1 56).1 = 16 := by rw [hS]; exact (shE 56).1
  have n56 : (μ.2.1 56).2.1 = 144 := by rw [hS]; exact (shE 56).2.1
  refine q_body (Nat.le_refl 2) ?_
  refine q_ald rfl rfl ?_
  refine q_ild rfl rfl ?_
  refine q_callV (as := [.int c]) (rest := []) rfl rfl k43 rfl (Nat.le_of_ble_eq_true rfl) ?_
  refine cl_X7_has k43 (fun w hw => ?_)
  rcases hw with ⟨rfl, h0, h1⟩ | rfl
  · refine q_if0 rfl (by decide) ?_
    refine q_ald rfl rfl ?_
    refine q_getr rfl k43 r13 ?_
    refine q_ild rfl rfl ?_
    refine q_xald rfl (Or.inl rfl) k56 n56 h0 (by omega) ?_
    refine q_goto rfl ?_
    exact q_iret rfl (hk _)
  · refine q_if (c := 0) rfl (by decide) (fun _ => ?_) (fun h => absurd rfl h)
    refine q_ic rfl ?_
    exact q_iret rfl (hk _)
theorem cl_X7_waterOf {c : Int32} {μ : dw_S} {K : dw_K} (hS : μ.2.1 = SH1) (hk : ∀ w, K (some (.int w)) μ) : t_X7_waterOf [.ref 43, .int c] μ K := by
  have k43 : (μ.2.1 43).1 = 7 := by rw [hS]; exact (shE 43).1
  have r14 : (μ.2.1 43).2.2 14 = some 57 := by rw [hS]; exact (shE 43).2.2 14
  have k57 : (μ.2.1 57).1 = 16 := by rw [hS]; exact (shE 57).1
  have n57 : (μ.2.1 57).2.1 = 144 := by rw [hS]; exact (shE 57).2.1
  refine q_body (Nat.le_refl 2) ?_
  refine q_ald rfl rfl ?_
  refine q_ild rfl rfl ?_
  refine q_callV (as := [.int c]) (rest := []) rfl rfl k43 rfl (Nat.le_of_ble_eq_true rfl) ?_
  refine cl_X7_has k43 (fun w hw => ?_)
  rcases hw with ⟨rfl, h0, h1⟩ | rfl
  · refine q_if0 rfl (by decide) ?_
    refine q_ald rfl rfl ?_
    refine q_getr rfl k43 r14 ?_
    refine q_ild rfl rfl ?_
    refine q_xald rfl (Or.inl rfl) k57 n57 h0 (by omega) ?_
    refine q_goto rfl ?_
    exact q_iret rfl (hk _)
  · refine q_if (c := 0) rfl (by decide) (fun _ => ?_) (fun h => absurd rfl h)
    refine q_ic rfl ?_
    exact q_iret rfl (hk _)
theorem cl_X11_cell {a1 a2 a3 : Int32} {μ : dw_S} {K : dw_K} {Kx : dw_S → Prop} (hS : μ.2.1 = SH1) (hk : ∀ w, K (some (.int w)) μ) (hx : ∀ n', Kx (n', μ.2)) : t_X11_cell [.ref 0, .int a1, .int a2, .int a3] μ K Kx := by
  have k0 : (μ.2.1 0).1 = 11 := by rw [hS]; exact (shE 0).1
  have r1 : (μ.2.1 0).2.2 1 = some 3 := by rw [hS]; exact (shE 0).2.2 1
  have k3 : (μ.2.1 3).1 = 8 := by rw [hS]; exact (shE 3).1
  have r3 : (μ.2.1 3).2.2 1 = some 4 := by rw [hS]; exact (shE 3).2.2 1
  have k4 : (μ.2.1 4).1 = 0 := by rw [hS]; exact (shE 4).1
  show dw_body 5 1 6 (fun K => pr_X11_cell μ.1 K Kx) [.ref 0, .int a1, .int a2, .int a3] μ K
  refine q_body (show 4 ≤ 5 by decide) ?_
  refine q_ald rfl rfl ?_
  refine q_getr rfl k0 r1 ?_
  refine q_getr rfl k3 r3 ?_
  refine q_ild rfl rfl ?_
  refine q_ild rfl rfl ?_
  refine q_callV (as := [.int a1, .int a2]) (rest := []) rfl rfl k4 rfl (Nat.le_of_ble_eq_true rfl) ?_
  refine cl_X0_cellAt k4 ?_
  refine q_ist rfl rfl ?_
  refine q_ild rfl rfl ?_
  refine q_ic rfl ?_
  refine q_icmp (c := 0) rfl (by decide) (fun _ => ?_) (fun _ => ?_)
  · exact q_thr rfl (Nat.le_refl _) (by decide) (by decide) (by decide) (fun n' _ => hx n')
  refine q_ild rfl rfl ?_
  refine q_if (c := 2) rfl (by decide) (fun _ => ?_) (fun _ => ?_)
  · exact q_thr rfl (Nat.le_refl _) (by decide) (by decide) (by decide) (fun n' _ => hx n')
  refine q_ild rfl rfl ?_
  refine q_ic rfl ?_
  refine q_icmp (c := 5) rfl (by decide) (fun _ => ?_) (fun _ => ?_)
  rotate_left
  · exact q_thr rfl (Nat.le_refl _) (by decide) (by decide) (by decide) (fun n' _ => hx n')
  refine q_ald rfl rfl ?_
  refine q_getr rfl k0 r1 ?_
  refine q_getr rfl k3 r3 ?_
  refine q_ild rfl rfl ?_
  refine q_ild rfl rfl ?_
  refine q_callV (as := [.int (fc_at (μ.2.2.1 4 0) (μ.2.2.1 4 1) a1 a2), .int a3]) (rest := []) rfl rfl k4 rfl (Nat.le_of_ble_eq_true rfl) ?_
  refine cl_X0_tell hS (fun w => ?_)
  exact q_iret rfl (hk w)
theorem cl_X11_is {a1 a2 a3 : Int32} {μ : dw_S} {K : dw_K} {Kx : dw_S → Prop} (hS : μ.2.1 = SH1) (hk : ∀ w, K (some (.int w)) μ) (hx : ∀ n', Kx (n', μ.2)) : t_X11_is [.ref 0, .int a1, .int a2, .int a3] μ K Kx := by
  have k0 : (μ.2.1 0).1 = 11 := by rw [hS]; exact (shE 0).1
  have r1 : (μ.2.1 0).2.2 1 = some 3 := by rw [hS]; exact (shE 0).2.2 1
  have k3 : (μ.2.1 3).1 = 8 := by rw [hS]; exact (shE 3).1
  have r3 : (μ.2.1 3).2.2 1 = some 4 := by rw [hS]; exact (shE 3).2.2 1
  have r34 : (μ.2.1 3).2.2 4 = some 43 := by rw [hS]; exact (shE 3).2.2 4
  have k4 : (μ.2.1 4).1 = 0 := by rw [hS]; exact (shE 4).1
  have k43 : (μ.2.1 43).1 = 7 := by rw [hS]; exact (shE 43).1
  show dw_body 5 1 6 (fun K => pr_X11_is μ.1 K Kx) [.ref 0, .int a1, .int a2, .int a3] μ K
  refine q_body (show 4 ≤ 5 by decide) ?_
  refine q_ald rfl rfl ?_
  refine q_getr rfl k0 r1 ?_
  refine q_getr rfl k3 r3 ?_
  refine q_ild rfl rfl ?_
  refine q_ild rfl rfl ?_
  refine q_callV (as := [.int a1, .int a2]) (rest := []) rfl rfl k4 rfl (Nat.le_of_ble_eq_true rfl) ?_
  refine cl_X0_cellAt k4 ?_
  refine q_ist rfl rfl ?_
  refine q_ild rfl rfl ?_
  refine q_ic rfl ?_
  refine q_icmp (c := 0) rfl (by decide) (fun _ => ?_) (fun _ => ?_)
  · exact q_thr rfl (Nat.le_refl _) (by decide) (by decide) (by decide) (fun n' _ => hx n')
  refine q_ald rfl rfl ?_
  refine q_getr rfl k0 r1 ?_
  refine q_getr rfl k3 r34 ?_
  refine q_getz rfl k43 ?_
  refine q_if (c := 0) rfl (by decide) (fun _ => ?_) (fun _ => ?_)
  · exact q_thr rfl (Nat.le_refl _) (by decide) (by decide) (by decide) (fun n' _ => hx n')
  refine q_ild rfl rfl ?_
  refine q_if (c := 2) rfl (by decide) (fun _ => ?_) (fun _ => ?_)
  · exact q_thr rfl (Nat.le_refl _) (by decide) (by decide) (by decide) (fun n' _ => hx n')
  refine q_ild rfl rfl ?_
  refine q_ic rfl ?_
  refine q_icmp (c := 5) rfl (by decide) (fun _ => ?_) (fun _ => ?_)
  rotate_left
  · exact q_thr rfl (Nat.le_refl _) (by decide) (by decide) (by decide) (fun n' _ => hx n')
  refine q_ild rfl rfl ?_
  refine q_if (c := 1) rfl (by decide) (fun _ => ?_) (fun _ => ?_)
  · refine q_ald rfl rfl ?_
    refine q_getr rfl k0 r1 ?_
    refine q_getr rfl k3 r34 ?_
    refine q_ild rfl rfl ?_
    refine q_callV (as := [.int (fc_at (μ.2.2.1 4 0) (μ.2.2.1 4 1) a1 a2)]) (rest := []) rfl rfl k43 rfl (Nat.le_of_ble_eq_true rfl) ?_
    refine cl_X7_waterOf hS (fun w => ?_)
    exact q_iret rfl (hk w)
  · refine q_ald rfl rfl ?_
    refine q_getr rfl k0 r1 ?_
    refine q_getr rfl k3 r34 ?_
    refine q_ild rfl rfl ?_
    refine q_callV (as := [.int (fc_at (μ.2.2.1 4 0) (μ.2.2.1 4 1) a1 a2)]) (rest := []) rfl rfl k43 rfl (Nat.le_of_ble_eq_true rfl) ?_
    refine cl_X7_warmthOf hS (fun w => ?_)
    refine q_goto rfl ?_
    exact q_iret rfl (hk w)
theorem cl_L_cell {a1 a2 a3 : Int32} {μ : dw_S} {K : dw_K} (hI : INV μ) (hK : ∀ (r : Option Value) (w : Int32) (μ' : dw_S), INV μ' → r = some (.int w) → (μ'.2.2.1 1 1).toInt = (μ.2.2.1 1 1).toInt ∧ (μ'.2.2.1 210 0).toInt = (μ.2.2.1 210 0).toInt ∧ (μ'.2.2.1 307 0).toInt = (μ.2.2.1 307 0).toInt → (μ'.2.2.1 404 2).toInt = (μ.2.2.1 404 2).toInt ∧ (μ'.2.2.1 433 0).toInt = (μ.2.2.1 433 0).toInt ∧ (μ'.2.2.1 433 1).toInt = (μ.2.2.1 433 1).toInt → K r μ') : t_L_cell [.ref 0, .int a1, .int a2, .int a3, .ref 434] μ K := by
  have hS := hI.1
  have k434 : (μ.2.1 434).1 = 17 := by rw [hS]; exact (shE 434).1
  have n434 : (μ.2.1 434).2.1 = 1 := by rw [hS]; exact (shE 434).2.1
  refine q_body (show 5 ≤ 6 by decide) ?_
  refine q_ald rfl rfl ?_
  refine q_ic rfl ?_
  refine q_ald rfl rfl ?_
  refine q_ild rfl rfl ?_
  refine q_ild rfl rfl ?_
  refine q_ild rfl rfl ?_
  refine q_callX (as := [.int a1, .int a2, .int a3]) (rest := [.int 0, .ref 434]) rfl rfl (k_0 hI) rfl (by decide) (by decide) (by decide) ?_
  refine cl_X11_cell hS (fun w => ?_) (fun n' => hK _ 1 (n', μ.2) hI rfl ⟨rfl, rfl, rfl⟩ ⟨rfl, rfl, rfl⟩)
  refine q_i2l rfl ?_
  refine q_last rfl k434 n434 (by decide) (by decide) ?_
  refine q_goto rfl ?_
  refine q_ic rfl ?_
  exact q_iret rfl (hK _ 0 (dw_sl μ 434 0 w.toInt64) hI rfl ⟨rfl, rfl, rfl⟩ ⟨rfl, rfl, rfl⟩)
theorem cl_L_is {a1 a2 a3 : Int32} {μ : dw_S} {K : dw_K} (hI : INV μ) (hK : ∀ (r : Option Value) (w : Int32) (μ' : dw_S), INV μ' → r = some (.int w) → (μ'.2.2.1 1 1).toInt = (μ.2.2.1 1 1).toInt ∧ (μ'.2.2.1 210 0).toInt = (μ.2.2.1 210 0).toInt ∧ (μ'.2.2.1 307 0).toInt = (μ.2.2.1 307 0).toInt → (μ'.2.2.1 404 2).toInt = (μ.2.2.1 404 2).toInt ∧ (μ'.2.2.1 433 0).toInt = (μ.2.2.1 433 0).toInt ∧ (μ'.2.2.1 433 1).toInt = (μ.2.2.1 433 1).toInt → K r μ') : t_L_is [.ref 0, .int a1, .int a2, .int a3, .ref 434] μ K := by
  have hS := hI.1
  have k434 : (μ.2.1 434).1 = 17 := by rw [hS]; exact (shE 434).1
  have n434 : (μ.2.1 434).2.1 = 1 := by rw [hS]; exact (shE 434).2.1
  refine q_body (show 5 ≤ 6 by decide) ?_
  refine q_ald rfl rfl ?_
  refine q_ic rfl ?_
  refine q_ald rfl rfl ?_
  refine q_ild rfl rfl ?_
  refine q_ild rfl rfl ?_
  refine q_ild rfl rfl ?_
  refine q_callX (as := [.int a1, .int a2, .int a3]) (rest := [.int 0, .ref 434]) rfl rfl (k_0 hI) rfl (by decide) (by decide) (by decide) ?_
  refine cl_X11_is hS (fun w => ?_) (fun n' => hK _ 1 (n', μ.2) hI rfl ⟨rfl, rfl, rfl⟩ ⟨rfl, rfl, rfl⟩)
  refine q_i2l rfl ?_
  refine q_last rfl k434 n434 (by decide) (by decide) ?_
  refine q_goto rfl ?_
  refine q_ic rfl ?_
  exact q_iret rfl (hK _ 0 (dw_sl μ 434 0 w.toInt64) hI rfl ⟨rfl, rfl, rfl⟩ ⟨rfl, rfl, rfl⟩)
end
section
/-! ===== the two calls that throw, with the rows that stay ===== -/
abbrev ck_L_cell (a1 a2 a3 : Int32) (μ : dw_S) (r : Option Value) (w : Int32) (μ' : dw_S) : Prop := (INV μ') ∧ (r = some (.int w)) ∧ ((μ'.2.2.1 1 1).toInt = (μ.2.2.1 1 1).toInt ∧ (μ'.2.2.1 210 0).toInt = (μ.2.2.1 210 0).toInt ∧ (μ'.2.2.1 307 0).toInt = (μ.2.2.1 307 0).toInt) ∧ ((μ'.2.2.1 404 2).toInt = (μ.2.2.1 404 2).toInt ∧ (μ'.2.2.1 433 0).toInt = (μ.2.2.1 433 0).toInt ∧ (μ'.2.2.1 433 1).toInt = (μ.2.2.1 433 1).toInt) ∧ (∀ a, a ∉ [434] → μ'.2.2.1 a = μ.2.2.1 a ∧ μ'.2.2.2 a = μ.2.2.2 a)
abbrev ck_L_is (a1 a2 a3 : Int32) (μ : dw_S) (r : Option Value) (w : Int32) (μ' : dw_S) : Prop := (INV μ') ∧ (r = some (.int w)) ∧ ((μ'.2.2.1 1 1).toInt = (μ.2.2.1 1 1).toInt ∧ (μ'.2.2.1 210 0).toInt = (μ.2.2.1 210 0).toInt ∧ (μ'.2.2.1 307 0).toInt = (μ.2.2.1 307 0).toInt) ∧ ((μ'.2.2.1 404 2).toInt = (μ.2.2.1 404 2).toInt ∧ (μ'.2.2.1 433 0).toInt = (μ.2.2.1 433 0).toInt ∧ (μ'.2.2.1 433 1).toInt = (μ.2.2.1 433 1).toInt) ∧ (∀ a, a ∉ [434] → μ'.2.2.1 a = μ.2.2.1 a ∧ μ'.2.2.2 a = μ.2.2.2 a)
theorem cf_L_cell {a1 a2 a3 : Int32} {μ : dw_S} {K : dw_K} (hI : INV μ) (hK : ∀ (r : Option Value) (w : Int32) (μ' : dw_S), ck_L_cell a1 a2 a3 μ r w μ' → K r μ') : t_L_cell [.ref 0, .int a1, .int a2, .int a3, .ref 434] μ K := by
  have hS := hI.1
  have k434 : (μ.2.1 434).1 = 17 := by rw [hS]; exact (shE 434).1
  have n434 : (μ.2.1 434).2.1 = 1 := by rw [hS]; exact (shE 434).2.1
  refine q_body (show 5 ≤ 6 by decide) ?_
  refine q_ald rfl rfl ?_
  refine q_ic rfl ?_
  refine q_ald rfl rfl ?_
  refine q_ild rfl rfl ?_
  refine q_ild rfl rfl ?_
  refine q_ild rfl rfl ?_
  refine q_callX (as := [.int a1, .int a2, .int a3]) (rest := [.int 0, .ref 434]) rfl rfl (k_0 hI) rfl (by decide) (by decide) (by decide) ?_
  refine cl_X11_cell hS (fun w => ?_) (fun n' => hK _ 1 (n', μ.2) ⟨hI, rfl, ⟨rfl, rfl, rfl⟩, ⟨rfl, rfl, rfl⟩, fun _ _ => ⟨rfl, rfl⟩⟩)
  refine q_i2l rfl ?_
  refine q_last rfl k434 n434 (by decide) (by decide) ?_
  refine q_goto rfl ?_
  refine q_ic rfl ?_
  exact q_iret rfl (hK _ 0 (dw_sl μ 434 0 w.toInt64) ⟨hI, rfl, ⟨rfl, rfl, rfl⟩, ⟨rfl, rfl, rfl⟩, fun a ha => ⟨rfl, funext fun j => dw_up_ne (fun e => ha (e ▸ List.Mem.head _))⟩⟩)
theorem cf_L_is {a1 a2 a3 : Int32} {μ : dw_S} {K : dw_K} (hI : INV μ) (hK : ∀ (r : Option Value) (w : Int32) (μ' : dw_S), ck_L_is a1 a2 a3 μ r w μ' → K r μ') : t_L_is [.ref 0, .int a1, .int a2, .int a3, .ref 434] μ K := by
  have hS := hI.1
  have k434 : (μ.2.1 434).1 = 17 := by rw [hS]; exact (shE 434).1
  have n434 : (μ.2.1 434).2.1 = 1 := by rw [hS]; exact (shE 434).2.1
  refine q_body (show 5 ≤ 6 by decide) ?_
  refine q_ald rfl rfl ?_
  refine q_ic rfl ?_
  refine q_ald rfl rfl ?_
  refine q_ild rfl rfl ?_
  refine q_ild rfl rfl ?_
  refine q_ild rfl rfl ?_
  refine q_callX (as := [.int a1, .int a2, .int a3]) (rest := [.int 0, .ref 434]) rfl rfl (k_0 hI) rfl (by decide) (by decide) (by decide) ?_
  refine cl_X11_is hS (fun w => ?_) (fun n' => hK _ 1 (n', μ.2) ⟨hI, rfl, ⟨rfl, rfl, rfl⟩, ⟨rfl, rfl, rfl⟩, fun _ _ => ⟨rfl, rfl⟩⟩)
  refine q_i2l rfl ?_
  refine q_last rfl k434 n434 (by decide) (by decide) ?_
  refine q_goto rfl ?_
  refine q_ic rfl ?_
  exact q_iret rfl (hK _ 0 (dw_sl μ 434 0 w.toInt64) ⟨hI, rfl, ⟨rfl, rfl, rfl⟩, ⟨rfl, rfl, rfl⟩, fun a ha => ⟨rfl, funext fun j => dw_up_ne (fun e => ha (e ▸ List.Mem.head _))⟩⟩)
end
section
/-! ===== the tapes alike; feed and night, wholly ===== -/
def fdF (b : fB) (N : Nat) (v1 v2 v3 v4 v5 : Int32) : fB := fun k =>
  if k < N then b k
  else if k < N + 4 then byF v1 (k - (N + 0))
  else if k < N + 8 then byF v2 (k - (N + 4))
  else if k < N + 12 then byF v3 (k - (N + 8))
  else if k < N + 16 then byF v4 (k - (N + 12))
  else if k < N + 20 then byF v5 (k - (N + 16))
  else 0
def fdN (b : fB) (N : Nat) (v1 v2 v3 v4 v5 : Int32) : fB := if N ≤ 920 then fdF b N v1 v2 v3 v4 v5 else b
theorem fd_out {b : fB} {N k : Nat} {v1 v2 v3 v4 v5 : Int32} (h : N + 20 ≤ k) : fdF b N v1 v2 v3 v4 v5 k = 0 := by
  unfold fdF
  rw [if_neg (by omega), if_neg (by omega), if_neg (by omega), if_neg (by omega), if_neg (by omega), if_neg (by omega)]
theorem fd_row {R : Nat → Int32} {b : fB} {N : Nat} {v1 v2 v3 v4 v5 : Int32} (h0 : ∀ k, k < N → R k = b k)
    (h1 : ∀ j, j < 4 → R (N + 0 + j) = byF v1 j) (h2 : ∀ j, j < 4 → R (N + 4 + j) = byF v2 j) (h3 : ∀ j, j < 4 → R (N + 8 + j) = byF v3 j)
    (h4 : ∀ j, j < 4 → R (N + 12 + j) = byF v4 j) (h5 : ∀ j, j < 4 → R (N + 16 + j) = byF v5 j) {k : Nat} (hk : k < N + 20) : R k = fdF b N v1 v2 v3 v4 v5 k := by
  have pt : ∀ (s : Nat) (v : Int32), (∀ j, j < 4 → R (N + s + j) = byF v j) → N + s ≤ k → k < N + s + 4 → R k = byF v (k - (N + s)) := by
    intro s v h g1 g2
    have q := h (k - (N + s)) (by omega)
    rw [show N + s + (k - (N + s)) = k by omega] at q
    exact q
  unfold fdF
  by_cases c0 : k < N
  · rw [if_pos c0]; exact h0 k c0
  rw [if_neg c0]
  by_cases c1 : k < N + 4
  · rw [if_pos c1]; exact pt 0 v1 h1 (by omega) (by omega)
  rw [if_neg c1]
  by_cases c2 : k < N + 8
  · rw [if_pos c2]; exact pt 4 v2 h2 (by omega) (by omega)
  rw [if_neg c2]
  by_cases c3 : k < N + 12
  · rw [if_pos c3]; exact pt 8 v3 h3 (by omega) (by omega)
  rw [if_neg c3]
  by_cases c4 : k < N + 16
  · rw [if_pos c4]; exact pt 12 v4 h4 (by omega) (by omega)
  rw [if_neg c4, if_pos hk]
  exact pt 16 v5 h5 (by omega) (by omega)
theorem tbL_in {I : Nat → Nat → Int32} {k : Nat} (h : (k : Int) < (I 404 2).toInt) : tbL I k = I 405 k &&& 255 := if_pos h
theorem tbL_eq {I I' : Nat → Nat → Int32} (h1 : (I' 404 2).toInt = (I 404 2).toInt) (h2 : I' 405 = I 405) : tbL I' = tbL I := by
  funext k
  unfold tbL
  rw [h1, h2]
theorem tbC_eq2 {I I' : Nat → Nat → Int32} (h1 : (I' 1 1).toInt = (I 1 1).toInt) (h2 : I' 2 = I 2) : tbC I' = tbC I := by
  funext k
  unfold tbC
  rw [h1, h2]
/-- both tapes cut alike stay alike -/
theorem tr_keep {I I' : Nat → Nat → Int32} (hT : tbC I = tbL I) (h2 : I' 2 = I 2) (h405 : I' 405 = I 405) (hz : (I 1 1).toInt = (I 404 2).toInt) (hz' : (I' 1 1).toInt = (I' 404 2).toInt) (hle : (I' 1 1).toInt ≤ (I 1 1).toInt) : tbC I' = tbL I' := by
  funext k
  by_cases c : (k : Int) < (I' 1 1).toInt
  · rw [tbC_in c, tbL_in (by omega), h2, h405]
    have q := congrFun hT k
    rw [tbC_in (by omega), tbL_in (by omega)] at q
    exact q
  · unfold tbC tbL
    rw [if_neg c, if_neg (by omega)]
theorem ro_eq {w w' : Int32} (h : some (Value.int w) = some (Value.int w')) : w' = w := by
  injection h with h
  injection h with h
  exact h.symm
theorem n_of {x : Int} (h : 0 ≤ x) : x = (x.toNat : Nat) := by omega
theorem hb_1 {μ : dw_S} (hI : INV μ) : 0 ≤ (μ.2.2.1 1 1).toInt ∧ (μ.2.2.1 1 1).toInt ≤ 940 := by
  have h := hI.2.1 1 1
  rw [show dx_seg (dx_ce 1).iv 1 = (0, 940) from by decide +kernel] at h
  exact h
theorem hb_404 {μ : dw_S} (hI : INV μ) : 0 ≤ (μ.2.2.1 404 2).toInt ∧ (μ.2.2.1 404 2).toInt ≤ 940 := by
  have h := hI.2.1 404 2
  rw [show dx_seg (dx_ce 404).iv 2 = (0, 940) from by decide +kernel] at h
  exact h
theorem cf_X11_feed {μ : dw_S} {K : dw_K} {a1 a2 a3 a4 a5 : Int32} (hI : INV μ) (hK : ∀ (r : Option Value) (w : Int32) (μ' : dw_S), ck_X11_feed a1 a2 a3 a4 a5 μ r w μ' → tbC μ'.2.2.1 = fdN (tbC μ.2.2.1) (μ.2.2.1 1 1).toInt.toNat a1 a2 a3 a4 a5 → K r μ') : t_X11_feed [.ref 0, .int a1, .int a2, .int a3, .int a4, .int a5] μ K := by
  refine cj_X11_feed _ μ (fun r μ' => ∃ w, ck_X11_feed a1 a2 a3 a4 a5 μ r w μ') (fun r μ' => tbC μ'.2.2.1 = fdN (tbC μ.2.2.1) (μ.2.2.1 1 1).toInt.toNat a1 a2 a3 a4 a5) K (fun r μ' h q => h.elim (fun w h => hK r w μ' h q)) (cl_X11_feed hI (fun r w μ' h => ⟨w, h⟩)) ?_
  have hb := hb_1 hI
  obtain ⟨n, sh, I, J⟩ := μ
  obtain rfl : sh = SH1 := hI.1
  have hN : (I 1 1).toInt = ((I 1 1).toInt.toNat : Nat) := n_of hb.1
  have h9 : (I 1 1).toInt.toNat ≤ 940 := by
    have := hb.2
    have e : (I 1 1).toInt ≤ 940 := this
    omega
  show t_X11_feed [.ref 0, .int a1, .int a2, .int a3, .int a4, .int a5] (n, SH1, I, J) (fun r μ' => tbC μ'.2.2.1 = fdN (tbC I) (I 1 1).toInt.toNat a1 a2 a3 a4 a5)
  generalize (I 1 1).toInt.toNat = N at hN h9 ⊢
  refine v_cfeed hN h9 (fun g I' hA _ => ?_) (fun g I' w hA hF h1 _ h0 C1 C2 C3 C4 C5 => ?_)
  · show tbC I' = fdN (tbC I) N a1 a2 a3 a4 a5
    unfold fdN
    rw [if_neg (by omega)]
    exact tbC_eq (congrFun (hA 1 (by decide)) 1) (hA 2 (by decide))
  · show tbC I' = fdN (tbC I) N a1 a2 a3 a4 a5
    unfold fdN
    rw [if_pos g]
    funext k
    by_cases c : k < N + 20
    · rw [tbC_in (by omega)]
      exact fd_row (R := I' 2) (fun k hk => (h0 k hk).trans (tbC_in (by omega)).symm) C1 C2 C3 C4 C5 c
    · rw [fd_out (by omega)]
      unfold tbC
      rw [if_neg (by omega)]
theorem cf_X12_feed {μ : dw_S} {K : dw_K} {a1 a2 a3 a4 a5 : Int32} (hI : INV μ) (hK : ∀ (r : Option Value) (w : Int32) (μ' : dw_S), ck_X12_feed a1 a2 a3 a4 a5 μ r w μ' → tbL μ'.2.2.1 = fdN (tbL μ.2.2.1) (μ.2.2.1 404 2).toInt.toNat a1 a2 a3 a4 a5 → K r μ') : t_X12_feed [.ref 404, .int a1, .int a2, .int a3, .int a4, .int a5] μ K := by
  refine cj_X12_feed _ μ (fun r μ' => ∃ w, ck_X12_feed a1 a2 a3 a4 a5 μ r w μ') (fun r μ' => tbL μ'.2.2.1 = fdN (tbL μ.2.2.1) (μ.2.2.1 404 2).toInt.toNat a1 a2 a3 a4 a5) K (fun r μ' h q => h.elim (fun w h => hK r w μ' h q)) (cl_X12_feed hI (fun r w μ' h => ⟨w, h⟩)) ?_
  have hb := hb_404 hI
  obtain ⟨n, sh, I, J⟩ := μ
  obtain rfl : sh = SH1 := hI.1
  have hN : (I 404 2).toInt = ((I 404 2).toInt.toNat : Nat) := n_of hb.1
  have h9 : (I 404 2).toInt.toNat ≤ 940 := by
    have := hb.2
    have e : (I 404 2).toInt ≤ 940 := this
    omega
  show t_X12_feed [.ref 404, .int a1, .int a2, .int a3, .int a4, .int a5] (n, SH1, I, J) (fun r μ' => tbL μ'.2.2.1 = fdN (tbL I) (I 404 2).toInt.toNat a1 a2 a3 a4 a5)
  generalize (I 404 2).toInt.toNat = N at hN h9 ⊢
  refine v_mfeed hN h9 (fun g I' hA hF => ?_) (fun g I' w hA hF h1 _ h0 C1 C2 C3 C4 C5 => ?_)
  · show tbL I' = fdN (tbL I) N a1 a2 a3 a4 a5
    unfold fdN
    rw [if_neg (by omega)]
    exact tbL_eq (congrArg Int32.toInt (hF 2 (by decide))) (hA 405 (by decide))
  · show tbL I' = fdN (tbL I) N a1 a2 a3 a4 a5
    unfold fdN
    rw [if_pos g]
    funext k
    by_cases c : k < N + 20
    · rw [tbL_in (by omega)]
      exact fd_row (R := fun k => I' 405 k &&& 255) (fun k hk => by rw [tbL_in (by omega)]; exact congrArg (· &&& 255) (h0 k hk)) C1 C2 C3 C4 C5 c
    · rw [fd_out (by omega)]
      unfold tbL
      rw [if_neg (by omega)]
/-- night's answer -/
def anF (b : fB) (N : Nat) (x : Int32) : Int :=
  if 0 ≤ x.toInt ∧ x.toInt ≤ 5 then (if (ngF b N 400 25 0 0 0 []).1 = 0 then ((ngF b N 400 25 0 0 0 []).2.2.1 : Int) else -1 - ((ngF b N 400 25 0 0 0 []).2.1 : Int)) else -1001
theorem cf_X11_night {μ : dw_S} {K : dw_K} {a1 : Int32} (hI : INV μ) (hK : ∀ (r : Option Value) (w : Int32) (μ' : dw_S), ck_X11_night a1 μ r w μ' → w.toInt = anF (tbC μ.2.2.1) (μ.2.2.1 1 1).toInt.toNat a1 → K r μ') : t_X11_night [.ref 0, .int a1] μ K := by
  refine cj_X11_night _ μ (fun r μ' => ∃ w, ck_X11_night a1 μ r w μ') (fun r μ' => ∀ w, r = some (.int w) → w.toInt = anF (tbC μ.2.2.1) (μ.2.2.1 1 1).toInt.toNat a1) K (fun r μ' h q => h.elim (fun w h => hK r w μ' h (q w h.2.1))) (cl_X11_night hI (fun r w μ' h => ⟨w, h⟩)) ?_
  have hb := hb_1 hI
  obtain ⟨n, sh, I, J⟩ := μ
  obtain rfl : sh = SH1 := hI.1
  have hN : (I 1 1).toInt = ((I 1 1).toInt.toNat : Nat) := n_of hb.1
  have h9 : (I 1 1).toInt.toNat ≤ 940 := by
    have e : (I 1 1).toInt ≤ 940 := hb.2
    omega
  show t_X11_night [.ref 0, .int a1] (n, SH1, I, J) (fun r μ' => ∀ w, r = some (.int w) → w.toInt = anF (tbC I) (I 1 1).toInt.toNat a1)
  generalize (I 1 1).toInt.toNat = N at hN h9 ⊢
  have cm : (-1001 : Int32).toInt = -1001 := rfl
  have hp : (ngF (tbC I) N 400 25 0 0 0 []).2.1 ≤ 940 := Nat.le_trans (pl_ng 25 0 0 0 [] (Nat.zero_le _)) h9
  refine v_cnight hN h9 rfl (fun g I' _ _ w e => ?_) (fun s hs g g2 I' w' _ _ _ _ _ hw w e => ?_) (fun s hs g g2 I' w' _ _ hw w e => ?_) hp
  · rw [ro_eq e, cm]; unfold anF; rw [if_neg g]
  · rw [ro_eq e]; unfold anF; rw [if_pos (by omega), if_pos g2]; exact hw
  · rw [ro_eq e]; unfold anF; rw [if_pos (by omega), if_neg g2]; exact hw
theorem cf_X12_night {μ : dw_S} {K : dw_K} {a1 : Int32} (hI : INV μ) (hK : ∀ (r : Option Value) (w : Int32) (μ' : dw_S), ck_X12_night a1 μ r w μ' → w.toInt = anF (tbL μ.2.2.1) (μ.2.2.1 404 2).toInt.toNat a1 → K r μ') : t_X12_night [.ref 404, .int a1] μ K := by
  refine cj_X12_night _ μ (fun r μ' => ∃ w, ck_X12_night a1 μ r w μ') (fun r μ' => ∀ w, r = some (.int w) → w.toInt = anF (tbL μ.2.2.1) (μ.2.2.1 404 2).toInt.toNat a1) K (fun r μ' h q => h.elim (fun w h => hK r w μ' h (q w h.2.1))) (cl_X12_night hI (fun r w μ' h => ⟨w, h⟩)) ?_
  have hb := hb_404 hI
  obtain ⟨n, sh, I, J⟩ := μ
  obtain rfl : sh = SH1 := hI.1
  have hN : (I 404 2).toInt = ((I 404 2).toInt.toNat : Nat) := n_of hb.1
  have h9 : (I 404 2).toInt.toNat ≤ 940 := by
    have e : (I 404 2).toInt ≤ 940 := hb.2
    omega
  show t_X12_night [.ref 404, .int a1] (n, SH1, I, J) (fun r μ' => ∀ w, r = some (.int w) → w.toInt = anF (tbL I) (I 404 2).toInt.toNat a1)
  generalize (I 404 2).toInt.toNat = N at hN h9 ⊢
  have cm : (-1001 : Int32).toInt = -1001 := rfl
  refine v_mnight hN h9 rfl (fun g I' _ _ _ w e => ?_) (fun s hs g g2 I' J' w' _ _ _ _ _ _ _ _ _ hw _ _ w e => ?_) (fun s hs g g2 I' J' w' _ _ _ _ hw w e => ?_)
  · rw [ro_eq e, cm]; unfold anF; rw [if_neg g]
  · rw [ro_eq e]; unfold anF; rw [if_pos (by omega), if_pos g2]; exact hw
  · rw [ro_eq e]; unfold anF; rw [if_pos (by omega), if_neg g2]; exact hw
end
section
/-! ===== ground, wholly ===== -/
noncomputable def agF (b : fB) (N : Nat) : Int := if (ggF b N 900 941 0 0 g0).1 = 0 then ((ggF b N 900 941 0 0 g0).2.2.1 : Int) else -1 - ((ggF b N 900 941 0 0 g0).2.1 : Int)
theorem cf_X11_ground {μ : dw_S} {K : dw_K} (hI : INV μ) (hK : ∀ (r : Option Value) (w : Int32) (μ' : dw_S), ck_X11_ground μ r w μ' → w.toInt = agF (tbC μ.2.2.1) (μ.2.2.1 1 1).toInt.toNat → K r μ') : t_X11_ground [.ref 0] μ K := by
  refine cj_X11_ground _ μ (fun r μ' => ∃ w, ck_X11_ground μ r w μ') (fun r μ' => ∀ w, r = some (.int w) → w.toInt = agF (tbC μ.2.2.1) (μ.2.2.1 1 1).toInt.toNat) K (fun r μ' h q => h.elim (fun w h => hK r w μ' h (q w h.2.1))) (cl_X11_ground hI (fun r w μ' h => ⟨w, h⟩)) ?_
  have hb := hb_1 hI
  obtain ⟨n, sh, I, J⟩ := μ
  obtain rfl : sh = SH1 := hI.1
  have hN : (I 1 1).toInt = ((I 1 1).toInt.toNat : Nat) := n_of hb.1
  have h9 : (I 1 1).toInt.toNat ≤ 940 := by
    have e : (I 1 1).toInt ≤ 940 := hb.2
    omega
  show t_X11_ground [.ref 0] (n, SH1, I, J) (fun r μ' => ∀ w, r = some (.int w) → w.toInt = agF (tbC I) (I 1 1).toInt.toNat)
  generalize (I 1 1).toInt.toNat = N at hN h9 ⊢
  have hp : (ggF (tbC I) N 900 941 0 0 g0).2.1 ≤ 940 := Nat.le_trans (pl_gg 941 0 0 g0 (Nat.zero_le _)) h9
  refine v_cground hN h9 rfl hp (fun g I' w' _ _ _ _ _ _ _ _ _ hw w e => ?_) (fun g I' w' _ _ hw w e => ?_)
  · rw [ro_eq e]; unfold agF; rw [if_pos g]; exact hw
  · rw [ro_eq e]; unfold agF; rw [if_neg g]; exact hw
theorem cf_X12_ground {μ : dw_S} {K : dw_K} (hI : INV μ) (hJ : mRes μ.2.2.2) (hK : ∀ (r : Option Value) (w : Int32) (μ' : dw_S), ck_X12_ground μ r w μ' → w.toInt = agF (tbL μ.2.2.1) (μ.2.2.1 404 2).toInt.toNat → K r μ') : t_X12_ground [.ref 404] μ K := by
  refine cj_X12_ground _ μ (fun r μ' => ∃ w, ck_X12_ground μ r w μ') (fun r μ' => ∀ w, r = some (.int w) → w.toInt = agF (tbL μ.2.2.1) (μ.2.2.1 404 2).toInt.toNat) K (fun r μ' h q => h.elim (fun w h => hK r w μ' h (q w h.2.1))) (cl_X12_ground hI (fun r w μ' h => ⟨w, h⟩)) ?_
  have hb := hb_404 hI
  obtain ⟨n, sh, I, J⟩ := μ
  obtain rfl : sh = SH1 := hI.1
  have hN : (I 404 2).toInt = ((I 404 2).toInt.toNat : Nat) := n_of hb.1
  have h9 : (I 404 2).toInt.toNat ≤ 940 := by
    have e : (I 404 2).toInt ≤ 940 := hb.2
    omega
  show t_X12_ground [.ref 404] (n, SH1, I, J) (fun r μ' => ∀ w, r = some (.int w) → w.toInt = agF (tbL I) (I 404 2).toInt.toNat)
  generalize (I 404 2).toInt.toNat = N at hN h9 ⊢
  refine v_mground hJ hN h9 rfl (fun g I3 I' J' w' _ _ _ _ _ _ _ _ hw w e => ?_) (fun g I' J' w' _ _ _ _ hw w e => ?_)
  · rw [ro_eq e]; unfold agF; rw [if_pos g]; exact hw
  · rw [ro_eq e]; unfold agF; rw [if_neg g]; exact hw
end
