/-! ===== the two calls that throw ===== -/
theorem k_0 {μ : dw_S} (h : INV μ) : (μ.2.1 0).1 = 11 := by rw [h.1]; exact (shE 0).1
theorem k_404 {μ : dw_S} (h : INV μ) : (μ.2.1 404).1 = 12 := by rw [h.1]; exact (shE 404).1
/-- what cellAt answers -/
def fc_at (W H x y : Int32) : Int32 := if 0 ≤ x.toInt ∧ x.toInt < W.toInt ∧ 0 ≤ y.toInt ∧ y.toInt < H.toInt then y * W + x else -1
theorem cl_X0_cellAt {a : Nat} {x y : Int32} {μ : dw_S} {K : dw_K} (k : (μ.2.1 a).1 = 0) (hk : K (some (.int (fc_at (μ.2.2.1 a 0) (μ.2.2.1 a 1) x y))) μ) : t_X0_cellAt [.ref a, .int x, .int y] μ K := by
  refine q_body (Nat.le_refl 3) ?_
  refine q_ild rfl rfl ?_
  refine q_if (c := 2) rfl (by decide) (fun h1 => ?_) (fun h1 => ?_)
  · have h1' : x.toInt < 0 := h1
    have e : fc_at (μ.2.2.1 a 0) (μ.2.2.1 a 1) x y = -1 := if_neg (by omega)
    rw [e] at hk
    refine q_ic rfl ?_
    exact q_iret rfl hk
  have h1' : 0 ≤ x.toInt := h1
  refine q_ild rfl rfl ?_
  refine q_ald rfl rfl ?_
  refine q_geti rfl k ?_
  refine q_icmp (c := 3) rfl (by decide) (fun h2 => ?_) (fun h2 => ?_)
  · have h2' : (μ.2.2.1 a 0).toInt ≤ x.toInt := h2
    have e : fc_at (μ.2.2.1 a 0) (μ.2.2.1 a 1) x y = -1 := if_neg (by omega)
    rw [e] at hk
    refine q_ic rfl ?_
    exact q_iret rfl hk
  have h2' : x.toInt < (μ.2.2.1 a 0).toInt := h2
  refine q_ild rfl rfl ?_
  refine q_if (c := 2) rfl (by decide) (fun h3 => ?_) (fun h3 => ?_)
  · have h3' : y.toInt < 0 := h3
    have e : fc_at (μ.2.2.1 a 0) (μ.2.2.1 a 1) x y = -1 := if_neg (by omega)
    rw [e] at hk
    refine q_ic rfl ?_
    exact q_iret rfl hk
  have h3' : 0 ≤ y.toInt := h3
  refine q_ild rfl rfl ?_
  refine q_ald rfl rfl ?_
  refine q_geti rfl k ?_
  refine q_icmp (c := 3) rfl (by decide) (fun h4 => ?_) (fun h4 => ?_)
  · have h4' : (μ.2.2.1 a 1).toInt ≤ y.toInt := h4
    have e : fc_at (μ.2.2.1 a 0) (μ.2.2.1 a 1) x y = -1 := if_neg (by omega)
    rw [e] at hk
    refine q_ic rfl ?_
    exact q_iret rfl hk
  have h4' : y.toInt < (μ.2.2.1 a 1).toInt := h4
  have e : fc_at (μ.2.2.1 a 0) (μ.2.2.1 a 1) x y = y * (μ.2.2.1 a 0) + x := if_pos (by omega)
  rw [e] at hk
  refine q_ild rfl rfl ?_
  refine q_ald rfl rfl ?_
  refine q_geti rfl k ?_
  refine q_mul rfl ?_
  refine q_ild rfl rfl ?_
  refine q_add rfl ?_
  refine q_goto rfl ?_
  exact q_iret rfl hk
theorem cl_X0_ofKind {g a : Nat} {k : Int32} {μ : dw_S} {K : dw_K} (ha : (μ.2.1 a).1 = 16) (hn : (μ.2.1 a).2.1 = 8) (hk : ∀ w, K (some (.int w)) μ) : t_X0_ofKind [.ref g, .ref a, .int k] μ K := by
  have c8 : (Int32.ofNat 8).toInt = 8 := rfl
  refine q_body (Nat.le_refl 3) ?_
  refine q_ild rfl rfl ?_
  refine q_if (c := 2) rfl (by decide) (fun h1 => ?_) (fun h1 => ?_)
  · refine q_ic rfl ?_
    exact q_iret rfl (hk _)
  have h1' : 0 ≤ k.toInt := h1
  refine q_ild rfl rfl ?_
  refine q_ald rfl rfl ?_
  refine q_alen rfl (by rw [ha]; decide) (by rw [ha]; decide) ?_
  refine q_icmp (c := 3) rfl (by decide) (fun h2 => ?_) (fun h2 => ?_)
  · refine q_ic rfl ?_
    exact q_iret rfl (hk _)
  have h2' : k.toInt < (Int32.ofNat (μ.2.1 a).2.1).toInt := h2
  rw [hn] at h2'
  refine q_ald rfl rfl ?_
  refine q_ild rfl rfl ?_
  refine q_xald rfl (Or.inl rfl) ha hn h1' (by omega) ?_
  refine q_goto rfl ?_
  exact q_iret rfl (hk _)
theorem cl_X0_tell {c t : Int32} {μ : dw_S} {K : dw_K} (hS : μ.2.1 = SH1) (hk : ∀ w, K (some (.int w)) μ) : t_X0_tell [.ref 4, .int c, .int t] μ K := by
  have c144 : (144 : Int32).toInt = 144 := rfl
  have k4 : (μ.2.1 4).1 = 0 := by rw [hS]; exact (shE 4).1
  have r5 : (μ.2.1 4).2.2 5 = some 5 := by rw [hS]; exact (shE 4).2.2 5
  have r6 : (μ.2.1 4).2.2 6 = some 6 := by rw [hS]; exact (shE 4).2.2 6
  have r7 : (μ.2.1 4).2.2 7 = some 7 := by rw [hS]; exact (shE 4).2.2 7
  have r8 : (μ.2.1 4).2.2 8 = some 8 := by rw [hS]; exact (shE 4).2.2 8
  have r9 : (μ.2.1 4).2.2 9 = some 9 := by rw [hS]; exact (shE 4).2.2 9
  have a5 : (μ.2.1 5).1 = 16 := by rw [hS]; exact (shE 5).1
  have a6 : (μ.2.1 6).1 = 16 := by rw [hS]; exact (shE 6).1
  have a7 : (μ.2.1 7).1 = 16 := by rw [hS]; exact (shE 7).1
  have a8 : (μ.2.1 8).1 = 16 := by rw [hS]; exact (shE 8).1
  have a9 : (μ.2.1 9).1 = 16 := by rw [hS]; exact (shE 9).1
  have n5 : (μ.2.1 5).2.1 = 8 := by rw [hS]; exact (shE 5).2.1
  have n6 : (μ.2.1 6).2.1 = 8 := by rw [hS]; exact (shE 6).2.1
  have n7 : (μ.2.1 7).2.1 = 8 := by rw [hS]; exact (shE 7).2.1
  have n8 : (μ.2.1 8).2.1 = 144 := by rw [hS]; exact (shE 8).2.1
  have n9 : (μ.2.1 9).2.1 = 144 := by rw [hS]; exact (shE 9).2.1
  refine q_body (Nat.le_refl 3) ?_
  refine q_ild rfl rfl ?_
  refine q_if (c := 2) rfl (by decide) (fun h1 => ?_) (fun h1 => ?_)
  · refine q_ic rfl ?_
    exact q_iret rfl (hk _)
  have h1' : 0 ≤ c.toInt := h1
  refine q_ild rfl rfl ?_
  refine q_ic rfl ?_
  refine q_icmp (c := 2) rfl (by decide) (fun h2 => ?_) (fun h2 => ?_)
  rotate_left
  · refine q_ic rfl ?_
    exact q_iret rfl (hk _)
  have h2' : c.toInt < (144 : Int32).toInt := h2
  refine q_ild rfl rfl ?_
  refine q_tab rfl (fun h3 => ?_) (fun h3 => ?_)
  · refine q_ald rfl rfl ?_
    refine q_ald rfl rfl ?_
    refine q_getr rfl k4 r7 ?_
    refine q_ald rfl rfl ?_
    refine q_getr rfl k4 r8 ?_
    refine q_ild rfl rfl ?_
    refine q_xald rfl (Or.inl rfl) a8 n8 h1' (by omega) ?_
    refine q_callV (as := [.ref 7, .int (μ.2.2.1 8 c.toInt.toNat)]) (rest := []) rfl rfl k4 rfl (Nat.le_of_ble_eq_true rfl) ?_
    refine cl_X0_ofKind a7 n7 (fun w => ?_)
    exact q_iret rfl (hk _)
  · have e : (t.toInt - 0).toNat = 0 ∨ (t.toInt - 0).toNat = 1 ∨ (t.toInt - 0).toNat = 2 ∨ (t.toInt - 0).toNat = 3 := by omega
    rcases e with e | e | e | e
    · refine ⟨44, by rw [e]; rfl, ?_⟩
      refine q_ald rfl rfl ?_
      refine q_getr rfl k4 r8 ?_
      refine q_ild rfl rfl ?_
      refine q_xald rfl (Or.inl rfl) a8 n8 h1' (by omega) ?_
      exact q_iret rfl (hk _)
    · refine ⟨51, by rw [e]; rfl, ?_⟩
      refine q_ald rfl rfl ?_
      refine q_getr rfl k4 r9 ?_
      refine q_ild rfl rfl ?_
      refine q_xald rfl (Or.inl rfl) a9 n9 h1' (by omega) ?_
      exact q_iret rfl (hk _)
    · refine ⟨58, by rw [e]; rfl, ?_⟩
      refine q_ald rfl rfl ?_
      refine q_ald rfl rfl ?_
      refine q_getr rfl k4 r5 ?_
      refine q_ald rfl rfl ?_
      refine q_getr rfl k4 r8 ?_
      refine q_ild rfl rfl ?_
      refine q_xald rfl (Or.inl rfl) a8 n8 h1' (by omega) ?_
      refine q_callV (as := [.ref 5, .int (μ.2.2.1 8 c.toInt.toNat)]) (rest := []) rfl rfl k4 rfl (Nat.le_of_ble_eq_true rfl) ?_
      refine cl_X0_ofKind a5 n5 (fun w => ?_)
      exact q_iret rfl (hk _)
    · refine ⟨73, by rw [e]; rfl, ?_⟩
      refine q_ald rfl rfl ?_
      refine q_ald rfl rfl ?_
      refine q_getr rfl k4 r6 ?_
      refine q_ald rfl rfl ?_
      refine q_getr rfl k4 r8 ?_
      refine q_ild rfl rfl ?_
      refine q_xald rfl (Or.inl rfl) a8 n8 h1' (by omega) ?_
      refine q_callV (as := [.ref 6, .int (μ.2.2.1 8 c.toInt.toNat)]) (rest := []) rfl rfl k4 rfl (Nat.le_of_ble_eq_true rfl) ?_
      refine cl_X0_ofKind a6 n6 (fun w => ?_)
      exact q_iret rfl (hk _)
theorem cl_X7_has {a : Nat} {c : Int32} {μ : dw_S} {K : dw_K} (ka : (μ.2.1 a).1 = 7) (hk : ∀ w : Int32, (w = 1 ∧ 0 ≤ c.toInt ∧ c.toInt < 144) ∨ w = 0 → K (some (.int w)) μ) : t_X7_has [.ref a, .int c] μ K := by
  have c144 : (144 : Int32).toInt = 144 := rfl
  refine q_body (Nat.le_refl 2) ?_
  refine q_ild rfl rfl ?_
  refine q_if (c := 2) rfl (by decide) (fun h1 => ?_) (fun h1 => ?_)
  · refine q_ic rfl ?_
    exact q_zret rfl (Or.inl rfl) (hk _ (Or.inr rfl))
  have h1' : 0 ≤ c.toInt := h1
  refine q_ild rfl rfl ?_
  refine q_ald rfl rfl ?_
  refine q_geti rfl ka ?_
  refine q_icmp (c := 3) rfl (by decide) (fun h2 => ?_) (fun h2 => ?_)
  · refine q_ic rfl ?_
    exact q_zret rfl (Or.inl rfl) (hk _ (Or.inr rfl))
  refine q_ild rfl rfl ?_
  refine q_ic rfl ?_
  refine q_icmp (c := 3) rfl (by decide) (fun h3 => ?_) (fun h3 => ?_)
  · refine q_ic rfl ?_
    exact q_zret rfl (Or.inl rfl) (hk _ (Or.inr rfl))
  have h3' : c.toInt < (144 : Int32).toInt := h3
  refine q_ic rfl ?_
  refine q_goto rfl ?_
  exact q_zret rfl (Or.inr rfl) (hk _ (Or.inl ⟨rfl, h1', by omega⟩))
theorem cl_X7_warmthOf {c : Int32} {μ : dw_S} {K : dw_K} (hS : μ.2.1 = SH1) (hk : ∀ w, K (some (.int w)) μ) : t_X7_warmthOf [.ref 43, .int c] μ K := by
  have k43 : (μ.2.1 43).1 = 7 := by rw [hS]; exact (shE 43).1
  have r13 : (μ.2.1 43).2.2 13 = some 56 := by rw [hS]; exact (shE 43).2.2 13
  have k56 : (μ.2.1 56).1 = 16 := by rw [hS]; exact (shE 56).1
  have n56 : (μ.2.1 56).2.1 = 144 := by rw [hS]; exact (shE 56).2.1
  refine q_body (Nat.le_refl 2) ?_
  refine q_ald rfl rfl ?_
  refine q_ild rfl rfl ?_
  refine q_callV (as := [.int c]) (rest := []) rfl rfl k43 rfl (Nat.le_of_ble_eq_true rfl) ?_
  refine cl_X7_has k43 (fun w hw => ?_)
  rcases hw with ⟨rfl, h0, h1⟩ | rfl
  · refine q_if0 rfl (by decide) ?_
    refine q_ald rfl rfl ?_
    refine q_getr rfl k43 r13 ?_
    refine q_ild rfl rfl ?_
    refine q_xald rfl (Or.inl rfl) k56 n56 h0 (by omega) ?_
    refine q_goto rfl ?_
    exact q_iret rfl (hk _)
  · refine q_if (c := 0) rfl (by decide) (fun _ => ?_) (fun h => absurd rfl h)
    refine q_ic rfl ?_
    exact q_iret rfl (hk _)
theorem cl_X7_waterOf {c : Int32} {μ : dw_S} {K : dw_K} (hS : μ.2.1 = SH1) (hk : ∀ w, K (some (.int w)) μ) : t_X7_waterOf [.ref 43, .int c] μ K := by
  have k43 : (μ.2.1 43).1 = 7 := by rw [hS]; exact (shE 43).1
  have r14 : (μ.2.1 43).2.2 14 = some 57 := by rw [hS]; exact (shE 43).2.2 14
  have k57 : (μ.2.1 57).1 = 16 := by rw [hS]; exact (shE 57).1
  have n57 : (μ.2.1 57).2.1 = 144 := by rw [hS]; exact (shE 57).2.1
  refine q_body (Nat.le_refl 2) ?_
  refine q_ald rfl rfl ?_
  refine q_ild rfl rfl ?_
  refine q_callV (as := [.int c]) (rest := []) rfl rfl k43 rfl (Nat.le_of_ble_eq_true rfl) ?_
  refine cl_X7_has k43 (fun w hw => ?_)
  rcases hw with ⟨rfl, h0, h1⟩ | rfl
  · refine q_if0 rfl (by decide) ?_
    refine q_ald rfl rfl ?_
    refine q_getr rfl k43 r14 ?_
    refine q_ild rfl rfl ?_
    refine q_xald rfl (Or.inl rfl) k57 n57 h0 (by omega) ?_
    refine q_goto rfl ?_
    exact q_iret rfl (hk _)
  · refine q_if (c := 0) rfl (by decide) (fun _ => ?_) (fun h => absurd rfl h)
    refine q_ic rfl ?_
    exact q_iret rfl (hk _)
theorem cl_X11_cell {a1 a2 a3 : Int32} {μ : dw_S} {K : dw_K} {Kx : dw_S → Prop} (hS : μ.2.1 = SH1) (hk : ∀ w, K (some (.int w)) μ) (hx : ∀ n', Kx (n', μ.2)) : t_X11_cell [.ref 0, .int a1, .int a2, .int a3] μ K Kx := by
  have k0 : (μ.2.1 0).1 = 11 := by rw [hS]; exact (shE 0).1
  have r1 : (μ.2.1 0).2.2 1 = some 3 := by rw [hS]; exact (shE 0).2.2 1
  have k3 : (μ.2.1 3).1 = 8 := by rw [hS]; exact (shE 3).1
  have r3 : (μ.2.1 3).2.2 1 = some 4 := by rw [hS]; exact (shE 3).2.2 1
  have k4 : (μ.2.1 4).1 = 0 := by rw [hS]; exact (shE 4).1
  show dw_body 5 1 6 (fun K => pr_X11_cell μ.1 K Kx) [.ref 0, .int a1, .int a2, .int a3] μ K
  refine q_body (show 4 ≤ 5 by decide) ?_
  refine q_ald rfl rfl ?_
  refine q_getr rfl k0 r1 ?_
  refine q_getr rfl k3 r3 ?_
  refine q_ild rfl rfl ?_
  refine q_ild rfl rfl ?_
  refine q_callV (as := [.int a1, .int a2]) (rest := []) rfl rfl k4 rfl (Nat.le_of_ble_eq_true rfl) ?_
  refine cl_X0_cellAt k4 ?_
  refine q_ist rfl rfl ?_
  refine q_ild rfl rfl ?_
  refine q_ic rfl ?_
  refine q_icmp (c := 0) rfl (by decide) (fun _ => ?_) (fun _ => ?_)
  · exact q_thr rfl (Nat.le_refl _) (by decide) (by decide) (by decide) (fun n' _ => hx n')
  refine q_ild rfl rfl ?_
  refine q_if (c := 2) rfl (by decide) (fun _ => ?_) (fun _ => ?_)
  · exact q_thr rfl (Nat.le_refl _) (by decide) (by decide) (by decide) (fun n' _ => hx n')
  refine q_ild rfl rfl ?_
  refine q_ic rfl ?_
  refine q_icmp (c := 5) rfl (by decide) (fun _ => ?_) (fun _ => ?_)
  rotate_left
  · exact q_thr rfl (Nat.le_refl _) (by decide) (by decide) (by decide) (fun n' _ => hx n')
  refine q_ald rfl rfl ?_
  refine q_getr rfl k0 r1 ?_
  refine q_getr rfl k3 r3 ?_
  refine q_ild rfl rfl ?_
  refine q_ild rfl rfl ?_
  refine q_callV (as := [.int (fc_at (μ.2.2.1 4 0) (μ.2.2.1 4 1) a1 a2), .int a3]) (rest := []) rfl rfl k4 rfl (Nat.le_of_ble_eq_true rfl) ?_
  refine cl_X0_tell hS (fun w => ?_)
  exact q_iret rfl (hk w)
theorem cl_X11_is {a1 a2 a3 : Int32} {μ : dw_S} {K : dw_K} {Kx : dw_S → Prop} (hS : μ.2.1 = SH1) (hk : ∀ w, K (some (.int w)) μ) (hx : ∀ n', Kx (n', μ.2)) : t_X11_is [.ref 0, .int a1, .int a2, .int a3] μ K Kx := by
  have k0 : (μ.2.1 0).1 = 11 := by rw [hS]; exact (shE 0).1
  have r1 : (μ.2.1 0).2.2 1 = some 3 := by rw [hS]; exact (shE 0).2.2 1
  have k3 : (μ.2.1 3).1 = 8 := by rw [hS]; exact (shE 3).1
  have r3 : (μ.2.1 3).2.2 1 = some 4 := by rw [hS]; exact (shE 3).2.2 1
  have r34 : (μ.2.1 3).2.2 4 = some 43 := by rw [hS]; exact (shE 3).2.2 4
  have k4 : (μ.2.1 4).1 = 0 := by rw [hS]; exact (shE 4).1
  have k43 : (μ.2.1 43).1 = 7 := by rw [hS]; exact (shE 43).1
  show dw_body 5 1 6 (fun K => pr_X11_is μ.1 K Kx) [.ref 0, .int a1, .int a2, .int a3] μ K
  refine q_body (show 4 ≤ 5 by decide) ?_
  refine q_ald rfl rfl ?_
  refine q_getr rfl k0 r1 ?_
  refine q_getr rfl k3 r3 ?_
  refine q_ild rfl rfl ?_
  refine q_ild rfl rfl ?_
  refine q_callV (as := [.int a1, .int a2]) (rest := []) rfl rfl k4 rfl (Nat.le_of_ble_eq_true rfl) ?_
  refine cl_X0_cellAt k4 ?_
  refine q_ist rfl rfl ?_
  refine q_ild rfl rfl ?_
  refine q_ic rfl ?_
  refine q_icmp (c := 0) rfl (by decide) (fun _ => ?_) (fun _ => ?_)
  · exact q_thr rfl (Nat.le_refl _) (by decide) (by decide) (by decide) (fun n' _ => hx n')
  refine q_ald rfl rfl ?_
  refine q_getr rfl k0 r1 ?_
  refine q_getr rfl k3 r34 ?_
  refine q_getz rfl k43 ?_
  refine q_if (c := 0) rfl (by decide) (fun _ => ?_) (fun _ => ?_)
  · exact q_thr rfl (Nat.le_refl _) (by decide) (by decide) (by decide) (fun n' _ => hx n')
  refine q_ild rfl rfl ?_
  refine q_if (c := 2) rfl (by decide) (fun _ => ?_) (fun _ => ?_)
  · exact q_thr rfl (Nat.le_refl _) (by decide) (by decide) (by decide) (fun n' _ => hx n')
  refine q_ild rfl rfl ?_
  refine q_ic rfl ?_
  refine q_icmp (c := 5) rfl (by decide) (fun _ => ?_) (fun _ => ?_)
  rotate_left
  · exact q_thr rfl (Nat.le_refl _) (by decide) (by decide) (by decide) (fun n' _ => hx n')
  refine q_ild rfl rfl ?_
  refine q_if (c := 1) rfl (by decide) (fun _ => ?_) (fun _ => ?_)
  · refine q_ald rfl rfl ?_
    refine q_getr rfl k0 r1 ?_
    refine q_getr rfl k3 r34 ?_
    refine q_ild rfl rfl ?_
    refine q_callV (as := [.int (fc_at (μ.2.2.1 4 0) (μ.2.2.1 4 1) a1 a2)]) (rest := []) rfl rfl k43 rfl (Nat.le_of_ble_eq_true rfl) ?_
    refine cl_X7_waterOf hS (fun w => ?_)
    exact q_iret rfl (hk w)
  · refine q_ald rfl rfl ?_
    refine q_getr rfl k0 r1 ?_
    refine q_getr rfl k3 r34 ?_
    refine q_ild rfl rfl ?_
    refine q_callV (as := [.int (fc_at (μ.2.2.1 4 0) (μ.2.2.1 4 1) a1 a2)]) (rest := []) rfl rfl k43 rfl (Nat.le_of_ble_eq_true rfl) ?_
    refine cl_X7_warmthOf hS (fun w => ?_)
    refine q_goto rfl ?_
    exact q_iret rfl (hk w)
theorem cl_L_cell {a1 a2 a3 : Int32} {μ : dw_S} {K : dw_K} (hI : INV μ) (hK : ∀ (r : Option Value) (w : Int32) (μ' : dw_S), INV μ' → r = some (.int w) → (μ'.2.2.1 1 1).toInt = (μ.2.2.1 1 1).toInt ∧ (μ'.2.2.1 210 0).toInt = (μ.2.2.1 210 0).toInt ∧ (μ'.2.2.1 307 0).toInt = (μ.2.2.1 307 0).toInt → (μ'.2.2.1 404 2).toInt = (μ.2.2.1 404 2).toInt ∧ (μ'.2.2.1 433 0).toInt = (μ.2.2.1 433 0).toInt ∧ (μ'.2.2.1 433 1).toInt = (μ.2.2.1 433 1).toInt → K r μ') : t_L_cell [.ref 0, .int a1, .int a2, .int a3, .ref 434] μ K := by
  have hS := hI.1
  have k434 : (μ.2.1 434).1 = 17 := by rw [hS]; exact (shE 434).1
  have n434 : (μ.2.1 434).2.1 = 1 := by rw [hS]; exact (shE 434).2.1
  refine q_body (show 5 ≤ 6 by decide) ?_
  refine q_ald rfl rfl ?_
  refine q_ic rfl ?_
  refine q_ald rfl rfl ?_
  refine q_ild rfl rfl ?_
  refine q_ild rfl rfl ?_
  refine q_ild rfl rfl ?_
  refine q_callX (as := [.int a1, .int a2, .int a3]) (rest := [.int 0, .ref 434]) rfl rfl (k_0 hI) rfl (by decide) (by decide) (by decide) ?_
  refine cl_X11_cell hS (fun w => ?_) (fun n' => hK _ 1 (n', μ.2) hI rfl ⟨rfl, rfl, rfl⟩ ⟨rfl, rfl, rfl⟩)
  refine q_i2l rfl ?_
  refine q_last rfl k434 n434 (by decide) (by decide) ?_
  refine q_goto rfl ?_
  refine q_ic rfl ?_
  exact q_iret rfl (hK _ 0 (dw_sl μ 434 0 w.toInt64) hI rfl ⟨rfl, rfl, rfl⟩ ⟨rfl, rfl, rfl⟩)
theorem cl_L_is {a1 a2 a3 : Int32} {μ : dw_S} {K : dw_K} (hI : INV μ) (hK : ∀ (r : Option Value) (w : Int32) (μ' : dw_S), INV μ' → r = some (.int w) → (μ'.2.2.1 1 1).toInt = (μ.2.2.1 1 1).toInt ∧ (μ'.2.2.1 210 0).toInt = (μ.2.2.1 210 0).toInt ∧ (μ'.2.2.1 307 0).toInt = (μ.2.2.1 307 0).toInt → (μ'.2.2.1 404 2).toInt = (μ.2.2.1 404 2).toInt ∧ (μ'.2.2.1 433 0).toInt = (μ.2.2.1 433 0).toInt ∧ (μ'.2.2.1 433 1).toInt = (μ.2.2.1 433 1).toInt → K r μ') : t_L_is [.ref 0, .int a1, .int a2, .int a3, .ref 434] μ K := by
  have hS := hI.1
  have k434 : (μ.2.1 434).1 = 17 := by rw [hS]; exact (shE 434).1
  have n434 : (μ.2.1 434).2.1 = 1 := by rw [hS]; exact (shE 434).2.1
  refine q_body (show 5 ≤ 6 by decide) ?_
  refine q_ald rfl rfl ?_
  refine q_ic rfl ?_
  refine q_ald rfl rfl ?_
  refine q_ild rfl rfl ?_
  refine q_ild rfl rfl ?_
  refine q_ild rfl rfl ?_
  refine q_callX (as := [.int a1, .int a2, .int a3]) (rest := [.int 0, .ref 434]) rfl rfl (k_0 hI) rfl (by decide) (by decide) (by decide) ?_
  refine cl_X11_is hS (fun w => ?_) (fun n' => hK _ 1 (n', μ.2) hI rfl ⟨rfl, rfl, rfl⟩ ⟨rfl, rfl, rfl⟩)
  refine q_i2l rfl ?_
  refine q_last rfl k434 n434 (by decide) (by decide) ?_
  refine q_goto rfl ?_
  refine q_ic rfl ?_
  exact q_iret rfl (hK _ 0 (dw_sl μ 434 0 w.toInt64) hI rfl ⟨rfl, rfl, rfl⟩ ⟨rfl, rfl, rfl⟩)
