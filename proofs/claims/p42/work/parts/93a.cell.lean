/-! ===== the two calls that throw ===== -/
section
variable {pr : Nat → dw_Op} {pc bc bs nx : Nat} {ls : dw_L} {st : List Value} {μ : dw_S}
theorem q_sald {L : Nat} {xs : Nat → Int32} {j : Int32} (ho : pr pc = o_sald L xs nx) (h0 : 0 ≤ j.toInt) (h1 : j.toInt < L) (k : dw_ok pr nx bc bs ls (.int (xs j.toInt.toNat) :: st) μ) : dw_ok pr pc bc bs ls (.int j :: .ref 1000000 :: st) μ :=
  dw_ok.step (by
    rw [ho]
    show (if ¬ j < 0 ∧ j.toNatClampNeg < L then dw_ok pr nx bc bs ls (.int (xs j.toNatClampNeg) :: st) μ else False)
    rw [if_pos ⟨dx_nlt h0, by rw [dx_tn]; omega⟩]
    exact k)
theorem q_slen {L : Nat} (ho : pr pc = o_slen L nx) (k : dw_ok pr nx bc bs ls (.int (Int32.ofNat L) :: st) μ) : dw_ok pr pc bc bs ls (.ref 1000000 :: st) μ := dw_ok.step (by rw [ho]; exact k)
theorem q_lret (ho : pr pc = o_lret) : dw_ok pr pc bc bs ls [.int 1] μ := dw_ok.step (by rw [ho]; show (1 : Int32) = 1; rfl)
theorem q_tab {lo hi : Int} {tgs : List Nat} {df : Nat} {x : Int32} (ho : pr pc = o_tab lo hi tgs df) (k0 : x.toInt < lo ∨ hi < x.toInt → dw_ok pr df bc bs ls st μ) (k1 : ¬ (x.toInt < lo ∨ hi < x.toInt) → ∃ tg, tgs[(x.toInt - lo).toNat]? = some tg ∧ dw_ok pr tg bc bs ls st μ) : dw_ok pr pc bc bs ls (.int x :: st) μ :=
  dw_ok.step (by
    rw [ho]
    unfold o_tab
    simp only []
    by_cases h : x.toInt < lo ∨ hi < x.toInt
    · rw [if_pos h]; exact k0 h
    · rw [if_neg h]
      obtain ⟨tg, e, k⟩ := k1 h
      rw [e]
      exact k)
theorem q_alen {a : Nat} (ho : pr pc = o_alen nx) (h1 : ¬ (μ.2.1 a).1 = 999) (h2 : ¬ (μ.2.1 a).1 < 16) (k : dw_ok pr nx bc bs ls (.int (Int32.ofNat (μ.2.1 a).2.1) :: st) μ) : dw_ok pr pc bc bs ls (.ref a :: st) μ :=
  dw_ok.step (by
    rw [ho]
    unfold o_alen
    simp only []
    rw [if_pos ⟨h1, h2⟩]
    exact k)
theorem q_callV {ci k a : Nat} {T : dw_T} {as rest : List Value} (ho : pr pc = o_callV ci k 0 0 T nx) (h : dw_sp k st [] = (.ref a :: as, rest)) (h1 : (μ.2.1 a).1 = ci) (h2 : as.length + 1 = k) (h3 : dw_cats rest ≤ 8) (hT : T (.ref a :: as) μ (fun r μ' => dw_ok pr nx bc bs ls (r.toList ++ rest) μ')) : dw_ok pr pc bc bs ls st μ :=
  dw_ok.step (by rw [ho]; exact dw_callV h h1 h2 h3 (Nat.zero_le _) (Nat.zero_le _) hT)
theorem q_callS16 {k : Nat} {T : dw_T} {as rest : List Value} (ho : pr pc = o_callS k 1 6 T nx) (h : dw_sp k st [] = (as, rest)) (h2 : as.length = k) (h3 : dw_cats rest ≤ 8) (h4 : 1 ≤ bc) (h5 : 6 ≤ bs) (hT : T as μ (fun r μ' => dw_ok pr nx (bc - 1) (bs - 6) ls (r.toList ++ rest) μ')) : dw_ok pr pc bc bs ls st μ :=
  dw_ok.step (by
    rw [ho]
    unfold o_callS
    rw [h]
    show (if as.length = k ∧ dw_cats rest ≤ 8 ∧ 1 ≤ bc ∧ 6 ≤ bs then T as μ (fun r μ' => dw_ok pr nx (bc - 1) (bs - 6) ls (r.toList ++ rest) μ') else False)
    rw [if_pos ⟨h2, h3, h4, h5⟩]
    exact hT)
theorem q_callX {ci k mc ms a : Nat} {T : List Value → dw_S → dw_K → (dw_S → Prop) → Prop} {K : dw_K} {as rest : List Value} (ho : pr pc = o_callX ci k mc ms T K nx) (h : dw_sp k st [] = (.ref a :: as, rest)) (h1 : (μ.2.1 a).1 = ci) (h2 : as.length + 1 = k) (h3 : dw_cats rest ≤ 8) (h4 : mc ≤ bc) (h5 : ms ≤ bs) (hT : T (.ref a :: as) μ (fun r μ' => dw_ok pr nx (bc - mc) (bs - ms) ls (r.toList ++ rest) μ') (fun μ' => K (some (.int 1)) μ')) : dw_ok pr pc bc bs ls st μ :=
  dw_ok.step (by
    rw [ho]
    unfold o_callX
    rw [h]
    show (if (μ.2.1 a).1 = ci ∧ as.length + 1 = k ∧ dw_cats rest ≤ 8 ∧ mc ≤ bc ∧ ms ≤ bs then T (.ref a :: as) μ (fun r μ' => dw_ok pr nx (bc - mc) (bs - ms) ls (r.toList ++ rest) μ') (fun μ' => K (some (.int 1)) μ') else False)
    rw [if_pos ⟨h1, h2, h3, h4, h5⟩]
    exact hT)
theorem q_thr {n0 : Nat} {Kx : dw_S → Prop} (ho : pr pc = o_thr n0 Kx) (h1 : n0 ≤ μ.1) (h2 : 1 ≤ bc) (h3 : 6 ≤ bs) (h4 : dw_cats st ≤ 8) (k : ∀ n', μ.1 ≤ n' → Kx (n', μ.2)) : dw_ok pr pc bc bs ls st μ :=
  dw_ok.step (by
    rw [ho]
    unfold o_thr
    rw [if_pos ⟨h1, h2, h3, h4⟩]
    exact k)
theorem q_getz {ci j a : Nat} (ho : pr pc = o_getf ci j 3 nx) (hk : (μ.2.1 a).1 = ci) (k : dw_ok pr nx bc bs ls (.int (μ.2.2.1 a j) :: st) μ) : dw_ok pr pc bc bs ls (.ref a :: st) μ :=
  dw_ok.step (by
    rw [ho]
    show (if (μ.2.1 a).1 = ci then dw_fitI 3 (μ.2.2.1 a j) (dw_ok pr nx bc bs ls (.int (μ.2.2.1 a j) :: st) μ) else False)
    rw [if_pos hk]
    exact dx_fitI_ok k)
theorem q_i2l {x : Int32} (ho : pr pc = o_i2l nx) (k : dw_ok pr nx bc bs ls (.long x.toInt64 :: st) μ) : dw_ok pr pc bc bs ls (.int x :: st) μ := dw_ok.step (by rw [ho]; exact k)
theorem q_last {a n : Nat} {x : Int64} {i : Int32} (ho : pr pc = o_last nx) (hk : (μ.2.1 a).1 = 17) (hn : (μ.2.1 a).2.1 = n) (h0 : 0 ≤ i.toInt) (h1 : i.toInt < n) (k : dw_ok pr nx bc bs ls st (dw_sl μ a i.toInt.toNat x)) : dw_ok pr pc bc bs ls (.long x :: .int i :: .ref a :: st) μ :=
  dw_ok.step (by
    rw [ho]
    show (if (μ.2.1 a).1 = 17 then (if ¬ i < 0 ∧ i.toNatClampNeg < (μ.2.1 a).2.1 then dw_ok pr nx bc bs ls st (dw_sl μ a i.toNatClampNeg x) else False) else False)
    rw [if_pos hk, if_pos ⟨dx_nlt h0, by rw [dx_tn, hn]; omega⟩]
    exact k)
end
theorem shE (a : Nat) : (SH1 a).1 = (dx_ce a).k ∧ (SH1 a).2.1 = (dx_ce a).n ∧ ∀ j, (SH1 a).2.2 j = ((dx_ce a).rf[j]?).join := hEE.sh a
theorem k_0 {μ : dw_S} (h : INV μ) : (μ.2.1 0).1 = 11 := by rw [h.1]; exact (shE 0).1
theorem k_404 {μ : dw_S} (h : INV μ) : (μ.2.1 404).1 = 12 := by rw [h.1]; exact (shE 404).1
/-- what cellAt answers -/
def fc_at (W H x y : Int32) : Int32 := if 0 ≤ x.toInt ∧ x.toInt < W.toInt ∧ 0 ≤ y.toInt ∧ y.toInt < H.toInt then y * W + x else -1
theorem cl_X0_cellAt {a : Nat} {x y : Int32} {μ : dw_S} {K : dw_K} (k : (μ.2.1 a).1 = 0) (hk : K (some (.int (fc_at (μ.2.2.1 a 0) (μ.2.2.1 a 1) x y))) μ) : t_X0_cellAt [.ref a, .int x, .int y] μ K := by
  refine q_body (Nat.le_refl 3) ?_
  refine q_ild rfl rfl ?_
  refine q_if (c := 2) rfl (by decide) (fun h1 => ?_) (fun h1 => ?_)
  · have h1' : x.toInt < 0 := h1
    have e : fc_at (μ.2.2.1 a 0) (μ.2.2.1 a 1) x y = -1 := if_neg (by omega)
    rw [e] at hk
    refine q_ic rfl ?_
    exact q_iret rfl hk
  have h1' : 0 ≤ x.toInt := h1
  refine q_ild rfl rfl ?_
  refine q_ald rfl rfl ?_
  refine q_geti rfl k ?_
  refine q_icmp (c := 3) rfl (by decide) (fun h2 => ?_) (fun h2 => ?_)
  · have h2' : (μ.2.2.1 a 0).toInt ≤ x.toInt := h2
    have e : fc_at (μ.2.2.1 a 0) (μ.2.2.1 a 1) x y = -1 := if_neg (by omega)
    rw [e] at hk
    refine q_ic rfl ?_
    exact q_iret rfl hk
  have h2' : x.toInt < (μ.2.2.1 a 0).toInt := h2
  refine q_ild rfl rfl ?_
  refine q_if (c := 2) rfl (by decide) (fun h3 => ?_) (fun h3 => ?_)
  · have h3' : y.toInt < 0 := h3
    have e : fc_at (μ.2.2.1 a 0) (μ.2.2.1 a 1) x y = -1 := if_neg (by omega)
    rw [e] at hk
    refine q_ic rfl ?_
    exact q_iret rfl hk
  have h3' : 0 ≤ y.toInt := h3
  refine q_ild rfl rfl ?_
  refine q_ald rfl rfl ?_
  refine q_geti rfl k ?_
  refine q_icmp (c := 3) rfl (by decide) (fun h4 => ?_) (fun h4 => ?_)
  · have h4' : (μ.2.2.1 a 1).toInt ≤ y.toInt := h4
    have e : fc_at (μ.2.2.1 a 0) (μ.2.2.1 a 1) x y = -1 := if_neg (by omega)
    rw [e] at hk
    refine q_ic rfl ?_
    exact q_iret rfl hk
  have h4' : y.toInt < (μ.2.2.1 a 1).toInt := h4
  have e : fc_at (μ.2.2.1 a 0) (μ.2.2.1 a 1) x y = y * (μ.2.2.1 a 0) + x := if_pos (by omega)
  rw [e] at hk
  refine q_ild rfl rfl ?_
  refine q_ald rfl rfl ?_
  refine q_geti rfl k ?_
  refine q_mul rfl ?_
  refine q_ild rfl rfl ?_
  refine q_add rfl ?_
  refine q_goto rfl ?_
  exact q_iret rfl hk
theorem cl_X0_ofKind {g a : Nat} {k : Int32} {μ : dw_S} {K : dw_K} (ha : (μ.2.1 a).1 = 16) (hn : (μ.2.1 a).2.1 = 8) (hk : ∀ w, K (some (.int w)) μ) : t_X0_ofKind [.ref g, .ref a, .int k] μ K := by
  have c8 : (Int32.ofNat 8).toInt = 8 := rfl
  refine q_body (Nat.le_refl 3) ?_
  refine q_ild rfl rfl ?_
  refine q_if (c := 2) rfl (by decide) (fun h1 => ?_) (fun h1 => ?_)
  · refine q_ic rfl ?_
    exact q_iret rfl (hk _)
  have h1' : 0 ≤ k.toInt := h1
  refine q_ild rfl rfl ?_
  refine q_ald rfl rfl ?_
  refine q_alen rfl (by rw [ha]; decide) (by rw [ha]; decide) ?_
  refine q_icmp (c := 3) rfl (by decide) (fun h2 => ?_) (fun h2 => ?_)
  · refine q_ic rfl ?_
    exact q_iret rfl (hk _)
  have h2' : k.toInt < (Int32.ofNat (μ.2.1 a).2.1).toInt := h2
  rw [hn] at h2'
  refine q_ald rfl rfl ?_
  refine q_ild rfl rfl ?_
  refine q_xald rfl (Or.inl rfl) ha hn h1' (by omega) ?_
  refine q_goto rfl ?_
  exact q_iret rfl (hk _)
theorem cl_X0_tell {c t : Int32} {μ : dw_S} {K : dw_K} (hS : μ.2.1 = SH1) (hk : ∀ w, K (some (.int w)) μ) : t_X0_tell [.ref 4, .int c, .int t] μ K := by
  have c144 : (144 : Int32).toInt = 144 := rfl
  have k4 : (μ.2.1 4).1 = 0 := by rw [hS]; exact (shE 4).1
  have r5 : (μ.2.1 4).2.2 5 = some 5 := by rw [hS]; exact (shE 4).2.2 5
  have r6 : (μ.2.1 4).2.2 6 = some 6 := by rw [hS]; exact (shE 4).2.2 6
  have r7 : (μ.2.1 4).2.2 7 = some 7 := by rw [hS]; exact (shE 4).2.2 7
  have r8 : (μ.2.1 4).2.2 8 = some 8 := by rw [hS]; exact (shE 4).2.2 8
  have r9 : (μ.2.1 4).2.2 9 = some 9 := by rw [hS]; exact (shE 4).2.2 9
  have a5 : (μ.2.1 5).1 = 16 := by rw [hS]; exact (shE 5).1
  have a6 : (μ.2.1 6).1 = 16 := by rw [hS]; exact (shE 6).1
  have a7 : (μ.2.1 7).1 = 16 := by rw [hS]; exact (shE 7).1
  have a8 : (μ.2.1 8).1 = 16 := by rw [hS]; exact (shE 8).1
  have a9 : (μ.2.1 9).1 = 16 := by rw [hS]; exact (shE 9).1
  have n5 : (μ.2.1 5).2.1 = 8 := by rw [hS]; exact (shE 5).2.1
  have n6 : (μ.2.1 6).2.1 = 8 := by rw [hS]; exact (shE 6).2.1
  have n7 : (μ.2.1 7).2.1 = 8 := by rw [hS]; exact (shE 7).2.1
  have n8 : (μ.2.1 8).2.1 = 144 := by rw [hS]; exact (shE 8).2.1
  have n9 : (μ.2.1 9).2.1 = 144 := by rw [hS]; exact (shE 9).2.1
  refine q_body (Nat.le_refl 3) ?_
  refine q_ild rfl rfl ?_
  refine q_if (c := 2) rfl (by decide) (fun h1 => ?_) (fun h1 => ?_)
  · refine q_ic rfl ?_
    exact q_iret rfl (hk _)
  have h1' : 0 ≤ c.toInt := h1
  refine q_ild rfl rfl ?_
  refine q_ic rfl ?_
  refine q_icmp (c := 2) rfl (by decide) (fun h2 => ?_) (fun h2 => ?_)
  rotate_left
  · refine q_ic rfl ?_
    exact q_iret rfl (hk _)
  have h2' : c.toInt < (144 : Int32).toInt := h2
  refine q_ild rfl rfl ?_
  refine q_tab rfl (fun h3 => ?_) (fun h3 => ?_)
  · refine q_ald rfl rfl ?_
    refine q_ald rfl rfl ?_
    refine q_getr rfl k4 r7 ?_
    refine q_ald rfl rfl ?_
    refine q_getr rfl k4 r8 ?_
    refine q_ild rfl rfl ?_
    refine q_xald rfl (Or.inl rfl) a8 n8 h1' (by omega) ?_
    refine q_callV (as := [.ref 7, .int (μ.2.2.1 8 c.toInt.toNat)]) (rest := []) rfl rfl k4 rfl (by decide) ?_
    refine cl_X0_ofKind a7 n7 (fun w => ?_)
    exact q_iret rfl (hk _)
  · have e : (t.toInt - 0).toNat = 0 ∨ (t.toInt - 0).toNat = 1 ∨ (t.toInt - 0).toNat = 2 ∨ (t.toInt - 0).toNat = 3 := by omega
    rcases e with e | e | e | e
    · refine ⟨44, by rw [e]; rfl, ?_⟩
      refine q_ald rfl rfl ?_
      refine q_getr rfl k4 r8 ?_
      refine q_ild rfl rfl ?_
      refine q_xald rfl (Or.inl rfl) a8 n8 h1' (by omega) ?_
      exact q_iret rfl (hk _)
    · refine ⟨51, by rw [e]; rfl, ?_⟩
      refine q_ald rfl rfl ?_
      refine q_getr rfl k4 r9 ?_
      refine q_ild rfl rfl ?_
      refine q_xald rfl (Or.inl rfl) a9 n9 h1' (by omega) ?_
      exact q_iret rfl (hk _)
    · refine ⟨58, by rw [e]; rfl, ?_⟩
      refine q_ald rfl rfl ?_
      refine q_ald rfl rfl ?_
      refine q_getr rfl k4 r5 ?_
      refine q_ald rfl rfl ?_
      refine q_getr rfl k4 r8 ?_
      refine q_ild rfl rfl ?_
      refine q_xald rfl (Or.inl rfl) a8 n8 h1' (by omega) ?_
      refine q_callV (as := [.ref 5, .int (μ.2.2.1 8 c.toInt.toNat)]) (rest := []) rfl rfl k4 rfl (by decide) ?_
      refine cl_X0_ofKind a5 n5 (fun w => ?_)
      exact q_iret rfl (hk _)
    · refine ⟨73, by rw [e]; rfl, ?_⟩
      refine q_ald rfl rfl ?_
      refine q_ald rfl rfl ?_
      refine q_getr rfl k4 r6 ?_
      refine q_ald rfl rfl ?_
      refine q_getr rfl k4 r8 ?_
      refine q_ild rfl rfl ?_
      refine q_xald rfl (Or.inl rfl) a8 n8 h1' (by omega) ?_
      refine q_callV (as := [.ref 6, .int (μ.2.2.1 8 c.toInt.toNat)]) (rest := []) rfl rfl k4 rfl (by decide) ?_
      refine cl_X0_ofKind a6 n6 (fun w => ?_)
      exact q_iret rfl (hk _)
theorem cl_X7_has {a : Nat} {c : Int32} {μ : dw_S} {K : dw_K} (ka : (μ.2.1 a).1 = 7) (hk : ∀ w : Int32, (w = 1 ∧ 0 ≤ c.toInt ∧ c.toInt < 144) ∨ w = 0 → K (some (.int w)) μ) : t_X7_has [.ref a, .int c] μ K := by
  have c144 : (144 : Int32).toInt = 144 := rfl
  refine q_body (Nat.le_refl 2) ?_
  refine q_ild rfl rfl ?_
  refine q_if (c := 2) rfl (by decide) (fun h1 => ?_) (fun h1 => ?_)
  · refine q_ic rfl ?_
    exact q_zret rfl (Or.inl rfl) (hk _ (Or.inr rfl))
  have h1' : 0 ≤ c.toInt := h1
  refine q_ild rfl rfl ?_
  refine q_ald rfl rfl ?_
  refine q_geti rfl ka ?_
  refine q_icmp (c := 3) rfl (by decide) (fun h2 => ?_) (fun h2 => ?_)
  · refine q_ic rfl ?_
    exact q_zret rfl (Or.inl rfl) (hk _ (Or.inr rfl))
  refine q_ild rfl rfl ?_
  refine q_ic rfl ?_
  refine q_icmp (c := 3) rfl (by decide) (fun h3 => ?_) (fun h3 => ?_)
  · refine q_ic rfl ?_
    exact q_zret rfl (Or.inl rfl) (hk _ (Or.inr rfl))
  have h3' : c.toInt < (144 : Int32).toInt := h3
  refine q_ic rfl ?_
  refine q_goto rfl ?_
  exact q_zret rfl (Or.inr rfl) (hk _ (Or.inl ⟨rfl, h1', by omega⟩))
theorem cl_X7_warmthOf {c : Int32} {μ : dw_S} {K : dw_K} (hS : μ.2.1 = SH1) (hk : ∀ w, K (some (.int w)) μ) : t_X7_warmthOf [.ref 43, .int c] μ K := by
  have k43 : (μ.2.1 43).1 = 7 := by rw [hS]; exact (shE 43).1
  have r13 : (μ.2.1 43).2.2 13 = some 56 := by rw [hS]; exact (shE 43).2.2 13
  have k56 : (μ.2.1 56).1 = 16 := by rw [hS]; exact (shE 56).1
  have n56 : (μ.2.1 56).2.1 = 144 := by rw [hS]; exact (shE 56).2.1
  refine q_body (Nat.le_refl 2) ?_
  refine q_ald rfl rfl ?_
  refine q_ild rfl rfl ?_
  refine q_callV (as := [.int c]) (rest := []) rfl rfl k43 rfl (by decide) ?_
  refine cl_X7_has k43 (fun w hw => ?_)
  rcases hw with ⟨rfl, h0, h1⟩ | rfl
  · refine q_if0 rfl (by decide) ?_
    refine q_ald rfl rfl ?_
    refine q_getr rfl k43 r13 ?_
    refine q_ild rfl rfl ?_
    refine q_xald rfl (Or.inl rfl) k56 n56 h0 (by omega) ?_
    refine q_goto rfl ?_
    exact q_iret rfl (hk _)
  · refine q_if (c := 0) rfl (by decide) (fun _ => ?_) (fun h => absurd rfl h)
    refine q_ic rfl ?_
    exact q_iret rfl (hk _)
theorem cl_X7_waterOf {c : Int32} {μ : dw_S} {K : dw_K} (hS : μ.2.1 = SH1) (hk : ∀ w, K (some (.int w)) μ) : t_X7_waterOf [.ref 43, .int c] μ K := by
  have k43 : (μ.2.1 43).1 = 7 := by rw [hS]; exact (shE 43).1
  have r14 : (μ.2.1 43).2.2 14 = some 57 := by rw [hS]; exact (shE 43).2.2 14
  have k57 : (μ.2.1 57).1 = 16 := by rw [hS]; exact (shE 57).1
  have n57 : (μ.2.1 57).2.1 = 144 := by rw [hS]; exact (shE 57).2.1
  refine q_body (Nat.le_refl 2) ?_
  refine q_ald rfl rfl ?_
  refine q_ild rfl rfl ?_
  refine q_callV (as := [.int c]) (rest := []) rfl rfl k43 rfl (by decide) ?_
  refine cl_X7_has k43 (fun w hw => ?_)
  rcases hw with ⟨rfl, h0, h1⟩ | rfl
  · refine q_if0 rfl (by decide) ?_
    refine q_ald rfl rfl ?_
    refine q_getr rfl k43 r14 ?_
    refine q_ild rfl rfl ?_
    refine q_xald rfl (Or.inl rfl) k57 n57 h0 (by omega) ?_
    refine q_goto rfl ?_
    exact q_iret rfl (hk _)
  · refine q_if (c := 0) rfl (by decide) (fun _ => ?_) (fun h => absurd rfl h)
    refine q_ic rfl ?_
    exact q_iret rfl (hk _)
theorem cl_X11_cell {a1 a2 a3 : Int32} {μ : dw_S} {K : dw_K} {Kx : dw_S → Prop} (hS : μ.2.1 = SH1) (hk : ∀ w, K (some (.int w)) μ) (hx : ∀ n', Kx (n', μ.2)) : t_X11_cell [.ref 0, .int a1, .int a2, .int a3] μ K Kx := by
  have k0 : (μ.2.1 0).1 = 11 := by rw [hS]; exact (shE 0).1
  have r1 : (μ.2.1 0).2.2 1 = some 3 := by rw [hS]; exact (shE 0).2.2 1
  have k3 : (μ.2.1 3).1 = 8 := by rw [hS]; exact (shE 3).1
  have r3 : (μ.2.1 3).2.2 1 = some 4 := by rw [hS]; exact (shE 3).2.2 1
  have k4 : (μ.2.1 4).1 = 0 := by rw [hS]; exact (shE 4).1
  show dw_body 5 1 6 (fun K => pr_X11_cell μ.1 K Kx) [.ref 0, .int a1, .int a2, .int a3] μ K
  refine q_body (show 4 ≤ 5 by decide) ?_
  refine q_ald rfl rfl ?_
  refine q_getr rfl k0 r1 ?_
  refine q_getr rfl k3 r3 ?_
  refine q_ild rfl rfl ?_
  refine q_ild rfl rfl ?_
  refine q_callV (as := [.int a1, .int a2]) (rest := []) rfl rfl k4 rfl (by decide) ?_
  refine cl_X0_cellAt k4 ?_
  refine q_ist rfl rfl ?_
  refine q_ild rfl rfl ?_
  refine q_ic rfl ?_
  refine q_icmp (c := 0) rfl (by decide) (fun _ => ?_) (fun _ => ?_)
  · exact q_thr rfl (Nat.le_refl _) (by decide) (by decide) (by decide) (fun n' _ => hx n')
  refine q_ild rfl rfl ?_
  refine q_if (c := 2) rfl (by decide) (fun _ => ?_) (fun _ => ?_)
  · exact q_thr rfl (Nat.le_refl _) (by decide) (by decide) (by decide) (fun n' _ => hx n')
  refine q_ild rfl rfl ?_
  refine q_ic rfl ?_
  refine q_icmp (c := 5) rfl (by decide) (fun _ => ?_) (fun _ => ?_)
  rotate_left
  · exact q_thr rfl (Nat.le_refl _) (by decide) (by decide) (by decide) (fun n' _ => hx n')
  refine q_ald rfl rfl ?_
  refine q_getr rfl k0 r1 ?_
  refine q_getr rfl k3 r3 ?_
  refine q_ild rfl rfl ?_
  refine q_ild rfl rfl ?_
  refine q_callV (as := [.int (fc_at (μ.2.2.1 4 0) (μ.2.2.1 4 1) a1 a2), .int a3]) (rest := []) rfl rfl k4 rfl (by decide) ?_
  refine cl_X0_tell hS (fun w => ?_)
  exact q_iret rfl (hk w)
theorem cl_X11_is {a1 a2 a3 : Int32} {μ : dw_S} {K : dw_K} {Kx : dw_S → Prop} (hS : μ.2.1 = SH1) (hk : ∀ w, K (some (.int w)) μ) (hx : ∀ n', Kx (n', μ.2)) : t_X11_is [.ref 0, .int a1, .int a2, .int a3] μ K Kx := by
  have k0 : (μ.2.1 0).1 = 11 := by rw [hS]; exact (shE 0).1
  have r1 : (μ.2.1 0).2.2 1 = some 3 := by rw [hS]; exact (shE 0).2.2 1
  have k3 : (μ.2.1 3).1 = 8 := by rw [hS]; exact (shE 3).1
  have r3 : (μ.2.1 3).2.2 1 = some 4 := by rw [hS]; exact (shE 3).2.2 1
  have r34 : (μ.2.1 3).2.2 4 = some 43 := by rw [hS]; exact (shE 3).2.2 4
  have k4 : (μ.2.1 4).1 = 0 := by rw [hS]; exact (shE 4).1
  have k43 : (μ.2.1 43).1 = 7 := by rw [hS]; exact (shE 43).1
  show dw_body 5 1 6 (fun K => pr_X11_is μ.1 K Kx) [.ref 0, .int a1, .int a2, .int a3] μ K
  refine q_body (show 4 ≤ 5 by decide) ?_
  refine q_ald rfl rfl ?_
  refine q_getr rfl k0 r1 ?_
  refine q_getr rfl k3 r3 ?_
  refine q_ild rfl rfl ?_
  refine q_ild rfl rfl ?_
  refine q_callV (as := [.int a1, .int a2]) (rest := []) rfl rfl k4 rfl (by decide) ?_
  refine cl_X0_cellAt k4 ?_
  refine q_ist rfl rfl ?_
  refine q_ild rfl rfl ?_
  refine q_ic rfl ?_
  refine q_icmp (c := 0) rfl (by decide) (fun _ => ?_) (fun _ => ?_)
  · exact q_thr rfl (Nat.le_refl _) (by decide) (by decide) (by decide) (fun n' _ => hx n')
  refine q_ald rfl rfl ?_
  refine q_getr rfl k0 r1 ?_
  refine q_getr rfl k3 r34 ?_
  refine q_getz rfl k43 ?_
  refine q_if (c := 0) rfl (by decide) (fun _ => ?_) (fun _ => ?_)
  · exact q_thr rfl (Nat.le_refl _) (by decide) (by decide) (by decide) (fun n' _ => hx n')
  refine q_ild rfl rfl ?_
  refine q_if (c := 2) rfl (by decide) (fun _ => ?_) (fun _ => ?_)
  · exact q_thr rfl (Nat.le_refl _) (by decide) (by decide) (by decide) (fun n' _ => hx n')
  refine q_ild rfl rfl ?_
  refine q_ic rfl ?_
  refine q_icmp (c := 5) rfl (by decide) (fun _ => ?_) (fun _ => ?_)
  rotate_left
  · exact q_thr rfl (Nat.le_refl _) (by decide) (by decide) (by decide) (fun n' _ => hx n')
  refine q_ild rfl rfl ?_
  refine q_if (c := 1) rfl (by decide) (fun _ => ?_) (fun _ => ?_)
  · refine q_ald rfl rfl ?_
    refine q_getr rfl k0 r1 ?_
    refine q_getr rfl k3 r34 ?_
    refine q_ild rfl rfl ?_
    refine q_callV (as := [.int (fc_at (μ.2.2.1 4 0) (μ.2.2.1 4 1) a1 a2)]) (rest := []) rfl rfl k43 rfl (by decide) ?_
    refine cl_X7_waterOf hS (fun w => ?_)
    exact q_iret rfl (hk w)
  · refine q_ald rfl rfl ?_
    refine q_getr rfl k0 r1 ?_
    refine q_getr rfl k3 r34 ?_
    refine q_ild rfl rfl ?_
    refine q_callV (as := [.int (fc_at (μ.2.2.1 4 0) (μ.2.2.1 4 1) a1 a2)]) (rest := []) rfl rfl k43 rfl (by decide) ?_
    refine cl_X7_warmthOf hS (fun w => ?_)
    refine q_goto rfl ?_
    exact q_iret rfl (hk w)
theorem cl_L_cell {a1 a2 a3 : Int32} {μ : dw_S} {K : dw_K} (hI : INV μ) (hK : ∀ (r : Option Value) (w : Int32) (μ' : dw_S), INV μ' → r = some (.int w) → (μ'.2.2.1 1 1).toInt = (μ.2.2.1 1 1).toInt ∧ (μ'.2.2.1 210 0).toInt = (μ.2.2.1 210 0).toInt ∧ (μ'.2.2.1 307 0).toInt = (μ.2.2.1 307 0).toInt → (μ'.2.2.1 404 2).toInt = (μ.2.2.1 404 2).toInt ∧ (μ'.2.2.1 433 0).toInt = (μ.2.2.1 433 0).toInt ∧ (μ'.2.2.1 433 1).toInt = (μ.2.2.1 433 1).toInt → K r μ') : t_L_cell [.ref 0, .int a1, .int a2, .int a3, .ref 434] μ K := by
  have hS := hI.1
  have k434 : (μ.2.1 434).1 = 17 := by rw [hS]; exact (shE 434).1
  have n434 : (μ.2.1 434).2.1 = 1 := by rw [hS]; exact (shE 434).2.1
  refine q_body (show 5 ≤ 6 by decide) ?_
  refine q_ald rfl rfl ?_
  refine q_ic rfl ?_
  refine q_ald rfl rfl ?_
  refine q_ild rfl rfl ?_
  refine q_ild rfl rfl ?_
  refine q_ild rfl rfl ?_
  refine q_callX (as := [.int a1, .int a2, .int a3]) (rest := [.int 0, .ref 434]) rfl rfl (k_0 hI) rfl (by decide) (by decide) (by decide) ?_
  refine cl_X11_cell hS (fun w => ?_) (fun n' => hK _ 1 (n', μ.2) hI rfl ⟨rfl, rfl, rfl⟩ ⟨rfl, rfl, rfl⟩)
  refine q_i2l rfl ?_
  refine q_last rfl k434 n434 (by decide) (by decide) ?_
  refine q_goto rfl ?_
  refine q_ic rfl ?_
  exact q_iret rfl (hK _ 0 (dw_sl μ 434 0 w.toInt64) hI rfl ⟨rfl, rfl, rfl⟩ ⟨rfl, rfl, rfl⟩)
theorem cl_L_is {a1 a2 a3 : Int32} {μ : dw_S} {K : dw_K} (hI : INV μ) (hK : ∀ (r : Option Value) (w : Int32) (μ' : dw_S), INV μ' → r = some (.int w) → (μ'.2.2.1 1 1).toInt = (μ.2.2.1 1 1).toInt ∧ (μ'.2.2.1 210 0).toInt = (μ.2.2.1 210 0).toInt ∧ (μ'.2.2.1 307 0).toInt = (μ.2.2.1 307 0).toInt → (μ'.2.2.1 404 2).toInt = (μ.2.2.1 404 2).toInt ∧ (μ'.2.2.1 433 0).toInt = (μ.2.2.1 433 0).toInt ∧ (μ'.2.2.1 433 1).toInt = (μ.2.2.1 433 1).toInt → K r μ') : t_L_is [.ref 0, .int a1, .int a2, .int a3, .ref 434] μ K := by
  have hS := hI.1
  have k434 : (μ.2.1 434).1 = 17 := by rw [hS]; exact (shE 434).1
  have n434 : (μ.2.1 434).2.1 = 1 := by rw [hS]; exact (shE 434).2.1
  refine q_body (show 5 ≤ 6 by decide) ?_
  refine q_ald rfl rfl ?_
  refine q_ic rfl ?_
  refine q_ald rfl rfl ?_
  refine q_ild rfl rfl ?_
  refine q_ild rfl rfl ?_
  refine q_ild rfl rfl ?_
  refine q_callX (as := [.int a1, .int a2, .int a3]) (rest := [.int 0, .ref 434]) rfl rfl (k_0 hI) rfl (by decide) (by decide) (by decide) ?_
  refine cl_X11_is hS (fun w => ?_) (fun n' => hK _ 1 (n', μ.2) hI rfl ⟨rfl, rfl, rfl⟩ ⟨rfl, rfl, rfl⟩)
  refine q_i2l rfl ?_
  refine q_last rfl k434 n434 (by decide) (by decide) ?_
  refine q_goto rfl ?_
  refine q_ic rfl ?_
  exact q_iret rfl (hK _ 0 (dw_sl μ 434 0 w.toInt64) hI rfl ⟨rfl, rfl, rfl⟩ ⟨rfl, rfl, rfl⟩)
