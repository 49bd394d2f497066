/-! ===== words ===== -/
abbrev sayF (b : fB) (T : fT) (w : List Int32) : Prop := T.1 = 1 ∧ T.2.2.1 = T.2.1 + w.length ∧ ∀ i, i < w.length → b (T.2.1 + i) = w.getD i 0
section
variable {pr : Nat → dw_Op} {pc bc bs nx : Nat} {ls : dw_L} {st : List Value} {μ : dw_S}
set_option maxRecDepth 8000 in
theorem q_xblx {a : Nat} {j : Int32} (ho : pr pc = o_xbl nx) (h : dw_isS a) (h0 : 0 ≤ j.toInt) (h1 : j.toInt < (dw_sb (dw_sx a)).length) (k : dw_ok pr nx bc bs ls (.int ((dw_sb (dw_sx a)).getD j.toInt.toNat 0) :: st) μ) : dw_ok pr pc bc bs ls (.int j :: .ref (a + 100) :: st) μ :=
  dw_ok.step (by rw [ho]; unfold o_xbl; simp only []; rw [if_pos (show 100 ≤ a + 100 ∧ dw_isS (a + 100 - 100) from ⟨Nat.le_add_left _ _, by rw [Nat.add_sub_cancel]; exact h⟩), Nat.add_sub_cancel, if_pos ⟨dx_nlt h0, by rw [dx_tn]; omega⟩, dx_tn]; exact k)
end
set_option maxRecDepth 8000 in
theorem t_chr1x {a : Nat} {j : Int32} {μ : dw_S} {K : dw_K} (h : dw_isS a) (h0 : 0 ≤ j.toInt) (h1 : j.toInt < (dw_sb (dw_sx a)).length) (hl : (Int32.ofNat (dw_sb (dw_sx a)).length).toInt = (dw_sb (dw_sx a)).length) (k : K (some (.int ((dw_sb (dw_sx a)).getD j.toInt.toNat 0 &&& 255))) μ) : t_J1_charAt_3b067 [.ref (a + 100), .int j] μ K := by
  refine q_body (Nat.le_refl 2) ?_
  refine q_ild rfl rfl ?_
  refine q_ald rfl rfl ?_
  refine q_xal rfl h ?_
  refine q_callS2 rfl (show 0 ≤ 8 by decide) (t_chk h0 (by omega) ?_)
  refine q_ald rfl rfl ?_
  refine q_ild rfl rfl ?_
  refine q_xblx rfl h h0 h1 ?_
  refine q_ic rfl ?_
  refine q_and rfl ?_
  refine q_i2c rfl ?_
  refine q_nret rfl (chr_nar _) ?_
  rw [chr_m]
  exact k
set_option maxRecDepth 8000 in
theorem t_charAtx {a : Nat} {j : Int32} {μ : dw_S} {K : dw_K} (h : dw_isS a) (h0 : 0 ≤ j.toInt) (h1 : j.toInt < (dw_sb (dw_sx a)).length) (hl : (Int32.ofNat (dw_sb (dw_sx a)).length).toInt = (dw_sb (dw_sx a)).length) (k : K (some (.int ((dw_sb (dw_sx a)).getD j.toInt.toNat 0 &&& 255))) μ) : t_J0_charAt_5068e [.ref a, .int j] μ K := by
  refine q_body (Nat.le_refl 2) ?_
  refine q_ald rfl rfl ?_
  refine q_callT1 rfl h (show 0 ≤ 8 by decide) (t_latin h ?_)
  refine q_if0 rfl (by decide) ?_
  refine q_ald rfl rfl ?_
  refine q_xgv rfl h ?_
  refine q_ild rfl rfl ?_
  refine q_callS2 rfl (show 0 ≤ 8 by decide) (t_chr1x h h0 h1 hl ?_)
  refine q_nret rfl ?_ k
  have e := chr_nar ((dw_sb (dw_sx a)).getD j.toInt.toNat 0)
  rw [chr_m] at e
  exact e
set_option maxRecDepth 8000 in
theorem sy_loop {n : Nat} {I : Nat → Nat → Int32} {J : Nat → Nat → Int64} {K : dw_K} {bc bs a N : Nat} {T : fT} {w : List Int32} (hN : (I 1 1).toInt = N) (hN9 : N ≤ 940) (ha : dw_isS a) (hw : dw_sb (dw_sx a) = w) (hw9 : ∀ j, j < w.length → w.getD j 0 &&& 255 = w.getD j 0) (hl : (Int32.ofNat w.length).toInt = w.length)
    (h4 : (I 1 4).toInt = T.2.1) (hT1 : T.1 = 1) (hTl : T.2.2.1 = T.2.1 + w.length) (hTN : T.2.2.1 ≤ N)
    (hk : ∀ v : Int32, (v = 1 ∧ sayF (tbC I) T w) ∨ (v = 0 ∧ ¬ sayF (tbC I) T w) → K (some (.int v)) (n, SH1, I, J)) :
    ∀ (f i : Nat) (x : Int32), x.toInt = i → i ≤ w.length → w.length - i ≤ f → (∀ j, j < i → tbC I (T.2.1 + j) = w.getD j 0) → dw_ok (pr_X9_says K) 23 bc bs [some (.ref 1), some (.ref a), some (.int x)] [] (n, SH1, I, J) := by
  have c1 : (1 : Int32).toInt = 1 := rfl
  intro f
  induction f with
  | zero =>
    intro i x hx hi hf hall
    refine q_ild rfl rfl ?_
    refine q_ald rfl rfl ?_
    refine q_callT1 rfl ha (show 1 ≤ 8 by decide) (t_length ha ?_)
    rw [hw]
    refine q_icmp (c := 3) rfl (by decide) (fun _ => ?_) (fun h => absurd (show x.toInt < (Int32.ofNat w.length).toInt from h) (by omega))
    refine q_ic rfl ?_
    exact q_zret rfl (Or.inr rfl) (hk 1 (Or.inl ⟨rfl, hT1, hTl, fun j hj => hall j (by omega)⟩))
  | succ f ih =>
    intro i x hx hi hf hall
    refine q_ild rfl rfl ?_
    refine q_ald rfl rfl ?_
    refine q_callT1 rfl ha (show 1 ≤ 8 by decide) (t_length ha ?_)
    rw [hw]
    refine q_icmp (c := 3) rfl (by decide) (fun g => ?_) (fun g => ?_)
    · have g : (Int32.ofNat w.length).toInt ≤ x.toInt := g
      refine q_ic rfl ?_
      exact q_zret rfl (Or.inr rfl) (hk 1 (Or.inl ⟨rfl, hT1, hTl, fun j hj => hall j (by omega)⟩))
    have g : x.toInt < (Int32.ofNat w.length).toInt := g
    have t1 : (I 1 4 + x).toInt = (I 1 4).toInt + x.toInt := i_add (by omega) (by omega)
    have t2 : (x + 1).toInt = x.toInt + 1 := by rw [i_add (by omega) (by omega), c1]
    refine q_ald rfl rfl ?_
    refine q_ald rfl rfl ?_
    refine q_geti rfl sk_1 ?_
    refine q_ild rfl rfl ?_
    refine q_add rfl ?_
    refine q_callV (as := [.int (I 1 4 + x)]) (rest := []) rfl rfl sk_1 rfl (Nat.le_of_ble_eq_true rfl) ?_
    refine v_byteAt (by omega) (by omega) ?_
    show dw_ok (pr_X9_says K) 41 bc bs [some (.ref 1), some (.ref a), some (.int x)] [.int (I 2 (I 1 4 + x).toInt.toNat)] (n, SH1, I, J)
    have eb : I 2 (I 1 4 + x).toInt.toNat = tbC I (T.2.1 + i) := by rw [tbC_in (by omega), show (I 1 4 + x).toInt.toNat = T.2.1 + i by omega]
    have ew : (dw_sb (dw_sx a)).getD x.toInt.toNat 0 &&& 255 = w.getD i 0 := by rw [hw, show x.toInt.toNat = i by omega]; exact hw9 i (by omega)
    refine q_ald rfl rfl ?_
    refine q_ild rfl rfl ?_
    refine q_callT2 rfl ha (Nat.le_of_ble_eq_true rfl) (t_charAtx ha (by omega) (by rw [hw]; omega) (by rw [hw]; exact hl) ?_)
    rw [eb, ew]
    refine q_icmp (c := 0) rfl (by decide) (fun g2 => ?_) (fun g2 => ?_)
    · have g2 : tbC I (T.2.1 + i) = w.getD i 0 := i_eq g2
      refine q_inc rfl rfl rfl ?_
      refine q_goto rfl ?_
      refine ih (i + 1) (x + 1) (by omega) (by omega) (by omega) (fun j hj => ?_)
      by_cases e : j = i
      · rw [e]; exact g2
      · exact hall j (by omega)
    · have g2 : (tbC I (T.2.1 + i)).toInt ≠ (w.getD i 0).toInt := g2
      refine q_ic rfl ?_
      exact q_zret rfl (Or.inl rfl) (hk 0 (Or.inr ⟨rfl, fun h => g2 (by rw [h.2.2 i (by omega)])⟩))
set_option maxRecDepth 8000 in
theorem v_says {n : Nat} {I : Nat → Nat → Int32} {J : Nat → Nat → Int64} {K : dw_K} {a N : Nat} {T : fT} {w : List Int32} (hN : (I 1 1).toInt = N) (hN9 : N ≤ 940) (ha : dw_isS a) (hw : dw_sb (dw_sx a) = w) (hw9 : ∀ j, j < w.length → w.getD j 0 &&& 255 = w.getD j 0) (hl : (Int32.ofNat w.length).toInt = w.length)
    (h3 : (I 1 3).toInt = T.2.2.1) (h4 : (I 1 4).toInt = T.2.1) (h5 : (I 1 5).toInt = T.1) (hTN : T.2.2.1 ≤ N) (hT2 : T.2.1 ≤ N)
    (hk : ∀ v : Int32, (v = 1 ∧ sayF (tbC I) T w) ∨ (v = 0 ∧ ¬ sayF (tbC I) T w) → K (some (.int v)) (n, SH1, I, J)) : t_X9_says [.ref 1, .ref a] (n, SH1, I, J) K := by
  have c1 : (1 : Int32).toInt = 1 := rfl
  have ts : (I 1 3 - I 1 4).toInt = (I 1 3).toInt - (I 1 4).toInt := i_sub (by omega) (by omega)
  refine q_body (Nat.le_of_ble_eq_true rfl) ?_
  refine q_ald rfl rfl ?_
  refine q_geti rfl sk_1 ?_
  refine q_ic rfl ?_
  refine q_icmp (c := 1) rfl (by decide) (fun g => ?_) (fun g => ?_)
  · have g : (I 1 5).toInt ≠ 1 := g
    refine q_ic rfl ?_
    exact q_zret rfl (Or.inl rfl) (hk 0 (Or.inr ⟨rfl, fun h => by have := h.1; omega⟩))
  have g : (I 1 5).toInt = 1 := g
  refine q_ald rfl rfl ?_
  refine q_callV (as := []) (rest := []) rfl rfl sk_1 rfl (Nat.le_of_ble_eq_true rfl) ?_
  refine v_tokenSize ?_
  show dw_ok (pr_X9_says K) 12 0 0 [some (.ref 1), some (.ref a), none] [.int (I 1 3 - I 1 4)] (n, SH1, I, J)
  refine q_ald rfl rfl ?_
  refine q_callT1 rfl ha (show 1 ≤ 8 by decide) (t_length ha ?_)
  rw [hw]
  refine q_icmp (c := 0) rfl (by decide) (fun g2 => ?_) (fun g2 => ?_)
  · have g2 : (I 1 3 - I 1 4).toInt = (Int32.ofNat w.length).toInt := g2
    refine q_ic rfl ?_
    refine q_ist rfl rfl ?_
    exact sy_loop hN hN9 ha hw hw9 hl h4 (by omega) (by omega) hTN hk w.length 0 0 rfl (Nat.zero_le _) (Nat.le_refl _) (fun j hj => absurd hj (Nat.not_lt_zero j))
  · have g2 : (I 1 3 - I 1 4).toInt ≠ (Int32.ofNat w.length).toInt := g2
    refine q_ic rfl ?_
    exact q_zret rfl (Or.inl rfl) (hk 0 (Or.inr ⟨rfl, fun h => by have := h.2.1; omega⟩))
set_option maxRecDepth 8000 in
/-- the thirteen words: of the class, of the model -/
theorem st_all : (List.range dw_strs.length).all (fun i => decide ((dw_sb i).all (fun x => decide (x &&& 255 = x)) = true) && decide ((dw_sb i).length ≤ 200)) = true := by decide +kernel
set_option maxRecDepth 8000 in
theorem st_ok {i : Nat} (h : i < dw_strs.length) : (∀ j, j < (dw_sb i).length → (dw_sb i).getD j 0 &&& 255 = (dw_sb i).getD j 0) ∧ (Int32.ofNat (dw_sb i).length).toInt = (dw_sb i).length := by
  have h1 := List.all_eq_true.mp st_all i (List.mem_range.mpr h)
  rw [Bool.and_eq_true, decide_eq_true_eq, decide_eq_true_eq] at h1
  refine ⟨fun j hj => ?_, oN (by omega)⟩
  have h2 := List.all_eq_true.mp h1.1 ((dw_sb i)[j]) (List.getElem_mem hj)
  rw [decide_eq_true_eq] at h2
  rw [List.getD_eq_getElem?_getD, List.getElem?_eq_getElem hj]
  exact h2
