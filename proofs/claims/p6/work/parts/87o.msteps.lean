/-! ===== the model's reading, step by step, whatever else it keeps ===== -/
set_option maxRecDepth 8000 in
theorem tk_word {b : fB} {n m p : Nat} (h : (tkF b n m p).1 = 1) (hp : p ≤ n) : (tkF b n m p).2.1 < (tkF b n m p).2.2.1 ∧ (tkF b n m p).2.2.1 ≤ (tkF b n m p).2.1 + 12 ∧ ∀ i, i < (tkF b n m p).2.2.1 - (tkF b n m p).2.1 → f_sm (b ((tkF b n m p).2.1 + i)) := by
  have h2 := skF_le (b := b) (n := n) (n - p) p hp
  have h3 := rnF_ge (b := b) (n := n) (n - skF b n (n - p) p) (skF b n (n - p) p)
  unfold tkF at h ⊢
  by_cases c1 : m < n ∧ m ≤ skF b n (n - p) p
  · rw [if_pos c1] at h; exact absurd h (nn rfl)
  rw [if_neg c1] at h ⊢
  by_cases c2 : n ≤ skF b n (n - p) p
  · rw [if_pos c2] at h; exact absurd h (nn rfl)
  rw [if_neg c2] at h ⊢
  by_cases c3 : (b (skF b n (n - p) p)).toInt = 59
  · rw [if_pos c3] at h; exact absurd h (nn rfl)
  rw [if_neg c3] at h ⊢
  by_cases c4 : dtF b (skF b n (n - p) p) (rnF b n (n - skF b n (n - p) p) (skF b n (n - p) p) - skF b n (n - p) p) = 0 ∧ 1 ≤ rnF b n (n - skF b n (n - p) p) (skF b n (n - p) p) - skF b n (n - p) p ∧ rnF b n (n - skF b n (n - p) p) (skF b n (n - p) p) - skF b n (n - p) p ≤ 12
  · rw [if_pos c4]
    dsimp only
    refine ⟨by omega, by omega, fun i hi => ?_⟩
    exact dtF_0 _ c4.1 (fun j hj => (rnF_in (b := b) (n := n) (n - skF b n (n - p) p) (skF b n (n - p) p) _ (by omega) (by omega)).2) i hi
  · rw [if_neg c4] at h
    split at h <;> exact absurd h (nn rfl)
set_option maxRecDepth 8000 in
/-- the model's word is the class's -/
theorem ms_iff {b : fB} {n m p i : Nat} {I : Nat → Nat → Int32} {J : Nat → Nat → Int64} {W : Int64} (hT : MK b (tkF b n m p) I J) (hp : p ≤ n) (h1 : 1 ≤ (dw_sb i).length) (h7 : (dw_sb i).length ≤ 7) (hs : ∀ j, j < (dw_sb i).length → f_sm ((dw_sb i).getD j 0)) (hW : wlF (dw_sb i) (dw_sb i).length = W.toInt) :
    ((I 404 11).toInt = 1 ∧ J 404 17 = W) ↔ sayF b (tkF b n m p) (dw_sb i) := by
  by_cases h : (tkF b n m p).1 = 1
  · obtain ⟨w1, w2, w3⟩ := tk_word h hp
    obtain ⟨-, hw, -⟩ := hT.2.2.2.2.2 h
    have hi : (I 404 11).toInt = 1 := by rw [hT.1, h]; rfl
    obtain ⟨k, hk⟩ : ∃ k, (tkF b n m p).2.2.1 - (tkF b n m p).2.1 = k := ⟨_, rfl⟩
    rw [hk] at hw w3
    obtain ⟨d1, -, -⟩ := wd_wi (b := b) (q := (tkF b n m p).2.1) (min k 8) (by omega) (fun j hj => w3 j (by omega))
    have hwi := wi_word (b := b) (q := (tkF b n m p).2.1) (k := min k 8) (w := dw_sb i) (W := W.toInt) (by omega) (fun j hj => w3 j (by omega)) h1 hs hW
    have e : J 404 17 = W ↔ wiF b (tkF b n m p).2.1 (min k 8) = W.toInt := by
      rw [hw, ← d1]
      exact Int64.toInt_inj.symm
    constructor
    · rintro ⟨-, g⟩
      obtain ⟨g1, g2⟩ := hwi.mp (e.mp g)
      exact ⟨h, by omega, g2⟩
    · rintro ⟨-, g1, g2⟩
      exact ⟨hi, e.mpr (hwi.mpr ⟨by omega, g2⟩)⟩
  · constructor
    · rintro ⟨g, -⟩
      have := hT.1
      exact absurd (show (tkF b n m p).1 = 1 by omega) h
    · rintro ⟨g, -⟩
      exact absurd g h
abbrev mF (j : Nat) : Prop := j ≠ 4 ∧ j ≠ 11 ∧ j ≠ 12 ∧ j ≠ 13 ∧ j ≠ 14 ∧ j ≠ 15 ∧ j ≠ 16 ∧ j ≠ 19
def MInv (I0 : Nat → Nat → Int32) (Inv : (Nat → Nat → Int32) → (Nat → Nat → Int64) → Prop) : Prop :=
  (∀ I J I1 J1, Inv I J → (∀ a, a ≠ 404 → I1 a = I a) → (∀ j, mF j → I1 404 j = I 404 j) → (∀ a, a ≠ 404 → J1 a = J a) → (∀ j, j ≠ 17 → j ≠ 18 → J1 404 j = J 404 j) → Inv I1 J1) ∧ ∀ I J, Inv I J → I 404 3 = I0 404 3 ∧ I 404 5 = I0 404 5 ∧ I 405 = I0 405
section
variable {pr : Nat → dw_Op} {K : dw_K} {pc nx cont z1 z2 bc bs n : Nat} {ls : dw_L} {J : Nat → Nat → Int64} {I0 I : Nat → Nat → Int32} {Inv : (Nat → Nat → Int32) → (Nat → Nat → Int64) → Prop} {N m : Nat} {T : fT}
set_option maxRecDepth 8000 in
theorem mt_step {lo hi : Int32} (ho : pr pc = o_callV 12 3 0 0 t_X12_takes nx) (ho1 : pr nx = o_if_ne cont z1) (ho2 : pr z1 = o_ic 0 z2) (ho3 : pr z2 = o_zret K) (hV : MInv I0 Inv) (hI : Inv I J) (hN : (I0 404 3).toInt = N) (hN9 : N ≤ 940) (hm : (I0 404 5).toInt = m) (hT : MK (tbM I0) T I J) (hnx : T.2.2.1 ≤ N)
    (k1 : nbF T lo.toInt hi.toInt = 0 → ∀ (I1 : Nat → Nat → Int32) (J1 : Nat → Nat → Int64), Inv I1 J1 → MK (tbM I0) (tkF (tbM I0) N m T.2.2.1) I1 J1 → I1 404 19 = T.2.2.2 → dw_ok pr cont bc bs ls [] (n, SH1, I1, J1))
    (k0 : nbF T lo.toInt hi.toInt ≠ 0 → ∀ (I1 : Nat → Nat → Int32) (J1 : Nat → Nat → Int64), Inv I1 J1 → (I1 404 15).toInt = nbF T lo.toInt hi.toInt → (I1 404 16).toInt = T.2.1 → K (some (.int 0)) (n, SH1, I1, J1)) :
    dw_ok pr pc bc bs ls [.int hi, .int lo, .ref 404] (n, SH1, I, J) := by
  obtain ⟨e1, e2, e3⟩ := hV.2 I J hI
  have hb : tbM I = tbM I0 := tbM_eq e1 e3
  refine q_callV (as := [.int lo, .int hi]) (rest := []) ho rfl sk_404 rfl (Nat.le_of_ble_eq_true rfl) ?_
  refine v_takes (b := tbM I0) (T := T) (N := N) (m := m) (by rw [e1]; exact hN) hN9 (by rw [e2]; exact hm) hb hT hnx (fun e I1 J1 hA hF hJa hJf h19 hM => ?_) (fun c hc hc0 => ?_)
  · show dw_ok pr nx bc bs ls [.int 1] (n, SH1, I1, J1)
    exact q_if (c := 1) ho1 (by decide) (fun _ => k1 e I1 J1 (hV.1 I J I1 J1 hI hA (fun j hj => hF j hj.1 hj.2.1 hj.2.2.1 hj.2.2.2.1 hj.2.2.2.2.1 hj.2.2.2.2.2.2.2) hJa hJf) hM h19) (fun h => absurd (show (1 : Int32).toInt = 0 from h) (by decide))
  · show dw_ok pr nx bc bs ls [.int 0] (n, SH1, dw_up (dw_up I 404 15 c) 404 16 (I 404 12), J)
    refine q_if (c := 1) ho1 (by decide) (fun h => absurd rfl h) (fun _ => ?_)
    refine q_ic ho2 ?_
    refine q_zret ho3 (Or.inl rfl) (k0 (by omega) _ _ (hV.1 I J _ J hI (fun a ha => (up_row ha).trans (up_row ha)) (fun j hj => (up_fld hj.2.2.2.2.2.2.1).trans (up_fld hj.2.2.2.2.2.1)) (fun _ _ => rfl) (fun _ _ _ => rfl)) hc hT.2.1)
set_option maxRecDepth 8000 in
theorem mn_step (ho : pr pc = o_callV 12 1 0 0 t_X12_next nx) (hV : MInv I0 Inv) (hI : Inv I J) (hN : (I0 404 3).toInt = N) (hN9 : N ≤ 940) (hm : (I0 404 5).toInt = m) {p : Nat} (hp : p ≤ N) (h4 : (I 404 4).toInt = p)
    (k1 : ∀ (I1 : Nat → Nat → Int32) (J1 : Nat → Nat → Int64), Inv I1 J1 → MK (tbM I0) (tkF (tbM I0) N m p) I1 J1 → dw_ok pr nx bc bs ls [] (n, SH1, I1, J1)) :
    dw_ok pr pc bc bs ls [.ref 404] (n, SH1, I, J) := by
  obtain ⟨e1, e2, e3⟩ := hV.2 I J hI
  have hb : tbM I = tbM I0 := tbM_eq e1 e3
  refine q_callV (as := []) (rest := []) ho rfl sk_404 rfl (Nat.le_of_ble_eq_true rfl) ?_
  refine v_next (p := p) (N := N) (m := m) (by rw [e1]; exact hN) hN9 (by rw [e2]; exact hm) h4 hp (fun I1 J1 hA hF hJa hJf hM => ?_)
  rw [hb] at hM
  exact k1 I1 J1 (hV.1 I J I1 J1 hI hA (fun j hj => hF j hj.1 hj.2.1 hj.2.2.1 hj.2.2.2.1 hj.2.2.2.2.1) hJa hJf) hM
set_option maxRecDepth 8000 in
theorem mb_step {c : Int32} (ho : pr pc = o_callV 12 2 0 0 t_X12_bad nx) (ho1 : pr nx = o_zret K) (hV : MInv I0 Inv) (hI : Inv I J)
    (k0 : ∀ (I1 : Nat → Nat → Int32) (J1 : Nat → Nat → Int64), Inv I1 J1 → (I1 404 15).toInt = c.toInt → (I1 404 16).toInt = (I 404 12).toInt → K (some (.int 0)) (n, SH1, I1, J1)) :
    dw_ok pr pc bc bs ls [.int c, .ref 404] (n, SH1, I, J) := by
  refine q_callV (as := [.int c]) (rest := []) ho rfl sk_404 rfl (Nat.le_of_ble_eq_true rfl) ?_
  refine v_bad ?_
  exact q_zret ho1 (Or.inl rfl) (k0 _ _ (hV.1 I J _ J hI (fun a ha => (up_row ha).trans (up_row ha)) (fun j hj => (up_fld hj.2.2.2.2.2.2.1).trans (up_fld hj.2.2.2.2.2.1)) (fun _ _ => rfl) (fun _ _ _ => rfl)) rfl rfl)
set_option maxRecDepth 8000 in
/-- a word asked for: the answer is left on the stack -/
theorem mw_step {b : fB} {p i : Nat} {W : Int64} (ho : pr pc = o_callV 12 2 0 0 t_X12_isWord nx) (hT : MK b (tkF b N m p) I J) (hp : p ≤ N) (h1 : 1 ≤ (dw_sb i).length) (h7 : (dw_sb i).length ≤ 7) (hs : ∀ j, j < (dw_sb i).length → f_sm ((dw_sb i).getD j 0)) (hW : wlF (dw_sb i) (dw_sb i).length = W.toInt)
    (k1 : sayF b (tkF b N m p) (dw_sb i) → dw_ok pr nx bc bs ls [.int 1] (n, SH1, I, J)) (k0 : ¬ sayF b (tkF b N m p) (dw_sb i) → dw_ok pr nx bc bs ls [.int 0] (n, SH1, I, J)) :
    dw_ok pr pc bc bs ls [.long W, .ref 404] (n, SH1, I, J) := by
  refine q_callV (as := [.long W]) (rest := []) ho rfl sk_404 rfl (Nat.le_of_ble_eq_true rfl) ?_
  have e := ms_iff hT hp h1 h7 hs hW
  refine v_isWord (fun v hv => ?_)
  rcases hv with ⟨rfl, g⟩ | ⟨rfl, g⟩
  · exact k1 (e.mp g)
  · exact k0 (fun h => g (e.mpr h))
end
set_option maxRecDepth 8000 in
/-- the words are of small letters -/
theorem sm_dec : (List.range 26).all (fun i => (dw_sb i).all (fun x => decide (97 ≤ x.toInt) && decide (x.toInt ≤ 122))) = true := by decide +kernel
set_option maxRecDepth 8000 in
theorem sm_ok {i : Nat} (h : i < 26) : ∀ j, j < (dw_sb i).length → f_sm ((dw_sb i).getD j 0) := by
  intro j hj
  have h1 := List.all_eq_true.mp sm_dec i (List.mem_range.mpr h)
  have h2 := List.all_eq_true.mp h1 ((dw_sb i)[j]) (List.getElem_mem hj)
  rw [Bool.and_eq_true, decide_eq_true_eq, decide_eq_true_eq] at h2
  rw [List.getD_eq_getElem?_getD, List.getElem?_eq_getElem hj]
  exact h2
