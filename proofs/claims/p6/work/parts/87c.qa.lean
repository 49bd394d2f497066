/-! ===== the two calls that throw ===== -/
section
variable {pr : Nat → dw_Op} {pc bc bs nx : Nat} {ls : dw_L} {st : List Value} {μ : dw_S}
theorem q_sald {L : Nat} {xs : Nat → Int32} {j : Int32} (ho : pr pc = o_sald L xs nx) (h0 : 0 ≤ j.toInt) (h1 : j.toInt < L) (k : dw_ok pr nx bc bs ls (.int (xs j.toInt.toNat) :: st) μ) : dw_ok pr pc bc bs ls (.int j :: .ref 1000000 :: st) μ :=
  dw_ok.step (by
    rw [ho]
    show (if ¬ j < 0 ∧ j.toNatClampNeg < L then dw_ok pr nx bc bs ls (.int (xs j.toNatClampNeg) :: st) μ else False)
    rw [if_pos ⟨dx_nlt h0, by rw [dx_tn]; omega⟩]
    exact k)
theorem q_slen {L : Nat} (ho : pr pc = o_slen L nx) (k : dw_ok pr nx bc bs ls (.int (Int32.ofNat L) :: st) μ) : dw_ok pr pc bc bs ls (.ref 1000000 :: st) μ := dw_ok.step (by rw [ho]; exact k)
theorem q_lret (ho : pr pc = o_lret) : dw_ok pr pc bc bs ls [.int 1] μ := dw_ok.step (by rw [ho]; show (1 : Int32) = 1; rfl)
theorem q_tab {lo hi : Int} {tgs : List Nat} {df : Nat} {x : Int32} (ho : pr pc = o_tab lo hi tgs df) (k0 : x.toInt < lo ∨ hi < x.toInt → dw_ok pr df bc bs ls st μ) (k1 : ¬ (x.toInt < lo ∨ hi < x.toInt) → ∃ tg, tgs[(x.toInt - lo).toNat]? = some tg ∧ dw_ok pr tg bc bs ls st μ) : dw_ok pr pc bc bs ls (.int x :: st) μ :=
  dw_ok.step (by
    rw [ho]
    unfold o_tab
    simp only []
    by_cases h : x.toInt < lo ∨ hi < x.toInt
    · rw [if_pos h]; exact k0 h
    · rw [if_neg h]
      obtain ⟨tg, e, k⟩ := k1 h
      rw [e]
      exact k)
theorem q_alen {a : Nat} (ho : pr pc = o_alen nx) (h1 : ¬ (μ.2.1 a).1 = 999) (h2 : ¬ (μ.2.1 a).1 < 16) (k : dw_ok pr nx bc bs ls (.int (Int32.ofNat (μ.2.1 a).2.1) :: st) μ) : dw_ok pr pc bc bs ls (.ref a :: st) μ :=
  dw_ok.step (by
    rw [ho]
    unfold o_alen
    simp only []
    rw [if_pos ⟨h1, h2⟩]
    exact k)
theorem q_callV {ci k a : Nat} {T : dw_T} {as rest : List Value} (ho : pr pc = o_callV ci k 0 0 T nx) (h : dw_sp k st [] = (.ref a :: as, rest)) (h1 : (μ.2.1 a).1 = ci) (h2 : as.length + 1 = k) (h3 : dw_cats rest ≤ 8) (hT : T (.ref a :: as) μ (fun r μ' => dw_ok pr nx bc bs ls (r.toList ++ rest) μ')) : dw_ok pr pc bc bs ls st μ :=
  dw_ok.step (by rw [ho]; exact dw_callV h h1 h2 h3 (Nat.zero_le _) (Nat.zero_le _) hT)
theorem q_callS16 {k : Nat} {T : dw_T} {as rest : List Value} (ho : pr pc = o_callS k 1 6 T nx) (h : dw_sp k st [] = (as, rest)) (h2 : as.length = k) (h3 : dw_cats rest ≤ 8) (h4 : 1 ≤ bc) (h5 : 6 ≤ bs) (hT : T as μ (fun r μ' => dw_ok pr nx (bc - 1) (bs - 6) ls (r.toList ++ rest) μ')) : dw_ok pr pc bc bs ls st μ :=
  dw_ok.step (by
    rw [ho]
    unfold o_callS
    rw [h]
    show (if as.length = k ∧ dw_cats rest ≤ 8 ∧ 1 ≤ bc ∧ 6 ≤ bs then T as μ (fun r μ' => dw_ok pr nx (bc - 1) (bs - 6) ls (r.toList ++ rest) μ') else False)
    rw [if_pos ⟨h2, h3, h4, h5⟩]
    exact hT)
theorem q_callX {ci k mc ms a : Nat} {T : List Value → dw_S → dw_K → (dw_S → Prop) → Prop} {K : dw_K} {as rest : List Value} (ho : pr pc = o_callX ci k mc ms T K nx) (h : dw_sp k st [] = (.ref a :: as, rest)) (h1 : (μ.2.1 a).1 = ci) (h2 : as.length + 1 = k) (h3 : dw_cats rest ≤ 8) (h4 : mc ≤ bc) (h5 : ms ≤ bs) (hT : T (.ref a :: as) μ (fun r μ' => dw_ok pr nx (bc - mc) (bs - ms) ls (r.toList ++ rest) μ') (fun μ' => K (some (.int 1)) μ')) : dw_ok pr pc bc bs ls st μ :=
  dw_ok.step (by
    rw [ho]
    unfold o_callX
    rw [h]
    show (if (μ.2.1 a).1 = ci ∧ as.length + 1 = k ∧ dw_cats rest ≤ 8 ∧ mc ≤ bc ∧ ms ≤ bs then T (.ref a :: as) μ (fun r μ' => dw_ok pr nx (bc - mc) (bs - ms) ls (r.toList ++ rest) μ') (fun μ' => K (some (.int 1)) μ') else False)
    rw [if_pos ⟨h1, h2, h3, h4, h5⟩]
    exact hT)
theorem q_thr {n0 : Nat} {Kx : dw_S → Prop} (ho : pr pc = o_thr n0 Kx) (h1 : n0 ≤ μ.1) (h2 : 1 ≤ bc) (h3 : 6 ≤ bs) (h4 : dw_cats st ≤ 8) (k : ∀ n', μ.1 ≤ n' → Kx (n', μ.2)) : dw_ok pr pc bc bs ls st μ :=
  dw_ok.step (by
    rw [ho]
    unfold o_thr
    rw [if_pos ⟨h1, h2, h3, h4⟩]
    exact k)
theorem q_getz {ci j a : Nat} (ho : pr pc = o_getf ci j 3 nx) (hk : (μ.2.1 a).1 = ci) (k : dw_ok pr nx bc bs ls (.int (μ.2.2.1 a j) :: st) μ) : dw_ok pr pc bc bs ls (.ref a :: st) μ :=
  dw_ok.step (by
    rw [ho]
    show (if (μ.2.1 a).1 = ci then dw_fitI 3 (μ.2.2.1 a j) (dw_ok pr nx bc bs ls (.int (μ.2.2.1 a j) :: st) μ) else False)
    rw [if_pos hk]
    exact dx_fitI_ok k)
theorem q_i2l {x : Int32} (ho : pr pc = o_i2l nx) (k : dw_ok pr nx bc bs ls (.long x.toInt64 :: st) μ) : dw_ok pr pc bc bs ls (.int x :: st) μ := dw_ok.step (by rw [ho]; exact k)
theorem q_last {a n : Nat} {x : Int64} {i : Int32} (ho : pr pc = o_last nx) (hk : (μ.2.1 a).1 = 17) (hn : (μ.2.1 a).2.1 = n) (h0 : 0 ≤ i.toInt) (h1 : i.toInt < n) (k : dw_ok pr nx bc bs ls st (dw_sl μ a i.toInt.toNat x)) : dw_ok pr pc bc bs ls (.long x :: .int i :: .ref a :: st) μ :=
  dw_ok.step (by
    rw [ho]
    show (if (μ.2.1 a).1 = 17 then (if ¬ i < 0 ∧ i.toNatClampNeg < (μ.2.1 a).2.1 then dw_ok pr nx bc bs ls st (dw_sl μ a i.toNatClampNeg x) else False) else False)
    rw [if_pos hk, if_pos ⟨dx_nlt h0, by rw [dx_tn, hn]; omega⟩]
    exact k)
end
theorem shE (a : Nat) : (SH1 a).1 = (dx_ce a).k ∧ (SH1 a).2.1 = (dx_ce a).n ∧ ∀ j, (SH1 a).2.2 j = ((dx_ce a).rf[j]?).join := hEE.sh a
