/-! ===== a GROUND's text read by the class; ground() ===== -/
set_option maxRecDepth 8000 in
theorem fi_abs_i {x : Int32} (h : -2147483648 < x.toInt) : (fi_abs x).toInt = if 0 ≤ x.toInt then x.toInt else - x.toInt := by
  have c0 : (0 : Int32).toInt = 0 := rfl
  have hb := dx_b2 x
  unfold fi_abs
  by_cases g : 0 ≤ x.toInt
  · rw [if_pos (fi_le.mpr (by rw [c0]; exact g)), if_pos g]
  · rw [if_neg (fun q => g (by have := fi_le.mp q; rw [c0] at this; exact this)), if_neg g, i_sub (by omega) (by omega), c0]
    omega
/-- what a shade hides at a place -/
def shF (v : Int32 × Int32 × Int32 × Int32) (x y : Int) : Int :=
  if (-v.2.2.1.toInt ≤ v.1.toInt - x ∧ v.1.toInt - x ≤ v.2.2.1.toInt) ∧ (-v.2.2.1.toInt ≤ v.2.1.toInt - y ∧ v.2.1.toInt - y ≤ v.2.2.1.toInt) then v.2.2.2.toInt else 0
def hdF (L : List (Int32 × Int32 × Int32 × Int32)) (x y : Int) : Nat → Int
  | 0 => 0
  | k + 1 => hdF L x y k + shF (atF (0, 0, 0, 0) L k) x y
def skyF (s : gS) (x y : Nat) : Int := max 0 (100 - hdF s.2.2.2.1 x y s.2.2.2.1.length)
set_option maxRecDepth 8000 in
theorem hd_b {N : Nat} {s : gS} {x y : Int} (h : gOK N s) : ∀ k, k ≤ s.2.2.2.1.length → 0 ≤ hdF s.2.2.2.1 x y k ∧ hdF s.2.2.2.1 x y k ≤ 100 * k
  | 0, _ => ⟨Int.le_refl 0, Int.le_refl 0⟩
  | k + 1, hk => by
    have h1 := hd_b (x := x) (y := y) h k (by omega)
    have h2 := h.2.2.2.2.2 _ (at_mem (d := (0, 0, 0, 0)) (show k < s.2.2.2.1.length by omega))
    show 0 ≤ hdF s.2.2.2.1 x y k + shF (atF (0, 0, 0, 0) s.2.2.2.1 k) x y ∧ hdF s.2.2.2.1 x y k + shF (atF (0, 0, 0, 0) s.2.2.2.1 k) x y ≤ 100 * (k + 1 : Nat)
    unfold shF
    split <;> omega
set_option maxRecDepth 8000 in
theorem ha_loop {n : Nat} {I0 I : Nat → Nat → Int32} {J : Nat → Nat → Int64} {K : dw_K} {bc bs N : Nat} {s : gS} {xv yv : Int32} (hR : GRp I0 I s) (hOK : gOK N s) (hx0 : 0 ≤ xv.toInt) (hx1 : xv.toInt ≤ 11) (hy0 : 0 ≤ yv.toInt) (hy1 : yv.toInt ≤ 11)
    (hk : ∀ w : Int32, w.toInt = hdF s.2.2.2.1 xv.toInt yv.toInt s.2.2.2.1.length → K (some (.int w)) (n, SH1, I, J)) :
    ∀ (f i : Nat) (h x : Int32) (s5 : Option Value), x.toInt = i → i ≤ s.2.2.2.1.length → s.2.2.2.1.length - i ≤ f → h.toInt = hdF s.2.2.2.1 xv.toInt yv.toInt i → dw_ok (pr_X1_hiddenAt K) 5 bc bs [some (.ref 101), some (.int xv), some (.int yv), some (.int h), some (.int x), s5] [] (n, SH1, I, J) := by
  have c1 : (1 : Int32).toInt = 1 := rfl
  have c12 : (12 : Int32).toInt = 12 := rfl
  have hS12 := hOK.2.2.2.1
  have hk3 : (I 102 3).toInt = s.2.2.2.1.length := hR.2.2.1.2.2.2.1
  intro f
  induction f with
  | zero =>
    intro i h x s5 hx hi hf hh
    refine q_ild rfl rfl ?_
    refine q_ald rfl rfl ?_
    refine q_getr rfl sk_101 sr_101_0 ?_
    refine q_geti rfl sk_102 ?_
    refine q_icmp (c := 3) rfl (by decide) (fun _ => ?_) (fun h => absurd (show x.toInt < (I 102 3).toInt from h) (by omega))
    refine q_ild rfl rfl ?_
    exact q_iret rfl (hk h (by rw [hh, show i = s.2.2.2.1.length by omega]))
  | succ f ih =>
    intro i h x s5 hx hi hf hh
    refine q_ild rfl rfl ?_
    refine q_ald rfl rfl ?_
    refine q_getr rfl sk_101 sr_101_0 ?_
    refine q_geti rfl sk_102 ?_
    refine q_icmp (c := 3) rfl (by decide) (fun g => ?_) (fun g => ?_)
    · have g : (I 102 3).toInt ≤ x.toInt := g
      refine q_ild rfl rfl ?_
      exact q_iret rfl (hk h (by rw [hh, show i = s.2.2.2.1.length by omega]))
    have g : x.toInt < (I 102 3).toInt := g
    have hil : i < s.2.2.2.1.length := by omega
    obtain ⟨r1, r2, r3⟩ := gs_ref (show i < 12 by omega)
    have hxn : x.toInt.toNat = i := by omega
    have hr : (SH1 110).2.2 x.toInt.toNat = some (111 + i) := by rw [hxn]; exact r1
    obtain ⟨v0, v1, v2, v3⟩ := hR.2.2.2.2.2.2 i hil
    have hv := hOK.2.2.2.2.2 _ (at_mem (d := (0, 0, 0, 0)) hil)
    have hb := hd_b (x := xv.toInt) (y := yv.toInt) hOK i (by omega)
    have hs : hdF s.2.2.2.1 xv.toInt yv.toInt (i + 1) = hdF s.2.2.2.1 xv.toInt yv.toInt i + shF (atF (0, 0, 0, 0) s.2.2.2.1 i) xv.toInt yv.toInt := rfl
    unfold shF at hs
    rw [← v0, ← v1, ← v2, ← v3] at hv hs
    have t2 : (x + 1).toInt = x.toInt + 1 := by rw [i_add (by omega) (by omega), c1]
    have a0 : (I (111 + i) 0 - xv).toInt = (I (111 + i) 0).toInt - xv.toInt := i_sub (by omega) (by omega)
    have a1 : (I (111 + i) 1 - yv).toInt = (I (111 + i) 1).toInt - yv.toInt := i_sub (by omega) (by omega)
    have b0 := fi_abs_i (x := I (111 + i) 0 - xv) (by omega)
    have b1 := fi_abs_i (x := I (111 + i) 1 - yv) (by omega)
    have b2 := fi_max_i (fi_abs (I (111 + i) 0 - xv)) (fi_abs (I (111 + i) 1 - yv))
    refine q_ild rfl rfl ?_
    refine q_ic rfl ?_
    refine q_icmp (c := 3) rfl (by decide) (fun w => absurd (show (12 : Int32).toInt ≤ x.toInt from w) (by omega)) (fun _ => ?_)
    refine q_ald rfl rfl ?_
    refine q_getr rfl sk_101 sr_101_3 ?_
    refine q_ild rfl rfl ?_
    refine q_xaldr rfl sk_110 sn_110 (by omega) (show x.toInt < (12 : Nat) by omega) hr ?_
    refine q_ic rfl ?_
    refine q_xald rfl (Or.inl rfl) r2 r3 (by decide) (by decide) ?_
    refine q_ild rfl rfl ?_
    refine q_sub rfl ?_
    refine q_abs rfl (by decide) ?_
    refine q_ald rfl rfl ?_
    refine q_getr rfl sk_101 sr_101_3 ?_
    refine q_ild rfl rfl ?_
    refine q_xaldr rfl sk_110 sn_110 (by omega) (show x.toInt < (12 : Nat) by omega) hr ?_
    refine q_ic rfl ?_
    refine q_xald rfl (Or.inl rfl) r2 r3 (by decide) (by decide) ?_
    refine q_ild rfl rfl ?_
    refine q_sub rfl ?_
    refine q_abs rfl rfl ?_
    refine q_max rfl rfl ?_
    refine q_ist rfl rfl ?_
    show dw_ok (pr_X1_hiddenAt K) 57 bc bs [some (.ref 101), some (.int xv), some (.int yv), some (.int h), some (.int x), some (.int (fi_max (fi_abs (I (111 + i) 0 - xv)) (fi_abs (I (111 + i) 1 - yv))))] [] (n, SH1, I, J)
    generalize fi_max (fi_abs (I (111 + i) 0 - xv)) (fi_abs (I (111 + i) 1 - yv)) = aw at b2 ⊢
    refine q_ild rfl rfl ?_
    refine q_ild rfl rfl ?_
    refine q_ald rfl rfl ?_
    refine q_getr rfl sk_101 sr_101_3 ?_
    refine q_ild rfl rfl ?_
    refine q_xaldr rfl sk_110 sn_110 (by omega) (show x.toInt < (12 : Nat) by omega) hr ?_
    refine q_ic rfl ?_
    refine q_xald rfl (Or.inl rfl) r2 r3 (by decide) (by decide) ?_
    have fin : ∀ z : Int32, (h + z).toInt = hdF s.2.2.2.1 xv.toInt yv.toInt (i + 1) → dw_ok (pr_X1_hiddenAt K) 85 bc bs [some (.ref 101), some (.int xv), some (.int yv), some (.int h), some (.int x), some (.int aw)] [.int z, .int h] (n, SH1, I, J) := by
      intro z hz
      refine q_add rfl ?_
      refine q_ist rfl rfl ?_
      refine q_inc rfl rfl rfl ?_
      refine q_goto rfl ?_
      exact ih (i + 1) (h + z) (x + 1) (some (.int aw)) (by omega) (by omega) (by omega) hz
    refine q_icmp (c := 4) rfl (by decide) (fun w => ?_) (fun w => ?_)
    · have w : (I (111 + i) 2).toInt < aw.toInt := w
      refine q_ic rfl ?_
      refine fin 0 ?_
      have c0 : (0 : Int32).toInt = 0 := rfl
      rw [hs, if_neg (by split at b0 <;> split at b1 <;> omega), i_add (by omega) (by omega), c0, hh]
    · have w : aw.toInt ≤ (I (111 + i) 2).toInt := w
      refine q_ald rfl rfl ?_
      refine q_getr rfl sk_101 sr_101_3 ?_
      refine q_ild rfl rfl ?_
      refine q_xaldr rfl sk_110 sn_110 (by omega) (show x.toInt < (12 : Nat) by omega) hr ?_
      refine q_ic rfl ?_
      refine q_xald rfl (Or.inl rfl) r2 r3 (by decide) (by decide) ?_
      refine q_goto rfl ?_
      refine fin (I (111 + i) 3) ?_
      rw [hs, if_pos (by split at b0 <;> split at b1 <;> omega), i_add (by omega) (by omega), hh]
set_option maxRecDepth 8000 in
theorem v_hiddenAt {n : Nat} {I0 I : Nat → Nat → Int32} {J : Nat → Nat → Int64} {K : dw_K} {N : Nat} {s : gS} {xv yv : Int32} (hR : GRp I0 I s) (hOK : gOK N s) (hx0 : 0 ≤ xv.toInt) (hx1 : xv.toInt ≤ 11) (hy0 : 0 ≤ yv.toInt) (hy1 : yv.toInt ≤ 11)
    (hk : ∀ w : Int32, w.toInt = hdF s.2.2.2.1 xv.toInt yv.toInt s.2.2.2.1.length → K (some (.int w)) (n, SH1, I, J)) : t_X1_hiddenAt [.ref 101, .int xv, .int yv] (n, SH1, I, J) K := by
  refine q_body (Nat.le_of_ble_eq_true rfl) ?_
  refine q_ic rfl ?_
  refine q_ist rfl rfl ?_
  refine q_ic rfl ?_
  refine q_ist rfl rfl ?_
  exact ha_loop hR hOK hx0 hx1 hy0 hy1 hk s.2.2.2.1.length 0 0 0 none rfl (Nat.zero_le _) (Nat.le_refl _) rfl
set_option maxRecDepth 8000 in
theorem GR_107 {I0 I : Nat → Nat → Int32} {s : gS} {j : Nat} {v : Int32} (h : GRp I0 I s) : GRp I0 (dw_up I 107 j v) s := by
  obtain ⟨h1, h2, h3, h4, h5, h6, h7⟩ := h
  have er : ∀ a, a ≠ 107 → dw_up I 107 j v a = I a := fun a ha => up_row ha
  generalize dw_up I 107 j v = I2 at er ⊢
  refine ⟨fun a g1 g2 => (er a (by omega)).trans (h1 a g1 g2), fun i hi => ?_, ?_, ?_, fun i hi => ?_, fun y hy x hx => ?_, fun i hi => ?_⟩
  · rw [er 1 (by decide)]; exact h2 i hi
  · rw [er 102 (by decide)]; exact h3
  · rw [er 101 (by decide)]; exact h4
  · rw [er 108 (by decide), er 109 (by decide), er 103 (by decide), er 104 (by decide), er 105 (by decide)]
    exact h5 i hi
  · rw [er 106 (by decide)]; exact h6 y hy x hx
  · rw [er (111 + i) (by omega)]; exact h7 i hi
set_option maxRecDepth 8000 in
theorem sx_loop {n : Nat} {I0 : Nat → Nat → Int32} {J : Nat → Nat → Int64} {K : dw_K} {bc bs N y : Nat} {s : gS} {yv : Int32} (hOK : gOK N s) (hy : yv.toInt = y) (hyR : y < s.2.2.1.length)
    (hk : ∀ (I : Nat → Nat → Int32) (x : Int32) (s3 : Option Value), GRp I0 I s → (∀ y', y' < y + 1 → ∀ x', x' < s.2.1 → (I 107 (y' * s.2.1 + x')).toInt = skyF s x' y') → dw_ok (pr_X1_setSky K) 73 bc bs [some (.ref 101), some (.int yv), some (.int x), s3] [] (n, SH1, I, J)) :
    ∀ (f i : Nat) (x : Int32) (s3 : Option Value) (I : Nat → Nat → Int32), x.toInt = i → i ≤ s.2.1 → s.2.1 - i ≤ f → GRp I0 I s → (∀ y', y' < y → ∀ x', x' < s.2.1 → (I 107 (y' * s.2.1 + x')).toInt = skyF s x' y') → (∀ x', x' < i → (I 107 (y * s.2.1 + x')).toInt = skyF s x' y) → dw_ok (pr_X1_setSky K) 15 bc bs [some (.ref 101), some (.int yv), some (.int x), s3] [] (n, SH1, I, J) := by
  have c1 : (1 : Int32).toInt = 1 := rfl
  have c0 : (0 : Int32).toInt = 0 := rfl
  have c100 : (100 : Int32).toInt = 100 := rfl
  have c144 : (144 : Int32).toInt = 144 := rfl
  have hC12 := hOK.2.1
  have hR12 := hOK.2.2.1
  have h144 : s.2.2.1.length * s.2.1 ≤ 144 := Nat.le_trans (Nat.mul_le_mul hR12 hC12) (Nat.le_of_ble_eq_true rfl)
  have done : ∀ (i : Nat) (I : Nat → Nat → Int32), s.2.1 ≤ i → (∀ y', y' < y → ∀ x', x' < s.2.1 → (I 107 (y' * s.2.1 + x')).toInt = skyF s x' y') → (∀ x', x' < i → (I 107 (y * s.2.1 + x')).toInt = skyF s x' y) → ∀ y', y' < y + 1 → ∀ x', x' < s.2.1 → (I 107 (y' * s.2.1 + x')).toInt = skyF s x' y' := by
    intro i I hi h1 h2 y' hy' x' hx'
    by_cases e : y' = y
    · rw [e]; exact h2 x' (by omega)
    · exact h1 y' (by omega) x' hx'
  intro f
  induction f with
  | zero =>
    intro i x s3 I hx hi hf hR h1 h2
    have hk0 : (I 102 0).toInt = s.2.1 := hR.2.2.1.1
    refine q_ild rfl rfl ?_
    refine q_ald rfl rfl ?_
    refine q_getr rfl sk_101 sr_101_0 ?_
    refine q_geti rfl sk_102 ?_
    refine q_icmp (c := 3) rfl (by decide) (fun _ => ?_) (fun h => absurd (show x.toInt < (I 102 0).toInt from h) (by omega))
    exact hk I x s3 hR (done i I (by omega) h1 h2)
  | succ f ih =>
    intro i x s3 I hx hi hf hR h1 h2
    have hk0 : (I 102 0).toInt = s.2.1 := hR.2.2.1.1
    refine q_ild rfl rfl ?_
    refine q_ald rfl rfl ?_
    refine q_getr rfl sk_101 sr_101_0 ?_
    refine q_geti rfl sk_102 ?_
    refine q_icmp (c := 3) rfl (by decide) (fun g => ?_) (fun g => ?_)
    · have g : (I 102 0).toInt ≤ x.toInt := g
      exact hk I x s3 hR (done i I (by omega) h1 h2)
    have g : x.toInt < (I 102 0).toInt := g
    have hiC : i < s.2.1 := by omega
    have hix := idx_lt hyR hiC
    have t2 : (x + 1).toInt = x.toInt + 1 := by rw [i_add (by omega) (by omega), c1]
    have tm : (yv * I 102 0).toInt = (y * s.2.1 : Nat) := i_mul (by rw [hk0, hy]; exact (Int.natCast_mul _ _).symm) (by omega) (by omega)
    have tc : (yv * I 102 0 + x).toInt = (y * s.2.1 + i : Nat) := by rw [i_add (by omega) (by omega)]; omega
    refine q_ild rfl rfl ?_
    refine q_ald rfl rfl ?_
    refine q_getr rfl sk_101 sr_101_0 ?_
    refine q_geti rfl sk_102 ?_
    refine q_mul rfl ?_
    refine q_ild rfl rfl ?_
    refine q_add rfl ?_
    refine q_ist rfl rfl ?_
    show dw_ok (pr_X1_setSky K) 38 bc bs [some (.ref 101), some (.int yv), some (.int x), some (.int (yv * I 102 0 + x))] [] (n, SH1, I, J)
    generalize yv * I 102 0 + x = cv at tc ⊢
    refine q_ild rfl rfl ?_
    refine q_ic rfl ?_
    refine q_icmp (c := 3) rfl (by decide) (fun w => absurd (show (144 : Int32).toInt ≤ cv.toInt from w) (by omega)) (fun _ => ?_)
    refine q_ald rfl rfl ?_
    refine q_getr rfl sk_101 sr_101_0 ?_
    refine q_getr rfl sk_102 sr_102_9 ?_
    refine q_ild rfl rfl ?_
    refine q_ic rfl ?_
    refine q_ic rfl ?_
    refine q_ald rfl rfl ?_
    refine q_ild rfl rfl ?_
    refine q_ild rfl rfl ?_
    refine q_callV (as := [.int x, .int yv]) (rest := [.int 100, .int 0, .int cv, .ref 107]) rfl rfl sk_101 rfl (Nat.le_of_ble_eq_true rfl) ?_
    refine v_hiddenAt hR hOK (by omega) (by omega) (by omega) (by omega) (fun w hw => ?_)
    have hb := hd_b (x := x.toInt) (y := yv.toInt) hOK s.2.2.2.1.length (Nat.le_refl _)
    have hS12 := hOK.2.2.2.1
    show dw_ok (pr_X1_setSky K) 62 bc bs [some (.ref 101), some (.int yv), some (.int x), some (.int cv)] [.int w, .int 100, .int 0, .int cv, .ref 107] (n, SH1, I, J)
    have ts : (100 - w).toInt = 100 - w.toInt := by rw [i_sub (by omega) (by omega), c100]
    have tx : (fi_max 0 (100 - w)).toInt = skyF s i y := by
      rw [fi_max_i, ts, c0, hw, hx, hy]
      rfl
    refine q_sub rfl ?_
    refine q_max rfl rfl ?_
    refine q_iast rfl sk_107 sn_107 (by omega) (show cv.toInt < (144 : Nat) by omega) ?_
    show dw_ok (pr_X1_setSky K) 67 bc bs [some (.ref 101), some (.int yv), some (.int x), some (.int cv)] [] (n, SH1, dw_up I 107 cv.toInt.toNat (fi_max 0 (100 - w)), J)
    have ec : cv.toInt.toNat = y * s.2.1 + i := by omega
    rw [ec]
    generalize fi_max 0 (100 - w) = sv at tx ⊢
    refine q_inc rfl rfl rfl ?_
    refine q_goto rfl ?_
    refine ih (i + 1) (x + 1) (some (.int cv)) _ (by omega) (by omega) (by omega) (GR_107 hR) (fun y' hy' x' hx' => ?_) (fun x' hx' => ?_)
    · have q := idx_lt hy' hx'
      rw [up_fld (by omega)]; exact h1 y' hy' x' hx'
    · by_cases e : x' = i
      · rw [e, up_same]; exact tx
      · rw [up_fld (by omega)]; exact h2 x' (by omega)
set_option maxRecDepth 8000 in
theorem sy2_loop {n : Nat} {I0 : Nat → Nat → Int32} {J : Nat → Nat → Int64} {K : dw_K} {bc bs N : Nat} {s : gS} (hOK : gOK N s)
    (hk : ∀ I : Nat → Nat → Int32, GRp I0 I s → (∀ y', y' < s.2.2.1.length → ∀ x', x' < s.2.1 → (I 107 (y' * s.2.1 + x')).toInt = skyF s x' y') → K none (n, SH1, I, J)) :
    ∀ (f i : Nat) (y : Int32) (s2 s3 : Option Value) (I : Nat → Nat → Int32), y.toInt = i → i ≤ s.2.2.1.length → s.2.2.1.length - i ≤ f → GRp I0 I s → (∀ y', y' < i → ∀ x', x' < s.2.1 → (I 107 (y' * s.2.1 + x')).toInt = skyF s x' y') → dw_ok (pr_X1_setSky K) 2 bc bs [some (.ref 101), some (.int y), s2, s3] [] (n, SH1, I, J) := by
  have c1 : (1 : Int32).toInt = 1 := rfl
  have hR12 := hOK.2.2.1
  intro f
  induction f with
  | zero =>
    intro i y s2 s3 I hy hi hf hR h1
    have hk1 : (I 102 1).toInt = s.2.2.1.length := hR.2.2.1.2.1
    refine q_ild rfl rfl ?_
    refine q_ald rfl rfl ?_
    refine q_getr rfl sk_101 sr_101_0 ?_
    refine q_geti rfl sk_102 ?_
    refine q_icmp (c := 3) rfl (by decide) (fun _ => ?_) (fun h => absurd (show y.toInt < (I 102 1).toInt from h) (by omega))
    exact q_vret rfl (hk I hR (fun y' hy' => h1 y' (by omega)))
  | succ f ih =>
    intro i y s2 s3 I hy hi hf hR h1
    have hk1 : (I 102 1).toInt = s.2.2.1.length := hR.2.2.1.2.1
    refine q_ild rfl rfl ?_
    refine q_ald rfl rfl ?_
    refine q_getr rfl sk_101 sr_101_0 ?_
    refine q_geti rfl sk_102 ?_
    refine q_icmp (c := 3) rfl (by decide) (fun g => ?_) (fun g => ?_)
    · have g : (I 102 1).toInt ≤ y.toInt := g
      exact q_vret rfl (hk I hR (fun y' hy' => h1 y' (by omega)))
    have g : y.toInt < (I 102 1).toInt := g
    have t2 : (y + 1).toInt = y.toInt + 1 := by rw [i_add (by omega) (by omega), c1]
    refine q_ic rfl ?_
    refine q_ist rfl rfl ?_
    show dw_ok (pr_X1_setSky K) 15 bc bs [some (.ref 101), some (.int y), some (.int 0), s3] [] (n, SH1, I, J)
    refine sx_loop (y := i) hOK hy (by omega) (fun I2 x s3 hR2 h2 => ?_) s.2.1 0 0 s3 I rfl (Nat.zero_le _) (Nat.le_refl _) hR h1 (fun x' hx' => absurd hx' (Nat.not_lt_zero _))
    refine q_inc rfl rfl rfl ?_
    refine q_goto rfl ?_
    exact ih (i + 1) (y + 1) (some (.int x)) s3 I2 (by omega) (by omega) (by omega) hR2 h2
set_option maxRecDepth 8000 in
theorem v_setSky {n : Nat} {I0 I : Nat → Nat → Int32} {J : Nat → Nat → Int64} {K : dw_K} {N : Nat} {s : gS} (hR : GRp I0 I s) (hOK : gOK N s)
    (hk : ∀ I' : Nat → Nat → Int32, GRp I0 I' s → (∀ y', y' < s.2.2.1.length → ∀ x', x' < s.2.1 → (I' 107 (y' * s.2.1 + x')).toInt = skyF s x' y') → K none (n, SH1, I', J)) : t_X1_setSky [.ref 101] (n, SH1, I, J) K := by
  refine q_body (Nat.le_of_ble_eq_true rfl) ?_
  refine q_ic rfl ?_
  refine q_ist rfl rfl ?_
  exact sy2_loop hOK hk s.2.2.1.length 0 0 none none I rfl (Nat.zero_le _) (Nat.le_refl _) hR (fun y' hy' => absurd hy' (Nat.not_lt_zero _))
/-- a GROUND read: all of it -/
def GSk (I : Nat → Nat → Int32) (s : gS) : Prop := ∀ y', y' < s.2.2.1.length → ∀ x', x' < s.2.1 → (I 107 (y' * s.2.1 + x')).toInt = skyF s x' y'
set_option maxRecDepth 8000 in
theorem gt_loop {n : Nat} {I0 : Nat → Nat → Int32} {J : Nat → Nat → Int64} {K : dw_K} {bc bs N m : Nat} {G : Nat × Nat × Nat × gS} (hN : (I0 1 1).toInt = N) (hN9 : N ≤ 940) (hm : (I0 1 2).toInt = m)
    (hok : G.1 = 0 → ∀ (I' : Nat → Nat → Int32) (w : Int32), GRp I0 I' G.2.2.2 → GSk I' G.2.2.2 → gOK N G.2.2.2 → w.toInt = G.2.2.1 → w.toInt ≤ 940 → K (some (.int w)) (n, SH1, I', J))
    (hno : G.1 ≠ 0 → ∀ (I' : Nat → Nat → Int32) (s' : gS), GRp I0 I' s' → (I' 1 7).toInt = G.1 → (I' 1 8).toInt = G.2.1 → K (some (.int (-1))) (n, SH1, I', J)) :
    ∀ (f ln p : Nat) (i : Int32) (s : gS) (I : Nat → Nat → Int32), ln + f = 940 → ln ≤ p → ggF (tbC I0) N m (f + 1) ln p s = G → GRp I0 I s → gOK N s → (I 1 3).toInt = p → p ≤ N → i.toInt = ln → dw_ok (pr_X1_readText K) 21 bc bs [some (.ref 101), some (.ref 1), some (.int i)] [] (n, SH1, I, J) := by
  have c940 : (940 : Int32).toInt = 940 := rfl
  have c1 : (1 : Int32).toInt = 1 := rfl
  -- one round, whatever follows a line
  have round : ∀ (f ln p : Nat) (i : Int32) (s : gS) (I : Nat → Nat → Int32), ln ≤ 940 → ln ≤ p → ggF (tbC I0) N m (f + 1) ln p s = G → GRp I0 I s → gOK N s → (I 1 3).toInt = p → p ≤ N → i.toInt = ln →
      (∀ (p' : Nat) (s' : gS) (I' : Nat → Nat → Int32), p < p' → ggF (tbC I0) N m f (ln + 1) p' s' = G → GRp I0 I' s' → gOK N s' → (I' 1 3).toInt = p' → p' ≤ N → dw_ok (pr_X1_readText K) 55 bc bs [some (.ref 101), some (.ref 1), some (.int i)] [] (n, SH1, I', J)) →
      dw_ok (pr_X1_readText K) 21 bc bs [some (.ref 101), some (.ref 1), some (.int i)] [] (n, SH1, I, J) := by
    intro f ln p i s I hf hlp hG hR hOK h3 hp hi next
    refine q_ild rfl rfl ?_
    refine q_ic rfl ?_
    refine q_icmp (c := 4) rfl (by decide) (fun h => absurd (show (940 : Int32).toInt < i.toInt from h) (by omega)) (fun _ => ?_)
    refine q_ald rfl rfl ?_
    refine tk_step (p := p) rfl (grT (s := s)) hR hN hN9 hm h3 hp (fun I1 hR1 g3 g4 g5 => ?_)
    have hin := tkF_in (b := tbC I0) (n := N) (m := m) (p := p) hp
    unfold ggF at hG
    refine q_ald rfl rfl ?_
    refine q_geti rfl sk_1 ?_
    refine q_if (c := 1) rfl (by decide) (fun h => ?_) (fun h => ?_)
    · have h : (I1 1 5).toInt ≠ 0 := h
      have hT0 : ¬ (tkF (tbC I0) N m p).1 = 0 := by omega
      rw [if_neg hT0] at hG
      refine q_ald rfl rfl ?_
      refine q_ald rfl rfl ?_
      refine q_callV (as := [.ref 1]) (rest := []) rfl rfl sk_101 rfl (Nat.le_of_ble_eq_true rfl) ?_
      refine v_gline hR1 hOK hN hN9 hm g3 g4 g5 hin.2.2.1 hin.1 (fun hr I2 hR2 g23 hle hadv hOK2 => ?_) (fun hr I2 s2 hR2 g7 g8 => ?_)
      · rw [if_pos hr] at hG
        show dw_ok (pr_X1_readText K) 50 bc bs [some (.ref 101), some (.ref 1), some (.int i)] [.int 1] (n, SH1, I2, J)
        refine q_if (c := 1) rfl (by decide) (fun _ => ?_) (fun h => absurd (show (1 : Int32).toInt = 0 from h) (by decide))
        have hp2 : p < (tkF (tbC I0) N m p).2.2.1 := by
          have hk := gk_kind hr
          exact (hin.2.2.2 (Or.inl hk)).1
        exact next _ _ I2 (by omega) hG hR2 hOK2 g23 hle
      · rw [if_neg hr] at hG
        show dw_ok (pr_X1_readText K) 50 bc bs [some (.ref 101), some (.ref 1), some (.int i)] [.int 0] (n, SH1, I2, J)
        refine q_if (c := 1) rfl (by decide) (fun h => absurd rfl h) (fun _ => ?_)
        refine q_ic rfl ?_
        rw [← hG] at hno
        exact q_iret rfl (hno hr I2 s2 hR2 g7 g8)
    · have h : (I1 1 5).toInt = 0 := h
      have hT0 : (tkF (tbC I0) N m p).1 = 0 := by omega
      rw [if_pos hT0] at hG
      refine q_ald rfl rfl ?_
      refine q_callV (as := []) (rest := []) rfl rfl sk_101 rfl (Nat.le_of_ble_eq_true rfl) ?_
      refine v_setSky hR1 hOK (fun I2 hR2 hS2 => ?_)
      show dw_ok (pr_X1_readText K) 43 bc bs [some (.ref 101), some (.ref 1), some (.int i)] [] (n, SH1, I2, J)
      refine q_ild rfl rfl ?_
      rw [← hG] at hok
      exact q_iret rfl (hok rfl I2 i hR2 hS2 hOK hi (by omega))
  intro f
  induction f with
  | zero =>
    intro ln p i s I hf hlp hG hR hOK h3 hp hi
    refine round 0 ln p i s I (by omega) hlp hG hR hOK h3 hp hi (fun p' s' I' hp' hG' _ _ _ hle => ?_)
    omega
  | succ f ih =>
    intro ln p i s I hf hlp hG hR hOK h3 hp hi
    refine round (f + 1) ln p i s I (by omega) hlp hG hR hOK h3 hp hi (fun p' s' I' hp' hG' hR' hOK' h3' hle => ?_)
    refine q_inc rfl rfl rfl ?_
    refine q_goto rfl ?_
    exact ih (ln + 1) p' (i + 1) s' I' (by omega) (by omega) hG' hR' hOK' h3' hle (by rw [i_add (by omega) (by omega), c1]; omega)
