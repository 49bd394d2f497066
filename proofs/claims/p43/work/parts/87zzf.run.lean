/-! ===== the class's RUN ===== -/
set_option maxRecDepth 8000 in
theorem upF_row {I : Nat → Nat → Int32} {a j : Nat} {v : Int32} : dw_up I a j v a = upF (I a) j v := by
  funext j'
  unfold dw_up upF
  rw [if_pos rfl]
/-- a NIGHT's row at B; the RUN's own -/
abbrev nvF (I : Nat → Nat → Int32) (B d : Nat) : rN := (I (B + 2 + 0) d, I (B + 2 + 1) d, I (B + 2 + 2) d, I (B + 2 + 3) d, I (B + 2 + 4) d)
/-- a cloud in the hour of STEP d -/
def hiF (cl : Int32) (d : Nat) : Prop := d < 72 ∧ ((cl >>> ((Int32.ofNat d / 6) &&& 31)) &&& 1).toInt = 1
noncomputable def tnC (I : Nat → Nat → Int32) (A d : Nat) : rN := (@ite Int32 (hiF (I A 6) d) (Classical.propDecidable _) 100 (I (A + 1 + 2 + 0) d), I (A + 1 + 2 + 1) d, I (A + 1 + 2 + 2) d, I (A + 1 + 2 + 3) d, I (A + 1 + 2 + 4) d)
def cfC (I : Nat → Nat → Int32) (A : Nat) : Nat → rC := fun c => (I (A + 8) c, I (A + 9) c, I (A + 10) c, I (A + 11) c)
def srC (I : Nat → Nat → Int32) (A : Nat) : rS := (I (A + 13), I (A + 14), I A 3, I A 4)
set_option maxRecDepth 8000 in
theorem v_isStep {t : Int32} {μ : dw_S} {K : dw_K} (h0 : 0 ≤ t.toInt) (h1 : t.toInt < 144) (hk : K (some (.int 1)) μ) : t_X11_isStep [.int t] μ K := by
  have c144 : (144 : Int32).toInt = 144 := rfl
  refine q_body (Nat.le_of_ble_eq_true rfl) ?_
  refine q_ild rfl rfl ?_
  refine q_if (c := 2) rfl (by decide) (fun h => absurd (show t.toInt < 0 from h) (by omega)) (fun _ => ?_)
  refine q_ild rfl rfl ?_
  refine q_ic rfl ?_
  refine q_icmp (c := 3) rfl (by decide) (fun h => absurd (show (144 : Int32).toInt ≤ t.toInt from h) (by omega)) (fun _ => ?_)
  refine q_ic rfl ?_
  refine q_goto rfl ?_
  exact q_zret rfl (Or.inr rfl) hk
set_option maxRecDepth 8000 in
theorem v_noStep {t : Int32} {μ : dw_S} {K : dw_K} (h : ¬ (0 ≤ t.toInt ∧ t.toInt < 144)) (hk : K (some (.int 0)) μ) : t_X11_isStep [.int t] μ K := by
  have c144 : (144 : Int32).toInt = 144 := rfl
  refine q_body (Nat.le_of_ble_eq_true rfl) ?_
  refine q_ild rfl rfl ?_
  refine q_if (c := 2) rfl (by decide) (fun g => ?_) (fun g => ?_)
  · refine q_ic rfl ?_
    exact q_zret rfl (Or.inl rfl) hk
  have g : 0 ≤ t.toInt := g
  refine q_ild rfl rfl ?_
  refine q_ic rfl ?_
  refine q_icmp (c := 3) rfl (by decide) (fun g2 => ?_) (fun g2 => absurd (show t.toInt < (144 : Int32).toInt from g2) (by omega))
  refine q_ic rfl ?_
  exact q_zret rfl (Or.inl rfl) hk
set_option maxRecDepth 8000 in
theorem v_ntell {n : Nat} {I : Nat → Nat → Int32} {J : Nat → Nat → Int64} {K : dw_K} {B w : Nat} {x t : Int32} (hB : NT B) (hw : w < 5) (hx : x.toInt = w) (h0 : 0 ≤ t.toInt) (h1 : t.toInt < 144) (hk : K (some (.int (I (B + 2 + w) t.toInt.toNat))) (n, SH1, I, J)) : t_X2_tell [.ref B, .int x, .int t] (n, SH1, I, J) K := by
  have c5 : (5 : Int32).toInt = 5 := rfl
  have hxn : x.toInt.toNat = w := by omega
  obtain ⟨b1, b2, b3⟩ := hB.2.2.2.2 w hw
  refine q_body (Nat.le_of_ble_eq_true rfl) ?_
  refine q_ild rfl rfl ?_
  refine q_if (c := 2) rfl (by decide) (fun h => absurd (show x.toInt < 0 from h) (by omega)) (fun _ => ?_)
  refine q_ild rfl rfl ?_
  refine q_ic rfl ?_
  refine q_icmp (c := 3) rfl (by decide) (fun h => absurd (show (5 : Int32).toInt ≤ x.toInt from h) (by omega)) (fun _ => ?_)
  refine q_ild rfl rfl ?_
  refine q_callS (as := [.int t]) (rest := []) rfl rfl rfl rfl ?_
  refine v_isStep h0 h1 ?_
  show dw_ok (pr_X2_tell K) 13 0 0 [some (.ref B), some (.int x), some (.int t)] [.int 1] (n, SH1, I, J)
  refine q_if (c := 0) rfl (by decide) (fun h => absurd (show (1 : Int32).toInt = 0 from h) (by decide)) (fun _ => ?_)
  refine q_ald rfl rfl ?_
  refine q_getr rfl hB.1 hB.2.1 ?_
  refine q_ild rfl rfl ?_
  refine q_xaldr rfl hB.2.2.1 hB.2.2.2.1 (by omega) (show x.toInt < (5 : Nat) by omega) (show (SH1 (B + 1)).2.2 x.toInt.toNat = some (B + 2 + w) by rw [hxn]; exact b1) ?_
  refine q_ild rfl rfl ?_
  refine q_xald rfl (Or.inl rfl) b2 b3 h0 h1 ?_
  refine q_goto rfl ?_
  exact q_iret rfl hk
set_option maxRecDepth 8000 in
theorem v_has {n : Nat} {I : Nat → Nat → Int32} {J : Nat → Nat → Int64} {K : dw_K} {A N k : Nat} {c : Int32} (hA : RT A) (hc : c.toInt = k) (hN : (I A 1).toInt = N) (hN9 : N ≤ 144) (h1 : k < N) (hk : K (some (.int 1)) (n, SH1, I, J)) : t_X7_has [.ref A, .int c] (n, SH1, I, J) K := by
  obtain ⟨kA, ⟨rA7, rA8, rA9, rA10, rA11, rA12, rA13, rA14⟩, ⟨kA8, kA9, kA10, kA11, kA12, kA13, kA14⟩, ⟨nA8, nA9, nA10, nA11, nA12, nA13, nA14⟩, hNT⟩ := hA
  have hcn : c.toInt.toNat = k := by omega
  have c144 : (144 : Int32).toInt = 144 := rfl
  refine q_body (Nat.le_of_ble_eq_true rfl) ?_
  refine q_ild rfl rfl ?_
  refine q_if (c := 2) rfl (by decide) (fun h => absurd (show (c).toInt < 0 from h) (by omega)) (fun y1 => ?_)
  have y1 : 0 ≤ (c).toInt := y1
  refine q_ild rfl rfl ?_
  refine q_ald rfl rfl ?_
  refine q_geti rfl kA ?_
  refine q_icmp (c := 3) rfl (by decide) (fun h => absurd (show ((I A 1)).toInt ≤ (c).toInt from h) (by omega)) (fun y2 => ?_)
  have y2 : (c).toInt < ((I A 1)).toInt := y2
  refine q_ild rfl rfl ?_
  refine q_ic rfl ?_
  refine q_icmp (c := 3) rfl (by decide) (fun h => absurd (show (144 : Int) ≤ (c).toInt from h) (by omega)) (fun y3 => ?_)
  have y3 : (c).toInt < (144 : Int) := y3
  refine q_ic rfl ?_
  refine q_goto rfl ?_
  exact q_zret rfl (Or.inr rfl) hk
set_option maxRecDepth 8000 in
theorem v_waterOf {n : Nat} {I : Nat → Nat → Int32} {J : Nat → Nat → Int64} {K : dw_K} {A N k : Nat} {c : Int32} (hA : RT A) (hc : c.toInt = k) (hN : (I A 1).toInt = N) (hN9 : N ≤ 144) (h1 : k < N) (hk : K (some (.int (I (A + 14) k))) (n, SH1, I, J)) : t_X7_waterOf [.ref A, .int c] (n, SH1, I, J) K := by
  obtain ⟨kA, ⟨rA7, rA8, rA9, rA10, rA11, rA12, rA13, rA14⟩, ⟨kA8, kA9, kA10, kA11, kA12, kA13, kA14⟩, ⟨nA8, nA9, nA10, nA11, nA12, nA13, nA14⟩, hNT⟩ := id hA
  have hcn : c.toInt.toNat = k := by omega
  refine q_body (Nat.le_of_ble_eq_true rfl) ?_
  refine q_ald rfl rfl ?_
  refine q_ild rfl rfl ?_
  refine q_callV (as := [.int c]) (rest := []) rfl rfl kA rfl (Nat.le_of_ble_eq_true rfl) ?_
  refine v_has hA hc hN hN9 h1 ?_
  show dw_ok (pr_X7_waterOf K) 5 0 0 [some (.ref A), some (.int c)] [.int (1 : Int32)] (n, SH1, I, J)
  refine q_if (c := 0) rfl (by decide) (fun h => absurd (show (1 : Int) = 0 from h) (by decide)) (fun y1 => ?_)
  have y1 : (1 : Int) ≠ 0 := y1
  refine q_ald rfl rfl ?_
  refine q_getr rfl kA rA14 ?_
  refine q_ild rfl rfl ?_
  refine q_xald rfl (Or.inl rfl) kA14 nA14 (by omega) (by omega) ?_
  show dw_ok (pr_X7_waterOf K) 14 0 0 [some (.ref A), some (.int c)] [.int (I (A + 14) (c).toInt.toNat)] (n, SH1, I, J)
  rw [hcn]
  refine q_goto rfl ?_
  exact q_iret rfl hk
set_option maxRecDepth 8000 in
theorem v_warmthOf {n : Nat} {I : Nat → Nat → Int32} {J : Nat → Nat → Int64} {K : dw_K} {A N k : Nat} {c : Int32} (hA : RT A) (hc : c.toInt = k) (hN : (I A 1).toInt = N) (hN9 : N ≤ 144) (h1 : k < N) (hk : K (some (.int (I (A + 13) k))) (n, SH1, I, J)) : t_X7_warmthOf [.ref A, .int c] (n, SH1, I, J) K := by
  obtain ⟨kA, ⟨rA7, rA8, rA9, rA10, rA11, rA12, rA13, rA14⟩, ⟨kA8, kA9, kA10, kA11, kA12, kA13, kA14⟩, ⟨nA8, nA9, nA10, nA11, nA12, nA13, nA14⟩, hNT⟩ := id hA
  have hcn : c.toInt.toNat = k := by omega
  refine q_body (Nat.le_of_ble_eq_true rfl) ?_
  refine q_ald rfl rfl ?_
  refine q_ild rfl rfl ?_
  refine q_callV (as := [.int c]) (rest := []) rfl rfl kA rfl (Nat.le_of_ble_eq_true rfl) ?_
  refine v_has hA hc hN hN9 h1 ?_
  show dw_ok (pr_X7_warmthOf K) 5 0 0 [some (.ref A), some (.int c)] [.int (1 : Int32)] (n, SH1, I, J)
  refine q_if (c := 0) rfl (by decide) (fun h => absurd (show (1 : Int) = 0 from h) (by decide)) (fun y1 => ?_)
  have y1 : (1 : Int) ≠ 0 := y1
  refine q_ald rfl rfl ?_
  refine q_getr rfl kA rA13 ?_
  refine q_ild rfl rfl ?_
  refine q_xald rfl (Or.inl rfl) kA13 nA13 (by omega) (by omega) ?_
  show dw_ok (pr_X7_warmthOf K) 14 0 0 [some (.ref A), some (.int c)] [.int (I (A + 13) (c).toInt.toNat)] (n, SH1, I, J)
  rw [hcn]
  refine q_goto rfl ?_
  exact q_iret rfl hk
set_option maxRecDepth 8000 in
theorem v_hideSky {n : Nat} {I : Nat → Nat → Int32} {J : Nat → Nat → Int64} {K : dw_K} {A N k : Nat} {c : Int32} (hA : RT A) (hc : c.toInt = k) (hN : (I A 1).toInt = N) (hN9 : N ≤ 144) (h1 : k < N) {l : Int32} (hk : K none (n, SH1, dw_up I (A + 11) k (fi_max 0 (I (A + 11) k - l)), J)) : t_X7_hideSky [.ref A, .int c, .int l] (n, SH1, I, J) K := by
  obtain ⟨kA, ⟨rA7, rA8, rA9, rA10, rA11, rA12, rA13, rA14⟩, ⟨kA8, kA9, kA10, kA11, kA12, kA13, kA14⟩, ⟨nA8, nA9, nA10, nA11, nA12, nA13, nA14⟩, hNT⟩ := id hA
  have hcn : c.toInt.toNat = k := by omega
  refine q_body (Nat.le_of_ble_eq_true rfl) ?_
  refine q_ald rfl rfl ?_
  refine q_ild rfl rfl ?_
  refine q_callV (as := [.int c]) (rest := []) rfl rfl kA rfl (Nat.le_of_ble_eq_true rfl) ?_
  refine v_has hA hc hN hN9 h1 ?_
  show dw_ok (pr_X7_hideSky K) 5 0 0 [some (.ref A), some (.int c), some (.int l)] [.int (1 : Int32)] (n, SH1, I, J)
  refine q_if (c := 0) rfl (by decide) (fun h => absurd (show (1 : Int) = 0 from h) (by decide)) (fun y1 => ?_)
  have y1 : (1 : Int) ≠ 0 := y1
  refine q_ald rfl rfl ?_
  refine q_getr rfl kA rA11 ?_
  refine q_ild rfl rfl ?_
  refine q_ic rfl ?_
  refine q_ald rfl rfl ?_
  refine q_getr rfl kA rA11 ?_
  refine q_ild rfl rfl ?_
  refine q_xald rfl (Or.inl rfl) kA11 nA11 (by omega) (by omega) ?_
  show dw_ok (pr_X7_hideSky K) 20 0 0 [some (.ref A), some (.int c), some (.int l)] [.int (I (A + 11) (c).toInt.toNat), .int (0 : Int32), .int c, .ref (A + 11)] (n, SH1, I, J)
  rw [hcn]
  refine q_ild rfl rfl ?_
  refine q_sub rfl ?_
  refine q_max rfl rfl ?_
  refine q_iast rfl kA11 nA11 (by omega) (by omega) ?_
  show dw_ok (pr_X7_hideSky K) 26 0 0 [some (.ref A), some (.int c), some (.int l)] [] (n, SH1, (dw_up I (A + 11) (c).toInt.toNat (fi_max (0 : Int32) ((I (A + 11) k) - l))), J)
  rw [hcn]
  exact q_vret rfl hk
set_option maxRecDepth 8000 in
theorem v_warmer {n : Nat} {I : Nat → Nat → Int32} {J : Nat → Nat → Int64} {K : dw_K} {A k : Nat} {c : Int32} (hA : RT A) (hc : c.toInt = k) (h1 : k < 144) {clear wind air sun : Int32} (hh : 1 ≤ (I (A + 8) k).toInt) (hh9 : (I (A + 8) k).toInt ≤ 1000) (hk : K (some (.int ((air - I (A + 13) k) * (wind + 1) / (I (A + 8) k + 10) + sun * 8 * I (A + 11) k / I (A + 8) k - I (A + 11) k * clear * I (A + 9) k / (100 * I (A + 8) k)))) (n, SH1, I, J)) : t_X7_warmer [.ref A, .int c, .int clear, .int wind, .int air, .int sun] (n, SH1, I, J) K := by
  obtain ⟨kA, ⟨rA7, rA8, rA9, rA10, rA11, rA12, rA13, rA14⟩, ⟨kA8, kA9, kA10, kA11, kA12, kA13, kA14⟩, ⟨nA8, nA9, nA10, nA11, nA12, nA13, nA14⟩, hNT⟩ := hA
  have hcn : c.toInt.toNat = k := by omega
  obtain ⟨hd, ehd⟩ : ∃ hd, hd = I (A + 8) k := ⟨_, rfl⟩
  rw [← ehd] at hh hh9 hk
  have k1 : (1 : Int32).toInt = 1 := rfl
  have k10 : (10 : Int32).toInt = 10 := rfl
  have k100 : (100 : Int32).toInt = 100 := rfl
  have e10 : (hd + 10).toInt = hd.toInt + 10 := by rw [i_add (by omega) (by omega), k10]
  have e100 : (100 * hd).toInt = 100 * hd.toInt := by rw [i_mulB (by rw [k100]; omega) (by rw [k100]; omega), k100]
  have emx : fi_max 1 hd = hd := i_eq (by rw [fi_max_i, k1]; omega)
  refine q_body (Nat.le_of_ble_eq_true rfl) ?_
  refine q_ic rfl ?_
  refine q_ald rfl rfl ?_
  refine q_getr rfl kA rA8 ?_
  refine q_ild rfl rfl ?_
  refine q_xald rfl (Or.inl rfl) kA8 nA8 (by omega) (by omega) ?_
  show dw_ok (pr_X7_warmer K) 7 0 0 [some (.ref A), some (.int c), some (.int clear), some (.int wind), some (.int air), some (.int sun), none] [.int (I (A + 8) (c).toInt.toNat), .int (1 : Int32)] (n, SH1, I, J)
  rw [hcn]
  refine q_max rfl rfl ?_
  show dw_ok (pr_X7_warmer K) 10 0 0 [some (.ref A), some (.int c), some (.int clear), some (.int wind), some (.int air), some (.int sun), none] [.int (fi_max (1 : Int32) (I (A + 8) k))] (n, SH1, I, J)
  rw [show I (A + 8) k = hd from ehd.symm, emx]
  refine q_ist rfl rfl ?_
  show dw_ok (pr_X7_warmer K) 12 0 0 [some (.ref A), some (.int c), some (.int clear), some (.int wind), some (.int air), some (.int sun), some (.int hd)] [] (n, SH1, I, J)
  refine q_ild rfl rfl ?_
  refine q_ald rfl rfl ?_
  refine q_getr rfl kA rA13 ?_
  refine q_ild rfl rfl ?_
  refine q_xald rfl (Or.inl rfl) kA13 nA13 (by omega) (by omega) ?_
  show dw_ok (pr_X7_warmer K) 20 0 0 [some (.ref A), some (.int c), some (.int clear), some (.int wind), some (.int air), some (.int sun), some (.int hd)] [.int (I (A + 13) (c).toInt.toNat), .int air] (n, SH1, I, J)
  rw [hcn]
  refine q_sub rfl ?_
  refine q_ild rfl rfl ?_
  refine q_ic rfl ?_
  refine q_add rfl ?_
  refine q_mul rfl ?_
  refine q_ild rfl rfl ?_
  refine q_ic rfl ?_
  refine q_add rfl ?_
  refine q_div rfl (fi_nz (by omega)) ?_
  refine q_ild rfl rfl ?_
  refine q_ic rfl ?_
  refine q_mul rfl ?_
  refine q_ald rfl rfl ?_
  refine q_getr rfl kA rA11 ?_
  refine q_ild rfl rfl ?_
  refine q_xald rfl (Or.inl rfl) kA11 nA11 (by omega) (by omega) ?_
  show dw_ok (pr_X7_warmer K) 42 0 0 [some (.ref A), some (.int c), some (.int clear), some (.int wind), some (.int air), some (.int sun), some (.int hd)] [.int (I (A + 11) (c).toInt.toNat), .int (sun * (8 : Int32)), .int (((air - (I (A + 13) k)) * (wind + (1 : Int32))) / (hd + (10 : Int32)))] (n, SH1, I, J)
  rw [hcn]
  refine q_mul rfl ?_
  refine q_ild rfl rfl ?_
  refine q_div rfl (fi_nz (by omega)) ?_
  refine q_add rfl ?_
  refine q_ald rfl rfl ?_
  refine q_getr rfl kA rA11 ?_
  refine q_ild rfl rfl ?_
  refine q_xald rfl (Or.inl rfl) kA11 nA11 (by omega) (by omega) ?_
  show dw_ok (pr_X7_warmer K) 53 0 0 [some (.ref A), some (.int c), some (.int clear), some (.int wind), some (.int air), some (.int sun), some (.int hd)] [.int (I (A + 11) (c).toInt.toNat), .int ((((air - (I (A + 13) k)) * (wind + (1 : Int32))) / (hd + (10 : Int32))) + (((sun * (8 : Int32)) * (I (A + 11) k)) / hd))] (n, SH1, I, J)
  rw [hcn]
  refine q_ild rfl rfl ?_
  refine q_mul rfl ?_
  refine q_ald rfl rfl ?_
  refine q_getr rfl kA rA9 ?_
  refine q_ild rfl rfl ?_
  refine q_xald rfl (Or.inl rfl) kA9 nA9 (by omega) (by omega) ?_
  show dw_ok (pr_X7_warmer K) 61 0 0 [some (.ref A), some (.int c), some (.int clear), some (.int wind), some (.int air), some (.int sun), some (.int hd)] [.int (I (A + 9) (c).toInt.toNat), .int ((I (A + 11) k) * clear), .int ((((air - (I (A + 13) k)) * (wind + (1 : Int32))) / (hd + (10 : Int32))) + (((sun * (8 : Int32)) * (I (A + 11) k)) / hd))] (n, SH1, I, J)
  rw [hcn]
  refine q_mul rfl ?_
  refine q_ic rfl ?_
  refine q_ild rfl rfl ?_
  refine q_mul rfl ?_
  refine q_div rfl (fi_nz (by omega)) ?_
  refine q_sub rfl ?_
  exact q_iret rfl hk
set_option maxRecDepth 8000 in
theorem v_comeOn {n : Nat} {I : Nat → Nat → Int32} {J : Nat → Nat → Int64} {K : dw_K} {A k : Nat} {c : Int32} (hA : RT A) (hc : c.toInt = k) (h1 : k < 144) {st : Nat} {lk : Int32} {t : rN} (hst : (I A 5).toInt = st) (hk : ∀ I' : Nat → Nat → Int32, (∀ a, a ≠ A → a ≠ A + 14 → I' a = I a) → (∀ j, j ≠ 3 → j ≠ 4 → I' A j = I A j) → I' (A + 14) = upF (I (A + 14)) k (I (A + 14) k + cmF st t lk (I A 3) + gfF st (cfC I A k)) → I' A 3 = I A 3 - cmF st t lk (I A 3) → I' A 4 = I A 4 + gfF st (cfC I A k) → K none (n, SH1, I', J)) : t_X7_comeOn [.ref A, .int c, .int lk, .int t.2.1] (n, SH1, I, J) K := by
  obtain ⟨kA, ⟨rA7, rA8, rA9, rA10, rA11, rA12, rA13, rA14⟩, ⟨kA8, kA9, kA10, kA11, kA12, kA13, kA14⟩, ⟨nA8, nA9, nA10, nA11, nA12, nA13, nA14⟩, hNT⟩ := hA
  have hcn : c.toInt.toNat = k := by omega
  have k3 : (3 : Int32).toInt = 3 := rfl
  have k2 : (2 : Int32).toInt = 2 := rfl
  have k1 : (1 : Int32).toInt = 1 := rfl
  refine q_body (Nat.le_of_ble_eq_true rfl) ?_
  refine q_ild rfl rfl ?_
  refine q_ic rfl ?_
  refine q_icmp (c := 3) rfl (by decide) (fun y1 => ?_) (fun y1 => ?_)
  · have y1 : (3 : Int) ≤ (t.2.1).toInt := y1
    refine q_ald rfl rfl ?_
    refine q_geti rfl kA ?_
    refine q_ic rfl ?_
    refine q_icmp (c := 0) rfl (by decide) (fun y2 => ?_) (fun y2 => ?_)
    · have y2 : ((I A 5)).toInt = (1 : Int) := y2
      have ec : cmF st t lk (I A 3) = 0 := by unfold cmF; rw [if_neg (by omega)]
      have eg : gfF st (cfC I A k) = 0 := by unfold gfF; rw [if_pos (by omega)]
      rw [ec, eg] at hk
      refine q_vret rfl (hk I (fun a g1 g2 => ?_) (fun j g1 g2 => ?_) ?_ ?_ ?_)
      · rfl
      · rfl
      · funext j
        show I (A + 14) j = upF (I (A + 14)) k (I (A + 14) k + 0 + 0) j
        rw [Int32.add_zero, Int32.add_zero]
        by_cases e : j = k
        · rw [e, upF_at]
        · rw [upF_ne e]
      · rw [Int32.sub_zero]
      · rw [Int32.add_zero]
    · have y2 : ((I A 5)).toInt ≠ (1 : Int) := y2
      refine q_ald rfl rfl ?_
      refine q_dup rfl ?_
      refine q_geti rfl kA ?_
      refine q_ald rfl rfl ?_
      refine q_getr rfl kA rA10 ?_
      refine q_ild rfl rfl ?_
      refine q_xald rfl (Or.inl rfl) kA10 nA10 (by omega) (by omega) ?_
      show dw_ok (pr_X7_comeOn K) 69 0 0 [some (.ref A), some (.int c), some (.int lk), some (.int t.2.1), none] [.int (I (A + 10) (c).toInt.toNat), .int (I A 4), .ref A] (n, SH1, I, J)
      rw [hcn]
      refine q_add rfl ?_
      refine q_puti rfl kA ?_
      show dw_ok (pr_X7_comeOn K) 73 0 0 [some (.ref A), some (.int c), some (.int lk), some (.int t.2.1), none] [] (n, SH1, (dw_up I A 4 ((I A 4) + (I (A + 10) k))), J)
      refine q_ald rfl rfl ?_
      refine q_getr rfl kA rA14 ?_
      refine q_ild rfl rfl ?_
      refine q_dup2 rfl ?_
      refine q_xald rfl (Or.inl rfl) kA14 nA14 (by omega) (by omega) ?_
      show dw_ok (pr_X7_comeOn K) 80 0 0 [some (.ref A), some (.int c), some (.int lk), some (.int t.2.1), none] [.int ((dw_up I A 4 ((I A 4) + (I (A + 10) k))) (A + 14) (c).toInt.toNat), .int c, .ref (A + 14)] (n, SH1, (dw_up I A 4 ((I A 4) + (I (A + 10) k))), J)
      rw [hcn]
      show dw_ok (pr_X7_comeOn K) 80 0 0 [some (.ref A), some (.int c), some (.int lk), some (.int t.2.1), none] [.int ((dw_up I A 4 ((I A 4) + (I (A + 10) k))) (A + 14) k), .int c, .ref (A + 14)] (n, SH1, (dw_up I A 4 ((I A 4) + (I (A + 10) k))), J)
      rw [show ((dw_up I A 4 ((I A 4) + (I (A + 10) k))) (A + 14) k) = (I (A + 14) k) from (up_ne (Or.inl (by omega)))]
      refine q_ald rfl rfl ?_
      refine q_getr rfl kA rA10 ?_
      refine q_ild rfl rfl ?_
      refine q_xald rfl (Or.inl rfl) kA10 nA10 (by omega) (by omega) ?_
      show dw_ok (pr_X7_comeOn K) 86 0 0 [some (.ref A), some (.int c), some (.int lk), some (.int t.2.1), none] [.int ((dw_up I A 4 ((I A 4) + (I (A + 10) k))) (A + 10) (c).toInt.toNat), .int (I (A + 14) k), .int c, .ref (A + 14)] (n, SH1, (dw_up I A 4 ((I A 4) + (I (A + 10) k))), J)
      rw [hcn]
      show dw_ok (pr_X7_comeOn K) 86 0 0 [some (.ref A), some (.int c), some (.int lk), some (.int t.2.1), none] [.int ((dw_up I A 4 ((I A 4) + (I (A + 10) k))) (A + 10) k), .int (I (A + 14) k), .int c, .ref (A + 14)] (n, SH1, (dw_up I A 4 ((I A 4) + (I (A + 10) k))), J)
      rw [show ((dw_up I A 4 ((I A 4) + (I (A + 10) k))) (A + 10) k) = (I (A + 10) k) from (up_ne (Or.inl (by omega)))]
      refine q_add rfl ?_
      refine q_iast rfl kA14 nA14 (by omega) (by omega) ?_
      show dw_ok (pr_X7_comeOn K) 88 0 0 [some (.ref A), some (.int c), some (.int lk), some (.int t.2.1), none] [] (n, SH1, (dw_up (dw_up I A 4 ((I A 4) + (I (A + 10) k))) (A + 14) (c).toInt.toNat ((I (A + 14) k) + (I (A + 10) k))), J)
      rw [hcn]
      have ec : cmF st t lk (I A 3) = 0 := by unfold cmF; rw [if_neg (by omega)]
      have eg : gfF st (cfC I A k) = I (A + 10) k := by unfold gfF; rw [if_neg (by omega)]; rfl
      rw [ec, eg] at hk
      refine q_vret rfl (hk (dw_up (dw_up I A 4 ((I A 4) + (I (A + 10) k))) (A + 14) k ((I (A + 14) k) + (I (A + 10) k))) (fun a g1 g2 => ?_) (fun j g1 g2 => ?_) ?_ ?_ ?_)
      · exact ((up_row g2).trans (up_row g1))
      · exact ((up_ne (Or.inl (by omega))).trans (up_fld g2))
      · funext j
        by_cases e : j = k
        · rw [e, upF_at, show (dw_up (dw_up I A 4 ((I A 4) + (I (A + 10) k))) (A + 14) k ((I (A + 14) k) + (I (A + 10) k))) (A + 14) k = ((I (A + 14) k) + (I (A + 10) k)) from (up_same)]
          rw [Int32.add_zero]
        · rw [upF_ne e]; exact ((up_fld e).trans (up_ne (Or.inl (by omega))))
      · rw [Int32.sub_zero]; exact ((up_ne (Or.inl (by omega))).trans (up_fld (by decide)))
      · exact ((up_ne (Or.inl (by omega))).trans (up_same))
  · have y1 : (t.2.1).toInt < (3 : Int) := y1
    refine q_ald rfl rfl ?_
    refine q_geti rfl kA ?_
    refine q_ic rfl ?_
    refine q_icmp (c := 0) rfl (by decide) (fun y3 => ?_) (fun y3 => ?_)
    · have y3 : ((I A 5)).toInt = (2 : Int) := y3
      refine q_ald rfl rfl ?_
      refine q_geti rfl kA ?_
      refine q_ic rfl ?_
      refine q_icmp (c := 0) rfl (by decide) (fun y4 => ?_) (fun y4 => ?_)
      · have y4 : ((I A 5)).toInt = (1 : Int) := y4
        have ec : cmF st t lk (I A 3) = 0 := by unfold cmF; rw [if_neg (by omega)]
        have eg : gfF st (cfC I A k) = 0 := by unfold gfF; rw [if_pos (by omega)]
        rw [ec, eg] at hk
        refine q_vret rfl (hk I (fun a g1 g2 => ?_) (fun j g1 g2 => ?_) ?_ ?_ ?_)
        · rfl
        · rfl
        · funext j
          show I (A + 14) j = upF (I (A + 14)) k (I (A + 14) k + 0 + 0) j
          rw [Int32.add_zero, Int32.add_zero]
          by_cases e : j = k
          · rw [e, upF_at]
          · rw [upF_ne e]
        · rw [Int32.sub_zero]
        · rw [Int32.add_zero]
      · have y4 : ((I A 5)).toInt ≠ (1 : Int) := y4
        refine q_ald rfl rfl ?_
        refine q_dup rfl ?_
        refine q_geti rfl kA ?_
        refine q_ald rfl rfl ?_
        refine q_getr rfl kA rA10 ?_
        refine q_ild rfl rfl ?_
        refine q_xald rfl (Or.inl rfl) kA10 nA10 (by omega) (by omega) ?_
        show dw_ok (pr_X7_comeOn K) 69 0 0 [some (.ref A), some (.int c), some (.int lk), some (.int t.2.1), none] [.int (I (A + 10) (c).toInt.toNat), .int (I A 4), .ref A] (n, SH1, I, J)
        rw [hcn]
        refine q_add rfl ?_
        refine q_puti rfl kA ?_
        show dw_ok (pr_X7_comeOn K) 73 0 0 [some (.ref A), some (.int c), some (.int lk), some (.int t.2.1), none] [] (n, SH1, (dw_up I A 4 ((I A 4) + (I (A + 10) k))), J)
        refine q_ald rfl rfl ?_
        refine q_getr rfl kA rA14 ?_
        refine q_ild rfl rfl ?_
        refine q_dup2 rfl ?_
        refine q_xald rfl (Or.inl rfl) kA14 nA14 (by omega) (by omega) ?_
        show dw_ok (pr_X7_comeOn K) 80 0 0 [some (.ref A), some (.int c), some (.int lk), some (.int t.2.1), none] [.int ((dw_up I A 4 ((I A 4) + (I (A + 10) k))) (A + 14) (c).toInt.toNat), .int c, .ref (A + 14)] (n, SH1, (dw_up I A 4 ((I A 4) + (I (A + 10) k))), J)
        rw [hcn]
        show dw_ok (pr_X7_comeOn K) 80 0 0 [some (.ref A), some (.int c), some (.int lk), some (.int t.2.1), none] [.int ((dw_up I A 4 ((I A 4) + (I (A + 10) k))) (A + 14) k), .int c, .ref (A + 14)] (n, SH1, (dw_up I A 4 ((I A 4) + (I (A + 10) k))), J)
        rw [show ((dw_up I A 4 ((I A 4) + (I (A + 10) k))) (A + 14) k) = (I (A + 14) k) from (up_ne (Or.inl (by omega)))]
        refine q_ald rfl rfl ?_
        refine q_getr rfl kA rA10 ?_
        refine q_ild rfl rfl ?_
        refine q_xald rfl (Or.inl rfl) kA10 nA10 (by omega) (by omega) ?_
        show dw_ok (pr_X7_comeOn K) 86 0 0 [some (.ref A), some (.int c), some (.int lk), some (.int t.2.1), none] [.int ((dw_up I A 4 ((I A 4) + (I (A + 10) k))) (A + 10) (c).toInt.toNat), .int (I (A + 14) k), .int c, .ref (A + 14)] (n, SH1, (dw_up I A 4 ((I A 4) + (I (A + 10) k))), J)
        rw [hcn]
        show dw_ok (pr_X7_comeOn K) 86 0 0 [some (.ref A), some (.int c), some (.int lk), some (.int t.2.1), none] [.int ((dw_up I A 4 ((I A 4) + (I (A + 10) k))) (A + 10) k), .int (I (A + 14) k), .int c, .ref (A + 14)] (n, SH1, (dw_up I A 4 ((I A 4) + (I (A + 10) k))), J)
        rw [show ((dw_up I A 4 ((I A 4) + (I (A + 10) k))) (A + 10) k) = (I (A + 10) k) from (up_ne (Or.inl (by omega)))]
        refine q_add rfl ?_
        refine q_iast rfl kA14 nA14 (by omega) (by omega) ?_
        show dw_ok (pr_X7_comeOn K) 88 0 0 [some (.ref A), some (.int c), some (.int lk), some (.int t.2.1), none] [] (n, SH1, (dw_up (dw_up I A 4 ((I A 4) + (I (A + 10) k))) (A + 14) (c).toInt.toNat ((I (A + 14) k) + (I (A + 10) k))), J)
        rw [hcn]
        have ec : cmF st t lk (I A 3) = 0 := by unfold cmF; rw [if_neg (by omega)]
        have eg : gfF st (cfC I A k) = I (A + 10) k := by unfold gfF; rw [if_neg (by omega)]; rfl
        rw [ec, eg] at hk
        refine q_vret rfl (hk (dw_up (dw_up I A 4 ((I A 4) + (I (A + 10) k))) (A + 14) k ((I (A + 14) k) + (I (A + 10) k))) (fun a g1 g2 => ?_) (fun j g1 g2 => ?_) ?_ ?_ ?_)
        · exact ((up_row g2).trans (up_row g1))
        · exact ((up_ne (Or.inl (by omega))).trans (up_fld g2))
        · funext j
          by_cases e : j = k
          · rw [e, upF_at, show (dw_up (dw_up I A 4 ((I A 4) + (I (A + 10) k))) (A + 14) k ((I (A + 14) k) + (I (A + 10) k))) (A + 14) k = ((I (A + 14) k) + (I (A + 10) k)) from (up_same)]
            rw [Int32.add_zero]
          · rw [upF_ne e]; exact ((up_fld e).trans (up_ne (Or.inl (by omega))))
        · rw [Int32.sub_zero]; exact ((up_ne (Or.inl (by omega))).trans (up_fld (by decide)))
        · exact ((up_ne (Or.inl (by omega))).trans (up_same))
    · have y3 : ((I A 5)).toInt ≠ (2 : Int) := y3
      refine q_ald rfl rfl ?_
      refine q_geti rfl kA ?_
      refine q_ild rfl rfl ?_
      refine q_ic rfl ?_
      refine q_div rfl (by decide) ?_
      refine q_ic rfl ?_
      refine q_add rfl ?_
      refine q_min rfl rfl ?_
      refine q_ist rfl rfl ?_
      show dw_ok (pr_X7_comeOn K) 28 0 0 [some (.ref A), some (.int c), some (.int lk), some (.int t.2.1), some (.int (fi_min (I A 3) ((lk / (50 : Int32)) + (1 : Int32))))] [] (n, SH1, I, J)
      refine q_ald rfl rfl ?_
      refine q_dup rfl ?_
      refine q_geti rfl kA ?_
      refine q_ild rfl rfl ?_
      refine q_sub rfl ?_
      refine q_puti rfl kA ?_
      show dw_ok (pr_X7_comeOn K) 39 0 0 [some (.ref A), some (.int c), some (.int lk), some (.int t.2.1), some (.int (fi_min (I A 3) ((lk / (50 : Int32)) + (1 : Int32))))] [] (n, SH1, (dw_up I A 3 ((I A 3) - (fi_min (I A 3) ((lk / (50 : Int32)) + (1 : Int32))))), J)
      refine q_ald rfl rfl ?_
      refine q_getr rfl kA rA14 ?_
      refine q_ild rfl rfl ?_
      refine q_dup2 rfl ?_
      refine q_xald rfl (Or.inl rfl) kA14 nA14 (by omega) (by omega) ?_
      show dw_ok (pr_X7_comeOn K) 46 0 0 [some (.ref A), some (.int c), some (.int lk), some (.int t.2.1), some (.int (fi_min (I A 3) ((lk / (50 : Int32)) + (1 : Int32))))] [.int ((dw_up I A 3 ((I A 3) - (fi_min (I A 3) ((lk / (50 : Int32)) + (1 : Int32))))) (A + 14) (c).toInt.toNat), .int c, .ref (A + 14)] (n, SH1, (dw_up I A 3 ((I A 3) - (fi_min (I A 3) ((lk / (50 : Int32)) + (1 : Int32))))), J)
      rw [hcn]
      show dw_ok (pr_X7_comeOn K) 46 0 0 [some (.ref A), some (.int c), some (.int lk), some (.int t.2.1), some (.int (fi_min (I A 3) ((lk / (50 : Int32)) + (1 : Int32))))] [.int ((dw_up I A 3 ((I A 3) - (fi_min (I A 3) ((lk / (50 : Int32)) + (1 : Int32))))) (A + 14) k), .int c, .ref (A + 14)] (n, SH1, (dw_up I A 3 ((I A 3) - (fi_min (I A 3) ((lk / (50 : Int32)) + (1 : Int32))))), J)
      rw [show ((dw_up I A 3 ((I A 3) - (fi_min (I A 3) ((lk / (50 : Int32)) + (1 : Int32))))) (A + 14) k) = (I (A + 14) k) from (up_ne (Or.inl (by omega)))]
      refine q_ild rfl rfl ?_
      refine q_add rfl ?_
      refine q_iast rfl kA14 nA14 (by omega) (by omega) ?_
      show dw_ok (pr_X7_comeOn K) 50 0 0 [some (.ref A), some (.int c), some (.int lk), some (.int t.2.1), some (.int (fi_min (I A 3) ((lk / (50 : Int32)) + (1 : Int32))))] [] (n, SH1, (dw_up (dw_up I A 3 ((I A 3) - (fi_min (I A 3) ((lk / (50 : Int32)) + (1 : Int32))))) (A + 14) (c).toInt.toNat ((I (A + 14) k) + (fi_min (I A 3) ((lk / (50 : Int32)) + (1 : Int32))))), J)
      rw [hcn]
      refine q_ald rfl rfl ?_
      refine q_geti rfl kA ?_
      show dw_ok (pr_X7_comeOn K) 54 0 0 [some (.ref A), some (.int c), some (.int lk), some (.int t.2.1), some (.int (fi_min (I A 3) ((lk / (50 : Int32)) + (1 : Int32))))] [.int ((dw_up (dw_up I A 3 ((I A 3) - (fi_min (I A 3) ((lk / (50 : Int32)) + (1 : Int32))))) (A + 14) k ((I (A + 14) k) + (fi_min (I A 3) ((lk / (50 : Int32)) + (1 : Int32))))) A 5)] (n, SH1, (dw_up (dw_up I A 3 ((I A 3) - (fi_min (I A 3) ((lk / (50 : Int32)) + (1 : Int32))))) (A + 14) k ((I (A + 14) k) + (fi_min (I A 3) ((lk / (50 : Int32)) + (1 : Int32))))), J)
      rw [show ((dw_up (dw_up I A 3 ((I A 3) - (fi_min (I A 3) ((lk / (50 : Int32)) + (1 : Int32))))) (A + 14) k ((I (A + 14) k) + (fi_min (I A 3) ((lk / (50 : Int32)) + (1 : Int32))))) A 5) = (I A 5) from ((up_ne (Or.inl (by omega))).trans (up_fld (by decide)))]
      refine q_ic rfl ?_
      refine q_icmp (c := 0) rfl (by decide) (fun y5 => ?_) (fun y5 => ?_)
      · have y5 : ((I A 5)).toInt = (1 : Int) := y5
        have ec : cmF st t lk (I A 3) = fi_min (I A 3) (lk / 50 + 1) := by unfold cmF; rw [if_pos (by omega)]
        have eg : gfF st (cfC I A k) = 0 := by unfold gfF; rw [if_pos (by omega)]
        rw [ec, eg] at hk
        refine q_vret rfl (hk (dw_up (dw_up I A 3 ((I A 3) - (fi_min (I A 3) ((lk / (50 : Int32)) + (1 : Int32))))) (A + 14) k ((I (A + 14) k) + (fi_min (I A 3) ((lk / (50 : Int32)) + (1 : Int32))))) (fun a g1 g2 => ?_) (fun j g1 g2 => ?_) ?_ ?_ ?_)
        · exact ((up_row g2).trans (up_row g1))
        · exact ((up_ne (Or.inl (by omega))).trans (up_fld g1))
        · funext j
          by_cases e : j = k
          · rw [e, upF_at, show (dw_up (dw_up I A 3 ((I A 3) - (fi_min (I A 3) ((lk / (50 : Int32)) + (1 : Int32))))) (A + 14) k ((I (A + 14) k) + (fi_min (I A 3) ((lk / (50 : Int32)) + (1 : Int32))))) (A + 14) k = ((I (A + 14) k) + (fi_min (I A 3) ((lk / (50 : Int32)) + (1 : Int32)))) from (up_same)]
            rw [Int32.add_zero]
          · rw [upF_ne e]; exact ((up_fld e).trans (up_ne (Or.inl (by omega))))
        · exact ((up_ne (Or.inl (by omega))).trans (up_same))
        · rw [Int32.add_zero]; exact ((up_ne (Or.inl (by omega))).trans (up_fld (by decide)))
      · have y5 : ((I A 5)).toInt ≠ (1 : Int) := y5
        refine q_ald rfl rfl ?_
        refine q_dup rfl ?_
        refine q_geti rfl kA ?_
        show dw_ok (pr_X7_comeOn K) 63 0 0 [some (.ref A), some (.int c), some (.int lk), some (.int t.2.1), some (.int (fi_min (I A 3) ((lk / (50 : Int32)) + (1 : Int32))))] [.int ((dw_up (dw_up I A 3 ((I A 3) - (fi_min (I A 3) ((lk / (50 : Int32)) + (1 : Int32))))) (A + 14) k ((I (A + 14) k) + (fi_min (I A 3) ((lk / (50 : Int32)) + (1 : Int32))))) A 4), .ref A] (n, SH1, (dw_up (dw_up I A 3 ((I A 3) - (fi_min (I A 3) ((lk / (50 : Int32)) + (1 : Int32))))) (A + 14) k ((I (A + 14) k) + (fi_min (I A 3) ((lk / (50 : Int32)) + (1 : Int32))))), J)
        rw [show ((dw_up (dw_up I A 3 ((I A 3) - (fi_min (I A 3) ((lk / (50 : Int32)) + (1 : Int32))))) (A + 14) k ((I (A + 14) k) + (fi_min (I A 3) ((lk / (50 : Int32)) + (1 : Int32))))) A 4) = (I A 4) from ((up_ne (Or.inl (by omega))).trans (up_fld (by decide)))]
        refine q_ald rfl rfl ?_
        refine q_getr rfl kA rA10 ?_
        refine q_ild rfl rfl ?_
        refine q_xald rfl (Or.inl rfl) kA10 nA10 (by omega) (by omega) ?_
        show dw_ok (pr_X7_comeOn K) 69 0 0 [some (.ref A), some (.int c), some (.int lk), some (.int t.2.1), some (.int (fi_min (I A 3) ((lk / (50 : Int32)) + (1 : Int32))))] [.int ((dw_up (dw_up I A 3 ((I A 3) - (fi_min (I A 3) ((lk / (50 : Int32)) + (1 : Int32))))) (A + 14) k ((I (A + 14) k) + (fi_min (I A 3) ((lk / (50 : Int32)) + (1 : Int32))))) (A + 10) (c).toInt.toNat), .int (I A 4), .ref A] (n, SH1, (dw_up (dw_up I A 3 ((I A 3) - (fi_min (I A 3) ((lk / (50 : Int32)) + (1 : Int32))))) (A + 14) k ((I (A + 14) k) + (fi_min (I A 3) ((lk / (50 : Int32)) + (1 : Int32))))), J)
        rw [hcn]
        show dw_ok (pr_X7_comeOn K) 69 0 0 [some (.ref A), some (.int c), some (.int lk), some (.int t.2.1), some (.int (fi_min (I A 3) ((lk / (50 : Int32)) + (1 : Int32))))] [.int ((dw_up (dw_up I A 3 ((I A 3) - (fi_min (I A 3) ((lk / (50 : Int32)) + (1 : Int32))))) (A + 14) k ((I (A + 14) k) + (fi_min (I A 3) ((lk / (50 : Int32)) + (1 : Int32))))) (A + 10) k), .int (I A 4), .ref A] (n, SH1, (dw_up (dw_up I A 3 ((I A 3) - (fi_min (I A 3) ((lk / (50 : Int32)) + (1 : Int32))))) (A + 14) k ((I (A + 14) k) + (fi_min (I A 3) ((lk / (50 : Int32)) + (1 : Int32))))), J)
        rw [show ((dw_up (dw_up I A 3 ((I A 3) - (fi_min (I A 3) ((lk / (50 : Int32)) + (1 : Int32))))) (A + 14) k ((I (A + 14) k) + (fi_min (I A 3) ((lk / (50 : Int32)) + (1 : Int32))))) (A + 10) k) = (I (A + 10) k) from ((up_ne (Or.inl (by omega))).trans (up_ne (Or.inl (by omega))))]
        refine q_add rfl ?_
        refine q_puti rfl kA ?_
        show dw_ok (pr_X7_comeOn K) 73 0 0 [some (.ref A), some (.int c), some (.int lk), some (.int t.2.1), some (.int (fi_min (I A 3) ((lk / (50 : Int32)) + (1 : Int32))))] [] (n, SH1, (dw_up (dw_up (dw_up I A 3 ((I A 3) - (fi_min (I A 3) ((lk / (50 : Int32)) + (1 : Int32))))) (A + 14) k ((I (A + 14) k) + (fi_min (I A 3) ((lk / (50 : Int32)) + (1 : Int32))))) A 4 ((I A 4) + (I (A + 10) k))), J)
        refine q_ald rfl rfl ?_
        refine q_getr rfl kA rA14 ?_
        refine q_ild rfl rfl ?_
        refine q_dup2 rfl ?_
        refine q_xald rfl (Or.inl rfl) kA14 nA14 (by omega) (by omega) ?_
        show dw_ok (pr_X7_comeOn K) 80 0 0 [some (.ref A), some (.int c), some (.int lk), some (.int t.2.1), some (.int (fi_min (I A 3) ((lk / (50 : Int32)) + (1 : Int32))))] [.int ((dw_up (dw_up (dw_up I A 3 ((I A 3) - (fi_min (I A 3) ((lk / (50 : Int32)) + (1 : Int32))))) (A + 14) k ((I (A + 14) k) + (fi_min (I A 3) ((lk / (50 : Int32)) + (1 : Int32))))) A 4 ((I A 4) + (I (A + 10) k))) (A + 14) (c).toInt.toNat), .int c, .ref (A + 14)] (n, SH1, (dw_up (dw_up (dw_up I A 3 ((I A 3) - (fi_min (I A 3) ((lk / (50 : Int32)) + (1 : Int32))))) (A + 14) k ((I (A + 14) k) + (fi_min (I A 3) ((lk / (50 : Int32)) + (1 : Int32))))) A 4 ((I A 4) + (I (A + 10) k))), J)
        rw [hcn]
        show dw_ok (pr_X7_comeOn K) 80 0 0 [some (.ref A), some (.int c), some (.int lk), some (.int t.2.1), some (.int (fi_min (I A 3) ((lk / (50 : Int32)) + (1 : Int32))))] [.int ((dw_up (dw_up (dw_up I A 3 ((I A 3) - (fi_min (I A 3) ((lk / (50 : Int32)) + (1 : Int32))))) (A + 14) k ((I (A + 14) k) + (fi_min (I A 3) ((lk / (50 : Int32)) + (1 : Int32))))) A 4 ((I A 4) + (I (A + 10) k))) (A + 14) k), .int c, .ref (A + 14)] (n, SH1, (dw_up (dw_up (dw_up I A 3 ((I A 3) - (fi_min (I A 3) ((lk / (50 : Int32)) + (1 : Int32))))) (A + 14) k ((I (A + 14) k) + (fi_min (I A 3) ((lk / (50 : Int32)) + (1 : Int32))))) A 4 ((I A 4) + (I (A + 10) k))), J)
        rw [show ((dw_up (dw_up (dw_up I A 3 ((I A 3) - (fi_min (I A 3) ((lk / (50 : Int32)) + (1 : Int32))))) (A + 14) k ((I (A + 14) k) + (fi_min (I A 3) ((lk / (50 : Int32)) + (1 : Int32))))) A 4 ((I A 4) + (I (A + 10) k))) (A + 14) k) = ((I (A + 14) k) + (fi_min (I A 3) ((lk / (50 : Int32)) + (1 : Int32)))) from ((up_ne (Or.inl (by omega))).trans up_same)]
        refine q_ald rfl rfl ?_
        refine q_getr rfl kA rA10 ?_
        refine q_ild rfl rfl ?_
        refine q_xald rfl (Or.inl rfl) kA10 nA10 (by omega) (by omega) ?_
        show dw_ok (pr_X7_comeOn K) 86 0 0 [some (.ref A), some (.int c), some (.int lk), some (.int t.2.1), some (.int (fi_min (I A 3) ((lk / (50 : Int32)) + (1 : Int32))))] [.int ((dw_up (dw_up (dw_up I A 3 ((I A 3) - (fi_min (I A 3) ((lk / (50 : Int32)) + (1 : Int32))))) (A + 14) k ((I (A + 14) k) + (fi_min (I A 3) ((lk / (50 : Int32)) + (1 : Int32))))) A 4 ((I A 4) + (I (A + 10) k))) (A + 10) (c).toInt.toNat), .int ((I (A + 14) k) + (fi_min (I A 3) ((lk / (50 : Int32)) + (1 : Int32)))), .int c, .ref (A + 14)] (n, SH1, (dw_up (dw_up (dw_up I A 3 ((I A 3) - (fi_min (I A 3) ((lk / (50 : Int32)) + (1 : Int32))))) (A + 14) k ((I (A + 14) k) + (fi_min (I A 3) ((lk / (50 : Int32)) + (1 : Int32))))) A 4 ((I A 4) + (I (A + 10) k))), J)
        rw [hcn]
        show dw_ok (pr_X7_comeOn K) 86 0 0 [some (.ref A), some (.int c), some (.int lk), some (.int t.2.1), some (.int (fi_min (I A 3) ((lk / (50 : Int32)) + (1 : Int32))))] [.int ((dw_up (dw_up (dw_up I A 3 ((I A 3) - (fi_min (I A 3) ((lk / (50 : Int32)) + (1 : Int32))))) (A + 14) k ((I (A + 14) k) + (fi_min (I A 3) ((lk / (50 : Int32)) + (1 : Int32))))) A 4 ((I A 4) + (I (A + 10) k))) (A + 10) k), .int ((I (A + 14) k) + (fi_min (I A 3) ((lk / (50 : Int32)) + (1 : Int32)))), .int c, .ref (A + 14)] (n, SH1, (dw_up (dw_up (dw_up I A 3 ((I A 3) - (fi_min (I A 3) ((lk / (50 : Int32)) + (1 : Int32))))) (A + 14) k ((I (A + 14) k) + (fi_min (I A 3) ((lk / (50 : Int32)) + (1 : Int32))))) A 4 ((I A 4) + (I (A + 10) k))), J)
        rw [show ((dw_up (dw_up (dw_up I A 3 ((I A 3) - (fi_min (I A 3) ((lk / (50 : Int32)) + (1 : Int32))))) (A + 14) k ((I (A + 14) k) + (fi_min (I A 3) ((lk / (50 : Int32)) + (1 : Int32))))) A 4 ((I A 4) + (I (A + 10) k))) (A + 10) k) = (I (A + 10) k) from ((up_ne (Or.inl (by omega))).trans ((up_ne (Or.inl (by omega))).trans (up_ne (Or.inl (by omega)))))]
        refine q_add rfl ?_
        refine q_iast rfl kA14 nA14 (by omega) (by omega) ?_
        show dw_ok (pr_X7_comeOn K) 88 0 0 [some (.ref A), some (.int c), some (.int lk), some (.int t.2.1), some (.int (fi_min (I A 3) ((lk / (50 : Int32)) + (1 : Int32))))] [] (n, SH1, (dw_up (dw_up (dw_up (dw_up I A 3 ((I A 3) - (fi_min (I A 3) ((lk / (50 : Int32)) + (1 : Int32))))) (A + 14) k ((I (A + 14) k) + (fi_min (I A 3) ((lk / (50 : Int32)) + (1 : Int32))))) A 4 ((I A 4) + (I (A + 10) k))) (A + 14) (c).toInt.toNat (((I (A + 14) k) + (fi_min (I A 3) ((lk / (50 : Int32)) + (1 : Int32)))) + (I (A + 10) k))), J)
        rw [hcn]
        have ec : cmF st t lk (I A 3) = fi_min (I A 3) (lk / 50 + 1) := by unfold cmF; rw [if_pos (by omega)]
        have eg : gfF st (cfC I A k) = I (A + 10) k := by unfold gfF; rw [if_neg (by omega)]; rfl
        rw [ec, eg] at hk
        refine q_vret rfl (hk (dw_up (dw_up (dw_up (dw_up I A 3 ((I A 3) - (fi_min (I A 3) ((lk / (50 : Int32)) + (1 : Int32))))) (A + 14) k ((I (A + 14) k) + (fi_min (I A 3) ((lk / (50 : Int32)) + (1 : Int32))))) A 4 ((I A 4) + (I (A + 10) k))) (A + 14) k (((I (A + 14) k) + (fi_min (I A 3) ((lk / (50 : Int32)) + (1 : Int32)))) + (I (A + 10) k))) (fun a g1 g2 => ?_) (fun j g1 g2 => ?_) ?_ ?_ ?_)
        · exact ((up_row g2).trans ((up_row g1).trans ((up_row g2).trans (up_row g1))))
        · exact ((up_ne (Or.inl (by omega))).trans ((up_fld g2).trans ((up_ne (Or.inl (by omega))).trans (up_fld g1))))
        · funext j
          by_cases e : j = k
          · rw [e, upF_at, show (dw_up (dw_up (dw_up (dw_up I A 3 ((I A 3) - (fi_min (I A 3) ((lk / (50 : Int32)) + (1 : Int32))))) (A + 14) k ((I (A + 14) k) + (fi_min (I A 3) ((lk / (50 : Int32)) + (1 : Int32))))) A 4 ((I A 4) + (I (A + 10) k))) (A + 14) k (((I (A + 14) k) + (fi_min (I A 3) ((lk / (50 : Int32)) + (1 : Int32)))) + (I (A + 10) k))) (A + 14) k = (((I (A + 14) k) + (fi_min (I A 3) ((lk / (50 : Int32)) + (1 : Int32)))) + (I (A + 10) k)) from (up_same)]
          · rw [upF_ne e]; exact ((up_fld e).trans ((up_ne (Or.inl (by omega))).trans ((up_fld e).trans (up_ne (Or.inl (by omega))))))
        · exact ((up_ne (Or.inl (by omega))).trans ((up_fld (by decide)).trans ((up_ne (Or.inl (by omega))).trans (up_same))))
        · exact ((up_ne (Or.inl (by omega))).trans (up_same))
set_option maxRecDepth 8000 in
theorem v_dryOff {n : Nat} {I : Nat → Nat → Int32} {J : Nat → Nat → Int64} {K : dw_K} {A k : Nat} {c : Int32} (hA : RT A) (hc : c.toInt = k) (h1 : k < 144) {st : Nat} {lk : Int32} {t : rN} (hst : (I A 5).toInt = st) (hk : ∀ I' : Nat → Nat → Int32, (∀ a, a ≠ A → a ≠ A + 14 → I' a = I a) → (∀ j, j ≠ 3 → j ≠ 4 → I' A j = I A j) → I' (A + 14) = upF (I (A + 14)) k (I (A + 14) k - drF t lk (I (A + 14) k)) → I' A 3 = I A 3 + (if st = 2 then 0 else drF t lk (I (A + 14) k)) → I' A 4 = I A 4 → K none (n, SH1, I', J)) : t_X7_dryOff [.ref A, .int c, .int (-lk), .int t.2.1] (n, SH1, I, J) K := by
  obtain ⟨kA, ⟨rA7, rA8, rA9, rA10, rA11, rA12, rA13, rA14⟩, ⟨kA8, kA9, kA10, kA11, kA12, kA13, kA14⟩, ⟨nA8, nA9, nA10, nA11, nA12, nA13, nA14⟩, hNT⟩ := hA
  have hcn : c.toInt.toNat = k := by omega
  have k2 : (2 : Int32).toInt = 2 := rfl
  refine q_body (Nat.le_of_ble_eq_true rfl) ?_
  refine q_ald rfl rfl ?_
  refine q_getr rfl kA rA14 ?_
  refine q_ild rfl rfl ?_
  refine q_xald rfl (Or.inl rfl) kA14 nA14 (by omega) (by omega) ?_
  show dw_ok (pr_X7_dryOff K) 6 0 0 [some (.ref A), some (.int c), some (.int (-lk)), some (.int t.2.1), none] [.int (I (A + 14) (c).toInt.toNat)] (n, SH1, I, J)
  rw [hcn]
  refine q_ild rfl rfl ?_
  refine q_ic rfl ?_
  refine q_add rfl ?_
  refine q_ild rfl rfl ?_
  refine q_ic rfl ?_
  refine q_div rfl (by decide) ?_
  refine q_ic rfl ?_
  refine q_add rfl ?_
  refine q_mul rfl ?_
  refine q_min rfl rfl ?_
  refine q_ist rfl rfl ?_
  show dw_ok (pr_X7_dryOff K) 21 0 0 [some (.ref A), some (.int c), some (.int (-lk)), some (.int t.2.1), some (.int (fi_min (I (A + 14) k) ((t.2.1 + (1 : Int32)) * (((-lk) / (40 : Int32)) + (1 : Int32)))))] [] (n, SH1, I, J)
  refine q_ald rfl rfl ?_
  refine q_getr rfl kA rA14 ?_
  refine q_ild rfl rfl ?_
  refine q_dup2 rfl ?_
  refine q_xald rfl (Or.inl rfl) kA14 nA14 (by omega) (by omega) ?_
  show dw_ok (pr_X7_dryOff K) 28 0 0 [some (.ref A), some (.int c), some (.int (-lk)), some (.int t.2.1), some (.int (fi_min (I (A + 14) k) ((t.2.1 + (1 : Int32)) * (((-lk) / (40 : Int32)) + (1 : Int32)))))] [.int (I (A + 14) (c).toInt.toNat), .int c, .ref (A + 14)] (n, SH1, I, J)
  rw [hcn]
  refine q_ild rfl rfl ?_
  refine q_sub rfl ?_
  refine q_iast rfl kA14 nA14 (by omega) (by omega) ?_
  show dw_ok (pr_X7_dryOff K) 32 0 0 [some (.ref A), some (.int c), some (.int (-lk)), some (.int t.2.1), some (.int (fi_min (I (A + 14) k) ((t.2.1 + (1 : Int32)) * (((-lk) / (40 : Int32)) + (1 : Int32)))))] [] (n, SH1, (dw_up I (A + 14) (c).toInt.toNat ((I (A + 14) k) - (fi_min (I (A + 14) k) ((t.2.1 + (1 : Int32)) * (((-lk) / (40 : Int32)) + (1 : Int32)))))), J)
  rw [hcn]
  refine q_ald rfl rfl ?_
  refine q_dup rfl ?_
  refine q_geti rfl kA ?_
  show dw_ok (pr_X7_dryOff K) 37 0 0 [some (.ref A), some (.int c), some (.int (-lk)), some (.int t.2.1), some (.int (fi_min (I (A + 14) k) ((t.2.1 + (1 : Int32)) * (((-lk) / (40 : Int32)) + (1 : Int32)))))] [.int ((dw_up I (A + 14) k ((I (A + 14) k) - (fi_min (I (A + 14) k) ((t.2.1 + (1 : Int32)) * (((-lk) / (40 : Int32)) + (1 : Int32)))))) A 3), .ref A] (n, SH1, (dw_up I (A + 14) k ((I (A + 14) k) - (fi_min (I (A + 14) k) ((t.2.1 + (1 : Int32)) * (((-lk) / (40 : Int32)) + (1 : Int32)))))), J)
  rw [show ((dw_up I (A + 14) k ((I (A + 14) k) - (fi_min (I (A + 14) k) ((t.2.1 + (1 : Int32)) * (((-lk) / (40 : Int32)) + (1 : Int32)))))) A 3) = (I A 3) from (up_ne (Or.inl (by omega)))]
  refine q_ald rfl rfl ?_
  refine q_geti rfl kA ?_
  show dw_ok (pr_X7_dryOff K) 41 0 0 [some (.ref A), some (.int c), some (.int (-lk)), some (.int t.2.1), some (.int (fi_min (I (A + 14) k) ((t.2.1 + (1 : Int32)) * (((-lk) / (40 : Int32)) + (1 : Int32)))))] [.int ((dw_up I (A + 14) k ((I (A + 14) k) - (fi_min (I (A + 14) k) ((t.2.1 + (1 : Int32)) * (((-lk) / (40 : Int32)) + (1 : Int32)))))) A 5), .int (I A 3), .ref A] (n, SH1, (dw_up I (A + 14) k ((I (A + 14) k) - (fi_min (I (A + 14) k) ((t.2.1 + (1 : Int32)) * (((-lk) / (40 : Int32)) + (1 : Int32)))))), J)
  rw [show ((dw_up I (A + 14) k ((I (A + 14) k) - (fi_min (I (A + 14) k) ((t.2.1 + (1 : Int32)) * (((-lk) / (40 : Int32)) + (1 : Int32)))))) A 5) = (I A 5) from (up_ne (Or.inl (by omega)))]
  refine q_ic rfl ?_
  refine q_icmp (c := 1) rfl (by decide) (fun y1 => ?_) (fun y1 => ?_)
  · have y1 : ((I A 5)).toInt ≠ (2 : Int) := y1
    refine q_ild rfl rfl ?_
    refine q_add rfl ?_
    refine q_puti rfl kA ?_
    show dw_ok (pr_X7_dryOff K) 55 0 0 [some (.ref A), some (.int c), some (.int (-lk)), some (.int t.2.1), some (.int (fi_min (I (A + 14) k) ((t.2.1 + (1 : Int32)) * (((-lk) / (40 : Int32)) + (1 : Int32)))))] [] (n, SH1, (dw_up (dw_up I (A + 14) k ((I (A + 14) k) - (fi_min (I (A + 14) k) ((t.2.1 + (1 : Int32)) * (((-lk) / (40 : Int32)) + (1 : Int32)))))) A 3 ((I A 3) + (fi_min (I (A + 14) k) ((t.2.1 + (1 : Int32)) * (((-lk) / (40 : Int32)) + (1 : Int32)))))), J)
    refine q_vret rfl (hk (dw_up (dw_up I (A + 14) k ((I (A + 14) k) - (fi_min (I (A + 14) k) ((t.2.1 + (1 : Int32)) * (((-lk) / (40 : Int32)) + (1 : Int32)))))) A 3 ((I A 3) + (fi_min (I (A + 14) k) ((t.2.1 + (1 : Int32)) * (((-lk) / (40 : Int32)) + (1 : Int32)))))) (fun a g1 g2 => ?_) (fun j g1 g2 => ?_) ?_ ?_ ?_)
    · exact ((up_row g1).trans (up_row g2))
    · exact ((up_fld g1).trans (up_ne (Or.inl (by omega))))
    · funext j
      by_cases e : j = k
      · rw [e, upF_at]; exact ((up_ne (Or.inl (by omega))).trans (up_same))
      · rw [upF_ne e]; exact ((up_ne (Or.inl (by omega))).trans (up_fld e))
    · rw [if_neg (by omega)]; exact up_same
    · exact ((up_fld (by decide)).trans (up_ne (Or.inl (by omega))))
  · have y1 : ((I A 5)).toInt = (2 : Int) := y1
    refine q_ic rfl ?_
    refine q_goto rfl ?_
    refine q_add rfl ?_
    refine q_puti rfl kA ?_
    show dw_ok (pr_X7_dryOff K) 55 0 0 [some (.ref A), some (.int c), some (.int (-lk)), some (.int t.2.1), some (.int (fi_min (I (A + 14) k) ((t.2.1 + (1 : Int32)) * (((-lk) / (40 : Int32)) + (1 : Int32)))))] [] (n, SH1, (dw_up (dw_up I (A + 14) k ((I (A + 14) k) - (fi_min (I (A + 14) k) ((t.2.1 + (1 : Int32)) * (((-lk) / (40 : Int32)) + (1 : Int32)))))) A 3 ((I A 3) + (0 : Int32))), J)
    refine q_vret rfl (hk (dw_up (dw_up I (A + 14) k ((I (A + 14) k) - (fi_min (I (A + 14) k) ((t.2.1 + (1 : Int32)) * (((-lk) / (40 : Int32)) + (1 : Int32)))))) A 3 ((I A 3) + (0 : Int32))) (fun a g1 g2 => ?_) (fun j g1 g2 => ?_) ?_ ?_ ?_)
    · exact ((up_row g1).trans (up_row g2))
    · exact ((up_fld g1).trans (up_ne (Or.inl (by omega))))
    · funext j
      by_cases e : j = k
      · rw [e, upF_at]; exact ((up_ne (Or.inl (by omega))).trans (up_same))
      · rw [upF_ne e]; exact ((up_ne (Or.inl (by omega))).trans (up_fld e))
    · rw [if_pos (by omega)]; exact up_same
    · exact ((up_fld (by decide)).trans (up_ne (Or.inl (by omega))))
set_option maxRecDepth 8000 in
set_option maxHeartbeats 2000000 in
theorem sp_loop {n : Nat} {J : Nat → Nat → Int64} {K : dw_K} {A N st : Nat} {I0 : Nat → Nat → Int32} {t : rN} {hid : Int32} (hA : RT A) (hN : (I0 A 1).toInt = N) (hN9 : N ≤ 144) (hst : (I0 A 5).toInt = st) (hh : ∀ c, c < N → 1 ≤ (I0 (A + 8) c).toInt ∧ (I0 (A + 8) c).toInt ≤ 1000)
    (hk : ∀ I' : Nat → Nat → Int32, (∀ a, a ≠ A → a ≠ A + 13 → a ≠ A + 14 → I' a = I0 a) → (∀ j, j ≠ 2 → j ≠ 3 → j ≠ 4 → I' A j = I0 A j) → I' A 2 = I0 A 2 + 1 → srC I' A = seF st (cfC I0 A) t N (srC I0 A) → K none (n, SH1, I', J)) :
    ∀ (f k : Nat) (x : Int32) (s8 : Option Value) (I : Nat → Nat → Int32), k + f = N → x.toInt = k → (∀ a, a ≠ A → a ≠ A + 13 → a ≠ A + 14 → I a = I0 a) → (∀ j, j ≠ 3 → j ≠ 4 → I A j = I0 A j) → srC I A = seF st (cfC I0 A) t k (srC I0 A) → dw_ok (pr_X7_step K) 133 0 0 [some (.ref A), some (.int hid), some (.int (100 - t.1)), some (.int t.2.1), some (.int (100 * t.2.2.1)), some (.int (100 * t.2.2.2.1)), some (.int t.2.2.2.2), some (.int x), s8] [] (n, SH1, I, J) := by
  have hA0 := hA
  obtain ⟨kA, ⟨rA7, rA8, rA9, rA10, rA11, rA12, rA13, rA14⟩, ⟨kA8, kA9, kA10, kA11, kA12, kA13, kA14⟩, ⟨nA8, nA9, nA10, nA11, nA12, nA13, nA14⟩, hNT⟩ := hA
  have c144 : (144 : Int32).toInt = 144 := rfl
  have c1 : (1 : Int32).toInt = 1 := rfl
  intro f
  induction f with
  | zero =>
    intro k x s8 I hf hx hA1 hF1 hS
    have e1 : (I A 1).toInt = N := by rw [hF1 1 (by decide) (by decide)]; exact hN
    have hxn : x.toInt.toNat = k := by omega
    refine q_ild rfl rfl ?_
    refine q_ald rfl rfl ?_
    refine q_geti rfl kA ?_
    refine q_icmp (c := 3) rfl (by decide) (fun y1 => ?_) (fun h => absurd (show (x).toInt < ((I A 1)).toInt from h) (by omega))
    have y1 : ((I A 1)).toInt ≤ (x).toInt := y1
    refine q_ald rfl rfl ?_
    refine q_dup rfl ?_
    refine q_geti rfl kA ?_
    refine q_ic rfl ?_
    refine q_add rfl ?_
    refine q_puti rfl kA ?_
    show dw_ok (pr_X7_step K) 227 0 0 [some (.ref A), some (.int hid), some (.int (100 - t.1)), some (.int t.2.1), some (.int (100 * t.2.2.1)), some (.int (100 * t.2.2.2.1)), some (.int t.2.2.2.2), some (.int x), s8] [] (n, SH1, (dw_up I A 2 ((I A 2) + (1 : Int32))), J)
    refine q_vret rfl (hk (dw_up I A 2 ((I A 2) + (1 : Int32))) (fun a g1 g2 g3 => (up_row g1).trans (hA1 a g1 g2 g3)) (fun j g2 g3 g4 => (up_fld g2).trans (hF1 j g3 g4)) ?_ ?_)
    · rw [hF1 2 (by decide) (by decide)]; exact up_same
    · rw [show N = k by omega, ← hS]
      unfold srC
      rw [up_row (show A + 13 ≠ A by omega), up_row (show A + 14 ≠ A by omega), up_fld (show 3 ≠ 2 by decide), up_fld (show 4 ≠ 2 by decide)]
  | succ f ih =>
    intro k x s8 I hf hx hA1 hF1 hS
    have e1 : (I A 1).toInt = N := by rw [hF1 1 (by decide) (by decide)]; exact hN
    have hxn : x.toInt.toNat = k := by omega
    refine q_ild rfl rfl ?_
    refine q_ald rfl rfl ?_
    refine q_geti rfl kA ?_
    refine q_icmp (c := 3) rfl (by decide) (fun h => absurd (show ((I A 1)).toInt ≤ (x).toInt from h) (by omega)) (fun y2 => ?_)
    have y2 : (x).toInt < ((I A 1)).toInt := y2
    refine q_ild rfl rfl ?_
    refine q_ic rfl ?_
    refine q_icmp (c := 3) rfl (by decide) (fun h => absurd (show (144 : Int) ≤ (x).toInt from h) (by omega)) (fun y3 => ?_)
    have y3 : (x).toInt < (144 : Int) := y3
    refine q_ald rfl rfl ?_
    refine q_getr rfl kA rA13 ?_
    refine q_ild rfl rfl ?_
    refine q_dup2 rfl ?_
    refine q_xald rfl (Or.inl rfl) kA13 nA13 (by omega) (by omega) ?_
    show dw_ok (pr_X7_step K) 158 0 0 [some (.ref A), some (.int hid), some (.int (100 - t.1)), some (.int t.2.1), some (.int (100 * t.2.2.1)), some (.int (100 * t.2.2.2.1)), some (.int t.2.2.2.2), some (.int x), s8] [.int (I (A + 13) (x).toInt.toNat), .int x, .ref (A + 13)] (n, SH1, I, J)
    rw [hxn]
    refine q_ald rfl rfl ?_
    refine q_ild rfl rfl ?_
    refine q_ild rfl rfl ?_
    refine q_ild rfl rfl ?_
    refine q_ild rfl rfl ?_
    refine q_ild rfl rfl ?_
    refine q_callV (as := [.int x, .int (100 - t.1), .int t.2.1, .int (100 * t.2.2.1), .int t.2.2.2.2]) (rest := [.int (I (A + 13) k), .int x, .ref (A + 13)]) rfl rfl kA rfl (Nat.le_of_ble_eq_true rfl) ?_
    have h8 : I (A + 8) = I0 (A + 8) := hA1 (A + 8) (by omega) (by omega) (by omega)
    have hhk := hh k (by omega)
    refine v_warmer (k := k) hA0 hx (by omega) (by rw [h8]; exact hhk.1) (by rw [h8]; exact hhk.2) ?_
    show dw_ok (pr_X7_step K) 170 0 0 [some (.ref A), some (.int hid), some (.int (100 - t.1)), some (.int t.2.1), some (.int (100 * t.2.2.1)), some (.int (100 * t.2.2.2.1)), some (.int t.2.2.2.2), some (.int x), s8] [.int ((100 * t.2.2.1 - I (A + 13) k) * (t.2.1 + 1) / (I (A + 8) k + 10) + t.2.2.2.2 * 8 * I (A + 11) k / I (A + 8) k - I (A + 11) k * (100 - t.1) * I (A + 9) k / (100 * I (A + 8) k)), .int (I (A + 13) k), .int x, .ref (A + 13)] (n, SH1, I, J)
    refine q_add rfl ?_
    refine q_iast rfl kA13 nA13 (by omega) (by omega) ?_
    show dw_ok (pr_X7_step K) 172 0 0 [some (.ref A), some (.int hid), some (.int (100 - t.1)), some (.int t.2.1), some (.int (100 * t.2.2.1)), some (.int (100 * t.2.2.2.1)), some (.int t.2.2.2.2), some (.int x), s8] [] (n, SH1, (dw_up I (A + 13) (x).toInt.toNat ((I (A + 13) k) + ((100 * t.2.2.1 - I (A + 13) k) * (t.2.1 + 1) / (I (A + 8) k + 10) + t.2.2.2.2 * 8 * I (A + 11) k / I (A + 8) k - I (A + 11) k * (100 - t.1) * I (A + 9) k / (100 * I (A + 8) k)))), J)
    rw [hxn]
    have ew : ((I (A + 13) k) + ((100 * t.2.2.1 - I (A + 13) k) * (t.2.1 + 1) / (I (A + 8) k + 10) + t.2.2.2.2 * 8 * I (A + 11) k / I (A + 8) k - I (A + 11) k * (100 - t.1) * I (A + 9) k / (100 * I (A + 8) k))) = wmF (cfC I0 A k) t (I (A + 13) k) := by
      unfold wmF cfC
      rw [← h8, ← hA1 (A + 9) (by omega) (by omega) (by omega), ← hA1 (A + 11) (by omega) (by omega) (by omega)]
    rw [ew]
    obtain ⟨I1, hI1⟩ : ∃ X, X = dw_up I (A + 13) k (wmF (cfC I0 A k) t (I (A + 13) k)) := ⟨_, rfl⟩
    rw [← hI1]
    have w1 : I1 (A + 13) = upF (I (A + 13)) k (wmF (cfC I0 A k) t (I (A + 13) k)) := by rw [hI1]; exact upF_row
    have r1 : ∀ a, a ≠ A + 13 → I1 a = I a := fun a ha => by rw [hI1]; exact up_row ha
    refine q_ild rfl rfl ?_
    refine q_ald rfl rfl ?_
    refine q_getr rfl kA rA13 ?_
    refine q_ild rfl rfl ?_
    refine q_xald rfl (Or.inl rfl) kA13 nA13 (by omega) (by omega) ?_
    show dw_ok (pr_X7_step K) 181 0 0 [some (.ref A), some (.int hid), some (.int (100 - t.1)), some (.int t.2.1), some (.int (100 * t.2.2.1)), some (.int (100 * t.2.2.2.1)), some (.int t.2.2.2.2), some (.int x), s8] [.int (I1 (A + 13) (x).toInt.toNat), .int (100 * t.2.2.2.1)] (n, SH1, I1, J)
    rw [hxn]
    refine q_sub rfl ?_
    refine q_ist rfl rfl ?_
    show dw_ok (pr_X7_step K) 184 0 0 [some (.ref A), some (.int hid), some (.int (100 - t.1)), some (.int t.2.1), some (.int (100 * t.2.2.1)), some (.int (100 * t.2.2.2.1)), some (.int t.2.2.2.2), some (.int x), some (.int ((100 * t.2.2.2.1) - (I1 (A + 13) k)))] [] (n, SH1, I1, J)
    have el : ((100 * t.2.2.2.1) - (I1 (A + 13) k)) = lkF (cfC I0 A k) t (I (A + 13) k) := by rw [w1, upF_at]; rfl
    rw [el]
    obtain ⟨lk, hlk⟩ : ∃ lk, lk = lkF (cfC I0 A k) t (I (A + 13) k) := ⟨_, rfl⟩
    rw [← hlk]
    refine q_ild rfl rfl ?_
    refine q_if (c := 5) rfl (by decide) (fun y4 => ?_) (fun y4 => ?_)
    · have y4 : (lk).toInt ≤ 0 := y4
      refine q_ald rfl rfl ?_
      refine q_ild rfl rfl ?_
      refine q_ild rfl rfl ?_
      refine q_neg rfl ?_
      refine q_ild rfl rfl ?_
      refine q_callV (as := [.int x, .int (-lk), .int t.2.1]) (rest := []) rfl rfl kA rfl (Nat.le_of_ble_eq_true rfl) ?_
      refine v_dryOff (st := st) (k := k) (t := t) hA0 hx (by omega) (by rw [r1 A (by omega), hF1 5 (by decide) (by decide)]; exact hst) (fun I2 g1 g2 g3 g4 g5 => ?_)
      show dw_ok (pr_X7_step K) 211 0 0 [some (.ref A), some (.int hid), some (.int (100 - t.1)), some (.int t.2.1), some (.int (100 * t.2.2.1)), some (.int (100 * t.2.2.2.1)), some (.int t.2.2.2.2), some (.int x), some (.int lk)] [] (n, SH1, I2, J)
      show dw_ok (pr_X7_step K) 211 0 0 [some (.ref A), some (.int hid), some (.int (100 - t.1)), some (.int t.2.1), some (.int (100 * t.2.2.1)), some (.int (100 * t.2.2.2.1)), some (.int t.2.2.2.2), some (.int x), some (.int lk)] [] (n, SH1, I2, J)
      refine q_inc rfl rfl rfl ?_
      show dw_ok (pr_X7_step K) 214 0 0 [some (.ref A), some (.int hid), some (.int (100 - t.1)), some (.int t.2.1), some (.int (100 * t.2.2.1)), some (.int (100 * t.2.2.2.1)), some (.int t.2.2.2.2), some (.int (x + 1)), some (.int lk)] [] (n, SH1, I2, J)
      refine q_goto rfl ?_
      have hw14 : I1 (A + 14) = I (A + 14) := r1 (A + 14) (by omega)
      have hw3 : I1 A 3 = I A 3 := congrFun (r1 A (by omega)) 3
      have hw4 : I1 A 4 = I A 4 := congrFun (r1 A (by omega)) 4
      have s1 : I (A + 13) = (seF st (cfC I0 A) t k (srC I0 A)).1 := congrArg (·.1) hS
      have s2 : I (A + 14) = (seF st (cfC I0 A) t k (srC I0 A)).2.1 := congrArg (·.2.1) hS
      have s3 : I A 3 = (seF st (cfC I0 A) t k (srC I0 A)).2.2.1 := congrArg (·.2.2.1) hS
      have s4 : I A 4 = (seF st (cfC I0 A) t k (srC I0 A)).2.2.2 := congrArg (·.2.2.2) hS
      refine ih (k + 1) (x + 1) _ I2 (by omega) (by rw [i_add (by omega) (by omega), c1]; omega) (fun a q1 q2 q3 => ?_) (fun j q1 q2 => ?_) ?_
      · rw [g1 a q1 q3, r1 a q2]; exact hA1 a q1 q2 q3
      · rw [g2 j q1 q2, r1 A (by omega)]; exact hF1 j q1 q2
      · have nl : ¬ 0 < lk.toInt := by omega
        show (I2 (A + 13), I2 (A + 14), I2 A 3, I2 A 4) = clF st (cfC I0 A) t k (seF st (cfC I0 A) t k (srC I0 A))
        rw [g1 (A + 13) (by omega) (by omega), g3, g4, g5, w1, hw14, hw3, hw4]
        unfold clF waF skF2 gvF
        rw [← s1, ← s2, ← s3, ← s4, ← hlk, if_neg nl, if_neg nl, if_neg nl]
    · have y4 : 0 < (lk).toInt := y4
      refine q_ald rfl rfl ?_
      refine q_ild rfl rfl ?_
      refine q_ild rfl rfl ?_
      refine q_ild rfl rfl ?_
      refine q_callV (as := [.int x, .int lk, .int t.2.1]) (rest := []) rfl rfl kA rfl (Nat.le_of_ble_eq_true rfl) ?_
      refine v_comeOn (st := st) (k := k) (t := t) hA0 hx (by omega) (by rw [r1 A (by omega), hF1 5 (by decide) (by decide)]; exact hst) (fun I2 g1 g2 g3 g4 g5 => ?_)
      show dw_ok (pr_X7_step K) 198 0 0 [some (.ref A), some (.int hid), some (.int (100 - t.1)), some (.int t.2.1), some (.int (100 * t.2.2.1)), some (.int (100 * t.2.2.2.1)), some (.int t.2.2.2.2), some (.int x), some (.int lk)] [] (n, SH1, I2, J)
      show dw_ok (pr_X7_step K) 198 0 0 [some (.ref A), some (.int hid), some (.int (100 - t.1)), some (.int t.2.1), some (.int (100 * t.2.2.1)), some (.int (100 * t.2.2.2.1)), some (.int t.2.2.2.2), some (.int x), some (.int lk)] [] (n, SH1, I2, J)
      refine q_goto rfl ?_
      refine q_inc rfl rfl rfl ?_
      show dw_ok (pr_X7_step K) 214 0 0 [some (.ref A), some (.int hid), some (.int (100 - t.1)), some (.int t.2.1), some (.int (100 * t.2.2.1)), some (.int (100 * t.2.2.2.1)), some (.int t.2.2.2.2), some (.int (x + 1)), some (.int lk)] [] (n, SH1, I2, J)
      refine q_goto rfl ?_
      have hw14 : I1 (A + 14) = I (A + 14) := r1 (A + 14) (by omega)
      have hw3 : I1 A 3 = I A 3 := congrFun (r1 A (by omega)) 3
      have hw4 : I1 A 4 = I A 4 := congrFun (r1 A (by omega)) 4
      have s1 : I (A + 13) = (seF st (cfC I0 A) t k (srC I0 A)).1 := congrArg (·.1) hS
      have s2 : I (A + 14) = (seF st (cfC I0 A) t k (srC I0 A)).2.1 := congrArg (·.2.1) hS
      have s3 : I A 3 = (seF st (cfC I0 A) t k (srC I0 A)).2.2.1 := congrArg (·.2.2.1) hS
      have s4 : I A 4 = (seF st (cfC I0 A) t k (srC I0 A)).2.2.2 := congrArg (·.2.2.2) hS
      refine ih (k + 1) (x + 1) _ I2 (by omega) (by rw [i_add (by omega) (by omega), c1]; omega) (fun a q1 q2 q3 => ?_) (fun j q1 q2 => ?_) ?_
      · rw [g1 a q1 q3, r1 a q2]; exact hA1 a q1 q2 q3
      · rw [g2 j q1 q2, r1 A (by omega)]; exact hF1 j q1 q2
      · have nl : 0 < lk.toInt := by omega
        have hc1 : cfC I1 A k = cfC I0 A k := by
          unfold cfC
          rw [r1 (A + 8) (by omega), r1 (A + 9) (by omega), r1 (A + 10) (by omega), r1 (A + 11) (by omega), hA1 (A + 8) (by omega) (by omega) (by omega), hA1 (A + 9) (by omega) (by omega) (by omega), hA1 (A + 10) (by omega) (by omega) (by omega), hA1 (A + 11) (by omega) (by omega) (by omega)]
        show (I2 (A + 13), I2 (A + 14), I2 A 3, I2 A 4) = clF st (cfC I0 A) t k (seF st (cfC I0 A) t k (srC I0 A))
        rw [g1 (A + 13) (by omega) (by omega), g3, g4, g5, w1, hw14, hw3, hw4, hc1]
        unfold clF waF skF2 gvF
        rw [← s1, ← s2, ← s3, ← s4, ← hlk, if_pos nl, if_pos nl, if_pos nl]
set_option maxRecDepth 8000 in
set_option maxHeartbeats 2000000 in
theorem v_step {n : Nat} {I : Nat → Nat → Int32} {J : Nat → Nat → Int64} {K : dw_K} {A N st : Nat} (hA : RT A) (hN : (I A 1).toInt = N) (hN9 : N ≤ 144) (hst : (I A 5).toInt = st) (hh : ∀ c, c < N → 1 ≤ (I (A + 8) c).toInt ∧ (I (A + 8) c).toInt ≤ 1000) (h0 : 0 ≤ (I A 2).toInt) (h1 : (I A 2).toInt < 144)
    (hk : ∀ I' : Nat → Nat → Int32, (∀ a, a ≠ A → a ≠ A + 13 → a ≠ A + 14 → I' a = I a) → (∀ j, j ≠ 2 → j ≠ 3 → j ≠ 4 → I' A j = I A j) → I' A 2 = I A 2 + 1 → srC I' A = seF st (cfC I A) (tnC I A (I A 2).toInt.toNat) N (srC I A) → K none (n, SH1, I', J)) : t_X7_step [.ref A] (n, SH1, I, J) K := by
  have hA0 := hA
  obtain ⟨kA, ⟨rA7, rA8, rA9, rA10, rA11, rA12, rA13, rA14⟩, ⟨kA8, kA9, kA10, kA11, kA12, kA13, kA14⟩, ⟨nA8, nA9, nA10, nA11, nA12, nA13, nA14⟩, hNT⟩ := hA
  have c72 : (72 : Int32).toInt = 72 := rfl
  have c1 : (1 : Int32).toInt = 1 := rfl
  have e6 : Int32.ofNat (I A 2).toInt.toNat = I A 2 := i_eq (by rw [oN (by omega)]; omega)
  refine q_body (Nat.le_of_ble_eq_true rfl) ?_
  refine q_ald rfl rfl ?_
  refine q_geti rfl kA ?_
  refine q_callS (as := [.int (I A 2)]) (rest := []) rfl rfl rfl rfl ?_
  refine v_isStep h0 h1 ?_
  show dw_ok (pr_X7_step K) 7 0 0 [some (.ref A), none, none, none, none, none, none, none, none] [.int (1 : Int32)] (n, SH1, I, J)
  refine q_if (c := 1) rfl (by decide) (fun y1 => ?_) (fun h => absurd (show (1 : Int) = 0 from h) (by decide))
  have y1 : (1 : Int) ≠ 0 := y1
  refine q_ald rfl rfl ?_
  refine q_geti rfl kA ?_
  refine q_ic rfl ?_
  refine q_icmp (c := 3) rfl (by decide) (fun y2 => ?_) (fun y2 => ?_)
  · have y2 : (72 : Int) ≤ ((I A 2)).toInt := y2
    refine q_ic rfl ?_
    refine q_ist rfl rfl ?_
    show dw_ok (pr_X7_step K) 44 0 0 [some (.ref A), some (.int (0 : Int32)), none, none, none, none, none, none, none] [] (n, SH1, I, J)
    refine q_ic rfl ?_
    refine q_ild rfl rfl ?_
    refine q_if (c := 0) rfl (by decide) (fun y3 => ?_) (fun h => absurd (show (0 : Int) ≠ 0 from h) (by decide))
    have y3 : (0 : Int) = 0 := y3
    refine q_ald rfl rfl ?_
    refine q_getr rfl kA rA7 ?_
    refine q_ic rfl ?_
    refine q_ald rfl rfl ?_
    refine q_geti rfl kA ?_
    refine q_callV (as := [.int (0 : Int32), .int (I A 2)]) (rest := [.int (100 : Int32)]) rfl rfl hNT.1 rfl (Nat.le_of_ble_eq_true rfl) ?_
    refine v_ntell (w := 0) hNT (by decide) rfl h0 h1 ?_
    show dw_ok (pr_X7_step K) 67 0 0 [some (.ref A), some (.int (0 : Int32)), none, none, none, none, none, none, none] [.int (I (A + 1 + 2 + 0) (I A 2).toInt.toNat), .int (100 : Int32)] (n, SH1, I, J)
    refine q_sub rfl ?_
    refine q_ist rfl rfl ?_
    show dw_ok (pr_X7_step K) 69 0 0 [some (.ref A), some (.int (0 : Int32)), some (.int ((100 : Int32) - (I (A + 1 + 2 + 0) (I A 2).toInt.toNat))), none, none, none, none, none, none] [] (n, SH1, I, J)
    refine q_ald rfl rfl ?_
    refine q_getr rfl kA rA7 ?_
    refine q_ic rfl ?_
    refine q_ald rfl rfl ?_
    refine q_geti rfl kA ?_
    refine q_callV (as := [.int (1 : Int32), .int (I A 2)]) (rest := []) rfl rfl hNT.1 rfl (Nat.le_of_ble_eq_true rfl) ?_
    refine v_ntell (w := 1) hNT (by decide) rfl h0 h1 ?_
    show dw_ok (pr_X7_step K) 81 0 0 [some (.ref A), some (.int (0 : Int32)), some (.int ((100 : Int32) - (I (A + 1 + 2 + 0) (I A 2).toInt.toNat))), none, none, none, none, none, none] [.int (I (A + 1 + 2 + 1) (I A 2).toInt.toNat)] (n, SH1, I, J)
    refine q_ist rfl rfl ?_
    show dw_ok (pr_X7_step K) 82 0 0 [some (.ref A), some (.int (0 : Int32)), some (.int ((100 : Int32) - (I (A + 1 + 2 + 0) (I A 2).toInt.toNat))), some (.int (I (A + 1 + 2 + 1) (I A 2).toInt.toNat)), none, none, none, none, none] [] (n, SH1, I, J)
    refine q_ic rfl ?_
    refine q_ald rfl rfl ?_
    refine q_getr rfl kA rA7 ?_
    refine q_ic rfl ?_
    refine q_ald rfl rfl ?_
    refine q_geti rfl kA ?_
    refine q_callV (as := [.int (2 : Int32), .int (I A 2)]) (rest := [.int (100 : Int32)]) rfl rfl hNT.1 rfl (Nat.le_of_ble_eq_true rfl) ?_
    refine v_ntell (w := 2) hNT (by decide) rfl h0 h1 ?_
    show dw_ok (pr_X7_step K) 96 0 0 [some (.ref A), some (.int (0 : Int32)), some (.int ((100 : Int32) - (I (A + 1 + 2 + 0) (I A 2).toInt.toNat))), some (.int (I (A + 1 + 2 + 1) (I A 2).toInt.toNat)), none, none, none, none, none] [.int (I (A + 1 + 2 + 2) (I A 2).toInt.toNat), .int (100 : Int32)] (n, SH1, I, J)
    refine q_mul rfl ?_
    refine q_ist rfl rfl ?_
    show dw_ok (pr_X7_step K) 99 0 0 [some (.ref A), some (.int (0 : Int32)), some (.int ((100 : Int32) - (I (A + 1 + 2 + 0) (I A 2).toInt.toNat))), some (.int (I (A + 1 + 2 + 1) (I A 2).toInt.toNat)), some (.int ((100 : Int32) * (I (A + 1 + 2 + 2) (I A 2).toInt.toNat))), none, none, none, none] [] (n, SH1, I, J)
    refine q_ic rfl ?_
    refine q_ald rfl rfl ?_
    refine q_getr rfl kA rA7 ?_
    refine q_ic rfl ?_
    refine q_ald rfl rfl ?_
    refine q_geti rfl kA ?_
    refine q_callV (as := [.int (3 : Int32), .int (I A 2)]) (rest := [.int (100 : Int32)]) rfl rfl hNT.1 rfl (Nat.le_of_ble_eq_true rfl) ?_
    refine v_ntell (w := 3) hNT (by decide) rfl h0 h1 ?_
    show dw_ok (pr_X7_step K) 113 0 0 [some (.ref A), some (.int (0 : Int32)), some (.int ((100 : Int32) - (I (A + 1 + 2 + 0) (I A 2).toInt.toNat))), some (.int (I (A + 1 + 2 + 1) (I A 2).toInt.toNat)), some (.int ((100 : Int32) * (I (A + 1 + 2 + 2) (I A 2).toInt.toNat))), none, none, none, none] [.int (I (A + 1 + 2 + 3) (I A 2).toInt.toNat), .int (100 : Int32)] (n, SH1, I, J)
    refine q_mul rfl ?_
    refine q_ist rfl rfl ?_
    show dw_ok (pr_X7_step K) 116 0 0 [some (.ref A), some (.int (0 : Int32)), some (.int ((100 : Int32) - (I (A + 1 + 2 + 0) (I A 2).toInt.toNat))), some (.int (I (A + 1 + 2 + 1) (I A 2).toInt.toNat)), some (.int ((100 : Int32) * (I (A + 1 + 2 + 2) (I A 2).toInt.toNat))), some (.int ((100 : Int32) * (I (A + 1 + 2 + 3) (I A 2).toInt.toNat))), none, none, none] [] (n, SH1, I, J)
    refine q_ald rfl rfl ?_
    refine q_getr rfl kA rA7 ?_
    refine q_ic rfl ?_
    refine q_ald rfl rfl ?_
    refine q_geti rfl kA ?_
    refine q_callV (as := [.int (4 : Int32), .int (I A 2)]) (rest := []) rfl rfl hNT.1 rfl (Nat.le_of_ble_eq_true rfl) ?_
    refine v_ntell (w := 4) hNT (by decide) rfl h0 h1 ?_
    show dw_ok (pr_X7_step K) 128 0 0 [some (.ref A), some (.int (0 : Int32)), some (.int ((100 : Int32) - (I (A + 1 + 2 + 0) (I A 2).toInt.toNat))), some (.int (I (A + 1 + 2 + 1) (I A 2).toInt.toNat)), some (.int ((100 : Int32) * (I (A + 1 + 2 + 2) (I A 2).toInt.toNat))), some (.int ((100 : Int32) * (I (A + 1 + 2 + 3) (I A 2).toInt.toNat))), none, none, none] [.int (I (A + 1 + 2 + 4) (I A 2).toInt.toNat)] (n, SH1, I, J)
    refine q_ist rfl rfl ?_
    show dw_ok (pr_X7_step K) 130 0 0 [some (.ref A), some (.int (0 : Int32)), some (.int ((100 : Int32) - (I (A + 1 + 2 + 0) (I A 2).toInt.toNat))), some (.int (I (A + 1 + 2 + 1) (I A 2).toInt.toNat)), some (.int ((100 : Int32) * (I (A + 1 + 2 + 2) (I A 2).toInt.toNat))), some (.int ((100 : Int32) * (I (A + 1 + 2 + 3) (I A 2).toInt.toNat))), some (.int (I (A + 1 + 2 + 4) (I A 2).toInt.toNat)), none, none] [] (n, SH1, I, J)
    refine q_ic rfl ?_
    refine q_ist rfl rfl ?_
    show dw_ok (pr_X7_step K) 133 0 0 [some (.ref A), some (.int (0 : Int32)), some (.int ((100 : Int32) - (I (A + 1 + 2 + 0) (I A 2).toInt.toNat))), some (.int (I (A + 1 + 2 + 1) (I A 2).toInt.toNat)), some (.int ((100 : Int32) * (I (A + 1 + 2 + 2) (I A 2).toInt.toNat))), some (.int ((100 : Int32) * (I (A + 1 + 2 + 3) (I A 2).toInt.toNat))), some (.int (I (A + 1 + 2 + 4) (I A 2).toInt.toNat)), some (.int (0 : Int32)), none] [] (n, SH1, I, J)
    have et : tnC I A (I A 2).toInt.toNat = (I (A + 1 + 2 + 0) (I A 2).toInt.toNat, I (A + 1 + 2 + 1) (I A 2).toInt.toNat, I (A + 1 + 2 + 2) (I A 2).toInt.toNat, I (A + 1 + 2 + 3) (I A 2).toInt.toNat, I (A + 1 + 2 + 4) (I A 2).toInt.toNat) := by
      unfold tnC
      rw [if_neg]
      rintro ⟨g1, g2⟩
      omega
    rw [et] at hk
    exact sp_loop (t := (I (A + 1 + 2 + 0) (I A 2).toInt.toNat, I (A + 1 + 2 + 1) (I A 2).toInt.toNat, I (A + 1 + 2 + 2) (I A 2).toInt.toNat, I (A + 1 + 2 + 3) (I A 2).toInt.toNat, I (A + 1 + 2 + 4) (I A 2).toInt.toNat)) hA0 hN hN9 hst hh hk N 0 0 none I (by omega) rfl (fun _ _ _ _ => rfl) (fun _ _ _ => rfl) rfl
  · have y2 : ((I A 2)).toInt < (72 : Int) := y2
    refine q_ald rfl rfl ?_
    refine q_geti rfl kA ?_
    refine q_ald rfl rfl ?_
    refine q_geti rfl kA ?_
    refine q_ic rfl ?_
    refine q_div rfl (by decide) ?_
    refine q_ishr rfl ?_
    refine q_ic rfl ?_
    refine q_and rfl ?_
    refine q_ic rfl ?_
    refine q_icmp (c := 1) rfl (by decide) (fun y4 => ?_) (fun y4 => ?_)
    · have y4 : ((((I A 6) >>> (((I A 2) / (6 : Int32)) &&& 31)) &&& (1 : Int32))).toInt ≠ (1 : Int) := y4
      refine q_ic rfl ?_
      refine q_ist rfl rfl ?_
      show dw_ok (pr_X7_step K) 44 0 0 [some (.ref A), some (.int (0 : Int32)), none, none, none, none, none, none, none] [] (n, SH1, I, J)
      refine q_ic rfl ?_
      refine q_ild rfl rfl ?_
      refine q_if (c := 0) rfl (by decide) (fun y5 => ?_) (fun h => absurd (show (0 : Int) ≠ 0 from h) (by decide))
      have y5 : (0 : Int) = 0 := y5
      refine q_ald rfl rfl ?_
      refine q_getr rfl kA rA7 ?_
      refine q_ic rfl ?_
      refine q_ald rfl rfl ?_
      refine q_geti rfl kA ?_
      refine q_callV (as := [.int (0 : Int32), .int (I A 2)]) (rest := [.int (100 : Int32)]) rfl rfl hNT.1 rfl (Nat.le_of_ble_eq_true rfl) ?_
      refine v_ntell (w := 0) hNT (by decide) rfl h0 h1 ?_
      show dw_ok (pr_X7_step K) 67 0 0 [some (.ref A), some (.int (0 : Int32)), none, none, none, none, none, none, none] [.int (I (A + 1 + 2 + 0) (I A 2).toInt.toNat), .int (100 : Int32)] (n, SH1, I, J)
      refine q_sub rfl ?_
      refine q_ist rfl rfl ?_
      show dw_ok (pr_X7_step K) 69 0 0 [some (.ref A), some (.int (0 : Int32)), some (.int ((100 : Int32) - (I (A + 1 + 2 + 0) (I A 2).toInt.toNat))), none, none, none, none, none, none] [] (n, SH1, I, J)
      refine q_ald rfl rfl ?_
      refine q_getr rfl kA rA7 ?_
      refine q_ic rfl ?_
      refine q_ald rfl rfl ?_
      refine q_geti rfl kA ?_
      refine q_callV (as := [.int (1 : Int32), .int (I A 2)]) (rest := []) rfl rfl hNT.1 rfl (Nat.le_of_ble_eq_true rfl) ?_
      refine v_ntell (w := 1) hNT (by decide) rfl h0 h1 ?_
      show dw_ok (pr_X7_step K) 81 0 0 [some (.ref A), some (.int (0 : Int32)), some (.int ((100 : Int32) - (I (A + 1 + 2 + 0) (I A 2).toInt.toNat))), none, none, none, none, none, none] [.int (I (A + 1 + 2 + 1) (I A 2).toInt.toNat)] (n, SH1, I, J)
      refine q_ist rfl rfl ?_
      show dw_ok (pr_X7_step K) 82 0 0 [some (.ref A), some (.int (0 : Int32)), some (.int ((100 : Int32) - (I (A + 1 + 2 + 0) (I A 2).toInt.toNat))), some (.int (I (A + 1 + 2 + 1) (I A 2).toInt.toNat)), none, none, none, none, none] [] (n, SH1, I, J)
      refine q_ic rfl ?_
      refine q_ald rfl rfl ?_
      refine q_getr rfl kA rA7 ?_
      refine q_ic rfl ?_
      refine q_ald rfl rfl ?_
      refine q_geti rfl kA ?_
      refine q_callV (as := [.int (2 : Int32), .int (I A 2)]) (rest := [.int (100 : Int32)]) rfl rfl hNT.1 rfl (Nat.le_of_ble_eq_true rfl) ?_
      refine v_ntell (w := 2) hNT (by decide) rfl h0 h1 ?_
      show dw_ok (pr_X7_step K) 96 0 0 [some (.ref A), some (.int (0 : Int32)), some (.int ((100 : Int32) - (I (A + 1 + 2 + 0) (I A 2).toInt.toNat))), some (.int (I (A + 1 + 2 + 1) (I A 2).toInt.toNat)), none, none, none, none, none] [.int (I (A + 1 + 2 + 2) (I A 2).toInt.toNat), .int (100 : Int32)] (n, SH1, I, J)
      refine q_mul rfl ?_
      refine q_ist rfl rfl ?_
      show dw_ok (pr_X7_step K) 99 0 0 [some (.ref A), some (.int (0 : Int32)), some (.int ((100 : Int32) - (I (A + 1 + 2 + 0) (I A 2).toInt.toNat))), some (.int (I (A + 1 + 2 + 1) (I A 2).toInt.toNat)), some (.int ((100 : Int32) * (I (A + 1 + 2 + 2) (I A 2).toInt.toNat))), none, none, none, none] [] (n, SH1, I, J)
      refine q_ic rfl ?_
      refine q_ald rfl rfl ?_
      refine q_getr rfl kA rA7 ?_
      refine q_ic rfl ?_
      refine q_ald rfl rfl ?_
      refine q_geti rfl kA ?_
      refine q_callV (as := [.int (3 : Int32), .int (I A 2)]) (rest := [.int (100 : Int32)]) rfl rfl hNT.1 rfl (Nat.le_of_ble_eq_true rfl) ?_
      refine v_ntell (w := 3) hNT (by decide) rfl h0 h1 ?_
      show dw_ok (pr_X7_step K) 113 0 0 [some (.ref A), some (.int (0 : Int32)), some (.int ((100 : Int32) - (I (A + 1 + 2 + 0) (I A 2).toInt.toNat))), some (.int (I (A + 1 + 2 + 1) (I A 2).toInt.toNat)), some (.int ((100 : Int32) * (I (A + 1 + 2 + 2) (I A 2).toInt.toNat))), none, none, none, none] [.int (I (A + 1 + 2 + 3) (I A 2).toInt.toNat), .int (100 : Int32)] (n, SH1, I, J)
      refine q_mul rfl ?_
      refine q_ist rfl rfl ?_
      show dw_ok (pr_X7_step K) 116 0 0 [some (.ref A), some (.int (0 : Int32)), some (.int ((100 : Int32) - (I (A + 1 + 2 + 0) (I A 2).toInt.toNat))), some (.int (I (A + 1 + 2 + 1) (I A 2).toInt.toNat)), some (.int ((100 : Int32) * (I (A + 1 + 2 + 2) (I A 2).toInt.toNat))), some (.int ((100 : Int32) * (I (A + 1 + 2 + 3) (I A 2).toInt.toNat))), none, none, none] [] (n, SH1, I, J)
      refine q_ald rfl rfl ?_
      refine q_getr rfl kA rA7 ?_
      refine q_ic rfl ?_
      refine q_ald rfl rfl ?_
      refine q_geti rfl kA ?_
      refine q_callV (as := [.int (4 : Int32), .int (I A 2)]) (rest := []) rfl rfl hNT.1 rfl (Nat.le_of_ble_eq_true rfl) ?_
      refine v_ntell (w := 4) hNT (by decide) rfl h0 h1 ?_
      show dw_ok (pr_X7_step K) 128 0 0 [some (.ref A), some (.int (0 : Int32)), some (.int ((100 : Int32) - (I (A + 1 + 2 + 0) (I A 2).toInt.toNat))), some (.int (I (A + 1 + 2 + 1) (I A 2).toInt.toNat)), some (.int ((100 : Int32) * (I (A + 1 + 2 + 2) (I A 2).toInt.toNat))), some (.int ((100 : Int32) * (I (A + 1 + 2 + 3) (I A 2).toInt.toNat))), none, none, none] [.int (I (A + 1 + 2 + 4) (I A 2).toInt.toNat)] (n, SH1, I, J)
      refine q_ist rfl rfl ?_
      show dw_ok (pr_X7_step K) 130 0 0 [some (.ref A), some (.int (0 : Int32)), some (.int ((100 : Int32) - (I (A + 1 + 2 + 0) (I A 2).toInt.toNat))), some (.int (I (A + 1 + 2 + 1) (I A 2).toInt.toNat)), some (.int ((100 : Int32) * (I (A + 1 + 2 + 2) (I A 2).toInt.toNat))), some (.int ((100 : Int32) * (I (A + 1 + 2 + 3) (I A 2).toInt.toNat))), some (.int (I (A + 1 + 2 + 4) (I A 2).toInt.toNat)), none, none] [] (n, SH1, I, J)
      refine q_ic rfl ?_
      refine q_ist rfl rfl ?_
      show dw_ok (pr_X7_step K) 133 0 0 [some (.ref A), some (.int (0 : Int32)), some (.int ((100 : Int32) - (I (A + 1 + 2 + 0) (I A 2).toInt.toNat))), some (.int (I (A + 1 + 2 + 1) (I A 2).toInt.toNat)), some (.int ((100 : Int32) * (I (A + 1 + 2 + 2) (I A 2).toInt.toNat))), some (.int ((100 : Int32) * (I (A + 1 + 2 + 3) (I A 2).toInt.toNat))), some (.int (I (A + 1 + 2 + 4) (I A 2).toInt.toNat)), some (.int (0 : Int32)), none] [] (n, SH1, I, J)
      have et : tnC I A (I A 2).toInt.toNat = (I (A + 1 + 2 + 0) (I A 2).toInt.toNat, I (A + 1 + 2 + 1) (I A 2).toInt.toNat, I (A + 1 + 2 + 2) (I A 2).toInt.toNat, I (A + 1 + 2 + 3) (I A 2).toInt.toNat, I (A + 1 + 2 + 4) (I A 2).toInt.toNat) := by
        unfold tnC
        rw [if_neg]
        rintro ⟨g1, g2⟩
        rw [e6] at g2
        exact absurd g2 y4
      rw [et] at hk
      exact sp_loop (t := (I (A + 1 + 2 + 0) (I A 2).toInt.toNat, I (A + 1 + 2 + 1) (I A 2).toInt.toNat, I (A + 1 + 2 + 2) (I A 2).toInt.toNat, I (A + 1 + 2 + 3) (I A 2).toInt.toNat, I (A + 1 + 2 + 4) (I A 2).toInt.toNat)) hA0 hN hN9 hst hh hk N 0 0 none I (by omega) rfl (fun _ _ _ _ => rfl) (fun _ _ _ => rfl) rfl
    · have y4 : ((((I A 6) >>> (((I A 2) / (6 : Int32)) &&& 31)) &&& (1 : Int32))).toInt = (1 : Int) := y4
      refine q_ic rfl ?_
      refine q_goto rfl ?_
      refine q_ist rfl rfl ?_
      show dw_ok (pr_X7_step K) 44 0 0 [some (.ref A), some (.int (1 : Int32)), none, none, none, none, none, none, none] [] (n, SH1, I, J)
      refine q_ic rfl ?_
      refine q_ild rfl rfl ?_
      refine q_if (c := 0) rfl (by decide) (fun h => absurd (show (1 : Int) = 0 from h) (by decide)) (fun y6 => ?_)
      have y6 : (1 : Int) ≠ 0 := y6
      refine q_ic rfl ?_
      refine q_goto rfl ?_
      refine q_sub rfl ?_
      refine q_ist rfl rfl ?_
      show dw_ok (pr_X7_step K) 69 0 0 [some (.ref A), some (.int (1 : Int32)), some (.int ((100 : Int32) - (100 : Int32))), none, none, none, none, none, none] [] (n, SH1, I, J)
      refine q_ald rfl rfl ?_
      refine q_getr rfl kA rA7 ?_
      refine q_ic rfl ?_
      refine q_ald rfl rfl ?_
      refine q_geti rfl kA ?_
      refine q_callV (as := [.int (1 : Int32), .int (I A 2)]) (rest := []) rfl rfl hNT.1 rfl (Nat.le_of_ble_eq_true rfl) ?_
      refine v_ntell (w := 1) hNT (by decide) rfl h0 h1 ?_
      show dw_ok (pr_X7_step K) 81 0 0 [some (.ref A), some (.int (1 : Int32)), some (.int ((100 : Int32) - (100 : Int32))), none, none, none, none, none, none] [.int (I (A + 1 + 2 + 1) (I A 2).toInt.toNat)] (n, SH1, I, J)
      refine q_ist rfl rfl ?_
      show dw_ok (pr_X7_step K) 82 0 0 [some (.ref A), some (.int (1 : Int32)), some (.int ((100 : Int32) - (100 : Int32))), some (.int (I (A + 1 + 2 + 1) (I A 2).toInt.toNat)), none, none, none, none, none] [] (n, SH1, I, J)
      refine q_ic rfl ?_
      refine q_ald rfl rfl ?_
      refine q_getr rfl kA rA7 ?_
      refine q_ic rfl ?_
      refine q_ald rfl rfl ?_
      refine q_geti rfl kA ?_
      refine q_callV (as := [.int (2 : Int32), .int (I A 2)]) (rest := [.int (100 : Int32)]) rfl rfl hNT.1 rfl (Nat.le_of_ble_eq_true rfl) ?_
      refine v_ntell (w := 2) hNT (by decide) rfl h0 h1 ?_
      show dw_ok (pr_X7_step K) 96 0 0 [some (.ref A), some (.int (1 : Int32)), some (.int ((100 : Int32) - (100 : Int32))), some (.int (I (A + 1 + 2 + 1) (I A 2).toInt.toNat)), none, none, none, none, none] [.int (I (A + 1 + 2 + 2) (I A 2).toInt.toNat), .int (100 : Int32)] (n, SH1, I, J)
      refine q_mul rfl ?_
      refine q_ist rfl rfl ?_
      show dw_ok (pr_X7_step K) 99 0 0 [some (.ref A), some (.int (1 : Int32)), some (.int ((100 : Int32) - (100 : Int32))), some (.int (I (A + 1 + 2 + 1) (I A 2).toInt.toNat)), some (.int ((100 : Int32) * (I (A + 1 + 2 + 2) (I A 2).toInt.toNat))), none, none, none, none] [] (n, SH1, I, J)
      refine q_ic rfl ?_
      refine q_ald rfl rfl ?_
      refine q_getr rfl kA rA7 ?_
      refine q_ic rfl ?_
      refine q_ald rfl rfl ?_
      refine q_geti rfl kA ?_
      refine q_callV (as := [.int (3 : Int32), .int (I A 2)]) (rest := [.int (100 : Int32)]) rfl rfl hNT.1 rfl (Nat.le_of_ble_eq_true rfl) ?_
      refine v_ntell (w := 3) hNT (by decide) rfl h0 h1 ?_
      show dw_ok (pr_X7_step K) 113 0 0 [some (.ref A), some (.int (1 : Int32)), some (.int ((100 : Int32) - (100 : Int32))), some (.int (I (A + 1 + 2 + 1) (I A 2).toInt.toNat)), some (.int ((100 : Int32) * (I (A + 1 + 2 + 2) (I A 2).toInt.toNat))), none, none, none, none] [.int (I (A + 1 + 2 + 3) (I A 2).toInt.toNat), .int (100 : Int32)] (n, SH1, I, J)
      refine q_mul rfl ?_
      refine q_ist rfl rfl ?_
      show dw_ok (pr_X7_step K) 116 0 0 [some (.ref A), some (.int (1 : Int32)), some (.int ((100 : Int32) - (100 : Int32))), some (.int (I (A + 1 + 2 + 1) (I A 2).toInt.toNat)), some (.int ((100 : Int32) * (I (A + 1 + 2 + 2) (I A 2).toInt.toNat))), some (.int ((100 : Int32) * (I (A + 1 + 2 + 3) (I A 2).toInt.toNat))), none, none, none] [] (n, SH1, I, J)
      refine q_ald rfl rfl ?_
      refine q_getr rfl kA rA7 ?_
      refine q_ic rfl ?_
      refine q_ald rfl rfl ?_
      refine q_geti rfl kA ?_
      refine q_callV (as := [.int (4 : Int32), .int (I A 2)]) (rest := []) rfl rfl hNT.1 rfl (Nat.le_of_ble_eq_true rfl) ?_
      refine v_ntell (w := 4) hNT (by decide) rfl h0 h1 ?_
      show dw_ok (pr_X7_step K) 128 0 0 [some (.ref A), some (.int (1 : Int32)), some (.int ((100 : Int32) - (100 : Int32))), some (.int (I (A + 1 + 2 + 1) (I A 2).toInt.toNat)), some (.int ((100 : Int32) * (I (A + 1 + 2 + 2) (I A 2).toInt.toNat))), some (.int ((100 : Int32) * (I (A + 1 + 2 + 3) (I A 2).toInt.toNat))), none, none, none] [.int (I (A + 1 + 2 + 4) (I A 2).toInt.toNat)] (n, SH1, I, J)
      refine q_ist rfl rfl ?_
      show dw_ok (pr_X7_step K) 130 0 0 [some (.ref A), some (.int (1 : Int32)), some (.int ((100 : Int32) - (100 : Int32))), some (.int (I (A + 1 + 2 + 1) (I A 2).toInt.toNat)), some (.int ((100 : Int32) * (I (A + 1 + 2 + 2) (I A 2).toInt.toNat))), some (.int ((100 : Int32) * (I (A + 1 + 2 + 3) (I A 2).toInt.toNat))), some (.int (I (A + 1 + 2 + 4) (I A 2).toInt.toNat)), none, none] [] (n, SH1, I, J)
      refine q_ic rfl ?_
      refine q_ist rfl rfl ?_
      show dw_ok (pr_X7_step K) 133 0 0 [some (.ref A), some (.int (1 : Int32)), some (.int ((100 : Int32) - (100 : Int32))), some (.int (I (A + 1 + 2 + 1) (I A 2).toInt.toNat)), some (.int ((100 : Int32) * (I (A + 1 + 2 + 2) (I A 2).toInt.toNat))), some (.int ((100 : Int32) * (I (A + 1 + 2 + 3) (I A 2).toInt.toNat))), some (.int (I (A + 1 + 2 + 4) (I A 2).toInt.toNat)), some (.int (0 : Int32)), none] [] (n, SH1, I, J)
      have et : tnC I A (I A 2).toInt.toNat = (100, I (A + 1 + 2 + 1) (I A 2).toInt.toNat, I (A + 1 + 2 + 2) (I A 2).toInt.toNat, I (A + 1 + 2 + 3) (I A 2).toInt.toNat, I (A + 1 + 2 + 4) (I A 2).toInt.toNat) := by
        unfold tnC
        rw [if_pos]
        exact ⟨by omega, by rw [e6]; exact y4⟩
      rw [et] at hk
      exact sp_loop (t := (100, I (A + 1 + 2 + 1) (I A 2).toInt.toNat, I (A + 1 + 2 + 2) (I A 2).toInt.toNat, I (A + 1 + 2 + 3) (I A 2).toInt.toNat, I (A + 1 + 2 + 4) (I A 2).toInt.toNat)) hA0 hN hN9 hst hh hk N 0 0 none I (by omega) rfl (fun _ _ _ _ => rfl) (fun _ _ _ => rfl) rfl
/-! ===== the class's RUN goes on ===== -/
set_option maxRecDepth 8000 in
theorem cf_eq {I I0 : Nat → Nat → Int32} {A : Nat} (h : ∀ a, a ≠ A → a ≠ A + 13 → a ≠ A + 14 → I a = I0 a) : cfC I A = cfC I0 A := by
  funext c
  unfold cfC
  rw [h (A + 8) (by omega) (by omega) (by omega), h (A + 9) (by omega) (by omega) (by omega), h (A + 10) (by omega) (by omega) (by omega), h (A + 11) (by omega) (by omega) (by omega)]
set_option maxRecDepth 8000 in
theorem tn_eq {I I0 : Nat → Nat → Int32} {A d : Nat} (h : ∀ a, a ≠ A → a ≠ A + 13 → a ≠ A + 14 → I a = I0 a) (h6 : I A 6 = I0 A 6) : tnC I A d = tnC I0 A d := by
  unfold tnC
  rw [h (A + 1 + 2 + 0) (by omega) (by omega) (by omega), h (A + 1 + 2 + 1) (by omega) (by omega) (by omega), h (A + 1 + 2 + 2) (by omega) (by omega) (by omega), h (A + 1 + 2 + 3) (by omega) (by omega) (by omega), h (A + 1 + 2 + 4) (by omega) (by omega) (by omega), h6]
set_option maxRecDepth 8000 in
theorem v_step0 {n : Nat} {I : Nat → Nat → Int32} {J : Nat → Nat → Int64} {K : dw_K} {A : Nat} (hA : RT A) (h : (I A 2).toInt = 144) (hk : K none (n, SH1, I, J)) : t_X7_step [.ref A] (n, SH1, I, J) K := by
  refine q_body (Nat.le_of_ble_eq_true rfl) ?_
  refine q_ald rfl rfl ?_
  refine q_geti rfl hA.1 ?_
  refine q_callS (as := [.int (I A 2)]) (rest := []) rfl rfl rfl rfl ?_
  refine v_noStep (by omega) ?_
  refine q_if (c := 1) rfl (by decide) (fun g => absurd rfl g) (fun _ => ?_)
  exact q_vret rfl hk
set_option maxRecDepth 8000 in
set_option maxHeartbeats 4000000 in
theorem un_loop {n : Nat} {J : Nat → Nat → Int64} {K : dw_K} {A N st d e : Nat} {s : Int32} {I0 : Nat → Nat → Int32} (hA : RT A) (hN : (I0 A 1).toInt = N) (hN9 : N ≤ 144) (hst : (I0 A 5).toInt = st) (hh : ∀ c, c < N → 1 ≤ (I0 (A + 8) c).toInt ∧ (I0 (A + 8) c).toInt ≤ 1000) (hd : (I0 A 2).toInt = d) (hde : d ≤ e) (he9 : e ≤ 144) (hs : s.toInt = e ∨ (e = 144 ∧ 144 ≤ s.toInt) ∨ (e = d ∧ s.toInt ≤ d))
    (hk : ∀ I' : Nat → Nat → Int32, (∀ a, a ≠ A → a ≠ A + 13 → a ≠ A + 14 → I' a = I0 a) → (∀ j, j ≠ 2 → j ≠ 3 → j ≠ 4 → I' A j = I0 A j) → (I' A 2).toInt = e → srC I' A = ruF st N (fun _ => cfC I0 A) (tnC I0 A) d (e - d) (srC I0 A) → K none (n, SH1, I', J)) :
    ∀ (f i : Nat) (x : Int32) (I : Nat → Nat → Int32), i + f = 144 → x.toInt = i → (∀ a, a ≠ A → a ≠ A + 13 → a ≠ A + 14 → I a = I0 a) → (∀ j, j ≠ 2 → j ≠ 3 → j ≠ 4 → I A j = I0 A j) → (I A 2).toInt = (min (d + i) e : Nat) → srC I A = ruF st N (fun _ => cfC I0 A) (tnC I0 A) d (min (d + i) e - d) (srC I0 A) → dw_ok (pr_X7_until K) 2 0 0 [some (.ref A), some (.int s), some (.int x)] [] (n, SH1, I, J) := by
  have c144 : (144 : Int32).toInt = 144 := rfl
  have c1 : (1 : Int32).toInt = 1 := rfl
  have hA0 := hA
  intro f
  induction f with
  | zero =>
    intro i x I hi hx hF1 hF2 h2 hS
    refine q_ild rfl rfl ?_
    refine q_ic rfl ?_
    refine q_icmp (c := 3) rfl (by decide) (fun _ => ?_) (fun h => absurd (show x.toInt < (144 : Int32).toInt from h) (by omega))
    rw [show min (d + i) e = e by omega] at h2 hS
    exact q_vret rfl (hk I hF1 hF2 h2 hS)
  | succ f ih =>
    intro i x I hi hx hF1 hF2 h2 hS
    refine q_ild rfl rfl ?_
    refine q_ic rfl ?_
    refine q_icmp (c := 3) rfl (by decide) (fun h => absurd (show (144 : Int32).toInt ≤ x.toInt from h) (by omega)) (fun _ => ?_)
    refine q_ald rfl rfl ?_
    refine q_geti rfl hA.1 ?_
    refine q_ild rfl rfl ?_
    refine q_icmp (c := 3) rfl (by decide) (fun h => ?_) (fun h => ?_)
    · have h : s.toInt ≤ (I A 2).toInt := h
      have e1 : min (d + i) e = e := by omega
      rw [e1] at h2 hS
      exact q_vret rfl (hk I hF1 hF2 h2 hS)
    have h : (I A 2).toInt < s.toInt := h
    have ex : (x + 1).toInt = ((i + 1 : Nat) : Int) := by rw [i_add (by omega) (by omega), c1, hx]; omega
    refine q_ald rfl rfl ?_
    refine q_callV (as := []) (rest := []) rfl rfl hA.1 rfl (Nat.le_of_ble_eq_true rfl) ?_
    by_cases g : (I A 2).toInt = 144
    · refine v_step0 hA0 g ?_
      show dw_ok (pr_X7_until K) 21 0 0 [some (.ref A), some (.int s), some (.int x)] [] (n, SH1, I, J)
      refine q_inc rfl rfl rfl ?_
      refine q_goto rfl ?_
      have e1 : min (d + i) e = min (d + (i + 1)) e := by omega
      rw [e1] at h2 hS
      exact ih (i + 1) (x + 1) I (by omega) ex hF1 hF2 h2 hS
    · have e1 : min (d + i) e = d + i := by omega
      have e2 : min (d + (i + 1)) e = d + i + 1 := by omega
      rw [e1] at h2 hS
      refine v_step (st := st) (N := N) hA0 (by rw [hF2 1 (by decide) (by decide) (by decide)]; exact hN) hN9 (by rw [hF2 5 (by decide) (by decide) (by decide)]; exact hst) (by rw [hF1 (A + 8) (by omega) (by omega) (by omega)]; exact hh) (by omega) (by omega) (fun I' g1 g2 g3 g4 => ?_)
      show dw_ok (pr_X7_until K) 21 0 0 [some (.ref A), some (.int s), some (.int x)] [] (n, SH1, I', J)
      refine q_inc rfl rfl rfl ?_
      refine q_goto rfl ?_
      refine ih (i + 1) (x + 1) I' (by omega) ex (fun a q1 q2 q3 => (g1 a q1 q2 q3).trans (hF1 a q1 q2 q3)) (fun j q1 q2 q3 => (g2 j q1 q2 q3).trans (hF2 j q1 q2 q3)) ?_ ?_
      · rw [e2, g3, i_add (by omega) (by omega), c1]; omega
      · rw [e2, g4, cf_eq hF1, tn_eq hF1 (hF2 6 (by decide) (by decide) (by decide)), show (I A 2).toInt.toNat = d + i by omega, hS, show d + i + 1 - d = i + 1 by omega, show d + i - d = i by omega]
        rfl
set_option maxRecDepth 8000 in
theorem v_until {n : Nat} {I0 : Nat → Nat → Int32} {J : Nat → Nat → Int64} {K : dw_K} {A N st d e : Nat} {s : Int32} (hA : RT A) (hN : (I0 A 1).toInt = N) (hN9 : N ≤ 144) (hst : (I0 A 5).toInt = st) (hh : ∀ c, c < N → 1 ≤ (I0 (A + 8) c).toInt ∧ (I0 (A + 8) c).toInt ≤ 1000) (hd : (I0 A 2).toInt = d) (hde : d ≤ e) (he9 : e ≤ 144) (hs : s.toInt = e ∨ (e = 144 ∧ 144 ≤ s.toInt) ∨ (e = d ∧ s.toInt ≤ d))
    (hk : ∀ I' : Nat → Nat → Int32, (∀ a, a ≠ A → a ≠ A + 13 → a ≠ A + 14 → I' a = I0 a) → (∀ j, j ≠ 2 → j ≠ 3 → j ≠ 4 → I' A j = I0 A j) → (I' A 2).toInt = e → srC I' A = ruF st N (fun _ => cfC I0 A) (tnC I0 A) d (e - d) (srC I0 A) → K none (n, SH1, I', J)) : t_X7_until [.ref A, .int s] (n, SH1, I0, J) K := by
  refine q_body (Nat.le_of_ble_eq_true rfl) ?_
  refine q_ic rfl ?_
  refine q_ist rfl rfl ?_
  exact un_loop hA hN hN9 hst hh hd hde he9 hs hk 144 0 0 I0 rfl rfl (fun _ _ _ _ => rfl) (fun _ _ _ _ => rfl) (by rw [show min (d + 0) e = d by omega]; exact hd) (by rw [show min (d + 0) e - d = 0 by omega]; rfl)
set_option maxRecDepth 8000 in
theorem v_ofKind {n : Nat} {I : Nat → Nat → Int32} {J : Nat → Nat → Int64} {K : dw_K} {a q : Nat} {k : Int32} (ka : (SH1 a).1 = 16) (na : (SH1 a).2.1 = 8) (hq : k.toInt = q) (hq8 : q < 8) (hk : K (some (.int (I a q))) (n, SH1, I, J)) : t_X0_ofKind [.ref 4, .ref a, .int k] (n, SH1, I, J) K := by
  have hqn : k.toInt.toNat = q := by omega
  refine q_body (Nat.le_of_ble_eq_true rfl) ?_
  refine q_ild rfl rfl ?_
  refine q_if (c := 2) rfl (by decide) (fun h => absurd (show (k).toInt < 0 from h) (by omega)) (fun y1 => ?_)
  have y1 : 0 ≤ (k).toInt := y1
  refine q_ild rfl rfl ?_
  refine q_ald rfl rfl ?_
  refine q_alen2 (kd := 16) (N := 8) rfl ka na (by decide) (by decide) ?_
  refine q_icmp (c := 3) rfl (by decide) (fun h => absurd (show (8 : Int) ≤ (k).toInt from h) (by omega)) (fun y2 => ?_)
  have y2 : (k).toInt < (8 : Int) := y2
  refine q_ald rfl rfl ?_
  refine q_ild rfl rfl ?_
  refine q_xald rfl (Or.inl rfl) ka na (by omega) (by omega) ?_
  show dw_ok (pr_X0_ofKind K) 13 0 0 [some (.ref 4), some (.ref a), some (.int k)] [.int (I a (k).toInt.toNat)] (n, SH1, I, J)
  rw [hqn]
  refine q_goto rfl ?_
  exact q_iret rfl hk
set_option maxRecDepth 8000 in
theorem v_setKind {n : Nat} {I : Nat → Nat → Int32} {J : Nat → Nat → Int64} {K : dw_K} {A N k : Nat} {c : Int32} (hA : RT A) (hc : c.toInt = k) (hN : (I A 1).toInt = N) (hN9 : N ≤ 144) (h1 : k < N) (h43 : 43 ≤ A) {kd : Int32} {q : Nat} (hq : kd.toInt = q) (hq8 : q < 8) (hk : K none (n, SH1, dw_up (dw_up (dw_up I (A + 8) k (I 5 q)) (A + 9) k (I 6 q)) (A + 10) k (I 7 q), J)) : t_X7_setKind [.ref A, .int c, .ref 4, .int kd] (n, SH1, I, J) K := by
  obtain ⟨kA, ⟨rA7, rA8, rA9, rA10, rA11, rA12, rA13, rA14⟩, ⟨kA8, kA9, kA10, kA11, kA12, kA13, kA14⟩, ⟨nA8, nA9, nA10, nA11, nA12, nA13, nA14⟩, hNT⟩ := id hA
  have hcn : c.toInt.toNat = k := by omega
  refine q_body (Nat.le_of_ble_eq_true rfl) ?_
  refine q_ald rfl rfl ?_
  refine q_ild rfl rfl ?_
  refine q_callV (as := [.int c]) (rest := []) rfl rfl kA rfl (Nat.le_of_ble_eq_true rfl) ?_
  refine v_has hA hc hN hN9 h1 ?_
  show dw_ok (pr_X7_setKind K) 5 0 0 [some (.ref A), some (.int c), some (.ref 4), some (.int kd)] [.int (1 : Int32)] (n, SH1, I, J)
  refine q_if (c := 0) rfl (by decide) (fun h => absurd (show (1 : Int) = 0 from h) (by decide)) (fun y1 => ?_)
  have y1 : (1 : Int) ≠ 0 := y1
  refine q_ald rfl rfl ?_
  refine q_getr rfl kA rA8 ?_
  refine q_ild rfl rfl ?_
  refine q_ald rfl rfl ?_
  refine q_ald rfl rfl ?_
  refine q_getr rfl sk_4 sr_4_5 ?_
  refine q_ild rfl rfl ?_
  refine q_callV (as := [.ref 5, .int kd]) (rest := [.int c, .ref (A + 8)]) rfl rfl sk_4 rfl (Nat.le_of_ble_eq_true rfl) ?_
  refine v_ofKind (q := q) sk_5 sn_5 hq hq8 ?_
  show dw_ok (pr_X7_setKind K) 22 0 0 [some (.ref A), some (.int c), some (.ref 4), some (.int kd)] [.int (I 5 q), .int c, .ref (A + 8)] (n, SH1, I, J)
  refine q_iast rfl kA8 nA8 (by omega) (by omega) ?_
  show dw_ok (pr_X7_setKind K) 23 0 0 [some (.ref A), some (.int c), some (.ref 4), some (.int kd)] [] (n, SH1, (dw_up I (A + 8) (c).toInt.toNat (I 5 q)), J)
  rw [hcn]
  refine q_ald rfl rfl ?_
  refine q_getr rfl kA rA9 ?_
  refine q_ild rfl rfl ?_
  refine q_ald rfl rfl ?_
  refine q_ald rfl rfl ?_
  refine q_getr rfl sk_4 sr_4_6 ?_
  refine q_ild rfl rfl ?_
  refine q_callV (as := [.ref 6, .int kd]) (rest := [.int c, .ref (A + 9)]) rfl rfl sk_4 rfl (Nat.le_of_ble_eq_true rfl) ?_
  refine v_ofKind (q := q) sk_6 sn_6 hq hq8 ?_
  show dw_ok (pr_X7_setKind K) 37 0 0 [some (.ref A), some (.int c), some (.ref 4), some (.int kd)] [.int ((dw_up I (A + 8) k (I 5 q)) 6 q), .int c, .ref (A + 9)] (n, SH1, (dw_up I (A + 8) k (I 5 q)), J)
  rw [show (dw_up I (A + 8) k (I 5 q)) 6 q = I 6 q from (up_ne (Or.inl (by omega)))]
  show dw_ok (pr_X7_setKind K) 37 0 0 [some (.ref A), some (.int c), some (.ref 4), some (.int kd)] [.int (I 6 q), .int c, .ref (A + 9)] (n, SH1, (dw_up I (A + 8) k (I 5 q)), J)
  refine q_iast rfl kA9 nA9 (by omega) (by omega) ?_
  show dw_ok (pr_X7_setKind K) 38 0 0 [some (.ref A), some (.int c), some (.ref 4), some (.int kd)] [] (n, SH1, (dw_up (dw_up I (A + 8) k (I 5 q)) (A + 9) (c).toInt.toNat (I 6 q)), J)
  rw [hcn]
  refine q_ald rfl rfl ?_
  refine q_getr rfl kA rA10 ?_
  refine q_ild rfl rfl ?_
  refine q_ald rfl rfl ?_
  refine q_ald rfl rfl ?_
  refine q_getr rfl sk_4 sr_4_7 ?_
  refine q_ild rfl rfl ?_
  refine q_callV (as := [.ref 7, .int kd]) (rest := [.int c, .ref (A + 10)]) rfl rfl sk_4 rfl (Nat.le_of_ble_eq_true rfl) ?_
  refine v_ofKind (q := q) sk_7 sn_7 hq hq8 ?_
  show dw_ok (pr_X7_setKind K) 52 0 0 [some (.ref A), some (.int c), some (.ref 4), some (.int kd)] [.int ((dw_up (dw_up I (A + 8) k (I 5 q)) (A + 9) k (I 6 q)) 7 q), .int c, .ref (A + 10)] (n, SH1, (dw_up (dw_up I (A + 8) k (I 5 q)) (A + 9) k (I 6 q)), J)
  rw [show (dw_up (dw_up I (A + 8) k (I 5 q)) (A + 9) k (I 6 q)) 7 q = I 7 q from ((up_ne (Or.inl (by omega))).trans (up_ne (Or.inl (by omega))))]
  show dw_ok (pr_X7_setKind K) 52 0 0 [some (.ref A), some (.int c), some (.ref 4), some (.int kd)] [.int (I 7 q), .int c, .ref (A + 10)] (n, SH1, (dw_up (dw_up I (A + 8) k (I 5 q)) (A + 9) k (I 6 q)), J)
  refine q_iast rfl kA10 nA10 (by omega) (by omega) ?_
  show dw_ok (pr_X7_setKind K) 53 0 0 [some (.ref A), some (.int c), some (.ref 4), some (.int kd)] [] (n, SH1, (dw_up (dw_up (dw_up I (A + 8) k (I 5 q)) (A + 9) k (I 6 q)) (A + 10) (c).toInt.toNat (I 7 q)), J)
  rw [hcn]
  exact q_vret rfl hk
set_option maxRecDepth 8000 in
theorem v_gsize {n : Nat} {I : Nat → Nat → Int32} {J : Nat → Nat → Int64} {K : dw_K} (hk : K (some (.int (I 4 0 * I 4 1))) (n, SH1, I, J)) : t_X0_size [.ref 4] (n, SH1, I, J) K := by
  refine q_body (Nat.le_of_ble_eq_true rfl) ?_
  refine q_ald rfl rfl ?_
  refine q_geti rfl sk_4 ?_
  refine q_ald rfl rfl ?_
  refine q_geti rfl sk_4 ?_
  refine q_mul rfl ?_
  exact q_iret rfl hk
set_option maxRecDepth 8000 in
set_option maxHeartbeats 8000000 in
theorem cs_loop {n : Nat} {J : Nat → Nat → Int64} {K : dw_K} {A B N : Nat} {I0 : Nat → Nat → Int32} (hA : RT A) (h43 : 43 ≤ A) (hN : (I0 A 1).toInt = N) (hN9 : N ≤ 144) (hkd : ∀ j, j < N → 0 ≤ (I0 8 j).toInt ∧ (I0 8 j).toInt < 8)
    (hk : ∀ I' : Nat → Nat → Int32, (∀ a, (a < A + 8 ∨ A + 14 < a) → I' a = I0 a) → (∀ j, j < N → I' (A + 8) j = I0 5 (I0 8 j).toInt.toNat ∧ I' (A + 9) j = I0 6 (I0 8 j).toInt.toNat ∧ I' (A + 10) j = I0 7 (I0 8 j).toInt.toNat ∧ I' (A + 11) j = I0 9 j ∧ I' (A + 12) j = 0 ∧ I' (A + 13) j = 100 * I0 (A + 1 + 2 + 2) 0 ∧ I' (A + 14) j = 0) → K none (n, SH1, I', J)) :
    ∀ (f k : Nat) (c : Int32) (I : Nat → Nat → Int32), k + f = N → c.toInt = k → (∀ a, (a < A + 8 ∨ A + 14 < a) → I a = I0 a) → (∀ j, j < k → I (A + 8) j = I0 5 (I0 8 j).toInt.toNat ∧ I (A + 9) j = I0 6 (I0 8 j).toInt.toNat ∧ I (A + 10) j = I0 7 (I0 8 j).toInt.toNat ∧ I (A + 11) j = I0 9 j ∧ I (A + 12) j = 0 ∧ I (A + 13) j = 100 * I0 (A + 1 + 2 + 2) 0 ∧ I (A + 14) j = 0) → dw_ok (pr_X7_start K) 57 0 0 [some (.ref A), some (.ref 4), some (.ref B), some (.int c)] [] (n, SH1, I, J) := by
  have hA0 := hA
  obtain ⟨kA, ⟨rA7, rA8, rA9, rA10, rA11, rA12, rA13, rA14⟩, ⟨kA8, kA9, kA10, kA11, kA12, kA13, kA14⟩, ⟨nA8, nA9, nA10, nA11, nA12, nA13, nA14⟩, hNT⟩ := hA
  have c1 : (1 : Int32).toInt = 1 := rfl
  intro f
  induction f with
  | zero =>
    intro k c I hf hc hF hB
    have e1 : I A 1 = I0 A 1 := congrFun (hF A (by omega)) 1
    refine q_ild rfl rfl ?_
    refine q_ald rfl rfl ?_
    refine q_geti rfl kA ?_
    refine q_icmp (c := 3) rfl (by decide) (fun y1 => ?_) (fun h => absurd (show (c).toInt < ((I A 1)).toInt from h) (by rw [e1]; omega))
    have y1 : ((I A 1)).toInt ≤ (c).toInt := y1
    exact q_vret rfl (hk I hF (fun j hj => hB j (by omega)))
  | succ f ih =>
    intro k c I hf hc hF hB
    have e1 : I A 1 = I0 A 1 := congrFun (hF A (by omega)) 1
    have hcn : c.toInt.toNat = k := by omega
    have h8 : I 8 = I0 8 := hF 8 (by omega)
    obtain ⟨kd0, kd1⟩ := hkd k (by omega)
    obtain ⟨q, hqe⟩ : ∃ q, q = (I0 8 k).toInt.toNat := ⟨_, rfl⟩
    have hq : (I 8 k).toInt = q := by rw [h8]; omega
    have hq8 : q < 8 := by omega
    refine q_ild rfl rfl ?_
    refine q_ald rfl rfl ?_
    refine q_geti rfl kA ?_
    refine q_icmp (c := 3) rfl (by decide) (fun h => absurd (show ((I A 1)).toInt ≤ (c).toInt from h) (by rw [e1]; omega)) (fun y2 => ?_)
    have y2 : (c).toInt < ((I A 1)).toInt := y2
    refine q_ald rfl rfl ?_
    refine q_ild rfl rfl ?_
    refine q_ald rfl rfl ?_
    refine q_ald rfl rfl ?_
    refine q_getr rfl sk_4 sr_4_8 ?_
    refine q_ild rfl rfl ?_
    refine q_xald rfl (Or.inl rfl) sk_8 sn_8 (by omega) (by omega) ?_
    show dw_ok (pr_X7_start K) 74 0 0 [some (.ref A), some (.ref 4), some (.ref B), some (.int c)] [.int (I 8 (c).toInt.toNat), .ref 4, .int c, .ref A] (n, SH1, I, J)
    rw [hcn]
    refine q_callV (as := [.int c, .ref 4, .int (I 8 k)]) (rest := []) rfl rfl kA rfl (Nat.le_of_ble_eq_true rfl) ?_
    refine v_setKind (k := k) (N := N) (q := q) hA0 hc (by rw [e1]; exact hN) hN9 (by omega) h43 hq hq8 ?_
    show dw_ok (pr_X7_start K) 77 0 0 [some (.ref A), some (.ref 4), some (.ref B), some (.int c)] [] (n, SH1, (dw_up (dw_up (dw_up I (A + 8) k (I 5 q)) (A + 9) k (I 6 q)) (A + 10) k (I 7 q)), J)
    refine q_ald rfl rfl ?_
    refine q_getr rfl kA rA11 ?_
    refine q_ild rfl rfl ?_
    refine q_ald rfl rfl ?_
    refine q_getr rfl sk_4 sr_4_9 ?_
    refine q_ild rfl rfl ?_
    refine q_xald rfl (Or.inl rfl) sk_9 sn_9 (by omega) (by omega) ?_
    show dw_ok (pr_X7_start K) 88 0 0 [some (.ref A), some (.ref 4), some (.ref B), some (.int c)] [.int ((dw_up (dw_up (dw_up I (A + 8) k (I 5 q)) (A + 9) k (I 6 q)) (A + 10) k (I 7 q)) 9 (c).toInt.toNat), .int c, .ref (A + 11)] (n, SH1, (dw_up (dw_up (dw_up I (A + 8) k (I 5 q)) (A + 9) k (I 6 q)) (A + 10) k (I 7 q)), J)
    rw [hcn]
    show dw_ok (pr_X7_start K) 88 0 0 [some (.ref A), some (.ref 4), some (.ref B), some (.int c)] [.int ((dw_up (dw_up (dw_up I (A + 8) k (I 5 q)) (A + 9) k (I 6 q)) (A + 10) k (I 7 q)) 9 k), .int c, .ref (A + 11)] (n, SH1, (dw_up (dw_up (dw_up I (A + 8) k (I 5 q)) (A + 9) k (I 6 q)) (A + 10) k (I 7 q)), J)
    rw [show ((dw_up (dw_up (dw_up I (A + 8) k (I 5 q)) (A + 9) k (I 6 q)) (A + 10) k (I 7 q)) 9 k) = (I 9 k) from ((up_ne (Or.inl (by omega))).trans ((up_ne (Or.inl (by omega))).trans (up_ne (Or.inl (by omega)))))]
    refine q_iast rfl kA11 nA11 (by omega) (by omega) ?_
    show dw_ok (pr_X7_start K) 89 0 0 [some (.ref A), some (.ref 4), some (.ref B), some (.int c)] [] (n, SH1, (dw_up (dw_up (dw_up (dw_up I (A + 8) k (I 5 q)) (A + 9) k (I 6 q)) (A + 10) k (I 7 q)) (A + 11) (c).toInt.toNat (I 9 k)), J)
    rw [hcn]
    refine q_ald rfl rfl ?_
    refine q_getr rfl kA rA12 ?_
    refine q_ild rfl rfl ?_
    refine q_ic rfl ?_
    refine q_iast rfl kA12 nA12 (by omega) (by omega) ?_
    show dw_ok (pr_X7_start K) 96 0 0 [some (.ref A), some (.ref 4), some (.ref B), some (.int c)] [] (n, SH1, (dw_up (dw_up (dw_up (dw_up (dw_up I (A + 8) k (I 5 q)) (A + 9) k (I 6 q)) (A + 10) k (I 7 q)) (A + 11) k (I 9 k)) (A + 12) (c).toInt.toNat (0 : Int32)), J)
    rw [hcn]
    obtain ⟨I2, hI2⟩ : ∃ X, X = (dw_up (dw_up (dw_up (dw_up (dw_up I (A + 8) k (I 5 q)) (A + 9) k (I 6 q)) (A + 10) k (I 7 q)) (A + 11) k (I 9 k)) (A + 12) k (0 : Int32)) := ⟨_, rfl⟩
    show dw_ok (pr_X7_start K) 96 0 0 [some (.ref A), some (.ref 4), some (.ref B), some (.int c)] [] (n, SH1, (dw_up (dw_up (dw_up (dw_up (dw_up I (A + 8) k (I 5 q)) (A + 9) k (I 6 q)) (A + 10) k (I 7 q)) (A + 11) k (I 9 k)) (A + 12) k (0 : Int32)), J)
    rw [← hI2]
    have rI2 : ∀ a, a ≠ (A + 8) → a ≠ (A + 9) → a ≠ (A + 10) → a ≠ (A + 11) → a ≠ (A + 12) → I2 a = I a := fun a q0 q1 q2 q3 q4 => by rw [hI2]; exact ((up_row q4).trans ((up_row q3).trans ((up_row q2).trans ((up_row q1).trans (up_row q0)))))
    have fI2_0 : ∀ j, j ≠ k → I2 (A + 8) j = I (A + 8) j := fun j p0 => by rw [hI2]; exact ((up_ne (Or.inl (by omega))).trans ((up_ne (Or.inl (by omega))).trans ((up_ne (Or.inl (by omega))).trans ((up_ne (Or.inl (by omega))).trans (up_fld p0)))))
    have sI2_0_0 : I2 (A + 8) k = (I 5 q) := by rw [hI2]; exact ((up_ne (Or.inl (by omega))).trans ((up_ne (Or.inl (by omega))).trans ((up_ne (Or.inl (by omega))).trans ((up_ne (Or.inl (by omega))).trans (up_same)))))
    have fI2_1 : ∀ j, j ≠ k → I2 (A + 9) j = I (A + 9) j := fun j p0 => by rw [hI2]; exact ((up_ne (Or.inl (by omega))).trans ((up_ne (Or.inl (by omega))).trans ((up_ne (Or.inl (by omega))).trans ((up_fld p0).trans (up_ne (Or.inl (by omega)))))))
    have sI2_1_0 : I2 (A + 9) k = (I 6 q) := by rw [hI2]; exact ((up_ne (Or.inl (by omega))).trans ((up_ne (Or.inl (by omega))).trans ((up_ne (Or.inl (by omega))).trans (up_same))))
    have fI2_2 : ∀ j, j ≠ k → I2 (A + 10) j = I (A + 10) j := fun j p0 => by rw [hI2]; exact ((up_ne (Or.inl (by omega))).trans ((up_ne (Or.inl (by omega))).trans ((up_fld p0).trans ((up_ne (Or.inl (by omega))).trans (up_ne (Or.inl (by omega)))))))
    have sI2_2_0 : I2 (A + 10) k = (I 7 q) := by rw [hI2]; exact ((up_ne (Or.inl (by omega))).trans ((up_ne (Or.inl (by omega))).trans (up_same)))
    have fI2_3 : ∀ j, j ≠ k → I2 (A + 11) j = I (A + 11) j := fun j p0 => by rw [hI2]; exact ((up_ne (Or.inl (by omega))).trans ((up_fld p0).trans ((up_ne (Or.inl (by omega))).trans ((up_ne (Or.inl (by omega))).trans (up_ne (Or.inl (by omega)))))))
    have sI2_3_0 : I2 (A + 11) k = (I 9 k) := by rw [hI2]; exact ((up_ne (Or.inl (by omega))).trans (up_same))
    have fI2_4 : ∀ j, j ≠ k → I2 (A + 12) j = I (A + 12) j := fun j p0 => by rw [hI2]; exact ((up_fld p0).trans ((up_ne (Or.inl (by omega))).trans ((up_ne (Or.inl (by omega))).trans ((up_ne (Or.inl (by omega))).trans (up_ne (Or.inl (by omega)))))))
    have sI2_4_0 : I2 (A + 12) k = (0 : Int32) := by rw [hI2]; exact (up_same)
    refine q_ald rfl rfl ?_
    refine q_getr rfl kA rA13 ?_
    refine q_ild rfl rfl ?_
    refine q_ic rfl ?_
    refine q_ald rfl rfl ?_
    refine q_getr rfl kA rA7 ?_
    refine q_ic rfl ?_
    refine q_ic rfl ?_
    refine q_callV (as := [.int (2 : Int32), .int (0 : Int32)]) (rest := [.int (100 : Int32), .int c, .ref (A + 13)]) rfl rfl hNT.1 rfl (Nat.le_of_ble_eq_true rfl) ?_
    refine v_ntell (w := 2) hNT (by decide) rfl (by decide) (by decide) ?_
    show dw_ok (pr_X7_start K) 112 0 0 [some (.ref A), some (.ref 4), some (.ref B), some (.int c)] [.int (I2 (A + 1 + 2 + 2) (0 : Int32).toInt.toNat), .int (100 : Int32), .int c, .ref (A + 13)] (n, SH1, I2, J)
    rw [show I2 (A + 1 + 2 + 2) (0 : Int32).toInt.toNat = I0 (A + 1 + 2 + 2) 0 from (congrFun (rI2 (A + 1 + 2 + 2) (by omega) (by omega) (by omega) (by omega) (by omega)) 0).trans (congrFun (hF (A + 1 + 2 + 2) (by omega)) 0)]
    show dw_ok (pr_X7_start K) 112 0 0 [some (.ref A), some (.ref 4), some (.ref B), some (.int c)] [.int (I0 (A + 1 + 2 + 2) 0), .int (100 : Int32), .int c, .ref (A + 13)] (n, SH1, I2, J)
    refine q_mul rfl ?_
    refine q_iast rfl kA13 nA13 (by omega) (by omega) ?_
    show dw_ok (pr_X7_start K) 114 0 0 [some (.ref A), some (.ref 4), some (.ref B), some (.int c)] [] (n, SH1, (dw_up I2 (A + 13) (c).toInt.toNat ((100 : Int32) * (I0 (A + 1 + 2 + 2) 0))), J)
    rw [hcn]
    refine q_ald rfl rfl ?_
    refine q_getr rfl kA rA14 ?_
    refine q_ild rfl rfl ?_
    refine q_ic rfl ?_
    refine q_iast rfl kA14 nA14 (by omega) (by omega) ?_
    show dw_ok (pr_X7_start K) 121 0 0 [some (.ref A), some (.ref 4), some (.ref B), some (.int c)] [] (n, SH1, (dw_up (dw_up I2 (A + 13) k ((100 : Int32) * (I0 (A + 1 + 2 + 2) 0))) (A + 14) (c).toInt.toNat (0 : Int32)), J)
    rw [hcn]
    refine q_inc rfl rfl rfl ?_
    show dw_ok (pr_X7_start K) 124 0 0 [some (.ref A), some (.ref 4), some (.ref B), some (.int (c + 1))] [] (n, SH1, (dw_up (dw_up I2 (A + 13) k ((100 : Int32) * (I0 (A + 1 + 2 + 2) 0))) (A + 14) k (0 : Int32)), J)
    refine q_goto rfl ?_
    refine ih (k + 1) (c + 1) (dw_up (dw_up I2 (A + 13) k ((100 : Int32) * (I0 (A + 1 + 2 + 2) 0))) (A + 14) k (0 : Int32)) (by omega) (by rw [i_add (by omega) (by omega), c1, hc]; omega) (fun a ha => ?_) (fun j hj => ?_)
    · exact ((up_row (by omega)).trans ((up_row (by omega)).trans ((rI2 a (by omega) (by omega) (by omega) (by omega) (by omega)).trans (hF a ha))))
    by_cases e : j = k
    · rw [e, ← hqe]
      refine ⟨?_, ?_, ?_, ?_, ?_, ?_, ?_⟩
      · exact ((up_ne (Or.inl (by omega))).trans ((up_ne (Or.inl (by omega))).trans ((sI2_0_0).trans (congrFun (hF 5 (by omega)) q))))
      · exact ((up_ne (Or.inl (by omega))).trans ((up_ne (Or.inl (by omega))).trans ((sI2_1_0).trans (congrFun (hF 6 (by omega)) q))))
      · exact ((up_ne (Or.inl (by omega))).trans ((up_ne (Or.inl (by omega))).trans ((sI2_2_0).trans (congrFun (hF 7 (by omega)) q))))
      · exact ((up_ne (Or.inl (by omega))).trans ((up_ne (Or.inl (by omega))).trans ((sI2_3_0).trans (congrFun (hF 9 (by omega)) k))))
      · exact ((up_ne (Or.inl (by omega))).trans ((up_ne (Or.inl (by omega))).trans (sI2_4_0)))
      · exact ((up_ne (Or.inl (by omega))).trans (up_same))
      · exact up_same
    · obtain ⟨b1, b2, b3, b4, b5, b6, b7⟩ := hB j (by omega)
      refine ⟨?_, ?_, ?_, ?_, ?_, ?_, ?_⟩
      · exact ((up_ne (Or.inl (by omega))).trans ((up_ne (Or.inl (by omega))).trans ((fI2_0 j e).trans (b1))))
      · exact ((up_ne (Or.inl (by omega))).trans ((up_ne (Or.inl (by omega))).trans ((fI2_1 j e).trans (b2))))
      · exact ((up_ne (Or.inl (by omega))).trans ((up_ne (Or.inl (by omega))).trans ((fI2_2 j e).trans (b3))))
      · exact ((up_ne (Or.inl (by omega))).trans ((up_ne (Or.inl (by omega))).trans ((fI2_3 j e).trans (b4))))
      · exact ((up_ne (Or.inl (by omega))).trans ((up_ne (Or.inl (by omega))).trans ((fI2_4 j e).trans (b5))))
      · exact ((up_ne (Or.inl (by omega))).trans ((up_fld e).trans ((congrFun (rI2 (A + 13) (by omega) (by omega) (by omega) (by omega) (by omega)) j).trans (b6))))
      · exact ((up_fld e).trans ((up_ne (Or.inl (by omega))).trans ((congrFun (rI2 (A + 14) (by omega) (by omega) (by omega) (by omega) (by omega)) j).trans (b7))))
set_option maxRecDepth 8000 in
set_option maxHeartbeats 8000000 in
theorem v_cstart {n : Nat} {I : Nat → Nat → Int32} {J : Nat → Nat → Int64} {K : dw_K} {A B N : Nat} (hA : RT A) (h43 : 43 ≤ A) (hB : NT B) (hAB : A + 1 + 7 ≤ B ∨ B + 7 ≤ A) (hBA : B ≠ A) (hz : I B 0 = 0 ∨ I B 0 = 1) (hN : (I 4 0 * I 4 1).toInt = N) (hN9 : N ≤ 144) (hkd : ∀ j, j < N → 0 ≤ (I 8 j).toInt ∧ (I 8 j).toInt < 8)
    (hk : ∀ I' : Nat → Nat → Int32, (∀ a, (a < A ∨ A + 14 < a) → I' a = I a) → I' A 0 = 1 → I' A 1 = I 4 0 * I 4 1 → I' A 2 = 0 → I' A 3 = I 4 4 → I' A 4 = 0 → I' A 5 = 0 → I' A 6 = 0 → (∀ w, w < 5 → ∀ t, t < 144 → I' (A + 1 + 2 + w) t = I (B + 2 + w) t) → (∀ j, j < N → I' (A + 8) j = I 5 (I 8 j).toInt.toNat ∧ I' (A + 9) j = I 6 (I 8 j).toInt.toNat ∧ I' (A + 10) j = I 7 (I 8 j).toInt.toNat ∧ I' (A + 11) j = I 9 j ∧ I' (A + 12) j = 0 ∧ I' (A + 13) j = 100 * I (B + 2 + 2) 0 ∧ I' (A + 14) j = 0) → K none (n, SH1, I', J)) : t_X7_start [.ref A, .ref 4, .ref B] (n, SH1, I, J) K := by
  have hA0 := hA
  obtain ⟨kA, ⟨rA7, rA8, rA9, rA10, rA11, rA12, rA13, rA14⟩, ⟨kA8, kA9, kA10, kA11, kA12, kA13, kA14⟩, ⟨nA8, nA9, nA10, nA11, nA12, nA13, nA14⟩, hNT⟩ := hA
  have k144 : (144 : Int32).toInt = 144 := rfl
  have emn : fi_min 144 (I 4 0 * I 4 1) = I 4 0 * I 4 1 := i_eq (by rw [fi_min_i, k144]; omega)
  refine q_body (Nat.le_of_ble_eq_true rfl) ?_
  refine q_ald rfl rfl ?_
  refine q_ic rfl ?_
  refine q_putz rfl kA (Or.inr rfl) ?_
  show dw_ok (pr_X7_start K) 5 0 0 [some (.ref A), some (.ref 4), some (.ref B), none] [] (n, SH1, (dw_up I A 0 (1 : Int32)), J)
  refine q_ald rfl rfl ?_
  refine q_ic rfl ?_
  refine q_ald rfl rfl ?_
  refine q_callV (as := []) (rest := [.int (144 : Int32), .ref A]) rfl rfl sk_4 rfl (Nat.le_of_ble_eq_true rfl) ?_
  refine v_gsize ?_
  show dw_ok (pr_X7_start K) 13 0 0 [some (.ref A), some (.ref 4), some (.ref B), none] [.int ((dw_up I A 0 (1 : Int32)) 4 0 * (dw_up I A 0 (1 : Int32)) 4 1), .int (144 : Int32), .ref A] (n, SH1, (dw_up I A 0 (1 : Int32)), J)
  rw [show (dw_up I A 0 (1 : Int32)) 4 = I 4 from (up_row (by omega))]
  show dw_ok (pr_X7_start K) 13 0 0 [some (.ref A), some (.ref 4), some (.ref B), none] [.int (I 4 0 * I 4 1), .int (144 : Int32), .ref A] (n, SH1, (dw_up I A 0 (1 : Int32)), J)
  refine q_min rfl rfl ?_
  show dw_ok (pr_X7_start K) 16 0 0 [some (.ref A), some (.ref 4), some (.ref B), none] [.int (fi_min (144 : Int32) (I 4 0 * I 4 1)), .ref A] (n, SH1, (dw_up I A 0 (1 : Int32)), J)
  rw [emn]
  refine q_puti rfl kA ?_
  show dw_ok (pr_X7_start K) 19 0 0 [some (.ref A), some (.ref 4), some (.ref B), none] [] (n, SH1, (dw_up (dw_up I A 0 (1 : Int32)) A 1 (I 4 0 * I 4 1)), J)
  refine q_ald rfl rfl ?_
  refine q_ic rfl ?_
  refine q_puti rfl kA ?_
  show dw_ok (pr_X7_start K) 24 0 0 [some (.ref A), some (.ref 4), some (.ref B), none] [] (n, SH1, (dw_up (dw_up (dw_up I A 0 (1 : Int32)) A 1 (I 4 0 * I 4 1)) A 2 (0 : Int32)), J)
  refine q_ald rfl rfl ?_
  refine q_ald rfl rfl ?_
  refine q_geti rfl sk_4 ?_
  show dw_ok (pr_X7_start K) 29 0 0 [some (.ref A), some (.ref 4), some (.ref B), none] [.int ((dw_up (dw_up (dw_up I A 0 (1 : Int32)) A 1 (I 4 0 * I 4 1)) A 2 (0 : Int32)) 4 4), .ref A] (n, SH1, (dw_up (dw_up (dw_up I A 0 (1 : Int32)) A 1 (I 4 0 * I 4 1)) A 2 (0 : Int32)), J)
  rw [show ((dw_up (dw_up (dw_up I A 0 (1 : Int32)) A 1 (I 4 0 * I 4 1)) A 2 (0 : Int32)) 4 4) = (I 4 4) from ((up_ne (Or.inl (by omega))).trans ((up_ne (Or.inl (by omega))).trans (up_ne (Or.inl (by omega)))))]
  refine q_puti rfl kA ?_
  show dw_ok (pr_X7_start K) 32 0 0 [some (.ref A), some (.ref 4), some (.ref B), none] [] (n, SH1, (dw_up (dw_up (dw_up (dw_up I A 0 (1 : Int32)) A 1 (I 4 0 * I 4 1)) A 2 (0 : Int32)) A 3 (I 4 4)), J)
  refine q_ald rfl rfl ?_
  refine q_ic rfl ?_
  refine q_puti rfl kA ?_
  show dw_ok (pr_X7_start K) 37 0 0 [some (.ref A), some (.ref 4), some (.ref B), none] [] (n, SH1, (dw_up (dw_up (dw_up (dw_up (dw_up I A 0 (1 : Int32)) A 1 (I 4 0 * I 4 1)) A 2 (0 : Int32)) A 3 (I 4 4)) A 4 (0 : Int32)), J)
  refine q_ald rfl rfl ?_
  refine q_ic rfl ?_
  refine q_puti rfl kA ?_
  show dw_ok (pr_X7_start K) 42 0 0 [some (.ref A), some (.ref 4), some (.ref B), none] [] (n, SH1, (dw_up (dw_up (dw_up (dw_up (dw_up (dw_up I A 0 (1 : Int32)) A 1 (I 4 0 * I 4 1)) A 2 (0 : Int32)) A 3 (I 4 4)) A 4 (0 : Int32)) A 5 (0 : Int32)), J)
  refine q_ald rfl rfl ?_
  refine q_ic rfl ?_
  refine q_puti rfl kA ?_
  show dw_ok (pr_X7_start K) 47 0 0 [some (.ref A), some (.ref 4), some (.ref B), none] [] (n, SH1, (dw_up (dw_up (dw_up (dw_up (dw_up (dw_up (dw_up I A 0 (1 : Int32)) A 1 (I 4 0 * I 4 1)) A 2 (0 : Int32)) A 3 (I 4 4)) A 4 (0 : Int32)) A 5 (0 : Int32)) A 6 (0 : Int32)), J)
  obtain ⟨I1, hI1⟩ : ∃ X, X = (dw_up (dw_up (dw_up (dw_up (dw_up (dw_up (dw_up I A 0 (1 : Int32)) A 1 (I 4 0 * I 4 1)) A 2 (0 : Int32)) A 3 (I 4 4)) A 4 (0 : Int32)) A 5 (0 : Int32)) A 6 (0 : Int32)) := ⟨_, rfl⟩
  show dw_ok (pr_X7_start K) 47 0 0 [some (.ref A), some (.ref 4), some (.ref B), none] [] (n, SH1, (dw_up (dw_up (dw_up (dw_up (dw_up (dw_up (dw_up I A 0 (1 : Int32)) A 1 (I 4 0 * I 4 1)) A 2 (0 : Int32)) A 3 (I 4 4)) A 4 (0 : Int32)) A 5 (0 : Int32)) A 6 (0 : Int32)), J)
  rw [← hI1]
  have rI1 : ∀ a, a ≠ A → I1 a = I a := fun a q0 => by rw [hI1]; exact ((up_row q0).trans ((up_row q0).trans ((up_row q0).trans ((up_row q0).trans ((up_row q0).trans ((up_row q0).trans (up_row q0)))))))
  have fI1_0 : ∀ j, j ≠ 0 → j ≠ 1 → j ≠ 2 → j ≠ 3 → j ≠ 4 → j ≠ 5 → j ≠ 6 → I1 A j = I A j := fun j p0 p1 p2 p3 p4 p5 p6 => by rw [hI1]; exact ((up_fld p6).trans ((up_fld p5).trans ((up_fld p4).trans ((up_fld p3).trans ((up_fld p2).trans ((up_fld p1).trans (up_fld p0)))))))
  have sI1_0_0 : I1 A 0 = (1 : Int32) := by rw [hI1]; exact ((up_fld (by decide)).trans ((up_fld (by decide)).trans ((up_fld (by decide)).trans ((up_fld (by decide)).trans ((up_fld (by decide)).trans ((up_fld (by decide)).trans (up_same)))))))
  have sI1_0_1 : I1 A 1 = (I 4 0 * I 4 1) := by rw [hI1]; exact ((up_fld (by decide)).trans ((up_fld (by decide)).trans ((up_fld (by decide)).trans ((up_fld (by decide)).trans ((up_fld (by decide)).trans (up_same))))))
  have sI1_0_2 : I1 A 2 = (0 : Int32) := by rw [hI1]; exact ((up_fld (by decide)).trans ((up_fld (by decide)).trans ((up_fld (by decide)).trans ((up_fld (by decide)).trans (up_same)))))
  have sI1_0_3 : I1 A 3 = (I 4 4) := by rw [hI1]; exact ((up_fld (by decide)).trans ((up_fld (by decide)).trans ((up_fld (by decide)).trans (up_same))))
  have sI1_0_4 : I1 A 4 = (0 : Int32) := by rw [hI1]; exact ((up_fld (by decide)).trans ((up_fld (by decide)).trans (up_same)))
  have sI1_0_5 : I1 A 5 = (0 : Int32) := by rw [hI1]; exact ((up_fld (by decide)).trans (up_same))
  have sI1_0_6 : I1 A 6 = (0 : Int32) := by rw [hI1]; exact (up_same)
  refine q_ald rfl rfl ?_
  refine q_getr rfl kA rA7 ?_
  refine q_ald rfl rfl ?_
  refine q_callV (as := [.ref B]) (rest := []) rfl rfl hNT.1 rfl (Nat.le_of_ble_eq_true rfl) ?_
  refine v_ncopy hNT hB (by omega) (by rw [rI1 B (by omega)]; exact hz) (fun I2 g1 g2 g3 g4 => ?_)
  show dw_ok (pr_X7_start K) 55 0 0 [some (.ref A), some (.ref 4), some (.ref B), none] [] (n, SH1, I2, J)
  refine q_ic rfl ?_
  refine q_ist rfl rfl ?_
  show dw_ok (pr_X7_start K) 57 0 0 [some (.ref A), some (.ref 4), some (.ref B), some (.int (0 : Int32))] [] (n, SH1, I2, J)
  have gA : I2 A = I1 A := g1 A (by omega) (by omega)
  have lo : ∀ a, a < 43 → I2 a = I a := fun a ha => (g1 a (by omega) (by omega)).trans (rI1 a (by omega))
  refine cs_loop (I0 := I2) (N := N) hA0 h43 (by rw [gA, sI1_0_1]; exact hN) hN9 (by rw [lo 8 (by decide)]; exact hkd) (fun I' q1 q2 => ?_) N 0 0 I2 (by omega) rfl (fun _ _ => rfl) (fun j hj => absurd hj (Nat.not_lt_zero j))
  rw [lo 5 (by decide), lo 6 (by decide), lo 7 (by decide), lo 8 (by decide), lo 9 (by decide)] at q2
  have qA : I' A = I1 A := (q1 A (by omega)).trans gA
  have air : I2 (A + 1 + 2 + 2) 0 = I (B + 2 + 2) 0 := (g4 2 (by decide) 0 (by decide)).trans (congrFun (rI1 (B + 2 + 2) (by omega)) 0)
  rw [air] at q2
  refine hk I' (fun a ha => ?_) ?_ ?_ ?_ ?_ ?_ ?_ ?_ (fun w hw t ht => ?_) q2
  · rw [q1 a (by omega), g1 a (by omega) (by omega)]; exact rI1 a (by omega)
  · rw [qA]; exact sI1_0_0
  · rw [qA]; exact sI1_0_1
  · rw [qA]; exact sI1_0_2
  · rw [qA]; exact sI1_0_3
  · rw [qA]; exact sI1_0_4
  · rw [qA]; exact sI1_0_5
  · rw [qA]; exact sI1_0_6
  · rw [q1 (A + 1 + 2 + w) (by omega), g4 w hw t ht]; exact congrFun (rI1 (B + 2 + w) (by omega)) t
set_option maxRecDepth 8000 in
theorem v_start {n : Nat} {I : Nat → Nat → Int32} {J : Nat → Nat → Int64} {K : dw_K} {A N : Nat} {x : Int32} (hA : RT A) (hA2 : A = 43 ∨ A = 164 ∨ A = 179) (hz : ∀ s, s < 6 → I (58 + 7 * s) 0 = 0 ∨ I (58 + 7 * s) 0 = 1) (hN : (I 4 0 * I 4 1).toInt = N) (hN9 : N ≤ 144) (hkd : ∀ j, j < N → 0 ≤ (I 8 j).toInt ∧ (I 8 j).toInt < 8)
    (h1 : ∀ s : Nat, s < 6 → x.toInt = s → I (58 + 7 * s) 0 = 1 → ∀ I' : Nat → Nat → Int32, (∀ a, (a < A ∨ A + 14 < a) → I' a = I a) → I' A 0 = 1 → I' A 1 = I 4 0 * I 4 1 → I' A 2 = 0 → I' A 3 = I 4 4 → I' A 4 = 0 → I' A 5 = 0 → I' A 6 = 0 → (∀ w, w < 5 → ∀ t, t < 144 → I' (A + 1 + 2 + w) t = I (58 + 7 * s + 2 + w) t) → (∀ j, j < N → I' (A + 8) j = I 5 (I 8 j).toInt.toNat ∧ I' (A + 9) j = I 6 (I 8 j).toInt.toNat ∧ I' (A + 10) j = I 7 (I 8 j).toInt.toNat ∧ I' (A + 11) j = I 9 j ∧ I' (A + 12) j = 0 ∧ I' (A + 13) j = 100 * I (58 + 7 * s + 2 + 2) 0 ∧ I' (A + 14) j = 0) → K (some (.int 1)) (n, SH1, I', J)) (h2 : (∀ s : Nat, s < 6 → x.toInt = s → I (58 + 7 * s) 0 = 0) → K (some (.int 0)) (n, SH1, I, J)) : t_X11_start [.ref 0, .ref A, .int x] (n, SH1, I, J) K := by
  refine q_body (Nat.le_of_ble_eq_true rfl) ?_
  refine q_ald rfl rfl ?_
  refine q_getr rfl sk_0 sr_0_1 ?_
  refine q_ild rfl rfl ?_
  refine q_callV (as := [.int x]) (rest := []) rfl rfl sk_3 rfl (Nat.le_of_ble_eq_true rfl) ?_
  refine v_nightOf (fun s hs hx => ?_) (fun hno => ?_)
  · obtain ⟨-, hB⟩ := no_ref hs
    show dw_ok (pr_X11_start K) 8 0 0 [some (.ref 0), some (.ref A), some (.int x), none] [.ref (58 + 7 * s)] (n, SH1, I, J)
    refine q_ast rfl rfl ?_
    refine q_ald rfl rfl ?_
    refine q_ifnull_r rfl ?_
    refine q_ald rfl rfl ?_
    refine q_getz rfl hB.1 ?_
    rcases hz s hs with e | e
    · refine q_if (c := 1) rfl (by decide) (fun g => absurd (show (I (58 + 7 * s) 0).toInt = 0 by rw [e]; rfl) g) (fun _ => ?_)
      refine q_ic rfl ?_
      exact q_zret rfl (Or.inl rfl) (h2 (fun s' hs' hx' => by rw [show s' = s by omega]; exact e))
    · refine q_if (c := 1) rfl (by decide) (fun _ => ?_) (fun g => absurd (show (I (58 + 7 * s) 0).toInt = 0 from g) (by rw [e]; decide))
      refine q_ald rfl rfl ?_
      refine q_ald rfl rfl ?_
      refine q_getr rfl sk_0 sr_0_1 ?_
      refine q_getr rfl sk_3 sr_3_1 ?_
      refine q_ald rfl rfl ?_
      refine q_callV (as := [.ref 4, .ref (58 + 7 * s)]) (rest := []) rfl rfl hA.1 rfl (Nat.le_of_ble_eq_true rfl) ?_
      refine v_cstart (N := N) hA (by omega) hB (by omega) (by omega) (hz s hs) hN hN9 hkd (fun I' g0 g1 g2 g3 g4 g5 g6 g7 g8 g9 => ?_)
      show dw_ok (pr_X11_start K) 34 0 0 [some (.ref 0), some (.ref A), some (.int x), some (.ref (58 + 7 * s))] [] (n, SH1, I', J)
      refine q_ic rfl ?_
      exact q_zret rfl (Or.inr rfl) (h1 s hs hx e I' g0 g1 g2 g3 g4 g5 g6 g7 g8 g9)
  · show dw_ok (pr_X11_start K) 8 0 0 [some (.ref 0), some (.ref A), some (.int x), none] [.null] (n, SH1, I, J)
    refine q_astn rfl rfl ?_
    refine q_aldn rfl rfl ?_
    refine q_ifnull_n rfl ?_
    refine q_ic rfl ?_
    exact q_zret rfl (Or.inl rfl) (h2 (fun s hs hx => absurd (show 0 ≤ x.toInt ∧ x.toInt ≤ 5 by omega) hno))
/-- how many of the first n CELLS hold as much; their sum -/
def wcF (W : Nat → Int32) (l : Int32) : Nat → Nat
  | 0 => 0
  | k + 1 => wcF W l k + if l.toInt ≤ (W k).toInt then 1 else 0
def suF (W : Nat → Int32) : Nat → Int32
  | 0 => 0
  | k + 1 => suF W k + W k
set_option maxRecDepth 8000 in
theorem wc_le {W : Nat → Int32} {l : Int32} : ∀ k : Nat, wcF W l k ≤ k
  | 0 => Nat.le_refl 0
  | k + 1 => by
    have h := wc_le (W := W) (l := l) k
    show wcF W l k + (if l.toInt ≤ (W k).toInt then 1 else 0) ≤ k + 1
    split <;> omega
set_option maxRecDepth 8000 in
theorem wc_eq {W W' : Nat → Int32} {l : Int32} : ∀ k : Nat, (∀ c, c < k → W c = W' c) → wcF W l k = wcF W' l k
  | 0, _ => rfl
  | k + 1, h => by
    show wcF W l k + (if l.toInt ≤ (W k).toInt then 1 else 0) = wcF W' l k + (if l.toInt ≤ (W' k).toInt then 1 else 0)
    rw [wc_eq k (fun c hc => h c (by omega)), h k (by omega)]
set_option maxRecDepth 8000 in
theorem su_eq {W W' : Nat → Int32} : ∀ k : Nat, (∀ c, c < k → W c = W' c) → suF W k = suF W' k
  | 0, _ => rfl
  | k + 1, h => by
    show suF W k + W k = suF W' k + W' k
    rw [su_eq k (fun c hc => h c (by omega)), h k (by omega)]
set_option maxRecDepth 8000 in
theorem wc_loop {n : Nat} {I : Nat → Nat → Int32} {J : Nat → Nat → Int64} {K : dw_K} {A N : Nat} (hA : RT A) (hN : (I A 1).toInt = N) (hN9 : N ≤ 144) {l : Int32} (hk : ∀ w : Int32, w.toInt = wcF (I (A + 14)) l N → K (some (.int w)) (n, SH1, I, J)) : ∀ (f k : Nat) (c : Int32) (v : Int32), k + f = N → c.toInt = k → v.toInt = wcF (I (A + 14)) l k → dw_ok (pr_X7_wetCells K) 4 0 0 [some (.ref A), some (.int l), some (.int v), some (.int c)] [] (n, SH1, I, J) := by
  have hA0 := hA
  obtain ⟨kA, ⟨rA7, rA8, rA9, rA10, rA11, rA12, rA13, rA14⟩, ⟨kA8, kA9, kA10, kA11, kA12, kA13, kA14⟩, ⟨nA8, nA9, nA10, nA11, nA12, nA13, nA14⟩, hNT⟩ := hA
  have c1 : (1 : Int32).toInt = 1 := rfl
  have c144 : (144 : Int32).toInt = 144 := rfl
  intro f
  induction f with
  | zero =>
    intro k c v hf hc hv
    refine q_ild rfl rfl ?_
    refine q_ald rfl rfl ?_
    refine q_geti rfl kA ?_
    refine q_icmp (c := 3) rfl (by decide) (fun y1 => ?_) (fun h => absurd (show (c).toInt < ((I A 1)).toInt from h) (by omega))
    have y1 : ((I A 1)).toInt ≤ (c).toInt := y1
    refine q_ild rfl rfl ?_
    exact q_iret rfl (hk _ (by rw [hv, show k = N by omega]))
  | succ f ih =>
    intro k c v hf hc hv
    have hcn : c.toInt.toNat = k := by omega
    have ec : (c + 1).toInt = ((k + 1 : Nat) : Int) := by rw [i_add (by omega) (by omega), c1, hc]; omega
    refine q_ild rfl rfl ?_
    refine q_ald rfl rfl ?_
    refine q_geti rfl kA ?_
    refine q_icmp (c := 3) rfl (by decide) (fun h => absurd (show ((I A 1)).toInt ≤ (c).toInt from h) (by omega)) (fun y2 => ?_)
    have y2 : (c).toInt < ((I A 1)).toInt := y2
    refine q_ild rfl rfl ?_
    refine q_ic rfl ?_
    refine q_icmp (c := 3) rfl (by decide) (fun h => absurd (show (144 : Int) ≤ (c).toInt from h) (by omega)) (fun y3 => ?_)
    have y3 : (c).toInt < (144 : Int) := y3
    refine q_ild rfl rfl ?_
    refine q_ald rfl rfl ?_
    refine q_getr rfl kA rA14 ?_
    refine q_ild rfl rfl ?_
    refine q_xald rfl (Or.inl rfl) kA14 nA14 (by omega) (by omega) ?_
    show dw_ok (pr_X7_wetCells K) 26 0 0 [some (.ref A), some (.int l), some (.int v), some (.int c)] [.int (I (A + 14) (c).toInt.toNat), .int v] (n, SH1, I, J)
    rw [hcn]
    refine q_ild rfl rfl ?_
    refine q_icmp (c := 2) rfl (by decide) (fun y4 => ?_) (fun y4 => ?_)
    · have y4 : ((I (A + 14) k)).toInt < (l).toInt := y4
      refine q_ic rfl ?_
      refine q_add rfl ?_
      refine q_ist rfl rfl ?_
      show dw_ok (pr_X7_wetCells K) 37 0 0 [some (.ref A), some (.int l), some (.int (v + (0 : Int32))), some (.int c)] [] (n, SH1, I, J)
      refine q_inc rfl rfl rfl ?_
      show dw_ok (pr_X7_wetCells K) 40 0 0 [some (.ref A), some (.int l), some (.int (v + (0 : Int32))), some (.int (c + 1))] [] (n, SH1, I, J)
      refine q_goto rfl ?_
      refine ih (k + 1) (c + 1) (v + (0 : Int32)) (by omega) ec ?_
      have ew : wcF (I (A + 14)) l (k + 1) = wcF (I (A + 14)) l k + 0 := by
        show wcF (I (A + 14)) l k + (if l.toInt ≤ (I (A + 14) k).toInt then 1 else 0) = _
        rw [if_neg (by omega)]
      have wl := wc_le (W := I (A + 14)) (l := l) k
      have c0 : (0 : Int32).toInt = 0 := rfl
      rw [ew, i_add (by omega) (by omega)]; omega
    · have y4 : (l).toInt ≤ ((I (A + 14) k)).toInt := y4
      refine q_ic rfl ?_
      refine q_goto rfl ?_
      refine q_add rfl ?_
      refine q_ist rfl rfl ?_
      show dw_ok (pr_X7_wetCells K) 37 0 0 [some (.ref A), some (.int l), some (.int (v + (1 : Int32))), some (.int c)] [] (n, SH1, I, J)
      refine q_inc rfl rfl rfl ?_
      show dw_ok (pr_X7_wetCells K) 40 0 0 [some (.ref A), some (.int l), some (.int (v + (1 : Int32))), some (.int (c + 1))] [] (n, SH1, I, J)
      refine q_goto rfl ?_
      refine ih (k + 1) (c + 1) (v + (1 : Int32)) (by omega) ec ?_
      have ew : wcF (I (A + 14)) l (k + 1) = wcF (I (A + 14)) l k + 1 := by
        show wcF (I (A + 14)) l k + (if l.toInt ≤ (I (A + 14) k).toInt then 1 else 0) = _
        rw [if_pos (by omega)]
      have wl := wc_le (W := I (A + 14)) (l := l) k
      have c0 : (0 : Int32).toInt = 0 := rfl
      rw [ew, i_add (by omega) (by omega)]; omega
set_option maxRecDepth 8000 in
theorem v_wetCells {n : Nat} {I : Nat → Nat → Int32} {J : Nat → Nat → Int64} {K : dw_K} {A N : Nat} (hA : RT A) (hN : (I A 1).toInt = N) (hN9 : N ≤ 144) {l : Int32} (hk : ∀ w : Int32, w.toInt = wcF (I (A + 14)) l N → K (some (.int w)) (n, SH1, I, J)) : t_X7_wetCells [.ref A, .int l] (n, SH1, I, J) K := by
  refine q_body (Nat.le_of_ble_eq_true rfl) ?_
  refine q_ic rfl ?_
  refine q_ist rfl rfl ?_
  show dw_ok (pr_X7_wetCells K) 2 0 0 [some (.ref A), some (.int l), some (.int (0 : Int32)), none] [] (n, SH1, I, J)
  refine q_ic rfl ?_
  refine q_ist rfl rfl ?_
  show dw_ok (pr_X7_wetCells K) 4 0 0 [some (.ref A), some (.int l), some (.int (0 : Int32)), some (.int (0 : Int32))] [] (n, SH1, I, J)
  exact wc_loop hA hN hN9 hk N 0 0 0 (by omega) rfl rfl
set_option maxRecDepth 8000 in
theorem wsum_loop {n : Nat} {I : Nat → Nat → Int32} {J : Nat → Nat → Int64} {K : dw_K} {A N : Nat} (hA : RT A) (hN : (I A 1).toInt = N) (hN9 : N ≤ 144) (hk : K (some (.int (suF (I (A + 14)) N))) (n, SH1, I, J)) : ∀ (f k : Nat) (c : Int32) (v : Int32), k + f = N → c.toInt = k → v = suF (I (A + 14)) k → dw_ok (pr_X7_waterOfAll K) 4 0 0 [some (.ref A), some (.int v), some (.int c)] [] (n, SH1, I, J) := by
  have hA0 := hA
  obtain ⟨kA, ⟨rA7, rA8, rA9, rA10, rA11, rA12, rA13, rA14⟩, ⟨kA8, kA9, kA10, kA11, kA12, kA13, kA14⟩, ⟨nA8, nA9, nA10, nA11, nA12, nA13, nA14⟩, hNT⟩ := hA
  have c1 : (1 : Int32).toInt = 1 := rfl
  have c144 : (144 : Int32).toInt = 144 := rfl
  intro f
  induction f with
  | zero =>
    intro k c v hf hc hv
    refine q_ild rfl rfl ?_
    refine q_ald rfl rfl ?_
    refine q_geti rfl kA ?_
    refine q_icmp (c := 3) rfl (by decide) (fun y1 => ?_) (fun h => absurd (show (c).toInt < ((I A 1)).toInt from h) (by omega))
    have y1 : ((I A 1)).toInt ≤ (c).toInt := y1
    refine q_ild rfl rfl ?_
    rw [hv, show k = N by omega]
    exact q_iret rfl hk
  | succ f ih =>
    intro k c v hf hc hv
    have hcn : c.toInt.toNat = k := by omega
    have ec : (c + 1).toInt = ((k + 1 : Nat) : Int) := by rw [i_add (by omega) (by omega), c1, hc]; omega
    refine q_ild rfl rfl ?_
    refine q_ald rfl rfl ?_
    refine q_geti rfl kA ?_
    refine q_icmp (c := 3) rfl (by decide) (fun h => absurd (show ((I A 1)).toInt ≤ (c).toInt from h) (by omega)) (fun y2 => ?_)
    have y2 : (c).toInt < ((I A 1)).toInt := y2
    refine q_ild rfl rfl ?_
    refine q_ic rfl ?_
    refine q_icmp (c := 3) rfl (by decide) (fun h => absurd (show (144 : Int) ≤ (c).toInt from h) (by omega)) (fun y3 => ?_)
    have y3 : (c).toInt < (144 : Int) := y3
    refine q_ild rfl rfl ?_
    refine q_ald rfl rfl ?_
    refine q_getr rfl kA rA14 ?_
    refine q_ild rfl rfl ?_
    refine q_xald rfl (Or.inl rfl) kA14 nA14 (by omega) (by omega) ?_
    show dw_ok (pr_X7_waterOfAll K) 26 0 0 [some (.ref A), some (.int v), some (.int c)] [.int (I (A + 14) (c).toInt.toNat), .int v] (n, SH1, I, J)
    rw [hcn]
    refine q_add rfl ?_
    refine q_ist rfl rfl ?_
    show dw_ok (pr_X7_waterOfAll K) 28 0 0 [some (.ref A), some (.int (v + (I (A + 14) k))), some (.int c)] [] (n, SH1, I, J)
    refine q_inc rfl rfl rfl ?_
    show dw_ok (pr_X7_waterOfAll K) 31 0 0 [some (.ref A), some (.int (v + (I (A + 14) k))), some (.int (c + 1))] [] (n, SH1, I, J)
    refine q_goto rfl ?_
    exact ih (k + 1) (c + 1) (v + (I (A + 14) k)) (by omega) ec (by rw [hv]; rfl)
set_option maxRecDepth 8000 in
theorem v_wsum {n : Nat} {I : Nat → Nat → Int32} {J : Nat → Nat → Int64} {K : dw_K} {A N : Nat} (hA : RT A) (hN : (I A 1).toInt = N) (hN9 : N ≤ 144) (hk : K (some (.int (suF (I (A + 14)) N))) (n, SH1, I, J)) : t_X7_waterOfAll [.ref A] (n, SH1, I, J) K := by
  refine q_body (Nat.le_of_ble_eq_true rfl) ?_
  refine q_ic rfl ?_
  refine q_ist rfl rfl ?_
  show dw_ok (pr_X7_waterOfAll K) 2 0 0 [some (.ref A), some (.int (0 : Int32)), none] [] (n, SH1, I, J)
  refine q_ic rfl ?_
  refine q_ist rfl rfl ?_
  show dw_ok (pr_X7_waterOfAll K) 4 0 0 [some (.ref A), some (.int (0 : Int32)), some (.int (0 : Int32))] [] (n, SH1, I, J)
  exact wsum_loop hA hN hN9 hk N 0 0 0 (by omega) rfl rfl
set_option maxRecDepth 8000 in
theorem csum_loop {n : Nat} {I : Nat → Nat → Int32} {J : Nat → Nat → Int64} {K : dw_K} {A N : Nat} (hA : RT A) (hN : (I A 1).toInt = N) (hN9 : N ≤ 144) (hk : K (some (.int (suF (I (A + 12)) N))) (n, SH1, I, J)) : ∀ (f k : Nat) (c : Int32) (v : Int32), k + f = N → c.toInt = k → v = suF (I (A + 12)) k → dw_ok (pr_X7_coveredCells K) 4 0 0 [some (.ref A), some (.int v), some (.int c)] [] (n, SH1, I, J) := by
  have hA0 := hA
  obtain ⟨kA, ⟨rA7, rA8, rA9, rA10, rA11, rA12, rA13, rA14⟩, ⟨kA8, kA9, kA10, kA11, kA12, kA13, kA14⟩, ⟨nA8, nA9, nA10, nA11, nA12, nA13, nA14⟩, hNT⟩ := hA
  have c1 : (1 : Int32).toInt = 1 := rfl
  have c144 : (144 : Int32).toInt = 144 := rfl
  intro f
  induction f with
  | zero =>
    intro k c v hf hc hv
    refine q_ild rfl rfl ?_
    refine q_ald rfl rfl ?_
    refine q_geti rfl kA ?_
    refine q_icmp (c := 3) rfl (by decide) (fun y1 => ?_) (fun h => absurd (show (c).toInt < ((I A 1)).toInt from h) (by omega))
    have y1 : ((I A 1)).toInt ≤ (c).toInt := y1
    refine q_ild rfl rfl ?_
    rw [hv, show k = N by omega]
    exact q_iret rfl hk
  | succ f ih =>
    intro k c v hf hc hv
    have hcn : c.toInt.toNat = k := by omega
    have ec : (c + 1).toInt = ((k + 1 : Nat) : Int) := by rw [i_add (by omega) (by omega), c1, hc]; omega
    refine q_ild rfl rfl ?_
    refine q_ald rfl rfl ?_
    refine q_geti rfl kA ?_
    refine q_icmp (c := 3) rfl (by decide) (fun h => absurd (show ((I A 1)).toInt ≤ (c).toInt from h) (by omega)) (fun y2 => ?_)
    have y2 : (c).toInt < ((I A 1)).toInt := y2
    refine q_ild rfl rfl ?_
    refine q_ic rfl ?_
    refine q_icmp (c := 3) rfl (by decide) (fun h => absurd (show (144 : Int) ≤ (c).toInt from h) (by omega)) (fun y3 => ?_)
    have y3 : (c).toInt < (144 : Int) := y3
    refine q_ild rfl rfl ?_
    refine q_ald rfl rfl ?_
    refine q_getr rfl kA rA12 ?_
    refine q_ild rfl rfl ?_
    refine q_xald rfl (Or.inl rfl) kA12 nA12 (by omega) (by omega) ?_
    show dw_ok (pr_X7_coveredCells K) 26 0 0 [some (.ref A), some (.int v), some (.int c)] [.int (I (A + 12) (c).toInt.toNat), .int v] (n, SH1, I, J)
    rw [hcn]
    refine q_add rfl ?_
    refine q_ist rfl rfl ?_
    show dw_ok (pr_X7_coveredCells K) 28 0 0 [some (.ref A), some (.int (v + (I (A + 12) k))), some (.int c)] [] (n, SH1, I, J)
    refine q_inc rfl rfl rfl ?_
    show dw_ok (pr_X7_coveredCells K) 31 0 0 [some (.ref A), some (.int (v + (I (A + 12) k))), some (.int (c + 1))] [] (n, SH1, I, J)
    refine q_goto rfl ?_
    exact ih (k + 1) (c + 1) (v + (I (A + 12) k)) (by omega) ec (by rw [hv]; rfl)
set_option maxRecDepth 8000 in
theorem v_csum {n : Nat} {I : Nat → Nat → Int32} {J : Nat → Nat → Int64} {K : dw_K} {A N : Nat} (hA : RT A) (hN : (I A 1).toInt = N) (hN9 : N ≤ 144) (hk : K (some (.int (suF (I (A + 12)) N))) (n, SH1, I, J)) : t_X7_coveredCells [.ref A] (n, SH1, I, J) K := by
  refine q_body (Nat.le_of_ble_eq_true rfl) ?_
  refine q_ic rfl ?_
  refine q_ist rfl rfl ?_
  show dw_ok (pr_X7_coveredCells K) 2 0 0 [some (.ref A), some (.int (0 : Int32)), none] [] (n, SH1, I, J)
  refine q_ic rfl ?_
  refine q_ist rfl rfl ?_
  show dw_ok (pr_X7_coveredCells K) 4 0 0 [some (.ref A), some (.int (0 : Int32)), some (.int (0 : Int32))] [] (n, SH1, I, J)
  exact csum_loop hA hN hN9 hk N 0 0 0 (by omega) rfl rfl
set_option maxRecDepth 8000 in
theorem ul_loop {n : Nat} {I : Nat → Nat → Int32} {J : Nat → Nat → Int64} {K : dw_K} {A N : Nat} (hA : RT A) (hN : (I A 1).toInt = N) (hN9 : N ≤ 144) {B : Nat} (hB : RT B) (hNB : (I B 1).toInt = N) (hk1 : (∃ c, c < N ∧ I (A + 14) c ≠ I (B + 14) c) → K (some (.int 1)) (n, SH1, I, J)) (hk0 : (∀ c, c < N → I (A + 14) c = I (B + 14) c) → K (some (.int 0)) (n, SH1, I, J)) : ∀ (f k : Nat) (c : Int32), k + f = N → c.toInt = k → (∀ j, j < k → I (A + 14) j = I (B + 14) j) → dw_ok (pr_X7_isUnlike K) 2 0 0 [some (.ref A), some (.ref B), some (.int c)] [] (n, SH1, I, J) := by
  have hA0 := hA
  obtain ⟨kA, ⟨rA7, rA8, rA9, rA10, rA11, rA12, rA13, rA14⟩, ⟨kA8, kA9, kA10, kA11, kA12, kA13, kA14⟩, ⟨nA8, nA9, nA10, nA11, nA12, nA13, nA14⟩, hNT⟩ := hA
  have c1 : (1 : Int32).toInt = 1 := rfl
  have c144 : (144 : Int32).toInt = 144 := rfl
  intro f
  induction f with
  | zero =>
    intro k c  hf hc hv
    refine q_ild rfl rfl ?_
    refine q_ald rfl rfl ?_
    refine q_geti rfl kA ?_
    refine q_icmp (c := 3) rfl (by decide) (fun y1 => ?_) (fun h => absurd (show (c).toInt < ((I A 1)).toInt from h) (by omega))
    have y1 : ((I A 1)).toInt ≤ (c).toInt := y1
    refine q_ic rfl ?_
    exact q_zret rfl (Or.inl rfl) (hk0 (fun j hj => hv j (by omega)))
  | succ f ih =>
    intro k c  hf hc hv
    have hcn : c.toInt.toNat = k := by omega
    have ec : (c + 1).toInt = ((k + 1 : Nat) : Int) := by rw [i_add (by omega) (by omega), c1, hc]; omega
    refine q_ild rfl rfl ?_
    refine q_ald rfl rfl ?_
    refine q_geti rfl kA ?_
    refine q_icmp (c := 3) rfl (by decide) (fun h => absurd (show ((I A 1)).toInt ≤ (c).toInt from h) (by omega)) (fun y2 => ?_)
    have y2 : (c).toInt < ((I A 1)).toInt := y2
    refine q_ild rfl rfl ?_
    refine q_ic rfl ?_
    refine q_icmp (c := 3) rfl (by decide) (fun h => absurd (show (144 : Int) ≤ (c).toInt from h) (by omega)) (fun y3 => ?_)
    have y3 : (c).toInt < (144 : Int) := y3
    refine q_ald rfl rfl ?_
    refine q_getr rfl kA rA14 ?_
    refine q_ild rfl rfl ?_
    refine q_xald rfl (Or.inl rfl) kA14 nA14 (by omega) (by omega) ?_
    show dw_ok (pr_X7_isUnlike K) 23 0 0 [some (.ref A), some (.ref B), some (.int c)] [.int (I (A + 14) (c).toInt.toNat)] (n, SH1, I, J)
    rw [hcn]
    refine q_ald rfl rfl ?_
    refine q_ild rfl rfl ?_
    refine q_callV (as := [.int c]) (rest := [.int (I (A + 14) k)]) rfl rfl hB.1 rfl (Nat.le_of_ble_eq_true rfl) ?_
    refine v_waterOf (k := k) hB hc hNB hN9 (by omega) ?_
    show dw_ok (pr_X7_isUnlike K) 28 0 0 [some (.ref A), some (.ref B), some (.int c)] [.int (I (B + 14) k), .int (I (A + 14) k)] (n, SH1, I, J)
    refine q_icmp (c := 0) rfl (by decide) (fun y4 => ?_) (fun y4 => ?_)
    · have y4 : ((I (A + 14) k)).toInt = ((I (B + 14) k)).toInt := y4
      refine q_inc rfl rfl rfl ?_
      show dw_ok (pr_X7_isUnlike K) 36 0 0 [some (.ref A), some (.ref B), some (.int (c + 1))] [] (n, SH1, I, J)
      refine q_goto rfl ?_
      exact ih (k + 1) (c + 1) (by omega) ec (fun j hj => by
        by_cases e : j = k
        · rw [e]; exact i_eq (by omega)
        · exact hv j (by omega))
    · have y4 : ((I (A + 14) k)).toInt ≠ ((I (B + 14) k)).toInt := y4
      refine q_ic rfl ?_
      exact q_zret rfl (Or.inr rfl) (hk1 ⟨k, by omega, fun e => by rw [e] at y4; exact absurd rfl y4⟩)
set_option maxRecDepth 8000 in
theorem v_isUnlike {n : Nat} {I : Nat → Nat → Int32} {J : Nat → Nat → Int64} {K : dw_K} {A N : Nat} (hA : RT A) (hN : (I A 1).toInt = N) (hN9 : N ≤ 144) {B : Nat} (hB : RT B) (hNB : (I B 1).toInt = N) (hk1 : (∃ c, c < N ∧ I (A + 14) c ≠ I (B + 14) c) → K (some (.int 1)) (n, SH1, I, J)) (hk0 : (∀ c, c < N → I (A + 14) c = I (B + 14) c) → K (some (.int 0)) (n, SH1, I, J)) : t_X7_isUnlike [.ref A, .ref B] (n, SH1, I, J) K := by
  refine q_body (Nat.le_of_ble_eq_true rfl) ?_
  refine q_ic rfl ?_
  refine q_ist rfl rfl ?_
  show dw_ok (pr_X7_isUnlike K) 2 0 0 [some (.ref A), some (.ref B), some (.int (0 : Int32))] [] (n, SH1, I, J)
  exact ul_loop hA hN hN9 hB hNB hk1 hk0 N 0 0 (by omega) rfl (fun j hj => absurd hj (Nat.not_lt_zero j))
set_option maxRecDepth 8000 in
theorem v_wipe {n : Nat} {I : Nat → Nat → Int32} {J : Nat → Nat → Int64} {K : dw_K} {A N k : Nat} {c : Int32} (hA : RT A) (hc : c.toInt = k) (hN : (I A 1).toInt = N) (hN9 : N ≤ 144) (h1 : k < N) (hk : K (some (.int (I (A + 14) k))) (n, SH1, dw_up I (A + 14) k 0, J)) : t_X7_wipe [.ref A, .int c] (n, SH1, I, J) K := by
  have hA0 := hA
  obtain ⟨kA, ⟨rA7, rA8, rA9, rA10, rA11, rA12, rA13, rA14⟩, ⟨kA8, kA9, kA10, kA11, kA12, kA13, kA14⟩, ⟨nA8, nA9, nA10, nA11, nA12, nA13, nA14⟩, hNT⟩ := id hA
  have hcn : c.toInt.toNat = k := by omega
  refine q_body (Nat.le_of_ble_eq_true rfl) ?_
  refine q_ald rfl rfl ?_
  refine q_ild rfl rfl ?_
  refine q_callV (as := [.int c]) (rest := []) rfl rfl kA rfl (Nat.le_of_ble_eq_true rfl) ?_
  refine v_waterOf (k := k) hA0 hc hN hN9 h1 ?_
  show dw_ok (pr_X7_wipe K) 5 0 0 [some (.ref A), some (.int c), none] [.int (I (A + 14) k)] (n, SH1, I, J)
  refine q_ist rfl rfl ?_
  show dw_ok (pr_X7_wipe K) 6 0 0 [some (.ref A), some (.int c), some (.int (I (A + 14) k))] [] (n, SH1, I, J)
  refine q_ald rfl rfl ?_
  refine q_ild rfl rfl ?_
  refine q_callV (as := [.int c]) (rest := []) rfl rfl kA rfl (Nat.le_of_ble_eq_true rfl) ?_
  refine v_has hA0 hc hN hN9 h1 ?_
  show dw_ok (pr_X7_wipe K) 11 0 0 [some (.ref A), some (.int c), some (.int (I (A + 14) k))] [.int (1 : Int32)] (n, SH1, I, J)
  refine q_if (c := 0) rfl (by decide) (fun h => absurd (show (1 : Int) = 0 from h) (by decide)) (fun y1 => ?_)
  have y1 : (1 : Int) ≠ 0 := y1
  refine q_ald rfl rfl ?_
  refine q_getr rfl kA rA14 ?_
  refine q_ild rfl rfl ?_
  refine q_ic rfl ?_
  refine q_iast rfl kA14 nA14 (by omega) (by omega) ?_
  show dw_ok (pr_X7_wipe K) 21 0 0 [some (.ref A), some (.int c), some (.int (I (A + 14) k))] [] (n, SH1, (dw_up I (A + 14) (c).toInt.toNat (0 : Int32)), J)
  rw [hcn]
  refine q_ild rfl rfl ?_
  exact q_iret rfl hk
set_option maxRecDepth 8000 in
theorem v_cover {n : Nat} {I : Nat → Nat → Int32} {J : Nat → Nat → Int64} {K : dw_K} {A N k : Nat} {c : Int32} (hA : RT A) (hc : c.toInt = k) (hN : (I A 1).toInt = N) (hN9 : N ≤ 144) (h1 : k < N) (hk0 : (I (A + 12) k).toInt = 1 → K (some (.int 0)) (n, SH1, I, J)) (hk1 : (I (A + 12) k).toInt ≠ 1 → K (some (.int 1)) (n, SH1, dw_up (dw_up I (A + 12) k 1) (A + 11) k 0, J)) : t_X7_cover [.ref A, .int c] (n, SH1, I, J) K := by
  have hA0 := hA
  obtain ⟨kA, ⟨rA7, rA8, rA9, rA10, rA11, rA12, rA13, rA14⟩, ⟨kA8, kA9, kA10, kA11, kA12, kA13, kA14⟩, ⟨nA8, nA9, nA10, nA11, nA12, nA13, nA14⟩, hNT⟩ := id hA
  have hcn : c.toInt.toNat = k := by omega
  refine q_body (Nat.le_of_ble_eq_true rfl) ?_
  refine q_ald rfl rfl ?_
  refine q_ild rfl rfl ?_
  refine q_callV (as := [.int c]) (rest := []) rfl rfl kA rfl (Nat.le_of_ble_eq_true rfl) ?_
  refine v_has hA0 hc hN hN9 h1 ?_
  show dw_ok (pr_X7_cover K) 5 0 0 [some (.ref A), some (.int c)] [.int (1 : Int32)] (n, SH1, I, J)
  refine q_if (c := 0) rfl (by decide) (fun h => absurd (show (1 : Int) = 0 from h) (by decide)) (fun y1 => ?_)
  have y1 : (1 : Int) ≠ 0 := y1
  refine q_ald rfl rfl ?_
  refine q_getr rfl kA rA12 ?_
  refine q_ild rfl rfl ?_
  refine q_xald rfl (Or.inl rfl) kA12 nA12 (by omega) (by omega) ?_
  show dw_ok (pr_X7_cover K) 14 0 0 [some (.ref A), some (.int c)] [.int (I (A + 12) (c).toInt.toNat)] (n, SH1, I, J)
  rw [hcn]
  refine q_ic rfl ?_
  refine q_icmp (c := 1) rfl (by decide) (fun y2 => ?_) (fun y2 => ?_)
  · have y2 : ((I (A + 12) k)).toInt ≠ (1 : Int) := y2
    refine q_ald rfl rfl ?_
    refine q_getr rfl kA rA12 ?_
    refine q_ild rfl rfl ?_
    refine q_ic rfl ?_
    refine q_iast rfl kA12 nA12 (by omega) (by omega) ?_
    show dw_ok (pr_X7_cover K) 27 0 0 [some (.ref A), some (.int c)] [] (n, SH1, (dw_up I (A + 12) (c).toInt.toNat (1 : Int32)), J)
    rw [hcn]
    refine q_ald rfl rfl ?_
    refine q_getr rfl kA rA11 ?_
    refine q_ild rfl rfl ?_
    refine q_ic rfl ?_
    refine q_iast rfl kA11 nA11 (by omega) (by omega) ?_
    show dw_ok (pr_X7_cover K) 34 0 0 [some (.ref A), some (.int c)] [] (n, SH1, (dw_up (dw_up I (A + 12) k (1 : Int32)) (A + 11) (c).toInt.toNat (0 : Int32)), J)
    rw [hcn]
    refine q_ic rfl ?_
    exact q_zret rfl (Or.inr rfl) (hk1 y2)
  · have y2 : ((I (A + 12) k)).toInt = (1 : Int) := y2
    refine q_ic rfl ?_
    exact q_zret rfl (Or.inl rfl) (hk0 y2)
set_option maxRecDepth 8000 in
theorem v_bare {n : Nat} {I : Nat → Nat → Int32} {J : Nat → Nat → Int64} {K : dw_K} {A N k : Nat} {c : Int32} (hA : RT A) (hc : c.toInt = k) (hN : (I A 1).toInt = N) (hN9 : N ≤ 144) (h1 : k < N) {sky : Int32} (hk0 : (I (A + 12) k).toInt = 0 → K (some (.int 0)) (n, SH1, I, J)) (hk1 : (I (A + 12) k).toInt ≠ 0 → K (some (.int 1)) (n, SH1, dw_up (dw_up I (A + 12) k 0) (A + 11) k sky, J)) : t_X7_bare [.ref A, .int c, .int sky] (n, SH1, I, J) K := by
  have hA0 := hA
  obtain ⟨kA, ⟨rA7, rA8, rA9, rA10, rA11, rA12, rA13, rA14⟩, ⟨kA8, kA9, kA10, kA11, kA12, kA13, kA14⟩, ⟨nA8, nA9, nA10, nA11, nA12, nA13, nA14⟩, hNT⟩ := id hA
  have hcn : c.toInt.toNat = k := by omega
  refine q_body (Nat.le_of_ble_eq_true rfl) ?_
  refine q_ald rfl rfl ?_
  refine q_ild rfl rfl ?_
  refine q_callV (as := [.int c]) (rest := []) rfl rfl kA rfl (Nat.le_of_ble_eq_true rfl) ?_
  refine v_has hA0 hc hN hN9 h1 ?_
  show dw_ok (pr_X7_bare K) 5 0 0 [some (.ref A), some (.int c), some (.int sky)] [.int (1 : Int32)] (n, SH1, I, J)
  refine q_if (c := 0) rfl (by decide) (fun h => absurd (show (1 : Int) = 0 from h) (by decide)) (fun y1 => ?_)
  have y1 : (1 : Int) ≠ 0 := y1
  refine q_ald rfl rfl ?_
  refine q_getr rfl kA rA12 ?_
  refine q_ild rfl rfl ?_
  refine q_xald rfl (Or.inl rfl) kA12 nA12 (by omega) (by omega) ?_
  show dw_ok (pr_X7_bare K) 14 0 0 [some (.ref A), some (.int c), some (.int sky)] [.int (I (A + 12) (c).toInt.toNat)] (n, SH1, I, J)
  rw [hcn]
  refine q_if (c := 1) rfl (by decide) (fun y2 => ?_) (fun y2 => ?_)
  · have y2 : ((I (A + 12) k)).toInt ≠ 0 := y2
    refine q_ald rfl rfl ?_
    refine q_getr rfl kA rA12 ?_
    refine q_ild rfl rfl ?_
    refine q_ic rfl ?_
    refine q_iast rfl kA12 nA12 (by omega) (by omega) ?_
    show dw_ok (pr_X7_bare K) 26 0 0 [some (.ref A), some (.int c), some (.int sky)] [] (n, SH1, (dw_up I (A + 12) (c).toInt.toNat (0 : Int32)), J)
    rw [hcn]
    refine q_ald rfl rfl ?_
    refine q_getr rfl kA rA11 ?_
    refine q_ild rfl rfl ?_
    refine q_ild rfl rfl ?_
    refine q_iast rfl kA11 nA11 (by omega) (by omega) ?_
    show dw_ok (pr_X7_bare K) 33 0 0 [some (.ref A), some (.int c), some (.int sky)] [] (n, SH1, (dw_up (dw_up I (A + 12) k (0 : Int32)) (A + 11) (c).toInt.toNat sky), J)
    rw [hcn]
    refine q_ic rfl ?_
    exact q_zret rfl (Or.inr rfl) (hk1 y2)
  · have y2 : ((I (A + 12) k)).toInt = 0 := y2
    refine q_ic rfl ?_
    exact q_zret rfl (Or.inl rfl) (hk0 y2)
set_option maxRecDepth 8000 in
theorem v_goBy {n : Nat} {I : Nat → Nat → Int32} {J : Nat → Nat → Int64} {K : dw_K} {A N st d m : Nat} {s : Int32} (hA : RT A) (hN : (I A 1).toInt = N) (hN9 : N ≤ 144) (hst : (I A 5).toInt = st) (hh : ∀ c, c < N → 1 ≤ (I (A + 8) c).toInt ∧ (I (A + 8) c).toInt ≤ 1000) (hd : (I A 2).toInt = d) (hd9 : d ≤ 144) (hm : s.toInt = m) (hm9 : m ≤ 144) (hk0 : 144 < d + m → K (some (.int 0)) (n, SH1, I, J)) (hk1 : d + m ≤ 144 → ∀ I' : Nat → Nat → Int32, (∀ a, a ≠ A → a ≠ A + 13 → a ≠ A + 14 → I' a = I a) → (∀ j, j ≠ 2 → j ≠ 3 → j ≠ 4 → I' A j = I A j) → (I' A 2).toInt = ((d + m) : Nat) → srC I' A = ruF st N (fun _ => cfC I A) (tnC I A) d ((d + m) - d) (srC I A) → K (some (.int 1)) (n, SH1, I', J)) : t_X7_goBy [.ref A, .int s] (n, SH1, I, J) K := by
  have c144 : (144 : Int32).toInt = 144 := rfl
  have e1 : (144 - I A 2).toInt = 144 - d := by rw [i_sub (by omega) (by omega), c144, hd]
  refine q_body (Nat.le_of_ble_eq_true rfl) ?_
  refine q_ild rfl rfl ?_
  refine q_ic rfl ?_
  refine q_ald rfl rfl ?_
  refine q_geti rfl hA.1 ?_
  refine q_sub rfl ?_
  refine q_icmp (c := 5) rfl (by decide) (fun y1 => ?_) (fun y1 => ?_)
  · have y1 : (s).toInt ≤ (((144 : Int32) - (I A 2))).toInt := y1
    refine q_ald rfl rfl ?_
    refine q_ald rfl rfl ?_
    refine q_geti rfl hA.1 ?_
    refine q_ild rfl rfl ?_
    refine q_add rfl ?_
    refine q_callV (as := [.int ((I A 2) + s)]) (rest := []) rfl rfl hA.1 rfl (Nat.le_of_ble_eq_true rfl) ?_
    refine v_until (st := st) (N := N) (d := d) (e := d + m) hA hN hN9 hst hh hd (by omega) (by omega) (Or.inl (by rw [i_add (by omega) (by omega), hd, hm]; omega)) (fun I' g1 g2 g3 g4 => ?_)
    show dw_ok (pr_X7_goBy K) 24 0 0 [some (.ref A), some (.int s)] [] (n, SH1, I', J)
    refine q_ic rfl ?_
    exact q_zret rfl (Or.inr rfl) (hk1 (by omega) I' g1 g2 g3 g4)
  · have y1 : (((144 : Int32) - (I A 2))).toInt < (s).toInt := y1
    refine q_ic rfl ?_
    exact q_zret rfl (Or.inl rfl) (hk0 (by omega))
set_option maxRecDepth 8000 in
set_option maxHeartbeats 2000000 in
theorem sd_loop {n : Nat} {J : Nat → Nat → Int64} {K : dw_K} {A N st k : Nat} {c : Int32} {I0 : Nat → Nat → Int32} (hA : RT A) (hc : c.toInt = k) (hN : (I0 A 1).toInt = N) (hN9 : N ≤ 144) (hkN : k < N) (hst : (I0 A 5).toInt = st) (hh : ∀ c, c < N → 1 ≤ (I0 (A + 8) c).toInt ∧ (I0 (A + 8) c).toInt ≤ 1000)
    (hk0 : (∃ t, t < 72 ∧ 0 < ((ruF st N (fun _ => cfC I0 A) (tnC I0 A) 0 (t + 1) (srC I0 A)).2.1 k).toInt) → ∀ I' : Nat → Nat → Int32, (∀ a, a ≠ A → a ≠ A + 13 → a ≠ A + 14 → I' a = I0 a) → K (some (.int 0)) (n, SH1, I', J))
    (hk1 : (∀ t, t < 72 → ¬ 0 < ((ruF st N (fun _ => cfC I0 A) (tnC I0 A) 0 (t + 1) (srC I0 A)).2.1 k).toInt) → ∀ I' : Nat → Nat → Int32, (∀ a, a ≠ A → a ≠ A + 13 → a ≠ A + 14 → I' a = I0 a) → K (some (.int 1)) (n, SH1, I', J)) :
    ∀ (f i : Nat) (x : Int32) (I : Nat → Nat → Int32), i + f = 72 → x.toInt = i → (∀ a, a ≠ A → a ≠ A + 13 → a ≠ A + 14 → I a = I0 a) → (∀ j, j ≠ 2 → j ≠ 3 → j ≠ 4 → I A j = I0 A j) → (I A 2).toInt = i → srC I A = ruF st N (fun _ => cfC I0 A) (tnC I0 A) 0 i (srC I0 A) → (∀ t, t < i → ¬ 0 < ((ruF st N (fun _ => cfC I0 A) (tnC I0 A) 0 (t + 1) (srC I0 A)).2.1 k).toInt) → dw_ok (pr_X7_staysDry K) 2 0 0 [some (.ref A), some (.int c), some (.int x)] [] (n, SH1, I, J) := by
  have c72 : (72 : Int32).toInt = 72 := rfl
  have c1 : (1 : Int32).toInt = 1 := rfl
  have hA0 := hA
  intro f
  induction f with
  | zero =>
    intro i x I hi hx hF1 hF2 h2 hS hd
    refine q_ild rfl rfl ?_
    refine q_ic rfl ?_
    refine q_icmp (c := 3) rfl (by decide) (fun _ => ?_) (fun h => absurd (show x.toInt < (72 : Int32).toInt from h) (by omega))
    refine q_ic rfl ?_
    exact q_zret rfl (Or.inr rfl) (hk1 (fun t ht => hd t (by omega)) I hF1)
  | succ f ih =>
    intro i x I hi hx hF1 hF2 h2 hS hd
    refine q_ild rfl rfl ?_
    refine q_ic rfl ?_
    refine q_icmp (c := 3) rfl (by decide) (fun h => absurd (show (72 : Int32).toInt ≤ x.toInt from h) (by omega)) (fun _ => ?_)
    refine q_ald rfl rfl ?_
    refine q_callV (as := []) (rest := []) rfl rfl hA.1 rfl (Nat.le_of_ble_eq_true rfl) ?_
    refine v_step (st := st) (N := N) hA0 (by rw [hF2 1 (by decide) (by decide) (by decide)]; exact hN) hN9 (by rw [hF2 5 (by decide) (by decide) (by decide)]; exact hst) (by rw [hF1 (A + 8) (by omega) (by omega) (by omega)]; exact hh) (by omega) (by omega) (fun I' g1 g2 g3 g4 => ?_)
    show dw_ok (pr_X7_staysDry K) 12 0 0 [some (.ref A), some (.int c), some (.int x)] [] (n, SH1, I', J)
    have f1 : ∀ a, a ≠ A → a ≠ A + 13 → a ≠ A + 14 → I' a = I0 a := fun a q1 q2 q3 => (g1 a q1 q2 q3).trans (hF1 a q1 q2 q3)
    have f2 : ∀ j, j ≠ 2 → j ≠ 3 → j ≠ 4 → I' A j = I0 A j := fun j q1 q2 q3 => (g2 j q1 q2 q3).trans (hF2 j q1 q2 q3)
    have hS' : srC I' A = ruF st N (fun _ => cfC I0 A) (tnC I0 A) 0 (i + 1) (srC I0 A) := by
      rw [g4, cf_eq hF1, tn_eq hF1 (hF2 6 (by decide) (by decide) (by decide)), show (I A 2).toInt.toNat = 0 + i by omega, hS]
      rfl
    have hw : I' (A + 14) k = (ruF st N (fun _ => cfC I0 A) (tnC I0 A) 0 (i + 1) (srC I0 A)).2.1 k := congrFun (congrArg (·.2.1) hS') k
    refine q_ald rfl rfl ?_
    refine q_ild rfl rfl ?_
    refine q_callV (as := [.int c]) (rest := []) rfl rfl hA.1 rfl (Nat.le_of_ble_eq_true rfl) ?_
    refine v_waterOf (k := k) hA0 hc (by rw [f2 1 (by decide) (by decide) (by decide)]; exact hN) hN9 hkN ?_
    show dw_ok (pr_X7_staysDry K) 17 0 0 [some (.ref A), some (.int c), some (.int x)] [.int (I' (A + 14) k)] (n, SH1, I', J)
    rw [hw]
    refine q_if (c := 5) rfl (by decide) (fun h => ?_) (fun h => ?_)
    · have h : ((ruF st N (fun _ => cfC I0 A) (tnC I0 A) 0 (i + 1) (srC I0 A)).2.1 k).toInt ≤ 0 := h
      refine q_inc rfl rfl rfl ?_
      refine q_goto rfl ?_
      refine ih (i + 1) (x + 1) I' (by omega) (by rw [i_add (by omega) (by omega), c1, hx]; omega) f1 f2 (by rw [g3, i_add (by omega) (by omega), c1, h2]; omega) hS' (fun t ht => ?_)
      by_cases e : t = i
      · rw [e]; omega
      · exact hd t (by omega)
    · have h : 0 < ((ruF st N (fun _ => cfC I0 A) (tnC I0 A) 0 (i + 1) (srC I0 A)).2.1 k).toInt := h
      refine q_ic rfl ?_
      exact q_zret rfl (Or.inl rfl) (hk0 ⟨i, by omega, h⟩ I' f1)
set_option maxRecDepth 8000 in
theorem v_staysDry {n : Nat} {J : Nat → Nat → Int64} {K : dw_K} {A N st k : Nat} {c : Int32} {I0 : Nat → Nat → Int32} (hA : RT A) (hc : c.toInt = k) (hN : (I0 A 1).toInt = N) (hN9 : N ≤ 144) (hkN : k < N) (hst : (I0 A 5).toInt = st) (h2 : (I0 A 2).toInt = 0) (hh : ∀ c, c < N → 1 ≤ (I0 (A + 8) c).toInt ∧ (I0 (A + 8) c).toInt ≤ 1000)
    (hk0 : (∃ t, t < 72 ∧ 0 < ((ruF st N (fun _ => cfC I0 A) (tnC I0 A) 0 (t + 1) (srC I0 A)).2.1 k).toInt) → ∀ I' : Nat → Nat → Int32, (∀ a, a ≠ A → a ≠ A + 13 → a ≠ A + 14 → I' a = I0 a) → K (some (.int 0)) (n, SH1, I', J))
    (hk1 : (∀ t, t < 72 → ¬ 0 < ((ruF st N (fun _ => cfC I0 A) (tnC I0 A) 0 (t + 1) (srC I0 A)).2.1 k).toInt) → ∀ I' : Nat → Nat → Int32, (∀ a, a ≠ A → a ≠ A + 13 → a ≠ A + 14 → I' a = I0 a) → K (some (.int 1)) (n, SH1, I', J)) : t_X7_staysDry [.ref A, .int c] (n, SH1, I0, J) K := by
  refine q_body (Nat.le_of_ble_eq_true rfl) ?_
  refine q_ic rfl ?_
  refine q_ist rfl rfl ?_
  exact sd_loop hA hc hN hN9 hkN hst hh hk0 hk1 72 0 0 I0 rfl rfl (fun _ _ _ _ => rfl) (fun _ _ _ _ => rfl) h2 rfl (fun t ht => absurd ht (Nat.not_lt_zero t))
