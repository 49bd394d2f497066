/-! ===== NIGHTS copied; night() of the class ===== -/
/-- a NIGHT lies at A -/
def NT (A : Nat) : Prop := (SH1 A).1 = 2 ∧ (SH1 A).2.2 1 = some (A + 1) ∧ (SH1 (A + 1)).1 = 20 ∧ (SH1 (A + 1)).2.1 = 5 ∧ ∀ w, w < 5 → (SH1 (A + 1)).2.2 w = some (A + 2 + w) ∧ (SH1 (A + 2 + w)).1 = 16 ∧ (SH1 (A + 2 + w)).2.1 = 144
def nt_list : List Nat := [44, 58, 65, 72, 79, 86, 93, 124]
set_option maxRecDepth 8000 in
theorem nt_dec : (nt_list.all (fun A => decide ((dx_ce A).k = 2) && decide (((dx_ce A).rf[1]?).join = some (A + 1)) && decide ((dx_ce (A + 1)).k = 20) && decide ((dx_ce (A + 1)).n = 5) && (List.range 5).all (fun w => decide (((dx_ce (A + 1)).rf[w]?).join = some (A + 2 + w)) && decide ((dx_ce (A + 2 + w)).k = 16) && decide ((dx_ce (A + 2 + w)).n = 144)))) = true := by decide +kernel
set_option maxRecDepth 8000 in
theorem nt_ok {A : Nat} (h : A ∈ nt_list) : NT A := by
  have h1 := List.all_eq_true.mp nt_dec A h
  simp only [Bool.and_eq_true, decide_eq_true_eq] at h1
  obtain ⟨⟨⟨⟨a1, a2⟩, a3⟩, a4⟩, a5⟩ := h1
  refine ⟨(shE A).1.trans a1, ((shE A).2.2 1).trans a2, (shE (A + 1)).1.trans a3, (shE (A + 1)).2.1.trans a4, fun w hw => ?_⟩
  have h2 := List.all_eq_true.mp a5 w (List.mem_range.mpr hw)
  simp only [Bool.and_eq_true, decide_eq_true_eq] at h2
  obtain ⟨⟨b1, b2⟩, b3⟩ := h2
  exact ⟨((shE (A + 1)).2.2 w).trans b1, (shE (A + 2 + w)).1.trans b2, (shE (A + 2 + w)).2.1.trans b3⟩
section
variable {pr : Nat → dw_Op} {pc bc bs nx : Nat} {ls : dw_L} {st : List Value} {μ : dw_S}
set_option maxRecDepth 8000 in
theorem q_copy {sr d n sn dn : Nat} {nn : Int32} (ho : pr pc = o_copy nx) (k1 : (μ.2.1 sr).1 = 16) (k2 : (μ.2.1 d).1 = 16) (n1 : (μ.2.1 sr).2.1 = sn) (n2 : (μ.2.1 d).2.1 = dn) (hc : Nat.ble (dw_cats st) 8 = true) (hn : nn.toInt = n) (h1 : n ≤ sn) (h2 : n ≤ dn) (k : dw_ok pr nx bc bs ls st (dw_cp μ sr d 0 0 n)) : dw_ok pr pc bc bs ls (.int nn :: .int 0 :: .ref d :: .int 0 :: .ref sr :: st) μ :=
  dw_ok.step (by
    rw [ho]
    unfold o_copy
    simp only []
    have e0 : Int32.toNatClampNeg 0 = 0 := rfl
    have en : nn.toNatClampNeg = n := by rw [dx_tn]; omega
    rw [if_pos ⟨k1, k2, Nat.le_of_ble_eq_true hc⟩, if_pos ⟨⟨dx_nlt (by decide), dx_nlt (by decide), dx_nlt (by omega)⟩, by rw [e0, en, n1]; omega, by rw [e0, en, n2]; omega⟩, e0, en]
    exact k)
end
set_option maxRecDepth 8000 in
theorem nc_loop {n : Nat} {J : Nat → Nat → Int64} {K : dw_K} {bc bs A B : Nat} {I0 : Nat → Nat → Int32} (hA : NT A) (hB : NT B) (hAB : A + 7 ≤ B ∨ B + 7 ≤ A)
    (hk : ∀ I' : Nat → Nat → Int32, (∀ a, (a < A + 2 ∨ A + 6 < a) → I' a = I0 a) → (∀ w, w < 5 → ∀ t, t < 144 → I' (A + 2 + w) t = I0 (B + 2 + w) t) → K none (n, SH1, I', J)) :
    ∀ (f w : Nat) (x : Int32) (I : Nat → Nat → Int32), w + f = 5 → x.toInt = w → (∀ a, (a < A + 2 ∨ A + 6 < a) → I a = I0 a) → (∀ v, v < w → ∀ t, t < 144 → I (A + 2 + v) t = I0 (B + 2 + v) t) → dw_ok (pr_X2_copyFrom K) 10 bc bs [some (.ref A), some (.ref B), some (.int x)] [] (n, SH1, I, J) := by
  have c5 : (5 : Int32).toInt = 5 := rfl
  have c1 : (1 : Int32).toInt = 1 := rfl
  intro f
  induction f with
  | zero =>
    intro w x I hw hx hr hv
    refine q_ild rfl rfl ?_
    refine q_ic rfl ?_
    refine q_icmp (c := 3) rfl (by decide) (fun _ => ?_) (fun h => absurd (show x.toInt < (5 : Int32).toInt from h) (by omega))
    exact q_vret rfl (hk I hr (fun v hv5 t ht => hv v (by omega) t ht))
  | succ f ih =>
    intro w x I hw hx hr hv
    have hxn : x.toInt.toNat = w := by omega
    obtain ⟨a1, a2, a3⟩ := hA.2.2.2.2 w (by omega)
    obtain ⟨b1, b2, b3⟩ := hB.2.2.2.2 w (by omega)
    refine q_ild rfl rfl ?_
    refine q_ic rfl ?_
    refine q_icmp (c := 3) rfl (by decide) (fun h => absurd (show (5 : Int32).toInt ≤ x.toInt from h) (by omega)) (fun _ => ?_)
    refine q_ald rfl rfl ?_
    refine q_getr rfl hB.1 hB.2.1 ?_
    refine q_ild rfl rfl ?_
    refine q_xaldr rfl hB.2.2.1 hB.2.2.2.1 (by omega) (show x.toInt < (5 : Nat) by omega) (show (SH1 (B + 1)).2.2 x.toInt.toNat = some (B + 2 + w) by rw [hxn]; exact b1) ?_
    refine q_ic rfl ?_
    refine q_ald rfl rfl ?_
    refine q_getr rfl hA.1 hA.2.1 ?_
    refine q_ild rfl rfl ?_
    refine q_xaldr rfl hA.2.2.1 hA.2.2.2.1 (by omega) (show x.toInt < (5 : Nat) by omega) (show (SH1 (A + 1)).2.2 x.toInt.toNat = some (A + 2 + w) by rw [hxn]; exact a1) ?_
    refine q_ic rfl ?_
    refine q_ic rfl ?_
    refine q_copy (n := 144) rfl b2 a2 b3 a3 rfl rfl (Nat.le_refl _) (Nat.le_refl _) ?_
    refine q_inc rfl rfl rfl ?_
    refine q_goto rfl ?_
    refine ih (w + 1) (x + 1) (dw_cp (n, SH1, I, J) (B + 2 + w) (A + 2 + w) 0 0 144).2.2.1 (by omega) (by rw [i_add (by omega) (by omega), c1]; omega) (fun a ha => ?_) (fun v hv5 t ht => ?_)
    · rw [← hr a ha]
      funext j
      show (if a = A + 2 + w then _ else I a j) = I a j
      rw [if_neg (by omega)]
    · show (if A + 2 + v = A + 2 + w then (if 0 ≤ t ∧ t < 0 + 144 then I (B + 2 + w) (0 + (t - 0)) else I (A + 2 + w) t) else I (A + 2 + v) t) = I0 (B + 2 + v) t
      by_cases e : v = w
      · subst e
        rw [if_pos rfl, if_pos (by omega), hr (B + 2 + v) (by omega), Nat.zero_add, Nat.sub_zero]
      · rw [if_neg (by omega)]
        exact hv v (by omega) t ht
set_option maxRecDepth 8000 in
theorem v_ncopy {n : Nat} {I : Nat → Nat → Int32} {J : Nat → Nat → Int64} {K : dw_K} {A B : Nat} (hA : NT A) (hB : NT B) (hAB : A + 7 ≤ B ∨ B + 7 ≤ A) (hz : I B 0 = 0 ∨ I B 0 = 1)
    (hk : ∀ I' : Nat → Nat → Int32, (∀ a, a ≠ A → (a < A + 2 ∨ A + 6 < a) → I' a = I a) → (∀ j, j ≠ 0 → I' A j = I A j) → I' A 0 = I B 0 → (∀ w, w < 5 → ∀ t, t < 144 → I' (A + 2 + w) t = I (B + 2 + w) t) → K none (n, SH1, I', J)) : t_X2_copyFrom [.ref A, .ref B] (n, SH1, I, J) K := by
  refine q_body (Nat.le_of_ble_eq_true rfl) ?_
  refine q_ald rfl rfl ?_
  refine q_ald rfl rfl ?_
  refine q_getz rfl hB.1 ?_
  refine q_putz rfl hA.1 hz ?_
  refine q_ic rfl ?_
  refine q_ist rfl rfl ?_
  refine nc_loop (I0 := dw_up I A 0 (I B 0)) hA hB hAB (fun I' hr hv => ?_) 5 0 0 (dw_up I A 0 (I B 0)) rfl rfl (fun _ _ => rfl) (fun v hv => absurd hv (Nat.not_lt_zero v))
  refine hk I' (fun a h1 h2 => ?_) (fun j hj => ?_) ?_ (fun w hw t ht => ?_)
  · rw [hr a h2]; exact up_row h1
  · rw [hr A (by omega)]; exact up_fld hj
  · rw [hr A (by omega)]; exact up_same
  · rw [hv w hw t ht, up_row (by omega)]
set_option maxRecDepth 8000 in
theorem no_ref {s : Nat} (hs : s < 6) : (SH1 10).2.2 s = some (58 + 7 * s) ∧ NT (58 + 7 * s) := by
  match s, hs with
  | 0, _ => exact ⟨sr_10_0, nt_ok (by decide)⟩
  | 1, _ => exact ⟨sr_10_1, nt_ok (by decide)⟩
  | 2, _ => exact ⟨sr_10_2, nt_ok (by decide)⟩
  | 3, _ => exact ⟨sr_10_3, nt_ok (by decide)⟩
  | 4, _ => exact ⟨sr_10_4, nt_ok (by decide)⟩
  | 5, _ => exact ⟨sr_10_5, nt_ok (by decide)⟩
  | k + 6, h => exact absurd h (by omega)
set_option maxRecDepth 8000 in
theorem v_nightOf {n : Nat} {I : Nat → Nat → Int32} {J : Nat → Nat → Int64} {K : dw_K} {x : Int32} (h1 : ∀ s : Nat, s < 6 → x.toInt = s → K (some (.ref (58 + 7 * s))) (n, SH1, I, J)) (h2 : ¬ (0 ≤ x.toInt ∧ x.toInt ≤ 5) → K (some .null) (n, SH1, I, J)) : t_X8_nightOf [.ref 3, .int x] (n, SH1, I, J) K := by
  have c6 : (6 : Int32).toInt = 6 := rfl
  refine q_body (Nat.le_of_ble_eq_true rfl) ?_
  refine q_ild rfl rfl ?_
  refine q_if (c := 2) rfl (by decide) (fun h => ?_) (fun h => ?_)
  · have h : x.toInt < 0 := h
    refine q_nul rfl ?_
    exact q_aretn rfl (h2 (by omega))
  have h : 0 ≤ x.toInt := h
  refine q_ild rfl rfl ?_
  refine q_ic rfl ?_
  refine q_icmp (c := 3) rfl (by decide) (fun g => ?_) (fun g => ?_)
  · have g : (6 : Int32).toInt ≤ x.toInt := g
    refine q_nul rfl ?_
    exact q_aretn rfl (h2 (by omega))
  have g : x.toInt < (6 : Int32).toInt := g
  obtain ⟨s, hs⟩ : ∃ s : Nat, x.toInt.toNat = s := ⟨_, rfl⟩
  refine q_ald rfl rfl ?_
  refine q_getr rfl sk_3 sr_3_2 ?_
  refine q_ild rfl rfl ?_
  refine q_xaldr rfl sk_10 sn_10 h (show x.toInt < (6 : Nat) by omega) (show (SH1 10).2.2 x.toInt.toNat = some (58 + 7 * s) by rw [hs]; exact (no_ref (by omega)).1) ?_
  refine q_goto rfl ?_
  exact q_aret rfl (h1 s (by omega) (by omega))
set_option maxRecDepth 8000 in
theorem v_cnight {n : Nat} {I : Nat → Nat → Int32} {J : Nat → Nat → Int64} {K : dw_K} {x : Int32} {N : Nat} {G : Nat × Nat × Nat × List fL} (hN : (I 1 1).toInt = N) (hN9 : N ≤ 940) (hG : ngF (tbC I) N 400 25 0 0 0 [] = G)
    (h0 : ¬ (0 ≤ x.toInt ∧ x.toInt ≤ 5) → ∀ I' : Nat → Nat → Int32, (∀ a, a ≠ 1 → I' a = I a) → I' 1 1 = 0 → K (some (.int (-1001))) (n, SH1, I', J))
    (h1 : ∀ s : Nat, s < 6 → x.toInt = s → G.1 = 0 → ∀ (I' : Nat → Nat → Int32) (w : Int32), (∀ a, a ≠ 1 → (a < 123 ∨ 130 < a) → a ≠ 58 + 7 * s → (a < 60 + 7 * s ∨ 64 + 7 * s < a) → I' a = I a) → I' 1 1 = 0 → (∀ j, j ≠ 0 → I' (58 + 7 * s) j = I (58 + 7 * s) j) → (I' (58 + 7 * s) 0).toInt = 1 → (∀ w, w < 5 → ∀ t, t < 144 → I' (60 + 7 * s + w) t = ndF (uaF G.2.2.2) w t) → w.toInt = G.2.2.1 → K (some (.int w)) (n, SH1, I', J))
    (h2 : ∀ s : Nat, s < 6 → x.toInt = s → G.1 ≠ 0 → ∀ (I' : Nat → Nat → Int32) (w : Int32), (∀ a, a ≠ 1 → (a < 123 ∨ 130 < a) → I' a = I a) → I' 1 1 = 0 → w.toInt = -1 - G.2.1 → K (some (.int w)) (n, SH1, I', J))
    (hpl : G.2.1 ≤ 940) : t_X11_night [.ref 0, .int x] (n, SH1, I, J) K := by
  have cm : (-1 : Int32).toInt = -1 := rfl
  refine q_body (Nat.le_of_ble_eq_true rfl) ?_
  refine q_ald rfl rfl ?_
  refine q_getr rfl sk_0 sr_0_1 ?_
  refine q_ild rfl rfl ?_
  refine q_callV (as := [.int x]) (rest := []) rfl rfl sk_3 rfl (Nat.le_of_ble_eq_true rfl) ?_
  refine v_nightOf (fun s hs hx => ?_) (fun hx => ?_)
  · show dw_ok (pr_X11_night K) 8 0 0 [some (.ref 0), some (.int x), none, none] [.ref (58 + 7 * s)] (n, SH1, I, J)
    refine q_ast rfl rfl ?_
    refine q_ald rfl rfl ?_
    refine q_ifnn_r rfl ?_
    refine q_ald rfl rfl ?_
    refine q_getr rfl sk_0 sr_0_4 ?_
    refine q_ald rfl rfl ?_
    refine q_getr rfl sk_0 sr_0_0 ?_
    refine q_callV (as := [.ref 1]) (rest := []) rfl rfl sk_123 rfl (Nat.le_of_ble_eq_true rfl) ?_
    refine v_ntext hN hN9 hG (fun hg I' w hA f0 f1 ht hB hw h24 => ?_) (fun hg I' hA f0 f1 g7 g8 => ?_)
    · show dw_ok (pr_X11_night K) 44 0 0 [some (.ref 0), some (.int x), some (.ref (58 + 7 * s)), none] [.int w] (n, SH1, I', J)
      refine q_ist rfl rfl ?_
      refine q_ald rfl rfl ?_
      refine q_getr rfl sk_0 sr_0_0 ?_
      refine q_ic rfl ?_
      refine q_puti rfl sk_1 ?_
      show dw_ok (pr_X11_night K) 53 0 0 [some (.ref 0), some (.int x), some (.ref (58 + 7 * s)), some (.int w)] [] (n, SH1, dw_up I' 1 1 0, J)
      refine q_ild rfl rfl ?_
      refine q_ic rfl ?_
      refine q_icmp (c := 1) rfl (by decide) (fun _ => ?_) (fun h => absurd (show w.toInt = (-1 : Int32).toInt from h) (by omega))
      refine q_ald rfl rfl ?_
      refine q_ald rfl rfl ?_
      refine q_getr rfl sk_0 sr_0_4 ?_
      refine q_getr rfl sk_123 sr_123_0 ?_
      refine q_callV (as := [.ref 124]) (rest := []) rfl rfl (no_ref hs).2.1 rfl (Nat.le_of_ble_eq_true rfl) ?_
      have ht1 : dw_up I' 1 1 0 124 0 = 1 := i_eq ht
      refine v_ncopy (no_ref hs).2 (nt_ok (by decide)) (by omega) (Or.inr ht1) (fun I2 hA2 hF2 h20 hB2 => ?_)
      show dw_ok (pr_X11_night K) 79 0 0 [some (.ref 0), some (.int x), some (.ref (58 + 7 * s)), some (.int w)] [] (n, SH1, I2, J)
      refine q_ild rfl rfl ?_
      refine q_iret rfl (h1 s hs hx hg I2 w (fun a g1 g2 g3 g4 => ?_) ?_ (fun j hj => ?_) ?_ (fun v hv t htt => ?_) hw)
      · rw [hA2 a g3 (by omega), up_row g1]; exact hA a g1 g2
      · rw [hA2 1 (by omega) (by omega)]; exact up_same
      · rw [hF2 j hj, up_row (by omega), hA (58 + 7 * s) (by omega) (by omega)]
      · rw [h20, ht1]; rfl
      · have e := hB2 v hv t htt
        rw [show 58 + 7 * s + 2 + v = 60 + 7 * s + v by omega] at e
        rw [e, up_row (by omega)]
        exact hB v hv t htt
    · show dw_ok (pr_X11_night K) 44 0 0 [some (.ref 0), some (.int x), some (.ref (58 + 7 * s)), none] [.int (-1)] (n, SH1, I', J)
      refine q_ist rfl rfl ?_
      refine q_ald rfl rfl ?_
      refine q_getr rfl sk_0 sr_0_0 ?_
      refine q_ic rfl ?_
      refine q_puti rfl sk_1 ?_
      show dw_ok (pr_X11_night K) 53 0 0 [some (.ref 0), some (.int x), some (.ref (58 + 7 * s)), some (.int (-1))] [] (n, SH1, dw_up I' 1 1 0, J)
      refine q_ild rfl rfl ?_
      refine q_ic rfl ?_
      refine q_icmp (c := 1) rfl (by decide) (fun h => absurd rfl h) (fun _ => ?_)
      refine q_ic rfl ?_
      refine q_ald rfl rfl ?_
      refine q_getr rfl sk_0 sr_0_0 ?_
      refine q_geti rfl sk_1 ?_
      refine q_sub rfl ?_
      refine q_iret rfl (h2 s hs hx hg (dw_up I' 1 1 0) (-1 - I' 1 8) (fun a g1 g2 => (up_row g1).trans (hA a g1 g2)) up_same ?_)
      rw [i_sub (by omega) (by omega), cm, g8]
  · show dw_ok (pr_X11_night K) 8 0 0 [some (.ref 0), some (.int x), none, none] [.null] (n, SH1, I, J)
    refine q_astn rfl rfl ?_
    refine q_aldn rfl rfl ?_
    refine q_ifnn_n rfl ?_
    refine q_ald rfl rfl ?_
    refine q_getr rfl sk_0 sr_0_0 ?_
    refine q_ic rfl ?_
    refine q_puti rfl sk_1 ?_
    refine q_ald rfl rfl ?_
    refine q_getr rfl sk_0 sr_0_0 ?_
    refine q_ic rfl ?_
    refine q_puti rfl sk_1 ?_
    refine q_ic rfl ?_
    exact q_iret rfl (h0 hx (dw_up (dw_up I 1 1 0) 1 7 0) (fun a ha => (up_row ha).trans (up_row ha)) rfl)
