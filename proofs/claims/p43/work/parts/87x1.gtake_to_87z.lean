section
/-! ===== a GROUND copied, taken; ground() of the class ===== -/
set_option maxRecDepth 8000 in
theorem cp_row {n sr d N a : Nat} {sh : Nat → Nat × Nat × (Nat → Option Nat)} {I : Nat → Nat → Int32} {J : Nat → Nat → Int64} (h : a ≠ d) : (dw_cp (n, sh, I, J) sr d 0 0 N).2.2.1 a = I a := by
  funext j
  show (if a = d then _ else I a j) = I a j
  rw [if_neg h]
set_option maxRecDepth 8000 in
theorem cp_at {n sr d N j : Nat} {sh : Nat → Nat × Nat × (Nat → Option Nat)} {I : Nat → Nat → Int32} {J : Nat → Nat → Int64} (h : j < N) : (dw_cp (n, sh, I, J) sr d 0 0 N).2.2.1 d j = I sr j := by
  show (if d = d then (if 0 ≤ j ∧ j < 0 + N then I sr (0 + (j - 0)) else I d j) else I d j) = I sr j
  rw [if_pos rfl, if_pos (by omega), Nat.zero_add, Nat.sub_zero]
/-- a GROUND lies at A -/
def GT (A : Nat) : Prop := (SH1 A).1 = 0 ∧ ((SH1 A).2.2 5 = some (A + 1) ∧ (SH1 A).2.2 6 = some (A + 2) ∧ (SH1 A).2.2 7 = some (A + 3) ∧ (SH1 A).2.2 8 = some (A + 4) ∧ (SH1 A).2.2 9 = some (A + 5)) ∧ ((SH1 (A + 1)).1 = 16 ∧ (SH1 (A + 2)).1 = 16 ∧ (SH1 (A + 3)).1 = 16 ∧ (SH1 (A + 4)).1 = 16 ∧ (SH1 (A + 5)).1 = 16) ∧ (SH1 (A + 1)).2.1 = 8 ∧ (SH1 (A + 2)).2.1 = 8 ∧ (SH1 (A + 3)).2.1 = 8 ∧ (SH1 (A + 4)).2.1 = 144 ∧ (SH1 (A + 5)).2.1 = 144
set_option maxRecDepth 8000 in
theorem gt_4 : GT 4 := ⟨sk_4, ⟨sr_4_5, sr_4_6, sr_4_7, sr_4_8, sr_4_9⟩, ⟨sk_5, sk_6, sk_7, sk_8, sk_9⟩, sn_5, sn_6, sn_7, sn_8, sn_9⟩
set_option maxRecDepth 8000 in
theorem gt_102 : GT 102 := ⟨sk_102, ⟨sr_102_5, sr_102_6, sr_102_7, sr_102_8, sr_102_9⟩, ⟨sk_103, sk_104, sk_105, sk_106, sk_107⟩, sn_103, sn_104, sn_105, sn_106, sn_107⟩
set_option maxRecDepth 8000 in
theorem gt_211 : GT 211 := ⟨sk_211, ⟨sr_211_5, sr_211_6, sr_211_7, sr_211_8, sr_211_9⟩, ⟨sk_212, sk_213, sk_214, sk_215, sk_216⟩, sn_212, sn_213, sn_214, sn_215, sn_216⟩
set_option maxRecDepth 8000 in
theorem gt_308 : GT 308 := ⟨sk_308, ⟨sr_308_5, sr_308_6, sr_308_7, sr_308_8, sr_308_9⟩, ⟨sk_309, sk_310, sk_311, sk_312, sk_313⟩, sn_309, sn_310, sn_311, sn_312, sn_313⟩
set_option maxRecDepth 8000 in
theorem v_gcopy {n : Nat} {I : Nat → Nat → Int32} {J : Nat → Nat → Int64} {K : dw_K} {A B : Nat} (hA : GT A) (hB : GT B) (hAB : A + 6 ≤ B ∨ B + 6 ≤ A)
    (hk : ∀ I' : Nat → Nat → Int32, (∀ a, (a < A ∨ A + 5 < a) → I' a = I a) → (∀ j, j < 5 → I' A j = I B j) → (∀ j, j < 8 → I' (A + 1) j = I (B + 1) j ∧ I' (A + 2) j = I (B + 2) j ∧ I' (A + 3) j = I (B + 3) j) → (∀ j, j < 144 → I' (A + 4) j = I (B + 4) j ∧ I' (A + 5) j = I (B + 5) j) → K none (n, SH1, I', J)) : t_X0_copyFrom [.ref A, .ref B] (n, SH1, I, J) K := by
  obtain ⟨kA, ⟨rA5, rA6, rA7, rA8, rA9⟩, ⟨kA1, kA2, kA3, kA4, kA5⟩, nA1, nA2, nA3, nA4, nA5⟩ := hA
  obtain ⟨kB, ⟨rB5, rB6, rB7, rB8, rB9⟩, ⟨kB1, kB2, kB3, kB4, kB5⟩, nB1, nB2, nB3, nB4, nB5⟩ := hB
  refine q_body (Nat.le_of_ble_eq_true rfl) ?_
  refine q_ald rfl rfl ?_
  refine q_ald rfl rfl ?_
  refine q_geti rfl kB ?_
  refine q_puti rfl kA ?_
  show dw_ok (pr_X0_copyFrom K) 8 0 0 [some (.ref A), some (.ref B)] [] (n, SH1, dw_up I A 0 (I B 0), J)
  have r0 : ∀ a, a ≠ A → dw_up I A 0 (I B 0) a = I a := fun a ha => (up_row ha)
  have f0 : ∀ j, j < 1 → dw_up I A 0 (I B 0) A j = I B j := fun j hj => by
    by_cases e : j = 0
    · rw [e, up_same]
    · rw [up_fld e]; exact absurd hj (by omega)
  generalize dw_up I A 0 (I B 0) = F0 at r0 f0 ⊢
  refine q_ald rfl rfl ?_
  refine q_ald rfl rfl ?_
  refine q_geti rfl kB ?_
  refine q_puti rfl kA ?_
  show dw_ok (pr_X0_copyFrom K) 16 0 0 [some (.ref A), some (.ref B)] [] (n, SH1, dw_up F0 A 1 (F0 B 1), J)
  have r1 : ∀ a, a ≠ A → dw_up F0 A 1 (F0 B 1) a = I a := fun a ha => (up_row ha).trans (r0 a ha)
  have f1 : ∀ j, j < 2 → dw_up F0 A 1 (F0 B 1) A j = I B j := fun j hj => by
    by_cases e : j = 1
    · rw [e, up_same]; exact congrFun (r0 B (by omega)) 1
    · rw [up_fld e]; exact f0 j (by omega)
  generalize dw_up F0 A 1 (F0 B 1) = F1 at r1 f1 ⊢
  refine q_ald rfl rfl ?_
  refine q_ald rfl rfl ?_
  refine q_geti rfl kB ?_
  refine q_puti rfl kA ?_
  show dw_ok (pr_X0_copyFrom K) 24 0 0 [some (.ref A), some (.ref B)] [] (n, SH1, dw_up F1 A 2 (F1 B 2), J)
  have r2 : ∀ a, a ≠ A → dw_up F1 A 2 (F1 B 2) a = I a := fun a ha => (up_row ha).trans (r1 a ha)
  have f2 : ∀ j, j < 3 → dw_up F1 A 2 (F1 B 2) A j = I B j := fun j hj => by
    by_cases e : j = 2
    · rw [e, up_same]; exact congrFun (r1 B (by omega)) 2
    · rw [up_fld e]; exact f1 j (by omega)
  generalize dw_up F1 A 2 (F1 B 2) = F2 at r2 f2 ⊢
  refine q_ald rfl rfl ?_
  refine q_ald rfl rfl ?_
  refine q_geti rfl kB ?_
  refine q_puti rfl kA ?_
  show dw_ok (pr_X0_copyFrom K) 32 0 0 [some (.ref A), some (.ref B)] [] (n, SH1, dw_up F2 A 3 (F2 B 3), J)
  have r3 : ∀ a, a ≠ A → dw_up F2 A 3 (F2 B 3) a = I a := fun a ha => (up_row ha).trans (r2 a ha)
  have f3 : ∀ j, j < 4 → dw_up F2 A 3 (F2 B 3) A j = I B j := fun j hj => by
    by_cases e : j = 3
    · rw [e, up_same]; exact congrFun (r2 B (by omega)) 3
    · rw [up_fld e]; exact f2 j (by omega)
  generalize dw_up F2 A 3 (F2 B 3) = F3 at r3 f3 ⊢
  refine q_ald rfl rfl ?_
  refine q_ald rfl rfl ?_
  refine q_geti rfl kB ?_
  refine q_puti rfl kA ?_
  show dw_ok (pr_X0_copyFrom K) 40 0 0 [some (.ref A), some (.ref B)] [] (n, SH1, dw_up F3 A 4 (F3 B 4), J)
  have r4 : ∀ a, a ≠ A → dw_up F3 A 4 (F3 B 4) a = I a := fun a ha => (up_row ha).trans (r3 a ha)
  have f4 : ∀ j, j < 5 → dw_up F3 A 4 (F3 B 4) A j = I B j := fun j hj => by
    by_cases e : j = 4
    · rw [e, up_same]; exact congrFun (r3 B (by omega)) 4
    · rw [up_fld e]; exact f3 j (by omega)
  generalize dw_up F3 A 4 (F3 B 4) = F4 at r4 f4 ⊢
  refine q_ald rfl rfl ?_
  refine q_getr rfl kB rB5 ?_
  refine q_ic rfl ?_
  refine q_ald rfl rfl ?_
  refine q_getr rfl kA rA5 ?_
  refine q_ic rfl ?_
  refine q_ic rfl ?_
  refine q_copy (n := 8) rfl kB1 kA1 nB1 nA1 rfl rfl (Nat.le_refl _) (Nat.le_refl _) ?_
  show dw_ok (pr_X0_copyFrom K) 55 0 0 [some (.ref A), some (.ref B)] [] (n, SH1, (dw_cp (n, SH1, F4, J) (B + 1) (A + 1) 0 0 8).2.2.1, J)
  have g1 : ∀ a, a ≠ A + 1 → (dw_cp (n, SH1, F4, J) (B + 1) (A + 1) 0 0 8).2.2.1 a = F4 a := fun a ha => cp_row ha
  have h1 : ∀ j, j < 8 → (dw_cp (n, SH1, F4, J) (B + 1) (A + 1) 0 0 8).2.2.1 (A + 1) j = F4 (B + 1) j := fun j hj => cp_at hj
  generalize (dw_cp (n, SH1, F4, J) (B + 1) (A + 1) 0 0 8).2.2.1 = H1 at g1 h1 ⊢
  refine q_ald rfl rfl ?_
  refine q_getr rfl kB rB6 ?_
  refine q_ic rfl ?_
  refine q_ald rfl rfl ?_
  refine q_getr rfl kA rA6 ?_
  refine q_ic rfl ?_
  refine q_ic rfl ?_
  refine q_copy (n := 8) rfl kB2 kA2 nB2 nA2 rfl rfl (Nat.le_refl _) (Nat.le_refl _) ?_
  show dw_ok (pr_X0_copyFrom K) 70 0 0 [some (.ref A), some (.ref B)] [] (n, SH1, (dw_cp (n, SH1, H1, J) (B + 2) (A + 2) 0 0 8).2.2.1, J)
  have g2 : ∀ a, a ≠ A + 2 → (dw_cp (n, SH1, H1, J) (B + 2) (A + 2) 0 0 8).2.2.1 a = H1 a := fun a ha => cp_row ha
  have h2 : ∀ j, j < 8 → (dw_cp (n, SH1, H1, J) (B + 2) (A + 2) 0 0 8).2.2.1 (A + 2) j = H1 (B + 2) j := fun j hj => cp_at hj
  generalize (dw_cp (n, SH1, H1, J) (B + 2) (A + 2) 0 0 8).2.2.1 = H2 at g2 h2 ⊢
  refine q_ald rfl rfl ?_
  refine q_getr rfl kB rB7 ?_
  refine q_ic rfl ?_
  refine q_ald rfl rfl ?_
  refine q_getr rfl kA rA7 ?_
  refine q_ic rfl ?_
  refine q_ic rfl ?_
  refine q_copy (n := 8) rfl kB3 kA3 nB3 nA3 rfl rfl (Nat.le_refl _) (Nat.le_refl _) ?_
  show dw_ok (pr_X0_copyFrom K) 85 0 0 [some (.ref A), some (.ref B)] [] (n, SH1, (dw_cp (n, SH1, H2, J) (B + 3) (A + 3) 0 0 8).2.2.1, J)
  have g3 : ∀ a, a ≠ A + 3 → (dw_cp (n, SH1, H2, J) (B + 3) (A + 3) 0 0 8).2.2.1 a = H2 a := fun a ha => cp_row ha
  have h3 : ∀ j, j < 8 → (dw_cp (n, SH1, H2, J) (B + 3) (A + 3) 0 0 8).2.2.1 (A + 3) j = H2 (B + 3) j := fun j hj => cp_at hj
  generalize (dw_cp (n, SH1, H2, J) (B + 3) (A + 3) 0 0 8).2.2.1 = H3 at g3 h3 ⊢
  refine q_ald rfl rfl ?_
  refine q_getr rfl kB rB8 ?_
  refine q_ic rfl ?_
  refine q_ald rfl rfl ?_
  refine q_getr rfl kA rA8 ?_
  refine q_ic rfl ?_
  refine q_ic rfl ?_
  refine q_copy (n := 144) rfl kB4 kA4 nB4 nA4 rfl rfl (Nat.le_refl _) (Nat.le_refl _) ?_
  show dw_ok (pr_X0_copyFrom K) 101 0 0 [some (.ref A), some (.ref B)] [] (n, SH1, (dw_cp (n, SH1, H3, J) (B + 4) (A + 4) 0 0 144).2.2.1, J)
  have g4 : ∀ a, a ≠ A + 4 → (dw_cp (n, SH1, H3, J) (B + 4) (A + 4) 0 0 144).2.2.1 a = H3 a := fun a ha => cp_row ha
  have h4 : ∀ j, j < 144 → (dw_cp (n, SH1, H3, J) (B + 4) (A + 4) 0 0 144).2.2.1 (A + 4) j = H3 (B + 4) j := fun j hj => cp_at hj
  generalize (dw_cp (n, SH1, H3, J) (B + 4) (A + 4) 0 0 144).2.2.1 = H4 at g4 h4 ⊢
  refine q_ald rfl rfl ?_
  refine q_getr rfl kB rB9 ?_
  refine q_ic rfl ?_
  refine q_ald rfl rfl ?_
  refine q_getr rfl kA rA9 ?_
  refine q_ic rfl ?_
  refine q_ic rfl ?_
  refine q_copy (n := 144) rfl kB5 kA5 nB5 nA5 rfl rfl (Nat.le_refl _) (Nat.le_refl _) ?_
  show dw_ok (pr_X0_copyFrom K) 117 0 0 [some (.ref A), some (.ref B)] [] (n, SH1, (dw_cp (n, SH1, H4, J) (B + 5) (A + 5) 0 0 144).2.2.1, J)
  have g5 : ∀ a, a ≠ A + 5 → (dw_cp (n, SH1, H4, J) (B + 5) (A + 5) 0 0 144).2.2.1 a = H4 a := fun a ha => cp_row ha
  have h5 : ∀ j, j < 144 → (dw_cp (n, SH1, H4, J) (B + 5) (A + 5) 0 0 144).2.2.1 (A + 5) j = H4 (B + 5) j := fun j hj => cp_at hj
  generalize (dw_cp (n, SH1, H4, J) (B + 5) (A + 5) 0 0 144).2.2.1 = H5 at g5 h5 ⊢
  have b : ∀ a, (a < A ∨ A + 5 < a) → H5 a = I a := fun a ha => by rw [g5 (a) (by omega), g4 (a) (by omega), g3 (a) (by omega), g2 (a) (by omega), g1 (a) (by omega)]; exact r4 a (by omega)
  refine q_vret rfl (hk H5 b (fun j hj => ?_) (fun j hj => ⟨?_, ?_, ?_⟩) (fun j hj => ⟨?_, ?_⟩))
  · rw [g5 (A) (by omega), g4 (A) (by omega), g3 (A) (by omega), g2 (A) (by omega), g1 (A) (by omega)]; exact f4 j hj
  · rw [g5 (A + 1) (by omega), g4 (A + 1) (by omega), g3 (A + 1) (by omega), g2 (A + 1) (by omega), h1 j hj]; exact congrFun (r4 (B + 1) (by omega)) j
  · rw [g5 (A + 2) (by omega), g4 (A + 2) (by omega), g3 (A + 2) (by omega), h2 j hj, g1 (B + 2) (by omega)]; exact congrFun (r4 (B + 2) (by omega)) j
  · rw [g5 (A + 3) (by omega), g4 (A + 3) (by omega), h3 j hj, g2 (B + 3) (by omega), g1 (B + 3) (by omega)]; exact congrFun (r4 (B + 3) (by omega)) j
  · rw [g5 (A + 4) (by omega), h4 j hj, g3 (B + 4) (by omega), g2 (B + 4) (by omega), g1 (B + 4) (by omega)]; exact congrFun (r4 (B + 4) (by omega)) j
  · rw [h5 j hj, g4 (B + 5) (by omega), g3 (B + 5) (by omega), g2 (B + 5) (by omega), g1 (B + 5) (by omega)]; exact congrFun (r4 (B + 5) (by omega)) j
set_option maxRecDepth 8000 in
theorem st_loop {n : Nat} {J : Nat → Nat → Int64} {K : dw_K} {bc bs : Nat} {I0 : Nat → Nat → Int32} {g : Nat}
    (hk : ∀ I' : Nat → Nat → Int32, (∀ a, (∀ s, s < 6 → a ≠ 58 + 7 * s) → I' a = I0 a) → (∀ s, s < 6 → I' (58 + 7 * s) 0 = 0 ∧ ∀ j, j ≠ 0 → I' (58 + 7 * s) j = I0 (58 + 7 * s) j) → K none (n, SH1, I', J)) :
    ∀ (f i : Nat) (x : Int32) (s3 : Option Value) (I : Nat → Nat → Int32), i + f = 6 → x.toInt = i → (∀ a, (∀ s, s < 6 → a ≠ 58 + 7 * s) → I a = I0 a) → (∀ s, s < i → I (58 + 7 * s) 0 = 0) → (∀ s, s < 6 → ∀ j, j ≠ 0 → I (58 + 7 * s) j = I0 (58 + 7 * s) j) → dw_ok (pr_X8_take K) 26 bc bs [some (.ref 3), some (.ref g), some (.int x), s3] [] (n, SH1, I, J) := by
  have c1 : (1 : Int32).toInt = 1 := rfl
  have c6 : (6 : Int32).toInt = 6 := rfl
  intro f
  induction f with
  | zero =>
    intro i x s3 I hi hx h1 h2 h3
    refine q_ild rfl rfl ?_
    refine q_ic rfl ?_
    refine q_icmp (c := 3) rfl (by decide) (fun _ => ?_) (fun h => absurd (show x.toInt < (6 : Int32).toInt from h) (by omega))
    exact q_vret rfl (hk I h1 (fun s hs => ⟨h2 s (by omega), h3 s hs⟩))
  | succ f ih =>
    intro i x s3 I hi hx h1 h2 h3
    refine q_ild rfl rfl ?_
    refine q_ic rfl ?_
    refine q_icmp (c := 3) rfl (by decide) (fun h => absurd (show (6 : Int32).toInt ≤ x.toInt from h) (by omega)) (fun _ => ?_)
    refine q_ald rfl rfl ?_
    refine q_ild rfl rfl ?_
    refine q_callV (as := [.int x]) (rest := []) rfl rfl sk_3 rfl (Nat.le_of_ble_eq_true rfl) ?_
    refine v_nightOf (fun s hs hxs => ?_) (fun h => absurd (show 0 ≤ x.toInt ∧ x.toInt ≤ 5 by omega) h)
    have es : s = i := by omega
    subst es
    show dw_ok (pr_X8_take K) 37 bc bs [some (.ref 3), some (.ref g), some (.int x), s3] [.ref (58 + 7 * s)] (n, SH1, I, J)
    refine q_ast rfl rfl ?_
    refine q_ald rfl rfl ?_
    refine q_ifnull_r rfl ?_
    refine q_ald rfl rfl ?_
    refine q_ic rfl ?_
    refine q_putz rfl (no_ref hs).2.1 (Or.inl rfl) ?_
    refine q_inc rfl rfl rfl ?_
    refine q_goto rfl ?_
    show dw_ok (pr_X8_take K) 26 bc bs [some (.ref 3), some (.ref g), some (.int (x + 1)), some (.ref (58 + 7 * s))] [] (n, SH1, dw_up I (58 + 7 * s) 0 0, J)
    refine ih (s + 1) (x + 1) (some (.ref (58 + 7 * s))) (dw_up I (58 + 7 * s) 0 0) (by omega) (by rw [i_add (by omega) (by omega), c1]; omega) (fun a ha => (up_row (ha s hs)).trans (h1 a ha)) (fun s' hs' => ?_) (fun s' hs' j hj => ?_)
    · by_cases e : s' = s
      · rw [e]; exact up_same
      · rw [up_ne (Or.inl (by omega))]; exact h2 s' (by omega)
    · rw [up_ne (Or.inr hj)]; exact h3 s' hs' j hj
set_option maxRecDepth 8000 in
theorem v_stake {n : Nat} {I : Nat → Nat → Int32} {J : Nat → Nat → Int64} {K : dw_K}
    (hk : ∀ I' : Nat → Nat → Int32, (∀ a, (a < 4 ∨ 9 < a) → a ≠ 11 → a ≠ 43 → (∀ s, s < 6 → a ≠ 58 + 7 * s) → I' a = I a) → (∀ j, j < 5 → I' 4 j = I 102 j) → (∀ j, j < 8 → I' 5 j = I 103 j ∧ I' 6 j = I 104 j ∧ I' 7 j = I 105 j) → (∀ j, j < 144 → I' 8 j = I 106 j ∧ I' 9 j = I 107 j) → I' 11 0 = 0 → (∀ j, j ≠ 0 → I' 11 j = I 11 j) → I' 43 0 = 0 → (∀ j, j ≠ 0 → I' 43 j = I 43 j) → (∀ s, s < 6 → I' (58 + 7 * s) 0 = 0 ∧ ∀ j, j ≠ 0 → I' (58 + 7 * s) j = I (58 + 7 * s) j) → K none (n, SH1, I', J)) : t_X8_take [.ref 3, .ref 102] (n, SH1, I, J) K := by
  refine q_body (Nat.le_of_ble_eq_true rfl) ?_
  refine q_ald rfl rfl ?_
  refine q_getr rfl sk_3 sr_3_1 ?_
  refine q_ald rfl rfl ?_
  refine q_callV (as := [.ref 102]) (rest := []) rfl rfl sk_4 rfl (Nat.le_of_ble_eq_true rfl) ?_
  refine v_gcopy gt_4 gt_102 (by decide) (fun I1 hA1 hF1 hB1 hC1 => ?_)
  show dw_ok (pr_X8_take K) 8 0 0 [some (.ref 3), some (.ref 102), none, none] [] (n, SH1, I1, J)
  refine q_ald rfl rfl ?_
  refine q_getr rfl sk_3 sr_3_3 ?_
  refine q_ic rfl ?_
  refine q_puti rfl sk_11 ?_
  refine q_ald rfl rfl ?_
  refine q_getr rfl sk_3 sr_3_4 ?_
  refine q_ic rfl ?_
  refine q_putz rfl sk_43 (Or.inl rfl) ?_
  refine q_ic rfl ?_
  refine q_ist rfl rfl ?_
  show dw_ok (pr_X8_take K) 26 0 0 [some (.ref 3), some (.ref 102), some (.int 0), none] [] (n, SH1, dw_up (dw_up I1 11 0 0) 43 0 0, J)
  refine st_loop (I0 := dw_up (dw_up I1 11 0 0) 43 0 0) (fun I2 hA2 hS2 => ?_) 6 0 0 none (dw_up (dw_up I1 11 0 0) 43 0 0) rfl rfl (fun _ _ => rfl) (fun s hs => absurd hs (Nat.not_lt_zero s)) (fun _ _ _ _ => rfl)
  have e : ∀ a, a ≠ 11 → a ≠ 43 → (∀ s, s < 6 → a ≠ 58 + 7 * s) → I2 a = I1 a := fun a h1 h2 h3 => (hA2 a h3).trans ((up_row h2).trans (up_row h1))
  have e11 : I2 11 = dw_up (dw_up I1 11 0 0) 43 0 0 11 := hA2 11 (fun s _ => by omega)
  have e43 : I2 43 = dw_up (dw_up I1 11 0 0) 43 0 0 43 := hA2 43 (fun s _ => by omega)
  refine hk I2 (fun a h1 h2 h3 h4 => ?_) (fun j hj => ?_) (fun j hj => ?_) (fun j hj => ?_) ?_ (fun j hj => ?_) ?_ (fun j hj => ?_) (fun s hs => ⟨(hS2 s hs).1, fun j hj => ?_⟩)
  · rw [e a h2 h3 h4]; exact hA1 a h1
  · rw [e 4 (by decide) (by decide) (fun s _ => by omega)]; exact hF1 j hj
  · rw [e 5 (by decide) (by decide) (fun s _ => by omega), e 6 (by decide) (by decide) (fun s _ => by omega), e 7 (by decide) (by decide) (fun s _ => by omega)]; exact hB1 j hj
  · rw [e 8 (by decide) (by decide) (fun s _ => by omega), e 9 (by decide) (by decide) (fun s _ => by omega)]; exact hC1 j hj
  · rw [e11, up_row (by decide)]; exact up_same
  · rw [e11, up_row (by decide), up_fld hj, hA1 11 (by decide)]
  · rw [e43]; exact up_same
  · rw [e43, up_fld hj, up_row (by decide), hA1 43 (by decide)]
  · rw [(hS2 s hs).2 j hj, up_row (show 58 + 7 * s ≠ 43 by omega), up_row (show 58 + 7 * s ≠ 11 by omega), hA1 (58 + 7 * s) (by omega)]
set_option maxRecDepth 8000 in
theorem v_gclear {n : Nat} {I : Nat → Nat → Int32} {J : Nat → Nat → Int64} {K : dw_K} (hk : K none (n, SH1, dw_up (dw_up (dw_up (dw_up (dw_up I 102 0 0) 102 1 0) 102 2 0) 102 3 0) 102 4 500, J)) : t_X0_clear [.ref 102] (n, SH1, I, J) K := by
  refine q_body (Nat.le_of_ble_eq_true rfl) ?_
  refine q_ald rfl rfl ?_
  refine q_ic rfl ?_
  refine q_puti rfl sk_102 ?_
  refine q_ald rfl rfl ?_
  refine q_ic rfl ?_
  refine q_puti rfl sk_102 ?_
  refine q_ald rfl rfl ?_
  refine q_ic rfl ?_
  refine q_puti rfl sk_102 ?_
  refine q_ald rfl rfl ?_
  refine q_ic rfl ?_
  refine q_puti rfl sk_102 ?_
  refine q_ald rfl rfl ?_
  refine q_ic rfl ?_
  refine q_puti rfl sk_102 ?_
  exact q_vret rfl hk
set_option maxRecDepth 8000 in
theorem v_gtext {n : Nat} {I : Nat → Nat → Int32} {J : Nat → Nat → Int64} {K : dw_K} {N : Nat} {G : Nat × Nat × Nat × gS} (hN : (I 1 1).toInt = N) (hN9 : N ≤ 940) (hG : ggF (tbC I) N 900 941 0 0 g0 = G)
    (hok : G.1 = 0 → ∀ (I2 I' : Nat → Nat → Int32) (w : Int32), tbC I2 = tbC I → (∀ a, a ≠ 1 → (a < 101 ∨ 122 < a) → I2 a = I a) → I2 1 0 = I 1 0 → GRp I2 I' G.2.2.2 → GSk I' G.2.2.2 → gOK N G.2.2.2 → w.toInt = G.2.2.1 → w.toInt ≤ 940 → K (some (.int w)) (n, SH1, I', J))
    (hno : G.1 ≠ 0 → ∀ (I2 I' : Nat → Nat → Int32) (s' : gS), tbC I2 = tbC I → (∀ a, a ≠ 1 → (a < 101 ∨ 122 < a) → I2 a = I a) → I2 1 0 = I 1 0 → GRp I2 I' s' → (I' 1 7).toInt = G.1 → (I' 1 8).toInt = G.2.1 → K (some (.int (-1))) (n, SH1, I', J)) : t_X1_readText [.ref 101, .ref 1] (n, SH1, I, J) K := by
  refine q_body (Nat.le_of_ble_eq_true rfl) ?_
  refine q_ald rfl rfl ?_
  refine q_getr rfl sk_101 sr_101_0 ?_
  refine q_callV (as := []) (rest := []) rfl rfl sk_102 rfl (Nat.le_of_ble_eq_true rfl) ?_
  refine v_gclear ?_
  refine q_ald rfl rfl ?_
  refine q_ic rfl ?_
  refine q_putz rfl sk_101 (Or.inl rfl) ?_
  refine q_ald rfl rfl ?_
  refine q_ic rfl ?_
  refine q_callV (as := [.int 900]) (rest := []) rfl rfl sk_1 rfl (Nat.le_of_ble_eq_true rfl) ?_
  refine v_open ?_
  refine q_ic rfl ?_
  refine q_ist rfl rfl ?_
  obtain ⟨I2, hI2⟩ : ∃ X, X = dw_up (dw_up (dw_up (dw_up (dw_up (dw_up (dw_up (dw_up (dw_up (dw_up (dw_up I 102 0 0) 102 1 0) 102 2 0) 102 3 0) 102 4 500) 101 4 0) 1 2 900) 1 3 0) 1 4 0) 1 7 0) 1 8 0 := ⟨_, rfl⟩
  show dw_ok (pr_X1_readText K) 21 0 0 [some (.ref 101), some (.ref 1), some (.int 0)] [] (n, SH1, dw_up (dw_up (dw_up (dw_up (dw_up (dw_up (dw_up (dw_up (dw_up (dw_up (dw_up I 102 0 0) 102 1 0) 102 2 0) 102 3 0) 102 4 500) 101 4 0) 1 2 900) 1 3 0) 1 4 0) 1 7 0) 1 8 0, J)
  rw [← hI2]
  have hr : ∀ a, a ≠ 1 → a ≠ 101 → a ≠ 102 → I2 a = I a := fun a h1 h2 h3 => by rw [hI2]; funext j; simp [dw_up, h1, h2, h3]
  have f1 : I2 1 1 = I 1 1 := by rw [hI2]; rfl
  have f0 : I2 1 0 = I 1 0 := by rw [hI2]; rfl
  have f2 : I2 1 2 = 900 := by rw [hI2]; rfl
  have f3 : I2 1 3 = 0 := by rw [hI2]; rfl
  have hb2 : tbC I2 = tbC I := tbC_eq f1 (hr 2 (by decide) (by decide) (by decide))
  have hR : GRp I2 I2 g0 := by
    refine ⟨fun _ _ _ => rfl, fun _ _ => rfl, ⟨?_, ?_, ?_, ?_, ?_⟩, ?_, fun i hi => absurd hi (Nat.not_lt_zero i), fun y hy => absurd hy (Nat.not_lt_zero y), fun i hi => absurd hi (Nat.not_lt_zero i)⟩
    · rw [hI2]; rfl
    · rw [hI2]; rfl
    · rw [hI2]; rfl
    · rw [hI2]; rfl
    · rw [hI2]; rfl
    · rw [hI2]; rfl
  have hOK : gOK N g0 := ⟨Nat.zero_le _, Nat.zero_le _, Nat.zero_le _, Nat.zero_le _, fun x hx => absurd hx List.not_mem_nil, fun x hx => absurd hx List.not_mem_nil⟩
  have hfr : ∀ a, a ≠ 1 → (a < 101 ∨ 122 < a) → I2 a = I a := fun a h1 h2 => hr a h1 (by omega) (by omega)
  rw [← hb2] at hG
  exact gt_loop (I0 := I2) (G := G) (by rw [f1]; exact hN) hN9 (m := 900) (by rw [f2]; rfl) (fun hg I' w hR' hS' hO' hw h9 => hok hg I2 I' w hb2 hfr f0 hR' hS' hO' hw h9) (fun hg I' s' hR' g7 g8 => hno hg I2 I' s' hb2 hfr f0 hR' g7 g8) 940 0 0 0 g0 I2 rfl (Nat.le_refl _) hG hR hOK (by rw [f3]; rfl) (Nat.zero_le _) rfl
/-- the class's GROUND is what was told -/
def GCp (I : Nat → Nat → Int32) (b : fB) (s : gS) : Prop :=
  ((I 4 0).toInt = s.2.1 ∧ (I 4 1).toInt = s.2.2.1.length ∧ (I 4 2).toInt = s.1.length ∧ (I 4 3).toInt = s.2.2.2.1.length ∧ I 4 4 = s.2.2.2.2.getD 500) ∧
  (∀ i, i < s.1.length → I 5 i = (atF (0, 0, 0, 0, 0) s.1 i).2.2.1 ∧ I 6 i = (atF (0, 0, 0, 0, 0) s.1 i).2.2.2.1 ∧ I 7 i = (atF (0, 0, 0, 0, 0) s.1 i).2.2.2.2) ∧
  (∀ y, y < s.2.2.1.length → ∀ x, x < s.2.1 → (I 8 (y * s.2.1 + x)).toInt = (b (atF 0 s.2.2.1 y + x)).toInt - 97 ∧ (I 9 (y * s.2.1 + x)).toInt = skyF s x y)
set_option maxRecDepth 8000 in
theorem v_cground {n : Nat} {I : Nat → Nat → Int32} {J : Nat → Nat → Int64} {K : dw_K} {N : Nat} {G : Nat × Nat × Nat × gS} (hN : (I 1 1).toInt = N) (hN9 : N ≤ 940) (hG : ggF (tbC I) N 900 941 0 0 g0 = G) (hpl : G.2.1 ≤ 940)
    (h1 : G.1 = 0 → ∀ (I' : Nat → Nat → Int32) (w : Int32), (∀ a, a ≠ 1 → (a < 4 ∨ 9 < a) → a ≠ 11 → a ≠ 43 → (∀ s, s < 6 → a ≠ 58 + 7 * s) → (a < 101 ∨ 122 < a) → I' a = I a) → I' 1 1 = 0 → GCp I' (tbC I) G.2.2.2 → gOK N G.2.2.2 → I' 11 0 = 0 → (∀ j, j ≠ 0 → I' 11 j = I 11 j) → I' 43 0 = 0 → (∀ j, j ≠ 0 → I' 43 j = I 43 j) → (∀ s, s < 6 → I' (58 + 7 * s) 0 = 0 ∧ ∀ j, j ≠ 0 → I' (58 + 7 * s) j = I (58 + 7 * s) j) → w.toInt = G.2.2.1 → K (some (.int w)) (n, SH1, I', J))
    (h2 : G.1 ≠ 0 → ∀ (I' : Nat → Nat → Int32) (w : Int32), (∀ a, a ≠ 1 → (a < 101 ∨ 122 < a) → I' a = I a) → I' 1 1 = 0 → w.toInt = -1 - (G.2.1 : Int) → K (some (.int w)) (n, SH1, I', J)) : t_X11_ground [.ref 0] (n, SH1, I, J) K := by
  have cm : (-1 : Int32).toInt = -1 := rfl
  refine q_body (Nat.le_of_ble_eq_true rfl) ?_
  refine q_ald rfl rfl ?_
  refine q_getr rfl sk_0 sr_0_3 ?_
  refine q_ald rfl rfl ?_
  refine q_getr rfl sk_0 sr_0_0 ?_
  refine q_callV (as := [.ref 1]) (rest := []) rfl rfl sk_101 rfl (Nat.le_of_ble_eq_true rfl) ?_
  refine v_gtext hN hN9 hG (fun hg I2 I' w hb hfr f0 hR hS hO hw h9 => ?_) (fun hg I2 I' s' hb hfr f0 hR g7 g8 => ?_)
  · show dw_ok (pr_X11_ground K) 11 0 0 [some (.ref 0), none] [.int w] (n, SH1, I', J)
    refine q_ist rfl rfl ?_
    refine q_ald rfl rfl ?_
    refine q_getr rfl sk_0 sr_0_0 ?_
    refine q_ic rfl ?_
    refine q_puti rfl sk_1 ?_
    show dw_ok (pr_X11_ground K) 20 0 0 [some (.ref 0), some (.int w)] [] (n, SH1, dw_up I' 1 1 0, J)
    refine q_ild rfl rfl ?_
    refine q_ic rfl ?_
    refine q_icmp (c := 1) rfl (by decide) (fun _ => ?_) (fun h => absurd (show w.toInt = (-1 : Int32).toInt from h) (by omega))
    refine q_ald rfl rfl ?_
    refine q_getr rfl sk_0 sr_0_1 ?_
    refine q_ald rfl rfl ?_
    refine q_getr rfl sk_0 sr_0_3 ?_
    refine q_getr rfl sk_101 sr_101_0 ?_
    refine q_callV (as := [.ref 102]) (rest := []) rfl rfl sk_3 rfl (Nat.le_of_ble_eq_true rfl) ?_
    refine v_stake (fun I3 e1 e2 e3 e4 e5 e6 e7 e8 e9 => ?_)
    show dw_ok (pr_X11_ground K) 49 0 0 [some (.ref 0), some (.int w)] [] (n, SH1, I3, J)
    refine q_ild rfl rfl ?_
    have hu : ∀ a, a ≠ 1 → dw_up I' 1 1 0 a = I' a := fun a ha => up_row ha
    obtain ⟨r1, r2, r3, r4, r5, r6, r7⟩ := hR
    have hO2 := hO
    obtain ⟨o1, o2, o3, -⟩ := hO2
    refine q_iret rfl (h1 hg I3 w (fun a a1 a2 a3 a4 a5 a6 => ?_) ?_ ⟨?_, fun i hi => ?_, fun y hy x hx => ?_⟩ hO e5 (fun j hj => ?_) e7 (fun j hj => ?_) (fun s hs => ⟨(e9 s hs).1, fun j hj => ?_⟩) hw)
    · rw [e1 a a2 a3 a4 a5, hu a a1, r1 a a1 a6]; exact hfr a a1 a6
    · rw [e1 1 (by decide) (by decide) (by decide) (fun s _ => by omega)]; exact up_same
    · rw [e2 0 (by decide), e2 1 (by decide), e2 2 (by decide), e2 3 (by decide), e2 4 (by decide), hu 102 (by decide)]; exact r3
    · obtain ⟨b1, b2, b3⟩ := e3 i (by omega)
      rw [b1, b2, b3, hu 103 (by decide), hu 104 (by decide), hu 105 (by decide)]
      exact (r5 i hi).2.2
    · have hix := idx_lt hy hx
      have h144 : G.2.2.2.2.2.1.length * G.2.2.2.2.1 ≤ 144 := Nat.le_trans (Nat.mul_le_mul o3 o2) (Nat.le_of_ble_eq_true rfl)
      obtain ⟨b1, b2⟩ := e4 (y * G.2.2.2.2.1 + x) (by omega)
      rw [b1, b2, hu 106 (by decide), hu 107 (by decide), ← hb]
      exact ⟨r6 y hy x hx, hS y hy x hx⟩
    · rw [e6 j hj, hu 11 (by decide), r1 11 (by decide) (by decide), hfr 11 (by decide) (by decide)]
    · rw [e8 j hj, hu 43 (by decide), r1 43 (by decide) (by decide), hfr 43 (by decide) (by decide)]
    · rw [(e9 s hs).2 j hj, hu (58 + 7 * s) (by omega), r1 (58 + 7 * s) (by omega) (by omega), hfr (58 + 7 * s) (by omega) (by omega)]
  · show dw_ok (pr_X11_ground K) 11 0 0 [some (.ref 0), none] [.int (-1)] (n, SH1, I', J)
    refine q_ist rfl rfl ?_
    refine q_ald rfl rfl ?_
    refine q_getr rfl sk_0 sr_0_0 ?_
    refine q_ic rfl ?_
    refine q_puti rfl sk_1 ?_
    show dw_ok (pr_X11_ground K) 20 0 0 [some (.ref 0), some (.int (-1))] [] (n, SH1, dw_up I' 1 1 0, J)
    refine q_ild rfl rfl ?_
    refine q_ic rfl ?_
    refine q_icmp (c := 1) rfl (by decide) (fun h => absurd rfl h) (fun _ => ?_)
    refine q_ic rfl ?_
    refine q_ald rfl rfl ?_
    refine q_getr rfl sk_0 sr_0_0 ?_
    refine q_geti rfl sk_1 ?_
    refine q_sub rfl ?_
    have e8 : dw_up I' 1 1 0 1 8 = I' 1 8 := rfl
    refine q_iret rfl (h2 hg _ _ (fun a a1 a2 => ?_) up_same ?_)
    · rw [up_row a1, hR.1 a a1 a2]; exact hfr a a1 a2
    · show (-1 - dw_up I' 1 1 0 1 8).toInt = _
      rw [e8, i_sub (by omega) (by omega), cm, g8]
end
section
/-! ===== a GROUND read by the model: helpers ===== -/
set_option maxRecDepth 8000 in
theorem wi_inj2 {b : fB} {q r : Nat} : ∀ k : Nat, (∀ i, i < k → f_sm (b (q + i))) → (∀ i, i < k → f_sm (b (r + i))) → wiF b q k = wiF b r k → ∀ i, i < k → b (q + i) = b (r + i)
  | 0, _, _, _, i, hi => absurd hi (Nat.not_lt_zero i)
  | k + 1, h1, h2, h, i, hi => by
    have e : wiF b q k * 256 + (b (q + k)).toInt = wiF b r k * 256 + (b (r + k)).toInt := h
    have a1 := h1 k (by omega)
    have a2 := h2 k (by omega)
    by_cases g : i = k
    · rw [g]; exact i_eq (by omega)
    · exact wi_inj2 k (fun j hj => h1 j (by omega)) (fun j hj => h2 j (by omega)) (by omega) i (by omega)
set_option maxRecDepth 8000 in
theorem wi_eq2 {b : fB} {q r : Nat} : ∀ k : Nat, (∀ i, i < k → b (q + i) = b (r + i)) → wiF b q k = wiF b r k
  | 0, _ => rfl
  | k + 1, h => by
    show wiF b q k * 256 + (b (q + k)).toInt = wiF b r k * 256 + (b (r + k)).toInt
    rw [wi_eq2 k (fun i hi => h i (by omega)), h k (by omega)]
set_option maxRecDepth 8000 in
theorem wi_pos {b : fB} {q k : Nat} (h : ∀ i, i < k → f_sm (b (q + i))) (hk : 0 < k) : 0 < wiF b q k := by
  obtain ⟨l, rfl⟩ : ∃ l, k = l + 1 := ⟨k - 1, by omega⟩
  have r := wi_rng (b := b) (q := q) l h
  have p : (0 : Int) < 256 ^ l := Int.pow_pos (by decide)
  omega
set_option maxRecDepth 8000 in
theorem wi_len {b : fB} {q r k l : Nat} (h1 : ∀ i, i < k → f_sm (b (q + i))) (h2 : ∀ i, i < l → f_sm (b (r + i))) (hkl : k < l) : wiF b q k < wiF b r l := by
  obtain ⟨l', rfl⟩ : ∃ l', l = l' + 1 := ⟨l - 1, by omega⟩
  by_cases h0 : k = 0
  · rw [h0]; exact wi_pos h2 (by omega)
  obtain ⟨k', rfl⟩ : ∃ k', k = k' + 1 := ⟨k - 1, by omega⟩
  have r1 := wi_rng (b := b) (q := q) k' h1
  have r2 := wi_rng (b := b) (q := r) l' h2
  have := pw_lt (show k' < l' by omega)
  omega
set_option maxRecDepth 8000 in
/-- two names: told apart by their two numbers -/
theorem wi_two {b : fB} {q r k l : Nat} (h1 : ∀ i, i < k → f_sm (b (q + i))) (h2 : ∀ i, i < l → f_sm (b (r + i))) : wiF b q k = wiF b r l ↔ (k = l ∧ ∀ i, i < l → b (q + i) = b (r + i)) := by
  constructor
  · intro h
    have e : k = l := by
      rcases Nat.lt_trichotomy k l with g | g | g
      · have := wi_len h1 h2 g; omega
      · exact g
      · have := wi_len h2 h1 g; omega
    subst e
    exact ⟨rfl, wi_inj2 k h1 h2 h⟩
  · rintro ⟨rfl, h⟩
    exact wi_eq2 k h
set_option maxRecDepth 8000 in
theorem nm_two {b : fB} {q r k l : Nat} (h1 : ∀ i, i < k → f_sm (b (q + i))) (h2 : ∀ i, i < l → f_sm (b (r + i))) (hk : k ≤ 12) (hl : l ≤ 12) :
    (wdF b q (min k 8) = wdF b r (min l 8) ∧ wdF b (q + 8) (k - 8) = wdF b (r + 8) (l - 8)) ↔ (k = l ∧ ∀ i, i < l → b (q + i) = b (r + i)) := by
  have a1 := (wd_wi (b := b) (q := q) (min k 8) (by omega) (fun i hi => h1 i (by omega))).1
  have a2 := (wd_wi (b := b) (q := r) (min l 8) (by omega) (fun i hi => h2 i (by omega))).1
  have t1 : ∀ i, i < k - 8 → f_sm (b (q + 8 + i)) := fun i hi => by rw [show q + 8 + i = q + (8 + i) by omega]; exact h1 (8 + i) (by omega)
  have t2 : ∀ i, i < l - 8 → f_sm (b (r + 8 + i)) := fun i hi => by rw [show r + 8 + i = r + (8 + i) by omega]; exact h2 (8 + i) (by omega)
  have a3 := (wd_wi (b := b) (q := q + 8) (k - 8) (by omega) t1).1
  have a4 := (wd_wi (b := b) (q := r + 8) (l - 8) (by omega) t2).1
  have w1 := wi_two (b := b) (q := q) (r := r) (k := min k 8) (l := min l 8) (fun i hi => h1 i (by omega)) (fun i hi => h2 i (by omega))
  have w2 := wi_two (b := b) (q := q + 8) (r := r + 8) t1 t2
  constructor
  · rintro ⟨e1, e2⟩
    obtain ⟨m1, m2⟩ := w1.mp (by rw [← a1, ← a2, e1])
    obtain ⟨n1, n2⟩ := w2.mp (by rw [← a3, ← a4, e2])
    refine ⟨by omega, fun i hi => ?_⟩
    by_cases g : i < 8
    · exact m2 i (by omega)
    · have := n2 (i - 8) (by omega)
      rw [show q + 8 + (i - 8) = q + i by omega, show r + 8 + (i - 8) = r + i by omega] at this
      exact this
  · rintro ⟨rfl, e⟩
    refine ⟨Int64.toInt_inj.mp ?_, Int64.toInt_inj.mp ?_⟩
    · rw [a1, a2]; exact w1.mpr ⟨rfl, fun i hi => e i (by omega)⟩
    · rw [a3, a4]
      refine w2.mpr ⟨rfl, fun i hi => ?_⟩
      rw [show q + 8 + i = q + (8 + i) by omega, show r + 8 + i = r + (8 + i) by omega]
      exact e (8 + i) (by omega)
/-- the rows that a GROUND's reading leaves -/
def GMf (I0 : Nat → Nat → Int32) (J0 : Nat → Nat → Int64) (I : Nat → Nat → Int32) (J : Nat → Nat → Int64) : Prop :=
  (∀ a, a ≠ 404 → a ≠ 407 → I a = I0 a) ∧ (∀ j, mF j → j ≠ 22 → I 404 j = I0 404 j) ∧ (∀ a, a ≠ 404 → a ≠ 409 → J a = J0 a) ∧ ∀ j, j ≠ 17 → j ≠ 18 → J 404 j = J0 404 j
/-- the names of the kinds are words -/
def gLet (b : fB) (s : gS) : Prop := ∀ x, x ∈ s.1 → ∀ i, i < x.2.1 → f_sm (b (x.1 + i))
/-- the model's reader of a GROUND, going on -/
def GMp (I0 : Nat → Nat → Int32) (J0 : Nat → Nat → Int64) (I : Nat → Nat → Int32) (J : Nat → Nat → Int64) (s : gS) : Prop :=
  GMf I0 J0 I J ∧
  ((I 407 0).toInt = s.2.1 ∧ (I 407 1).toInt = s.2.2.1.length ∧ (I 407 2).toInt = s.1.length ∧ (I 407 3).toInt = s.2.2.2.1.length ∧ I 407 4 = s.2.2.2.2.getD 500) ∧
  ((I 404 22).toInt = (if s.2.2.2.2 = none then 0 else 1)) ∧
  (∀ i, i < s.1.length → I 407 (5 + i) = (atF (0, 0, 0, 0, 0) s.1 i).2.2.1 ∧ I 407 (13 + i) = (atF (0, 0, 0, 0, 0) s.1 i).2.2.2.1 ∧ I 407 (21 + i) = (atF (0, 0, 0, 0, 0) s.1 i).2.2.2.2) ∧
  (∀ i, i < s.1.length → J 409 (2 * i) = wdF (tbM I0) (atF (0, 0, 0, 0, 0) s.1 i).1 (min (atF (0, 0, 0, 0, 0) s.1 i).2.1 8) ∧ J 409 (2 * i + 1) = wdF (tbM I0) ((atF (0, 0, 0, 0, 0) s.1 i).1 + 8) ((atF (0, 0, 0, 0, 0) s.1 i).2.1 - 8)) ∧
  (∀ y, y < s.2.2.1.length → ∀ x, x < s.2.1 → (I 407 (29 + (y * s.2.1 + x))).toInt = (tbM I0 (atF 0 s.2.2.1 y + x)).toInt - 97) ∧
  (∀ i, i < s.2.2.2.1.length → I 407 (173 + 4 * i) = (atF (0, 0, 0, 0) s.2.2.2.1 i).1 ∧ I 407 (173 + 4 * i + 1) = (atF (0, 0, 0, 0) s.2.2.2.1 i).2.1 ∧ I 407 (173 + 4 * i + 2) = (atF (0, 0, 0, 0) s.2.2.2.1 i).2.2.1 ∧ I 407 (173 + 4 * i + 3) = (atF (0, 0, 0, 0) s.2.2.2.1 i).2.2.2)
set_option maxRecDepth 8000 in
theorem GM_tok {I0 I I1 : Nat → Nat → Int32} {J0 J J1 : Nat → Nat → Int64} {s : gS} (h : GMp I0 J0 I J s) (hA : ∀ a, a ≠ 404 → I1 a = I a) (hF : ∀ j, mF j → I1 404 j = I 404 j) (hJa : ∀ a, a ≠ 404 → J1 a = J a) (hJf : ∀ j, j ≠ 17 → j ≠ 18 → J1 404 j = J 404 j) : GMp I0 J0 I1 J1 s := by
  obtain ⟨⟨f1, f2, f3, f4⟩, h2, h3, h4, h5, h6, h7⟩ := h
  refine ⟨⟨fun a e1 e2 => (hA a e1).trans (f1 a e1 e2), fun j e1 e3 => (hF j e1).trans (f2 j e1 e3), fun a e1 e2 => (hJa a e1).trans (f3 a e1 e2), fun j e1 e2 => (hJf j e1 e2).trans (f4 j e1 e2)⟩, ?_, ?_, fun i hi => ?_, fun i hi => ?_, fun y hy x hx => ?_, fun i hi => ?_⟩
  · rw [hA 407 (by decide)]; exact h2
  · rw [hF 22 (by decide)]; exact h3
  · rw [hA 407 (by decide)]; exact h4 i hi
  · rw [hJa 409 (by decide)]; exact h5 i hi
  · rw [hA 407 (by decide)]; exact h6 y hy x hx
  · rw [hA 407 (by decide)]; exact h7 i hi
set_option maxRecDepth 8000 in
theorem gmV {I0 : Nat → Nat → Int32} {J0 : Nat → Nat → Int64} {s : gS} : MInv I0 (fun I J => GMp I0 J0 I J s) :=
  ⟨fun _ _ _ _ h hA hF hJa hJf => GM_tok h hA hF hJa hJf, fun _ _ h => ⟨h.1.2.1 3 (by decide) (by decide), h.1.2.1 5 (by decide) (by decide), h.1.1 405 (by decide) (by decide)⟩⟩
set_option maxRecDepth 8000 in
theorem gfV {I0 : Nat → Nat → Int32} {J0 : Nat → Nat → Int64} : MInv I0 (fun I J => GMf I0 J0 I J) :=
  ⟨fun _ _ _ _ h hA hF hJa hJf => ⟨fun a e1 e2 => (hA a e1).trans (h.1 a e1 e2), fun j e1 e3 => (hF j e1).trans (h.2.1 j e1 e3), fun a e1 e2 => (hJa a e1).trans (h.2.2.1 a e1 e2), fun j e1 e2 => (hJf j e1 e2).trans (h.2.2.2 j e1 e2)⟩, fun _ _ h => ⟨h.2.1 3 (by decide) (by decide), h.2.1 5 (by decide) (by decide), h.1 405 (by decide) (by decide)⟩⟩
set_option maxRecDepth 8000 in
/-- h[j] further on leaves what is told -/
theorem GM_h {I0 I : Nat → Nat → Int32} {J0 J : Nat → Nat → Int64} {s : gS} {j : Nat} {v : Int32} (h : GMp I0 J0 I J s) (hOK : s.1.length ≤ 8 ∧ s.2.2.1.length * s.2.1 ≤ 144)
    (hj : (∃ k, s.1.length ≤ k ∧ k < 8 ∧ (j = 5 + k ∨ j = 13 + k ∨ j = 21 + k)) ∨ (29 + s.2.2.1.length * s.2.1 ≤ j ∧ j < 173) ∨ 173 + 4 * s.2.2.2.1.length ≤ j) : GMp I0 J0 (dw_up I 407 j v) J s := by
  have hj' : (5 + s.1.length ≤ j ∧ j < 13) ∨ (13 + s.1.length ≤ j ∧ j < 21) ∨ (21 + s.1.length ≤ j ∧ j < 29) ∨ (29 + s.2.2.1.length * s.2.1 ≤ j ∧ j < 173) ∨ 173 + 4 * s.2.2.2.1.length ≤ j := by
    rcases hj with ⟨k, k1, k2, k3⟩ | h | h
    · omega
    · omega
    · omega
  clear hj
  obtain ⟨⟨f1, f2, f3, f4⟩, h2, h3, h4, h5, h6, h7⟩ := h
  have ef : ∀ i, i ≠ j → dw_up I 407 j v 407 i = I 407 i := fun i g => up_fld g
  have er : ∀ a, a ≠ 407 → dw_up I 407 j v a = I a := fun a g => up_row g
  generalize dw_up I 407 j v = I1 at ef er ⊢
  refine ⟨⟨fun a e1 e2 => (er a e2).trans (f1 a e1 e2), fun i e1 e3 => ?_, f3, f4⟩, ?_, ?_, fun i hi => ?_, h5, fun y hy x hx => ?_, fun i hi => ?_⟩
  · rw [er 404 (by decide)]; exact f2 i e1 e3
  · rw [ef 0 (by omega), ef 1 (by omega), ef 2 (by omega), ef 3 (by omega), ef 4 (by omega)]; exact h2
  · rw [er 404 (by decide)]; exact h3
  · rw [ef (5 + i) (by omega), ef (13 + i) (by omega), ef (21 + i) (by omega)]; exact h4 i hi
  · have q := idx_lt hy hx
    rw [ef _ (by omega)]; exact h6 y hy x hx
  · rw [ef _ (by omega), ef _ (by omega), ef _ (by omega), ef _ (by omega)]; exact h7 i hi
set_option maxRecDepth 8000 in
theorem td_iff {b : fB} {T : fT} : tdF b T ↔ ∃ i, i < 13 ∧ sayF b T (dw_sb (i + 1)) := by
  constructor
  · intro h
    unfold tdF at h
    rcases h with h | h | h | h | h | h | h | h | h | h | h | h | h
    · exact ⟨0, by decide, h⟩
    · exact ⟨1, by decide, h⟩
    · exact ⟨2, by decide, h⟩
    · exact ⟨3, by decide, h⟩
    · exact ⟨4, by decide, h⟩
    · exact ⟨5, by decide, h⟩
    · exact ⟨6, by decide, h⟩
    · exact ⟨7, by decide, h⟩
    · exact ⟨8, by decide, h⟩
    · exact ⟨9, by decide, h⟩
    · exact ⟨10, by decide, h⟩
    · exact ⟨11, by decide, h⟩
    · exact ⟨12, by decide, h⟩
  · rintro ⟨i, hi, h⟩
    unfold tdF
    match i, hi with
    | 0, _ => exact Or.inl h
    | 1, _ => exact Or.inr (Or.inl h)
    | 2, _ => exact Or.inr (Or.inr (Or.inl h))
    | 3, _ => exact Or.inr (Or.inr (Or.inr (Or.inl h)))
    | 4, _ => exact Or.inr (Or.inr (Or.inr (Or.inr (Or.inl h))))
    | 5, _ => exact Or.inr (Or.inr (Or.inr (Or.inr (Or.inr (Or.inl h)))))
    | 6, _ => exact Or.inr (Or.inr (Or.inr (Or.inr (Or.inr (Or.inr (Or.inl h))))))
    | 7, _ => exact Or.inr (Or.inr (Or.inr (Or.inr (Or.inr (Or.inr (Or.inr (Or.inl h)))))))
    | 8, _ => exact Or.inr (Or.inr (Or.inr (Or.inr (Or.inr (Or.inr (Or.inr (Or.inr (Or.inl h))))))))
    | 9, _ => exact Or.inr (Or.inr (Or.inr (Or.inr (Or.inr (Or.inr (Or.inr (Or.inr (Or.inr (Or.inl h)))))))))
    | 10, _ => exact Or.inr (Or.inr (Or.inr (Or.inr (Or.inr (Or.inr (Or.inr (Or.inr (Or.inr (Or.inr (Or.inl h))))))))))
    | 11, _ => exact Or.inr (Or.inr (Or.inr (Or.inr (Or.inr (Or.inr (Or.inr (Or.inr (Or.inr (Or.inr (Or.inr (Or.inl h)))))))))))
    | 12, _ => exact Or.inr (Or.inr (Or.inr (Or.inr (Or.inr (Or.inr (Or.inr (Or.inr (Or.inr (Or.inr (Or.inr (Or.inr h)))))))))))
    | k + 13, hi => exact absurd hi (by omega)
set_option maxRecDepth 8000 in
theorem rs_dec : (List.range 13).all (fun i => decide (1 ≤ (dw_sb (i + 1)).length) && decide ((dw_sb (i + 1)).length ≤ 7) && decide (i + 1 < dw_strs.length)) = true := by decide +kernel
set_option maxRecDepth 8000 in
theorem rs_ok {i : Nat} (h : i < 13) : 1 ≤ (dw_sb (i + 1)).length ∧ (dw_sb (i + 1)).length ≤ 7 ∧ i + 1 < dw_strs.length := by
  have h1 := List.all_eq_true.mp rs_dec i (List.mem_range.mpr h)
  rw [Bool.and_eq_true, Bool.and_eq_true, decide_eq_true_eq, decide_eq_true_eq, decide_eq_true_eq] at h1
  exact ⟨h1.1.1, h1.1.2, h1.2⟩
/-- the model's row of the words that are taken -/
def mRes (J : Nat → Nat → Int64) : Prop := ∀ i, i < 13 → wlF (dw_sb (i + 1)) (dw_sb (i + 1)).length = (J 410 i).toInt
set_option maxRecDepth 8000 in
theorem in_loop {n bc bs : Nat} {I : Nat → Nat → Int32} {J : Nat → Nat → Int64} {K : dw_K} {b : fB} {N m p : Nat} (hT : MK b (tkF b N m p) I J) (hp : p ≤ N) (hJ : mRes J)
    (hk : ∀ v : Int32, (v = 1 ∧ (tkF b N m p).1 = 1 ∧ ¬ tdF b (tkF b N m p)) ∨ (v = 0 ∧ ¬ ((tkF b N m p).1 = 1 ∧ ¬ tdF b (tkF b N m p))) → K (some (.int v)) (n, SH1, I, J)) :
    ∀ (f i : Nat) (x v : Int32), i + f = 13 → x.toInt = i → ((v = 1 ∧ (tkF b N m p).1 = 1 ∧ ∀ j, j < i → ¬ sayF b (tkF b N m p) (dw_sb (j + 1))) ∨ (v = 0 ∧ ¬ ((tkF b N m p).1 = 1 ∧ ∀ j, j < i → ¬ sayF b (tkF b N m p) (dw_sb (j + 1))))) → dw_ok (pr_X12_isName K) 16 bc bs [some (.ref 404), some (.int v), some (.int x)] [] (n, SH1, I, J) := by
  have c1 : (1 : Int32).toInt = 1 := rfl
  have c8 : (8 : Int32).toInt = 8 := rfl
  have c13 : (13 : Int32).toInt = 13 := rfl
  intro f
  induction f with
  | zero =>
    intro i x v hi hx hv
    refine q_ild rfl rfl ?_
    refine q_ic rfl ?_
    refine q_icmp (c := 3) rfl (by decide) (fun _ => ?_) (fun h => absurd (show x.toInt < (13 : Int32).toInt from h) (by omega))
    refine q_ild rfl rfl ?_
    have e13 : i = 13 := by omega
    subst e13
    rcases hv with ⟨rfl, h1, h2⟩ | ⟨rfl, h⟩
    · refine q_zret rfl (Or.inr rfl) (hk 1 (Or.inl ⟨rfl, h1, fun h => ?_⟩))
      obtain ⟨j, hj, g⟩ := td_iff.mp h
      exact h2 j hj g
    · exact q_zret rfl (Or.inl rfl) (hk 0 (Or.inr ⟨rfl, fun g => h ⟨g.1, fun j hj s => g.2 (td_iff.mpr ⟨j, hj, s⟩)⟩⟩))
  | succ f ih =>
    intro i x v hi hx hv
    have t2 : (x + 1).toInt = x.toInt + 1 := by rw [i_add (by omega) (by omega), c1]
    refine q_ild rfl rfl ?_
    refine q_ic rfl ?_
    refine q_icmp (c := 3) rfl (by decide) (fun h => absurd (show (13 : Int32).toInt ≤ x.toInt from h) (by omega)) (fun _ => ?_)
    refine q_ild rfl rfl ?_
    have no : ¬ ((tkF b N m p).1 = 1 ∧ ∀ j, j < i + 1 → ¬ sayF b (tkF b N m p) (dw_sb (j + 1))) → dw_ok (pr_X12_isName K) 53 bc bs [some (.ref 404), some (.int v), some (.int x)] [] (n, SH1, I, J) := by
      intro h
      refine q_ic rfl ?_
      refine q_ist rfl rfl ?_
      refine q_inc rfl rfl rfl ?_
      refine q_goto rfl ?_
      exact ih (i + 1) (x + 1) 0 (by omega) (by omega) (Or.inr ⟨rfl, h⟩)
    rcases hv with ⟨rfl, h1, h2⟩ | ⟨rfl, h⟩
    · refine q_if (c := 0) rfl (by decide) (fun h => absurd (show (1 : Int32).toInt = 0 from h) (by decide)) (fun _ => ?_)
      obtain ⟨l1, l7, ls⟩ := rs_ok (show i < 13 by omega)
      have hms := ms_iff (W := J 410 i) hT hp l1 l7 (sm_ok (show i + 1 < 26 by omega)) (hJ i (by omega))
      have hxn : x.toInt.toNat = i := by omega
      have h11 : (I 404 11).toInt = 1 := by rw [hT.1, h1]; rfl
      refine q_ald rfl rfl ?_
      refine q_getl rfl sk_404 ?_
      refine q_ald rfl rfl ?_
      refine q_getr rfl sk_404 sr_404_10 ?_
      refine q_ild rfl rfl ?_
      refine q_xaldl rfl sk_410 sn_410 (by omega) (show x.toInt < (13 : Nat) by omega) ?_
      show dw_ok (pr_X12_isName K) 36 bc bs [some (.ref 404), some (.int 1), some (.int x)] [.long (J 410 x.toInt.toNat), .long (J 404 17)] (n, SH1, I, J)
      rw [hxn]
      refine q_lcmp rfl ?_
      refine q_if (c := 1) rfl (by decide) (fun g => ?_) (fun g => ?_)
      · have g : (lg_cmp (J 404 17) (J 410 i)).toInt ≠ 0 := g
        refine q_ic rfl ?_
        refine q_goto rfl ?_
        refine q_ist rfl rfl ?_
        refine q_inc rfl rfl rfl ?_
        refine q_goto rfl ?_
        refine ih (i + 1) (x + 1) 1 (by omega) (by omega) (Or.inl ⟨rfl, h1, fun j hj s => ?_⟩)
        by_cases e : j = i
        · rw [e] at s
          exact g (cmp_e (hms.mpr s).2)
        · exact h2 j (by omega) s
      · have g : (lg_cmp (J 404 17) (J 410 i)).toInt = 0 := g
        have hs := hms.mp ⟨h11, cmp_0 g⟩
        have hsp := (hT.2.2.2.2.2 h1).1
        refine q_ald rfl rfl ?_
        refine q_geti rfl sk_404 ?_
        refine q_ic rfl ?_
        refine q_icmp (c := 5) rfl (by decide) (fun _ => ?_) (fun w => absurd (show (8 : Int32).toInt < (I 404 13).toInt from w) (by have := hs.2.1; omega))
        exact no (fun q => q.2 i (by omega) hs)
    · refine q_if (c := 0) rfl (by decide) (fun _ => ?_) (fun h => absurd rfl h)
      exact no (fun q => h ⟨q.1, fun j hj => q.2 j (by omega)⟩)
set_option maxRecDepth 8000 in
theorem v_isName {n : Nat} {I : Nat → Nat → Int32} {J : Nat → Nat → Int64} {K : dw_K} {b : fB} {N m p : Nat} (hT : MK b (tkF b N m p) I J) (hp : p ≤ N) (hJ : mRes J)
    (hk : ∀ v : Int32, (v = 1 ∧ (tkF b N m p).1 = 1 ∧ ¬ tdF b (tkF b N m p)) ∨ (v = 0 ∧ ¬ ((tkF b N m p).1 = 1 ∧ ¬ tdF b (tkF b N m p))) → K (some (.int v)) (n, SH1, I, J)) : t_X12_isName [.ref 404] (n, SH1, I, J) K := by
  refine q_body (Nat.le_of_ble_eq_true rfl) ?_
  refine q_ald rfl rfl ?_
  refine q_geti rfl sk_404 ?_
  refine q_ic rfl ?_
  refine q_icmp (c := 1) rfl (by decide) (fun g => ?_) (fun g => ?_)
  · have g : (I 404 11).toInt ≠ 1 := g
    refine q_ic rfl ?_
    refine q_ist rfl rfl ?_
    refine q_ic rfl ?_
    refine q_ist rfl rfl ?_
    exact in_loop hT hp hJ hk 13 0 0 0 rfl rfl (Or.inr ⟨rfl, fun h => by have := hT.1; omega⟩)
  · have g : (I 404 11).toInt = 1 := g
    refine q_ic rfl ?_
    refine q_goto rfl ?_
    refine q_ist rfl rfl ?_
    refine q_ic rfl ?_
    refine q_ist rfl rfl ?_
    exact in_loop hT hp hJ hk 13 0 0 1 rfl rfl (Or.inl ⟨rfl, by have := hT.1; omega, fun j hj => absurd hj (Nat.not_lt_zero j)⟩)
set_option maxRecDepth 8000 in
/-- the names told, one by one -/
theorem mm_loop {n bc bs : Nat} {I0 I : Nat → Nat → Int32} {J0 J : Nat → Nat → Int64} {K : dw_K} {s : gS} {T : fT} {N : Nat} {kv : Int32} (hR : GMp I0 J0 I J s) (hOK : gOK N s) (hLet : gLet (tbM I0) s) (hT : MK (tbM I0) T I J) (hT1 : T.1 = 1) (hT12 : T.2.2.1 ≤ T.2.1 + 12) (hTn : T.2.1 ≤ T.2.2.1) (hTl : ∀ i, i < T.2.2.1 - T.2.1 → f_sm (tbM I0 (T.2.1 + i))) (hkv : kv.toInt = s.1.length)
    (hyes : nmF (tbM I0) T s.1 → ∀ (I' : Nat → Nat → Int32) (J' : Nat → Nat → Int64), GMf I0 J0 I' J' → (I' 404 15).toInt = 3 → (I' 404 16).toInt = T.2.1 → K (some (.int 0)) (n, SH1, I', J'))
    (hno : ¬ nmF (tbM I0) T s.1 → ∀ x : Int32, dw_ok (pr_X12_readKind K) 104 bc bs [some (.ref 404), some (.int kv), some (.int x)] [] (n, SH1, I, J)) :
    ∀ (f i : Nat) (x : Int32), x.toInt = i → i ≤ s.1.length → s.1.length - i ≤ f → (∀ j, j < i → ¬ asF (tbM I0) T (atF (0, 0, 0, 0, 0) s.1 j).1 (atF (0, 0, 0, 0, 0) s.1 j).2.1) → dw_ok (pr_X12_readKind K) 53 bc bs [some (.ref 404), some (.int kv), some (.int x)] [] (n, SH1, I, J) := by
  have c1 : (1 : Int32).toInt = 1 := rfl
  have c2 : (2 : Int32).toInt = 2 := rfl
  have h8 := hOK.1
  intro f
  induction f with
  | zero =>
    intro i x hx hi hf hall
    refine q_ild rfl rfl ?_
    refine q_ild rfl rfl ?_
    refine q_icmp (c := 3) rfl (by decide) (fun _ => ?_) (fun h => absurd (show x.toInt < kv.toInt from h) (by omega))
    exact hno (fun h => by obtain ⟨j, hj, h⟩ := nm_iff.mp h; exact hall j (by omega) h) x
  | succ f ih =>
    intro i x hx hi hf hall
    refine q_ild rfl rfl ?_
    refine q_ild rfl rfl ?_
    refine q_icmp (c := 3) rfl (by decide) (fun g => ?_) (fun g => ?_)
    · have g : kv.toInt ≤ x.toInt := g
      exact hno (fun h => by obtain ⟨j, hj, h⟩ := nm_iff.mp h; exact hall j (by omega) h) x
    have g : x.toInt < kv.toInt := g
    have hil : i < s.1.length := by omega
    have t2 : (x + 1).toInt = x.toInt + 1 := by rw [i_add (by omega) (by omega), c1]
    have tm : (2 * x).toInt = 2 * i := i_mul (by rw [c2, hx]) (by omega) (by omega)
    have tm1 : (2 * x + 1).toInt = 2 * i + 1 := by rw [i_add (by omega) (by omega), tm, c1]
    have n1 : (2 * x).toInt.toNat = 2 * i := by omega
    have n2 : (2 * x + 1).toInt.toNat = 2 * i + 1 := by omega
    obtain ⟨w1, w2⟩ := hR.2.2.2.2.1 i hil
    obtain ⟨-, d1, d2⟩ := hT.2.2.2.2.2 hT1
    have hm := at_mem (d := (0, 0, 0, 0, 0)) hil
    have hme := hOK.2.2.2.2.1 _ hm
    have two := nm_two (b := tbM I0) hTl (hLet _ hm) (by omega) hme.2.1
    rw [← d1, ← d2, ← w1, ← w2] at two
    have as_iff : asF (tbM I0) T (atF (0, 0, 0, 0, 0) s.1 i).1 (atF (0, 0, 0, 0, 0) s.1 i).2.1 ↔ (J 404 17 = J 409 (2 * i) ∧ J 404 18 = J 409 (2 * i + 1)) := by
      rw [two]
      constructor
      · rintro ⟨-, e1, e2⟩; exact ⟨by omega, e2⟩
      · rintro ⟨e1, e2⟩; exact ⟨hT1, by omega, e2⟩
    have next : ¬ asF (tbM I0) T (atF (0, 0, 0, 0, 0) s.1 i).1 (atF (0, 0, 0, 0, 0) s.1 i).2.1 → dw_ok (pr_X12_readKind K) 98 bc bs [some (.ref 404), some (.int kv), some (.int x)] [] (n, SH1, I, J) := by
      intro y
      refine q_inc rfl rfl rfl ?_
      refine q_goto rfl ?_
      refine ih (i + 1) (x + 1) (by omega) (by omega) (by omega) (fun j hj => ?_)
      by_cases e : j = i
      · rw [e]; exact y
      · exact hall j (by omega)
    refine q_ald rfl rfl ?_
    refine q_getr rfl sk_404 sr_404_9 ?_
    refine q_ic rfl ?_
    refine q_ild rfl rfl ?_
    refine q_mul rfl ?_
    refine q_xaldl rfl sk_409 sn_409 (by omega) (show (2 * x).toInt < (16 : Nat) by omega) ?_
    refine q_ald rfl rfl ?_
    refine q_getl rfl sk_404 ?_
    show dw_ok (pr_X12_readKind K) 70 bc bs [some (.ref 404), some (.int kv), some (.int x)] [.long (J 404 17), .long (J 409 (2 * x).toInt.toNat)] (n, SH1, I, J)
    rw [n1]
    refine q_lcmp rfl ?_
    refine q_if (c := 1) rfl (by decide) (fun y => ?_) (fun y => ?_)
    · have y : (lg_cmp (J 409 (2 * i)) (J 404 17)).toInt ≠ 0 := y
      exact next (fun h => y (cmp_e (as_iff.mp h).1.symm))
    have y : (lg_cmp (J 409 (2 * i)) (J 404 17)).toInt = 0 := y
    refine q_ald rfl rfl ?_
    refine q_getr rfl sk_404 sr_404_9 ?_
    refine q_ic rfl ?_
    refine q_ild rfl rfl ?_
    refine q_mul rfl ?_
    refine q_ic rfl ?_
    refine q_add rfl ?_
    refine q_xaldl rfl sk_409 sn_409 (by omega) (show (2 * x + 1).toInt < (16 : Nat) by omega) ?_
    refine q_ald rfl rfl ?_
    refine q_getl rfl sk_404 ?_
    show dw_ok (pr_X12_readKind K) 88 bc bs [some (.ref 404), some (.int kv), some (.int x)] [.long (J 404 18), .long (J 409 (2 * x + 1).toInt.toNat)] (n, SH1, I, J)
    rw [n2]
    refine q_lcmp rfl ?_
    refine q_if (c := 1) rfl (by decide) (fun z => ?_) (fun z => ?_)
    · have z : (lg_cmp (J 409 (2 * i + 1)) (J 404 18)).toInt ≠ 0 := z
      exact next (fun h => z (cmp_e (as_iff.mp h).2.symm))
    have z : (lg_cmp (J 409 (2 * i + 1)) (J 404 18)).toInt = 0 := z
    refine q_ald rfl rfl ?_
    refine q_ic rfl ?_
    refine mb_step (c := 3) rfl rfl gfV hR.1 (fun I2 J2 hI2 g7 g8 => ?_)
    exact hyes (nm_iff.mpr ⟨i, hil, as_iff.mpr ⟨(cmp_0 y).symm, (cmp_0 z).symm⟩⟩) I2 J2 hI2 g7 (g8.trans hT.2.1)
set_option maxRecDepth 8000 in
theorem MK_eq {b : fB} {T : fT} {I I' : Nat → Nat → Int32} {J J' : Nat → Nat → Int64} (h : MK b T I J) (hI : I' 404 = I 404) (hJ : J' 404 = J 404) : MK b T I' J' := by
  unfold MK at h ⊢
  rw [hI, hJ]
  exact h
set_option maxRecDepth 8000 in
theorem GM_J {I0 I : Nat → Nat → Int32} {J0 J : Nat → Nat → Int64} {s : gS} {j : Nat} {v : Int64} (h : GMp I0 J0 I J s) (hj : 2 * s.1.length ≤ j) : GMp I0 J0 I (dw_up J 409 j v) s := by
  obtain ⟨⟨f1, f2, f3, f4⟩, h2, h3, h4, h5, h6, h7⟩ := h
  refine ⟨⟨f1, f2, fun a e1 e2 => (up_row e2).trans (f3 a e1 e2), fun i e1 e2 => ?_⟩, h2, h3, h4, fun i hi => ?_, h6, h7⟩
  · rw [up_row (by decide)]; exact f4 i e1 e2
  · rw [up_fld (show 2 * i ≠ j by omega), up_fld (show 2 * i + 1 ≠ j by omega)]; exact h5 i hi
/-- a kind being told to the model -/
def GKm (I0 : Nat → Nat → Int32) (J0 : Nat → Nat → Int64) (I : Nat → Nat → Int32) (J : Nat → Nat → Int64) (s : gS) (x : gK) (c : Nat) : Prop :=
  GMp I0 J0 I J s ∧ (J 409 (2 * s.1.length) = wdF (tbM I0) x.1 (min x.2.1 8) ∧ J 409 (2 * s.1.length + 1) = wdF (tbM I0) (x.1 + 8) (x.2.1 - 8)) ∧ (1 ≤ c → I 407 (5 + s.1.length) = x.2.2.1) ∧ (2 ≤ c → I 407 (13 + s.1.length) = x.2.2.2.1 ∧ I 407 (21 + s.1.length) = x.2.2.2.2)
set_option maxRecDepth 8000 in
theorem gkmV {I0 : Nat → Nat → Int32} {J0 : Nat → Nat → Int64} {s : gS} {x : gK} {c : Nat} : MInv I0 (fun I J => GKm I0 J0 I J s x c) := by
  refine ⟨fun I J I1 J1 h hA hF hJa hJf => ?_, fun I J h => gmV.2 I J h.1⟩
  obtain ⟨h1, h2, h3, h4⟩ := h
  refine ⟨GM_tok h1 hA hF hJa hJf, ?_, ?_, ?_⟩
  · rw [hJa 409 (by decide)]; exact h2
  · rw [hA 407 (by decide)]; exact h3
  · rw [hA 407 (by decide)]; exact h4
set_option maxRecDepth 8000 in
theorem GKm_done {I0 I : Nat → Nat → Int32} {J0 J : Nat → Nat → Int64} {s : gS} {x : gK} {v : Int32} (h : GKm I0 J0 I J s x 2) (hv : v.toInt = (s.1.length + 1 : Nat)) : GMp I0 J0 (dw_up I 407 2 v) J (x :: s.1, s.2) := by
  obtain ⟨⟨⟨f1, f2, f3, f4⟩, h2, h3, h4, h5, h6, h7⟩, g1, g2, g3⟩ := h
  have ef : ∀ i, i ≠ 2 → dw_up I 407 2 v 407 i = I 407 i := fun i g => up_fld g
  have er : ∀ a, a ≠ 407 → dw_up I 407 2 v a = I a := fun a g => up_row g
  have e2 : dw_up I 407 2 v 407 2 = v := up_same
  generalize dw_up I 407 2 v = I1 at ef er e2 ⊢
  refine ⟨⟨fun a e1 e2 => (er a e2).trans (f1 a e1 e2), fun i e1 e3 => ?_, f3, f4⟩, ?_, ?_, fun i hi => ?_, fun i hi => ?_, fun y hy x hx => ?_, fun i hi => ?_⟩
  · rw [er 404 (by decide)]; exact f2 i e1 e3
  · rw [ef 0 (by decide), ef 1 (by decide), e2, ef 3 (by decide), ef 4 (by decide)]
    exact ⟨h2.1, h2.2.1, hv, h2.2.2.2⟩
  · rw [er 404 (by decide)]; exact h3
  · have hi : i < s.1.length + 1 := hi
    rw [ef (5 + i) (by omega), ef (13 + i) (by omega), ef (21 + i) (by omega)]
    show I 407 (5 + i) = (atF (0, 0, 0, 0, 0) (x :: s.1) i).2.2.1 ∧ I 407 (13 + i) = (atF (0, 0, 0, 0, 0) (x :: s.1) i).2.2.2.1 ∧ I 407 (21 + i) = (atF (0, 0, 0, 0, 0) (x :: s.1) i).2.2.2.2
    by_cases e : i = s.1.length
    · rw [e, at_hd]; exact ⟨g2 (by decide), (g3 (by decide)).1, (g3 (by decide)).2⟩
    · rw [at_tl e]; exact h4 i (by omega)
  · have hi : i < s.1.length + 1 := hi
    show J 409 (2 * i) = wdF (tbM I0) (atF (0, 0, 0, 0, 0) (x :: s.1) i).1 (min (atF (0, 0, 0, 0, 0) (x :: s.1) i).2.1 8) ∧ J 409 (2 * i + 1) = wdF (tbM I0) ((atF (0, 0, 0, 0, 0) (x :: s.1) i).1 + 8) ((atF (0, 0, 0, 0, 0) (x :: s.1) i).2.1 - 8)
    by_cases e : i = s.1.length
    · rw [e, at_hd]; exact g1
    · rw [at_tl e]; exact h5 i (by omega)
  · rw [ef _ (by omega)]; exact h6 y hy x hx
  · rw [ef _ (by omega), ef _ (by omega), ef _ (by omega), ef _ (by omega)]; exact h7 i hi
set_option maxRecDepth 8000 in
theorem mRes_eq {J J0 : Nat → Nat → Int64} (h : mRes J0) (e : J 410 = J0 410) : mRes J := by
  unfold mRes
  rw [e]
  exact h
set_option maxRecDepth 8000 in
theorem GM_col {I0 I : Nat → Nat → Int32} {J0 J : Nat → Nat → Int64} {s : gS} {Ln : Nat} {lt : Int32} (h : GMp I0 J0 I J s) (hlt : lt.toInt = Ln) (hC : s.2.2.1.length = 0 ∨ Ln = s.2.1) : GMp I0 J0 (dw_up I 407 0 lt) J (s.1, Ln, s.2.2) := by
  obtain ⟨⟨f1, f2, f3, f4⟩, h2, h3, h4, h5, h6, h7⟩ := h
  have ef : ∀ i, i ≠ 0 → dw_up I 407 0 lt 407 i = I 407 i := fun i g => up_fld g
  have er : ∀ a, a ≠ 407 → dw_up I 407 0 lt a = I a := fun a g => up_row g
  have e0 : dw_up I 407 0 lt 407 0 = lt := up_same
  generalize dw_up I 407 0 lt = I1 at ef er e0 ⊢
  refine ⟨⟨fun a e1 e2 => (er a e2).trans (f1 a e1 e2), fun i e1 e3 => ?_, f3, f4⟩, ?_, ?_, fun i hi => ?_, h5, fun y hy x hx => ?_, fun i hi => ?_⟩
  · rw [er 404 (by decide)]; exact f2 i e1 e3
  · rw [e0, ef 1 (by decide), ef 2 (by decide), ef 3 (by decide), ef 4 (by decide)]
    exact ⟨hlt, h2.2⟩
  · rw [er 404 (by decide)]; exact h3
  · rw [ef (5 + i) (by omega), ef (13 + i) (by omega), ef (21 + i) (by omega)]; exact h4 i hi
  · have hy : y < s.2.2.1.length := hy
    have hx : x < Ln := hx
    rcases hC with g | g
    · omega
    · subst g
      rw [ef _ (by omega)]; exact h6 y hy x hx
  · rw [ef _ (by omega), ef _ (by omega), ef _ (by omega), ef _ (by omega)]; exact h7 i hi
set_option maxRecDepth 8000 in
theorem GM_row {I0 I : Nat → Nat → Int32} {J0 J : Nat → Nat → Int64} {s : gS} {q : Nat} {rv : Int32} (h : GMp I0 J0 I J s) (hrv : rv.toInt = (s.2.2.1.length + 1 : Nat))
    (hrow : ∀ x, x < s.2.1 → (I 407 (29 + (s.2.2.1.length * s.2.1 + x))).toInt = (tbM I0 (q + x)).toInt - 97) : GMp I0 J0 (dw_up I 407 1 rv) J (s.1, s.2.1, q :: s.2.2.1, s.2.2.2) := by
  obtain ⟨⟨f1, f2, f3, f4⟩, h2, h3, h4, h5, h6, h7⟩ := h
  have ef : ∀ i, i ≠ 1 → dw_up I 407 1 rv 407 i = I 407 i := fun i g => up_fld g
  have er : ∀ a, a ≠ 407 → dw_up I 407 1 rv a = I a := fun a g => up_row g
  have e1 : dw_up I 407 1 rv 407 1 = rv := up_same
  generalize dw_up I 407 1 rv = I1 at ef er e1 ⊢
  refine ⟨⟨fun a e1 e2 => (er a e2).trans (f1 a e1 e2), fun i e1 e3 => ?_, f3, f4⟩, ?_, ?_, fun i hi => ?_, h5, fun y hy x hx => ?_, fun i hi => ?_⟩
  · rw [er 404 (by decide)]; exact f2 i e1 e3
  · rw [e1, ef 0 (by decide), ef 2 (by decide), ef 3 (by decide), ef 4 (by decide)]
    exact ⟨h2.1, hrv, h2.2.2⟩
  · rw [er 404 (by decide)]; exact h3
  · rw [ef (5 + i) (by omega), ef (13 + i) (by omega), ef (21 + i) (by omega)]; exact h4 i hi
  · have hy : y < s.2.2.1.length + 1 := hy
    have hx : x < s.2.1 := hx
    rw [ef _ (by omega)]
    show (I 407 (29 + (y * s.2.1 + x))).toInt = (tbM I0 (atF 0 (q :: s.2.2.1) y + x)).toInt - 97
    by_cases e : y = s.2.2.1.length
    · rw [e, at_hd]; exact hrow x hx
    · rw [at_tl e]; exact h6 y (by omega) x hx
  · rw [ef _ (by omega), ef _ (by omega), ef _ (by omega), ef _ (by omega)]; exact h7 i hi
set_option maxRecDepth 8000 in
theorem GM_shade {I0 I : Nat → Nat → Int32} {J0 J : Nat → Nat → Int64} {s : gS} {v : Int32 × Int32 × Int32 × Int32} {x : Int32} (h : GMp I0 J0 I J s) (hx : x.toInt = (s.2.2.2.1.length + 1 : Nat))
    (g : I 407 (173 + 4 * s.2.2.2.1.length) = v.1 ∧ I 407 (173 + 4 * s.2.2.2.1.length + 1) = v.2.1 ∧ I 407 (173 + 4 * s.2.2.2.1.length + 2) = v.2.2.1 ∧ I 407 (173 + 4 * s.2.2.2.1.length + 3) = v.2.2.2) : GMp I0 J0 (dw_up I 407 3 x) J (s.1, s.2.1, s.2.2.1, v :: s.2.2.2.1, s.2.2.2.2) := by
  obtain ⟨⟨f1, f2, f3, f4⟩, h2, h3, h4, h5, h6, h7⟩ := h
  have ef : ∀ i, i ≠ 3 → dw_up I 407 3 x 407 i = I 407 i := fun i g => up_fld g
  have er : ∀ a, a ≠ 407 → dw_up I 407 3 x a = I a := fun a g => up_row g
  have e3 : dw_up I 407 3 x 407 3 = x := up_same
  generalize dw_up I 407 3 x = I1 at ef er e3 ⊢
  refine ⟨⟨fun a e1 e2 => (er a e2).trans (f1 a e1 e2), fun i e1 e3 => ?_, f3, f4⟩, ?_, ?_, fun i hi => ?_, h5, fun y hy x hx => ?_, fun i hi => ?_⟩
  · rw [er 404 (by decide)]; exact f2 i e1 e3
  · rw [e3, ef 0 (by decide), ef 1 (by decide), ef 2 (by decide), ef 4 (by decide)]
    exact ⟨h2.1, h2.2.1, h2.2.2.1, hx, h2.2.2.2.2⟩
  · rw [er 404 (by decide)]; exact h3
  · rw [ef (5 + i) (by omega), ef (13 + i) (by omega), ef (21 + i) (by omega)]; exact h4 i hi
  · rw [ef _ (by omega)]; exact h6 y hy x hx
  · have hi : i < s.2.2.2.1.length + 1 := hi
    rw [ef _ (by omega), ef _ (by omega), ef _ (by omega), ef _ (by omega)]
    show I 407 (173 + 4 * i) = (atF (0, 0, 0, 0) (v :: s.2.2.2.1) i).1 ∧ I 407 (173 + 4 * i + 1) = (atF (0, 0, 0, 0) (v :: s.2.2.2.1) i).2.1 ∧ I 407 (173 + 4 * i + 2) = (atF (0, 0, 0, 0) (v :: s.2.2.2.1) i).2.2.1 ∧ I 407 (173 + 4 * i + 3) = (atF (0, 0, 0, 0) (v :: s.2.2.2.1) i).2.2.2
    by_cases e : i = s.2.2.2.1.length
    · rw [e, at_hd]; exact g
    · rw [at_tl e]; exact h7 i (by omega)
set_option maxRecDepth 8000 in
theorem v_octet {n : Nat} {I : Nat → Nat → Int32} {J : Nat → Nat → Int64} {K : dw_K} {x : Int32} (h0 : 0 ≤ x.toInt) (h1 : x.toInt < 940) (hk : K (some (.int (I 405 x.toInt.toNat &&& 255))) (n, SH1, I, J)) : t_X12_octet [.ref 404, .int x] (n, SH1, I, J) K := by
  refine q_body (Nat.le_of_ble_eq_true rfl) ?_
  refine q_ald rfl rfl ?_
  refine q_getr rfl sk_404 sr_404_1 ?_
  refine q_ild rfl rfl ?_
  refine q_xald rfl (Or.inr (Or.inr rfl)) sk_405 sn_405 h0 (show x.toInt < (940 : Nat) by omega) ?_
  refine q_ic rfl ?_
  refine q_and rfl ?_
  exact q_iret rfl hk
set_option maxRecDepth 8000 in
/-- the letters asked of a row, one by one -/
theorem mr_loop {n bc bs : Nat} {I0 I : Nat → Nat → Int32} {J0 J : Nat → Nat → Int64} {K : dw_K} {s : gS} {N q Ln : Nat} {rv : Int32} {P : Prop} (hR : GMp I0 J0 I J s) (hK8 : s.1.length ≤ 8) (hN : (I0 404 3).toInt = N) (hN9 : N ≤ 940) (h12 : (I 404 12).toInt = q) (h13 : (I 404 13).toInt = Ln) (hq : q + Ln ≤ N)
    (hk : ∀ (v x : Int32), (v = 1 ∧ P ∧ lrF (tbM I0) q Ln s.1.length) ∨ (v = 0 ∧ ¬ (P ∧ lrF (tbM I0) q Ln s.1.length)) → dw_ok (pr_X12_readRow K) 108 bc bs [some (.ref 404), some (.int rv), some (.int v), some (.int x)] [] (n, SH1, I, J)) :
    ∀ (f i : Nat) (x v : Int32), i + f = Ln → x.toInt = i → ((v = 1 ∧ P ∧ ∀ j, j < i → (tbM I0 (q + j)).toInt < 97 + s.1.length) ∨ (v = 0 ∧ ¬ (P ∧ lrF (tbM I0) q Ln s.1.length))) → dw_ok (pr_X12_readRow K) 62 bc bs [some (.ref 404), some (.int rv), some (.int v), some (.int x)] [] (n, SH1, I, J) := by
  have c1 : (1 : Int32).toInt = 1 := rfl
  have c97 : (97 : Int32).toInt = 97 := rfl
  have hk2 : (I 407 2).toInt = s.1.length := hR.2.1.2.2.1
  have e3 : I 404 3 = I0 404 3 := hR.1.2.1 3 (by decide) (by decide)
  have e405 : I 405 = I0 405 := hR.1.1 405 (by decide) (by decide)
  intro f
  induction f with
  | zero =>
    intro i x v hi hx hv
    refine q_ild rfl rfl ?_
    refine q_ald rfl rfl ?_
    refine q_geti rfl sk_404 ?_
    refine q_icmp (c := 3) rfl (by decide) (fun _ => ?_) (fun h => absurd (show x.toInt < (I 404 13).toInt from h) (by omega))
    refine hk v x (hv.imp (fun h => ⟨h.1, h.2.1, fun j hj => h.2.2 j (by omega)⟩) id)
  | succ f ih =>
    intro i x v hi hx hv
    have t2 : (x + 1).toInt = x.toInt + 1 := by rw [i_add (by omega) (by omega), c1]
    refine q_ild rfl rfl ?_
    refine q_ald rfl rfl ?_
    refine q_geti rfl sk_404 ?_
    refine q_icmp (c := 3) rfl (by decide) (fun h => absurd (show (I 404 13).toInt ≤ x.toInt from h) (by omega)) (fun _ => ?_)
    refine q_ild rfl rfl ?_
    have no : ¬ (P ∧ lrF (tbM I0) q Ln s.1.length) → dw_ok (pr_X12_readRow K) 100 bc bs [some (.ref 404), some (.int rv), some (.int v), some (.int x)] [] (n, SH1, I, J) := by
      intro h
      refine q_ic rfl ?_
      refine q_ist rfl rfl ?_
      refine q_inc rfl rfl rfl ?_
      refine q_goto rfl ?_
      exact ih (i + 1) (x + 1) 0 (by omega) (by omega) (Or.inr ⟨rfl, h⟩)
    rcases hv with ⟨rfl, hP, hall⟩ | ⟨rfl, h⟩
    · refine q_if (c := 0) rfl (by decide) (fun h => absurd (show (1 : Int32).toInt = 0 from h) (by decide)) (fun _ => ?_)
      have t1 : (I 404 12 + x).toInt = (I 404 12).toInt + x.toInt := i_add (by omega) (by omega)
      have eb : I 405 (I 404 12 + x).toInt.toNat &&& 255 = tbM I0 (q + i) := by rw [tbM_in (by rw [hN]; omega), e405, show (I 404 12 + x).toInt.toNat = q + i by omega]
      have hr := tbM_rng (I := I0) (k := q + i)
      have t4 : (tbM I0 (q + i) - 97).toInt = (tbM I0 (q + i)).toInt - 97 := by rw [i_sub (by omega) (by omega), c97]
      refine q_ald rfl rfl ?_
      refine q_ald rfl rfl ?_
      refine q_geti rfl sk_404 ?_
      refine q_ild rfl rfl ?_
      refine q_add rfl ?_
      refine q_callV (as := [.int (I 404 12 + x)]) (rest := []) rfl rfl sk_404 rfl (Nat.le_of_ble_eq_true rfl) ?_
      refine v_octet (by omega) (by omega) ?_
      show dw_ok (pr_X12_readRow K) 84 bc bs [some (.ref 404), some (.int rv), some (.int 1), some (.int x)] [.int (I 405 (I 404 12 + x).toInt.toNat &&& 255)] (n, SH1, I, J)
      rw [eb]
      refine q_ic rfl ?_
      refine q_sub rfl ?_
      refine q_ald rfl rfl ?_
      refine q_getr rfl sk_404 sr_404_7 ?_
      refine q_ic rfl ?_
      refine q_xald rfl (Or.inl rfl) sk_407 sn_407 (by decide) (by decide) ?_
      refine q_icmp (c := 3) rfl (by decide) (fun w => ?_) (fun w => ?_)
      · have w : (I 407 2).toInt ≤ (tbM I0 (q + i) - 97).toInt := w
        exact no (fun h => by have := h.2 i (by omega); omega)
      · have w : (tbM I0 (q + i) - 97).toInt < (I 407 2).toInt := w
        refine q_ic rfl ?_
        refine q_goto rfl ?_
        refine q_ist rfl rfl ?_
        refine q_inc rfl rfl rfl ?_
        refine q_goto rfl ?_
        refine ih (i + 1) (x + 1) 1 (by omega) (by omega) (Or.inl ⟨rfl, hP, fun j hj => ?_⟩)
        by_cases e : j = i
        · rw [e]; omega
        · exact hall j (by omega)
    · refine q_if (c := 0) rfl (by decide) (fun _ => ?_) (fun h => absurd rfl h)
      exact no h
set_option maxRecDepth 8000 in
theorem GM_flag {I0 I : Nat → Nat → Int32} {J0 J : Nat → Nat → Int64} {s : gS} (h : GMp I0 J0 I J s) (hs : s.2.2.2.2 = none) : GMp I0 J0 (dw_up I 404 22 1) J (s.1, s.2.1, s.2.2.1, s.2.2.2.1, some 500) := by
  obtain ⟨⟨f1, f2, f3, f4⟩, h2, h3, h4, h5, h6, h7⟩ := h
  have er : ∀ a, a ≠ 404 → dw_up I 404 22 1 a = I a := fun a g => up_row g
  refine ⟨⟨fun a e1 e2 => (er a e1).trans (f1 a e1 e2), fun i e1 e3 => (up_fld e3).trans (f2 i e1 e3), f3, f4⟩, ?_, ?_, fun i hi => ?_, h5, fun y hy x hx => ?_, fun i hi => ?_⟩
  · rw [er 407 (by decide)]
    rw [hs] at h2
    exact h2
  · rw [up_same]; rfl
  · rw [er 407 (by decide)]; exact h4 i hi
  · rw [er 407 (by decide)]; exact h6 y hy x hx
  · rw [er 407 (by decide)]; exact h7 i hi
set_option maxRecDepth 8000 in
theorem GM_stock {I0 I : Nat → Nat → Int32} {J0 J : Nat → Nat → Int64} {s : gS} {w v : Int32} (h : GMp I0 J0 I J (s.1, s.2.1, s.2.2.1, s.2.2.2.1, some w)) : GMp I0 J0 (dw_up I 407 4 v) J (s.1, s.2.1, s.2.2.1, s.2.2.2.1, some v) := by
  obtain ⟨⟨f1, f2, f3, f4⟩, h2, h3, h4, h5, h6, h7⟩ := h
  have ef : ∀ i, i ≠ 4 → dw_up I 407 4 v 407 i = I 407 i := fun i g => up_fld g
  have er : ∀ a, a ≠ 407 → dw_up I 407 4 v a = I a := fun a g => up_row g
  have e4 : dw_up I 407 4 v 407 4 = v := up_same
  generalize dw_up I 407 4 v = I1 at ef er e4 ⊢
  refine ⟨⟨fun a e1 e2 => (er a e2).trans (f1 a e1 e2), fun i e1 e3 => ?_, f3, f4⟩, ?_, ?_, fun i hi => ?_, h5, fun y hy x hx => ?_, fun i hi => ?_⟩
  · rw [er 404 (by decide)]; exact f2 i e1 e3
  · rw [e4, ef 0 (by decide), ef 1 (by decide), ef 2 (by decide), ef 3 (by decide)]
    exact ⟨h2.1, h2.2.1, h2.2.2.1, h2.2.2.2.1, rfl⟩
  · rw [er 404 (by decide)]; exact h3
  · rw [ef (5 + i) (by omega), ef (13 + i) (by omega), ef (21 + i) (by omega)]; exact h4 i hi
  · rw [ef _ (by omega)]; exact h6 y hy x hx
  · rw [ef _ (by omega), ef _ (by omega), ef _ (by omega), ef _ (by omega)]; exact h7 i hi
set_option maxRecDepth 8000 in
theorem MK_22 {b : fB} {T : fT} {I : Nat → Nat → Int32} {J : Nat → Nat → Int64} {v : Int32} (h : MK b T I J) : MK b T (dw_up I 404 22 v) J := by
  unfold MK at h ⊢
  rw [up_fld (show 11 ≠ 22 by decide), up_fld (show 12 ≠ 22 by decide), up_fld (show 4 ≠ 22 by decide), up_fld (show 14 ≠ 22 by decide), up_fld (show 13 ≠ 22 by decide)]
  exact h
/-- a shade being told to the model -/
def GSm (I0 : Nat → Nat → Int32) (J0 : Nat → Nat → Int64) (I : Nat → Nat → Int32) (J : Nat → Nat → Int64) (s : gS) (v : Int32 × Int32 × Int32 × Int32) (c : Nat) : Prop :=
  GMp I0 J0 I J s ∧ (1 ≤ c → I 407 (173 + 4 * s.2.2.2.1.length) = v.1) ∧ (2 ≤ c → I 407 (173 + 4 * s.2.2.2.1.length + 1) = v.2.1) ∧ (3 ≤ c → I 407 (173 + 4 * s.2.2.2.1.length + 2) = v.2.2.1) ∧ (4 ≤ c → I 407 (173 + 4 * s.2.2.2.1.length + 3) = v.2.2.2)
set_option maxRecDepth 8000 in
theorem gsmV {I0 : Nat → Nat → Int32} {J0 : Nat → Nat → Int64} {s : gS} {v : Int32 × Int32 × Int32 × Int32} {c : Nat} : MInv I0 (fun I J => GSm I0 J0 I J s v c) := by
  refine ⟨fun I J I1 J1 h hA hF hJa hJf => ?_, fun I J h => gmV.2 I J h.1⟩
  obtain ⟨h1, h2⟩ := h
  refine ⟨GM_tok h1 hA hF hJa hJf, ?_⟩
  rw [hA 407 (by decide)]; exact h2
set_option maxRecDepth 8000 in
theorem GM_self {I0 I : Nat → Nat → Int32} {J0 J : Nat → Nat → Int64} {s : gS} (h : GMp I0 J0 I J s) : GMp I J I J s := by
  obtain ⟨e1, e2, e3⟩ := gmV.2 I J h
  have hb : tbM I = tbM I0 := tbM_eq e1 e3
  obtain ⟨f, h2, h3, h4, h5, h6, h7⟩ := h
  refine ⟨⟨fun _ _ _ => rfl, fun _ _ _ => rfl, fun _ _ _ => rfl, fun _ _ _ => rfl⟩, h2, h3, h4, ?_, ?_, h7⟩
  · rw [hb]; exact h5
  · rw [hb]; exact h6
set_option maxRecDepth 8000 in
theorem GM_20 {I : Nat → Nat → Int32} {J : Nat → Nat → Int64} {s : gS} {v : Int32} (h : GMp I J I J s) : GMp (dw_up I 404 20 v) J (dw_up I 404 20 v) J s := by
  have er : ∀ a, a ≠ 404 → dw_up I 404 20 v a = I a := fun a g => up_row g
  have e22 : dw_up I 404 20 v 404 22 = I 404 22 := up_fld (by decide)
  have hb : tbM (dw_up I 404 20 v) = tbM I := tbM_eq (up_fld (by decide)) (up_row (by decide))
  obtain ⟨f, h2, h3, h4, h5, h6, h7⟩ := h
  generalize dw_up I 404 20 v = I1 at er e22 hb ⊢
  refine ⟨⟨fun _ _ _ => rfl, fun _ _ _ => rfl, fun _ _ _ => rfl, fun _ _ _ => rfl⟩, ?_, ?_, ?_, ?_, ?_, ?_⟩
  · rw [er 407 (by decide)]; exact h2
  · rw [e22]; exact h3
  · rw [er 407 (by decide)]; exact h4
  · rw [hb]; exact h5
  · rw [hb, er 407 (by decide)]; exact h6
  · rw [er 407 (by decide)]; exact h7
set_option maxRecDepth 8000 in
theorem MK_20 {b : fB} {T : fT} {I : Nat → Nat → Int32} {J : Nat → Nat → Int64} {v : Int32} (h : MK b T I J) : MK b T (dw_up I 404 20 v) J := by
  unfold MK at h ⊢
  rw [up_fld (show 11 ≠ 20 by decide), up_fld (show 12 ≠ 20 by decide), up_fld (show 4 ≠ 20 by decide), up_fld (show 14 ≠ 20 by decide), up_fld (show 13 ≠ 20 by decide)]
  exact h
end
section
/-! ===== a GROUND's lines read by the model ===== -/
set_option maxRecDepth 8000 in
set_option maxHeartbeats 4000000 in
theorem v_mkind {n : Nat} {I : Nat → Nat → Int32} {J : Nat → Nat → Int64} {K : dw_K} {I0 : Nat → Nat → Int32} {J0 : Nat → Nat → Int64} {s : gS} {T : fT} {N m : Nat} (hR : GMp I0 J0 I J s) (hOK : gOK N s) (hLet : gLet (tbM I0) s) (hJ : mRes J0) (hN : (I0 404 3).toInt = N) (hN9 : N ≤ 940) (hm : (I0 404 5).toInt = m) (hT : MK (tbM I0) T I J) (hTN : T.2.2.1 ≤ N) (hw1 : T.1 = 1)
    (hok : ∀ (T' : fT) (p' : Nat) (s' : gS) (I' : Nat → Nat → Int32) (J' : Nat → Nat → Int64), (gkA (tbM I0) N m T s) = stG T' (fun p => (0, 0, p, s')) → T' = tkF (tbM I0) N m p' → p' ≤ N → T.2.2.1 ≤ p' → MK (tbM I0) T' I' J' → GMp I0 J0 I' J' s' → gOK N s' → gLet (tbM I0) s' → K (some (.int 1)) (n, SH1, I', J'))
    (hno : (gkA (tbM I0) N m T s).1 ≠ 0 → ∀ (I' : Nat → Nat → Int32) (J' : Nat → Nat → Int64), GMf I0 J0 I' J' → (I' 404 15).toInt = (gkA (tbM I0) N m T s).1 → (I' 404 16).toInt = (gkA (tbM I0) N m T s).2.1 → K (some (.int 0)) (n, SH1, I', J')) : t_X12_readKind [.ref 404] (n, SH1, I, J) K := by
  have c8 : (8 : Int32).toInt = 8 := rfl
  have c5 : (5 : Int32).toInt = 5 := rfl
  have c13 : (13 : Int32).toInt = 13 := rfl
  have c21 : (21 : Int32).toInt = 21 := rfl
  have c2 : (2 : Int32).toInt = 2 := rfl
  have c1 : (1 : Int32).toInt = 1 := rfl
  have hk1 : (I 407 1).toInt = s.2.2.1.length := hR.2.1.2.1
  have hk2 : (I 407 2).toInt = s.1.length := hR.2.1.2.2.1
  have hK8 := hOK.1
  have h144 : s.1.length ≤ 8 ∧ s.2.2.1.length * s.2.1 ≤ 144 := ⟨hOK.1, Nat.le_trans (Nat.mul_le_mul hOK.2.2.1 hOK.2.1) (Nat.le_of_ble_eq_true rfl)⟩
  refine q_body (Nat.le_of_ble_eq_true rfl) ?_
  refine q_ald rfl rfl ?_
  refine q_getr rfl sk_404 sr_404_7 ?_
  refine q_ic rfl ?_
  refine q_xald rfl (Or.inl rfl) sk_407 sn_407 (by decide) (by decide) ?_
  refine q_ist rfl rfl ?_
  show dw_ok (pr_X12_readKind K) 7 0 0 [some (.ref 404), some (.int (I 407 2)), none] [] (n, SH1, I, J)
  refine q_ald rfl rfl ?_
  refine q_getr rfl sk_404 sr_404_7 ?_
  refine q_ic rfl ?_
  refine q_xald rfl (Or.inl rfl) sk_407 sn_407 (by decide) (by decide) ?_
  show dw_ok (pr_X12_readKind K) 13 0 0 [some (.ref 404), some (.int (I 407 2)), none] [.int (I 407 1)] (n, SH1, I, J)
  generalize I 407 2 = kv at hk2 ⊢
  refine q_if (c := 5) rfl (by decide) (fun g => ?_) (fun g => ?_)
  rotate_left
  · have g : 0 < (I 407 1).toInt := g
    have c0 : 0 < s.2.2.1.length := by omega
    refine q_ald rfl rfl ?_
    refine q_ic rfl ?_
    refine mb_step (c := 3) rfl rfl gfV hR.1 (fun I9 J9 hI9 g7 g8 => ?_)
    rw [hT.2.1] at g8
    have eR : (gkA (tbM I0) N m T s) = (3, T.2.1, 0, g0) := by simp only [gkA, nbG, c0, ne_eq, not_false_eq_true, not_true_eq_false, ↓reduceIte]
    rw [eR] at hno
    exact hno (nn rfl) I9 J9 hI9 g7 g8
  have g : (I 407 1).toInt ≤ 0 := g
  have c0 : ¬ (0 < s.2.2.1.length) := by omega
  refine q_ild rfl rfl ?_
  refine q_ic rfl ?_
  refine q_icmp (c := 1) rfl (by decide) (fun g => ?_) (fun g => ?_)
  rotate_left
  · have g : kv.toInt = (8 : Int32).toInt := g
    have d8 : 8 ≤ s.1.length := by omega
    refine q_ald rfl rfl ?_
    refine q_ic rfl ?_
    refine mb_step (c := 4) rfl rfl gfV hR.1 (fun I9 J9 hI9 g7 g8 => ?_)
    rw [hT.2.1] at g8
    have eR : (gkA (tbM I0) N m T s) = (4, T.2.1, 0, g0) := by simp only [gkA, nbG, c0, d8, ne_eq, not_false_eq_true, not_true_eq_false, ↓reduceIte]
    rw [eR] at hno
    exact hno (nn rfl) I9 J9 hI9 g7 g8
  have g : kv.toInt ≠ (8 : Int32).toInt := g
  have d8 : ¬ (8 ≤ s.1.length) := by omega
  refine q_ald rfl rfl ?_
  obtain ⟨T1, hT1⟩ : ∃ t, t = tkF (tbM I0) N m T.2.2.1 := ⟨_, rfl⟩
  have hinT1 := tkF_in (b := tbM I0) (n := N) (m := m) (p := T.2.2.1) hTN
  refine mn_step (p := T.2.2.1) rfl gmV hR hN hN9 hm hTN (hT.2.2.1 (Or.inl hw1)) (fun I1 J1 hR1 hMT1 => ?_)
  rw [← hT1] at hMT1 hinT1
  have hword := tk_word (b := tbM I0) (n := N) (m := m) (p := T.2.2.1)
  rw [← hT1] at hword
  refine q_ald rfl rfl ?_
  refine q_callV (as := []) (rest := []) rfl rfl sk_404 rfl (Nat.le_of_ble_eq_true rfl) ?_
  have hM1 := hMT1
  rw [hT1] at hM1
  refine v_isName hM1 hTN (mRes_eq hJ (hR1.1.2.2.1 410 (by decide) (by decide))) (fun v hv => ?_)
  rw [← hT1] at hv
  show dw_ok (pr_X12_readKind K) 42 0 0 [some (.ref 404), some (.int kv), none] [.int v] (n, SH1, I1, J1)
  rcases hv with ⟨rfl, eT1, y⟩ | ⟨rfl, hv⟩
  rotate_left
  · refine q_if (c := 1) rfl (by decide) (fun h => absurd rfl h) (fun _ => ?_)
    refine q_ald rfl rfl ?_
    refine q_ic rfl ?_
    refine mb_step (c := 1) rfl rfl gfV hR1.1 (fun I9 J9 hI9 g7 g8 => ?_)
    rw [hMT1.2.1] at g8
    have eR : (gkA (tbM I0) N m T s) = (1, T1.2.1, 0, g0) := by
      by_cases e : T1.1 = 1
      · have y : tdF (tbM I0) T1 := by
          by_cases y : tdF (tbM I0) T1
          · exact y
          · exact absurd ⟨e, y⟩ hv
        simp only [gkA, nbG, c0, d8, ← hT1, e, y, ne_eq, not_false_eq_true, not_true_eq_false, ↓reduceIte]
      · simp only [gkA, nbG, c0, d8, ← hT1, e, ne_eq, not_false_eq_true, not_true_eq_false, ↓reduceIte]
    rw [eR] at hno
    exact hno (nn rfl) I9 J9 hI9 g7 g8
  obtain ⟨d1, d2, d3⟩ := hword eT1 hTN
  refine q_if (c := 1) rfl (by decide) (fun _ => ?_) (fun h => absurd (show (1 : Int32).toInt = 0 from h) (by decide))
  refine q_ic rfl ?_
  refine q_ist rfl rfl ?_
  refine mm_loop (T := T1) hR1 hOK hLet hMT1 eT1 d2 (by omega) d3 hk2 (fun y2 I9 J9 hI9 g7 g8 => ?_) (fun y2 x => ?_) s.1.length 0 0 rfl (Nat.zero_le _) (Nat.le_refl _) (fun j hj => absurd hj (Nat.not_lt_zero j))
  · skip
    have eR : (gkA (tbM I0) N m T s) = (3, T1.2.1, 0, g0) := by simp only [gkA, nbG, c0, d8, ← hT1, eT1, y, y2, ne_eq, not_false_eq_true, not_true_eq_false, ↓reduceIte]
    rw [eR] at hno
    exact hno (nn rfl) I9 J9 hI9 g7 g8
  have hkn : kv.toInt.toNat = s.1.length := by omega
  have tm : (2 * kv).toInt = 2 * s.1.length := i_mul (by rw [c2, hk2]) (by omega) (by omega)
  have tm1 : (2 * kv + 1).toInt = 2 * s.1.length + 1 := by rw [i_add (by omega) (by omega), tm, c1]
  have t5 : (5 + kv).toInt = 5 + s.1.length := by rw [i_add (by omega) (by omega), c5, hk2]
  have t13 : (13 + kv).toInt = 13 + s.1.length := by rw [i_add (by omega) (by omega), c13, hk2]
  have t21 : (21 + kv).toInt = 21 + s.1.length := by rw [i_add (by omega) (by omega), c21, hk2]
  have nm : (2 * kv).toInt.toNat = 2 * s.1.length := by omega
  have nm1 : (2 * kv + 1).toInt.toNat = 2 * s.1.length + 1 := by omega
  have n5 : (5 + kv).toInt.toNat = 5 + s.1.length := by omega
  have n13 : (13 + kv).toInt.toNat = 13 + s.1.length := by omega
  have n21 : (21 + kv).toInt.toNat = 21 + s.1.length := by omega
  refine q_ald rfl rfl ?_
  refine q_getr rfl sk_404 sr_404_9 ?_
  refine q_ic rfl ?_
  refine q_ild rfl rfl ?_
  refine q_mul rfl ?_
  refine q_ald rfl rfl ?_
  refine q_getl rfl sk_404 ?_
  refine q_last rfl sk_409 sn_409 (by omega) (show (2 * kv).toInt < (16 : Nat) by omega) ?_
  refine q_ald rfl rfl ?_
  refine q_getr rfl sk_404 sr_404_9 ?_
  refine q_ic rfl ?_
  refine q_ild rfl rfl ?_
  refine q_mul rfl ?_
  refine q_ic rfl ?_
  refine q_add rfl ?_
  refine q_ald rfl rfl ?_
  refine q_getl rfl sk_404 ?_
  refine q_last rfl sk_409 sn_409 (by omega) (show (2 * kv + 1).toInt < (16 : Nat) by omega) ?_
  show dw_ok (pr_X12_readKind K) 130 0 0 [some (.ref 404), some (.int kv), some (.int x)] [] (n, SH1, I1, dw_up (dw_up J1 409 (2 * kv).toInt.toNat (J1 404 17)) 409 (2 * kv + 1).toInt.toNat (J1 404 18))
  rw [nm, nm1]
  obtain ⟨sp, wd1, wd2⟩ := hMT1.2.2.2.2.2 eT1
  have hG2 : GKm I0 J0 I1 (dw_up (dw_up J1 409 (2 * s.1.length) (J1 404 17)) 409 (2 * s.1.length + 1) (J1 404 18)) s (T1.2.1, T1.2.2.1 - T1.2.1, 0, 0, 0) 0 := ⟨GM_J (GM_J hR1 (by omega)) (by omega), ⟨(up_fld (by omega)).trans (up_same.trans wd1), up_same.trans wd2⟩, fun h => absurd h (by decide), fun h => absurd h (by decide)⟩
  generalize dw_up (dw_up J1 409 (2 * s.1.length) (J1 404 17)) 409 (2 * s.1.length + 1) (J1 404 18) = J2 at hG2 ⊢
  refine q_ald rfl rfl ?_
  obtain ⟨T2, hT2⟩ : ∃ t, t = tkF (tbM I0) N m T1.2.2.1 := ⟨_, rfl⟩
  have hinT2 := tkF_in (b := tbM I0) (n := N) (m := m) (p := T1.2.2.1) hinT1.2.2.1
  refine mn_step (p := T1.2.2.1) rfl gkmV hG2 hN hN9 hm hinT1.2.2.1 (hMT1.2.2.1 (Or.inl eT1)) (fun I3 J3 hG3 hMT2 => ?_)
  rw [← hT2] at hMT2 hinT2
  refine q_ald rfl rfl ?_
  refine q_ic rfl ?_
  refine q_ic rfl ?_
  obtain ⟨T3, hT3⟩ : ∃ t, t = tkF (tbM I0) N m T2.2.2.1 := ⟨_, rfl⟩
  have hinT3 := tkF_in (b := tbM I0) (n := N) (m := m) (p := T2.2.2.1) hinT2.2.2.1
  refine mt_step (T := T2) rfl rfl rfl rfl gkmV hG3 hN hN9 hm hMT2 hinT2.2.2.1 ?_ ?_
  rotate_left
  · intro e I9 J9 hI9 g7 g8
    have e : nbF T2 1 50 ≠ 0 := e
    have eR : (gkA (tbM I0) N m T s) = (nbF T2 1 50, T2.2.1, 0, g0) := by simp only [gkA, nbG, c0, d8, ← hT1, eT1, y, y2, ← hT2, e, ne_eq, not_false_eq_true, not_true_eq_false, ↓reduceIte]
    rw [eR] at hno
    exact hno e I9 J9 hI9.1.1 g7 g8
  intro eT2 I4 J4 hG4 hMT3 gT2
  rw [← hT3] at hMT3 hinT3
  have eT2 : nbF T2 1 50 = 0 := eT2
  refine q_ald rfl rfl ?_
  refine q_getr rfl sk_404 sr_404_7 ?_
  refine q_ic rfl ?_
  refine q_ild rfl rfl ?_
  refine q_add rfl ?_
  refine q_ald rfl rfl ?_
  refine q_geti rfl sk_404 ?_
  refine q_iast rfl sk_407 sn_407 (by omega) (show (5 + kv).toInt < (221 : Nat) by omega) ?_
  show dw_ok (pr_X12_readKind K) 158 0 0 [some (.ref 404), some (.int kv), some (.int x)] [] (n, SH1, dw_up I4 407 (5 + kv).toInt.toNat (I4 404 19), J4)
  rw [n5, gT2]
  have hG5 : GKm I0 J0 (dw_up I4 407 (5 + s.1.length) T2.2.2.2) J4 s (T1.2.1, T1.2.2.1 - T1.2.1, T2.2.2.2, 0, 0) 1 := ⟨GM_h hG4.1 h144 (Or.inl ⟨s.1.length, Nat.le_refl _, by omega, Or.inl rfl⟩), hG4.2.1, fun _ => up_same, fun h => absurd h (by decide)⟩
  have hM5 := MK_eq (I' := dw_up I4 407 (5 + s.1.length) T2.2.2.2) hMT3 (up_row (by decide)) rfl
  generalize dw_up I4 407 (5 + s.1.length) T2.2.2.2 = I5 at hG5 hM5 ⊢
  refine q_ald rfl rfl ?_
  refine q_ic rfl ?_
  refine q_ic rfl ?_
  obtain ⟨T4, hT4⟩ : ∃ t, t = tkF (tbM I0) N m T3.2.2.1 := ⟨_, rfl⟩
  have hinT4 := tkF_in (b := tbM I0) (n := N) (m := m) (p := T3.2.2.1) hinT3.2.2.1
  refine mt_step (T := T3) rfl rfl rfl rfl gkmV hG5 hN hN9 hm hM5 hinT3.2.2.1 ?_ ?_
  rotate_left
  · intro e I9 J9 hI9 g7 g8
    have e : nbF T3 0 99 ≠ 0 := e
    have eR : (gkA (tbM I0) N m T s) = (nbF T3 0 99, T3.2.1, 0, g0) := by simp only [gkA, nbG, c0, d8, ← hT1, eT1, y, y2, ← hT2, eT2, ← hT3, e, ne_eq, not_false_eq_true, not_true_eq_false, ↓reduceIte]
    rw [eR] at hno
    exact hno e I9 J9 hI9.1.1 g7 g8
  intro eT3 I6 J6 hG6 hMT4 gT3
  rw [← hT4] at hMT4 hinT4
  have eT3 : nbF T3 0 99 = 0 := eT3
  refine q_ald rfl rfl ?_
  refine q_getr rfl sk_404 sr_404_7 ?_
  refine q_ic rfl ?_
  refine q_ild rfl rfl ?_
  refine q_add rfl ?_
  refine q_ald rfl rfl ?_
  refine q_geti rfl sk_404 ?_
  refine q_iast rfl sk_407 sn_407 (by omega) (show (13 + kv).toInt < (221 : Nat) by omega) ?_
  refine q_ald rfl rfl ?_
  refine q_getr rfl sk_404 sr_404_7 ?_
  refine q_ic rfl ?_
  refine q_ild rfl rfl ?_
  refine q_add rfl ?_
  refine q_ic rfl ?_
  refine q_iast rfl sk_407 sn_407 (by omega) (show (21 + kv).toInt < (221 : Nat) by omega) ?_
  show dw_ok (pr_X12_readKind K) 193 0 0 [some (.ref 404), some (.int kv), some (.int x)] [] (n, SH1, dw_up (dw_up I6 407 (13 + kv).toInt.toNat (I6 404 19)) 407 (21 + kv).toInt.toNat 0, J6)
  rw [n13, n21, gT3]
  have hG7 : GKm I0 J0 (dw_up (dw_up I6 407 (13 + s.1.length) T3.2.2.2) 407 (21 + s.1.length) 0) J6 s (T1.2.1, T1.2.2.1 - T1.2.1, T2.2.2.2, T3.2.2.2, 0) 2 := ⟨GM_h (GM_h hG6.1 h144 (Or.inl ⟨s.1.length, Nat.le_refl _, by omega, Or.inr (Or.inl rfl)⟩)) h144 (Or.inl ⟨s.1.length, Nat.le_refl _, by omega, Or.inr (Or.inr rfl)⟩), hG6.2.1, fun _ => (up_fld (by omega)).trans ((up_fld (by omega)).trans (hG6.2.2.1 (by decide))), fun _ => ⟨(up_fld (by omega)).trans up_same, up_same⟩⟩
  have hM7 := MK_eq (I' := dw_up (dw_up I6 407 (13 + s.1.length) T3.2.2.2) 407 (21 + s.1.length) 0) hMT4 ((up_row (by decide)).trans (up_row (by decide))) rfl
  generalize dw_up (dw_up I6 407 (13 + s.1.length) T3.2.2.2) 407 (21 + s.1.length) 0 = I7 at hG7 hM7 ⊢
  have hmem : ∀ (a b c : Int32), gOK N ((T1.2.1, T1.2.2.1 - T1.2.1, a, b, c) :: s.1, s.2) ∧ gLet (tbM I0) ((T1.2.1, T1.2.2.1 - T1.2.1, a, b, c) :: s.1, s.2) := by
    intro a b c
    have q := hinT1.2.2.1
    refine ⟨⟨show s.1.length + 1 ≤ 8 by omega, hOK.2.1, hOK.2.2.1, hOK.2.2.2.1, fun z hz => ?_, hOK.2.2.2.2.2⟩, fun z hz => ?_⟩
    · rcases List.mem_cons.mp hz with rfl | hz
      · exact ⟨show T1.2.1 + (T1.2.2.1 - T1.2.1) ≤ N by omega, show T1.2.2.1 - T1.2.1 ≤ 12 by omega, show 1 ≤ T1.2.2.1 - T1.2.1 by omega⟩
      · exact hOK.2.2.2.2.1 z hz
    · rcases List.mem_cons.mp hz with rfl | hz
      · exact d3
      · exact hLet z hz
  -- the kinds' number, the end
  have fin : ∀ (T' : fT) (p' : Nat) (x5 : Int32) (I' : Nat → Nat → Int32) (J' : Nat → Nat → Int64), (gkA (tbM I0) N m T s) = stG T' (fun p => (0, 0, p, (T1.2.1, T1.2.2.1 - T1.2.1, T2.2.2.2, T3.2.2.2, x5) :: s.1, s.2)) → T' = tkF (tbM I0) N m p' → p' ≤ N → T.2.2.1 ≤ p' → MK (tbM I0) T' I' J' → GKm I0 J0 I' J' s (T1.2.1, T1.2.2.1 - T1.2.1, T2.2.2.2, T3.2.2.2, x5) 2 → dw_ok (pr_X12_readKind K) 232 0 0 [some (.ref 404), some (.int kv), some (.int x)] [] (n, SH1, I', J') := by
    intro T' p' x5 I' J' eG eT' hp' hpp hM' hG'
    have hk' : (I' 407 2).toInt = s.1.length := hG'.1.2.1.2.2.1
    have tv : (I' 407 2 + 1).toInt = (s.1.length + 1 : Nat) := by rw [i_add (by omega) (by omega), c1, hk']; omega
    refine q_ald rfl rfl ?_
    refine q_getr rfl sk_404 sr_404_7 ?_
    refine q_ic rfl ?_
    refine q_dup2 rfl ?_
    refine q_xald rfl (Or.inl rfl) sk_407 sn_407 (by decide) (by decide) ?_
    refine q_ic rfl ?_
    refine q_add rfl ?_
    refine q_iast rfl sk_407 sn_407 (by decide) (by decide) ?_
    show dw_ok (pr_X12_readKind K) 242 0 0 [some (.ref 404), some (.int kv), some (.int x)] [] (n, SH1, dw_up I' 407 2 (I' 407 2 + 1), J')
    refine q_ic rfl ?_
    exact q_zret rfl (Or.inr rfl) (hok T' p' _ _ _ eG eT' hp' hpp (MK_eq hM' (up_row (by decide)) rfl) (GKm_done hG' tv) (hmem _ _ _).1 (hmem _ _ _).2)
  refine q_ald rfl rfl ?_
  refine q_lc rfl ?_
  have hM7' := hM7
  rw [hT4] at hM7'
  refine mw_step (i := 14) (p := T3.2.2.1) rfl hM7' hinT3.2.2.1 (by decide +kernel) (by decide +kernel) (sm_ok (by decide)) (by decide +kernel) (fun sy => ?_) (fun sy => ?_)
  rotate_left
  · rw [← hT4] at sy
    refine q_if (c := 0) rfl (by decide) (fun _ => ?_) (fun h => absurd rfl h)
    exact fin T4 T3.2.2.1 0 I7 J6 (by simp only [gkA, nbG, c0, d8, ← hT1, eT1, y, y2, ← hT2, eT2, ← hT3, eT3, ← hT4, if_neg sy, ne_eq, not_false_eq_true, not_true_eq_false, ↓reduceIte]) hT4 hinT3.2.2.1 (by omega) hM7 hG7
  rw [← hT4] at sy
  refine q_if (c := 0) rfl (by decide) (fun h => absurd (show (1 : Int32).toInt = 0 from h) (by decide)) (fun _ => ?_)
  refine q_ald rfl rfl ?_
  obtain ⟨T5, hT5⟩ : ∃ t, t = tkF (tbM I0) N m T4.2.2.1 := ⟨_, rfl⟩
  have hinT5 := tkF_in (b := tbM I0) (n := N) (m := m) (p := T4.2.2.1) hinT4.2.2.1
  refine mn_step (p := T4.2.2.1) rfl gkmV hG7 hN hN9 hm hinT4.2.2.1 (hM7.2.2.1 (Or.inl sy.1)) (fun I8 J8 hG8 hMT5 => ?_)
  rw [← hT5] at hMT5 hinT5
  refine q_ald rfl rfl ?_
  refine q_ic rfl ?_
  refine q_ic rfl ?_
  obtain ⟨T6, hT6⟩ : ∃ t, t = tkF (tbM I0) N m T5.2.2.1 := ⟨_, rfl⟩
  have hinT6 := tkF_in (b := tbM I0) (n := N) (m := m) (p := T5.2.2.1) hinT5.2.2.1
  refine mt_step (T := T5) rfl rfl rfl rfl gkmV hG8 hN hN9 hm hMT5 hinT5.2.2.1 ?_ ?_
  rotate_left
  · intro e I9 J9 hI9 g7 g8
    have e : nbF T5 1 9 ≠ 0 := e
    have eR : (gkA (tbM I0) N m T s) = (nbF T5 1 9, T5.2.1, 0, g0) := by simp only [gkA, nbG, c0, d8, ← hT1, eT1, y, y2, ← hT2, eT2, ← hT3, eT3, ← hT4, if_pos sy, ← hT5, e, ne_eq, not_false_eq_true, not_true_eq_false, ↓reduceIte]
    rw [eR] at hno
    exact hno e I9 J9 hI9.1.1 g7 g8
  intro eT5 Ia Ja hGa hMT6 gT5
  rw [← hT6] at hMT6 hinT6
  have eT5 : nbF T5 1 9 = 0 := eT5
  refine q_ald rfl rfl ?_
  refine q_getr rfl sk_404 sr_404_7 ?_
  refine q_ic rfl ?_
  refine q_ild rfl rfl ?_
  refine q_add rfl ?_
  refine q_ald rfl rfl ?_
  refine q_geti rfl sk_404 ?_
  refine q_iast rfl sk_407 sn_407 (by omega) (show (21 + kv).toInt < (221 : Nat) by omega) ?_
  show dw_ok (pr_X12_readKind K) 232 0 0 [some (.ref 404), some (.int kv), some (.int x)] [] (n, SH1, dw_up Ia 407 (21 + kv).toInt.toNat (Ia 404 19), Ja)
  rw [n21, gT5]
  refine fin T6 T5.2.2.1 T5.2.2.2 _ _ (by simp only [gkA, nbG, c0, d8, ← hT1, eT1, y, y2, ← hT2, eT2, ← hT3, eT3, ← hT4, if_pos sy, ← hT5, eT5, ← hT6, ne_eq, not_false_eq_true, not_true_eq_false, ↓reduceIte]) hT6 hinT5.2.2.1 (by omega) (MK_eq hMT6 (up_row (by decide)) rfl) ⟨GM_h hGa.1 h144 (Or.inl ⟨s.1.length, Nat.le_refl _, by omega, Or.inr (Or.inr rfl)⟩), hGa.2.1, fun _ => (up_fld (by omega)).trans (hGa.2.2.1 (by decide)), fun _ => ⟨(up_fld (by omega)).trans (hGa.2.2.2 (by decide)).1, up_same⟩⟩
set_option maxRecDepth 8000 in
theorem mw_loop {n bc bs : Nat} {I0 I1 : Nat → Nat → Int32} {J0 J : Nat → Nat → Int64} {K : dw_K} {s : gS} {N q Ln : Nat} {rv v2 : Int32} (hOK : gOK N s) (hC : s.2.1 = Ln) (h144 : s.2.2.1.length * Ln + Ln ≤ 144) (hN : (I0 404 3).toInt = N) (hN9 : N ≤ 940) (h12 : (I1 404 12).toInt = q) (h13 : (I1 404 13).toInt = Ln) (hq : q + Ln ≤ N) (hrv : rv.toInt = s.2.2.1.length)
    (hk : ∀ (x : Int32) (I : Nat → Nat → Int32), GMp I0 J0 I J s → I 404 = I1 404 → (∀ j, j < Ln → (I 407 (29 + (s.2.2.1.length * Ln + j))).toInt = (tbM I0 (q + j)).toInt - 97) → dw_ok (pr_X12_readRow K) 173 bc bs [some (.ref 404), some (.int rv), some (.int v2), some (.int x)] [] (n, SH1, I, J)) :
    ∀ (f i : Nat) (x : Int32) (I : Nat → Nat → Int32), i + f = Ln → x.toInt = i → GMp I0 J0 I J s → I 404 = I1 404 → (∀ j, j < i → (I 407 (29 + (s.2.2.1.length * Ln + j))).toInt = (tbM I0 (q + j)).toInt - 97) → dw_ok (pr_X12_readRow K) 130 bc bs [some (.ref 404), some (.int rv), some (.int v2), some (.int x)] [] (n, SH1, I, J) := by
  have c1 : (1 : Int32).toInt = 1 := rfl
  have c29 : (29 : Int32).toInt = 29 := rfl
  have c97 : (97 : Int32).toInt = 97 := rfl
  intro f
  induction f with
  | zero =>
    intro i x I hi hx hR e4 hall
    refine q_ild rfl rfl ?_
    refine q_ald rfl rfl ?_
    refine q_geti rfl sk_404 ?_
    rw [show (n, SH1, I, J).2.2.1 404 13 = I1 404 13 from congrFun e4 13]
    refine q_icmp (c := 3) rfl (by decide) (fun _ => ?_) (fun h => absurd (show x.toInt < (I1 404 13).toInt from h) (by omega))
    exact hk x I hR e4 (fun j hj => hall j (by omega))
  | succ f ih =>
    intro i x I hi hx hR e4 hall
    have e412 : I 404 12 = I1 404 12 := congrFun e4 12
    have e413 : I 404 13 = I1 404 13 := congrFun e4 13
    have g12 : (I 404 12).toInt = q := by rw [e412]; exact h12
    have g13 : (I 404 13).toInt = Ln := by rw [e413]; exact h13
    have e3 : I 404 3 = I0 404 3 := hR.1.2.1 3 (by decide) (by decide)
    have e405 : I 405 = I0 405 := hR.1.1 405 (by decide) (by decide)
    have t2 : (x + 1).toInt = x.toInt + 1 := by rw [i_add (by omega) (by omega), c1]
    have tm : (I 404 13 * rv).toInt = (s.2.2.1.length * Ln : Nat) := i_mul (by rw [e413, h13, hrv, Int.mul_comm]; exact (Int.natCast_mul _ _).symm) (by omega) (by omega)
    have ta : (29 + I 404 13 * rv).toInt = 29 + (s.2.2.1.length * Ln : Nat) := by rw [i_add (by omega) (by omega), tm, c29]
    have tb : (29 + I 404 13 * rv + x).toInt = 29 + (s.2.2.1.length * Ln : Nat) + i := by rw [i_add (by omega) (by omega), ta, hx]
    have t1 : (I 404 12 + x).toInt = (I 404 12).toInt + x.toInt := i_add (by omega) (by omega)
    have eb : I 405 (I 404 12 + x).toInt.toNat &&& 255 = tbM I0 (q + i) := by rw [tbM_in (by rw [hN]; omega), e405, show (I 404 12 + x).toInt.toNat = q + i by omega]
    have hr := tbM_rng (I := I0) (k := q + i)
    have t4 : (tbM I0 (q + i) - 97).toInt = (tbM I0 (q + i)).toInt - 97 := by rw [i_sub (by omega) (by omega), c97]
    refine q_ild rfl rfl ?_
    refine q_ald rfl rfl ?_
    refine q_geti rfl sk_404 ?_
    refine q_icmp (c := 3) rfl (by decide) (fun h => absurd (show (I 404 13).toInt ≤ x.toInt from h) (by omega)) (fun _ => ?_)
    refine q_ald rfl rfl ?_
    refine q_getr rfl sk_404 sr_404_7 ?_
    refine q_ic rfl ?_
    refine q_ald rfl rfl ?_
    refine q_geti rfl sk_404 ?_
    refine q_ild rfl rfl ?_
    refine q_mul rfl ?_
    refine q_add rfl ?_
    refine q_ild rfl rfl ?_
    refine q_add rfl ?_
    refine q_ald rfl rfl ?_
    refine q_ald rfl rfl ?_
    refine q_geti rfl sk_404 ?_
    refine q_ild rfl rfl ?_
    refine q_add rfl ?_
    refine q_callV (as := [.int (I 404 12 + x)]) (rest := [.int (29 + I 404 13 * rv + x), .ref 407]) rfl rfl sk_404 rfl (Nat.le_of_ble_eq_true rfl) ?_
    refine v_octet (by omega) (by omega) ?_
    show dw_ok (pr_X12_readRow K) 163 bc bs [some (.ref 404), some (.int rv), some (.int v2), some (.int x)] [.int (I 405 (I 404 12 + x).toInt.toNat &&& 255), .int (29 + I 404 13 * rv + x), .ref 407] (n, SH1, I, J)
    rw [eb]
    refine q_ic rfl ?_
    refine q_sub rfl ?_
    refine q_iast rfl sk_407 sn_407 (by omega) (show (29 + I 404 13 * rv + x).toInt < (221 : Nat) by omega) ?_
    show dw_ok (pr_X12_readRow K) 167 bc bs [some (.ref 404), some (.int rv), some (.int v2), some (.int x)] [] (n, SH1, dw_up I 407 (29 + I 404 13 * rv + x).toInt.toNat (tbM I0 (q + i) - 97), J)
    rw [show (29 + I 404 13 * rv + x).toInt.toNat = 29 + (s.2.2.1.length * Ln + i) by omega]
    refine q_inc rfl rfl rfl ?_
    refine q_goto rfl ?_
    have h8 : s.1.length ≤ 8 ∧ s.2.2.1.length * s.2.1 ≤ 144 := ⟨hOK.1, by rw [hC]; omega⟩
    refine ih (i + 1) (x + 1) _ (by omega) (by omega) (GM_h hR h8 (Or.inr (Or.inl ⟨by rw [hC]; omega, by omega⟩))) ((up_row (by decide)).trans e4) (fun j hj => ?_)
    by_cases e : j = i
    · rw [e, up_same]; exact t4
    · rw [up_fld (by omega)]; exact hall j (by omega)
set_option maxRecDepth 8000 in
set_option maxHeartbeats 2000000 in
theorem v_mrow {n : Nat} {I : Nat → Nat → Int32} {J : Nat → Nat → Int64} {K : dw_K} {I0 : Nat → Nat → Int32} {J0 : Nat → Nat → Int64} {s : gS} {T : fT} {N m : Nat} (hR : GMp I0 J0 I J s) (hOK : gOK N s) (hLet : gLet (tbM I0) s) (hJ : mRes J0) (hN : (I0 404 3).toInt = N) (hN9 : N ≤ 940) (hm : (I0 404 5).toInt = m) (hT : MK (tbM I0) T I J) (hTN : T.2.2.1 ≤ N) (hw1 : T.1 = 1)
    (hok : ∀ (T' : fT) (p' : Nat) (s' : gS) (I' : Nat → Nat → Int32) (J' : Nat → Nat → Int64), (gkR (tbM I0) N m T s) = stG T' (fun p => (0, 0, p, s')) → T' = tkF (tbM I0) N m p' → p' ≤ N → T.2.2.1 ≤ p' → MK (tbM I0) T' I' J' → GMp I0 J0 I' J' s' → gOK N s' → gLet (tbM I0) s' → K (some (.int 1)) (n, SH1, I', J'))
    (hno : (gkR (tbM I0) N m T s).1 ≠ 0 → ∀ (I' : Nat → Nat → Int32) (J' : Nat → Nat → Int64), GMf I0 J0 I' J' → (I' 404 15).toInt = (gkR (tbM I0) N m T s).1 → (I' 404 16).toInt = (gkR (tbM I0) N m T s).2.1 → K (some (.int 0)) (n, SH1, I', J')) : t_X12_readRow [.ref 404] (n, SH1, I, J) K := by
  have c12 : (12 : Int32).toInt = 12 := rfl
  have c1 : (1 : Int32).toInt = 1 := rfl
  have hk1 : (I 407 1).toInt = s.2.2.1.length := hR.2.1.2.1
  have hR12 := hOK.2.2.1
  refine q_body (Nat.le_of_ble_eq_true rfl) ?_
  refine q_ald rfl rfl ?_
  refine q_getr rfl sk_404 sr_404_7 ?_
  refine q_ic rfl ?_
  refine q_xald rfl (Or.inl rfl) sk_407 sn_407 (by decide) (by decide) ?_
  refine q_ist rfl rfl ?_
  show dw_ok (pr_X12_readRow K) 7 0 0 [some (.ref 404), some (.int (I 407 1)), none, none] [] (n, SH1, I, J)
  generalize I 407 1 = rv at hk1 ⊢
  refine q_ild rfl rfl ?_
  refine q_ic rfl ?_
  refine q_icmp (c := 1) rfl (by decide) (fun g => ?_) (fun g => ?_)
  rotate_left
  · have g : rv.toInt = (12 : Int32).toInt := g
    have c0 : 12 ≤ s.2.2.1.length := by omega
    refine q_ald rfl rfl ?_
    refine q_ic rfl ?_
    refine mb_step (c := 4) rfl rfl gfV hR.1 (fun I9 J9 hI9 g7 g8 => ?_)
    rw [hT.2.1] at g8
    have eR : (gkR (tbM I0) N m T s) = (4, T.2.1, 0, g0) := by simp only [gkR, c0, ne_eq, not_false_eq_true, not_true_eq_false, ↓reduceIte]
    rw [eR] at hno
    exact hno (nn rfl) I9 J9 hI9 g7 g8
  have g : rv.toInt ≠ (12 : Int32).toInt := g
  have c0 : ¬ (12 ≤ s.2.2.1.length) := by omega
  refine q_ald rfl rfl ?_
  obtain ⟨T1, hT1⟩ : ∃ t, t = tkF (tbM I0) N m T.2.2.1 := ⟨_, rfl⟩
  have hinT1 := tkF_in (b := tbM I0) (n := N) (m := m) (p := T.2.2.1) hTN
  refine mn_step (p := T.2.2.1) rfl gmV hR hN hN9 hm hTN (hT.2.2.1 (Or.inl hw1)) (fun I1 J1 hR1 hMT1 => ?_)
  rw [← hT1] at hMT1 hinT1
  have hword := tk_word (b := tbM I0) (n := N) (m := m) (p := T.2.2.1)
  rw [← hT1] at hword
  refine q_ald rfl rfl ?_
  refine q_geti rfl sk_404 ?_
  refine q_ic rfl ?_
  refine q_icmp (c := 0) rfl (by decide) (fun g => ?_) (fun g => ?_)
  rotate_left
  · have g : (I1 404 11).toInt ≠ (1 : Int32).toInt := g
    have e : ¬ (T1.1 = 1) := fun h => g (by rw [hMT1.1, h]; rfl)
    refine q_ald rfl rfl ?_
    refine q_ic rfl ?_
    refine mb_step (c := 1) rfl rfl gfV hR1.1 (fun I9 J9 hI9 g7 g8 => ?_)
    rw [hMT1.2.1] at g8
    have eR : (gkR (tbM I0) N m T s) = (1, T1.2.1, 0, g0) := by simp only [gkR, c0, ← hT1, e, ne_eq, not_false_eq_true, not_true_eq_false, ↓reduceIte]
    rw [eR] at hno
    exact hno (nn rfl) I9 J9 hI9 g7 g8
  have g : (I1 404 11).toInt = (1 : Int32).toInt := g
  have eT1 : T1.1 = 1 := by have := hMT1.1; omega
  obtain ⟨d1, d2, d3⟩ := hword eT1 hTN
  have hsp := (hMT1.2.2.2.2.2 eT1).1
  have hin1 := hinT1.2.2.1
  obtain ⟨Ln, hLn⟩ : ∃ k, k = T1.2.2.1 - T1.2.1 := ⟨_, rfl⟩
  have h13 : (I1 404 13).toInt = Ln := by omega
  have hC0 : (I1 407 0).toInt = s.2.1 := hR1.2.1.1
  have chk : ∀ v : Int32, (v = 1 ∧ (s.2.2.1.length = 0 ∨ Ln = s.2.1)) ∨ (v = 0 ∧ ¬ (s.2.2.1.length = 0 ∨ Ln = s.2.1)) → dw_ok (pr_X12_readRow K) 59 0 0 [some (.ref 404), some (.int rv), none, none] [.int v] (n, SH1, I1, J1) := by
    intro v hv
    refine q_ist rfl rfl ?_
    refine q_ic rfl ?_
    refine q_ist rfl rfl ?_
    show dw_ok (pr_X12_readRow K) 62 0 0 [some (.ref 404), some (.int rv), some (.int v), some (.int 0)] [] (n, SH1, I1, J1)
    refine mr_loop (P := s.2.2.1.length = 0 ∨ Ln = s.2.1) hR1 hOK.1 hN hN9 hMT1.2.1 h13 (by omega) (fun v x hv => ?_) Ln 0 0 v (by omega) rfl (hv.imp (fun h => ⟨h.1, h.2, fun j hj => absurd hj (Nat.not_lt_zero j)⟩) (fun h => ⟨h.1, fun q => h.2 q.1⟩))
    rcases hv with ⟨rfl, hC, y⟩ | ⟨rfl, hv⟩
    rotate_left
    · refine q_ild rfl rfl ?_
      refine q_if (c := 1) rfl (by decide) (fun h => absurd rfl h) (fun _ => ?_)
      refine q_ald rfl rfl ?_
      refine q_ic rfl ?_
      refine mb_step (c := 2) rfl rfl gfV hR1.1 (fun I9 J9 hI9 g7 g8 => ?_)
      rw [hMT1.2.1] at g8
      have eR : (gkR (tbM I0) N m T s) = (2, T1.2.1, 0, g0) := by
        by_cases e : 0 < s.2.2.1.length ∧ T1.2.2.1 ≠ T1.2.1 + s.2.1
        · simp only [gkR, c0, ← hT1, eT1, e, and_self, ne_eq, not_false_eq_true, not_true_eq_false, ↓reduceIte]
        · have y : ¬ lrF (tbM I0) T1.2.1 (T1.2.2.1 - T1.2.1) s.1.length := fun y => hv ⟨by
            by_cases z : s.2.2.1.length = 0
            · exact Or.inl z
            · by_cases z2 : Ln = s.2.1
              · exact Or.inr z2
              · exact absurd ⟨by omega, by omega⟩ e, by rw [hLn]; exact y⟩
          simp only [gkR, c0, ← hT1, eT1, e, y, ne_eq, not_false_eq_true, not_true_eq_false, ↓reduceIte]
      rw [eR] at hno
      exact hno (nn rfl) I9 J9 hI9 g7 g8
    have c3 : ¬ (0 < s.2.2.1.length ∧ T1.2.2.1 ≠ T1.2.1 + s.2.1) := by
      rintro ⟨y1, y2⟩
      omega
    have h144 : s.2.2.1.length * Ln + Ln ≤ 144 := by
      have q : s.2.2.1.length * Ln ≤ 11 * Ln := Nat.mul_le_mul_right Ln (by omega)
      omega
    have hOK1 : gOK N (s.1, Ln, s.2.2) := ⟨hOK.1, show Ln ≤ 12 by omega, hOK.2.2⟩
    refine q_ild rfl rfl ?_
    refine q_if (c := 1) rfl (by decide) (fun _ => ?_) (fun h => absurd (show (1 : Int32).toInt = 0 from h) (by decide))
    refine q_ald rfl rfl ?_
    refine q_getr rfl sk_404 sr_404_7 ?_
    refine q_ic rfl ?_
    refine q_ald rfl rfl ?_
    refine q_geti rfl sk_404 ?_
    refine q_iast rfl sk_407 sn_407 (by decide) (by decide) ?_
    show dw_ok (pr_X12_readRow K) 128 0 0 [some (.ref 404), some (.int rv), some (.int 1), some (.int x)] [] (n, SH1, dw_up I1 407 0 (I1 404 13), J1)
    refine q_ic rfl ?_
    refine q_ist rfl rfl ?_
    show dw_ok (pr_X12_readRow K) 130 0 0 [some (.ref 404), some (.int rv), some (.int 1), some (.int 0)] [] (n, SH1, dw_up I1 407 0 (I1 404 13), J1)
    refine mw_loop (s := (s.1, Ln, s.2.2)) (I1 := I1) (q := T1.2.1) (Ln := Ln) hOK1 rfl h144 hN hN9 hMT1.2.1 h13 (by omega) hk1 (fun x I2 hI2 e4 hrow => ?_) Ln 0 0 _ (by omega) rfl (GM_col hR1 h13 hC) (up_row (by decide)) (fun j hj => absurd hj (Nat.not_lt_zero j))
    have hk1' : (I2 407 1).toInt = s.2.2.1.length := hI2.2.1.2.1
    have tv : (I2 407 1 + 1).toInt = (s.2.2.1.length + 1 : Nat) := by rw [i_add (by omega) (by omega), c1, hk1']; omega
    have hR3 := GM_row (q := T1.2.1) (rv := I2 407 1 + 1) hI2 tv hrow
    have h4' : (dw_up I2 407 1 (I2 407 1 + 1) 404 4).toInt = T1.2.2.1 := by rw [up_row (show 404 ≠ 407 by decide), e4]; exact hMT1.2.2.1 (Or.inl eT1)
    refine q_ald rfl rfl ?_
    refine q_getr rfl sk_404 sr_404_7 ?_
    refine q_ic rfl ?_
    refine q_dup2 rfl ?_
    refine q_xald rfl (Or.inl rfl) sk_407 sn_407 (by decide) (by decide) ?_
    refine q_ic rfl ?_
    refine q_add rfl ?_
    refine q_iast rfl sk_407 sn_407 (by decide) (by decide) ?_
    show dw_ok (pr_X12_readRow K) 183 0 0 [some (.ref 404), some (.int rv), some (.int 1), some (.int x)] [] (n, SH1, dw_up I2 407 1 (I2 407 1 + 1), J1)
    generalize dw_up I2 407 1 (I2 407 1 + 1) = I3 at hR3 h4' ⊢
    refine q_ald rfl rfl ?_
    obtain ⟨T2, hT2⟩ : ∃ t, t = tkF (tbM I0) N m T1.2.2.1 := ⟨_, rfl⟩
    refine mn_step (p := T1.2.2.1) rfl gmV hR3 hN hN9 hm hin1 h4' (fun I4 J4 hR4 hM4 => ?_)
    rw [← hT2] at hM4
    refine q_ic rfl ?_
    have ny : ¬ ¬ lrF (tbM I0) T1.2.1 Ln s.1.length := fun h => h y
    rw [hLn] at y
    refine q_zret rfl (Or.inr rfl) (hok T2 T1.2.2.1 _ I4 J4 (by simp only [gkR, c0, ← hT1, eT1, c3, ← hLn, if_neg ny, ← hT2, ne_eq, not_false_eq_true, not_true_eq_false, ↓reduceIte]) hT2 hin1 hinT1.2.1 hM4 hR4 ⟨hOK.1, show Ln ≤ 12 by omega, show s.2.2.1.length + 1 ≤ 12 by omega, hOK.2.2.2⟩ hLet)
  refine q_ild rfl rfl ?_
  refine q_if (c := 0) rfl (by decide) (fun w => ?_) (fun w => ?_)
  · have w : rv.toInt = 0 := w
    refine q_ic rfl ?_
    refine q_goto rfl ?_
    exact chk 1 (Or.inl ⟨rfl, Or.inl (by omega)⟩)
  have w : rv.toInt ≠ 0 := w
  refine q_ald rfl rfl ?_
  refine q_geti rfl sk_404 ?_
  refine q_ald rfl rfl ?_
  refine q_getr rfl sk_404 sr_404_7 ?_
  refine q_ic rfl ?_
  refine q_xald rfl (Or.inl rfl) sk_407 sn_407 (by decide) (by decide) ?_
  refine q_icmp (c := 1) rfl (by decide) (fun u => ?_) (fun u => ?_)
  · have u : (I1 404 13).toInt ≠ (I1 407 0).toInt := u
    refine q_ic rfl ?_
    exact chk 0 (Or.inr ⟨rfl, by omega⟩)
  · have u : (I1 404 13).toInt = (I1 407 0).toInt := u
    refine q_ic rfl ?_
    refine q_goto rfl ?_
    exact chk 1 (Or.inl ⟨rfl, Or.inr (by omega)⟩)
set_option maxRecDepth 8000 in
set_option maxHeartbeats 4000000 in
theorem v_mshade {n : Nat} {I : Nat → Nat → Int32} {J : Nat → Nat → Int64} {K : dw_K} {I0 : Nat → Nat → Int32} {J0 : Nat → Nat → Int64} {s : gS} {T : fT} {N m : Nat} (hR : GMp I0 J0 I J s) (hOK : gOK N s) (hLet : gLet (tbM I0) s) (hJ : mRes J0) (hN : (I0 404 3).toInt = N) (hN9 : N ≤ 940) (hm : (I0 404 5).toInt = m) (hT : MK (tbM I0) T I J) (hTN : T.2.2.1 ≤ N) (hw1 : T.1 = 1)
    (hok : ∀ (T' : fT) (p' : Nat) (s' : gS) (I' : Nat → Nat → Int32) (J' : Nat → Nat → Int64), (gkS (tbM I0) N m T s) = stG T' (fun p => (0, 0, p, s')) → T' = tkF (tbM I0) N m p' → p' ≤ N → T.2.2.1 ≤ p' → MK (tbM I0) T' I' J' → GMp I0 J0 I' J' s' → gOK N s' → gLet (tbM I0) s' → K (some (.int 1)) (n, SH1, I', J'))
    (hno : (gkS (tbM I0) N m T s).1 ≠ 0 → ∀ (I' : Nat → Nat → Int32) (J' : Nat → Nat → Int64), GMf I0 J0 I' J' → (I' 404 15).toInt = (gkS (tbM I0) N m T s).1 → (I' 404 16).toInt = (gkS (tbM I0) N m T s).2.1 → K (some (.int 0)) (n, SH1, I', J')) : dw_ok (pr_X12_groundLine K) 40 0 0 [some (.ref 404), none] [] (n, SH1, I, J) := by
  have c12 : (12 : Int32).toInt = 12 := rfl
  have c1 : (1 : Int32).toInt = 1 := rfl
  have c2 : (2 : Int32).toInt = 2 := rfl
  have c3 : (3 : Int32).toInt = 3 := rfl
  have c4 : (4 : Int32).toInt = 4 := rfl
  have c173 : (173 : Int32).toInt = 173 := rfl
  have hk3 : (I 407 3).toInt = s.2.2.2.1.length := hR.2.1.2.2.2.1
  have hk0 : (I 407 0).toInt = s.2.1 := hR.2.1.1
  have hS12 := hOK.2.2.2.1
  have hR12 := hOK.2.2.1
  have hC12 := hOK.2.1
  have h144 : s.1.length ≤ 8 ∧ s.2.2.1.length * s.2.1 ≤ 144 := ⟨hOK.1, Nat.le_trans (Nat.mul_le_mul hOK.2.2.1 hOK.2.1) (Nat.le_of_ble_eq_true rfl)⟩
  have tm : (4 * I 407 3).toInt = 4 * s.2.2.2.1.length := i_mul (by rw [c4, hk3]) (by omega) (by omega)
  have tt : (173 + 4 * I 407 3).toInt = 173 + 4 * s.2.2.2.1.length := by rw [i_add (by omega) (by omega), tm, c173]
  refine q_ic rfl ?_
  refine q_ic rfl ?_
  refine q_ald rfl rfl ?_
  refine q_getr rfl sk_404 sr_404_7 ?_
  refine q_ic rfl ?_
  refine q_xald rfl (Or.inl rfl) sk_407 sn_407 (by decide) (by decide) ?_
  refine q_mul rfl ?_
  refine q_add rfl ?_
  refine q_ist rfl rfl ?_
  show dw_ok (pr_X12_groundLine K) 53 0 0 [some (.ref 404), some (.int (173 + 4 * I 407 3))] [] (n, SH1, I, J)
  refine q_ald rfl rfl ?_
  refine q_getr rfl sk_404 sr_404_7 ?_
  refine q_ic rfl ?_
  refine q_xald rfl (Or.inl rfl) sk_407 sn_407 (by decide) (by decide) ?_
  show dw_ok (pr_X12_groundLine K) 59 0 0 [some (.ref 404), some (.int (173 + 4 * I 407 3))] [.int (I 407 3)] (n, SH1, I, J)
  generalize 173 + 4 * I 407 3 = to at tt ⊢
  refine q_ic rfl ?_
  refine q_icmp (c := 1) rfl (by decide) (fun g => ?_) (fun g => ?_)
  rotate_left
  · have g : (I 407 3).toInt = (12 : Int32).toInt := g
    have c0 : 12 ≤ s.2.2.2.1.length := by omega
    refine q_ald rfl rfl ?_
    refine q_ic rfl ?_
    refine mb_step (c := 4) rfl rfl gfV hR.1 (fun I9 J9 hI9 g7 g8 => ?_)
    rw [hT.2.1] at g8
    have eR : (gkS (tbM I0) N m T s) = (4, T.2.1, 0, g0) := by simp only [gkS, nbG, c0, ne_eq, not_false_eq_true, not_true_eq_false, ↓reduceIte]
    rw [eR] at hno
    exact hno (nn rfl) I9 J9 hI9 g7 g8
  have g : (I 407 3).toInt ≠ (12 : Int32).toInt := g
  have c0 : ¬ (12 ≤ s.2.2.2.1.length) := by omega
  have to1 : (to + 1).toInt = 173 + 4 * s.2.2.2.1.length + 1 := by rw [i_add (by omega) (by omega), tt, c1]
  have to2 : (to + 2).toInt = 173 + 4 * s.2.2.2.1.length + 2 := by rw [i_add (by omega) (by omega), tt, c2]
  have to3 : (to + 3).toInt = 173 + 4 * s.2.2.2.1.length + 3 := by rw [i_add (by omega) (by omega), tt, c3]
  have hG0 : GSm I0 J0 I J s (0, 0, 0, 0) 0 := ⟨hR, fun h => absurd h (by decide), fun h => absurd h (by decide), fun h => absurd h (by decide), fun h => absurd h (by decide)⟩
  refine q_ald rfl rfl ?_
  obtain ⟨T1, hT1⟩ : ∃ t, t = tkF (tbM I0) N m T.2.2.1 := ⟨_, rfl⟩
  have hinT1 := tkF_in (b := tbM I0) (n := N) (m := m) (p := T.2.2.1) hTN
  refine mn_step (p := T.2.2.1) rfl gsmV hG0 hN hN9 hm hTN (hT.2.2.1 (Or.inl hw1)) (fun Ia0 Ja0 hGa0 hMT1 => ?_)
  rw [← hT1] at hMT1 hinT1
  have eq0 : (Ia0 407 0 - 1).toInt = ((s.2.1 : Int) - 1) := by
    have q : (Ia0 407 0).toInt = s.2.1 := hGa0.1.2.1.1
    rw [i_sub (by omega) (by omega), c1, q]
  refine q_ald rfl rfl ?_
  refine q_ic rfl ?_
  refine q_ald rfl rfl ?_
  refine q_getr rfl sk_404 sr_404_7 ?_
  refine q_ic rfl ?_
  refine q_xald rfl (Or.inl rfl) sk_407 sn_407 (by decide) (by decide) ?_
  refine q_ic rfl ?_
  refine q_sub rfl ?_
  show dw_ok (pr_X12_groundLine K) 84 0 0 [some (.ref 404), some (.int to)] [.int (Ia0 407 0 - 1), .int 0, .ref 404] (n, SH1, Ia0, Ja0)
  generalize Ia0 407 0 - 1 = hi0 at eq0 ⊢
  obtain ⟨T2, hT2⟩ : ∃ t, t = tkF (tbM I0) N m T1.2.2.1 := ⟨_, rfl⟩
  have hinT2 := tkF_in (b := tbM I0) (n := N) (m := m) (p := T1.2.2.1) hinT1.2.2.1
  refine mt_step (T := T1) rfl rfl rfl rfl gsmV hGa0 hN hN9 hm hMT1 hinT1.2.2.1 ?_ ?_
  rotate_left
  · intro e I9 J9 hI9 g7 g8
    rw [eq0] at e g7
    have e : nbF T1 0 ((s.2.1 : Int) - 1) ≠ 0 := e
    have eR : (gkS (tbM I0) N m T s) = (nbF T1 0 ((s.2.1 : Int) - 1), T1.2.1, 0, g0) := by simp only [gkS, nbG, c0, ← hT1, e, ne_eq, not_false_eq_true, not_true_eq_false, ↓reduceIte]
    rw [eR] at hno
    exact hno e I9 J9 hI9.1.1 g7 g8
  intro eT1 Ib0 Jb0 hGb0 hMT2 gT1
  rw [← hT2] at hMT2 hinT2
  rw [eq0] at eT1
  have eT1 : nbF T1 0 ((s.2.1 : Int) - 1) = 0 := eT1
  refine q_ald rfl rfl ?_
  refine q_getr rfl sk_404 sr_404_7 ?_
  refine q_ild rfl rfl ?_
  refine q_ald rfl rfl ?_
  refine q_geti rfl sk_404 ?_
  refine q_iast rfl sk_407 sn_407 (by omega) (show to.toInt < (221 : Nat) by omega) ?_
  show dw_ok (pr_X12_groundLine K) 102 0 0 [some (.ref 404), some (.int to)] [] (n, SH1, dw_up Ib0 407 to.toInt.toNat (Ib0 404 19), Jb0)
  rw [show to.toInt.toNat = 173 + 4 * s.2.2.2.1.length by omega, gT1]
  have hGa1 : GSm I0 J0 (dw_up Ib0 407 (173 + 4 * s.2.2.2.1.length) T1.2.2.2) Jb0 s (T1.2.2.2, 0, 0, 0) 1 := ⟨GM_h hGb0.1 h144 (Or.inr (Or.inr (by omega))), fun _ => up_same, fun h => absurd h (by decide), fun h => absurd h (by decide), fun h => absurd h (by decide)⟩
  have hMa1 := MK_eq (I' := dw_up Ib0 407 (173 + 4 * s.2.2.2.1.length) T1.2.2.2) hMT2 (up_row (by decide)) rfl
  generalize dw_up Ib0 407 (173 + 4 * s.2.2.2.1.length) T1.2.2.2 = Ia1 at hGa1 hMa1 ⊢
  have eq1 : (Ia1 407 1 - 1).toInt = ((s.2.2.1.length : Int) - 1) := by
    have q : (Ia1 407 1).toInt = s.2.2.1.length := hGa1.1.2.1.2.1
    rw [i_sub (by omega) (by omega), c1, q]
  refine q_ald rfl rfl ?_
  refine q_ic rfl ?_
  refine q_ald rfl rfl ?_
  refine q_getr rfl sk_404 sr_404_7 ?_
  refine q_ic rfl ?_
  refine q_xald rfl (Or.inl rfl) sk_407 sn_407 (by decide) (by decide) ?_
  refine q_ic rfl ?_
  refine q_sub rfl ?_
  show dw_ok (pr_X12_groundLine K) 112 0 0 [some (.ref 404), some (.int to)] [.int (Ia1 407 1 - 1), .int 0, .ref 404] (n, SH1, Ia1, Jb0)
  generalize Ia1 407 1 - 1 = hi1 at eq1 ⊢
  obtain ⟨T3, hT3⟩ : ∃ t, t = tkF (tbM I0) N m T2.2.2.1 := ⟨_, rfl⟩
  have hinT3 := tkF_in (b := tbM I0) (n := N) (m := m) (p := T2.2.2.1) hinT2.2.2.1
  refine mt_step (T := T2) rfl rfl rfl rfl gsmV hGa1 hN hN9 hm hMa1 hinT2.2.2.1 ?_ ?_
  rotate_left
  · intro e I9 J9 hI9 g7 g8
    rw [eq1] at e g7
    have e : nbF T2 0 ((s.2.2.1.length : Int) - 1) ≠ 0 := e
    have eR : (gkS (tbM I0) N m T s) = (nbF T2 0 ((s.2.2.1.length : Int) - 1), T2.2.1, 0, g0) := by simp only [gkS, nbG, c0, ← hT1, eT1, ← hT2, e, ne_eq, not_false_eq_true, not_true_eq_false, ↓reduceIte]
    rw [eR] at hno
    exact hno e I9 J9 hI9.1.1 g7 g8
  intro eT2 Ib1 Jb1 hGb1 hMT3 gT2
  rw [← hT3] at hMT3 hinT3
  rw [eq1] at eT2
  have eT2 : nbF T2 0 ((s.2.2.1.length : Int) - 1) = 0 := eT2
  refine q_ald rfl rfl ?_
  refine q_getr rfl sk_404 sr_404_7 ?_
  refine q_ild rfl rfl ?_
  refine q_ic rfl ?_
  refine q_add rfl ?_
  refine q_ald rfl rfl ?_
  refine q_geti rfl sk_404 ?_
  refine q_iast rfl sk_407 sn_407 (by omega) (show (to + 1).toInt < (221 : Nat) by omega) ?_
  show dw_ok (pr_X12_groundLine K) 132 0 0 [some (.ref 404), some (.int to)] [] (n, SH1, dw_up Ib1 407 (to + 1).toInt.toNat (Ib1 404 19), Jb1)
  rw [show (to + 1).toInt.toNat = 173 + 4 * s.2.2.2.1.length + 1 by omega, gT2]
  have hGa2 : GSm I0 J0 (dw_up Ib1 407 (173 + 4 * s.2.2.2.1.length + 1) T2.2.2.2) Jb1 s (T1.2.2.2, T2.2.2.2, 0, 0) 2 := ⟨GM_h hGb1.1 h144 (Or.inr (Or.inr (by omega))), fun _ => (up_fld (by omega)).trans (hGb1.2.1 (by decide)), fun _ => up_same, fun h => absurd h (by decide), fun h => absurd h (by decide)⟩
  have hMa2 := MK_eq (I' := dw_up Ib1 407 (173 + 4 * s.2.2.2.1.length + 1) T2.2.2.2) hMT3 (up_row (by decide)) rfl
  generalize dw_up Ib1 407 (173 + 4 * s.2.2.2.1.length + 1) T2.2.2.2 = Ia2 at hGa2 hMa2 ⊢
  refine q_ald rfl rfl ?_
  refine q_ic rfl ?_
  refine q_ic rfl ?_
  obtain ⟨T4, hT4⟩ : ∃ t, t = tkF (tbM I0) N m T3.2.2.1 := ⟨_, rfl⟩
  have hinT4 := tkF_in (b := tbM I0) (n := N) (m := m) (p := T3.2.2.1) hinT3.2.2.1
  refine mt_step (T := T3) rfl rfl rfl rfl gsmV hGa2 hN hN9 hm hMa2 hinT3.2.2.1 ?_ ?_
  rotate_left
  · intro e I9 J9 hI9 g7 g8
    have e : nbF T3 0 9 ≠ 0 := e
    have eR : (gkS (tbM I0) N m T s) = (nbF T3 0 9, T3.2.1, 0, g0) := by simp only [gkS, nbG, c0, ← hT1, eT1, ← hT2, eT2, ← hT3, e, ne_eq, not_false_eq_true, not_true_eq_false, ↓reduceIte]
    rw [eR] at hno
    exact hno e I9 J9 hI9.1.1 g7 g8
  intro eT3 Ib2 Jb2 hGb2 hMT4 gT3
  rw [← hT4] at hMT4 hinT4
  have eT3 : nbF T3 0 9 = 0 := eT3
  refine q_ald rfl rfl ?_
  refine q_getr rfl sk_404 sr_404_7 ?_
  refine q_ild rfl rfl ?_
  refine q_ic rfl ?_
  refine q_add rfl ?_
  refine q_ald rfl rfl ?_
  refine q_geti rfl sk_404 ?_
  refine q_iast rfl sk_407 sn_407 (by omega) (show (to + 2).toInt < (221 : Nat) by omega) ?_
  show dw_ok (pr_X12_groundLine K) 156 0 0 [some (.ref 404), some (.int to)] [] (n, SH1, dw_up Ib2 407 (to + 2).toInt.toNat (Ib2 404 19), Jb2)
  rw [show (to + 2).toInt.toNat = 173 + 4 * s.2.2.2.1.length + 2 by omega, gT3]
  have hGa3 : GSm I0 J0 (dw_up Ib2 407 (173 + 4 * s.2.2.2.1.length + 2) T3.2.2.2) Jb2 s (T1.2.2.2, T2.2.2.2, T3.2.2.2, 0) 3 := ⟨GM_h hGb2.1 h144 (Or.inr (Or.inr (by omega))), fun _ => (up_fld (by omega)).trans (hGb2.2.1 (by decide)), fun _ => (up_fld (by omega)).trans (hGb2.2.2.1 (by decide)), fun _ => up_same, fun h => absurd h (by decide)⟩
  have hMa3 := MK_eq (I' := dw_up Ib2 407 (173 + 4 * s.2.2.2.1.length + 2) T3.2.2.2) hMT4 (up_row (by decide)) rfl
  generalize dw_up Ib2 407 (173 + 4 * s.2.2.2.1.length + 2) T3.2.2.2 = Ia3 at hGa3 hMa3 ⊢
  refine q_ald rfl rfl ?_
  refine q_ic rfl ?_
  refine q_ic rfl ?_
  obtain ⟨T5, hT5⟩ : ∃ t, t = tkF (tbM I0) N m T4.2.2.1 := ⟨_, rfl⟩
  have hinT5 := tkF_in (b := tbM I0) (n := N) (m := m) (p := T4.2.2.1) hinT4.2.2.1
  refine mt_step (T := T4) rfl rfl rfl rfl gsmV hGa3 hN hN9 hm hMa3 hinT4.2.2.1 ?_ ?_
  rotate_left
  · intro e I9 J9 hI9 g7 g8
    have e : nbF T4 1 100 ≠ 0 := e
    have eR : (gkS (tbM I0) N m T s) = (nbF T4 1 100, T4.2.1, 0, g0) := by simp only [gkS, nbG, c0, ← hT1, eT1, ← hT2, eT2, ← hT3, eT3, ← hT4, e, ne_eq, not_false_eq_true, not_true_eq_false, ↓reduceIte]
    rw [eR] at hno
    exact hno e I9 J9 hI9.1.1 g7 g8
  intro eT4 Ib3 Jb3 hGb3 hMT5 gT4
  rw [← hT5] at hMT5 hinT5
  have eT4 : nbF T4 1 100 = 0 := eT4
  refine q_ald rfl rfl ?_
  refine q_getr rfl sk_404 sr_404_7 ?_
  refine q_ild rfl rfl ?_
  refine q_ic rfl ?_
  refine q_add rfl ?_
  refine q_ald rfl rfl ?_
  refine q_geti rfl sk_404 ?_
  refine q_iast rfl sk_407 sn_407 (by omega) (show (to + 3).toInt < (221 : Nat) by omega) ?_
  show dw_ok (pr_X12_groundLine K) 180 0 0 [some (.ref 404), some (.int to)] [] (n, SH1, dw_up Ib3 407 (to + 3).toInt.toNat (Ib3 404 19), Jb3)
  rw [show (to + 3).toInt.toNat = 173 + 4 * s.2.2.2.1.length + 3 by omega, gT4]
  have hGa4 : GSm I0 J0 (dw_up Ib3 407 (173 + 4 * s.2.2.2.1.length + 3) T4.2.2.2) Jb3 s (T1.2.2.2, T2.2.2.2, T3.2.2.2, T4.2.2.2) 4 := ⟨GM_h hGb3.1 h144 (Or.inr (Or.inr (by omega))), fun _ => (up_fld (by omega)).trans (hGb3.2.1 (by decide)), fun _ => (up_fld (by omega)).trans (hGb3.2.2.1 (by decide)), fun _ => (up_fld (by omega)).trans (hGb3.2.2.2.1 (by decide)), fun _ => up_same⟩
  have hMa4 := MK_eq (I' := dw_up Ib3 407 (173 + 4 * s.2.2.2.1.length + 3) T4.2.2.2) hMT5 (up_row (by decide)) rfl
  generalize dw_up Ib3 407 (173 + 4 * s.2.2.2.1.length + 3) T4.2.2.2 = Ia4 at hGa4 hMa4 ⊢
  have hk3' : (Ia4 407 3).toInt = s.2.2.2.1.length := hGa4.1.2.1.2.2.2.1
  have tv : (Ia4 407 3 + 1).toInt = (s.2.2.2.1.length + 1 : Nat) := by rw [i_add (by omega) (by omega), c1, hk3']; omega
  refine q_ald rfl rfl ?_
  refine q_getr rfl sk_404 sr_404_7 ?_
  refine q_ic rfl ?_
  refine q_dup2 rfl ?_
  refine q_xald rfl (Or.inl rfl) sk_407 sn_407 (by decide) (by decide) ?_
  refine q_ic rfl ?_
  refine q_add rfl ?_
  refine q_iast rfl sk_407 sn_407 (by decide) (by decide) ?_
  show dw_ok (pr_X12_groundLine K) 190 0 0 [some (.ref 404), some (.int to)] [] (n, SH1, dw_up Ia4 407 3 (Ia4 407 3 + 1), Jb3)
  refine q_ic rfl ?_
  have b1 := nb_r eT1
  have b2 := nb_r eT2
  have b3 := nb_r eT3
  have b4 := nb_r eT4
  refine q_zret rfl (Or.inr rfl) (hok T5 T4.2.2.1 _ _ _ (by simp only [gkS, nbG, c0, ← hT1, eT1, ← hT2, eT2, ← hT3, eT3, ← hT4, eT4, ← hT5, ne_eq, not_false_eq_true, not_true_eq_false, ↓reduceIte]) hT5 hinT4.2.2.1 (by omega) (MK_eq hMa4 (up_row (by decide)) rfl) (GM_shade hGa4.1 tv ⟨hGa4.2.1 (by decide), hGa4.2.2.1 (by decide), hGa4.2.2.2.1 (by decide), hGa4.2.2.2.2 (by decide)⟩) ⟨hOK.1, hOK.2.1, hOK.2.2.1, show s.2.2.2.1.length + 1 ≤ 12 by omega, hOK.2.2.2.2.1, fun z hz => ?_⟩ hLet)
  rcases List.mem_cons.mp hz with rfl | hz
  · exact ⟨⟨b1.1, show T1.2.2.2.toInt ≤ 11 by omega⟩, ⟨b2.1, show T2.2.2.2.toInt ≤ 11 by omega⟩, b3, b4⟩
  · exact hOK.2.2.2.2.2 z hz
set_option maxRecDepth 8000 in
set_option maxHeartbeats 2000000 in
theorem v_mwater {n : Nat} {I : Nat → Nat → Int32} {J : Nat → Nat → Int64} {K : dw_K} {I0 : Nat → Nat → Int32} {J0 : Nat → Nat → Int64} {s : gS} {T : fT} {N m : Nat} (hR : GMp I0 J0 I J s) (hOK : gOK N s) (hLet : gLet (tbM I0) s) (hJ : mRes J0) (hN : (I0 404 3).toInt = N) (hN9 : N ≤ 940) (hm : (I0 404 5).toInt = m) (hT : MK (tbM I0) T I J) (hTN : T.2.2.1 ≤ N) (hw1 : T.1 = 1)
    (hok : ∀ (T' : fT) (p' : Nat) (s' : gS) (I' : Nat → Nat → Int32) (J' : Nat → Nat → Int64), (gkW (tbM I0) N m T s) = stG T' (fun p => (0, 0, p, s')) → T' = tkF (tbM I0) N m p' → p' ≤ N → T.2.2.1 ≤ p' → MK (tbM I0) T' I' J' → GMp I0 J0 I' J' s' → gOK N s' → gLet (tbM I0) s' → K (some (.int 1)) (n, SH1, I', J'))
    (hno : (gkW (tbM I0) N m T s).1 ≠ 0 → ∀ (I' : Nat → Nat → Int32) (J' : Nat → Nat → Int64), GMf I0 J0 I' J' → (I' 404 15).toInt = (gkW (tbM I0) N m T s).1 → (I' 404 16).toInt = (gkW (tbM I0) N m T s).2.1 → K (some (.int 0)) (n, SH1, I', J')) : dw_ok (pr_X12_groundLine K) 208 0 0 [some (.ref 404), none] [] (n, SH1, I, J) := by
  have hk22 : (I 404 22).toInt = (if s.2.2.2.2 = none then 0 else 1) := hR.2.2.1
  refine q_ald rfl rfl ?_
  refine q_getz rfl sk_404 ?_
  refine q_if (c := 0) rfl (by decide) (fun g => ?_) (fun g => ?_)
  rotate_left
  · have g : (I 404 22).toInt ≠ 0 := g
    have c0 : ¬ (s.2.2.2.2 = none) := fun h => g (by rw [hk22, if_pos h])
    refine q_ald rfl rfl ?_
    refine q_ic rfl ?_
    refine mb_step (c := 3) rfl rfl gfV hR.1 (fun I9 J9 hI9 g7 g8 => ?_)
    rw [hT.2.1] at g8
    have eR : (gkW (tbM I0) N m T s) = (3, T.2.1, 0, g0) := by simp only [gkW, nbG, c0, ne_eq, not_false_eq_true, not_true_eq_false, ↓reduceIte]
    rw [eR] at hno
    exact hno (nn rfl) I9 J9 hI9 g7 g8
  have g : (I 404 22).toInt = 0 := g
  have c0 : s.2.2.2.2 = none := by
    by_cases e : s.2.2.2.2 = none
    · exact e
    · rw [if_neg e] at hk22; omega
  refine q_ald rfl rfl ?_
  refine q_ic rfl ?_
  refine q_putz rfl sk_404 (Or.inr rfl) ?_
  show dw_ok (pr_X12_groundLine K) 226 0 0 [some (.ref 404), none] [] (n, SH1, dw_up I 404 22 1, J)
  have hR1 := GM_flag hR c0
  have hM1 := MK_22 (v := 1) hT
  generalize dw_up I 404 22 1 = I1 at hR1 hM1 ⊢
  refine q_ald rfl rfl ?_
  obtain ⟨T1, hT1⟩ : ∃ t, t = tkF (tbM I0) N m T.2.2.1 := ⟨_, rfl⟩
  have hinT1 := tkF_in (b := tbM I0) (n := N) (m := m) (p := T.2.2.1) hTN
  refine mn_step (p := T.2.2.1) rfl gmV hR1 hN hN9 hm hTN (hM1.2.2.1 (Or.inl hw1)) (fun I2 J2 hR2 hMT1 => ?_)
  rw [← hT1] at hMT1 hinT1
  refine q_ald rfl rfl ?_
  refine q_ic rfl ?_
  refine q_ic rfl ?_
  obtain ⟨T2, hT2⟩ : ∃ t, t = tkF (tbM I0) N m T1.2.2.1 := ⟨_, rfl⟩
  have hinT2 := tkF_in (b := tbM I0) (n := N) (m := m) (p := T1.2.2.1) hinT1.2.2.1
  refine mt_step (T := T1) rfl rfl rfl rfl gmV hR2 hN hN9 hm hMT1 hinT1.2.2.1 ?_ ?_
  rotate_left
  · intro e I9 J9 hI9 g7 g8
    have e : nbF T1 0 999 ≠ 0 := e
    have eR : (gkW (tbM I0) N m T s) = (nbF T1 0 999, T1.2.1, 0, g0) := by simp only [gkW, nbG, c0, ← hT1, e, ne_eq, not_false_eq_true, not_true_eq_false, ↓reduceIte]
    rw [eR] at hno
    exact hno e I9 J9 hI9.1 g7 g8
  intro eT1 I3 J3 hR3 hMT2 gT1
  rw [← hT2] at hMT2 hinT2
  have eT1 : nbF T1 0 999 = 0 := eT1
  refine q_ald rfl rfl ?_
  refine q_getr rfl sk_404 sr_404_7 ?_
  refine q_ic rfl ?_
  refine q_ald rfl rfl ?_
  refine q_geti rfl sk_404 ?_
  refine q_iast rfl sk_407 sn_407 (by decide) (by decide) ?_
  show dw_ok (pr_X12_groundLine K) 253 0 0 [some (.ref 404), none] [] (n, SH1, dw_up I3 407 4 (I3 404 19), J3)
  rw [gT1]
  refine q_ic rfl ?_
  exact q_zret rfl (Or.inr rfl) (hok T2 T1.2.2.1 _ _ _ (by simp only [gkW, nbG, c0, ← hT1, eT1, ← hT2, ne_eq, not_false_eq_true, not_true_eq_false, ↓reduceIte]) hT2 hinT1.2.2.1 hinT1.2.1 (MK_eq hMT2 (up_row (by decide)) rfl) (GM_stock hR3) hOK hLet)
set_option maxRecDepth 8000 in
theorem v_mgline {n : Nat} {I : Nat → Nat → Int32} {J : Nat → Nat → Int64} {K : dw_K} {I0 : Nat → Nat → Int32} {J0 : Nat → Nat → Int64} {s : gS} {T : fT} {N m : Nat} (hR : GMp I0 J0 I J s) (hOK : gOK N s) (hLet : gLet (tbM I0) s) (hJ : mRes J0) (hN : (I0 404 3).toInt = N) (hN9 : N ≤ 940) (hm : (I0 404 5).toInt = m) (hT : MK (tbM I0) T I J) (hTN : T.2.2.1 ≤ N) {p : Nat} (hTe : T = tkF (tbM I0) N m p) (hp : p ≤ N)
    (hok : ∀ (T' : fT) (p' : Nat) (s' : gS) (I' : Nat → Nat → Int32) (J' : Nat → Nat → Int64), (gkF (tbM I0) N m T s) = stG T' (fun p => (0, 0, p, s')) → T' = tkF (tbM I0) N m p' → p' ≤ N → T.2.2.1 ≤ p' → MK (tbM I0) T' I' J' → GMp I0 J0 I' J' s' → gOK N s' → gLet (tbM I0) s' → K (some (.int 1)) (n, SH1, I', J'))
    (hno : (gkF (tbM I0) N m T s).1 ≠ 0 → ∀ (I' : Nat → Nat → Int32) (J' : Nat → Nat → Int64), GMf I0 J0 I' J' → (I' 404 15).toInt = (gkF (tbM I0) N m T s).1 → (I' 404 16).toInt = (gkF (tbM I0) N m T s).2.1 → K (some (.int 0)) (n, SH1, I', J')) : t_X12_groundLine [.ref 404] (n, SH1, I, J) K := by
  refine q_body (Nat.le_of_ble_eq_true rfl) ?_
  have hT' := hT
  rw [hTe] at hT'
  refine q_ald rfl rfl ?_
  refine q_lc rfl ?_
  refine mw_step (i := 0) (p := p) rfl hT' hp (by decide +kernel) (by decide +kernel) (sm_ok (by decide)) (by decide +kernel) (fun s0 => ?_) (fun s0 => ?_)
  · rw [← hTe] at s0
    have eR : (gkF (tbM I0) N m T s) = gkA (tbM I0) N m T s := by unfold gkF; rw [if_pos s0]
    rw [eR] at hok hno
    refine q_if (c := 0) rfl (by decide) (fun h => absurd (show (1 : Int32).toInt = 0 from h) (by decide)) (fun _ => ?_)
    refine q_ald rfl rfl ?_
    refine q_callV (as := []) (rest := []) rfl rfl sk_404 rfl (Nat.le_of_ble_eq_true rfl) ?_
    exact v_mkind hR hOK hLet hJ hN hN9 hm hT hTN s0.1 (fun T' p' s' I' J' a1 a2 a3 a4 a5 a6 a7 a8 => q_zret rfl (Or.inr rfl) (hok T' p' s' I' J' a1 a2 a3 a4 a5 a6 a7 a8)) (fun e I' J' a1 a2 a3 => q_zret rfl (Or.inl rfl) (hno e I' J' a1 a2 a3))
  rw [← hTe] at s0
  refine q_if (c := 0) rfl (by decide) (fun _ => ?_) (fun h => absurd rfl h)
  refine q_ald rfl rfl ?_
  refine q_lc rfl ?_
  refine mw_step (i := 15) (p := p) rfl hT' hp (by decide +kernel) (by decide +kernel) (sm_ok (by decide)) (by decide +kernel) (fun s15 => ?_) (fun s15 => ?_)
  · rw [← hTe] at s15
    have eR : (gkF (tbM I0) N m T s) = gkR (tbM I0) N m T s := by unfold gkF; rw [if_neg s0, if_pos s15]
    rw [eR] at hok hno
    refine q_if (c := 0) rfl (by decide) (fun h => absurd (show (1 : Int32).toInt = 0 from h) (by decide)) (fun _ => ?_)
    refine q_ald rfl rfl ?_
    refine q_callV (as := []) (rest := []) rfl rfl sk_404 rfl (Nat.le_of_ble_eq_true rfl) ?_
    exact v_mrow hR hOK hLet hJ hN hN9 hm hT hTN s15.1 (fun T' p' s' I' J' a1 a2 a3 a4 a5 a6 a7 a8 => q_zret rfl (Or.inr rfl) (hok T' p' s' I' J' a1 a2 a3 a4 a5 a6 a7 a8)) (fun e I' J' a1 a2 a3 => q_zret rfl (Or.inl rfl) (hno e I' J' a1 a2 a3))
  rw [← hTe] at s15
  refine q_if (c := 0) rfl (by decide) (fun _ => ?_) (fun h => absurd rfl h)
  refine q_ald rfl rfl ?_
  refine q_lc rfl ?_
  refine mw_step (i := 16) (p := p) rfl hT' hp (by decide +kernel) (by decide +kernel) (sm_ok (by decide)) (by decide +kernel) (fun s16 => ?_) (fun s16 => ?_)
  · rw [← hTe] at s16
    have eR : (gkF (tbM I0) N m T s) = gkS (tbM I0) N m T s := by unfold gkF; rw [if_neg s0, if_neg s15, if_pos s16]
    rw [eR] at hok hno
    refine q_if (c := 0) rfl (by decide) (fun h => absurd (show (1 : Int32).toInt = 0 from h) (by decide)) (fun _ => ?_)
    exact v_mshade hR hOK hLet hJ hN hN9 hm hT hTN s16.1 hok hno
  rw [← hTe] at s16
  refine q_if (c := 0) rfl (by decide) (fun _ => ?_) (fun h => absurd rfl h)
  refine q_ald rfl rfl ?_
  refine q_lc rfl ?_
  refine mw_step (i := 17) (p := p) rfl hT' hp (by decide +kernel) (by decide +kernel) (sm_ok (by decide)) (by decide +kernel) (fun s17 => ?_) (fun s17 => ?_)
  · rw [← hTe] at s17
    have eR : (gkF (tbM I0) N m T s) = gkW (tbM I0) N m T s := by unfold gkF; rw [if_neg s0, if_neg s15, if_neg s16, if_pos s17]
    rw [eR] at hok hno
    refine q_if (c := 1) rfl (by decide) (fun _ => ?_) (fun h => absurd (show (1 : Int32).toInt = 0 from h) (by decide))
    exact v_mwater hR hOK hLet hJ hN hN9 hm hT hTN s17.1 hok hno
  rw [← hTe] at s17
  refine q_if (c := 1) rfl (by decide) (fun h => absurd rfl h) (fun _ => ?_)
  refine q_ald rfl rfl ?_
  refine q_ic rfl ?_
  refine mb_step (c := 1) rfl rfl gfV hR.1 (fun I9 J9 hI9 g7 g8 => ?_)
  rw [hT.2.1] at g8
  have eR : (gkF (tbM I0) N m T s) = (1, T.2.1, 0, g0) := by simp only [gkF, s0, s15, s16, s17, ne_eq, not_false_eq_true, not_true_eq_false, ↓reduceIte]
  rw [eR] at hno
  exact hno (nn rfl) I9 J9 hI9 g7 g8
end
section
/-! ===== ground() of the model ===== -/
set_option maxRecDepth 8000 in
theorem hz_loop {n bc bs : Nat} {K : dw_K} {I0 : Nat → Nat → Int32} {J : Nat → Nat → Int64}
    (hk : ∀ (x : Int32) (I : Nat → Nat → Int32), (∀ a, a ≠ 407 → I a = I0 a) → (∀ j, j < 221 → I 407 j = 0) → dw_ok (pr_X12_ground K) 49 bc bs [some (.ref 404), some (.int x)] [] (n, SH1, I, J)) :
    ∀ (f i : Nat) (x : Int32) (I : Nat → Nat → Int32), i + f = 221 → x.toInt = i → (∀ a, a ≠ 407 → I a = I0 a) → (∀ j, j < i → I 407 j = 0) → dw_ok (pr_X12_ground K) 29 bc bs [some (.ref 404), some (.int x)] [] (n, SH1, I, J) := by
  have c1 : (1 : Int32).toInt = 1 := rfl
  have c221 : (221 : Int32).toInt = 221 := rfl
  intro f
  induction f with
  | zero =>
    intro i x I hi hx hA hz
    refine q_ild rfl rfl ?_
    refine q_ic rfl ?_
    refine q_icmp (c := 3) rfl (by decide) (fun _ => ?_) (fun h => absurd (show x.toInt < (221 : Int32).toInt from h) (by omega))
    exact hk x I hA (fun j hj => hz j (by omega))
  | succ f ih =>
    intro i x I hi hx hA hz
    refine q_ild rfl rfl ?_
    refine q_ic rfl ?_
    refine q_icmp (c := 3) rfl (by decide) (fun h => absurd (show (221 : Int32).toInt ≤ x.toInt from h) (by omega)) (fun _ => ?_)
    refine q_ald rfl rfl ?_
    refine q_getr rfl sk_404 sr_404_7 ?_
    refine q_ild rfl rfl ?_
    refine q_ic rfl ?_
    refine q_iast rfl sk_407 sn_407 (by omega) (show x.toInt < (221 : Nat) by omega) ?_
    refine q_inc rfl rfl rfl ?_
    refine q_goto rfl ?_
    refine ih (i + 1) (x + 1) (dw_up I 407 x.toInt.toNat 0) (by omega) (by rw [i_add (by omega) (by omega), c1]; omega) (fun a ha => (up_row ha).trans (hA a ha)) (fun j hj => ?_)
    by_cases e : j = x.toInt.toNat
    · rw [e]; exact up_same
    · rw [up_fld e]; exact hz j (by omega)
/-- the model's GROUND taken: what s keeps -/
def GTk (I0 I : Nat → Nat → Int32) (h : Nat → Int32) : Prop :=
  (∀ a, a ≠ 406 → I a = I0 a) ∧ (∀ j, j < 221 → I 406 j = h j) ∧ (∀ j, 221 ≤ j → j < 1427 → (∀ k, k < 6 → j ≠ 221 + 97 * k) → I 406 j = 0) ∧ ∀ k, k < 6 → I 406 (221 + 97 * k) = -1
set_option maxRecDepth 8000 in
theorem sn_loop {n bc bs : Nat} {K : dw_K} {I0 : Nat → Nat → Int32} {J : Nat → Nat → Int64} {h : Nat → Int32}
    (hk : ∀ I : Nat → Nat → Int32, GTk I0 I h → K (some (.int (I0 404 20))) (n, SH1, I, J)) :
    ∀ (f i : Nat) (x : Int32) (I : Nat → Nat → Int32), i + f = 6 → x.toInt = i → (∀ a, a ≠ 406 → I a = I0 a) → (∀ j, j < 221 → I 406 j = h j) → (∀ j, 221 ≤ j → j < 1427 → (∀ k, k < 6 → j ≠ 221 + 97 * k) → I 406 j = 0) → (∀ k, k < i → I 406 (221 + 97 * k) = -1) → dw_ok (pr_X12_ground K) 145 bc bs [some (.ref 404), some (.int x)] [] (n, SH1, I, J) := by
  have c1 : (1 : Int32).toInt = 1 := rfl
  have c6 : (6 : Int32).toInt = 6 := rfl
  have c97 : (97 : Int32).toInt = 97 := rfl
  have c221 : (221 : Int32).toInt = 221 := rfl
  intro f
  induction f with
  | zero =>
    intro i x I hi hx hA h1 h2 h3
    refine q_ild rfl rfl ?_
    refine q_ic rfl ?_
    refine q_icmp (c := 3) rfl (by decide) (fun _ => ?_) (fun h => absurd (show x.toInt < (6 : Int32).toInt from h) (by omega))
    refine q_ald rfl rfl ?_
    refine q_geti rfl sk_404 ?_
    rw [show (n, SH1, I, J).2.2.1 404 20 = I0 404 20 from congrFun (hA 404 (by decide)) 20]
    exact q_iret rfl (hk I ⟨hA, h1, h2, fun k hk6 => h3 k (by omega)⟩)
  | succ f ih =>
    intro i x I hi hx hA h1 h2 h3
    have tm : (97 * x).toInt = 97 * i := i_mul (by rw [c97, hx]) (by omega) (by omega)
    have tt : (221 + 97 * x).toInt = 221 + 97 * i := by rw [i_add (by omega) (by omega), tm, c221]
    refine q_ild rfl rfl ?_
    refine q_ic rfl ?_
    refine q_icmp (c := 3) rfl (by decide) (fun h => absurd (show (6 : Int32).toInt ≤ x.toInt from h) (by omega)) (fun _ => ?_)
    refine q_ald rfl rfl ?_
    refine q_getr rfl sk_404 sr_404_6 ?_
    refine q_ic rfl ?_
    refine q_ic rfl ?_
    refine q_ild rfl rfl ?_
    refine q_mul rfl ?_
    refine q_add rfl ?_
    refine q_ic rfl ?_
    refine q_iast rfl sk_406 sn_406 (by omega) (show (221 + 97 * x).toInt < (1427 : Nat) by omega) ?_
    refine q_inc rfl rfl rfl ?_
    refine q_goto rfl ?_
    show dw_ok (pr_X12_ground K) 145 bc bs [some (.ref 404), some (.int (x + 1))] [] (n, SH1, dw_up I 406 (221 + 97 * x).toInt.toNat (-1), J)
    rw [show (221 + 97 * x).toInt.toNat = 221 + 97 * i by omega]
    refine ih (i + 1) (x + 1) _ (by omega) (by rw [i_add (by omega) (by omega), c1]; omega) (fun a ha => (up_row ha).trans (hA a ha)) (fun j hj => ?_) (fun j g1 g2 g3 => ?_) (fun k hk6 => ?_)
    · rw [up_fld (by omega)]; exact h1 j hj
    · rw [up_fld (g3 i (by omega))]; exact h2 j g1 g2 g3
    · by_cases e : k = i
      · rw [e]; exact up_same
      · rw [up_fld (by omega)]; exact h3 k (by omega)
set_option maxRecDepth 8000 in
theorem sc_loop {n bc bs : Nat} {K : dw_K} {I0 : Nat → Nat → Int32} {J : Nat → Nat → Int64}
    (hk : ∀ (x : Int32) (I : Nat → Nat → Int32), (∀ a, a ≠ 406 → I a = I0 a) → (∀ j, j < 221 → I 406 j = I0 407 j) → (∀ j, 221 ≤ j → j < 1427 → I 406 j = 0) → dw_ok (pr_X12_ground K) 143 bc bs [some (.ref 404), some (.int x)] [] (n, SH1, I, J)) :
    ∀ (f i : Nat) (x : Int32) (I : Nat → Nat → Int32), i + f = 1427 → x.toInt = i → (∀ a, a ≠ 406 → I a = I0 a) → (∀ j, j < i → I 406 j = if j < 221 then I0 407 j else 0) → dw_ok (pr_X12_ground K) 107 bc bs [some (.ref 404), some (.int x)] [] (n, SH1, I, J) := by
  have c1 : (1 : Int32).toInt = 1 := rfl
  have c221 : (221 : Int32).toInt = 221 := rfl
  have c1427 : (1427 : Int32).toInt = 1427 := rfl
  intro f
  induction f with
  | zero =>
    intro i x I hi hx hA h1
    refine q_ild rfl rfl ?_
    refine q_ic rfl ?_
    refine q_icmp (c := 3) rfl (by decide) (fun _ => ?_) (fun h => absurd (show x.toInt < (1427 : Int32).toInt from h) (by omega))
    exact hk x I hA (fun j hj => by rw [h1 j (by omega), if_pos hj]) (fun j g1 g2 => by rw [h1 j (by omega), if_neg (by omega)])
  | succ f ih =>
    intro i x I hi hx hA h1
    have t2 : (x + 1).toInt = x.toInt + 1 := by rw [i_add (by omega) (by omega), c1]
    have hxn : x.toInt.toNat = i := by omega
    have fin : ∀ v : Int32, v = (if i < 221 then I0 407 i else 0) → dw_ok (pr_X12_ground K) 136 bc bs [some (.ref 404), some (.int x)] [.int v, .int x, .ref 406] (n, SH1, I, J) := by
      intro v hv
      refine q_iast rfl sk_406 sn_406 (by omega) (show x.toInt < (1427 : Nat) by omega) ?_
      refine q_inc rfl rfl rfl ?_
      refine q_goto rfl ?_
      show dw_ok (pr_X12_ground K) 107 bc bs [some (.ref 404), some (.int (x + 1))] [] (n, SH1, dw_up I 406 x.toInt.toNat v, J)
      rw [hxn]
      refine ih (i + 1) (x + 1) _ (by omega) (by omega) (fun a ha => (up_row ha).trans (hA a ha)) (fun j hj => ?_)
      by_cases e : j = i
      · rw [e, up_same]; exact hv
      · rw [up_fld e]; exact h1 j (by omega)
    refine q_ild rfl rfl ?_
    refine q_ic rfl ?_
    refine q_icmp (c := 3) rfl (by decide) (fun h => absurd (show (1427 : Int32).toInt ≤ x.toInt from h) (by omega)) (fun _ => ?_)
    refine q_ald rfl rfl ?_
    refine q_getr rfl sk_404 sr_404_6 ?_
    refine q_ild rfl rfl ?_
    refine q_ild rfl rfl ?_
    refine q_ic rfl ?_
    refine q_icmp (c := 3) rfl (by decide) (fun w => ?_) (fun w => ?_)
    · have w : (221 : Int32).toInt ≤ x.toInt := w
      refine q_ic rfl ?_
      exact fin 0 (by rw [if_neg (by omega)])
    · have w : x.toInt < (221 : Int32).toInt := w
      refine q_ald rfl rfl ?_
      refine q_getr rfl sk_404 sr_404_7 ?_
      refine q_ild rfl rfl ?_
      refine q_xald rfl (Or.inl rfl) sk_407 sn_407 (by omega) (show x.toInt < (221 : Nat) by omega) ?_
      refine q_goto rfl ?_
      exact fin _ (by rw [if_pos (by omega)]; show I 407 x.toInt.toNat = _; rw [hxn, hA 407 (by decide)])
set_option maxRecDepth 8000 in
/-- a fault is told: -1 less its place -/
theorem mg_bad {n bc bs : Nat} {I : Nat → Nat → Int32} {J : Nat → Nat → Int64} {K : dw_K} {x : Int32} {q : Nat} (h : (I 404 16).toInt = q) (hq : q ≤ 940) (hk : ∀ w : Int32, w.toInt = -1 - (q : Int) → K (some (.int w)) (n, SH1, I, J)) : dw_ok (pr_X12_ground K) 85 bc bs [some (.ref 404), some (.int x)] [] (n, SH1, I, J) := by
  have cm : (-1 : Int32).toInt = -1 := rfl
  refine q_ic rfl ?_
  refine q_ald rfl rfl ?_
  refine q_geti rfl sk_404 ?_
  refine q_sub rfl ?_
  exact q_iret rfl (hk _ (by show (-1 - I 404 16).toInt = _; rw [i_sub (by omega) (by omega), cm, h]))
/-- the rows that ground() leaves -/
def GMl (I0 : Nat → Nat → Int32) (J0 : Nat → Nat → Int64) (I : Nat → Nat → Int32) (J : Nat → Nat → Int64) : Prop :=
  (∀ a, a ≠ 404 → a ≠ 407 → I a = I0 a) ∧ (∀ j, mF j → j ≠ 20 → j ≠ 22 → I 404 j = I0 404 j) ∧ (∀ a, a ≠ 404 → a ≠ 409 → J a = J0 a) ∧ ∀ j, j ≠ 17 → j ≠ 18 → J 404 j = J0 404 j
set_option maxRecDepth 8000 in
theorem GL_f {I0 I I' : Nat → Nat → Int32} {J0 J J' : Nat → Nat → Int64} (h : GMl I0 J0 I J) (g : GMf I J I' J') : GMl I0 J0 I' J' :=
  ⟨fun a h1 h2 => (g.1 a h1 h2).trans (h.1 a h1 h2), fun j h1 h2 h3 => (g.2.1 j h1 h3).trans (h.2.1 j h1 h2 h3), fun a h1 h2 => (g.2.2.1 a h1 h2).trans (h.2.2.1 a h1 h2), fun j h1 h2 => (g.2.2.2 j h1 h2).trans (h.2.2.2 j h1 h2)⟩
set_option maxRecDepth 8000 in
theorem mg_loop {n bc bs : Nat} {K : dw_K} {I0 : Nat → Nat → Int32} {J0 : Nat → Nat → Int64} {b : fB} {N m : Nat} {x : Int32} {G : Nat × Nat × Nat × gS} (hJ : mRes J0) (hb0 : tbM I0 = b) (hN : (I0 404 3).toInt = N) (hN9 : N ≤ 940) (hm : (I0 404 5).toInt = m) (hpl : G.2.1 ≤ 940)
    (hok : G.1 = 0 → ∀ (I' : Nat → Nat → Int32) (J' : Nat → Nat → Int64), GMl I0 J0 I' J' → GMp I' J' I' J' G.2.2.2 → gOK N G.2.2.2 → (I' 404 20).toInt = G.2.2.1 → dw_ok (pr_X12_ground K) 105 bc bs [some (.ref 404), some (.int x)] [] (n, SH1, I', J'))
    (hno : G.1 ≠ 0 → ∀ (I' : Nat → Nat → Int32) (J' : Nat → Nat → Int64) (w : Int32), GMl I0 J0 I' J' → w.toInt = -1 - (G.2.1 : Int) → K (some (.int w)) (n, SH1, I', J')) :
    ∀ (f ln p : Nat) (s : gS) (I : Nat → Nat → Int32) (J : Nat → Nat → Int64), ln + f = 940 → ln ≤ p → ggF b N m (f + 1) ln p s = G → GMl I0 J0 I J → GMp I J I J s → gOK N s → gLet b s → (I 404 20).toInt = ln → MK b (tkF b N m p) I J → p ≤ N → dw_ok (pr_X12_ground K) 62 bc bs [some (.ref 404), some (.int x)] [] (n, SH1, I, J) := by
  have c1 : (1 : Int32).toInt = 1 := rfl
  have round : ∀ (f ln p : Nat) (s : gS) (I : Nat → Nat → Int32) (J : Nat → Nat → Int64), ln ≤ 940 → ggF b N m (f + 1) ln p s = G → GMl I0 J0 I J → GMp I J I J s → gOK N s → gLet b s → (I 404 20).toInt = ln → MK b (tkF b N m p) I J → p ≤ N →
      (∀ (p' : Nat) (s' : gS) (I' : Nat → Nat → Int32) (J' : Nat → Nat → Int64), p < p' → ggF b N m f (ln + 1) p' s' = G → GMl I0 J0 I' J' → GMp I' J' I' J' s' → gOK N s' → gLet b s' → (I' 404 20).toInt = (ln + 1 : Nat) → MK b (tkF b N m p') I' J' → p' ≤ N → dw_ok (pr_X12_ground K) 62 bc bs [some (.ref 404), some (.int x)] [] (n, SH1, I', J')) →
      dw_ok (pr_X12_ground K) 62 bc bs [some (.ref 404), some (.int x)] [] (n, SH1, I, J) := by
    intro f ln p s I J hl9 hG hL hR hOK hLet h20 hT hp next
    have e3 : I 404 3 = I0 404 3 := hL.2.1 3 (by decide) (by decide) (by decide)
    have e5 : I 404 5 = I0 404 5 := hL.2.1 5 (by decide) (by decide) (by decide)
    have hbI : tbM I = b := (tbM_eq e3 (hL.1 405 (by decide) (by decide))).trans hb0
    subst hbI
    have hNI : (I 404 3).toInt = N := by rw [e3]; exact hN
    have hmI : (I 404 5).toInt = m := by rw [e5]; exact hm
    have hJI : mRes J := mRes_eq hJ (hL.2.2.1 410 (by decide) (by decide))
    have hin := tkF_in (b := tbM I) (n := N) (m := m) (p := p) hp
    unfold ggF at hG
    refine q_ald rfl rfl ?_
    refine q_geti rfl sk_404 ?_
    refine q_if (c := 0) rfl (by decide) (fun h => ?_) (fun h => ?_)
    · have h : (I 404 11).toInt = 0 := h
      have hT0 : (tkF (tbM I) N m p).1 = 0 := by have := hT.1; omega
      rw [if_pos hT0] at hG
      rw [← hG] at hok
      exact hok rfl I J hL hR hOK h20
    have h : (I 404 11).toInt ≠ 0 := h
    have hT0 : ¬ (tkF (tbM I) N m p).1 = 0 := by have := hT.1; omega
    rw [if_neg hT0] at hG
    refine q_ald rfl rfl ?_
    refine q_callV (as := []) (rest := []) rfl rfl sk_404 rfl (Nat.le_of_ble_eq_true rfl) ?_
    refine v_mgline (I0 := I) (J0 := J) hR hOK hLet hJI hNI hN9 hmI hT hin.2.2.1 rfl hp (fun T' p' s' I' J' eG hTe hp' hadv hM hR' hO' hL' => ?_) (fun hr I' J' hF g15 g16 => ?_)
    rotate_left
    · show dw_ok (pr_X12_ground K) 73 bc bs [some (.ref 404), some (.int x)] [.int 0] (n, SH1, I', J')
      rw [if_neg hr] at hG
      rw [← hG] at hno hpl
      refine q_if (c := 0) rfl (by decide) (fun _ => ?_) (fun h => absurd rfl h)
      exact mg_bad g16 hpl (fun w hw => hno hr I' J' w (GL_f hL hF) hw)
    show dw_ok (pr_X12_ground K) 73 bc bs [some (.ref 404), some (.int x)] [.int 1] (n, SH1, I', J')
    have hin' := tkF_in (b := tbM I) (n := N) (m := m) (p := p') hp'
    rw [← hTe] at hin'
    obtain ⟨e1, e2, e4⟩ := gmV.2 I' J' hR'
    have hb' : tbM I' = tbM I := tbM_eq e1 e4
    have h20' : (I' 404 20).toInt = ln := by rw [hR'.1.2.1 20 (by decide) (by decide)]; exact h20
    have hk1 : (gkF (tbM I) N m (tkF (tbM I) N m p) s).1 = 0 → (tkF (tbM I) N m p).1 = 1 := gk_kind
    rw [eG] at hG hk1
    refine q_if (c := 0) rfl (by decide) (fun h => absurd (show (1 : Int32).toInt = 0 from h) (by decide)) (fun _ => ?_)
    refine q_ald rfl rfl ?_
    refine q_ic rfl ?_
    refine q_callV (as := [.int 59]) (rest := []) rfl rfl sk_404 rfl (Nat.le_of_ble_eq_true rfl) ?_
    refine v_sign (b := tbM I) (T := T') (N := N) (m := m) (by rw [e1]; exact hNI) hN9 (by rw [e2]; exact hmI) hb' hM hin'.2.2.1 (fun h3 I2 J2 hA hF hJa hJf hM2 => ?_) (fun h3 => ?_)
    · have eS : stG T' (fun p => (0, 0, p, s')) = (0, 0, T'.2.2.1, s') := if_pos h3
      rw [eS] at hG hk1
      have hw := hk1 rfl
      have hG : ggF (tbM I) N m f (ln + 1) T'.2.2.1 s' = G := hG
      have hR2 : GMp I J I2 J2 s' := GM_tok hR' hA (fun j hj => hF j hj.1 hj.2.1 hj.2.2.1 hj.2.2.2.1 hj.2.2.2.2.1) hJa hJf
      have h202 : (I2 404 20).toInt = ln := by rw [hF 20 (by decide) (by decide) (by decide) (by decide) (by decide)]; exact h20'
      have t20 : (I2 404 20 + 1).toInt = (ln + 1 : Nat) := by rw [i_add (by omega) (by omega), c1, h202]; omega
      show dw_ok (pr_X12_ground K) 82 bc bs [some (.ref 404), some (.int x)] [.int 1] (n, SH1, I2, J2)
      refine q_if (c := 1) rfl (by decide) (fun _ => ?_) (fun h => absurd (show (1 : Int32).toInt = 0 from h) (by decide))
      refine q_ald rfl rfl ?_
      refine q_dup rfl ?_
      refine q_geti rfl sk_404 ?_
      refine q_ic rfl ?_
      refine q_add rfl ?_
      refine q_puti rfl sk_404 ?_
      refine q_goto rfl ?_
      have hL2 := GL_f hL hR2.1
      have hpp := (hin.2.2.2 (Or.inl hw)).1
      exact next T'.2.2.1 s' (dw_up I2 404 20 (I2 404 20 + 1)) J2 (by omega) hG ⟨fun a h1 h2 => (up_row h1).trans (hL2.1 a h1 h2), fun j h1 h2 h3 => (up_fld h2).trans (hL2.2.1 j h1 h2 h3), hL2.2.2.1, hL2.2.2.2⟩ (GM_20 (GM_self hR2)) hO' hL' (by rw [up_same]; exact t20) (MK_20 hM2) hin'.2.2.1
    · have eS : stG T' (fun p => (0, 0, p, s')) = (1, T'.2.1, 0, g0) := if_neg h3
      rw [eS] at hG
      have hG : (1, T'.2.1, 0, g0) = G := hG
      show dw_ok (pr_X12_ground K) 82 bc bs [some (.ref 404), some (.int x)] [.int 0] (n, SH1, dw_up (dw_up I' 404 15 1) 404 16 (I' 404 12), J')
      refine q_if (c := 1) rfl (by decide) (fun h => absurd rfl h) (fun _ => ?_)
      have hL2 := GL_f hL hR'.1
      rw [← hG] at hno hpl
      exact mg_bad (q := T'.2.1) hM.2.1 hpl (fun w hw => hno (nn rfl) _ _ w ⟨fun a h1 h2 => (up_row h1).trans ((up_row h1).trans (hL2.1 a h1 h2)), fun j h1 h2 h3 => (up_fld h1.2.2.2.2.2.2.1).trans ((up_fld h1.2.2.2.2.2.1).trans (hL2.2.1 j h1 h2 h3)), hL2.2.2.1, hL2.2.2.2⟩ hw)
  intro f
  induction f with
  | zero =>
    intro ln p s I J hf hlp hG hL hR hOK hLet h20 hT hp
    refine round 0 ln p s I J (by omega) hG hL hR hOK hLet h20 hT hp (fun p' s' I' J' hp' _ _ _ _ _ _ _ hle => ?_)
    omega
  | succ f ih =>
    intro ln p s I J hf hlp hG hL hR hOK hLet h20 hT hp
    exact round (f + 1) ln p s I J (by omega) hG hL hR hOK hLet h20 hT hp (fun p' s' I' J' hp' hG' a1 a2 a3 a4 a5 a6 hle => ih (ln + 1) p' s' I' J' (by omega) (by omega) hG' a1 a2 a3 a4 a5 a6 hle)
/-- a line's places lie on the tape -/
abbrev gB (N : Nat) (r : gR) : Prop := r.2.1 ≤ N ∧ r.2.2.1 ≤ N
set_option maxRecDepth 8000 in
theorem nbG_b {t : fT} {lo hi : Int} {k : Int32 → Nat → gR} {N : Nat} (h1 : t.2.1 ≤ N) (h2 : ∀ v, gB N (k v t.2.2.1)) : gB N (nbG t lo hi k) := by
  unfold nbG
  by_cases c : nbF t lo hi = 0
  · rw [if_pos c]; exact h2 _
  · rw [if_neg c]; exact ⟨h1, Nat.zero_le _⟩
set_option maxRecDepth 8000 in
theorem stG_b {t : fT} {k : Nat → gR} {N : Nat} (h1 : t.2.1 ≤ N) (h2 : gB N (k t.2.2.1)) : gB N (stG t k) := by
  unfold stG
  by_cases c : t.1 = 3
  · rw [if_pos c]; exact h2
  · rw [if_neg c]; exact ⟨h1, Nat.zero_le _⟩
set_option maxRecDepth 8000 in
theorem gkF_b {b : fB} {N m : Nat} {T : fT} {s : gS} (hT : T.2.1 ≤ N) (hTN : T.2.2.1 ≤ N) : gB N (gkF b N m T s) := by
  have tk : ∀ {p : Nat}, p ≤ N → (tkF b N m p).2.1 ≤ N ∧ (tkF b N m p).2.2.1 ≤ N := fun hp => ⟨(tkF_in hp).1, (tkF_in hp).2.2.1⟩
  have i1 := tk hTN
  unfold gkF
  by_cases c1 : sayF b T (dw_sb 0)
  · rw [if_pos c1]
    unfold gkA
    by_cases d1 : 0 < s.2.2.1.length
    · rw [if_pos d1]; exact ⟨hT, Nat.zero_le _⟩
    rw [if_neg d1]
    by_cases d2 : 8 ≤ s.1.length
    · rw [if_pos d2]; exact ⟨hT, Nat.zero_le _⟩
    rw [if_neg d2]
    by_cases d3 : (tkF b N m T.2.2.1).1 ≠ 1
    · rw [if_pos d3]; exact ⟨i1.1, Nat.zero_le _⟩
    rw [if_neg d3]
    by_cases d4 : tdF b (tkF b N m T.2.2.1)
    · rw [if_pos d4]; exact ⟨i1.1, Nat.zero_le _⟩
    rw [if_neg d4]
    by_cases d5 : nmF b (tkF b N m T.2.2.1) s.1
    · rw [if_pos d5]; exact ⟨i1.1, Nat.zero_le _⟩
    rw [if_neg d5]
    have i2 := tk i1.2
    have i3 := tk i2.2
    have i4 := tk i3.2
    refine nbG_b i2.1 (fun v1 => nbG_b i3.1 (fun v2 => ?_))
    by_cases d6 : sayF b (tkF b N m (tkF b N m (tkF b N m (tkF b N m T.2.2.1).2.2.1).2.2.1).2.2.1) (dw_sb 14)
    · rw [if_pos d6]
      have i5 := tk i4.2
      have i6 := tk i5.2
      exact nbG_b i5.1 (fun v3 => stG_b i6.1 ⟨Nat.zero_le _, i6.2⟩)
    · rw [if_neg d6]
      exact stG_b i4.1 ⟨Nat.zero_le _, i4.2⟩
  rw [if_neg c1]
  by_cases c2 : sayF b T (dw_sb 15)
  · rw [if_pos c2]
    unfold gkR
    by_cases d1 : 12 ≤ s.2.2.1.length
    · rw [if_pos d1]; exact ⟨hT, Nat.zero_le _⟩
    rw [if_neg d1]
    by_cases d2 : (tkF b N m T.2.2.1).1 ≠ 1
    · rw [if_pos d2]; exact ⟨i1.1, Nat.zero_le _⟩
    rw [if_neg d2]
    by_cases d3 : 0 < s.2.2.1.length ∧ (tkF b N m T.2.2.1).2.2.1 ≠ (tkF b N m T.2.2.1).2.1 + s.2.1
    · rw [if_pos d3]; exact ⟨i1.1, Nat.zero_le _⟩
    rw [if_neg d3]
    by_cases d4 : ¬ lrF b (tkF b N m T.2.2.1).2.1 ((tkF b N m T.2.2.1).2.2.1 - (tkF b N m T.2.2.1).2.1) s.1.length
    · rw [if_pos d4]; exact ⟨i1.1, Nat.zero_le _⟩
    rw [if_neg d4]
    have i2 := tk i1.2
    exact stG_b i2.1 ⟨Nat.zero_le _, i2.2⟩
  rw [if_neg c2]
  by_cases c3 : sayF b T (dw_sb 16)
  · rw [if_pos c3]
    unfold gkS
    by_cases d1 : 12 ≤ s.2.2.2.1.length
    · rw [if_pos d1]; exact ⟨hT, Nat.zero_le _⟩
    rw [if_neg d1]
    have i2 := tk i1.2
    have i3 := tk i2.2
    have i4 := tk i3.2
    have i5 := tk i4.2
    exact nbG_b i1.1 (fun v1 => nbG_b i2.1 (fun v2 => nbG_b i3.1 (fun v3 => nbG_b i4.1 (fun v4 => stG_b i5.1 ⟨Nat.zero_le _, i5.2⟩))))
  rw [if_neg c3]
  by_cases c4 : sayF b T (dw_sb 17)
  · rw [if_pos c4]
    unfold gkW
    by_cases d1 : s.2.2.2.2 ≠ none
    · rw [if_pos d1]; exact ⟨hT, Nat.zero_le _⟩
    rw [if_neg d1]
    have i2 := tk i1.2
    exact nbG_b i1.1 (fun v1 => stG_b i2.1 ⟨Nat.zero_le _, i2.2⟩)
  rw [if_neg c4]
  exact ⟨hT, Nat.zero_le _⟩
set_option maxRecDepth 8000 in
theorem pl_gg {b : fB} {N m : Nat} : ∀ (f ln p : Nat) (s : gS), p ≤ N → (ggF b N m f ln p s).2.1 ≤ N
  | 0, _, _, _, _ => Nat.zero_le _
  | f + 1, ln, p, s, hp => by
    have i1 := tkF_in (b := b) (n := N) (m := m) (p := p) hp
    have g := gkF_b (b := b) (m := m) (T := tkF b N m p) (s := s) i1.1 i1.2.2.1
    unfold ggF
    by_cases c : (tkF b N m p).1 = 0
    · rw [if_pos c]; exact Nat.zero_le _
    rw [if_neg c]
    by_cases d : (gkF b N m (tkF b N m p) s).1 = 0
    · rw [if_pos d]; exact pl_gg f _ _ _ g.2
    · rw [if_neg d]; exact g.1
set_option maxRecDepth 8000 in
theorem v_mground {n : Nat} {I : Nat → Nat → Int32} {J : Nat → Nat → Int64} {K : dw_K} {N : Nat} {G : Nat × Nat × Nat × gS} (hJ : mRes J) (hN : (I 404 2).toInt = N) (hN9 : N ≤ 940) (hG : ggF (tbL I) N 900 941 0 0 g0 = G)
    (h1 : G.1 = 0 → ∀ (I3 I' : Nat → Nat → Int32) (J' : Nat → Nat → Int64) (w : Int32), GMp I3 J' I3 J' G.2.2.2 → tbM I3 = tbL I → gOK N G.2.2.2 → GTk I3 I' (I3 407) → (∀ a, a ≠ 404 → a ≠ 406 → a ≠ 407 → I' a = I a) → (∀ j, 23 ≤ j → I' 404 j = I 404 j) → I' 404 2 = 0 → (∀ a, a ≠ 404 → a ≠ 409 → J' a = J a) → w.toInt = G.2.2.1 → K (some (.int w)) (n, SH1, I', J'))
    (h2 : G.1 ≠ 0 → ∀ (I' : Nat → Nat → Int32) (J' : Nat → Nat → Int64) (w : Int32), (∀ a, a ≠ 404 → a ≠ 407 → I' a = I a) → (∀ j, 23 ≤ j → I' 404 j = I 404 j) → I' 404 2 = 0 → (∀ a, a ≠ 404 → a ≠ 409 → J' a = J a) → w.toInt = -1 - (G.2.1 : Int) → K (some (.int w)) (n, SH1, I', J')) : t_X12_ground [.ref 404] (n, SH1, I, J) K := by
  have c0 : (0 : Int32).toInt = 0 := rfl
  have hpl : G.2.1 ≤ 940 := by rw [← hG]; exact Nat.le_trans (pl_gg 941 0 0 g0 (Nat.zero_le _)) hN9
  refine q_body (Nat.le_of_ble_eq_true rfl) ?_
  refine q_ald rfl rfl ?_
  refine q_ic rfl ?_
  refine q_puti rfl sk_404 ?_
  refine q_ald rfl rfl ?_
  refine q_ic rfl ?_
  refine q_callV (as := [.int 900]) (rest := []) rfl rfl sk_404 rfl (Nat.le_of_ble_eq_true rfl) ?_
  refine v_taken (I := dw_up I 404 0 0) ?_
  refine q_ald rfl rfl ?_
  refine q_ic rfl ?_
  refine q_puti rfl sk_404 ?_
  refine q_ald rfl rfl ?_
  refine q_ic rfl ?_
  refine q_puti rfl sk_404 ?_
  refine q_ald rfl rfl ?_
  refine q_ic rfl ?_
  refine q_putz rfl sk_404 (Or.inl rfl) ?_
  refine q_ic rfl ?_
  refine q_ist rfl rfl ?_
  obtain ⟨I2, hI2⟩ : ∃ X, X = dw_up (dw_up (dw_up (dw_up (dw_up (dw_up (dw_up (dw_up I 404 0 0) 404 3 (dw_up I 404 0 0 404 2)) 404 2 0) 404 4 0) 404 5 900) 404 15 0) 404 20 0) 404 22 0 := ⟨_, rfl⟩
  show dw_ok (pr_X12_ground K) 29 0 0 [some (.ref 404), some (.int 0)] [] (n, SH1, dw_up (dw_up (dw_up (dw_up (dw_up (dw_up (dw_up (dw_up I 404 0 0) 404 3 (dw_up I 404 0 0 404 2)) 404 2 0) 404 4 0) 404 5 900) 404 15 0) 404 20 0) 404 22 0, J)
  rw [← hI2]
  have hA2 : ∀ a, a ≠ 404 → I2 a = I a := fun a h => by rw [hI2]; funext j; simp [dw_up, h]
  have hF2 : ∀ j, 23 ≤ j → I2 404 j = I 404 j := fun j h => by
    rw [hI2]
    simp [dw_up, show j ≠ 22 by omega, show j ≠ 20 by omega, show j ≠ 15 by omega, show j ≠ 5 by omega, show j ≠ 4 by omega, show j ≠ 2 by omega, show j ≠ 3 by omega, show j ≠ 0 by omega]
  have f2 : I2 404 2 = 0 := by rw [hI2]; rfl
  have f3 : I2 404 3 = I 404 2 := by rw [hI2]; rfl
  have f4 : I2 404 4 = 0 := by rw [hI2]; rfl
  have f5 : I2 404 5 = 900 := by rw [hI2]; rfl
  have f20 : I2 404 20 = 0 := by rw [hI2]; rfl
  have f22 : I2 404 22 = 0 := by rw [hI2]; rfl
  refine hz_loop (I0 := I2) (fun x I3 hA3 hz3 => ?_) 221 0 0 I2 rfl rfl (fun _ _ => rfl) (fun j hj => absurd hj (Nat.not_lt_zero j))
  refine q_ald rfl rfl ?_
  refine q_getr rfl sk_404 sr_404_7 ?_
  refine q_ic rfl ?_
  refine q_ic rfl ?_
  refine q_iast rfl sk_407 sn_407 (by decide) (by decide) ?_
  show dw_ok (pr_X12_ground K) 58 0 0 [some (.ref 404), some (.int x)] [] (n, SH1, dw_up I3 407 4 500, J)
  have hA4 : ∀ a, a ≠ 407 → dw_up I3 407 4 500 a = I2 a := fun a ha => (up_row ha).trans (hA3 a ha)
  have hz4 : ∀ j, j < 221 → j ≠ 4 → dw_up I3 407 4 500 407 j = 0 := fun j hj h4 => (up_fld h4).trans (hz3 j hj)
  have hz5 : dw_up I3 407 4 500 407 4 = 500 := up_same
  generalize dw_up I3 407 4 500 = I4 at hA4 hz4 hz5 ⊢
  have e404 : I4 404 = I2 404 := hA4 404 (by decide)
  have hb4 : tbM I4 = tbL I := by
    funext k
    unfold tbM tbL
    rw [e404, f3, hA4 405 (by decide), hA2 405 (by decide)]
  have hR4 : GMp I4 J I4 J g0 := by
    refine ⟨⟨fun _ _ _ => rfl, fun _ _ _ => rfl, fun _ _ _ => rfl, fun _ _ _ => rfl⟩, ⟨?_, ?_, ?_, ?_, ?_⟩, ?_, fun i hi => absurd hi (Nat.not_lt_zero i), fun i hi => absurd hi (Nat.not_lt_zero i), fun y hy => absurd hy (Nat.not_lt_zero y), fun i hi => absurd hi (Nat.not_lt_zero i)⟩
    · rw [hz4 0 (by decide) (by decide)]; rfl
    · rw [hz4 1 (by decide) (by decide)]; rfl
    · rw [hz4 2 (by decide) (by decide)]; rfl
    · rw [hz4 3 (by decide) (by decide)]; rfl
    · rw [hz5]; rfl
    · rw [e404, f22]; rfl
  have hOK0 : gOK N g0 := ⟨Nat.zero_le _, Nat.zero_le _, Nat.zero_le _, Nat.zero_le _, fun x hx => absurd hx List.not_mem_nil, fun x hx => absurd hx List.not_mem_nil⟩
  have hL0 : gLet (tbL I) g0 := fun x hx => absurd hx List.not_mem_nil
  have h4N : (I4 404 3).toInt = N := by rw [e404, f3]; exact hN
  have h4m : (I4 404 5).toInt = 900 := by rw [e404, f5]; rfl
  refine q_ald rfl rfl ?_
  refine mn_step (p := 0) rfl gmV hR4 h4N hN9 (m := 900) h4m (Nat.zero_le _) (by rw [e404, f4]; rfl) (fun I5 J5 hR5 hM5 => ?_)
  rw [hb4] at hM5
  obtain ⟨g1, g2, g3⟩ := gmV.2 I5 J5 hR5
  have hb5 : tbM I5 = tbL I := (tbM_eq g1 g3).trans hb4
  have h520 : (I5 404 20).toInt = (0 : Nat) := by rw [hR5.1.2.1 20 (by decide) (by decide), e404, f20]; rfl
  have fr5 : ∀ a, a ≠ 404 → a ≠ 407 → I5 a = I a := fun a a1 a2 => (hR5.1.1 a a1 a2).trans ((hA4 a a2).trans (hA2 a a1))
  have ff5 : ∀ j, 23 ≤ j → I5 404 j = I 404 j := fun j hj => by rw [hR5.1.2.1 j ⟨by omega, by omega, by omega, by omega, by omega, by omega, by omega, by omega⟩ (by omega), e404]; exact hF2 j hj
  have f52 : I5 404 2 = 0 := by rw [hR5.1.2.1 2 (by decide) (by decide), e404]; exact f2
  have fJ5 : ∀ a, a ≠ 404 → a ≠ 409 → J5 a = J a := fun a a1 a2 => hR5.1.2.2.1 a a1 a2
  have hL5 : GMl I5 J5 I5 J5 := ⟨fun _ _ _ => rfl, fun _ _ _ _ => rfl, fun _ _ _ => rfl, fun _ _ _ => rfl⟩
  refine mg_loop (I0 := I5) (J0 := J5) (G := G) (m := 900) (mRes_eq hJ (fJ5 410 (by decide) (by decide))) hb5 (by rw [g1]; exact h4N) hN9 (by rw [g2]; exact h4m) hpl (fun hg I6 J6 hL6 hR6 hO6 h620 => ?_) (fun hg I6 J6 w hL6 hw => ?_) 940 0 0 g0 I5 J5 rfl (Nat.le_refl _) hG hL5 (GM_self hR5) hOK0 hL0 h520 hM5 (Nat.zero_le _)
  · have e3 : I6 404 3 = I5 404 3 := hL6.2.1 3 (by decide) (by decide) (by decide)
    have hb6 : tbM I6 = tbL I := (tbM_eq e3 (hL6.1 405 (by decide) (by decide))).trans hb5
    refine q_ic rfl ?_
    refine q_ist rfl rfl ?_
    show dw_ok (pr_X12_ground K) 107 0 0 [some (.ref 404), some (.int 0)] [] (n, SH1, I6, J6)
    refine sc_loop (I0 := I6) (fun x I7 hA7 b1 b2 => ?_) 1427 0 0 I6 rfl rfl (fun _ _ => rfl) (fun j hj => absurd hj (Nat.not_lt_zero j))
    refine q_ic rfl ?_
    refine q_ist rfl rfl ?_
    show dw_ok (pr_X12_ground K) 145 0 0 [some (.ref 404), some (.int 0)] [] (n, SH1, I7, J6)
    refine sn_loop (I0 := I6) (h := I6 407) (fun I8 hG8 => ?_) 6 0 0 I7 rfl rfl hA7 b1 (fun j j1 j2 _ => b2 j j1 j2) (fun k hk => absurd hk (Nat.not_lt_zero k))
    refine h1 hg I6 I8 J6 (I6 404 20) hR6 hb6 hO6 hG8 (fun a a1 a2 a3 => ?_) (fun j hj => ?_) ?_ (fun a a1 a2 => (hL6.2.2.1 a a1 a2).trans (fJ5 a a1 a2)) h620
    · rw [hG8.1 a a2, hL6.1 a a1 a3]; exact fr5 a a1 a3
    · rw [hG8.1 404 (by decide), hL6.2.1 j ⟨by omega, by omega, by omega, by omega, by omega, by omega, by omega, by omega⟩ (by omega) (by omega)]; exact ff5 j hj
    · rw [hG8.1 404 (by decide), hL6.2.1 2 (by decide) (by decide) (by decide)]; exact f52
  · refine h2 hg I6 J6 w (fun a a1 a2 => (hL6.1 a a1 a2).trans (fr5 a a1 a2)) (fun j hj => ?_) ?_ (fun a a1 a2 => (hL6.2.2.1 a a1 a2).trans (fJ5 a a1 a2)) hw
    · rw [hL6.2.1 j ⟨by omega, by omega, by omega, by omega, by omega, by omega, by omega, by omega⟩ (by omega) (by omega)]; exact ff5 j hj
    · rw [hL6.2.1 2 (by decide) (by decide) (by decide)]; exact f52
end
