/-! ===== a GROUND copied, taken; ground() of the class ===== -/
set_option maxRecDepth 8000 in
theorem cp_row {n sr d N a : Nat} {sh : Nat → Nat × Nat × (Nat → Option Nat)} {I : Nat → Nat → Int32} {J : Nat → Nat → Int64} (h : a ≠ d) : (dw_cp (n, sh, I, J) sr d 0 0 N).2.2.1 a = I a := by
  funext j
  show (if a = d then _ else I a j) = I a j
  rw [if_neg h]
set_option maxRecDepth 8000 in
theorem cp_at {n sr d N j : Nat} {sh : Nat → Nat × Nat × (Nat → Option Nat)} {I : Nat → Nat → Int32} {J : Nat → Nat → Int64} (h : j < N) : (dw_cp (n, sh, I, J) sr d 0 0 N).2.2.1 d j = I sr j := by
  show (if d = d then (if 0 ≤ j ∧ j < 0 + N then I sr (0 + (j - 0)) else I d j) else I d j) = I sr j
  rw [if_pos rfl, if_pos (by omega), Nat.zero_add, Nat.sub_zero]
/-- a GROUND lies at A -/
def GT (A : Nat) : Prop := (SH1 A).1 = 0 ∧ ((SH1 A).2.2 5 = some (A + 1) ∧ (SH1 A).2.2 6 = some (A + 2) ∧ (SH1 A).2.2 7 = some (A + 3) ∧ (SH1 A).2.2 8 = some (A + 4) ∧ (SH1 A).2.2 9 = some (A + 5)) ∧ ((SH1 (A + 1)).1 = 16 ∧ (SH1 (A + 2)).1 = 16 ∧ (SH1 (A + 3)).1 = 16 ∧ (SH1 (A + 4)).1 = 16 ∧ (SH1 (A + 5)).1 = 16) ∧ (SH1 (A + 1)).2.1 = 8 ∧ (SH1 (A + 2)).2.1 = 8 ∧ (SH1 (A + 3)).2.1 = 8 ∧ (SH1 (A + 4)).2.1 = 144 ∧ (SH1 (A + 5)).2.1 = 144
set_option maxRecDepth 8000 in
theorem gt_4 : GT 4 := ⟨sk_4, ⟨sr_4_5, sr_4_6, sr_4_7, sr_4_8, sr_4_9⟩, ⟨sk_5, sk_6, sk_7, sk_8, sk_9⟩, sn_5, sn_6, sn_7, sn_8, sn_9⟩
set_option maxRecDepth 8000 in
theorem gt_102 : GT 102 := ⟨sk_102, ⟨sr_102_5, sr_102_6, sr_102_7, sr_102_8, sr_102_9⟩, ⟨sk_103, sk_104, sk_105, sk_106, sk_107⟩, sn_103, sn_104, sn_105, sn_106, sn_107⟩
set_option maxRecDepth 8000 in
theorem gt_211 : GT 211 := ⟨sk_211, ⟨sr_211_5, sr_211_6, sr_211_7, sr_211_8, sr_211_9⟩, ⟨sk_212, sk_213, sk_214, sk_215, sk_216⟩, sn_212, sn_213, sn_214, sn_215, sn_216⟩
set_option maxRecDepth 8000 in
theorem gt_308 : GT 308 := ⟨sk_308, ⟨sr_308_5, sr_308_6, sr_308_7, sr_308_8, sr_308_9⟩, ⟨sk_309, sk_310, sk_311, sk_312, sk_313⟩, sn_309, sn_310, sn_311, sn_312, sn_313⟩
set_option maxRecDepth 8000 in
theorem v_gcopy {n : Nat} {I : Nat → Nat → Int32} {J : Nat → Nat → Int64} {K : dw_K} {A B : Nat} (hA : GT A) (hB : GT B) (hAB : A + 6 ≤ B ∨ B + 6 ≤ A)
    (hk : ∀ I' : Nat → Nat → Int32, (∀ a, (a < A ∨ A + 5 < a) → I' a = I a) → (∀ j, j < 5 → I' A j = I B j) → (∀ j, j < 8 → I' (A + 1) j = I (B + 1) j ∧ I' (A + 2) j = I (B + 2) j ∧ I' (A + 3) j = I (B + 3) j) → (∀ j, j < 144 → I' (A + 4) j = I (B + 4) j ∧ I' (A + 5) j = I (B + 5) j) → K none (n, SH1, I', J)) : t_X0_copyFrom [.ref A, .ref B] (n, SH1, I, J) K := by
  obtain ⟨kA, ⟨rA5, rA6, rA7, rA8, rA9⟩, ⟨kA1, kA2, kA3, kA4, kA5⟩, nA1, nA2, nA3, nA4, nA5⟩ := hA
  obtain ⟨kB, ⟨rB5, rB6, rB7, rB8, rB9⟩, ⟨kB1, kB2, kB3, kB4, kB5⟩, nB1, nB2, nB3, nB4, nB5⟩ := hB
  refine q_body (Nat.le_of_ble_eq_true rfl) ?_
  refine q_ald rfl rfl ?_
  refine q_ald rfl rfl ?_
  refine q_geti rfl kB ?_
  refine q_puti rfl kA ?_
  show dw_ok (pr_X0_copyFrom K) 8 0 0 [some (.ref A), some (.ref B)] [] (n, SH1, dw_up I A 0 (I B 0), J)
  have r0 : ∀ a, a ≠ A → dw_up I A 0 (I B 0) a = I a := fun a ha => (up_row ha)
  have f0 : ∀ j, j < 1 → dw_up I A 0 (I B 0) A j = I B j := fun j hj => by
    by_cases e : j = 0
    · rw [e, up_same]
    · rw [up_fld e]; exact absurd hj (by omega)
  generalize dw_up I A 0 (I B 0) = F0 at r0 f0 ⊢
  refine q_ald rfl rfl ?_
  refine q_ald rfl rfl ?_
  refine q_geti rfl kB ?_
  refine q_puti rfl kA ?_
  show dw_ok (pr_X0_copyFrom K) 16 0 0 [some (.ref A), some (.ref B)] [] (n, SH1, dw_up F0 A 1 (F0 B 1), J)
  have r1 : ∀ a, a ≠ A → dw_up F0 A 1 (F0 B 1) a = I a := fun a ha => (up_row ha).trans (r0 a ha)
  have f1 : ∀ j, j < 2 → dw_up F0 A 1 (F0 B 1) A j = I B j := fun j hj => by
    by_cases e : j = 1
    · rw [e, up_same]; exact congrFun (r0 B (by omega)) 1
    · rw [up_fld e]; exact f0 j (by omega)
  generalize dw_up F0 A 1 (F0 B 1) = F1 at r1 f1 ⊢
  refine q_ald rfl rfl ?_
  refine q_ald rfl rfl ?_
  refine q_geti rfl kB ?_
  refine q_puti rfl kA ?_
  show dw_ok (pr_X0_copyFrom K) 24 0 0 [some (.ref A), some (.ref B)] [] (n, SH1, dw_up F1 A 2 (F1 B 2), J)
  have r2 : ∀ a, a ≠ A → dw_up F1 A 2 (F1 B 2) a = I a := fun a ha => (up_row ha).trans (r1 a ha)
  have f2 : ∀ j, j < 3 → dw_up F1 A 2 (F1 B 2) A j = I B j := fun j hj => by
    by_cases e : j = 2
    · rw [e, up_same]; exact congrFun (r1 B (by omega)) 2
    · rw [up_fld e]; exact f1 j (by omega)
  generalize dw_up F1 A 2 (F1 B 2) = F2 at r2 f2 ⊢
  refine q_ald rfl rfl ?_
  refine q_ald rfl rfl ?_
  refine q_geti rfl kB ?_
  refine q_puti rfl kA ?_
  show dw_ok (pr_X0_copyFrom K) 32 0 0 [some (.ref A), some (.ref B)] [] (n, SH1, dw_up F2 A 3 (F2 B 3), J)
  have r3 : ∀ a, a ≠ A → dw_up F2 A 3 (F2 B 3) a = I a := fun a ha => (up_row ha).trans (r2 a ha)
  have f3 : ∀ j, j < 4 → dw_up F2 A 3 (F2 B 3) A j = I B j := fun j hj => by
    by_cases e : j = 3
    · rw [e, up_same]; exact congrFun (r2 B (by omega)) 3
    · rw [up_fld e]; exact f2 j (by omega)
  generalize dw_up F2 A 3 (F2 B 3) = F3 at r3 f3 ⊢
  refine q_ald rfl rfl ?_
  refine q_ald rfl rfl ?_
  refine q_geti rfl kB ?_
  refine q_puti rfl kA ?_
  show dw_ok (pr_X0_copyFrom K) 40 0 0 [some (.ref A), some (.ref B)] [] (n, SH1, dw_up F3 A 4 (F3 B 4), J)
  have r4 : ∀ a, a ≠ A → dw_up F3 A 4 (F3 B 4) a = I a := fun a ha => (up_row ha).trans (r3 a ha)
  have f4 : ∀ j, j < 5 → dw_up F3 A 4 (F3 B 4) A j = I B j := fun j hj => by
    by_cases e : j = 4
    · rw [e, up_same]; exact congrFun (r3 B (by omega)) 4
    · rw [up_fld e]; exact f3 j (by omega)
  generalize dw_up F3 A 4 (F3 B 4) = F4 at r4 f4 ⊢
  refine q_ald rfl rfl ?_
  refine q_getr rfl kB rB5 ?_
  refine q_ic rfl ?_
  refine q_ald rfl rfl ?_
  refine q_getr rfl kA rA5 ?_
  refine q_ic rfl ?_
  refine q_ic rfl ?_
  refine q_copy (n := 8) rfl kB1 kA1 nB1 nA1 rfl rfl (Nat.le_refl _) (Nat.le_refl _) ?_
  show dw_ok (pr_X0_copyFrom K) 55 0 0 [some (.ref A), some (.ref B)] [] (n, SH1, (dw_cp (n, SH1, F4, J) (B + 1) (A + 1) 0 0 8).2.2.1, J)
  have g1 : ∀ a, a ≠ A + 1 → (dw_cp (n, SH1, F4, J) (B + 1) (A + 1) 0 0 8).2.2.1 a = F4 a := fun a ha => cp_row ha
  have h1 : ∀ j, j < 8 → (dw_cp (n, SH1, F4, J) (B + 1) (A + 1) 0 0 8).2.2.1 (A + 1) j = F4 (B + 1) j := fun j hj => cp_at hj
  generalize (dw_cp (n, SH1, F4, J) (B + 1) (A + 1) 0 0 8).2.2.1 = H1 at g1 h1 ⊢
  refine q_ald rfl rfl ?_
  refine q_getr rfl kB rB6 ?_
  refine q_ic rfl ?_
  refine q_ald rfl rfl ?_
  refine q_getr rfl kA rA6 ?_
  refine q_ic rfl ?_
  refine q_ic rfl ?_
  refine q_copy (n := 8) rfl kB2 kA2 nB2 nA2 rfl rfl (Nat.le_refl _) (Nat.le_refl _) ?_
  show dw_ok (pr_X0_copyFrom K) 70 0 0 [some (.ref A), some (.ref B)] [] (n, SH1, (dw_cp (n, SH1, H1, J) (B + 2) (A + 2) 0 0 8).2.2.1, J)
  have g2 : ∀ a, a ≠ A + 2 → (dw_cp (n, SH1, H1, J) (B + 2) (A + 2) 0 0 8).2.2.1 a = H1 a := fun a ha => cp_row ha
  have h2 : ∀ j, j < 8 → (dw_cp (n, SH1, H1, J) (B + 2) (A + 2) 0 0 8).2.2.1 (A + 2) j = H1 (B + 2) j := fun j hj => cp_at hj
  generalize (dw_cp (n, SH1, H1, J) (B + 2) (A + 2) 0 0 8).2.2.1 = H2 at g2 h2 ⊢
  refine q_ald rfl rfl ?_
  refine q_getr rfl kB rB7 ?_
  refine q_ic rfl ?_
  refine q_ald rfl rfl ?_
  refine q_getr rfl kA rA7 ?_
  refine q_ic rfl ?_
  refine q_ic rfl ?_
  refine q_copy (n := 8) rfl kB3 kA3 nB3 nA3 rfl rfl (Nat.le_refl _) (Nat.le_refl _) ?_
  show dw_ok (pr_X0_copyFrom K) 85 0 0 [some (.ref A), some (.ref B)] [] (n, SH1, (dw_cp (n, SH1, H2, J) (B + 3) (A + 3) 0 0 8).2.2.1, J)
  have g3 : ∀ a, a ≠ A + 3 → (dw_cp (n, SH1, H2, J) (B + 3) (A + 3) 0 0 8).2.2.1 a = H2 a := fun a ha => cp_row ha
  have h3 : ∀ j, j < 8 → (dw_cp (n, SH1, H2, J) (B + 3) (A + 3) 0 0 8).2.2.1 (A + 3) j = H2 (B + 3) j := fun j hj => cp_at hj
  generalize (dw_cp (n, SH1, H2, J) (B + 3) (A + 3) 0 0 8).2.2.1 = H3 at g3 h3 ⊢
  refine q_ald rfl rfl ?_
  refine q_getr rfl kB rB8 ?_
  refine q_ic rfl ?_
  refine q_ald rfl rfl ?_
  refine q_getr rfl kA rA8 ?_
  refine q_ic rfl ?_
  refine q_ic rfl ?_
  refine q_copy (n := 144) rfl kB4 kA4 nB4 nA4 rfl rfl (Nat.le_refl _) (Nat.le_refl _) ?_
  show dw_ok (pr_X0_copyFrom K) 101 0 0 [some (.ref A), some (.ref B)] [] (n, SH1, (dw_cp (n, SH1, H3, J) (B + 4) (A + 4) 0 0 144).2.2.1, J)
  have g4 : ∀ a, a ≠ A + 4 → (dw_cp (n, SH1, H3, J) (B + 4) (A + 4) 0 0 144).2.2.1 a = H3 a := fun a ha => cp_row ha
  have h4 : ∀ j, j < 144 → (dw_cp (n, SH1, H3, J) (B + 4) (A + 4) 0 0 144).2.2.1 (A + 4) j = H3 (B + 4) j := fun j hj => cp_at hj
  generalize (dw_cp (n, SH1, H3, J) (B + 4) (A + 4) 0 0 144).2.2.1 = H4 at g4 h4 ⊢
  refine q_ald rfl rfl ?_
  refine q_getr rfl kB rB9 ?_
  refine q_ic rfl ?_
  refine q_ald rfl rfl ?_
  refine q_getr rfl kA rA9 ?_
  refine q_ic rfl ?_
  refine q_ic rfl ?_
  refine q_copy (n := 144) rfl kB5 kA5 nB5 nA5 rfl rfl (Nat.le_refl _) (Nat.le_refl _) ?_
  show dw_ok (pr_X0_copyFrom K) 117 0 0 [some (.ref A), some (.ref B)] [] (n, SH1, (dw_cp (n, SH1, H4, J) (B + 5) (A + 5) 0 0 144).2.2.1, J)
  have g5 : ∀ a, a ≠ A + 5 → (dw_cp (n, SH1, H4, J) (B + 5) (A + 5) 0 0 144).2.2.1 a = H4 a := fun a ha => cp_row ha
  have h5 : ∀ j, j < 144 → (dw_cp (n, SH1, H4, J) (B + 5) (A + 5) 0 0 144).2.2.1 (A + 5) j = H4 (B + 5) j := fun j hj => cp_at hj
  generalize (dw_cp (n, SH1, H4, J) (B + 5) (A + 5) 0 0 144).2.2.1 = H5 at g5 h5 ⊢
  have b : ∀ a, (a < A ∨ A + 5 < a) → H5 a = I a := fun a ha => by rw [g5 (a) (by omega), g4 (a) (by omega), g3 (a) (by omega), g2 (a) (by omega), g1 (a) (by omega)]; exact r4 a (by omega)
  refine q_vret rfl (hk H5 b (fun j hj => ?_) (fun j hj => ⟨?_, ?_, ?_⟩) (fun j hj => ⟨?_, ?_⟩))
  · rw [g5 (A) (by omega), g4 (A) (by omega), g3 (A) (by omega), g2 (A) (by omega), g1 (A) (by omega)]; exact f4 j hj
  · rw [g5 (A + 1) (by omega), g4 (A + 1) (by omega), g3 (A + 1) (by omega), g2 (A + 1) (by omega), h1 j hj]; exact congrFun (r4 (B + 1) (by omega)) j
  · rw [g5 (A + 2) (by omega), g4 (A + 2) (by omega), g3 (A + 2) (by omega), h2 j hj, g1 (B + 2) (by omega)]; exact congrFun (r4 (B + 2) (by omega)) j
  · rw [g5 (A + 3) (by omega), g4 (A + 3) (by omega), h3 j hj, g2 (B + 3) (by omega), g1 (B + 3) (by omega)]; exact congrFun (r4 (B + 3) (by omega)) j
  · rw [g5 (A + 4) (by omega), h4 j hj, g3 (B + 4) (by omega), g2 (B + 4) (by omega), g1 (B + 4) (by omega)]; exact congrFun (r4 (B + 4) (by omega)) j
  · rw [h5 j hj, g4 (B + 5) (by omega), g3 (B + 5) (by omega), g2 (B + 5) (by omega), g1 (B + 5) (by omega)]; exact congrFun (r4 (B + 5) (by omega)) j
set_option maxRecDepth 8000 in
theorem st_loop {n : Nat} {J : Nat → Nat → Int64} {K : dw_K} {bc bs : Nat} {I0 : Nat → Nat → Int32} {g : Nat}
    (hk : ∀ I' : Nat → Nat → Int32, (∀ a, (∀ s, s < 6 → a ≠ 58 + 7 * s) → I' a = I0 a) → (∀ s, s < 6 → I' (58 + 7 * s) 0 = 0 ∧ ∀ j, j ≠ 0 → I' (58 + 7 * s) j = I0 (58 + 7 * s) j) → K none (n, SH1, I', J)) :
    ∀ (f i : Nat) (x : Int32) (s3 : Option Value) (I : Nat → Nat → Int32), i + f = 6 → x.toInt = i → (∀ a, (∀ s, s < 6 → a ≠ 58 + 7 * s) → I a = I0 a) → (∀ s, s < i → I (58 + 7 * s) 0 = 0) → (∀ s, s < 6 → ∀ j, j ≠ 0 → I (58 + 7 * s) j = I0 (58 + 7 * s) j) → dw_ok (pr_X8_take K) 26 bc bs [some (.ref 3), some (.ref g), some (.int x), s3] [] (n, SH1, I, J) := by
  have c1 : (1 : Int32).toInt = 1 := rfl
  have c6 : (6 : Int32).toInt = 6 := rfl
  intro f
  induction f with
  | zero =>
    intro i x s3 I hi hx h1 h2 h3
    refine q_ild rfl rfl ?_
    refine q_ic rfl ?_
    refine q_icmp (c := 3) rfl (by decide) (fun _ => ?_) (fun h => absurd (show x.toInt < (6 : Int32).toInt from h) (by omega))
    exact q_vret rfl (hk I h1 (fun s hs => ⟨h2 s (by omega), h3 s hs⟩))
  | succ f ih =>
    intro i x s3 I hi hx h1 h2 h3
    refine q_ild rfl rfl ?_
    refine q_ic rfl ?_
    refine q_icmp (c := 3) rfl (by decide) (fun h => absurd (show (6 : Int32).toInt ≤ x.toInt from h) (by omega)) (fun _ => ?_)
    refine q_ald rfl rfl ?_
    refine q_ild rfl rfl ?_
    refine q_callV (as := [.int x]) (rest := []) rfl rfl sk_3 rfl (Nat.le_of_ble_eq_true rfl) ?_
    refine v_nightOf (fun s hs hxs => ?_) (fun h => absurd (show 0 ≤ x.toInt ∧ x.toInt ≤ 5 by omega) h)
    have es : s = i := by omega
    subst es
    show dw_ok (pr_X8_take K) 37 bc bs [some (.ref 3), some (.ref g), some (.int x), s3] [.ref (58 + 7 * s)] (n, SH1, I, J)
    refine q_ast rfl rfl ?_
    refine q_ald rfl rfl ?_
    refine q_ifnull_r rfl ?_
    refine q_ald rfl rfl ?_
    refine q_ic rfl ?_
    refine q_putz rfl (no_ref hs).2.1 (Or.inl rfl) ?_
    refine q_inc rfl rfl rfl ?_
    refine q_goto rfl ?_
    show dw_ok (pr_X8_take K) 26 bc bs [some (.ref 3), some (.ref g), some (.int (x + 1)), some (.ref (58 + 7 * s))] [] (n, SH1, dw_up I (58 + 7 * s) 0 0, J)
    refine ih (s + 1) (x + 1) (some (.ref (58 + 7 * s))) (dw_up I (58 + 7 * s) 0 0) (by omega) (by rw [i_add (by omega) (by omega), c1]; omega) (fun a ha => (up_row (ha s hs)).trans (h1 a ha)) (fun s' hs' => ?_) (fun s' hs' j hj => ?_)
    · by_cases e : s' = s
      · rw [e]; exact up_same
      · rw [up_ne (Or.inl (by omega))]; exact h2 s' (by omega)
    · rw [up_ne (Or.inr hj)]; exact h3 s' hs' j hj
set_option maxRecDepth 8000 in
theorem v_stake {n : Nat} {I : Nat → Nat → Int32} {J : Nat → Nat → Int64} {K : dw_K}
    (hk : ∀ I' : Nat → Nat → Int32, (∀ a, (a < 4 ∨ 9 < a) → a ≠ 11 → a ≠ 43 → (∀ s, s < 6 → a ≠ 58 + 7 * s) → I' a = I a) → (∀ j, j < 5 → I' 4 j = I 102 j) → (∀ j, j < 8 → I' 5 j = I 103 j ∧ I' 6 j = I 104 j ∧ I' 7 j = I 105 j) → (∀ j, j < 144 → I' 8 j = I 106 j ∧ I' 9 j = I 107 j) → I' 11 0 = 0 → (∀ j, j ≠ 0 → I' 11 j = I 11 j) → I' 43 0 = 0 → (∀ j, j ≠ 0 → I' 43 j = I 43 j) → (∀ s, s < 6 → I' (58 + 7 * s) 0 = 0 ∧ ∀ j, j ≠ 0 → I' (58 + 7 * s) j = I (58 + 7 * s) j) → K none (n, SH1, I', J)) : t_X8_take [.ref 3, .ref 102] (n, SH1, I, J) K := by
  refine q_body (Nat.le_of_ble_eq_true rfl) ?_
  refine q_ald rfl rfl ?_
  refine q_getr rfl sk_3 sr_3_1 ?_
  refine q_ald rfl rfl ?_
  refine q_callV (as := [.ref 102]) (rest := []) rfl rfl sk_4 rfl (Nat.le_of_ble_eq_true rfl) ?_
  refine v_gcopy gt_4 gt_102 (by decide) (fun I1 hA1 hF1 hB1 hC1 => ?_)
  show dw_ok (pr_X8_take K) 8 0 0 [some (.ref 3), some (.ref 102), none, none] [] (n, SH1, I1, J)
  refine q_ald rfl rfl ?_
  refine q_getr rfl sk_3 sr_3_3 ?_
  refine q_ic rfl ?_
  refine q_puti rfl sk_11 ?_
  refine q_ald rfl rfl ?_
  refine q_getr rfl sk_3 sr_3_4 ?_
  refine q_ic rfl ?_
  refine q_putz rfl sk_43 (Or.inl rfl) ?_
  refine q_ic rfl ?_
  refine q_ist rfl rfl ?_
  show dw_ok (pr_X8_take K) 26 0 0 [some (.ref 3), some (.ref 102), some (.int 0), none] [] (n, SH1, dw_up (dw_up I1 11 0 0) 43 0 0, J)
  refine st_loop (I0 := dw_up (dw_up I1 11 0 0) 43 0 0) (fun I2 hA2 hS2 => ?_) 6 0 0 none (dw_up (dw_up I1 11 0 0) 43 0 0) rfl rfl (fun _ _ => rfl) (fun s hs => absurd hs (Nat.not_lt_zero s)) (fun _ _ _ _ => rfl)
  have e : ∀ a, a ≠ 11 → a ≠ 43 → (∀ s, s < 6 → a ≠ 58 + 7 * s) → I2 a = I1 a := fun a h1 h2 h3 => (hA2 a h3).trans ((up_row h2).trans (up_row h1))
  have e11 : I2 11 = dw_up (dw_up I1 11 0 0) 43 0 0 11 := hA2 11 (fun s _ => by omega)
  have e43 : I2 43 = dw_up (dw_up I1 11 0 0) 43 0 0 43 := hA2 43 (fun s _ => by omega)
  refine hk I2 (fun a h1 h2 h3 h4 => ?_) (fun j hj => ?_) (fun j hj => ?_) (fun j hj => ?_) ?_ (fun j hj => ?_) ?_ (fun j hj => ?_) (fun s hs => ⟨(hS2 s hs).1, fun j hj => ?_⟩)
  · rw [e a h2 h3 h4]; exact hA1 a h1
  · rw [e 4 (by decide) (by decide) (fun s _ => by omega)]; exact hF1 j hj
  · rw [e 5 (by decide) (by decide) (fun s _ => by omega), e 6 (by decide) (by decide) (fun s _ => by omega), e 7 (by decide) (by decide) (fun s _ => by omega)]; exact hB1 j hj
  · rw [e 8 (by decide) (by decide) (fun s _ => by omega), e 9 (by decide) (by decide) (fun s _ => by omega)]; exact hC1 j hj
  · rw [e11, up_row (by decide)]; exact up_same
  · rw [e11, up_row (by decide), up_fld hj, hA1 11 (by decide)]
  · rw [e43]; exact up_same
  · rw [e43, up_fld hj, up_row (by decide), hA1 43 (by decide)]
  · rw [(hS2 s hs).2 j hj, up_row (show 58 + 7 * s ≠ 43 by omega), up_row (show 58 + 7 * s ≠ 11 by omega), hA1 (58 + 7 * s) (by omega)]
set_option maxRecDepth 8000 in
theorem v_gclear {n : Nat} {I : Nat → Nat → Int32} {J : Nat → Nat → Int64} {K : dw_K} (hk : K none (n, SH1, dw_up (dw_up (dw_up (dw_up (dw_up I 102 0 0) 102 1 0) 102 2 0) 102 3 0) 102 4 500, J)) : t_X0_clear [.ref 102] (n, SH1, I, J) K := by
  refine q_body (Nat.le_of_ble_eq_true rfl) ?_
  refine q_ald rfl rfl ?_
  refine q_ic rfl ?_
  refine q_puti rfl sk_102 ?_
  refine q_ald rfl rfl ?_
  refine q_ic rfl ?_
  refine q_puti rfl sk_102 ?_
  refine q_ald rfl rfl ?_
  refine q_ic rfl ?_
  refine q_puti rfl sk_102 ?_
  refine q_ald rfl rfl ?_
  refine q_ic rfl ?_
  refine q_puti rfl sk_102 ?_
  refine q_ald rfl rfl ?_
  refine q_ic rfl ?_
  refine q_puti rfl sk_102 ?_
  exact q_vret rfl hk
set_option maxRecDepth 8000 in
theorem v_gtext {n : Nat} {I : Nat → Nat → Int32} {J : Nat → Nat → Int64} {K : dw_K} {N : Nat} {G : Nat × Nat × Nat × gS} (hN : (I 1 1).toInt = N) (hN9 : N ≤ 940) (hG : ggF (tbC I) N 900 941 0 0 g0 = G)
    (hok : G.1 = 0 → ∀ (I2 I' : Nat → Nat → Int32) (w : Int32), tbC I2 = tbC I → (∀ a, a ≠ 1 → (a < 101 ∨ 122 < a) → I2 a = I a) → I2 1 0 = I 1 0 → GRp I2 I' G.2.2.2 → GSk I' G.2.2.2 → gOK N G.2.2.2 → w.toInt = G.2.2.1 → w.toInt ≤ 940 → K (some (.int w)) (n, SH1, I', J))
    (hno : G.1 ≠ 0 → ∀ (I2 I' : Nat → Nat → Int32) (s' : gS), tbC I2 = tbC I → (∀ a, a ≠ 1 → (a < 101 ∨ 122 < a) → I2 a = I a) → I2 1 0 = I 1 0 → GRp I2 I' s' → (I' 1 7).toInt = G.1 → (I' 1 8).toInt = G.2.1 → K (some (.int (-1))) (n, SH1, I', J)) : t_X1_readText [.ref 101, .ref 1] (n, SH1, I, J) K := by
  refine q_body (Nat.le_of_ble_eq_true rfl) ?_
  refine q_ald rfl rfl ?_
  refine q_getr rfl sk_101 sr_101_0 ?_
  refine q_callV (as := []) (rest := []) rfl rfl sk_102 rfl (Nat.le_of_ble_eq_true rfl) ?_
  refine v_gclear ?_
  refine q_ald rfl rfl ?_
  refine q_ic rfl ?_
  refine q_putz rfl sk_101 (Or.inl rfl) ?_
  refine q_ald rfl rfl ?_
  refine q_ic rfl ?_
  refine q_callV (as := [.int 900]) (rest := []) rfl rfl sk_1 rfl (Nat.le_of_ble_eq_true rfl) ?_
  refine v_open ?_
  refine q_ic rfl ?_
  refine q_ist rfl rfl ?_
  obtain ⟨I2, hI2⟩ : ∃ X, X = dw_up (dw_up (dw_up (dw_up (dw_up (dw_up (dw_up (dw_up (dw_up (dw_up (dw_up I 102 0 0) 102 1 0) 102 2 0) 102 3 0) 102 4 500) 101 4 0) 1 2 900) 1 3 0) 1 4 0) 1 7 0) 1 8 0 := ⟨_, rfl⟩
  show dw_ok (pr_X1_readText K) 21 0 0 [some (.ref 101), some (.ref 1), some (.int 0)] [] (n, SH1, dw_up (dw_up (dw_up (dw_up (dw_up (dw_up (dw_up (dw_up (dw_up (dw_up (dw_up I 102 0 0) 102 1 0) 102 2 0) 102 3 0) 102 4 500) 101 4 0) 1 2 900) 1 3 0) 1 4 0) 1 7 0) 1 8 0, J)
  rw [← hI2]
  have hr : ∀ a, a ≠ 1 → a ≠ 101 → a ≠ 102 → I2 a = I a := fun a h1 h2 h3 => by rw [hI2]; funext j; simp [dw_up, h1, h2, h3]
  have f1 : I2 1 1 = I 1 1 := by rw [hI2]; rfl
  have f0 : I2 1 0 = I 1 0 := by rw [hI2]; rfl
  have f2 : I2 1 2 = 900 := by rw [hI2]; rfl
  have f3 : I2 1 3 = 0 := by rw [hI2]; rfl
  have hb2 : tbC I2 = tbC I := tbC_eq f1 (hr 2 (by decide) (by decide) (by decide))
  have hR : GRp I2 I2 g0 := by
    refine ⟨fun _ _ _ => rfl, fun _ _ => rfl, ⟨?_, ?_, ?_, ?_, ?_⟩, ?_, fun i hi => absurd hi (Nat.not_lt_zero i), fun y hy => absurd hy (Nat.not_lt_zero y), fun i hi => absurd hi (Nat.not_lt_zero i)⟩
    · rw [hI2]; rfl
    · rw [hI2]; rfl
    · rw [hI2]; rfl
    · rw [hI2]; rfl
    · rw [hI2]; rfl
    · rw [hI2]; rfl
  have hOK : gOK N g0 := ⟨Nat.zero_le _, Nat.zero_le _, Nat.zero_le _, Nat.zero_le _, fun x hx => absurd hx List.not_mem_nil, fun x hx => absurd hx List.not_mem_nil⟩
  have hfr : ∀ a, a ≠ 1 → (a < 101 ∨ 122 < a) → I2 a = I a := fun a h1 h2 => hr a h1 (by omega) (by omega)
  rw [← hb2] at hG
  exact gt_loop (I0 := I2) (G := G) (by rw [f1]; exact hN) hN9 (m := 900) (by rw [f2]; rfl) (fun hg I' w hR' hS' hO' hw h9 => hok hg I2 I' w hb2 hfr f0 hR' hS' hO' hw h9) (fun hg I' s' hR' g7 g8 => hno hg I2 I' s' hb2 hfr f0 hR' g7 g8) 940 0 0 0 g0 I2 rfl (Nat.le_refl _) hG hR hOK (by rw [f3]; rfl) (Nat.zero_le _) rfl
/-- the class's GROUND is what was told -/
def GCp (I : Nat → Nat → Int32) (b : fB) (s : gS) : Prop :=
  ((I 4 0).toInt = s.2.1 ∧ (I 4 1).toInt = s.2.2.1.length ∧ (I 4 2).toInt = s.1.length ∧ (I 4 3).toInt = s.2.2.2.1.length ∧ I 4 4 = s.2.2.2.2.getD 500) ∧
  (∀ i, i < s.1.length → I 5 i = (atF (0, 0, 0, 0, 0) s.1 i).2.2.1 ∧ I 6 i = (atF (0, 0, 0, 0, 0) s.1 i).2.2.2.1 ∧ I 7 i = (atF (0, 0, 0, 0, 0) s.1 i).2.2.2.2) ∧
  (∀ y, y < s.2.2.1.length → ∀ x, x < s.2.1 → (I 8 (y * s.2.1 + x)).toInt = (b (atF 0 s.2.2.1 y + x)).toInt - 97 ∧ (I 9 (y * s.2.1 + x)).toInt = skyF s x y)
set_option maxRecDepth 8000 in
theorem v_cground {n : Nat} {I : Nat → Nat → Int32} {J : Nat → Nat → Int64} {K : dw_K} {N : Nat} {G : Nat × Nat × Nat × gS} (hN : (I 1 1).toInt = N) (hN9 : N ≤ 940) (hG : ggF (tbC I) N 900 941 0 0 g0 = G) (hpl : G.2.1 ≤ 940)
    (h1 : G.1 = 0 → ∀ (I' : Nat → Nat → Int32) (w : Int32), (∀ a, a ≠ 1 → (a < 4 ∨ 9 < a) → a ≠ 11 → a ≠ 43 → (∀ s, s < 6 → a ≠ 58 + 7 * s) → (a < 101 ∨ 122 < a) → I' a = I a) → I' 1 1 = 0 → GCp I' (tbC I) G.2.2.2 → gOK N G.2.2.2 → I' 11 0 = 0 → (∀ j, j ≠ 0 → I' 11 j = I 11 j) → I' 43 0 = 0 → (∀ j, j ≠ 0 → I' 43 j = I 43 j) → (∀ s, s < 6 → I' (58 + 7 * s) 0 = 0 ∧ ∀ j, j ≠ 0 → I' (58 + 7 * s) j = I (58 + 7 * s) j) → w.toInt = G.2.2.1 → K (some (.int w)) (n, SH1, I', J))
    (h2 : G.1 ≠ 0 → ∀ (I' : Nat → Nat → Int32) (w : Int32), (∀ a, a ≠ 1 → (a < 101 ∨ 122 < a) → I' a = I a) → I' 1 1 = 0 → w.toInt = -1 - (G.2.1 : Int) → K (some (.int w)) (n, SH1, I', J)) : t_X11_ground [.ref 0] (n, SH1, I, J) K := by
  have cm : (-1 : Int32).toInt = -1 := rfl
  refine q_body (Nat.le_of_ble_eq_true rfl) ?_
  refine q_ald rfl rfl ?_
  refine q_getr rfl sk_0 sr_0_3 ?_
  refine q_ald rfl rfl ?_
  refine q_getr rfl sk_0 sr_0_0 ?_
  refine q_callV (as := [.ref 1]) (rest := []) rfl rfl sk_101 rfl (Nat.le_of_ble_eq_true rfl) ?_
  refine v_gtext hN hN9 hG (fun hg I2 I' w hb hfr f0 hR hS hO hw h9 => ?_) (fun hg I2 I' s' hb hfr f0 hR g7 g8 => ?_)
  · show dw_ok (pr_X11_ground K) 11 0 0 [some (.ref 0), none] [.int w] (n, SH1, I', J)
    refine q_ist rfl rfl ?_
    refine q_ald rfl rfl ?_
    refine q_getr rfl sk_0 sr_0_0 ?_
    refine q_ic rfl ?_
    refine q_puti rfl sk_1 ?_
    show dw_ok (pr_X11_ground K) 20 0 0 [some (.ref 0), some (.int w)] [] (n, SH1, dw_up I' 1 1 0, J)
    refine q_ild rfl rfl ?_
    refine q_ic rfl ?_
    refine q_icmp (c := 1) rfl (by decide) (fun _ => ?_) (fun h => absurd (show w.toInt = (-1 : Int32).toInt from h) (by omega))
    refine q_ald rfl rfl ?_
    refine q_getr rfl sk_0 sr_0_1 ?_
    refine q_ald rfl rfl ?_
    refine q_getr rfl sk_0 sr_0_3 ?_
    refine q_getr rfl sk_101 sr_101_0 ?_
    refine q_callV (as := [.ref 102]) (rest := []) rfl rfl sk_3 rfl (Nat.le_of_ble_eq_true rfl) ?_
    refine v_stake (fun I3 e1 e2 e3 e4 e5 e6 e7 e8 e9 => ?_)
    show dw_ok (pr_X11_ground K) 49 0 0 [some (.ref 0), some (.int w)] [] (n, SH1, I3, J)
    refine q_ild rfl rfl ?_
    have hu : ∀ a, a ≠ 1 → dw_up I' 1 1 0 a = I' a := fun a ha => up_row ha
    obtain ⟨r1, r2, r3, r4, r5, r6, r7⟩ := hR
    have hO2 := hO
    obtain ⟨o1, o2, o3, -⟩ := hO2
    refine q_iret rfl (h1 hg I3 w (fun a a1 a2 a3 a4 a5 a6 => ?_) ?_ ⟨?_, fun i hi => ?_, fun y hy x hx => ?_⟩ hO e5 (fun j hj => ?_) e7 (fun j hj => ?_) (fun s hs => ⟨(e9 s hs).1, fun j hj => ?_⟩) hw)
    · rw [e1 a a2 a3 a4 a5, hu a a1, r1 a a1 a6]; exact hfr a a1 a6
    · rw [e1 1 (by decide) (by decide) (by decide) (fun s _ => by omega)]; exact up_same
    · rw [e2 0 (by decide), e2 1 (by decide), e2 2 (by decide), e2 3 (by decide), e2 4 (by decide), hu 102 (by decide)]; exact r3
    · obtain ⟨b1, b2, b3⟩ := e3 i (by omega)
      rw [b1, b2, b3, hu 103 (by decide), hu 104 (by decide), hu 105 (by decide)]
      exact (r5 i hi).2.2
    · have hix := idx_lt hy hx
      have h144 : G.2.2.2.2.2.1.length * G.2.2.2.2.1 ≤ 144 := Nat.le_trans (Nat.mul_le_mul o3 o2) (Nat.le_of_ble_eq_true rfl)
      obtain ⟨b1, b2⟩ := e4 (y * G.2.2.2.2.1 + x) (by omega)
      rw [b1, b2, hu 106 (by decide), hu 107 (by decide), ← hb]
      exact ⟨r6 y hy x hx, hS y hy x hx⟩
    · rw [e6 j hj, hu 11 (by decide), r1 11 (by decide) (by decide), hfr 11 (by decide) (by decide)]
    · rw [e8 j hj, hu 43 (by decide), r1 43 (by decide) (by decide), hfr 43 (by decide) (by decide)]
    · rw [(e9 s hs).2 j hj, hu (58 + 7 * s) (by omega), r1 (58 + 7 * s) (by omega) (by omega), hfr (58 + 7 * s) (by omega) (by omega)]
  · show dw_ok (pr_X11_ground K) 11 0 0 [some (.ref 0), none] [.int (-1)] (n, SH1, I', J)
    refine q_ist rfl rfl ?_
    refine q_ald rfl rfl ?_
    refine q_getr rfl sk_0 sr_0_0 ?_
    refine q_ic rfl ?_
    refine q_puti rfl sk_1 ?_
    show dw_ok (pr_X11_ground K) 20 0 0 [some (.ref 0), some (.int (-1))] [] (n, SH1, dw_up I' 1 1 0, J)
    refine q_ild rfl rfl ?_
    refine q_ic rfl ?_
    refine q_icmp (c := 1) rfl (by decide) (fun h => absurd rfl h) (fun _ => ?_)
    refine q_ic rfl ?_
    refine q_ald rfl rfl ?_
    refine q_getr rfl sk_0 sr_0_0 ?_
    refine q_geti rfl sk_1 ?_
    refine q_sub rfl ?_
    have e8 : dw_up I' 1 1 0 1 8 = I' 1 8 := rfl
    refine q_iret rfl (h2 hg _ _ (fun a a1 a2 => ?_) up_same ?_)
    · rw [up_row a1, hR.1 a a1 a2]; exact hfr a a1 a2
    · show (-1 - dw_up I' 1 1 0 1 8).toInt = _
      rw [e8, i_sub (by omega) (by omega), cm, g8]
