/-! ===== a PLAN, a RUN, a whole state copied ===== -/
set_option maxRecDepth 8000 in
theorem v_pcopy2 {n : Nat} {I : Nat → Nat → Int32} {J : Nat → Nat → Int64} {K : dw_K} {A B : Nat} (hA : PT A) (hB : PT B) (hAB : A + 32 ≤ B ∨ B + 32 ≤ A)
    (hk : ∀ I' : Nat → Nat → Int32, (∀ a, (a < A ∨ A + 31 < a) → I' a = I a) → I' A 0 = I B 0 → (∀ w, w < 30 → ∀ t, t < 3 → I' (A + 2 + w) t = I (B + 2 + w) t) → K none (n, SH1, I', J)) : t_X5_copyFrom [.ref A, .ref B] (n, SH1, I, J) K :=
  v_pcopy hA hB hAB (fun I' h1 _ h3 h4 => hk I' (fun a ha => h1 a (by omega) (by omega)) h3 h4)
set_option maxRecDepth 8000 in
theorem v_rcopy {n : Nat} {I : Nat → Nat → Int32} {J : Nat → Nat → Int64} {K : dw_K} {A B : Nat} (hA : RT A) (hB : RT B) (hAB : A + 15 ≤ B ∨ B + 15 ≤ A) (hz : I B 0 = 0 ∨ I B 0 = 1) (hz1 : I (B + 1) 0 = 0 ∨ I (B + 1) 0 = 1)
    (hk : ∀ I' : Nat → Nat → Int32, (∀ a, (a < A ∨ A + 14 < a) → I' a = I a) → (∀ j, j < 7 → I' A j = I B j) → I' (A + 1) 0 = I (B + 1) 0 → (∀ w, w < 5 → ∀ t, t < 144 → I' (A + 3 + w) t = I (B + 3 + w) t) → (∀ i, 8 ≤ i → i ≤ 14 → ∀ j, j < 144 → I' (A + i) j = I (B + i) j) → K none (n, SH1, I', J)) : t_X7_copyFrom [.ref A, .ref B] (n, SH1, I, J) K := by
  obtain ⟨kA, ⟨rA7, rA8, rA9, rA10, rA11, rA12, rA13, rA14⟩, ⟨kA8, kA9, kA10, kA11, kA12, kA13, kA14⟩, ⟨nA8, nA9, nA10, nA11, nA12, nA13, nA14⟩, hNA⟩ := hA
  obtain ⟨kB, ⟨rB7, rB8, rB9, rB10, rB11, rB12, rB13, rB14⟩, ⟨kB8, kB9, kB10, kB11, kB12, kB13, kB14⟩, ⟨nB8, nB9, nB10, nB11, nB12, nB13, nB14⟩, hNB⟩ := hB
  refine q_body (Nat.le_of_ble_eq_true rfl) ?_
  refine q_ald rfl rfl ?_
  refine q_ald rfl rfl ?_
  refine q_getz rfl kB ?_
  refine q_putz rfl kA hz ?_
  show dw_ok (pr_X7_copyFrom K) 8 0 0 [some (.ref A), some (.ref B)] [] (n, SH1, dw_up I A 0 (I B 0), J)
  have r0 : ∀ a, a ≠ A → dw_up I A 0 (I B 0) a = I a := fun a ha => up_row ha
  have f0 : ∀ j, j < 1 → dw_up I A 0 (I B 0) A j = I B j := fun j hj => by
    by_cases e : j = 0
    · rw [e, up_same]
    · rw [up_fld e]; exact absurd hj (by omega)
  generalize dw_up I A 0 (I B 0) = F0 at r0 f0 ⊢
  refine q_ald rfl rfl ?_
  refine q_ald rfl rfl ?_
  refine q_geti rfl kB ?_
  refine q_puti rfl kA ?_
  show dw_ok (pr_X7_copyFrom K) 16 0 0 [some (.ref A), some (.ref B)] [] (n, SH1, dw_up F0 A 1 (F0 B 1), J)
  have r1 : ∀ a, a ≠ A → dw_up F0 A 1 (F0 B 1) a = I a := fun a ha => (up_row ha).trans (r0 a ha)
  have f1 : ∀ j, j < 2 → dw_up F0 A 1 (F0 B 1) A j = I B j := fun j hj => by
    by_cases e : j = 1
    · rw [e, up_same]; exact congrFun (r0 B (by omega)) 1
    · rw [up_fld e]; exact f0 j (by omega)
  generalize dw_up F0 A 1 (F0 B 1) = F1 at r1 f1 ⊢
  refine q_ald rfl rfl ?_
  refine q_ald rfl rfl ?_
  refine q_geti rfl kB ?_
  refine q_puti rfl kA ?_
  show dw_ok (pr_X7_copyFrom K) 24 0 0 [some (.ref A), some (.ref B)] [] (n, SH1, dw_up F1 A 2 (F1 B 2), J)
  have r2 : ∀ a, a ≠ A → dw_up F1 A 2 (F1 B 2) a = I a := fun a ha => (up_row ha).trans (r1 a ha)
  have f2 : ∀ j, j < 3 → dw_up F1 A 2 (F1 B 2) A j = I B j := fun j hj => by
    by_cases e : j = 2
    · rw [e, up_same]; exact congrFun (r1 B (by omega)) 2
    · rw [up_fld e]; exact f1 j (by omega)
  generalize dw_up F1 A 2 (F1 B 2) = F2 at r2 f2 ⊢
  refine q_ald rfl rfl ?_
  refine q_ald rfl rfl ?_
  refine q_geti rfl kB ?_
  refine q_puti rfl kA ?_
  show dw_ok (pr_X7_copyFrom K) 32 0 0 [some (.ref A), some (.ref B)] [] (n, SH1, dw_up F2 A 3 (F2 B 3), J)
  have r3 : ∀ a, a ≠ A → dw_up F2 A 3 (F2 B 3) a = I a := fun a ha => (up_row ha).trans (r2 a ha)
  have f3 : ∀ j, j < 4 → dw_up F2 A 3 (F2 B 3) A j = I B j := fun j hj => by
    by_cases e : j = 3
    · rw [e, up_same]; exact congrFun (r2 B (by omega)) 3
    · rw [up_fld e]; exact f2 j (by omega)
  generalize dw_up F2 A 3 (F2 B 3) = F3 at r3 f3 ⊢
  refine q_ald rfl rfl ?_
  refine q_ald rfl rfl ?_
  refine q_geti rfl kB ?_
  refine q_puti rfl kA ?_
  show dw_ok (pr_X7_copyFrom K) 40 0 0 [some (.ref A), some (.ref B)] [] (n, SH1, dw_up F3 A 4 (F3 B 4), J)
  have r4 : ∀ a, a ≠ A → dw_up F3 A 4 (F3 B 4) a = I a := fun a ha => (up_row ha).trans (r3 a ha)
  have f4 : ∀ j, j < 5 → dw_up F3 A 4 (F3 B 4) A j = I B j := fun j hj => by
    by_cases e : j = 4
    · rw [e, up_same]; exact congrFun (r3 B (by omega)) 4
    · rw [up_fld e]; exact f3 j (by omega)
  generalize dw_up F3 A 4 (F3 B 4) = F4 at r4 f4 ⊢
  refine q_ald rfl rfl ?_
  refine q_ald rfl rfl ?_
  refine q_geti rfl kB ?_
  refine q_puti rfl kA ?_
  show dw_ok (pr_X7_copyFrom K) 48 0 0 [some (.ref A), some (.ref B)] [] (n, SH1, dw_up F4 A 5 (F4 B 5), J)
  have r5 : ∀ a, a ≠ A → dw_up F4 A 5 (F4 B 5) a = I a := fun a ha => (up_row ha).trans (r4 a ha)
  have f5 : ∀ j, j < 6 → dw_up F4 A 5 (F4 B 5) A j = I B j := fun j hj => by
    by_cases e : j = 5
    · rw [e, up_same]; exact congrFun (r4 B (by omega)) 5
    · rw [up_fld e]; exact f4 j (by omega)
  generalize dw_up F4 A 5 (F4 B 5) = F5 at r5 f5 ⊢
  refine q_ald rfl rfl ?_
  refine q_ald rfl rfl ?_
  refine q_geti rfl kB ?_
  refine q_puti rfl kA ?_
  show dw_ok (pr_X7_copyFrom K) 56 0 0 [some (.ref A), some (.ref B)] [] (n, SH1, dw_up F5 A 6 (F5 B 6), J)
  have r6 : ∀ a, a ≠ A → dw_up F5 A 6 (F5 B 6) a = I a := fun a ha => (up_row ha).trans (r5 a ha)
  have f6 : ∀ j, j < 7 → dw_up F5 A 6 (F5 B 6) A j = I B j := fun j hj => by
    by_cases e : j = 6
    · rw [e, up_same]; exact congrFun (r5 B (by omega)) 6
    · rw [up_fld e]; exact f5 j (by omega)
  generalize dw_up F5 A 6 (F5 B 6) = F6 at r6 f6 ⊢
  refine q_ald rfl rfl ?_
  refine q_getr rfl kA rA7 ?_
  refine q_ald rfl rfl ?_
  refine q_getr rfl kB rB7 ?_
  refine q_callV (as := [.ref (B + 1)]) (rest := []) rfl rfl hNA.1 rfl (Nat.le_of_ble_eq_true rfl) ?_
  refine v_ncopy hNA hNB (by omega) (by rw [r6 (B + 1) (by omega)]; exact hz1) (fun H7 g7 hf7 h70 h7 => ?_)
  show dw_ok (pr_X7_copyFrom K) 67 0 0 [some (.ref A), some (.ref B)] [] (n, SH1, H7, J)
  have g7' : ∀ a, (a < A + 1 ∨ A + 7 < a) → H7 a = F6 a := fun a ha => g7 a (by omega) (by omega)
  refine q_ald rfl rfl ?_
  refine q_getr rfl kB rB8 ?_
  refine q_ic rfl ?_
  refine q_ald rfl rfl ?_
  refine q_getr rfl kA rA8 ?_
  refine q_ic rfl ?_
  refine q_ic rfl ?_
  refine q_copy (n := 144) rfl kB8 kA8 nB8 nA8 rfl rfl (Nat.le_refl _) (Nat.le_refl _) ?_
  show dw_ok (pr_X7_copyFrom K) 83 0 0 [some (.ref A), some (.ref B)] [] (n, SH1, (dw_cp (n, SH1, H7, J) (B + 8) (A + 8) 0 0 144).2.2.1, J)
  have g8 : ∀ a, a ≠ A + 8 → (dw_cp (n, SH1, H7, J) (B + 8) (A + 8) 0 0 144).2.2.1 a = H7 a := fun a ha => cp_row ha
  have h8 : ∀ j, j < 144 → (dw_cp (n, SH1, H7, J) (B + 8) (A + 8) 0 0 144).2.2.1 (A + 8) j = H7 (B + 8) j := fun j hj => cp_at hj
  generalize (dw_cp (n, SH1, H7, J) (B + 8) (A + 8) 0 0 144).2.2.1 = H8 at g8 h8 ⊢
  refine q_ald rfl rfl ?_
  refine q_getr rfl kB rB9 ?_
  refine q_ic rfl ?_
  refine q_ald rfl rfl ?_
  refine q_getr rfl kA rA9 ?_
  refine q_ic rfl ?_
  refine q_ic rfl ?_
  refine q_copy (n := 144) rfl kB9 kA9 nB9 nA9 rfl rfl (Nat.le_refl _) (Nat.le_refl _) ?_
  show dw_ok (pr_X7_copyFrom K) 99 0 0 [some (.ref A), some (.ref B)] [] (n, SH1, (dw_cp (n, SH1, H8, J) (B + 9) (A + 9) 0 0 144).2.2.1, J)
  have g9 : ∀ a, a ≠ A + 9 → (dw_cp (n, SH1, H8, J) (B + 9) (A + 9) 0 0 144).2.2.1 a = H8 a := fun a ha => cp_row ha
  have h9 : ∀ j, j < 144 → (dw_cp (n, SH1, H8, J) (B + 9) (A + 9) 0 0 144).2.2.1 (A + 9) j = H8 (B + 9) j := fun j hj => cp_at hj
  generalize (dw_cp (n, SH1, H8, J) (B + 9) (A + 9) 0 0 144).2.2.1 = H9 at g9 h9 ⊢
  refine q_ald rfl rfl ?_
  refine q_getr rfl kB rB10 ?_
  refine q_ic rfl ?_
  refine q_ald rfl rfl ?_
  refine q_getr rfl kA rA10 ?_
  refine q_ic rfl ?_
  refine q_ic rfl ?_
  refine q_copy (n := 144) rfl kB10 kA10 nB10 nA10 rfl rfl (Nat.le_refl _) (Nat.le_refl _) ?_
  show dw_ok (pr_X7_copyFrom K) 115 0 0 [some (.ref A), some (.ref B)] [] (n, SH1, (dw_cp (n, SH1, H9, J) (B + 10) (A + 10) 0 0 144).2.2.1, J)
  have g10 : ∀ a, a ≠ A + 10 → (dw_cp (n, SH1, H9, J) (B + 10) (A + 10) 0 0 144).2.2.1 a = H9 a := fun a ha => cp_row ha
  have h10 : ∀ j, j < 144 → (dw_cp (n, SH1, H9, J) (B + 10) (A + 10) 0 0 144).2.2.1 (A + 10) j = H9 (B + 10) j := fun j hj => cp_at hj
  generalize (dw_cp (n, SH1, H9, J) (B + 10) (A + 10) 0 0 144).2.2.1 = H10 at g10 h10 ⊢
  refine q_ald rfl rfl ?_
  refine q_getr rfl kB rB11 ?_
  refine q_ic rfl ?_
  refine q_ald rfl rfl ?_
  refine q_getr rfl kA rA11 ?_
  refine q_ic rfl ?_
  refine q_ic rfl ?_
  refine q_copy (n := 144) rfl kB11 kA11 nB11 nA11 rfl rfl (Nat.le_refl _) (Nat.le_refl _) ?_
  show dw_ok (pr_X7_copyFrom K) 131 0 0 [some (.ref A), some (.ref B)] [] (n, SH1, (dw_cp (n, SH1, H10, J) (B + 11) (A + 11) 0 0 144).2.2.1, J)
  have g11 : ∀ a, a ≠ A + 11 → (dw_cp (n, SH1, H10, J) (B + 11) (A + 11) 0 0 144).2.2.1 a = H10 a := fun a ha => cp_row ha
  have h11 : ∀ j, j < 144 → (dw_cp (n, SH1, H10, J) (B + 11) (A + 11) 0 0 144).2.2.1 (A + 11) j = H10 (B + 11) j := fun j hj => cp_at hj
  generalize (dw_cp (n, SH1, H10, J) (B + 11) (A + 11) 0 0 144).2.2.1 = H11 at g11 h11 ⊢
  refine q_ald rfl rfl ?_
  refine q_getr rfl kB rB12 ?_
  refine q_ic rfl ?_
  refine q_ald rfl rfl ?_
  refine q_getr rfl kA rA12 ?_
  refine q_ic rfl ?_
  refine q_ic rfl ?_
  refine q_copy (n := 144) rfl kB12 kA12 nB12 nA12 rfl rfl (Nat.le_refl _) (Nat.le_refl _) ?_
  show dw_ok (pr_X7_copyFrom K) 147 0 0 [some (.ref A), some (.ref B)] [] (n, SH1, (dw_cp (n, SH1, H11, J) (B + 12) (A + 12) 0 0 144).2.2.1, J)
  have g12 : ∀ a, a ≠ A + 12 → (dw_cp (n, SH1, H11, J) (B + 12) (A + 12) 0 0 144).2.2.1 a = H11 a := fun a ha => cp_row ha
  have h12 : ∀ j, j < 144 → (dw_cp (n, SH1, H11, J) (B + 12) (A + 12) 0 0 144).2.2.1 (A + 12) j = H11 (B + 12) j := fun j hj => cp_at hj
  generalize (dw_cp (n, SH1, H11, J) (B + 12) (A + 12) 0 0 144).2.2.1 = H12 at g12 h12 ⊢
  refine q_ald rfl rfl ?_
  refine q_getr rfl kB rB13 ?_
  refine q_ic rfl ?_
  refine q_ald rfl rfl ?_
  refine q_getr rfl kA rA13 ?_
  refine q_ic rfl ?_
  refine q_ic rfl ?_
  refine q_copy (n := 144) rfl kB13 kA13 nB13 nA13 rfl rfl (Nat.le_refl _) (Nat.le_refl _) ?_
  show dw_ok (pr_X7_copyFrom K) 163 0 0 [some (.ref A), some (.ref B)] [] (n, SH1, (dw_cp (n, SH1, H12, J) (B + 13) (A + 13) 0 0 144).2.2.1, J)
  have g13 : ∀ a, a ≠ A + 13 → (dw_cp (n, SH1, H12, J) (B + 13) (A + 13) 0 0 144).2.2.1 a = H12 a := fun a ha => cp_row ha
  have h13 : ∀ j, j < 144 → (dw_cp (n, SH1, H12, J) (B + 13) (A + 13) 0 0 144).2.2.1 (A + 13) j = H12 (B + 13) j := fun j hj => cp_at hj
  generalize (dw_cp (n, SH1, H12, J) (B + 13) (A + 13) 0 0 144).2.2.1 = H13 at g13 h13 ⊢
  refine q_ald rfl rfl ?_
  refine q_getr rfl kB rB14 ?_
  refine q_ic rfl ?_
  refine q_ald rfl rfl ?_
  refine q_getr rfl kA rA14 ?_
  refine q_ic rfl ?_
  refine q_ic rfl ?_
  refine q_copy (n := 144) rfl kB14 kA14 nB14 nA14 rfl rfl (Nat.le_refl _) (Nat.le_refl _) ?_
  show dw_ok (pr_X7_copyFrom K) 179 0 0 [some (.ref A), some (.ref B)] [] (n, SH1, (dw_cp (n, SH1, H13, J) (B + 14) (A + 14) 0 0 144).2.2.1, J)
  have g14 : ∀ a, a ≠ A + 14 → (dw_cp (n, SH1, H13, J) (B + 14) (A + 14) 0 0 144).2.2.1 a = H13 a := fun a ha => cp_row ha
  have h14 : ∀ j, j < 144 → (dw_cp (n, SH1, H13, J) (B + 14) (A + 14) 0 0 144).2.2.1 (A + 14) j = H13 (B + 14) j := fun j hj => cp_at hj
  generalize (dw_cp (n, SH1, H13, J) (B + 14) (A + 14) 0 0 144).2.2.1 = H14 at g14 h14 ⊢
  refine q_vret rfl (hk H14 (fun a ha => ?_) (fun j hj => ?_) ?_ (fun w hw t ht => ?_) (fun i h1 h2 j hj => ?_))
  · rw [g14 (a) (by omega), g13 (a) (by omega), g12 (a) (by omega), g11 (a) (by omega), g10 (a) (by omega), g9 (a) (by omega), g8 (a) (by omega), g7' a (by omega)]; exact r6 a (by omega)
  · rw [g14 (A) (by omega), g13 (A) (by omega), g12 (A) (by omega), g11 (A) (by omega), g10 (A) (by omega), g9 (A) (by omega), g8 (A) (by omega), g7' A (by omega)]; exact f6 j hj
  · rw [g14 (A + 1) (by omega), g13 (A + 1) (by omega), g12 (A + 1) (by omega), g11 (A + 1) (by omega), g10 (A + 1) (by omega), g9 (A + 1) (by omega), g8 (A + 1) (by omega), h70]; exact congrFun (r6 (B + 1) (by omega)) 0
  · have e := h7 w hw t ht
    rw [show A + 1 + 2 + w = A + 3 + w by omega, show B + 1 + 2 + w = B + 3 + w by omega] at e
    rw [g14 (A + 3 + w) (by omega), g13 (A + 3 + w) (by omega), g12 (A + 3 + w) (by omega), g11 (A + 3 + w) (by omega), g10 (A + 3 + w) (by omega), g9 (A + 3 + w) (by omega), g8 (A + 3 + w) (by omega), e]; exact congrFun (r6 (B + 3 + w) (by omega)) t
  · have ei : i = 8 ∨ i = 9 ∨ i = 10 ∨ i = 11 ∨ i = 12 ∨ i = 13 ∨ i = 14 := by omega
    rcases ei with rfl | rfl | rfl | rfl | rfl | rfl | rfl
    · rw [g14 (A + 8) (by omega), g13 (A + 8) (by omega), g12 (A + 8) (by omega), g11 (A + 8) (by omega), g10 (A + 8) (by omega), g9 (A + 8) (by omega), h8 j hj, g7' (B + 8) (by omega)]; exact congrFun (r6 (B + 8) (by omega)) j
    · rw [g14 (A + 9) (by omega), g13 (A + 9) (by omega), g12 (A + 9) (by omega), g11 (A + 9) (by omega), g10 (A + 9) (by omega), h9 j hj, g8 (B + 9) (by omega), g7' (B + 9) (by omega)]; exact congrFun (r6 (B + 9) (by omega)) j
    · rw [g14 (A + 10) (by omega), g13 (A + 10) (by omega), g12 (A + 10) (by omega), g11 (A + 10) (by omega), h10 j hj, g9 (B + 10) (by omega), g8 (B + 10) (by omega), g7' (B + 10) (by omega)]; exact congrFun (r6 (B + 10) (by omega)) j
    · rw [g14 (A + 11) (by omega), g13 (A + 11) (by omega), g12 (A + 11) (by omega), h11 j hj, g10 (B + 11) (by omega), g9 (B + 11) (by omega), g8 (B + 11) (by omega), g7' (B + 11) (by omega)]; exact congrFun (r6 (B + 11) (by omega)) j
    · rw [g14 (A + 12) (by omega), g13 (A + 12) (by omega), h12 j hj, g11 (B + 12) (by omega), g10 (B + 12) (by omega), g9 (B + 12) (by omega), g8 (B + 12) (by omega), g7' (B + 12) (by omega)]; exact congrFun (r6 (B + 12) (by omega)) j
    · rw [g14 (A + 13) (by omega), h13 j hj, g12 (B + 13) (by omega), g11 (B + 13) (by omega), g10 (B + 13) (by omega), g9 (B + 13) (by omega), g8 (B + 13) (by omega), g7' (B + 13) (by omega)]; exact congrFun (r6 (B + 13) (by omega)) j
    · rw [h14 j hj, g13 (B + 14) (by omega), g12 (B + 14) (by omega), g11 (B + 14) (by omega), g10 (B + 14) (by omega), g9 (B + 14) (by omega), g8 (B + 14) (by omega), g7' (B + 14) (by omega)]; exact congrFun (r6 (B + 14) (by omega)) j
/-- all that an image keeps lies at S -/
def ST (S : Nat) : Prop := (SH1 S).1 = 8 ∧ ((SH1 S).2.2 1 = some (S + 1) ∧ (SH1 S).2.2 2 = some (S + 7) ∧ (SH1 S).2.2 3 = some (S + 8) ∧ (SH1 S).2.2 4 = some (S + 40)) ∧ (SH1 (S + 7)).1 = 22 ∧ (SH1 (S + 7)).2.1 = 6 ∧ (∀ s, s < 6 → (SH1 (S + 7)).2.2 s = some (S + 55 + 7 * s) ∧ NT (S + 55 + 7 * s)) ∧ GT (S + 1) ∧ PT (S + 8) ∧ RT (S + 40)
set_option maxRecDepth 8000 in
theorem sto_dec : ([3, 210, 307].all (fun S => decide ((dx_ce S).k = 8) && (decide (((dx_ce S).rf[1]?).join = some (S + 1)) && decide (((dx_ce S).rf[2]?).join = some (S + 7)) && decide (((dx_ce S).rf[3]?).join = some (S + 8)) && decide (((dx_ce S).rf[4]?).join = some (S + 40))) && (decide ((dx_ce (S + 7)).k = 22) && decide ((dx_ce (S + 7)).n = 6)) && (List.range 6).all (fun s => decide (((dx_ce (S + 7)).rf[s]?).join = some (S + 55 + 7 * s)) && (decide (S + 55 + 7 * s ∈ nt_list) || decide (S + 55 + 7 * s ∈ nt_list2))) && decide (S + 8 ∈ pt_list) && decide (S + 40 ∈ rt_list))) = true := by decide +kernel
set_option maxRecDepth 8000 in
theorem sto_ok {S : Nat} (h : S ∈ [3, 210, 307]) (hg : GT (S + 1)) : ST S := by
  have h1 := List.all_eq_true.mp sto_dec S h
  simp only [Bool.and_eq_true, Bool.or_eq_true, decide_eq_true_eq] at h1
  obtain ⟨⟨⟨⟨⟨a1, ⟨⟨a2, a3⟩, a4⟩, a5⟩, a6, a7⟩, a8⟩, a9⟩, a10⟩ := h1
  refine ⟨(shE S).1.trans a1, ⟨((shE S).2.2 1).trans a2, ((shE S).2.2 2).trans a3, ((shE S).2.2 3).trans a4, ((shE S).2.2 4).trans a5⟩, (shE (S + 7)).1.trans a6, (shE (S + 7)).2.1.trans a7, fun s hs => ?_, hg, pt_ok a9, rt_ok a10⟩
  have h2 := List.all_eq_true.mp a8 s (List.mem_range.mpr hs)
  simp only [Bool.and_eq_true, Bool.or_eq_true, decide_eq_true_eq] at h2
  exact ⟨((shE (S + 7)).2.2 s).trans h2.1, h2.2.elim nt_ok nt_ok2⟩
set_option maxRecDepth 8000 in
theorem st_3 : ST 3 := sto_ok (by decide) gt_4
set_option maxRecDepth 8000 in
theorem st_210 : ST 210 := sto_ok (by decide) gt_211
set_option maxRecDepth 8000 in
theorem st_307 : ST 307 := sto_ok (by decide) gt_308
set_option maxRecDepth 8000 in
theorem v_nightOfS {n : Nat} {I : Nat → Nat → Int32} {J : Nat → Nat → Int64} {K : dw_K} {x : Int32} {S s : Nat} (hS : ST S) (hs : s < 6) (hx : x.toInt = s) (hk : K (some (.ref (S + 55 + 7 * s))) (n, SH1, I, J)) : t_X8_nightOf [.ref S, .int x] (n, SH1, I, J) K := by
  have c6 : (6 : Int32).toInt = 6 := rfl
  have hxn : x.toInt.toNat = s := by omega
  obtain ⟨k0, ⟨r1, r2, r3, r4⟩, k7, n7, hn, -⟩ := hS
  refine q_body (Nat.le_of_ble_eq_true rfl) ?_
  refine q_ild rfl rfl ?_
  refine q_if (c := 2) rfl (by decide) (fun h => absurd (show x.toInt < 0 from h) (by omega)) (fun _ => ?_)
  refine q_ild rfl rfl ?_
  refine q_ic rfl ?_
  refine q_icmp (c := 3) rfl (by decide) (fun g => absurd (show (6 : Int32).toInt ≤ x.toInt from g) (by omega)) (fun _ => ?_)
  refine q_ald rfl rfl ?_
  refine q_getr rfl k0 r2 ?_
  refine q_ild rfl rfl ?_
  refine q_xaldr rfl k7 n7 (by omega) (show x.toInt < (6 : Nat) by omega) (show (SH1 (S + 7)).2.2 x.toInt.toNat = some (S + 55 + 7 * s) by rw [hxn]; exact (hn s hs).1) ?_
  refine q_goto rfl ?_
  exact q_aret rfl hk
/-- what of a state's rows counts -/
def rlv (i j : Nat) : Prop := (i = 1 ∧ j < 5) ∨ (2 ≤ i ∧ i ≤ 4 ∧ j < 8) ∨ (5 ≤ i ∧ i ≤ 6 ∧ j < 144) ∨ (i = 8 ∧ j = 0) ∨ (10 ≤ i ∧ i ≤ 39 ∧ j < 3) ∨ (i = 40 ∧ j < 7) ∨ (i = 41 ∧ j = 0) ∨ (43 ≤ i ∧ i ≤ 54 ∧ j < 144) ∨ (∃ s, s < 6 ∧ ((i = 55 + 7 * s ∧ j = 0) ∨ (57 + 7 * s ≤ i ∧ i ≤ 61 + 7 * s ∧ j < 144)))
set_option maxRecDepth 8000 in
theorem stc_loop {n : Nat} {J : Nat → Nat → Int64} {K : dw_K} {bc bs A B : Nat} {I0 : Nat → Nat → Int32} (hA : ST A) (hB : ST B) (hAB : A + 97 ≤ B ∨ B + 97 ≤ A) (hz : ∀ s, s < 6 → I0 (B + 55 + 7 * s) 0 = 0 ∨ I0 (B + 55 + 7 * s) 0 = 1)
    (hk : ∀ I' : Nat → Nat → Int32, (∀ a, (a < A + 55 ∨ A + 96 < a) → I' a = I0 a) → (∀ s, s < 6 → I' (A + 55 + 7 * s) 0 = I0 (B + 55 + 7 * s) 0 ∧ ∀ w, w < 5 → ∀ t, t < 144 → I' (A + 57 + 7 * s + w) t = I0 (B + 57 + 7 * s + w) t) → K none (n, SH1, I', J)) :
    ∀ (f i : Nat) (x : Int32) (s3 s4 : Option Value) (I : Nat → Nat → Int32), i + f = 6 → x.toInt = i → (∀ a, (a < A + 55 ∨ A + 96 < a) → I a = I0 a) → (∀ s, s < i → I (A + 55 + 7 * s) 0 = I0 (B + 55 + 7 * s) 0 ∧ ∀ w, w < 5 → ∀ t, t < 144 → I (A + 57 + 7 * s + w) t = I0 (B + 57 + 7 * s + w) t) → dw_ok (pr_X8_copyFrom K) 35 bc bs [some (.ref A), some (.ref B), some (.int x), s3, s4] [] (n, SH1, I, J) := by
  have c1 : (1 : Int32).toInt = 1 := rfl
  have c6 : (6 : Int32).toInt = 6 := rfl
  intro f
  induction f with
  | zero =>
    intro i x s3 s4 I hi hx h1 h2
    refine q_ild rfl rfl ?_
    refine q_ic rfl ?_
    refine q_icmp (c := 3) rfl (by decide) (fun _ => ?_) (fun h => absurd (show x.toInt < (6 : Int32).toInt from h) (by omega))
    exact q_vret rfl (hk I h1 (fun s hs => h2 s (by omega)))
  | succ f ih =>
    intro i x s3 s4 I hi hx h1 h2
    have i6 : i < 6 := by omega
    refine q_ild rfl rfl ?_
    refine q_ic rfl ?_
    refine q_icmp (c := 3) rfl (by decide) (fun h => absurd (show (6 : Int32).toInt ≤ x.toInt from h) (by omega)) (fun _ => ?_)
    refine q_ald rfl rfl ?_
    refine q_ild rfl rfl ?_
    refine q_callV (as := [.int x]) (rest := []) rfl rfl hA.1 rfl (Nat.le_of_ble_eq_true rfl) ?_
    refine v_nightOfS hA i6 hx ?_
    show dw_ok (pr_X8_copyFrom K) 46 bc bs [some (.ref A), some (.ref B), some (.int x), s3, s4] [.ref (A + 55 + 7 * i)] (n, SH1, I, J)
    refine q_ast rfl rfl ?_
    refine q_ald rfl rfl ?_
    refine q_ild rfl rfl ?_
    refine q_callV (as := [.int x]) (rest := []) rfl rfl hB.1 rfl (Nat.le_of_ble_eq_true rfl) ?_
    refine v_nightOfS hB i6 hx ?_
    show dw_ok (pr_X8_copyFrom K) 52 bc bs [some (.ref A), some (.ref B), some (.int x), some (.ref (A + 55 + 7 * i)), s4] [.ref (B + 55 + 7 * i)] (n, SH1, I, J)
    refine q_ast rfl rfl ?_
    refine q_ald rfl rfl ?_
    refine q_ifnull_r rfl ?_
    refine q_ald rfl rfl ?_
    refine q_ifnull_r rfl ?_
    refine q_ald rfl rfl ?_
    refine q_ald rfl rfl ?_
    have nA := (hA.2.2.2.2.1 i i6).2
    have nB := (hB.2.2.2.2.1 i i6).2
    refine q_callV (as := [.ref (B + 55 + 7 * i)]) (rest := []) rfl rfl nA.1 rfl (Nat.le_of_ble_eq_true rfl) ?_
    refine v_ncopy nA nB (by omega) (by rw [h1 (B + 55 + 7 * i) (by omega)]; exact hz i i6) (fun I2 g1 g2 g3 g4 => ?_)
    show dw_ok (pr_X8_copyFrom K) 69 bc bs [some (.ref A), some (.ref B), some (.int x), some (.ref (A + 55 + 7 * i)), some (.ref (B + 55 + 7 * i))] [] (n, SH1, I2, J)
    refine q_inc rfl rfl rfl ?_
    refine q_goto rfl ?_
    refine ih (i + 1) (x + 1) _ _ I2 (by omega) (by rw [i_add (by omega) (by omega), c1]; omega) (fun a ha => ?_) (fun s hs => ?_)
    · rw [g1 a (by omega) (by omega)]; exact h1 a ha
    · by_cases e : s = i
      · subst e
        refine ⟨by rw [g3, h1 (B + 55 + 7 * s) (by omega)], fun w hw t ht => ?_⟩
        have q := g4 w hw t ht
        rw [show A + 55 + 7 * s + 2 + w = A + 57 + 7 * s + w by omega, show B + 55 + 7 * s + 2 + w = B + 57 + 7 * s + w by omega, h1 (B + 57 + 7 * s + w) (by omega)] at q
        exact q
      · refine ⟨by rw [g1 (A + 55 + 7 * s) (by omega) (by omega)]; exact (h2 s (by omega)).1, fun w hw t ht => ?_⟩
        rw [g1 (A + 57 + 7 * s + w) (by omega) (by omega)]
        exact (h2 s (by omega)).2 w hw t ht
set_option maxRecDepth 8000 in
theorem v_scopy {n : Nat} {I : Nat → Nat → Int32} {J : Nat → Nat → Int64} {K : dw_K} {A B : Nat} (hA : ST A) (hB : ST B) (hAB : A + 97 ≤ B ∨ B + 97 ≤ A) (hz : I (B + 40) 0 = 0 ∨ I (B + 40) 0 = 1) (hz1 : I (B + 41) 0 = 0 ∨ I (B + 41) 0 = 1) (hz2 : ∀ s, s < 6 → I (B + 55 + 7 * s) 0 = 0 ∨ I (B + 55 + 7 * s) 0 = 1)
    (hk : ∀ I' : Nat → Nat → Int32, (∀ a, (a ≤ A ∨ A + 96 < a) → I' a = I a) → (∀ i j, rlv i j → I' (A + i) j = I (B + i) j) → K none (n, SH1, I', J)) : t_X8_copyFrom [.ref A, .ref B] (n, SH1, I, J) K := by
  have hA' := hA
  have hB' := hB
  obtain ⟨kA, ⟨rA1, rA2, rA3, rA4⟩, -, -, -, gA, pA, uA⟩ := hA
  obtain ⟨kB, ⟨rB1, rB2, rB3, rB4⟩, -, -, -, gB, pB, uB⟩ := hB
  refine q_body (Nat.le_of_ble_eq_true rfl) ?_
  refine q_ald rfl rfl ?_
  refine q_getr rfl kA rA1 ?_
  refine q_ald rfl rfl ?_
  refine q_getr rfl kB rB1 ?_
  refine q_callV (as := [.ref (B + 1)]) (rest := []) rfl rfl gA.1 rfl (Nat.le_of_ble_eq_true rfl) ?_
  refine v_gcopy gA gB (by omega) (fun I1 a1 a2 a3 a4 => ?_)
  show dw_ok (pr_X8_copyFrom K) 11 0 0 [some (.ref A), some (.ref B), none, none, none] [] (n, SH1, I1, J)
  refine q_ald rfl rfl ?_
  refine q_getr rfl kA rA3 ?_
  refine q_ald rfl rfl ?_
  refine q_getr rfl kB rB3 ?_
  refine q_callV (as := [.ref (B + 8)]) (rest := []) rfl rfl pA.1 rfl (Nat.le_of_ble_eq_true rfl) ?_
  refine v_pcopy2 pA pB (by omega) (fun I2 b1 b2 b3 => ?_)
  show dw_ok (pr_X8_copyFrom K) 22 0 0 [some (.ref A), some (.ref B), none, none, none] [] (n, SH1, I2, J)
  have B1 : ∀ a, (a < A + 1 ∨ A + 6 < a) → (a < A + 8 ∨ A + 39 < a) → I2 a = I a := fun a h1 h2 => (b1 a (by omega)).trans (a1 a (by omega))
  refine q_ald rfl rfl ?_
  refine q_getr rfl kA rA4 ?_
  refine q_ald rfl rfl ?_
  refine q_getr rfl kB rB4 ?_
  refine q_callV (as := [.ref (B + 40)]) (rest := []) rfl rfl uA.1 rfl (Nat.le_of_ble_eq_true rfl) ?_
  refine v_rcopy uA uB (by omega) (by rw [B1 (B + 40) (by omega) (by omega)]; exact hz) (by rw [B1 (B + 40 + 1) (by omega) (by omega)]; exact hz1) (fun I3 d1 d2 d3 d4 d5 => ?_)
  show dw_ok (pr_X8_copyFrom K) 33 0 0 [some (.ref A), some (.ref B), none, none, none] [] (n, SH1, I3, J)
  have D1 : ∀ a, (a ≤ A ∨ A + 54 < a) → I3 a = I a := fun a h1 => (d1 a (by omega)).trans (B1 a (by omega) (by omega))
  refine q_ic rfl ?_
  refine q_ist rfl rfl ?_
  refine stc_loop (I0 := I3) hA' hB' hAB (fun s hs => by rw [D1 (B + 55 + 7 * s) (by omega)]; exact hz2 s hs) (fun I4 e1 e2 => ?_) 6 0 0 none none I3 rfl rfl (fun _ _ => rfl) (fun s hs => absurd hs (Nat.not_lt_zero s))
  refine hk I4 (fun a ha => (e1 a (by omega)).trans (D1 a (by omega))) (fun i j hr => ?_)
  have lo : i < 55 → I4 (A + i) = I3 (A + i) := fun h => e1 (A + i) (by omega)
  rcases hr with ⟨rfl, hj⟩ | ⟨h1, h2, hj⟩ | ⟨h1, h2, hj⟩ | ⟨rfl, rfl⟩ | ⟨h1, h2, hj⟩ | ⟨rfl, hj⟩ | ⟨rfl, rfl⟩ | ⟨h1, h2, hj⟩ | ⟨s, hs, ⟨rfl, rfl⟩ | ⟨h1, h2, hj⟩⟩
  · rw [lo (by omega), d1 (A + 1) (by omega), b1 (A + 1) (by omega)]; exact a2 j hj
  · rw [lo (by omega), d1 (A + i) (by omega), b1 (A + i) (by omega)]
    have q := a3 j hj
    have ei : i = 2 ∨ i = 3 ∨ i = 4 := by omega
    rcases ei with rfl | rfl | rfl
    · exact q.1
    · exact q.2.1
    · exact q.2.2
  · rw [lo (by omega), d1 (A + i) (by omega), b1 (A + i) (by omega)]
    have q := a4 j hj
    have ei : i = 5 ∨ i = 6 := by omega
    rcases ei with rfl | rfl
    · exact q.1
    · exact q.2
  · rw [lo (by omega), d1 (A + 8) (by omega), b2]; exact congrFun (a1 (B + 8) (by omega)) 0
  · have q := b3 (i - 10) (by omega) j hj
    rw [show A + 8 + 2 + (i - 10) = A + i by omega, show B + 8 + 2 + (i - 10) = B + i by omega] at q
    rw [lo (by omega), d1 (A + i) (by omega), q]; exact congrFun (a1 (B + i) (by omega)) j
  · rw [lo (by omega), d2 j hj]; exact congrFun (B1 (B + 40) (by omega) (by omega)) j
  · rw [lo (by omega)]
    exact d3.trans (congrFun (B1 (B + 40 + 1) (by omega) (by omega)) 0)
  · by_cases h8 : i ≤ 47
    · have q := d4 (i - 43) (by omega) j hj
      rw [show A + 40 + 3 + (i - 43) = A + i by omega, show B + 40 + 3 + (i - 43) = B + i by omega] at q
      rw [lo (by omega), q]; exact congrFun (B1 (B + i) (by omega) (by omega)) j
    · have q := d5 (i - 40) (by omega) (by omega) j hj
      rw [show A + 40 + (i - 40) = A + i by omega, show B + 40 + (i - 40) = B + i by omega] at q
      rw [lo (by omega), q]; exact congrFun (B1 (B + i) (by omega) (by omega)) j
  · have q := (e2 s hs).1
    rw [show A + 55 + 7 * s = A + (55 + 7 * s) by omega, show B + 55 + 7 * s = B + (55 + 7 * s) by omega] at q
    rw [q]; exact congrFun (D1 (B + (55 + 7 * s)) (by omega)) 0
  · have q := (e2 s hs).2 (i - (57 + 7 * s)) (by omega) j hj
    rw [show A + 57 + 7 * s + (i - (57 + 7 * s)) = A + i by omega, show B + 57 + 7 * s + (i - (57 + 7 * s)) = B + i by omega] at q
    rw [q]; exact congrFun (D1 (B + i) (by omega)) j
/-- the flags of a state are 0 or 1 -/
def fz (I : Nat → Nat → Int32) (S : Nat) : Prop := (I (S + 40) 0 = 0 ∨ I (S + 40) 0 = 1) ∧ (I (S + 41) 0 = 0 ∨ I (S + 41) 0 = 1) ∧ ∀ s, s < 6 → I (S + 55 + 7 * s) 0 = 0 ∨ I (S + 55 + 7 * s) 0 = 1
set_option maxRecDepth 8000 in
theorem kept_r {s : Nat} (hs : s < 2) : (SH1 100).2.2 s = some (210 + 97 * s) ∧ ST (210 + 97 * s) := by
  match s, hs with
  | 0, _ => exact ⟨sr_100_0, st_210⟩
  | 1, _ => exact ⟨sr_100_1, st_307⟩
  | k + 2, h => exact absurd h (by omega)
set_option maxRecDepth 8000 in
theorem v_cimage {n : Nat} {I : Nat → Nat → Int32} {J : Nat → Nat → Int64} {K : dw_K} {x : Int32} (hf : fz I 3)
    (h0 : ¬ (0 ≤ x.toInt ∧ x.toInt ≤ 1) → K (some (.int 0)) (n, SH1, I, J))
    (h1 : ∀ s : Nat, s < 2 → x.toInt = s → ∀ I' : Nat → Nat → Int32, (∀ a, (a < 210 + 97 * s ∨ 210 + 97 * s + 96 < a) → I' a = I a) → I' (210 + 97 * s) 0 = 1 → (∀ i j, rlv i j → I' (210 + 97 * s + i) j = I (3 + i) j) → K (some (.int 1)) (n, SH1, I', J)) : t_X11_image [.ref 0, .int x] (n, SH1, I, J) K := by
  have c2 : (2 : Int32).toInt = 2 := rfl
  refine q_body (Nat.le_of_ble_eq_true rfl) ?_
  refine q_ild rfl rfl ?_
  refine q_if (c := 2) rfl (by decide) (fun h => ?_) (fun h => ?_)
  · have h : x.toInt < 0 := h
    refine q_ic rfl ?_
    exact q_zret rfl (Or.inl rfl) (h0 (by omega))
  have h : 0 ≤ x.toInt := h
  refine q_ild rfl rfl ?_
  refine q_ic rfl ?_
  refine q_icmp (c := 3) rfl (by decide) (fun g => ?_) (fun g => ?_)
  · have g : (2 : Int32).toInt ≤ x.toInt := g
    refine q_ic rfl ?_
    exact q_zret rfl (Or.inl rfl) (h0 (by omega))
  have g : x.toInt < (2 : Int32).toInt := g
  obtain ⟨s, hs⟩ : ∃ s : Nat, x.toInt.toNat = s := ⟨_, rfl⟩
  have s2 : s < 2 := by omega
  obtain ⟨kr, kst⟩ := kept_r s2
  have kr' : (SH1 100).2.2 x.toInt.toNat = some (210 + 97 * s) := by rw [hs]; exact kr
  refine q_ald rfl rfl ?_
  refine q_getr rfl sk_0 sr_0_2 ?_
  refine q_ild rfl rfl ?_
  refine q_xaldr rfl sk_100 sn_100 h (show x.toInt < (2 : Nat) by omega) kr' ?_
  refine q_ifnn_r rfl ?_
  refine q_ald rfl rfl ?_
  refine q_getr rfl sk_0 sr_0_2 ?_
  refine q_ild rfl rfl ?_
  refine q_xaldr rfl sk_100 sn_100 h (show x.toInt < (2 : Nat) by omega) kr' ?_
  refine q_ald rfl rfl ?_
  refine q_getr rfl sk_0 sr_0_1 ?_
  refine q_callV (as := [.ref 3]) (rest := []) rfl rfl kst.1 rfl (Nat.le_of_ble_eq_true rfl) ?_
  refine v_scopy kst st_3 (by omega) hf.1 hf.2.1 hf.2.2 (fun I1 a1 a2 => ?_)
  show dw_ok (pr_X11_image K) 33 0 0 [some (.ref 0), some (.int x)] [] (n, SH1, I1, J)
  refine q_ald rfl rfl ?_
  refine q_getr rfl sk_0 sr_0_2 ?_
  refine q_ild rfl rfl ?_
  refine q_xaldr rfl sk_100 sn_100 h (show x.toInt < (2 : Nat) by omega) kr' ?_
  refine q_ic rfl ?_
  refine q_putz rfl kst.1 (Or.inr rfl) ?_
  refine q_ic rfl ?_
  refine q_zret rfl (Or.inr rfl) (h1 s s2 (by omega) (dw_up I1 (210 + 97 * s) 0 1) (fun a ha => ?_) up_same (fun i j hr => ?_))
  · rw [up_row (by omega)]; exact a1 a (by omega)
  · have : 0 < i := by
      unfold rlv at hr
      omega
    rw [up_row (by omega)]; exact a2 i j hr
set_option maxRecDepth 8000 in
theorem v_crestore {n : Nat} {I : Nat → Nat → Int32} {J : Nat → Nat → Int64} {K : dw_K} {x : Int32} (hf : ∀ s, s < 2 → fz I (210 + 97 * s)) (hb : ∀ s, s < 2 → I (210 + 97 * s) 0 = 0 ∨ I (210 + 97 * s) 0 = 1)
    (h0 : (∀ s : Nat, s < 2 → x.toInt = s → I (210 + 97 * s) 0 = 0) → K (some (.int 0)) (n, SH1, I, J))
    (h1 : ∀ s : Nat, s < 2 → x.toInt = s → I (210 + 97 * s) 0 = 1 → ∀ I' : Nat → Nat → Int32, (∀ a, (a ≤ 3 ∨ 99 < a) → I' a = I a) → (∀ i j, rlv i j → I' (3 + i) j = I (210 + 97 * s + i) j) → K (some (.int 1)) (n, SH1, I', J)) : t_X11_restore [.ref 0, .int x] (n, SH1, I, J) K := by
  have c2 : (2 : Int32).toInt = 2 := rfl
  refine q_body (Nat.le_of_ble_eq_true rfl) ?_
  refine q_ild rfl rfl ?_
  refine q_if (c := 2) rfl (by decide) (fun h => ?_) (fun h => ?_)
  · have h : x.toInt < 0 := h
    refine q_ic rfl ?_
    exact q_zret rfl (Or.inl rfl) (h0 (fun s _ e => absurd e (by omega)))
  have h : 0 ≤ x.toInt := h
  refine q_ild rfl rfl ?_
  refine q_ic rfl ?_
  refine q_icmp (c := 3) rfl (by decide) (fun g => ?_) (fun g => ?_)
  · have g : (2 : Int32).toInt ≤ x.toInt := g
    refine q_ic rfl ?_
    exact q_zret rfl (Or.inl rfl) (h0 (fun s hs e => absurd e (by omega)))
  have g : x.toInt < (2 : Int32).toInt := g
  obtain ⟨s, hs⟩ : ∃ s : Nat, x.toInt.toNat = s := ⟨_, rfl⟩
  have s2 : s < 2 := by omega
  have hx : x.toInt = s := by omega
  obtain ⟨kr, kst⟩ := kept_r s2
  have kr' : (SH1 100).2.2 x.toInt.toNat = some (210 + 97 * s) := by rw [hs]; exact kr
  refine q_ald rfl rfl ?_
  refine q_getr rfl sk_0 sr_0_2 ?_
  refine q_ild rfl rfl ?_
  refine q_xaldr rfl sk_100 sn_100 h (show x.toInt < (2 : Nat) by omega) kr' ?_
  refine q_ifnull_r rfl ?_
  refine q_ald rfl rfl ?_
  refine q_getr rfl sk_0 sr_0_2 ?_
  refine q_ild rfl rfl ?_
  refine q_xaldr rfl sk_100 sn_100 h (show x.toInt < (2 : Nat) by omega) kr' ?_
  refine q_getz rfl kst.1 ?_
  refine q_if (c := 1) rfl (by decide) (fun q => ?_) (fun q => ?_)
  · have q : (I (210 + 97 * s) 0).toInt ≠ 0 := q
    have q1 : I (210 + 97 * s) 0 = 1 := (hb s s2).resolve_left (fun e => q (by rw [e]; rfl))
    refine q_ald rfl rfl ?_
    refine q_getr rfl sk_0 sr_0_1 ?_
    refine q_ald rfl rfl ?_
    refine q_getr rfl sk_0 sr_0_2 ?_
    refine q_ild rfl rfl ?_
    refine q_xaldr rfl sk_100 sn_100 h (show x.toInt < (2 : Nat) by omega) kr' ?_
    refine q_callV (as := [.ref (210 + 97 * s)]) (rest := []) rfl rfl sk_3 rfl (Nat.le_of_ble_eq_true rfl) ?_
    refine v_scopy st_3 kst (by omega) (hf s s2).1 (hf s s2).2.1 (hf s s2).2.2 (fun I1 a1 a2 => ?_)
    show dw_ok (pr_X11_restore K) 45 0 0 [some (.ref 0), some (.int x)] [] (n, SH1, I1, J)
    refine q_ic rfl ?_
    exact q_zret rfl (Or.inr rfl) (h1 s s2 hx q1 I1 (fun a ha => a1 a (by omega)) a2)
  · have q : (I (210 + 97 * s) 0).toInt = 0 := q
    refine q_ic rfl ?_
    exact q_zret rfl (Or.inl rfl) (h0 (fun s' _ e => by rw [show s' = s by omega]; exact i_eq q))
/-! ===== image and restore of the model ===== -/
set_option maxRecDepth 8000 in
theorem i1427 {x : Int32} {s : Nat} (hs : s < 2) (hx : x.toInt = s) : (1427 * x).toInt = 1427 * (s : Int) := by
  have c : (1427 : Int32).toInt = 1427 := rfl
  exact i_mul (by rw [c, hx]) (by omega) (by omega)
set_option maxRecDepth 8000 in
theorem mi_loop {n : Nat} {J : Nat → Nat → Int64} {K : dw_K} {bc bs s : Nat} {I0 : Nat → Nat → Int32} {kx : Int32} (hs : s < 2) (hkx : kx.toInt = s)
    (hk : ∀ I' : Nat → Nat → Int32, (∀ a, a ≠ 432 → I' a = I0 a) → (∀ j, (j < 1427 * s ∨ 1427 * s + 1427 ≤ j) → I' 432 j = I0 432 j) → (∀ q, q < 1427 → I' 432 (1427 * s + q) = I0 406 (q)) → dw_ok (pr_X12_image K) 49 bc bs [some (.ref 404), some (.int kx), some (.int 1427)] [] (n, SH1, I', J)) :
    ∀ (f i : Nat) (x : Int32) (I : Nat → Nat → Int32), i + f = 1427 → x.toInt = i → (∀ a, a ≠ 432 → I a = I0 a) → (∀ j, (j < 1427 * s ∨ 1427 * s + 1427 ≤ j) → I 432 j = I0 432 j) → (∀ q, q < i → I 432 (1427 * s + q) = I0 406 (q)) → dw_ok (pr_X12_image K) 18 bc bs [some (.ref 404), some (.int kx), some (.int x)] [] (n, SH1, I, J) := by
  have c1 : (1 : Int32).toInt = 1 := rfl
  have cA : (1427 : Int32).toInt = 1427 := rfl
  have em := i1427 hs hkx
  intro f
  induction f with
  | zero =>
    intro i x I hi hx h1 h2 h3
    refine q_ild rfl rfl ?_
    refine q_ic rfl ?_
    refine q_icmp (c := 3) rfl (by decide) (fun _ => ?_) (fun h => absurd (show x.toInt < (1427 : Int32).toInt from h) (by omega))
    have ex : x = 1427 := i_eq (by omega)
    subst ex
    exact hk I h1 h2 (fun q hq => h3 q (by omega))
  | succ f ih =>
    intro i x I hi hx h1 h2 h3
    have ej : (1427 * kx + x).toInt = 1427 * (s : Int) + i := by rw [i_add (by omega) (by omega), em, hx]
    have en : (1427 * kx + x).toInt.toNat = 1427 * s + i := by omega
    have ex : x.toInt.toNat = i := by omega
    refine q_ild rfl rfl ?_
    refine q_ic rfl ?_
    refine q_icmp (c := 3) rfl (by decide) (fun h => absurd (show (1427 : Int32).toInt ≤ x.toInt from h) (by omega)) (fun _ => ?_)
    refine q_ald rfl rfl ?_
    refine q_getr rfl sk_404 sr_404_55 ?_
    refine q_ic rfl ?_
    refine q_ild rfl rfl ?_
    refine q_mul rfl ?_
    refine q_ild rfl rfl ?_
    refine q_add rfl ?_
    refine q_ald rfl rfl ?_
    refine q_getr rfl sk_404 sr_404_6 ?_
    refine q_ild rfl rfl ?_
    refine q_xald rfl (Or.inl rfl) sk_406 sn_406 (by omega) (show x.toInt < (1427 : Nat) by omega) ?_
    refine q_iast rfl sk_432 sn_432 (by omega) (show (1427 * kx + x).toInt < (2854 : Nat) by omega) ?_
    refine q_inc rfl rfl rfl ?_
    refine q_goto rfl ?_
    show dw_ok (pr_X12_image K) 18 bc bs [some (.ref 404), some (.int kx), some (.int (x + 1))] [] (n, SH1, dw_up I 432 (1427 * kx + x).toInt.toNat (I 406 x.toInt.toNat), J)
    rw [en, ex]
    refine ih (i + 1) (x + 1) _ (by omega) (by rw [i_add (by omega) (by omega), c1]; omega) (fun a ha => (up_row ha).trans (h1 a ha)) (fun j hj => ?_) (fun q hq => ?_)
    · rw [up_fld (by omega)]; exact h2 j hj
    · by_cases e : q = i
      · rw [e, up_same]; exact congrFun (h1 406 (by decide)) _
      · rw [up_fld (by omega)]; exact h3 q (by omega)
set_option maxRecDepth 8000 in
theorem mcr_loop {n : Nat} {J : Nat → Nat → Int64} {K : dw_K} {bc bs s : Nat} {I0 : Nat → Nat → Int32} {kx : Int32} (hs : s < 2) (hkx : kx.toInt = s)
    (hk : ∀ I' : Nat → Nat → Int32, (∀ a, a ≠ 406 → I' a = I0 a) → (∀ j, 1427 ≤ j → I' 406 j = I0 406 j) → (∀ q, q < 1427 → I' 406 (q) = I0 432 (1427 * s + q)) → dw_ok (pr_X12_restore K) 58 bc bs [some (.ref 404), some (.int kx), some (.int 1427)] [] (n, SH1, I', J)) :
    ∀ (f i : Nat) (x : Int32) (I : Nat → Nat → Int32), i + f = 1427 → x.toInt = i → (∀ a, a ≠ 406 → I a = I0 a) → (∀ j, 1427 ≤ j → I 406 j = I0 406 j) → (∀ q, q < i → I 406 (q) = I0 432 (1427 * s + q)) → dw_ok (pr_X12_restore K) 27 bc bs [some (.ref 404), some (.int kx), some (.int x)] [] (n, SH1, I, J) := by
  have c1 : (1 : Int32).toInt = 1 := rfl
  have cA : (1427 : Int32).toInt = 1427 := rfl
  have em := i1427 hs hkx
  intro f
  induction f with
  | zero =>
    intro i x I hi hx h1 h2 h3
    refine q_ild rfl rfl ?_
    refine q_ic rfl ?_
    refine q_icmp (c := 3) rfl (by decide) (fun _ => ?_) (fun h => absurd (show x.toInt < (1427 : Int32).toInt from h) (by omega))
    have ex : x = 1427 := i_eq (by omega)
    subst ex
    exact hk I h1 h2 (fun q hq => h3 q (by omega))
  | succ f ih =>
    intro i x I hi hx h1 h2 h3
    have ej : (1427 * kx + x).toInt = 1427 * (s : Int) + i := by rw [i_add (by omega) (by omega), em, hx]
    have en : (1427 * kx + x).toInt.toNat = 1427 * s + i := by omega
    have ex : x.toInt.toNat = i := by omega
    refine q_ild rfl rfl ?_
    refine q_ic rfl ?_
    refine q_icmp (c := 3) rfl (by decide) (fun h => absurd (show (1427 : Int32).toInt ≤ x.toInt from h) (by omega)) (fun _ => ?_)
    refine q_ald rfl rfl ?_
    refine q_getr rfl sk_404 sr_404_6 ?_
    refine q_ild rfl rfl ?_
    refine q_ald rfl rfl ?_
    refine q_getr rfl sk_404 sr_404_55 ?_
    refine q_ic rfl ?_
    refine q_ild rfl rfl ?_
    refine q_mul rfl ?_
    refine q_ild rfl rfl ?_
    refine q_add rfl ?_
    refine q_xald rfl (Or.inl rfl) sk_432 sn_432 (by omega) (show (1427 * kx + x).toInt < (2854 : Nat) by omega) ?_
    refine q_iast rfl sk_406 sn_406 (by omega) (show x.toInt < (1427 : Nat) by omega) ?_
    refine q_inc rfl rfl rfl ?_
    refine q_goto rfl ?_
    show dw_ok (pr_X12_restore K) 27 bc bs [some (.ref 404), some (.int kx), some (.int (x + 1))] [] (n, SH1, dw_up I 406 x.toInt.toNat (I 432 (1427 * kx + x).toInt.toNat), J)
    rw [en, ex]
    refine ih (i + 1) (x + 1) _ (by omega) (by rw [i_add (by omega) (by omega), c1]; omega) (fun a ha => (up_row ha).trans (h1 a ha)) (fun j hj => ?_) (fun q hq => ?_)
    · rw [up_fld (by omega)]; exact h2 j hj
    · by_cases e : q = i
      · rw [e, up_same]; exact congrFun (h1 432 (by decide)) _
      · rw [up_fld (by omega)]; exact h3 q (by omega)
set_option maxRecDepth 8000 in
theorem v_mimage {n : Nat} {I : Nat → Nat → Int32} {J : Nat → Nat → Int64} {K : dw_K} {x : Int32}
    (h0 : ¬ (0 ≤ x.toInt ∧ x.toInt ≤ 1) → ∀ I' : Nat → Nat → Int32, (∀ a, a ≠ 404 → I' a = I a) → K (some (.int 0)) (n, SH1, I', J))
    (h1 : ∀ s : Nat, s < 2 → x.toInt = s → ∀ I' : Nat → Nat → Int32, (∀ a, a ≠ 404 → a ≠ 432 → a ≠ 433 → I' a = I a) → (∀ j, (j < 1427 * s ∨ 1427 * s + 1427 ≤ j) → I' 432 j = I 432 j) → (∀ q, q < 1427 → I' 432 (1427 * s + q) = I 406 q) → I' 433 s = 1 → (∀ j, j ≠ s → I' 433 j = I 433 j) → K (some (.int 1)) (n, SH1, I', J)) : t_X12_image [.ref 404, .int x] (n, SH1, I, J) K := by
  have c1 : (1 : Int32).toInt = 1 := rfl
  have c0 : (0 : Int32).toInt = 0 := rfl
  refine q_body (Nat.le_of_ble_eq_true rfl) ?_
  refine q_ald rfl rfl ?_
  refine q_ic rfl ?_
  refine q_puti rfl sk_404 ?_
  refine q_ild rfl rfl ?_
  refine q_ic rfl ?_
  refine q_ic rfl ?_
  refine q_callS (as := [.int x, .int 0, .int 1]) (rest := []) rfl rfl rfl rfl ?_
  refine v_isIn (I := dw_up I 404 0 0) (fun w hw => ?_)
  show dw_ok (pr_X12_image K) 11 0 0 [some (.ref 404), some (.int x), none] [.int w] (n, SH1, dw_up I 404 0 0, J)
  rcases hw with ⟨rfl, g1, g2⟩ | ⟨rfl, g⟩
  · refine q_if (c := 1) rfl (by decide) (fun _ => ?_) (fun h => absurd (show (1 : Int32).toInt = 0 from h) (by decide))
    obtain ⟨s, hs⟩ : ∃ s : Nat, x.toInt.toNat = s := ⟨_, rfl⟩
    have s2 : s < 2 := by omega
    have hx : x.toInt = s := by omega
    refine q_ic rfl ?_
    refine q_ist rfl rfl ?_
    refine mi_loop (I0 := dw_up I 404 0 0) s2 hx (fun I1 a1 a2 a3 => ?_) 1427 0 0 (dw_up I 404 0 0) rfl rfl (fun _ _ => rfl) (fun _ _ => rfl) (fun q hq => absurd hq (Nat.not_lt_zero q))
    refine q_ald rfl rfl ?_
    refine q_getr rfl sk_404 sr_404_56 ?_
    refine q_ild rfl rfl ?_
    refine q_ic rfl ?_
    refine q_iastz rfl sk_433 sn_433 (by omega) (show x.toInt < (2 : Nat) by omega) (Or.inr rfl) ?_
    refine q_ic rfl ?_
    refine q_zret rfl (Or.inr rfl) ?_
    rw [show x.toInt.toNat = s from hs]
    refine h1 s s2 hx (dw_up I1 433 s 1) (fun a b1 b2 b3 => ?_) (fun j hj => ?_) (fun q hq => ?_) up_same (fun j hj => ?_)
    · rw [up_row b3, a1 a b2, up_row b1]
    · rw [up_row (by decide), a2 j hj, up_row (by decide)]
    · rw [up_row (by decide), a3 q hq, up_row (by decide)]
    · rw [up_fld hj, a1 433 (by decide), up_row (by decide)]
  · refine q_if (c := 1) rfl (by decide) (fun h => absurd (show (0 : Int32).toInt ≠ 0 from h) (by decide)) (fun _ => ?_)
    refine q_ic rfl ?_
    exact q_zret rfl (Or.inl rfl) (h0 (by omega) _ (fun a ha => up_row ha))
set_option maxRecDepth 8000 in
theorem v_mrestore {n : Nat} {I : Nat → Nat → Int32} {J : Nat → Nat → Int64} {K : dw_K} {x : Int32} (hb : ∀ s, s < 2 → I 433 s = 0 ∨ I 433 s = 1)
    (h0 : (∀ s : Nat, s < 2 → x.toInt = s → I 433 s = 0) → ∀ I' : Nat → Nat → Int32, (∀ a, a ≠ 404 → I' a = I a) → K (some (.int 0)) (n, SH1, I', J))
    (h1 : ∀ s : Nat, s < 2 → x.toInt = s → I 433 s = 1 → ∀ I' : Nat → Nat → Int32, (∀ a, a ≠ 404 → a ≠ 406 → I' a = I a) → (∀ q, q < 1427 → I' 406 q = I 432 (1427 * s + q)) → K (some (.int 1)) (n, SH1, I', J)) : t_X12_restore [.ref 404, .int x] (n, SH1, I, J) K := by
  have c1 : (1 : Int32).toInt = 1 := rfl
  have c0 : (0 : Int32).toInt = 0 := rfl
  refine q_body (Nat.le_of_ble_eq_true rfl) ?_
  refine q_ald rfl rfl ?_
  refine q_ic rfl ?_
  refine q_puti rfl sk_404 ?_
  refine q_ild rfl rfl ?_
  refine q_ic rfl ?_
  refine q_ic rfl ?_
  refine q_callS (as := [.int x, .int 0, .int 1]) (rest := []) rfl rfl rfl rfl ?_
  refine v_isIn (I := dw_up I 404 0 0) (fun w hw => ?_)
  show dw_ok (pr_X12_restore K) 11 0 0 [some (.ref 404), some (.int x), none] [.int w] (n, SH1, dw_up I 404 0 0, J)
  rcases hw with ⟨rfl, g1, g2⟩ | ⟨rfl, g⟩
  · refine q_if (c := 0) rfl (by decide) (fun h => absurd (show (1 : Int32).toInt = 0 from h) (by decide)) (fun _ => ?_)
    obtain ⟨s, hs⟩ : ∃ s : Nat, x.toInt.toNat = s := ⟨_, rfl⟩
    have s2 : s < 2 := by omega
    have hx : x.toInt = s := by omega
    refine q_ald rfl rfl ?_
    refine q_getr rfl sk_404 sr_404_56 ?_
    refine q_ild rfl rfl ?_
    refine q_xald rfl (Or.inr (Or.inl rfl)) sk_433 sn_433 (by omega) (show x.toInt < (2 : Nat) by omega) ?_
    have e433 : (dw_up I 404 0 0) 433 x.toInt.toNat = I 433 s := by rw [up_row (show 433 ≠ 404 by decide), hs]
    refine q_if (c := 1) rfl (by decide) (fun q => ?_) (fun q => ?_)
    · have q : ((dw_up I 404 0 0) 433 x.toInt.toNat).toInt ≠ 0 := q
      rw [e433] at q
      have q1 : I 433 s = 1 := (hb s s2).resolve_left (fun e => q (by rw [e]; rfl))
      refine q_ic rfl ?_
      refine q_ist rfl rfl ?_
      refine mcr_loop (I0 := dw_up I 404 0 0) s2 hx (fun I1 a1 a2 a3 => ?_) 1427 0 0 (dw_up I 404 0 0) rfl rfl (fun _ _ => rfl) (fun _ _ => rfl) (fun q hq => absurd hq (Nat.not_lt_zero q))
      refine q_ic rfl ?_
      refine q_zret rfl (Or.inr rfl) (h1 s s2 hx q1 I1 (fun a b1 b2 => ?_) (fun q hq => ?_))
      · rw [a1 a b2, up_row b1]
      · rw [a3 q hq, up_row (by decide)]
    · have q : ((dw_up I 404 0 0) 433 x.toInt.toNat).toInt = 0 := q
      rw [e433] at q
      refine q_ic rfl ?_
      exact q_zret rfl (Or.inl rfl) (h0 (fun s' _ e => by rw [show s' = s by omega]; exact i_eq q) _ (fun a ha => up_row ha))
  · refine q_if (c := 0) rfl (by decide) (fun _ => ?_) (fun h => absurd (show (0 : Int32).toInt ≠ 0 from h) (by decide))
    refine q_ic rfl ?_
    exact q_zret rfl (Or.inl rfl) (h0 (fun s hs e => absurd (show 0 ≤ x.toInt ∧ x.toInt ≤ 1 by omega) g) _ (fun a ha => up_row ha))
