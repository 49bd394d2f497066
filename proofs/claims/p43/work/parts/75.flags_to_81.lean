section
/-! ===== named properties of the memory ===== -/
def fl_oc (I : Nat → Nat → Int32) (n : Nat) : Int := (I 405 n &&& 255).toInt
def fl_wk (a o : Nat) (I : Nat → Nat → Int32) : Prop :=
  (∀ k : Nat, k < 8 → (k : Int) < (I a (o + 2)).toInt → 1 ≤ (I a (o + 5 + k)).toInt) ∧ (∀ c : Nat, c < 144 → (I a (o + 29 + c)).toInt = 0 ∨ (I a (o + 29 + c)).toInt < (I a (o + 2)).toInt) ∧ ((I a (o + 1)).toInt ≠ 0 → 1 ≤ (I a (o + 2)).toInt)
def fl_pl (a o : Nat) (I : Nat → Nat → Int32) : Prop := ∀ i : Nat, i < 30 → (i : Int) < (I a (o + 803)).toInt → (I a (o + 804 + 3 * i)).toInt ≠ 0 → (I a (o + 805 + 3 * i)).toInt ≤ 143 ∧ 1 ≤ (I a o).toInt
def fl_sum (f : Nat → Int) : Nat → Int
  | 0 => 0
  | n + 1 => fl_sum f n + f n
def fl_cnt (I : Nat → Nat → Int32) (c : Nat) : Int := if (I 425 c).toInt = 1 then 0 else 1
def fl_P (f : Nat) (x : Int) (I : Nat → Nat → Int32) : Prop := match f with
  | 0 => fl_wk 406 0 I
  | 1 => fl_wk 407 0 I
  | 2 => (I 433 0).toInt = 1 → fl_wk 432 0 I ∧ fl_pl 432 0 I
  | 3 => (I 433 1).toInt = 1 → fl_wk 432 1427 I ∧ fl_pl 432 1427 I
  | 4 => ∀ c : Nat, c < 144 → (c : Int) < x → 0 ≤ (I 419 c).toInt → (I 419 c).toInt < 8 → 1 ≤ (I 406 (5 + (I 419 c).toInt.toNat)).toInt
  | 5 => x = (I 406 0).toInt * (I 406 1).toInt
  | 6 => fl_pl 406 0 I
  | 8 => (I 404 11).toInt = 1 → 0 ≤ (I 404 12).toInt ∧ (I 404 12).toInt + (I 404 13).toInt ≤ 940 ∧ ∀ j : Nat, (j : Int) < (I 404 13).toInt → 97 ≤ fl_oc I ((I 404 12).toInt.toNat + j) ∧ fl_oc I ((I 404 12).toInt.toNat + j) ≤ 122
  | 9 => ∀ j : Nat, (j : Int) < x → (I 404 12).toInt.toNat + j < 940 → fl_oc I ((I 404 12).toInt.toNat + j) - 97 < (I 407 2).toInt
  | 10 => ∀ j : Nat, (j : Int) < (I 404 13).toInt → (I 404 12).toInt.toNat + j < 940 → 97 ≤ fl_oc I ((I 404 12).toInt.toNat + j) ∧ fl_oc I ((I 404 12).toInt.toNat + j) ≤ 122
  | 11 => (I 404 12).toInt + (I 404 13).toInt = (I 404 4).toInt
  | 12 => x = fl_sum (fl_cnt I) 144
  | 13 => x = fl_sum (fun c => (I 425 c).toInt) 144
  | 14 => ∀ j : Nat, j < 894 → (j : Int) < x → I 406 j = if j < 221 then I 407 j else 0
  | 15 => ∀ j : Nat, j < 894 → (j : Int) < x → I 432 j = I 406 j
  | 16 => ∀ j : Nat, j < 894 → (j : Int) < x → I 432 (1427 + j) = I 406 j
  | 20 => 0 ≤ (I 407 2).toInt → (I 407 2).toInt < 8 → 1 ≤ (I 407 (5 + (I 407 2).toInt.toNat)).toInt
  | 21 => ((I 404 4).toInt < (I 404 3).toInt → (I 404 4).toInt.toNat < 940 → x = fl_oc I (I 404 4).toInt.toNat) ∧ (¬ (I 404 4).toInt < (I 404 3).toInt → x = -1)
  | 22 => ∀ j : Nat, j < 221 → (j : Int) < x → I 407 j = 0
  | 23 => ∀ j : Nat, j < 91 → (j : Int) < x → I 406 (803 + j) = I 408 j
  | 24 => (I 404 38).toInt + x ≤ 144
  | 25 => ∀ i : Nat, (i : Int) < x → i < 30 → (I 408 (1 + 3 * i)).toInt ≠ 0 → (I 408 (2 + 3 * i)).toInt ≤ 143 ∧ 1 ≤ (I 406 0).toInt
  | _ => if 100 ≤ f ∧ f ≤ 130 then (∀ i : Nat, i < f - 100 → (I 408 (1 + 3 * i)).toInt ≠ 0 → (I 408 (2 + 3 * i)).toInt ≤ 143 ∧ 1 ≤ (I 406 0).toInt) else if 200 ≤ f ∧ f ≤ 215 then x = fl_oc I (f - 200) else False
def fl_s (f : Nat) : List (Nat × Nat × Nat) := match f with
  | 0 => [(406, 1, 2), (406, 5, 12), (406, 29, 172)]
  | 1 => [(407, 1, 2), (407, 5, 12), (407, 29, 172)]
  | 2 => [(433, 0, 0), (432, 0, 893)]
  | 3 => [(433, 1, 1), (432, 1427, 2320)]
  | 4 => [(406, 5, 12), (419, 0, 143)]
  | 5 => [(406, 0, 1)]
  | 6 => [(406, 803, 893), (406, 0, 0)]
  | 8 => [(404, 11, 13), (405, 0, 939)]
  | 9 => [(404, 12, 12), (405, 0, 939), (407, 2, 2)]
  | 10 => [(404, 12, 13), (405, 0, 939)]
  | 11 => [(404, 12, 13), (404, 4, 4)]
  | 12 => [(425, 0, 143)]
  | 13 => [(425, 0, 143)]
  | 14 => [(406, 0, 893), (407, 0, 220)]
  | 15 => [(406, 0, 893), (432, 0, 893)]
  | 16 => [(406, 0, 893), (432, 1427, 2320)]
  | 20 => [(407, 2, 2), (407, 5, 12)]
  | 21 => [(404, 3, 4), (405, 0, 939)]
  | 22 => [(407, 0, 220)]
  | 23 => [(406, 803, 893), (408, 0, 90)]
  | 24 => [(404, 38, 38)]
  | 25 => [(408, 1, 90), (406, 0, 0)]
  | _ => if 100 ≤ f ∧ f ≤ 130 then [(408, 1, 3 * (f - 100)), (406, 0, 0)] else if 200 ≤ f ∧ f ≤ 215 then [(405, f - 200, f - 200)] else []
def fl_same (f : Nat) (I I' : Nat → Nat → Int32) : Prop := ∀ q ∈ fl_s f, ∀ j, q.2.1 ≤ j → j ≤ q.2.2 → I' q.1 j = I q.1 j
theorem fl_at {f a l h j : Nat} {I I' : Nat → Nat → Int32} (e : fl_same f I I') (hm : (a, l, h) ∈ fl_s f) (h1 : l ≤ j) (h2 : j ≤ h) : I' a j = I a j := e (a, l, h) hm j h1 h2
theorem fl_wk_same {a o : Nat} {I I' : Nat → Nat → Int32} (h1 : ∀ j, 1 ≤ j → j ≤ 2 → I' a (o + j) = I a (o + j)) (h2 : ∀ j, 5 ≤ j → j ≤ 12 → I' a (o + j) = I a (o + j)) (h3 : ∀ j, 29 ≤ j → j ≤ 172 → I' a (o + j) = I a (o + j)) (h : fl_wk a o I) : fl_wk a o I' := by
  obtain ⟨g1, g2, g3⟩ := h
  refine ⟨fun k hk hk2 => ?_, fun c hc => ?_, fun hr => ?_⟩
  · rw [Nat.add_assoc, h2 (5 + k) (by omega) (by omega), ← Nat.add_assoc]
    rw [h1 2 (by omega) (by omega)] at hk2
    exact g1 k hk hk2
  · rw [Nat.add_assoc, h3 (29 + c) (by omega) (by omega), h1 2 (by omega) (by omega), ← Nat.add_assoc]
    exact g2 c hc
  · rw [h1 1 (by omega) (by omega)] at hr
    rw [h1 2 (by omega) (by omega)]
    exact g3 hr
theorem fl_pl_same {a o : Nat} {I I' : Nat → Nat → Int32} (h1 : ∀ j, 803 ≤ j → j ≤ 893 → I' a (o + j) = I a (o + j)) (h2 : I' a o = I a o) (h : fl_pl a o I) : fl_pl a o I' := by
  intro i hi hi2 hi3
  rw [h1 803 (by omega) (by omega)] at hi2
  rw [Nat.add_assoc, h1 (804 + 3 * i) (by omega) (by omega), ← Nat.add_assoc] at hi3
  rw [Nat.add_assoc, h1 (805 + 3 * i) (by omega) (by omega), ← Nat.add_assoc, h2]
  exact h i hi hi2 hi3
theorem fl_sum_same {f g : Nat → Int} : ∀ n : Nat, (∀ c, c < n → f c = g c) → fl_sum f n = fl_sum g n
  | 0, _ => rfl
  | n + 1, h => by
    show fl_sum f n + f n = fl_sum g n + g n
    rw [fl_sum_same n (fun c hc => h c (by omega)), h n (by omega)]
theorem fl_fp {f : Nat} {x : Int} {I I' : Nat → Nat → Int32} (e : fl_same f I I') (h : fl_P f x I) : fl_P f x I' := by
  have oc : ∀ n, I' 405 n = I 405 n → fl_oc I' n = fl_oc I n := fun n h => by unfold fl_oc; rw [h]
  unfold fl_P at h ⊢
  split at h
  · exact fl_wk_same (fun j a b => by rw [Nat.zero_add]; exact fl_at e (by simp [fl_s]) a b) (fun j a b => by rw [Nat.zero_add]; exact fl_at e (l := 5) (h := 12) (by simp [fl_s]) a b) (fun j a b => by rw [Nat.zero_add]; exact fl_at e (l := 29) (h := 172) (by simp [fl_s]) a b) h
  · exact fl_wk_same (fun j a b => by rw [Nat.zero_add]; exact fl_at e (by simp [fl_s]) a b) (fun j a b => by rw [Nat.zero_add]; exact fl_at e (l := 5) (h := 12) (by simp [fl_s]) a b) (fun j a b => by rw [Nat.zero_add]; exact fl_at e (l := 29) (h := 172) (by simp [fl_s]) a b) h
  · intro hk
    rw [fl_at e (l := 0) (h := 0) (by simp [fl_s]) (by omega) (by omega)] at hk
    have hm : (432, 0, 893) ∈ fl_s 2 := by simp [fl_s]
    obtain ⟨g1, g2⟩ := h hk
    exact ⟨fl_wk_same (fun j a b => fl_at e hm (by omega) (by omega)) (fun j a b => fl_at e hm (by omega) (by omega)) (fun j a b => fl_at e hm (by omega) (by omega)) g1, fl_pl_same (fun j a b => fl_at e hm (by omega) (by omega)) (fl_at e hm (by omega) (by omega)) g2⟩
  · intro hk
    rw [fl_at e (l := 1) (h := 1) (by simp [fl_s]) (by omega) (by omega)] at hk
    have hm : (432, 1427, 2320) ∈ fl_s 3 := by simp [fl_s]
    obtain ⟨g1, g2⟩ := h hk
    exact ⟨fl_wk_same (fun j a b => fl_at e hm (by omega) (by omega)) (fun j a b => fl_at e hm (by omega) (by omega)) (fun j a b => fl_at e hm (by omega) (by omega)) g1, fl_pl_same (fun j a b => fl_at e hm (by omega) (by omega)) (fl_at e hm (by omega) (by omega)) g2⟩
  · intro c h1 h2 h3 h4
    have e1 : I' 419 c = I 419 c := fl_at e (l := 0) (h := 143) (by simp [fl_s]) (by omega) (by omega)
    rw [e1] at h3 h4 ⊢
    rw [fl_at e (a := 406) (l := 5) (h := 12) (by simp [fl_s]) (by omega) (by omega)]
    exact h c h1 h2 h3 h4
  · rw [fl_at e (a := 406) (l := 0) (h := 1) (j := 0) (by simp [fl_s]) (by omega) (by omega), fl_at e (a := 406) (l := 0) (h := 1) (j := 1) (by simp [fl_s]) (by omega) (by omega)]
    exact h
  · exact fl_pl_same (fun j a b => by rw [Nat.zero_add]; exact fl_at e (l := 803) (h := 893) (by simp [fl_s]) a b) (fl_at e (l := 0) (h := 0) (by simp [fl_s]) (by omega) (by omega)) h
  · have q : ∀ j, 11 ≤ j → j ≤ 13 → I' 404 j = I 404 j := fun j a b => fl_at e (l := 11) (h := 13) (by simp [fl_s]) a b
    rw [q 11 (by omega) (by omega), q 12 (by omega) (by omega), q 13 (by omega) (by omega)]
    intro ht
    obtain ⟨g0, g1, g2⟩ := h ht
    refine ⟨g0, g1, fun j hj => ?_⟩
    rw [oc _ (fl_at e (l := 0) (h := 939) (by simp [fl_s]) (by omega) (by omega))]
    exact g2 j hj
  · rw [fl_at e (a := 404) (l := 12) (h := 12) (j := 12) (by simp [fl_s]) (by omega) (by omega), fl_at e (a := 407) (l := 2) (h := 2) (j := 2) (by simp [fl_s]) (by omega) (by omega)]
    intro j h1 h2
    rw [oc _ (fl_at e (l := 0) (h := 939) (by simp [fl_s]) (by omega) (by omega))]
    exact h j h1 h2
  · rw [fl_at e (a := 404) (l := 12) (h := 13) (j := 12) (by simp [fl_s]) (by omega) (by omega), fl_at e (a := 404) (l := 12) (h := 13) (j := 13) (by simp [fl_s]) (by omega) (by omega)]
    intro j h1 h2
    rw [oc _ (fl_at e (l := 0) (h := 939) (by simp [fl_s]) (by omega) (by omega))]
    exact h j h1 h2
  · rw [fl_at e (a := 404) (l := 12) (h := 13) (j := 12) (by simp [fl_s]) (by omega) (by omega), fl_at e (a := 404) (l := 12) (h := 13) (j := 13) (by simp [fl_s]) (by omega) (by omega), fl_at e (a := 404) (l := 4) (h := 4) (j := 4) (by simp [fl_s]) (by omega) (by omega)]
    exact h
  · rw [h]
    exact fl_sum_same 144 (fun c hc => by unfold fl_cnt; rw [fl_at e (a := 425) (l := 0) (h := 143) (by simp [fl_s]) (by omega) (by omega)])
  · rw [h]
    exact fl_sum_same 144 (fun c hc => by rw [fl_at e (a := 425) (l := 0) (h := 143) (by simp [fl_s]) (by omega) (by omega)])
  · intro j h1 h2
    rw [fl_at e (a := 406) (l := 0) (h := 893) (by simp [fl_s]) (by omega) (by omega), h j h1 h2]
    split
    · rw [fl_at e (a := 407) (l := 0) (h := 220) (by simp [fl_s]) (by omega) (by omega)]
    · rfl
  · intro j h1 h2
    rw [fl_at e (a := 406) (l := 0) (h := 893) (by simp [fl_s]) (by omega) (by omega), fl_at e (a := 432) (l := 0) (h := 893) (by simp [fl_s]) (by omega) (by omega)]
    exact h j h1 h2
  · intro j h1 h2
    rw [fl_at e (a := 406) (l := 0) (h := 893) (by simp [fl_s]) (by omega) (by omega), fl_at e (a := 432) (l := 1427) (h := 2320) (by simp [fl_s]) (by omega) (by omega)]
    exact h j h1 h2
  · rw [fl_at e (a := 407) (l := 2) (h := 2) (j := 2) (by simp [fl_s]) (by omega) (by omega)]
    intro h1 h2
    rw [fl_at e (a := 407) (l := 5) (h := 12) (by simp [fl_s]) (by omega) (by omega)]
    exact h h1 h2
  · rw [fl_at e (a := 404) (l := 3) (h := 4) (j := 4) (by simp [fl_s]) (by omega) (by omega), fl_at e (a := 404) (l := 3) (h := 4) (j := 3) (by simp [fl_s]) (by omega) (by omega)]
    refine ⟨fun h1 h2 => ?_, h.2⟩
    rw [oc _ (fl_at e (l := 0) (h := 939) (by simp [fl_s]) (by omega) (by omega))]
    exact h.1 h1 h2
  · intro j h1 h2
    rw [fl_at e (a := 407) (l := 0) (h := 220) (by simp [fl_s]) (by omega) (by omega)]
    exact h j h1 h2
  · intro j h1 h2
    rw [fl_at e (a := 406) (l := 803) (h := 893) (by simp [fl_s]) (by omega) (by omega), fl_at e (a := 408) (l := 0) (h := 90) (by simp [fl_s]) (by omega) (by omega)]
    exact h j h1 h2
  · rw [fl_at e (a := 404) (l := 38) (h := 38) (j := 38) (by simp [fl_s]) (by omega) (by omega)]
    exact h
  · intro i h1 h2
    rw [fl_at e (a := 408) (l := 1) (h := 90) (j := 1 + 3 * i) (by simp [fl_s]) (by omega) (by omega), fl_at e (a := 408) (l := 1) (h := 90) (j := 2 + 3 * i) (by simp [fl_s]) (by omega) (by omega), fl_at e (a := 406) (l := 0) (h := 0) (j := 0) (by simp [fl_s]) (by omega) (by omega)]
    exact h i h1 h2
  next q0 q1 q2 q3 q4 q5 q6 q8 q9 q10 q11 q12 q13 q14 q15 q16 q20 q21 q22 q23 q24 q25 =>
    have hs : fl_s f = if 100 ≤ f ∧ f ≤ 130 then [(408, 1, 3 * (f - 100)), (406, 0, 0)] else if 200 ≤ f ∧ f ≤ 215 then [(405, f - 200, f - 200)] else [] := by
      unfold fl_s
      split
      all_goals first | rfl | (exfalso; first | exact q0 rfl | exact q1 rfl | exact q2 rfl | exact q3 rfl | exact q4 rfl | exact q5 rfl | exact q6 rfl | exact q8 rfl | exact q9 rfl | exact q10 rfl | exact q11 rfl | exact q12 rfl | exact q13 rfl | exact q14 rfl | exact q15 rfl | exact q16 rfl | exact q20 rfl | exact q21 rfl | exact q22 rfl | exact q23 rfl | exact q24 rfl | exact q25 rfl)
    by_cases c1 : 100 ≤ f ∧ f ≤ 130
    · rw [if_pos c1] at h hs ⊢
      intro i hi h3
      have m1 : (408, 1, 3 * (f - 100)) ∈ fl_s f := by rw [hs]; exact List.mem_cons_self
      have m2 : (406, 0, 0) ∈ fl_s f := by rw [hs]; exact List.mem_cons_of_mem _ List.mem_cons_self
      rw [fl_at e m1 (by omega) (by omega)] at h3 ⊢
      rw [fl_at e m2 (by omega) (by omega)]
      exact h i hi h3
    · rw [if_neg c1] at h hs ⊢
      by_cases c2 : 200 ≤ f ∧ f ≤ 215
      · rw [if_pos c2] at h hs ⊢
        have m1 : (405, f - 200, f - 200) ∈ fl_s f := by rw [hs]; exact List.mem_cons_self
        rw [oc _ (fl_at e m1 (by omega) (by omega))]
        exact h
      · rw [if_neg c2] at h
        exact h.elim
end
section
/-! ===== single ops, for pieces by hand ===== -/
section
variable {pr : Nat → dw_Op} {pc bc bs nx : Nat} {ls : dw_L} {st : List Value} {μ : dw_S}
theorem q_ald {i a : Nat} (ho : pr pc = o_ald i nx) (hl : ls[i]? = some (some (.ref a))) (k : dw_ok pr nx bc bs ls (.ref a :: st) μ) : dw_ok pr pc bc bs ls st μ := dw_ok.step (by rw [ho]; unfold o_ald; rw [hl]; exact k)
theorem q_ild {i : Nat} {x : Int32} (ho : pr pc = o_ild i nx) (hl : ls[i]? = some (some (.int x))) (k : dw_ok pr nx bc bs ls (.int x :: st) μ) : dw_ok pr pc bc bs ls st μ := dw_ok.step (by rw [ho]; unfold o_ild; rw [hl]; exact k)
theorem q_ic {v : Int32} (ho : pr pc = o_ic v nx) (k : dw_ok pr nx bc bs ls (.int v :: st) μ) : dw_ok pr pc bc bs ls st μ := dw_ok.step (by rw [ho]; exact k)
theorem q_goto (ho : pr pc = o_goto nx) (k : dw_ok pr nx bc bs ls st μ) : dw_ok pr pc bc bs ls st μ := dw_ok.step (by rw [ho]; exact k)
theorem q_getr {ci j a b : Nat} (ho : pr pc = o_getf ci j 2 nx) (hk : (μ.2.1 a).1 = ci) (hr : (μ.2.1 a).2.2 j = some b) (k : dw_ok pr nx bc bs ls (.ref b :: st) μ) : dw_ok pr pc bc bs ls (.ref a :: st) μ :=
  dw_ok.step (by
    rw [ho]
    show (if (μ.2.1 a).1 = ci then dw_fitI 2 (μ.2.2.1 a j) (dw_ok pr nx bc bs ls (dw_rv ((μ.2.1 a).2.2 j) :: st) μ) else False)
    rw [if_pos hk, hr]
    exact k)
theorem q_geti {ci j a : Nat} (ho : pr pc = o_getf ci j 0 nx) (hk : (μ.2.1 a).1 = ci) (k : dw_ok pr nx bc bs ls (.int (μ.2.2.1 a j) :: st) μ) : dw_ok pr pc bc bs ls (.ref a :: st) μ :=
  dw_ok.step (by
    rw [ho]
    show (if (μ.2.1 a).1 = ci then dw_fitI 0 (μ.2.2.1 a j) (dw_ok pr nx bc bs ls (.int (μ.2.2.1 a j) :: st) μ) else False)
    rw [if_pos hk]
    exact k)
theorem q_puti {ci j a : Nat} {x : Int32} (ho : pr pc = o_puti ci j 0 nx) (hk : (μ.2.1 a).1 = ci) (k : dw_ok pr nx bc bs ls st (dw_si μ a j x)) : dw_ok pr pc bc bs ls (.int x :: .ref a :: st) μ :=
  dw_ok.step (by
    rw [ho]
    show (if (μ.2.1 a).1 = ci then dw_fitC 0 x (dw_ok pr nx bc bs ls st (dw_si μ a j x)) else False)
    rw [if_pos hk]
    exact k)
theorem q_xald {kd t a n : Nat} {x : Int32} (ho : pr pc = o_xald kd t nx) (ht : t = 0 ∨ t = 3 ∨ t = 4) (hk : (μ.2.1 a).1 = kd) (hn : (μ.2.1 a).2.1 = n) (h0 : 0 ≤ x.toInt) (h1 : x.toInt < n) (k : dw_ok pr nx bc bs ls (.int (μ.2.2.1 a x.toInt.toNat) :: st) μ) : dw_ok pr pc bc bs ls (.int x :: .ref a :: st) μ :=
  dw_ok.step (by
    rw [ho]
    show (if (μ.2.1 a).1 = kd then (if ¬ x < 0 ∧ x.toNatClampNeg < (μ.2.1 a).2.1 then dw_fitI t (μ.2.2.1 a x.toNatClampNeg) (dw_ok pr nx bc bs ls (dw_vt t μ a x.toNatClampNeg :: st) μ) else False) else False)
    rw [if_pos hk, if_pos ⟨dx_nlt h0, by rw [hn, dx_tn]; omega⟩]
    refine dx_fitI_ok ?_
    rcases ht with rfl | rfl | rfl
    · exact k
    · exact k
    · exact k)
theorem q_iast {kd a n : Nat} {x v : Int32} (ho : pr pc = o_iast kd 0 nx) (hk : (μ.2.1 a).1 = kd) (hn : (μ.2.1 a).2.1 = n) (h0 : 0 ≤ x.toInt) (h1 : x.toInt < n) (k : dw_ok pr nx bc bs ls st (dw_si μ a x.toInt.toNat v)) : dw_ok pr pc bc bs ls (.int v :: .int x :: .ref a :: st) μ :=
  dw_ok.step (by
    rw [ho]
    show (if (μ.2.1 a).1 = kd then (if ¬ x < 0 ∧ x.toNatClampNeg < (μ.2.1 a).2.1 then dw_fitC 0 v (dw_ok pr nx bc bs ls st (dw_si μ a x.toNatClampNeg v)) else False) else False)
    rw [if_pos hk, if_pos ⟨dx_nlt h0, by rw [hn, dx_tn]; omega⟩]
    exact k)
theorem q_iastz {kd a n : Nat} {x v : Int32} (ho : pr pc = o_iast kd 3 nx) (hk : (μ.2.1 a).1 = kd) (hn : (μ.2.1 a).2.1 = n) (h0 : 0 ≤ x.toInt) (h1 : x.toInt < n) (hv : v = 0 ∨ v = 1) (k : dw_ok pr nx bc bs ls st (dw_si μ a x.toInt.toNat v)) : dw_ok pr pc bc bs ls (.int v :: .int x :: .ref a :: st) μ :=
  dw_ok.step (by
    rw [ho]
    show (if (μ.2.1 a).1 = kd then (if ¬ x < 0 ∧ x.toNatClampNeg < (μ.2.1 a).2.1 then dw_fitC 3 v (dw_ok pr nx bc bs ls st (dw_si μ a x.toNatClampNeg v)) else False) else False)
    rw [if_pos hk, if_pos ⟨dx_nlt h0, by rw [hn, dx_tn]; omega⟩]
    show (if v = 0 ∨ v = 1 then _ else False)
    rw [if_pos hv]
    exact k)
theorem q_add {x y : Int32} (ho : pr pc = o_iadd nx) (k : dw_ok pr nx bc bs ls (.int (x + y) :: st) μ) : dw_ok pr pc bc bs ls (.int y :: .int x :: st) μ := dw_ok.step (by rw [ho]; exact k)
theorem q_sub {x y : Int32} (ho : pr pc = o_isub nx) (k : dw_ok pr nx bc bs ls (.int (x - y) :: st) μ) : dw_ok pr pc bc bs ls (.int y :: .int x :: st) μ := dw_ok.step (by rw [ho]; exact k)
theorem q_mul {x y : Int32} (ho : pr pc = o_imul nx) (k : dw_ok pr nx bc bs ls (.int (x * y) :: st) μ) : dw_ok pr pc bc bs ls (.int y :: .int x :: st) μ := dw_ok.step (by rw [ho]; exact k)
theorem q_and {x y : Int32} (ho : pr pc = o_iand nx) (k : dw_ok pr nx bc bs ls (.int (x &&& y) :: st) μ) : dw_ok pr pc bc bs ls (.int y :: .int x :: st) μ := dw_ok.step (by rw [ho]; exact k)
theorem q_dup {a : Nat} (ho : pr pc = o_dup nx) (k : dw_ok pr nx bc bs ls (.ref a :: .ref a :: st) μ) : dw_ok pr pc bc bs ls (.ref a :: st) μ := dw_ok.step (by rw [ho]; exact k)
theorem q_dup2 {a : Nat} {x : Int32} (ho : pr pc = o_dup2 nx) (k : dw_ok pr nx bc bs ls (.int x :: .ref a :: .int x :: .ref a :: st) μ) : dw_ok pr pc bc bs ls (.int x :: .ref a :: st) μ := dw_ok.step (by rw [ho]; exact k)
theorem q_icmp {c tg : Nat} {x y : Int32} (ho : pr pc = dx_ic c tg nx) (hc : c ≤ 5) (k1 : dx_cp c x.toInt y.toInt → dw_ok pr tg bc bs ls st μ) (k2 : dx_cp (dx_ng c) x.toInt y.toInt → dw_ok pr nx bc bs ls st μ) : dw_ok pr pc bc bs ls (.int y :: .int x :: st) μ := dw_ok.step (by rw [ho]; exact dx_ic_ok hc k1 k2)
theorem q_if {c tg : Nat} {x : Int32} (ho : pr pc = dx_if c tg nx) (hc : c ≤ 5) (k1 : dx_cp c x.toInt 0 → dw_ok pr tg bc bs ls st μ) (k2 : dx_cp (dx_ng c) x.toInt 0 → dw_ok pr nx bc bs ls st μ) : dw_ok pr pc bc bs ls (.int x :: st) μ := dw_ok.step (by rw [ho]; exact dx_if_ok hc k1 k2)
end
theorem i_add {x y : Int32} (h1 : -2147483648 ≤ x.toInt + y.toInt) (h2 : x.toInt + y.toInt ≤ 2147483647) : (x + y).toInt = x.toInt + y.toInt := by rw [Int32.toInt_add]; exact dx_bm h1 h2
theorem i_sub {x y : Int32} (h1 : -2147483648 ≤ x.toInt - y.toInt) (h2 : x.toInt - y.toInt ≤ 2147483647) : (x - y).toInt = x.toInt - y.toInt := by rw [Int32.toInt_sub]; exact dx_bm h1 h2
theorem i_mul {x y : Int32} {n : Int} (h : x.toInt * y.toInt = n) (h1 : -2147483648 ≤ n) (h2 : n ≤ 2147483647) : (x * y).toInt = n := by rw [Int32.toInt_mul, h]; exact dx_bm h1 h2
theorem up_at {I : Nat → Nat → Int32} {a j : Nat} {x : Int32} : dw_up I a j x a j = x := by unfold dw_up; rw [if_pos rfl, if_pos rfl]
theorem up_ne {I : Nat → Nat → Int32} {a j a' j' : Nat} {x : Int32} (h : a' ≠ a ∨ j' ≠ j) : dw_up I a j x a' j' = I a' j' := by
  unfold dw_up
  by_cases e : a' = a
  · rw [if_pos e, if_neg (by rcases h with h | h; exact absurd e h; exact h)]
  · rw [if_neg e]
theorem oc_rng (I : Nat → Nat → Int32) (n : Nat) : 0 ≤ fl_oc I n ∧ fl_oc I n ≤ 255 := by
  unfold fl_oc
  have h : (0 : Int) ≤ (255 : Int32).toInt := by decide
  have := dx_and (x := I 405 n) (y := 255) h
  have e : (255 : Int32).toInt = 255 := rfl
  omega
theorem gV_th {k : Nat} {ν : Nat → Int} {x : Option Value} {a : Nat} (h : dx_gV k ν ((.inr (.inl [a]))) x) : x = some (.ref a) := by
  obtain ⟨b, h1, h2⟩ := h
  rw [List.mem_singleton] at h1
  rw [h2, h1]
theorem fl_sum_up {f g : Nat → Int} {m : Nat} {d : Int} (hm : g m = f m + d) (h : ∀ c, c ≠ m → g c = f c) : ∀ n : Nat, fl_sum g n = fl_sum f n + if m < n then d else 0
  | 0 => by simp [fl_sum]
  | n + 1 => by
    show fl_sum g n + g n = fl_sum f n + f n + _
    rw [fl_sum_up hm h n]
    by_cases e : m = n
    · subst e
      rw [if_neg (by omega), if_pos (by omega), hm]; omega
    · rw [h n (fun q => e q.symm)]
      by_cases e2 : m < n
      · rw [if_pos e2, if_pos (by omega)]; omega
      · rw [if_neg e2, if_neg (by omega)]; omega
theorem fl_sum_le {f : Nat → Int} {l u : Int} : ∀ n : Nat, (∀ c, c < n → l ≤ f c ∧ f c ≤ u) → (n : Int) * l ≤ fl_sum f n ∧ fl_sum f n ≤ (n : Int) * u
  | 0, _ => by simp [fl_sum]
  | n + 1, h => by
    have h1 := fl_sum_le n (fun c hc => h c (by omega))
    have h2 := h n (by omega)
    have e1 : ((n + 1 : Nat) : Int) * l = (n : Int) * l + l := by rw [Int.natCast_add, Int.add_mul]; simp
    have e2 : ((n + 1 : Nat) : Int) * u = (n : Int) * u + u := by rw [Int.natCast_add, Int.add_mul]; simp
    show _ ≤ fl_sum f n + f n ∧ fl_sum f n + f n ≤ _
    omega
end
section
/-! ===== the end of a piece by hand ===== -/
def dx_aL {α : Type} (P : α → Prop) : List α → Prop
  | [] => True
  | x :: r => P x ∧ dx_aL P r
theorem dx_aL.all {α : Type} {P : α → Prop} : ∀ {l : List α}, dx_aL P l → ∀ q ∈ l, P q
  | [], _, _, h => absurd h (List.not_mem_nil)
  | x :: r, h, q, hq => by
    rcases List.mem_cons.mp hq with rfl | hq
    · exact h.1
    · exact dx_aL.all h.2 q hq
def dx_iL (ν : Nat → Int) : Nat → List (Int × Int) → Prop
  | _, [] => True
  | k, p :: r => (p.1 ≤ ν k ∧ ν k ≤ p.2) ∧ dx_iL ν (k + 1) r
theorem dx_iL.all {ν : Nat → Int} : ∀ {l : List (Int × Int)} {k : Nat}, dx_iL ν k l → ∀ s, s < l.length → dx_in (dx_gi l s) (ν (k + s))
  | [], _, _, s, hs => absurd hs (Nat.not_lt_zero s)
  | p :: r, k, h, 0, _ => h.1
  | p :: r, k, h, s + 1, hs => by
    have := dx_iL.all h.2 s (by simpa using hs)
    rw [show k + 1 + s = k + (s + 1) by omega] at this
    exact this
theorem post_mk {E : dx_Env} {md : List Nat} {n : Nat} {ν ν' : Nat → Int} {μ μ' : dw_S} {pre P : dx_S} {vs : dw_L} {r : List Value} (g : dx_g E md n ν μ ν pre vs [] μ) (hsh : μ'.2.1 = μ.2.1) (hhi : ∀ a j, dx_in (dx_seg (E.ce a).iv j) (μ'.2.2.1 a j).toInt)
    (hfr : ∀ a, a ∉ md → μ'.2.2.1 a = μ.2.2.1 a ∧ μ'.2.2.2 a = μ.2.2.2 a) (hk0 : n ≤ P.iv.length) (hk1 : 0 < n) (hag : ∀ s, s < n → ν' s = ν s) (hiv : dx_iL ν' 0 P.iv) (hdc : dx_aL (fun q => q.1 < P.iv.length ∧ q.2.1 < P.iv.length ∧ ν' q.1 - ν' q.2.1 ≤ q.2.2) P.dc)
    (hgl : dx_gL P.iv.length ν' P.ls (r.map some)) (hst : P.st = []) (hfa : dx_aL (fun q => q.2.2.1 < P.iv.length ∧ (μ'.2.2.1 q.1 q.2.1).toInt = ν' q.2.2.1 + q.2.2.2) P.fa) (hfl : dx_aL (fun q => q.2.1 < P.iv.length ∧ E.FP q.1 (ν' q.2.1 + q.2.2) μ'.2.2.1) P.fl) : dx_g E md n ν μ ν' P (r.map some) [] μ' := by
  refine ⟨by rw [hsh]; exact g.sh, hhi, hfr, by rw [hag 0 hk1]; exact g.z, hk0, by omega, hag, fun s hs => ?_, hdc.all, hgl, by rw [hst]; trivial, hfa.all, hfl.all⟩
  have := hiv.all s hs
  rw [Nat.zero_add] at this
  exact this
theorem nu1 (ν : Nat → Int) (n : Nat) (x : Int) : ∃ ν' : Nat → Int, (∀ s, s < n → ν' s = ν s) ∧ ν' n = x := ⟨dx_nu ν n x, fun _ h => dx_nu_lt h, dx_nu_at⟩
theorem nu2 (ν : Nat → Int) (n m : Nat) (hm : m = n + 1) (x y : Int) : ∃ ν' : Nat → Int, (∀ s, s < n → ν' s = ν s) ∧ ν' n = x ∧ ν' m = y := by
  subst hm
  refine ⟨dx_nu (dx_nu ν n x) (n + 1) y, fun s h => ?_, ?_, dx_nu_at⟩
  · rw [dx_nu_lt (by omega), dx_nu_lt h]
  · rw [dx_nu_lt (by omega), dx_nu_at]
theorem vs1 {f : Nat → Option (Option Value)} {a : Nat} {vs : dw_L} (h : [a].map f = vs.map some) : ∃ v0, vs = [v0] ∧ f a = some v0 := by
  match vs, h with
  | [v0], h => simp only [List.map_cons, List.map_nil, List.cons.injEq, and_true] at h; exact ⟨v0, rfl, h⟩
  | [], h => simp at h
  | _ :: _ :: _, h => simp at h
theorem vs2 {f : Nat → Option (Option Value)} {a b : Nat} {vs : dw_L} (h : [a, b].map f = vs.map some) : ∃ v0 v1, vs = [v0, v1] ∧ f a = some v0 ∧ f b = some v1 := by
  match vs, h with
  | [v0, v1], h => simp only [List.map_cons, List.map_nil, List.cons.injEq, and_true] at h; exact ⟨v0, v1, rfl, h.1, h.2⟩
  | [], h => simp at h
  | [_], h => simp at h
  | _ :: _ :: _ :: _, h => simp at h
theorem vs3 {f : Nat → Option (Option Value)} {a b c : Nat} {vs : dw_L} (h : [a, b, c].map f = vs.map some) : ∃ v0 v1 v2, vs = [v0, v1, v2] ∧ f a = some v0 ∧ f b = some v1 ∧ f c = some v2 := by
  match vs, h with
  | [v0, v1, v2], h => simp only [List.map_cons, List.map_nil, List.cons.injEq, and_true] at h; exact ⟨v0, v1, v2, rfl, h.1, h.2.1, h.2.2⟩
  | [], h => simp at h
  | [_], h => simp at h
  | [_, _], h => simp at h
  | _ :: _ :: _ :: _ :: _, h => simp at h
theorem vs4 {f : Nat → Option (Option Value)} {a b c d : Nat} {vs : dw_L} (h : [a, b, c, d].map f = vs.map some) : ∃ v0 v1 v2 v3, vs = [v0, v1, v2, v3] ∧ f a = some v0 ∧ f b = some v1 ∧ f c = some v2 ∧ f d = some v3 := by
  match vs, h with
  | [v0, v1, v2, v3], h => simp only [List.map_cons, List.map_nil, List.cons.injEq, and_true] at h; exact ⟨v0, v1, v2, v3, rfl, h.1, h.2.1, h.2.2.1, h.2.2.2⟩
  | [], h => simp at h
  | [_], h => simp at h
  | [_, _], h => simp at h
  | [_, _, _], h => simp at h
  | _ :: _ :: _ :: _ :: _ :: _, h => simp at h
theorem vs0 {f : Nat → Option (Option Value)} {vs : dw_L} (h : ([] : List Nat).map f = vs.map some) : vs = [] := by
  match vs, h with
  | [], _ => rfl
  | _ :: _, h => simp at h
theorem ar0 {as : List Value} (h : as.length = 0) : as = [] := List.eq_nil_of_length_eq_zero h
theorem ar2 {as : List Value} (h : as.length = 2) : ∃ x y, as = [x, y] := by
  match as, h with
  | [x, y], _ => exact ⟨x, y, rfl⟩
/-- what a write of an int leaves -/
theorem up_hi {E : dx_Env} {μ : dw_S} {a j : Nat} {x : Int32} (h : ∀ a j, dx_in (dx_seg (E.ce a).iv j) (μ.2.2.1 a j).toInt) (hx : dx_in (dx_seg (E.ce a).iv j) x.toInt) : ∀ a' j', dx_in (dx_seg (E.ce a').iv j') ((dw_si μ a j x).2.2.1 a' j').toInt := by
  intro a' j'
  show dx_in _ (dw_up μ.2.2.1 a j x a' j').toInt
  unfold dw_up
  by_cases e : a' = a
  · rw [if_pos e]
    by_cases e2 : j' = j
    · rw [if_pos e2, e, e2]; exact hx
    · rw [if_neg e2]; exact h a' j'
  · rw [if_neg e]; exact h a' j'
theorem up_fr {μ : dw_S} {a j : Nat} {x : Int32} {md : List Nat} (hm : a ∈ md) : ∀ a', a' ∉ md → (dw_si μ a j x).2.2.1 a' = μ.2.2.1 a' ∧ (dw_si μ a j x).2.2.2 a' = μ.2.2.2 a' := by
  intro a' hn
  refine ⟨?_, rfl⟩
  funext j'
  show dw_up μ.2.2.1 a j x a' j' = _
  unfold dw_up
  rw [if_neg (fun e : a' = a => hn (e ▸ hm))]
theorem up_eq {I : Nat → Nat → Int32} {a j a' j' : Nat} {x : Int32} {n : Int} (h : a' ≠ a ∨ j' ≠ j) (f : (I a' j').toInt = n) : (dw_up I a j x a' j').toInt = n := by rw [up_ne h]; exact f
end
