/-! ===== named properties of the memory ===== -/
def fl_oc (I : Nat → Nat → Int32) (n : Nat) : Int := (I 405 n &&& 255).toInt
def fl_wk (a o : Nat) (I : Nat → Nat → Int32) : Prop :=
  (∀ k : Nat, k < 8 → (k : Int) < (I a (o + 2)).toInt → 1 ≤ (I a (o + 5 + k)).toInt) ∧ (∀ c : Nat, c < 144 → (I a (o + 29 + c)).toInt = 0 ∨ (I a (o + 29 + c)).toInt < (I a (o + 2)).toInt) ∧ ((I a (o + 1)).toInt ≠ 0 → 1 ≤ (I a (o + 2)).toInt)
def fl_pl (a o : Nat) (I : Nat → Nat → Int32) : Prop := ∀ i : Nat, i < 30 → (i : Int) < (I a (o + 803)).toInt → (I a (o + 804 + 3 * i)).toInt ≠ 0 → (I a (o + 805 + 3 * i)).toInt ≤ 143 ∧ 1 ≤ (I a o).toInt
def fl_sum (f : Nat → Int) : Nat → Int
  | 0 => 0
  | n + 1 => fl_sum f n + f n
def fl_cnt (I : Nat → Nat → Int32) (c : Nat) : Int := if (I 425 c).toInt = 1 then 0 else 1
def fl_P (f : Nat) (x : Int) (I : Nat → Nat → Int32) : Prop := match f with
  | 0 => fl_wk 406 0 I
  | 1 => fl_wk 407 0 I
  | 2 => (I 433 0).toInt = 1 → fl_wk 432 0 I ∧ fl_pl 432 0 I
  | 3 => (I 433 1).toInt = 1 → fl_wk 432 1427 I ∧ fl_pl 432 1427 I
  | 4 => ∀ c : Nat, c < 144 → (c : Int) < x → 0 ≤ (I 419 c).toInt → (I 419 c).toInt < 8 → 1 ≤ (I 406 (5 + (I 419 c).toInt.toNat)).toInt
  | 5 => x = (I 406 0).toInt * (I 406 1).toInt
  | 6 => fl_pl 406 0 I
  | 8 => (I 404 11).toInt = 1 → 0 ≤ (I 404 12).toInt ∧ (I 404 12).toInt + (I 404 13).toInt ≤ 940 ∧ ∀ j : Nat, (j : Int) < (I 404 13).toInt → 97 ≤ fl_oc I ((I 404 12).toInt.toNat + j) ∧ fl_oc I ((I 404 12).toInt.toNat + j) ≤ 122
  | 9 => ∀ j : Nat, (j : Int) < x → (I 404 12).toInt.toNat + j < 940 → fl_oc I ((I 404 12).toInt.toNat + j) - 97 < (I 407 2).toInt
  | 10 => ∀ j : Nat, (j : Int) < (I 404 13).toInt → (I 404 12).toInt.toNat + j < 940 → 97 ≤ fl_oc I ((I 404 12).toInt.toNat + j) ∧ fl_oc I ((I 404 12).toInt.toNat + j) ≤ 122
  | 11 => (I 404 12).toInt + (I 404 13).toInt = (I 404 4).toInt
  | 12 => x = fl_sum (fl_cnt I) 144
  | 13 => x = fl_sum (fun c => (I 425 c).toInt) 144
  | 14 => ∀ j : Nat, j < 894 → (j : Int) < x → I 406 j = if j < 221 then I 407 j else 0
  | 15 => ∀ j : Nat, j < 894 → (j : Int) < x → I 432 j = I 406 j
  | 16 => ∀ j : Nat, j < 894 → (j : Int) < x → I 432 (1427 + j) = I 406 j
  | 20 => 0 ≤ (I 407 2).toInt → (I 407 2).toInt < 8 → 1 ≤ (I 407 (5 + (I 407 2).toInt.toNat)).toInt
  | 21 => ((I 404 4).toInt < (I 404 3).toInt → (I 404 4).toInt.toNat < 940 → x = fl_oc I (I 404 4).toInt.toNat) ∧ (¬ (I 404 4).toInt < (I 404 3).toInt → x = -1)
  | 22 => ∀ j : Nat, j < 221 → (j : Int) < x → I 407 j = 0
  | 23 => ∀ j : Nat, j < 91 → (j : Int) < x → I 406 (803 + j) = I 408 j
  | 24 => (I 404 38).toInt + x ≤ 144
  | 25 => ∀ i : Nat, (i : Int) < x → i < 30 → (I 408 (1 + 3 * i)).toInt ≠ 0 → (I 408 (2 + 3 * i)).toInt ≤ 143 ∧ 1 ≤ (I 406 0).toInt
  | _ => if 100 ≤ f ∧ f ≤ 130 then (∀ i : Nat, i < f - 100 → (I 408 (1 + 3 * i)).toInt ≠ 0 → (I 408 (2 + 3 * i)).toInt ≤ 143 ∧ 1 ≤ (I 406 0).toInt) else if 200 ≤ f ∧ f ≤ 215 then x = fl_oc I (f - 200) else False
def fl_s (f : Nat) : List (Nat × Nat × Nat) := match f with
  | 0 => [(406, 1, 2), (406, 5, 12), (406, 29, 172)]
  | 1 => [(407, 1, 2), (407, 5, 12), (407, 29, 172)]
  | 2 => [(433, 0, 0), (432, 0, 893)]
  | 3 => [(433, 1, 1), (432, 1427, 2320)]
  | 4 => [(406, 5, 12), (419, 0, 143)]
  | 5 => [(406, 0, 1)]
  | 6 => [(406, 803, 893), (406, 0, 0)]
  | 8 => [(404, 11, 13), (405, 0, 939)]
  | 9 => [(404, 12, 12), (405, 0, 939), (407, 2, 2)]
  | 10 => [(404, 12, 13), (405, 0, 939)]
  | 11 => [(404, 12, 13), (404, 4, 4)]
  | 12 => [(425, 0, 143)]
  | 13 => [(425, 0, 143)]
  | 14 => [(406, 0, 893), (407, 0, 220)]
  | 15 => [(406, 0, 893), (432, 0, 893)]
  | 16 => [(406, 0, 893), (432, 1427, 2320)]
  | 20 => [(407, 2, 2), (407, 5, 12)]
  | 21 => [(404, 3, 4), (405, 0, 939)]
  | 22 => [(407, 0, 220)]
  | 23 => [(406, 803, 893), (408, 0, 90)]
  | 24 => [(404, 38, 38)]
  | 25 => [(408, 1, 90), (406, 0, 0)]
  | _ => if 100 ≤ f ∧ f ≤ 130 then [(408, 1, 3 * (f - 100)), (406, 0, 0)] else if 200 ≤ f ∧ f ≤ 215 then [(405, f - 200, f - 200)] else []
def fl_same (f : Nat) (I I' : Nat → Nat → Int32) : Prop := ∀ q ∈ fl_s f, ∀ j, q.2.1 ≤ j → j ≤ q.2.2 → I' q.1 j = I q.1 j
theorem fl_at {f a l h j : Nat} {I I' : Nat → Nat → Int32} (e : fl_same f I I') (hm : (a, l, h) ∈ fl_s f) (h1 : l ≤ j) (h2 : j ≤ h) : I' a j = I a j := e (a, l, h) hm j h1 h2
theorem fl_wk_same {a o : Nat} {I I' : Nat → Nat → Int32} (h1 : ∀ j, 1 ≤ j → j ≤ 2 → I' a (o + j) = I a (o + j)) (h2 : ∀ j, 5 ≤ j → j ≤ 12 → I' a (o + j) = I a (o + j)) (h3 : ∀ j, 29 ≤ j → j ≤ 172 → I' a (o + j) = I a (o + j)) (h : fl_wk a o I) : fl_wk a o I' := by
  obtain ⟨g1, g2, g3⟩ := h
  refine ⟨fun k hk hk2 => ?_, fun c hc => ?_, fun hr => ?_⟩
  · rw [Nat.add_assoc, h2 (5 + k) (by omega) (by omega), ← Nat.add_assoc]
    rw [h1 2 (by omega) (by omega)] at hk2
    exact g1 k hk hk2
  · rw [Nat.add_assoc, h3 (29 + c) (by omega) (by omega), h1 2 (by omega) (by omega), ← Nat.add_assoc]
    exact g2 c hc
  · rw [h1 1 (by omega) (by omega)] at hr
    rw [h1 2 (by omega) (by omega)]
    exact g3 hr
theorem fl_pl_same {a o : Nat} {I I' : Nat → Nat → Int32} (h1 : ∀ j, 803 ≤ j → j ≤ 893 → I' a (o + j) = I a (o + j)) (h2 : I' a o = I a o) (h : fl_pl a o I) : fl_pl a o I' := by
  intro i hi hi2 hi3
  rw [h1 803 (by omega) (by omega)] at hi2
  rw [Nat.add_assoc, h1 (804 + 3 * i) (by omega) (by omega), ← Nat.add_assoc] at hi3
  rw [Nat.add_assoc, h1 (805 + 3 * i) (by omega) (by omega), ← Nat.add_assoc, h2]
  exact h i hi hi2 hi3
theorem fl_sum_same {f g : Nat → Int} : ∀ n : Nat, (∀ c, c < n → f c = g c) → fl_sum f n = fl_sum g n
  | 0, _ => rfl
  | n + 1, h => by
    show fl_sum f n + f n = fl_sum g n + g n
    rw [fl_sum_same n (fun c hc => h c (by omega)), h n (by omega)]
theorem fl_fp {f : Nat} {x : Int} {I I' : Nat → Nat → Int32} (e : fl_same f I I') (h : fl_P f x I) : fl_P f x I' := by
  have oc : ∀ n, I' 405 n = I 405 n → fl_oc I' n = fl_oc I n := fun n h => by unfold fl_oc; rw [h]
  unfold fl_P at h ⊢
  split at h
  · exact fl_wk_same (fun j a b => by rw [Nat.zero_add]; exact fl_at e (by simp [fl_s]) a b) (fun j a b => by rw [Nat.zero_add]; exact fl_at e (l := 5) (h := 12) (by simp [fl_s]) a b) (fun j a b => by rw [Nat.zero_add]; exact fl_at e (l := 29) (h := 172) (by simp [fl_s]) a b) h
  · exact fl_wk_same (fun j a b => by rw [Nat.zero_add]; exact fl_at e (by simp [fl_s]) a b) (fun j a b => by rw [Nat.zero_add]; exact fl_at e (l := 5) (h := 12) (by simp [fl_s]) a b) (fun j a b => by rw [Nat.zero_add]; exact fl_at e (l := 29) (h := 172) (by simp [fl_s]) a b) h
  · intro hk
    rw [fl_at e (l := 0) (h := 0) (by simp [fl_s]) (by omega) (by omega)] at hk
    have hm : (432, 0, 893) ∈ fl_s 2 := by simp [fl_s]
    obtain ⟨g1, g2⟩ := h hk
    exact ⟨fl_wk_same (fun j a b => fl_at e hm (by omega) (by omega)) (fun j a b => fl_at e hm (by omega) (by omega)) (fun j a b => fl_at e hm (by omega) (by omega)) g1, fl_pl_same (fun j a b => fl_at e hm (by omega) (by omega)) (fl_at e hm (by omega) (by omega)) g2⟩
  · intro hk
    rw [fl_at e (l := 1) (h := 1) (by simp [fl_s]) (by omega) (by omega)] at hk
    have hm : (432, 1427, 2320) ∈ fl_s 3 := by simp [fl_s]
    obtain ⟨g1, g2⟩ := h hk
    exact ⟨fl_wk_same (fun j a b => fl_at e hm (by omega) (by omega)) (fun j a b => fl_at e hm (by omega) (by omega)) (fun j a b => fl_at e hm (by omega) (by omega)) g1, fl_pl_same (fun j a b => fl_at e hm (by omega) (by omega)) (fl_at e hm (by omega) (by omega)) g2⟩
  · intro c h1 h2 h3 h4
    have e1 : I' 419 c = I 419 c := fl_at e (l := 0) (h := 143) (by simp [fl_s]) (by omega) (by omega)
    rw [e1] at h3 h4 ⊢
    rw [fl_at e (a := 406) (l := 5) (h := 12) (by simp [fl_s]) (by omega) (by omega)]
    exact h c h1 h2 h3 h4
  · rw [fl_at e (a := 406) (l := 0) (h := 1) (j := 0) (by simp [fl_s]) (by omega) (by omega), fl_at e (a := 406) (l := 0) (h := 1) (j := 1) (by simp [fl_s]) (by omega) (by omega)]
    exact h
  · exact fl_pl_same (fun j a b => by rw [Nat.zero_add]; exact fl_at e (l := 803) (h := 893) (by simp [fl_s]) a b) (fl_at e (l := 0) (h := 0) (by simp [fl_s]) (by omega) (by omega)) h
  · have q : ∀ j, 11 ≤ j → j ≤ 13 → I' 404 j = I 404 j := fun j a b => fl_at e (l := 11) (h := 13) (by simp [fl_s]) a b
    rw [q 11 (by omega) (by omega), q 12 (by omega) (by omega), q 13 (by omega) (by omega)]
    intro ht
    obtain ⟨g0, g1, g2⟩ := h ht
    refine ⟨g0, g1, fun j hj => ?_⟩
    rw [oc _ (fl_at e (l := 0) (h := 939) (by simp [fl_s]) (by omega) (by omega))]
    exact g2 j hj
  · rw [fl_at e (a := 404) (l := 12) (h := 12) (j := 12) (by simp [fl_s]) (by omega) (by omega), fl_at e (a := 407) (l := 2) (h := 2) (j := 2) (by simp [fl_s]) (by omega) (by omega)]
    intro j h1 h2
    rw [oc _ (fl_at e (l := 0) (h := 939) (by simp [fl_s]) (by omega) (by omega))]
    exact h j h1 h2
  · rw [fl_at e (a := 404) (l := 12) (h := 13) (j := 12) (by simp [fl_s]) (by omega) (by omega), fl_at e (a := 404) (l := 12) (h := 13) (j := 13) (by simp [fl_s]) (by omega) (by omega)]
    intro j h1 h2
    rw [oc _ (fl_at e (l := 0) (h := 939) (by simp [fl_s]) (by omega) (by omega))]
    exact h j h1 h2
  · rw [fl_at e (a := 404) (l := 12) (h := 13) (j := 12) (by simp [fl_s]) (by omega) (by omega), fl_at e (a := 404) (l := 12) (h := 13) (j := 13) (by simp [fl_s]) (by omega) (by omega), fl_at e (a := 404) (l := 4) (h := 4) (j := 4) (by simp [fl_s]) (by omega) (by omega)]
    exact h
  · rw [h]
    exact fl_sum_same 144 (fun c hc => by unfold fl_cnt; rw [fl_at e (a := 425) (l := 0) (h := 143) (by simp [fl_s]) (by omega) (by omega)])
  · rw [h]
    exact fl_sum_same 144 (fun c hc => by rw [fl_at e (a := 425) (l := 0) (h := 143) (by simp [fl_s]) (by omega) (by omega)])
  · intro j h1 h2
    rw [fl_at e (a := 406) (l := 0) (h := 893) (by simp [fl_s]) (by omega) (by omega), h j h1 h2]
    split
    · rw [fl_at e (a := 407) (l := 0) (h := 220) (by simp [fl_s]) (by omega) (by omega)]
    · rfl
  · intro j h1 h2
    rw [fl_at e (a := 406) (l := 0) (h := 893) (by simp [fl_s]) (by omega) (by omega), fl_at e (a := 432) (l := 0) (h := 893) (by simp [fl_s]) (by omega) (by omega)]
    exact h j h1 h2
  · intro j h1 h2
    rw [fl_at e (a := 406) (l := 0) (h := 893) (by simp [fl_s]) (by omega) (by omega), fl_at e (a := 432) (l := 1427) (h := 2320) (by simp [fl_s]) (by omega) (by omega)]
    exact h j h1 h2
  · rw [fl_at e (a := 407) (l := 2) (h := 2) (j := 2) (by simp [fl_s]) (by omega) (by omega)]
    intro h1 h2
    rw [fl_at e (a := 407) (l := 5) (h := 12) (by simp [fl_s]) (by omega) (by omega)]
    exact h h1 h2
  · rw [fl_at e (a := 404) (l := 3) (h := 4) (j := 4) (by simp [fl_s]) (by omega) (by omega), fl_at e (a := 404) (l := 3) (h := 4) (j := 3) (by simp [fl_s]) (by omega) (by omega)]
    refine ⟨fun h1 h2 => ?_, h.2⟩
    rw [oc _ (fl_at e (l := 0) (h := 939) (by simp [fl_s]) (by omega) (by omega))]
    exact h.1 h1 h2
  · intro j h1 h2
    rw [fl_at e (a := 407) (l := 0) (h := 220) (by simp [fl_s]) (by omega) (by omega)]
    exact h j h1 h2
  · intro j h1 h2
    rw [fl_at e (a := 406) (l := 803) (h := 893) (by simp [fl_s]) (by omega) (by omega), fl_at e (a := 408) (l := 0) (h := 90) (by simp [fl_s]) (by omega) (by omega)]
    exact h j h1 h2
  · rw [fl_at e (a := 404) (l := 38) (h := 38) (j := 38) (by simp [fl_s]) (by omega) (by omega)]
    exact h
  · intro i h1 h2
    rw [fl_at e (a := 408) (l := 1) (h := 90) (j := 1 + 3 * i) (by simp [fl_s]) (by omega) (by omega), fl_at e (a := 408) (l := 1) (h := 90) (j := 2 + 3 * i) (by simp [fl_s]) (by omega) (by omega), fl_at e (a := 406) (l := 0) (h := 0) (j := 0) (by simp [fl_s]) (by omega) (by omega)]
    exact h i h1 h2
  next q0 q1 q2 q3 q4 q5 q6 q8 q9 q10 q11 q12 q13 q14 q15 q16 q20 q21 q22 q23 q24 q25 =>
    have hs : fl_s f = if 100 ≤ f ∧ f ≤ 130 then [(408, 1, 3 * (f - 100)), (406, 0, 0)] else if 200 ≤ f ∧ f ≤ 215 then [(405, f - 200, f - 200)] else [] := by
      unfold fl_s
      split
      all_goals first | rfl | (exfalso; first | exact q0 rfl | exact q1 rfl | exact q2 rfl | exact q3 rfl | exact q4 rfl | exact q5 rfl | exact q6 rfl | exact q8 rfl | exact q9 rfl | exact q10 rfl | exact q11 rfl | exact q12 rfl | exact q13 rfl | exact q14 rfl | exact q15 rfl | exact q16 rfl | exact q20 rfl | exact q21 rfl | exact q22 rfl | exact q23 rfl | exact q24 rfl | exact q25 rfl)
    by_cases c1 : 100 ≤ f ∧ f ≤ 130
    · rw [if_pos c1] at h hs ⊢
      intro i hi h3
      have m1 : (408, 1, 3 * (f - 100)) ∈ fl_s f := by rw [hs]; exact List.mem_cons_self
      have m2 : (406, 0, 0) ∈ fl_s f := by rw [hs]; exact List.mem_cons_of_mem _ List.mem_cons_self
      rw [fl_at e m1 (by omega) (by omega)] at h3 ⊢
      rw [fl_at e m2 (by omega) (by omega)]
      exact h i hi h3
    · rw [if_neg c1] at h hs ⊢
      by_cases c2 : 200 ≤ f ∧ f ≤ 215
      · rw [if_pos c2] at h hs ⊢
        have m1 : (405, f - 200, f - 200) ∈ fl_s f := by rw [hs]; exact List.mem_cons_self
        rw [oc _ (fl_at e m1 (by omega) (by omega))]
        exact h
      · rw [if_neg c2] at h
        exact h.elim
