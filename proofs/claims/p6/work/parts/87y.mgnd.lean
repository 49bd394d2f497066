/-! ===== a GROUND read by the model: helpers ===== -/
set_option maxRecDepth 8000 in
theorem wi_inj2 {b : fB} {q r : Nat} : ∀ k : Nat, (∀ i, i < k → f_sm (b (q + i))) → (∀ i, i < k → f_sm (b (r + i))) → wiF b q k = wiF b r k → ∀ i, i < k → b (q + i) = b (r + i)
  | 0, _, _, _, i, hi => absurd hi (Nat.not_lt_zero i)
  | k + 1, h1, h2, h, i, hi => by
    have e : wiF b q k * 256 + (b (q + k)).toInt = wiF b r k * 256 + (b (r + k)).toInt := h
    have a1 := h1 k (by omega)
    have a2 := h2 k (by omega)
    by_cases g : i = k
    · rw [g]; exact i_eq (by omega)
    · exact wi_inj2 k (fun j hj => h1 j (by omega)) (fun j hj => h2 j (by omega)) (by omega) i (by omega)
set_option maxRecDepth 8000 in
theorem wi_eq2 {b : fB} {q r : Nat} : ∀ k : Nat, (∀ i, i < k → b (q + i) = b (r + i)) → wiF b q k = wiF b r k
  | 0, _ => rfl
  | k + 1, h => by
    show wiF b q k * 256 + (b (q + k)).toInt = wiF b r k * 256 + (b (r + k)).toInt
    rw [wi_eq2 k (fun i hi => h i (by omega)), h k (by omega)]
set_option maxRecDepth 8000 in
theorem wi_pos {b : fB} {q k : Nat} (h : ∀ i, i < k → f_sm (b (q + i))) (hk : 0 < k) : 0 < wiF b q k := by
  obtain ⟨l, rfl⟩ : ∃ l, k = l + 1 := ⟨k - 1, by omega⟩
  have r := wi_rng (b := b) (q := q) l h
  have p : (0 : Int) < 256 ^ l := Int.pow_pos (by decide)
  omega
set_option maxRecDepth 8000 in
theorem wi_len {b : fB} {q r k l : Nat} (h1 : ∀ i, i < k → f_sm (b (q + i))) (h2 : ∀ i, i < l → f_sm (b (r + i))) (hkl : k < l) : wiF b q k < wiF b r l := by
  obtain ⟨l', rfl⟩ : ∃ l', l = l' + 1 := ⟨l - 1, by omega⟩
  by_cases h0 : k = 0
  · rw [h0]; exact wi_pos h2 (by omega)
  obtain ⟨k', rfl⟩ : ∃ k', k = k' + 1 := ⟨k - 1, by omega⟩
  have r1 := wi_rng (b := b) (q := q) k' h1
  have r2 := wi_rng (b := b) (q := r) l' h2
  have := pw_lt (show k' < l' by omega)
  omega
set_option maxRecDepth 8000 in
/-- two names: told apart by their two numbers -/
theorem wi_two {b : fB} {q r k l : Nat} (h1 : ∀ i, i < k → f_sm (b (q + i))) (h2 : ∀ i, i < l → f_sm (b (r + i))) : wiF b q k = wiF b r l ↔ (k = l ∧ ∀ i, i < l → b (q + i) = b (r + i)) := by
  constructor
  · intro h
    have e : k = l := by
      rcases Nat.lt_trichotomy k l with g | g | g
      · have := wi_len h1 h2 g; omega
      · exact g
      · have := wi_len h2 h1 g; omega
    subst e
    exact ⟨rfl, wi_inj2 k h1 h2 h⟩
  · rintro ⟨rfl, h⟩
    exact wi_eq2 k h
set_option maxRecDepth 8000 in
theorem nm_two {b : fB} {q r k l : Nat} (h1 : ∀ i, i < k → f_sm (b (q + i))) (h2 : ∀ i, i < l → f_sm (b (r + i))) (hk : k ≤ 12) (hl : l ≤ 12) :
    (wdF b q (min k 8) = wdF b r (min l 8) ∧ wdF b (q + 8) (k - 8) = wdF b (r + 8) (l - 8)) ↔ (k = l ∧ ∀ i, i < l → b (q + i) = b (r + i)) := by
  have a1 := (wd_wi (b := b) (q := q) (min k 8) (by omega) (fun i hi => h1 i (by omega))).1
  have a2 := (wd_wi (b := b) (q := r) (min l 8) (by omega) (fun i hi => h2 i (by omega))).1
  have t1 : ∀ i, i < k - 8 → f_sm (b (q + 8 + i)) := fun i hi => by rw [show q + 8 + i = q + (8 + i) by omega]; exact h1 (8 + i) (by omega)
  have t2 : ∀ i, i < l - 8 → f_sm (b (r + 8 + i)) := fun i hi => by rw [show r + 8 + i = r + (8 + i) by omega]; exact h2 (8 + i) (by omega)
  have a3 := (wd_wi (b := b) (q := q + 8) (k - 8) (by omega) t1).1
  have a4 := (wd_wi (b := b) (q := r + 8) (l - 8) (by omega) t2).1
  have w1 := wi_two (b := b) (q := q) (r := r) (k := min k 8) (l := min l 8) (fun i hi => h1 i (by omega)) (fun i hi => h2 i (by omega))
  have w2 := wi_two (b := b) (q := q + 8) (r := r + 8) t1 t2
  constructor
  · rintro ⟨e1, e2⟩
    obtain ⟨m1, m2⟩ := w1.mp (by rw [← a1, ← a2, e1])
    obtain ⟨n1, n2⟩ := w2.mp (by rw [← a3, ← a4, e2])
    refine ⟨by omega, fun i hi => ?_⟩
    by_cases g : i < 8
    · exact m2 i (by omega)
    · have := n2 (i - 8) (by omega)
      rw [show q + 8 + (i - 8) = q + i by omega, show r + 8 + (i - 8) = r + i by omega] at this
      exact this
  · rintro ⟨rfl, e⟩
    refine ⟨Int64.toInt_inj.mp ?_, Int64.toInt_inj.mp ?_⟩
    · rw [a1, a2]; exact w1.mpr ⟨rfl, fun i hi => e i (by omega)⟩
    · rw [a3, a4]
      refine w2.mpr ⟨rfl, fun i hi => ?_⟩
      rw [show q + 8 + i = q + (8 + i) by omega, show r + 8 + i = r + (8 + i) by omega]
      exact e (8 + i) (by omega)
/-- the rows that a GROUND's reading leaves -/
def GMf (I0 : Nat → Nat → Int32) (J0 : Nat → Nat → Int64) (I : Nat → Nat → Int32) (J : Nat → Nat → Int64) : Prop :=
  (∀ a, a ≠ 404 → a ≠ 407 → I a = I0 a) ∧ (∀ j, mF j → j ≠ 22 → I 404 j = I0 404 j) ∧ (∀ a, a ≠ 404 → a ≠ 409 → J a = J0 a) ∧ ∀ j, j ≠ 17 → j ≠ 18 → J 404 j = J0 404 j
/-- the names of the kinds are words -/
def gLet (b : fB) (s : gS) : Prop := ∀ x, x ∈ s.1 → ∀ i, i < x.2.1 → f_sm (b (x.1 + i))
/-- the model's reader of a GROUND, going on -/
def GMp (I0 : Nat → Nat → Int32) (J0 : Nat → Nat → Int64) (I : Nat → Nat → Int32) (J : Nat → Nat → Int64) (s : gS) : Prop :=
  GMf I0 J0 I J ∧
  ((I 407 0).toInt = s.2.1 ∧ (I 407 1).toInt = s.2.2.1.length ∧ (I 407 2).toInt = s.1.length ∧ (I 407 3).toInt = s.2.2.2.1.length ∧ I 407 4 = s.2.2.2.2.getD 500) ∧
  ((I 404 22).toInt = (if s.2.2.2.2 = none then 0 else 1)) ∧
  (∀ i, i < s.1.length → I 407 (5 + i) = (atF (0, 0, 0, 0, 0) s.1 i).2.2.1 ∧ I 407 (13 + i) = (atF (0, 0, 0, 0, 0) s.1 i).2.2.2.1 ∧ I 407 (21 + i) = (atF (0, 0, 0, 0, 0) s.1 i).2.2.2.2) ∧
  (∀ i, i < s.1.length → J 409 (2 * i) = wdF (tbM I0) (atF (0, 0, 0, 0, 0) s.1 i).1 (min (atF (0, 0, 0, 0, 0) s.1 i).2.1 8) ∧ J 409 (2 * i + 1) = wdF (tbM I0) ((atF (0, 0, 0, 0, 0) s.1 i).1 + 8) ((atF (0, 0, 0, 0, 0) s.1 i).2.1 - 8)) ∧
  (∀ y, y < s.2.2.1.length → ∀ x, x < s.2.1 → (I 407 (29 + (y * s.2.1 + x))).toInt = (tbM I0 (atF 0 s.2.2.1 y + x)).toInt - 97) ∧
  (∀ i, i < s.2.2.2.1.length → I 407 (173 + 4 * i) = (atF (0, 0, 0, 0) s.2.2.2.1 i).1 ∧ I 407 (173 + 4 * i + 1) = (atF (0, 0, 0, 0) s.2.2.2.1 i).2.1 ∧ I 407 (173 + 4 * i + 2) = (atF (0, 0, 0, 0) s.2.2.2.1 i).2.2.1 ∧ I 407 (173 + 4 * i + 3) = (atF (0, 0, 0, 0) s.2.2.2.1 i).2.2.2)
set_option maxRecDepth 8000 in
theorem GM_tok {I0 I I1 : Nat → Nat → Int32} {J0 J J1 : Nat → Nat → Int64} {s : gS} (h : GMp I0 J0 I J s) (hA : ∀ a, a ≠ 404 → I1 a = I a) (hF : ∀ j, mF j → I1 404 j = I 404 j) (hJa : ∀ a, a ≠ 404 → J1 a = J a) (hJf : ∀ j, j ≠ 17 → j ≠ 18 → J1 404 j = J 404 j) : GMp I0 J0 I1 J1 s := by
  obtain ⟨⟨f1, f2, f3, f4⟩, h2, h3, h4, h5, h6, h7⟩ := h
  refine ⟨⟨fun a e1 e2 => (hA a e1).trans (f1 a e1 e2), fun j e1 e3 => (hF j e1).trans (f2 j e1 e3), fun a e1 e2 => (hJa a e1).trans (f3 a e1 e2), fun j e1 e2 => (hJf j e1 e2).trans (f4 j e1 e2)⟩, ?_, ?_, fun i hi => ?_, fun i hi => ?_, fun y hy x hx => ?_, fun i hi => ?_⟩
  · rw [hA 407 (by decide)]; exact h2
  · rw [hF 22 (by decide)]; exact h3
  · rw [hA 407 (by decide)]; exact h4 i hi
  · rw [hJa 409 (by decide)]; exact h5 i hi
  · rw [hA 407 (by decide)]; exact h6 y hy x hx
  · rw [hA 407 (by decide)]; exact h7 i hi
set_option maxRecDepth 8000 in
theorem gmV {I0 : Nat → Nat → Int32} {J0 : Nat → Nat → Int64} {s : gS} : MInv I0 (fun I J => GMp I0 J0 I J s) :=
  ⟨fun _ _ _ _ h hA hF hJa hJf => GM_tok h hA hF hJa hJf, fun _ _ h => ⟨h.1.2.1 3 (by decide) (by decide), h.1.2.1 5 (by decide) (by decide), h.1.1 405 (by decide) (by decide)⟩⟩
set_option maxRecDepth 8000 in
theorem gfV {I0 : Nat → Nat → Int32} {J0 : Nat → Nat → Int64} : MInv I0 (fun I J => GMf I0 J0 I J) :=
  ⟨fun _ _ _ _ h hA hF hJa hJf => ⟨fun a e1 e2 => (hA a e1).trans (h.1 a e1 e2), fun j e1 e3 => (hF j e1).trans (h.2.1 j e1 e3), fun a e1 e2 => (hJa a e1).trans (h.2.2.1 a e1 e2), fun j e1 e2 => (hJf j e1 e2).trans (h.2.2.2 j e1 e2)⟩, fun _ _ h => ⟨h.2.1 3 (by decide) (by decide), h.2.1 5 (by decide) (by decide), h.1 405 (by decide) (by decide)⟩⟩
set_option maxRecDepth 8000 in
/-- h[j] further on leaves what is told -/
theorem GM_h {I0 I : Nat → Nat → Int32} {J0 J : Nat → Nat → Int64} {s : gS} {j : Nat} {v : Int32} (h : GMp I0 J0 I J s) (hOK : s.1.length ≤ 8 ∧ s.2.2.1.length * s.2.1 ≤ 144)
    (hj : (∃ k, s.1.length ≤ k ∧ k < 8 ∧ (j = 5 + k ∨ j = 13 + k ∨ j = 21 + k)) ∨ (29 + s.2.2.1.length * s.2.1 ≤ j ∧ j < 173) ∨ 173 + 4 * s.2.2.2.1.length ≤ j) : GMp I0 J0 (dw_up I 407 j v) J s := by
  have hj' : (5 + s.1.length ≤ j ∧ j < 13) ∨ (13 + s.1.length ≤ j ∧ j < 21) ∨ (21 + s.1.length ≤ j ∧ j < 29) ∨ (29 + s.2.2.1.length * s.2.1 ≤ j ∧ j < 173) ∨ 173 + 4 * s.2.2.2.1.length ≤ j := by
    rcases hj with ⟨k, k1, k2, k3⟩ | h | h
    · omega
    · omega
    · omega
  clear hj
  obtain ⟨⟨f1, f2, f3, f4⟩, h2, h3, h4, h5, h6, h7⟩ := h
  have ef : ∀ i, i ≠ j → dw_up I 407 j v 407 i = I 407 i := fun i g => up_fld g
  have er : ∀ a, a ≠ 407 → dw_up I 407 j v a = I a := fun a g => up_row g
  generalize dw_up I 407 j v = I1 at ef er ⊢
  refine ⟨⟨fun a e1 e2 => (er a e2).trans (f1 a e1 e2), fun i e1 e3 => ?_, f3, f4⟩, ?_, ?_, fun i hi => ?_, h5, fun y hy x hx => ?_, fun i hi => ?_⟩
  · rw [er 404 (by decide)]; exact f2 i e1 e3
  · rw [ef 0 (by omega), ef 1 (by omega), ef 2 (by omega), ef 3 (by omega), ef 4 (by omega)]; exact h2
  · rw [er 404 (by decide)]; exact h3
  · rw [ef (5 + i) (by omega), ef (13 + i) (by omega), ef (21 + i) (by omega)]; exact h4 i hi
  · have q := idx_lt hy hx
    rw [ef _ (by omega)]; exact h6 y hy x hx
  · rw [ef _ (by omega), ef _ (by omega), ef _ (by omega), ef _ (by omega)]; exact h7 i hi
set_option maxRecDepth 8000 in
theorem td_iff {b : fB} {T : fT} : tdF b T ↔ ∃ i, i < 13 ∧ sayF b T (dw_sb (i + 1)) := by
  constructor
  · intro h
    unfold tdF at h
    rcases h with h | h | h | h | h | h | h | h | h | h | h | h | h
    · exact ⟨0, by decide, h⟩
    · exact ⟨1, by decide, h⟩
    · exact ⟨2, by decide, h⟩
    · exact ⟨3, by decide, h⟩
    · exact ⟨4, by decide, h⟩
    · exact ⟨5, by decide, h⟩
    · exact ⟨6, by decide, h⟩
    · exact ⟨7, by decide, h⟩
    · exact ⟨8, by decide, h⟩
    · exact ⟨9, by decide, h⟩
    · exact ⟨10, by decide, h⟩
    · exact ⟨11, by decide, h⟩
    · exact ⟨12, by decide, h⟩
  · rintro ⟨i, hi, h⟩
    unfold tdF
    match i, hi with
    | 0, _ => exact Or.inl h
    | 1, _ => exact Or.inr (Or.inl h)
    | 2, _ => exact Or.inr (Or.inr (Or.inl h))
    | 3, _ => exact Or.inr (Or.inr (Or.inr (Or.inl h)))
    | 4, _ => exact Or.inr (Or.inr (Or.inr (Or.inr (Or.inl h))))
    | 5, _ => exact Or.inr (Or.inr (Or.inr (Or.inr (Or.inr (Or.inl h)))))
    | 6, _ => exact Or.inr (Or.inr (Or.inr (Or.inr (Or.inr (Or.inr (Or.inl h))))))
    | 7, _ => exact Or.inr (Or.inr (Or.inr (Or.inr (Or.inr (Or.inr (Or.inr (Or.inl h)))))))
    | 8, _ => exact Or.inr (Or.inr (Or.inr (Or.inr (Or.inr (Or.inr (Or.inr (Or.inr (Or.inl h))))))))
    | 9, _ => exact Or.inr (Or.inr (Or.inr (Or.inr (Or.inr (Or.inr (Or.inr (Or.inr (Or.inr (Or.inl h)))))))))
    | 10, _ => exact Or.inr (Or.inr (Or.inr (Or.inr (Or.inr (Or.inr (Or.inr (Or.inr (Or.inr (Or.inr (Or.inl h))))))))))
    | 11, _ => exact Or.inr (Or.inr (Or.inr (Or.inr (Or.inr (Or.inr (Or.inr (Or.inr (Or.inr (Or.inr (Or.inr (Or.inl h)))))))))))
    | 12, _ => exact Or.inr (Or.inr (Or.inr (Or.inr (Or.inr (Or.inr (Or.inr (Or.inr (Or.inr (Or.inr (Or.inr (Or.inr h)))))))))))
    | k + 13, hi => exact absurd hi (by omega)
set_option maxRecDepth 8000 in
theorem rs_dec : (List.range 13).all (fun i => decide (1 ≤ (dw_sb (i + 1)).length) && decide ((dw_sb (i + 1)).length ≤ 7) && decide (i + 1 < dw_strs.length)) = true := by decide +kernel
set_option maxRecDepth 8000 in
theorem rs_ok {i : Nat} (h : i < 13) : 1 ≤ (dw_sb (i + 1)).length ∧ (dw_sb (i + 1)).length ≤ 7 ∧ i + 1 < dw_strs.length := by
  have h1 := List.all_eq_true.mp rs_dec i (List.mem_range.mpr h)
  rw [Bool.and_eq_true, Bool.and_eq_true, decide_eq_true_eq, decide_eq_true_eq, decide_eq_true_eq] at h1
  exact ⟨h1.1.1, h1.1.2, h1.2⟩
/-- the model's row of the words that are taken -/
def mRes (J : Nat → Nat → Int64) : Prop := ∀ i, i < 13 → wlF (dw_sb (i + 1)) (dw_sb (i + 1)).length = (J 410 i).toInt
set_option maxRecDepth 8000 in
theorem in_loop {n bc bs : Nat} {I : Nat → Nat → Int32} {J : Nat → Nat → Int64} {K : dw_K} {b : fB} {N m p : Nat} (hT : MK b (tkF b N m p) I J) (hp : p ≤ N) (hJ : mRes J)
    (hk : ∀ v : Int32, (v = 1 ∧ (tkF b N m p).1 = 1 ∧ ¬ tdF b (tkF b N m p)) ∨ (v = 0 ∧ ¬ ((tkF b N m p).1 = 1 ∧ ¬ tdF b (tkF b N m p))) → K (some (.int v)) (n, SH1, I, J)) :
    ∀ (f i : Nat) (x v : Int32), i + f = 13 → x.toInt = i → ((v = 1 ∧ (tkF b N m p).1 = 1 ∧ ∀ j, j < i → ¬ sayF b (tkF b N m p) (dw_sb (j + 1))) ∨ (v = 0 ∧ ¬ ((tkF b N m p).1 = 1 ∧ ∀ j, j < i → ¬ sayF b (tkF b N m p) (dw_sb (j + 1))))) → dw_ok (pr_X12_isName K) 16 bc bs [some (.ref 404), some (.int v), some (.int x)] [] (n, SH1, I, J) := by
  have c1 : (1 : Int32).toInt = 1 := rfl
  have c8 : (8 : Int32).toInt = 8 := rfl
  have c13 : (13 : Int32).toInt = 13 := rfl
  intro f
  induction f with
  | zero =>
    intro i x v hi hx hv
    refine q_ild rfl rfl ?_
    refine q_ic rfl ?_
    refine q_icmp (c := 3) rfl (by decide) (fun _ => ?_) (fun h => absurd (show x.toInt < (13 : Int32).toInt from h) (by omega))
    refine q_ild rfl rfl ?_
    have e13 : i = 13 := by omega
    subst e13
    rcases hv with ⟨rfl, h1, h2⟩ | ⟨rfl, h⟩
    · refine q_zret rfl (Or.inr rfl) (hk 1 (Or.inl ⟨rfl, h1, fun h => ?_⟩))
      obtain ⟨j, hj, g⟩ := td_iff.mp h
      exact h2 j hj g
    · exact q_zret rfl (Or.inl rfl) (hk 0 (Or.inr ⟨rfl, fun g => h ⟨g.1, fun j hj s => g.2 (td_iff.mpr ⟨j, hj, s⟩)⟩⟩))
  | succ f ih =>
    intro i x v hi hx hv
    have t2 : (x + 1).toInt = x.toInt + 1 := by rw [i_add (by omega) (by omega), c1]
    refine q_ild rfl rfl ?_
    refine q_ic rfl ?_
    refine q_icmp (c := 3) rfl (by decide) (fun h => absurd (show (13 : Int32).toInt ≤ x.toInt from h) (by omega)) (fun _ => ?_)
    refine q_ild rfl rfl ?_
    have no : ¬ ((tkF b N m p).1 = 1 ∧ ∀ j, j < i + 1 → ¬ sayF b (tkF b N m p) (dw_sb (j + 1))) → dw_ok (pr_X12_isName K) 53 bc bs [some (.ref 404), some (.int v), some (.int x)] [] (n, SH1, I, J) := by
      intro h
      refine q_ic rfl ?_
      refine q_ist rfl rfl ?_
      refine q_inc rfl rfl rfl ?_
      refine q_goto rfl ?_
      exact ih (i + 1) (x + 1) 0 (by omega) (by omega) (Or.inr ⟨rfl, h⟩)
    rcases hv with ⟨rfl, h1, h2⟩ | ⟨rfl, h⟩
    · refine q_if (c := 0) rfl (by decide) (fun h => absurd (show (1 : Int32).toInt = 0 from h) (by decide)) (fun _ => ?_)
      obtain ⟨l1, l7, ls⟩ := rs_ok (show i < 13 by omega)
      have hms := ms_iff (W := J 410 i) hT hp l1 l7 (sm_ok (show i + 1 < 26 by omega)) (hJ i (by omega))
      have hxn : x.toInt.toNat = i := by omega
      have h11 : (I 404 11).toInt = 1 := by rw [hT.1, h1]; rfl
      refine q_ald rfl rfl ?_
      refine q_getl rfl sk_404 ?_
      refine q_ald rfl rfl ?_
      refine q_getr rfl sk_404 sr_404_10 ?_
      refine q_ild rfl rfl ?_
      refine q_xaldl rfl sk_410 sn_410 (by omega) (show x.toInt < (13 : Nat) by omega) ?_
      show dw_ok (pr_X12_isName K) 36 bc bs [some (.ref 404), some (.int 1), some (.int x)] [.long (J 410 x.toInt.toNat), .long (J 404 17)] (n, SH1, I, J)
      rw [hxn]
      refine q_lcmp rfl ?_
      refine q_if (c := 1) rfl (by decide) (fun g => ?_) (fun g => ?_)
      · have g : (lg_cmp (J 404 17) (J 410 i)).toInt ≠ 0 := g
        refine q_ic rfl ?_
        refine q_goto rfl ?_
        refine q_ist rfl rfl ?_
        refine q_inc rfl rfl rfl ?_
        refine q_goto rfl ?_
        refine ih (i + 1) (x + 1) 1 (by omega) (by omega) (Or.inl ⟨rfl, h1, fun j hj s => ?_⟩)
        by_cases e : j = i
        · rw [e] at s
          exact g (cmp_e (hms.mpr s).2)
        · exact h2 j (by omega) s
      · have g : (lg_cmp (J 404 17) (J 410 i)).toInt = 0 := g
        have hs := hms.mp ⟨h11, cmp_0 g⟩
        have hsp := (hT.2.2.2.2.2 h1).1
        refine q_ald rfl rfl ?_
        refine q_geti rfl sk_404 ?_
        refine q_ic rfl ?_
        refine q_icmp (c := 5) rfl (by decide) (fun _ => ?_) (fun w => absurd (show (8 : Int32).toInt < (I 404 13).toInt from w) (by have := hs.2.1; omega))
        exact no (fun q => q.2 i (by omega) hs)
    · refine q_if (c := 0) rfl (by decide) (fun _ => ?_) (fun h => absurd rfl h)
      exact no (fun q => h ⟨q.1, fun j hj => q.2 j (by omega)⟩)
set_option maxRecDepth 8000 in
theorem v_isName {n : Nat} {I : Nat → Nat → Int32} {J : Nat → Nat → Int64} {K : dw_K} {b : fB} {N m p : Nat} (hT : MK b (tkF b N m p) I J) (hp : p ≤ N) (hJ : mRes J)
    (hk : ∀ v : Int32, (v = 1 ∧ (tkF b N m p).1 = 1 ∧ ¬ tdF b (tkF b N m p)) ∨ (v = 0 ∧ ¬ ((tkF b N m p).1 = 1 ∧ ¬ tdF b (tkF b N m p))) → K (some (.int v)) (n, SH1, I, J)) : t_X12_isName [.ref 404] (n, SH1, I, J) K := by
  refine q_body (Nat.le_of_ble_eq_true rfl) ?_
  refine q_ald rfl rfl ?_
  refine q_geti rfl sk_404 ?_
  refine q_ic rfl ?_
  refine q_icmp (c := 1) rfl (by decide) (fun g => ?_) (fun g => ?_)
  · have g : (I 404 11).toInt ≠ 1 := g
    refine q_ic rfl ?_
    refine q_ist rfl rfl ?_
    refine q_ic rfl ?_
    refine q_ist rfl rfl ?_
    exact in_loop hT hp hJ hk 13 0 0 0 rfl rfl (Or.inr ⟨rfl, fun h => by have := hT.1; omega⟩)
  · have g : (I 404 11).toInt = 1 := g
    refine q_ic rfl ?_
    refine q_goto rfl ?_
    refine q_ist rfl rfl ?_
    refine q_ic rfl ?_
    refine q_ist rfl rfl ?_
    exact in_loop hT hp hJ hk 13 0 0 1 rfl rfl (Or.inl ⟨rfl, by have := hT.1; omega, fun j hj => absurd hj (Nat.not_lt_zero j)⟩)
set_option maxRecDepth 8000 in
/-- the names told, one by one -/
theorem mm_loop {n bc bs : Nat} {I0 I : Nat → Nat → Int32} {J0 J : Nat → Nat → Int64} {K : dw_K} {s : gS} {T : fT} {N : Nat} {kv : Int32} (hR : GMp I0 J0 I J s) (hOK : gOK N s) (hLet : gLet (tbM I0) s) (hT : MK (tbM I0) T I J) (hT1 : T.1 = 1) (hT12 : T.2.2.1 ≤ T.2.1 + 12) (hTn : T.2.1 ≤ T.2.2.1) (hTl : ∀ i, i < T.2.2.1 - T.2.1 → f_sm (tbM I0 (T.2.1 + i))) (hkv : kv.toInt = s.1.length)
    (hyes : nmF (tbM I0) T s.1 → ∀ (I' : Nat → Nat → Int32) (J' : Nat → Nat → Int64), GMf I0 J0 I' J' → (I' 404 15).toInt = 3 → (I' 404 16).toInt = T.2.1 → K (some (.int 0)) (n, SH1, I', J'))
    (hno : ¬ nmF (tbM I0) T s.1 → ∀ x : Int32, dw_ok (pr_X12_readKind K) 104 bc bs [some (.ref 404), some (.int kv), some (.int x)] [] (n, SH1, I, J)) :
    ∀ (f i : Nat) (x : Int32), x.toInt = i → i ≤ s.1.length → s.1.length - i ≤ f → (∀ j, j < i → ¬ asF (tbM I0) T (atF (0, 0, 0, 0, 0) s.1 j).1 (atF (0, 0, 0, 0, 0) s.1 j).2.1) → dw_ok (pr_X12_readKind K) 53 bc bs [some (.ref 404), some (.int kv), some (.int x)] [] (n, SH1, I, J) := by
  have c1 : (1 : Int32).toInt = 1 := rfl
  have c2 : (2 : Int32).toInt = 2 := rfl
  have h8 := hOK.1
  intro f
  induction f with
  | zero =>
    intro i x hx hi hf hall
    refine q_ild rfl rfl ?_
    refine q_ild rfl rfl ?_
    refine q_icmp (c := 3) rfl (by decide) (fun _ => ?_) (fun h => absurd (show x.toInt < kv.toInt from h) (by omega))
    exact hno (fun h => by obtain ⟨j, hj, h⟩ := nm_iff.mp h; exact hall j (by omega) h) x
  | succ f ih =>
    intro i x hx hi hf hall
    refine q_ild rfl rfl ?_
    refine q_ild rfl rfl ?_
    refine q_icmp (c := 3) rfl (by decide) (fun g => ?_) (fun g => ?_)
    · have g : kv.toInt ≤ x.toInt := g
      exact hno (fun h => by obtain ⟨j, hj, h⟩ := nm_iff.mp h; exact hall j (by omega) h) x
    have g : x.toInt < kv.toInt := g
    have hil : i < s.1.length := by omega
    have t2 : (x + 1).toInt = x.toInt + 1 := by rw [i_add (by omega) (by omega), c1]
    have tm : (2 * x).toInt = 2 * i := i_mul (by rw [c2, hx]) (by omega) (by omega)
    have tm1 : (2 * x + 1).toInt = 2 * i + 1 := by rw [i_add (by omega) (by omega), tm, c1]
    have n1 : (2 * x).toInt.toNat = 2 * i := by omega
    have n2 : (2 * x + 1).toInt.toNat = 2 * i + 1 := by omega
    obtain ⟨w1, w2⟩ := hR.2.2.2.2.1 i hil
    obtain ⟨-, d1, d2⟩ := hT.2.2.2.2.2 hT1
    have hm := at_mem (d := (0, 0, 0, 0, 0)) hil
    have hme := hOK.2.2.2.2.1 _ hm
    have two := nm_two (b := tbM I0) hTl (hLet _ hm) (by omega) hme.2.1
    rw [← d1, ← d2, ← w1, ← w2] at two
    have as_iff : asF (tbM I0) T (atF (0, 0, 0, 0, 0) s.1 i).1 (atF (0, 0, 0, 0, 0) s.1 i).2.1 ↔ (J 404 17 = J 409 (2 * i) ∧ J 404 18 = J 409 (2 * i + 1)) := by
      rw [two]
      constructor
      · rintro ⟨-, e1, e2⟩; exact ⟨by omega, e2⟩
      · rintro ⟨e1, e2⟩; exact ⟨hT1, by omega, e2⟩
    have next : ¬ asF (tbM I0) T (atF (0, 0, 0, 0, 0) s.1 i).1 (atF (0, 0, 0, 0, 0) s.1 i).2.1 → dw_ok (pr_X12_readKind K) 98 bc bs [some (.ref 404), some (.int kv), some (.int x)] [] (n, SH1, I, J) := by
      intro y
      refine q_inc rfl rfl rfl ?_
      refine q_goto rfl ?_
      refine ih (i + 1) (x + 1) (by omega) (by omega) (by omega) (fun j hj => ?_)
      by_cases e : j = i
      · rw [e]; exact y
      · exact hall j (by omega)
    refine q_ald rfl rfl ?_
    refine q_getr rfl sk_404 sr_404_9 ?_
    refine q_ic rfl ?_
    refine q_ild rfl rfl ?_
    refine q_mul rfl ?_
    refine q_xaldl rfl sk_409 sn_409 (by omega) (show (2 * x).toInt < (16 : Nat) by omega) ?_
    refine q_ald rfl rfl ?_
    refine q_getl rfl sk_404 ?_
    show dw_ok (pr_X12_readKind K) 70 bc bs [some (.ref 404), some (.int kv), some (.int x)] [.long (J 404 17), .long (J 409 (2 * x).toInt.toNat)] (n, SH1, I, J)
    rw [n1]
    refine q_lcmp rfl ?_
    refine q_if (c := 1) rfl (by decide) (fun y => ?_) (fun y => ?_)
    · have y : (lg_cmp (J 409 (2 * i)) (J 404 17)).toInt ≠ 0 := y
      exact next (fun h => y (cmp_e (as_iff.mp h).1.symm))
    have y : (lg_cmp (J 409 (2 * i)) (J 404 17)).toInt = 0 := y
    refine q_ald rfl rfl ?_
    refine q_getr rfl sk_404 sr_404_9 ?_
    refine q_ic rfl ?_
    refine q_ild rfl rfl ?_
    refine q_mul rfl ?_
    refine q_ic rfl ?_
    refine q_add rfl ?_
    refine q_xaldl rfl sk_409 sn_409 (by omega) (show (2 * x + 1).toInt < (16 : Nat) by omega) ?_
    refine q_ald rfl rfl ?_
    refine q_getl rfl sk_404 ?_
    show dw_ok (pr_X12_readKind K) 88 bc bs [some (.ref 404), some (.int kv), some (.int x)] [.long (J 404 18), .long (J 409 (2 * x + 1).toInt.toNat)] (n, SH1, I, J)
    rw [n2]
    refine q_lcmp rfl ?_
    refine q_if (c := 1) rfl (by decide) (fun z => ?_) (fun z => ?_)
    · have z : (lg_cmp (J 409 (2 * i + 1)) (J 404 18)).toInt ≠ 0 := z
      exact next (fun h => z (cmp_e (as_iff.mp h).2.symm))
    have z : (lg_cmp (J 409 (2 * i + 1)) (J 404 18)).toInt = 0 := z
    refine q_ald rfl rfl ?_
    refine q_ic rfl ?_
    refine mb_step (c := 3) rfl rfl gfV hR.1 (fun I2 J2 hI2 g7 g8 => ?_)
    exact hyes (nm_iff.mpr ⟨i, hil, as_iff.mpr ⟨(cmp_0 y).symm, (cmp_0 z).symm⟩⟩) I2 J2 hI2 g7 (g8.trans hT.2.1)
set_option maxRecDepth 8000 in
theorem MK_eq {b : fB} {T : fT} {I I' : Nat → Nat → Int32} {J J' : Nat → Nat → Int64} (h : MK b T I J) (hI : I' 404 = I 404) (hJ : J' 404 = J 404) : MK b T I' J' := by
  unfold MK at h ⊢
  rw [hI, hJ]
  exact h
set_option maxRecDepth 8000 in
theorem GM_J {I0 I : Nat → Nat → Int32} {J0 J : Nat → Nat → Int64} {s : gS} {j : Nat} {v : Int64} (h : GMp I0 J0 I J s) (hj : 2 * s.1.length ≤ j) : GMp I0 J0 I (dw_up J 409 j v) s := by
  obtain ⟨⟨f1, f2, f3, f4⟩, h2, h3, h4, h5, h6, h7⟩ := h
  refine ⟨⟨f1, f2, fun a e1 e2 => (up_row e2).trans (f3 a e1 e2), fun i e1 e2 => ?_⟩, h2, h3, h4, fun i hi => ?_, h6, h7⟩
  · rw [up_row (by decide)]; exact f4 i e1 e2
  · rw [up_fld (show 2 * i ≠ j by omega), up_fld (show 2 * i + 1 ≠ j by omega)]; exact h5 i hi
/-- a kind being told to the model -/
def GKm (I0 : Nat → Nat → Int32) (J0 : Nat → Nat → Int64) (I : Nat → Nat → Int32) (J : Nat → Nat → Int64) (s : gS) (x : gK) (c : Nat) : Prop :=
  GMp I0 J0 I J s ∧ (J 409 (2 * s.1.length) = wdF (tbM I0) x.1 (min x.2.1 8) ∧ J 409 (2 * s.1.length + 1) = wdF (tbM I0) (x.1 + 8) (x.2.1 - 8)) ∧ (1 ≤ c → I 407 (5 + s.1.length) = x.2.2.1) ∧ (2 ≤ c → I 407 (13 + s.1.length) = x.2.2.2.1 ∧ I 407 (21 + s.1.length) = x.2.2.2.2)
set_option maxRecDepth 8000 in
theorem gkmV {I0 : Nat → Nat → Int32} {J0 : Nat → Nat → Int64} {s : gS} {x : gK} {c : Nat} : MInv I0 (fun I J => GKm I0 J0 I J s x c) := by
  refine ⟨fun I J I1 J1 h hA hF hJa hJf => ?_, fun I J h => gmV.2 I J h.1⟩
  obtain ⟨h1, h2, h3, h4⟩ := h
  refine ⟨GM_tok h1 hA hF hJa hJf, ?_, ?_, ?_⟩
  · rw [hJa 409 (by decide)]; exact h2
  · rw [hA 407 (by decide)]; exact h3
  · rw [hA 407 (by decide)]; exact h4
set_option maxRecDepth 8000 in
theorem GKm_done {I0 I : Nat → Nat → Int32} {J0 J : Nat → Nat → Int64} {s : gS} {x : gK} {v : Int32} (h : GKm I0 J0 I J s x 2) (hv : v.toInt = (s.1.length + 1 : Nat)) : GMp I0 J0 (dw_up I 407 2 v) J (x :: s.1, s.2) := by
  obtain ⟨⟨⟨f1, f2, f3, f4⟩, h2, h3, h4, h5, h6, h7⟩, g1, g2, g3⟩ := h
  have ef : ∀ i, i ≠ 2 → dw_up I 407 2 v 407 i = I 407 i := fun i g => up_fld g
  have er : ∀ a, a ≠ 407 → dw_up I 407 2 v a = I a := fun a g => up_row g
  have e2 : dw_up I 407 2 v 407 2 = v := up_same
  generalize dw_up I 407 2 v = I1 at ef er e2 ⊢
  refine ⟨⟨fun a e1 e2 => (er a e2).trans (f1 a e1 e2), fun i e1 e3 => ?_, f3, f4⟩, ?_, ?_, fun i hi => ?_, fun i hi => ?_, fun y hy x hx => ?_, fun i hi => ?_⟩
  · rw [er 404 (by decide)]; exact f2 i e1 e3
  · rw [ef 0 (by decide), ef 1 (by decide), e2, ef 3 (by decide), ef 4 (by decide)]
    exact ⟨h2.1, h2.2.1, hv, h2.2.2.2⟩
  · rw [er 404 (by decide)]; exact h3
  · have hi : i < s.1.length + 1 := hi
    rw [ef (5 + i) (by omega), ef (13 + i) (by omega), ef (21 + i) (by omega)]
    show I 407 (5 + i) = (atF (0, 0, 0, 0, 0) (x :: s.1) i).2.2.1 ∧ I 407 (13 + i) = (atF (0, 0, 0, 0, 0) (x :: s.1) i).2.2.2.1 ∧ I 407 (21 + i) = (atF (0, 0, 0, 0, 0) (x :: s.1) i).2.2.2.2
    by_cases e : i = s.1.length
    · rw [e, at_hd]; exact ⟨g2 (by decide), (g3 (by decide)).1, (g3 (by decide)).2⟩
    · rw [at_tl e]; exact h4 i (by omega)
  · have hi : i < s.1.length + 1 := hi
    show J 409 (2 * i) = wdF (tbM I0) (atF (0, 0, 0, 0, 0) (x :: s.1) i).1 (min (atF (0, 0, 0, 0, 0) (x :: s.1) i).2.1 8) ∧ J 409 (2 * i + 1) = wdF (tbM I0) ((atF (0, 0, 0, 0, 0) (x :: s.1) i).1 + 8) ((atF (0, 0, 0, 0, 0) (x :: s.1) i).2.1 - 8)
    by_cases e : i = s.1.length
    · rw [e, at_hd]; exact g1
    · rw [at_tl e]; exact h5 i (by omega)
  · rw [ef _ (by omega)]; exact h6 y hy x hx
  · rw [ef _ (by omega), ef _ (by omega), ef _ (by omega), ef _ (by omega)]; exact h7 i hi
set_option maxRecDepth 8000 in
theorem mRes_eq {J J0 : Nat → Nat → Int64} (h : mRes J0) (e : J 410 = J0 410) : mRes J := by
  unfold mRes
  rw [e]
  exact h
set_option maxRecDepth 8000 in
theorem GM_col {I0 I : Nat → Nat → Int32} {J0 J : Nat → Nat → Int64} {s : gS} {Ln : Nat} {lt : Int32} (h : GMp I0 J0 I J s) (hlt : lt.toInt = Ln) (hC : s.2.2.1.length = 0 ∨ Ln = s.2.1) : GMp I0 J0 (dw_up I 407 0 lt) J (s.1, Ln, s.2.2) := by
  obtain ⟨⟨f1, f2, f3, f4⟩, h2, h3, h4, h5, h6, h7⟩ := h
  have ef : ∀ i, i ≠ 0 → dw_up I 407 0 lt 407 i = I 407 i := fun i g => up_fld g
  have er : ∀ a, a ≠ 407 → dw_up I 407 0 lt a = I a := fun a g => up_row g
  have e0 : dw_up I 407 0 lt 407 0 = lt := up_same
  generalize dw_up I 407 0 lt = I1 at ef er e0 ⊢
  refine ⟨⟨fun a e1 e2 => (er a e2).trans (f1 a e1 e2), fun i e1 e3 => ?_, f3, f4⟩, ?_, ?_, fun i hi => ?_, h5, fun y hy x hx => ?_, fun i hi => ?_⟩
  · rw [er 404 (by decide)]; exact f2 i e1 e3
  · rw [e0, ef 1 (by decide), ef 2 (by decide), ef 3 (by decide), ef 4 (by decide)]
    exact ⟨hlt, h2.2⟩
  · rw [er 404 (by decide)]; exact h3
  · rw [ef (5 + i) (by omega), ef (13 + i) (by omega), ef (21 + i) (by omega)]; exact h4 i hi
  · have hy : y < s.2.2.1.length := hy
    have hx : x < Ln := hx
    rcases hC with g | g
    · omega
    · subst g
      rw [ef _ (by omega)]; exact h6 y hy x hx
  · rw [ef _ (by omega), ef _ (by omega), ef _ (by omega), ef _ (by omega)]; exact h7 i hi
set_option maxRecDepth 8000 in
theorem GM_row {I0 I : Nat → Nat → Int32} {J0 J : Nat → Nat → Int64} {s : gS} {q : Nat} {rv : Int32} (h : GMp I0 J0 I J s) (hrv : rv.toInt = (s.2.2.1.length + 1 : Nat))
    (hrow : ∀ x, x < s.2.1 → (I 407 (29 + (s.2.2.1.length * s.2.1 + x))).toInt = (tbM I0 (q + x)).toInt - 97) : GMp I0 J0 (dw_up I 407 1 rv) J (s.1, s.2.1, q :: s.2.2.1, s.2.2.2) := by
  obtain ⟨⟨f1, f2, f3, f4⟩, h2, h3, h4, h5, h6, h7⟩ := h
  have ef : ∀ i, i ≠ 1 → dw_up I 407 1 rv 407 i = I 407 i := fun i g => up_fld g
  have er : ∀ a, a ≠ 407 → dw_up I 407 1 rv a = I a := fun a g => up_row g
  have e1 : dw_up I 407 1 rv 407 1 = rv := up_same
  generalize dw_up I 407 1 rv = I1 at ef er e1 ⊢
  refine ⟨⟨fun a e1 e2 => (er a e2).trans (f1 a e1 e2), fun i e1 e3 => ?_, f3, f4⟩, ?_, ?_, fun i hi => ?_, h5, fun y hy x hx => ?_, fun i hi => ?_⟩
  · rw [er 404 (by decide)]; exact f2 i e1 e3
  · rw [e1, ef 0 (by decide), ef 2 (by decide), ef 3 (by decide), ef 4 (by decide)]
    exact ⟨h2.1, hrv, h2.2.2⟩
  · rw [er 404 (by decide)]; exact h3
  · rw [ef (5 + i) (by omega), ef (13 + i) (by omega), ef (21 + i) (by omega)]; exact h4 i hi
  · have hy : y < s.2.2.1.length + 1 := hy
    have hx : x < s.2.1 := hx
    rw [ef _ (by omega)]
    show (I 407 (29 + (y * s.2.1 + x))).toInt = (tbM I0 (atF 0 (q :: s.2.2.1) y + x)).toInt - 97
    by_cases e : y = s.2.2.1.length
    · rw [e, at_hd]; exact hrow x hx
    · rw [at_tl e]; exact h6 y (by omega) x hx
  · rw [ef _ (by omega), ef _ (by omega), ef _ (by omega), ef _ (by omega)]; exact h7 i hi
set_option maxRecDepth 8000 in
theorem GM_shade {I0 I : Nat → Nat → Int32} {J0 J : Nat → Nat → Int64} {s : gS} {v : Int32 × Int32 × Int32 × Int32} {x : Int32} (h : GMp I0 J0 I J s) (hx : x.toInt = (s.2.2.2.1.length + 1 : Nat))
    (g : I 407 (173 + 4 * s.2.2.2.1.length) = v.1 ∧ I 407 (173 + 4 * s.2.2.2.1.length + 1) = v.2.1 ∧ I 407 (173 + 4 * s.2.2.2.1.length + 2) = v.2.2.1 ∧ I 407 (173 + 4 * s.2.2.2.1.length + 3) = v.2.2.2) : GMp I0 J0 (dw_up I 407 3 x) J (s.1, s.2.1, s.2.2.1, v :: s.2.2.2.1, s.2.2.2.2) := by
  obtain ⟨⟨f1, f2, f3, f4⟩, h2, h3, h4, h5, h6, h7⟩ := h
  have ef : ∀ i, i ≠ 3 → dw_up I 407 3 x 407 i = I 407 i := fun i g => up_fld g
  have er : ∀ a, a ≠ 407 → dw_up I 407 3 x a = I a := fun a g => up_row g
  have e3 : dw_up I 407 3 x 407 3 = x := up_same
  generalize dw_up I 407 3 x = I1 at ef er e3 ⊢
  refine ⟨⟨fun a e1 e2 => (er a e2).trans (f1 a e1 e2), fun i e1 e3 => ?_, f3, f4⟩, ?_, ?_, fun i hi => ?_, h5, fun y hy x hx => ?_, fun i hi => ?_⟩
  · rw [er 404 (by decide)]; exact f2 i e1 e3
  · rw [e3, ef 0 (by decide), ef 1 (by decide), ef 2 (by decide), ef 4 (by decide)]
    exact ⟨h2.1, h2.2.1, h2.2.2.1, hx, h2.2.2.2.2⟩
  · rw [er 404 (by decide)]; exact h3
  · rw [ef (5 + i) (by omega), ef (13 + i) (by omega), ef (21 + i) (by omega)]; exact h4 i hi
  · rw [ef _ (by omega)]; exact h6 y hy x hx
  · have hi : i < s.2.2.2.1.length + 1 := hi
    rw [ef _ (by omega), ef _ (by omega), ef _ (by omega), ef _ (by omega)]
    show I 407 (173 + 4 * i) = (atF (0, 0, 0, 0) (v :: s.2.2.2.1) i).1 ∧ I 407 (173 + 4 * i + 1) = (atF (0, 0, 0, 0) (v :: s.2.2.2.1) i).2.1 ∧ I 407 (173 + 4 * i + 2) = (atF (0, 0, 0, 0) (v :: s.2.2.2.1) i).2.2.1 ∧ I 407 (173 + 4 * i + 3) = (atF (0, 0, 0, 0) (v :: s.2.2.2.1) i).2.2.2
    by_cases e : i = s.2.2.2.1.length
    · rw [e, at_hd]; exact g
    · rw [at_tl e]; exact h7 i (by omega)
set_option maxRecDepth 8000 in
theorem v_octet {n : Nat} {I : Nat → Nat → Int32} {J : Nat → Nat → Int64} {K : dw_K} {x : Int32} (h0 : 0 ≤ x.toInt) (h1 : x.toInt < 940) (hk : K (some (.int (I 405 x.toInt.toNat &&& 255))) (n, SH1, I, J)) : t_X12_octet [.ref 404, .int x] (n, SH1, I, J) K := by
  refine q_body (Nat.le_of_ble_eq_true rfl) ?_
  refine q_ald rfl rfl ?_
  refine q_getr rfl sk_404 sr_404_1 ?_
  refine q_ild rfl rfl ?_
  refine q_xald rfl (Or.inr (Or.inr rfl)) sk_405 sn_405 h0 (show x.toInt < (940 : Nat) by omega) ?_
  refine q_ic rfl ?_
  refine q_and rfl ?_
  exact q_iret rfl hk
set_option maxRecDepth 8000 in
/-- the letters asked of a row, one by one -/
theorem mr_loop {n bc bs : Nat} {I0 I : Nat → Nat → Int32} {J0 J : Nat → Nat → Int64} {K : dw_K} {s : gS} {N q Ln : Nat} {rv : Int32} {P : Prop} (hR : GMp I0 J0 I J s) (hK8 : s.1.length ≤ 8) (hN : (I0 404 3).toInt = N) (hN9 : N ≤ 940) (h12 : (I 404 12).toInt = q) (h13 : (I 404 13).toInt = Ln) (hq : q + Ln ≤ N)
    (hk : ∀ (v x : Int32), (v = 1 ∧ P ∧ lrF (tbM I0) q Ln s.1.length) ∨ (v = 0 ∧ ¬ (P ∧ lrF (tbM I0) q Ln s.1.length)) → dw_ok (pr_X12_readRow K) 108 bc bs [some (.ref 404), some (.int rv), some (.int v), some (.int x)] [] (n, SH1, I, J)) :
    ∀ (f i : Nat) (x v : Int32), i + f = Ln → x.toInt = i → ((v = 1 ∧ P ∧ ∀ j, j < i → (tbM I0 (q + j)).toInt < 97 + s.1.length) ∨ (v = 0 ∧ ¬ (P ∧ lrF (tbM I0) q Ln s.1.length))) → dw_ok (pr_X12_readRow K) 62 bc bs [some (.ref 404), some (.int rv), some (.int v), some (.int x)] [] (n, SH1, I, J) := by
  have c1 : (1 : Int32).toInt = 1 := rfl
  have c97 : (97 : Int32).toInt = 97 := rfl
  have hk2 : (I 407 2).toInt = s.1.length := hR.2.1.2.2.1
  have e3 : I 404 3 = I0 404 3 := hR.1.2.1 3 (by decide) (by decide)
  have e405 : I 405 = I0 405 := hR.1.1 405 (by decide) (by decide)
  intro f
  induction f with
  | zero =>
    intro i x v hi hx hv
    refine q_ild rfl rfl ?_
    refine q_ald rfl rfl ?_
    refine q_geti rfl sk_404 ?_
    refine q_icmp (c := 3) rfl (by decide) (fun _ => ?_) (fun h => absurd (show x.toInt < (I 404 13).toInt from h) (by omega))
    refine hk v x (hv.imp (fun h => ⟨h.1, h.2.1, fun j hj => h.2.2 j (by omega)⟩) id)
  | succ f ih =>
    intro i x v hi hx hv
    have t2 : (x + 1).toInt = x.toInt + 1 := by rw [i_add (by omega) (by omega), c1]
    refine q_ild rfl rfl ?_
    refine q_ald rfl rfl ?_
    refine q_geti rfl sk_404 ?_
    refine q_icmp (c := 3) rfl (by decide) (fun h => absurd (show (I 404 13).toInt ≤ x.toInt from h) (by omega)) (fun _ => ?_)
    refine q_ild rfl rfl ?_
    have no : ¬ (P ∧ lrF (tbM I0) q Ln s.1.length) → dw_ok (pr_X12_readRow K) 100 bc bs [some (.ref 404), some (.int rv), some (.int v), some (.int x)] [] (n, SH1, I, J) := by
      intro h
      refine q_ic rfl ?_
      refine q_ist rfl rfl ?_
      refine q_inc rfl rfl rfl ?_
      refine q_goto rfl ?_
      exact ih (i + 1) (x + 1) 0 (by omega) (by omega) (Or.inr ⟨rfl, h⟩)
    rcases hv with ⟨rfl, hP, hall⟩ | ⟨rfl, h⟩
    · refine q_if (c := 0) rfl (by decide) (fun h => absurd (show (1 : Int32).toInt = 0 from h) (by decide)) (fun _ => ?_)
      have t1 : (I 404 12 + x).toInt = (I 404 12).toInt + x.toInt := i_add (by omega) (by omega)
      have eb : I 405 (I 404 12 + x).toInt.toNat &&& 255 = tbM I0 (q + i) := by rw [tbM_in (by rw [hN]; omega), e405, show (I 404 12 + x).toInt.toNat = q + i by omega]
      have hr := tbM_rng (I := I0) (k := q + i)
      have t4 : (tbM I0 (q + i) - 97).toInt = (tbM I0 (q + i)).toInt - 97 := by rw [i_sub (by omega) (by omega), c97]
      refine q_ald rfl rfl ?_
      refine q_ald rfl rfl ?_
      refine q_geti rfl sk_404 ?_
      refine q_ild rfl rfl ?_
      refine q_add rfl ?_
      refine q_callV (as := [.int (I 404 12 + x)]) (rest := []) rfl rfl sk_404 rfl (Nat.le_of_ble_eq_true rfl) ?_
      refine v_octet (by omega) (by omega) ?_
      show dw_ok (pr_X12_readRow K) 84 bc bs [some (.ref 404), some (.int rv), some (.int 1), some (.int x)] [.int (I 405 (I 404 12 + x).toInt.toNat &&& 255)] (n, SH1, I, J)
      rw [eb]
      refine q_ic rfl ?_
      refine q_sub rfl ?_
      refine q_ald rfl rfl ?_
      refine q_getr rfl sk_404 sr_404_7 ?_
      refine q_ic rfl ?_
      refine q_xald rfl (Or.inl rfl) sk_407 sn_407 (by decide) (by decide) ?_
      refine q_icmp (c := 3) rfl (by decide) (fun w => ?_) (fun w => ?_)
      · have w : (I 407 2).toInt ≤ (tbM I0 (q + i) - 97).toInt := w
        exact no (fun h => by have := h.2 i (by omega); omega)
      · have w : (tbM I0 (q + i) - 97).toInt < (I 407 2).toInt := w
        refine q_ic rfl ?_
        refine q_goto rfl ?_
        refine q_ist rfl rfl ?_
        refine q_inc rfl rfl rfl ?_
        refine q_goto rfl ?_
        refine ih (i + 1) (x + 1) 1 (by omega) (by omega) (Or.inl ⟨rfl, hP, fun j hj => ?_⟩)
        by_cases e : j = i
        · rw [e]; omega
        · exact hall j (by omega)
    · refine q_if (c := 0) rfl (by decide) (fun _ => ?_) (fun h => absurd rfl h)
      exact no h
set_option maxRecDepth 8000 in
theorem GM_flag {I0 I : Nat → Nat → Int32} {J0 J : Nat → Nat → Int64} {s : gS} (h : GMp I0 J0 I J s) (hs : s.2.2.2.2 = none) : GMp I0 J0 (dw_up I 404 22 1) J (s.1, s.2.1, s.2.2.1, s.2.2.2.1, some 500) := by
  obtain ⟨⟨f1, f2, f3, f4⟩, h2, h3, h4, h5, h6, h7⟩ := h
  have er : ∀ a, a ≠ 404 → dw_up I 404 22 1 a = I a := fun a g => up_row g
  refine ⟨⟨fun a e1 e2 => (er a e1).trans (f1 a e1 e2), fun i e1 e3 => (up_fld e3).trans (f2 i e1 e3), f3, f4⟩, ?_, ?_, fun i hi => ?_, h5, fun y hy x hx => ?_, fun i hi => ?_⟩
  · rw [er 407 (by decide)]
    rw [hs] at h2
    exact h2
  · rw [up_same]; rfl
  · rw [er 407 (by decide)]; exact h4 i hi
  · rw [er 407 (by decide)]; exact h6 y hy x hx
  · rw [er 407 (by decide)]; exact h7 i hi
set_option maxRecDepth 8000 in
theorem GM_stock {I0 I : Nat → Nat → Int32} {J0 J : Nat → Nat → Int64} {s : gS} {w v : Int32} (h : GMp I0 J0 I J (s.1, s.2.1, s.2.2.1, s.2.2.2.1, some w)) : GMp I0 J0 (dw_up I 407 4 v) J (s.1, s.2.1, s.2.2.1, s.2.2.2.1, some v) := by
  obtain ⟨⟨f1, f2, f3, f4⟩, h2, h3, h4, h5, h6, h7⟩ := h
  have ef : ∀ i, i ≠ 4 → dw_up I 407 4 v 407 i = I 407 i := fun i g => up_fld g
  have er : ∀ a, a ≠ 407 → dw_up I 407 4 v a = I a := fun a g => up_row g
  have e4 : dw_up I 407 4 v 407 4 = v := up_same
  generalize dw_up I 407 4 v = I1 at ef er e4 ⊢
  refine ⟨⟨fun a e1 e2 => (er a e2).trans (f1 a e1 e2), fun i e1 e3 => ?_, f3, f4⟩, ?_, ?_, fun i hi => ?_, h5, fun y hy x hx => ?_, fun i hi => ?_⟩
  · rw [er 404 (by decide)]; exact f2 i e1 e3
  · rw [e4, ef 0 (by decide), ef 1 (by decide), ef 2 (by decide), ef 3 (by decide)]
    exact ⟨h2.1, h2.2.1, h2.2.2.1, h2.2.2.2.1, rfl⟩
  · rw [er 404 (by decide)]; exact h3
  · rw [ef (5 + i) (by omega), ef (13 + i) (by omega), ef (21 + i) (by omega)]; exact h4 i hi
  · rw [ef _ (by omega)]; exact h6 y hy x hx
  · rw [ef _ (by omega), ef _ (by omega), ef _ (by omega), ef _ (by omega)]; exact h7 i hi
set_option maxRecDepth 8000 in
theorem MK_22 {b : fB} {T : fT} {I : Nat → Nat → Int32} {J : Nat → Nat → Int64} {v : Int32} (h : MK b T I J) : MK b T (dw_up I 404 22 v) J := by
  unfold MK at h ⊢
  rw [up_fld (show 11 ≠ 22 by decide), up_fld (show 12 ≠ 22 by decide), up_fld (show 4 ≠ 22 by decide), up_fld (show 14 ≠ 22 by decide), up_fld (show 13 ≠ 22 by decide)]
  exact h
/-- a shade being told to the model -/
def GSm (I0 : Nat → Nat → Int32) (J0 : Nat → Nat → Int64) (I : Nat → Nat → Int32) (J : Nat → Nat → Int64) (s : gS) (v : Int32 × Int32 × Int32 × Int32) (c : Nat) : Prop :=
  GMp I0 J0 I J s ∧ (1 ≤ c → I 407 (173 + 4 * s.2.2.2.1.length) = v.1) ∧ (2 ≤ c → I 407 (173 + 4 * s.2.2.2.1.length + 1) = v.2.1) ∧ (3 ≤ c → I 407 (173 + 4 * s.2.2.2.1.length + 2) = v.2.2.1) ∧ (4 ≤ c → I 407 (173 + 4 * s.2.2.2.1.length + 3) = v.2.2.2)
set_option maxRecDepth 8000 in
theorem gsmV {I0 : Nat → Nat → Int32} {J0 : Nat → Nat → Int64} {s : gS} {v : Int32 × Int32 × Int32 × Int32} {c : Nat} : MInv I0 (fun I J => GSm I0 J0 I J s v c) := by
  refine ⟨fun I J I1 J1 h hA hF hJa hJf => ?_, fun I J h => gmV.2 I J h.1⟩
  obtain ⟨h1, h2⟩ := h
  refine ⟨GM_tok h1 hA hF hJa hJf, ?_⟩
  rw [hA 407 (by decide)]; exact h2
set_option maxRecDepth 8000 in
theorem GM_self {I0 I : Nat → Nat → Int32} {J0 J : Nat → Nat → Int64} {s : gS} (h : GMp I0 J0 I J s) : GMp I J I J s := by
  obtain ⟨e1, e2, e3⟩ := gmV.2 I J h
  have hb : tbM I = tbM I0 := tbM_eq e1 e3
  obtain ⟨f, h2, h3, h4, h5, h6, h7⟩ := h
  refine ⟨⟨fun _ _ _ => rfl, fun _ _ _ => rfl, fun _ _ _ => rfl, fun _ _ _ => rfl⟩, h2, h3, h4, ?_, ?_, h7⟩
  · rw [hb]; exact h5
  · rw [hb]; exact h6
set_option maxRecDepth 8000 in
theorem GM_20 {I : Nat → Nat → Int32} {J : Nat → Nat → Int64} {s : gS} {v : Int32} (h : GMp I J I J s) : GMp (dw_up I 404 20 v) J (dw_up I 404 20 v) J s := by
  have er : ∀ a, a ≠ 404 → dw_up I 404 20 v a = I a := fun a g => up_row g
  have e22 : dw_up I 404 20 v 404 22 = I 404 22 := up_fld (by decide)
  have hb : tbM (dw_up I 404 20 v) = tbM I := tbM_eq (up_fld (by decide)) (up_row (by decide))
  obtain ⟨f, h2, h3, h4, h5, h6, h7⟩ := h
  generalize dw_up I 404 20 v = I1 at er e22 hb ⊢
  refine ⟨⟨fun _ _ _ => rfl, fun _ _ _ => rfl, fun _ _ _ => rfl, fun _ _ _ => rfl⟩, ?_, ?_, ?_, ?_, ?_, ?_⟩
  · rw [er 407 (by decide)]; exact h2
  · rw [e22]; exact h3
  · rw [er 407 (by decide)]; exact h4
  · rw [hb]; exact h5
  · rw [hb, er 407 (by decide)]; exact h6
  · rw [er 407 (by decide)]; exact h7
set_option maxRecDepth 8000 in
theorem MK_20 {b : fB} {T : fT} {I : Nat → Nat → Int32} {J : Nat → Nat → Int64} {v : Int32} (h : MK b T I J) : MK b T (dw_up I 404 20 v) J := by
  unfold MK at h ⊢
  rw [up_fld (show 11 ≠ 20 by decide), up_fld (show 12 ≠ 20 by decide), up_fld (show 4 ≠ 20 by decide), up_fld (show 14 ≠ 20 by decide), up_fld (show 13 ≠ 20 by decide)]
  exact h
