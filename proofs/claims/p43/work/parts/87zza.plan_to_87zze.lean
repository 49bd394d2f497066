section
/-! ===== a PLAN's text, purely ===== -/
abbrev pL : Type := Nat × Int32 × Int32
abbrev pR : Type := Nat × Nat × Nat × pL
def p0 : pL := (0, 0, 0)
def wpF (b : fB) (T : fT) : Nat := if sayF b T (dw_sb 22) then 0 else if sayF b T (dw_sb 23) then 1 else if sayF b T (dw_sb 24) then 2 else if sayF b T (dw_sb 25) then 3 else 9
def wpI (k : Nat) : Int := if k = 9 then -1 else k
set_option maxRecDepth 8000 in
theorem wp_cases (b : fB) (T : fT) : wpF b T = 0 ∨ wpF b T = 1 ∨ wpF b T = 2 ∨ wpF b T = 3 ∨ wpF b T = 9 := by
  unfold wpF
  split
  · exact Or.inl rfl
  · split
    · exact Or.inr (Or.inl rfl)
    · split
      · exact Or.inr (Or.inr (Or.inl rfl))
      · split
        · exact Or.inr (Or.inr (Or.inr (Or.inl rfl)))
        · exact Or.inr (Or.inr (Or.inr (Or.inr rfl)))
set_option maxRecDepth 8000 in
theorem wp_1 {b : fB} {T : fT} (h : wpF b T ≠ 9) : T.1 = 1 := by
  by_cases g : T.1 = 1
  · exact g
  · exfalso
    apply h
    unfold wpF
    rw [if_neg (fun s => g s.1), if_neg (fun s => g s.1), if_neg (fun s => g s.1), if_neg (fun s => g s.1)]
def nbP (t : fT) (lo hi : Int) (k : Int32 → Nat → pR) : pR := if nbF t lo hi = 0 then k t.2.2.2 t.2.2.1 else (nbF t lo hi, t.2.1, 0, p0)
def stP (t : fT) (k : Nat → pR) : pR := if t.1 = 3 then k t.2.2.1 else (1, t.2.1, 0, p0)
/-- a LINE of a PLAN over C columns, R rows -/
def plF (b : fB) (N m ln : Nat) (C R : Int) (T : fT) : pR :=
  if wpF b T = 9 then (1, T.2.1, 0, p0)
  else if 30 ≤ ln then (4, T.2.1, 0, p0)
  else if wpF b T = 0 then nbP (tkF b N m T.2.2.1) 1 144 (fun v p => stP (tkF b N m p) (fun p => (0, 0, p, 0, v, 0)))
  else nbP (tkF b N m T.2.2.1) 0 (C - 1) (fun v1 p => nbP (tkF b N m p) 0 (R - 1) (fun v2 p => stP (tkF b N m p) (fun p => (0, 0, p, wpF b T, v1, v2))))
/-- a text: a fault's kind, its place, how many lines, the lines (the latest first) -/
def pgF (b : fB) (N m : Nat) (C R : Int) : Nat → Nat → Nat → List pL → Nat × Nat × Nat × List pL
  | 0, _, _, _ => (9, 0, 0, [])
  | f + 1, ln, p, L =>
    if (tkF b N m p).1 = 0 then (0, 0, ln, L)
    else if (plF b N m ln C R (tkF b N m p)).1 = 0 then pgF b N m C R f (ln + 1) (plF b N m ln C R (tkF b N m p)).2.2.1 ((plF b N m ln C R (tkF b N m p)).2.2.2 :: L)
    else ((plF b N m ln C R (tkF b N m p)).1, (plF b N m ln C R (tkF b N m p)).2.1, 0, [])
set_option maxRecDepth 8000 in
theorem pp_K {t : fT} {lo hi : Int} {k : Int32 → Nat → pR} {N : Nat} (ht : t.2.1 ≤ N) (hk : (k t.2.2.2 t.2.2.1).2.1 ≤ N) : (nbP t lo hi k).2.1 ≤ N := by
  unfold nbP
  by_cases g : nbF t lo hi = 0
  · rw [if_pos g]; exact hk
  · rw [if_neg g]; exact ht
set_option maxRecDepth 8000 in
theorem pp_S {t : fT} {k : Nat → pR} {N : Nat} (ht : t.2.1 ≤ N) (hk : (k t.2.2.1).2.1 ≤ N) : (stP t k).2.1 ≤ N := by
  unfold stP
  by_cases g : t.1 = 3
  · rw [if_pos g]; exact hk
  · rw [if_neg g]; exact ht
set_option maxRecDepth 8000 in
theorem px_K {t : fT} {lo hi : Int} {k : Int32 → Nat → pR} {N : Nat} (hk : (k t.2.2.2 t.2.2.1).2.2.1 ≤ N) : (nbP t lo hi k).2.2.1 ≤ N := by
  unfold nbP
  by_cases g : nbF t lo hi = 0
  · rw [if_pos g]; exact hk
  · rw [if_neg g]; exact Nat.zero_le _
set_option maxRecDepth 8000 in
theorem px_S {t : fT} {k : Nat → pR} {N : Nat} (hk : (k t.2.2.1).2.2.1 ≤ N) : (stP t k).2.2.1 ≤ N := by
  unfold stP
  by_cases g : t.1 = 3
  · rw [if_pos g]; exact hk
  · rw [if_neg g]; exact Nat.zero_le _
set_option maxRecDepth 8000 in
theorem pp_pl {b : fB} {N m ln : Nat} {C R : Int} {T : fT} (h1 : T.2.1 ≤ N) (h2 : T.2.2.1 ≤ N) : (plF b N m ln C R T).2.1 ≤ N ∧ (plF b N m ln C R T).2.2.1 ≤ N := by
  unfold plF
  by_cases g1 : wpF b T = 9
  · rw [if_pos g1]; exact ⟨h1, Nat.zero_le _⟩
  rw [if_neg g1]
  by_cases g2 : 30 ≤ ln
  · rw [if_pos g2]; exact ⟨h1, Nat.zero_le _⟩
  rw [if_neg g2]
  have a1 := tkF_in (b := b) (n := N) (m := m) (p := T.2.2.1) h2
  have a2 := tkF_in (b := b) (n := N) (m := m) (p := (tkF b N m T.2.2.1).2.2.1) a1.2.2.1
  have a3 := tkF_in (b := b) (n := N) (m := m) (p := (tkF b N m (tkF b N m T.2.2.1).2.2.1).2.2.1) a2.2.2.1
  by_cases g3 : wpF b T = 0
  · rw [if_pos g3]
    exact ⟨pp_K a1.1 (pp_S a2.1 (Nat.zero_le _)), px_K (px_S a2.2.2.1)⟩
  · rw [if_neg g3]
    exact ⟨pp_K a1.1 (pp_K a2.1 (pp_S a3.1 (Nat.zero_le _))), px_K (px_K (px_S a3.2.2.1))⟩
set_option maxRecDepth 8000 in
theorem pp_pg {b : fB} {N m : Nat} {C R : Int} : ∀ (f ln p : Nat) (L : List pL), p ≤ N → (pgF b N m C R f ln p L).2.1 ≤ N
  | 0, _, _, _, _ => Nat.zero_le _
  | f + 1, ln, p, L, hp => by
    have a := tkF_in (b := b) (n := N) (m := m) (p := p) hp
    have c := pp_pl (b := b) (m := m) (ln := ln) (C := C) (R := R) a.1 a.2.2.1
    unfold pgF
    by_cases g1 : (tkF b N m p).1 = 0
    · rw [if_pos g1]; exact Nat.zero_le _
    rw [if_neg g1]
    by_cases g2 : (plF b N m ln C R (tkF b N m p)).1 = 0
    · rw [if_pos g2]; exact pp_pg f _ _ _ c.2
    · rw [if_neg g2]; exact c.1
set_option maxRecDepth 8000 in
theorem pl_30 {b : fB} {N m ln : Nat} {C R : Int} {T : fT} (h : 30 ≤ ln) : (plF b N m ln C R T).1 ≠ 0 := by
  unfold plF
  by_cases g : wpF b T = 9
  · rw [if_pos g]; exact nn rfl
  · rw [if_neg g, if_pos h]; exact nn rfl
/-! ===== PLANS of the class ===== -/
/-- a PLAN lies at A -/
def PT (A : Nat) : Prop := (SH1 A).1 = 5 ∧ (SH1 A).2.2 1 = some (A + 1) ∧ (SH1 (A + 1)).1 = 20 ∧ (SH1 (A + 1)).2.1 = 30 ∧ ∀ i, i < 30 → (SH1 (A + 1)).2.2 i = some (A + 2 + i) ∧ (SH1 (A + 2 + i)).1 = 16 ∧ (SH1 (A + 2 + i)).2.1 = 3
def pt_list : List Nat := [11, 132, 218, 315]
set_option maxRecDepth 8000 in
theorem pt_dec : (pt_list.all (fun A => decide ((dx_ce A).k = 5) && decide (((dx_ce A).rf[1]?).join = some (A + 1)) && decide ((dx_ce (A + 1)).k = 20) && decide ((dx_ce (A + 1)).n = 30) && (List.range 30).all (fun w => decide (((dx_ce (A + 1)).rf[w]?).join = some (A + 2 + w)) && decide ((dx_ce (A + 2 + w)).k = 16) && decide ((dx_ce (A + 2 + w)).n = 3)))) = true := by decide +kernel
set_option maxRecDepth 8000 in
theorem pt_ok {A : Nat} (h : A ∈ pt_list) : PT A := by
  have h1 := List.all_eq_true.mp pt_dec A h
  simp only [Bool.and_eq_true, decide_eq_true_eq] at h1
  obtain ⟨⟨⟨⟨a1, a2⟩, a3⟩, a4⟩, a5⟩ := h1
  refine ⟨(shE A).1.trans a1, ((shE A).2.2 1).trans a2, (shE (A + 1)).1.trans a3, (shE (A + 1)).2.1.trans a4, fun w hw => ?_⟩
  have h2 := List.all_eq_true.mp a5 w (List.mem_range.mpr hw)
  simp only [Bool.and_eq_true, decide_eq_true_eq] at h2
  obtain ⟨⟨b1, b2⟩, b3⟩ := h2
  exact ⟨((shE (A + 1)).2.2 w).trans b1, (shE (A + 2 + w)).1.trans b2, (shE (A + 2 + w)).2.1.trans b3⟩
set_option maxRecDepth 8000 in
theorem v_pset {n : Nat} {I : Nat → Nat → Int32} {J : Nat → Nat → Int64} {K : dw_K} {A i w : Nat} {x y v : Int32} (hA : PT A) (hx : x.toInt = i) (hi : i < 30) (hy : y.toInt = w) (hw : w < 3) (hk : K none (n, SH1, dw_up I (A + 2 + i) w v, J)) : t_X5_set [.ref A, .int x, .int y, .int v] (n, SH1, I, J) K := by
  have c30 : (30 : Int32).toInt = 30 := rfl
  have c3 : (3 : Int32).toInt = 3 := rfl
  have hxn : x.toInt.toNat = i := by omega
  have hyn : y.toInt.toNat = w := by omega
  obtain ⟨b1, b2, b3⟩ := hA.2.2.2.2 i hi
  refine q_body (Nat.le_of_ble_eq_true rfl) ?_
  refine q_ild rfl rfl ?_
  refine q_if (c := 2) rfl (by decide) (fun h => absurd (show x.toInt < 0 from h) (by omega)) (fun _ => ?_)
  refine q_ild rfl rfl ?_
  refine q_ic rfl ?_
  refine q_icmp (c := 3) rfl (by decide) (fun h => absurd (show (30 : Int32).toInt ≤ x.toInt from h) (by omega)) (fun _ => ?_)
  refine q_ild rfl rfl ?_
  refine q_if (c := 2) rfl (by decide) (fun h => absurd (show y.toInt < 0 from h) (by omega)) (fun _ => ?_)
  refine q_ild rfl rfl ?_
  refine q_ic rfl ?_
  refine q_icmp (c := 3) rfl (by decide) (fun h => absurd (show (3 : Int32).toInt ≤ y.toInt from h) (by omega)) (fun _ => ?_)
  refine q_ald rfl rfl ?_
  refine q_getr rfl hA.1 hA.2.1 ?_
  refine q_ild rfl rfl ?_
  refine q_xaldr rfl hA.2.2.1 hA.2.2.2.1 (by omega) (show x.toInt < (30 : Nat) by omega) (show (SH1 (A + 1)).2.2 x.toInt.toNat = some (A + 2 + i) by rw [hxn]; exact b1) ?_
  refine q_ild rfl rfl ?_
  refine q_ild rfl rfl ?_
  refine q_iast rfl b2 b3 (by omega) (by omega) ?_
  rw [hyn]
  exact q_vret rfl hk
set_option maxRecDepth 8000 in
theorem v_ptell {n : Nat} {I : Nat → Nat → Int32} {J : Nat → Nat → Int64} {K : dw_K} {A i w : Nat} {x y : Int32} (hA : PT A) (hx : x.toInt = i) (hi : i < 30) (hy : y.toInt = w) (hw : w < 3) (hk : K (some (.int (I (A + 2 + i) w))) (n, SH1, I, J)) : t_X5_tell [.ref A, .int x, .int y] (n, SH1, I, J) K := by
  have c30 : (30 : Int32).toInt = 30 := rfl
  have c3 : (3 : Int32).toInt = 3 := rfl
  have hxn : x.toInt.toNat = i := by omega
  have hyn : y.toInt.toNat = w := by omega
  obtain ⟨b1, b2, b3⟩ := hA.2.2.2.2 i hi
  refine q_body (Nat.le_of_ble_eq_true rfl) ?_
  refine q_ild rfl rfl ?_
  refine q_if (c := 2) rfl (by decide) (fun h => absurd (show x.toInt < 0 from h) (by omega)) (fun _ => ?_)
  refine q_ild rfl rfl ?_
  refine q_ic rfl ?_
  refine q_icmp (c := 3) rfl (by decide) (fun h => absurd (show (30 : Int32).toInt ≤ x.toInt from h) (by omega)) (fun _ => ?_)
  refine q_ild rfl rfl ?_
  refine q_if (c := 2) rfl (by decide) (fun h => absurd (show y.toInt < 0 from h) (by omega)) (fun _ => ?_)
  refine q_ild rfl rfl ?_
  refine q_ic rfl ?_
  refine q_icmp (c := 3) rfl (by decide) (fun h => absurd (show (3 : Int32).toInt ≤ y.toInt from h) (by omega)) (fun _ => ?_)
  refine q_ald rfl rfl ?_
  refine q_getr rfl hA.1 hA.2.1 ?_
  refine q_ild rfl rfl ?_
  refine q_xaldr rfl hA.2.2.1 hA.2.2.2.1 (by omega) (show x.toInt < (30 : Nat) by omega) (show (SH1 (A + 1)).2.2 x.toInt.toNat = some (A + 2 + i) by rw [hxn]; exact b1) ?_
  refine q_ild rfl rfl ?_
  refine q_xald rfl (Or.inl rfl) b2 b3 (by omega) (by omega) ?_
  rw [hyn]
  refine q_goto rfl ?_
  exact q_iret rfl hk
set_option maxRecDepth 8000 in
theorem pc_loop {n : Nat} {J : Nat → Nat → Int64} {K : dw_K} {bc bs A B : Nat} {I0 : Nat → Nat → Int32} (hA : PT A) (hB : PT B) (hAB : A + 32 ≤ B ∨ B + 32 ≤ A)
    (hk : ∀ I' : Nat → Nat → Int32, (∀ a, (a < A + 2 ∨ A + 31 < a) → I' a = I0 a) → (∀ w, w < 30 → ∀ t, t < 3 → I' (A + 2 + w) t = I0 (B + 2 + w) t) → K none (n, SH1, I', J)) :
    ∀ (f w : Nat) (x : Int32) (I : Nat → Nat → Int32), w + f = 30 → x.toInt = w → (∀ a, (a < A + 2 ∨ A + 31 < a) → I a = I0 a) → (∀ v, v < w → ∀ t, t < 3 → I (A + 2 + v) t = I0 (B + 2 + v) t) → dw_ok (pr_X5_copyFrom K) 10 bc bs [some (.ref A), some (.ref B), some (.int x)] [] (n, SH1, I, J) := by
  have c30 : (30 : Int32).toInt = 30 := rfl
  have c1 : (1 : Int32).toInt = 1 := rfl
  intro f
  induction f with
  | zero =>
    intro w x I hw hx hr hv
    refine q_ild rfl rfl ?_
    refine q_ic rfl ?_
    refine q_icmp (c := 3) rfl (by decide) (fun _ => ?_) (fun h => absurd (show x.toInt < (30 : Int32).toInt from h) (by omega))
    exact q_vret rfl (hk I hr (fun v hv5 t ht => hv v (by omega) t ht))
  | succ f ih =>
    intro w x I hw hx hr hv
    have hxn : x.toInt.toNat = w := by omega
    obtain ⟨a1, a2, a3⟩ := hA.2.2.2.2 w (by omega)
    obtain ⟨b1, b2, b3⟩ := hB.2.2.2.2 w (by omega)
    refine q_ild rfl rfl ?_
    refine q_ic rfl ?_
    refine q_icmp (c := 3) rfl (by decide) (fun h => absurd (show (30 : Int32).toInt ≤ x.toInt from h) (by omega)) (fun _ => ?_)
    refine q_ald rfl rfl ?_
    refine q_getr rfl hB.1 hB.2.1 ?_
    refine q_ild rfl rfl ?_
    refine q_xaldr rfl hB.2.2.1 hB.2.2.2.1 (by omega) (show x.toInt < (30 : Nat) by omega) (show (SH1 (B + 1)).2.2 x.toInt.toNat = some (B + 2 + w) by rw [hxn]; exact b1) ?_
    refine q_ic rfl ?_
    refine q_ald rfl rfl ?_
    refine q_getr rfl hA.1 hA.2.1 ?_
    refine q_ild rfl rfl ?_
    refine q_xaldr rfl hA.2.2.1 hA.2.2.2.1 (by omega) (show x.toInt < (30 : Nat) by omega) (show (SH1 (A + 1)).2.2 x.toInt.toNat = some (A + 2 + w) by rw [hxn]; exact a1) ?_
    refine q_ic rfl ?_
    refine q_ic rfl ?_
    refine q_copy (n := 3) rfl b2 a2 b3 a3 rfl rfl (Nat.le_refl _) (Nat.le_refl _) ?_
    refine q_inc rfl rfl rfl ?_
    refine q_goto rfl ?_
    refine ih (w + 1) (x + 1) (dw_cp (n, SH1, I, J) (B + 2 + w) (A + 2 + w) 0 0 3).2.2.1 (by omega) (by rw [i_add (by omega) (by omega), c1]; omega) (fun a ha => ?_) (fun v hv5 t ht => ?_)
    · rw [← hr a ha]
      funext j
      show (if a = A + 2 + w then _ else I a j) = I a j
      rw [if_neg (by omega)]
    · show (if A + 2 + v = A + 2 + w then (if 0 ≤ t ∧ t < 0 + 3 then I (B + 2 + w) (0 + (t - 0)) else I (A + 2 + w) t) else I (A + 2 + v) t) = I0 (B + 2 + v) t
      by_cases e : v = w
      · subst e
        rw [if_pos rfl, if_pos (by omega), hr (B + 2 + v) (by omega), Nat.zero_add, Nat.sub_zero]
      · rw [if_neg (by omega)]
        exact hv v (by omega) t ht
set_option maxRecDepth 8000 in
theorem v_pcopy {n : Nat} {I : Nat → Nat → Int32} {J : Nat → Nat → Int64} {K : dw_K} {A B : Nat} (hA : PT A) (hB : PT B) (hAB : A + 32 ≤ B ∨ B + 32 ≤ A)
    (hk : ∀ I' : Nat → Nat → Int32, (∀ a, a ≠ A → (a < A + 2 ∨ A + 31 < a) → I' a = I a) → (∀ j, j ≠ 0 → I' A j = I A j) → I' A 0 = I B 0 → (∀ w, w < 30 → ∀ t, t < 3 → I' (A + 2 + w) t = I (B + 2 + w) t) → K none (n, SH1, I', J)) : t_X5_copyFrom [.ref A, .ref B] (n, SH1, I, J) K := by
  refine q_body (Nat.le_of_ble_eq_true rfl) ?_
  refine q_ald rfl rfl ?_
  refine q_ald rfl rfl ?_
  refine q_geti rfl hB.1 ?_
  refine q_puti rfl hA.1 ?_
  refine q_ic rfl ?_
  refine q_ist rfl rfl ?_
  refine pc_loop (I0 := dw_up I A 0 (I B 0)) hA hB hAB (fun I' hr hv => ?_) 30 0 0 (dw_up I A 0 (I B 0)) rfl rfl (fun _ _ => rfl) (fun v hv => absurd hv (Nat.not_lt_zero v))
  refine hk I' (fun a h1 h2 => ?_) (fun j hj => ?_) ?_ (fun w hw t ht => ?_)
  · rw [hr a h2]; exact up_row h1
  · rw [hr A (by omega)]; exact up_fld hj
  · rw [hr A (by omega)]; exact up_same
  · rw [hv w hw t ht, up_row (by omega)]
/-- the class's reader of a PLAN, going on -/
def PRp (I0 I : Nat → Nat → Int32) (L : List pL) : Prop :=
  (∀ a, a ≠ 1 → (a < 134 ∨ 163 < a) → I a = I0 a) ∧ (∀ j, j < 3 → I 1 j = I0 1 j) ∧
  ∀ i, i < L.length → (I (134 + i) 0).toInt = (atF p0 L i).1 ∧ I (134 + i) 1 = (atF p0 L i).2.1 ∧ ((atF p0 L i).1 ≠ 0 → I (134 + i) 2 = (atF p0 L i).2.2)
set_option maxRecDepth 8000 in
theorem PR_nil {I0 I : Nat → Nat → Int32} {L : List pL} (h : PRp I0 I L) : PRp I0 I [] := ⟨h.1, h.2.1, fun i hi => absurd hi (Nat.not_lt_zero i)⟩
set_option maxRecDepth 8000 in
theorem prT {I0 : Nat → Nat → Int32} {L : List pL} {q : Nat} (hL : L.length ≤ 30) (hq : q < 30) {P : (Nat → Int32) → Prop} : TapeInv I0 (fun I => PRp I0 I L ∧ P (I (134 + q))) := by
  refine ⟨fun I I1 h hA hF => ⟨⟨fun a h1 h2 => (hA a h1).trans (h.1.1 a h1 h2), fun j hj => (hF j hj).trans (h.1.2.1 j hj), fun i hi => ?_⟩, ?_⟩, fun I h => ⟨h.1.2.1 1 (by decide), h.1.2.1 2 (by decide), h.1.1 2 (by decide) (by decide)⟩⟩
  · rw [hA (134 + i) (by omega)]; exact h.1.2.2 i hi
  · rw [hA (134 + q) (by omega)]; exact h.2
set_option maxRecDepth 8000 in
theorem PR_up {I0 I : Nat → Nat → Int32} {L : List pL} {q w : Nat} {v : Int32} (h : PRp I0 I L) (h1 : L.length ≤ q) (h2 : q < 30) : PRp I0 (dw_up I (134 + q) w v) L := by
  refine ⟨fun a g1 g2 => (up_row (by omega)).trans (h.1 a g1 g2), fun j hj => ?_, fun i hi => ?_⟩
  · rw [up_row (by omega)]; exact h.2.1 j hj
  · rw [up_row (by omega)]; exact h.2.2 i hi
set_option maxRecDepth 8000 in
theorem PR_cons {I0 I : Nat → Nat → Int32} {L : List pL} {l : pL} {ln : Nat} (h : PRp I0 I L) (hL : L.length = ln) (h0 : (I (134 + ln) 0).toInt = l.1) (h1 : I (134 + ln) 1 = l.2.1) (h2 : l.1 ≠ 0 → I (134 + ln) 2 = l.2.2) : PRp I0 I (l :: L) := by
  refine ⟨h.1, h.2.1, fun i hi => ?_⟩
  have hl : (l :: L).length = L.length + 1 := rfl
  by_cases e : i = L.length
  · rw [e, at_hd, hL]; exact ⟨h0, h1, h2⟩
  · rw [at_tl e]; exact h.2.2 i (by omega)
set_option maxRecDepth 8000 in
theorem v_whatIsDone {n : Nat} {I : Nat → Nat → Int32} {J : Nat → Nat → Int64} {K : dw_K} {T : fT} {N : Nat} (hN : (I 1 1).toInt = N) (hN9 : N ≤ 940) (h3 : (I 1 3).toInt = T.2.2.1) (h4 : (I 1 4).toInt = T.2.1) (h5 : (I 1 5).toInt = T.1) (hTN : T.2.2.1 ≤ N) (hT2 : T.2.1 ≤ N) (hk : ∀ w : Int32, w.toInt = wpI (wpF (tbC I) T) → K (some (.int w)) (n, SH1, I, J)) : t_X6_whatIsDone [.ref 1] (n, SH1, I, J) K := by
  refine q_body (Nat.le_of_ble_eq_true rfl) ?_
  refine q_ald rfl rfl ?_
  refine q_str rfl ?_
  refine q_callV (as := [.ref 1000023]) (rest := []) rfl rfl sk_1 rfl (Nat.le_of_ble_eq_true rfl) ?_
  refine v_says (T := T) (w := dw_sb 22) hN hN9 ⟨by decide, by decide⟩ rfl (st_ok (by decide)).1 (st_ok (by decide)).2 h3 h4 h5 hTN hT2 (fun v vc => ?_)
  show dw_ok (pr_X6_whatIsDone K) 6 0 0 [some (.ref 1)] [.int v] (n, SH1, I, J)
  rcases vc with ⟨rfl, s22⟩ | ⟨rfl, s22⟩
  · skip
    refine q_if (c := 0) rfl (by decide) (fun h => absurd (show (1 : Int) = 0 from h) (by decide)) (fun y1 => ?_)
    have y1 : (1 : Int) ≠ 0 := y1
    refine q_ic rfl ?_
    exact q_iret rfl (hk _ (by unfold wpF; rw [if_pos s22]; rfl))
  · skip
    refine q_if (c := 0) rfl (by decide) (fun y2 => ?_) (fun h => absurd (show (0 : Int) ≠ 0 from h) (by decide))
    have y2 : (0 : Int) = 0 := y2
    refine q_ald rfl rfl ?_
    refine q_str rfl ?_
    refine q_callV (as := [.ref 1000024]) (rest := []) rfl rfl sk_1 rfl (Nat.le_of_ble_eq_true rfl) ?_
    refine v_says (T := T) (w := dw_sb 23) hN hN9 ⟨by decide, by decide⟩ rfl (st_ok (by decide)).1 (st_ok (by decide)).2 h3 h4 h5 hTN hT2 (fun v vc => ?_)
    show dw_ok (pr_X6_whatIsDone K) 17 0 0 [some (.ref 1)] [.int v] (n, SH1, I, J)
    rcases vc with ⟨rfl, s23⟩ | ⟨rfl, s23⟩
    · skip
      refine q_if (c := 0) rfl (by decide) (fun h => absurd (show (1 : Int) = 0 from h) (by decide)) (fun y3 => ?_)
      have y3 : (1 : Int) ≠ 0 := y3
      refine q_ic rfl ?_
      exact q_iret rfl (hk _ (by unfold wpF; rw [if_neg s22, if_pos s23]; rfl))
    · skip
      refine q_if (c := 0) rfl (by decide) (fun y4 => ?_) (fun h => absurd (show (0 : Int) ≠ 0 from h) (by decide))
      have y4 : (0 : Int) = 0 := y4
      refine q_ald rfl rfl ?_
      refine q_str rfl ?_
      refine q_callV (as := [.ref 1000025]) (rest := []) rfl rfl sk_1 rfl (Nat.le_of_ble_eq_true rfl) ?_
      refine v_says (T := T) (w := dw_sb 24) hN hN9 ⟨by decide, by decide⟩ rfl (st_ok (by decide)).1 (st_ok (by decide)).2 h3 h4 h5 hTN hT2 (fun v vc => ?_)
      show dw_ok (pr_X6_whatIsDone K) 28 0 0 [some (.ref 1)] [.int v] (n, SH1, I, J)
      rcases vc with ⟨rfl, s24⟩ | ⟨rfl, s24⟩
      · skip
        refine q_if (c := 0) rfl (by decide) (fun h => absurd (show (1 : Int) = 0 from h) (by decide)) (fun y5 => ?_)
        have y5 : (1 : Int) ≠ 0 := y5
        refine q_ic rfl ?_
        exact q_iret rfl (hk _ (by unfold wpF; rw [if_neg s22, if_neg s23, if_pos s24]; rfl))
      · skip
        refine q_if (c := 0) rfl (by decide) (fun y6 => ?_) (fun h => absurd (show (0 : Int) ≠ 0 from h) (by decide))
        have y6 : (0 : Int) = 0 := y6
        refine q_ald rfl rfl ?_
        refine q_str rfl ?_
        refine q_callV (as := [.ref 1000026]) (rest := []) rfl rfl sk_1 rfl (Nat.le_of_ble_eq_true rfl) ?_
        refine v_says (T := T) (w := dw_sb 25) hN hN9 ⟨by decide, by decide⟩ rfl (st_ok (by decide)).1 (st_ok (by decide)).2 h3 h4 h5 hTN hT2 (fun v vc => ?_)
        show dw_ok (pr_X6_whatIsDone K) 39 0 0 [some (.ref 1)] [.int v] (n, SH1, I, J)
        rcases vc with ⟨rfl, s25⟩ | ⟨rfl, s25⟩
        · skip
          refine q_if (c := 0) rfl (by decide) (fun h => absurd (show (1 : Int) = 0 from h) (by decide)) (fun y7 => ?_)
          have y7 : (1 : Int) ≠ 0 := y7
          refine q_ic rfl ?_
          refine q_goto rfl ?_
          exact q_iret rfl (hk _ (by unfold wpF; rw [if_neg s22, if_neg s23, if_neg s24, if_pos s25]; rfl))
        · skip
          refine q_if (c := 0) rfl (by decide) (fun y8 => ?_) (fun h => absurd (show (0 : Int) ≠ 0 from h) (by decide))
          have y8 : (0 : Int) = 0 := y8
          refine q_ic rfl ?_
          exact q_iret rfl (hk _ (by unfold wpF; rw [if_neg s22, if_neg s23, if_neg s24, if_neg s25]; rfl))
set_option maxRecDepth 8000 in
set_option maxHeartbeats 2000000 in
theorem v_pline0 {n : Nat} {I : Nat → Nat → Int32} {J : Nat → Nat → Int64} {K : dw_K} {I0 : Nat → Nat → Int32} {i : Int32} {L : List pL} {T : fT} {N m ln : Nat} {C R : Int} (hR : PRp I0 I L) (hL : L.length = ln) (hl30 : ln ≤ 30) (hN : (I0 1 1).toInt = N) (hN9 : N ≤ 940) (hm : (I0 1 2).toInt = m) (h3 : (I 1 3).toInt = T.2.2.1) (h4 : (I 1 4).toInt = T.2.1) (h5 : (I 1 5).toInt = T.1) (hTN : T.2.2.1 ≤ N) (hT2 : T.2.1 ≤ N) (hi : i.toInt = ln) (hC : (I0 4 0).toInt = C) (hC0 : 0 ≤ C) (hC9 : C ≤ 144) (hRr : (I0 4 1).toInt = R) (hR0 : 0 ≤ R) (hR9 : R ≤ 144) (hw : wpF (tbC I0) T = 0)
    (hok : (plF (tbC I0) N m ln C R T).1 = 0 → ∀ I' : Nat → Nat → Int32, PRp I0 I' ((plF (tbC I0) N m ln C R T).2.2.2 :: L) → (I' 1 3).toInt = (plF (tbC I0) N m ln C R T).2.2.1 → (plF (tbC I0) N m ln C R T).2.2.1 ≤ N → K (some (.int 1)) (n, SH1, I', J))
    (hno : (plF (tbC I0) N m ln C R T).1 ≠ 0 → ∀ I' : Nat → Nat → Int32, PRp I0 I' [] → (I' 1 7).toInt = (plF (tbC I0) N m ln C R T).1 → (I' 1 8).toInt = (plF (tbC I0) N m ln C R T).2.1 → K (some (.int 0)) (n, SH1, I', J)) : dw_ok (pr_X6_readLine K) 18 0 0 [some (.ref 131), some (.ref 1), some (.ref 4), some (.int i), some (.int 0)] [] (n, SH1, I, J) := by
  have c30 : (30 : Int32).toInt = 30 := rfl
  have c1 : (1 : Int32).toInt = 1 := rfl
  have hw9 : ¬ (0 = 9) := by decide
  refine q_ild rfl rfl ?_
  refine q_ic rfl ?_
  refine q_icmp (c := 2) rfl (by decide) (fun h => ?_) (fun h => ?_)
  rotate_left
  · have h : (30 : Int32).toInt ≤ i.toInt := h
    have hg : 30 ≤ ln := by omega
    have eR : (plF (tbC I0) N m ln C R T) = (4, T.2.1, 0, p0) := by simp only [plF, hw, hg, hw9, ↓reduceIte]
    refine q_ald rfl rfl ?_
    refine q_ic rfl ?_
    refine fl_step (c := 4) rfl rfl (prT (L := L) (q := 0) (by omega) (by decide) (P := fun _ => True)) ⟨hR, trivial⟩ (fun I1 hI1 g7 g8 => ?_)
    rw [eR] at hno
    exact hno (nn rfl) I1 (PR_nil hI1.1) g7 (g8.trans h4)
  have h : i.toInt < (30 : Int32).toInt := h
  have hg : ¬ (30 ≤ ln) := by omega
  have hln : ln < 30 := by omega
  have pt : PT 132 := pt_ok (by decide)
  refine q_ald rfl rfl ?_
  refine q_getr rfl sk_131 sr_131_0 ?_
  refine q_ild rfl rfl ?_
  refine q_ic rfl ?_
  refine q_ild rfl rfl ?_
  refine q_callV (as := [.int i, .int 0, .int 0]) (rest := []) rfl rfl sk_132 rfl (Nat.le_of_ble_eq_true rfl) ?_
  refine v_pset (i := ln) (w := 0) pt hi hln rfl (by decide) ?_
  show dw_ok (pr_X6_readLine K) 41 0 0 [some (.ref 131), some (.ref 1), some (.ref 4), some (.int i), some (.int 0)] [] (n, SH1, dw_up I (134 + ln) 0 0, J)
  obtain ⟨I1, hI1⟩ : ∃ X, X = dw_up I (134 + ln) 0 0 := ⟨_, rfl⟩
  rw [← hI1]
  have hR1 : PRp I0 I1 L := by rw [hI1]; exact PR_up hR (by omega) hln
  have d1 : I1 (134 + ln) 0 = 0 := by rw [hI1]; exact up_same
  have l1 : (I1 1 3).toInt = T.2.2.1 := by rw [hI1, up_row (by omega)]; exact h3
  refine q_ild rfl rfl ?_
  refine q_if (c := 1) rfl (by decide) (fun h => absurd rfl h) (fun _ => ?_)
  refine q_ald rfl rfl ?_
  refine q_ic rfl ?_
  refine q_ic rfl ?_
  obtain ⟨T1, hT1⟩ : ∃ t, t = tkF (tbC I0) N m T.2.2.1 := ⟨_, rfl⟩
  have hin1 := tkF_in (b := tbC I0) (n := N) (m := m) (p := T.2.2.1) hTN
  skip
  refine tn_step (p := T.2.2.1) rfl rfl rfl rfl (prT (q := ln) (by omega) hln (P := fun r => r 0 = 0)) ⟨hR1, d1⟩ hN hN9 hm l1 hTN ?_ ?_
  rotate_left
  · intro e1 I9 hI9 g7 g8
    rw [← hT1] at e1 g7
    rw [← hT1] at g8
    have e1 : nbF T1 1 144 ≠ 0 := e1
    have eR : (plF (tbC I0) N m ln C R T) = (nbF T1 1 144, T1.2.1, 0, p0) := by simp only [plF, nbP, stP, hw, hw9, hg, ← hT1, e1, ↓reduceIte]
    rw [eR] at hno
    exact hno e1 I9 (PR_nil hI9.1) g7 g8
  intro e1 J1q hJ1 g13 g16
  rw [← hT1] at e1
  rw [← hT1] at g13 g16 hin1
  have e1 : nbF T1 1 144 = 0 := e1
  obtain ⟨hR2, d2⟩ := hJ1
  refine q_ald rfl rfl ?_
  refine q_getr rfl sk_131 sr_131_0 ?_
  refine q_ild rfl rfl ?_
  refine q_ic rfl ?_
  refine q_ald rfl rfl ?_
  refine q_geti rfl sk_1 ?_
  show dw_ok (pr_X6_readLine K) 69 0 0 [some (.ref 131), some (.ref 1), some (.ref 4), some (.int i), some (.int 0)] [.int (J1q 1 6), .int 1, .int i, .ref 132] (n, SH1, J1q, J)
  rw [g16]
  refine q_callV (as := [.int i, .int 1, .int T1.2.2.2]) (rest := []) rfl rfl sk_132 rfl (Nat.le_of_ble_eq_true rfl) ?_
  refine v_pset (i := ln) (w := 1) pt hi hln rfl (by decide) ?_
  show dw_ok (pr_X6_readLine K) 72 0 0 [some (.ref 131), some (.ref 1), some (.ref 4), some (.int i), some (.int 0)] [] (n, SH1, dw_up J1q (134 + ln) 1 T1.2.2.2, J)
  obtain ⟨I3, hI3⟩ : ∃ X, X = dw_up J1q (134 + ln) 1 T1.2.2.2 := ⟨_, rfl⟩
  rw [← hI3]
  have RI3 : PRp I0 I3 L := by rw [hI3]; exact PR_up hR2 (by omega) hln
  have lI3 : (I3 1 3).toInt = T1.2.2.1 := by rw [hI3, up_row (by omega)]; exact g13
  have d3 : I3 (134 + ln) 0 = 0 ∧ I3 (134 + ln) 1 = T1.2.2.2 := by
    rw [hI3]
    exact ⟨(up_fld (by decide)).trans d2, up_same⟩
  obtain ⟨T2, hT2⟩ : ∃ t, t = tkF (tbC I0) N m T1.2.2.1 := ⟨_, rfl⟩
  have hin2 := tkF_in (b := tbC I0) (n := N) (m := m) (p := T1.2.2.1) hin1.2.2.1
  refine q_ald rfl rfl ?_
  refine ts_step (p := T1.2.2.1) rfl rfl (prT (q := ln) (by omega) hln (P := fun r => r 0 = 0 ∧ r 1 = T1.2.2.2)) ⟨RI3, d3⟩ hN hN9 hm lI3 hin1.2.2.1 ?_ ?_
  rotate_left
  · intro es I9 hI9 g7 g8
    rw [← hT2] at es g8
    have eR : (plF (tbC I0) N m ln C R T) = (1, T2.2.1, 0, p0) := by simp only [plF, nbP, stP, hw, hw9, hg, ← hT1, e1, ← hT2, es, ↓reduceIte]
    rw [eR] at hno
    exact hno (nn rfl) I9 (PR_nil hI9.1) g7 g8
  intro es I9 hI9 g3
  rw [← hT2] at es g3 hin2
  have eR : (plF (tbC I0) N m ln C R T) = (0, 0, T2.2.2.1, (0, T1.2.2.2, 0)) := by simp only [plF, nbP, stP, hw, hw9, hg, ← hT1, e1, ← hT2, es, ↓reduceIte]
  rw [eR] at hok
  obtain ⟨hR9, hd9⟩ := hI9
  have hd9 : I9 (134 + ln) 0 = 0 ∧ I9 (134 + ln) 1 = T1.2.2.2 := hd9
  exact hok rfl I9 (PR_cons hR9 hL (by rw [hd9.1]; rfl) hd9.2 (fun h => absurd rfl h)) g3 hin2.2.2.1
set_option maxRecDepth 8000 in
set_option maxHeartbeats 2000000 in
theorem v_pline1 {n : Nat} {I : Nat → Nat → Int32} {J : Nat → Nat → Int64} {K : dw_K} {I0 : Nat → Nat → Int32} {i : Int32} {L : List pL} {T : fT} {N m ln : Nat} {C R : Int} (hR : PRp I0 I L) (hL : L.length = ln) (hl30 : ln ≤ 30) (hN : (I0 1 1).toInt = N) (hN9 : N ≤ 940) (hm : (I0 1 2).toInt = m) (h3 : (I 1 3).toInt = T.2.2.1) (h4 : (I 1 4).toInt = T.2.1) (h5 : (I 1 5).toInt = T.1) (hTN : T.2.2.1 ≤ N) (hT2 : T.2.1 ≤ N) (hi : i.toInt = ln) (hC : (I0 4 0).toInt = C) (hC0 : 0 ≤ C) (hC9 : C ≤ 144) (hRr : (I0 4 1).toInt = R) (hR0 : 0 ≤ R) (hR9 : R ≤ 144) (hw : wpF (tbC I0) T = 1)
    (hok : (plF (tbC I0) N m ln C R T).1 = 0 → ∀ I' : Nat → Nat → Int32, PRp I0 I' ((plF (tbC I0) N m ln C R T).2.2.2 :: L) → (I' 1 3).toInt = (plF (tbC I0) N m ln C R T).2.2.1 → (plF (tbC I0) N m ln C R T).2.2.1 ≤ N → K (some (.int 1)) (n, SH1, I', J))
    (hno : (plF (tbC I0) N m ln C R T).1 ≠ 0 → ∀ I' : Nat → Nat → Int32, PRp I0 I' [] → (I' 1 7).toInt = (plF (tbC I0) N m ln C R T).1 → (I' 1 8).toInt = (plF (tbC I0) N m ln C R T).2.1 → K (some (.int 0)) (n, SH1, I', J)) : dw_ok (pr_X6_readLine K) 18 0 0 [some (.ref 131), some (.ref 1), some (.ref 4), some (.int i), some (.int 1)] [] (n, SH1, I, J) := by
  have c30 : (30 : Int32).toInt = 30 := rfl
  have c1 : (1 : Int32).toInt = 1 := rfl
  have hw9 : ¬ (1 = 9) := by decide
  have hk0 : ¬ (1 = 0) := by decide
  refine q_ild rfl rfl ?_
  refine q_ic rfl ?_
  refine q_icmp (c := 2) rfl (by decide) (fun h => ?_) (fun h => ?_)
  rotate_left
  · have h : (30 : Int32).toInt ≤ i.toInt := h
    have hg : 30 ≤ ln := by omega
    have eR : (plF (tbC I0) N m ln C R T) = (4, T.2.1, 0, p0) := by simp only [plF, hw, hg, hw9, ↓reduceIte]
    refine q_ald rfl rfl ?_
    refine q_ic rfl ?_
    refine fl_step (c := 4) rfl rfl (prT (L := L) (q := 0) (by omega) (by decide) (P := fun _ => True)) ⟨hR, trivial⟩ (fun I1 hI1 g7 g8 => ?_)
    rw [eR] at hno
    exact hno (nn rfl) I1 (PR_nil hI1.1) g7 (g8.trans h4)
  have h : i.toInt < (30 : Int32).toInt := h
  have hg : ¬ (30 ≤ ln) := by omega
  have hln : ln < 30 := by omega
  have pt : PT 132 := pt_ok (by decide)
  refine q_ald rfl rfl ?_
  refine q_getr rfl sk_131 sr_131_0 ?_
  refine q_ild rfl rfl ?_
  refine q_ic rfl ?_
  refine q_ild rfl rfl ?_
  refine q_callV (as := [.int i, .int 0, .int 1]) (rest := []) rfl rfl sk_132 rfl (Nat.le_of_ble_eq_true rfl) ?_
  refine v_pset (i := ln) (w := 0) pt hi hln rfl (by decide) ?_
  show dw_ok (pr_X6_readLine K) 41 0 0 [some (.ref 131), some (.ref 1), some (.ref 4), some (.int i), some (.int 1)] [] (n, SH1, dw_up I (134 + ln) 0 1, J)
  obtain ⟨I1, hI1⟩ : ∃ X, X = dw_up I (134 + ln) 0 1 := ⟨_, rfl⟩
  rw [← hI1]
  have hR1 : PRp I0 I1 L := by rw [hI1]; exact PR_up hR (by omega) hln
  have d1 : I1 (134 + ln) 0 = 1 := by rw [hI1]; exact up_same
  have l1 : (I1 1 3).toInt = T.2.2.1 := by rw [hI1, up_row (by omega)]; exact h3
  refine q_ild rfl rfl ?_
  refine q_if (c := 1) rfl (by decide) (fun _ => ?_) (fun h => absurd (show (1 : Int32).toInt = 0 from h) (by decide))
  refine q_ald rfl rfl ?_
  refine q_ic rfl ?_
  refine q_ald rfl rfl ?_
  refine q_geti rfl sk_4 ?_
  refine q_ic rfl ?_
  refine q_sub rfl ?_
  show dw_ok (pr_X6_readLine K) 85 0 0 [some (.ref 131), some (.ref 1), some (.ref 4), some (.int i), some (.int 1)] [.int (I1 4 0 - 1), .int 0, .ref 1] (n, SH1, I1, J)
  have eh1 : (I1 4 0 - 1).toInt = C - 1 := by
    rw [hR1.1 4 (by decide) (by decide), i_sub (by omega) (by omega), hC, c1]
  obtain ⟨T1, hT1⟩ : ∃ t, t = tkF (tbC I0) N m T.2.2.1 := ⟨_, rfl⟩
  have hin1 := tkF_in (b := tbC I0) (n := N) (m := m) (p := T.2.2.1) hTN
  skip
  refine tn_step (p := T.2.2.1) rfl rfl rfl rfl (prT (q := ln) (by omega) hln (P := fun r => r 0 = 1)) ⟨hR1, d1⟩ hN hN9 hm l1 hTN ?_ ?_
  rotate_left
  · intro e1 I9 hI9 g7 g8
    rw [← hT1, eh1] at e1 g7
    rw [← hT1] at g8
    have e1 : nbF T1 0 (C - 1) ≠ 0 := e1
    have eR : (plF (tbC I0) N m ln C R T) = (nbF T1 0 (C - 1), T1.2.1, 0, p0) := by simp only [plF, nbP, stP, hw, hw9, hg, hk0, ← hT1, e1, ↓reduceIte]
    rw [eR] at hno
    exact hno e1 I9 (PR_nil hI9.1) g7 g8
  intro e1 J1q hJ1 g13 g16
  rw [← hT1, eh1] at e1
  rw [← hT1] at g13 g16 hin1
  have e1 : nbF T1 0 (C - 1) = 0 := e1
  obtain ⟨hR2, d2⟩ := hJ1
  refine q_ald rfl rfl ?_
  refine q_getr rfl sk_131 sr_131_0 ?_
  refine q_ild rfl rfl ?_
  refine q_ic rfl ?_
  refine q_ald rfl rfl ?_
  refine q_geti rfl sk_1 ?_
  show dw_ok (pr_X6_readLine K) 103 0 0 [some (.ref 131), some (.ref 1), some (.ref 4), some (.int i), some (.int 1)] [.int (J1q 1 6), .int 1, .int i, .ref 132] (n, SH1, J1q, J)
  rw [g16]
  refine q_callV (as := [.int i, .int 1, .int T1.2.2.2]) (rest := []) rfl rfl sk_132 rfl (Nat.le_of_ble_eq_true rfl) ?_
  refine v_pset (i := ln) (w := 1) pt hi hln rfl (by decide) ?_
  show dw_ok (pr_X6_readLine K) 106 0 0 [some (.ref 131), some (.ref 1), some (.ref 4), some (.int i), some (.int 1)] [] (n, SH1, dw_up J1q (134 + ln) 1 T1.2.2.2, J)
  obtain ⟨I3, hI3⟩ : ∃ X, X = dw_up J1q (134 + ln) 1 T1.2.2.2 := ⟨_, rfl⟩
  rw [← hI3]
  have RI3 : PRp I0 I3 L := by rw [hI3]; exact PR_up hR2 (by omega) hln
  have lI3 : (I3 1 3).toInt = T1.2.2.1 := by rw [hI3, up_row (by omega)]; exact g13
  have d3 : I3 (134 + ln) 0 = 1 ∧ I3 (134 + ln) 1 = T1.2.2.2 := by
    rw [hI3]
    exact ⟨(up_fld (by decide)).trans d2, up_same⟩
  refine q_ald rfl rfl ?_
  refine q_ic rfl ?_
  refine q_ald rfl rfl ?_
  refine q_geti rfl sk_4 ?_
  refine q_ic rfl ?_
  refine q_sub rfl ?_
  show dw_ok (pr_X6_readLine K) 114 0 0 [some (.ref 131), some (.ref 1), some (.ref 4), some (.int i), some (.int 1)] [.int (I3 4 1 - 1), .int 0, .ref 1] (n, SH1, I3, J)
  have eh2 : (I3 4 1 - 1).toInt = R - 1 := by
    rw [RI3.1 4 (by decide) (by decide), i_sub (by omega) (by omega), hRr, c1]
  obtain ⟨T2, hT2⟩ : ∃ t, t = tkF (tbC I0) N m T1.2.2.1 := ⟨_, rfl⟩
  have hin2 := tkF_in (b := tbC I0) (n := N) (m := m) (p := T1.2.2.1) hin1.2.2.1
  skip
  refine tn_step (p := T1.2.2.1) rfl rfl rfl rfl (prT (q := ln) (by omega) hln (P := fun r => r 0 = 1 ∧ r 1 = T1.2.2.2)) ⟨RI3, d3⟩ hN hN9 hm lI3 hin1.2.2.1 ?_ ?_
  rotate_left
  · intro e2 I9 hI9 g7 g8
    rw [← hT2, eh2] at e2 g7
    rw [← hT2] at g8
    have e2 : nbF T2 0 (R - 1) ≠ 0 := e2
    have eR : (plF (tbC I0) N m ln C R T) = (nbF T2 0 (R - 1), T2.2.1, 0, p0) := by simp only [plF, nbP, stP, hw, hw9, hg, hk0, ← hT1, e1, ← hT2, e2, ↓reduceIte]
    rw [eR] at hno
    exact hno e2 I9 (PR_nil hI9.1) g7 g8
  intro e2 J2q hJ2 g23 g26
  rw [← hT2, eh2] at e2
  rw [← hT2] at g23 g26 hin2
  have e2 : nbF T2 0 (R - 1) = 0 := e2
  obtain ⟨hR4, d4⟩ := hJ2
  refine q_ald rfl rfl ?_
  refine q_getr rfl sk_131 sr_131_0 ?_
  refine q_ild rfl rfl ?_
  refine q_ic rfl ?_
  refine q_ald rfl rfl ?_
  refine q_geti rfl sk_1 ?_
  show dw_ok (pr_X6_readLine K) 132 0 0 [some (.ref 131), some (.ref 1), some (.ref 4), some (.int i), some (.int 1)] [.int (J2q 1 6), .int 2, .int i, .ref 132] (n, SH1, J2q, J)
  rw [g26]
  refine q_callV (as := [.int i, .int 2, .int T2.2.2.2]) (rest := []) rfl rfl sk_132 rfl (Nat.le_of_ble_eq_true rfl) ?_
  refine v_pset (i := ln) (w := 2) pt hi hln rfl (by decide) ?_
  show dw_ok (pr_X6_readLine K) 135 0 0 [some (.ref 131), some (.ref 1), some (.ref 4), some (.int i), some (.int 1)] [] (n, SH1, dw_up J2q (134 + ln) 2 T2.2.2.2, J)
  obtain ⟨I5, hI5⟩ : ∃ X, X = dw_up J2q (134 + ln) 2 T2.2.2.2 := ⟨_, rfl⟩
  rw [← hI5]
  have RI5 : PRp I0 I5 L := by rw [hI5]; exact PR_up hR4 (by omega) hln
  have lI5 : (I5 1 3).toInt = T2.2.2.1 := by rw [hI5, up_row (by omega)]; exact g23
  have d5 : I5 (134 + ln) 0 = 1 ∧ I5 (134 + ln) 1 = T1.2.2.2 ∧ I5 (134 + ln) 2 = T2.2.2.2 := by
    rw [hI5]
    exact ⟨(up_fld (by decide)).trans d4.1, (up_fld (by decide)).trans d4.2, up_same⟩
  obtain ⟨T3, hT3⟩ : ∃ t, t = tkF (tbC I0) N m T2.2.2.1 := ⟨_, rfl⟩
  have hin3 := tkF_in (b := tbC I0) (n := N) (m := m) (p := T2.2.2.1) hin2.2.2.1
  refine q_ald rfl rfl ?_
  refine ts_step (p := T2.2.2.1) rfl rfl (prT (q := ln) (by omega) hln (P := fun r => r 0 = 1 ∧ r 1 = T1.2.2.2 ∧ r 2 = T2.2.2.2)) ⟨RI5, d5⟩ hN hN9 hm lI5 hin2.2.2.1 ?_ ?_
  rotate_left
  · intro es I9 hI9 g7 g8
    rw [← hT3] at es g8
    have eR : (plF (tbC I0) N m ln C R T) = (1, T3.2.1, 0, p0) := by simp only [plF, nbP, stP, hw, hw9, hg, hk0, ← hT1, e1, ← hT2, e2, ← hT3, es, ↓reduceIte]
    rw [eR] at hno
    exact hno (nn rfl) I9 (PR_nil hI9.1) g7 g8
  intro es I9 hI9 g3
  rw [← hT3] at es g3 hin3
  have eR : (plF (tbC I0) N m ln C R T) = (0, 0, T3.2.2.1, (1, T1.2.2.2, T2.2.2.2)) := by simp only [plF, nbP, stP, hw, hw9, hg, hk0, ← hT1, e1, ← hT2, e2, ← hT3, es, ↓reduceIte]
  rw [eR] at hok
  obtain ⟨hR9, hd9⟩ := hI9
  have hd9 : I9 (134 + ln) 0 = 1 ∧ I9 (134 + ln) 1 = T1.2.2.2 ∧ I9 (134 + ln) 2 = T2.2.2.2 := hd9
  exact hok rfl I9 (PR_cons hR9 hL (by rw [hd9.1]; rfl) hd9.2.1 (fun _ => hd9.2.2)) g3 hin3.2.2.1
set_option maxRecDepth 8000 in
set_option maxHeartbeats 2000000 in
theorem v_pline2 {n : Nat} {I : Nat → Nat → Int32} {J : Nat → Nat → Int64} {K : dw_K} {I0 : Nat → Nat → Int32} {i : Int32} {L : List pL} {T : fT} {N m ln : Nat} {C R : Int} (hR : PRp I0 I L) (hL : L.length = ln) (hl30 : ln ≤ 30) (hN : (I0 1 1).toInt = N) (hN9 : N ≤ 940) (hm : (I0 1 2).toInt = m) (h3 : (I 1 3).toInt = T.2.2.1) (h4 : (I 1 4).toInt = T.2.1) (h5 : (I 1 5).toInt = T.1) (hTN : T.2.2.1 ≤ N) (hT2 : T.2.1 ≤ N) (hi : i.toInt = ln) (hC : (I0 4 0).toInt = C) (hC0 : 0 ≤ C) (hC9 : C ≤ 144) (hRr : (I0 4 1).toInt = R) (hR0 : 0 ≤ R) (hR9 : R ≤ 144) (hw : wpF (tbC I0) T = 2)
    (hok : (plF (tbC I0) N m ln C R T).1 = 0 → ∀ I' : Nat → Nat → Int32, PRp I0 I' ((plF (tbC I0) N m ln C R T).2.2.2 :: L) → (I' 1 3).toInt = (plF (tbC I0) N m ln C R T).2.2.1 → (plF (tbC I0) N m ln C R T).2.2.1 ≤ N → K (some (.int 1)) (n, SH1, I', J))
    (hno : (plF (tbC I0) N m ln C R T).1 ≠ 0 → ∀ I' : Nat → Nat → Int32, PRp I0 I' [] → (I' 1 7).toInt = (plF (tbC I0) N m ln C R T).1 → (I' 1 8).toInt = (plF (tbC I0) N m ln C R T).2.1 → K (some (.int 0)) (n, SH1, I', J)) : dw_ok (pr_X6_readLine K) 18 0 0 [some (.ref 131), some (.ref 1), some (.ref 4), some (.int i), some (.int 2)] [] (n, SH1, I, J) := by
  have c30 : (30 : Int32).toInt = 30 := rfl
  have c1 : (1 : Int32).toInt = 1 := rfl
  have hw9 : ¬ (2 = 9) := by decide
  have hk0 : ¬ (2 = 0) := by decide
  refine q_ild rfl rfl ?_
  refine q_ic rfl ?_
  refine q_icmp (c := 2) rfl (by decide) (fun h => ?_) (fun h => ?_)
  rotate_left
  · have h : (30 : Int32).toInt ≤ i.toInt := h
    have hg : 30 ≤ ln := by omega
    have eR : (plF (tbC I0) N m ln C R T) = (4, T.2.1, 0, p0) := by simp only [plF, hw, hg, hw9, ↓reduceIte]
    refine q_ald rfl rfl ?_
    refine q_ic rfl ?_
    refine fl_step (c := 4) rfl rfl (prT (L := L) (q := 0) (by omega) (by decide) (P := fun _ => True)) ⟨hR, trivial⟩ (fun I1 hI1 g7 g8 => ?_)
    rw [eR] at hno
    exact hno (nn rfl) I1 (PR_nil hI1.1) g7 (g8.trans h4)
  have h : i.toInt < (30 : Int32).toInt := h
  have hg : ¬ (30 ≤ ln) := by omega
  have hln : ln < 30 := by omega
  have pt : PT 132 := pt_ok (by decide)
  refine q_ald rfl rfl ?_
  refine q_getr rfl sk_131 sr_131_0 ?_
  refine q_ild rfl rfl ?_
  refine q_ic rfl ?_
  refine q_ild rfl rfl ?_
  refine q_callV (as := [.int i, .int 0, .int 2]) (rest := []) rfl rfl sk_132 rfl (Nat.le_of_ble_eq_true rfl) ?_
  refine v_pset (i := ln) (w := 0) pt hi hln rfl (by decide) ?_
  show dw_ok (pr_X6_readLine K) 41 0 0 [some (.ref 131), some (.ref 1), some (.ref 4), some (.int i), some (.int 2)] [] (n, SH1, dw_up I (134 + ln) 0 2, J)
  obtain ⟨I1, hI1⟩ : ∃ X, X = dw_up I (134 + ln) 0 2 := ⟨_, rfl⟩
  rw [← hI1]
  have hR1 : PRp I0 I1 L := by rw [hI1]; exact PR_up hR (by omega) hln
  have d1 : I1 (134 + ln) 0 = 2 := by rw [hI1]; exact up_same
  have l1 : (I1 1 3).toInt = T.2.2.1 := by rw [hI1, up_row (by omega)]; exact h3
  refine q_ild rfl rfl ?_
  refine q_if (c := 1) rfl (by decide) (fun _ => ?_) (fun h => absurd (show (2 : Int32).toInt = 0 from h) (by decide))
  refine q_ald rfl rfl ?_
  refine q_ic rfl ?_
  refine q_ald rfl rfl ?_
  refine q_geti rfl sk_4 ?_
  refine q_ic rfl ?_
  refine q_sub rfl ?_
  show dw_ok (pr_X6_readLine K) 85 0 0 [some (.ref 131), some (.ref 1), some (.ref 4), some (.int i), some (.int 2)] [.int (I1 4 0 - 1), .int 0, .ref 1] (n, SH1, I1, J)
  have eh1 : (I1 4 0 - 1).toInt = C - 1 := by
    rw [hR1.1 4 (by decide) (by decide), i_sub (by omega) (by omega), hC, c1]
  obtain ⟨T1, hT1⟩ : ∃ t, t = tkF (tbC I0) N m T.2.2.1 := ⟨_, rfl⟩
  have hin1 := tkF_in (b := tbC I0) (n := N) (m := m) (p := T.2.2.1) hTN
  skip
  refine tn_step (p := T.2.2.1) rfl rfl rfl rfl (prT (q := ln) (by omega) hln (P := fun r => r 0 = 2)) ⟨hR1, d1⟩ hN hN9 hm l1 hTN ?_ ?_
  rotate_left
  · intro e1 I9 hI9 g7 g8
    rw [← hT1, eh1] at e1 g7
    rw [← hT1] at g8
    have e1 : nbF T1 0 (C - 1) ≠ 0 := e1
    have eR : (plF (tbC I0) N m ln C R T) = (nbF T1 0 (C - 1), T1.2.1, 0, p0) := by simp only [plF, nbP, stP, hw, hw9, hg, hk0, ← hT1, e1, ↓reduceIte]
    rw [eR] at hno
    exact hno e1 I9 (PR_nil hI9.1) g7 g8
  intro e1 J1q hJ1 g13 g16
  rw [← hT1, eh1] at e1
  rw [← hT1] at g13 g16 hin1
  have e1 : nbF T1 0 (C - 1) = 0 := e1
  obtain ⟨hR2, d2⟩ := hJ1
  refine q_ald rfl rfl ?_
  refine q_getr rfl sk_131 sr_131_0 ?_
  refine q_ild rfl rfl ?_
  refine q_ic rfl ?_
  refine q_ald rfl rfl ?_
  refine q_geti rfl sk_1 ?_
  show dw_ok (pr_X6_readLine K) 103 0 0 [some (.ref 131), some (.ref 1), some (.ref 4), some (.int i), some (.int 2)] [.int (J1q 1 6), .int 1, .int i, .ref 132] (n, SH1, J1q, J)
  rw [g16]
  refine q_callV (as := [.int i, .int 1, .int T1.2.2.2]) (rest := []) rfl rfl sk_132 rfl (Nat.le_of_ble_eq_true rfl) ?_
  refine v_pset (i := ln) (w := 1) pt hi hln rfl (by decide) ?_
  show dw_ok (pr_X6_readLine K) 106 0 0 [some (.ref 131), some (.ref 1), some (.ref 4), some (.int i), some (.int 2)] [] (n, SH1, dw_up J1q (134 + ln) 1 T1.2.2.2, J)
  obtain ⟨I3, hI3⟩ : ∃ X, X = dw_up J1q (134 + ln) 1 T1.2.2.2 := ⟨_, rfl⟩
  rw [← hI3]
  have RI3 : PRp I0 I3 L := by rw [hI3]; exact PR_up hR2 (by omega) hln
  have lI3 : (I3 1 3).toInt = T1.2.2.1 := by rw [hI3, up_row (by omega)]; exact g13
  have d3 : I3 (134 + ln) 0 = 2 ∧ I3 (134 + ln) 1 = T1.2.2.2 := by
    rw [hI3]
    exact ⟨(up_fld (by decide)).trans d2, up_same⟩
  refine q_ald rfl rfl ?_
  refine q_ic rfl ?_
  refine q_ald rfl rfl ?_
  refine q_geti rfl sk_4 ?_
  refine q_ic rfl ?_
  refine q_sub rfl ?_
  show dw_ok (pr_X6_readLine K) 114 0 0 [some (.ref 131), some (.ref 1), some (.ref 4), some (.int i), some (.int 2)] [.int (I3 4 1 - 1), .int 0, .ref 1] (n, SH1, I3, J)
  have eh2 : (I3 4 1 - 1).toInt = R - 1 := by
    rw [RI3.1 4 (by decide) (by decide), i_sub (by omega) (by omega), hRr, c1]
  obtain ⟨T2, hT2⟩ : ∃ t, t = tkF (tbC I0) N m T1.2.2.1 := ⟨_, rfl⟩
  have hin2 := tkF_in (b := tbC I0) (n := N) (m := m) (p := T1.2.2.1) hin1.2.2.1
  skip
  refine tn_step (p := T1.2.2.1) rfl rfl rfl rfl (prT (q := ln) (by omega) hln (P := fun r => r 0 = 2 ∧ r 1 = T1.2.2.2)) ⟨RI3, d3⟩ hN hN9 hm lI3 hin1.2.2.1 ?_ ?_
  rotate_left
  · intro e2 I9 hI9 g7 g8
    rw [← hT2, eh2] at e2 g7
    rw [← hT2] at g8
    have e2 : nbF T2 0 (R - 1) ≠ 0 := e2
    have eR : (plF (tbC I0) N m ln C R T) = (nbF T2 0 (R - 1), T2.2.1, 0, p0) := by simp only [plF, nbP, stP, hw, hw9, hg, hk0, ← hT1, e1, ← hT2, e2, ↓reduceIte]
    rw [eR] at hno
    exact hno e2 I9 (PR_nil hI9.1) g7 g8
  intro e2 J2q hJ2 g23 g26
  rw [← hT2, eh2] at e2
  rw [← hT2] at g23 g26 hin2
  have e2 : nbF T2 0 (R - 1) = 0 := e2
  obtain ⟨hR4, d4⟩ := hJ2
  refine q_ald rfl rfl ?_
  refine q_getr rfl sk_131 sr_131_0 ?_
  refine q_ild rfl rfl ?_
  refine q_ic rfl ?_
  refine q_ald rfl rfl ?_
  refine q_geti rfl sk_1 ?_
  show dw_ok (pr_X6_readLine K) 132 0 0 [some (.ref 131), some (.ref 1), some (.ref 4), some (.int i), some (.int 2)] [.int (J2q 1 6), .int 2, .int i, .ref 132] (n, SH1, J2q, J)
  rw [g26]
  refine q_callV (as := [.int i, .int 2, .int T2.2.2.2]) (rest := []) rfl rfl sk_132 rfl (Nat.le_of_ble_eq_true rfl) ?_
  refine v_pset (i := ln) (w := 2) pt hi hln rfl (by decide) ?_
  show dw_ok (pr_X6_readLine K) 135 0 0 [some (.ref 131), some (.ref 1), some (.ref 4), some (.int i), some (.int 2)] [] (n, SH1, dw_up J2q (134 + ln) 2 T2.2.2.2, J)
  obtain ⟨I5, hI5⟩ : ∃ X, X = dw_up J2q (134 + ln) 2 T2.2.2.2 := ⟨_, rfl⟩
  rw [← hI5]
  have RI5 : PRp I0 I5 L := by rw [hI5]; exact PR_up hR4 (by omega) hln
  have lI5 : (I5 1 3).toInt = T2.2.2.1 := by rw [hI5, up_row (by omega)]; exact g23
  have d5 : I5 (134 + ln) 0 = 2 ∧ I5 (134 + ln) 1 = T1.2.2.2 ∧ I5 (134 + ln) 2 = T2.2.2.2 := by
    rw [hI5]
    exact ⟨(up_fld (by decide)).trans d4.1, (up_fld (by decide)).trans d4.2, up_same⟩
  obtain ⟨T3, hT3⟩ : ∃ t, t = tkF (tbC I0) N m T2.2.2.1 := ⟨_, rfl⟩
  have hin3 := tkF_in (b := tbC I0) (n := N) (m := m) (p := T2.2.2.1) hin2.2.2.1
  refine q_ald rfl rfl ?_
  refine ts_step (p := T2.2.2.1) rfl rfl (prT (q := ln) (by omega) hln (P := fun r => r 0 = 2 ∧ r 1 = T1.2.2.2 ∧ r 2 = T2.2.2.2)) ⟨RI5, d5⟩ hN hN9 hm lI5 hin2.2.2.1 ?_ ?_
  rotate_left
  · intro es I9 hI9 g7 g8
    rw [← hT3] at es g8
    have eR : (plF (tbC I0) N m ln C R T) = (1, T3.2.1, 0, p0) := by simp only [plF, nbP, stP, hw, hw9, hg, hk0, ← hT1, e1, ← hT2, e2, ← hT3, es, ↓reduceIte]
    rw [eR] at hno
    exact hno (nn rfl) I9 (PR_nil hI9.1) g7 g8
  intro es I9 hI9 g3
  rw [← hT3] at es g3 hin3
  have eR : (plF (tbC I0) N m ln C R T) = (0, 0, T3.2.2.1, (2, T1.2.2.2, T2.2.2.2)) := by simp only [plF, nbP, stP, hw, hw9, hg, hk0, ← hT1, e1, ← hT2, e2, ← hT3, es, ↓reduceIte]
  rw [eR] at hok
  obtain ⟨hR9, hd9⟩ := hI9
  have hd9 : I9 (134 + ln) 0 = 2 ∧ I9 (134 + ln) 1 = T1.2.2.2 ∧ I9 (134 + ln) 2 = T2.2.2.2 := hd9
  exact hok rfl I9 (PR_cons hR9 hL (by rw [hd9.1]; rfl) hd9.2.1 (fun _ => hd9.2.2)) g3 hin3.2.2.1
set_option maxRecDepth 8000 in
set_option maxHeartbeats 2000000 in
theorem v_pline3 {n : Nat} {I : Nat → Nat → Int32} {J : Nat → Nat → Int64} {K : dw_K} {I0 : Nat → Nat → Int32} {i : Int32} {L : List pL} {T : fT} {N m ln : Nat} {C R : Int} (hR : PRp I0 I L) (hL : L.length = ln) (hl30 : ln ≤ 30) (hN : (I0 1 1).toInt = N) (hN9 : N ≤ 940) (hm : (I0 1 2).toInt = m) (h3 : (I 1 3).toInt = T.2.2.1) (h4 : (I 1 4).toInt = T.2.1) (h5 : (I 1 5).toInt = T.1) (hTN : T.2.2.1 ≤ N) (hT2 : T.2.1 ≤ N) (hi : i.toInt = ln) (hC : (I0 4 0).toInt = C) (hC0 : 0 ≤ C) (hC9 : C ≤ 144) (hRr : (I0 4 1).toInt = R) (hR0 : 0 ≤ R) (hR9 : R ≤ 144) (hw : wpF (tbC I0) T = 3)
    (hok : (plF (tbC I0) N m ln C R T).1 = 0 → ∀ I' : Nat → Nat → Int32, PRp I0 I' ((plF (tbC I0) N m ln C R T).2.2.2 :: L) → (I' 1 3).toInt = (plF (tbC I0) N m ln C R T).2.2.1 → (plF (tbC I0) N m ln C R T).2.2.1 ≤ N → K (some (.int 1)) (n, SH1, I', J))
    (hno : (plF (tbC I0) N m ln C R T).1 ≠ 0 → ∀ I' : Nat → Nat → Int32, PRp I0 I' [] → (I' 1 7).toInt = (plF (tbC I0) N m ln C R T).1 → (I' 1 8).toInt = (plF (tbC I0) N m ln C R T).2.1 → K (some (.int 0)) (n, SH1, I', J)) : dw_ok (pr_X6_readLine K) 18 0 0 [some (.ref 131), some (.ref 1), some (.ref 4), some (.int i), some (.int 3)] [] (n, SH1, I, J) := by
  have c30 : (30 : Int32).toInt = 30 := rfl
  have c1 : (1 : Int32).toInt = 1 := rfl
  have hw9 : ¬ (3 = 9) := by decide
  have hk0 : ¬ (3 = 0) := by decide
  refine q_ild rfl rfl ?_
  refine q_ic rfl ?_
  refine q_icmp (c := 2) rfl (by decide) (fun h => ?_) (fun h => ?_)
  rotate_left
  · have h : (30 : Int32).toInt ≤ i.toInt := h
    have hg : 30 ≤ ln := by omega
    have eR : (plF (tbC I0) N m ln C R T) = (4, T.2.1, 0, p0) := by simp only [plF, hw, hg, hw9, ↓reduceIte]
    refine q_ald rfl rfl ?_
    refine q_ic rfl ?_
    refine fl_step (c := 4) rfl rfl (prT (L := L) (q := 0) (by omega) (by decide) (P := fun _ => True)) ⟨hR, trivial⟩ (fun I1 hI1 g7 g8 => ?_)
    rw [eR] at hno
    exact hno (nn rfl) I1 (PR_nil hI1.1) g7 (g8.trans h4)
  have h : i.toInt < (30 : Int32).toInt := h
  have hg : ¬ (30 ≤ ln) := by omega
  have hln : ln < 30 := by omega
  have pt : PT 132 := pt_ok (by decide)
  refine q_ald rfl rfl ?_
  refine q_getr rfl sk_131 sr_131_0 ?_
  refine q_ild rfl rfl ?_
  refine q_ic rfl ?_
  refine q_ild rfl rfl ?_
  refine q_callV (as := [.int i, .int 0, .int 3]) (rest := []) rfl rfl sk_132 rfl (Nat.le_of_ble_eq_true rfl) ?_
  refine v_pset (i := ln) (w := 0) pt hi hln rfl (by decide) ?_
  show dw_ok (pr_X6_readLine K) 41 0 0 [some (.ref 131), some (.ref 1), some (.ref 4), some (.int i), some (.int 3)] [] (n, SH1, dw_up I (134 + ln) 0 3, J)
  obtain ⟨I1, hI1⟩ : ∃ X, X = dw_up I (134 + ln) 0 3 := ⟨_, rfl⟩
  rw [← hI1]
  have hR1 : PRp I0 I1 L := by rw [hI1]; exact PR_up hR (by omega) hln
  have d1 : I1 (134 + ln) 0 = 3 := by rw [hI1]; exact up_same
  have l1 : (I1 1 3).toInt = T.2.2.1 := by rw [hI1, up_row (by omega)]; exact h3
  refine q_ild rfl rfl ?_
  refine q_if (c := 1) rfl (by decide) (fun _ => ?_) (fun h => absurd (show (3 : Int32).toInt = 0 from h) (by decide))
  refine q_ald rfl rfl ?_
  refine q_ic rfl ?_
  refine q_ald rfl rfl ?_
  refine q_geti rfl sk_4 ?_
  refine q_ic rfl ?_
  refine q_sub rfl ?_
  show dw_ok (pr_X6_readLine K) 85 0 0 [some (.ref 131), some (.ref 1), some (.ref 4), some (.int i), some (.int 3)] [.int (I1 4 0 - 1), .int 0, .ref 1] (n, SH1, I1, J)
  have eh1 : (I1 4 0 - 1).toInt = C - 1 := by
    rw [hR1.1 4 (by decide) (by decide), i_sub (by omega) (by omega), hC, c1]
  obtain ⟨T1, hT1⟩ : ∃ t, t = tkF (tbC I0) N m T.2.2.1 := ⟨_, rfl⟩
  have hin1 := tkF_in (b := tbC I0) (n := N) (m := m) (p := T.2.2.1) hTN
  skip
  refine tn_step (p := T.2.2.1) rfl rfl rfl rfl (prT (q := ln) (by omega) hln (P := fun r => r 0 = 3)) ⟨hR1, d1⟩ hN hN9 hm l1 hTN ?_ ?_
  rotate_left
  · intro e1 I9 hI9 g7 g8
    rw [← hT1, eh1] at e1 g7
    rw [← hT1] at g8
    have e1 : nbF T1 0 (C - 1) ≠ 0 := e1
    have eR : (plF (tbC I0) N m ln C R T) = (nbF T1 0 (C - 1), T1.2.1, 0, p0) := by simp only [plF, nbP, stP, hw, hw9, hg, hk0, ← hT1, e1, ↓reduceIte]
    rw [eR] at hno
    exact hno e1 I9 (PR_nil hI9.1) g7 g8
  intro e1 J1q hJ1 g13 g16
  rw [← hT1, eh1] at e1
  rw [← hT1] at g13 g16 hin1
  have e1 : nbF T1 0 (C - 1) = 0 := e1
  obtain ⟨hR2, d2⟩ := hJ1
  refine q_ald rfl rfl ?_
  refine q_getr rfl sk_131 sr_131_0 ?_
  refine q_ild rfl rfl ?_
  refine q_ic rfl ?_
  refine q_ald rfl rfl ?_
  refine q_geti rfl sk_1 ?_
  show dw_ok (pr_X6_readLine K) 103 0 0 [some (.ref 131), some (.ref 1), some (.ref 4), some (.int i), some (.int 3)] [.int (J1q 1 6), .int 1, .int i, .ref 132] (n, SH1, J1q, J)
  rw [g16]
  refine q_callV (as := [.int i, .int 1, .int T1.2.2.2]) (rest := []) rfl rfl sk_132 rfl (Nat.le_of_ble_eq_true rfl) ?_
  refine v_pset (i := ln) (w := 1) pt hi hln rfl (by decide) ?_
  show dw_ok (pr_X6_readLine K) 106 0 0 [some (.ref 131), some (.ref 1), some (.ref 4), some (.int i), some (.int 3)] [] (n, SH1, dw_up J1q (134 + ln) 1 T1.2.2.2, J)
  obtain ⟨I3, hI3⟩ : ∃ X, X = dw_up J1q (134 + ln) 1 T1.2.2.2 := ⟨_, rfl⟩
  rw [← hI3]
  have RI3 : PRp I0 I3 L := by rw [hI3]; exact PR_up hR2 (by omega) hln
  have lI3 : (I3 1 3).toInt = T1.2.2.1 := by rw [hI3, up_row (by omega)]; exact g13
  have d3 : I3 (134 + ln) 0 = 3 ∧ I3 (134 + ln) 1 = T1.2.2.2 := by
    rw [hI3]
    exact ⟨(up_fld (by decide)).trans d2, up_same⟩
  refine q_ald rfl rfl ?_
  refine q_ic rfl ?_
  refine q_ald rfl rfl ?_
  refine q_geti rfl sk_4 ?_
  refine q_ic rfl ?_
  refine q_sub rfl ?_
  show dw_ok (pr_X6_readLine K) 114 0 0 [some (.ref 131), some (.ref 1), some (.ref 4), some (.int i), some (.int 3)] [.int (I3 4 1 - 1), .int 0, .ref 1] (n, SH1, I3, J)
  have eh2 : (I3 4 1 - 1).toInt = R - 1 := by
    rw [RI3.1 4 (by decide) (by decide), i_sub (by omega) (by omega), hRr, c1]
  obtain ⟨T2, hT2⟩ : ∃ t, t = tkF (tbC I0) N m T1.2.2.1 := ⟨_, rfl⟩
  have hin2 := tkF_in (b := tbC I0) (n := N) (m := m) (p := T1.2.2.1) hin1.2.2.1
  skip
  refine tn_step (p := T1.2.2.1) rfl rfl rfl rfl (prT (q := ln) (by omega) hln (P := fun r => r 0 = 3 ∧ r 1 = T1.2.2.2)) ⟨RI3, d3⟩ hN hN9 hm lI3 hin1.2.2.1 ?_ ?_
  rotate_left
  · intro e2 I9 hI9 g7 g8
    rw [← hT2, eh2] at e2 g7
    rw [← hT2] at g8
    have e2 : nbF T2 0 (R - 1) ≠ 0 := e2
    have eR : (plF (tbC I0) N m ln C R T) = (nbF T2 0 (R - 1), T2.2.1, 0, p0) := by simp only [plF, nbP, stP, hw, hw9, hg, hk0, ← hT1, e1, ← hT2, e2, ↓reduceIte]
    rw [eR] at hno
    exact hno e2 I9 (PR_nil hI9.1) g7 g8
  intro e2 J2q hJ2 g23 g26
  rw [← hT2, eh2] at e2
  rw [← hT2] at g23 g26 hin2
  have e2 : nbF T2 0 (R - 1) = 0 := e2
  obtain ⟨hR4, d4⟩ := hJ2
  refine q_ald rfl rfl ?_
  refine q_getr rfl sk_131 sr_131_0 ?_
  refine q_ild rfl rfl ?_
  refine q_ic rfl ?_
  refine q_ald rfl rfl ?_
  refine q_geti rfl sk_1 ?_
  show dw_ok (pr_X6_readLine K) 132 0 0 [some (.ref 131), some (.ref 1), some (.ref 4), some (.int i), some (.int 3)] [.int (J2q 1 6), .int 2, .int i, .ref 132] (n, SH1, J2q, J)
  rw [g26]
  refine q_callV (as := [.int i, .int 2, .int T2.2.2.2]) (rest := []) rfl rfl sk_132 rfl (Nat.le_of_ble_eq_true rfl) ?_
  refine v_pset (i := ln) (w := 2) pt hi hln rfl (by decide) ?_
  show dw_ok (pr_X6_readLine K) 135 0 0 [some (.ref 131), some (.ref 1), some (.ref 4), some (.int i), some (.int 3)] [] (n, SH1, dw_up J2q (134 + ln) 2 T2.2.2.2, J)
  obtain ⟨I5, hI5⟩ : ∃ X, X = dw_up J2q (134 + ln) 2 T2.2.2.2 := ⟨_, rfl⟩
  rw [← hI5]
  have RI5 : PRp I0 I5 L := by rw [hI5]; exact PR_up hR4 (by omega) hln
  have lI5 : (I5 1 3).toInt = T2.2.2.1 := by rw [hI5, up_row (by omega)]; exact g23
  have d5 : I5 (134 + ln) 0 = 3 ∧ I5 (134 + ln) 1 = T1.2.2.2 ∧ I5 (134 + ln) 2 = T2.2.2.2 := by
    rw [hI5]
    exact ⟨(up_fld (by decide)).trans d4.1, (up_fld (by decide)).trans d4.2, up_same⟩
  obtain ⟨T3, hT3⟩ : ∃ t, t = tkF (tbC I0) N m T2.2.2.1 := ⟨_, rfl⟩
  have hin3 := tkF_in (b := tbC I0) (n := N) (m := m) (p := T2.2.2.1) hin2.2.2.1
  refine q_ald rfl rfl ?_
  refine ts_step (p := T2.2.2.1) rfl rfl (prT (q := ln) (by omega) hln (P := fun r => r 0 = 3 ∧ r 1 = T1.2.2.2 ∧ r 2 = T2.2.2.2)) ⟨RI5, d5⟩ hN hN9 hm lI5 hin2.2.2.1 ?_ ?_
  rotate_left
  · intro es I9 hI9 g7 g8
    rw [← hT3] at es g8
    have eR : (plF (tbC I0) N m ln C R T) = (1, T3.2.1, 0, p0) := by simp only [plF, nbP, stP, hw, hw9, hg, hk0, ← hT1, e1, ← hT2, e2, ← hT3, es, ↓reduceIte]
    rw [eR] at hno
    exact hno (nn rfl) I9 (PR_nil hI9.1) g7 g8
  intro es I9 hI9 g3
  rw [← hT3] at es g3 hin3
  have eR : (plF (tbC I0) N m ln C R T) = (0, 0, T3.2.2.1, (3, T1.2.2.2, T2.2.2.2)) := by simp only [plF, nbP, stP, hw, hw9, hg, hk0, ← hT1, e1, ← hT2, e2, ← hT3, es, ↓reduceIte]
  rw [eR] at hok
  obtain ⟨hR9, hd9⟩ := hI9
  have hd9 : I9 (134 + ln) 0 = 3 ∧ I9 (134 + ln) 1 = T1.2.2.2 ∧ I9 (134 + ln) 2 = T2.2.2.2 := hd9
  exact hok rfl I9 (PR_cons hR9 hL (by rw [hd9.1]; rfl) hd9.2.1 (fun _ => hd9.2.2)) g3 hin3.2.2.1
set_option maxRecDepth 8000 in
theorem v_pline {n : Nat} {I : Nat → Nat → Int32} {J : Nat → Nat → Int64} {K : dw_K} {I0 : Nat → Nat → Int32} {i : Int32} {L : List pL} {T : fT} {N m ln : Nat} {C R : Int} (hR : PRp I0 I L) (hL : L.length = ln) (hl30 : ln ≤ 30) (hN : (I0 1 1).toInt = N) (hN9 : N ≤ 940) (hm : (I0 1 2).toInt = m) (h3 : (I 1 3).toInt = T.2.2.1) (h4 : (I 1 4).toInt = T.2.1) (h5 : (I 1 5).toInt = T.1) (hTN : T.2.2.1 ≤ N) (hT2 : T.2.1 ≤ N) (hi : i.toInt = ln) (hC : (I0 4 0).toInt = C) (hC0 : 0 ≤ C) (hC9 : C ≤ 144) (hRr : (I0 4 1).toInt = R) (hR0 : 0 ≤ R) (hR9 : R ≤ 144)
    (hok : (plF (tbC I0) N m ln C R T).1 = 0 → ∀ I' : Nat → Nat → Int32, PRp I0 I' ((plF (tbC I0) N m ln C R T).2.2.2 :: L) → (I' 1 3).toInt = (plF (tbC I0) N m ln C R T).2.2.1 → (plF (tbC I0) N m ln C R T).2.2.1 ≤ N → K (some (.int 1)) (n, SH1, I', J))
    (hno : (plF (tbC I0) N m ln C R T).1 ≠ 0 → ∀ I' : Nat → Nat → Int32, PRp I0 I' [] → (I' 1 7).toInt = (plF (tbC I0) N m ln C R T).1 → (I' 1 8).toInt = (plF (tbC I0) N m ln C R T).2.1 → K (some (.int 0)) (n, SH1, I', J)) : t_X6_readLine [.ref 131, .ref 1, .ref 4, .int i] (n, SH1, I, J) K := by
  have hN0 : (I 1 1).toInt = N := by rw [hR.2.1 1 (by decide)]; exact hN
  have hb0 : tbC I = tbC I0 := tbC_eq (hR.2.1 1 (by decide)) (hR.1 2 (by decide) (by decide))
  refine q_body (Nat.le_of_ble_eq_true rfl) ?_
  refine q_ald rfl rfl ?_
  refine q_callS (as := [.ref 1]) (rest := []) rfl rfl rfl rfl ?_
  refine v_whatIsDone hN0 hN9 h3 h4 h5 hTN hT2 (fun w wc => ?_)
  rw [hb0] at wc
  show dw_ok (pr_X6_readLine K) 4 0 0 [some (.ref 131), some (.ref 1), some (.ref 4), some (.int i), none] [.int w] (n, SH1, I, J)
  rcases wp_cases (tbC I0) T with hw | hw | hw | hw | hw
  · obtain rfl : w = (0 : Int32) := i_eq (by rw [wc, hw]; rfl)
    refine q_ist rfl rfl ?_
    refine q_ild rfl rfl ?_
    refine q_ic rfl ?_
    refine q_icmp (c := 1) rfl (by decide) (fun _ => ?_) (fun h => absurd (show (0 : Int32).toInt = (-1 : Int32).toInt from h) (by decide))
    exact v_pline0 hR hL hl30 hN hN9 hm h3 h4 h5 hTN hT2 hi hC hC0 hC9 hRr hR0 hR9 hw hok hno
  · obtain rfl : w = (1 : Int32) := i_eq (by rw [wc, hw]; rfl)
    refine q_ist rfl rfl ?_
    refine q_ild rfl rfl ?_
    refine q_ic rfl ?_
    refine q_icmp (c := 1) rfl (by decide) (fun _ => ?_) (fun h => absurd (show (1 : Int32).toInt = (-1 : Int32).toInt from h) (by decide))
    exact v_pline1 hR hL hl30 hN hN9 hm h3 h4 h5 hTN hT2 hi hC hC0 hC9 hRr hR0 hR9 hw hok hno
  · obtain rfl : w = (2 : Int32) := i_eq (by rw [wc, hw]; rfl)
    refine q_ist rfl rfl ?_
    refine q_ild rfl rfl ?_
    refine q_ic rfl ?_
    refine q_icmp (c := 1) rfl (by decide) (fun _ => ?_) (fun h => absurd (show (2 : Int32).toInt = (-1 : Int32).toInt from h) (by decide))
    exact v_pline2 hR hL hl30 hN hN9 hm h3 h4 h5 hTN hT2 hi hC hC0 hC9 hRr hR0 hR9 hw hok hno
  · obtain rfl : w = (3 : Int32) := i_eq (by rw [wc, hw]; rfl)
    refine q_ist rfl rfl ?_
    refine q_ild rfl rfl ?_
    refine q_ic rfl ?_
    refine q_icmp (c := 1) rfl (by decide) (fun _ => ?_) (fun h => absurd (show (3 : Int32).toInt = (-1 : Int32).toInt from h) (by decide))
    exact v_pline3 hR hL hl30 hN hN9 hm h3 h4 h5 hTN hT2 hi hC hC0 hC9 hRr hR0 hR9 hw hok hno
  · obtain rfl : w = (-1 : Int32) := i_eq (by rw [wc, hw]; rfl)
    have eR : (plF (tbC I0) N m ln C R T) = (1, T.2.1, 0, p0) := by simp only [plF, hw, ↓reduceIte]
    refine q_ist rfl rfl ?_
    refine q_ild rfl rfl ?_
    refine q_ic rfl ?_
    refine q_icmp (c := 1) rfl (by decide) (fun h => absurd rfl h) (fun _ => ?_)
    refine q_ald rfl rfl ?_
    refine q_ic rfl ?_
    refine fl_step (c := 1) rfl rfl (prT (L := L) (q := 0) (by omega) (by decide) (P := fun _ => True)) ⟨hR, trivial⟩ (fun I1 hI1 g7 g8 => ?_)
    rw [eR] at hno
    exact hno (nn rfl) I1 (PR_nil hI1.1) g7 (g8.trans h4)
set_option maxRecDepth 8000 in
theorem pt_loop {n : Nat} {I0 : Nat → Nat → Int32} {J : Nat → Nat → Int64} {K : dw_K} {bc bs N m : Nat} {C R : Int} {G : Nat × Nat × Nat × List pL} (hN : (I0 1 1).toInt = N) (hN9 : N ≤ 940) (hm : (I0 1 2).toInt = m) (hC : (I0 4 0).toInt = C) (hC0 : 0 ≤ C) (hC9 : C ≤ 144) (hRr : (I0 4 1).toInt = R) (hR0 : 0 ≤ R) (hR9 : R ≤ 144)
    (hok : G.1 = 0 → ∀ (I' : Nat → Nat → Int32) (w : Int32), PRp I0 I' G.2.2.2 → w.toInt = G.2.2.1 → G.2.2.1 = G.2.2.2.length → w.toInt ≤ 30 → K (some (.int w)) (n, SH1, dw_up I' 132 0 w, J))
    (hno : G.1 ≠ 0 → ∀ I' : Nat → Nat → Int32, PRp I0 I' [] → (I' 1 7).toInt = G.1 → (I' 1 8).toInt = G.2.1 → K (some (.int (-1))) (n, SH1, I', J)) :
    ∀ (f ln p : Nat) (i : Int32) (L : List pL) (I : Nat → Nat → Int32), ln + f = 30 → L.length = ln → pgF (tbC I0) N m C R (f + 1) ln p L = G → PRp I0 I L → (I 1 3).toInt = p → p ≤ N → i.toInt = ln → dw_ok (pr_X6_readText K) 9 bc bs [some (.ref 131), some (.ref 1), some (.ref 4), some (.int i)] [] (n, SH1, I, J) := by
  have c30 : (30 : Int32).toInt = 30 := rfl
  have c1 : (1 : Int32).toInt = 1 := rfl
  intro f
  induction f with
  | zero =>
    intro ln p i L I hf hL hG hR h3 hp hi
    refine q_ild rfl rfl ?_
    refine q_ic rfl ?_
    refine q_icmp (c := 4) rfl (by decide) (fun h => absurd (show (30 : Int32).toInt < i.toInt from h) (by omega)) (fun _ => ?_)
    refine q_ald rfl rfl ?_
    refine q_callV (as := []) (rest := []) rfl rfl sk_1 rfl (Nat.le_of_ble_eq_true rfl) ?_
    have e1 : I 1 1 = I0 1 1 := hR.2.1 1 (by decide)
    have e2 : I 1 2 = I0 1 2 := hR.2.1 2 (by decide)
    have hb : tbC I = tbC I0 := tbC_eq e1 (hR.1 2 (by decide) (by decide))
    refine v_take (p := p) (N := N) (m := m) (by rw [e1]; exact hN) hN9 (by rw [e2]; exact hm) h3 hp (fun I1 hA hF g3 g4 g5 g6 => ?_)
    rw [hb] at g3 g4 g5 g6
    have hR1 : PRp I0 I1 L := ((prT (q := 0) (by omega) (by decide) (P := fun _ => True)).1 I I1 ⟨hR, trivial⟩ hA (fun j hj => hF j (by omega) (by omega) (by omega) (by omega))).1
    have hin := tkF_in (b := tbC I0) (n := N) (m := m) (p := p) hp
    unfold pgF at hG
    show dw_ok (pr_X6_readText K) 19 bc bs [some (.ref 131), some (.ref 1), some (.ref 4), some (.int i)] [] (n, SH1, I1, J)
    refine q_ald rfl rfl ?_
    refine q_geti rfl sk_1 ?_
    refine q_if (c := 1) rfl (by decide) (fun h => ?_) (fun h => ?_)
    · have h : (I1 1 5).toInt ≠ 0 := h
      have hT0 : ¬ (tkF (tbC I0) N m p).1 = 0 := by omega
      rw [if_neg hT0] at hG
      refine q_ald rfl rfl ?_
      refine q_ald rfl rfl ?_
      refine q_ald rfl rfl ?_
      refine q_ild rfl rfl ?_
      refine q_callV (as := [.ref 1, .ref 4, .int i]) (rest := []) rfl rfl sk_131 rfl (Nat.le_of_ble_eq_true rfl) ?_
      refine v_pline hR1 hL (by omega) hN hN9 hm g3 g4 g5 hin.2.2.1 hin.1 hi hC hC0 hC9 hRr hR0 hR9 (fun hr => absurd hr (pl_30 (by omega))) (fun hr I2 hR2 g7 g8 => ?_)
      rw [if_neg hr] at hG
      show dw_ok (pr_X6_readText K) 43 bc bs [some (.ref 131), some (.ref 1), some (.ref 4), some (.int i)] [.int 0] (n, SH1, I2, J)
      refine q_if (c := 1) rfl (by decide) (fun h => absurd rfl h) (fun _ => ?_)
      refine q_ic rfl ?_
      rw [← hG] at hno
      exact q_iret rfl (hno hr I2 hR2 g7 g8)
    · have h : (I1 1 5).toInt = 0 := h
      have hT0 : (tkF (tbC I0) N m p).1 = 0 := by omega
      rw [if_pos hT0] at hG
      refine q_ald rfl rfl ?_
      refine q_getr rfl sk_131 sr_131_0 ?_
      refine q_ild rfl rfl ?_
      refine q_puti rfl sk_132 ?_
      refine q_ild rfl rfl ?_
      rw [← hG] at hok
      exact q_iret rfl (hok rfl I1 i hR1 hi hL.symm (by omega))
  | succ f ih =>
    intro ln p i L I hf hL hG hR h3 hp hi
    refine q_ild rfl rfl ?_
    refine q_ic rfl ?_
    refine q_icmp (c := 4) rfl (by decide) (fun h => absurd (show (30 : Int32).toInt < i.toInt from h) (by omega)) (fun _ => ?_)
    refine q_ald rfl rfl ?_
    refine q_callV (as := []) (rest := []) rfl rfl sk_1 rfl (Nat.le_of_ble_eq_true rfl) ?_
    have e1 : I 1 1 = I0 1 1 := hR.2.1 1 (by decide)
    have e2 : I 1 2 = I0 1 2 := hR.2.1 2 (by decide)
    have hb : tbC I = tbC I0 := tbC_eq e1 (hR.1 2 (by decide) (by decide))
    refine v_take (p := p) (N := N) (m := m) (by rw [e1]; exact hN) hN9 (by rw [e2]; exact hm) h3 hp (fun I1 hA hF g3 g4 g5 g6 => ?_)
    rw [hb] at g3 g4 g5 g6
    have hR1 : PRp I0 I1 L := ((prT (q := 0) (by omega) (by decide) (P := fun _ => True)).1 I I1 ⟨hR, trivial⟩ hA (fun j hj => hF j (by omega) (by omega) (by omega) (by omega))).1
    have hin := tkF_in (b := tbC I0) (n := N) (m := m) (p := p) hp
    unfold pgF at hG
    show dw_ok (pr_X6_readText K) 19 bc bs [some (.ref 131), some (.ref 1), some (.ref 4), some (.int i)] [] (n, SH1, I1, J)
    refine q_ald rfl rfl ?_
    refine q_geti rfl sk_1 ?_
    refine q_if (c := 1) rfl (by decide) (fun h => ?_) (fun h => ?_)
    · have h : (I1 1 5).toInt ≠ 0 := h
      have hT0 : ¬ (tkF (tbC I0) N m p).1 = 0 := by omega
      rw [if_neg hT0] at hG
      refine q_ald rfl rfl ?_
      refine q_ald rfl rfl ?_
      refine q_ald rfl rfl ?_
      refine q_ild rfl rfl ?_
      refine q_callV (as := [.ref 1, .ref 4, .int i]) (rest := []) rfl rfl sk_131 rfl (Nat.le_of_ble_eq_true rfl) ?_
      refine v_pline hR1 hL (by omega) hN hN9 hm g3 g4 g5 hin.2.2.1 hin.1 hi hC hC0 hC9 hRr hR0 hR9 (fun hr I2 hR2 g23 hle => ?_) (fun hr I2 hR2 g7 g8 => ?_)
      · rw [if_pos hr] at hG
        show dw_ok (pr_X6_readText K) 43 bc bs [some (.ref 131), some (.ref 1), some (.ref 4), some (.int i)] [.int 1] (n, SH1, I2, J)
        refine q_if (c := 1) rfl (by decide) (fun _ => ?_) (fun h => absurd (show (1 : Int32).toInt = 0 from h) (by decide))
        refine q_inc rfl rfl rfl ?_
        refine q_goto rfl ?_
        exact ih (ln + 1) _ (i + 1) _ I2 (by omega) (by rw [List.length_cons, hL]) hG hR2 g23 hle (by rw [i_add (by omega) (by omega), c1]; omega)
      · rw [if_neg hr] at hG
        show dw_ok (pr_X6_readText K) 43 bc bs [some (.ref 131), some (.ref 1), some (.ref 4), some (.int i)] [.int 0] (n, SH1, I2, J)
        refine q_if (c := 1) rfl (by decide) (fun h => absurd rfl h) (fun _ => ?_)
        refine q_ic rfl ?_
        rw [← hG] at hno
        exact q_iret rfl (hno hr I2 hR2 g7 g8)
    · have h : (I1 1 5).toInt = 0 := h
      have hT0 : (tkF (tbC I0) N m p).1 = 0 := by omega
      rw [if_pos hT0] at hG
      refine q_ald rfl rfl ?_
      refine q_getr rfl sk_131 sr_131_0 ?_
      refine q_ild rfl rfl ?_
      refine q_puti rfl sk_132 ?_
      refine q_ild rfl rfl ?_
      rw [← hG] at hok
      exact q_iret rfl (hok rfl I1 i hR1 hi hL.symm (by omega))
set_option maxRecDepth 8000 in
theorem v_ptext {n : Nat} {I : Nat → Nat → Int32} {J : Nat → Nat → Int64} {K : dw_K} {N : Nat} {C R : Int} {G : Nat × Nat × Nat × List pL} (hN : (I 1 1).toInt = N) (hN9 : N ≤ 940) (hC : (I 4 0).toInt = C) (hC0 : 0 ≤ C) (hC9 : C ≤ 144) (hRr : (I 4 1).toInt = R) (hR0 : 0 ≤ R) (hR9 : R ≤ 144) (hG : pgF (tbC I) N 300 C R 31 0 0 [] = G)
    (hok : G.1 = 0 → ∀ (I' : Nat → Nat → Int32) (w : Int32), (∀ a, a ≠ 1 → (a < 132 ∨ 163 < a) → I' a = I a) → I' 1 0 = I 1 0 → I' 1 1 = I 1 1 → I' 132 0 = w → (∀ i, i < G.2.2.2.length → (I' (134 + i) 0).toInt = (atF p0 G.2.2.2 i).1 ∧ I' (134 + i) 1 = (atF p0 G.2.2.2 i).2.1 ∧ ((atF p0 G.2.2.2 i).1 ≠ 0 → I' (134 + i) 2 = (atF p0 G.2.2.2 i).2.2)) → w.toInt = G.2.2.1 → G.2.2.1 = G.2.2.2.length → w.toInt ≤ 30 → K (some (.int w)) (n, SH1, I', J))
    (hno : G.1 ≠ 0 → ∀ I' : Nat → Nat → Int32, (∀ a, a ≠ 1 → (a < 132 ∨ 163 < a) → I' a = I a) → I' 1 0 = I 1 0 → I' 1 1 = I 1 1 → (I' 1 7).toInt = G.1 → (I' 1 8).toInt = G.2.1 → K (some (.int (-1))) (n, SH1, I', J)) : t_X6_readText [.ref 131, .ref 1, .ref 4] (n, SH1, I, J) K := by
  refine q_body (Nat.le_of_ble_eq_true rfl) ?_
  refine q_ald rfl rfl ?_
  refine q_ic rfl ?_
  refine q_callV (as := [.int 300]) (rest := []) rfl rfl sk_1 rfl (Nat.le_of_ble_eq_true rfl) ?_
  refine v_open ?_
  refine q_ic rfl ?_
  refine q_ist rfl rfl ?_
  obtain ⟨I2, hI2⟩ : ∃ X, X = dw_up (dw_up (dw_up (dw_up (dw_up I 1 2 300) 1 3 0) 1 4 0) 1 7 0) 1 8 0 := ⟨_, rfl⟩
  have hr : ∀ a, a ≠ 1 → I2 a = I a := fun a h1 => by rw [hI2]; funext j; simp [dw_up, h1]
  have f1 : I2 1 1 = I 1 1 := by rw [hI2]; rfl
  have f0 : I2 1 0 = I 1 0 := by rw [hI2]; rfl
  have f2 : I2 1 2 = 300 := by rw [hI2]; rfl
  have hb2 : tbC I2 = tbC I := tbC_eq f1 (hr 2 (by decide))
  show dw_ok (pr_X6_readText K) 9 0 0 [some (.ref 131), some (.ref 1), some (.ref 4), some (.int 0)] [] (n, SH1, dw_up (dw_up (dw_up (dw_up (dw_up I 1 2 300) 1 3 0) 1 4 0) 1 7 0) 1 8 0, J)
  rw [← hI2]
  rw [← hb2] at hG
  have h4 : I2 4 = I 4 := hr 4 (by decide)
  refine pt_loop (I0 := I2) (G := G) (by rw [f1]; exact hN) hN9 (m := 300) (by rw [f2]; rfl) (by rw [h4]; exact hC) hC0 hC9 (by rw [h4]; exact hRr) hR0 hR9 (fun hg I' w hR' hw hl h30 => ?_) (fun hg I' hR' g7 g8 => ?_) 30 0 0 0 [] I2 rfl rfl hG ⟨fun _ _ _ => rfl, fun _ _ => rfl, fun i hi => absurd hi (Nat.not_lt_zero i)⟩ (by rw [hI2]; rfl) (Nat.zero_le _) rfl
  · have hw30 : G.2.2.2.length ≤ 30 := by omega
    refine hok hg (dw_up I' 132 0 w) w (fun a h1 h2 => ?_) ?_ ?_ up_same (fun i hi => ?_) hw hl h30
    · rw [up_row (by omega), hR'.1 a h1 (by omega)]; exact hr a h1
    · rw [up_row (by decide), hR'.2.1 0 (by decide)]; exact f0
    · rw [up_row (by decide), hR'.2.1 1 (by decide)]; exact f1
    · rw [up_row (by omega)]; exact hR'.2.2 i hi
  · refine hno hg I' (fun a h1 h2 => ?_) ?_ ?_ g7 g8
    · rw [hR'.1 a h1 (by omega)]; exact hr a h1
    · rw [hR'.2.1 0 (by decide)]; exact f0
    · rw [hR'.2.1 1 (by decide)]; exact f1
set_option maxRecDepth 8000 in
theorem v_cplan {n : Nat} {I : Nat → Nat → Int32} {J : Nat → Nat → Int64} {K : dw_K} {N : Nat} {C R : Int} {G : Nat × Nat × Nat × List pL} (hN : (I 1 1).toInt = N) (hN9 : N ≤ 940) (hC : (I 4 0).toInt = C) (hC0 : 0 ≤ C) (hC9 : C ≤ 144) (hRr : (I 4 1).toInt = R) (hR0 : 0 ≤ R) (hR9 : R ≤ 144) (hG : pgF (tbC I) N 300 C R 31 0 0 [] = G) (hpl : G.2.1 ≤ 940)
    (h1 : G.1 = 0 → ∀ (I' : Nat → Nat → Int32) (w : Int32), (∀ a, a ≠ 1 → (a < 132 ∨ 163 < a) → a ≠ 11 → (a < 13 ∨ 42 < a) → I' a = I a) → I' 1 1 = 0 → I' 11 0 = w → (∀ i, i < G.2.2.2.length → (I' (13 + i) 0).toInt = (atF p0 G.2.2.2 i).1 ∧ I' (13 + i) 1 = (atF p0 G.2.2.2 i).2.1 ∧ ((atF p0 G.2.2.2 i).1 ≠ 0 → I' (13 + i) 2 = (atF p0 G.2.2.2 i).2.2)) → w.toInt = G.2.2.1 → G.2.2.1 = G.2.2.2.length → w.toInt ≤ 30 → K (some (.int w)) (n, SH1, I', J))
    (h2 : G.1 ≠ 0 → ∀ (I' : Nat → Nat → Int32) (w : Int32), (∀ a, a ≠ 1 → (a < 132 ∨ 163 < a) → I' a = I a) → I' 1 1 = 0 → w.toInt = -1 - (G.2.1 : Int) → K (some (.int w)) (n, SH1, I', J)) : t_X11_plan [.ref 0] (n, SH1, I, J) K := by
  have cm : (-1 : Int32).toInt = -1 := rfl
  refine q_body (Nat.le_of_ble_eq_true rfl) ?_
  refine q_ald rfl rfl ?_
  refine q_getr rfl sk_0 sr_0_5 ?_
  refine q_ald rfl rfl ?_
  refine q_getr rfl sk_0 sr_0_0 ?_
  refine q_ald rfl rfl ?_
  refine q_getr rfl sk_0 sr_0_1 ?_
  refine q_getr rfl sk_3 sr_3_1 ?_
  refine q_callV (as := [.ref 1, .ref 4]) (rest := []) rfl rfl sk_131 rfl (Nat.le_of_ble_eq_true rfl) ?_
  refine v_ptext hN hN9 hC hC0 hC9 hRr hR0 hR9 hG (fun hg I' w hA f0 f1 h0 hB hw hl h30 => ?_) (fun hg I' hA f0 f1 g7 g8 => ?_)
  · show dw_ok (pr_X11_plan K) 18 0 0 [some (.ref 0), none] [.int w] (n, SH1, I', J)
    refine q_ist rfl rfl ?_
    refine q_ald rfl rfl ?_
    refine q_getr rfl sk_0 sr_0_0 ?_
    refine q_ic rfl ?_
    refine q_puti rfl sk_1 ?_
    show dw_ok (pr_X11_plan K) 27 0 0 [some (.ref 0), some (.int w)] [] (n, SH1, dw_up I' 1 1 0, J)
    refine q_ild rfl rfl ?_
    refine q_ic rfl ?_
    refine q_icmp (c := 1) rfl (by decide) (fun _ => ?_) (fun h => absurd (show w.toInt = (-1 : Int32).toInt from h) (by omega))
    refine q_ald rfl rfl ?_
    refine q_getr rfl sk_0 sr_0_1 ?_
    refine q_getr rfl sk_3 sr_3_3 ?_
    refine q_ald rfl rfl ?_
    refine q_getr rfl sk_0 sr_0_5 ?_
    refine q_getr rfl sk_131 sr_131_0 ?_
    refine q_callV (as := [.ref 132]) (rest := []) rfl rfl sk_11 rfl (Nat.le_of_ble_eq_true rfl) ?_
    refine v_pcopy (pt_ok (by decide)) (pt_ok (by decide)) (by decide) (fun I2 hA2 hF2 h20 hB2 => ?_)
    show dw_ok (pr_X11_plan K) 59 0 0 [some (.ref 0), some (.int w)] [] (n, SH1, I2, J)
    refine q_ild rfl rfl ?_
    have hw30 : G.2.2.2.length ≤ 30 := by omega
    have hq : ∀ v, v < 30 → ∀ t, t < 3 → I2 (13 + v) t = I' (134 + v) t := fun v hv t ht => by
      have e := hB2 v hv t ht
      rw [show 11 + 2 + v = 13 + v by omega, show 132 + 2 + v = 134 + v by omega, up_row (by omega)] at e
      exact e
    refine q_iret rfl (h1 hg I2 w (fun a g1 g2 g3 g4 => ?_) ?_ ?_ (fun i hi => ?_) hw hl h30)
    · rw [hA2 a g3 (by omega), up_row g1]; exact hA a g1 g2
    · rw [hA2 1 (by decide) (by decide)]; exact up_same
    · rw [h20, up_row (by decide)]; exact h0
    · rw [hq i (by omega) 0 (by decide), hq i (by omega) 1 (by decide), hq i (by omega) 2 (by decide)]; exact hB i hi
  · show dw_ok (pr_X11_plan K) 18 0 0 [some (.ref 0), none] [.int (-1)] (n, SH1, I', J)
    refine q_ist rfl rfl ?_
    refine q_ald rfl rfl ?_
    refine q_getr rfl sk_0 sr_0_0 ?_
    refine q_ic rfl ?_
    refine q_puti rfl sk_1 ?_
    show dw_ok (pr_X11_plan K) 27 0 0 [some (.ref 0), some (.int (-1))] [] (n, SH1, dw_up I' 1 1 0, J)
    refine q_ild rfl rfl ?_
    refine q_ic rfl ?_
    refine q_icmp (c := 1) rfl (by decide) (fun h => absurd rfl h) (fun _ => ?_)
    refine q_ic rfl ?_
    refine q_ald rfl rfl ?_
    refine q_getr rfl sk_0 sr_0_0 ?_
    refine q_geti rfl sk_1 ?_
    refine q_sub rfl ?_
    refine q_iret rfl (h2 hg (dw_up I' 1 1 0) (-1 - I' 1 8) (fun a g1 g2 => (up_row g1).trans (hA a g1 g2)) up_same ?_)
    rw [i_sub (by omega) (by omega), cm, g8]
end
section
/-! ===== a PLAN's text read by the model ===== -/
/-- what the model keeps of lines (the latest first); W: how many columns -/
def mpF (R : Nat → Int32) (W : Int32) : List pL → Prop
  | [] => True
  | l :: r => R (1 + 3 * r.length) = Int32.ofNat l.1 ∧ R (2 + 3 * r.length) = (if l.1 = 0 then l.2.1 else W * l.2.2 + l.2.1) ∧ mpF R W r
set_option maxRecDepth 8000 in
theorem mp_same {R R' : Nat → Int32} {W : Int32} : ∀ (L : List pL), (∀ j, 1 ≤ j → j < 1 + 3 * L.length → R' j = R j) → mpF R W L → mpF R' W L
  | [], _, _ => trivial
  | l :: r, h, g => by
    have hl : (l :: r).length = r.length + 1 := rfl
    obtain ⟨g1, g2, g3⟩ := g
    exact ⟨(h _ (by omega) (by omega)).trans g1, (h _ (by omega) (by omega)).trans g2, mp_same r (fun j h1 hj => h j h1 (by omega)) g3⟩
/-- the model's reader of a PLAN, going on: behind ln lines -/
def PMp (I0 : Nat → Nat → Int32) (J0 : Nat → Nat → Int64) (ln : Nat) (I : Nat → Nat → Int32) (J : Nat → Nat → Int64) : Prop :=
  (∀ a, a ≠ 404 → a ≠ 408 → I a = I0 a) ∧ (∀ j, mF j → I 404 j = I0 404 j) ∧ (∀ j, j < 1 + 3 * ln → I 408 j = I0 408 j) ∧ (∀ a, a ≠ 404 → J a = J0 a) ∧ ∀ j, j ≠ 17 → j ≠ 18 → J 404 j = J0 404 j
set_option maxRecDepth 8000 in
theorem pmV {I0 : Nat → Nat → Int32} {J0 : Nat → Nat → Int64} {ln : Nat} {P : (Nat → Int32) → Prop} : MInv I0 (fun I J => PMp I0 J0 ln I J ∧ P (I 408)) := by
  refine ⟨fun I J I1 J1 h hA hF hJa hJf => ⟨⟨fun a h1 h2 => (hA a h1).trans (h.1.1 a h1 h2), fun j hj => (hF j hj).trans (h.1.2.1 j hj), fun j hj => ?_, fun a ha => (hJa a ha).trans (h.1.2.2.2.1 a ha), fun j h1 h2 => (hJf j h1 h2).trans (h.1.2.2.2.2 j h1 h2)⟩, ?_⟩, fun I J h => ⟨h.1.2.1 3 (by decide), h.1.2.1 5 (by decide), h.1.1 405 (by decide) (by decide)⟩⟩
  · rw [hA 408 (by decide)]; exact h.1.2.2.1 j hj
  · rw [hA 408 (by decide)]; exact h.2
set_option maxRecDepth 8000 in
theorem pm_up {I0 I : Nat → Nat → Int32} {J0 J : Nat → Nat → Int64} {ln q : Nat} {x : Int32} (h : PMp I0 J0 ln I J) (hq : 1 + 3 * ln ≤ q) : PMp I0 J0 ln (dw_up I 408 q x) J := by
  refine ⟨fun a h1 h2 => (up_row h2).trans (h.1 a h1 h2), fun j hj => (congrFun (up_row (show 404 ≠ 408 by decide)) j).trans (h.2.1 j hj), fun j hj => ?_, h.2.2.2.1, h.2.2.2.2⟩
  rw [up_fld (by omega)]; exact h.2.2.1 j hj
set_option maxRecDepth 8000 in
theorem v_numberOf {n : Nat} {I : Nat → Nat → Int32} {J : Nat → Nat → Int64} {K : dw_K} {x y : Int32} (hk : K (some (.int (I 406 0 * y + x))) (n, SH1, I, J)) : t_X12_numberOf [.ref 404, .int x, .int y] (n, SH1, I, J) K := by
  refine q_body (Nat.le_of_ble_eq_true rfl) ?_
  refine q_ald rfl rfl ?_
  refine q_getr rfl sk_404 sr_404_6 ?_
  refine q_ic rfl ?_
  refine q_xald rfl (Or.inl rfl) sk_406 sn_406 (by decide) (by decide) ?_
  refine q_ild rfl rfl ?_
  refine q_mul rfl ?_
  refine q_ild rfl rfl ?_
  refine q_add rfl ?_
  exact q_iret rfl hk
set_option maxRecDepth 8000 in
set_option maxHeartbeats 4000000 in
theorem v_mpline0 {n : Nat} {I : Nat → Nat → Int32} {J : Nat → Nat → Int64} {K : dw_K} {I0 : Nat → Nat → Int32} {J0 : Nat → Nat → Int64} {T : fT} {N m ln p : Nat} {C R : Int} (hR : PMp I0 J0 ln I J) (hN : (I0 404 3).toInt = N) (hN9 : N ≤ 940) (hm : (I0 404 5).toInt = m) (hT : MK (tbM I0) T I J) (hTe : T = tkF (tbM I0) N m p) (hp : p ≤ N) (hln : (I0 404 21).toInt = ln) (hl30 : ln ≤ 30) (hC : (I0 406 0).toInt = C) (hC0 : 0 ≤ C) (hC9 : C ≤ 144) (hRr : (I0 406 1).toInt = R) (hR0 : 0 ≤ R) (hR9 : R ≤ 144) (hw : wpF (tbM I0) T = 0)
    (hok : ∀ (T' : fT) (p' : Nat) (l : pL) (I' : Nat → Nat → Int32) (J' : Nat → Nat → Int64), (plF (tbM I0) N m ln C R T) = stP T' (fun p => (0, 0, p, l)) → T' = tkF (tbM I0) N m p' → p' ≤ N → MK (tbM I0) T' I' J' → PMp I0 J0 ln I' J' → I' 408 (1 + 3 * ln) = Int32.ofNat l.1 ∧ I' 408 (2 + 3 * ln) = (if l.1 = 0 then l.2.1 else I0 406 0 * l.2.2 + l.2.1) → K (some (.int 1)) (n, SH1, I', J'))
    (hno : (plF (tbM I0) N m ln C R T).1 ≠ 0 → ∀ (I' : Nat → Nat → Int32) (J' : Nat → Nat → Int64), PMp I0 J0 ln I' J' → (I' 404 15).toInt = (plF (tbM I0) N m ln C R T).1 → (I' 404 16).toInt = (plF (tbM I0) N m ln C R T).2.1 → K (some (.int 0)) (n, SH1, I', J')) : dw_ok (pr_X12_planLine K) 58 0 0 [some (.ref 404), some (.int 0), none] [] (n, SH1, I, J) := by
  have c30 : (30 : Int32).toInt = 30 := rfl
  have c1 : (1 : Int32).toInt = 1 := rfl
  have c3 : (3 : Int32).toInt = 3 := rfl
  have hw9 : ¬ (0 = 9) := by decide
  have h21 : (I 404 21).toInt = ln := by rw [hR.2.1 21 (by decide)]; exact hln
  have hI0 : PMp I0 J0 ln I J ∧ (fun _ => True) (I 408) := ⟨hR, trivial⟩
  refine q_ild rfl rfl ?_
  refine q_if (c := 3) rfl (by decide) (fun _ => ?_) (fun h => absurd (show (0 : Int32).toInt < 0 from h) (by decide))
  refine q_ald rfl rfl ?_
  refine q_geti rfl sk_404 ?_
  refine q_ic rfl ?_
  refine q_icmp (c := 1) rfl (by decide) (fun h => ?_) (fun h => ?_)
  rotate_left
  · have h : (I 404 21).toInt = (30 : Int32).toInt := h
    have hg : 30 ≤ ln := by omega
    have eR : (plF (tbM I0) N m ln C R T) = (4, T.2.1, 0, p0) := by simp only [plF, hw, hg, hw9, ↓reduceIte]
    refine q_ald rfl rfl ?_
    refine q_ic rfl ?_
    refine mb_step (c := 4) rfl rfl (pmV (J0 := J0) (P := fun _ => True)) hI0 (fun I1 J1 hI1 g7 g8 => ?_)
    rw [eR] at hno
    exact hno (nn rfl) I1 J1 hI1.1 g7 (g8.trans hT.2.1)
  have h : (I 404 21).toInt ≠ (30 : Int32).toInt := h
  have hg : ¬ (30 ≤ ln) := by omega
  have t3 : (3 * I 404 21).toInt = 3 * ln := i_mul (by rw [c3, h21]) (by omega) (by omega)
  have tto : (1 + 3 * I 404 21).toInt = 1 + 3 * ln := by rw [i_add (by omega) (by omega), c1, t3]
  have tt1 : (1 + 3 * I 404 21 + 1).toInt = 2 + 3 * ln := by rw [i_add (by omega) (by omega), tto, c1]; omega
  have n0 : (1 + 3 * I 404 21).toInt.toNat = 1 + 3 * ln := by omega
  have n1 : (1 + 3 * I 404 21 + 1).toInt.toNat = 2 + 3 * ln := by omega
  refine q_ic rfl ?_
  refine q_ic rfl ?_
  refine q_ald rfl rfl ?_
  refine q_geti rfl sk_404 ?_
  refine q_mul rfl ?_
  refine q_add rfl ?_
  refine q_ist rfl rfl ?_
  show dw_ok (pr_X12_planLine K) 92 0 0 [some (.ref 404), some (.int 0), some (.int (1 + 3 * I 404 21))] [] (n, SH1, I, J)
  have hw1 : T.1 = 1 := wp_1 (by rw [hw]; decide)
  have hin := tkF_in (b := tbM I0) (n := N) (m := m) (p := p) hp
  rw [← hTe] at hin
  refine q_ald rfl rfl ?_
  refine mn_step (p := T.2.2.1) rfl (pmV (J0 := J0) (P := fun _ => True)) hI0 hN hN9 hm hin.2.2.1 (hT.2.2.1 (Or.inl hw1)) (fun I1 J1 hI1 hM1 => ?_)
  obtain ⟨T1, hT1⟩ : ∃ t, t = tkF (tbM I0) N m T.2.2.1 := ⟨_, rfl⟩
  have hin1 := tkF_in (b := tbM I0) (n := N) (m := m) (p := T.2.2.1) hin.2.2.1
  rw [← hT1] at hM1 hin1
  refine q_ald rfl rfl ?_
  refine q_getr rfl sk_404 sr_404_8 ?_
  refine q_ild rfl rfl ?_
  refine q_ild rfl rfl ?_
  refine q_iast rfl sk_408 sn_408 (by omega) (by omega) ?_
  rw [n0]
  show dw_ok (pr_X12_planLine K) 103 0 0 [some (.ref 404), some (.int 0), some (.int (1 + 3 * I 404 21))] [] (n, SH1, dw_up I1 408 (1 + 3 * ln) 0, J1)
  obtain ⟨I2, hI2⟩ : ∃ X, X = dw_up I1 408 (1 + 3 * ln) 0 := ⟨_, rfl⟩
  have hR2 : PMp I0 J0 ln I2 J1 := by rw [hI2]; exact pm_up hI1.1 (by omega)
  have hD2 : I2 408 (1 + 3 * ln) = 0 := by rw [hI2]; exact up_same
  have hM2 : MK (tbM I0) T1 I2 J1 := mk_row (by rw [hI2]; exact up_row (by decide)) hM1
  rw [← hI2]
  refine q_ild rfl rfl ?_
  refine q_if (c := 1) rfl (by decide) (fun h => absurd rfl h) (fun _ => ?_)
  refine q_ald rfl rfl ?_
  refine q_ic rfl ?_
  refine q_ic rfl ?_
  refine mt_step (T := T1) (lo := 1) (hi := 144) rfl rfl rfl rfl (pmV (P := fun f => f (1 + 3 * ln) = 0)) ⟨hR2, hD2⟩ hN hN9 hm hM2 hin1.2.2.1 ?_ ?_
  rotate_left
  · intro e1 I9 J9 hI9 g7 g8
    have e1 : nbF T1 1 144 ≠ 0 := e1
    have eR : (plF (tbM I0) N m ln C R T) = (nbF T1 1 144, T1.2.1, 0, p0) := by simp only [plF, nbP, hw, hw9, hg, ← hT1, e1, ↓reduceIte]
    rw [eR] at hno
    exact hno e1 I9 J9 hI9.1 g7 g8
  intro e1 I3 J3 hI3 hM3 g19
  have e1 : nbF T1 1 144 = 0 := e1
  obtain ⟨hR3, hD3⟩ := hI3
  refine q_ald rfl rfl ?_
  refine q_getr rfl sk_404 sr_404_8 ?_
  refine q_ild rfl rfl ?_
  refine q_ic rfl ?_
  refine q_add rfl ?_
  refine q_ald rfl rfl ?_
  refine q_geti rfl sk_404 ?_
  refine q_iast rfl sk_408 sn_408 (by omega) (by omega) ?_
  rw [n1]
  show dw_ok (pr_X12_planLine K) 132 0 0 [some (.ref 404), some (.int 0), some (.int (1 + 3 * I 404 21))] [] (n, SH1, dw_up I3 408 (2 + 3 * ln) (I3 404 19), J3)
  rw [g19]
  refine q_ic rfl ?_
  have eR : (plF (tbM I0) N m ln C R T) = stP (tkF (tbM I0) N m T1.2.2.1) (fun p => (0, 0, p, 0, T1.2.2.2, 0)) := by simp only [plF, nbP, hw, hw9, hg, ← hT1, e1, ↓reduceIte]
  refine q_zret rfl (Or.inr rfl) (hok _ _ (0, T1.2.2.2, 0) (dw_up I3 408 (2 + 3 * ln) T1.2.2.2) J3 eR rfl hin1.2.2.1 (mk_row (up_row (by decide)) hM3) (pm_up hR3 (by omega)) ⟨?_, ?_⟩)
  · exact (up_fld (by omega)).trans hD3
  · exact up_same
set_option maxRecDepth 8000 in
set_option maxHeartbeats 4000000 in
theorem v_mpline1 {n : Nat} {I : Nat → Nat → Int32} {J : Nat → Nat → Int64} {K : dw_K} {I0 : Nat → Nat → Int32} {J0 : Nat → Nat → Int64} {T : fT} {N m ln p : Nat} {C R : Int} (hR : PMp I0 J0 ln I J) (hN : (I0 404 3).toInt = N) (hN9 : N ≤ 940) (hm : (I0 404 5).toInt = m) (hT : MK (tbM I0) T I J) (hTe : T = tkF (tbM I0) N m p) (hp : p ≤ N) (hln : (I0 404 21).toInt = ln) (hl30 : ln ≤ 30) (hC : (I0 406 0).toInt = C) (hC0 : 0 ≤ C) (hC9 : C ≤ 144) (hRr : (I0 406 1).toInt = R) (hR0 : 0 ≤ R) (hR9 : R ≤ 144) (hw : wpF (tbM I0) T = 1)
    (hok : ∀ (T' : fT) (p' : Nat) (l : pL) (I' : Nat → Nat → Int32) (J' : Nat → Nat → Int64), (plF (tbM I0) N m ln C R T) = stP T' (fun p => (0, 0, p, l)) → T' = tkF (tbM I0) N m p' → p' ≤ N → MK (tbM I0) T' I' J' → PMp I0 J0 ln I' J' → I' 408 (1 + 3 * ln) = Int32.ofNat l.1 ∧ I' 408 (2 + 3 * ln) = (if l.1 = 0 then l.2.1 else I0 406 0 * l.2.2 + l.2.1) → K (some (.int 1)) (n, SH1, I', J'))
    (hno : (plF (tbM I0) N m ln C R T).1 ≠ 0 → ∀ (I' : Nat → Nat → Int32) (J' : Nat → Nat → Int64), PMp I0 J0 ln I' J' → (I' 404 15).toInt = (plF (tbM I0) N m ln C R T).1 → (I' 404 16).toInt = (plF (tbM I0) N m ln C R T).2.1 → K (some (.int 0)) (n, SH1, I', J')) : dw_ok (pr_X12_planLine K) 58 0 0 [some (.ref 404), some (.int 1), none] [] (n, SH1, I, J) := by
  have c30 : (30 : Int32).toInt = 30 := rfl
  have c1 : (1 : Int32).toInt = 1 := rfl
  have c3 : (3 : Int32).toInt = 3 := rfl
  have hw9 : ¬ (1 = 9) := by decide
  have hk0 : ¬ (1 = 0) := by decide
  have h21 : (I 404 21).toInt = ln := by rw [hR.2.1 21 (by decide)]; exact hln
  have hI0 : PMp I0 J0 ln I J ∧ (fun _ => True) (I 408) := ⟨hR, trivial⟩
  refine q_ild rfl rfl ?_
  refine q_if (c := 3) rfl (by decide) (fun _ => ?_) (fun h => absurd (show (1 : Int32).toInt < 0 from h) (by decide))
  refine q_ald rfl rfl ?_
  refine q_geti rfl sk_404 ?_
  refine q_ic rfl ?_
  refine q_icmp (c := 1) rfl (by decide) (fun h => ?_) (fun h => ?_)
  rotate_left
  · have h : (I 404 21).toInt = (30 : Int32).toInt := h
    have hg : 30 ≤ ln := by omega
    have eR : (plF (tbM I0) N m ln C R T) = (4, T.2.1, 0, p0) := by simp only [plF, hw, hg, hw9, ↓reduceIte]
    refine q_ald rfl rfl ?_
    refine q_ic rfl ?_
    refine mb_step (c := 4) rfl rfl (pmV (J0 := J0) (P := fun _ => True)) hI0 (fun I1 J1 hI1 g7 g8 => ?_)
    rw [eR] at hno
    exact hno (nn rfl) I1 J1 hI1.1 g7 (g8.trans hT.2.1)
  have h : (I 404 21).toInt ≠ (30 : Int32).toInt := h
  have hg : ¬ (30 ≤ ln) := by omega
  have t3 : (3 * I 404 21).toInt = 3 * ln := i_mul (by rw [c3, h21]) (by omega) (by omega)
  have tto : (1 + 3 * I 404 21).toInt = 1 + 3 * ln := by rw [i_add (by omega) (by omega), c1, t3]
  have tt1 : (1 + 3 * I 404 21 + 1).toInt = 2 + 3 * ln := by rw [i_add (by omega) (by omega), tto, c1]; omega
  have n0 : (1 + 3 * I 404 21).toInt.toNat = 1 + 3 * ln := by omega
  have n1 : (1 + 3 * I 404 21 + 1).toInt.toNat = 2 + 3 * ln := by omega
  refine q_ic rfl ?_
  refine q_ic rfl ?_
  refine q_ald rfl rfl ?_
  refine q_geti rfl sk_404 ?_
  refine q_mul rfl ?_
  refine q_add rfl ?_
  refine q_ist rfl rfl ?_
  show dw_ok (pr_X12_planLine K) 92 0 0 [some (.ref 404), some (.int 1), some (.int (1 + 3 * I 404 21))] [] (n, SH1, I, J)
  have hw1 : T.1 = 1 := wp_1 (by rw [hw]; decide)
  have hin := tkF_in (b := tbM I0) (n := N) (m := m) (p := p) hp
  rw [← hTe] at hin
  refine q_ald rfl rfl ?_
  refine mn_step (p := T.2.2.1) rfl (pmV (J0 := J0) (P := fun _ => True)) hI0 hN hN9 hm hin.2.2.1 (hT.2.2.1 (Or.inl hw1)) (fun I1 J1 hI1 hM1 => ?_)
  obtain ⟨T1, hT1⟩ : ∃ t, t = tkF (tbM I0) N m T.2.2.1 := ⟨_, rfl⟩
  have hin1 := tkF_in (b := tbM I0) (n := N) (m := m) (p := T.2.2.1) hin.2.2.1
  rw [← hT1] at hM1 hin1
  refine q_ald rfl rfl ?_
  refine q_getr rfl sk_404 sr_404_8 ?_
  refine q_ild rfl rfl ?_
  refine q_ild rfl rfl ?_
  refine q_iast rfl sk_408 sn_408 (by omega) (by omega) ?_
  rw [n0]
  show dw_ok (pr_X12_planLine K) 103 0 0 [some (.ref 404), some (.int 1), some (.int (1 + 3 * I 404 21))] [] (n, SH1, dw_up I1 408 (1 + 3 * ln) 1, J1)
  obtain ⟨I2, hI2⟩ : ∃ X, X = dw_up I1 408 (1 + 3 * ln) 1 := ⟨_, rfl⟩
  have hR2 : PMp I0 J0 ln I2 J1 := by rw [hI2]; exact pm_up hI1.1 (by omega)
  have hD2 : I2 408 (1 + 3 * ln) = 1 := by rw [hI2]; exact up_same
  have hM2 : MK (tbM I0) T1 I2 J1 := mk_row (by rw [hI2]; exact up_row (by decide)) hM1
  rw [← hI2]
  refine q_ild rfl rfl ?_
  refine q_if (c := 1) rfl (by decide) (fun _ => ?_) (fun h => absurd (show (1 : Int32).toInt = 0 from h) (by decide))
  refine q_ald rfl rfl ?_
  refine q_ic rfl ?_
  refine q_ald rfl rfl ?_
  refine q_getr rfl sk_404 sr_404_6 ?_
  refine q_ic rfl ?_
  refine q_xald rfl (Or.inl rfl) sk_406 sn_406 (by decide) (by decide) ?_
  refine q_ic rfl ?_
  refine q_sub rfl ?_
  show dw_ok (pr_X12_planLine K) 144 0 0 [some (.ref 404), some (.int 1), some (.int (1 + 3 * I 404 21))] [.int (I2 406 0 - 1), .int 0, .ref 404] (n, SH1, I2, J1)
  have eh1 : (I2 406 0 - 1).toInt = C - 1 := by
    rw [hR2.1 406 (by decide) (by decide), i_sub (by omega) (by omega), hC, c1]
  refine mt_step (T := T1) rfl rfl rfl rfl (pmV (P := fun f => f (1 + 3 * ln) = 1)) ⟨hR2, hD2⟩ hN hN9 hm hM2 hin1.2.2.1 ?_ ?_
  rotate_left
  · intro e1 I9 J9 hI9 g7 g8
    rw [eh1] at e1 g7
    have e1 : nbF T1 0 (C - 1) ≠ 0 := e1
    have eR : (plF (tbM I0) N m ln C R T) = (nbF T1 0 (C - 1), T1.2.1, 0, p0) := by simp only [plF, nbP, hw, hw9, hg, hk0, ← hT1, e1, ↓reduceIte]
    rw [eR] at hno
    exact hno e1 I9 J9 hI9.1 g7 g8
  intro e1 I3 J3 hI3 hM3 g319
  rw [eh1] at e1
  have e1 : nbF T1 0 (C - 1) = 0 := e1
  obtain ⟨hR3, hD3⟩ := hI3
  refine q_ald rfl rfl ?_
  refine q_getr rfl sk_404 sr_404_8 ?_
  refine q_ild rfl rfl ?_
  refine q_ic rfl ?_
  refine q_add rfl ?_
  refine q_ald rfl rfl ?_
  refine q_geti rfl sk_404 ?_
  refine q_iast rfl sk_408 sn_408 (by omega) (by omega) ?_
  rw [n1]
  show dw_ok (pr_X12_planLine K) 164 0 0 [some (.ref 404), some (.int 1), some (.int (1 + 3 * I 404 21))] [] (n, SH1, dw_up I3 408 (2 + 3 * ln) (I3 404 19), J3)
  rw [g319]
  obtain ⟨I4, hI4⟩ : ∃ X, X = dw_up I3 408 (2 + 3 * ln) T1.2.2.2 := ⟨_, rfl⟩
  have hR4 : PMp I0 J0 ln I4 J3 := by rw [hI4]; exact pm_up hR3 (by omega)
  have hD4 : I4 408 (1 + 3 * ln) = 1 ∧ I4 408 (2 + 3 * ln) = T1.2.2.2 := by
    rw [hI4]
    exact ⟨(up_fld (by omega)).trans hD3, up_same⟩
  have hM4 : MK (tbM I0) (tkF (tbM I0) N m T1.2.2.1) I4 J3 := mk_row (by rw [hI4]; exact up_row (by decide)) hM3
  obtain ⟨T2, hT2⟩ : ∃ t, t = tkF (tbM I0) N m T1.2.2.1 := ⟨_, rfl⟩
  have hin2 := tkF_in (b := tbM I0) (n := N) (m := m) (p := T1.2.2.1) hin1.2.2.1
  rw [← hT2] at hM4 hin2
  rw [← hI4]
  refine q_ald rfl rfl ?_
  refine q_ic rfl ?_
  refine q_ald rfl rfl ?_
  refine q_getr rfl sk_404 sr_404_6 ?_
  refine q_ic rfl ?_
  refine q_xald rfl (Or.inl rfl) sk_406 sn_406 (by decide) (by decide) ?_
  refine q_ic rfl ?_
  refine q_sub rfl ?_
  show dw_ok (pr_X12_planLine K) 174 0 0 [some (.ref 404), some (.int 1), some (.int (1 + 3 * I 404 21))] [.int (I4 406 1 - 1), .int 0, .ref 404] (n, SH1, I4, J3)
  have eh2 : (I4 406 1 - 1).toInt = R - 1 := by
    rw [hR4.1 406 (by decide) (by decide), i_sub (by omega) (by omega), hRr, c1]
  refine mt_step (T := T2) rfl rfl rfl rfl (pmV (P := fun f => f (1 + 3 * ln) = 1 ∧ f (2 + 3 * ln) = T1.2.2.2)) ⟨hR4, hD4⟩ hN hN9 hm hM4 hin2.2.2.1 ?_ ?_
  rotate_left
  · intro e2 I9 J9 hI9 g7 g8
    rw [eh2] at e2 g7
    have e2 : nbF T2 0 (R - 1) ≠ 0 := e2
    have eR : (plF (tbM I0) N m ln C R T) = (nbF T2 0 (R - 1), T2.2.1, 0, p0) := by simp only [plF, nbP, hw, hw9, hg, hk0, ← hT1, e1, ← hT2, e2, ↓reduceIte]
    rw [eR] at hno
    exact hno e2 I9 J9 hI9.1 g7 g8
  intro e2 I5 J5 hI5 hM5 g519
  rw [eh2] at e2
  have e2 : nbF T2 0 (R - 1) = 0 := e2
  obtain ⟨hR5, hD5⟩ := hI5
  refine q_ald rfl rfl ?_
  refine q_getr rfl sk_404 sr_404_8 ?_
  refine q_ild rfl rfl ?_
  refine q_ic rfl ?_
  refine q_add rfl ?_
  refine q_ald rfl rfl ?_
  refine q_ald rfl rfl ?_
  refine q_getr rfl sk_404 sr_404_8 ?_
  refine q_ild rfl rfl ?_
  refine q_ic rfl ?_
  refine q_add rfl ?_
  refine q_xald rfl (Or.inl rfl) sk_408 sn_408 (by omega) (by omega) ?_
  refine q_ald rfl rfl ?_
  refine q_geti rfl sk_404 ?_
  show dw_ok (pr_X12_planLine K) 202 0 0 [some (.ref 404), some (.int 1), some (.int (1 + 3 * I 404 21))] [.int (I5 404 19), .int (I5 408 (1 + 3 * I 404 21 + 1).toInt.toNat), .ref 404, .int (1 + 3 * I 404 21 + 1), .ref 408] (n, SH1, I5, J5)
  rw [g519, n1, hD5.2]
  refine q_callV (as := [.int T1.2.2.2, .int T2.2.2.2]) (rest := [.int (1 + 3 * I 404 21 + 1), .ref 408]) rfl rfl sk_404 rfl (Nat.le_of_ble_eq_true rfl) ?_
  refine v_numberOf ?_
  rw [hR5.1 406 (by decide) (by decide)]
  show dw_ok (pr_X12_planLine K) 205 0 0 [some (.ref 404), some (.int 1), some (.int (1 + 3 * I 404 21))] [.int (I0 406 0 * T2.2.2.2 + T1.2.2.2), .int (1 + 3 * I 404 21 + 1), .ref 408] (n, SH1, I5, J5)
  refine q_iast rfl sk_408 sn_408 (by omega) (by omega) ?_
  rw [n1]
  refine q_ic rfl ?_
  have eR : (plF (tbM I0) N m ln C R T) = stP (tkF (tbM I0) N m T2.2.2.1) (fun p => (0, 0, p, 1, T1.2.2.2, T2.2.2.2)) := by simp only [plF, nbP, hw, hw9, hg, hk0, ← hT1, e1, ← hT2, e2, ↓reduceIte]
  refine q_zret rfl (Or.inr rfl) (hok _ _ (1, T1.2.2.2, T2.2.2.2) (dw_up I5 408 (2 + 3 * ln) (I0 406 0 * T2.2.2.2 + T1.2.2.2)) J5 eR rfl hin2.2.2.1 (mk_row (up_row (by decide)) hM5) (pm_up hR5 (by omega)) ⟨?_, ?_⟩)
  · exact (up_fld (by omega)).trans hD5.1
  · rw [if_neg hk0]; exact up_same
set_option maxRecDepth 8000 in
set_option maxHeartbeats 4000000 in
theorem v_mpline2 {n : Nat} {I : Nat → Nat → Int32} {J : Nat → Nat → Int64} {K : dw_K} {I0 : Nat → Nat → Int32} {J0 : Nat → Nat → Int64} {T : fT} {N m ln p : Nat} {C R : Int} (hR : PMp I0 J0 ln I J) (hN : (I0 404 3).toInt = N) (hN9 : N ≤ 940) (hm : (I0 404 5).toInt = m) (hT : MK (tbM I0) T I J) (hTe : T = tkF (tbM I0) N m p) (hp : p ≤ N) (hln : (I0 404 21).toInt = ln) (hl30 : ln ≤ 30) (hC : (I0 406 0).toInt = C) (hC0 : 0 ≤ C) (hC9 : C ≤ 144) (hRr : (I0 406 1).toInt = R) (hR0 : 0 ≤ R) (hR9 : R ≤ 144) (hw : wpF (tbM I0) T = 2)
    (hok : ∀ (T' : fT) (p' : Nat) (l : pL) (I' : Nat → Nat → Int32) (J' : Nat → Nat → Int64), (plF (tbM I0) N m ln C R T) = stP T' (fun p => (0, 0, p, l)) → T' = tkF (tbM I0) N m p' → p' ≤ N → MK (tbM I0) T' I' J' → PMp I0 J0 ln I' J' → I' 408 (1 + 3 * ln) = Int32.ofNat l.1 ∧ I' 408 (2 + 3 * ln) = (if l.1 = 0 then l.2.1 else I0 406 0 * l.2.2 + l.2.1) → K (some (.int 1)) (n, SH1, I', J'))
    (hno : (plF (tbM I0) N m ln C R T).1 ≠ 0 → ∀ (I' : Nat → Nat → Int32) (J' : Nat → Nat → Int64), PMp I0 J0 ln I' J' → (I' 404 15).toInt = (plF (tbM I0) N m ln C R T).1 → (I' 404 16).toInt = (plF (tbM I0) N m ln C R T).2.1 → K (some (.int 0)) (n, SH1, I', J')) : dw_ok (pr_X12_planLine K) 58 0 0 [some (.ref 404), some (.int 2), none] [] (n, SH1, I, J) := by
  have c30 : (30 : Int32).toInt = 30 := rfl
  have c1 : (1 : Int32).toInt = 1 := rfl
  have c3 : (3 : Int32).toInt = 3 := rfl
  have hw9 : ¬ (2 = 9) := by decide
  have hk0 : ¬ (2 = 0) := by decide
  have h21 : (I 404 21).toInt = ln := by rw [hR.2.1 21 (by decide)]; exact hln
  have hI0 : PMp I0 J0 ln I J ∧ (fun _ => True) (I 408) := ⟨hR, trivial⟩
  refine q_ild rfl rfl ?_
  refine q_if (c := 3) rfl (by decide) (fun _ => ?_) (fun h => absurd (show (2 : Int32).toInt < 0 from h) (by decide))
  refine q_ald rfl rfl ?_
  refine q_geti rfl sk_404 ?_
  refine q_ic rfl ?_
  refine q_icmp (c := 1) rfl (by decide) (fun h => ?_) (fun h => ?_)
  rotate_left
  · have h : (I 404 21).toInt = (30 : Int32).toInt := h
    have hg : 30 ≤ ln := by omega
    have eR : (plF (tbM I0) N m ln C R T) = (4, T.2.1, 0, p0) := by simp only [plF, hw, hg, hw9, ↓reduceIte]
    refine q_ald rfl rfl ?_
    refine q_ic rfl ?_
    refine mb_step (c := 4) rfl rfl (pmV (J0 := J0) (P := fun _ => True)) hI0 (fun I1 J1 hI1 g7 g8 => ?_)
    rw [eR] at hno
    exact hno (nn rfl) I1 J1 hI1.1 g7 (g8.trans hT.2.1)
  have h : (I 404 21).toInt ≠ (30 : Int32).toInt := h
  have hg : ¬ (30 ≤ ln) := by omega
  have t3 : (3 * I 404 21).toInt = 3 * ln := i_mul (by rw [c3, h21]) (by omega) (by omega)
  have tto : (1 + 3 * I 404 21).toInt = 1 + 3 * ln := by rw [i_add (by omega) (by omega), c1, t3]
  have tt1 : (1 + 3 * I 404 21 + 1).toInt = 2 + 3 * ln := by rw [i_add (by omega) (by omega), tto, c1]; omega
  have n0 : (1 + 3 * I 404 21).toInt.toNat = 1 + 3 * ln := by omega
  have n1 : (1 + 3 * I 404 21 + 1).toInt.toNat = 2 + 3 * ln := by omega
  refine q_ic rfl ?_
  refine q_ic rfl ?_
  refine q_ald rfl rfl ?_
  refine q_geti rfl sk_404 ?_
  refine q_mul rfl ?_
  refine q_add rfl ?_
  refine q_ist rfl rfl ?_
  show dw_ok (pr_X12_planLine K) 92 0 0 [some (.ref 404), some (.int 2), some (.int (1 + 3 * I 404 21))] [] (n, SH1, I, J)
  have hw1 : T.1 = 1 := wp_1 (by rw [hw]; decide)
  have hin := tkF_in (b := tbM I0) (n := N) (m := m) (p := p) hp
  rw [← hTe] at hin
  refine q_ald rfl rfl ?_
  refine mn_step (p := T.2.2.1) rfl (pmV (J0 := J0) (P := fun _ => True)) hI0 hN hN9 hm hin.2.2.1 (hT.2.2.1 (Or.inl hw1)) (fun I1 J1 hI1 hM1 => ?_)
  obtain ⟨T1, hT1⟩ : ∃ t, t = tkF (tbM I0) N m T.2.2.1 := ⟨_, rfl⟩
  have hin1 := tkF_in (b := tbM I0) (n := N) (m := m) (p := T.2.2.1) hin.2.2.1
  rw [← hT1] at hM1 hin1
  refine q_ald rfl rfl ?_
  refine q_getr rfl sk_404 sr_404_8 ?_
  refine q_ild rfl rfl ?_
  refine q_ild rfl rfl ?_
  refine q_iast rfl sk_408 sn_408 (by omega) (by omega) ?_
  rw [n0]
  show dw_ok (pr_X12_planLine K) 103 0 0 [some (.ref 404), some (.int 2), some (.int (1 + 3 * I 404 21))] [] (n, SH1, dw_up I1 408 (1 + 3 * ln) 2, J1)
  obtain ⟨I2, hI2⟩ : ∃ X, X = dw_up I1 408 (1 + 3 * ln) 2 := ⟨_, rfl⟩
  have hR2 : PMp I0 J0 ln I2 J1 := by rw [hI2]; exact pm_up hI1.1 (by omega)
  have hD2 : I2 408 (1 + 3 * ln) = 2 := by rw [hI2]; exact up_same
  have hM2 : MK (tbM I0) T1 I2 J1 := mk_row (by rw [hI2]; exact up_row (by decide)) hM1
  rw [← hI2]
  refine q_ild rfl rfl ?_
  refine q_if (c := 1) rfl (by decide) (fun _ => ?_) (fun h => absurd (show (2 : Int32).toInt = 0 from h) (by decide))
  refine q_ald rfl rfl ?_
  refine q_ic rfl ?_
  refine q_ald rfl rfl ?_
  refine q_getr rfl sk_404 sr_404_6 ?_
  refine q_ic rfl ?_
  refine q_xald rfl (Or.inl rfl) sk_406 sn_406 (by decide) (by decide) ?_
  refine q_ic rfl ?_
  refine q_sub rfl ?_
  show dw_ok (pr_X12_planLine K) 144 0 0 [some (.ref 404), some (.int 2), some (.int (1 + 3 * I 404 21))] [.int (I2 406 0 - 1), .int 0, .ref 404] (n, SH1, I2, J1)
  have eh1 : (I2 406 0 - 1).toInt = C - 1 := by
    rw [hR2.1 406 (by decide) (by decide), i_sub (by omega) (by omega), hC, c1]
  refine mt_step (T := T1) rfl rfl rfl rfl (pmV (P := fun f => f (1 + 3 * ln) = 2)) ⟨hR2, hD2⟩ hN hN9 hm hM2 hin1.2.2.1 ?_ ?_
  rotate_left
  · intro e1 I9 J9 hI9 g7 g8
    rw [eh1] at e1 g7
    have e1 : nbF T1 0 (C - 1) ≠ 0 := e1
    have eR : (plF (tbM I0) N m ln C R T) = (nbF T1 0 (C - 1), T1.2.1, 0, p0) := by simp only [plF, nbP, hw, hw9, hg, hk0, ← hT1, e1, ↓reduceIte]
    rw [eR] at hno
    exact hno e1 I9 J9 hI9.1 g7 g8
  intro e1 I3 J3 hI3 hM3 g319
  rw [eh1] at e1
  have e1 : nbF T1 0 (C - 1) = 0 := e1
  obtain ⟨hR3, hD3⟩ := hI3
  refine q_ald rfl rfl ?_
  refine q_getr rfl sk_404 sr_404_8 ?_
  refine q_ild rfl rfl ?_
  refine q_ic rfl ?_
  refine q_add rfl ?_
  refine q_ald rfl rfl ?_
  refine q_geti rfl sk_404 ?_
  refine q_iast rfl sk_408 sn_408 (by omega) (by omega) ?_
  rw [n1]
  show dw_ok (pr_X12_planLine K) 164 0 0 [some (.ref 404), some (.int 2), some (.int (1 + 3 * I 404 21))] [] (n, SH1, dw_up I3 408 (2 + 3 * ln) (I3 404 19), J3)
  rw [g319]
  obtain ⟨I4, hI4⟩ : ∃ X, X = dw_up I3 408 (2 + 3 * ln) T1.2.2.2 := ⟨_, rfl⟩
  have hR4 : PMp I0 J0 ln I4 J3 := by rw [hI4]; exact pm_up hR3 (by omega)
  have hD4 : I4 408 (1 + 3 * ln) = 2 ∧ I4 408 (2 + 3 * ln) = T1.2.2.2 := by
    rw [hI4]
    exact ⟨(up_fld (by omega)).trans hD3, up_same⟩
  have hM4 : MK (tbM I0) (tkF (tbM I0) N m T1.2.2.1) I4 J3 := mk_row (by rw [hI4]; exact up_row (by decide)) hM3
  obtain ⟨T2, hT2⟩ : ∃ t, t = tkF (tbM I0) N m T1.2.2.1 := ⟨_, rfl⟩
  have hin2 := tkF_in (b := tbM I0) (n := N) (m := m) (p := T1.2.2.1) hin1.2.2.1
  rw [← hT2] at hM4 hin2
  rw [← hI4]
  refine q_ald rfl rfl ?_
  refine q_ic rfl ?_
  refine q_ald rfl rfl ?_
  refine q_getr rfl sk_404 sr_404_6 ?_
  refine q_ic rfl ?_
  refine q_xald rfl (Or.inl rfl) sk_406 sn_406 (by decide) (by decide) ?_
  refine q_ic rfl ?_
  refine q_sub rfl ?_
  show dw_ok (pr_X12_planLine K) 174 0 0 [some (.ref 404), some (.int 2), some (.int (1 + 3 * I 404 21))] [.int (I4 406 1 - 1), .int 0, .ref 404] (n, SH1, I4, J3)
  have eh2 : (I4 406 1 - 1).toInt = R - 1 := by
    rw [hR4.1 406 (by decide) (by decide), i_sub (by omega) (by omega), hRr, c1]
  refine mt_step (T := T2) rfl rfl rfl rfl (pmV (P := fun f => f (1 + 3 * ln) = 2 ∧ f (2 + 3 * ln) = T1.2.2.2)) ⟨hR4, hD4⟩ hN hN9 hm hM4 hin2.2.2.1 ?_ ?_
  rotate_left
  · intro e2 I9 J9 hI9 g7 g8
    rw [eh2] at e2 g7
    have e2 : nbF T2 0 (R - 1) ≠ 0 := e2
    have eR : (plF (tbM I0) N m ln C R T) = (nbF T2 0 (R - 1), T2.2.1, 0, p0) := by simp only [plF, nbP, hw, hw9, hg, hk0, ← hT1, e1, ← hT2, e2, ↓reduceIte]
    rw [eR] at hno
    exact hno e2 I9 J9 hI9.1 g7 g8
  intro e2 I5 J5 hI5 hM5 g519
  rw [eh2] at e2
  have e2 : nbF T2 0 (R - 1) = 0 := e2
  obtain ⟨hR5, hD5⟩ := hI5
  refine q_ald rfl rfl ?_
  refine q_getr rfl sk_404 sr_404_8 ?_
  refine q_ild rfl rfl ?_
  refine q_ic rfl ?_
  refine q_add rfl ?_
  refine q_ald rfl rfl ?_
  refine q_ald rfl rfl ?_
  refine q_getr rfl sk_404 sr_404_8 ?_
  refine q_ild rfl rfl ?_
  refine q_ic rfl ?_
  refine q_add rfl ?_
  refine q_xald rfl (Or.inl rfl) sk_408 sn_408 (by omega) (by omega) ?_
  refine q_ald rfl rfl ?_
  refine q_geti rfl sk_404 ?_
  show dw_ok (pr_X12_planLine K) 202 0 0 [some (.ref 404), some (.int 2), some (.int (1 + 3 * I 404 21))] [.int (I5 404 19), .int (I5 408 (1 + 3 * I 404 21 + 1).toInt.toNat), .ref 404, .int (1 + 3 * I 404 21 + 1), .ref 408] (n, SH1, I5, J5)
  rw [g519, n1, hD5.2]
  refine q_callV (as := [.int T1.2.2.2, .int T2.2.2.2]) (rest := [.int (1 + 3 * I 404 21 + 1), .ref 408]) rfl rfl sk_404 rfl (Nat.le_of_ble_eq_true rfl) ?_
  refine v_numberOf ?_
  rw [hR5.1 406 (by decide) (by decide)]
  show dw_ok (pr_X12_planLine K) 205 0 0 [some (.ref 404), some (.int 2), some (.int (1 + 3 * I 404 21))] [.int (I0 406 0 * T2.2.2.2 + T1.2.2.2), .int (1 + 3 * I 404 21 + 1), .ref 408] (n, SH1, I5, J5)
  refine q_iast rfl sk_408 sn_408 (by omega) (by omega) ?_
  rw [n1]
  refine q_ic rfl ?_
  have eR : (plF (tbM I0) N m ln C R T) = stP (tkF (tbM I0) N m T2.2.2.1) (fun p => (0, 0, p, 2, T1.2.2.2, T2.2.2.2)) := by simp only [plF, nbP, hw, hw9, hg, hk0, ← hT1, e1, ← hT2, e2, ↓reduceIte]
  refine q_zret rfl (Or.inr rfl) (hok _ _ (2, T1.2.2.2, T2.2.2.2) (dw_up I5 408 (2 + 3 * ln) (I0 406 0 * T2.2.2.2 + T1.2.2.2)) J5 eR rfl hin2.2.2.1 (mk_row (up_row (by decide)) hM5) (pm_up hR5 (by omega)) ⟨?_, ?_⟩)
  · exact (up_fld (by omega)).trans hD5.1
  · rw [if_neg hk0]; exact up_same
set_option maxRecDepth 8000 in
set_option maxHeartbeats 4000000 in
theorem v_mpline3 {n : Nat} {I : Nat → Nat → Int32} {J : Nat → Nat → Int64} {K : dw_K} {I0 : Nat → Nat → Int32} {J0 : Nat → Nat → Int64} {T : fT} {N m ln p : Nat} {C R : Int} (hR : PMp I0 J0 ln I J) (hN : (I0 404 3).toInt = N) (hN9 : N ≤ 940) (hm : (I0 404 5).toInt = m) (hT : MK (tbM I0) T I J) (hTe : T = tkF (tbM I0) N m p) (hp : p ≤ N) (hln : (I0 404 21).toInt = ln) (hl30 : ln ≤ 30) (hC : (I0 406 0).toInt = C) (hC0 : 0 ≤ C) (hC9 : C ≤ 144) (hRr : (I0 406 1).toInt = R) (hR0 : 0 ≤ R) (hR9 : R ≤ 144) (hw : wpF (tbM I0) T = 3)
    (hok : ∀ (T' : fT) (p' : Nat) (l : pL) (I' : Nat → Nat → Int32) (J' : Nat → Nat → Int64), (plF (tbM I0) N m ln C R T) = stP T' (fun p => (0, 0, p, l)) → T' = tkF (tbM I0) N m p' → p' ≤ N → MK (tbM I0) T' I' J' → PMp I0 J0 ln I' J' → I' 408 (1 + 3 * ln) = Int32.ofNat l.1 ∧ I' 408 (2 + 3 * ln) = (if l.1 = 0 then l.2.1 else I0 406 0 * l.2.2 + l.2.1) → K (some (.int 1)) (n, SH1, I', J'))
    (hno : (plF (tbM I0) N m ln C R T).1 ≠ 0 → ∀ (I' : Nat → Nat → Int32) (J' : Nat → Nat → Int64), PMp I0 J0 ln I' J' → (I' 404 15).toInt = (plF (tbM I0) N m ln C R T).1 → (I' 404 16).toInt = (plF (tbM I0) N m ln C R T).2.1 → K (some (.int 0)) (n, SH1, I', J')) : dw_ok (pr_X12_planLine K) 58 0 0 [some (.ref 404), some (.int 3), none] [] (n, SH1, I, J) := by
  have c30 : (30 : Int32).toInt = 30 := rfl
  have c1 : (1 : Int32).toInt = 1 := rfl
  have c3 : (3 : Int32).toInt = 3 := rfl
  have hw9 : ¬ (3 = 9) := by decide
  have hk0 : ¬ (3 = 0) := by decide
  have h21 : (I 404 21).toInt = ln := by rw [hR.2.1 21 (by decide)]; exact hln
  have hI0 : PMp I0 J0 ln I J ∧ (fun _ => True) (I 408) := ⟨hR, trivial⟩
  refine q_ild rfl rfl ?_
  refine q_if (c := 3) rfl (by decide) (fun _ => ?_) (fun h => absurd (show (3 : Int32).toInt < 0 from h) (by decide))
  refine q_ald rfl rfl ?_
  refine q_geti rfl sk_404 ?_
  refine q_ic rfl ?_
  refine q_icmp (c := 1) rfl (by decide) (fun h => ?_) (fun h => ?_)
  rotate_left
  · have h : (I 404 21).toInt = (30 : Int32).toInt := h
    have hg : 30 ≤ ln := by omega
    have eR : (plF (tbM I0) N m ln C R T) = (4, T.2.1, 0, p0) := by simp only [plF, hw, hg, hw9, ↓reduceIte]
    refine q_ald rfl rfl ?_
    refine q_ic rfl ?_
    refine mb_step (c := 4) rfl rfl (pmV (J0 := J0) (P := fun _ => True)) hI0 (fun I1 J1 hI1 g7 g8 => ?_)
    rw [eR] at hno
    exact hno (nn rfl) I1 J1 hI1.1 g7 (g8.trans hT.2.1)
  have h : (I 404 21).toInt ≠ (30 : Int32).toInt := h
  have hg : ¬ (30 ≤ ln) := by omega
  have t3 : (3 * I 404 21).toInt = 3 * ln := i_mul (by rw [c3, h21]) (by omega) (by omega)
  have tto : (1 + 3 * I 404 21).toInt = 1 + 3 * ln := by rw [i_add (by omega) (by omega), c1, t3]
  have tt1 : (1 + 3 * I 404 21 + 1).toInt = 2 + 3 * ln := by rw [i_add (by omega) (by omega), tto, c1]; omega
  have n0 : (1 + 3 * I 404 21).toInt.toNat = 1 + 3 * ln := by omega
  have n1 : (1 + 3 * I 404 21 + 1).toInt.toNat = 2 + 3 * ln := by omega
  refine q_ic rfl ?_
  refine q_ic rfl ?_
  refine q_ald rfl rfl ?_
  refine q_geti rfl sk_404 ?_
  refine q_mul rfl ?_
  refine q_add rfl ?_
  refine q_ist rfl rfl ?_
  show dw_ok (pr_X12_planLine K) 92 0 0 [some (.ref 404), some (.int 3), some (.int (1 + 3 * I 404 21))] [] (n, SH1, I, J)
  have hw1 : T.1 = 1 := wp_1 (by rw [hw]; decide)
  have hin := tkF_in (b := tbM I0) (n := N) (m := m) (p := p) hp
  rw [← hTe] at hin
  refine q_ald rfl rfl ?_
  refine mn_step (p := T.2.2.1) rfl (pmV (J0 := J0) (P := fun _ => True)) hI0 hN hN9 hm hin.2.2.1 (hT.2.2.1 (Or.inl hw1)) (fun I1 J1 hI1 hM1 => ?_)
  obtain ⟨T1, hT1⟩ : ∃ t, t = tkF (tbM I0) N m T.2.2.1 := ⟨_, rfl⟩
  have hin1 := tkF_in (b := tbM I0) (n := N) (m := m) (p := T.2.2.1) hin.2.2.1
  rw [← hT1] at hM1 hin1
  refine q_ald rfl rfl ?_
  refine q_getr rfl sk_404 sr_404_8 ?_
  refine q_ild rfl rfl ?_
  refine q_ild rfl rfl ?_
  refine q_iast rfl sk_408 sn_408 (by omega) (by omega) ?_
  rw [n0]
  show dw_ok (pr_X12_planLine K) 103 0 0 [some (.ref 404), some (.int 3), some (.int (1 + 3 * I 404 21))] [] (n, SH1, dw_up I1 408 (1 + 3 * ln) 3, J1)
  obtain ⟨I2, hI2⟩ : ∃ X, X = dw_up I1 408 (1 + 3 * ln) 3 := ⟨_, rfl⟩
  have hR2 : PMp I0 J0 ln I2 J1 := by rw [hI2]; exact pm_up hI1.1 (by omega)
  have hD2 : I2 408 (1 + 3 * ln) = 3 := by rw [hI2]; exact up_same
  have hM2 : MK (tbM I0) T1 I2 J1 := mk_row (by rw [hI2]; exact up_row (by decide)) hM1
  rw [← hI2]
  refine q_ild rfl rfl ?_
  refine q_if (c := 1) rfl (by decide) (fun _ => ?_) (fun h => absurd (show (3 : Int32).toInt = 0 from h) (by decide))
  refine q_ald rfl rfl ?_
  refine q_ic rfl ?_
  refine q_ald rfl rfl ?_
  refine q_getr rfl sk_404 sr_404_6 ?_
  refine q_ic rfl ?_
  refine q_xald rfl (Or.inl rfl) sk_406 sn_406 (by decide) (by decide) ?_
  refine q_ic rfl ?_
  refine q_sub rfl ?_
  show dw_ok (pr_X12_planLine K) 144 0 0 [some (.ref 404), some (.int 3), some (.int (1 + 3 * I 404 21))] [.int (I2 406 0 - 1), .int 0, .ref 404] (n, SH1, I2, J1)
  have eh1 : (I2 406 0 - 1).toInt = C - 1 := by
    rw [hR2.1 406 (by decide) (by decide), i_sub (by omega) (by omega), hC, c1]
  refine mt_step (T := T1) rfl rfl rfl rfl (pmV (P := fun f => f (1 + 3 * ln) = 3)) ⟨hR2, hD2⟩ hN hN9 hm hM2 hin1.2.2.1 ?_ ?_
  rotate_left
  · intro e1 I9 J9 hI9 g7 g8
    rw [eh1] at e1 g7
    have e1 : nbF T1 0 (C - 1) ≠ 0 := e1
    have eR : (plF (tbM I0) N m ln C R T) = (nbF T1 0 (C - 1), T1.2.1, 0, p0) := by simp only [plF, nbP, hw, hw9, hg, hk0, ← hT1, e1, ↓reduceIte]
    rw [eR] at hno
    exact hno e1 I9 J9 hI9.1 g7 g8
  intro e1 I3 J3 hI3 hM3 g319
  rw [eh1] at e1
  have e1 : nbF T1 0 (C - 1) = 0 := e1
  obtain ⟨hR3, hD3⟩ := hI3
  refine q_ald rfl rfl ?_
  refine q_getr rfl sk_404 sr_404_8 ?_
  refine q_ild rfl rfl ?_
  refine q_ic rfl ?_
  refine q_add rfl ?_
  refine q_ald rfl rfl ?_
  refine q_geti rfl sk_404 ?_
  refine q_iast rfl sk_408 sn_408 (by omega) (by omega) ?_
  rw [n1]
  show dw_ok (pr_X12_planLine K) 164 0 0 [some (.ref 404), some (.int 3), some (.int (1 + 3 * I 404 21))] [] (n, SH1, dw_up I3 408 (2 + 3 * ln) (I3 404 19), J3)
  rw [g319]
  obtain ⟨I4, hI4⟩ : ∃ X, X = dw_up I3 408 (2 + 3 * ln) T1.2.2.2 := ⟨_, rfl⟩
  have hR4 : PMp I0 J0 ln I4 J3 := by rw [hI4]; exact pm_up hR3 (by omega)
  have hD4 : I4 408 (1 + 3 * ln) = 3 ∧ I4 408 (2 + 3 * ln) = T1.2.2.2 := by
    rw [hI4]
    exact ⟨(up_fld (by omega)).trans hD3, up_same⟩
  have hM4 : MK (tbM I0) (tkF (tbM I0) N m T1.2.2.1) I4 J3 := mk_row (by rw [hI4]; exact up_row (by decide)) hM3
  obtain ⟨T2, hT2⟩ : ∃ t, t = tkF (tbM I0) N m T1.2.2.1 := ⟨_, rfl⟩
  have hin2 := tkF_in (b := tbM I0) (n := N) (m := m) (p := T1.2.2.1) hin1.2.2.1
  rw [← hT2] at hM4 hin2
  rw [← hI4]
  refine q_ald rfl rfl ?_
  refine q_ic rfl ?_
  refine q_ald rfl rfl ?_
  refine q_getr rfl sk_404 sr_404_6 ?_
  refine q_ic rfl ?_
  refine q_xald rfl (Or.inl rfl) sk_406 sn_406 (by decide) (by decide) ?_
  refine q_ic rfl ?_
  refine q_sub rfl ?_
  show dw_ok (pr_X12_planLine K) 174 0 0 [some (.ref 404), some (.int 3), some (.int (1 + 3 * I 404 21))] [.int (I4 406 1 - 1), .int 0, .ref 404] (n, SH1, I4, J3)
  have eh2 : (I4 406 1 - 1).toInt = R - 1 := by
    rw [hR4.1 406 (by decide) (by decide), i_sub (by omega) (by omega), hRr, c1]
  refine mt_step (T := T2) rfl rfl rfl rfl (pmV (P := fun f => f (1 + 3 * ln) = 3 ∧ f (2 + 3 * ln) = T1.2.2.2)) ⟨hR4, hD4⟩ hN hN9 hm hM4 hin2.2.2.1 ?_ ?_
  rotate_left
  · intro e2 I9 J9 hI9 g7 g8
    rw [eh2] at e2 g7
    have e2 : nbF T2 0 (R - 1) ≠ 0 := e2
    have eR : (plF (tbM I0) N m ln C R T) = (nbF T2 0 (R - 1), T2.2.1, 0, p0) := by simp only [plF, nbP, hw, hw9, hg, hk0, ← hT1, e1, ← hT2, e2, ↓reduceIte]
    rw [eR] at hno
    exact hno e2 I9 J9 hI9.1 g7 g8
  intro e2 I5 J5 hI5 hM5 g519
  rw [eh2] at e2
  have e2 : nbF T2 0 (R - 1) = 0 := e2
  obtain ⟨hR5, hD5⟩ := hI5
  refine q_ald rfl rfl ?_
  refine q_getr rfl sk_404 sr_404_8 ?_
  refine q_ild rfl rfl ?_
  refine q_ic rfl ?_
  refine q_add rfl ?_
  refine q_ald rfl rfl ?_
  refine q_ald rfl rfl ?_
  refine q_getr rfl sk_404 sr_404_8 ?_
  refine q_ild rfl rfl ?_
  refine q_ic rfl ?_
  refine q_add rfl ?_
  refine q_xald rfl (Or.inl rfl) sk_408 sn_408 (by omega) (by omega) ?_
  refine q_ald rfl rfl ?_
  refine q_geti rfl sk_404 ?_
  show dw_ok (pr_X12_planLine K) 202 0 0 [some (.ref 404), some (.int 3), some (.int (1 + 3 * I 404 21))] [.int (I5 404 19), .int (I5 408 (1 + 3 * I 404 21 + 1).toInt.toNat), .ref 404, .int (1 + 3 * I 404 21 + 1), .ref 408] (n, SH1, I5, J5)
  rw [g519, n1, hD5.2]
  refine q_callV (as := [.int T1.2.2.2, .int T2.2.2.2]) (rest := [.int (1 + 3 * I 404 21 + 1), .ref 408]) rfl rfl sk_404 rfl (Nat.le_of_ble_eq_true rfl) ?_
  refine v_numberOf ?_
  rw [hR5.1 406 (by decide) (by decide)]
  show dw_ok (pr_X12_planLine K) 205 0 0 [some (.ref 404), some (.int 3), some (.int (1 + 3 * I 404 21))] [.int (I0 406 0 * T2.2.2.2 + T1.2.2.2), .int (1 + 3 * I 404 21 + 1), .ref 408] (n, SH1, I5, J5)
  refine q_iast rfl sk_408 sn_408 (by omega) (by omega) ?_
  rw [n1]
  refine q_ic rfl ?_
  have eR : (plF (tbM I0) N m ln C R T) = stP (tkF (tbM I0) N m T2.2.2.1) (fun p => (0, 0, p, 3, T1.2.2.2, T2.2.2.2)) := by simp only [plF, nbP, hw, hw9, hg, hk0, ← hT1, e1, ← hT2, e2, ↓reduceIte]
  refine q_zret rfl (Or.inr rfl) (hok _ _ (3, T1.2.2.2, T2.2.2.2) (dw_up I5 408 (2 + 3 * ln) (I0 406 0 * T2.2.2.2 + T1.2.2.2)) J5 eR rfl hin2.2.2.1 (mk_row (up_row (by decide)) hM5) (pm_up hR5 (by omega)) ⟨?_, ?_⟩)
  · exact (up_fld (by omega)).trans hD5.1
  · rw [if_neg hk0]; exact up_same
set_option maxRecDepth 8000 in
set_option maxHeartbeats 1000000 in
theorem v_mpline {n : Nat} {I : Nat → Nat → Int32} {J : Nat → Nat → Int64} {K : dw_K} {I0 : Nat → Nat → Int32} {J0 : Nat → Nat → Int64} {T : fT} {N m ln p : Nat} {C R : Int} (hR : PMp I0 J0 ln I J) (hN : (I0 404 3).toInt = N) (hN9 : N ≤ 940) (hm : (I0 404 5).toInt = m) (hT : MK (tbM I0) T I J) (hTe : T = tkF (tbM I0) N m p) (hp : p ≤ N) (hln : (I0 404 21).toInt = ln) (hl30 : ln ≤ 30) (hC : (I0 406 0).toInt = C) (hC0 : 0 ≤ C) (hC9 : C ≤ 144) (hRr : (I0 406 1).toInt = R) (hR0 : 0 ≤ R) (hR9 : R ≤ 144)
    (hok : ∀ (T' : fT) (p' : Nat) (l : pL) (I' : Nat → Nat → Int32) (J' : Nat → Nat → Int64), (plF (tbM I0) N m ln C R T) = stP T' (fun p => (0, 0, p, l)) → T' = tkF (tbM I0) N m p' → p' ≤ N → MK (tbM I0) T' I' J' → PMp I0 J0 ln I' J' → I' 408 (1 + 3 * ln) = Int32.ofNat l.1 ∧ I' 408 (2 + 3 * ln) = (if l.1 = 0 then l.2.1 else I0 406 0 * l.2.2 + l.2.1) → K (some (.int 1)) (n, SH1, I', J'))
    (hno : (plF (tbM I0) N m ln C R T).1 ≠ 0 → ∀ (I' : Nat → Nat → Int32) (J' : Nat → Nat → Int64), PMp I0 J0 ln I' J' → (I' 404 15).toInt = (plF (tbM I0) N m ln C R T).1 → (I' 404 16).toInt = (plF (tbM I0) N m ln C R T).2.1 → K (some (.int 0)) (n, SH1, I', J')) : t_X12_planLine [.ref 404] (n, SH1, I, J) K := by
  refine q_body (Nat.le_of_ble_eq_true rfl) ?_
  have hT' := hT
  rw [hTe] at hT'
  refine q_ald rfl rfl ?_
  refine q_lc rfl ?_
  refine mw_step (i := 22) (W := 28526) rfl hT' hp (by decide) (by decide) (sm_ok (by decide)) (by decide +kernel) (fun s22 => ?_) (fun s22 => ?_)
  · refine q_if (c := 0) rfl (by decide) (fun h => absurd (show (1 : Int32).toInt = 0 from h) (by decide)) (fun _ => ?_)
    refine q_ic rfl ?_
    refine q_goto rfl ?_
    refine q_ist rfl rfl ?_
    have hw : wpF (tbM I0) T = 0 := by rw [hTe]; unfold wpF; rw [if_pos s22]
    exact v_mpline0 hR hN hN9 hm hT hTe hp hln hl30 hC hC0 hC9 hRr hR0 hR9 hw hok hno
  refine q_if (c := 0) rfl (by decide) (fun _ => ?_) (fun h => absurd rfl h)
  refine q_ald rfl rfl ?_
  refine q_lc rfl ?_
  refine mw_step (i := 23) (W := 2003398757) rfl hT' hp (by decide) (by decide) (sm_ok (by decide)) (by decide +kernel) (fun s23 => ?_) (fun s23 => ?_)
  · refine q_if (c := 0) rfl (by decide) (fun h => absurd (show (1 : Int32).toInt = 0 from h) (by decide)) (fun _ => ?_)
    refine q_ic rfl ?_
    refine q_goto rfl ?_
    refine q_ist rfl rfl ?_
    have hw : wpF (tbM I0) T = 1 := by rw [hTe]; unfold wpF; rw [if_neg s22, if_pos s23]
    exact v_mpline1 hR hN hN9 hm hT hTe hp hln hl30 hC hC0 hC9 hRr hR0 hR9 hw hok hno
  refine q_if (c := 0) rfl (by decide) (fun _ => ?_) (fun h => absurd rfl h)
  refine q_ald rfl rfl ?_
  refine q_lc rfl ?_
  refine mw_step (i := 24) (W := 427071792498) rfl hT' hp (by decide) (by decide) (sm_ok (by decide)) (by decide +kernel) (fun s24 => ?_) (fun s24 => ?_)
  · refine q_if (c := 0) rfl (by decide) (fun h => absurd (show (1 : Int32).toInt = 0 from h) (by decide)) (fun _ => ?_)
    refine q_ic rfl ?_
    refine q_goto rfl ?_
    refine q_ist rfl rfl ?_
    have hw : wpF (tbM I0) T = 2 := by rw [hTe]; unfold wpF; rw [if_neg s22, if_neg s23, if_pos s24]
    exact v_mpline2 hR hN hN9 hm hT hTe hp hln hl30 hC hC0 hC9 hRr hR0 hR9 hw hok hno
  refine q_if (c := 0) rfl (by decide) (fun _ => ?_) (fun h => absurd rfl h)
  refine q_ald rfl rfl ?_
  refine q_lc rfl ?_
  refine mw_step (i := 25) (W := 1650553445) rfl hT' hp (by decide) (by decide) (sm_ok (by decide)) (by decide +kernel) (fun s25 => ?_) (fun s25 => ?_)
  · refine q_if (c := 0) rfl (by decide) (fun h => absurd (show (1 : Int32).toInt = 0 from h) (by decide)) (fun _ => ?_)
    refine q_ic rfl ?_
    refine q_goto rfl ?_
    refine q_ist rfl rfl ?_
    have hw : wpF (tbM I0) T = 3 := by rw [hTe]; unfold wpF; rw [if_neg s22, if_neg s23, if_neg s24, if_pos s25]
    exact v_mpline3 hR hN hN9 hm hT hTe hp hln hl30 hC hC0 hC9 hRr hR0 hR9 hw hok hno
  refine q_if (c := 0) rfl (by decide) (fun _ => ?_) (fun h => absurd rfl h)
  refine q_ic rfl ?_
  refine q_ist rfl rfl ?_
  have hw : wpF (tbM I0) T = 9 := by rw [hTe]; unfold wpF; rw [if_neg s22, if_neg s23, if_neg s24, if_neg s25]
  have eR : (plF (tbM I0) N m ln C R T) = (1, T.2.1, 0, p0) := by simp only [plF, hw, ↓reduceIte]
  refine q_ild rfl rfl ?_
  refine q_if (c := 3) rfl (by decide) (fun h => absurd (show 0 ≤ (-1 : Int32).toInt from h) (by decide)) (fun _ => ?_)
  refine q_ald rfl rfl ?_
  refine q_ic rfl ?_
  refine mb_step (c := 1) rfl rfl (pmV (J0 := J0) (P := fun _ => True)) ⟨hR, trivial⟩ (fun I1 J1 hI1 g7 g8 => ?_)
  rw [eR] at hno
  exact hno (nn rfl) I1 J1 hI1.1 g7 (g8.trans hT.2.1)
/-! ===== plan() of the model ===== -/
set_option maxRecDepth 8000 in
theorem PL_N {I0 I I' : Nat → Nat → Int32} {J0 J J' : Nat → Nat → Int64} {ln : Nat} (h : NLp I0 J0 I J) (g : PMp I J ln I' J') : NLp I0 J0 I' J' :=
  ⟨fun a h1 h2 => (g.1 a h1 h2).trans (h.1 a h1 h2), fun j h1 h2 => (g.2.1 j h1).trans (h.2.1 j h1 h2), fun a ha => (g.2.2.2.1 a ha).trans (h.2.2.1 a ha), fun j h1 h2 => (g.2.2.2.2 j h1 h2).trans (h.2.2.2 j h1 h2)⟩
set_option maxRecDepth 8000 in
/-- a fault is told: -1 less its place -/
theorem pn_bad {n bc bs : Nat} {I : Nat → Nat → Int32} {J : Nat → Nat → Int64} {K : dw_K} {q : Nat} (h : (I 404 16).toInt = q) (hq : q ≤ 940) (hk : ∀ w : Int32, w.toInt = -1 - (q : Int) → K (some (.int w)) (n, SH1, I, J)) : dw_ok (pr_X12_plan K) 49 bc bs [some (.ref 404), none] [] (n, SH1, I, J) := by
  have cm : (-1 : Int32).toInt = -1 := rfl
  refine q_ic rfl ?_
  refine q_ald rfl rfl ?_
  refine q_geti rfl sk_404 ?_
  refine q_sub rfl ?_
  exact q_iret rfl (hk _ (by show ((-1 : Int32) - I 404 16).toInt = _; rw [i_sub (by omega) (by omega), cm, h]))
set_option maxRecDepth 8000 in
theorem pn_loop {n bc bs : Nat} {K : dw_K} {I0 : Nat → Nat → Int32} {J0 : Nat → Nat → Int64} {N m : Nat} {C R : Int} {G : Nat × Nat × Nat × List pL} (hN : (I0 404 3).toInt = N) (hN9 : N ≤ 940) (hm : (I0 404 5).toInt = m) (hpl : G.2.1 ≤ 940) (hC : (I0 406 0).toInt = C) (hC0 : 0 ≤ C) (hC9 : C ≤ 144) (hRr : (I0 406 1).toInt = R) (hR0 : 0 ≤ R) (hR9 : R ≤ 144)
    (hok : G.1 = 0 → ∀ (I' : Nat → Nat → Int32) (J' : Nat → Nat → Int64), NLp I0 J0 I' J' → mpF (I' 408) (I0 406 0) G.2.2.2 → (I' 404 21).toInt = G.2.2.1 → G.2.2.1 = G.2.2.2.length → G.2.2.1 ≤ 30 → dw_ok (pr_X12_plan K) 69 bc bs [some (.ref 404), none] [] (n, SH1, I', J'))
    (hno : G.1 ≠ 0 → ∀ (I' : Nat → Nat → Int32) (J' : Nat → Nat → Int64) (w : Int32), NLp I0 J0 I' J' → w.toInt = -1 - (G.2.1 : Int) → K (some (.int w)) (n, SH1, I', J')) :
    ∀ (f ln p : Nat) (L : List pL) (I : Nat → Nat → Int32) (J : Nat → Nat → Int64), ln + f = 30 → L.length = ln → pgF (tbM I0) N m C R (f + 1) ln p L = G → NLp I0 J0 I J → (I 404 21).toInt = ln → mpF (I 408) (I0 406 0) L → MK (tbM I0) (tkF (tbM I0) N m p) I J → p ≤ N → dw_ok (pr_X12_plan K) 26 bc bs [some (.ref 404), none] [] (n, SH1, I, J) := by
  have c1 : (1 : Int32).toInt = 1 := rfl
  intro f
  induction f with
  | zero =>
    intro ln p L I J hf hL hG hR h21 hD hT hp
    have hb : tbM I = tbM I0 := tbM_eq (hR.2.1 3 (by decide) (by decide)) (hR.1 405 (by decide) (by decide))
    have hNI : (I 404 3).toInt = N := by rw [hR.2.1 3 (by decide) (by decide)]; exact hN
    have hmI : (I 404 5).toInt = m := by rw [hR.2.1 5 (by decide) (by decide)]; exact hm
    unfold pgF at hG
    refine q_ald rfl rfl ?_
    refine q_geti rfl sk_404 ?_
    refine q_if (c := 0) rfl (by decide) (fun h => ?_) (fun h => ?_)
    · have h : (I 404 11).toInt = 0 := h
      have hT0 : (tkF (tbM I0) N m p).1 = 0 := by have := hT.1; omega
      rw [if_pos hT0] at hG
      rw [← hG] at hok
      exact hok rfl I J hR hD h21 hL.symm (by show ln ≤ 30; omega)
    have h : (I 404 11).toInt ≠ 0 := h
    have hT0 : ¬ (tkF (tbM I0) N m p).1 = 0 := by have := hT.1; omega
    rw [if_neg hT0] at hG
    refine q_ald rfl rfl ?_
    refine q_callV (as := []) (rest := []) rfl rfl sk_404 rfl (Nat.le_of_ble_eq_true rfl) ?_
    rw [← hb] at hT hG
    have h406 : I 406 = I0 406 := hR.1 406 (by decide) (by decide)
    have hC' : (I 406 0).toInt = C := by rw [h406]; exact hC
    have hR'' : (I 406 1).toInt = R := by rw [h406]; exact hRr
    refine v_mpline (I0 := I) (J0 := J) (p := p) (ln := ln) ⟨fun _ _ _ => rfl, fun _ _ => rfl, fun _ _ => rfl, fun _ _ => rfl, fun _ _ _ => rfl⟩ hNI hN9 hmI hT rfl hp h21 (by omega) hC' hC0 hC9 hR'' hR0 hR9 (fun T' p' l I' J' e hTe hp' hM hR' hD' => ?_) (fun hr I' J' hR' g15 g16 => ?_)
    · have hr : (plF (tbM I) N m ln C R (tkF (tbM I) N m p)).1 ≠ 0 := pl_30 (by omega)
      rw [if_neg hr] at hG
      have h3 : T'.1 ≠ 3 := fun h3 => hr (by rw [e]; unfold stP; rw [if_pos h3])
      have e2 : plF (tbM I) N m ln C R (tkF (tbM I) N m p) = (1, T'.2.1, 0, p0) := by rw [e]; unfold stP; rw [if_neg h3]
      rw [e2] at hG
      have hin' := tkF_in (b := tbM I) (n := N) (m := m) (p := p') hp'
      rw [← hTe] at hin'
      show dw_ok (pr_X12_plan K) 37 bc bs [some (.ref 404), none] [.int 1] (n, SH1, I', J')
      refine q_if (c := 0) rfl (by decide) (fun h => absurd (show (1 : Int32).toInt = 0 from h) (by decide)) (fun _ => ?_)
      refine q_ald rfl rfl ?_
      refine q_ic rfl ?_
      refine q_callV (as := [.int 59]) (rest := []) rfl rfl sk_404 rfl (Nat.le_of_ble_eq_true rfl) ?_
      refine v_sign (b := tbM I) (T := T') (N := N) (m := m) (by rw [hR'.2.1 3 (by decide)]; exact hNI) hN9 (by rw [hR'.2.1 5 (by decide)]; exact hmI) (tbM_eq (hR'.2.1 3 (by decide)) (hR'.1 405 (by decide) (by decide))) hM hin'.2.2.1 (fun g => absurd g h3) (fun _ => ?_)
      show dw_ok (pr_X12_plan K) 46 bc bs [some (.ref 404), none] [.int 0] (n, SH1, dw_up (dw_up I' 404 15 1) 404 16 (I' 404 12), J')
      refine q_if (c := 1) rfl (by decide) (fun h => absurd rfl h) (fun _ => ?_)
      have hR2 : NLp I0 J0 (dw_up (dw_up I' 404 15 1) 404 16 (I' 404 12)) J' := by
        have q := PL_N hR hR'
        exact ⟨fun a h1 h2 => (up_row h1).trans ((up_row h1).trans (q.1 a h1 h2)), fun j h1 h2 => (up_fld h1.2.2.2.2.2.2.1).trans ((up_fld h1.2.2.2.2.2.1).trans (q.2.1 j h1 h2)), q.2.2.1, q.2.2.2⟩
      rw [← hG] at hno hpl
      exact pn_bad (q := T'.2.1) hM.2.1 hpl (fun w hw => hno (nn rfl) _ _ w hR2 hw)
    · rw [if_neg hr] at hG
      show dw_ok (pr_X12_plan K) 37 bc bs [some (.ref 404), none] [.int 0] (n, SH1, I', J')
      refine q_if (c := 0) rfl (by decide) (fun _ => ?_) (fun h => absurd rfl h)
      rw [← hG] at hno hpl
      exact pn_bad g16 hpl (fun w hw => hno hr _ _ w (PL_N hR hR') hw)
  | succ f ih =>
    intro ln p L I J hf hL hG hR h21 hD hT hp
    have hb : tbM I = tbM I0 := tbM_eq (hR.2.1 3 (by decide) (by decide)) (hR.1 405 (by decide) (by decide))
    have hNI : (I 404 3).toInt = N := by rw [hR.2.1 3 (by decide) (by decide)]; exact hN
    have hmI : (I 404 5).toInt = m := by rw [hR.2.1 5 (by decide) (by decide)]; exact hm
    unfold pgF at hG
    refine q_ald rfl rfl ?_
    refine q_geti rfl sk_404 ?_
    refine q_if (c := 0) rfl (by decide) (fun h => ?_) (fun h => ?_)
    · have h : (I 404 11).toInt = 0 := h
      have hT0 : (tkF (tbM I0) N m p).1 = 0 := by have := hT.1; omega
      rw [if_pos hT0] at hG
      rw [← hG] at hok
      exact hok rfl I J hR hD h21 hL.symm (by show ln ≤ 30; omega)
    have h : (I 404 11).toInt ≠ 0 := h
    have hT0 : ¬ (tkF (tbM I0) N m p).1 = 0 := by have := hT.1; omega
    rw [if_neg hT0] at hG
    refine q_ald rfl rfl ?_
    refine q_callV (as := []) (rest := []) rfl rfl sk_404 rfl (Nat.le_of_ble_eq_true rfl) ?_
    rw [← hb] at hT hG
    have h406 : I 406 = I0 406 := hR.1 406 (by decide) (by decide)
    have hC' : (I 406 0).toInt = C := by rw [h406]; exact hC
    have hR'' : (I 406 1).toInt = R := by rw [h406]; exact hRr
    refine v_mpline (I0 := I) (J0 := J) (p := p) (ln := ln) ⟨fun _ _ _ => rfl, fun _ _ => rfl, fun _ _ => rfl, fun _ _ => rfl, fun _ _ _ => rfl⟩ hNI hN9 hmI hT rfl hp h21 (by omega) hC' hC0 hC9 hR'' hR0 hR9 (fun T' p' l I' J' e hTe hp' hM hR' hD' => ?_) (fun hr I' J' hR' g15 g16 => ?_)
    · have hin' := tkF_in (b := tbM I) (n := N) (m := m) (p := p') hp'
      rw [← hTe] at hin'
      show dw_ok (pr_X12_plan K) 37 bc bs [some (.ref 404), none] [.int 1] (n, SH1, I', J')
      refine q_if (c := 0) rfl (by decide) (fun h => absurd (show (1 : Int32).toInt = 0 from h) (by decide)) (fun _ => ?_)
      refine q_ald rfl rfl ?_
      refine q_ic rfl ?_
      refine q_callV (as := [.int 59]) (rest := []) rfl rfl sk_404 rfl (Nat.le_of_ble_eq_true rfl) ?_
      have hb' : tbM I' = tbM I := tbM_eq (hR'.2.1 3 (by decide)) (hR'.1 405 (by decide) (by decide))
      refine v_sign (b := tbM I) (T := T') (N := N) (m := m) (by rw [hR'.2.1 3 (by decide)]; exact hNI) hN9 (by rw [hR'.2.1 5 (by decide)]; exact hmI) hb' hM hin'.2.2.1 (fun h3 I2 J2 hA hF hJa hJf hM2 => ?_) (fun h3 => ?_)
      · have e2 : plF (tbM I) N m ln C R (tkF (tbM I) N m p) = (0, 0, T'.2.2.1, l) := by rw [e]; unfold stP; rw [if_pos h3]
        rw [e2, if_pos rfl] at hG
        have h212 : (I2 404 21).toInt = ln := by rw [hF 21 (by decide) (by decide) (by decide) (by decide) (by decide), hR'.2.1 21 (by decide)]; exact h21
        have t21 : (I2 404 21 + 1).toInt = (ln + 1 : Nat) := by rw [i_add (by omega) (by omega), c1, h212]; omega
        show dw_ok (pr_X12_plan K) 46 bc bs [some (.ref 404), none] [.int 1] (n, SH1, I2, J2)
        refine q_if (c := 1) rfl (by decide) (fun _ => ?_) (fun h => absurd (show (1 : Int32).toInt = 0 from h) (by decide))
        refine q_ald rfl rfl ?_
        refine q_dup rfl ?_
        refine q_geti rfl sk_404 ?_
        refine q_ic rfl ?_
        refine q_add rfl ?_
        refine q_puti rfl sk_404 ?_
        refine q_goto rfl ?_
        show dw_ok (pr_X12_plan K) 26 bc bs [some (.ref 404), none] [] (n, SH1, dw_up I2 404 21 (I2 404 21 + 1), J2)
        have q := PL_N hR hR'
        rw [hb] at hM2 hG
        refine ih (ln + 1) T'.2.2.1 (l :: L) (dw_up I2 404 21 (I2 404 21 + 1)) J2 (by omega) (by rw [List.length_cons, hL]) hG ⟨fun a h1 h2 => (up_row h1).trans ((hA a h1).trans (q.1 a h1 h2)), fun j h1 h2 => (up_fld h2).trans ((hF j h1.1 h1.2.1 h1.2.2.1 h1.2.2.2.1 h1.2.2.2.2.1).trans (q.2.1 j h1 h2)), fun a ha => (hJa a ha).trans (q.2.2.1 a ha), fun j h1 h2 => (hJf j h1 h2).trans (q.2.2.2 j h1 h2)⟩ ?_ ?_ ?_ hin'.2.2.1
        · show (I2 404 21 + 1).toInt = _; exact t21
        · have hr8 : (dw_up I2 404 21 (I2 404 21 + 1)) 408 = I' 408 := (up_row (by decide)).trans (hA 408 (by decide))
          have hLl : L.length = ln := hL
          refine ⟨?_, ?_, mp_same (R := I 408) L (fun j _ hj => ?_) hD⟩
          · rw [hr8, hLl]; exact hD'.1
          · rw [hr8, hLl, ← h406]; exact hD'.2
          · rw [hr8]; exact hR'.2.2.1 j (by omega)
        · exact mk_fld (fun j hj => up_fld hj) hM2
      · have e2 : plF (tbM I) N m ln C R (tkF (tbM I) N m p) = (1, T'.2.1, 0, p0) := by rw [e]; unfold stP; rw [if_neg h3]
        rw [e2] at hG
        show dw_ok (pr_X12_plan K) 46 bc bs [some (.ref 404), none] [.int 0] (n, SH1, dw_up (dw_up I' 404 15 1) 404 16 (I' 404 12), J')
        refine q_if (c := 1) rfl (by decide) (fun h => absurd rfl h) (fun _ => ?_)
        have hR2 : NLp I0 J0 (dw_up (dw_up I' 404 15 1) 404 16 (I' 404 12)) J' := by
          have q := PL_N hR hR'
          exact ⟨fun a h1 h2 => (up_row h1).trans ((up_row h1).trans (q.1 a h1 h2)), fun j h1 h2 => (up_fld h1.2.2.2.2.2.2.1).trans ((up_fld h1.2.2.2.2.2.1).trans (q.2.1 j h1 h2)), q.2.2.1, q.2.2.2⟩
        rw [if_neg (show ¬ (((1, T'.2.1, 0, p0) : pR).1 = 0) from nn rfl)] at hG
        rw [← hG] at hno hpl
        exact pn_bad (q := T'.2.1) hM.2.1 hpl (fun w hw => hno (nn rfl) _ _ w hR2 hw)
    · rw [if_neg hr] at hG
      show dw_ok (pr_X12_plan K) 37 bc bs [some (.ref 404), none] [.int 0] (n, SH1, I', J')
      refine q_if (c := 0) rfl (by decide) (fun _ => ?_) (fun h => absurd rfl h)
      rw [← hG] at hno hpl
      exact pn_bad g16 hpl (fun w hw => hno hr _ _ w (PL_N hR hR') hw)
set_option maxRecDepth 8000 in
theorem mpk_loop {n bc bs c : Nat} {K : dw_K} {I0 : Nat → Nat → Int32} {J : Nat → Nat → Int64} (hc : (I0 404 21).toInt = c) (hc9 : c ≤ 30)
    (hk : ∀ I' : Nat → Nat → Int32, (∀ a, a ≠ 406 → I' a = I0 a) → (∀ j, I' 406 j = if 803 ≤ j ∧ j < 803 + (3 * c + 1) then I0 408 (j - 803) else I0 406 j) → K (some (.int (I0 404 21))) (n, SH1, I', J)) :
    ∀ (f k : Nat) (y : Int32) (I : Nat → Nat → Int32), k ≤ 3 * c + 1 → 3 * c + 1 - k ≤ f → y.toInt = k → (∀ a, a ≠ 406 → I a = I0 a) → (∀ j, I 406 j = if 803 ≤ j ∧ j < 803 + k then I0 408 (j - 803) else I0 406 j) → dw_ok (pr_X12_plan K) 81 bc bs [some (.ref 404), some (.int y)] [] (n, SH1, I, J) := by
  have c1 : (1 : Int32).toInt = 1 := rfl
  have c3 : (3 : Int32).toInt = 3 := rfl
  have c803 : (803 : Int32).toInt = 803 := rfl
  intro f
  induction f with
  | zero =>
    intro k y I hk1 hf hy hA hB
    have h4 : I 404 = I0 404 := hA 404 (by decide)
    have t4 : (3 * I 404 21).toInt = 3 * c := i_mul (by rw [c3, h4, hc]) (by omega) (by omega)
    refine q_ild rfl rfl ?_
    refine q_ic rfl ?_
    refine q_ald rfl rfl ?_
    refine q_geti rfl sk_404 ?_
    refine q_mul rfl ?_
    refine q_icmp (c := 4) rfl (by decide) (fun _ => ?_) (fun h => absurd (show y.toInt ≤ (3 * I 404 21).toInt from h) (by omega))
    refine q_ald rfl rfl ?_
    refine q_geti rfl sk_404 ?_
    refine q_iret rfl ?_
    show K (some (.int (I 404 21))) (n, SH1, I, J)
    rw [h4]
    exact hk I hA (fun j => by rw [hB j, show k = 3 * c + 1 by omega])
  | succ f ih =>
    intro k y I hk1 hf hy hA hB
    have h4 : I 404 = I0 404 := hA 404 (by decide)
    have t4 : (3 * I 404 21).toInt = 3 * c := i_mul (by rw [c3, h4, hc]) (by omega) (by omega)
    refine q_ild rfl rfl ?_
    refine q_ic rfl ?_
    refine q_ald rfl rfl ?_
    refine q_geti rfl sk_404 ?_
    refine q_mul rfl ?_
    refine q_icmp (c := 4) rfl (by decide) (fun h => ?_) (fun h => ?_)
    · have h : (3 * I 404 21).toInt < y.toInt := h
      refine q_ald rfl rfl ?_
      refine q_geti rfl sk_404 ?_
      refine q_iret rfl ?_
      show K (some (.int (I 404 21))) (n, SH1, I, J)
      rw [h4]
      exact hk I hA (fun j => by rw [hB j, show k = 3 * c + 1 by omega])
    have h : y.toInt ≤ (3 * I 404 21).toInt := h
    have t3 : (803 + y).toInt = 803 + k := by rw [i_add (by omega) (by omega), c803, hy]
    have ty : (y + 1).toInt = y.toInt + 1 := by rw [i_add (by omega) (by omega), c1]
    refine q_ald rfl rfl ?_
    refine q_getr rfl sk_404 sr_404_6 ?_
    refine q_ic rfl ?_
    refine q_ild rfl rfl ?_
    refine q_add rfl ?_
    refine q_ald rfl rfl ?_
    refine q_getr rfl sk_404 sr_404_8 ?_
    refine q_ild rfl rfl ?_
    refine q_xald rfl (Or.inl rfl) sk_408 sn_408 (by omega) (by omega) ?_
    refine q_iast rfl sk_406 sn_406 (by omega) (by omega) ?_
    refine q_inc rfl rfl rfl ?_
    refine q_goto rfl ?_
    refine ih (k + 1) (y + 1) (dw_up I 406 (803 + y).toInt.toNat (I 408 y.toInt.toNat)) (by omega) (by omega) (by omega) (fun a ha => (up_row ha).trans (hA a ha)) (fun j => ?_)
    have n3 : (803 + y).toInt.toNat = 803 + k := by omega
    rw [n3, show y.toInt.toNat = k by omega, show I 408 = I0 408 from hA 408 (by decide)]
    by_cases e : j = 803 + k
    · rw [if_pos (by omega), e, show 803 + k - 803 = k by omega]; exact up_same
    · rw [up_fld e, hB j]
      by_cases g : 803 ≤ j ∧ j < 803 + k
      · rw [if_pos g, if_pos (by omega)]
      · rw [if_neg g, if_neg (by omega)]
set_option maxRecDepth 8000 in
theorem v_mplan {n : Nat} {I : Nat → Nat → Int32} {J : Nat → Nat → Int64} {K : dw_K} {N : Nat} {C R : Int} {G : Nat × Nat × Nat × List pL} (hN : (I 404 2).toInt = N) (hN9 : N ≤ 940) (hC : (I 406 0).toInt = C) (hC0 : 0 ≤ C) (hC9 : C ≤ 144) (hRr : (I 406 1).toInt = R) (hR0 : 0 ≤ R) (hR9 : R ≤ 144) (hG : pgF (tbL I) N 300 C R 31 0 0 [] = G)
    (h1 : G.1 = 0 → ∀ (I' : Nat → Nat → Int32) (J' : Nat → Nat → Int64) (w : Int32), (∀ a, a ≠ 404 → a ≠ 406 → a ≠ 408 → I' a = I a) → (∀ j, 23 ≤ j → I' 404 j = I 404 j) → I' 404 2 = 0 → (∀ a, a ≠ 404 → J' a = J a) → (∀ j, j < 803 ∨ 894 ≤ j → I' 406 j = I 406 j) → I' 406 803 = w → mpF (fun j => I' 406 (803 + j)) (I 406 0) G.2.2.2 → w.toInt = G.2.2.1 → G.2.2.1 = G.2.2.2.length → G.2.2.1 ≤ 30 → K (some (.int w)) (n, SH1, I', J'))
    (h2 : G.1 ≠ 0 → ∀ (I' : Nat → Nat → Int32) (J' : Nat → Nat → Int64) (w : Int32), (∀ a, a ≠ 404 → a ≠ 408 → I' a = I a) → (∀ j, 23 ≤ j → I' 404 j = I 404 j) → I' 404 2 = 0 → (∀ a, a ≠ 404 → J' a = J a) → w.toInt = -1 - (G.2.1 : Int) → K (some (.int w)) (n, SH1, I', J')) : t_X12_plan [.ref 404] (n, SH1, I, J) K := by
  have hpl : G.2.1 ≤ 940 := by rw [← hG]; exact Nat.le_trans (pp_pg 31 0 0 [] (Nat.zero_le _)) hN9
  refine q_body (Nat.le_of_ble_eq_true rfl) ?_
  refine q_ald rfl rfl ?_
  refine q_ic rfl ?_
  refine q_puti rfl sk_404 ?_
  refine q_ald rfl rfl ?_
  refine q_ic rfl ?_
  refine q_callV (as := [.int 300]) (rest := []) rfl rfl sk_404 rfl (Nat.le_of_ble_eq_true rfl) ?_
  refine v_taken (I := dw_up I 404 0 0) ?_
  refine q_ald rfl rfl ?_
  refine q_ic rfl ?_
  refine q_puti rfl sk_404 ?_
  refine q_ald rfl rfl ?_
  refine q_ic rfl ?_
  refine q_puti rfl sk_404 ?_
  obtain ⟨I2, hI2⟩ : ∃ X, X = dw_up (dw_up (dw_up (dw_up (dw_up (dw_up (dw_up I 404 0 0) 404 3 (I 404 2)) 404 2 0) 404 4 0) 404 5 300) 404 15 0) 404 21 0 := ⟨_, rfl⟩
  have hA2 : ∀ a, a ≠ 404 → I2 a = I a := fun a ha => by rw [hI2]; funext j; simp [dw_up, ha]
  have hF2 : ∀ j, 23 ≤ j → I2 404 j = I 404 j := fun j hj => by
    rw [hI2]
    exact (up_fld (by omega)).trans ((up_fld (by omega)).trans ((up_fld (by omega)).trans ((up_fld (by omega)).trans ((up_fld (by omega)).trans ((up_fld (by omega)).trans (up_fld (by omega)))))))
  have e3 : I2 404 3 = I 404 2 := by rw [hI2]; rfl
  have e2 : I2 404 2 = 0 := by rw [hI2]; rfl
  have e4 : I2 404 4 = 0 := by rw [hI2]; rfl
  have e5 : I2 404 5 = 300 := by rw [hI2]; rfl
  have e21 : I2 404 21 = 0 := by rw [hI2]; rfl
  have hb : tbM I2 = tbL I := by
    funext k
    unfold tbM tbL
    rw [e3, hA2 405 (by decide)]
  show dw_ok (pr_X12_plan K) 22 0 0 [some (.ref 404), none] [] (n, SH1, dw_up (dw_up (dw_up (dw_up (dw_up (dw_up (dw_up I 404 0 0) 404 3 (I 404 2)) 404 2 0) 404 4 0) 404 5 300) 404 15 0) 404 21 0, J)
  rw [← hI2]
  refine q_ald rfl rfl ?_
  refine q_callV (as := []) (rest := []) rfl rfl sk_404 rfl (Nat.le_of_ble_eq_true rfl) ?_
  refine v_next (p := 0) (N := N) (m := 300) (by rw [e3]; exact hN) hN9 (by rw [e5]; rfl) (by rw [e4]; rfl) (Nat.zero_le _) (fun I3 J3 hA3 hF3 hJa3 hJf3 hM3 => ?_)
  show dw_ok (pr_X12_plan K) 26 0 0 [some (.ref 404), none] [] (n, SH1, I3, J3)
  have hb3 : tbM I3 = tbL I := (tbM_eq (hF3 3 (by decide) (by decide) (by decide) (by decide) (by decide)) (hA3 405 (by decide))).trans hb
  rw [hb, ← hb3] at hM3
  rw [← hb3] at hG
  have h406 : I3 406 = I 406 := (hA3 406 (by decide)).trans (hA2 406 (by decide))
  refine pn_loop (I0 := I3) (J0 := J3) (N := N) (m := 300) (C := C) (R := R) (G := G) (by rw [hF3 3 (by decide) (by decide) (by decide) (by decide) (by decide), e3]; exact hN) hN9 (by rw [hF3 5 (by decide) (by decide) (by decide) (by decide) (by decide), e5]; rfl) hpl (by rw [h406]; exact hC) hC0 hC9 (by rw [h406]; exact hRr) hR0 hR9 (fun hg I4 J4 hR4 hD4 h21 hlen h24 => ?_) (fun hg I4 J4 w hR4 hw => ?_) 30 0 0 [] I3 J3 rfl rfl hG ⟨fun _ _ _ => rfl, fun _ _ _ => rfl, fun _ _ => rfl, fun _ _ _ => rfl⟩ (by rw [hF3 21 (by decide) (by decide) (by decide) (by decide) (by decide), e21]; rfl) trivial hM3 (Nat.zero_le _)
  · rw [h406] at hD4
    refine q_ald rfl rfl ?_
    refine q_getr rfl sk_404 sr_404_8 ?_
    refine q_ic rfl ?_
    refine q_ald rfl rfl ?_
    refine q_geti rfl sk_404 ?_
    refine q_iast rfl sk_408 sn_408 (by decide) (by decide) ?_
    refine q_ic rfl ?_
    refine q_ist rfl rfl ?_
    show dw_ok (pr_X12_plan K) 81 0 0 [some (.ref 404), some (.int 0)] [] (n, SH1, dw_up I4 408 0 (I4 404 21), J4)
    refine mpk_loop (c := G.2.2.1) (I0 := dw_up I4 408 0 (I4 404 21)) h21 h24 (fun I5 hA5 hB5 => ?_) (3 * G.2.2.1 + 1) 0 0 (dw_up I4 408 0 (I4 404 21)) (Nat.zero_le _) (by omega) rfl (fun _ _ => rfl) (fun j => by rw [if_neg (by omega)])
    have g406 : dw_up I4 408 0 (I4 404 21) 406 = I 406 := (up_row (by decide)).trans ((hR4.1 406 (by decide) (by decide)).trans h406)
    have h404 : ∀ j, I5 404 j = I4 404 j := fun j => by rw [hA5 404 (by decide), up_row (by decide)]
    refine h1 hg I5 J4 (I4 404 21) (fun a q1 q2 q3 => ?_) (fun j hj => ?_) ?_ (fun a ha => ?_) (fun j hj => ?_) ?_ ?_ h21 hlen h24
    · rw [hA5 a q2, up_row q3, hR4.1 a q1 q3, hA3 a q1]; exact hA2 a q1
    · rw [h404 j, hR4.2.1 j ⟨by omega, by omega, by omega, by omega, by omega, by omega, by omega, by omega⟩ (by omega), hF3 j (by omega) (by omega) (by omega) (by omega) (by omega)]; exact hF2 j hj
    · rw [h404 2, hR4.2.1 2 (by decide) (by decide), hF3 2 (by decide) (by decide) (by decide) (by decide) (by decide)]; exact e2
    · rw [hR4.2.2.1 a ha]; exact hJa3 a ha
    · rw [hB5 j, if_neg (by omega), g406]
    · rw [hB5 803, if_pos (by omega)]; exact up_same
    · refine mp_same (R := I4 408) G.2.2.2 (fun j h1 hj => ?_) hD4
      show I5 406 (803 + j) = I4 408 j
      rw [hB5 (803 + j), if_pos (by omega), show 803 + j - 803 = j by omega]
      exact up_fld (by omega)
  · refine h2 hg I4 J4 w (fun a q1 q2 => ?_) (fun j hj => ?_) ?_ (fun a ha => ?_) hw
    · rw [hR4.1 a q1 q2, hA3 a q1]; exact hA2 a q1
    · rw [hR4.2.1 j ⟨by omega, by omega, by omega, by omega, by omega, by omega, by omega, by omega⟩ (by omega), hF3 j (by omega) (by omega) (by omega) (by omega) (by omega)]; exact hF2 j hj
    · rw [hR4.2.1 2 (by decide) (by decide), hF3 2 (by decide) (by decide) (by decide) (by decide) (by decide)]; exact e2
    · rw [hR4.2.2.1 a ha]; exact hJa3 a ha
end
section
/-! ===== where a RUN lies ===== -/
/-- a RUN lies at A -/
def RT (A : Nat) : Prop := (SH1 A).1 = 7 ∧ ((SH1 A).2.2 7 = some (A + 1) ∧ (SH1 A).2.2 8 = some (A + 8) ∧ (SH1 A).2.2 9 = some (A + 9) ∧ (SH1 A).2.2 10 = some (A + 10) ∧ (SH1 A).2.2 11 = some (A + 11) ∧ (SH1 A).2.2 12 = some (A + 12) ∧ (SH1 A).2.2 13 = some (A + 13) ∧ (SH1 A).2.2 14 = some (A + 14)) ∧
  ((SH1 (A + 8)).1 = 16 ∧ (SH1 (A + 9)).1 = 16 ∧ (SH1 (A + 10)).1 = 16 ∧ (SH1 (A + 11)).1 = 16 ∧ (SH1 (A + 12)).1 = 16 ∧ (SH1 (A + 13)).1 = 16 ∧ (SH1 (A + 14)).1 = 16) ∧
  ((SH1 (A + 8)).2.1 = 144 ∧ (SH1 (A + 9)).2.1 = 144 ∧ (SH1 (A + 10)).2.1 = 144 ∧ (SH1 (A + 11)).2.1 = 144 ∧ (SH1 (A + 12)).2.1 = 144 ∧ (SH1 (A + 13)).2.1 = 144 ∧ (SH1 (A + 14)).2.1 = 144) ∧ NT (A + 1)
def rt_list : List Nat := [43, 164, 179, 250, 347]
def nt_list2 : List Nat := [44, 165, 180, 251, 348, 265, 272, 279, 286, 293, 300, 362, 369, 376, 383, 390, 397]
set_option maxRecDepth 8000 in
theorem nt_dec2 : (nt_list2.all (fun A => decide ((dx_ce A).k = 2) && decide (((dx_ce A).rf[1]?).join = some (A + 1)) && decide ((dx_ce (A + 1)).k = 20) && decide ((dx_ce (A + 1)).n = 5) && (List.range 5).all (fun w => decide (((dx_ce (A + 1)).rf[w]?).join = some (A + 2 + w)) && decide ((dx_ce (A + 2 + w)).k = 16) && decide ((dx_ce (A + 2 + w)).n = 144)))) = true := by decide +kernel
set_option maxRecDepth 8000 in
theorem nt_ok2 {A : Nat} (h : A ∈ nt_list2) : NT A := by
  have h1 := List.all_eq_true.mp nt_dec2 A h
  simp only [Bool.and_eq_true, decide_eq_true_eq] at h1
  obtain ⟨⟨⟨⟨a1, a2⟩, a3⟩, a4⟩, a5⟩ := h1
  refine ⟨(shE A).1.trans a1, ((shE A).2.2 1).trans a2, (shE (A + 1)).1.trans a3, (shE (A + 1)).2.1.trans a4, fun w hw => ?_⟩
  have h2 := List.all_eq_true.mp a5 w (List.mem_range.mpr hw)
  simp only [Bool.and_eq_true, decide_eq_true_eq] at h2
  obtain ⟨⟨b1, b2⟩, b3⟩ := h2
  exact ⟨((shE (A + 1)).2.2 w).trans b1, (shE (A + 2 + w)).1.trans b2, (shE (A + 2 + w)).2.1.trans b3⟩
set_option maxRecDepth 8000 in
theorem rt_dec : (rt_list.all (fun A => decide ((dx_ce A).k = 7) && (decide (((dx_ce A).rf[7]?).join = some (A + 1)) && decide (A + 1 ∈ nt_list2) && (List.range 7).all (fun j => decide (((dx_ce A).rf[8 + j]?).join = some (A + (8 + j))) && decide ((dx_ce (A + (8 + j))).k = 16) && decide ((dx_ce (A + (8 + j))).n = 144))))) = true := by decide +kernel
set_option maxRecDepth 8000 in
theorem rt_ok {A : Nat} (h : A ∈ rt_list) : RT A := by
  have h1 := List.all_eq_true.mp rt_dec A h
  simp only [Bool.and_eq_true, decide_eq_true_eq] at h1
  obtain ⟨a1, ⟨a2, a3⟩, a4⟩ := h1
  have g : ∀ j, j < 7 → (SH1 A).2.2 (8 + j) = some (A + (8 + j)) ∧ (SH1 (A + (8 + j))).1 = 16 ∧ (SH1 (A + (8 + j))).2.1 = 144 := fun j hj => by
    have h2 := List.all_eq_true.mp a4 j (List.mem_range.mpr hj)
    simp only [Bool.and_eq_true, decide_eq_true_eq] at h2
    obtain ⟨⟨b1, b2⟩, b3⟩ := h2
    exact ⟨((shE A).2.2 (8 + j)).trans b1, (shE (A + (8 + j))).1.trans b2, (shE (A + (8 + j))).2.1.trans b3⟩
  exact ⟨(shE A).1.trans a1, ⟨((shE A).2.2 7).trans a2, (g 0 (by decide)).1, (g 1 (by decide)).1, (g 2 (by decide)).1, (g 3 (by decide)).1, (g 4 (by decide)).1, (g 5 (by decide)).1, (g 6 (by decide)).1⟩,
    ⟨(g 0 (by decide)).2.1, (g 1 (by decide)).2.1, (g 2 (by decide)).2.1, (g 3 (by decide)).2.1, (g 4 (by decide)).2.1, (g 5 (by decide)).2.1, (g 6 (by decide)).2.1⟩,
    ⟨(g 0 (by decide)).2.2, (g 1 (by decide)).2.2, (g 2 (by decide)).2.2, (g 3 (by decide)).2.2, (g 4 (by decide)).2.2, (g 5 (by decide)).2.2, (g 6 (by decide)).2.2⟩, nt_ok2 a3⟩
end
section
/-! ===== a PLAN, a RUN, a whole state copied ===== -/
set_option maxRecDepth 8000 in
theorem v_pcopy2 {n : Nat} {I : Nat → Nat → Int32} {J : Nat → Nat → Int64} {K : dw_K} {A B : Nat} (hA : PT A) (hB : PT B) (hAB : A + 32 ≤ B ∨ B + 32 ≤ A)
    (hk : ∀ I' : Nat → Nat → Int32, (∀ a, (a < A ∨ A + 31 < a) → I' a = I a) → I' A 0 = I B 0 → (∀ w, w < 30 → ∀ t, t < 3 → I' (A + 2 + w) t = I (B + 2 + w) t) → K none (n, SH1, I', J)) : t_X5_copyFrom [.ref A, .ref B] (n, SH1, I, J) K :=
  v_pcopy hA hB hAB (fun I' h1 _ h3 h4 => hk I' (fun a ha => h1 a (by omega) (by omega)) h3 h4)
set_option maxRecDepth 8000 in
theorem v_rcopy {n : Nat} {I : Nat → Nat → Int32} {J : Nat → Nat → Int64} {K : dw_K} {A B : Nat} (hA : RT A) (hB : RT B) (hAB : A + 15 ≤ B ∨ B + 15 ≤ A) (hz : I B 0 = 0 ∨ I B 0 = 1) (hz1 : I (B + 1) 0 = 0 ∨ I (B + 1) 0 = 1)
    (hk : ∀ I' : Nat → Nat → Int32, (∀ a, (a < A ∨ A + 14 < a) → I' a = I a) → (∀ j, j < 7 → I' A j = I B j) → I' (A + 1) 0 = I (B + 1) 0 → (∀ w, w < 5 → ∀ t, t < 144 → I' (A + 3 + w) t = I (B + 3 + w) t) → (∀ i, 8 ≤ i → i ≤ 14 → ∀ j, j < 144 → I' (A + i) j = I (B + i) j) → K none (n, SH1, I', J)) : t_X7_copyFrom [.ref A, .ref B] (n, SH1, I, J) K := by
  obtain ⟨kA, ⟨rA7, rA8, rA9, rA10, rA11, rA12, rA13, rA14⟩, ⟨kA8, kA9, kA10, kA11, kA12, kA13, kA14⟩, ⟨nA8, nA9, nA10, nA11, nA12, nA13, nA14⟩, hNA⟩ := hA
  obtain ⟨kB, ⟨rB7, rB8, rB9, rB10, rB11, rB12, rB13, rB14⟩, ⟨kB8, kB9, kB10, kB11, kB12, kB13, kB14⟩, ⟨nB8, nB9, nB10, nB11, nB12, nB13, nB14⟩, hNB⟩ := hB
  refine q_body (Nat.le_of_ble_eq_true rfl) ?_
  refine q_ald rfl rfl ?_
  refine q_ald rfl rfl ?_
  refine q_getz rfl kB ?_
  refine q_putz rfl kA hz ?_
  show dw_ok (pr_X7_copyFrom K) 8 0 0 [some (.ref A), some (.ref B)] [] (n, SH1, dw_up I A 0 (I B 0), J)
  have r0 : ∀ a, a ≠ A → dw_up I A 0 (I B 0) a = I a := fun a ha => up_row ha
  have f0 : ∀ j, j < 1 → dw_up I A 0 (I B 0) A j = I B j := fun j hj => by
    by_cases e : j = 0
    · rw [e, up_same]
    · rw [up_fld e]; exact absurd hj (by omega)
  generalize dw_up I A 0 (I B 0) = F0 at r0 f0 ⊢
  refine q_ald rfl rfl ?_
  refine q_ald rfl rfl ?_
  refine q_geti rfl kB ?_
  refine q_puti rfl kA ?_
  show dw_ok (pr_X7_copyFrom K) 16 0 0 [some (.ref A), some (.ref B)] [] (n, SH1, dw_up F0 A 1 (F0 B 1), J)
  have r1 : ∀ a, a ≠ A → dw_up F0 A 1 (F0 B 1) a = I a := fun a ha => (up_row ha).trans (r0 a ha)
  have f1 : ∀ j, j < 2 → dw_up F0 A 1 (F0 B 1) A j = I B j := fun j hj => by
    by_cases e : j = 1
    · rw [e, up_same]; exact congrFun (r0 B (by omega)) 1
    · rw [up_fld e]; exact f0 j (by omega)
  generalize dw_up F0 A 1 (F0 B 1) = F1 at r1 f1 ⊢
  refine q_ald rfl rfl ?_
  refine q_ald rfl rfl ?_
  refine q_geti rfl kB ?_
  refine q_puti rfl kA ?_
  show dw_ok (pr_X7_copyFrom K) 24 0 0 [some (.ref A), some (.ref B)] [] (n, SH1, dw_up F1 A 2 (F1 B 2), J)
  have r2 : ∀ a, a ≠ A → dw_up F1 A 2 (F1 B 2) a = I a := fun a ha => (up_row ha).trans (r1 a ha)
  have f2 : ∀ j, j < 3 → dw_up F1 A 2 (F1 B 2) A j = I B j := fun j hj => by
    by_cases e : j = 2
    · rw [e, up_same]; exact congrFun (r1 B (by omega)) 2
    · rw [up_fld e]; exact f1 j (by omega)
  generalize dw_up F1 A 2 (F1 B 2) = F2 at r2 f2 ⊢
  refine q_ald rfl rfl ?_
  refine q_ald rfl rfl ?_
  refine q_geti rfl kB ?_
  refine q_puti rfl kA ?_
  show dw_ok (pr_X7_copyFrom K) 32 0 0 [some (.ref A), some (.ref B)] [] (n, SH1, dw_up F2 A 3 (F2 B 3), J)
  have r3 : ∀ a, a ≠ A → dw_up F2 A 3 (F2 B 3) a = I a := fun a ha => (up_row ha).trans (r2 a ha)
  have f3 : ∀ j, j < 4 → dw_up F2 A 3 (F2 B 3) A j = I B j := fun j hj => by
    by_cases e : j = 3
    · rw [e, up_same]; exact congrFun (r2 B (by omega)) 3
    · rw [up_fld e]; exact f2 j (by omega)
  generalize dw_up F2 A 3 (F2 B 3) = F3 at r3 f3 ⊢
  refine q_ald rfl rfl ?_
  refine q_ald rfl rfl ?_
  refine q_geti rfl kB ?_
  refine q_puti rfl kA ?_
  show dw_ok (pr_X7_copyFrom K) 40 0 0 [some (.ref A), some (.ref B)] [] (n, SH1, dw_up F3 A 4 (F3 B 4), J)
  have r4 : ∀ a, a ≠ A → dw_up F3 A 4 (F3 B 4) a = I a := fun a ha => (up_row ha).trans (r3 a ha)
  have f4 : ∀ j, j < 5 → dw_up F3 A 4 (F3 B 4) A j = I B j := fun j hj => by
    by_cases e : j = 4
    · rw [e, up_same]; exact congrFun (r3 B (by omega)) 4
    · rw [up_fld e]; exact f3 j (by omega)
  generalize dw_up F3 A 4 (F3 B 4) = F4 at r4 f4 ⊢
  refine q_ald rfl rfl ?_
  refine q_ald rfl rfl ?_
  refine q_geti rfl kB ?_
  refine q_puti rfl kA ?_
  show dw_ok (pr_X7_copyFrom K) 48 0 0 [some (.ref A), some (.ref B)] [] (n, SH1, dw_up F4 A 5 (F4 B 5), J)
  have r5 : ∀ a, a ≠ A → dw_up F4 A 5 (F4 B 5) a = I a := fun a ha => (up_row ha).trans (r4 a ha)
  have f5 : ∀ j, j < 6 → dw_up F4 A 5 (F4 B 5) A j = I B j := fun j hj => by
    by_cases e : j = 5
    · rw [e, up_same]; exact congrFun (r4 B (by omega)) 5
    · rw [up_fld e]; exact f4 j (by omega)
  generalize dw_up F4 A 5 (F4 B 5) = F5 at r5 f5 ⊢
  refine q_ald rfl rfl ?_
  refine q_ald rfl rfl ?_
  refine q_geti rfl kB ?_
  refine q_puti rfl kA ?_
  show dw_ok (pr_X7_copyFrom K) 56 0 0 [some (.ref A), some (.ref B)] [] (n, SH1, dw_up F5 A 6 (F5 B 6), J)
  have r6 : ∀ a, a ≠ A → dw_up F5 A 6 (F5 B 6) a = I a := fun a ha => (up_row ha).trans (r5 a ha)
  have f6 : ∀ j, j < 7 → dw_up F5 A 6 (F5 B 6) A j = I B j := fun j hj => by
    by_cases e : j = 6
    · rw [e, up_same]; exact congrFun (r5 B (by omega)) 6
    · rw [up_fld e]; exact f5 j (by omega)
  generalize dw_up F5 A 6 (F5 B 6) = F6 at r6 f6 ⊢
  refine q_ald rfl rfl ?_
  refine q_getr rfl kA rA7 ?_
  refine q_ald rfl rfl ?_
  refine q_getr rfl kB rB7 ?_
  refine q_callV (as := [.ref (B + 1)]) (rest := []) rfl rfl hNA.1 rfl (Nat.le_of_ble_eq_true rfl) ?_
  refine v_ncopy hNA hNB (by omega) (by rw [r6 (B + 1) (by omega)]; exact hz1) (fun H7 g7 hf7 h70 h7 => ?_)
  show dw_ok (pr_X7_copyFrom K) 67 0 0 [some (.ref A), some (.ref B)] [] (n, SH1, H7, J)
  have g7' : ∀ a, (a < A + 1 ∨ A + 7 < a) → H7 a = F6 a := fun a ha => g7 a (by omega) (by omega)
  refine q_ald rfl rfl ?_
  refine q_getr rfl kB rB8 ?_
  refine q_ic rfl ?_
  refine q_ald rfl rfl ?_
  refine q_getr rfl kA rA8 ?_
  refine q_ic rfl ?_
  refine q_ic rfl ?_
  refine q_copy (n := 144) rfl kB8 kA8 nB8 nA8 rfl rfl (Nat.le_refl _) (Nat.le_refl _) ?_
  show dw_ok (pr_X7_copyFrom K) 83 0 0 [some (.ref A), some (.ref B)] [] (n, SH1, (dw_cp (n, SH1, H7, J) (B + 8) (A + 8) 0 0 144).2.2.1, J)
  have g8 : ∀ a, a ≠ A + 8 → (dw_cp (n, SH1, H7, J) (B + 8) (A + 8) 0 0 144).2.2.1 a = H7 a := fun a ha => cp_row ha
  have h8 : ∀ j, j < 144 → (dw_cp (n, SH1, H7, J) (B + 8) (A + 8) 0 0 144).2.2.1 (A + 8) j = H7 (B + 8) j := fun j hj => cp_at hj
  generalize (dw_cp (n, SH1, H7, J) (B + 8) (A + 8) 0 0 144).2.2.1 = H8 at g8 h8 ⊢
  refine q_ald rfl rfl ?_
  refine q_getr rfl kB rB9 ?_
  refine q_ic rfl ?_
  refine q_ald rfl rfl ?_
  refine q_getr rfl kA rA9 ?_
  refine q_ic rfl ?_
  refine q_ic rfl ?_
  refine q_copy (n := 144) rfl kB9 kA9 nB9 nA9 rfl rfl (Nat.le_refl _) (Nat.le_refl _) ?_
  show dw_ok (pr_X7_copyFrom K) 99 0 0 [some (.ref A), some (.ref B)] [] (n, SH1, (dw_cp (n, SH1, H8, J) (B + 9) (A + 9) 0 0 144).2.2.1, J)
  have g9 : ∀ a, a ≠ A + 9 → (dw_cp (n, SH1, H8, J) (B + 9) (A + 9) 0 0 144).2.2.1 a = H8 a := fun a ha => cp_row ha
  have h9 : ∀ j, j < 144 → (dw_cp (n, SH1, H8, J) (B + 9) (A + 9) 0 0 144).2.2.1 (A + 9) j = H8 (B + 9) j := fun j hj => cp_at hj
  generalize (dw_cp (n, SH1, H8, J) (B + 9) (A + 9) 0 0 144).2.2.1 = H9 at g9 h9 ⊢
  refine q_ald rfl rfl ?_
  refine q_getr rfl kB rB10 ?_
  refine q_ic rfl ?_
  refine q_ald rfl rfl ?_
  refine q_getr rfl kA rA10 ?_
  refine q_ic rfl ?_
  refine q_ic rfl ?_
  refine q_copy (n := 144) rfl kB10 kA10 nB10 nA10 rfl rfl (Nat.le_refl _) (Nat.le_refl _) ?_
  show dw_ok (pr_X7_copyFrom K) 115 0 0 [some (.ref A), some (.ref B)] [] (n, SH1, (dw_cp (n, SH1, H9, J) (B + 10) (A + 10) 0 0 144).2.2.1, J)
  have g10 : ∀ a, a ≠ A + 10 → (dw_cp (n, SH1, H9, J) (B + 10) (A + 10) 0 0 144).2.2.1 a = H9 a := fun a ha => cp_row ha
  have h10 : ∀ j, j < 144 → (dw_cp (n, SH1, H9, J) (B + 10) (A + 10) 0 0 144).2.2.1 (A + 10) j = H9 (B + 10) j := fun j hj => cp_at hj
  generalize (dw_cp (n, SH1, H9, J) (B + 10) (A + 10) 0 0 144).2.2.1 = H10 at g10 h10 ⊢
  refine q_ald rfl rfl ?_
  refine q_getr rfl kB rB11 ?_
  refine q_ic rfl ?_
  refine q_ald rfl rfl ?_
  refine q_getr rfl kA rA11 ?_
  refine q_ic rfl ?_
  refine q_ic rfl ?_
  refine q_copy (n := 144) rfl kB11 kA11 nB11 nA11 rfl rfl (Nat.le_refl _) (Nat.le_refl _) ?_
  show dw_ok (pr_X7_copyFrom K) 131 0 0 [some (.ref A), some (.ref B)] [] (n, SH1, (dw_cp (n, SH1, H10, J) (B + 11) (A + 11) 0 0 144).2.2.1, J)
  have g11 : ∀ a, a ≠ A + 11 → (dw_cp (n, SH1, H10, J) (B + 11) (A + 11) 0 0 144).2.2.1 a = H10 a := fun a ha => cp_row ha
  have h11 : ∀ j, j < 144 → (dw_cp (n, SH1, H10, J) (B + 11) (A + 11) 0 0 144).2.2.1 (A + 11) j = H10 (B + 11) j := fun j hj => cp_at hj
  generalize (dw_cp (n, SH1, H10, J) (B + 11) (A + 11) 0 0 144).2.2.1 = H11 at g11 h11 ⊢
  refine q_ald rfl rfl ?_
  refine q_getr rfl kB rB12 ?_
  refine q_ic rfl ?_
  refine q_ald rfl rfl ?_
  refine q_getr rfl kA rA12 ?_
  refine q_ic rfl ?_
  refine q_ic rfl ?_
  refine q_copy (n := 144) rfl kB12 kA12 nB12 nA12 rfl rfl (Nat.le_refl _) (Nat.le_refl _) ?_
  show dw_ok (pr_X7_copyFrom K) 147 0 0 [some (.ref A), some (.ref B)] [] (n, SH1, (dw_cp (n, SH1, H11, J) (B + 12) (A + 12) 0 0 144).2.2.1, J)
  have g12 : ∀ a, a ≠ A + 12 → (dw_cp (n, SH1, H11, J) (B + 12) (A + 12) 0 0 144).2.2.1 a = H11 a := fun a ha => cp_row ha
  have h12 : ∀ j, j < 144 → (dw_cp (n, SH1, H11, J) (B + 12) (A + 12) 0 0 144).2.2.1 (A + 12) j = H11 (B + 12) j := fun j hj => cp_at hj
  generalize (dw_cp (n, SH1, H11, J) (B + 12) (A + 12) 0 0 144).2.2.1 = H12 at g12 h12 ⊢
  refine q_ald rfl rfl ?_
  refine q_getr rfl kB rB13 ?_
  refine q_ic rfl ?_
  refine q_ald rfl rfl ?_
  refine q_getr rfl kA rA13 ?_
  refine q_ic rfl ?_
  refine q_ic rfl ?_
  refine q_copy (n := 144) rfl kB13 kA13 nB13 nA13 rfl rfl (Nat.le_refl _) (Nat.le_refl _) ?_
  show dw_ok (pr_X7_copyFrom K) 163 0 0 [some (.ref A), some (.ref B)] [] (n, SH1, (dw_cp (n, SH1, H12, J) (B + 13) (A + 13) 0 0 144).2.2.1, J)
  have g13 : ∀ a, a ≠ A + 13 → (dw_cp (n, SH1, H12, J) (B + 13) (A + 13) 0 0 144).2.2.1 a = H12 a := fun a ha => cp_row ha
  have h13 : ∀ j, j < 144 → (dw_cp (n, SH1, H12, J) (B + 13) (A + 13) 0 0 144).2.2.1 (A + 13) j = H12 (B + 13) j := fun j hj => cp_at hj
  generalize (dw_cp (n, SH1, H12, J) (B + 13) (A + 13) 0 0 144).2.2.1 = H13 at g13 h13 ⊢
  refine q_ald rfl rfl ?_
  refine q_getr rfl kB rB14 ?_
  refine q_ic rfl ?_
  refine q_ald rfl rfl ?_
  refine q_getr rfl kA rA14 ?_
  refine q_ic rfl ?_
  refine q_ic rfl ?_
  refine q_copy (n := 144) rfl kB14 kA14 nB14 nA14 rfl rfl (Nat.le_refl _) (Nat.le_refl _) ?_
  show dw_ok (pr_X7_copyFrom K) 179 0 0 [some (.ref A), some (.ref B)] [] (n, SH1, (dw_cp (n, SH1, H13, J) (B + 14) (A + 14) 0 0 144).2.2.1, J)
  have g14 : ∀ a, a ≠ A + 14 → (dw_cp (n, SH1, H13, J) (B + 14) (A + 14) 0 0 144).2.2.1 a = H13 a := fun a ha => cp_row ha
  have h14 : ∀ j, j < 144 → (dw_cp (n, SH1, H13, J) (B + 14) (A + 14) 0 0 144).2.2.1 (A + 14) j = H13 (B + 14) j := fun j hj => cp_at hj
  generalize (dw_cp (n, SH1, H13, J) (B + 14) (A + 14) 0 0 144).2.2.1 = H14 at g14 h14 ⊢
  refine q_vret rfl (hk H14 (fun a ha => ?_) (fun j hj => ?_) ?_ (fun w hw t ht => ?_) (fun i h1 h2 j hj => ?_))
  · rw [g14 (a) (by omega), g13 (a) (by omega), g12 (a) (by omega), g11 (a) (by omega), g10 (a) (by omega), g9 (a) (by omega), g8 (a) (by omega), g7' a (by omega)]; exact r6 a (by omega)
  · rw [g14 (A) (by omega), g13 (A) (by omega), g12 (A) (by omega), g11 (A) (by omega), g10 (A) (by omega), g9 (A) (by omega), g8 (A) (by omega), g7' A (by omega)]; exact f6 j hj
  · rw [g14 (A + 1) (by omega), g13 (A + 1) (by omega), g12 (A + 1) (by omega), g11 (A + 1) (by omega), g10 (A + 1) (by omega), g9 (A + 1) (by omega), g8 (A + 1) (by omega), h70]; exact congrFun (r6 (B + 1) (by omega)) 0
  · have e := h7 w hw t ht
    rw [show A + 1 + 2 + w = A + 3 + w by omega, show B + 1 + 2 + w = B + 3 + w by omega] at e
    rw [g14 (A + 3 + w) (by omega), g13 (A + 3 + w) (by omega), g12 (A + 3 + w) (by omega), g11 (A + 3 + w) (by omega), g10 (A + 3 + w) (by omega), g9 (A + 3 + w) (by omega), g8 (A + 3 + w) (by omega), e]; exact congrFun (r6 (B + 3 + w) (by omega)) t
  · have ei : i = 8 ∨ i = 9 ∨ i = 10 ∨ i = 11 ∨ i = 12 ∨ i = 13 ∨ i = 14 := by omega
    rcases ei with rfl | rfl | rfl | rfl | rfl | rfl | rfl
    · rw [g14 (A + 8) (by omega), g13 (A + 8) (by omega), g12 (A + 8) (by omega), g11 (A + 8) (by omega), g10 (A + 8) (by omega), g9 (A + 8) (by omega), h8 j hj, g7' (B + 8) (by omega)]; exact congrFun (r6 (B + 8) (by omega)) j
    · rw [g14 (A + 9) (by omega), g13 (A + 9) (by omega), g12 (A + 9) (by omega), g11 (A + 9) (by omega), g10 (A + 9) (by omega), h9 j hj, g8 (B + 9) (by omega), g7' (B + 9) (by omega)]; exact congrFun (r6 (B + 9) (by omega)) j
    · rw [g14 (A + 10) (by omega), g13 (A + 10) (by omega), g12 (A + 10) (by omega), g11 (A + 10) (by omega), h10 j hj, g9 (B + 10) (by omega), g8 (B + 10) (by omega), g7' (B + 10) (by omega)]; exact congrFun (r6 (B + 10) (by omega)) j
    · rw [g14 (A + 11) (by omega), g13 (A + 11) (by omega), g12 (A + 11) (by omega), h11 j hj, g10 (B + 11) (by omega), g9 (B + 11) (by omega), g8 (B + 11) (by omega), g7' (B + 11) (by omega)]; exact congrFun (r6 (B + 11) (by omega)) j
    · rw [g14 (A + 12) (by omega), g13 (A + 12) (by omega), h12 j hj, g11 (B + 12) (by omega), g10 (B + 12) (by omega), g9 (B + 12) (by omega), g8 (B + 12) (by omega), g7' (B + 12) (by omega)]; exact congrFun (r6 (B + 12) (by omega)) j
    · rw [g14 (A + 13) (by omega), h13 j hj, g12 (B + 13) (by omega), g11 (B + 13) (by omega), g10 (B + 13) (by omega), g9 (B + 13) (by omega), g8 (B + 13) (by omega), g7' (B + 13) (by omega)]; exact congrFun (r6 (B + 13) (by omega)) j
    · rw [h14 j hj, g13 (B + 14) (by omega), g12 (B + 14) (by omega), g11 (B + 14) (by omega), g10 (B + 14) (by omega), g9 (B + 14) (by omega), g8 (B + 14) (by omega), g7' (B + 14) (by omega)]; exact congrFun (r6 (B + 14) (by omega)) j
/-- all that an image keeps lies at S -/
def ST (S : Nat) : Prop := (SH1 S).1 = 8 ∧ ((SH1 S).2.2 1 = some (S + 1) ∧ (SH1 S).2.2 2 = some (S + 7) ∧ (SH1 S).2.2 3 = some (S + 8) ∧ (SH1 S).2.2 4 = some (S + 40)) ∧ (SH1 (S + 7)).1 = 22 ∧ (SH1 (S + 7)).2.1 = 6 ∧ (∀ s, s < 6 → (SH1 (S + 7)).2.2 s = some (S + 55 + 7 * s) ∧ NT (S + 55 + 7 * s)) ∧ GT (S + 1) ∧ PT (S + 8) ∧ RT (S + 40)
set_option maxRecDepth 8000 in
theorem sto_dec : ([3, 210, 307].all (fun S => decide ((dx_ce S).k = 8) && (decide (((dx_ce S).rf[1]?).join = some (S + 1)) && decide (((dx_ce S).rf[2]?).join = some (S + 7)) && decide (((dx_ce S).rf[3]?).join = some (S + 8)) && decide (((dx_ce S).rf[4]?).join = some (S + 40))) && (decide ((dx_ce (S + 7)).k = 22) && decide ((dx_ce (S + 7)).n = 6)) && (List.range 6).all (fun s => decide (((dx_ce (S + 7)).rf[s]?).join = some (S + 55 + 7 * s)) && (decide (S + 55 + 7 * s ∈ nt_list) || decide (S + 55 + 7 * s ∈ nt_list2))) && decide (S + 8 ∈ pt_list) && decide (S + 40 ∈ rt_list))) = true := by decide +kernel
set_option maxRecDepth 8000 in
theorem sto_ok {S : Nat} (h : S ∈ [3, 210, 307]) (hg : GT (S + 1)) : ST S := by
  have h1 := List.all_eq_true.mp sto_dec S h
  simp only [Bool.and_eq_true, Bool.or_eq_true, decide_eq_true_eq] at h1
  obtain ⟨⟨⟨⟨⟨a1, ⟨⟨a2, a3⟩, a4⟩, a5⟩, a6, a7⟩, a8⟩, a9⟩, a10⟩ := h1
  refine ⟨(shE S).1.trans a1, ⟨((shE S).2.2 1).trans a2, ((shE S).2.2 2).trans a3, ((shE S).2.2 3).trans a4, ((shE S).2.2 4).trans a5⟩, (shE (S + 7)).1.trans a6, (shE (S + 7)).2.1.trans a7, fun s hs => ?_, hg, pt_ok a9, rt_ok a10⟩
  have h2 := List.all_eq_true.mp a8 s (List.mem_range.mpr hs)
  simp only [Bool.and_eq_true, Bool.or_eq_true, decide_eq_true_eq] at h2
  exact ⟨((shE (S + 7)).2.2 s).trans h2.1, h2.2.elim nt_ok nt_ok2⟩
set_option maxRecDepth 8000 in
theorem st_3 : ST 3 := sto_ok (by decide) gt_4
set_option maxRecDepth 8000 in
theorem st_210 : ST 210 := sto_ok (by decide) gt_211
set_option maxRecDepth 8000 in
theorem st_307 : ST 307 := sto_ok (by decide) gt_308
set_option maxRecDepth 8000 in
theorem v_nightOfS {n : Nat} {I : Nat → Nat → Int32} {J : Nat → Nat → Int64} {K : dw_K} {x : Int32} {S s : Nat} (hS : ST S) (hs : s < 6) (hx : x.toInt = s) (hk : K (some (.ref (S + 55 + 7 * s))) (n, SH1, I, J)) : t_X8_nightOf [.ref S, .int x] (n, SH1, I, J) K := by
  have c6 : (6 : Int32).toInt = 6 := rfl
  have hxn : x.toInt.toNat = s := by omega
  obtain ⟨k0, ⟨r1, r2, r3, r4⟩, k7, n7, hn, -⟩ := hS
  refine q_body (Nat.le_of_ble_eq_true rfl) ?_
  refine q_ild rfl rfl ?_
  refine q_if (c := 2) rfl (by decide) (fun h => absurd (show x.toInt < 0 from h) (by omega)) (fun _ => ?_)
  refine q_ild rfl rfl ?_
  refine q_ic rfl ?_
  refine q_icmp (c := 3) rfl (by decide) (fun g => absurd (show (6 : Int32).toInt ≤ x.toInt from g) (by omega)) (fun _ => ?_)
  refine q_ald rfl rfl ?_
  refine q_getr rfl k0 r2 ?_
  refine q_ild rfl rfl ?_
  refine q_xaldr rfl k7 n7 (by omega) (show x.toInt < (6 : Nat) by omega) (show (SH1 (S + 7)).2.2 x.toInt.toNat = some (S + 55 + 7 * s) by rw [hxn]; exact (hn s hs).1) ?_
  refine q_goto rfl ?_
  exact q_aret rfl hk
/-- what of a state's rows counts -/
def rlv (i j : Nat) : Prop := (i = 1 ∧ j < 5) ∨ (2 ≤ i ∧ i ≤ 4 ∧ j < 8) ∨ (5 ≤ i ∧ i ≤ 6 ∧ j < 144) ∨ (i = 8 ∧ j = 0) ∨ (10 ≤ i ∧ i ≤ 39 ∧ j < 3) ∨ (i = 40 ∧ j < 7) ∨ (i = 41 ∧ j = 0) ∨ (43 ≤ i ∧ i ≤ 54 ∧ j < 144) ∨ (∃ s, s < 6 ∧ ((i = 55 + 7 * s ∧ j = 0) ∨ (57 + 7 * s ≤ i ∧ i ≤ 61 + 7 * s ∧ j < 144)))
set_option maxRecDepth 8000 in
theorem stc_loop {n : Nat} {J : Nat → Nat → Int64} {K : dw_K} {bc bs A B : Nat} {I0 : Nat → Nat → Int32} (hA : ST A) (hB : ST B) (hAB : A + 97 ≤ B ∨ B + 97 ≤ A) (hz : ∀ s, s < 6 → I0 (B + 55 + 7 * s) 0 = 0 ∨ I0 (B + 55 + 7 * s) 0 = 1)
    (hk : ∀ I' : Nat → Nat → Int32, (∀ a, (a < A + 55 ∨ A + 96 < a) → I' a = I0 a) → (∀ s, s < 6 → I' (A + 55 + 7 * s) 0 = I0 (B + 55 + 7 * s) 0 ∧ ∀ w, w < 5 → ∀ t, t < 144 → I' (A + 57 + 7 * s + w) t = I0 (B + 57 + 7 * s + w) t) → K none (n, SH1, I', J)) :
    ∀ (f i : Nat) (x : Int32) (s3 s4 : Option Value) (I : Nat → Nat → Int32), i + f = 6 → x.toInt = i → (∀ a, (a < A + 55 ∨ A + 96 < a) → I a = I0 a) → (∀ s, s < i → I (A + 55 + 7 * s) 0 = I0 (B + 55 + 7 * s) 0 ∧ ∀ w, w < 5 → ∀ t, t < 144 → I (A + 57 + 7 * s + w) t = I0 (B + 57 + 7 * s + w) t) → dw_ok (pr_X8_copyFrom K) 35 bc bs [some (.ref A), some (.ref B), some (.int x), s3, s4] [] (n, SH1, I, J) := by
  have c1 : (1 : Int32).toInt = 1 := rfl
  have c6 : (6 : Int32).toInt = 6 := rfl
  intro f
  induction f with
  | zero =>
    intro i x s3 s4 I hi hx h1 h2
    refine q_ild rfl rfl ?_
    refine q_ic rfl ?_
    refine q_icmp (c := 3) rfl (by decide) (fun _ => ?_) (fun h => absurd (show x.toInt < (6 : Int32).toInt from h) (by omega))
    exact q_vret rfl (hk I h1 (fun s hs => h2 s (by omega)))
  | succ f ih =>
    intro i x s3 s4 I hi hx h1 h2
    have i6 : i < 6 := by omega
    refine q_ild rfl rfl ?_
    refine q_ic rfl ?_
    refine q_icmp (c := 3) rfl (by decide) (fun h => absurd (show (6 : Int32).toInt ≤ x.toInt from h) (by omega)) (fun _ => ?_)
    refine q_ald rfl rfl ?_
    refine q_ild rfl rfl ?_
    refine q_callV (as := [.int x]) (rest := []) rfl rfl hA.1 rfl (Nat.le_of_ble_eq_true rfl) ?_
    refine v_nightOfS hA i6 hx ?_
    show dw_ok (pr_X8_copyFrom K) 46 bc bs [some (.ref A), some (.ref B), some (.int x), s3, s4] [.ref (A + 55 + 7 * i)] (n, SH1, I, J)
    refine q_ast rfl rfl ?_
    refine q_ald rfl rfl ?_
    refine q_ild rfl rfl ?_
    refine q_callV (as := [.int x]) (rest := []) rfl rfl hB.1 rfl (Nat.le_of_ble_eq_true rfl) ?_
    refine v_nightOfS hB i6 hx ?_
    show dw_ok (pr_X8_copyFrom K) 52 bc bs [some (.ref A), some (.ref B), some (.int x), some (.ref (A + 55 + 7 * i)), s4] [.ref (B + 55 + 7 * i)] (n, SH1, I, J)
    refine q_ast rfl rfl ?_
    refine q_ald rfl rfl ?_
    refine q_ifnull_r rfl ?_
    refine q_ald rfl rfl ?_
    refine q_ifnull_r rfl ?_
    refine q_ald rfl rfl ?_
    refine q_ald rfl rfl ?_
    have nA := (hA.2.2.2.2.1 i i6).2
    have nB := (hB.2.2.2.2.1 i i6).2
    refine q_callV (as := [.ref (B + 55 + 7 * i)]) (rest := []) rfl rfl nA.1 rfl (Nat.le_of_ble_eq_true rfl) ?_
    refine v_ncopy nA nB (by omega) (by rw [h1 (B + 55 + 7 * i) (by omega)]; exact hz i i6) (fun I2 g1 g2 g3 g4 => ?_)
    show dw_ok (pr_X8_copyFrom K) 69 bc bs [some (.ref A), some (.ref B), some (.int x), some (.ref (A + 55 + 7 * i)), some (.ref (B + 55 + 7 * i))] [] (n, SH1, I2, J)
    refine q_inc rfl rfl rfl ?_
    refine q_goto rfl ?_
    refine ih (i + 1) (x + 1) _ _ I2 (by omega) (by rw [i_add (by omega) (by omega), c1]; omega) (fun a ha => ?_) (fun s hs => ?_)
    · rw [g1 a (by omega) (by omega)]; exact h1 a ha
    · by_cases e : s = i
      · subst e
        refine ⟨by rw [g3, h1 (B + 55 + 7 * s) (by omega)], fun w hw t ht => ?_⟩
        have q := g4 w hw t ht
        rw [show A + 55 + 7 * s + 2 + w = A + 57 + 7 * s + w by omega, show B + 55 + 7 * s + 2 + w = B + 57 + 7 * s + w by omega, h1 (B + 57 + 7 * s + w) (by omega)] at q
        exact q
      · refine ⟨by rw [g1 (A + 55 + 7 * s) (by omega) (by omega)]; exact (h2 s (by omega)).1, fun w hw t ht => ?_⟩
        rw [g1 (A + 57 + 7 * s + w) (by omega) (by omega)]
        exact (h2 s (by omega)).2 w hw t ht
set_option maxRecDepth 8000 in
theorem v_scopy {n : Nat} {I : Nat → Nat → Int32} {J : Nat → Nat → Int64} {K : dw_K} {A B : Nat} (hA : ST A) (hB : ST B) (hAB : A + 97 ≤ B ∨ B + 97 ≤ A) (hz : I (B + 40) 0 = 0 ∨ I (B + 40) 0 = 1) (hz1 : I (B + 41) 0 = 0 ∨ I (B + 41) 0 = 1) (hz2 : ∀ s, s < 6 → I (B + 55 + 7 * s) 0 = 0 ∨ I (B + 55 + 7 * s) 0 = 1)
    (hk : ∀ I' : Nat → Nat → Int32, (∀ a, (a ≤ A ∨ A + 96 < a) → I' a = I a) → (∀ i j, rlv i j → I' (A + i) j = I (B + i) j) → K none (n, SH1, I', J)) : t_X8_copyFrom [.ref A, .ref B] (n, SH1, I, J) K := by
  have hA' := hA
  have hB' := hB
  obtain ⟨kA, ⟨rA1, rA2, rA3, rA4⟩, -, -, -, gA, pA, uA⟩ := hA
  obtain ⟨kB, ⟨rB1, rB2, rB3, rB4⟩, -, -, -, gB, pB, uB⟩ := hB
  refine q_body (Nat.le_of_ble_eq_true rfl) ?_
  refine q_ald rfl rfl ?_
  refine q_getr rfl kA rA1 ?_
  refine q_ald rfl rfl ?_
  refine q_getr rfl kB rB1 ?_
  refine q_callV (as := [.ref (B + 1)]) (rest := []) rfl rfl gA.1 rfl (Nat.le_of_ble_eq_true rfl) ?_
  refine v_gcopy gA gB (by omega) (fun I1 a1 a2 a3 a4 => ?_)
  show dw_ok (pr_X8_copyFrom K) 11 0 0 [some (.ref A), some (.ref B), none, none, none] [] (n, SH1, I1, J)
  refine q_ald rfl rfl ?_
  refine q_getr rfl kA rA3 ?_
  refine q_ald rfl rfl ?_
  refine q_getr rfl kB rB3 ?_
  refine q_callV (as := [.ref (B + 8)]) (rest := []) rfl rfl pA.1 rfl (Nat.le_of_ble_eq_true rfl) ?_
  refine v_pcopy2 pA pB (by omega) (fun I2 b1 b2 b3 => ?_)
  show dw_ok (pr_X8_copyFrom K) 22 0 0 [some (.ref A), some (.ref B), none, none, none] [] (n, SH1, I2, J)
  have B1 : ∀ a, (a < A + 1 ∨ A + 6 < a) → (a < A + 8 ∨ A + 39 < a) → I2 a = I a := fun a h1 h2 => (b1 a (by omega)).trans (a1 a (by omega))
  refine q_ald rfl rfl ?_
  refine q_getr rfl kA rA4 ?_
  refine q_ald rfl rfl ?_
  refine q_getr rfl kB rB4 ?_
  refine q_callV (as := [.ref (B + 40)]) (rest := []) rfl rfl uA.1 rfl (Nat.le_of_ble_eq_true rfl) ?_
  refine v_rcopy uA uB (by omega) (by rw [B1 (B + 40) (by omega) (by omega)]; exact hz) (by rw [B1 (B + 40 + 1) (by omega) (by omega)]; exact hz1) (fun I3 d1 d2 d3 d4 d5 => ?_)
  show dw_ok (pr_X8_copyFrom K) 33 0 0 [some (.ref A), some (.ref B), none, none, none] [] (n, SH1, I3, J)
  have D1 : ∀ a, (a ≤ A ∨ A + 54 < a) → I3 a = I a := fun a h1 => (d1 a (by omega)).trans (B1 a (by omega) (by omega))
  refine q_ic rfl ?_
  refine q_ist rfl rfl ?_
  refine stc_loop (I0 := I3) hA' hB' hAB (fun s hs => by rw [D1 (B + 55 + 7 * s) (by omega)]; exact hz2 s hs) (fun I4 e1 e2 => ?_) 6 0 0 none none I3 rfl rfl (fun _ _ => rfl) (fun s hs => absurd hs (Nat.not_lt_zero s))
  refine hk I4 (fun a ha => (e1 a (by omega)).trans (D1 a (by omega))) (fun i j hr => ?_)
  have lo : i < 55 → I4 (A + i) = I3 (A + i) := fun h => e1 (A + i) (by omega)
  rcases hr with ⟨rfl, hj⟩ | ⟨h1, h2, hj⟩ | ⟨h1, h2, hj⟩ | ⟨rfl, rfl⟩ | ⟨h1, h2, hj⟩ | ⟨rfl, hj⟩ | ⟨rfl, rfl⟩ | ⟨h1, h2, hj⟩ | ⟨s, hs, ⟨rfl, rfl⟩ | ⟨h1, h2, hj⟩⟩
  · rw [lo (by omega), d1 (A + 1) (by omega), b1 (A + 1) (by omega)]; exact a2 j hj
  · rw [lo (by omega), d1 (A + i) (by omega), b1 (A + i) (by omega)]
    have q := a3 j hj
    have ei : i = 2 ∨ i = 3 ∨ i = 4 := by omega
    rcases ei with rfl | rfl | rfl
    · exact q.1
    · exact q.2.1
    · exact q.2.2
  · rw [lo (by omega), d1 (A + i) (by omega), b1 (A + i) (by omega)]
    have q := a4 j hj
    have ei : i = 5 ∨ i = 6 := by omega
    rcases ei with rfl | rfl
    · exact q.1
    · exact q.2
  · rw [lo (by omega), d1 (A + 8) (by omega), b2]; exact congrFun (a1 (B + 8) (by omega)) 0
  · have q := b3 (i - 10) (by omega) j hj
    rw [show A + 8 + 2 + (i - 10) = A + i by omega, show B + 8 + 2 + (i - 10) = B + i by omega] at q
    rw [lo (by omega), d1 (A + i) (by omega), q]; exact congrFun (a1 (B + i) (by omega)) j
  · rw [lo (by omega), d2 j hj]; exact congrFun (B1 (B + 40) (by omega) (by omega)) j
  · rw [lo (by omega)]
    exact d3.trans (congrFun (B1 (B + 40 + 1) (by omega) (by omega)) 0)
  · by_cases h8 : i ≤ 47
    · have q := d4 (i - 43) (by omega) j hj
      rw [show A + 40 + 3 + (i - 43) = A + i by omega, show B + 40 + 3 + (i - 43) = B + i by omega] at q
      rw [lo (by omega), q]; exact congrFun (B1 (B + i) (by omega) (by omega)) j
    · have q := d5 (i - 40) (by omega) (by omega) j hj
      rw [show A + 40 + (i - 40) = A + i by omega, show B + 40 + (i - 40) = B + i by omega] at q
      rw [lo (by omega), q]; exact congrFun (B1 (B + i) (by omega) (by omega)) j
  · have q := (e2 s hs).1
    rw [show A + 55 + 7 * s = A + (55 + 7 * s) by omega, show B + 55 + 7 * s = B + (55 + 7 * s) by omega] at q
    rw [q]; exact congrFun (D1 (B + (55 + 7 * s)) (by omega)) 0
  · have q := (e2 s hs).2 (i - (57 + 7 * s)) (by omega) j hj
    rw [show A + 57 + 7 * s + (i - (57 + 7 * s)) = A + i by omega, show B + 57 + 7 * s + (i - (57 + 7 * s)) = B + i by omega] at q
    rw [q]; exact congrFun (D1 (B + i) (by omega)) j
/-- the flags of a state are 0 or 1 -/
def fz (I : Nat → Nat → Int32) (S : Nat) : Prop := (I (S + 40) 0 = 0 ∨ I (S + 40) 0 = 1) ∧ (I (S + 41) 0 = 0 ∨ I (S + 41) 0 = 1) ∧ ∀ s, s < 6 → I (S + 55 + 7 * s) 0 = 0 ∨ I (S + 55 + 7 * s) 0 = 1
set_option maxRecDepth 8000 in
theorem kept_r {s : Nat} (hs : s < 2) : (SH1 100).2.2 s = some (210 + 97 * s) ∧ ST (210 + 97 * s) := by
  match s, hs with
  | 0, _ => exact ⟨sr_100_0, st_210⟩
  | 1, _ => exact ⟨sr_100_1, st_307⟩
  | k + 2, h => exact absurd h (by omega)
set_option maxRecDepth 8000 in
theorem v_cimage {n : Nat} {I : Nat → Nat → Int32} {J : Nat → Nat → Int64} {K : dw_K} {x : Int32} (hf : fz I 3)
    (h0 : ¬ (0 ≤ x.toInt ∧ x.toInt ≤ 1) → K (some (.int 0)) (n, SH1, I, J))
    (h1 : ∀ s : Nat, s < 2 → x.toInt = s → ∀ I' : Nat → Nat → Int32, (∀ a, (a < 210 + 97 * s ∨ 210 + 97 * s + 96 < a) → I' a = I a) → I' (210 + 97 * s) 0 = 1 → (∀ i j, rlv i j → I' (210 + 97 * s + i) j = I (3 + i) j) → K (some (.int 1)) (n, SH1, I', J)) : t_X11_image [.ref 0, .int x] (n, SH1, I, J) K := by
  have c2 : (2 : Int32).toInt = 2 := rfl
  refine q_body (Nat.le_of_ble_eq_true rfl) ?_
  refine q_ild rfl rfl ?_
  refine q_if (c := 2) rfl (by decide) (fun h => ?_) (fun h => ?_)
  · have h : x.toInt < 0 := h
    refine q_ic rfl ?_
    exact q_zret rfl (Or.inl rfl) (h0 (by omega))
  have h : 0 ≤ x.toInt := h
  refine q_ild rfl rfl ?_
  refine q_ic rfl ?_
  refine q_icmp (c := 3) rfl (by decide) (fun g => ?_) (fun g => ?_)
  · have g : (2 : Int32).toInt ≤ x.toInt := g
    refine q_ic rfl ?_
    exact q_zret rfl (Or.inl rfl) (h0 (by omega))
  have g : x.toInt < (2 : Int32).toInt := g
  obtain ⟨s, hs⟩ : ∃ s : Nat, x.toInt.toNat = s := ⟨_, rfl⟩
  have s2 : s < 2 := by omega
  obtain ⟨kr, kst⟩ := kept_r s2
  have kr' : (SH1 100).2.2 x.toInt.toNat = some (210 + 97 * s) := by rw [hs]; exact kr
  refine q_ald rfl rfl ?_
  refine q_getr rfl sk_0 sr_0_2 ?_
  refine q_ild rfl rfl ?_
  refine q_xaldr rfl sk_100 sn_100 h (show x.toInt < (2 : Nat) by omega) kr' ?_
  refine q_ifnn_r rfl ?_
  refine q_ald rfl rfl ?_
  refine q_getr rfl sk_0 sr_0_2 ?_
  refine q_ild rfl rfl ?_
  refine q_xaldr rfl sk_100 sn_100 h (show x.toInt < (2 : Nat) by omega) kr' ?_
  refine q_ald rfl rfl ?_
  refine q_getr rfl sk_0 sr_0_1 ?_
  refine q_callV (as := [.ref 3]) (rest := []) rfl rfl kst.1 rfl (Nat.le_of_ble_eq_true rfl) ?_
  refine v_scopy kst st_3 (by omega) hf.1 hf.2.1 hf.2.2 (fun I1 a1 a2 => ?_)
  show dw_ok (pr_X11_image K) 33 0 0 [some (.ref 0), some (.int x)] [] (n, SH1, I1, J)
  refine q_ald rfl rfl ?_
  refine q_getr rfl sk_0 sr_0_2 ?_
  refine q_ild rfl rfl ?_
  refine q_xaldr rfl sk_100 sn_100 h (show x.toInt < (2 : Nat) by omega) kr' ?_
  refine q_ic rfl ?_
  refine q_putz rfl kst.1 (Or.inr rfl) ?_
  refine q_ic rfl ?_
  refine q_zret rfl (Or.inr rfl) (h1 s s2 (by omega) (dw_up I1 (210 + 97 * s) 0 1) (fun a ha => ?_) up_same (fun i j hr => ?_))
  · rw [up_row (by omega)]; exact a1 a (by omega)
  · have : 0 < i := by
      unfold rlv at hr
      omega
    rw [up_row (by omega)]; exact a2 i j hr
set_option maxRecDepth 8000 in
theorem v_crestore {n : Nat} {I : Nat → Nat → Int32} {J : Nat → Nat → Int64} {K : dw_K} {x : Int32} (hf : ∀ s, s < 2 → fz I (210 + 97 * s)) (hb : ∀ s, s < 2 → I (210 + 97 * s) 0 = 0 ∨ I (210 + 97 * s) 0 = 1)
    (h0 : (∀ s : Nat, s < 2 → x.toInt = s → I (210 + 97 * s) 0 = 0) → K (some (.int 0)) (n, SH1, I, J))
    (h1 : ∀ s : Nat, s < 2 → x.toInt = s → I (210 + 97 * s) 0 = 1 → ∀ I' : Nat → Nat → Int32, (∀ a, (a ≤ 3 ∨ 99 < a) → I' a = I a) → (∀ i j, rlv i j → I' (3 + i) j = I (210 + 97 * s + i) j) → K (some (.int 1)) (n, SH1, I', J)) : t_X11_restore [.ref 0, .int x] (n, SH1, I, J) K := by
  have c2 : (2 : Int32).toInt = 2 := rfl
  refine q_body (Nat.le_of_ble_eq_true rfl) ?_
  refine q_ild rfl rfl ?_
  refine q_if (c := 2) rfl (by decide) (fun h => ?_) (fun h => ?_)
  · have h : x.toInt < 0 := h
    refine q_ic rfl ?_
    exact q_zret rfl (Or.inl rfl) (h0 (fun s _ e => absurd e (by omega)))
  have h : 0 ≤ x.toInt := h
  refine q_ild rfl rfl ?_
  refine q_ic rfl ?_
  refine q_icmp (c := 3) rfl (by decide) (fun g => ?_) (fun g => ?_)
  · have g : (2 : Int32).toInt ≤ x.toInt := g
    refine q_ic rfl ?_
    exact q_zret rfl (Or.inl rfl) (h0 (fun s hs e => absurd e (by omega)))
  have g : x.toInt < (2 : Int32).toInt := g
  obtain ⟨s, hs⟩ : ∃ s : Nat, x.toInt.toNat = s := ⟨_, rfl⟩
  have s2 : s < 2 := by omega
  have hx : x.toInt = s := by omega
  obtain ⟨kr, kst⟩ := kept_r s2
  have kr' : (SH1 100).2.2 x.toInt.toNat = some (210 + 97 * s) := by rw [hs]; exact kr
  refine q_ald rfl rfl ?_
  refine q_getr rfl sk_0 sr_0_2 ?_
  refine q_ild rfl rfl ?_
  refine q_xaldr rfl sk_100 sn_100 h (show x.toInt < (2 : Nat) by omega) kr' ?_
  refine q_ifnull_r rfl ?_
  refine q_ald rfl rfl ?_
  refine q_getr rfl sk_0 sr_0_2 ?_
  refine q_ild rfl rfl ?_
  refine q_xaldr rfl sk_100 sn_100 h (show x.toInt < (2 : Nat) by omega) kr' ?_
  refine q_getz rfl kst.1 ?_
  refine q_if (c := 1) rfl (by decide) (fun q => ?_) (fun q => ?_)
  · have q : (I (210 + 97 * s) 0).toInt ≠ 0 := q
    have q1 : I (210 + 97 * s) 0 = 1 := (hb s s2).resolve_left (fun e => q (by rw [e]; rfl))
    refine q_ald rfl rfl ?_
    refine q_getr rfl sk_0 sr_0_1 ?_
    refine q_ald rfl rfl ?_
    refine q_getr rfl sk_0 sr_0_2 ?_
    refine q_ild rfl rfl ?_
    refine q_xaldr rfl sk_100 sn_100 h (show x.toInt < (2 : Nat) by omega) kr' ?_
    refine q_callV (as := [.ref (210 + 97 * s)]) (rest := []) rfl rfl sk_3 rfl (Nat.le_of_ble_eq_true rfl) ?_
    refine v_scopy st_3 kst (by omega) (hf s s2).1 (hf s s2).2.1 (hf s s2).2.2 (fun I1 a1 a2 => ?_)
    show dw_ok (pr_X11_restore K) 45 0 0 [some (.ref 0), some (.int x)] [] (n, SH1, I1, J)
    refine q_ic rfl ?_
    exact q_zret rfl (Or.inr rfl) (h1 s s2 hx q1 I1 (fun a ha => a1 a (by omega)) a2)
  · have q : (I (210 + 97 * s) 0).toInt = 0 := q
    refine q_ic rfl ?_
    exact q_zret rfl (Or.inl rfl) (h0 (fun s' _ e => by rw [show s' = s by omega]; exact i_eq q))
/-! ===== image and restore of the model ===== -/
set_option maxRecDepth 8000 in
theorem i1427 {x : Int32} {s : Nat} (hs : s < 2) (hx : x.toInt = s) : (1427 * x).toInt = 1427 * (s : Int) := by
  have c : (1427 : Int32).toInt = 1427 := rfl
  exact i_mul (by rw [c, hx]) (by omega) (by omega)
set_option maxRecDepth 8000 in
theorem mi_loop {n : Nat} {J : Nat → Nat → Int64} {K : dw_K} {bc bs s : Nat} {I0 : Nat → Nat → Int32} {kx : Int32} (hs : s < 2) (hkx : kx.toInt = s)
    (hk : ∀ I' : Nat → Nat → Int32, (∀ a, a ≠ 432 → I' a = I0 a) → (∀ j, (j < 1427 * s ∨ 1427 * s + 1427 ≤ j) → I' 432 j = I0 432 j) → (∀ q, q < 1427 → I' 432 (1427 * s + q) = I0 406 (q)) → dw_ok (pr_X12_image K) 49 bc bs [some (.ref 404), some (.int kx), some (.int 1427)] [] (n, SH1, I', J)) :
    ∀ (f i : Nat) (x : Int32) (I : Nat → Nat → Int32), i + f = 1427 → x.toInt = i → (∀ a, a ≠ 432 → I a = I0 a) → (∀ j, (j < 1427 * s ∨ 1427 * s + 1427 ≤ j) → I 432 j = I0 432 j) → (∀ q, q < i → I 432 (1427 * s + q) = I0 406 (q)) → dw_ok (pr_X12_image K) 18 bc bs [some (.ref 404), some (.int kx), some (.int x)] [] (n, SH1, I, J) := by
  have c1 : (1 : Int32).toInt = 1 := rfl
  have cA : (1427 : Int32).toInt = 1427 := rfl
  have em := i1427 hs hkx
  intro f
  induction f with
  | zero =>
    intro i x I hi hx h1 h2 h3
    refine q_ild rfl rfl ?_
    refine q_ic rfl ?_
    refine q_icmp (c := 3) rfl (by decide) (fun _ => ?_) (fun h => absurd (show x.toInt < (1427 : Int32).toInt from h) (by omega))
    have ex : x = 1427 := i_eq (by omega)
    subst ex
    exact hk I h1 h2 (fun q hq => h3 q (by omega))
  | succ f ih =>
    intro i x I hi hx h1 h2 h3
    have ej : (1427 * kx + x).toInt = 1427 * (s : Int) + i := by rw [i_add (by omega) (by omega), em, hx]
    have en : (1427 * kx + x).toInt.toNat = 1427 * s + i := by omega
    have ex : x.toInt.toNat = i := by omega
    refine q_ild rfl rfl ?_
    refine q_ic rfl ?_
    refine q_icmp (c := 3) rfl (by decide) (fun h => absurd (show (1427 : Int32).toInt ≤ x.toInt from h) (by omega)) (fun _ => ?_)
    refine q_ald rfl rfl ?_
    refine q_getr rfl sk_404 sr_404_55 ?_
    refine q_ic rfl ?_
    refine q_ild rfl rfl ?_
    refine q_mul rfl ?_
    refine q_ild rfl rfl ?_
    refine q_add rfl ?_
    refine q_ald rfl rfl ?_
    refine q_getr rfl sk_404 sr_404_6 ?_
    refine q_ild rfl rfl ?_
    refine q_xald rfl (Or.inl rfl) sk_406 sn_406 (by omega) (show x.toInt < (1427 : Nat) by omega) ?_
    refine q_iast rfl sk_432 sn_432 (by omega) (show (1427 * kx + x).toInt < (2854 : Nat) by omega) ?_
    refine q_inc rfl rfl rfl ?_
    refine q_goto rfl ?_
    show dw_ok (pr_X12_image K) 18 bc bs [some (.ref 404), some (.int kx), some (.int (x + 1))] [] (n, SH1, dw_up I 432 (1427 * kx + x).toInt.toNat (I 406 x.toInt.toNat), J)
    rw [en, ex]
    refine ih (i + 1) (x + 1) _ (by omega) (by rw [i_add (by omega) (by omega), c1]; omega) (fun a ha => (up_row ha).trans (h1 a ha)) (fun j hj => ?_) (fun q hq => ?_)
    · rw [up_fld (by omega)]; exact h2 j hj
    · by_cases e : q = i
      · rw [e, up_same]; exact congrFun (h1 406 (by decide)) _
      · rw [up_fld (by omega)]; exact h3 q (by omega)
set_option maxRecDepth 8000 in
theorem mcr_loop {n : Nat} {J : Nat → Nat → Int64} {K : dw_K} {bc bs s : Nat} {I0 : Nat → Nat → Int32} {kx : Int32} (hs : s < 2) (hkx : kx.toInt = s)
    (hk : ∀ I' : Nat → Nat → Int32, (∀ a, a ≠ 406 → I' a = I0 a) → (∀ j, 1427 ≤ j → I' 406 j = I0 406 j) → (∀ q, q < 1427 → I' 406 (q) = I0 432 (1427 * s + q)) → dw_ok (pr_X12_restore K) 58 bc bs [some (.ref 404), some (.int kx), some (.int 1427)] [] (n, SH1, I', J)) :
    ∀ (f i : Nat) (x : Int32) (I : Nat → Nat → Int32), i + f = 1427 → x.toInt = i → (∀ a, a ≠ 406 → I a = I0 a) → (∀ j, 1427 ≤ j → I 406 j = I0 406 j) → (∀ q, q < i → I 406 (q) = I0 432 (1427 * s + q)) → dw_ok (pr_X12_restore K) 27 bc bs [some (.ref 404), some (.int kx), some (.int x)] [] (n, SH1, I, J) := by
  have c1 : (1 : Int32).toInt = 1 := rfl
  have cA : (1427 : Int32).toInt = 1427 := rfl
  have em := i1427 hs hkx
  intro f
  induction f with
  | zero =>
    intro i x I hi hx h1 h2 h3
    refine q_ild rfl rfl ?_
    refine q_ic rfl ?_
    refine q_icmp (c := 3) rfl (by decide) (fun _ => ?_) (fun h => absurd (show x.toInt < (1427 : Int32).toInt from h) (by omega))
    have ex : x = 1427 := i_eq (by omega)
    subst ex
    exact hk I h1 h2 (fun q hq => h3 q (by omega))
  | succ f ih =>
    intro i x I hi hx h1 h2 h3
    have ej : (1427 * kx + x).toInt = 1427 * (s : Int) + i := by rw [i_add (by omega) (by omega), em, hx]
    have en : (1427 * kx + x).toInt.toNat = 1427 * s + i := by omega
    have ex : x.toInt.toNat = i := by omega
    refine q_ild rfl rfl ?_
    refine q_ic rfl ?_
    refine q_icmp (c := 3) rfl (by decide) (fun h => absurd (show (1427 : Int32).toInt ≤ x.toInt from h) (by omega)) (fun _ => ?_)
    refine q_ald rfl rfl ?_
    refine q_getr rfl sk_404 sr_404_6 ?_
    refine q_ild rfl rfl ?_
    refine q_ald rfl rfl ?_
    refine q_getr rfl sk_404 sr_404_55 ?_
    refine q_ic rfl ?_
    refine q_ild rfl rfl ?_
    refine q_mul rfl ?_
    refine q_ild rfl rfl ?_
    refine q_add rfl ?_
    refine q_xald rfl (Or.inl rfl) sk_432 sn_432 (by omega) (show (1427 * kx + x).toInt < (2854 : Nat) by omega) ?_
    refine q_iast rfl sk_406 sn_406 (by omega) (show x.toInt < (1427 : Nat) by omega) ?_
    refine q_inc rfl rfl rfl ?_
    refine q_goto rfl ?_
    show dw_ok (pr_X12_restore K) 27 bc bs [some (.ref 404), some (.int kx), some (.int (x + 1))] [] (n, SH1, dw_up I 406 x.toInt.toNat (I 432 (1427 * kx + x).toInt.toNat), J)
    rw [en, ex]
    refine ih (i + 1) (x + 1) _ (by omega) (by rw [i_add (by omega) (by omega), c1]; omega) (fun a ha => (up_row ha).trans (h1 a ha)) (fun j hj => ?_) (fun q hq => ?_)
    · rw [up_fld (by omega)]; exact h2 j hj
    · by_cases e : q = i
      · rw [e, up_same]; exact congrFun (h1 432 (by decide)) _
      · rw [up_fld (by omega)]; exact h3 q (by omega)
set_option maxRecDepth 8000 in
theorem v_mimage {n : Nat} {I : Nat → Nat → Int32} {J : Nat → Nat → Int64} {K : dw_K} {x : Int32}
    (h0 : ¬ (0 ≤ x.toInt ∧ x.toInt ≤ 1) → ∀ I' : Nat → Nat → Int32, (∀ a, a ≠ 404 → I' a = I a) → K (some (.int 0)) (n, SH1, I', J))
    (h1 : ∀ s : Nat, s < 2 → x.toInt = s → ∀ I' : Nat → Nat → Int32, (∀ a, a ≠ 404 → a ≠ 432 → a ≠ 433 → I' a = I a) → (∀ j, (j < 1427 * s ∨ 1427 * s + 1427 ≤ j) → I' 432 j = I 432 j) → (∀ q, q < 1427 → I' 432 (1427 * s + q) = I 406 q) → I' 433 s = 1 → (∀ j, j ≠ s → I' 433 j = I 433 j) → K (some (.int 1)) (n, SH1, I', J)) : t_X12_image [.ref 404, .int x] (n, SH1, I, J) K := by
  have c1 : (1 : Int32).toInt = 1 := rfl
  have c0 : (0 : Int32).toInt = 0 := rfl
  refine q_body (Nat.le_of_ble_eq_true rfl) ?_
  refine q_ald rfl rfl ?_
  refine q_ic rfl ?_
  refine q_puti rfl sk_404 ?_
  refine q_ild rfl rfl ?_
  refine q_ic rfl ?_
  refine q_ic rfl ?_
  refine q_callS (as := [.int x, .int 0, .int 1]) (rest := []) rfl rfl rfl rfl ?_
  refine v_isIn (I := dw_up I 404 0 0) (fun w hw => ?_)
  show dw_ok (pr_X12_image K) 11 0 0 [some (.ref 404), some (.int x), none] [.int w] (n, SH1, dw_up I 404 0 0, J)
  rcases hw with ⟨rfl, g1, g2⟩ | ⟨rfl, g⟩
  · refine q_if (c := 1) rfl (by decide) (fun _ => ?_) (fun h => absurd (show (1 : Int32).toInt = 0 from h) (by decide))
    obtain ⟨s, hs⟩ : ∃ s : Nat, x.toInt.toNat = s := ⟨_, rfl⟩
    have s2 : s < 2 := by omega
    have hx : x.toInt = s := by omega
    refine q_ic rfl ?_
    refine q_ist rfl rfl ?_
    refine mi_loop (I0 := dw_up I 404 0 0) s2 hx (fun I1 a1 a2 a3 => ?_) 1427 0 0 (dw_up I 404 0 0) rfl rfl (fun _ _ => rfl) (fun _ _ => rfl) (fun q hq => absurd hq (Nat.not_lt_zero q))
    refine q_ald rfl rfl ?_
    refine q_getr rfl sk_404 sr_404_56 ?_
    refine q_ild rfl rfl ?_
    refine q_ic rfl ?_
    refine q_iastz rfl sk_433 sn_433 (by omega) (show x.toInt < (2 : Nat) by omega) (Or.inr rfl) ?_
    refine q_ic rfl ?_
    refine q_zret rfl (Or.inr rfl) ?_
    rw [show x.toInt.toNat = s from hs]
    refine h1 s s2 hx (dw_up I1 433 s 1) (fun a b1 b2 b3 => ?_) (fun j hj => ?_) (fun q hq => ?_) up_same (fun j hj => ?_)
    · rw [up_row b3, a1 a b2, up_row b1]
    · rw [up_row (by decide), a2 j hj, up_row (by decide)]
    · rw [up_row (by decide), a3 q hq, up_row (by decide)]
    · rw [up_fld hj, a1 433 (by decide), up_row (by decide)]
  · refine q_if (c := 1) rfl (by decide) (fun h => absurd (show (0 : Int32).toInt ≠ 0 from h) (by decide)) (fun _ => ?_)
    refine q_ic rfl ?_
    exact q_zret rfl (Or.inl rfl) (h0 (by omega) _ (fun a ha => up_row ha))
set_option maxRecDepth 8000 in
theorem v_mrestore {n : Nat} {I : Nat → Nat → Int32} {J : Nat → Nat → Int64} {K : dw_K} {x : Int32} (hb : ∀ s, s < 2 → I 433 s = 0 ∨ I 433 s = 1)
    (h0 : (∀ s : Nat, s < 2 → x.toInt = s → I 433 s = 0) → ∀ I' : Nat → Nat → Int32, (∀ a, a ≠ 404 → I' a = I a) → K (some (.int 0)) (n, SH1, I', J))
    (h1 : ∀ s : Nat, s < 2 → x.toInt = s → I 433 s = 1 → ∀ I' : Nat → Nat → Int32, (∀ a, a ≠ 404 → a ≠ 406 → I' a = I a) → (∀ q, q < 1427 → I' 406 q = I 432 (1427 * s + q)) → K (some (.int 1)) (n, SH1, I', J)) : t_X12_restore [.ref 404, .int x] (n, SH1, I, J) K := by
  have c1 : (1 : Int32).toInt = 1 := rfl
  have c0 : (0 : Int32).toInt = 0 := rfl
  refine q_body (Nat.le_of_ble_eq_true rfl) ?_
  refine q_ald rfl rfl ?_
  refine q_ic rfl ?_
  refine q_puti rfl sk_404 ?_
  refine q_ild rfl rfl ?_
  refine q_ic rfl ?_
  refine q_ic rfl ?_
  refine q_callS (as := [.int x, .int 0, .int 1]) (rest := []) rfl rfl rfl rfl ?_
  refine v_isIn (I := dw_up I 404 0 0) (fun w hw => ?_)
  show dw_ok (pr_X12_restore K) 11 0 0 [some (.ref 404), some (.int x), none] [.int w] (n, SH1, dw_up I 404 0 0, J)
  rcases hw with ⟨rfl, g1, g2⟩ | ⟨rfl, g⟩
  · refine q_if (c := 0) rfl (by decide) (fun h => absurd (show (1 : Int32).toInt = 0 from h) (by decide)) (fun _ => ?_)
    obtain ⟨s, hs⟩ : ∃ s : Nat, x.toInt.toNat = s := ⟨_, rfl⟩
    have s2 : s < 2 := by omega
    have hx : x.toInt = s := by omega
    refine q_ald rfl rfl ?_
    refine q_getr rfl sk_404 sr_404_56 ?_
    refine q_ild rfl rfl ?_
    refine q_xald rfl (Or.inr (Or.inl rfl)) sk_433 sn_433 (by omega) (show x.toInt < (2 : Nat) by omega) ?_
    have e433 : (dw_up I 404 0 0) 433 x.toInt.toNat = I 433 s := by rw [up_row (show 433 ≠ 404 by decide), hs]
    refine q_if (c := 1) rfl (by decide) (fun q => ?_) (fun q => ?_)
    · have q : ((dw_up I 404 0 0) 433 x.toInt.toNat).toInt ≠ 0 := q
      rw [e433] at q
      have q1 : I 433 s = 1 := (hb s s2).resolve_left (fun e => q (by rw [e]; rfl))
      refine q_ic rfl ?_
      refine q_ist rfl rfl ?_
      refine mcr_loop (I0 := dw_up I 404 0 0) s2 hx (fun I1 a1 a2 a3 => ?_) 1427 0 0 (dw_up I 404 0 0) rfl rfl (fun _ _ => rfl) (fun _ _ => rfl) (fun q hq => absurd hq (Nat.not_lt_zero q))
      refine q_ic rfl ?_
      refine q_zret rfl (Or.inr rfl) (h1 s s2 hx q1 I1 (fun a b1 b2 => ?_) (fun q hq => ?_))
      · rw [a1 a b2, up_row b1]
      · rw [a3 q hq, up_row (by decide)]
    · have q : ((dw_up I 404 0 0) 433 x.toInt.toNat).toInt = 0 := q
      rw [e433] at q
      refine q_ic rfl ?_
      exact q_zret rfl (Or.inl rfl) (h0 (fun s' _ e => by rw [show s' = s by omega]; exact i_eq q) _ (fun a ha => up_row ha))
  · refine q_if (c := 0) rfl (by decide) (fun _ => ?_) (fun h => absurd (show (0 : Int32).toInt ≠ 0 from h) (by decide))
    refine q_ic rfl ?_
    exact q_zret rfl (Or.inl rfl) (h0 (fun s hs e => absurd (show 0 ≤ x.toInt ∧ x.toInt ≤ 1 by omega) g) _ (fun a ha => up_row ha))
end
section
/-! ===== a STEP, purely ===== -/
/-- warmth, water, stock, what was given -/
abbrev rS : Type := (Nat → Int32) × (Nat → Int32) × Int32 × Int32
/-- of a CELL: hold, give, gift, sky -/
abbrev rC : Type := Int32 × Int32 × Int32 × Int32
/-- of a STEP: cloud, wind, air, line, sun -/
abbrev rN : Type := Int32 × Int32 × Int32 × Int32 × Int32
def wmF (c : rC) (t : rN) (w : Int32) : Int32 := w + ((100 * t.2.2.1 - w) * (t.2.1 + 1) / (c.1 + 10) + t.2.2.2.2 * 8 * c.2.2.2 / c.1 - c.2.2.2 * (100 - t.1) * c.2.1 / (100 * c.1))
def lkF (c : rC) (t : rN) (w : Int32) : Int32 := 100 * t.2.2.2.1 - wmF c t w
/-- what comes from the stock; what dries -/
def cmF (st : Nat) (t : rN) (lk sk : Int32) : Int32 := if t.2.1.toInt < 3 ∧ st ≠ 2 then fi_min sk (lk / 50 + 1) else 0
def drF (t : rN) (lk wa : Int32) : Int32 := fi_min wa ((t.2.1 + 1) * (-lk / 40 + 1))
def gfF (st : Nat) (c : rC) : Int32 := if st = 1 then 0 else c.2.2.1
def waF (st : Nat) (c : rC) (t : rN) (lk wa sk : Int32) : Int32 := if 0 < lk.toInt then wa + cmF st t lk sk + gfF st c else wa - drF t lk wa
def skF2 (st : Nat) (t : rN) (lk wa sk : Int32) : Int32 := if 0 < lk.toInt then sk - cmF st t lk sk else sk + (if st = 2 then 0 else drF t lk wa)
def gvF (st : Nat) (c : rC) (lk gv : Int32) : Int32 := if 0 < lk.toInt then gv + gfF st c else gv
def upF (f : Nat → Int32) (k : Nat) (v : Int32) : Nat → Int32 := fun j => if j = k then v else f j
set_option maxRecDepth 8000 in
theorem upF_at {f : Nat → Int32} {k : Nat} {v : Int32} : upF f k v k = v := if_pos rfl
set_option maxRecDepth 8000 in
theorem upF_ne {f : Nat → Int32} {k j : Nat} {v : Int32} (h : j ≠ k) : upF f k v j = f j := if_neg h
/-- CELL k -/
def clF (st : Nat) (C : Nat → rC) (t : rN) (k : Nat) (s : rS) : rS :=
  (upF s.1 k (wmF (C k) t (s.1 k)), upF s.2.1 k (waF st (C k) t (lkF (C k) t (s.1 k)) (s.2.1 k) s.2.2.1), skF2 st t (lkF (C k) t (s.1 k)) (s.2.1 k) s.2.2.1, gvF st (C k) (lkF (C k) t (s.1 k)) s.2.2.2)
/-- the first k CELLS -/
def seF (st : Nat) (C : Nat → rC) (t : rN) : Nat → rS → rS
  | 0, s => s
  | k + 1, s => clF st C t k (seF st C t k s)
/-- k STEPS from STEP d on, of n CELLS -/
def ruF (st n : Nat) (C : Nat → Nat → rC) (T : Nat → rN) (d : Nat) : Nat → rS → rS
  | 0, s => s
  | k + 1, s => seF st (C (d + k)) (T (d + k)) n (ruF st n C T d k s)
/-- alike in the first n CELLS -/
def rEq (n : Nat) (s s' : rS) : Prop := (∀ c, c < n → s.1 c = s'.1 c) ∧ (∀ c, c < n → s.2.1 c = s'.2.1 c) ∧ s.2.2.1 = s'.2.2.1 ∧ s.2.2.2 = s'.2.2.2
set_option maxRecDepth 8000 in
theorem rEq.rfl' {n : Nat} {s : rS} : rEq n s s := ⟨fun _ _ => rfl, fun _ _ => rfl, rfl, rfl⟩
set_option maxRecDepth 8000 in
theorem rEq.symm {n : Nat} {s s' : rS} (h : rEq n s s') : rEq n s' s := ⟨fun c hc => (h.1 c hc).symm, fun c hc => (h.2.1 c hc).symm, h.2.2.1.symm, h.2.2.2.symm⟩
set_option maxRecDepth 8000 in
theorem rEq.trans {n : Nat} {s s' s'' : rS} (h : rEq n s s') (g : rEq n s' s'') : rEq n s s'' := ⟨fun c hc => (h.1 c hc).trans (g.1 c hc), fun c hc => (h.2.1 c hc).trans (g.2.1 c hc), h.2.2.1.trans g.2.2.1, h.2.2.2.trans g.2.2.2⟩
set_option maxRecDepth 8000 in
theorem clF_eq {st n k : Nat} {C C' : Nat → rC} {t : rN} {s s' : rS} (hk : k < n) (hC : C k = C' k) (h : rEq n s s') : rEq n (clF st C t k s) (clF st C' t k s') := by
  have e1 := h.1 k hk
  have e2 := h.2.1 k hk
  refine ⟨fun c hc => ?_, fun c hc => ?_, ?_, ?_⟩
  · show upF s.1 k _ c = upF s'.1 k _ c
    by_cases e : c = k
    · rw [e, upF_at, upF_at, hC, e1]
    · rw [upF_ne e, upF_ne e]; exact h.1 c hc
  · show upF s.2.1 k _ c = upF s'.2.1 k _ c
    by_cases e : c = k
    · rw [e, upF_at, upF_at, hC, e1, e2, h.2.2.1]
    · rw [upF_ne e, upF_ne e]; exact h.2.1 c hc
  · show skF2 st t _ _ _ = skF2 st t _ _ _
    rw [hC, e1, e2, h.2.2.1]
  · show gvF st _ _ _ = gvF st _ _ _
    rw [hC, e1, h.2.2.2]
set_option maxRecDepth 8000 in
theorem seF_eq {st n : Nat} {C C' : Nat → rC} {t : rN} {s s' : rS} (hC : ∀ c, c < n → C c = C' c) (h : rEq n s s') : ∀ k : Nat, k ≤ n → rEq n (seF st C t k s) (seF st C' t k s')
  | 0, _ => h
  | k + 1, hk => clF_eq (by omega) (hC k (by omega)) (seF_eq hC h k (by omega))
set_option maxRecDepth 8000 in
theorem ruF_eq {st n d : Nat} {C C' : Nat → Nat → rC} {T T' : Nat → rN} {s s' : rS} : ∀ k : Nat, (∀ i, i < k → ∀ c, c < n → C (d + i) c = C' (d + i) c) → (∀ i, i < k → T (d + i) = T' (d + i)) → rEq n s s' → rEq n (ruF st n C T d k s) (ruF st n C' T' d k s')
  | 0, _, _, h => h
  | k + 1, hC, hT, h => by
    have q := ruF_eq (st := st) k (fun i hi => hC i (by omega)) (fun i hi => hT i (by omega)) h
    show rEq n (seF st (C (d + k)) (T (d + k)) n _) (seF st (C' (d + k)) (T' (d + k)) n _)
    rw [hT k (by omega)]
    exact seF_eq (hC k (by omega)) q n (Nat.le_refl n)
set_option maxRecDepth 8000 in
/-- on from where one was -/
theorem ruF_add {st n d : Nat} {C : Nat → Nat → rC} {T : Nat → rN} {s : rS} {j : Nat} : ∀ k : Nat, ruF st n C T d (j + k) s = ruF st n C T (d + j) k (ruF st n C T d j s)
  | 0 => rfl
  | k + 1 => by
    show seF st (C (d + (j + k))) (T (d + (j + k))) n (ruF st n C T d (j + k) s) = seF st (C (d + j + k)) (T (d + j + k)) n _
    rw [ruF_add k, show d + (j + k) = d + j + k by omega]
set_option maxRecDepth 8000 in
/-- CELLS from n on stay -/
theorem seF_out {st c : Nat} {C : Nat → rC} {t : rN} {s : rS} : ∀ k : Nat, k ≤ c → (seF st C t k s).1 c = s.1 c ∧ (seF st C t k s).2.1 c = s.2.1 c
  | 0, _ => ⟨rfl, rfl⟩
  | k + 1, h => by
    have q := seF_out (c := c) (st := st) (C := C) (t := t) (s := s) k (by omega)
    exact ⟨(upF_ne (by omega)).trans q.1, (upF_ne (by omega)).trans q.2⟩
/-! ===== bounds of a STEP ===== -/
set_option maxRecDepth 8000 in
theorem mulB {x y X Y : Int} (h1 : -X ≤ x) (h2 : x ≤ X) (h3 : 0 ≤ y) (h4 : y ≤ Y) : -(X * Y) ≤ x * y ∧ x * y ≤ X * Y := by
  have hX : 0 ≤ X := by omega
  have a : X * y ≤ X * Y := Int.mul_le_mul_of_nonneg_left h4 hX
  have b : x * y ≤ X * y := Int.mul_le_mul_of_nonneg_right h2 h3
  have c : -X * y ≤ x * y := Int.mul_le_mul_of_nonneg_right h1 h3
  rw [Int.neg_mul] at c
  omega
set_option maxRecDepth 8000 in
theorem mulP {x y X Y : Int} (h1 : 0 ≤ x) (h2 : x ≤ X) (h3 : 0 ≤ y) (h4 : y ≤ Y) : 0 ≤ x * y ∧ x * y ≤ X * Y := by
  have a := Int.mul_nonneg h1 h3
  have b := (mulB (x := x) (X := X) (by omega) h2 h3 h4).2
  exact ⟨a, b⟩
set_option maxRecDepth 8000 in
theorem i_mulB {x y : Int32} (h : -2147483648 ≤ x.toInt * y.toInt) (h2 : x.toInt * y.toInt ≤ 2147483647) : (x * y).toInt = x.toInt * y.toInt := by
  rw [Int32.toInt_mul]; exact dx_bm h h2
set_option maxRecDepth 8000 in
theorem i_divB {x y : Int32} (h : -2147483648 ≤ x.toInt.tdiv y.toInt) (h2 : x.toInt.tdiv y.toInt ≤ 2147483647) : (x / y).toInt = x.toInt.tdiv y.toInt := by
  rw [Int32.toInt_div]; exact dx_bm h h2
set_option maxRecDepth 8000 in
theorem td_pos {x m : Int} (hx : 0 ≤ x) (hm : 0 < m) : 0 ≤ x.tdiv m ∧ x.tdiv m ≤ x := by
  rw [Int.tdiv_eq_ediv_of_nonneg hx]
  refine ⟨Int.ediv_nonneg hx (by omega), Int.ediv_le_of_le_mul hm ?_⟩
  have := Int.mul_le_mul_of_nonneg_left (show (1 : Int) ≤ m by omega) hx
  omega
set_option maxRecDepth 8000 in
theorem td_mul {x k m : Int} (hx : 0 ≤ x) (hk : 0 ≤ k) (hkm : k ≤ m) (hm : 0 < m) : 0 ≤ (x * k).tdiv m ∧ (x * k).tdiv m ≤ x := by
  have h1 : 0 ≤ x * k := Int.mul_nonneg hx hk
  have h2 : x * k ≤ x * m := Int.mul_le_mul_of_nonneg_left hkm hx
  rw [Int.tdiv_eq_ediv_of_nonneg h1]
  exact ⟨Int.ediv_nonneg h1 (by omega), Int.ediv_le_of_le_mul hm h2⟩
set_option maxRecDepth 8000 in
theorem td_muln {x k m : Int} (hx : x ≤ 0) (hk : 0 ≤ k) (hkm : k ≤ m) (hm : 0 < m) : x ≤ (x * k).tdiv m ∧ (x * k).tdiv m ≤ 0 := by
  have h := td_mul (x := -x) (k := k) (m := m) (by omega) hk hkm hm
  rw [Int.neg_mul, Int.neg_tdiv] at h
  omega
/-- what a CELL's kind and place can be -/
abbrev cOK (c : rC) : Prop := (1 ≤ c.1.toInt ∧ c.1.toInt ≤ 50) ∧ (0 ≤ c.2.1.toInt ∧ c.2.1.toInt ≤ 99) ∧ (0 ≤ c.2.2.1.toInt ∧ c.2.2.1.toInt ≤ 9) ∧ 0 ≤ c.2.2.2.toInt ∧ c.2.2.2.toInt ≤ 100
/-- what a STEP of a NIGHT can be -/
abbrev nOK (t : rN) : Prop := (0 ≤ t.1.toInt ∧ t.1.toInt ≤ 100) ∧ (0 ≤ t.2.1.toInt ∧ t.2.1.toInt ≤ 9) ∧ (0 ≤ t.2.2.1.toInt ∧ t.2.2.1.toInt ≤ 40) ∧ (0 ≤ t.2.2.2.1.toInt ∧ t.2.2.2.1.toInt ≤ 40) ∧ 0 ≤ t.2.2.2.2.toInt ∧ t.2.2.2.2.toInt ≤ 1
set_option maxRecDepth 8000 in
theorem wm_ok {c : rC} {t : rN} {w : Int32} {B : Int} (hc : cOK c) (ht : nOK t) (h4 : 4000 ≤ B) (hB : B ≤ 2000000) (h1 : -B ≤ w.toInt) (h2 : w.toInt ≤ B) : -(B + 9900) ≤ (wmF c t w).toInt ∧ (wmF c t w).toInt ≤ B + 9900 := by
  obtain ⟨hd, gi, gf, ys⟩ := c
  obtain ⟨cl, wi, ai, li, su⟩ := t
  obtain ⟨⟨c1, c2⟩, ⟨c3, c4⟩, -, c7, c8⟩ := hc
  obtain ⟨⟨t1, t2⟩, ⟨t3, t4⟩, ⟨t5, t6⟩, -, t9, t10⟩ := ht
  dsimp only at c1 c2 c3 c4 c7 c8 t1 t2 t3 t4 t5 t6 t9 t10
  have k100 : (100 : Int32).toInt = 100 := rfl
  have k10 : (10 : Int32).toInt = 10 := rfl
  have k8 : (8 : Int32).toInt = 8 := rfl
  have k1 : (1 : Int32).toInt = 1 := rfl
  show -(B + 9900) ≤ (w + ((100 * ai - w) * (wi + 1) / (hd + 10) + su * 8 * ys / hd - ys * (100 - cl) * gi / (100 * hd))).toInt ∧ (w + ((100 * ai - w) * (wi + 1) / (hd + 10) + su * 8 * ys / hd - ys * (100 - cl) * gi / (100 * hd))).toInt ≤ B + 9900
  have e1 : (100 * ai).toInt = 100 * ai.toInt := by rw [i_mulB (by rw [k100]; omega) (by rw [k100]; omega), k100]
  have e2 : (100 * ai - w).toInt = 100 * ai.toInt - w.toInt := by rw [i_sub (by omega) (by omega), e1]
  have e3 : (wi + 1).toInt = wi.toInt + 1 := by rw [i_add (by omega) (by omega), k1]
  have e4 : (hd + 10).toInt = hd.toInt + 10 := by rw [i_add (by omega) (by omega), k10]
  have p1 := mulB (x := (100 * ai - w).toInt) (X := 2004000) (y := (wi + 1).toInt) (Y := 10) (by omega) (by omega) (by omega) (by omega)
  have e5 : ((100 * ai - w) * (wi + 1)).toInt = (100 * ai - w).toInt * (wi + 1).toInt := i_mulB (by omega) (by omega)
  have q1 : (0 ≤ (100 * ai - w).toInt ∧ 0 ≤ ((100 * ai - w).toInt * (wi + 1).toInt).tdiv (hd + 10).toInt ∧ ((100 * ai - w).toInt * (wi + 1).toInt).tdiv (hd + 10).toInt ≤ (100 * ai - w).toInt) ∨ ((100 * ai - w).toInt ≤ 0 ∧ (100 * ai - w).toInt ≤ ((100 * ai - w).toInt * (wi + 1).toInt).tdiv (hd + 10).toInt ∧ ((100 * ai - w).toInt * (wi + 1).toInt).tdiv (hd + 10).toInt ≤ 0) := by
    by_cases h : 0 ≤ (100 * ai - w).toInt
    · exact Or.inl ⟨h, td_mul h (by omega) (by omega) (by omega)⟩
    · exact Or.inr ⟨by omega, td_muln (by omega) (by omega) (by omega) (by omega)⟩
  have e6 : ((100 * ai - w) * (wi + 1) / (hd + 10)).toInt = ((100 * ai - w).toInt * (wi + 1).toInt).tdiv (hd + 10).toInt := by
    rw [i_divB (by rw [e5]; omega) (by rw [e5]; omega), e5]
  have e7 : (su * 8).toInt = su.toInt * 8 := by rw [i_mulB (by rw [k8]; omega) (by rw [k8]; omega), k8]
  have p2 := mulP (x := (su * 8).toInt) (X := 8) (y := ys.toInt) (Y := 100) (by omega) (by omega) c7 c8
  have e8 : (su * 8 * ys).toInt = (su * 8).toInt * ys.toInt := i_mulB (by omega) (by omega)
  have q2 := td_pos (x := (su * 8).toInt * ys.toInt) (m := hd.toInt) p2.1 (by omega)
  have e9 : (su * 8 * ys / hd).toInt = ((su * 8).toInt * ys.toInt).tdiv hd.toInt := by rw [i_divB (by rw [e8]; omega) (by rw [e8]; omega), e8]
  have e10 : (100 - cl).toInt = 100 - cl.toInt := by rw [i_sub (by omega) (by omega), k100]
  have p3 := mulP (x := ys.toInt) (X := 100) (y := (100 - cl).toInt) (Y := 100) c7 c8 (by omega) (by omega)
  have e11 : (ys * (100 - cl)).toInt = ys.toInt * (100 - cl).toInt := i_mulB (by omega) (by omega)
  have p4 := mulP (x := (ys * (100 - cl)).toInt) (X := 10000) (y := gi.toInt) (Y := 99) (by omega) (by omega) c3 c4
  have e12 : (ys * (100 - cl) * gi).toInt = (ys * (100 - cl)).toInt * gi.toInt := i_mulB (by omega) (by omega)
  have e13 : (100 * hd).toInt = 100 * hd.toInt := by rw [i_mulB (by rw [k100]; omega) (by rw [k100]; omega), k100]
  have q3 : 0 ≤ ((ys * (100 - cl)).toInt * gi.toInt).tdiv (100 * hd).toInt ∧ ((ys * (100 - cl)).toInt * gi.toInt).tdiv (100 * hd).toInt ≤ 9900 := by
    rw [Int.tdiv_eq_ediv_of_nonneg p4.1]
    exact ⟨Int.ediv_nonneg p4.1 (by omega), Int.ediv_le_of_le_mul (by omega) (by omega)⟩
  have e14 : (ys * (100 - cl) * gi / (100 * hd)).toInt = ((ys * (100 - cl)).toInt * gi.toInt).tdiv (100 * hd).toInt := by rw [i_divB (by rw [e12]; omega) (by rw [e12]; omega), e12]
  have e15 : ((100 * ai - w) * (wi + 1) / (hd + 10) + su * 8 * ys / hd).toInt = ((100 * ai - w) * (wi + 1) / (hd + 10)).toInt + (su * 8 * ys / hd).toInt := i_add (by omega) (by omega)
  have e16 : ((100 * ai - w) * (wi + 1) / (hd + 10) + su * 8 * ys / hd - ys * (100 - cl) * gi / (100 * hd)).toInt = ((100 * ai - w) * (wi + 1) / (hd + 10) + su * 8 * ys / hd).toInt - (ys * (100 - cl) * gi / (100 * hd)).toInt := i_sub (by omega) (by omega)
  have e17 : (w + ((100 * ai - w) * (wi + 1) / (hd + 10) + su * 8 * ys / hd - ys * (100 - cl) * gi / (100 * hd))).toInt = w.toInt + ((100 * ai - w) * (wi + 1) / (hd + 10) + su * 8 * ys / hd - ys * (100 - cl) * gi / (100 * hd)).toInt := i_add (by omega) (by omega)
  rw [e17, e16, e15]
  omega
set_option maxRecDepth 8000 in
theorem lk_ok {c : rC} {t : rN} {w : Int32} {B : Int} (hc : cOK c) (ht : nOK t) (h4 : 4000 ≤ B) (hB : B ≤ 2000000) (h1 : -B ≤ w.toInt) (h2 : w.toInt ≤ B) : -2100000 ≤ (lkF c t w).toInt ∧ (lkF c t w).toInt ≤ 2100000 := by
  have q := wm_ok hc ht h4 hB h1 h2
  obtain ⟨-, -, -, ⟨t7, t8⟩, -⟩ := ht
  have k100 : (100 : Int32).toInt = 100 := rfl
  have e1 : (100 * t.2.2.2.1).toInt = 100 * t.2.2.2.1.toInt := by rw [i_mulB (by rw [k100]; omega) (by rw [k100]; omega), k100]
  have e2 : (lkF c t w).toInt = (100 * t.2.2.2.1).toInt - (wmF c t w).toInt := i_sub (by omega) (by omega)
  omega
set_option maxRecDepth 8000 in
theorem dr_ok {t : rN} {lk wa : Int32} (ht : nOK t) (hl : lk.toInt ≤ 0) (h1 : -2100000 ≤ lk.toInt) (hw : 0 ≤ wa.toInt) : 0 ≤ (drF t lk wa).toInt ∧ (drF t lk wa).toInt ≤ wa.toInt := by
  obtain ⟨-, ⟨t3, t4⟩, -⟩ := ht
  have k40 : (40 : Int32).toInt = 40 := rfl
  have k1 : (1 : Int32).toInt = 1 := rfl
  have e0 : (-lk).toInt = -lk.toInt := by rw [Int32.toInt_neg]; exact dx_bm (by omega) (by omega)
  have q1 := td_pos (x := (-lk).toInt) (m := (40 : Int32).toInt) (by omega) (by omega)
  have e1 : (-lk / 40).toInt = (-lk).toInt.tdiv (40 : Int32).toInt := i_divB (by omega) (by omega)
  have e2 : (-lk / 40 + 1).toInt = (-lk / 40).toInt + 1 := by rw [i_add (by omega) (by omega), k1]
  have e3 : (t.2.1 + 1).toInt = t.2.1.toInt + 1 := by rw [i_add (by omega) (by omega), k1]
  have p := mulP (x := (t.2.1 + 1).toInt) (X := 10) (y := (-lk / 40 + 1).toInt) (Y := 2100001) (by omega) (by omega) (by omega) (by omega)
  have e4 : ((t.2.1 + 1) * (-lk / 40 + 1)).toInt = (t.2.1 + 1).toInt * (-lk / 40 + 1).toInt := i_mulB (by omega) (by omega)
  unfold drF
  rw [fi_min_i, e4]
  omega
set_option maxRecDepth 8000 in
theorem cm_ok {st : Nat} {t : rN} {lk sk : Int32} (hl : 0 < lk.toInt) (h1 : lk.toInt ≤ 2100000) (hs : 0 ≤ sk.toInt) : 0 ≤ (cmF st t lk sk).toInt ∧ (cmF st t lk sk).toInt ≤ sk.toInt := by
  have k50 : (50 : Int32).toInt = 50 := rfl
  have k1 : (1 : Int32).toInt = 1 := rfl
  have k0 : (0 : Int32).toInt = 0 := rfl
  have q1 := td_pos (x := lk.toInt) (m := (50 : Int32).toInt) (by omega) (by omega)
  have e1 : (lk / 50).toInt = lk.toInt.tdiv (50 : Int32).toInt := i_divB (by omega) (by omega)
  have e2 : (lk / 50 + 1).toInt = (lk / 50).toInt + 1 := by rw [i_add (by omega) (by omega), k1]
  unfold cmF
  by_cases h : t.2.1.toInt < 3 ∧ st ≠ 2
  · rw [if_pos h, fi_min_i]; omega
  · rw [if_neg h, k0]; omega
/-- all the water of the first n CELLS -/
def smF (f : Nat → Int32) : Nat → Int
  | 0 => 0
  | k + 1 => smF f k + (f k).toInt
set_option maxRecDepth 8000 in
theorem sm_nn {f : Nat → Int32} : ∀ n : Nat, (∀ c, c < n → 0 ≤ (f c).toInt) → 0 ≤ smF f n
  | 0, _ => Int.le_refl 0
  | n + 1, h => by
    have h1 := sm_nn n (fun c hc => h c (by omega))
    have h2 := h n (by omega)
    show 0 ≤ smF f n + (f n).toInt
    omega
set_option maxRecDepth 8000 in
theorem sm_one {f : Nat → Int32} {c : Nat} : ∀ n : Nat, (∀ c, c < n → 0 ≤ (f c).toInt) → c < n → (f c).toInt ≤ smF f n
  | 0, _, hc => absurd hc (Nat.not_lt_zero c)
  | n + 1, h, hc => by
    have h1 := sm_nn n (fun c hc => h c (by omega))
    have h2 := h n (by omega)
    show (f c).toInt ≤ smF f n + (f n).toInt
    by_cases e : c = n
    · rw [e]; omega
    · have := sm_one (c := c) n (fun c hc => h c (by omega)) (by omega)
      omega
set_option maxRecDepth 8000 in
theorem sm_up {f : Nat → Int32} {k : Nat} {v : Int32} : ∀ n : Nat, smF (upF f k v) n = smF f n + (if k < n then v.toInt - (f k).toInt else 0)
  | 0 => by rw [if_neg (Nat.not_lt_zero k)]; rfl
  | n + 1 => by
    show smF (upF f k v) n + (upF f k v n).toInt = smF f n + (f n).toInt + _
    rw [sm_up n]
    by_cases e : n = k
    · subst e; rw [upF_at, if_neg (by omega), if_pos (by omega)]; omega
    · rw [upF_ne e]
      by_cases h : k < n
      · rw [if_pos h, if_pos (by omega)]; omega
      · rw [if_neg h, if_neg (by omega)]; omega
/-- bounds: of warmth, of all the water there is -/
def rOK (n : Nat) (B D : Int) (s : rS) : Prop := (∀ c, c < n → -B ≤ (s.1 c).toInt ∧ (s.1 c).toInt ≤ B) ∧ (∀ c, c < n → 0 ≤ (s.2.1 c).toInt) ∧ 0 ≤ s.2.2.1.toInt ∧ s.2.2.1.toInt + smF s.2.1 n ≤ D
/-- while the first k CELLS of n have gone on -/
def rOKk (n k : Nat) (B D : Int) (s : rS) : Prop := (∀ c, c < k → -(B + 9900) ≤ (s.1 c).toInt ∧ (s.1 c).toInt ≤ B + 9900) ∧ (∀ c, k ≤ c → c < n → -B ≤ (s.1 c).toInt ∧ (s.1 c).toInt ≤ B) ∧ (∀ c, c < n → 0 ≤ (s.2.1 c).toInt) ∧ 0 ≤ s.2.2.1.toInt ∧ s.2.2.1.toInt + smF s.2.1 n ≤ D + 9 * k
set_option maxRecDepth 8000 in
theorem cl_ok {st n k : Nat} {C : Nat → rC} {t : rN} {s : rS} {B D : Int} (hk : k < n) (hC : cOK (C k)) (ht : nOK t) (h4 : 4000 ≤ B) (hB : B ≤ 2000000) (hD : D + 9 * k ≤ 2000000000) (h : rOKk n k B D s) : rOKk n (k + 1) B D (clF st C t k s) := by
  obtain ⟨h1, h2, h3, h5, h6⟩ := h
  obtain ⟨b1, b2⟩ := h2 k (Nat.le_refl k) hk
  have w := wm_ok hC ht h4 hB b1 b2
  have l := lk_ok hC ht h4 hB b1 b2
  have wk := h3 k hk
  have one := sm_one (c := k) n h3 hk
  have su := sm_up (f := s.2.1) (k := k) (v := waF st (C k) t (lkF (C k) t (s.1 k)) (s.2.1 k) s.2.2.1) n
  rw [if_pos hk] at su
  have k0 : (0 : Int32).toInt = 0 := rfl
  have main : 0 ≤ (waF st (C k) t (lkF (C k) t (s.1 k)) (s.2.1 k) s.2.2.1).toInt ∧ 0 ≤ (skF2 st t (lkF (C k) t (s.1 k)) (s.2.1 k) s.2.2.1).toInt ∧ (waF st (C k) t (lkF (C k) t (s.1 k)) (s.2.1 k) s.2.2.1).toInt + (skF2 st t (lkF (C k) t (s.1 k)) (s.2.1 k) s.2.2.1).toInt ≤ (s.2.1 k).toInt + s.2.2.1.toInt + 9 := by
    generalize lkF (C k) t (s.1 k) = lk at l ⊢
    generalize s.2.1 k = wa at wk one ⊢
    generalize hsk : s.2.2.1 = sk at h5 h6 ⊢
    unfold waF skF2
    by_cases g : 0 < lk.toInt
    · rw [if_pos g, if_pos g]
      obtain ⟨m1, m2⟩ := cm_ok (st := st) (t := t) g l.2 h5
      have gb : 0 ≤ (gfF st (C k)).toInt ∧ (gfF st (C k)).toInt ≤ 9 := by
        unfold gfF
        by_cases e : st = 1
        · rw [if_pos e, k0]; omega
        · rw [if_neg e]; exact hC.2.2.1
      have a1 : (wa + cmF st t lk sk).toInt = wa.toInt + (cmF st t lk sk).toInt := i_add (by omega) (by omega)
      have a2 : (wa + cmF st t lk sk + gfF st (C k)).toInt = (wa + cmF st t lk sk).toInt + (gfF st (C k)).toInt := i_add (by omega) (by omega)
      have a3 : (sk - cmF st t lk sk).toInt = sk.toInt - (cmF st t lk sk).toInt := i_sub (by omega) (by omega)
      omega
    · rw [if_neg g, if_neg g]
      obtain ⟨m1, m2⟩ := dr_ok (t := t) ht (by omega) l.1 wk
      have a1 : (wa - drF t lk wa).toInt = wa.toInt - (drF t lk wa).toInt := i_sub (by omega) (by omega)
      have a2 : (sk + (if st = 2 then 0 else drF t lk wa)).toInt ≤ sk.toInt + (drF t lk wa).toInt ∧ 0 ≤ (sk + (if st = 2 then 0 else drF t lk wa)).toInt := by
        by_cases e : st = 2
        · rw [if_pos e, i_add (by omega) (by omega), k0]; omega
        · rw [if_neg e, i_add (by omega) (by omega)]; omega
      omega
  refine ⟨fun c hc => ?_, fun c hc hcn => ?_, fun c hc => ?_, main.2.1, ?_⟩
  · show -(B + 9900) ≤ (upF s.1 k _ c).toInt ∧ (upF s.1 k _ c).toInt ≤ B + 9900
    by_cases e : c = k
    · rw [e, upF_at]; exact w
    · rw [upF_ne e]; exact h1 c (by omega)
  · show -B ≤ (upF s.1 k _ c).toInt ∧ (upF s.1 k _ c).toInt ≤ B
    rw [upF_ne (by omega)]; exact h2 c (by omega) hcn
  · show 0 ≤ (upF s.2.1 k _ c).toInt
    by_cases e : c = k
    · rw [e, upF_at]; exact main.1
    · rw [upF_ne e]; exact h3 c hc
  · show (skF2 st t _ _ _).toInt + smF (upF s.2.1 k _) n ≤ D + 9 * ((k + 1 : Nat) : Int)
    rw [su]
    omega
set_option maxRecDepth 8000 in
theorem se_ok {st n : Nat} {C : Nat → rC} {t : rN} {s : rS} {B D : Int} (hC : ∀ c, c < n → cOK (C c)) (ht : nOK t) (h4 : 4000 ≤ B) (hB : B ≤ 2000000) (hD : D + 9 * n ≤ 2000000000) (h : rOK n B D s) : ∀ k : Nat, k ≤ n → rOKk n k B D (seF st C t k s)
  | 0, _ => ⟨fun c hc => absurd hc (Nat.not_lt_zero c), fun c _ hc => h.1 c hc, h.2.1, h.2.2.1, by have := h.2.2.2; show s.2.2.1.toInt + smF s.2.1 n ≤ D + 9 * ((0 : Nat) : Int); omega⟩
  | k + 1, hk => cl_ok (by omega) (hC k (by omega)) ht h4 hB (by omega) (se_ok hC ht h4 hB hD h k (by omega))
set_option maxRecDepth 8000 in
theorem st_ok2 {st n : Nat} {C : Nat → rC} {t : rN} {s : rS} {B D : Int} (hC : ∀ c, c < n → cOK (C c)) (ht : nOK t) (h4 : 4000 ≤ B) (hB : B ≤ 2000000) (hD : D + 9 * n ≤ 2000000000) (h : rOK n B D s) : rOK n (B + 9900) (D + 9 * n) (seF st C t n s) := by
  obtain ⟨h1, -, h3, h5, h6⟩ := se_ok (st := st) hC ht h4 hB hD h n (Nat.le_refl n)
  exact ⟨h1, h3, h5, h6⟩
set_option maxRecDepth 8000 in
/-- the model's way to write it -/
theorem wm_mod {c : rC} {t : rN} {w : Int32} : w + (100 * t.2.2.1 - w) * (1 + t.2.1) / (10 + c.1) + t.2.2.2.2 * 8 * c.2.2.2 / c.1 - c.2.2.2 * (100 - t.1) * c.2.1 / (100 * c.1) = wmF c t w := by
  unfold wmF
  rw [Int32.add_comm 1 t.2.1, Int32.add_comm 10 c.1, Int32.sub_eq_add_neg (_ + _) (c.2.2.2 * (100 - t.1) * c.2.1 / (100 * c.1)), Int32.sub_eq_add_neg (_ + _) (c.2.2.2 * (100 - t.1) * c.2.1 / (100 * c.1)), Int32.add_assoc, Int32.add_assoc, Int32.add_assoc]
end
