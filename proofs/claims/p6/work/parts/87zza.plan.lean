/-! ===== a PLAN's text, purely ===== -/
abbrev pL : Type := Nat × Int32 × Int32
abbrev pR : Type := Nat × Nat × Nat × pL
def p0 : pL := (0, 0, 0)
def wpF (b : fB) (T : fT) : Nat := if sayF b T (dw_sb 22) then 0 else if sayF b T (dw_sb 23) then 1 else if sayF b T (dw_sb 24) then 2 else if sayF b T (dw_sb 25) then 3 else 9
def wpI (k : Nat) : Int := if k = 9 then -1 else k
set_option maxRecDepth 8000 in
theorem wp_cases (b : fB) (T : fT) : wpF b T = 0 ∨ wpF b T = 1 ∨ wpF b T = 2 ∨ wpF b T = 3 ∨ wpF b T = 9 := by
  unfold wpF
  split
  · exact Or.inl rfl
  · split
    · exact Or.inr (Or.inl rfl)
    · split
      · exact Or.inr (Or.inr (Or.inl rfl))
      · split
        · exact Or.inr (Or.inr (Or.inr (Or.inl rfl)))
        · exact Or.inr (Or.inr (Or.inr (Or.inr rfl)))
set_option maxRecDepth 8000 in
theorem wp_1 {b : fB} {T : fT} (h : wpF b T ≠ 9) : T.1 = 1 := by
  by_cases g : T.1 = 1
  · exact g
  · exfalso
    apply h
    unfold wpF
    rw [if_neg (fun s => g s.1), if_neg (fun s => g s.1), if_neg (fun s => g s.1), if_neg (fun s => g s.1)]
def nbP (t : fT) (lo hi : Int) (k : Int32 → Nat → pR) : pR := if nbF t lo hi = 0 then k t.2.2.2 t.2.2.1 else (nbF t lo hi, t.2.1, 0, p0)
def stP (t : fT) (k : Nat → pR) : pR := if t.1 = 3 then k t.2.2.1 else (1, t.2.1, 0, p0)
/-- a LINE of a PLAN over C columns, R rows -/
def plF (b : fB) (N m ln : Nat) (C R : Int) (T : fT) : pR :=
  if wpF b T = 9 then (1, T.2.1, 0, p0)
  else if 30 ≤ ln then (4, T.2.1, 0, p0)
  else if wpF b T = 0 then nbP (tkF b N m T.2.2.1) 1 144 (fun v p => stP (tkF b N m p) (fun p => (0, 0, p, 0, v, 0)))
  else nbP (tkF b N m T.2.2.1) 0 (C - 1) (fun v1 p => nbP (tkF b N m p) 0 (R - 1) (fun v2 p => stP (tkF b N m p) (fun p => (0, 0, p, wpF b T, v1, v2))))
/-- a text: a fault's kind, its place, how many lines, the lines (the latest first) -/
def pgF (b : fB) (N m : Nat) (C R : Int) : Nat → Nat → Nat → List pL → Nat × Nat × Nat × List pL
  | 0, _, _, _ => (9, 0, 0, [])
  | f + 1, ln, p, L =>
    if (tkF b N m p).1 = 0 then (0, 0, ln, L)
    else if (plF b N m ln C R (tkF b N m p)).1 = 0 then pgF b N m C R f (ln + 1) (plF b N m ln C R (tkF b N m p)).2.2.1 ((plF b N m ln C R (tkF b N m p)).2.2.2 :: L)
    else ((plF b N m ln C R (tkF b N m p)).1, (plF b N m ln C R (tkF b N m p)).2.1, 0, [])
set_option maxRecDepth 8000 in
theorem pp_K {t : fT} {lo hi : Int} {k : Int32 → Nat → pR} {N : Nat} (ht : t.2.1 ≤ N) (hk : (k t.2.2.2 t.2.2.1).2.1 ≤ N) : (nbP t lo hi k).2.1 ≤ N := by
  unfold nbP
  by_cases g : nbF t lo hi = 0
  · rw [if_pos g]; exact hk
  · rw [if_neg g]; exact ht
set_option maxRecDepth 8000 in
theorem pp_S {t : fT} {k : Nat → pR} {N : Nat} (ht : t.2.1 ≤ N) (hk : (k t.2.2.1).2.1 ≤ N) : (stP t k).2.1 ≤ N := by
  unfold stP
  by_cases g : t.1 = 3
  · rw [if_pos g]; exact hk
  · rw [if_neg g]; exact ht
set_option maxRecDepth 8000 in
theorem px_K {t : fT} {lo hi : Int} {k : Int32 → Nat → pR} {N : Nat} (hk : (k t.2.2.2 t.2.2.1).2.2.1 ≤ N) : (nbP t lo hi k).2.2.1 ≤ N := by
  unfold nbP
  by_cases g : nbF t lo hi = 0
  · rw [if_pos g]; exact hk
  · rw [if_neg g]; exact Nat.zero_le _
set_option maxRecDepth 8000 in
theorem px_S {t : fT} {k : Nat → pR} {N : Nat} (hk : (k t.2.2.1).2.2.1 ≤ N) : (stP t k).2.2.1 ≤ N := by
  unfold stP
  by_cases g : t.1 = 3
  · rw [if_pos g]; exact hk
  · rw [if_neg g]; exact Nat.zero_le _
set_option maxRecDepth 8000 in
theorem pp_pl {b : fB} {N m ln : Nat} {C R : Int} {T : fT} (h1 : T.2.1 ≤ N) (h2 : T.2.2.1 ≤ N) : (plF b N m ln C R T).2.1 ≤ N ∧ (plF b N m ln C R T).2.2.1 ≤ N := by
  unfold plF
  by_cases g1 : wpF b T = 9
  · rw [if_pos g1]; exact ⟨h1, Nat.zero_le _⟩
  rw [if_neg g1]
  by_cases g2 : 30 ≤ ln
  · rw [if_pos g2]; exact ⟨h1, Nat.zero_le _⟩
  rw [if_neg g2]
  have a1 := tkF_in (b := b) (n := N) (m := m) (p := T.2.2.1) h2
  have a2 := tkF_in (b := b) (n := N) (m := m) (p := (tkF b N m T.2.2.1).2.2.1) a1.2.2.1
  have a3 := tkF_in (b := b) (n := N) (m := m) (p := (tkF b N m (tkF b N m T.2.2.1).2.2.1).2.2.1) a2.2.2.1
  by_cases g3 : wpF b T = 0
  · rw [if_pos g3]
    exact ⟨pp_K a1.1 (pp_S a2.1 (Nat.zero_le _)), px_K (px_S a2.2.2.1)⟩
  · rw [if_neg g3]
    exact ⟨pp_K a1.1 (pp_K a2.1 (pp_S a3.1 (Nat.zero_le _))), px_K (px_K (px_S a3.2.2.1))⟩
set_option maxRecDepth 8000 in
theorem pp_pg {b : fB} {N m : Nat} {C R : Int} : ∀ (f ln p : Nat) (L : List pL), p ≤ N → (pgF b N m C R f ln p L).2.1 ≤ N
  | 0, _, _, _, _ => Nat.zero_le _
  | f + 1, ln, p, L, hp => by
    have a := tkF_in (b := b) (n := N) (m := m) (p := p) hp
    have c := pp_pl (b := b) (m := m) (ln := ln) (C := C) (R := R) a.1 a.2.2.1
    unfold pgF
    by_cases g1 : (tkF b N m p).1 = 0
    · rw [if_pos g1]; exact Nat.zero_le _
    rw [if_neg g1]
    by_cases g2 : (plF b N m ln C R (tkF b N m p)).1 = 0
    · rw [if_pos g2]; exact pp_pg f _ _ _ c.2
    · rw [if_neg g2]; exact c.1
set_option maxRecDepth 8000 in
theorem pl_30 {b : fB} {N m ln : Nat} {C R : Int} {T : fT} (h : 30 ≤ ln) : (plF b N m ln C R T).1 ≠ 0 := by
  unfold plF
  by_cases g : wpF b T = 9
  · rw [if_pos g]; exact nn rfl
  · rw [if_neg g, if_pos h]; exact nn rfl
/-! ===== PLANS of the class ===== -/
/-- a PLAN lies at A -/
def PT (A : Nat) : Prop := (SH1 A).1 = 5 ∧ (SH1 A).2.2 1 = some (A + 1) ∧ (SH1 (A + 1)).1 = 20 ∧ (SH1 (A + 1)).2.1 = 30 ∧ ∀ i, i < 30 → (SH1 (A + 1)).2.2 i = some (A + 2 + i) ∧ (SH1 (A + 2 + i)).1 = 16 ∧ (SH1 (A + 2 + i)).2.1 = 3
def pt_list : List Nat := [11, 132, 218, 315]
set_option maxRecDepth 8000 in
theorem pt_dec : (pt_list.all (fun A => decide ((dx_ce A).k = 5) && decide (((dx_ce A).rf[1]?).join = some (A + 1)) && decide ((dx_ce (A + 1)).k = 20) && decide ((dx_ce (A + 1)).n = 30) && (List.range 30).all (fun w => decide (((dx_ce (A + 1)).rf[w]?).join = some (A + 2 + w)) && decide ((dx_ce (A + 2 + w)).k = 16) && decide ((dx_ce (A + 2 + w)).n = 3)))) = true := by decide +kernel
set_option maxRecDepth 8000 in
theorem pt_ok {A : Nat} (h : A ∈ pt_list) : PT A := by
  have h1 := List.all_eq_true.mp pt_dec A h
  simp only [Bool.and_eq_true, decide_eq_true_eq] at h1
  obtain ⟨⟨⟨⟨a1, a2⟩, a3⟩, a4⟩, a5⟩ := h1
  refine ⟨(shE A).1.trans a1, ((shE A).2.2 1).trans a2, (shE (A + 1)).1.trans a3, (shE (A + 1)).2.1.trans a4, fun w hw => ?_⟩
  have h2 := List.all_eq_true.mp a5 w (List.mem_range.mpr hw)
  simp only [Bool.and_eq_true, decide_eq_true_eq] at h2
  obtain ⟨⟨b1, b2⟩, b3⟩ := h2
  exact ⟨((shE (A + 1)).2.2 w).trans b1, (shE (A + 2 + w)).1.trans b2, (shE (A + 2 + w)).2.1.trans b3⟩
set_option maxRecDepth 8000 in
theorem v_pset {n : Nat} {I : Nat → Nat → Int32} {J : Nat → Nat → Int64} {K : dw_K} {A i w : Nat} {x y v : Int32} (hA : PT A) (hx : x.toInt = i) (hi : i < 30) (hy : y.toInt = w) (hw : w < 3) (hk : K none (n, SH1, dw_up I (A + 2 + i) w v, J)) : t_X5_set [.ref A, .int x, .int y, .int v] (n, SH1, I, J) K := by
  have c30 : (30 : Int32).toInt = 30 := rfl
  have c3 : (3 : Int32).toInt = 3 := rfl
  have hxn : x.toInt.toNat = i := by omega
  have hyn : y.toInt.toNat = w := by omega
  obtain ⟨b1, b2, b3⟩ := hA.2.2.2.2 i hi
  refine q_body (Nat.le_of_ble_eq_true rfl) ?_
  refine q_ild rfl rfl ?_
  refine q_if (c := 2) rfl (by decide) (fun h => absurd (show x.toInt < 0 from h) (by omega)) (fun _ => ?_)
  refine q_ild rfl rfl ?_
  refine q_ic rfl ?_
  refine q_icmp (c := 3) rfl (by decide) (fun h => absurd (show (30 : Int32).toInt ≤ x.toInt from h) (by omega)) (fun _ => ?_)
  refine q_ild rfl rfl ?_
  refine q_if (c := 2) rfl (by decide) (fun h => absurd (show y.toInt < 0 from h) (by omega)) (fun _ => ?_)
  refine q_ild rfl rfl ?_
  refine q_ic rfl ?_
  refine q_icmp (c := 3) rfl (by decide) (fun h => absurd (show (3 : Int32).toInt ≤ y.toInt from h) (by omega)) (fun _ => ?_)
  refine q_ald rfl rfl ?_
  refine q_getr rfl hA.1 hA.2.1 ?_
  refine q_ild rfl rfl ?_
  refine q_xaldr rfl hA.2.2.1 hA.2.2.2.1 (by omega) (show x.toInt < (30 : Nat) by omega) (show (SH1 (A + 1)).2.2 x.toInt.toNat = some (A + 2 + i) by rw [hxn]; exact b1) ?_
  refine q_ild rfl rfl ?_
  refine q_ild rfl rfl ?_
  refine q_iast rfl b2 b3 (by omega) (by omega) ?_
  rw [hyn]
  exact q_vret rfl hk
set_option maxRecDepth 8000 in
theorem v_ptell {n : Nat} {I : Nat → Nat → Int32} {J : Nat → Nat → Int64} {K : dw_K} {A i w : Nat} {x y : Int32} (hA : PT A) (hx : x.toInt = i) (hi : i < 30) (hy : y.toInt = w) (hw : w < 3) (hk : K (some (.int (I (A + 2 + i) w))) (n, SH1, I, J)) : t_X5_tell [.ref A, .int x, .int y] (n, SH1, I, J) K := by
  have c30 : (30 : Int32).toInt = 30 := rfl
  have c3 : (3 : Int32).toInt = 3 := rfl
  have hxn : x.toInt.toNat = i := by omega
  have hyn : y.toInt.toNat = w := by omega
  obtain ⟨b1, b2, b3⟩ := hA.2.2.2.2 i hi
  refine q_body (Nat.le_of_ble_eq_true rfl) ?_
  refine q_ild rfl rfl ?_
  refine q_if (c := 2) rfl (by decide) (fun h => absurd (show x.toInt < 0 from h) (by omega)) (fun _ => ?_)
  refine q_ild rfl rfl ?_
  refine q_ic rfl ?_
  refine q_icmp (c := 3) rfl (by decide) (fun h => absurd (show (30 : Int32).toInt ≤ x.toInt from h) (by omega)) (fun _ => ?_)
  refine q_ild rfl rfl ?_
  refine q_if (c := 2) rfl (by decide) (fun h => absurd (show y.toInt < 0 from h) (by omega)) (fun _ => ?_)
  refine q_ild rfl rfl ?_
  refine q_ic rfl ?_
  refine q_icmp (c := 3) rfl (by decide) (fun h => absurd (show (3 : Int32).toInt ≤ y.toInt from h) (by omega)) (fun _ => ?_)
  refine q_ald rfl rfl ?_
  refine q_getr rfl hA.1 hA.2.1 ?_
  refine q_ild rfl rfl ?_
  refine q_xaldr rfl hA.2.2.1 hA.2.2.2.1 (by omega) (show x.toInt < (30 : Nat) by omega) (show (SH1 (A + 1)).2.2 x.toInt.toNat = some (A + 2 + i) by rw [hxn]; exact b1) ?_
  refine q_ild rfl rfl ?_
  refine q_xald rfl (Or.inl rfl) b2 b3 (by omega) (by omega) ?_
  rw [hyn]
  refine q_goto rfl ?_
  exact q_iret rfl hk
set_option maxRecDepth 8000 in
theorem pc_loop {n : Nat} {J : Nat → Nat → Int64} {K : dw_K} {bc bs A B : Nat} {I0 : Nat → Nat → Int32} (hA : PT A) (hB : PT B) (hAB : A + 32 ≤ B ∨ B + 32 ≤ A)
    (hk : ∀ I' : Nat → Nat → Int32, (∀ a, (a < A + 2 ∨ A + 31 < a) → I' a = I0 a) → (∀ w, w < 30 → ∀ t, t < 3 → I' (A + 2 + w) t = I0 (B + 2 + w) t) → K none (n, SH1, I', J)) :
    ∀ (f w : Nat) (x : Int32) (I : Nat → Nat → Int32), w + f = 30 → x.toInt = w → (∀ a, (a < A + 2 ∨ A + 31 < a) → I a = I0 a) → (∀ v, v < w → ∀ t, t < 3 → I (A + 2 + v) t = I0 (B + 2 + v) t) → dw_ok (pr_X5_copyFrom K) 10 bc bs [some (.ref A), some (.ref B), some (.int x)] [] (n, SH1, I, J) := by
  have c30 : (30 : Int32).toInt = 30 := rfl
  have c1 : (1 : Int32).toInt = 1 := rfl
  intro f
  induction f with
  | zero =>
    intro w x I hw hx hr hv
    refine q_ild rfl rfl ?_
    refine q_ic rfl ?_
    refine q_icmp (c := 3) rfl (by decide) (fun _ => ?_) (fun h => absurd (show x.toInt < (30 : Int32).toInt from h) (by omega))
    exact q_vret rfl (hk I hr (fun v hv5 t ht => hv v (by omega) t ht))
  | succ f ih =>
    intro w x I hw hx hr hv
    have hxn : x.toInt.toNat = w := by omega
    obtain ⟨a1, a2, a3⟩ := hA.2.2.2.2 w (by omega)
    obtain ⟨b1, b2, b3⟩ := hB.2.2.2.2 w (by omega)
    refine q_ild rfl rfl ?_
    refine q_ic rfl ?_
    refine q_icmp (c := 3) rfl (by decide) (fun h => absurd (show (30 : Int32).toInt ≤ x.toInt from h) (by omega)) (fun _ => ?_)
    refine q_ald rfl rfl ?_
    refine q_getr rfl hB.1 hB.2.1 ?_
    refine q_ild rfl rfl ?_
    refine q_xaldr rfl hB.2.2.1 hB.2.2.2.1 (by omega) (show x.toInt < (30 : Nat) by omega) (show (SH1 (B + 1)).2.2 x.toInt.toNat = some (B + 2 + w) by rw [hxn]; exact b1) ?_
    refine q_ic rfl ?_
    refine q_ald rfl rfl ?_
    refine q_getr rfl hA.1 hA.2.1 ?_
    refine q_ild rfl rfl ?_
    refine q_xaldr rfl hA.2.2.1 hA.2.2.2.1 (by omega) (show x.toInt < (30 : Nat) by omega) (show (SH1 (A + 1)).2.2 x.toInt.toNat = some (A + 2 + w) by rw [hxn]; exact a1) ?_
    refine q_ic rfl ?_
    refine q_ic rfl ?_
    refine q_copy (n := 3) rfl b2 a2 b3 a3 rfl rfl (Nat.le_refl _) (Nat.le_refl _) ?_
    refine q_inc rfl rfl rfl ?_
    refine q_goto rfl ?_
    refine ih (w + 1) (x + 1) (dw_cp (n, SH1, I, J) (B + 2 + w) (A + 2 + w) 0 0 3).2.2.1 (by omega) (by rw [i_add (by omega) (by omega), c1]; omega) (fun a ha => ?_) (fun v hv5 t ht => ?_)
    · rw [← hr a ha]
      funext j
      show (if a = A + 2 + w then _ else I a j) = I a j
      rw [if_neg (by omega)]
    · show (if A + 2 + v = A + 2 + w then (if 0 ≤ t ∧ t < 0 + 3 then I (B + 2 + w) (0 + (t - 0)) else I (A + 2 + w) t) else I (A + 2 + v) t) = I0 (B + 2 + v) t
      by_cases e : v = w
      · subst e
        rw [if_pos rfl, if_pos (by omega), hr (B + 2 + v) (by omega), Nat.zero_add, Nat.sub_zero]
      · rw [if_neg (by omega)]
        exact hv v (by omega) t ht
set_option maxRecDepth 8000 in
theorem v_pcopy {n : Nat} {I : Nat → Nat → Int32} {J : Nat → Nat → Int64} {K : dw_K} {A B : Nat} (hA : PT A) (hB : PT B) (hAB : A + 32 ≤ B ∨ B + 32 ≤ A)
    (hk : ∀ I' : Nat → Nat → Int32, (∀ a, a ≠ A → (a < A + 2 ∨ A + 31 < a) → I' a = I a) → (∀ j, j ≠ 0 → I' A j = I A j) → I' A 0 = I B 0 → (∀ w, w < 30 → ∀ t, t < 3 → I' (A + 2 + w) t = I (B + 2 + w) t) → K none (n, SH1, I', J)) : t_X5_copyFrom [.ref A, .ref B] (n, SH1, I, J) K := by
  refine q_body (Nat.le_of_ble_eq_true rfl) ?_
  refine q_ald rfl rfl ?_
  refine q_ald rfl rfl ?_
  refine q_geti rfl hB.1 ?_
  refine q_puti rfl hA.1 ?_
  refine q_ic rfl ?_
  refine q_ist rfl rfl ?_
  refine pc_loop (I0 := dw_up I A 0 (I B 0)) hA hB hAB (fun I' hr hv => ?_) 30 0 0 (dw_up I A 0 (I B 0)) rfl rfl (fun _ _ => rfl) (fun v hv => absurd hv (Nat.not_lt_zero v))
  refine hk I' (fun a h1 h2 => ?_) (fun j hj => ?_) ?_ (fun w hw t ht => ?_)
  · rw [hr a h2]; exact up_row h1
  · rw [hr A (by omega)]; exact up_fld hj
  · rw [hr A (by omega)]; exact up_same
  · rw [hv w hw t ht, up_row (by omega)]
/-- the class's reader of a PLAN, going on -/
def PRp (I0 I : Nat → Nat → Int32) (L : List pL) : Prop :=
  (∀ a, a ≠ 1 → (a < 134 ∨ 163 < a) → I a = I0 a) ∧ (∀ j, j < 3 → I 1 j = I0 1 j) ∧
  ∀ i, i < L.length → (I (134 + i) 0).toInt = (atF p0 L i).1 ∧ I (134 + i) 1 = (atF p0 L i).2.1 ∧ ((atF p0 L i).1 ≠ 0 → I (134 + i) 2 = (atF p0 L i).2.2)
set_option maxRecDepth 8000 in
theorem PR_nil {I0 I : Nat → Nat → Int32} {L : List pL} (h : PRp I0 I L) : PRp I0 I [] := ⟨h.1, h.2.1, fun i hi => absurd hi (Nat.not_lt_zero i)⟩
set_option maxRecDepth 8000 in
theorem prT {I0 : Nat → Nat → Int32} {L : List pL} {q : Nat} (hL : L.length ≤ 30) (hq : q < 30) {P : (Nat → Int32) → Prop} : TapeInv I0 (fun I => PRp I0 I L ∧ P (I (134 + q))) := by
  refine ⟨fun I I1 h hA hF => ⟨⟨fun a h1 h2 => (hA a h1).trans (h.1.1 a h1 h2), fun j hj => (hF j hj).trans (h.1.2.1 j hj), fun i hi => ?_⟩, ?_⟩, fun I h => ⟨h.1.2.1 1 (by decide), h.1.2.1 2 (by decide), h.1.1 2 (by decide) (by decide)⟩⟩
  · rw [hA (134 + i) (by omega)]; exact h.1.2.2 i hi
  · rw [hA (134 + q) (by omega)]; exact h.2
set_option maxRecDepth 8000 in
theorem PR_up {I0 I : Nat → Nat → Int32} {L : List pL} {q w : Nat} {v : Int32} (h : PRp I0 I L) (h1 : L.length ≤ q) (h2 : q < 30) : PRp I0 (dw_up I (134 + q) w v) L := by
  refine ⟨fun a g1 g2 => (up_row (by omega)).trans (h.1 a g1 g2), fun j hj => ?_, fun i hi => ?_⟩
  · rw [up_row (by omega)]; exact h.2.1 j hj
  · rw [up_row (by omega)]; exact h.2.2 i hi
set_option maxRecDepth 8000 in
theorem PR_cons {I0 I : Nat → Nat → Int32} {L : List pL} {l : pL} {ln : Nat} (h : PRp I0 I L) (hL : L.length = ln) (h0 : (I (134 + ln) 0).toInt = l.1) (h1 : I (134 + ln) 1 = l.2.1) (h2 : l.1 ≠ 0 → I (134 + ln) 2 = l.2.2) : PRp I0 I (l :: L) := by
  refine ⟨h.1, h.2.1, fun i hi => ?_⟩
  have hl : (l :: L).length = L.length + 1 := rfl
  by_cases e : i = L.length
  · rw [e, at_hd, hL]; exact ⟨h0, h1, h2⟩
  · rw [at_tl e]; exact h.2.2 i (by omega)
set_option maxRecDepth 8000 in
theorem v_whatIsDone {n : Nat} {I : Nat → Nat → Int32} {J : Nat → Nat → Int64} {K : dw_K} {T : fT} {N : Nat} (hN : (I 1 1).toInt = N) (hN9 : N ≤ 940) (h3 : (I 1 3).toInt = T.2.2.1) (h4 : (I 1 4).toInt = T.2.1) (h5 : (I 1 5).toInt = T.1) (hTN : T.2.2.1 ≤ N) (hT2 : T.2.1 ≤ N) (hk : ∀ w : Int32, w.toInt = wpI (wpF (tbC I) T) → K (some (.int w)) (n, SH1, I, J)) : t_X6_whatIsDone [.ref 1] (n, SH1, I, J) K := by
  refine q_body (Nat.le_of_ble_eq_true rfl) ?_
  refine q_ald rfl rfl ?_
  refine q_str rfl ?_
  refine q_callV (as := [.ref 1000023]) (rest := []) rfl rfl sk_1 rfl (Nat.le_of_ble_eq_true rfl) ?_
  refine v_says (T := T) (w := dw_sb 22) hN hN9 ⟨by decide, by decide⟩ rfl (st_ok (by decide)).1 (st_ok (by decide)).2 h3 h4 h5 hTN hT2 (fun v vc => ?_)
  show dw_ok (pr_X6_whatIsDone K) 6 0 0 [some (.ref 1)] [.int v] (n, SH1, I, J)
  rcases vc with ⟨rfl, s22⟩ | ⟨rfl, s22⟩
  · skip
    refine q_if (c := 0) rfl (by decide) (fun h => absurd (show (1 : Int) = 0 from h) (by decide)) (fun y1 => ?_)
    have y1 : (1 : Int) ≠ 0 := y1
    refine q_ic rfl ?_
    exact q_iret rfl (hk _ (by unfold wpF; rw [if_pos s22]; rfl))
  · skip
    refine q_if (c := 0) rfl (by decide) (fun y2 => ?_) (fun h => absurd (show (0 : Int) ≠ 0 from h) (by decide))
    have y2 : (0 : Int) = 0 := y2
    refine q_ald rfl rfl ?_
    refine q_str rfl ?_
    refine q_callV (as := [.ref 1000024]) (rest := []) rfl rfl sk_1 rfl (Nat.le_of_ble_eq_true rfl) ?_
    refine v_says (T := T) (w := dw_sb 23) hN hN9 ⟨by decide, by decide⟩ rfl (st_ok (by decide)).1 (st_ok (by decide)).2 h3 h4 h5 hTN hT2 (fun v vc => ?_)
    show dw_ok (pr_X6_whatIsDone K) 17 0 0 [some (.ref 1)] [.int v] (n, SH1, I, J)
    rcases vc with ⟨rfl, s23⟩ | ⟨rfl, s23⟩
    · skip
      refine q_if (c := 0) rfl (by decide) (fun h => absurd (show (1 : Int) = 0 from h) (by decide)) (fun y3 => ?_)
      have y3 : (1 : Int) ≠ 0 := y3
      refine q_ic rfl ?_
      exact q_iret rfl (hk _ (by unfold wpF; rw [if_neg s22, if_pos s23]; rfl))
    · skip
      refine q_if (c := 0) rfl (by decide) (fun y4 => ?_) (fun h => absurd (show (0 : Int) ≠ 0 from h) (by decide))
      have y4 : (0 : Int) = 0 := y4
      refine q_ald rfl rfl ?_
      refine q_str rfl ?_
      refine q_callV (as := [.ref 1000025]) (rest := []) rfl rfl sk_1 rfl (Nat.le_of_ble_eq_true rfl) ?_
      refine v_says (T := T) (w := dw_sb 24) hN hN9 ⟨by decide, by decide⟩ rfl (st_ok (by decide)).1 (st_ok (by decide)).2 h3 h4 h5 hTN hT2 (fun v vc => ?_)
      show dw_ok (pr_X6_whatIsDone K) 28 0 0 [some (.ref 1)] [.int v] (n, SH1, I, J)
      rcases vc with ⟨rfl, s24⟩ | ⟨rfl, s24⟩
      · skip
        refine q_if (c := 0) rfl (by decide) (fun h => absurd (show (1 : Int) = 0 from h) (by decide)) (fun y5 => ?_)
        have y5 : (1 : Int) ≠ 0 := y5
        refine q_ic rfl ?_
        exact q_iret rfl (hk _ (by unfold wpF; rw [if_neg s22, if_neg s23, if_pos s24]; rfl))
      · skip
        refine q_if (c := 0) rfl (by decide) (fun y6 => ?_) (fun h => absurd (show (0 : Int) ≠ 0 from h) (by decide))
        have y6 : (0 : Int) = 0 := y6
        refine q_ald rfl rfl ?_
        refine q_str rfl ?_
        refine q_callV (as := [.ref 1000026]) (rest := []) rfl rfl sk_1 rfl (Nat.le_of_ble_eq_true rfl) ?_
        refine v_says (T := T) (w := dw_sb 25) hN hN9 ⟨by decide, by decide⟩ rfl (st_ok (by decide)).1 (st_ok (by decide)).2 h3 h4 h5 hTN hT2 (fun v vc => ?_)
        show dw_ok (pr_X6_whatIsDone K) 39 0 0 [some (.ref 1)] [.int v] (n, SH1, I, J)
        rcases vc with ⟨rfl, s25⟩ | ⟨rfl, s25⟩
        · skip
          refine q_if (c := 0) rfl (by decide) (fun h => absurd (show (1 : Int) = 0 from h) (by decide)) (fun y7 => ?_)
          have y7 : (1 : Int) ≠ 0 := y7
          refine q_ic rfl ?_
          refine q_goto rfl ?_
          exact q_iret rfl (hk _ (by unfold wpF; rw [if_neg s22, if_neg s23, if_neg s24, if_pos s25]; rfl))
        · skip
          refine q_if (c := 0) rfl (by decide) (fun y8 => ?_) (fun h => absurd (show (0 : Int) ≠ 0 from h) (by decide))
          have y8 : (0 : Int) = 0 := y8
          refine q_ic rfl ?_
          exact q_iret rfl (hk _ (by unfold wpF; rw [if_neg s22, if_neg s23, if_neg s24, if_neg s25]; rfl))
set_option maxRecDepth 8000 in
set_option maxHeartbeats 2000000 in
theorem v_pline0 {n : Nat} {I : Nat → Nat → Int32} {J : Nat → Nat → Int64} {K : dw_K} {I0 : Nat → Nat → Int32} {i : Int32} {L : List pL} {T : fT} {N m ln : Nat} {C R : Int} (hR : PRp I0 I L) (hL : L.length = ln) (hl30 : ln ≤ 30) (hN : (I0 1 1).toInt = N) (hN9 : N ≤ 940) (hm : (I0 1 2).toInt = m) (h3 : (I 1 3).toInt = T.2.2.1) (h4 : (I 1 4).toInt = T.2.1) (h5 : (I 1 5).toInt = T.1) (hTN : T.2.2.1 ≤ N) (hT2 : T.2.1 ≤ N) (hi : i.toInt = ln) (hC : (I0 4 0).toInt = C) (hC0 : 0 ≤ C) (hC9 : C ≤ 144) (hRr : (I0 4 1).toInt = R) (hR0 : 0 ≤ R) (hR9 : R ≤ 144) (hw : wpF (tbC I0) T = 0)
    (hok : (plF (tbC I0) N m ln C R T).1 = 0 → ∀ I' : Nat → Nat → Int32, PRp I0 I' ((plF (tbC I0) N m ln C R T).2.2.2 :: L) → (I' 1 3).toInt = (plF (tbC I0) N m ln C R T).2.2.1 → (plF (tbC I0) N m ln C R T).2.2.1 ≤ N → K (some (.int 1)) (n, SH1, I', J))
    (hno : (plF (tbC I0) N m ln C R T).1 ≠ 0 → ∀ I' : Nat → Nat → Int32, PRp I0 I' [] → (I' 1 7).toInt = (plF (tbC I0) N m ln C R T).1 → (I' 1 8).toInt = (plF (tbC I0) N m ln C R T).2.1 → K (some (.int 0)) (n, SH1, I', J)) : dw_ok (pr_X6_readLine K) 18 0 0 [some (.ref 131), some (.ref 1), some (.ref 4), some (.int i), some (.int 0)] [] (n, SH1, I, J) := by
  have c30 : (30 : Int32).toInt = 30 := rfl
  have c1 : (1 : Int32).toInt = 1 := rfl
  have hw9 : ¬ (0 = 9) := by decide
  refine q_ild rfl rfl ?_
  refine q_ic rfl ?_
  refine q_icmp (c := 2) rfl (by decide) (fun h => ?_) (fun h => ?_)
  rotate_left
  · have h : (30 : Int32).toInt ≤ i.toInt := h
    have hg : 30 ≤ ln := by omega
    have eR : (plF (tbC I0) N m ln C R T) = (4, T.2.1, 0, p0) := by simp only [plF, hw, hg, hw9, ↓reduceIte]
    refine q_ald rfl rfl ?_
    refine q_ic rfl ?_
    refine fl_step (c := 4) rfl rfl (prT (L := L) (q := 0) (by omega) (by decide) (P := fun _ => True)) ⟨hR, trivial⟩ (fun I1 hI1 g7 g8 => ?_)
    rw [eR] at hno
    exact hno (nn rfl) I1 (PR_nil hI1.1) g7 (g8.trans h4)
  have h : i.toInt < (30 : Int32).toInt := h
  have hg : ¬ (30 ≤ ln) := by omega
  have hln : ln < 30 := by omega
  have pt : PT 132 := pt_ok (by decide)
  refine q_ald rfl rfl ?_
  refine q_getr rfl sk_131 sr_131_0 ?_
  refine q_ild rfl rfl ?_
  refine q_ic rfl ?_
  refine q_ild rfl rfl ?_
  refine q_callV (as := [.int i, .int 0, .int 0]) (rest := []) rfl rfl sk_132 rfl (Nat.le_of_ble_eq_true rfl) ?_
  refine v_pset (i := ln) (w := 0) pt hi hln rfl (by decide) ?_
  show dw_ok (pr_X6_readLine K) 41 0 0 [some (.ref 131), some (.ref 1), some (.ref 4), some (.int i), some (.int 0)] [] (n, SH1, dw_up I (134 + ln) 0 0, J)
  obtain ⟨I1, hI1⟩ : ∃ X, X = dw_up I (134 + ln) 0 0 := ⟨_, rfl⟩
  rw [← hI1]
  have hR1 : PRp I0 I1 L := by rw [hI1]; exact PR_up hR (by omega) hln
  have d1 : I1 (134 + ln) 0 = 0 := by rw [hI1]; exact up_same
  have l1 : (I1 1 3).toInt = T.2.2.1 := by rw [hI1, up_row (by omega)]; exact h3
  refine q_ild rfl rfl ?_
  refine q_if (c := 1) rfl (by decide) (fun h => absurd rfl h) (fun _ => ?_)
  refine q_ald rfl rfl ?_
  refine q_ic rfl ?_
  refine q_ic rfl ?_
  obtain ⟨T1, hT1⟩ : ∃ t, t = tkF (tbC I0) N m T.2.2.1 := ⟨_, rfl⟩
  have hin1 := tkF_in (b := tbC I0) (n := N) (m := m) (p := T.2.2.1) hTN
  skip
  refine tn_step (p := T.2.2.1) rfl rfl rfl rfl (prT (q := ln) (by omega) hln (P := fun r => r 0 = 0)) ⟨hR1, d1⟩ hN hN9 hm l1 hTN ?_ ?_
  rotate_left
  · intro e1 I9 hI9 g7 g8
    rw [← hT1] at e1 g7
    rw [← hT1] at g8
    have e1 : nbF T1 1 144 ≠ 0 := e1
    have eR : (plF (tbC I0) N m ln C R T) = (nbF T1 1 144, T1.2.1, 0, p0) := by simp only [plF, nbP, stP, hw, hw9, hg, ← hT1, e1, ↓reduceIte]
    rw [eR] at hno
    exact hno e1 I9 (PR_nil hI9.1) g7 g8
  intro e1 J1q hJ1 g13 g16
  rw [← hT1] at e1
  rw [← hT1] at g13 g16 hin1
  have e1 : nbF T1 1 144 = 0 := e1
  obtain ⟨hR2, d2⟩ := hJ1
  refine q_ald rfl rfl ?_
  refine q_getr rfl sk_131 sr_131_0 ?_
  refine q_ild rfl rfl ?_
  refine q_ic rfl ?_
  refine q_ald rfl rfl ?_
  refine q_geti rfl sk_1 ?_
  show dw_ok (pr_X6_readLine K) 69 0 0 [some (.ref 131), some (.ref 1), some (.ref 4), some (.int i), some (.int 0)] [.int (J1q 1 6), .int 1, .int i, .ref 132] (n, SH1, J1q, J)
  rw [g16]
  refine q_callV (as := [.int i, .int 1, .int T1.2.2.2]) (rest := []) rfl rfl sk_132 rfl (Nat.le_of_ble_eq_true rfl) ?_
  refine v_pset (i := ln) (w := 1) pt hi hln rfl (by decide) ?_
  show dw_ok (pr_X6_readLine K) 72 0 0 [some (.ref 131), some (.ref 1), some (.ref 4), some (.int i), some (.int 0)] [] (n, SH1, dw_up J1q (134 + ln) 1 T1.2.2.2, J)
  obtain ⟨I3, hI3⟩ : ∃ X, X = dw_up J1q (134 + ln) 1 T1.2.2.2 := ⟨_, rfl⟩
  rw [← hI3]
  have RI3 : PRp I0 I3 L := by rw [hI3]; exact PR_up hR2 (by omega) hln
  have lI3 : (I3 1 3).toInt = T1.2.2.1 := by rw [hI3, up_row (by omega)]; exact g13
  have d3 : I3 (134 + ln) 0 = 0 ∧ I3 (134 + ln) 1 = T1.2.2.2 := by
    rw [hI3]
    exact ⟨(up_fld (by decide)).trans d2, up_same⟩
  obtain ⟨T2, hT2⟩ : ∃ t, t = tkF (tbC I0) N m T1.2.2.1 := ⟨_, rfl⟩
  have hin2 := tkF_in (b := tbC I0) (n := N) (m := m) (p := T1.2.2.1) hin1.2.2.1
  refine q_ald rfl rfl ?_
  refine ts_step (p := T1.2.2.1) rfl rfl (prT (q := ln) (by omega) hln (P := fun r => r 0 = 0 ∧ r 1 = T1.2.2.2)) ⟨RI3, d3⟩ hN hN9 hm lI3 hin1.2.2.1 ?_ ?_
  rotate_left
  · intro es I9 hI9 g7 g8
    rw [← hT2] at es g8
    have eR : (plF (tbC I0) N m ln C R T) = (1, T2.2.1, 0, p0) := by simp only [plF, nbP, stP, hw, hw9, hg, ← hT1, e1, ← hT2, es, ↓reduceIte]
    rw [eR] at hno
    exact hno (nn rfl) I9 (PR_nil hI9.1) g7 g8
  intro es I9 hI9 g3
  rw [← hT2] at es g3 hin2
  have eR : (plF (tbC I0) N m ln C R T) = (0, 0, T2.2.2.1, (0, T1.2.2.2, 0)) := by simp only [plF, nbP, stP, hw, hw9, hg, ← hT1, e1, ← hT2, es, ↓reduceIte]
  rw [eR] at hok
  obtain ⟨hR9, hd9⟩ := hI9
  have hd9 : I9 (134 + ln) 0 = 0 ∧ I9 (134 + ln) 1 = T1.2.2.2 := hd9
  exact hok rfl I9 (PR_cons hR9 hL (by rw [hd9.1]; rfl) hd9.2 (fun h => absurd rfl h)) g3 hin2.2.2.1
set_option maxRecDepth 8000 in
set_option maxHeartbeats 2000000 in
theorem v_pline1 {n : Nat} {I : Nat → Nat → Int32} {J : Nat → Nat → Int64} {K : dw_K} {I0 : Nat → Nat → Int32} {i : Int32} {L : List pL} {T : fT} {N m ln : Nat} {C R : Int} (hR : PRp I0 I L) (hL : L.length = ln) (hl30 : ln ≤ 30) (hN : (I0 1 1).toInt = N) (hN9 : N ≤ 940) (hm : (I0 1 2).toInt = m) (h3 : (I 1 3).toInt = T.2.2.1) (h4 : (I 1 4).toInt = T.2.1) (h5 : (I 1 5).toInt = T.1) (hTN : T.2.2.1 ≤ N) (hT2 : T.2.1 ≤ N) (hi : i.toInt = ln) (hC : (I0 4 0).toInt = C) (hC0 : 0 ≤ C) (hC9 : C ≤ 144) (hRr : (I0 4 1).toInt = R) (hR0 : 0 ≤ R) (hR9 : R ≤ 144) (hw : wpF (tbC I0) T = 1)
    (hok : (plF (tbC I0) N m ln C R T).1 = 0 → ∀ I' : Nat → Nat → Int32, PRp I0 I' ((plF (tbC I0) N m ln C R T).2.2.2 :: L) → (I' 1 3).toInt = (plF (tbC I0) N m ln C R T).2.2.1 → (plF (tbC I0) N m ln C R T).2.2.1 ≤ N → K (some (.int 1)) (n, SH1, I', J))
    (hno : (plF (tbC I0) N m ln C R T).1 ≠ 0 → ∀ I' : Nat → Nat → Int32, PRp I0 I' [] → (I' 1 7).toInt = (plF (tbC I0) N m ln C R T).1 → (I' 1 8).toInt = (plF (tbC I0) N m ln C R T).2.1 → K (some (.int 0)) (n, SH1, I', J)) : dw_ok (pr_X6_readLine K) 18 0 0 [some (.ref 131), some (.ref 1), some (.ref 4), some (.int i), some (.int 1)] [] (n, SH1, I, J) := by
  have c30 : (30 : Int32).toInt = 30 := rfl
  have c1 : (1 : Int32).toInt = 1 := rfl
  have hw9 : ¬ (1 = 9) := by decide
  have hk0 : ¬ (1 = 0) := by decide
  refine q_ild rfl rfl ?_
  refine q_ic rfl ?_
  refine q_icmp (c := 2) rfl (by decide) (fun h => ?_) (fun h => ?_)
  rotate_left
  · have h : (30 : Int32).toInt ≤ i.toInt := h
    have hg : 30 ≤ ln := by omega
    have eR : (plF (tbC I0) N m ln C R T) = (4, T.2.1, 0, p0) := by simp only [plF, hw, hg, hw9, ↓reduceIte]
    refine q_ald rfl rfl ?_
    refine q_ic rfl ?_
    refine fl_step (c := 4) rfl rfl (prT (L := L) (q := 0) (by omega) (by decide) (P := fun _ => True)) ⟨hR, trivial⟩ (fun I1 hI1 g7 g8 => ?_)
    rw [eR] at hno
    exact hno (nn rfl) I1 (PR_nil hI1.1) g7 (g8.trans h4)
  have h : i.toInt < (30 : Int32).toInt := h
  have hg : ¬ (30 ≤ ln) := by omega
  have hln : ln < 30 := by omega
  have pt : PT 132 := pt_ok (by decide)
  refine q_ald rfl rfl ?_
  refine q_getr rfl sk_131 sr_131_0 ?_
  refine q_ild rfl rfl ?_
  refine q_ic rfl ?_
  refine q_ild rfl rfl ?_
  refine q_callV (as := [.int i, .int 0, .int 1]) (rest := []) rfl rfl sk_132 rfl (Nat.le_of_ble_eq_true rfl) ?_
  refine v_pset (i := ln) (w := 0) pt hi hln rfl (by decide) ?_
  show dw_ok (pr_X6_readLine K) 41 0 0 [some (.ref 131), some (.ref 1), some (.ref 4), some (.int i), some (.int 1)] [] (n, SH1, dw_up I (134 + ln) 0 1, J)
  obtain ⟨I1, hI1⟩ : ∃ X, X = dw_up I (134 + ln) 0 1 := ⟨_, rfl⟩
  rw [← hI1]
  have hR1 : PRp I0 I1 L := by rw [hI1]; exact PR_up hR (by omega) hln
  have d1 : I1 (134 + ln) 0 = 1 := by rw [hI1]; exact up_same
  have l1 : (I1 1 3).toInt = T.2.2.1 := by rw [hI1, up_row (by omega)]; exact h3
  refine q_ild rfl rfl ?_
  refine q_if (c := 1) rfl (by decide) (fun _ => ?_) (fun h => absurd (show (1 : Int32).toInt = 0 from h) (by decide))
  refine q_ald rfl rfl ?_
  refine q_ic rfl ?_
  refine q_ald rfl rfl ?_
  refine q_geti rfl sk_4 ?_
  refine q_ic rfl ?_
  refine q_sub rfl ?_
  show dw_ok (pr_X6_readLine K) 85 0 0 [some (.ref 131), some (.ref 1), some (.ref 4), some (.int i), some (.int 1)] [.int (I1 4 0 - 1), .int 0, .ref 1] (n, SH1, I1, J)
  have eh1 : (I1 4 0 - 1).toInt = C - 1 := by
    rw [hR1.1 4 (by decide) (by decide), i_sub (by omega) (by omega), hC, c1]
  obtain ⟨T1, hT1⟩ : ∃ t, t = tkF (tbC I0) N m T.2.2.1 := ⟨_, rfl⟩
  have hin1 := tkF_in (b := tbC I0) (n := N) (m := m) (p := T.2.2.1) hTN
  skip
  refine tn_step (p := T.2.2.1) rfl rfl rfl rfl (prT (q := ln) (by omega) hln (P := fun r => r 0 = 1)) ⟨hR1, d1⟩ hN hN9 hm l1 hTN ?_ ?_
  rotate_left
  · intro e1 I9 hI9 g7 g8
    rw [← hT1, eh1] at e1 g7
    rw [← hT1] at g8
    have e1 : nbF T1 0 (C - 1) ≠ 0 := e1
    have eR : (plF (tbC I0) N m ln C R T) = (nbF T1 0 (C - 1), T1.2.1, 0, p0) := by simp only [plF, nbP, stP, hw, hw9, hg, hk0, ← hT1, e1, ↓reduceIte]
    rw [eR] at hno
    exact hno e1 I9 (PR_nil hI9.1) g7 g8
  intro e1 J1q hJ1 g13 g16
  rw [← hT1, eh1] at e1
  rw [← hT1] at g13 g16 hin1
  have e1 : nbF T1 0 (C - 1) = 0 := e1
  obtain ⟨hR2, d2⟩ := hJ1
  refine q_ald rfl rfl ?_
  refine q_getr rfl sk_131 sr_131_0 ?_
  refine q_ild rfl rfl ?_
  refine q_ic rfl ?_
  refine q_ald rfl rfl ?_
  refine q_geti rfl sk_1 ?_
  show dw_ok (pr_X6_readLine K) 103 0 0 [some (.ref 131), some (.ref 1), some (.ref 4), some (.int i), some (.int 1)] [.int (J1q 1 6), .int 1, .int i, .ref 132] (n, SH1, J1q, J)
  rw [g16]
  refine q_callV (as := [.int i, .int 1, .int T1.2.2.2]) (rest := []) rfl rfl sk_132 rfl (Nat.le_of_ble_eq_true rfl) ?_
  refine v_pset (i := ln) (w := 1) pt hi hln rfl (by decide) ?_
  show dw_ok (pr_X6_readLine K) 106 0 0 [some (.ref 131), some (.ref 1), some (.ref 4), some (.int i), some (.int 1)] [] (n, SH1, dw_up J1q (134 + ln) 1 T1.2.2.2, J)
  obtain ⟨I3, hI3⟩ : ∃ X, X = dw_up J1q (134 + ln) 1 T1.2.2.2 := ⟨_, rfl⟩
  rw [← hI3]
  have RI3 : PRp I0 I3 L := by rw [hI3]; exact PR_up hR2 (by omega) hln
  have lI3 : (I3 1 3).toInt = T1.2.2.1 := by rw [hI3, up_row (by omega)]; exact g13
  have d3 : I3 (134 + ln) 0 = 1 ∧ I3 (134 + ln) 1 = T1.2.2.2 := by
    rw [hI3]
    exact ⟨(up_fld (by decide)).trans d2, up_same⟩
  refine q_ald rfl rfl ?_
  refine q_ic rfl ?_
  refine q_ald rfl rfl ?_
  refine q_geti rfl sk_4 ?_
  refine q_ic rfl ?_
  refine q_sub rfl ?_
  show dw_ok (pr_X6_readLine K) 114 0 0 [some (.ref 131), some (.ref 1), some (.ref 4), some (.int i), some (.int 1)] [.int (I3 4 1 - 1), .int 0, .ref 1] (n, SH1, I3, J)
  have eh2 : (I3 4 1 - 1).toInt = R - 1 := by
    rw [RI3.1 4 (by decide) (by decide), i_sub (by omega) (by omega), hRr, c1]
  obtain ⟨T2, hT2⟩ : ∃ t, t = tkF (tbC I0) N m T1.2.2.1 := ⟨_, rfl⟩
  have hin2 := tkF_in (b := tbC I0) (n := N) (m := m) (p := T1.2.2.1) hin1.2.2.1
  skip
  refine tn_step (p := T1.2.2.1) rfl rfl rfl rfl (prT (q := ln) (by omega) hln (P := fun r => r 0 = 1 ∧ r 1 = T1.2.2.2)) ⟨RI3, d3⟩ hN hN9 hm lI3 hin1.2.2.1 ?_ ?_
  rotate_left
  · intro e2 I9 hI9 g7 g8
    rw [← hT2, eh2] at e2 g7
    rw [← hT2] at g8
    have e2 : nbF T2 0 (R - 1) ≠ 0 := e2
    have eR : (plF (tbC I0) N m ln C R T) = (nbF T2 0 (R - 1), T2.2.1, 0, p0) := by simp only [plF, nbP, stP, hw, hw9, hg, hk0, ← hT1, e1, ← hT2, e2, ↓reduceIte]
    rw [eR] at hno
    exact hno e2 I9 (PR_nil hI9.1) g7 g8
  intro e2 J2q hJ2 g23 g26
  rw [← hT2, eh2] at e2
  rw [← hT2] at g23 g26 hin2
  have e2 : nbF T2 0 (R - 1) = 0 := e2
  obtain ⟨hR4, d4⟩ := hJ2
  refine q_ald rfl rfl ?_
  refine q_getr rfl sk_131 sr_131_0 ?_
  refine q_ild rfl rfl ?_
  refine q_ic rfl ?_
  refine q_ald rfl rfl ?_
  refine q_geti rfl sk_1 ?_
  show dw_ok (pr_X6_readLine K) 132 0 0 [some (.ref 131), some (.ref 1), some (.ref 4), some (.int i), some (.int 1)] [.int (J2q 1 6), .int 2, .int i, .ref 132] (n, SH1, J2q, J)
  rw [g26]
  refine q_callV (as := [.int i, .int 2, .int T2.2.2.2]) (rest := []) rfl rfl sk_132 rfl (Nat.le_of_ble_eq_true rfl) ?_
  refine v_pset (i := ln) (w := 2) pt hi hln rfl (by decide) ?_
  show dw_ok (pr_X6_readLine K) 135 0 0 [some (.ref 131), some (.ref 1), some (.ref 4), some (.int i), some (.int 1)] [] (n, SH1, dw_up J2q (134 + ln) 2 T2.2.2.2, J)
  obtain ⟨I5, hI5⟩ : ∃ X, X = dw_up J2q (134 + ln) 2 T2.2.2.2 := ⟨_, rfl⟩
  rw [← hI5]
  have RI5 : PRp I0 I5 L := by rw [hI5]; exact PR_up hR4 (by omega) hln
  have lI5 : (I5 1 3).toInt = T2.2.2.1 := by rw [hI5, up_row (by omega)]; exact g23
  have d5 : I5 (134 + ln) 0 = 1 ∧ I5 (134 + ln) 1 = T1.2.2.2 ∧ I5 (134 + ln) 2 = T2.2.2.2 := by
    rw [hI5]
    exact ⟨(up_fld (by decide)).trans d4.1, (up_fld (by decide)).trans d4.2, up_same⟩
  obtain ⟨T3, hT3⟩ : ∃ t, t = tkF (tbC I0) N m T2.2.2.1 := ⟨_, rfl⟩
  have hin3 := tkF_in (b := tbC I0) (n := N) (m := m) (p := T2.2.2.1) hin2.2.2.1
  refine q_ald rfl rfl ?_
  refine ts_step (p := T2.2.2.1) rfl rfl (prT (q := ln) (by omega) hln (P := fun r => r 0 = 1 ∧ r 1 = T1.2.2.2 ∧ r 2 = T2.2.2.2)) ⟨RI5, d5⟩ hN hN9 hm lI5 hin2.2.2.1 ?_ ?_
  rotate_left
  · intro es I9 hI9 g7 g8
    rw [← hT3] at es g8
    have eR : (plF (tbC I0) N m ln C R T) = (1, T3.2.1, 0, p0) := by simp only [plF, nbP, stP, hw, hw9, hg, hk0, ← hT1, e1, ← hT2, e2, ← hT3, es, ↓reduceIte]
    rw [eR] at hno
    exact hno (nn rfl) I9 (PR_nil hI9.1) g7 g8
  intro es I9 hI9 g3
  rw [← hT3] at es g3 hin3
  have eR : (plF (tbC I0) N m ln C R T) = (0, 0, T3.2.2.1, (1, T1.2.2.2, T2.2.2.2)) := by simp only [plF, nbP, stP, hw, hw9, hg, hk0, ← hT1, e1, ← hT2, e2, ← hT3, es, ↓reduceIte]
  rw [eR] at hok
  obtain ⟨hR9, hd9⟩ := hI9
  have hd9 : I9 (134 + ln) 0 = 1 ∧ I9 (134 + ln) 1 = T1.2.2.2 ∧ I9 (134 + ln) 2 = T2.2.2.2 := hd9
  exact hok rfl I9 (PR_cons hR9 hL (by rw [hd9.1]; rfl) hd9.2.1 (fun _ => hd9.2.2)) g3 hin3.2.2.1
set_option maxRecDepth 8000 in
set_option maxHeartbeats 2000000 in
theorem v_pline2 {n : Nat} {I : Nat → Nat → Int32} {J : Nat → Nat → Int64} {K : dw_K} {I0 : Nat → Nat → Int32} {i : Int32} {L : List pL} {T : fT} {N m ln : Nat} {C R : Int} (hR : PRp I0 I L) (hL : L.length = ln) (hl30 : ln ≤ 30) (hN : (I0 1 1).toInt = N) (hN9 : N ≤ 940) (hm : (I0 1 2).toInt = m) (h3 : (I 1 3).toInt = T.2.2.1) (h4 : (I 1 4).toInt = T.2.1) (h5 : (I 1 5).toInt = T.1) (hTN : T.2.2.1 ≤ N) (hT2 : T.2.1 ≤ N) (hi : i.toInt = ln) (hC : (I0 4 0).toInt = C) (hC0 : 0 ≤ C) (hC9 : C ≤ 144) (hRr : (I0 4 1).toInt = R) (hR0 : 0 ≤ R) (hR9 : R ≤ 144) (hw : wpF (tbC I0) T = 2)
    (hok : (plF (tbC I0) N m ln C R T).1 = 0 → ∀ I' : Nat → Nat → Int32, PRp I0 I' ((plF (tbC I0) N m ln C R T).2.2.2 :: L) → (I' 1 3).toInt = (plF (tbC I0) N m ln C R T).2.2.1 → (plF (tbC I0) N m ln C R T).2.2.1 ≤ N → K (some (.int 1)) (n, SH1, I', J))
    (hno : (plF (tbC I0) N m ln C R T).1 ≠ 0 → ∀ I' : Nat → Nat → Int32, PRp I0 I' [] → (I' 1 7).toInt = (plF (tbC I0) N m ln C R T).1 → (I' 1 8).toInt = (plF (tbC I0) N m ln C R T).2.1 → K (some (.int 0)) (n, SH1, I', J)) : dw_ok (pr_X6_readLine K) 18 0 0 [some (.ref 131), some (.ref 1), some (.ref 4), some (.int i), some (.int 2)] [] (n, SH1, I, J) := by
  have c30 : (30 : Int32).toInt = 30 := rfl
  have c1 : (1 : Int32).toInt = 1 := rfl
  have hw9 : ¬ (2 = 9) := by decide
  have hk0 : ¬ (2 = 0) := by decide
  refine q_ild rfl rfl ?_
  refine q_ic rfl ?_
  refine q_icmp (c := 2) rfl (by decide) (fun h => ?_) (fun h => ?_)
  rotate_left
  · have h : (30 : Int32).toInt ≤ i.toInt := h
    have hg : 30 ≤ ln := by omega
    have eR : (plF (tbC I0) N m ln C R T) = (4, T.2.1, 0, p0) := by simp only [plF, hw, hg, hw9, ↓reduceIte]
    refine q_ald rfl rfl ?_
    refine q_ic rfl ?_
    refine fl_step (c := 4) rfl rfl (prT (L := L) (q := 0) (by omega) (by decide) (P := fun _ => True)) ⟨hR, trivial⟩ (fun I1 hI1 g7 g8 => ?_)
    rw [eR] at hno
    exact hno (nn rfl) I1 (PR_nil hI1.1) g7 (g8.trans h4)
  have h : i.toInt < (30 : Int32).toInt := h
  have hg : ¬ (30 ≤ ln) := by omega
  have hln : ln < 30 := by omega
  have pt : PT 132 := pt_ok (by decide)
  refine q_ald rfl rfl ?_
  refine q_getr rfl sk_131 sr_131_0 ?_
  refine q_ild rfl rfl ?_
  refine q_ic rfl ?_
  refine q_ild rfl rfl ?_
  refine q_callV (as := [.int i, .int 0, .int 2]) (rest := []) rfl rfl sk_132 rfl (Nat.le_of_ble_eq_true rfl) ?_
  refine v_pset (i := ln) (w := 0) pt hi hln rfl (by decide) ?_
  show dw_ok (pr_X6_readLine K) 41 0 0 [some (.ref 131), some (.ref 1), some (.ref 4), some (.int i), some (.int 2)] [] (n, SH1, dw_up I (134 + ln) 0 2, J)
  obtain ⟨I1, hI1⟩ : ∃ X, X = dw_up I (134 + ln) 0 2 := ⟨_, rfl⟩
  rw [← hI1]
  have hR1 : PRp I0 I1 L := by rw [hI1]; exact PR_up hR (by omega) hln
  have d1 : I1 (134 + ln) 0 = 2 := by rw [hI1]; exact up_same
  have l1 : (I1 1 3).toInt = T.2.2.1 := by rw [hI1, up_row (by omega)]; exact h3
  refine q_ild rfl rfl ?_
  refine q_if (c := 1) rfl (by decide) (fun _ => ?_) (fun h => absurd (show (2 : Int32).toInt = 0 from h) (by decide))
  refine q_ald rfl rfl ?_
  refine q_ic rfl ?_
  refine q_ald rfl rfl ?_
  refine q_geti rfl sk_4 ?_
  refine q_ic rfl ?_
  refine q_sub rfl ?_
  show dw_ok (pr_X6_readLine K) 85 0 0 [some (.ref 131), some (.ref 1), some (.ref 4), some (.int i), some (.int 2)] [.int (I1 4 0 - 1), .int 0, .ref 1] (n, SH1, I1, J)
  have eh1 : (I1 4 0 - 1).toInt = C - 1 := by
    rw [hR1.1 4 (by decide) (by decide), i_sub (by omega) (by omega), hC, c1]
  obtain ⟨T1, hT1⟩ : ∃ t, t = tkF (tbC I0) N m T.2.2.1 := ⟨_, rfl⟩
  have hin1 := tkF_in (b := tbC I0) (n := N) (m := m) (p := T.2.2.1) hTN
  skip
  refine tn_step (p := T.2.2.1) rfl rfl rfl rfl (prT (q := ln) (by omega) hln (P := fun r => r 0 = 2)) ⟨hR1, d1⟩ hN hN9 hm l1 hTN ?_ ?_
  rotate_left
  · intro e1 I9 hI9 g7 g8
    rw [← hT1, eh1] at e1 g7
    rw [← hT1] at g8
    have e1 : nbF T1 0 (C - 1) ≠ 0 := e1
    have eR : (plF (tbC I0) N m ln C R T) = (nbF T1 0 (C - 1), T1.2.1, 0, p0) := by simp only [plF, nbP, stP, hw, hw9, hg, hk0, ← hT1, e1, ↓reduceIte]
    rw [eR] at hno
    exact hno e1 I9 (PR_nil hI9.1) g7 g8
  intro e1 J1q hJ1 g13 g16
  rw [← hT1, eh1] at e1
  rw [← hT1] at g13 g16 hin1
  have e1 : nbF T1 0 (C - 1) = 0 := e1
  obtain ⟨hR2, d2⟩ := hJ1
  refine q_ald rfl rfl ?_
  refine q_getr rfl sk_131 sr_131_0 ?_
  refine q_ild rfl rfl ?_
  refine q_ic rfl ?_
  refine q_ald rfl rfl ?_
  refine q_geti rfl sk_1 ?_
  show dw_ok (pr_X6_readLine K) 103 0 0 [some (.ref 131), some (.ref 1), some (.ref 4), some (.int i), some (.int 2)] [.int (J1q 1 6), .int 1, .int i, .ref 132] (n, SH1, J1q, J)
  rw [g16]
  refine q_callV (as := [.int i, .int 1, .int T1.2.2.2]) (rest := []) rfl rfl sk_132 rfl (Nat.le_of_ble_eq_true rfl) ?_
  refine v_pset (i := ln) (w := 1) pt hi hln rfl (by decide) ?_
  show dw_ok (pr_X6_readLine K) 106 0 0 [some (.ref 131), some (.ref 1), some (.ref 4), some (.int i), some (.int 2)] [] (n, SH1, dw_up J1q (134 + ln) 1 T1.2.2.2, J)
  obtain ⟨I3, hI3⟩ : ∃ X, X = dw_up J1q (134 + ln) 1 T1.2.2.2 := ⟨_, rfl⟩
  rw [← hI3]
  have RI3 : PRp I0 I3 L := by rw [hI3]; exact PR_up hR2 (by omega) hln
  have lI3 : (I3 1 3).toInt = T1.2.2.1 := by rw [hI3, up_row (by omega)]; exact g13
  have d3 : I3 (134 + ln) 0 = 2 ∧ I3 (134 + ln) 1 = T1.2.2.2 := by
    rw [hI3]
    exact ⟨(up_fld (by decide)).trans d2, up_same⟩
  refine q_ald rfl rfl ?_
  refine q_ic rfl ?_
  refine q_ald rfl rfl ?_
  refine q_geti rfl sk_4 ?_
  refine q_ic rfl ?_
  refine q_sub rfl ?_
  show dw_ok (pr_X6_readLine K) 114 0 0 [some (.ref 131), some (.ref 1), some (.ref 4), some (.int i), some (.int 2)] [.int (I3 4 1 - 1), .int 0, .ref 1] (n, SH1, I3, J)
  have eh2 : (I3 4 1 - 1).toInt = R - 1 := by
    rw [RI3.1 4 (by decide) (by decide), i_sub (by omega) (by omega), hRr, c1]
  obtain ⟨T2, hT2⟩ : ∃ t, t = tkF (tbC I0) N m T1.2.2.1 := ⟨_, rfl⟩
  have hin2 := tkF_in (b := tbC I0) (n := N) (m := m) (p := T1.2.2.1) hin1.2.2.1
  skip
  refine tn_step (p := T1.2.2.1) rfl rfl rfl rfl (prT (q := ln) (by omega) hln (P := fun r => r 0 = 2 ∧ r 1 = T1.2.2.2)) ⟨RI3, d3⟩ hN hN9 hm lI3 hin1.2.2.1 ?_ ?_
  rotate_left
  · intro e2 I9 hI9 g7 g8
    rw [← hT2, eh2] at e2 g7
    rw [← hT2] at g8
    have e2 : nbF T2 0 (R - 1) ≠ 0 := e2
    have eR : (plF (tbC I0) N m ln C R T) = (nbF T2 0 (R - 1), T2.2.1, 0, p0) := by simp only [plF, nbP, stP, hw, hw9, hg, hk0, ← hT1, e1, ← hT2, e2, ↓reduceIte]
    rw [eR] at hno
    exact hno e2 I9 (PR_nil hI9.1) g7 g8
  intro e2 J2q hJ2 g23 g26
  rw [← hT2, eh2] at e2
  rw [← hT2] at g23 g26 hin2
  have e2 : nbF T2 0 (R - 1) = 0 := e2
  obtain ⟨hR4, d4⟩ := hJ2
  refine q_ald rfl rfl ?_
  refine q_getr rfl sk_131 sr_131_0 ?_
  refine q_ild rfl rfl ?_
  refine q_ic rfl ?_
  refine q_ald rfl rfl ?_
  refine q_geti rfl sk_1 ?_
  show dw_ok (pr_X6_readLine K) 132 0 0 [some (.ref 131), some (.ref 1), some (.ref 4), some (.int i), some (.int 2)] [.int (J2q 1 6), .int 2, .int i, .ref 132] (n, SH1, J2q, J)
  rw [g26]
  refine q_callV (as := [.int i, .int 2, .int T2.2.2.2]) (rest := []) rfl rfl sk_132 rfl (Nat.le_of_ble_eq_true rfl) ?_
  refine v_pset (i := ln) (w := 2) pt hi hln rfl (by decide) ?_
  show dw_ok (pr_X6_readLine K) 135 0 0 [some (.ref 131), some (.ref 1), some (.ref 4), some (.int i), some (.int 2)] [] (n, SH1, dw_up J2q (134 + ln) 2 T2.2.2.2, J)
  obtain ⟨I5, hI5⟩ : ∃ X, X = dw_up J2q (134 + ln) 2 T2.2.2.2 := ⟨_, rfl⟩
  rw [← hI5]
  have RI5 : PRp I0 I5 L := by rw [hI5]; exact PR_up hR4 (by omega) hln
  have lI5 : (I5 1 3).toInt = T2.2.2.1 := by rw [hI5, up_row (by omega)]; exact g23
  have d5 : I5 (134 + ln) 0 = 2 ∧ I5 (134 + ln) 1 = T1.2.2.2 ∧ I5 (134 + ln) 2 = T2.2.2.2 := by
    rw [hI5]
    exact ⟨(up_fld (by decide)).trans d4.1, (up_fld (by decide)).trans d4.2, up_same⟩
  obtain ⟨T3, hT3⟩ : ∃ t, t = tkF (tbC I0) N m T2.2.2.1 := ⟨_, rfl⟩
  have hin3 := tkF_in (b := tbC I0) (n := N) (m := m) (p := T2.2.2.1) hin2.2.2.1
  refine q_ald rfl rfl ?_
  refine ts_step (p := T2.2.2.1) rfl rfl (prT (q := ln) (by omega) hln (P := fun r => r 0 = 2 ∧ r 1 = T1.2.2.2 ∧ r 2 = T2.2.2.2)) ⟨RI5, d5⟩ hN hN9 hm lI5 hin2.2.2.1 ?_ ?_
  rotate_left
  · intro es I9 hI9 g7 g8
    rw [← hT3] at es g8
    have eR : (plF (tbC I0) N m ln C R T) = (1, T3.2.1, 0, p0) := by simp only [plF, nbP, stP, hw, hw9, hg, hk0, ← hT1, e1, ← hT2, e2, ← hT3, es, ↓reduceIte]
    rw [eR] at hno
    exact hno (nn rfl) I9 (PR_nil hI9.1) g7 g8
  intro es I9 hI9 g3
  rw [← hT3] at es g3 hin3
  have eR : (plF (tbC I0) N m ln C R T) = (0, 0, T3.2.2.1, (2, T1.2.2.2, T2.2.2.2)) := by simp only [plF, nbP, stP, hw, hw9, hg, hk0, ← hT1, e1, ← hT2, e2, ← hT3, es, ↓reduceIte]
  rw [eR] at hok
  obtain ⟨hR9, hd9⟩ := hI9
  have hd9 : I9 (134 + ln) 0 = 2 ∧ I9 (134 + ln) 1 = T1.2.2.2 ∧ I9 (134 + ln) 2 = T2.2.2.2 := hd9
  exact hok rfl I9 (PR_cons hR9 hL (by rw [hd9.1]; rfl) hd9.2.1 (fun _ => hd9.2.2)) g3 hin3.2.2.1
set_option maxRecDepth 8000 in
set_option maxHeartbeats 2000000 in
theorem v_pline3 {n : Nat} {I : Nat → Nat → Int32} {J : Nat → Nat → Int64} {K : dw_K} {I0 : Nat → Nat → Int32} {i : Int32} {L : List pL} {T : fT} {N m ln : Nat} {C R : Int} (hR : PRp I0 I L) (hL : L.length = ln) (hl30 : ln ≤ 30) (hN : (I0 1 1).toInt = N) (hN9 : N ≤ 940) (hm : (I0 1 2).toInt = m) (h3 : (I 1 3).toInt = T.2.2.1) (h4 : (I 1 4).toInt = T.2.1) (h5 : (I 1 5).toInt = T.1) (hTN : T.2.2.1 ≤ N) (hT2 : T.2.1 ≤ N) (hi : i.toInt = ln) (hC : (I0 4 0).toInt = C) (hC0 : 0 ≤ C) (hC9 : C ≤ 144) (hRr : (I0 4 1).toInt = R) (hR0 : 0 ≤ R) (hR9 : R ≤ 144) (hw : wpF (tbC I0) T = 3)
    (hok : (plF (tbC I0) N m ln C R T).1 = 0 → ∀ I' : Nat → Nat → Int32, PRp I0 I' ((plF (tbC I0) N m ln C R T).2.2.2 :: L) → (I' 1 3).toInt = (plF (tbC I0) N m ln C R T).2.2.1 → (plF (tbC I0) N m ln C R T).2.2.1 ≤ N → K (some (.int 1)) (n, SH1, I', J))
    (hno : (plF (tbC I0) N m ln C R T).1 ≠ 0 → ∀ I' : Nat → Nat → Int32, PRp I0 I' [] → (I' 1 7).toInt = (plF (tbC I0) N m ln C R T).1 → (I' 1 8).toInt = (plF (tbC I0) N m ln C R T).2.1 → K (some (.int 0)) (n, SH1, I', J)) : dw_ok (pr_X6_readLine K) 18 0 0 [some (.ref 131), some (.ref 1), some (.ref 4), some (.int i), some (.int 3)] [] (n, SH1, I, J) := by
  have c30 : (30 : Int32).toInt = 30 := rfl
  have c1 : (1 : Int32).toInt = 1 := rfl
  have hw9 : ¬ (3 = 9) := by decide
  have hk0 : ¬ (3 = 0) := by decide
  refine q_ild rfl rfl ?_
  refine q_ic rfl ?_
  refine q_icmp (c := 2) rfl (by decide) (fun h => ?_) (fun h => ?_)
  rotate_left
  · have h : (30 : Int32).toInt ≤ i.toInt := h
    have hg : 30 ≤ ln := by omega
    have eR : (plF (tbC I0) N m ln C R T) = (4, T.2.1, 0, p0) := by simp only [plF, hw, hg, hw9, ↓reduceIte]
    refine q_ald rfl rfl ?_
    refine q_ic rfl ?_
    refine fl_step (c := 4) rfl rfl (prT (L := L) (q := 0) (by omega) (by decide) (P := fun _ => True)) ⟨hR, trivial⟩ (fun I1 hI1 g7 g8 => ?_)
    rw [eR] at hno
    exact hno (nn rfl) I1 (PR_nil hI1.1) g7 (g8.trans h4)
  have h : i.toInt < (30 : Int32).toInt := h
  have hg : ¬ (30 ≤ ln) := by omega
  have hln : ln < 30 := by omega
  have pt : PT 132 := pt_ok (by decide)
  refine q_ald rfl rfl ?_
  refine q_getr rfl sk_131 sr_131_0 ?_
  refine q_ild rfl rfl ?_
  refine q_ic rfl ?_
  refine q_ild rfl rfl ?_
  refine q_callV (as := [.int i, .int 0, .int 3]) (rest := []) rfl rfl sk_132 rfl (Nat.le_of_ble_eq_true rfl) ?_
  refine v_pset (i := ln) (w := 0) pt hi hln rfl (by decide) ?_
  show dw_ok (pr_X6_readLine K) 41 0 0 [some (.ref 131), some (.ref 1), some (.ref 4), some (.int i), some (.int 3)] [] (n, SH1, dw_up I (134 + ln) 0 3, J)
  obtain ⟨I1, hI1⟩ : ∃ X, X = dw_up I (134 + ln) 0 3 := ⟨_, rfl⟩
  rw [← hI1]
  have hR1 : PRp I0 I1 L := by rw [hI1]; exact PR_up hR (by omega) hln
  have d1 : I1 (134 + ln) 0 = 3 := by rw [hI1]; exact up_same
  have l1 : (I1 1 3).toInt = T.2.2.1 := by rw [hI1, up_row (by omega)]; exact h3
  refine q_ild rfl rfl ?_
  refine q_if (c := 1) rfl (by decide) (fun _ => ?_) (fun h => absurd (show (3 : Int32).toInt = 0 from h) (by decide))
  refine q_ald rfl rfl ?_
  refine q_ic rfl ?_
  refine q_ald rfl rfl ?_
  refine q_geti rfl sk_4 ?_
  refine q_ic rfl ?_
  refine q_sub rfl ?_
  show dw_ok (pr_X6_readLine K) 85 0 0 [some (.ref 131), some (.ref 1), some (.ref 4), some (.int i), some (.int 3)] [.int (I1 4 0 - 1), .int 0, .ref 1] (n, SH1, I1, J)
  have eh1 : (I1 4 0 - 1).toInt = C - 1 := by
    rw [hR1.1 4 (by decide) (by decide), i_sub (by omega) (by omega), hC, c1]
  obtain ⟨T1, hT1⟩ : ∃ t, t = tkF (tbC I0) N m T.2.2.1 := ⟨_, rfl⟩
  have hin1 := tkF_in (b := tbC I0) (n := N) (m := m) (p := T.2.2.1) hTN
  skip
  refine tn_step (p := T.2.2.1) rfl rfl rfl rfl (prT (q := ln) (by omega) hln (P := fun r => r 0 = 3)) ⟨hR1, d1⟩ hN hN9 hm l1 hTN ?_ ?_
  rotate_left
  · intro e1 I9 hI9 g7 g8
    rw [← hT1, eh1] at e1 g7
    rw [← hT1] at g8
    have e1 : nbF T1 0 (C - 1) ≠ 0 := e1
    have eR : (plF (tbC I0) N m ln C R T) = (nbF T1 0 (C - 1), T1.2.1, 0, p0) := by simp only [plF, nbP, stP, hw, hw9, hg, hk0, ← hT1, e1, ↓reduceIte]
    rw [eR] at hno
    exact hno e1 I9 (PR_nil hI9.1) g7 g8
  intro e1 J1q hJ1 g13 g16
  rw [← hT1, eh1] at e1
  rw [← hT1] at g13 g16 hin1
  have e1 : nbF T1 0 (C - 1) = 0 := e1
  obtain ⟨hR2, d2⟩ := hJ1
  refine q_ald rfl rfl ?_
  refine q_getr rfl sk_131 sr_131_0 ?_
  refine q_ild rfl rfl ?_
  refine q_ic rfl ?_
  refine q_ald rfl rfl ?_
  refine q_geti rfl sk_1 ?_
  show dw_ok (pr_X6_readLine K) 103 0 0 [some (.ref 131), some (.ref 1), some (.ref 4), some (.int i), some (.int 3)] [.int (J1q 1 6), .int 1, .int i, .ref 132] (n, SH1, J1q, J)
  rw [g16]
  refine q_callV (as := [.int i, .int 1, .int T1.2.2.2]) (rest := []) rfl rfl sk_132 rfl (Nat.le_of_ble_eq_true rfl) ?_
  refine v_pset (i := ln) (w := 1) pt hi hln rfl (by decide) ?_
  show dw_ok (pr_X6_readLine K) 106 0 0 [some (.ref 131), some (.ref 1), some (.ref 4), some (.int i), some (.int 3)] [] (n, SH1, dw_up J1q (134 + ln) 1 T1.2.2.2, J)
  obtain ⟨I3, hI3⟩ : ∃ X, X = dw_up J1q (134 + ln) 1 T1.2.2.2 := ⟨_, rfl⟩
  rw [← hI3]
  have RI3 : PRp I0 I3 L := by rw [hI3]; exact PR_up hR2 (by omega) hln
  have lI3 : (I3 1 3).toInt = T1.2.2.1 := by rw [hI3, up_row (by omega)]; exact g13
  have d3 : I3 (134 + ln) 0 = 3 ∧ I3 (134 + ln) 1 = T1.2.2.2 := by
    rw [hI3]
    exact ⟨(up_fld (by decide)).trans d2, up_same⟩
  refine q_ald rfl rfl ?_
  refine q_ic rfl ?_
  refine q_ald rfl rfl ?_
  refine q_geti rfl sk_4 ?_
  refine q_ic rfl ?_
  refine q_sub rfl ?_
  show dw_ok (pr_X6_readLine K) 114 0 0 [some (.ref 131), some (.ref 1), some (.ref 4), some (.int i), some (.int 3)] [.int (I3 4 1 - 1), .int 0, .ref 1] (n, SH1, I3, J)
  have eh2 : (I3 4 1 - 1).toInt = R - 1 := by
    rw [RI3.1 4 (by decide) (by decide), i_sub (by omega) (by omega), hRr, c1]
  obtain ⟨T2, hT2⟩ : ∃ t, t = tkF (tbC I0) N m T1.2.2.1 := ⟨_, rfl⟩
  have hin2 := tkF_in (b := tbC I0) (n := N) (m := m) (p := T1.2.2.1) hin1.2.2.1
  skip
  refine tn_step (p := T1.2.2.1) rfl rfl rfl rfl (prT (q := ln) (by omega) hln (P := fun r => r 0 = 3 ∧ r 1 = T1.2.2.2)) ⟨RI3, d3⟩ hN hN9 hm lI3 hin1.2.2.1 ?_ ?_
  rotate_left
  · intro e2 I9 hI9 g7 g8
    rw [← hT2, eh2] at e2 g7
    rw [← hT2] at g8
    have e2 : nbF T2 0 (R - 1) ≠ 0 := e2
    have eR : (plF (tbC I0) N m ln C R T) = (nbF T2 0 (R - 1), T2.2.1, 0, p0) := by simp only [plF, nbP, stP, hw, hw9, hg, hk0, ← hT1, e1, ← hT2, e2, ↓reduceIte]
    rw [eR] at hno
    exact hno e2 I9 (PR_nil hI9.1) g7 g8
  intro e2 J2q hJ2 g23 g26
  rw [← hT2, eh2] at e2
  rw [← hT2] at g23 g26 hin2
  have e2 : nbF T2 0 (R - 1) = 0 := e2
  obtain ⟨hR4, d4⟩ := hJ2
  refine q_ald rfl rfl ?_
  refine q_getr rfl sk_131 sr_131_0 ?_
  refine q_ild rfl rfl ?_
  refine q_ic rfl ?_
  refine q_ald rfl rfl ?_
  refine q_geti rfl sk_1 ?_
  show dw_ok (pr_X6_readLine K) 132 0 0 [some (.ref 131), some (.ref 1), some (.ref 4), some (.int i), some (.int 3)] [.int (J2q 1 6), .int 2, .int i, .ref 132] (n, SH1, J2q, J)
  rw [g26]
  refine q_callV (as := [.int i, .int 2, .int T2.2.2.2]) (rest := []) rfl rfl sk_132 rfl (Nat.le_of_ble_eq_true rfl) ?_
  refine v_pset (i := ln) (w := 2) pt hi hln rfl (by decide) ?_
  show dw_ok (pr_X6_readLine K) 135 0 0 [some (.ref 131), some (.ref 1), some (.ref 4), some (.int i), some (.int 3)] [] (n, SH1, dw_up J2q (134 + ln) 2 T2.2.2.2, J)
  obtain ⟨I5, hI5⟩ : ∃ X, X = dw_up J2q (134 + ln) 2 T2.2.2.2 := ⟨_, rfl⟩
  rw [← hI5]
  have RI5 : PRp I0 I5 L := by rw [hI5]; exact PR_up hR4 (by omega) hln
  have lI5 : (I5 1 3).toInt = T2.2.2.1 := by rw [hI5, up_row (by omega)]; exact g23
  have d5 : I5 (134 + ln) 0 = 3 ∧ I5 (134 + ln) 1 = T1.2.2.2 ∧ I5 (134 + ln) 2 = T2.2.2.2 := by
    rw [hI5]
    exact ⟨(up_fld (by decide)).trans d4.1, (up_fld (by decide)).trans d4.2, up_same⟩
  obtain ⟨T3, hT3⟩ : ∃ t, t = tkF (tbC I0) N m T2.2.2.1 := ⟨_, rfl⟩
  have hin3 := tkF_in (b := tbC I0) (n := N) (m := m) (p := T2.2.2.1) hin2.2.2.1
  refine q_ald rfl rfl ?_
  refine ts_step (p := T2.2.2.1) rfl rfl (prT (q := ln) (by omega) hln (P := fun r => r 0 = 3 ∧ r 1 = T1.2.2.2 ∧ r 2 = T2.2.2.2)) ⟨RI5, d5⟩ hN hN9 hm lI5 hin2.2.2.1 ?_ ?_
  rotate_left
  · intro es I9 hI9 g7 g8
    rw [← hT3] at es g8
    have eR : (plF (tbC I0) N m ln C R T) = (1, T3.2.1, 0, p0) := by simp only [plF, nbP, stP, hw, hw9, hg, hk0, ← hT1, e1, ← hT2, e2, ← hT3, es, ↓reduceIte]
    rw [eR] at hno
    exact hno (nn rfl) I9 (PR_nil hI9.1) g7 g8
  intro es I9 hI9 g3
  rw [← hT3] at es g3 hin3
  have eR : (plF (tbC I0) N m ln C R T) = (0, 0, T3.2.2.1, (3, T1.2.2.2, T2.2.2.2)) := by simp only [plF, nbP, stP, hw, hw9, hg, hk0, ← hT1, e1, ← hT2, e2, ← hT3, es, ↓reduceIte]
  rw [eR] at hok
  obtain ⟨hR9, hd9⟩ := hI9
  have hd9 : I9 (134 + ln) 0 = 3 ∧ I9 (134 + ln) 1 = T1.2.2.2 ∧ I9 (134 + ln) 2 = T2.2.2.2 := hd9
  exact hok rfl I9 (PR_cons hR9 hL (by rw [hd9.1]; rfl) hd9.2.1 (fun _ => hd9.2.2)) g3 hin3.2.2.1
set_option maxRecDepth 8000 in
theorem v_pline {n : Nat} {I : Nat → Nat → Int32} {J : Nat → Nat → Int64} {K : dw_K} {I0 : Nat → Nat → Int32} {i : Int32} {L : List pL} {T : fT} {N m ln : Nat} {C R : Int} (hR : PRp I0 I L) (hL : L.length = ln) (hl30 : ln ≤ 30) (hN : (I0 1 1).toInt = N) (hN9 : N ≤ 940) (hm : (I0 1 2).toInt = m) (h3 : (I 1 3).toInt = T.2.2.1) (h4 : (I 1 4).toInt = T.2.1) (h5 : (I 1 5).toInt = T.1) (hTN : T.2.2.1 ≤ N) (hT2 : T.2.1 ≤ N) (hi : i.toInt = ln) (hC : (I0 4 0).toInt = C) (hC0 : 0 ≤ C) (hC9 : C ≤ 144) (hRr : (I0 4 1).toInt = R) (hR0 : 0 ≤ R) (hR9 : R ≤ 144)
    (hok : (plF (tbC I0) N m ln C R T).1 = 0 → ∀ I' : Nat → Nat → Int32, PRp I0 I' ((plF (tbC I0) N m ln C R T).2.2.2 :: L) → (I' 1 3).toInt = (plF (tbC I0) N m ln C R T).2.2.1 → (plF (tbC I0) N m ln C R T).2.2.1 ≤ N → K (some (.int 1)) (n, SH1, I', J))
    (hno : (plF (tbC I0) N m ln C R T).1 ≠ 0 → ∀ I' : Nat → Nat → Int32, PRp I0 I' [] → (I' 1 7).toInt = (plF (tbC I0) N m ln C R T).1 → (I' 1 8).toInt = (plF (tbC I0) N m ln C R T).2.1 → K (some (.int 0)) (n, SH1, I', J)) : t_X6_readLine [.ref 131, .ref 1, .ref 4, .int i] (n, SH1, I, J) K := by
  have hN0 : (I 1 1).toInt = N := by rw [hR.2.1 1 (by decide)]; exact hN
  have hb0 : tbC I = tbC I0 := tbC_eq (hR.2.1 1 (by decide)) (hR.1 2 (by decide) (by decide))
  refine q_body (Nat.le_of_ble_eq_true rfl) ?_
  refine q_ald rfl rfl ?_
  refine q_callS (as := [.ref 1]) (rest := []) rfl rfl rfl rfl ?_
  refine v_whatIsDone hN0 hN9 h3 h4 h5 hTN hT2 (fun w wc => ?_)
  rw [hb0] at wc
  show dw_ok (pr_X6_readLine K) 4 0 0 [some (.ref 131), some (.ref 1), some (.ref 4), some (.int i), none] [.int w] (n, SH1, I, J)
  rcases wp_cases (tbC I0) T with hw | hw | hw | hw | hw
  · obtain rfl : w = (0 : Int32) := i_eq (by rw [wc, hw]; rfl)
    refine q_ist rfl rfl ?_
    refine q_ild rfl rfl ?_
    refine q_ic rfl ?_
    refine q_icmp (c := 1) rfl (by decide) (fun _ => ?_) (fun h => absurd (show (0 : Int32).toInt = (-1 : Int32).toInt from h) (by decide))
    exact v_pline0 hR hL hl30 hN hN9 hm h3 h4 h5 hTN hT2 hi hC hC0 hC9 hRr hR0 hR9 hw hok hno
  · obtain rfl : w = (1 : Int32) := i_eq (by rw [wc, hw]; rfl)
    refine q_ist rfl rfl ?_
    refine q_ild rfl rfl ?_
    refine q_ic rfl ?_
    refine q_icmp (c := 1) rfl (by decide) (fun _ => ?_) (fun h => absurd (show (1 : Int32).toInt = (-1 : Int32).toInt from h) (by decide))
    exact v_pline1 hR hL hl30 hN hN9 hm h3 h4 h5 hTN hT2 hi hC hC0 hC9 hRr hR0 hR9 hw hok hno
  · obtain rfl : w = (2 : Int32) := i_eq (by rw [wc, hw]; rfl)
    refine q_ist rfl rfl ?_
    refine q_ild rfl rfl ?_
    refine q_ic rfl ?_
    refine q_icmp (c := 1) rfl (by decide) (fun _ => ?_) (fun h => absurd (show (2 : Int32).toInt = (-1 : Int32).toInt from h) (by decide))
    exact v_pline2 hR hL hl30 hN hN9 hm h3 h4 h5 hTN hT2 hi hC hC0 hC9 hRr hR0 hR9 hw hok hno
  · obtain rfl : w = (3 : Int32) := i_eq (by rw [wc, hw]; rfl)
    refine q_ist rfl rfl ?_
    refine q_ild rfl rfl ?_
    refine q_ic rfl ?_
    refine q_icmp (c := 1) rfl (by decide) (fun _ => ?_) (fun h => absurd (show (3 : Int32).toInt = (-1 : Int32).toInt from h) (by decide))
    exact v_pline3 hR hL hl30 hN hN9 hm h3 h4 h5 hTN hT2 hi hC hC0 hC9 hRr hR0 hR9 hw hok hno
  · obtain rfl : w = (-1 : Int32) := i_eq (by rw [wc, hw]; rfl)
    have eR : (plF (tbC I0) N m ln C R T) = (1, T.2.1, 0, p0) := by simp only [plF, hw, ↓reduceIte]
    refine q_ist rfl rfl ?_
    refine q_ild rfl rfl ?_
    refine q_ic rfl ?_
    refine q_icmp (c := 1) rfl (by decide) (fun h => absurd rfl h) (fun _ => ?_)
    refine q_ald rfl rfl ?_
    refine q_ic rfl ?_
    refine fl_step (c := 1) rfl rfl (prT (L := L) (q := 0) (by omega) (by decide) (P := fun _ => True)) ⟨hR, trivial⟩ (fun I1 hI1 g7 g8 => ?_)
    rw [eR] at hno
    exact hno (nn rfl) I1 (PR_nil hI1.1) g7 (g8.trans h4)
set_option maxRecDepth 8000 in
theorem pt_loop {n : Nat} {I0 : Nat → Nat → Int32} {J : Nat → Nat → Int64} {K : dw_K} {bc bs N m : Nat} {C R : Int} {G : Nat × Nat × Nat × List pL} (hN : (I0 1 1).toInt = N) (hN9 : N ≤ 940) (hm : (I0 1 2).toInt = m) (hC : (I0 4 0).toInt = C) (hC0 : 0 ≤ C) (hC9 : C ≤ 144) (hRr : (I0 4 1).toInt = R) (hR0 : 0 ≤ R) (hR9 : R ≤ 144)
    (hok : G.1 = 0 → ∀ (I' : Nat → Nat → Int32) (w : Int32), PRp I0 I' G.2.2.2 → w.toInt = G.2.2.1 → G.2.2.1 = G.2.2.2.length → w.toInt ≤ 30 → K (some (.int w)) (n, SH1, dw_up I' 132 0 w, J))
    (hno : G.1 ≠ 0 → ∀ I' : Nat → Nat → Int32, PRp I0 I' [] → (I' 1 7).toInt = G.1 → (I' 1 8).toInt = G.2.1 → K (some (.int (-1))) (n, SH1, I', J)) :
    ∀ (f ln p : Nat) (i : Int32) (L : List pL) (I : Nat → Nat → Int32), ln + f = 30 → L.length = ln → pgF (tbC I0) N m C R (f + 1) ln p L = G → PRp I0 I L → (I 1 3).toInt = p → p ≤ N → i.toInt = ln → dw_ok (pr_X6_readText K) 9 bc bs [some (.ref 131), some (.ref 1), some (.ref 4), some (.int i)] [] (n, SH1, I, J) := by
  have c30 : (30 : Int32).toInt = 30 := rfl
  have c1 : (1 : Int32).toInt = 1 := rfl
  intro f
  induction f with
  | zero =>
    intro ln p i L I hf hL hG hR h3 hp hi
    refine q_ild rfl rfl ?_
    refine q_ic rfl ?_
    refine q_icmp (c := 4) rfl (by decide) (fun h => absurd (show (30 : Int32).toInt < i.toInt from h) (by omega)) (fun _ => ?_)
    refine q_ald rfl rfl ?_
    refine q_callV (as := []) (rest := []) rfl rfl sk_1 rfl (Nat.le_of_ble_eq_true rfl) ?_
    have e1 : I 1 1 = I0 1 1 := hR.2.1 1 (by decide)
    have e2 : I 1 2 = I0 1 2 := hR.2.1 2 (by decide)
    have hb : tbC I = tbC I0 := tbC_eq e1 (hR.1 2 (by decide) (by decide))
    refine v_take (p := p) (N := N) (m := m) (by rw [e1]; exact hN) hN9 (by rw [e2]; exact hm) h3 hp (fun I1 hA hF g3 g4 g5 g6 => ?_)
    rw [hb] at g3 g4 g5 g6
    have hR1 : PRp I0 I1 L := ((prT (q := 0) (by omega) (by decide) (P := fun _ => True)).1 I I1 ⟨hR, trivial⟩ hA (fun j hj => hF j (by omega) (by omega) (by omega) (by omega))).1
    have hin := tkF_in (b := tbC I0) (n := N) (m := m) (p := p) hp
    unfold pgF at hG
    show dw_ok (pr_X6_readText K) 19 bc bs [some (.ref 131), some (.ref 1), some (.ref 4), some (.int i)] [] (n, SH1, I1, J)
    refine q_ald rfl rfl ?_
    refine q_geti rfl sk_1 ?_
    refine q_if (c := 1) rfl (by decide) (fun h => ?_) (fun h => ?_)
    · have h : (I1 1 5).toInt ≠ 0 := h
      have hT0 : ¬ (tkF (tbC I0) N m p).1 = 0 := by omega
      rw [if_neg hT0] at hG
      refine q_ald rfl rfl ?_
      refine q_ald rfl rfl ?_
      refine q_ald rfl rfl ?_
      refine q_ild rfl rfl ?_
      refine q_callV (as := [.ref 1, .ref 4, .int i]) (rest := []) rfl rfl sk_131 rfl (Nat.le_of_ble_eq_true rfl) ?_
      refine v_pline hR1 hL (by omega) hN hN9 hm g3 g4 g5 hin.2.2.1 hin.1 hi hC hC0 hC9 hRr hR0 hR9 (fun hr => absurd hr (pl_30 (by omega))) (fun hr I2 hR2 g7 g8 => ?_)
      rw [if_neg hr] at hG
      show dw_ok (pr_X6_readText K) 43 bc bs [some (.ref 131), some (.ref 1), some (.ref 4), some (.int i)] [.int 0] (n, SH1, I2, J)
      refine q_if (c := 1) rfl (by decide) (fun h => absurd rfl h) (fun _ => ?_)
      refine q_ic rfl ?_
      rw [← hG] at hno
      exact q_iret rfl (hno hr I2 hR2 g7 g8)
    · have h : (I1 1 5).toInt = 0 := h
      have hT0 : (tkF (tbC I0) N m p).1 = 0 := by omega
      rw [if_pos hT0] at hG
      refine q_ald rfl rfl ?_
      refine q_getr rfl sk_131 sr_131_0 ?_
      refine q_ild rfl rfl ?_
      refine q_puti rfl sk_132 ?_
      refine q_ild rfl rfl ?_
      rw [← hG] at hok
      exact q_iret rfl (hok rfl I1 i hR1 hi hL.symm (by omega))
  | succ f ih =>
    intro ln p i L I hf hL hG hR h3 hp hi
    refine q_ild rfl rfl ?_
    refine q_ic rfl ?_
    refine q_icmp (c := 4) rfl (by decide) (fun h => absurd (show (30 : Int32).toInt < i.toInt from h) (by omega)) (fun _ => ?_)
    refine q_ald rfl rfl ?_
    refine q_callV (as := []) (rest := []) rfl rfl sk_1 rfl (Nat.le_of_ble_eq_true rfl) ?_
    have e1 : I 1 1 = I0 1 1 := hR.2.1 1 (by decide)
    have e2 : I 1 2 = I0 1 2 := hR.2.1 2 (by decide)
    have hb : tbC I = tbC I0 := tbC_eq e1 (hR.1 2 (by decide) (by decide))
    refine v_take (p := p) (N := N) (m := m) (by rw [e1]; exact hN) hN9 (by rw [e2]; exact hm) h3 hp (fun I1 hA hF g3 g4 g5 g6 => ?_)
    rw [hb] at g3 g4 g5 g6
    have hR1 : PRp I0 I1 L := ((prT (q := 0) (by omega) (by decide) (P := fun _ => True)).1 I I1 ⟨hR, trivial⟩ hA (fun j hj => hF j (by omega) (by omega) (by omega) (by omega))).1
    have hin := tkF_in (b := tbC I0) (n := N) (m := m) (p := p) hp
    unfold pgF at hG
    show dw_ok (pr_X6_readText K) 19 bc bs [some (.ref 131), some (.ref 1), some (.ref 4), some (.int i)] [] (n, SH1, I1, J)
    refine q_ald rfl rfl ?_
    refine q_geti rfl sk_1 ?_
    refine q_if (c := 1) rfl (by decide) (fun h => ?_) (fun h => ?_)
    · have h : (I1 1 5).toInt ≠ 0 := h
      have hT0 : ¬ (tkF (tbC I0) N m p).1 = 0 := by omega
      rw [if_neg hT0] at hG
      refine q_ald rfl rfl ?_
      refine q_ald rfl rfl ?_
      refine q_ald rfl rfl ?_
      refine q_ild rfl rfl ?_
      refine q_callV (as := [.ref 1, .ref 4, .int i]) (rest := []) rfl rfl sk_131 rfl (Nat.le_of_ble_eq_true rfl) ?_
      refine v_pline hR1 hL (by omega) hN hN9 hm g3 g4 g5 hin.2.2.1 hin.1 hi hC hC0 hC9 hRr hR0 hR9 (fun hr I2 hR2 g23 hle => ?_) (fun hr I2 hR2 g7 g8 => ?_)
      · rw [if_pos hr] at hG
        show dw_ok (pr_X6_readText K) 43 bc bs [some (.ref 131), some (.ref 1), some (.ref 4), some (.int i)] [.int 1] (n, SH1, I2, J)
        refine q_if (c := 1) rfl (by decide) (fun _ => ?_) (fun h => absurd (show (1 : Int32).toInt = 0 from h) (by decide))
        refine q_inc rfl rfl rfl ?_
        refine q_goto rfl ?_
        exact ih (ln + 1) _ (i + 1) _ I2 (by omega) (by rw [List.length_cons, hL]) hG hR2 g23 hle (by rw [i_add (by omega) (by omega), c1]; omega)
      · rw [if_neg hr] at hG
        show dw_ok (pr_X6_readText K) 43 bc bs [some (.ref 131), some (.ref 1), some (.ref 4), some (.int i)] [.int 0] (n, SH1, I2, J)
        refine q_if (c := 1) rfl (by decide) (fun h => absurd rfl h) (fun _ => ?_)
        refine q_ic rfl ?_
        rw [← hG] at hno
        exact q_iret rfl (hno hr I2 hR2 g7 g8)
    · have h : (I1 1 5).toInt = 0 := h
      have hT0 : (tkF (tbC I0) N m p).1 = 0 := by omega
      rw [if_pos hT0] at hG
      refine q_ald rfl rfl ?_
      refine q_getr rfl sk_131 sr_131_0 ?_
      refine q_ild rfl rfl ?_
      refine q_puti rfl sk_132 ?_
      refine q_ild rfl rfl ?_
      rw [← hG] at hok
      exact q_iret rfl (hok rfl I1 i hR1 hi hL.symm (by omega))
set_option maxRecDepth 8000 in
theorem v_ptext {n : Nat} {I : Nat → Nat → Int32} {J : Nat → Nat → Int64} {K : dw_K} {N : Nat} {C R : Int} {G : Nat × Nat × Nat × List pL} (hN : (I 1 1).toInt = N) (hN9 : N ≤ 940) (hC : (I 4 0).toInt = C) (hC0 : 0 ≤ C) (hC9 : C ≤ 144) (hRr : (I 4 1).toInt = R) (hR0 : 0 ≤ R) (hR9 : R ≤ 144) (hG : pgF (tbC I) N 300 C R 31 0 0 [] = G)
    (hok : G.1 = 0 → ∀ (I' : Nat → Nat → Int32) (w : Int32), (∀ a, a ≠ 1 → (a < 132 ∨ 163 < a) → I' a = I a) → I' 1 0 = I 1 0 → I' 1 1 = I 1 1 → I' 132 0 = w → (∀ i, i < G.2.2.2.length → (I' (134 + i) 0).toInt = (atF p0 G.2.2.2 i).1 ∧ I' (134 + i) 1 = (atF p0 G.2.2.2 i).2.1 ∧ ((atF p0 G.2.2.2 i).1 ≠ 0 → I' (134 + i) 2 = (atF p0 G.2.2.2 i).2.2)) → w.toInt = G.2.2.1 → G.2.2.1 = G.2.2.2.length → w.toInt ≤ 30 → K (some (.int w)) (n, SH1, I', J))
    (hno : G.1 ≠ 0 → ∀ I' : Nat → Nat → Int32, (∀ a, a ≠ 1 → (a < 132 ∨ 163 < a) → I' a = I a) → I' 1 0 = I 1 0 → I' 1 1 = I 1 1 → (I' 1 7).toInt = G.1 → (I' 1 8).toInt = G.2.1 → K (some (.int (-1))) (n, SH1, I', J)) : t_X6_readText [.ref 131, .ref 1, .ref 4] (n, SH1, I, J) K := by
  refine q_body (Nat.le_of_ble_eq_true rfl) ?_
  refine q_ald rfl rfl ?_
  refine q_ic rfl ?_
  refine q_callV (as := [.int 300]) (rest := []) rfl rfl sk_1 rfl (Nat.le_of_ble_eq_true rfl) ?_
  refine v_open ?_
  refine q_ic rfl ?_
  refine q_ist rfl rfl ?_
  obtain ⟨I2, hI2⟩ : ∃ X, X = dw_up (dw_up (dw_up (dw_up (dw_up I 1 2 300) 1 3 0) 1 4 0) 1 7 0) 1 8 0 := ⟨_, rfl⟩
  have hr : ∀ a, a ≠ 1 → I2 a = I a := fun a h1 => by rw [hI2]; funext j; simp [dw_up, h1]
  have f1 : I2 1 1 = I 1 1 := by rw [hI2]; rfl
  have f0 : I2 1 0 = I 1 0 := by rw [hI2]; rfl
  have f2 : I2 1 2 = 300 := by rw [hI2]; rfl
  have hb2 : tbC I2 = tbC I := tbC_eq f1 (hr 2 (by decide))
  show dw_ok (pr_X6_readText K) 9 0 0 [some (.ref 131), some (.ref 1), some (.ref 4), some (.int 0)] [] (n, SH1, dw_up (dw_up (dw_up (dw_up (dw_up I 1 2 300) 1 3 0) 1 4 0) 1 7 0) 1 8 0, J)
  rw [← hI2]
  rw [← hb2] at hG
  have h4 : I2 4 = I 4 := hr 4 (by decide)
  refine pt_loop (I0 := I2) (G := G) (by rw [f1]; exact hN) hN9 (m := 300) (by rw [f2]; rfl) (by rw [h4]; exact hC) hC0 hC9 (by rw [h4]; exact hRr) hR0 hR9 (fun hg I' w hR' hw hl h30 => ?_) (fun hg I' hR' g7 g8 => ?_) 30 0 0 0 [] I2 rfl rfl hG ⟨fun _ _ _ => rfl, fun _ _ => rfl, fun i hi => absurd hi (Nat.not_lt_zero i)⟩ (by rw [hI2]; rfl) (Nat.zero_le _) rfl
  · have hw30 : G.2.2.2.length ≤ 30 := by omega
    refine hok hg (dw_up I' 132 0 w) w (fun a h1 h2 => ?_) ?_ ?_ up_same (fun i hi => ?_) hw hl h30
    · rw [up_row (by omega), hR'.1 a h1 (by omega)]; exact hr a h1
    · rw [up_row (by decide), hR'.2.1 0 (by decide)]; exact f0
    · rw [up_row (by decide), hR'.2.1 1 (by decide)]; exact f1
    · rw [up_row (by omega)]; exact hR'.2.2 i hi
  · refine hno hg I' (fun a h1 h2 => ?_) ?_ ?_ g7 g8
    · rw [hR'.1 a h1 (by omega)]; exact hr a h1
    · rw [hR'.2.1 0 (by decide)]; exact f0
    · rw [hR'.2.1 1 (by decide)]; exact f1
set_option maxRecDepth 8000 in
theorem v_cplan {n : Nat} {I : Nat → Nat → Int32} {J : Nat → Nat → Int64} {K : dw_K} {N : Nat} {C R : Int} {G : Nat × Nat × Nat × List pL} (hN : (I 1 1).toInt = N) (hN9 : N ≤ 940) (hC : (I 4 0).toInt = C) (hC0 : 0 ≤ C) (hC9 : C ≤ 144) (hRr : (I 4 1).toInt = R) (hR0 : 0 ≤ R) (hR9 : R ≤ 144) (hG : pgF (tbC I) N 300 C R 31 0 0 [] = G) (hpl : G.2.1 ≤ 940)
    (h1 : G.1 = 0 → ∀ (I' : Nat → Nat → Int32) (w : Int32), (∀ a, a ≠ 1 → (a < 132 ∨ 163 < a) → a ≠ 11 → (a < 13 ∨ 42 < a) → I' a = I a) → I' 1 1 = 0 → I' 11 0 = w → (∀ i, i < G.2.2.2.length → (I' (13 + i) 0).toInt = (atF p0 G.2.2.2 i).1 ∧ I' (13 + i) 1 = (atF p0 G.2.2.2 i).2.1 ∧ ((atF p0 G.2.2.2 i).1 ≠ 0 → I' (13 + i) 2 = (atF p0 G.2.2.2 i).2.2)) → w.toInt = G.2.2.1 → G.2.2.1 = G.2.2.2.length → w.toInt ≤ 30 → K (some (.int w)) (n, SH1, I', J))
    (h2 : G.1 ≠ 0 → ∀ (I' : Nat → Nat → Int32) (w : Int32), (∀ a, a ≠ 1 → (a < 132 ∨ 163 < a) → I' a = I a) → I' 1 1 = 0 → w.toInt = -1 - (G.2.1 : Int) → K (some (.int w)) (n, SH1, I', J)) : t_X11_plan [.ref 0] (n, SH1, I, J) K := by
  have cm : (-1 : Int32).toInt = -1 := rfl
  refine q_body (Nat.le_of_ble_eq_true rfl) ?_
  refine q_ald rfl rfl ?_
  refine q_getr rfl sk_0 sr_0_5 ?_
  refine q_ald rfl rfl ?_
  refine q_getr rfl sk_0 sr_0_0 ?_
  refine q_ald rfl rfl ?_
  refine q_getr rfl sk_0 sr_0_1 ?_
  refine q_getr rfl sk_3 sr_3_1 ?_
  refine q_callV (as := [.ref 1, .ref 4]) (rest := []) rfl rfl sk_131 rfl (Nat.le_of_ble_eq_true rfl) ?_
  refine v_ptext hN hN9 hC hC0 hC9 hRr hR0 hR9 hG (fun hg I' w hA f0 f1 h0 hB hw hl h30 => ?_) (fun hg I' hA f0 f1 g7 g8 => ?_)
  · show dw_ok (pr_X11_plan K) 18 0 0 [some (.ref 0), none] [.int w] (n, SH1, I', J)
    refine q_ist rfl rfl ?_
    refine q_ald rfl rfl ?_
    refine q_getr rfl sk_0 sr_0_0 ?_
    refine q_ic rfl ?_
    refine q_puti rfl sk_1 ?_
    show dw_ok (pr_X11_plan K) 27 0 0 [some (.ref 0), some (.int w)] [] (n, SH1, dw_up I' 1 1 0, J)
    refine q_ild rfl rfl ?_
    refine q_ic rfl ?_
    refine q_icmp (c := 1) rfl (by decide) (fun _ => ?_) (fun h => absurd (show w.toInt = (-1 : Int32).toInt from h) (by omega))
    refine q_ald rfl rfl ?_
    refine q_getr rfl sk_0 sr_0_1 ?_
    refine q_getr rfl sk_3 sr_3_3 ?_
    refine q_ald rfl rfl ?_
    refine q_getr rfl sk_0 sr_0_5 ?_
    refine q_getr rfl sk_131 sr_131_0 ?_
    refine q_callV (as := [.ref 132]) (rest := []) rfl rfl sk_11 rfl (Nat.le_of_ble_eq_true rfl) ?_
    refine v_pcopy (pt_ok (by decide)) (pt_ok (by decide)) (by decide) (fun I2 hA2 hF2 h20 hB2 => ?_)
    show dw_ok (pr_X11_plan K) 59 0 0 [some (.ref 0), some (.int w)] [] (n, SH1, I2, J)
    refine q_ild rfl rfl ?_
    have hw30 : G.2.2.2.length ≤ 30 := by omega
    have hq : ∀ v, v < 30 → ∀ t, t < 3 → I2 (13 + v) t = I' (134 + v) t := fun v hv t ht => by
      have e := hB2 v hv t ht
      rw [show 11 + 2 + v = 13 + v by omega, show 132 + 2 + v = 134 + v by omega, up_row (by omega)] at e
      exact e
    refine q_iret rfl (h1 hg I2 w (fun a g1 g2 g3 g4 => ?_) ?_ ?_ (fun i hi => ?_) hw hl h30)
    · rw [hA2 a g3 (by omega), up_row g1]; exact hA a g1 g2
    · rw [hA2 1 (by decide) (by decide)]; exact up_same
    · rw [h20, up_row (by decide)]; exact h0
    · rw [hq i (by omega) 0 (by decide), hq i (by omega) 1 (by decide), hq i (by omega) 2 (by decide)]; exact hB i hi
  · show dw_ok (pr_X11_plan K) 18 0 0 [some (.ref 0), none] [.int (-1)] (n, SH1, I', J)
    refine q_ist rfl rfl ?_
    refine q_ald rfl rfl ?_
    refine q_getr rfl sk_0 sr_0_0 ?_
    refine q_ic rfl ?_
    refine q_puti rfl sk_1 ?_
    show dw_ok (pr_X11_plan K) 27 0 0 [some (.ref 0), some (.int (-1))] [] (n, SH1, dw_up I' 1 1 0, J)
    refine q_ild rfl rfl ?_
    refine q_ic rfl ?_
    refine q_icmp (c := 1) rfl (by decide) (fun h => absurd rfl h) (fun _ => ?_)
    refine q_ic rfl ?_
    refine q_ald rfl rfl ?_
    refine q_getr rfl sk_0 sr_0_0 ?_
    refine q_geti rfl sk_1 ?_
    refine q_sub rfl ?_
    refine q_iret rfl (h2 hg (dw_up I' 1 1 0) (-1 - I' 1 8) (fun a g1 g2 => (up_row g1).trans (hA a g1 g2)) up_same ?_)
    rw [i_sub (by omega) (by omega), cm, g8]
