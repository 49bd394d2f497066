/-! ===== comparing ===== -/
def dx_ub (cur : dx_S) (s : Nat) : Int := cur.dc.foldl (fun m q => if Nat.beq q.1 s then min m ((dx_gi cur.iv q.2.1).2 + q.2.2) else m) (dx_gi cur.iv s).2
def dx_lb (cur : dx_S) (s : Nat) : Int := cur.dc.foldl (fun m q => if Nat.beq q.2.1 s then max m ((dx_gi cur.iv q.1).1 - q.2.2) else m) (dx_gi cur.iv s).1
section
variable {E : dx_Env} {md : List Nat} {n0 : Nat} {ν0 : Nat → Int} {μ0 : dw_S} {ν : Nat → Int} {σ : dx_S} {ls st : dw_L} {μ : dw_S}
theorem dx_fold_le {α : Type} {f : Int → α → Int} {n : Int} : ∀ (l : List α) (m : Int), (∀ q ∈ l, ∀ m, n ≤ m → n ≤ f m q) → n ≤ m → n ≤ l.foldl f m
  | [], _, _, h => h
  | q :: r, m, hf, h => dx_fold_le r (f m q) (fun q' hq => hf q' (List.mem_cons_of_mem _ hq)) (hf q List.mem_cons_self m h)
theorem dx_fold_ge {α : Type} {f : Int → α → Int} {n : Int} : ∀ (l : List α) (m : Int), (∀ q ∈ l, ∀ m, m ≤ n → f m q ≤ n) → m ≤ n → l.foldl f m ≤ n
  | [], _, _, h => h
  | q :: r, m, hf, h => dx_fold_ge r (f m q) (fun q' hq => hf q' (List.mem_cons_of_mem _ hq)) (hf q List.mem_cons_self m h)
theorem dx_ub_ok {s : Nat} (g : dx_g E md n0 ν0 μ0 ν σ ls st μ) (hs : s < σ.iv.length) : ν s ≤ dx_ub σ s := by
  unfold dx_ub
  refine dx_fold_le _ _ (fun q hq m hm => ?_) (g.iv s hs).2
  split
  next e =>
    have h1 := g.dc q hq
    have h2 := (g.iv _ h1.2.1).2
    have h3 := Nat.eq_of_beq_eq_true e
    have h4 := h1.2.2
    rw [h3] at h4
    omega
  next => exact hm
theorem dx_lb_ok {s : Nat} (g : dx_g E md n0 ν0 μ0 ν σ ls st μ) (hs : s < σ.iv.length) : dx_lb σ s ≤ ν s := by
  unfold dx_lb
  refine dx_fold_ge _ _ (fun q hq m hm => ?_) (g.iv s hs).1
  split
  next e =>
    have h1 := g.dc q hq
    have h2 := (g.iv _ h1.1).1
    have h3 := Nat.eq_of_beq_eq_true e
    have h4 := h1.2.2
    rw [h3] at h4
    omega
  next => exact hm
end
def dx_dl : List (Nat × Nat × Int) → Nat → Nat → Int → Int
  | [], _, _, m => m
  | q :: r, s1, s2, m => dx_dl r s1 s2 (if Nat.beq q.1 s1 && Nat.beq q.2.1 s2 then min m q.2.2 else m)
def dx_df (σ : dx_S) (s1 s2 : Nat) : Int := if s1 = s2 then 0 else dx_dl σ.dc s1 s2 (dx_ub σ s1 - dx_lb σ s2)
def dx_no (c : Nat) (u w : Int) : Bool := match c with
  | 0 => decide (u < 0) || decide (w < 0)
  | 1 => decide (u ≤ 0) && decide (w ≤ 0)
  | 2 => decide (w ≤ 0)
  | 3 => decide (u < 0)
  | 4 => decide (u ≤ 0)
  | _ => decide (w < 0)
def dx_ad (c s1 : Nat) (o1 : Int) (s2 : Nat) (o2 : Int) (d : List (Nat × Nat × Int)) : List (Nat × Nat × Int) := match c with
  | 0 => (s1, s2, o2 - o1) :: (s2, s1, o1 - o2) :: d
  | 1 => d
  | 2 => (s1, s2, o2 - o1 - 1) :: d
  | 3 => (s2, s1, o1 - o2) :: d
  | 4 => (s2, s1, o1 - o2 - 1) :: d
  | _ => (s1, s2, o2 - o1) :: d
def dx_rf (σ : dx_S) (c s1 : Nat) (o1 : Int) (s2 : Nat) (o2 : Int) : Option dx_S :=
  let p := dx_rg2 σ s1 o1
  let q := dx_rg2 σ s2 o2
  let r := dx_cr c p.1 p.2 q.1 q.2
  if decide (r.2.1 < r.1) || decide (r.2.2.2 < r.2.2.1) || dx_no c (dx_df σ s1 s2 + o1 - o2) (dx_df σ s2 s1 + o2 - o1) then none
  else some (⟨dx_sv (dx_sv σ.iv s1 (r.1 - o1, r.2.1 - o1)) s2 (r.2.2.1 - o2, r.2.2.2 - o2), if s1 = 0 ∨ s2 = 0 ∨ s1 = s2 then σ.dc else dx_ad c s1 o1 s2 o2 σ.dc, dx_S.ls σ, dx_S.st σ, dx_S.fa σ, dx_S.fl σ⟩ : dx_S)
section
variable {E : dx_Env} {md : List Nat} {n0 : Nat} {ν0 : Nat → Int} {μ0 : dw_S} {ν : Nat → Int} {σ : dx_S} {ls st : dw_L} {μ : dw_S}
theorem dx_dl_ok {s1 s2 : Nat} {x y : Int} : ∀ (d : List (Nat × Nat × Int)) (m : Int), (∀ q ∈ d, q.1 = s1 → q.2.1 = s2 → x - y ≤ q.2.2) → x - y ≤ m → x - y ≤ dx_dl d s1 s2 m
  | [], m, _, h => h
  | q :: r, m, h, h2 => by
    unfold dx_dl
    refine dx_dl_ok r _ (fun q hq => h q (List.mem_cons_of_mem _ hq)) ?_
    by_cases e : (Nat.beq q.1 s1 && Nat.beq q.2.1 s2) = true
    · rw [if_pos e]
      rw [Bool.and_eq_true] at e
      have := h q List.mem_cons_self (Nat.eq_of_beq_eq_true e.1) (Nat.eq_of_beq_eq_true e.2)
      omega
    · rw [if_neg e]; exact h2
theorem dx_df_ok {s1 s2 : Nat} (h : dx_g E md n0 ν0 μ0 ν σ ls st μ) (h1 : s1 < σ.iv.length) (h2 : s2 < σ.iv.length) : ν s1 - ν s2 ≤ dx_df σ s1 s2 := by
  unfold dx_df
  by_cases e : s1 = s2
  · rw [if_pos e, e]; omega
  · rw [if_neg e]
    refine dx_dl_ok σ.dc _ (fun q hq e1 e2 => ?_) ?_
    · have := (h.dc q hq).2.2
      rw [e1, e2] at this
      exact this
    · have a1 := dx_ub_ok h h1
      have a2 := dx_lb_ok h h2
      omega
theorem dx_rf_ok {c s1 s2 : Nat} {o1 o2 : Int} (h : dx_g E md n0 ν0 μ0 ν σ ls st μ) (h1 : s1 < σ.iv.length) (h2 : s2 < σ.iv.length) (hc : dx_cp c (ν s1 + o1) (ν s2 + o2)) :
    ∃ σ', dx_rf σ c s1 o1 s2 o2 = some σ' ∧ dx_g E md n0 ν0 μ0 ν σ' ls st μ ∧ σ'.iv.length = σ.iv.length := by
  have a1 := h.iv s1 h1
  have a2 := h.iv s2 h2
  have b1 := a1.1
  have b2 := a1.2
  have b3 := a2.1
  have b4 := a2.2
  have hr := dx_cr_ok (lx := (dx_rg2 σ s1 o1).1) (hx := (dx_rg2 σ s1 o1).2) (ly := (dx_rg2 σ s2 o2).1) (hy := (dx_rg2 σ s2 o2).2) hc (by show _ + o1 ≤ _; omega) (by show _ ≤ _ + o1; omega) (by show _ + o2 ≤ _; omega) (by show _ ≤ _ + o2; omega)
  have u := dx_df_ok h h1 h2
  have w := dx_df_ok h h2 h1
  unfold dx_rf
  have hno : dx_no c (dx_df σ s1 s2 + o1 - o2) (dx_df σ s2 s1 + o2 - o1) = false := by
    unfold dx_no
    unfold dx_cp at hc
    split at hc
    · rw [decide_eq_false (by omega), decide_eq_false (by omega)]; rfl
    · show (decide (dx_df σ s1 s2 + o1 - o2 ≤ 0) && decide (dx_df σ s2 s1 + o2 - o1 ≤ 0)) = false
      by_cases e : dx_df σ s1 s2 + o1 - o2 ≤ 0
      · rw [decide_eq_false (p := dx_df σ s2 s1 + o2 - o1 ≤ 0) (by omega), Bool.and_false]
      · rw [decide_eq_false e, Bool.false_and]
    · exact decide_eq_false (by omega)
    · exact decide_eq_false (by omega)
    · exact decide_eq_false (by omega)
    · next q0 q1 q2 q3 q4 =>
      split
      · exact absurd rfl q0
      · exact absurd rfl q1
      · exact absurd rfl q2
      · exact absurd rfl q3
      · exact absurd rfl q4
      · exact decide_eq_false (by omega)
  have hd1 : decide ((dx_cr c (dx_rg2 σ s1 o1).1 (dx_rg2 σ s1 o1).2 (dx_rg2 σ s2 o2).1 (dx_rg2 σ s2 o2).2).2.1 < (dx_cr c (dx_rg2 σ s1 o1).1 (dx_rg2 σ s1 o1).2 (dx_rg2 σ s2 o2).1 (dx_rg2 σ s2 o2).2).1) = false := decide_eq_false (by omega)
  have hd2 : decide ((dx_cr c (dx_rg2 σ s1 o1).1 (dx_rg2 σ s1 o1).2 (dx_rg2 σ s2 o2).1 (dx_rg2 σ s2 o2).2).2.2.2 < (dx_cr c (dx_rg2 σ s1 o1).1 (dx_rg2 σ s1 o1).2 (dx_rg2 σ s2 o2).1 (dx_rg2 σ s2 o2).2).2.2.1) = false := decide_eq_false (by omega)
  simp only [hd1, hd2, hno, Bool.or_false]
  refine ⟨_, if_neg (by simp), ?_, ?_⟩
  · have g1 := h.ivs (iv2 := dx_sv (dx_sv σ.iv s1 ((dx_cr c (dx_rg2 σ s1 o1).1 (dx_rg2 σ s1 o1).2 (dx_rg2 σ s2 o2).1 (dx_rg2 σ s2 o2).2).1 - o1, (dx_cr c (dx_rg2 σ s1 o1).1 (dx_rg2 σ s1 o1).2 (dx_rg2 σ s2 o2).1 (dx_rg2 σ s2 o2).2).2.1 - o1)) s2 ((dx_cr c (dx_rg2 σ s1 o1).1 (dx_rg2 σ s1 o1).2 (dx_rg2 σ s2 o2).1 (dx_rg2 σ s2 o2).2).2.2.1 - o2, (dx_cr c (dx_rg2 σ s1 o1).1 (dx_rg2 σ s1 o1).2 (dx_rg2 σ s2 o2).1 (dx_rg2 σ s2 o2).2).2.2.2 - o2))
      (by rw [dx_sv_len, dx_sv_len]) (fun s hs => by
        rw [dx_gi_sv, dx_gi_sv, dx_sv_len]
        by_cases e2 : s = s2 ∧ s2 < σ.iv.length
        · rw [if_pos e2, e2.1]; exact ⟨by show _ - o2 ≤ _; omega, by show _ ≤ _ - o2; omega⟩
        · rw [if_neg e2]
          by_cases e1 : s = s1 ∧ s1 < σ.iv.length
          · rw [if_pos e1, e1.1]; exact ⟨by show _ - o1 ≤ _; omega, by show _ ≤ _ - o1; omega⟩
          · rw [if_neg e1]; exact h.iv s hs)
    refine g1.dcs ?_
    show ∀ q ∈ (if s1 = 0 ∨ s2 = 0 ∨ s1 = s2 then σ.dc else dx_ad c s1 o1 s2 o2 σ.dc), q.1 < (dx_sv _ _ _).length ∧ q.2.1 < (dx_sv _ _ _).length ∧ _
    rw [dx_sv_len, dx_sv_len]
    by_cases e : s1 = 0 ∨ s2 = 0 ∨ s1 = s2
    · rw [if_pos e]; exact h.dc
    · rw [if_neg e]
      unfold dx_ad
      unfold dx_cp at hc
      split at hc
      · intro q hq
        simp only [List.mem_cons] at hq
        rcases hq with rfl | rfl | hq
        · exact ⟨h1, h2, by show ν s1 - ν s2 ≤ o2 - o1; omega⟩
        · exact ⟨h2, h1, by show ν s2 - ν s1 ≤ o1 - o2; omega⟩
        · exact h.dc q hq
      · exact h.dc
      · intro q hq
        simp only [List.mem_cons] at hq
        rcases hq with rfl | hq
        · exact ⟨h1, h2, by show ν s1 - ν s2 ≤ o2 - o1 - 1; omega⟩
        · exact h.dc q hq
      · intro q hq
        simp only [List.mem_cons] at hq
        rcases hq with rfl | hq
        · exact ⟨h2, h1, by show ν s2 - ν s1 ≤ o1 - o2; omega⟩
        · exact h.dc q hq
      · intro q hq
        simp only [List.mem_cons] at hq
        rcases hq with rfl | hq
        · exact ⟨h2, h1, by show ν s2 - ν s1 ≤ o1 - o2 - 1; omega⟩
        · exact h.dc q hq
      · next q0 q1 q2 q3 q4 =>
        split
        · exact absurd rfl q0
        · exact absurd rfl q1
        · exact absurd rfl q2
        · exact absurd rfl q3
        · exact absurd rfl q4
        · intro q hq
          simp only [List.mem_cons] at hq
          rcases hq with rfl | hq
          · exact ⟨h1, h2, by show ν s1 - ν s2 ≤ o2 - o1; omega⟩
          · exact h.dc q hq
  · show (dx_sv (dx_sv _ _ _) _ _).length = _
    rw [dx_sv_len, dx_sv_len]
end
/-! ===== ints ===== -/
section
variable {B : dw_B} {bc bs : Nat} {ls : dw_L} {r : List Value} {μ : dw_S} {x y : Int32}
theorem dx_bin_ok {k nx : Nat} (hk : k ≤ 11) (h1 : k = 8 ∨ k = 9 → y ≠ 0) (h2 : k = 10 ∨ k = 11 → dw_cats r ≤ 8) (h : B nx bc bs ls (.int (dx_bv k x y) :: r) μ) : dx_bin k nx B bc bs ls (.int y :: .int x :: r) μ := by
  match k, hk with
  | 0, _ => exact h
  | 1, _ => exact h
  | 2, _ => exact h
  | 3, _ => exact h
  | 4, _ => exact h
  | 5, _ => exact h
  | 6, _ => exact h
  | 7, _ => exact h
  | 8, _ => show (if y = 0 then False else _); rw [if_neg (h1 (Or.inl rfl))]; exact h
  | 9, _ => show (if y = 0 then False else _); rw [if_neg (h1 (Or.inr rfl))]; exact h
  | 10, _ => show (if dw_cats r ≤ 8 then _ else False); rw [if_pos (h2 (Or.inl rfl))]; exact h
  | 11, _ => show (if dw_cats r ≤ 8 then _ else False); rw [if_pos (h2 (Or.inr rfl))]; exact h
theorem dx_un_ok {k nx : Nat} (hk : k ≤ 2) (h2 : k = 2 → dw_cats r ≤ 8) (h : B nx bc bs ls (.int (dx_uv k x) :: r) μ) : dx_un k nx B bc bs ls (.int x :: r) μ := by
  match k, hk with
  | 0, _ => exact h
  | 1, _ => exact h
  | 2, _ => show (if dw_cats r ≤ 8 then _ else False); rw [if_pos (h2 rfl)]; exact h
theorem dx_eqI : x = y ↔ x.toInt = y.toInt := Int32.toInt_inj.symm
theorem dx_ic_ok {c tg nx : Nat} (hc : c ≤ 5) (h1 : dx_cp c x.toInt y.toInt → B tg bc bs ls r μ) (h2 : dx_cp (dx_ng c) x.toInt y.toInt → B nx bc bs ls r μ) : dx_ic c tg nx B bc bs ls (.int y :: .int x :: r) μ := by
  match c, hc with
  | 0, _ =>
    show (if x = y then _ else _)
    split
    next e => exact h1 (dx_eqI.mp e)
    next e => exact h2 (fun q => e (dx_eqI.mpr q))
  | 1, _ =>
    show (if x = y then _ else _)
    split
    next e => exact h2 (dx_eqI.mp e)
    next e => exact h1 (fun q => e (dx_eqI.mpr q))
  | 2, _ =>
    show (if x < y then _ else _)
    split
    next e => exact h1 (Int32.lt_iff_toInt_lt.mp e)
    next e => exact h2 (by rw [Int32.lt_iff_toInt_lt] at e; show y.toInt ≤ x.toInt; omega)
  | 3, _ =>
    show (if y ≤ x then _ else _)
    split
    next e => exact h1 (Int32.le_iff_toInt_le.mp e)
    next e => exact h2 (by rw [Int32.le_iff_toInt_le] at e; show x.toInt < y.toInt; omega)
  | 4, _ =>
    show (if y < x then _ else _)
    split
    next e => exact h1 (Int32.lt_iff_toInt_lt.mp e)
    next e => exact h2 (by rw [Int32.lt_iff_toInt_lt] at e; show x.toInt ≤ y.toInt; omega)
  | 5, _ =>
    show (if x ≤ y then _ else _)
    split
    next e => exact h1 (Int32.le_iff_toInt_le.mp e)
    next e => exact h2 (by rw [Int32.le_iff_toInt_le] at e; show y.toInt < x.toInt; omega)
theorem dx_if_ok {c tg nx : Nat} (hc : c ≤ 5) (h1 : dx_cp c x.toInt 0 → B tg bc bs ls r μ) (h2 : dx_cp (dx_ng c) x.toInt 0 → B nx bc bs ls r μ) : dx_if c tg nx B bc bs ls (.int x :: r) μ := by
  have h0 : (0 : Int32).toInt = 0 := rfl
  match c, hc with
  | 0, _ =>
    show (if x = 0 then _ else _)
    split
    next e => exact h1 (by rw [e]; exact h0)
    next e => exact h2 (fun q => e (dx_eqI.mpr (by rw [h0]; exact q)))
  | 1, _ =>
    show (if x = 0 then _ else _)
    split
    next e => exact h2 (by rw [e]; exact h0)
    next e => exact h1 (fun q => e (dx_eqI.mpr (by rw [h0]; exact q)))
  | 2, _ =>
    show (if x < 0 then _ else _)
    split
    next e => exact h1 (Int32.lt_iff_toInt_lt.mp e)
    next e => exact h2 (by rw [Int32.lt_iff_toInt_lt] at e; show 0 ≤ x.toInt; omega)
  | 3, _ =>
    show (if 0 ≤ x then _ else _)
    split
    next e => exact h1 (Int32.le_iff_toInt_le.mp e)
    next e => exact h2 (by rw [Int32.le_iff_toInt_le] at e; show x.toInt < 0; omega)
  | 4, _ =>
    show (if 0 < x then _ else _)
    split
    next e => exact h1 (Int32.lt_iff_toInt_lt.mp e)
    next e => exact h2 (by rw [Int32.lt_iff_toInt_lt] at e; show x.toInt ≤ 0; omega)
  | 5, _ =>
    show (if x ≤ 0 then _ else _)
    split
    next e => exact h1 (Int32.le_iff_toInt_le.mp e)
    next e => exact h2 (by rw [Int32.le_iff_toInt_le] at e; show 0 < x.toInt; omega)
end
