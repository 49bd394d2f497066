/-! ===== a STEP, purely ===== -/
/-- warmth, water, stock, what was given -/
abbrev rS : Type := (Nat → Int32) × (Nat → Int32) × Int32 × Int32
/-- of a CELL: hold, give, gift, sky -/
abbrev rC : Type := Int32 × Int32 × Int32 × Int32
/-- of a STEP: cloud, wind, air, line, sun -/
abbrev rN : Type := Int32 × Int32 × Int32 × Int32 × Int32
def wmF (c : rC) (t : rN) (w : Int32) : Int32 := w + ((100 * t.2.2.1 - w) * (t.2.1 + 1) / (c.1 + 10) + t.2.2.2.2 * 8 * c.2.2.2 / c.1 - c.2.2.2 * (100 - t.1) * c.2.1 / (100 * c.1))
def lkF (c : rC) (t : rN) (w : Int32) : Int32 := 100 * t.2.2.2.1 - wmF c t w
/-- what comes from the stock; what dries -/
def cmF (st : Nat) (t : rN) (lk sk : Int32) : Int32 := if t.2.1.toInt < 3 ∧ st ≠ 2 then fi_min sk (lk / 50 + 1) else 0
def drF (t : rN) (lk wa : Int32) : Int32 := fi_min wa ((t.2.1 + 1) * (-lk / 40 + 1))
def gfF (st : Nat) (c : rC) : Int32 := if st = 1 then 0 else c.2.2.1
def waF (st : Nat) (c : rC) (t : rN) (lk wa sk : Int32) : Int32 := if 0 < lk.toInt then wa + cmF st t lk sk + gfF st c else wa - drF t lk wa
def skF2 (st : Nat) (t : rN) (lk wa sk : Int32) : Int32 := if 0 < lk.toInt then sk - cmF st t lk sk else sk + (if st = 2 then 0 else drF t lk wa)
def gvF (st : Nat) (c : rC) (lk gv : Int32) : Int32 := if 0 < lk.toInt then gv + gfF st c else gv
def upF (f : Nat → Int32) (k : Nat) (v : Int32) : Nat → Int32 := fun j => if j = k then v else f j
set_option maxRecDepth 8000 in
theorem upF_at {f : Nat → Int32} {k : Nat} {v : Int32} : upF f k v k = v := if_pos rfl
set_option maxRecDepth 8000 in
theorem upF_ne {f : Nat → Int32} {k j : Nat} {v : Int32} (h : j ≠ k) : upF f k v j = f j := if_neg h
/-- CELL k -/
def clF (st : Nat) (C : Nat → rC) (t : rN) (k : Nat) (s : rS) : rS :=
  (upF s.1 k (wmF (C k) t (s.1 k)), upF s.2.1 k (waF st (C k) t (lkF (C k) t (s.1 k)) (s.2.1 k) s.2.2.1), skF2 st t (lkF (C k) t (s.1 k)) (s.2.1 k) s.2.2.1, gvF st (C k) (lkF (C k) t (s.1 k)) s.2.2.2)
/-- the first k CELLS -/
def seF (st : Nat) (C : Nat → rC) (t : rN) : Nat → rS → rS
  | 0, s => s
  | k + 1, s => clF st C t k (seF st C t k s)
/-- k STEPS from STEP d on, of n CELLS -/
def ruF (st n : Nat) (C : Nat → Nat → rC) (T : Nat → rN) (d : Nat) : Nat → rS → rS
  | 0, s => s
  | k + 1, s => seF st (C (d + k)) (T (d + k)) n (ruF st n C T d k s)
/-- alike in the first n CELLS -/
def rEq (n : Nat) (s s' : rS) : Prop := (∀ c, c < n → s.1 c = s'.1 c) ∧ (∀ c, c < n → s.2.1 c = s'.2.1 c) ∧ s.2.2.1 = s'.2.2.1 ∧ s.2.2.2 = s'.2.2.2
set_option maxRecDepth 8000 in
theorem rEq.rfl' {n : Nat} {s : rS} : rEq n s s := ⟨fun _ _ => rfl, fun _ _ => rfl, rfl, rfl⟩
set_option maxRecDepth 8000 in
theorem rEq.symm {n : Nat} {s s' : rS} (h : rEq n s s') : rEq n s' s := ⟨fun c hc => (h.1 c hc).symm, fun c hc => (h.2.1 c hc).symm, h.2.2.1.symm, h.2.2.2.symm⟩
set_option maxRecDepth 8000 in
theorem rEq.trans {n : Nat} {s s' s'' : rS} (h : rEq n s s') (g : rEq n s' s'') : rEq n s s'' := ⟨fun c hc => (h.1 c hc).trans (g.1 c hc), fun c hc => (h.2.1 c hc).trans (g.2.1 c hc), h.2.2.1.trans g.2.2.1, h.2.2.2.trans g.2.2.2⟩
set_option maxRecDepth 8000 in
theorem clF_eq {st n k : Nat} {C C' : Nat → rC} {t : rN} {s s' : rS} (hk : k < n) (hC : C k = C' k) (h : rEq n s s') : rEq n (clF st C t k s) (clF st C' t k s') := by
  have e1 := h.1 k hk
  have e2 := h.2.1 k hk
  refine ⟨fun c hc => ?_, fun c hc => ?_, ?_, ?_⟩
  · show upF s.1 k _ c = upF s'.1 k _ c
    by_cases e : c = k
    · rw [e, upF_at, upF_at, hC, e1]
    · rw [upF_ne e, upF_ne e]; exact h.1 c hc
  · show upF s.2.1 k _ c = upF s'.2.1 k _ c
    by_cases e : c = k
    · rw [e, upF_at, upF_at, hC, e1, e2, h.2.2.1]
    · rw [upF_ne e, upF_ne e]; exact h.2.1 c hc
  · show skF2 st t _ _ _ = skF2 st t _ _ _
    rw [hC, e1, e2, h.2.2.1]
  · show gvF st _ _ _ = gvF st _ _ _
    rw [hC, e1, h.2.2.2]
set_option maxRecDepth 8000 in
theorem seF_eq {st n : Nat} {C C' : Nat → rC} {t : rN} {s s' : rS} (hC : ∀ c, c < n → C c = C' c) (h : rEq n s s') : ∀ k : Nat, k ≤ n → rEq n (seF st C t k s) (seF st C' t k s')
  | 0, _ => h
  | k + 1, hk => clF_eq (by omega) (hC k (by omega)) (seF_eq hC h k (by omega))
set_option maxRecDepth 8000 in
theorem ruF_eq {st n d : Nat} {C C' : Nat → Nat → rC} {T T' : Nat → rN} {s s' : rS} : ∀ k : Nat, (∀ i, i < k → ∀ c, c < n → C (d + i) c = C' (d + i) c) → (∀ i, i < k → T (d + i) = T' (d + i)) → rEq n s s' → rEq n (ruF st n C T d k s) (ruF st n C' T' d k s')
  | 0, _, _, h => h
  | k + 1, hC, hT, h => by
    have q := ruF_eq (st := st) k (fun i hi => hC i (by omega)) (fun i hi => hT i (by omega)) h
    show rEq n (seF st (C (d + k)) (T (d + k)) n _) (seF st (C' (d + k)) (T' (d + k)) n _)
    rw [hT k (by omega)]
    exact seF_eq (hC k (by omega)) q n (Nat.le_refl n)
set_option maxRecDepth 8000 in
/-- on from where one was -/
theorem ruF_add {st n d : Nat} {C : Nat → Nat → rC} {T : Nat → rN} {s : rS} {j : Nat} : ∀ k : Nat, ruF st n C T d (j + k) s = ruF st n C T (d + j) k (ruF st n C T d j s)
  | 0 => rfl
  | k + 1 => by
    show seF st (C (d + (j + k))) (T (d + (j + k))) n (ruF st n C T d (j + k) s) = seF st (C (d + j + k)) (T (d + j + k)) n _
    rw [ruF_add k, show d + (j + k) = d + j + k by omega]
set_option maxRecDepth 8000 in
/-- CELLS from n on stay -/
theorem seF_out {st c : Nat} {C : Nat → rC} {t : rN} {s : rS} : ∀ k : Nat, k ≤ c → (seF st C t k s).1 c = s.1 c ∧ (seF st C t k s).2.1 c = s.2.1 c
  | 0, _ => ⟨rfl, rfl⟩
  | k + 1, h => by
    have q := seF_out (c := c) (st := st) (C := C) (t := t) (s := s) k (by omega)
    exact ⟨(upF_ne (by omega)).trans q.1, (upF_ne (by omega)).trans q.2⟩
/-! ===== bounds of a STEP ===== -/
set_option maxRecDepth 8000 in
theorem mulB {x y X Y : Int} (h1 : -X ≤ x) (h2 : x ≤ X) (h3 : 0 ≤ y) (h4 : y ≤ Y) : -(X * Y) ≤ x * y ∧ x * y ≤ X * Y := by
  have hX : 0 ≤ X := by omega
  have a : X * y ≤ X * Y := Int.mul_le_mul_of_nonneg_left h4 hX
  have b : x * y ≤ X * y := Int.mul_le_mul_of_nonneg_right h2 h3
  have c : -X * y ≤ x * y := Int.mul_le_mul_of_nonneg_right h1 h3
  rw [Int.neg_mul] at c
  omega
set_option maxRecDepth 8000 in
theorem mulP {x y X Y : Int} (h1 : 0 ≤ x) (h2 : x ≤ X) (h3 : 0 ≤ y) (h4 : y ≤ Y) : 0 ≤ x * y ∧ x * y ≤ X * Y := by
  have a := Int.mul_nonneg h1 h3
  have b := (mulB (x := x) (X := X) (by omega) h2 h3 h4).2
  exact ⟨a, b⟩
set_option maxRecDepth 8000 in
theorem i_mulB {x y : Int32} (h : -2147483648 ≤ x.toInt * y.toInt) (h2 : x.toInt * y.toInt ≤ 2147483647) : (x * y).toInt = x.toInt * y.toInt := by
  rw [Int32.toInt_mul]; exact dx_bm h h2
set_option maxRecDepth 8000 in
theorem i_divB {x y : Int32} (h : -2147483648 ≤ x.toInt.tdiv y.toInt) (h2 : x.toInt.tdiv y.toInt ≤ 2147483647) : (x / y).toInt = x.toInt.tdiv y.toInt := by
  rw [Int32.toInt_div]; exact dx_bm h h2
set_option maxRecDepth 8000 in
theorem td_pos {x m : Int} (hx : 0 ≤ x) (hm : 0 < m) : 0 ≤ x.tdiv m ∧ x.tdiv m ≤ x := by
  rw [Int.tdiv_eq_ediv_of_nonneg hx]
  refine ⟨Int.ediv_nonneg hx (by omega), Int.ediv_le_of_le_mul hm ?_⟩
  have := Int.mul_le_mul_of_nonneg_left (show (1 : Int) ≤ m by omega) hx
  omega
set_option maxRecDepth 8000 in
theorem td_mul {x k m : Int} (hx : 0 ≤ x) (hk : 0 ≤ k) (hkm : k ≤ m) (hm : 0 < m) : 0 ≤ (x * k).tdiv m ∧ (x * k).tdiv m ≤ x := by
  have h1 : 0 ≤ x * k := Int.mul_nonneg hx hk
  have h2 : x * k ≤ x * m := Int.mul_le_mul_of_nonneg_left hkm hx
  rw [Int.tdiv_eq_ediv_of_nonneg h1]
  exact ⟨Int.ediv_nonneg h1 (by omega), Int.ediv_le_of_le_mul hm h2⟩
set_option maxRecDepth 8000 in
theorem td_muln {x k m : Int} (hx : x ≤ 0) (hk : 0 ≤ k) (hkm : k ≤ m) (hm : 0 < m) : x ≤ (x * k).tdiv m ∧ (x * k).tdiv m ≤ 0 := by
  have h := td_mul (x := -x) (k := k) (m := m) (by omega) hk hkm hm
  rw [Int.neg_mul, Int.neg_tdiv] at h
  omega
/-- what a CELL's kind and place can be -/
abbrev cOK (c : rC) : Prop := (1 ≤ c.1.toInt ∧ c.1.toInt ≤ 50) ∧ (0 ≤ c.2.1.toInt ∧ c.2.1.toInt ≤ 99) ∧ (0 ≤ c.2.2.1.toInt ∧ c.2.2.1.toInt ≤ 9) ∧ 0 ≤ c.2.2.2.toInt ∧ c.2.2.2.toInt ≤ 100
/-- what a STEP of a NIGHT can be -/
abbrev nOK (t : rN) : Prop := (0 ≤ t.1.toInt ∧ t.1.toInt ≤ 100) ∧ (0 ≤ t.2.1.toInt ∧ t.2.1.toInt ≤ 9) ∧ (0 ≤ t.2.2.1.toInt ∧ t.2.2.1.toInt ≤ 40) ∧ (0 ≤ t.2.2.2.1.toInt ∧ t.2.2.2.1.toInt ≤ 40) ∧ 0 ≤ t.2.2.2.2.toInt ∧ t.2.2.2.2.toInt ≤ 1
set_option maxRecDepth 8000 in
theorem wm_ok {c : rC} {t : rN} {w : Int32} {B : Int} (hc : cOK c) (ht : nOK t) (h4 : 4000 ≤ B) (hB : B ≤ 2000000) (h1 : -B ≤ w.toInt) (h2 : w.toInt ≤ B) : -(B + 9900) ≤ (wmF c t w).toInt ∧ (wmF c t w).toInt ≤ B + 9900 := by
  obtain ⟨hd, gi, gf, ys⟩ := c
  obtain ⟨cl, wi, ai, li, su⟩ := t
  obtain ⟨⟨c1, c2⟩, ⟨c3, c4⟩, -, c7, c8⟩ := hc
  obtain ⟨⟨t1, t2⟩, ⟨t3, t4⟩, ⟨t5, t6⟩, -, t9, t10⟩ := ht
  dsimp only at c1 c2 c3 c4 c7 c8 t1 t2 t3 t4 t5 t6 t9 t10
  have k100 : (100 : Int32).toInt = 100 := rfl
  have k10 : (10 : Int32).toInt = 10 := rfl
  have k8 : (8 : Int32).toInt = 8 := rfl
  have k1 : (1 : Int32).toInt = 1 := rfl
  show -(B + 9900) ≤ (w + ((100 * ai - w) * (wi + 1) / (hd + 10) + su * 8 * ys / hd - ys * (100 - cl) * gi / (100 * hd))).toInt ∧ (w + ((100 * ai - w) * (wi + 1) / (hd + 10) + su * 8 * ys / hd - ys * (100 - cl) * gi / (100 * hd))).toInt ≤ B + 9900
  have e1 : (100 * ai).toInt = 100 * ai.toInt := by rw [i_mulB (by rw [k100]; omega) (by rw [k100]; omega), k100]
  have e2 : (100 * ai - w).toInt = 100 * ai.toInt - w.toInt := by rw [i_sub (by omega) (by omega), e1]
  have e3 : (wi + 1).toInt = wi.toInt + 1 := by rw [i_add (by omega) (by omega), k1]
  have e4 : (hd + 10).toInt = hd.toInt + 10 := by rw [i_add (by omega) (by omega), k10]
  have p1 := mulB (x := (100 * ai - w).toInt) (X := 2004000) (y := (wi + 1).toInt) (Y := 10) (by omega) (by omega) (by omega) (by omega)
  have e5 : ((100 * ai - w) * (wi + 1)).toInt = (100 * ai - w).toInt * (wi + 1).toInt := i_mulB (by omega) (by omega)
  have q1 : (0 ≤ (100 * ai - w).toInt ∧ 0 ≤ ((100 * ai - w).toInt * (wi + 1).toInt).tdiv (hd + 10).toInt ∧ ((100 * ai - w).toInt * (wi + 1).toInt).tdiv (hd + 10).toInt ≤ (100 * ai - w).toInt) ∨ ((100 * ai - w).toInt ≤ 0 ∧ (100 * ai - w).toInt ≤ ((100 * ai - w).toInt * (wi + 1).toInt).tdiv (hd + 10).toInt ∧ ((100 * ai - w).toInt * (wi + 1).toInt).tdiv (hd + 10).toInt ≤ 0) := by
    by_cases h : 0 ≤ (100 * ai - w).toInt
    · exact Or.inl ⟨h, td_mul h (by omega) (by omega) (by omega)⟩
    · exact Or.inr ⟨by omega, td_muln (by omega) (by omega) (by omega) (by omega)⟩
  have e6 : ((100 * ai - w) * (wi + 1) / (hd + 10)).toInt = ((100 * ai - w).toInt * (wi + 1).toInt).tdiv (hd + 10).toInt := by
    rw [i_divB (by rw [e5]; omega) (by rw [e5]; omega), e5]
  have e7 : (su * 8).toInt = su.toInt * 8 := by rw [i_mulB (by rw [k8]; omega) (by rw [k8]; omega), k8]
  have p2 := mulP (x := (su * 8).toInt) (X := 8) (y := ys.toInt) (Y := 100) (by omega) (by omega) c7 c8
  have e8 : (su * 8 * ys).toInt = (su * 8).toInt * ys.toInt := i_mulB (by omega) (by omega)
  have q2 := td_pos (x := (su * 8).toInt * ys.toInt) (m := hd.toInt) p2.1 (by omega)
  have e9 : (su * 8 * ys / hd).toInt = ((su * 8).toInt * ys.toInt).tdiv hd.toInt := by rw [i_divB (by rw [e8]; omega) (by rw [e8]; omega), e8]
  have e10 : (100 - cl).toInt = 100 - cl.toInt := by rw [i_sub (by omega) (by omega), k100]
  have p3 := mulP (x := ys.toInt) (X := 100) (y := (100 - cl).toInt) (Y := 100) c7 c8 (by omega) (by omega)
  have e11 : (ys * (100 - cl)).toInt = ys.toInt * (100 - cl).toInt := i_mulB (by omega) (by omega)
  have p4 := mulP (x := (ys * (100 - cl)).toInt) (X := 10000) (y := gi.toInt) (Y := 99) (by omega) (by omega) c3 c4
  have e12 : (ys * (100 - cl) * gi).toInt = (ys * (100 - cl)).toInt * gi.toInt := i_mulB (by omega) (by omega)
  have e13 : (100 * hd).toInt = 100 * hd.toInt := by rw [i_mulB (by rw [k100]; omega) (by rw [k100]; omega), k100]
  have q3 : 0 ≤ ((ys * (100 - cl)).toInt * gi.toInt).tdiv (100 * hd).toInt ∧ ((ys * (100 - cl)).toInt * gi.toInt).tdiv (100 * hd).toInt ≤ 9900 := by
    rw [Int.tdiv_eq_ediv_of_nonneg p4.1]
    exact ⟨Int.ediv_nonneg p4.1 (by omega), Int.ediv_le_of_le_mul (by omega) (by omega)⟩
  have e14 : (ys * (100 - cl) * gi / (100 * hd)).toInt = ((ys * (100 - cl)).toInt * gi.toInt).tdiv (100 * hd).toInt := by rw [i_divB (by rw [e12]; omega) (by rw [e12]; omega), e12]
  have e15 : ((100 * ai - w) * (wi + 1) / (hd + 10) + su * 8 * ys / hd).toInt = ((100 * ai - w) * (wi + 1) / (hd + 10)).toInt + (su * 8 * ys / hd).toInt := i_add (by omega) (by omega)
  have e16 : ((100 * ai - w) * (wi + 1) / (hd + 10) + su * 8 * ys / hd - ys * (100 - cl) * gi / (100 * hd)).toInt = ((100 * ai - w) * (wi + 1) / (hd + 10) + su * 8 * ys / hd).toInt - (ys * (100 - cl) * gi / (100 * hd)).toInt := i_sub (by omega) (by omega)
  have e17 : (w + ((100 * ai - w) * (wi + 1) / (hd + 10) + su * 8 * ys / hd - ys * (100 - cl) * gi / (100 * hd))).toInt = w.toInt + ((100 * ai - w) * (wi + 1) / (hd + 10) + su * 8 * ys / hd - ys * (100 - cl) * gi / (100 * hd)).toInt := i_add (by omega) (by omega)
  rw [e17, e16, e15]
  omega
set_option maxRecDepth 8000 in
theorem lk_ok {c : rC} {t : rN} {w : Int32} {B : Int} (hc : cOK c) (ht : nOK t) (h4 : 4000 ≤ B) (hB : B ≤ 2000000) (h1 : -B ≤ w.toInt) (h2 : w.toInt ≤ B) : -2100000 ≤ (lkF c t w).toInt ∧ (lkF c t w).toInt ≤ 2100000 := by
  have q := wm_ok hc ht h4 hB h1 h2
  obtain ⟨-, -, -, ⟨t7, t8⟩, -⟩ := ht
  have k100 : (100 : Int32).toInt = 100 := rfl
  have e1 : (100 * t.2.2.2.1).toInt = 100 * t.2.2.2.1.toInt := by rw [i_mulB (by rw [k100]; omega) (by rw [k100]; omega), k100]
  have e2 : (lkF c t w).toInt = (100 * t.2.2.2.1).toInt - (wmF c t w).toInt := i_sub (by omega) (by omega)
  omega
set_option maxRecDepth 8000 in
theorem dr_ok {t : rN} {lk wa : Int32} (ht : nOK t) (hl : lk.toInt ≤ 0) (h1 : -2100000 ≤ lk.toInt) (hw : 0 ≤ wa.toInt) : 0 ≤ (drF t lk wa).toInt ∧ (drF t lk wa).toInt ≤ wa.toInt := by
  obtain ⟨-, ⟨t3, t4⟩, -⟩ := ht
  have k40 : (40 : Int32).toInt = 40 := rfl
  have k1 : (1 : Int32).toInt = 1 := rfl
  have e0 : (-lk).toInt = -lk.toInt := by rw [Int32.toInt_neg]; exact dx_bm (by omega) (by omega)
  have q1 := td_pos (x := (-lk).toInt) (m := (40 : Int32).toInt) (by omega) (by omega)
  have e1 : (-lk / 40).toInt = (-lk).toInt.tdiv (40 : Int32).toInt := i_divB (by omega) (by omega)
  have e2 : (-lk / 40 + 1).toInt = (-lk / 40).toInt + 1 := by rw [i_add (by omega) (by omega), k1]
  have e3 : (t.2.1 + 1).toInt = t.2.1.toInt + 1 := by rw [i_add (by omega) (by omega), k1]
  have p := mulP (x := (t.2.1 + 1).toInt) (X := 10) (y := (-lk / 40 + 1).toInt) (Y := 2100001) (by omega) (by omega) (by omega) (by omega)
  have e4 : ((t.2.1 + 1) * (-lk / 40 + 1)).toInt = (t.2.1 + 1).toInt * (-lk / 40 + 1).toInt := i_mulB (by omega) (by omega)
  unfold drF
  rw [fi_min_i, e4]
  omega
set_option maxRecDepth 8000 in
theorem cm_ok {st : Nat} {t : rN} {lk sk : Int32} (hl : 0 < lk.toInt) (h1 : lk.toInt ≤ 2100000) (hs : 0 ≤ sk.toInt) : 0 ≤ (cmF st t lk sk).toInt ∧ (cmF st t lk sk).toInt ≤ sk.toInt := by
  have k50 : (50 : Int32).toInt = 50 := rfl
  have k1 : (1 : Int32).toInt = 1 := rfl
  have k0 : (0 : Int32).toInt = 0 := rfl
  have q1 := td_pos (x := lk.toInt) (m := (50 : Int32).toInt) (by omega) (by omega)
  have e1 : (lk / 50).toInt = lk.toInt.tdiv (50 : Int32).toInt := i_divB (by omega) (by omega)
  have e2 : (lk / 50 + 1).toInt = (lk / 50).toInt + 1 := by rw [i_add (by omega) (by omega), k1]
  unfold cmF
  by_cases h : t.2.1.toInt < 3 ∧ st ≠ 2
  · rw [if_pos h, fi_min_i]; omega
  · rw [if_neg h, k0]; omega
/-- all the water of the first n CELLS -/
def smF (f : Nat → Int32) : Nat → Int
  | 0 => 0
  | k + 1 => smF f k + (f k).toInt
set_option maxRecDepth 8000 in
theorem sm_nn {f : Nat → Int32} : ∀ n : Nat, (∀ c, c < n → 0 ≤ (f c).toInt) → 0 ≤ smF f n
  | 0, _ => Int.le_refl 0
  | n + 1, h => by
    have h1 := sm_nn n (fun c hc => h c (by omega))
    have h2 := h n (by omega)
    show 0 ≤ smF f n + (f n).toInt
    omega
set_option maxRecDepth 8000 in
theorem sm_one {f : Nat → Int32} {c : Nat} : ∀ n : Nat, (∀ c, c < n → 0 ≤ (f c).toInt) → c < n → (f c).toInt ≤ smF f n
  | 0, _, hc => absurd hc (Nat.not_lt_zero c)
  | n + 1, h, hc => by
    have h1 := sm_nn n (fun c hc => h c (by omega))
    have h2 := h n (by omega)
    show (f c).toInt ≤ smF f n + (f n).toInt
    by_cases e : c = n
    · rw [e]; omega
    · have := sm_one (c := c) n (fun c hc => h c (by omega)) (by omega)
      omega
set_option maxRecDepth 8000 in
theorem sm_up {f : Nat → Int32} {k : Nat} {v : Int32} : ∀ n : Nat, smF (upF f k v) n = smF f n + (if k < n then v.toInt - (f k).toInt else 0)
  | 0 => by rw [if_neg (Nat.not_lt_zero k)]; rfl
  | n + 1 => by
    show smF (upF f k v) n + (upF f k v n).toInt = smF f n + (f n).toInt + _
    rw [sm_up n]
    by_cases e : n = k
    · subst e; rw [upF_at, if_neg (by omega), if_pos (by omega)]; omega
    · rw [upF_ne e]
      by_cases h : k < n
      · rw [if_pos h, if_pos (by omega)]; omega
      · rw [if_neg h, if_neg (by omega)]; omega
/-- bounds: of warmth, of all the water there is -/
def rOK (n : Nat) (B D : Int) (s : rS) : Prop := (∀ c, c < n → -B ≤ (s.1 c).toInt ∧ (s.1 c).toInt ≤ B) ∧ (∀ c, c < n → 0 ≤ (s.2.1 c).toInt) ∧ 0 ≤ s.2.2.1.toInt ∧ s.2.2.1.toInt + smF s.2.1 n ≤ D
/-- while the first k CELLS of n have gone on -/
def rOKk (n k : Nat) (B D : Int) (s : rS) : Prop := (∀ c, c < k → -(B + 9900) ≤ (s.1 c).toInt ∧ (s.1 c).toInt ≤ B + 9900) ∧ (∀ c, k ≤ c → c < n → -B ≤ (s.1 c).toInt ∧ (s.1 c).toInt ≤ B) ∧ (∀ c, c < n → 0 ≤ (s.2.1 c).toInt) ∧ 0 ≤ s.2.2.1.toInt ∧ s.2.2.1.toInt + smF s.2.1 n ≤ D + 9 * k
set_option maxRecDepth 8000 in
theorem cl_ok {st n k : Nat} {C : Nat → rC} {t : rN} {s : rS} {B D : Int} (hk : k < n) (hC : cOK (C k)) (ht : nOK t) (h4 : 4000 ≤ B) (hB : B ≤ 2000000) (hD : D + 9 * k ≤ 2000000000) (h : rOKk n k B D s) : rOKk n (k + 1) B D (clF st C t k s) := by
  obtain ⟨h1, h2, h3, h5, h6⟩ := h
  obtain ⟨b1, b2⟩ := h2 k (Nat.le_refl k) hk
  have w := wm_ok hC ht h4 hB b1 b2
  have l := lk_ok hC ht h4 hB b1 b2
  have wk := h3 k hk
  have one := sm_one (c := k) n h3 hk
  have su := sm_up (f := s.2.1) (k := k) (v := waF st (C k) t (lkF (C k) t (s.1 k)) (s.2.1 k) s.2.2.1) n
  rw [if_pos hk] at su
  have k0 : (0 : Int32).toInt = 0 := rfl
  have main : 0 ≤ (waF st (C k) t (lkF (C k) t (s.1 k)) (s.2.1 k) s.2.2.1).toInt ∧ 0 ≤ (skF2 st t (lkF (C k) t (s.1 k)) (s.2.1 k) s.2.2.1).toInt ∧ (waF st (C k) t (lkF (C k) t (s.1 k)) (s.2.1 k) s.2.2.1).toInt + (skF2 st t (lkF (C k) t (s.1 k)) (s.2.1 k) s.2.2.1).toInt ≤ (s.2.1 k).toInt + s.2.2.1.toInt + 9 := by
    generalize lkF (C k) t (s.1 k) = lk at l ⊢
    generalize s.2.1 k = wa at wk one ⊢
    generalize hsk : s.2.2.1 = sk at h5 h6 ⊢
    unfold waF skF2
    by_cases g : 0 < lk.toInt
    · rw [if_pos g, if_pos g]
      obtain ⟨m1, m2⟩ := cm_ok (st := st) (t := t) g l.2 h5
      have gb : 0 ≤ (gfF st (C k)).toInt ∧ (gfF st (C k)).toInt ≤ 9 := by
        unfold gfF
        by_cases e : st = 1
        · rw [if_pos e, k0]; omega
        · rw [if_neg e]; exact hC.2.2.1
      have a1 : (wa + cmF st t lk sk).toInt = wa.toInt + (cmF st t lk sk).toInt := i_add (by omega) (by omega)
      have a2 : (wa + cmF st t lk sk + gfF st (C k)).toInt = (wa + cmF st t lk sk).toInt + (gfF st (C k)).toInt := i_add (by omega) (by omega)
      have a3 : (sk - cmF st t lk sk).toInt = sk.toInt - (cmF st t lk sk).toInt := i_sub (by omega) (by omega)
      omega
    · rw [if_neg g, if_neg g]
      obtain ⟨m1, m2⟩ := dr_ok (t := t) ht (by omega) l.1 wk
      have a1 : (wa - drF t lk wa).toInt = wa.toInt - (drF t lk wa).toInt := i_sub (by omega) (by omega)
      have a2 : (sk + (if st = 2 then 0 else drF t lk wa)).toInt ≤ sk.toInt + (drF t lk wa).toInt ∧ 0 ≤ (sk + (if st = 2 then 0 else drF t lk wa)).toInt := by
        by_cases e : st = 2
        · rw [if_pos e, i_add (by omega) (by omega), k0]; omega
        · rw [if_neg e, i_add (by omega) (by omega)]; omega
      omega
  refine ⟨fun c hc => ?_, fun c hc hcn => ?_, fun c hc => ?_, main.2.1, ?_⟩
  · show -(B + 9900) ≤ (upF s.1 k _ c).toInt ∧ (upF s.1 k _ c).toInt ≤ B + 9900
    by_cases e : c = k
    · rw [e, upF_at]; exact w
    · rw [upF_ne e]; exact h1 c (by omega)
  · show -B ≤ (upF s.1 k _ c).toInt ∧ (upF s.1 k _ c).toInt ≤ B
    rw [upF_ne (by omega)]; exact h2 c (by omega) hcn
  · show 0 ≤ (upF s.2.1 k _ c).toInt
    by_cases e : c = k
    · rw [e, upF_at]; exact main.1
    · rw [upF_ne e]; exact h3 c hc
  · show (skF2 st t _ _ _).toInt + smF (upF s.2.1 k _) n ≤ D + 9 * ((k + 1 : Nat) : Int)
    rw [su]
    omega
set_option maxRecDepth 8000 in
theorem se_ok {st n : Nat} {C : Nat → rC} {t : rN} {s : rS} {B D : Int} (hC : ∀ c, c < n → cOK (C c)) (ht : nOK t) (h4 : 4000 ≤ B) (hB : B ≤ 2000000) (hD : D + 9 * n ≤ 2000000000) (h : rOK n B D s) : ∀ k : Nat, k ≤ n → rOKk n k B D (seF st C t k s)
  | 0, _ => ⟨fun c hc => absurd hc (Nat.not_lt_zero c), fun c _ hc => h.1 c hc, h.2.1, h.2.2.1, by have := h.2.2.2; show s.2.2.1.toInt + smF s.2.1 n ≤ D + 9 * ((0 : Nat) : Int); omega⟩
  | k + 1, hk => cl_ok (by omega) (hC k (by omega)) ht h4 hB (by omega) (se_ok hC ht h4 hB hD h k (by omega))
set_option maxRecDepth 8000 in
theorem st_ok2 {st n : Nat} {C : Nat → rC} {t : rN} {s : rS} {B D : Int} (hC : ∀ c, c < n → cOK (C c)) (ht : nOK t) (h4 : 4000 ≤ B) (hB : B ≤ 2000000) (hD : D + 9 * n ≤ 2000000000) (h : rOK n B D s) : rOK n (B + 9900) (D + 9 * n) (seF st C t n s) := by
  obtain ⟨h1, -, h3, h5, h6⟩ := se_ok (st := st) hC ht h4 hB hD h n (Nat.le_refl n)
  exact ⟨h1, h3, h5, h6⟩
set_option maxRecDepth 8000 in
/-- the model's way to write it -/
theorem wm_mod {c : rC} {t : rN} {w : Int32} : w + (100 * t.2.2.1 - w) * (1 + t.2.1) / (10 + c.1) + t.2.2.2.2 * 8 * c.2.2.2 / c.1 - c.2.2.2 * (100 - t.1) * c.2.1 / (100 * c.1) = wmF c t w := by
  unfold wmF
  rw [Int32.add_comm 1 t.2.1, Int32.add_comm 10 c.1, Int32.sub_eq_add_neg (_ + _) (c.2.2.2 * (100 - t.1) * c.2.1 / (100 * c.1)), Int32.sub_eq_add_neg (_ + _) (c.2.2.2 * (100 - t.1) * c.2.1 / (100 * c.1)), Int32.add_assoc, Int32.add_assoc, Int32.add_assoc]
