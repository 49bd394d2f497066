section
/-! ===== the model's RUN ===== -/
set_option maxRecDepth 8000 in
theorem i_divN {x y : Int32} {a b : Nat} (hx : x.toInt = a) (hy : y.toInt = b) (hb : 0 < b) : (x / y).toInt = ((a / b : Nat) : Int) := by
  have h1 := dx_b2 x
  have h2 : a / b ≤ a := Nat.div_le_self a b
  have e : x.toInt.tdiv y.toInt = ((a / b : Nat) : Int) := by rw [hx, hy]; exact Int.ofNat_tdiv a b
  generalize a / b = q at h2 e ⊢
  rw [i_divB (by rw [e]; omega) (by rw [e]; omega), e]
set_option maxRecDepth 8000 in
theorem i_modN {x y : Int32} {a b : Nat} (hx : x.toInt = a) (hy : y.toInt = b) (hb : 0 < b) : (x - x / y * y).toInt = ((a % b : Nat) : Int) := by
  have h1 := dx_b2 x
  have e := i_divN hx hy hb
  have hm : b * (a / b) + a % b = a := Nat.div_add_mod a b
  generalize a / b = q at e hm
  generalize a % b = r at hm ⊢
  have e0 : (x / y).toInt * y.toInt = ((b * q : Nat) : Int) := by rw [e, hy, Int.natCast_mul, Int.mul_comm]
  generalize b * q = p at e0 hm
  have e2 : (x / y * y).toInt = (p : Int) := by rw [i_mulB (by rw [e0]; omega) (by rw [e0]; omega), e0]
  rw [i_sub (by rw [e2, hx]; omega) (by rw [e2, hx]; omega), e2, hx]
  omega
set_option maxRecDepth 8000 in
/-- indices -/
theorem ix_a {x c : Int32} {a m : Nat} (hx : x.toInt = a) (hc : c.toInt = m) (h : a + m < 1000000) : (x + c).toInt = ((a + m : Nat) : Int) := by
  rw [i_add (by omega) (by omega), hx, hc]; omega
set_option maxRecDepth 8000 in
theorem ix_m {x c : Int32} {a m : Nat} (hx : x.toInt = a) (hc : c.toInt = m) (h : m * a < 1000000) : (c * x).toInt = ((m * a : Nat) : Int) := by
  have e : c.toInt * x.toInt = ((m * a : Nat) : Int) := by rw [hx, hc, Int.natCast_mul]
  rw [i_mulB (by rw [e]; omega) (by rw [e]; omega), e]
set_option maxRecDepth 8000 in
theorem ix_4 {fr nx c : Int32} {F i m : Nat} (hF : fr.toInt = F) (hc : c.toInt = m) (hn : nx.toInt = i) (h : F + m + 4 * i < 1000000) : (fr + c + 4 * nx).toInt = ((F + (m + 4 * i) : Nat) : Int) := by
  rw [ix_a (ix_a hF hc (by omega)) (ix_m (m := 4) hn rfl (by omega)) (by omega)]
  omega
set_option maxRecDepth 8000 in
theorem ix_1 {x : Int32} {i : Nat} (hx : x.toInt = i) (h : i + 1 < 1000000) : (x + 1).toInt = ((i + 1 : Nat) : Int) := ix_a (m := 1) hx rfl (by omega)
set_option maxRecDepth 8000 in
theorem nat_of {x : Int32} {a : Nat} (h : x.toInt = a) : x.toInt.toNat = a := by omega
/-- line i of a NIGHT as the model keeps it -/
def lnM (S : Nat → Int32) (i : Nat) : fL := ((S (1 + 4 * i)).toInt.toNat, S (2 + 4 * i), S (3 + 4 * i), S (4 + 4 * i))
def msL (S : Nat → Int32) : Nat → List fL
  | 0 => []
  | k + 1 => lnM S k :: msL S k
abbrev nsOK (S : Nat → Int32) (L : Nat) : Prop := (S 0).toInt = L ∧ L ≤ 24 ∧ (∀ i, i < L → 0 ≤ (S (1 + 4 * i)).toInt ∧ (S (1 + 4 * i)).toInt ≤ 3 ∧ 0 ≤ (S (2 + 4 * i)).toInt ∧ (S (2 + 4 * i)).toInt ≤ 143) ∧ ∀ i j, i ≤ j → j < L → (S (2 + 4 * i)).toInt ≤ (S (2 + 4 * j)).toInt
def curF (S : Nat → Int32) (i w : Nat) : Int32 := ndF (uaF (msL S i)) w 143
def cvF (S : Nat → Int32) (i : Nat) (c v a l s : Int32) : Prop := c = curF S i 0 ∧ v = curF S i 1 ∧ a = curF S i 2 ∧ l = curF S i 3 ∧ s = curF S i 4
set_option maxRecDepth 8000 in
theorem ud_0 {l : fL} (h : l.1 = 0 ∨ l.1 = 1) : udF l = [(l.1, l.2.1.toInt.toNat, l.2.2.1)] := by
  unfold udF; rw [if_neg (by omega), if_neg (by omega)]
set_option maxRecDepth 8000 in
theorem ud_2 {l : fL} (h : l.1 = 2) : udF l = [(3, l.2.1.toInt.toNat, l.2.2.2), (2, l.2.1.toInt.toNat, l.2.2.1)] := by
  unfold udF; rw [if_neg (by omega), if_pos h]
set_option maxRecDepth 8000 in
theorem ud_3 {l : fL} (h : l.1 = 3) : udF l = [(4, l.2.1.toInt.toNat, 1)] := by
  unfold udF; rw [if_pos h]
set_option maxRecDepth 8000 in
theorem nd_1 {k t : Nat} {v : Int32} {r : List (Nat × Nat × Int32)} {w s : Nat} : ndF ([(k, t, v)] ++ r) w s = if w = k ∧ t ≤ s then v else ndF r w s := rfl
set_option maxRecDepth 8000 in
theorem nd_2 {k t k' t' : Nat} {v v' : Int32} {r : List (Nat × Nat × Int32)} {w s : Nat} : ndF ([(k, t, v), (k', t', v')] ++ r) w s = if w = k ∧ t ≤ s then v else if w = k' ∧ t' ≤ s then v' else ndF r w s := rfl
set_option maxRecDepth 8000 in
theorem cu_s {S : Nat → Int32} {i w : Nat} : curF S (i + 1) w = ndF (udF (lnM S i) ++ uaF (msL S i)) w 143 := rfl
set_option maxRecDepth 8000 in
theorem cv_0 {S : Nat → Int32} {i : Nat} {c v a l s : Int32} (h : (S (1 + 4 * i)).toInt = 0) (ht : (S (2 + 4 * i)).toInt ≤ 143) (hv : cvF S i c v a l s) : cvF S (i + 1) (S (3 + 4 * i)) v a l s := by
  have e : (lnM S i).1 = 0 := by show (S (1 + 4 * i)).toInt.toNat = 0; omega
  have t : (lnM S i).2.1.toInt.toNat ≤ 143 := by show (S (2 + 4 * i)).toInt.toNat ≤ 143; omega
  obtain ⟨v0, v1, v2, v3, v4⟩ := hv
  refine ⟨?_, ?_, ?_, ?_, ?_⟩ <;> rw [cu_s, ud_0 (Or.inl e), nd_1, e]
  · rw [if_pos ⟨rfl, t⟩]; rfl
  · rw [if_neg (fun q => absurd q.1 (by decide))]; exact v1
  · rw [if_neg (fun q => absurd q.1 (by decide))]; exact v2
  · rw [if_neg (fun q => absurd q.1 (by decide))]; exact v3
  · rw [if_neg (fun q => absurd q.1 (by decide))]; exact v4
set_option maxRecDepth 8000 in
theorem cv_1 {S : Nat → Int32} {i : Nat} {c v a l s : Int32} (h : (S (1 + 4 * i)).toInt = 1) (ht : (S (2 + 4 * i)).toInt ≤ 143) (hv : cvF S i c v a l s) : cvF S (i + 1) c (S (3 + 4 * i)) a l s := by
  have e : (lnM S i).1 = 1 := by show (S (1 + 4 * i)).toInt.toNat = 1; omega
  have t : (lnM S i).2.1.toInt.toNat ≤ 143 := by show (S (2 + 4 * i)).toInt.toNat ≤ 143; omega
  obtain ⟨v0, v1, v2, v3, v4⟩ := hv
  refine ⟨?_, ?_, ?_, ?_, ?_⟩ <;> rw [cu_s, ud_0 (Or.inr e), nd_1, e]
  · rw [if_neg (fun q => absurd q.1 (by decide))]; exact v0
  · rw [if_pos ⟨rfl, t⟩]; rfl
  · rw [if_neg (fun q => absurd q.1 (by decide))]; exact v2
  · rw [if_neg (fun q => absurd q.1 (by decide))]; exact v3
  · rw [if_neg (fun q => absurd q.1 (by decide))]; exact v4
set_option maxRecDepth 8000 in
theorem cv_2 {S : Nat → Int32} {i : Nat} {c v a l s : Int32} (h : (S (1 + 4 * i)).toInt = 2) (ht : (S (2 + 4 * i)).toInt ≤ 143) (hv : cvF S i c v a l s) : cvF S (i + 1) c v (S (3 + 4 * i)) (S (4 + 4 * i)) s := by
  have e : (lnM S i).1 = 2 := by show (S (1 + 4 * i)).toInt.toNat = 2; omega
  have t : (lnM S i).2.1.toInt.toNat ≤ 143 := by show (S (2 + 4 * i)).toInt.toNat ≤ 143; omega
  obtain ⟨v0, v1, v2, v3, v4⟩ := hv
  refine ⟨?_, ?_, ?_, ?_, ?_⟩ <;> rw [cu_s, ud_2 e, nd_2]
  · rw [if_neg (fun q => absurd q.1 (by decide)), if_neg (fun q => absurd q.1 (by decide))]; exact v0
  · rw [if_neg (fun q => absurd q.1 (by decide)), if_neg (fun q => absurd q.1 (by decide))]; exact v1
  · rw [if_neg (fun q => absurd q.1 (by decide)), if_pos ⟨rfl, t⟩]; rfl
  · rw [if_pos ⟨rfl, t⟩]; rfl
  · rw [if_neg (fun q => absurd q.1 (by decide)), if_neg (fun q => absurd q.1 (by decide))]; exact v4
set_option maxRecDepth 8000 in
theorem cv_3 {S : Nat → Int32} {i : Nat} {c v a l s : Int32} (h : (S (1 + 4 * i)).toInt = 3) (ht : (S (2 + 4 * i)).toInt ≤ 143) (hv : cvF S i c v a l s) : cvF S (i + 1) c v a l 1 := by
  have e : (lnM S i).1 = 3 := by show (S (1 + 4 * i)).toInt.toNat = 3; omega
  have t : (lnM S i).2.1.toInt.toNat ≤ 143 := by show (S (2 + 4 * i)).toInt.toNat ≤ 143; omega
  obtain ⟨v0, v1, v2, v3, v4⟩ := hv
  refine ⟨?_, ?_, ?_, ?_, ?_⟩ <;> rw [cu_s, ud_3 e, nd_1]
  · rw [if_neg (fun q => absurd q.1 (by decide))]; exact v0
  · rw [if_neg (fun q => absurd q.1 (by decide))]; exact v1
  · rw [if_neg (fun q => absurd q.1 (by decide))]; exact v2
  · rw [if_neg (fun q => absurd q.1 (by decide))]; exact v3
  · rw [if_pos ⟨rfl, t⟩]
set_option maxRecDepth 8000 in
theorem ud_skip {l : fL} {r : List (Nat × Nat × Int32)} {w t : Nat} (h : t < l.2.1.toInt.toNat) : ndF (udF l ++ r) w t = ndF r w t := by
  unfold udF
  split
  · rw [nd_1, if_neg (fun q => by have := q.2; omega)]
  · split
    · rw [nd_2, if_neg (fun q => by have := q.2; omega), if_neg (fun q => by have := q.2; omega)]
    · rw [nd_1, if_neg (fun q => by have := q.2; omega)]
set_option maxRecDepth 8000 in
theorem ud_same {l : fL} {r : List (Nat × Nat × Int32)} {w t t' : Nat} (h : l.2.1.toInt.toNat ≤ t) (h' : l.2.1.toInt.toNat ≤ t') (hr : ndF r w t = ndF r w t') : ndF (udF l ++ r) w t = ndF (udF l ++ r) w t' := by
  unfold udF
  split
  · by_cases g : w = 4
    · rw [nd_1, nd_1, if_pos ⟨g, h⟩, if_pos ⟨g, h'⟩]
    · rw [nd_1, nd_1, if_neg (fun q => g q.1), if_neg (fun q => g q.1), hr]
  · split
    · by_cases g : w = 3
      · rw [nd_2, nd_2, if_pos ⟨g, h⟩, if_pos ⟨g, h'⟩]
      · by_cases g2 : w = 2
        · rw [nd_2, nd_2, if_neg (fun q => g q.1), if_pos ⟨g2, h⟩, if_neg (fun q => g q.1), if_pos ⟨g2, h'⟩]
        · rw [nd_2, nd_2, if_neg (fun q => g q.1), if_neg (fun q => g2 q.1), if_neg (fun q => g q.1), if_neg (fun q => g2 q.1), hr]
    · by_cases g : w = l.1
      · rw [nd_1, nd_1, if_pos ⟨g, h⟩, if_pos ⟨g, h'⟩]
      · rw [nd_1, nd_1, if_neg (fun q => g q.1), if_neg (fun q => g q.1), hr]
set_option maxRecDepth 8000 in
theorem nd_lo {S : Nat → Int32} {w t : Nat} (ht : t ≤ 143) : ∀ i : Nat, (∀ j, j < i → (S (2 + 4 * j)).toInt ≤ t) → ndF (uaF (msL S i)) w t = curF S i w
  | 0, _ => by
    show ndF [(4, 0, 0), (3, 0, 8), (2, 0, 10), (1, 0, 0), (0, 0, 0)] w t = ndF [(4, 0, 0), (3, 0, 8), (2, 0, 10), (1, 0, 0), (0, 0, 0)] w 143
    simp [ndF]
  | i + 1, h => by
    have h1 := h i (by omega)
    rw [cu_s]
    exact ud_same (by show (S (2 + 4 * i)).toInt.toNat ≤ t; omega) (by show (S (2 + 4 * i)).toInt.toNat ≤ 143; omega) (nd_lo ht i (fun j hj => h j (by omega)))
set_option maxRecDepth 8000 in
theorem nd_hi {S : Nat → Int32} {w t i : Nat} : ∀ k : Nat, (∀ j, i ≤ j → j < i + k → (t : Int) < (S (2 + 4 * j)).toInt) → ndF (uaF (msL S (i + k))) w t = ndF (uaF (msL S i)) w t
  | 0, _ => rfl
  | k + 1, h => by
    have h1 := h (i + k) (by omega) (by omega)
    show ndF (udF (lnM S (i + k)) ++ uaF (msL S (i + k))) w t = _
    rw [ud_skip (show t < (S (2 + 4 * (i + k))).toInt.toNat by omega)]
    exact nd_hi k (fun j g1 g2 => h j g1 (by omega))
set_option maxRecDepth 8000 in
theorem nd_cur {S : Nat → Int32} {w t i L : Nat} (ht : t ≤ 143) (hi : i ≤ L) (h1 : ∀ j, j < i → (S (2 + 4 * j)).toInt ≤ t) (h2 : ∀ j, i ≤ j → j < L → (t : Int) < (S (2 + 4 * j)).toInt) : ndF (uaF (msL S L)) w t = curF S i w := by
  have e := nd_hi (S := S) (w := w) (t := t) (i := i) (L - i) (fun j g1 g2 => h2 j g1 (by omega))
  rw [show i + (L - i) = L by omega] at e
  rw [e]
  exact nd_lo ht i h1
set_option maxRecDepth 8000 in
theorem v_mcells {n : Nat} {I : Nat → Nat → Int32} {J : Nat → Nat → Int64} {K : dw_K} (hk : K (some (.int (I 406 0 * I 406 1))) (n, SH1, I, J)) : t_X12_cells [.ref 404] (n, SH1, I, J) K := by
  refine q_body (Nat.le_of_ble_eq_true rfl) ?_
  refine q_ald rfl rfl ?_
  refine q_getr rfl sk_404 sr_404_6 ?_
  refine q_ic rfl ?_
  refine q_xald rfl (Or.inl rfl) sk_406 sn_406 (by decide) (by decide) ?_
  refine q_ald rfl rfl ?_
  refine q_getr rfl sk_404 sr_404_6 ?_
  refine q_ic rfl ?_
  refine q_xald rfl (Or.inl rfl) sk_406 sn_406 (by decide) (by decide) ?_
  refine q_mul rfl ?_
  exact q_iret rfl hk
set_option maxRecDepth 8000 in
theorem v_nightAt {n : Nat} {I : Nat → Nat → Int32} {J : Nat → Nat → Int64} {K : dw_K} {x : Int32} (hk : K (some (.int (221 + 97 * x))) (n, SH1, I, J)) : t_X12_nightAt [.ref 404, .int x] (n, SH1, I, J) K := by
  refine q_body (Nat.le_of_ble_eq_true rfl) ?_
  refine q_ic rfl ?_
  refine q_ic rfl ?_
  refine q_ild rfl rfl ?_
  refine q_mul rfl ?_
  refine q_add rfl ?_
  exact q_iret rfl hk
set_option maxRecDepth 8000 in
theorem v_misCell {n : Nat} {I : Nat → Nat → Int32} {J : Nat → Nat → Int64} {K : dw_K} {x y : Int32} {C R : Nat} (hC : (I 406 0).toInt = C) (hR : (I 406 1).toInt = R) (hk : ∀ w : Int32, (w = 1 ∧ 0 ≤ x.toInt ∧ x.toInt < C ∧ 0 ≤ y.toInt ∧ y.toInt < R) ∨ (w = 0 ∧ ¬ (0 ≤ x.toInt ∧ x.toInt < C ∧ 0 ≤ y.toInt ∧ y.toInt < R)) → K (some (.int w)) (n, SH1, I, J)) : t_X12_isCell [.ref 404, .int x, .int y] (n, SH1, I, J) K := by
  have k0 : (0 : Int32).toInt = 0 := rfl
  have k1 : (1 : Int32).toInt = 1 := rfl
  have hC9 := dx_b2 (I 406 0)
  have hR9 := dx_b2 (I 406 1)
  have eC : (I 406 0 - 1).toInt = C - 1 := by rw [i_sub (by omega) (by omega), hC, k1]
  have eR : (I 406 1 - 1).toInt = R - 1 := by rw [i_sub (by omega) (by omega), hR, k1]
  refine q_body (Nat.le_of_ble_eq_true rfl) ?_
  refine q_ild rfl rfl ?_
  refine q_ic rfl ?_
  refine q_ald rfl rfl ?_
  refine q_getr rfl sk_404 sr_404_6 ?_
  refine q_ic rfl ?_
  refine q_xald rfl (Or.inl rfl) sk_406 sn_406 (by decide) (by decide) ?_
  refine q_ic rfl ?_
  refine q_sub rfl ?_
  refine q_callS (as := [.int x, .int (0 : Int32), .int ((I 406 0) - (1 : Int32))]) (rest := []) rfl rfl rfl rfl ?_
  refine v_isIn (fun w_ g1 => ?_)
  rcases g1 with ⟨rfl, g1⟩ | ⟨rfl, g1⟩
  · show dw_ok (pr_X12_isCell K) 13 0 0 [some (.ref 404), some (.int x), some (.int y)] [.int (1 : Int32)] (n, SH1, I, J)
    refine q_if (c := 0) rfl (by decide) (fun h => absurd (show (1 : Int) = 0 from h) (by decide)) (fun y2 => ?_)
    have y2 : (1 : Int) ≠ 0 := y2
    refine q_ild rfl rfl ?_
    refine q_ic rfl ?_
    refine q_ald rfl rfl ?_
    refine q_getr rfl sk_404 sr_404_6 ?_
    refine q_ic rfl ?_
    refine q_xald rfl (Or.inl rfl) sk_406 sn_406 (by decide) (by decide) ?_
    refine q_ic rfl ?_
    refine q_sub rfl ?_
    refine q_callS (as := [.int y, .int (0 : Int32), .int ((I 406 1) - (1 : Int32))]) (rest := []) rfl rfl rfl rfl ?_
    refine v_isIn (fun w_ g3 => ?_)
    rcases g3 with ⟨rfl, g3⟩ | ⟨rfl, g3⟩
    · show dw_ok (pr_X12_isCell K) 29 0 0 [some (.ref 404), some (.int x), some (.int y)] [.int (1 : Int32)] (n, SH1, I, J)
      refine q_if (c := 0) rfl (by decide) (fun h => absurd (show (1 : Int) = 0 from h) (by decide)) (fun y4 => ?_)
      have y4 : (1 : Int) ≠ 0 := y4
      refine q_ic rfl ?_
      refine q_goto rfl ?_
      exact q_zret rfl (Or.inr rfl) (hk 1 (Or.inl ⟨rfl, by omega⟩))
    · show dw_ok (pr_X12_isCell K) 29 0 0 [some (.ref 404), some (.int x), some (.int y)] [.int (0 : Int32)] (n, SH1, I, J)
      refine q_if (c := 0) rfl (by decide) (fun y5 => ?_) (fun h => absurd (show (0 : Int) ≠ 0 from h) (by decide))
      have y5 : (0 : Int) = 0 := y5
      refine q_ic rfl ?_
      exact q_zret rfl (Or.inl rfl) (hk 0 (Or.inr ⟨rfl, by omega⟩))
  · show dw_ok (pr_X12_isCell K) 13 0 0 [some (.ref 404), some (.int x), some (.int y)] [.int (0 : Int32)] (n, SH1, I, J)
    refine q_if (c := 0) rfl (by decide) (fun y6 => ?_) (fun h => absurd (show (0 : Int) ≠ 0 from h) (by decide))
    have y6 : (0 : Int) = 0 := y6
    refine q_ic rfl ?_
    exact q_zret rfl (Or.inl rfl) (hk 0 (Or.inr ⟨rfl, by omega⟩))
set_option maxRecDepth 8000 in
theorem v_mIsStep {n : Nat} {I : Nat → Nat → Int32} {J : Nat → Nat → Int64} {K : dw_K} {x : Int32} (hk : ∀ w : Int32, (w = 1 ∧ 0 ≤ x.toInt ∧ x.toInt ≤ 143) ∨ (w = 0 ∧ ¬ (0 ≤ x.toInt ∧ x.toInt ≤ 143)) → K (some (.int w)) (n, SH1, I, J)) : t_X12_isStep [.int x] (n, SH1, I, J) K := by
  have k0 : (0 : Int32).toInt = 0 := rfl
  have k1 : (1 : Int32).toInt = 1 := rfl
  have k143 : (143 : Int32).toInt = 143 := rfl
  refine q_body (Nat.le_of_ble_eq_true rfl) ?_
  refine q_ild rfl rfl ?_
  refine q_ic rfl ?_
  refine q_ic rfl ?_
  refine q_callS (as := [.int x, .int (0 : Int32), .int (143 : Int32)]) (rest := []) rfl rfl rfl rfl ?_
  refine v_isIn (fun w_ g1 => ?_)
  rcases g1 with ⟨rfl, g1⟩ | ⟨rfl, g1⟩
  · show dw_ok (pr_X12_isStep K) 8 0 0 [some (.int x)] [.int (1 : Int32)] (n, SH1, I, J)
    exact q_zret rfl (Or.inr rfl) (hk 1 (Or.inl ⟨rfl, by omega⟩))
  · show dw_ok (pr_X12_isStep K) 8 0 0 [some (.int x)] [.int (0 : Int32)] (n, SH1, I, J)
    exact q_zret rfl (Or.inl rfl) (hk 0 (Or.inr ⟨rfl, by omega⟩))
set_option maxRecDepth 8000 in
theorem v_isNight {n : Nat} {I : Nat → Nat → Int32} {J : Nat → Nat → Int64} {K : dw_K} {x : Int32} (hk : ∀ w : Int32, (w = 1 ∧ (0 ≤ x.toInt ∧ x.toInt ≤ 5) ∧ 0 ≤ (I 406 (221 + 97 * x.toInt.toNat)).toInt) ∨ (w = 0 ∧ ¬ ((0 ≤ x.toInt ∧ x.toInt ≤ 5) ∧ 0 ≤ (I 406 (221 + 97 * x.toInt.toNat)).toInt)) → K (some (.int w)) (n, SH1, I, J)) : t_X12_isNight [.ref 404, .int x] (n, SH1, I, J) K := by
  have k0 : (0 : Int32).toInt = 0 := rfl
  have k1 : (1 : Int32).toInt = 1 := rfl
  have k5 : (5 : Int32).toInt = 5 := rfl
  have k97 : (97 : Int32).toInt = 97 := rfl
  have k221 : (221 : Int32).toInt = 221 := rfl
  have e1 : 0 ≤ x.toInt → x.toInt ≤ 5 → (221 + 97 * x).toInt = 221 + 97 * x.toInt := fun h1 h2 => by
    have e0 : (97 * x).toInt = 97 * x.toInt := by rw [i_mulB (by rw [k97]; omega) (by rw [k97]; omega), k97]
    rw [i_add (by omega) (by omega), e0, k221]
  have e2 : 0 ≤ x.toInt → x.toInt ≤ 5 → (221 + 97 * x).toInt.toNat = 221 + 97 * x.toInt.toNat := fun h1 h2 => by rw [e1 h1 h2]; omega
  refine q_body (Nat.le_of_ble_eq_true rfl) ?_
  refine q_ild rfl rfl ?_
  refine q_ic rfl ?_
  refine q_ic rfl ?_
  refine q_callS (as := [.int x, .int (0 : Int32), .int (5 : Int32)]) (rest := []) rfl rfl rfl rfl ?_
  refine v_isIn (fun w_ g1 => ?_)
  rcases g1 with ⟨rfl, g1⟩ | ⟨rfl, g1⟩
  · show dw_ok (pr_X12_isNight K) 6 0 0 [some (.ref 404), some (.int x)] [.int (1 : Int32)] (n, SH1, I, J)
    refine q_if (c := 0) rfl (by decide) (fun h => absurd (show (1 : Int) = 0 from h) (by decide)) (fun y2 => ?_)
    have y2 : (1 : Int) ≠ 0 := y2
    refine q_ald rfl rfl ?_
    refine q_getr rfl sk_404 sr_404_6 ?_
    refine q_ic rfl ?_
    refine q_ic rfl ?_
    refine q_ild rfl rfl ?_
    refine q_mul rfl ?_
    refine q_add rfl ?_
    show dw_ok (pr_X12_isNight K) 21 0 0 [some (.ref 404), some (.int x)] [.int ((221 : Int32) + ((97 : Int32) * x)), .ref 406] (n, SH1, I, J)
    refine q_xald rfl (Or.inl rfl) sk_406 sn_406 (by rw [e1 (by omega) (by omega)]; omega) (by rw [e1 (by omega) (by omega)]; omega) ?_
    show dw_ok (pr_X12_isNight K) 22 0 0 [some (.ref 404), some (.int x)] [.int (I 406 (((221 : Int32) + ((97 : Int32) * x))).toInt.toNat)] (n, SH1, I, J)
    rw [e2 (by omega) (by omega)]
    refine q_if (c := 2) rfl (by decide) (fun y3 => ?_) (fun y3 => ?_)
    · have y3 : ((I 406 (221 + 97 * x.toInt.toNat))).toInt < 0 := y3
      refine q_ic rfl ?_
      exact q_zret rfl (Or.inl rfl) (hk 0 (Or.inr ⟨rfl, by omega⟩))
    · have y3 : 0 ≤ ((I 406 (221 + 97 * x.toInt.toNat))).toInt := y3
      refine q_ic rfl ?_
      refine q_goto rfl ?_
      exact q_zret rfl (Or.inr rfl) (hk 1 (Or.inl ⟨rfl, by omega⟩))
  · show dw_ok (pr_X12_isNight K) 6 0 0 [some (.ref 404), some (.int x)] [.int (0 : Int32)] (n, SH1, I, J)
    refine q_if (c := 0) rfl (by decide) (fun y4 => ?_) (fun h => absurd (show (0 : Int) ≠ 0 from h) (by decide))
    have y4 : (0 : Int) = 0 := y4
    refine q_ic rfl ?_
    exact q_zret rfl (Or.inl rfl) (hk 0 (Or.inr ⟨rfl, by omega⟩))
set_option maxRecDepth 8000 in
set_option maxHeartbeats 4000000 in
theorem se_in {n : Nat} {I : Nat → Nat → Int32} {J : Nat → Nat → Int64} {K : dw_K} {fr t : Int32} {F L τ : Nat} (hF : fr.toInt = F) (hFb : F + 97 ≤ 1427) (hS : nsOK (fun j => I 406 (F + j)) L) (ht : t.toInt = τ)
    (hk : ∀ (i : Nat) (c v a l s nx : Int32) (s9 : Option Value), i ≤ L → nx.toInt = i → (∀ j, i ≤ j → j < L → (τ : Int) < (I 406 (F + (2 + 4 * j))).toInt) → (∀ j, j < i → (I 406 (F + (2 + 4 * j))).toInt ≤ τ) → cvF (fun j => I 406 (F + j)) i c v a l s → dw_ok (pr_X12_sees K) 162 0 0 [some (.ref 404), some (.int fr), some (.int c), some (.int v), some (.int a), some (.int l), some (.int nx), some (.int s), some (.int t), s9] [] (n, SH1, I, J)) :
    ∀ (f i : Nat) (c v a l s nx : Int32) (s9 : Option Value), i + f = L → nx.toInt = i → (∀ j, i ≤ j → j < L → (τ : Int) ≤ (I 406 (F + (2 + 4 * j))).toInt) → (∀ j, j < i → (I 406 (F + (2 + 4 * j))).toInt ≤ τ) → cvF (fun j => I 406 (F + j)) i c v a l s → dw_ok (pr_X12_sees K) 29 0 0 [some (.ref 404), some (.int fr), some (.int c), some (.int v), some (.int a), some (.int l), some (.int nx), some (.int s), some (.int t), s9] [] (n, SH1, I, J) := by
  have k1 : (1 : Int32).toInt = 1 := rfl
  have k2 : (2 : Int32).toInt = 2 := rfl
  have k3 : (3 : Int32).toInt = 3 := rfl
  have k4 : (4 : Int32).toInt = 4 := rfl
  obtain ⟨hS0, hL, hln, hso⟩ := hS
  have hS0 : (I 406 F).toInt = L := hS0
  have hfn : fr.toInt.toNat = F := by omega
  intro f
  induction f with
  | zero =>
    intro i c v a l s nx s9 hi hnx hge hle hv
    refine q_ild rfl rfl ?_
    refine q_ald rfl rfl ?_
    refine q_getr rfl sk_404 sr_404_6 ?_
    refine q_ild rfl rfl ?_
    refine q_xald rfl (Or.inl rfl) sk_406 sn_406 (by omega) (by omega) ?_
    show dw_ok (pr_X12_sees K) 37 0 0 [some (.ref 404), some (.int fr), some (.int c), some (.int v), some (.int a), some (.int l), some (.int nx), some (.int s), some (.int t), s9] [.int (I 406 (fr).toInt.toNat), .int nx] (n, SH1, I, J)
    rw [hfn]
    refine q_icmp (c := 3) rfl (by decide) (fun y1 => ?_) (fun h => absurd (show (nx).toInt < ((I 406 F)).toInt from h) (by omega))
    have y1 : ((I 406 F)).toInt ≤ (nx).toInt := y1
    exact hk i c v a l s nx _ (by omega) hnx (fun j g1 g2 => by omega) hle hv
  | succ f ih =>
    intro i c v a l s nx s9 hi hnx hge hle hv
    obtain ⟨l1, l2, l3, l4⟩ := hln i (by omega)
    have l1 : 0 ≤ (I 406 (F + (1 + 4 * i))).toInt := l1
    have l2 : (I 406 (F + (1 + 4 * i))).toInt ≤ 3 := l2
    have l3 : 0 ≤ (I 406 (F + (2 + 4 * i))).toInt := l3
    have l4 : (I 406 (F + (2 + 4 * i))).toInt ≤ 143 := l4
    have hgi := hge i (Nat.le_refl i) (by omega)
    skip
    refine q_ild rfl rfl ?_
    refine q_ald rfl rfl ?_
    refine q_getr rfl sk_404 sr_404_6 ?_
    refine q_ild rfl rfl ?_
    refine q_xald rfl (Or.inl rfl) sk_406 sn_406 (by omega) (by omega) ?_
    show dw_ok (pr_X12_sees K) 37 0 0 [some (.ref 404), some (.int fr), some (.int c), some (.int v), some (.int a), some (.int l), some (.int nx), some (.int s), some (.int t), s9] [.int (I 406 (fr).toInt.toNat), .int nx] (n, SH1, I, J)
    rw [hfn]
    refine q_icmp (c := 3) rfl (by decide) (fun h => absurd (show ((I 406 F)).toInt ≤ (nx).toInt from h) (by omega)) (fun y2 => ?_)
    have y2 : (nx).toInt < ((I 406 F)).toInt := y2
    refine q_ald rfl rfl ?_
    refine q_getr rfl sk_404 sr_404_6 ?_
    refine q_ild rfl rfl ?_
    refine q_ic rfl ?_
    refine q_add rfl ?_
    refine q_ic rfl ?_
    refine q_ild rfl rfl ?_
    refine q_mul rfl ?_
    refine q_add rfl ?_
    show dw_ok (pr_X12_sees K) 52 0 0 [some (.ref 404), some (.int fr), some (.int c), some (.int v), some (.int a), some (.int l), some (.int nx), some (.int s), some (.int t), s9] [.int ((fr + (2 : Int32)) + ((4 : Int32) * nx)), .ref 406] (n, SH1, I, J)
    obtain ⟨z2, hz2⟩ : ∃ z, z = ((fr + (2 : Int32)) + ((4 : Int32) * nx)) := ⟨_, rfl⟩
    rw [← hz2]
    have ez2 : z2.toInt = ((F + (2 + 4 * i) : Nat) : Int) := by rw [hz2]; exact ix_4 hF rfl hnx (by omega)
    refine q_xald rfl (Or.inl rfl) sk_406 sn_406 (by omega) (by omega) ?_
    show dw_ok (pr_X12_sees K) 53 0 0 [some (.ref 404), some (.int fr), some (.int c), some (.int v), some (.int a), some (.int l), some (.int nx), some (.int s), some (.int t), s9] [.int (I 406 (z2).toInt.toNat)] (n, SH1, I, J)
    rw [(nat_of ez2)]
    refine q_ild rfl rfl ?_
    refine q_icmp (c := 1) rfl (by decide) (fun y3 => ?_) (fun y3 => ?_)
    · have y3 : ((I 406 (F + (2 + 4 * i)))).toInt ≠ (t).toInt := y3
      exact hk i c v a l s nx _ (by omega) hnx (fun j g1 g2 => by
        have h1 : (I 406 (F + (2 + 4 * i))).toInt ≤ (I 406 (F + (2 + 4 * j))).toInt := hso i j g1 g2
        omega) hle hv
    · have y3 : ((I 406 (F + (2 + 4 * i)))).toInt = (t).toInt := y3
      refine q_ild rfl rfl ?_
      refine q_ic rfl ?_
      refine q_add rfl ?_
      refine q_ic rfl ?_
      refine q_ild rfl rfl ?_
      refine q_mul rfl ?_
      refine q_add rfl ?_
      show dw_ok (pr_X12_sees K) 66 0 0 [some (.ref 404), some (.int fr), some (.int c), some (.int v), some (.int a), some (.int l), some (.int nx), some (.int s), some (.int t), s9] [.int ((fr + (1 : Int32)) + ((4 : Int32) * nx))] (n, SH1, I, J)
      obtain ⟨tt, htt⟩ : ∃ z, z = ((fr + (1 : Int32)) + ((4 : Int32) * nx)) := ⟨_, rfl⟩
      rw [← htt]
      have ett : tt.toInt = ((F + (1 + 4 * i) : Nat) : Int) := by rw [htt]; exact ix_4 hF rfl hnx (by omega)
      refine q_ist rfl rfl ?_
      show dw_ok (pr_X12_sees K) 68 0 0 [some (.ref 404), some (.int fr), some (.int c), some (.int v), some (.int a), some (.int l), some (.int nx), some (.int s), some (.int t), some (.int tt)] [] (n, SH1, I, J)
      refine q_ald rfl rfl ?_
      refine q_getr rfl sk_404 sr_404_6 ?_
      refine q_ild rfl rfl ?_
      refine q_xald rfl (Or.inl rfl) sk_406 sn_406 (by omega) (by omega) ?_
      show dw_ok (pr_X12_sees K) 75 0 0 [some (.ref 404), some (.int fr), some (.int c), some (.int v), some (.int a), some (.int l), some (.int nx), some (.int s), some (.int t), some (.int tt)] [.int (I 406 (tt).toInt.toNat)] (n, SH1, I, J)
      rw [(nat_of ett)]
      refine q_if (c := 1) rfl (by decide) (fun y4 => ?_) (fun y4 => ?_)
      · have y4 : ((I 406 (F + (1 + 4 * i)))).toInt ≠ 0 := y4
        refine q_ald rfl rfl ?_
        refine q_getr rfl sk_404 sr_404_6 ?_
        refine q_ild rfl rfl ?_
        refine q_xald rfl (Or.inl rfl) sk_406 sn_406 (by omega) (by omega) ?_
        show dw_ok (pr_X12_sees K) 95 0 0 [some (.ref 404), some (.int fr), some (.int c), some (.int v), some (.int a), some (.int l), some (.int nx), some (.int s), some (.int t), some (.int tt)] [.int (I 406 (tt).toInt.toNat)] (n, SH1, I, J)
        rw [(nat_of ett)]
        refine q_ic rfl ?_
        refine q_icmp (c := 1) rfl (by decide) (fun y5 => ?_) (fun y5 => ?_)
        · have y5 : ((I 406 (F + (1 + 4 * i)))).toInt ≠ (1 : Int) := y5
          refine q_ald rfl rfl ?_
          refine q_getr rfl sk_404 sr_404_6 ?_
          refine q_ild rfl rfl ?_
          refine q_xald rfl (Or.inl rfl) sk_406 sn_406 (by omega) (by omega) ?_
          show dw_ok (pr_X12_sees K) 116 0 0 [some (.ref 404), some (.int fr), some (.int c), some (.int v), some (.int a), some (.int l), some (.int nx), some (.int s), some (.int t), some (.int tt)] [.int (I 406 (tt).toInt.toNat)] (n, SH1, I, J)
          rw [(nat_of ett)]
          refine q_ic rfl ?_
          refine q_icmp (c := 1) rfl (by decide) (fun y6 => ?_) (fun y6 => ?_)
          · have y6 : ((I 406 (F + (1 + 4 * i)))).toInt ≠ (2 : Int) := y6
            refine q_ald rfl rfl ?_
            refine q_getr rfl sk_404 sr_404_6 ?_
            refine q_ild rfl rfl ?_
            refine q_xald rfl (Or.inl rfl) sk_406 sn_406 (by omega) (by omega) ?_
            show dw_ok (pr_X12_sees K) 149 0 0 [some (.ref 404), some (.int fr), some (.int c), some (.int v), some (.int a), some (.int l), some (.int nx), some (.int s), some (.int t), some (.int tt)] [.int (I 406 (tt).toInt.toNat)] (n, SH1, I, J)
            rw [(nat_of ett)]
            refine q_ic rfl ?_
            refine q_icmp (c := 1) rfl (by decide) (fun h => absurd (show ((I 406 (F + (1 + 4 * i)))).toInt ≠ (3 : Int) from h) (by omega)) (fun y7 => ?_)
            have y7 : ((I 406 (F + (1 + 4 * i)))).toInt = (3 : Int) := y7
            refine q_ic rfl ?_
            refine q_ist rfl rfl ?_
            show dw_ok (pr_X12_sees K) 156 0 0 [some (.ref 404), some (.int fr), some (.int c), some (.int v), some (.int a), some (.int l), some (.int nx), some (.int (1 : Int32)), some (.int t), some (.int tt)] [] (n, SH1, I, J)
            refine q_inc rfl rfl rfl ?_
            show dw_ok (pr_X12_sees K) 159 0 0 [some (.ref 404), some (.int fr), some (.int c), some (.int v), some (.int a), some (.int l), some (.int (nx + 1)), some (.int (1 : Int32)), some (.int t), some (.int tt)] [] (n, SH1, I, J)
            show dw_ok (pr_X12_sees K) 159 0 0 [some (.ref 404), some (.int fr), some (.int c), some (.int v), some (.int a), some (.int l), some (.int (nx + 1)), some (.int (1 : Int32)), some (.int t), some (.int tt)] [] (n, SH1, I, J)
            obtain ⟨nx1, hnx1⟩ : ∃ z, z = (nx + 1) := ⟨_, rfl⟩
            rw [← hnx1]
            have enx1 : nx1.toInt = ((i + 1 : Nat) : Int) := by rw [hnx1]; exact ix_1 hnx (by omega)
            refine q_goto rfl ?_
            exact ih (i + 1) (c) (v) (a) (l) ((1 : Int32)) (nx1) _ (by omega) enx1 (fun j g1 g2 => hge j (by omega) g2) (fun j hj => by
              by_cases e : j = i
              · rw [e]; omega
              · exact hle j (by omega)) (cv_3 (S := (fun j => I 406 (F + j))) (by omega) (by omega) hv)
          · have y6 : ((I 406 (F + (1 + 4 * i)))).toInt = (2 : Int) := y6
            refine q_ald rfl rfl ?_
            refine q_getr rfl sk_404 sr_404_6 ?_
            refine q_ild rfl rfl ?_
            refine q_ic rfl ?_
            refine q_add rfl ?_
            show dw_ok (pr_X12_sees K) 128 0 0 [some (.ref 404), some (.int fr), some (.int c), some (.int v), some (.int a), some (.int l), some (.int nx), some (.int s), some (.int t), some (.int tt)] [.int (tt + (2 : Int32)), .ref 406] (n, SH1, I, J)
            obtain ⟨z3, hz3⟩ : ∃ z, z = (tt + (2 : Int32)) := ⟨_, rfl⟩
            rw [← hz3]
            have ez3 : z3.toInt = ((F + (3 + 4 * i) : Nat) : Int) := by rw [hz3]; exact ((ix_a (m := 2) ett rfl (by omega)).trans (congrArg Nat.cast (by omega)))
            refine q_xald rfl (Or.inl rfl) sk_406 sn_406 (by omega) (by omega) ?_
            show dw_ok (pr_X12_sees K) 129 0 0 [some (.ref 404), some (.int fr), some (.int c), some (.int v), some (.int a), some (.int l), some (.int nx), some (.int s), some (.int t), some (.int tt)] [.int (I 406 (z3).toInt.toNat)] (n, SH1, I, J)
            rw [(nat_of ez3)]
            refine q_ist rfl rfl ?_
            show dw_ok (pr_X12_sees K) 131 0 0 [some (.ref 404), some (.int fr), some (.int c), some (.int v), some (.int (I 406 (F + (3 + 4 * i)))), some (.int l), some (.int nx), some (.int s), some (.int t), some (.int tt)] [] (n, SH1, I, J)
            refine q_ald rfl rfl ?_
            refine q_getr rfl sk_404 sr_404_6 ?_
            refine q_ild rfl rfl ?_
            refine q_ic rfl ?_
            refine q_add rfl ?_
            show dw_ok (pr_X12_sees K) 139 0 0 [some (.ref 404), some (.int fr), some (.int c), some (.int v), some (.int (I 406 (F + (3 + 4 * i)))), some (.int l), some (.int nx), some (.int s), some (.int t), some (.int tt)] [.int (tt + (3 : Int32)), .ref 406] (n, SH1, I, J)
            obtain ⟨z4, hz4⟩ : ∃ z, z = (tt + (3 : Int32)) := ⟨_, rfl⟩
            rw [← hz4]
            have ez4 : z4.toInt = ((F + (4 + 4 * i) : Nat) : Int) := by rw [hz4]; exact ((ix_a (m := 3) ett rfl (by omega)).trans (congrArg Nat.cast (by omega)))
            refine q_xald rfl (Or.inl rfl) sk_406 sn_406 (by omega) (by omega) ?_
            show dw_ok (pr_X12_sees K) 140 0 0 [some (.ref 404), some (.int fr), some (.int c), some (.int v), some (.int (I 406 (F + (3 + 4 * i)))), some (.int l), some (.int nx), some (.int s), some (.int t), some (.int tt)] [.int (I 406 (z4).toInt.toNat)] (n, SH1, I, J)
            rw [(nat_of ez4)]
            refine q_ist rfl rfl ?_
            show dw_ok (pr_X12_sees K) 142 0 0 [some (.ref 404), some (.int fr), some (.int c), some (.int v), some (.int (I 406 (F + (3 + 4 * i)))), some (.int (I 406 (F + (4 + 4 * i)))), some (.int nx), some (.int s), some (.int t), some (.int tt)] [] (n, SH1, I, J)
            refine q_ald rfl rfl ?_
            refine q_getr rfl sk_404 sr_404_6 ?_
            refine q_ild rfl rfl ?_
            refine q_xald rfl (Or.inl rfl) sk_406 sn_406 (by omega) (by omega) ?_
            show dw_ok (pr_X12_sees K) 149 0 0 [some (.ref 404), some (.int fr), some (.int c), some (.int v), some (.int (I 406 (F + (3 + 4 * i)))), some (.int (I 406 (F + (4 + 4 * i)))), some (.int nx), some (.int s), some (.int t), some (.int tt)] [.int (I 406 (tt).toInt.toNat)] (n, SH1, I, J)
            rw [(nat_of ett)]
            refine q_ic rfl ?_
            refine q_icmp (c := 1) rfl (by decide) (fun y8 => ?_) (fun h => absurd (show ((I 406 (F + (1 + 4 * i)))).toInt = (3 : Int) from h) (by omega))
            have y8 : ((I 406 (F + (1 + 4 * i)))).toInt ≠ (3 : Int) := y8
            refine q_inc rfl rfl rfl ?_
            show dw_ok (pr_X12_sees K) 159 0 0 [some (.ref 404), some (.int fr), some (.int c), some (.int v), some (.int (I 406 (F + (3 + 4 * i)))), some (.int (I 406 (F + (4 + 4 * i)))), some (.int (nx + 1)), some (.int s), some (.int t), some (.int tt)] [] (n, SH1, I, J)
            show dw_ok (pr_X12_sees K) 159 0 0 [some (.ref 404), some (.int fr), some (.int c), some (.int v), some (.int (I 406 (F + (3 + 4 * i)))), some (.int (I 406 (F + (4 + 4 * i)))), some (.int (nx + 1)), some (.int s), some (.int t), some (.int tt)] [] (n, SH1, I, J)
            obtain ⟨nx1, hnx1⟩ : ∃ z, z = (nx + 1) := ⟨_, rfl⟩
            rw [← hnx1]
            have enx1 : nx1.toInt = ((i + 1 : Nat) : Int) := by rw [hnx1]; exact ix_1 hnx (by omega)
            refine q_goto rfl ?_
            exact ih (i + 1) (c) (v) ((I 406 (F + (3 + 4 * i)))) ((I 406 (F + (4 + 4 * i)))) (s) (nx1) _ (by omega) enx1 (fun j g1 g2 => hge j (by omega) g2) (fun j hj => by
              by_cases e : j = i
              · rw [e]; omega
              · exact hle j (by omega)) (cv_2 (S := (fun j => I 406 (F + j))) (by omega) (by omega) hv)
        · have y5 : ((I 406 (F + (1 + 4 * i)))).toInt = (1 : Int) := y5
          refine q_ald rfl rfl ?_
          refine q_getr rfl sk_404 sr_404_6 ?_
          refine q_ild rfl rfl ?_
          refine q_ic rfl ?_
          refine q_add rfl ?_
          show dw_ok (pr_X12_sees K) 107 0 0 [some (.ref 404), some (.int fr), some (.int c), some (.int v), some (.int a), some (.int l), some (.int nx), some (.int s), some (.int t), some (.int tt)] [.int (tt + (2 : Int32)), .ref 406] (n, SH1, I, J)
          obtain ⟨z3, hz3⟩ : ∃ z, z = (tt + (2 : Int32)) := ⟨_, rfl⟩
          rw [← hz3]
          have ez3 : z3.toInt = ((F + (3 + 4 * i) : Nat) : Int) := by rw [hz3]; exact ((ix_a (m := 2) ett rfl (by omega)).trans (congrArg Nat.cast (by omega)))
          refine q_xald rfl (Or.inl rfl) sk_406 sn_406 (by omega) (by omega) ?_
          show dw_ok (pr_X12_sees K) 108 0 0 [some (.ref 404), some (.int fr), some (.int c), some (.int v), some (.int a), some (.int l), some (.int nx), some (.int s), some (.int t), some (.int tt)] [.int (I 406 (z3).toInt.toNat)] (n, SH1, I, J)
          rw [(nat_of ez3)]
          refine q_ist rfl rfl ?_
          show dw_ok (pr_X12_sees K) 109 0 0 [some (.ref 404), some (.int fr), some (.int c), some (.int (I 406 (F + (3 + 4 * i)))), some (.int a), some (.int l), some (.int nx), some (.int s), some (.int t), some (.int tt)] [] (n, SH1, I, J)
          refine q_ald rfl rfl ?_
          refine q_getr rfl sk_404 sr_404_6 ?_
          refine q_ild rfl rfl ?_
          refine q_xald rfl (Or.inl rfl) sk_406 sn_406 (by omega) (by omega) ?_
          show dw_ok (pr_X12_sees K) 116 0 0 [some (.ref 404), some (.int fr), some (.int c), some (.int (I 406 (F + (3 + 4 * i)))), some (.int a), some (.int l), some (.int nx), some (.int s), some (.int t), some (.int tt)] [.int (I 406 (tt).toInt.toNat)] (n, SH1, I, J)
          rw [(nat_of ett)]
          refine q_ic rfl ?_
          refine q_icmp (c := 1) rfl (by decide) (fun y9 => ?_) (fun h => absurd (show ((I 406 (F + (1 + 4 * i)))).toInt = (2 : Int) from h) (by omega))
          have y9 : ((I 406 (F + (1 + 4 * i)))).toInt ≠ (2 : Int) := y9
          refine q_ald rfl rfl ?_
          refine q_getr rfl sk_404 sr_404_6 ?_
          refine q_ild rfl rfl ?_
          refine q_xald rfl (Or.inl rfl) sk_406 sn_406 (by omega) (by omega) ?_
          show dw_ok (pr_X12_sees K) 149 0 0 [some (.ref 404), some (.int fr), some (.int c), some (.int (I 406 (F + (3 + 4 * i)))), some (.int a), some (.int l), some (.int nx), some (.int s), some (.int t), some (.int tt)] [.int (I 406 (tt).toInt.toNat)] (n, SH1, I, J)
          rw [(nat_of ett)]
          refine q_ic rfl ?_
          refine q_icmp (c := 1) rfl (by decide) (fun y10 => ?_) (fun h => absurd (show ((I 406 (F + (1 + 4 * i)))).toInt = (3 : Int) from h) (by omega))
          have y10 : ((I 406 (F + (1 + 4 * i)))).toInt ≠ (3 : Int) := y10
          refine q_inc rfl rfl rfl ?_
          show dw_ok (pr_X12_sees K) 159 0 0 [some (.ref 404), some (.int fr), some (.int c), some (.int (I 406 (F + (3 + 4 * i)))), some (.int a), some (.int l), some (.int (nx + 1)), some (.int s), some (.int t), some (.int tt)] [] (n, SH1, I, J)
          show dw_ok (pr_X12_sees K) 159 0 0 [some (.ref 404), some (.int fr), some (.int c), some (.int (I 406 (F + (3 + 4 * i)))), some (.int a), some (.int l), some (.int (nx + 1)), some (.int s), some (.int t), some (.int tt)] [] (n, SH1, I, J)
          obtain ⟨nx1, hnx1⟩ : ∃ z, z = (nx + 1) := ⟨_, rfl⟩
          rw [← hnx1]
          have enx1 : nx1.toInt = ((i + 1 : Nat) : Int) := by rw [hnx1]; exact ix_1 hnx (by omega)
          refine q_goto rfl ?_
          exact ih (i + 1) (c) ((I 406 (F + (3 + 4 * i)))) (a) (l) (s) (nx1) _ (by omega) enx1 (fun j g1 g2 => hge j (by omega) g2) (fun j hj => by
            by_cases e : j = i
            · rw [e]; omega
            · exact hle j (by omega)) (cv_1 (S := (fun j => I 406 (F + j))) (by omega) (by omega) hv)
      · have y4 : ((I 406 (F + (1 + 4 * i)))).toInt = 0 := y4
        refine q_ald rfl rfl ?_
        refine q_getr rfl sk_404 sr_404_6 ?_
        refine q_ild rfl rfl ?_
        refine q_ic rfl ?_
        refine q_add rfl ?_
        show dw_ok (pr_X12_sees K) 86 0 0 [some (.ref 404), some (.int fr), some (.int c), some (.int v), some (.int a), some (.int l), some (.int nx), some (.int s), some (.int t), some (.int tt)] [.int (tt + (2 : Int32)), .ref 406] (n, SH1, I, J)
        obtain ⟨z3, hz3⟩ : ∃ z, z = (tt + (2 : Int32)) := ⟨_, rfl⟩
        rw [← hz3]
        have ez3 : z3.toInt = ((F + (3 + 4 * i) : Nat) : Int) := by rw [hz3]; exact ((ix_a (m := 2) ett rfl (by omega)).trans (congrArg Nat.cast (by omega)))
        refine q_xald rfl (Or.inl rfl) sk_406 sn_406 (by omega) (by omega) ?_
        show dw_ok (pr_X12_sees K) 87 0 0 [some (.ref 404), some (.int fr), some (.int c), some (.int v), some (.int a), some (.int l), some (.int nx), some (.int s), some (.int t), some (.int tt)] [.int (I 406 (z3).toInt.toNat)] (n, SH1, I, J)
        rw [(nat_of ez3)]
        refine q_ist rfl rfl ?_
        show dw_ok (pr_X12_sees K) 88 0 0 [some (.ref 404), some (.int fr), some (.int (I 406 (F + (3 + 4 * i)))), some (.int v), some (.int a), some (.int l), some (.int nx), some (.int s), some (.int t), some (.int tt)] [] (n, SH1, I, J)
        refine q_ald rfl rfl ?_
        refine q_getr rfl sk_404 sr_404_6 ?_
        refine q_ild rfl rfl ?_
        refine q_xald rfl (Or.inl rfl) sk_406 sn_406 (by omega) (by omega) ?_
        show dw_ok (pr_X12_sees K) 95 0 0 [some (.ref 404), some (.int fr), some (.int (I 406 (F + (3 + 4 * i)))), some (.int v), some (.int a), some (.int l), some (.int nx), some (.int s), some (.int t), some (.int tt)] [.int (I 406 (tt).toInt.toNat)] (n, SH1, I, J)
        rw [(nat_of ett)]
        refine q_ic rfl ?_
        refine q_icmp (c := 1) rfl (by decide) (fun y11 => ?_) (fun h => absurd (show ((I 406 (F + (1 + 4 * i)))).toInt = (1 : Int) from h) (by omega))
        have y11 : ((I 406 (F + (1 + 4 * i)))).toInt ≠ (1 : Int) := y11
        refine q_ald rfl rfl ?_
        refine q_getr rfl sk_404 sr_404_6 ?_
        refine q_ild rfl rfl ?_
        refine q_xald rfl (Or.inl rfl) sk_406 sn_406 (by omega) (by omega) ?_
        show dw_ok (pr_X12_sees K) 116 0 0 [some (.ref 404), some (.int fr), some (.int (I 406 (F + (3 + 4 * i)))), some (.int v), some (.int a), some (.int l), some (.int nx), some (.int s), some (.int t), some (.int tt)] [.int (I 406 (tt).toInt.toNat)] (n, SH1, I, J)
        rw [(nat_of ett)]
        refine q_ic rfl ?_
        refine q_icmp (c := 1) rfl (by decide) (fun y12 => ?_) (fun h => absurd (show ((I 406 (F + (1 + 4 * i)))).toInt = (2 : Int) from h) (by omega))
        have y12 : ((I 406 (F + (1 + 4 * i)))).toInt ≠ (2 : Int) := y12
        refine q_ald rfl rfl ?_
        refine q_getr rfl sk_404 sr_404_6 ?_
        refine q_ild rfl rfl ?_
        refine q_xald rfl (Or.inl rfl) sk_406 sn_406 (by omega) (by omega) ?_
        show dw_ok (pr_X12_sees K) 149 0 0 [some (.ref 404), some (.int fr), some (.int (I 406 (F + (3 + 4 * i)))), some (.int v), some (.int a), some (.int l), some (.int nx), some (.int s), some (.int t), some (.int tt)] [.int (I 406 (tt).toInt.toNat)] (n, SH1, I, J)
        rw [(nat_of ett)]
        refine q_ic rfl ?_
        refine q_icmp (c := 1) rfl (by decide) (fun y13 => ?_) (fun h => absurd (show ((I 406 (F + (1 + 4 * i)))).toInt = (3 : Int) from h) (by omega))
        have y13 : ((I 406 (F + (1 + 4 * i)))).toInt ≠ (3 : Int) := y13
        refine q_inc rfl rfl rfl ?_
        show dw_ok (pr_X12_sees K) 159 0 0 [some (.ref 404), some (.int fr), some (.int (I 406 (F + (3 + 4 * i)))), some (.int v), some (.int a), some (.int l), some (.int (nx + 1)), some (.int s), some (.int t), some (.int tt)] [] (n, SH1, I, J)
        show dw_ok (pr_X12_sees K) 159 0 0 [some (.ref 404), some (.int fr), some (.int (I 406 (F + (3 + 4 * i)))), some (.int v), some (.int a), some (.int l), some (.int (nx + 1)), some (.int s), some (.int t), some (.int tt)] [] (n, SH1, I, J)
        obtain ⟨nx1, hnx1⟩ : ∃ z, z = (nx + 1) := ⟨_, rfl⟩
        rw [← hnx1]
        have enx1 : nx1.toInt = ((i + 1 : Nat) : Int) := by rw [hnx1]; exact ix_1 hnx (by omega)
        refine q_goto rfl ?_
        exact ih (i + 1) ((I 406 (F + (3 + 4 * i)))) (v) (a) (l) (s) (nx1) _ (by omega) enx1 (fun j g1 g2 => hge j (by omega) g2) (fun j hj => by
          by_cases e : j = i
          · rw [e]; omega
          · exact hle j (by omega)) (cv_0 (S := (fun j => I 406 (F + j))) (by omega) (by omega) hv)
set_option maxRecDepth 8000 in
set_option maxHeartbeats 4000000 in
theorem se_out {n : Nat} {J : Nat → Nat → Int64} {K : dw_K} {fr : Int32} {F L : Nat} {I0 : Nat → Nat → Int32} (hF : fr.toInt = F) (hFb : F + 97 ≤ 1427) (hS : nsOK (fun j => I0 406 (F + j)) L)
    (hk : ∀ I' : Nat → Nat → Int32, (∀ a, (a < 411 ∨ 415 < a) → I' a = I0 a) → (∀ w, w < 5 → ∀ t, t < 144 → I' (411 + w) t = ndF (uaF (msL (fun j => I0 406 (F + j)) L)) w t) → K none (n, SH1, I', J)) :
    ∀ (f τ i : Nat) (c v a l s nx t : Int32) (s9 : Option Value) (I : Nat → Nat → Int32), τ + f = 144 → t.toInt = τ → i ≤ L → nx.toInt = i → (∀ j, i ≤ j → j < L → (τ : Int) ≤ (I0 406 (F + (2 + 4 * j))).toInt) → (∀ j, j < i → (I0 406 (F + (2 + 4 * j))).toInt ≤ τ) → cvF (fun j => I0 406 (F + j)) i c v a l s → (∀ a, (a < 411 ∨ 415 < a) → I a = I0 a) → (∀ w, w < 5 → ∀ t, t < τ → I (411 + w) t = ndF (uaF (msL (fun j => I0 406 (F + j)) L)) w t) → dw_ok (pr_X12_sees K) 21 0 0 [some (.ref 404), some (.int fr), some (.int c), some (.int v), some (.int a), some (.int l), some (.int nx), some (.int s), some (.int t), s9] [] (n, SH1, I, J) := by
  have k144 : (144 : Int32).toInt = 144 := rfl
  have k1 : (1 : Int32).toInt = 1 := rfl
  intro f
  induction f with
  | zero =>
    intro τ i c v a l s nx t s9 I hf ht hi hnx hge hle hv hA hB
    refine q_ild rfl rfl ?_
    refine q_ic rfl ?_
    refine q_icmp (c := 3) rfl (by decide) (fun y1 => ?_) (fun h => absurd (show (t).toInt < (144 : Int) from h) (by omega))
    have y1 : (144 : Int) ≤ (t).toInt := y1
    exact q_vret rfl (hk I hA (fun w hw t ht => hB w hw t (by omega)))
  | succ f ih =>
    intro τ i c v a l s nx t s9 I hf ht hi hnx hge hle hv hA hB
    have h406 : I 406 = I0 406 := hA 406 (by decide)
    have htn : t.toInt.toNat = τ := by omega
    refine q_ild rfl rfl ?_
    refine q_ic rfl ?_
    refine q_icmp (c := 3) rfl (by decide) (fun h => absurd (show (144 : Int) ≤ (t).toInt from h) (by omega)) (fun y2 => ?_)
    have y2 : (t).toInt < (144 : Int) := y2
    refine se_in (L := L) (τ := τ) hF hFb (by rw [h406]; exact hS) ht (fun i' c v a l s nx' s9 hi' hnx' hgt hle' hv' => ?_) (L - i) i c v a l s nx _ (by omega) hnx (by rw [h406]; exact hge) (by rw [h406]; exact hle) (by rw [h406]; exact hv)
    rw [h406] at hgt hle' hv'
    show dw_ok (pr_X12_sees K) 162 0 0 [some (.ref 404), some (.int fr), some (.int c), some (.int v), some (.int a), some (.int l), some (.int nx'), some (.int s), some (.int t), s9] [] (n, SH1, I, J)
    refine q_ald rfl rfl ?_
    refine q_getr rfl sk_404 sr_404_23 ?_
    refine q_ild rfl rfl ?_
    refine q_ild rfl rfl ?_
    refine q_iast rfl sk_411 sn_411 (by omega) (by omega) ?_
    show dw_ok (pr_X12_sees K) 170 0 0 [some (.ref 404), some (.int fr), some (.int c), some (.int v), some (.int a), some (.int l), some (.int nx'), some (.int s), some (.int t), s9] [] (n, SH1, (dw_up I 411 (t).toInt.toNat c), J)
    rw [htn]
    refine q_ald rfl rfl ?_
    refine q_getr rfl sk_404 sr_404_24 ?_
    refine q_ild rfl rfl ?_
    refine q_ild rfl rfl ?_
    refine q_iast rfl sk_412 sn_412 (by omega) (by omega) ?_
    show dw_ok (pr_X12_sees K) 178 0 0 [some (.ref 404), some (.int fr), some (.int c), some (.int v), some (.int a), some (.int l), some (.int nx'), some (.int s), some (.int t), s9] [] (n, SH1, (dw_up (dw_up I 411 τ c) 412 (t).toInt.toNat v), J)
    rw [htn]
    refine q_ald rfl rfl ?_
    refine q_getr rfl sk_404 sr_404_25 ?_
    refine q_ild rfl rfl ?_
    refine q_ild rfl rfl ?_
    refine q_iast rfl sk_413 sn_413 (by omega) (by omega) ?_
    show dw_ok (pr_X12_sees K) 187 0 0 [some (.ref 404), some (.int fr), some (.int c), some (.int v), some (.int a), some (.int l), some (.int nx'), some (.int s), some (.int t), s9] [] (n, SH1, (dw_up (dw_up (dw_up I 411 τ c) 412 τ v) 413 (t).toInt.toNat a), J)
    rw [htn]
    refine q_ald rfl rfl ?_
    refine q_getr rfl sk_404 sr_404_26 ?_
    refine q_ild rfl rfl ?_
    refine q_ild rfl rfl ?_
    refine q_iast rfl sk_414 sn_414 (by omega) (by omega) ?_
    show dw_ok (pr_X12_sees K) 196 0 0 [some (.ref 404), some (.int fr), some (.int c), some (.int v), some (.int a), some (.int l), some (.int nx'), some (.int s), some (.int t), s9] [] (n, SH1, (dw_up (dw_up (dw_up (dw_up I 411 τ c) 412 τ v) 413 τ a) 414 (t).toInt.toNat l), J)
    rw [htn]
    refine q_ald rfl rfl ?_
    refine q_getr rfl sk_404 sr_404_27 ?_
    refine q_ild rfl rfl ?_
    refine q_ild rfl rfl ?_
    refine q_iast rfl sk_415 sn_415 (by omega) (by omega) ?_
    show dw_ok (pr_X12_sees K) 205 0 0 [some (.ref 404), some (.int fr), some (.int c), some (.int v), some (.int a), some (.int l), some (.int nx'), some (.int s), some (.int t), s9] [] (n, SH1, (dw_up (dw_up (dw_up (dw_up (dw_up I 411 τ c) 412 τ v) 413 τ a) 414 τ l) 415 (t).toInt.toNat s), J)
    rw [htn]
    refine q_inc rfl rfl rfl ?_
    show dw_ok (pr_X12_sees K) 208 0 0 [some (.ref 404), some (.int fr), some (.int c), some (.int v), some (.int a), some (.int l), some (.int nx'), some (.int s), some (.int (t + 1)), s9] [] (n, SH1, (dw_up (dw_up (dw_up (dw_up (dw_up I 411 τ c) 412 τ v) 413 τ a) 414 τ l) 415 τ s), J)
    refine q_goto rfl ?_
    have ev : ∀ w, ndF (uaF (msL (fun j => I0 406 (F + j)) L)) w τ = curF (fun j => I0 406 (F + j)) i' w := fun w => nd_cur (by omega) hi' hle' hgt
    obtain ⟨v0, v1, v2, v3, v4⟩ := id hv'
    refine ih (τ + 1) i' c v a l s nx' (t + 1) _ (dw_up (dw_up (dw_up (dw_up (dw_up I 411 τ c) 412 τ v) 413 τ a) 414 τ l) 415 τ s) (by omega) (by rw [i_add (by omega) (by omega), k1, ht]; omega) hi' hnx' (fun j g1 g2 => by have := hgt j g1 g2; omega) (fun j hj => by have := hle' j hj; omega) hv' (fun a ha => ?_) (fun w hw t' ht' => ?_)
    · exact ((up_row (show a ≠ 415 by omega)).trans ((up_row (show a ≠ 414 by omega)).trans ((up_row (show a ≠ 413 by omega)).trans ((up_row (show a ≠ 412 by omega)).trans ((up_row (show a ≠ 411 by omega)).trans (hA a ha))))))
    · by_cases e : t' = τ
      · rw [e, ev w]
        match w, hw with
        | 0, _ => exact ((up_ne (Or.inl (by decide))).trans ((up_ne (Or.inl (by decide))).trans ((up_ne (Or.inl (by decide))).trans ((up_ne (Or.inl (by decide))).trans (up_same))))).trans v0
        | 1, _ => exact ((up_ne (Or.inl (by decide))).trans ((up_ne (Or.inl (by decide))).trans ((up_ne (Or.inl (by decide))).trans (up_same)))).trans v1
        | 2, _ => exact ((up_ne (Or.inl (by decide))).trans ((up_ne (Or.inl (by decide))).trans (up_same))).trans v2
        | 3, _ => exact ((up_ne (Or.inl (by decide))).trans (up_same)).trans v3
        | 4, _ => exact (up_same).trans v4
        | k + 5, h => exact absurd h (by omega)
      · refine Eq.trans ?_ (hB w hw t' (by omega))
        match w, hw with
        | 0, _ => exact ((up_ne (Or.inl (by decide))).trans ((up_ne (Or.inl (by decide))).trans ((up_ne (Or.inl (by decide))).trans ((up_ne (Or.inl (by decide))).trans (up_fld e)))))
        | 1, _ => exact ((up_ne (Or.inl (by decide))).trans ((up_ne (Or.inl (by decide))).trans ((up_ne (Or.inl (by decide))).trans ((up_fld e).trans (up_ne (Or.inl (by decide)))))))
        | 2, _ => exact ((up_ne (Or.inl (by decide))).trans ((up_ne (Or.inl (by decide))).trans ((up_fld e).trans ((up_ne (Or.inl (by decide))).trans (up_ne (Or.inl (by decide)))))))
        | 3, _ => exact ((up_ne (Or.inl (by decide))).trans ((up_fld e).trans ((up_ne (Or.inl (by decide))).trans ((up_ne (Or.inl (by decide))).trans (up_ne (Or.inl (by decide)))))))
        | 4, _ => exact ((up_fld e).trans ((up_ne (Or.inl (by decide))).trans ((up_ne (Or.inl (by decide))).trans ((up_ne (Or.inl (by decide))).trans (up_ne (Or.inl (by decide)))))))
        | k + 5, h => exact absurd h (by omega)
set_option maxRecDepth 8000 in
theorem v_sees {n : Nat} {I : Nat → Nat → Int32} {J : Nat → Nat → Int64} {K : dw_K} {fr : Int32} {F L : Nat} (hF : fr.toInt = F) (hFb : F + 97 ≤ 1427) (hS : nsOK (fun j => I 406 (F + j)) L) (hk : ∀ I' : Nat → Nat → Int32, (∀ a, (a < 411 ∨ 415 < a) → I' a = I a) → (∀ w, w < 5 → ∀ t, t < 144 → I' (411 + w) t = ndF (uaF (msL (fun j => I 406 (F + j)) L)) w t) → K none (n, SH1, I', J)) : t_X12_sees [.ref 404, .int fr] (n, SH1, I, J) K := by
  refine q_body (Nat.le_of_ble_eq_true rfl) ?_
  refine q_ic rfl ?_
  refine q_ist rfl rfl ?_
  show dw_ok (pr_X12_sees K) 2 0 0 [some (.ref 404), some (.int fr), some (.int (0 : Int32)), none, none, none, none, none, none, none] [] (n, SH1, I, J)
  refine q_ic rfl ?_
  refine q_ist rfl rfl ?_
  show dw_ok (pr_X12_sees K) 4 0 0 [some (.ref 404), some (.int fr), some (.int (0 : Int32)), some (.int (0 : Int32)), none, none, none, none, none, none] [] (n, SH1, I, J)
  refine q_ic rfl ?_
  refine q_ist rfl rfl ?_
  show dw_ok (pr_X12_sees K) 8 0 0 [some (.ref 404), some (.int fr), some (.int (0 : Int32)), some (.int (0 : Int32)), some (.int (10 : Int32)), none, none, none, none, none] [] (n, SH1, I, J)
  refine q_ic rfl ?_
  refine q_ist rfl rfl ?_
  show dw_ok (pr_X12_sees K) 12 0 0 [some (.ref 404), some (.int fr), some (.int (0 : Int32)), some (.int (0 : Int32)), some (.int (10 : Int32)), some (.int (8 : Int32)), none, none, none, none] [] (n, SH1, I, J)
  refine q_ic rfl ?_
  refine q_ist rfl rfl ?_
  show dw_ok (pr_X12_sees K) 15 0 0 [some (.ref 404), some (.int fr), some (.int (0 : Int32)), some (.int (0 : Int32)), some (.int (10 : Int32)), some (.int (8 : Int32)), some (.int (0 : Int32)), none, none, none] [] (n, SH1, I, J)
  refine q_ic rfl ?_
  refine q_ist rfl rfl ?_
  show dw_ok (pr_X12_sees K) 18 0 0 [some (.ref 404), some (.int fr), some (.int (0 : Int32)), some (.int (0 : Int32)), some (.int (10 : Int32)), some (.int (8 : Int32)), some (.int (0 : Int32)), some (.int (0 : Int32)), none, none] [] (n, SH1, I, J)
  refine q_ic rfl ?_
  refine q_ist rfl rfl ?_
  show dw_ok (pr_X12_sees K) 21 0 0 [some (.ref 404), some (.int fr), some (.int (0 : Int32)), some (.int (0 : Int32)), some (.int (10 : Int32)), some (.int (8 : Int32)), some (.int (0 : Int32)), some (.int (0 : Int32)), some (.int (0 : Int32)), none] [] (n, SH1, I, J)
  exact se_out (I0 := I) hF hFb hS hk 144 0 0 0 0 10 8 0 0 0 none I rfl rfl (Nat.zero_le _) rfl (fun j _ hj => (hS.2.2.1 j hj).2.2.1) (fun j hj => absurd hj (Nat.not_lt_zero j)) ⟨rfl, rfl, rfl, rfl, rfl⟩ (fun _ _ => rfl) (fun w _ t ht => absurd ht (Nat.not_lt_zero t))
/-! ===== the sky of a CELL, by the model ===== -/
def shM (S : Nat → Int32) (i : Nat) : Int32 × Int32 × Int32 × Int32 := (S (173 + 4 * i), S (174 + 4 * i), S (175 + 4 * i), S (176 + 4 * i))
def mhF (S : Nat → Int32) (x y : Int) : Nat → Int
  | 0 => 0
  | i + 1 => mhF S x y i + shF (shM S i) x y
abbrev skM (S : Nat → Int32) (C H j : Nat) : Int := max 0 (100 - mhF S ((j % C : Nat) : Int) ((j / C : Nat) : Int) H)
abbrev mgOK (S : Nat → Int32) (C R H : Nat) : Prop := (S 0).toInt = C ∧ (S 1).toInt = R ∧ (S 3).toInt = H ∧ C ≤ 12 ∧ R ≤ 12 ∧ H ≤ 12 ∧ ∀ j, 173 ≤ j → j < 173 + 4 * H → 0 ≤ (S j).toInt ∧ (S j).toInt ≤ 100
set_option maxRecDepth 8000 in
theorem mg_N {S : Nat → Int32} {C R H : Nat} (h : mgOK S C R H) : (S 0 * S 1).toInt = (C * R : Nat) ∧ C * R ≤ 144 := by
  obtain ⟨h0, h1, -, h3, h4, -⟩ := h
  have h5 : C * R ≤ 12 * 12 := Nat.mul_le_mul h3 h4
  refine ⟨?_, h5⟩
  rw [i_mulB (by rw [h0, h1, ← Int.natCast_mul]; omega) (by rw [h0, h1, ← Int.natCast_mul]; omega), h0, h1, ← Int.natCast_mul]
set_option maxRecDepth 8000 in
theorem mh_b {S : Nat → Int32} {x y : Int} {H : Nat} (hb : ∀ j, 173 ≤ j → j < 173 + 4 * H → 0 ≤ (S j).toInt ∧ (S j).toInt ≤ 100) : ∀ i : Nat, i ≤ H → 0 ≤ mhF S x y i ∧ mhF S x y i ≤ 100 * i
  | 0, _ => ⟨Int.le_refl 0, Int.le_refl 0⟩
  | i + 1, h => by
    have h1 := mh_b (x := x) (y := y) hb i (by omega)
    have h2 := hb (176 + 4 * i) (by omega) (by omega)
    show 0 ≤ mhF S x y i + shF (shM S i) x y ∧ mhF S x y i + shF (shM S i) x y ≤ 100 * ((i + 1 : Nat) : Int)
    have h3 : 0 ≤ shF (shM S i) x y ∧ shF (shM S i) x y ≤ 100 := by
      unfold shF
      split
      · exact h2
      · exact ⟨Int.le_refl 0, by decide⟩
    omega
set_option maxRecDepth 8000 in
set_option maxHeartbeats 4000000 in
theorem sko_loop {n : Nat} {I : Nat → Nat → Int32} {J : Nat → Nat → Int64} {K : dw_K} {c xx yy : Int32} {X Y H : Nat} (hX : xx.toInt = X) (hX9 : X ≤ 1000) (hY : yy.toInt = Y) (hY9 : Y ≤ 1000) (hH : (I 406 3).toInt = H) (hH12 : H ≤ 12) (hb : ∀ j, 173 ≤ j → j < 173 + 4 * H → 0 ≤ (I 406 j).toInt ∧ (I 406 j).toInt ≤ 100)
    (hk : ∀ w : Int32, w.toInt = max 0 (100 - mhF (I 406) X Y H) → K (some (.int w)) (n, SH1, I, J)) :
    ∀ (f i : Nat) (v kk : Int32) (s6 : Option Value), i + f = H → kk.toInt = i → v.toInt = 100 - mhF (I 406) X Y i → dw_ok (pr_X12_skyOf K) 25 0 0 [some (.ref 404), some (.int c), some (.int xx), some (.int yy), some (.int v), some (.int kk), s6] [] (n, SH1, I, J) := by
  have k0 : (0 : Int32).toInt = 0 := rfl
  have k1 : (1 : Int32).toInt = 1 := rfl
  have k2 : (2 : Int32).toInt = 2 := rfl
  have k3 : (3 : Int32).toInt = 3 := rfl
  have k4 : (4 : Int32).toInt = 4 := rfl
  have k173 : (173 : Int32).toInt = 173 := rfl
  intro f
  induction f with
  | zero =>
    intro i v kk s6 hi hkk hv
    obtain rfl : i = H := by omega
    refine q_ild rfl rfl ?_
    refine q_ald rfl rfl ?_
    refine q_getr rfl sk_404 sr_404_6 ?_
    refine q_ic rfl ?_
    refine q_xald rfl (Or.inl rfl) sk_406 sn_406 (by decide) (by decide) ?_
    refine q_icmp (c := 3) rfl (by decide) (fun y1 => ?_) (fun h => absurd (show (kk).toInt < ((I 406 3)).toInt from h) (by omega))
    have y1 : ((I 406 3)).toInt ≤ (kk).toInt := y1
    refine q_ild rfl rfl ?_
    refine q_if (c := 5) rfl (by decide) (fun y2 => ?_) (fun y2 => ?_)
    · have y2 : (v).toInt ≤ 0 := y2
      refine q_ic rfl ?_
      exact q_iret rfl (hk _ (by omega))
    · have y2 : 0 < (v).toInt := y2
      refine q_ild rfl rfl ?_
      refine q_goto rfl ?_
      exact q_iret rfl (hk _ (by omega))
  | succ f ih =>
    intro i v kk s6 hi hkk hv
    have b0 := hb (173 + 4 * i) (by omega) (by omega)
    have b1 := hb (174 + 4 * i) (by omega) (by omega)
    have b2 := hb (175 + 4 * i) (by omega) (by omega)
    have b3 := hb (176 + 4 * i) (by omega) (by omega)
    have mb := mh_b (x := X) (y := Y) hb i (by omega)
    have es : mhF (I 406) X Y (i + 1) = mhF (I 406) X Y i + shF (shM (I 406) i) X Y := rfl
    refine q_ild rfl rfl ?_
    refine q_ald rfl rfl ?_
    refine q_getr rfl sk_404 sr_404_6 ?_
    refine q_ic rfl ?_
    refine q_xald rfl (Or.inl rfl) sk_406 sn_406 (by decide) (by decide) ?_
    refine q_icmp (c := 3) rfl (by decide) (fun h => absurd (show ((I 406 3)).toInt ≤ (kk).toInt from h) (by omega)) (fun y3 => ?_)
    have y3 : (kk).toInt < ((I 406 3)).toInt := y3
    refine q_ic rfl ?_
    refine q_ic rfl ?_
    refine q_ild rfl rfl ?_
    refine q_mul rfl ?_
    refine q_add rfl ?_
    show dw_ok (pr_X12_skyOf K) 44 0 0 [some (.ref 404), some (.int c), some (.int xx), some (.int yy), some (.int v), some (.int kk), s6] [.int ((173 : Int32) + ((4 : Int32) * kk))] (n, SH1, I, J)
    obtain ⟨tt, htt⟩ : ∃ z, z = ((173 : Int32) + ((4 : Int32) * kk)) := ⟨_, rfl⟩
    rw [← htt]
    have ett : tt.toInt = ((173 + 4 * i : Nat) : Int) := by rw [htt]; exact (ix_a (x := 173) (a := 173) rfl (ix_m (m := 4) hkk rfl (by omega)) (by omega))
    refine q_ist rfl rfl ?_
    show dw_ok (pr_X12_skyOf K) 46 0 0 [some (.ref 404), some (.int c), some (.int xx), some (.int yy), some (.int v), some (.int kk), some (.int tt)] [] (n, SH1, I, J)
    refine q_ild rfl rfl ?_
    refine q_ald rfl rfl ?_
    refine q_getr rfl sk_404 sr_404_6 ?_
    refine q_ild rfl rfl ?_
    refine q_xald rfl (Or.inl rfl) sk_406 sn_406 (by omega) (by omega) ?_
    show dw_ok (pr_X12_skyOf K) 54 0 0 [some (.ref 404), some (.int c), some (.int xx), some (.int yy), some (.int v), some (.int kk), some (.int tt)] [.int (I 406 (tt).toInt.toNat), .int xx] (n, SH1, I, J)
    rw [(nat_of ett)]
    refine q_sub rfl ?_
    show dw_ok (pr_X12_skyOf K) 55 0 0 [some (.ref 404), some (.int c), some (.int xx), some (.int yy), some (.int v), some (.int kk), some (.int tt)] [.int (xx - (I 406 (173 + 4 * i)))] (n, SH1, I, J)
    obtain ⟨dx, hdx⟩ : ∃ z, z = (xx - (I 406 (173 + 4 * i))) := ⟨_, rfl⟩
    rw [← hdx]
    have edx : dx.toInt = X - (I 406 (173 + 4 * i)).toInt := by rw [hdx]; exact ((i_sub (by omega) (by omega)).trans (by rw [hX]))
    refine q_ald rfl rfl ?_
    refine q_getr rfl sk_404 sr_404_6 ?_
    refine q_ild rfl rfl ?_
    refine q_ic rfl ?_
    refine q_add rfl ?_
    show dw_ok (pr_X12_skyOf K) 63 0 0 [some (.ref 404), some (.int c), some (.int xx), some (.int yy), some (.int v), some (.int kk), some (.int tt)] [.int (tt + (2 : Int32)), .ref 406, .int dx] (n, SH1, I, J)
    obtain ⟨t2, ht2⟩ : ∃ z, z = (tt + (2 : Int32)) := ⟨_, rfl⟩
    rw [← ht2]
    have et2 : t2.toInt = ((175 + 4 * i : Nat) : Int) := by rw [ht2]; exact ((ix_a (m := 2) ett rfl (by omega)).trans (congrArg Nat.cast (by omega)))
    refine q_xald rfl (Or.inl rfl) sk_406 sn_406 (by omega) (by omega) ?_
    show dw_ok (pr_X12_skyOf K) 64 0 0 [some (.ref 404), some (.int c), some (.int xx), some (.int yy), some (.int v), some (.int kk), some (.int tt)] [.int (I 406 (t2).toInt.toNat), .int dx] (n, SH1, I, J)
    rw [(nat_of et2)]
    refine q_neg rfl ?_
    show dw_ok (pr_X12_skyOf K) 65 0 0 [some (.ref 404), some (.int c), some (.int xx), some (.int yy), some (.int v), some (.int kk), some (.int tt)] [.int (-(I 406 (175 + 4 * i))), .int dx] (n, SH1, I, J)
    obtain ⟨dr, hdr⟩ : ∃ z, z = (-(I 406 (175 + 4 * i))) := ⟨_, rfl⟩
    rw [← hdr]
    have edr : dr.toInt = -(I 406 (175 + 4 * i)).toInt := by rw [hdr]; exact ((Int32.toInt_neg _).trans (dx_bm (by omega) (by omega)))
    refine q_ald rfl rfl ?_
    refine q_getr rfl sk_404 sr_404_6 ?_
    refine q_ild rfl rfl ?_
    refine q_ic rfl ?_
    refine q_add rfl ?_
    show dw_ok (pr_X12_skyOf K) 73 0 0 [some (.ref 404), some (.int c), some (.int xx), some (.int yy), some (.int v), some (.int kk), some (.int tt)] [.int (tt + (2 : Int32)), .ref 406, .int dr, .int dx] (n, SH1, I, J)
    obtain ⟨t2, ht2⟩ : ∃ z, z = (tt + (2 : Int32)) := ⟨_, rfl⟩
    rw [← ht2]
    have et2 : t2.toInt = ((175 + 4 * i : Nat) : Int) := by rw [ht2]; exact ((ix_a (m := 2) ett rfl (by omega)).trans (congrArg Nat.cast (by omega)))
    refine q_xald rfl (Or.inl rfl) sk_406 sn_406 (by omega) (by omega) ?_
    show dw_ok (pr_X12_skyOf K) 74 0 0 [some (.ref 404), some (.int c), some (.int xx), some (.int yy), some (.int v), some (.int kk), some (.int tt)] [.int (I 406 (t2).toInt.toNat), .int dr, .int dx] (n, SH1, I, J)
    rw [(nat_of et2)]
    refine q_callS (as := [.int dx, .int dr, .int (I 406 (175 + 4 * i))]) (rest := []) rfl rfl rfl rfl ?_
    refine v_isIn (fun w_ g4 => ?_)
    rcases g4 with ⟨rfl, g4⟩ | ⟨rfl, g4⟩
    · show dw_ok (pr_X12_skyOf K) 77 0 0 [some (.ref 404), some (.int c), some (.int xx), some (.int yy), some (.int v), some (.int kk), some (.int tt)] [.int (1 : Int32)] (n, SH1, I, J)
      refine q_if (c := 0) rfl (by decide) (fun h => absurd (show (1 : Int) = 0 from h) (by decide)) (fun y5 => ?_)
      have y5 : (1 : Int) ≠ 0 := y5
      refine q_ild rfl rfl ?_
      refine q_ald rfl rfl ?_
      refine q_getr rfl sk_404 sr_404_6 ?_
      refine q_ild rfl rfl ?_
      refine q_ic rfl ?_
      refine q_add rfl ?_
      show dw_ok (pr_X12_skyOf K) 89 0 0 [some (.ref 404), some (.int c), some (.int xx), some (.int yy), some (.int v), some (.int kk), some (.int tt)] [.int (tt + (1 : Int32)), .ref 406, .int yy] (n, SH1, I, J)
      obtain ⟨t1, ht1⟩ : ∃ z, z = (tt + (1 : Int32)) := ⟨_, rfl⟩
      rw [← ht1]
      have et1 : t1.toInt = ((174 + 4 * i : Nat) : Int) := by rw [ht1]; exact ((ix_a (m := 1) ett rfl (by omega)).trans (congrArg Nat.cast (by omega)))
      refine q_xald rfl (Or.inl rfl) sk_406 sn_406 (by omega) (by omega) ?_
      show dw_ok (pr_X12_skyOf K) 90 0 0 [some (.ref 404), some (.int c), some (.int xx), some (.int yy), some (.int v), some (.int kk), some (.int tt)] [.int (I 406 (t1).toInt.toNat), .int yy] (n, SH1, I, J)
      rw [(nat_of et1)]
      refine q_sub rfl ?_
      show dw_ok (pr_X12_skyOf K) 91 0 0 [some (.ref 404), some (.int c), some (.int xx), some (.int yy), some (.int v), some (.int kk), some (.int tt)] [.int (yy - (I 406 (174 + 4 * i)))] (n, SH1, I, J)
      obtain ⟨dy, hdy⟩ : ∃ z, z = (yy - (I 406 (174 + 4 * i))) := ⟨_, rfl⟩
      rw [← hdy]
      have edy : dy.toInt = Y - (I 406 (174 + 4 * i)).toInt := by rw [hdy]; exact ((i_sub (by omega) (by omega)).trans (by rw [hY]))
      refine q_ald rfl rfl ?_
      refine q_getr rfl sk_404 sr_404_6 ?_
      refine q_ild rfl rfl ?_
      refine q_ic rfl ?_
      refine q_add rfl ?_
      show dw_ok (pr_X12_skyOf K) 99 0 0 [some (.ref 404), some (.int c), some (.int xx), some (.int yy), some (.int v), some (.int kk), some (.int tt)] [.int (tt + (2 : Int32)), .ref 406, .int dy] (n, SH1, I, J)
      obtain ⟨t2, ht2⟩ : ∃ z, z = (tt + (2 : Int32)) := ⟨_, rfl⟩
      rw [← ht2]
      have et2 : t2.toInt = ((175 + 4 * i : Nat) : Int) := by rw [ht2]; exact ((ix_a (m := 2) ett rfl (by omega)).trans (congrArg Nat.cast (by omega)))
      refine q_xald rfl (Or.inl rfl) sk_406 sn_406 (by omega) (by omega) ?_
      show dw_ok (pr_X12_skyOf K) 100 0 0 [some (.ref 404), some (.int c), some (.int xx), some (.int yy), some (.int v), some (.int kk), some (.int tt)] [.int (I 406 (t2).toInt.toNat), .int dy] (n, SH1, I, J)
      rw [(nat_of et2)]
      refine q_neg rfl ?_
      show dw_ok (pr_X12_skyOf K) 101 0 0 [some (.ref 404), some (.int c), some (.int xx), some (.int yy), some (.int v), some (.int kk), some (.int tt)] [.int (-(I 406 (175 + 4 * i))), .int dy] (n, SH1, I, J)
      obtain ⟨dr, hdr⟩ : ∃ z, z = (-(I 406 (175 + 4 * i))) := ⟨_, rfl⟩
      rw [← hdr]
      have edr : dr.toInt = -(I 406 (175 + 4 * i)).toInt := by rw [hdr]; exact ((Int32.toInt_neg _).trans (dx_bm (by omega) (by omega)))
      refine q_ald rfl rfl ?_
      refine q_getr rfl sk_404 sr_404_6 ?_
      refine q_ild rfl rfl ?_
      refine q_ic rfl ?_
      refine q_add rfl ?_
      show dw_ok (pr_X12_skyOf K) 109 0 0 [some (.ref 404), some (.int c), some (.int xx), some (.int yy), some (.int v), some (.int kk), some (.int tt)] [.int (tt + (2 : Int32)), .ref 406, .int dr, .int dy] (n, SH1, I, J)
      obtain ⟨t2, ht2⟩ : ∃ z, z = (tt + (2 : Int32)) := ⟨_, rfl⟩
      rw [← ht2]
      have et2 : t2.toInt = ((175 + 4 * i : Nat) : Int) := by rw [ht2]; exact ((ix_a (m := 2) ett rfl (by omega)).trans (congrArg Nat.cast (by omega)))
      refine q_xald rfl (Or.inl rfl) sk_406 sn_406 (by omega) (by omega) ?_
      show dw_ok (pr_X12_skyOf K) 110 0 0 [some (.ref 404), some (.int c), some (.int xx), some (.int yy), some (.int v), some (.int kk), some (.int tt)] [.int (I 406 (t2).toInt.toNat), .int dr, .int dy] (n, SH1, I, J)
      rw [(nat_of et2)]
      refine q_callS (as := [.int dy, .int dr, .int (I 406 (175 + 4 * i))]) (rest := []) rfl rfl rfl rfl ?_
      refine v_isIn (fun w_ g6 => ?_)
      rcases g6 with ⟨rfl, g6⟩ | ⟨rfl, g6⟩
      · show dw_ok (pr_X12_skyOf K) 113 0 0 [some (.ref 404), some (.int c), some (.int xx), some (.int yy), some (.int v), some (.int kk), some (.int tt)] [.int (1 : Int32)] (n, SH1, I, J)
        refine q_if (c := 0) rfl (by decide) (fun h => absurd (show (1 : Int) = 0 from h) (by decide)) (fun y7 => ?_)
        have y7 : (1 : Int) ≠ 0 := y7
        refine q_ild rfl rfl ?_
        refine q_ald rfl rfl ?_
        refine q_getr rfl sk_404 sr_404_6 ?_
        refine q_ild rfl rfl ?_
        refine q_ic rfl ?_
        refine q_add rfl ?_
        show dw_ok (pr_X12_skyOf K) 126 0 0 [some (.ref 404), some (.int c), some (.int xx), some (.int yy), some (.int v), some (.int kk), some (.int tt)] [.int (tt + (3 : Int32)), .ref 406, .int v] (n, SH1, I, J)
        obtain ⟨t3, ht3⟩ : ∃ z, z = (tt + (3 : Int32)) := ⟨_, rfl⟩
        rw [← ht3]
        have et3 : t3.toInt = ((176 + 4 * i : Nat) : Int) := by rw [ht3]; exact ((ix_a (m := 3) ett rfl (by omega)).trans (congrArg Nat.cast (by omega)))
        refine q_xald rfl (Or.inl rfl) sk_406 sn_406 (by omega) (by omega) ?_
        show dw_ok (pr_X12_skyOf K) 127 0 0 [some (.ref 404), some (.int c), some (.int xx), some (.int yy), some (.int v), some (.int kk), some (.int tt)] [.int (I 406 (t3).toInt.toNat), .int v] (n, SH1, I, J)
        rw [(nat_of et3)]
        refine q_sub rfl ?_
        show dw_ok (pr_X12_skyOf K) 128 0 0 [some (.ref 404), some (.int c), some (.int xx), some (.int yy), some (.int v), some (.int kk), some (.int tt)] [.int (v - (I 406 (176 + 4 * i)))] (n, SH1, I, J)
        obtain ⟨dv, hdv⟩ : ∃ z, z = (v - (I 406 (176 + 4 * i))) := ⟨_, rfl⟩
        rw [← hdv]
        have edv : dv.toInt = v.toInt - (I 406 (176 + 4 * i)).toInt := by rw [hdv]; exact i_sub (by omega) (by omega)
        refine q_ist rfl rfl ?_
        show dw_ok (pr_X12_skyOf K) 130 0 0 [some (.ref 404), some (.int c), some (.int xx), some (.int yy), some (.int dv), some (.int kk), some (.int tt)] [] (n, SH1, I, J)
        refine q_inc rfl rfl rfl ?_
        show dw_ok (pr_X12_skyOf K) 133 0 0 [some (.ref 404), some (.int c), some (.int xx), some (.int yy), some (.int dv), some (.int (kk + 1)), some (.int tt)] [] (n, SH1, I, J)
        show dw_ok (pr_X12_skyOf K) 133 0 0 [some (.ref 404), some (.int c), some (.int xx), some (.int yy), some (.int dv), some (.int (kk + 1)), some (.int tt)] [] (n, SH1, I, J)
        obtain ⟨kk1, hkk1⟩ : ∃ z, z = (kk + 1) := ⟨_, rfl⟩
        rw [← hkk1]
        have ekk1 : kk1.toInt = ((i + 1 : Nat) : Int) := by rw [hkk1]; exact ix_1 hkk (by omega)
        refine q_goto rfl ?_
        exact ih (i + 1) dv kk1 _ (by omega) ekk1 (by
          rw [es]
          unfold shF
          rw [if_pos (show _ from ⟨⟨by show -(I 406 (175 + 4 * i)).toInt ≤ (I 406 (173 + 4 * i)).toInt - (X : Int); omega, by show (I 406 (173 + 4 * i)).toInt - (X : Int) ≤ (I 406 (175 + 4 * i)).toInt; omega⟩, by show -(I 406 (175 + 4 * i)).toInt ≤ (I 406 (174 + 4 * i)).toInt - (Y : Int); omega, by show (I 406 (174 + 4 * i)).toInt - (Y : Int) ≤ (I 406 (175 + 4 * i)).toInt; omega⟩)]
          show _ = 100 - (mhF (I 406) X Y i + (I 406 (176 + 4 * i)).toInt)
          omega)
      · show dw_ok (pr_X12_skyOf K) 113 0 0 [some (.ref 404), some (.int c), some (.int xx), some (.int yy), some (.int v), some (.int kk), some (.int tt)] [.int (0 : Int32)] (n, SH1, I, J)
        refine q_if (c := 0) rfl (by decide) (fun y8 => ?_) (fun h => absurd (show (0 : Int) ≠ 0 from h) (by decide))
        have y8 : (0 : Int) = 0 := y8
        refine q_inc rfl rfl rfl ?_
        show dw_ok (pr_X12_skyOf K) 133 0 0 [some (.ref 404), some (.int c), some (.int xx), some (.int yy), some (.int v), some (.int (kk + 1)), some (.int tt)] [] (n, SH1, I, J)
        show dw_ok (pr_X12_skyOf K) 133 0 0 [some (.ref 404), some (.int c), some (.int xx), some (.int yy), some (.int v), some (.int (kk + 1)), some (.int tt)] [] (n, SH1, I, J)
        obtain ⟨kk1, hkk1⟩ : ∃ z, z = (kk + 1) := ⟨_, rfl⟩
        rw [← hkk1]
        have ekk1 : kk1.toInt = ((i + 1 : Nat) : Int) := by rw [hkk1]; exact ix_1 hkk (by omega)
        refine q_goto rfl ?_
        exact ih (i + 1) v kk1 _ (by omega) ekk1 (by
          rw [es]
          unfold shF
          rw [if_neg (fun q => by
            obtain ⟨⟨q1, q2⟩, q3, q4⟩ := q
            have q1 : -(I 406 (175 + 4 * i)).toInt ≤ (I 406 (173 + 4 * i)).toInt - (X : Int) := q1
            have q2 : (I 406 (173 + 4 * i)).toInt - (X : Int) ≤ (I 406 (175 + 4 * i)).toInt := q2
            have q3 : -(I 406 (175 + 4 * i)).toInt ≤ (I 406 (174 + 4 * i)).toInt - (Y : Int) := q3
            have q4 : (I 406 (174 + 4 * i)).toInt - (Y : Int) ≤ (I 406 (175 + 4 * i)).toInt := q4
            omega)]
          omega)
    · show dw_ok (pr_X12_skyOf K) 77 0 0 [some (.ref 404), some (.int c), some (.int xx), some (.int yy), some (.int v), some (.int kk), some (.int tt)] [.int (0 : Int32)] (n, SH1, I, J)
      refine q_if (c := 0) rfl (by decide) (fun y9 => ?_) (fun h => absurd (show (0 : Int) ≠ 0 from h) (by decide))
      have y9 : (0 : Int) = 0 := y9
      refine q_inc rfl rfl rfl ?_
      show dw_ok (pr_X12_skyOf K) 133 0 0 [some (.ref 404), some (.int c), some (.int xx), some (.int yy), some (.int v), some (.int (kk + 1)), some (.int tt)] [] (n, SH1, I, J)
      show dw_ok (pr_X12_skyOf K) 133 0 0 [some (.ref 404), some (.int c), some (.int xx), some (.int yy), some (.int v), some (.int (kk + 1)), some (.int tt)] [] (n, SH1, I, J)
      obtain ⟨kk1, hkk1⟩ : ∃ z, z = (kk + 1) := ⟨_, rfl⟩
      rw [← hkk1]
      have ekk1 : kk1.toInt = ((i + 1 : Nat) : Int) := by rw [hkk1]; exact ix_1 hkk (by omega)
      refine q_goto rfl ?_
      exact ih (i + 1) v kk1 _ (by omega) ekk1 (by
        rw [es]
        unfold shF
        rw [if_neg (fun q => by
          obtain ⟨⟨q1, q2⟩, q3, q4⟩ := q
          have q1 : -(I 406 (175 + 4 * i)).toInt ≤ (I 406 (173 + 4 * i)).toInt - (X : Int) := q1
          have q2 : (I 406 (173 + 4 * i)).toInt - (X : Int) ≤ (I 406 (175 + 4 * i)).toInt := q2
          have q3 : -(I 406 (175 + 4 * i)).toInt ≤ (I 406 (174 + 4 * i)).toInt - (Y : Int) := q3
          have q4 : (I 406 (174 + 4 * i)).toInt - (Y : Int) ≤ (I 406 (175 + 4 * i)).toInt := q4
          omega)]
        omega)
set_option maxRecDepth 8000 in
theorem v_skyOf {n : Nat} {I : Nat → Nat → Int32} {J : Nat → Nat → Int64} {K : dw_K} {c : Int32} {k C H : Nat} (hc : c.toInt = k) (hk9 : k ≤ 1000) (hC : (I 406 0).toInt = C) (hC0 : 0 < C) (hH : (I 406 3).toInt = H) (hH12 : H ≤ 12) (hb : ∀ j, 173 ≤ j → j < 173 + 4 * H → 0 ≤ (I 406 j).toInt ∧ (I 406 j).toInt ≤ 100) (hk : ∀ w : Int32, w.toInt = skM (I 406) C H k → K (some (.int w)) (n, SH1, I, J)) : t_X12_skyOf [.ref 404, .int c] (n, SH1, I, J) K := by
  refine q_body (Nat.le_of_ble_eq_true rfl) ?_
  refine q_ild rfl rfl ?_
  refine q_ald rfl rfl ?_
  refine q_getr rfl sk_404 sr_404_6 ?_
  refine q_ic rfl ?_
  refine q_xald rfl (Or.inl rfl) sk_406 sn_406 (by decide) (by decide) ?_
  refine q_rem rfl (show I 406 0 ≠ 0 from fi_nz (by omega)) ?_
  refine q_ist rfl rfl ?_
  show dw_ok (pr_X12_skyOf K) 9 0 0 [some (.ref 404), some (.int c), some (.int (c - c / (I 406 0) * (I 406 0))), none, none, none, none] [] (n, SH1, I, J)
  obtain ⟨xx, hxx⟩ : ∃ xx, xx = (c - c / (I 406 0) * (I 406 0)) := ⟨_, rfl⟩
  rw [← hxx]
  have exx : xx.toInt = ((k % C : Nat) : Int) := by rw [hxx]; exact i_modN hc hC hC0
  refine q_ild rfl rfl ?_
  refine q_ald rfl rfl ?_
  refine q_getr rfl sk_404 sr_404_6 ?_
  refine q_ic rfl ?_
  refine q_xald rfl (Or.inl rfl) sk_406 sn_406 (by decide) (by decide) ?_
  refine q_div rfl (show I 406 0 ≠ 0 from fi_nz (by omega)) ?_
  refine q_ist rfl rfl ?_
  show dw_ok (pr_X12_skyOf K) 18 0 0 [some (.ref 404), some (.int c), some (.int xx), some (.int (c / (I 406 0))), none, none, none] [] (n, SH1, I, J)
  obtain ⟨yy, hyy⟩ : ∃ yy, yy = (c / (I 406 0)) := ⟨_, rfl⟩
  rw [← hyy]
  have eyy : yy.toInt = ((k / C : Nat) : Int) := by rw [hyy]; exact i_divN hc hC hC0
  refine q_ic rfl ?_
  refine q_ist rfl rfl ?_
  show dw_ok (pr_X12_skyOf K) 22 0 0 [some (.ref 404), some (.int c), some (.int xx), some (.int yy), some (.int (100 : Int32)), none, none] [] (n, SH1, I, J)
  refine q_ic rfl ?_
  refine q_ist rfl rfl ?_
  show dw_ok (pr_X12_skyOf K) 25 0 0 [some (.ref 404), some (.int c), some (.int xx), some (.int yy), some (.int (100 : Int32)), some (.int (0 : Int32)), none] [] (n, SH1, I, J)
  exact sko_loop exx (by have := Nat.mod_le k C; omega) eyy (by have := Nat.div_le_self k C; omega) hH hH12 hb hk H 0 100 0 none (by omega) rfl (by show (100 : Int32).toInt = 100 - 0; rfl)
set_option maxRecDepth 8000 in
set_option maxHeartbeats 4000000 in
theorem ms_loop {n : Nat} {J : Nat → Nat → Int64} {K : dw_K} {x wh : Int32} {C R H N : Nat} {I0 : Nat → Nat → Int32} (hG : mgOK (I0 406) C R H) (hNe : N = C * R)
    (hk : ∀ I' : Nat → Nat → Int32, (∀ a, a ≠ 416 → a ≠ 417 → a ≠ 418 → a ≠ 419 → I' a = I0 a) → (∀ j, j < N → I' 416 j = 100 * I0 413 0 ∧ I' 417 j = 0 ∧ (I' 418 j).toInt = skM (I0 406) C H j ∧ I' 419 j = I0 406 (29 + j)) → K none (n, SH1, I', J)) :
    ∀ (f k : Nat) (c : Int32) (I : Nat → Nat → Int32), k + f = N → c.toInt = k → (∀ a, a ≠ 416 → a ≠ 417 → a ≠ 418 → a ≠ 419 → I a = I0 a) → (∀ j, j < k → I 416 j = 100 * I0 413 0 ∧ I 417 j = 0 ∧ (I 418 j).toInt = skM (I0 406) C H j ∧ I 419 j = I0 406 (29 + j)) → dw_ok (pr_X12_start K) 36 0 0 [some (.ref 404), some (.int x), some (.int wh), some (.int c)] [] (n, SH1, I, J) := by
  have k1 : (1 : Int32).toInt = 1 := rfl
  have k29 : (29 : Int32).toInt = 29 := rfl
  obtain ⟨eN, hN9⟩ := mg_N hG
  obtain ⟨hC, hR, hH, hC12, hR12, hH12, hb⟩ := hG
  rw [← hNe] at eN hN9
  intro f
  induction f with
  | zero =>
    intro k c I hf hc hA hB
    have h406 : I 406 = I0 406 := hA 406 (by decide) (by decide) (by decide) (by decide)
    refine q_ild rfl rfl ?_
    refine q_ald rfl rfl ?_
    refine q_callV (as := []) (rest := [.int c]) rfl rfl sk_404 rfl (Nat.le_of_ble_eq_true rfl) ?_
    refine v_mcells ?_
    show dw_ok (pr_X12_start K) 41 0 0 [some (.ref 404), some (.int x), some (.int wh), some (.int c)] [.int (I 406 0 * I 406 1), .int c] (n, SH1, I, J)
    rw [show I 406 = I0 406 from h406]
    show dw_ok (pr_X12_start K) 41 0 0 [some (.ref 404), some (.int x), some (.int wh), some (.int c)] [.int (I0 406 0 * I0 406 1), .int c] (n, SH1, I, J)
    refine q_icmp (c := 3) rfl (by decide) (fun y1 => ?_) (fun h => absurd (show (c).toInt < ((I0 406 0 * I0 406 1)).toInt from h) (by omega))
    have y1 : ((I0 406 0 * I0 406 1)).toInt ≤ (c).toInt := y1
    exact q_vret rfl (hk I hA (fun j hj => hB j (by omega)))
  | succ f ih =>
    intro k c I hf hc hA hB
    have h406 : I 406 = I0 406 := hA 406 (by decide) (by decide) (by decide) (by decide)
    have hkN : k < C * R := by omega
    have hC0 : 0 < C := by
      rcases Nat.eq_zero_or_pos C with e | e
      · rw [e, Nat.zero_mul] at hkN; omega
      · exact e
    have hcn : c.toInt.toNat = k := by omega
    have h413 : I 413 = I0 413 := hA 413 (by decide) (by decide) (by decide) (by decide)
    refine q_ild rfl rfl ?_
    refine q_ald rfl rfl ?_
    refine q_callV (as := []) (rest := [.int c]) rfl rfl sk_404 rfl (Nat.le_of_ble_eq_true rfl) ?_
    refine v_mcells ?_
    show dw_ok (pr_X12_start K) 41 0 0 [some (.ref 404), some (.int x), some (.int wh), some (.int c)] [.int (I 406 0 * I 406 1), .int c] (n, SH1, I, J)
    rw [show I 406 = I0 406 from h406]
    show dw_ok (pr_X12_start K) 41 0 0 [some (.ref 404), some (.int x), some (.int wh), some (.int c)] [.int (I0 406 0 * I0 406 1), .int c] (n, SH1, I, J)
    refine q_icmp (c := 3) rfl (by decide) (fun h => absurd (show ((I0 406 0 * I0 406 1)).toInt ≤ (c).toInt from h) (by omega)) (fun y2 => ?_)
    have y2 : (c).toInt < ((I0 406 0 * I0 406 1)).toInt := y2
    refine q_ald rfl rfl ?_
    refine q_getr rfl sk_404 sr_404_28 ?_
    refine q_ild rfl rfl ?_
    refine q_ic rfl ?_
    refine q_ald rfl rfl ?_
    refine q_getr rfl sk_404 sr_404_25 ?_
    refine q_ic rfl ?_
    refine q_xald rfl (Or.inl rfl) sk_413 sn_413 (by decide) (by decide) ?_
    refine q_mul rfl ?_
    refine q_iast rfl sk_416 sn_416 (by omega) (by omega) ?_
    show dw_ok (pr_X12_start K) 59 0 0 [some (.ref 404), some (.int x), some (.int wh), some (.int c)] [] (n, SH1, (dw_up I 416 (c).toInt.toNat ((100 : Int32) * (I 413 0))), J)
    rw [hcn]
    refine q_ald rfl rfl ?_
    refine q_getr rfl sk_404 sr_404_29 ?_
    refine q_ild rfl rfl ?_
    refine q_ic rfl ?_
    refine q_iast rfl sk_417 sn_417 (by omega) (by omega) ?_
    show dw_ok (pr_X12_start K) 66 0 0 [some (.ref 404), some (.int x), some (.int wh), some (.int c)] [] (n, SH1, (dw_up (dw_up I 416 k ((100 : Int32) * (I 413 0))) 417 (c).toInt.toNat (0 : Int32)), J)
    rw [hcn]
    obtain ⟨I2, hI2⟩ : ∃ X, X = (dw_up (dw_up I 416 k ((100 : Int32) * (I 413 0))) 417 k (0 : Int32)) := ⟨_, rfl⟩
    show dw_ok (pr_X12_start K) 66 0 0 [some (.ref 404), some (.int x), some (.int wh), some (.int c)] [] (n, SH1, (dw_up (dw_up I 416 k ((100 : Int32) * (I 413 0))) 417 k (0 : Int32)), J)
    rw [← hI2]
    have rI2 : ∀ a, a ≠ 416 → a ≠ 417 → I2 a = I a := fun a q0 q1 => by rw [hI2]; exact ((up_row q1).trans (up_row q0))
    have fI2_0 : ∀ j, j ≠ k → I2 416 j = I 416 j := fun j p0 => by rw [hI2]; exact ((up_ne (Or.inl (by decide))).trans (up_fld p0))
    have sI2_0_0 : I2 416 k = ((100 : Int32) * (I 413 0)) := by rw [hI2]; exact ((up_ne (Or.inl (by decide))).trans (up_same))
    have fI2_1 : ∀ j, j ≠ k → I2 417 j = I 417 j := fun j p0 => by rw [hI2]; exact ((up_fld p0).trans (up_ne (Or.inl (by decide))))
    have sI2_1_0 : I2 417 k = (0 : Int32) := by rw [hI2]; exact (up_same)
    refine q_ald rfl rfl ?_
    refine q_getr rfl sk_404 sr_404_30 ?_
    refine q_ild rfl rfl ?_
    refine q_ald rfl rfl ?_
    refine q_ild rfl rfl ?_
    refine q_callV (as := [.int c]) (rest := [.int c, .ref 418]) rfl rfl sk_404 rfl (Nat.le_of_ble_eq_true rfl) ?_
    have g406 : I2 406 = I0 406 := (rI2 406 (by decide) (by decide)).trans h406
    refine v_skyOf (k := k) (C := C) (H := H) hc (by omega) (by rw [g406]; exact hC) hC0 (by rw [g406]; exact hH) hH12 (by rw [g406]; exact hb) (fun w hw => ?_)
    rw [g406] at hw
    show dw_ok (pr_X12_start K) 76 0 0 [some (.ref 404), some (.int x), some (.int wh), some (.int c)] [.int w, .int c, .ref 418] (n, SH1, I2, J)
    refine q_iast rfl sk_418 sn_418 (by omega) (by omega) ?_
    show dw_ok (pr_X12_start K) 77 0 0 [some (.ref 404), some (.int x), some (.int wh), some (.int c)] [] (n, SH1, (dw_up I2 418 (c).toInt.toNat w), J)
    rw [hcn]
    refine q_ald rfl rfl ?_
    refine q_getr rfl sk_404 sr_404_31 ?_
    refine q_ild rfl rfl ?_
    refine q_ald rfl rfl ?_
    refine q_getr rfl sk_404 sr_404_6 ?_
    refine q_ic rfl ?_
    refine q_ild rfl rfl ?_
    refine q_add rfl ?_
    show dw_ok (pr_X12_start K) 90 0 0 [some (.ref 404), some (.int x), some (.int wh), some (.int c)] [.int ((29 : Int32) + c), .ref 406, .int c, .ref 419] (n, SH1, (dw_up I2 418 k w), J)
    obtain ⟨z29, hz29⟩ : ∃ z, z = ((29 : Int32) + c) := ⟨_, rfl⟩
    rw [← hz29]
    have ez29 : z29.toInt = ((29 + k : Nat) : Int) := by rw [hz29]; exact (ix_a (x := 29) (a := 29) rfl hc (by omega))
    refine q_xald rfl (Or.inl rfl) sk_406 sn_406 (by omega) (by omega) ?_
    show dw_ok (pr_X12_start K) 91 0 0 [some (.ref 404), some (.int x), some (.int wh), some (.int c)] [.int ((dw_up I2 418 k w) 406 (z29).toInt.toNat), .int c, .ref 419] (n, SH1, (dw_up I2 418 k w), J)
    rw [(nat_of ez29)]
    show dw_ok (pr_X12_start K) 91 0 0 [some (.ref 404), some (.int x), some (.int wh), some (.int c)] [.int ((dw_up I2 418 k w) 406 (29 + k)), .int c, .ref 419] (n, SH1, (dw_up I2 418 k w), J)
    rw [show ((dw_up I2 418 k w) 406 (29 + k)) = (I2 406 (29 + k)) from (up_ne (Or.inl (by decide)))]
    refine q_iast rfl sk_419 sn_419 (by omega) (by omega) ?_
    show dw_ok (pr_X12_start K) 92 0 0 [some (.ref 404), some (.int x), some (.int wh), some (.int c)] [] (n, SH1, (dw_up (dw_up I2 418 k w) 419 (c).toInt.toNat (I2 406 (29 + k))), J)
    rw [hcn]
    refine q_inc rfl rfl rfl ?_
    show dw_ok (pr_X12_start K) 95 0 0 [some (.ref 404), some (.int x), some (.int wh), some (.int (c + 1))] [] (n, SH1, (dw_up (dw_up I2 418 k w) 419 k (I2 406 (29 + k))), J)
    show dw_ok (pr_X12_start K) 95 0 0 [some (.ref 404), some (.int x), some (.int wh), some (.int (c + 1))] [] (n, SH1, (dw_up (dw_up I2 418 k w) 419 k (I2 406 (29 + k))), J)
    obtain ⟨cx, hcx⟩ : ∃ z, z = (c + 1) := ⟨_, rfl⟩
    rw [← hcx]
    have ecx : cx.toInt = ((k + 1 : Nat) : Int) := by rw [hcx]; exact ix_1 hc (by omega)
    refine q_goto rfl ?_
    refine ih (k + 1) cx (dw_up (dw_up I2 418 k w) 419 k (I2 406 (29 + k))) (by omega) ecx (fun a g1 g2 g3 g4 => ?_) (fun j hj => ?_)
    · exact ((up_row g4).trans ((up_row g3).trans (((rI2 a g1 g2)).trans (hA a g1 g2 g3 g4))))
    by_cases e : j = k
    · rw [e]
      refine ⟨?_, ?_, ?_, ?_⟩
      · exact ((up_ne (Or.inl (by decide))).trans ((up_ne (Or.inl (by decide))).trans ((sI2_0_0).trans (congrArg (100 * ·) (congrFun h413 0)))))
      · exact ((up_ne (Or.inl (by decide))).trans ((up_ne (Or.inl (by decide))).trans (sI2_1_0)))
      · rw [show (dw_up (dw_up I2 418 k w) 419 k (I2 406 (29 + k))) 418 k = w from ((up_ne (Or.inl (by decide))).trans (up_same))]; exact hw
      · exact ((up_same).trans (congrFun g406 (29 + k)))
    · obtain ⟨b1, b2, b3, b4⟩ := hB j (by omega)
      refine ⟨?_, ?_, ?_, ?_⟩
      · exact ((up_ne (Or.inl (by decide))).trans ((up_ne (Or.inl (by decide))).trans ((fI2_0 j e).trans (b1))))
      · exact ((up_ne (Or.inl (by decide))).trans ((up_ne (Or.inl (by decide))).trans ((fI2_1 j e).trans (b2))))
      · rw [show (dw_up (dw_up I2 418 k w) 419 k (I2 406 (29 + k))) 418 j = I 418 j from ((up_ne (Or.inl (by decide))).trans ((up_fld e).trans (congrFun (rI2 418 (by decide) (by decide)) j)))]; exact b3
      · exact ((up_fld e).trans ((up_ne (Or.inl (by decide))).trans ((congrFun (rI2 419 (by decide) (by decide)) j).trans (b4))))
set_option maxRecDepth 8000 in
set_option maxHeartbeats 4000000 in
theorem v_mstart {n : Nat} {I : Nat → Nat → Int32} {J : Nat → Nat → Int64} {K : dw_K} {x wh : Int32} {sl L C R H : Nat} (hx : x.toInt = sl) (hsl : sl < 6) (hS : nsOK (fun j => I 406 (221 + 97 * sl + j)) L) (hG : mgOK (I 406) C R H) (hk : ∀ I' : Nat → Nat → Int32, (∀ a, a ≠ 404 → (a < 411 ∨ 419 < a) → I' a = I a) → (∀ j, j ≠ 32 → j ≠ 33 → j ≠ 34 → j ≠ 35 → I' 404 j = I 404 j) → I' 404 32 = I 406 4 → I' 404 33 = 0 → I' 404 34 = wh → I' 404 35 = -1 → (∀ w, w < 5 → ∀ t, t < 144 → I' (411 + w) t = ndF (uaF (msL (fun j => I 406 (221 + 97 * sl + j)) L)) w t) → (∀ j, j < C * R → I' 416 j = 100 * ndF (uaF (msL (fun j => I 406 (221 + 97 * sl + j)) L)) 2 0 ∧ I' 417 j = 0 ∧ (I' 418 j).toInt = skM (I 406) C H j ∧ I' 419 j = I 406 (29 + j)) → K none (n, SH1, I', J)) : t_X12_start [.ref 404, .int x, .int wh] (n, SH1, I, J) K := by
  have k97 : (97 : Int32).toInt = 97 := rfl
  have k221 : (221 : Int32).toInt = 221 := rfl
  have e0 : (97 * x).toInt = 97 * sl := by rw [i_mulB (by rw [k97]; omega) (by rw [k97]; omega), k97, hx]
  have eF : (221 + 97 * x).toInt = ((221 + 97 * sl : Nat) : Int) := by rw [i_add (by omega) (by omega), e0, k221]; omega
  refine q_body (Nat.le_of_ble_eq_true rfl) ?_
  refine q_ald rfl rfl ?_
  refine q_ald rfl rfl ?_
  refine q_ild rfl rfl ?_
  refine q_callV (as := [.int x]) (rest := [.ref 404]) rfl rfl sk_404 rfl (Nat.le_of_ble_eq_true rfl) ?_
  refine v_nightAt ?_
  show dw_ok (pr_X12_start K) 6 0 0 [some (.ref 404), some (.int x), some (.int wh), none] [.int (221 + 97 * x), .ref 404] (n, SH1, I, J)
  refine q_callV (as := [.int (221 + 97 * x)]) (rest := []) rfl rfl sk_404 rfl (Nat.le_of_ble_eq_true rfl) ?_
  refine v_sees (F := 221 + 97 * sl) (L := L) eF (by omega) hS (fun I1 hA1 hB1 => ?_)
  show dw_ok (pr_X12_start K) 9 0 0 [some (.ref 404), some (.int x), some (.int wh), none] [] (n, SH1, I1, J)
  refine q_ald rfl rfl ?_
  refine q_ald rfl rfl ?_
  refine q_getr rfl sk_404 sr_404_6 ?_
  refine q_ic rfl ?_
  refine q_xald rfl (Or.inl rfl) sk_406 sn_406 (by decide) (by decide) ?_
  refine q_puti rfl sk_404 ?_
  show dw_ok (pr_X12_start K) 19 0 0 [some (.ref 404), some (.int x), some (.int wh), none] [] (n, SH1, (dw_up I1 404 32 (I1 406 4)), J)
  refine q_ald rfl rfl ?_
  refine q_ic rfl ?_
  refine q_puti rfl sk_404 ?_
  show dw_ok (pr_X12_start K) 24 0 0 [some (.ref 404), some (.int x), some (.int wh), none] [] (n, SH1, (dw_up (dw_up I1 404 32 (I1 406 4)) 404 33 (0 : Int32)), J)
  refine q_ald rfl rfl ?_
  refine q_ild rfl rfl ?_
  refine q_puti rfl sk_404 ?_
  show dw_ok (pr_X12_start K) 29 0 0 [some (.ref 404), some (.int x), some (.int wh), none] [] (n, SH1, (dw_up (dw_up (dw_up I1 404 32 (I1 406 4)) 404 33 (0 : Int32)) 404 34 wh), J)
  refine q_ald rfl rfl ?_
  refine q_ic rfl ?_
  refine q_puti rfl sk_404 ?_
  show dw_ok (pr_X12_start K) 34 0 0 [some (.ref 404), some (.int x), some (.int wh), none] [] (n, SH1, (dw_up (dw_up (dw_up (dw_up I1 404 32 (I1 406 4)) 404 33 (0 : Int32)) 404 34 wh) 404 35 (-1 : Int32)), J)
  obtain ⟨I2, hI2⟩ : ∃ X, X = (dw_up (dw_up (dw_up (dw_up I1 404 32 (I1 406 4)) 404 33 (0 : Int32)) 404 34 wh) 404 35 (-1 : Int32)) := ⟨_, rfl⟩
  show dw_ok (pr_X12_start K) 34 0 0 [some (.ref 404), some (.int x), some (.int wh), none] [] (n, SH1, (dw_up (dw_up (dw_up (dw_up I1 404 32 (I1 406 4)) 404 33 (0 : Int32)) 404 34 wh) 404 35 (-1 : Int32)), J)
  rw [← hI2]
  have rI2 : ∀ a, a ≠ 404 → I2 a = I1 a := fun a q0 => by rw [hI2]; exact ((up_row q0).trans ((up_row q0).trans ((up_row q0).trans (up_row q0))))
  have fI2_0 : ∀ j, j ≠ 32 → j ≠ 33 → j ≠ 34 → j ≠ 35 → I2 404 j = I1 404 j := fun j p0 p1 p2 p3 => by rw [hI2]; exact ((up_fld p3).trans ((up_fld p2).trans ((up_fld p1).trans (up_fld p0))))
  have sI2_0_0 : I2 404 32 = (I1 406 4) := by rw [hI2]; exact ((up_fld (by decide)).trans ((up_fld (by decide)).trans ((up_fld (by decide)).trans (up_same))))
  have sI2_0_1 : I2 404 33 = (0 : Int32) := by rw [hI2]; exact ((up_fld (by decide)).trans ((up_fld (by decide)).trans (up_same)))
  have sI2_0_2 : I2 404 34 = wh := by rw [hI2]; exact ((up_fld (by decide)).trans (up_same))
  have sI2_0_3 : I2 404 35 = (-1 : Int32) := by rw [hI2]; exact (up_same)
  have g406 : I2 406 = I 406 := (rI2 406 (by decide)).trans (hA1 406 (by decide))
  have i1406 : I1 406 = I 406 := hA1 406 (by decide)
  rw [i1406] at sI2_0_0
  refine q_ic rfl ?_
  refine q_ist rfl rfl ?_
  show dw_ok (pr_X12_start K) 36 0 0 [some (.ref 404), some (.int x), some (.int wh), some (.int (0 : Int32))] [] (n, SH1, I2, J)
  refine ms_loop (I0 := I2) (C := C) (R := R) (H := H) (by rw [g406]; exact hG) rfl (fun I' hA' hB' => ?_) (C * R) 0 0 I2 (by omega) rfl (fun _ _ _ _ _ => rfl) (fun j hj => absurd hj (Nat.not_lt_zero j))
  rw [g406] at hB'
  have r404 : I' 404 = I2 404 := hA' 404 (by decide) (by decide) (by decide) (by decide)
  have h13 : I2 413 0 = ndF (uaF (msL (fun j => I 406 (221 + 97 * sl + j)) L)) 2 0 := (congrFun (rI2 413 (by decide)) 0).trans (hB1 2 (by decide) 0 (by decide))
  refine hk I' (fun a g1 g2 => ?_) (fun j p1 p2 p3 p4 => ?_) ?_ ?_ ?_ ?_ (fun w hw t ht => ?_) (fun j hj => ?_)
  · rw [hA' a (by omega) (by omega) (by omega) (by omega), rI2 a g1]; exact hA1 a (by omega)
  · rw [r404, fI2_0 j p1 p2 p3 p4, hA1 404 (by decide)]
  · rw [r404]; exact sI2_0_0
  · rw [r404]; exact sI2_0_1
  · rw [r404]; exact sI2_0_2
  · rw [r404]; exact sI2_0_3
  · rw [hA' (411 + w) (by omega) (by omega) (by omega) (by omega), rI2 (411 + w) (by omega)]; exact hB1 w hw t ht
  · have q := hB' j hj
    rw [h13] at q
    exact q
/-! ===== a STEP of the model ===== -/
def srM (I : Nat → Nat → Int32) : rS := (I 416, I 417, I 404 32, I 404 33)
def tnM (I : Nat → Nat → Int32) (τ : Nat) : rN := (I 411 τ, I 412 τ, I 413 τ, I 414 τ, I 415 τ)
def syM (I : Nat → Nat → Int32) (τ k : Nat) : Int32 := if (I 404 35).toInt = k ∧ (I 404 36).toInt ≤ τ ∧ (τ : Int) ≤ (I 404 37).toInt then 0 else I 418 k
def cfM (I : Nat → Nat → Int32) (τ : Nat) : Nat → rC := fun k => (I 406 (5 + (I 419 k).toInt.toNat), I 406 (13 + (I 419 k).toInt.toNat), I 406 (21 + (I 419 k).toInt.toNat), syM I τ k)
set_option maxRecDepth 8000 in
set_option maxHeartbeats 4000000 in
theorem v_wets {n : Nat} {I : Nat → Nat → Int32} {J : Nat → Nat → Int64} {K : dw_K} {x lk : Int32} {c : rC} {t : rN} {k st : Nat} (hx : x.toInt = k) (hk9 : k < 144) (hst : (I 404 34).toInt = st) (hs0 : 0 ≤ (I 404 32).toInt) (hk : ∀ I' : Nat → Nat → Int32, (∀ a, a ≠ 404 → a ≠ 417 → I' a = I a) → (∀ j, j ≠ 32 → j ≠ 33 → I' 404 j = I 404 j) → I' 417 = upF (I 417) k (waF st c t lk (I 417 k) (I 404 32)) → I' 404 32 = skF2 st t lk (I 417 k) (I 404 32) → I' 404 33 = gvF st c lk (I 404 33) → K none (n, SH1, I', J)) : t_X12_wets [.ref 404, .int x, .int lk, .int t.2.1, .int c.2.2.1] (n, SH1, I, J) K := by
  have k0 : (0 : Int32).toInt = 0 := rfl
  have k1 : (1 : Int32).toInt = 1 := rfl
  have k2 : (2 : Int32).toInt = 2 := rfl
  have k3 : (3 : Int32).toInt = 3 := rfl
  have hxn : x.toInt.toNat = k := by omega
  refine q_body (Nat.le_of_ble_eq_true rfl) ?_
  refine q_ild rfl rfl ?_
  refine q_if (c := 5) rfl (by decide) (fun y1 => ?_) (fun y1 => ?_)
  · have y1 : (lk).toInt ≤ 0 := y1
    refine q_ic rfl ?_
    refine q_ild rfl rfl ?_
    refine q_add rfl ?_
    refine q_ic rfl ?_
    refine q_ild rfl rfl ?_
    refine q_neg rfl ?_
    refine q_ic rfl ?_
    refine q_div rfl (by decide) ?_
    refine q_add rfl ?_
    refine q_mul rfl ?_
    refine q_ist rfl rfl ?_
    show dw_ok (pr_X12_wets K) 115 0 0 [some (.ref 404), some (.int x), some (.int lk), some (.int t.2.1), some (.int c.2.2.1), some (.int (((1 : Int32) + t.2.1) * ((1 : Int32) + ((-lk) / (40 : Int32)))))] [] (n, SH1, I, J)
    refine q_ild rfl rfl ?_
    refine q_ald rfl rfl ?_
    refine q_getr rfl sk_404 sr_404_29 ?_
    refine q_ild rfl rfl ?_
    refine q_xald rfl (Or.inl rfl) sk_417 sn_417 (by omega) (by omega) ?_
    show dw_ok (pr_X12_wets K) 123 0 0 [some (.ref 404), some (.int x), some (.int lk), some (.int t.2.1), some (.int c.2.2.1), some (.int (((1 : Int32) + t.2.1) * ((1 : Int32) + ((-lk) / (40 : Int32)))))] [.int (I 417 (x).toInt.toNat), .int (((1 : Int32) + t.2.1) * ((1 : Int32) + ((-lk) / (40 : Int32))))] (n, SH1, I, J)
    rw [hxn]
    refine q_icmp (c := 3) rfl (by decide) (fun y2 => ?_) (fun y2 => ?_)
    · have y2 : ((I 417 k)).toInt ≤ ((((1 : Int32) + t.2.1) * ((1 : Int32) + ((-lk) / (40 : Int32))))).toInt := y2
      refine q_ald rfl rfl ?_
      refine q_getr rfl sk_404 sr_404_29 ?_
      refine q_ild rfl rfl ?_
      refine q_xald rfl (Or.inl rfl) sk_417 sn_417 (by omega) (by omega) ?_
      show dw_ok (pr_X12_wets K) 137 0 0 [some (.ref 404), some (.int x), some (.int lk), some (.int t.2.1), some (.int c.2.2.1), some (.int (((1 : Int32) + t.2.1) * ((1 : Int32) + ((-lk) / (40 : Int32)))))] [.int (I 417 (x).toInt.toNat)] (n, SH1, I, J)
      rw [hxn]
      refine q_ist rfl rfl ?_
      show dw_ok (pr_X12_wets K) 139 0 0 [some (.ref 404), some (.int x), some (.int lk), some (.int t.2.1), some (.int c.2.2.1), some (.int (I 417 k))] [] (n, SH1, I, J)
      refine q_ald rfl rfl ?_
      refine q_getr rfl sk_404 sr_404_29 ?_
      refine q_ild rfl rfl ?_
      refine q_dup2 rfl ?_
      refine q_xald rfl (Or.inl rfl) sk_417 sn_417 (by omega) (by omega) ?_
      show dw_ok (pr_X12_wets K) 146 0 0 [some (.ref 404), some (.int x), some (.int lk), some (.int t.2.1), some (.int c.2.2.1), some (.int (I 417 k))] [.int (I 417 (x).toInt.toNat), .int x, .ref 417] (n, SH1, I, J)
      rw [hxn]
      refine q_ild rfl rfl ?_
      refine q_sub rfl ?_
      refine q_iast rfl sk_417 sn_417 (by omega) (by omega) ?_
      show dw_ok (pr_X12_wets K) 150 0 0 [some (.ref 404), some (.int x), some (.int lk), some (.int t.2.1), some (.int c.2.2.1), some (.int (I 417 k))] [] (n, SH1, (dw_up I 417 (x).toInt.toNat ((I 417 k) - (I 417 k))), J)
      rw [hxn]
      refine q_ald rfl rfl ?_
      refine q_geti rfl sk_404 ?_
      show dw_ok (pr_X12_wets K) 154 0 0 [some (.ref 404), some (.int x), some (.int lk), some (.int t.2.1), some (.int c.2.2.1), some (.int (I 417 k))] [.int ((dw_up I 417 k ((I 417 k) - (I 417 k))) 404 34)] (n, SH1, (dw_up I 417 k ((I 417 k) - (I 417 k))), J)
      rw [show ((dw_up I 417 k ((I 417 k) - (I 417 k))) 404 34) = (I 404 34) from (up_ne (Or.inl (by decide)))]
      refine q_ic rfl ?_
      refine q_icmp (c := 0) rfl (by decide) (fun y3 => ?_) (fun y3 => ?_)
      · have y3 : ((I 404 34)).toInt = (2 : Int) := y3
        have nl : ¬ 0 < lk.toInt := by omega
        have ed : drF t lk (I 417 k) = (I 417 k) := by unfold drF fi_min; rw [Int32.add_comm t.2.1 1, Int32.add_comm (-lk / 40) 1, if_neg (by rw [fi_lt]; omega)]
        unfold waF skF2 gvF at hk
        rw [if_neg nl, if_neg nl, if_neg nl, ed, if_pos (show st = 2 by omega)] at hk
        refine q_vret rfl (hk (dw_up I 417 k ((I 417 k) - (I 417 k))) (fun a g1 g2 => ?_) (fun j g1 g2 => ?_) ?_ ?_ ?_)
        · exact (up_row g2)
        · exact (up_ne (Or.inl (by decide)))
        · funext j
          by_cases e : j = k
          · rw [e, upF_at]; exact (up_same)
          · rw [upF_ne e]; exact (up_fld e)
        · rw [Int32.add_zero]; exact (up_ne (Or.inl (by decide)))
        · exact (up_ne (Or.inl (by decide)))
      · have y3 : ((I 404 34)).toInt ≠ (2 : Int) := y3
        refine q_ald rfl rfl ?_
        refine q_dup rfl ?_
        refine q_geti rfl sk_404 ?_
        show dw_ok (pr_X12_wets K) 163 0 0 [some (.ref 404), some (.int x), some (.int lk), some (.int t.2.1), some (.int c.2.2.1), some (.int (I 417 k))] [.int ((dw_up I 417 k ((I 417 k) - (I 417 k))) 404 32), .ref 404] (n, SH1, (dw_up I 417 k ((I 417 k) - (I 417 k))), J)
        rw [show ((dw_up I 417 k ((I 417 k) - (I 417 k))) 404 32) = (I 404 32) from (up_ne (Or.inl (by decide)))]
        refine q_ild rfl rfl ?_
        refine q_add rfl ?_
        refine q_puti rfl sk_404 ?_
        show dw_ok (pr_X12_wets K) 169 0 0 [some (.ref 404), some (.int x), some (.int lk), some (.int t.2.1), some (.int c.2.2.1), some (.int (I 417 k))] [] (n, SH1, (dw_up (dw_up I 417 k ((I 417 k) - (I 417 k))) 404 32 ((I 404 32) + (I 417 k))), J)
        have nl : ¬ 0 < lk.toInt := by omega
        have ed : drF t lk (I 417 k) = (I 417 k) := by unfold drF fi_min; rw [Int32.add_comm t.2.1 1, Int32.add_comm (-lk / 40) 1, if_neg (by rw [fi_lt]; omega)]
        unfold waF skF2 gvF at hk
        rw [if_neg nl, if_neg nl, if_neg nl, ed, if_neg (show ¬ st = 2 by omega)] at hk
        refine q_vret rfl (hk (dw_up (dw_up I 417 k ((I 417 k) - (I 417 k))) 404 32 ((I 404 32) + (I 417 k))) (fun a g1 g2 => ?_) (fun j g1 g2 => ?_) ?_ ?_ ?_)
        · exact ((up_row g1).trans (up_row g2))
        · exact ((up_fld g1).trans (up_ne (Or.inl (by decide))))
        · funext j
          by_cases e : j = k
          · rw [e, upF_at]; exact ((up_ne (Or.inl (by decide))).trans (up_same))
          · rw [upF_ne e]; exact ((up_ne (Or.inl (by decide))).trans (up_fld e))
        · exact (up_same)
        · exact ((up_fld (by decide)).trans (up_ne (Or.inl (by decide))))
    · have y2 : ((((1 : Int32) + t.2.1) * ((1 : Int32) + ((-lk) / (40 : Int32))))).toInt < ((I 417 k)).toInt := y2
      refine q_ild rfl rfl ?_
      refine q_goto rfl ?_
      refine q_ist rfl rfl ?_
      show dw_ok (pr_X12_wets K) 139 0 0 [some (.ref 404), some (.int x), some (.int lk), some (.int t.2.1), some (.int c.2.2.1), some (.int (((1 : Int32) + t.2.1) * ((1 : Int32) + ((-lk) / (40 : Int32)))))] [] (n, SH1, I, J)
      refine q_ald rfl rfl ?_
      refine q_getr rfl sk_404 sr_404_29 ?_
      refine q_ild rfl rfl ?_
      refine q_dup2 rfl ?_
      refine q_xald rfl (Or.inl rfl) sk_417 sn_417 (by omega) (by omega) ?_
      show dw_ok (pr_X12_wets K) 146 0 0 [some (.ref 404), some (.int x), some (.int lk), some (.int t.2.1), some (.int c.2.2.1), some (.int (((1 : Int32) + t.2.1) * ((1 : Int32) + ((-lk) / (40 : Int32)))))] [.int (I 417 (x).toInt.toNat), .int x, .ref 417] (n, SH1, I, J)
      rw [hxn]
      refine q_ild rfl rfl ?_
      refine q_sub rfl ?_
      refine q_iast rfl sk_417 sn_417 (by omega) (by omega) ?_
      show dw_ok (pr_X12_wets K) 150 0 0 [some (.ref 404), some (.int x), some (.int lk), some (.int t.2.1), some (.int c.2.2.1), some (.int (((1 : Int32) + t.2.1) * ((1 : Int32) + ((-lk) / (40 : Int32)))))] [] (n, SH1, (dw_up I 417 (x).toInt.toNat ((I 417 k) - (((1 : Int32) + t.2.1) * ((1 : Int32) + ((-lk) / (40 : Int32)))))), J)
      rw [hxn]
      refine q_ald rfl rfl ?_
      refine q_geti rfl sk_404 ?_
      show dw_ok (pr_X12_wets K) 154 0 0 [some (.ref 404), some (.int x), some (.int lk), some (.int t.2.1), some (.int c.2.2.1), some (.int (((1 : Int32) + t.2.1) * ((1 : Int32) + ((-lk) / (40 : Int32)))))] [.int ((dw_up I 417 k ((I 417 k) - (((1 : Int32) + t.2.1) * ((1 : Int32) + ((-lk) / (40 : Int32)))))) 404 34)] (n, SH1, (dw_up I 417 k ((I 417 k) - (((1 : Int32) + t.2.1) * ((1 : Int32) + ((-lk) / (40 : Int32)))))), J)
      rw [show ((dw_up I 417 k ((I 417 k) - (((1 : Int32) + t.2.1) * ((1 : Int32) + ((-lk) / (40 : Int32)))))) 404 34) = (I 404 34) from (up_ne (Or.inl (by decide)))]
      refine q_ic rfl ?_
      refine q_icmp (c := 0) rfl (by decide) (fun y4 => ?_) (fun y4 => ?_)
      · have y4 : ((I 404 34)).toInt = (2 : Int) := y4
        have nl : ¬ 0 < lk.toInt := by omega
        have ed : drF t lk (I 417 k) = (((1 : Int32) + t.2.1) * ((1 : Int32) + ((-lk) / (40 : Int32)))) := by unfold drF fi_min; rw [Int32.add_comm t.2.1 1, Int32.add_comm (-lk / 40) 1, if_pos (by rw [fi_lt]; omega)]
        unfold waF skF2 gvF at hk
        rw [if_neg nl, if_neg nl, if_neg nl, ed, if_pos (show st = 2 by omega)] at hk
        refine q_vret rfl (hk (dw_up I 417 k ((I 417 k) - (((1 : Int32) + t.2.1) * ((1 : Int32) + ((-lk) / (40 : Int32)))))) (fun a g1 g2 => ?_) (fun j g1 g2 => ?_) ?_ ?_ ?_)
        · exact (up_row g2)
        · exact (up_ne (Or.inl (by decide)))
        · funext j
          by_cases e : j = k
          · rw [e, upF_at]; exact (up_same)
          · rw [upF_ne e]; exact (up_fld e)
        · rw [Int32.add_zero]; exact (up_ne (Or.inl (by decide)))
        · exact (up_ne (Or.inl (by decide)))
      · have y4 : ((I 404 34)).toInt ≠ (2 : Int) := y4
        refine q_ald rfl rfl ?_
        refine q_dup rfl ?_
        refine q_geti rfl sk_404 ?_
        show dw_ok (pr_X12_wets K) 163 0 0 [some (.ref 404), some (.int x), some (.int lk), some (.int t.2.1), some (.int c.2.2.1), some (.int (((1 : Int32) + t.2.1) * ((1 : Int32) + ((-lk) / (40 : Int32)))))] [.int ((dw_up I 417 k ((I 417 k) - (((1 : Int32) + t.2.1) * ((1 : Int32) + ((-lk) / (40 : Int32)))))) 404 32), .ref 404] (n, SH1, (dw_up I 417 k ((I 417 k) - (((1 : Int32) + t.2.1) * ((1 : Int32) + ((-lk) / (40 : Int32)))))), J)
        rw [show ((dw_up I 417 k ((I 417 k) - (((1 : Int32) + t.2.1) * ((1 : Int32) + ((-lk) / (40 : Int32)))))) 404 32) = (I 404 32) from (up_ne (Or.inl (by decide)))]
        refine q_ild rfl rfl ?_
        refine q_add rfl ?_
        refine q_puti rfl sk_404 ?_
        show dw_ok (pr_X12_wets K) 169 0 0 [some (.ref 404), some (.int x), some (.int lk), some (.int t.2.1), some (.int c.2.2.1), some (.int (((1 : Int32) + t.2.1) * ((1 : Int32) + ((-lk) / (40 : Int32)))))] [] (n, SH1, (dw_up (dw_up I 417 k ((I 417 k) - (((1 : Int32) + t.2.1) * ((1 : Int32) + ((-lk) / (40 : Int32)))))) 404 32 ((I 404 32) + (((1 : Int32) + t.2.1) * ((1 : Int32) + ((-lk) / (40 : Int32)))))), J)
        have nl : ¬ 0 < lk.toInt := by omega
        have ed : drF t lk (I 417 k) = (((1 : Int32) + t.2.1) * ((1 : Int32) + ((-lk) / (40 : Int32)))) := by unfold drF fi_min; rw [Int32.add_comm t.2.1 1, Int32.add_comm (-lk / 40) 1, if_pos (by rw [fi_lt]; omega)]
        unfold waF skF2 gvF at hk
        rw [if_neg nl, if_neg nl, if_neg nl, ed, if_neg (show ¬ st = 2 by omega)] at hk
        refine q_vret rfl (hk (dw_up (dw_up I 417 k ((I 417 k) - (((1 : Int32) + t.2.1) * ((1 : Int32) + ((-lk) / (40 : Int32)))))) 404 32 ((I 404 32) + (((1 : Int32) + t.2.1) * ((1 : Int32) + ((-lk) / (40 : Int32)))))) (fun a g1 g2 => ?_) (fun j g1 g2 => ?_) ?_ ?_ ?_)
        · exact ((up_row g1).trans (up_row g2))
        · exact ((up_fld g1).trans (up_ne (Or.inl (by decide))))
        · funext j
          by_cases e : j = k
          · rw [e, upF_at]; exact ((up_ne (Or.inl (by decide))).trans (up_same))
          · rw [upF_ne e]; exact ((up_ne (Or.inl (by decide))).trans (up_fld e))
        · exact (up_same)
        · exact ((up_fld (by decide)).trans (up_ne (Or.inl (by decide))))
  · have y1 : 0 < (lk).toInt := y1
    refine q_ild rfl rfl ?_
    refine q_ic rfl ?_
    refine q_icmp (c := 3) rfl (by decide) (fun y5 => ?_) (fun y5 => ?_)
    · have y5 : (3 : Int) ≤ (t.2.1).toInt := y5
      refine q_ic rfl ?_
      refine q_goto rfl ?_
      refine q_ist rfl rfl ?_
      show dw_ok (pr_X12_wets K) 29 0 0 [some (.ref 404), some (.int x), some (.int lk), some (.int t.2.1), some (.int c.2.2.1), some (.int (0 : Int32))] [] (n, SH1, I, J)
      refine q_ild rfl rfl ?_
      refine q_ald rfl rfl ?_
      refine q_geti rfl sk_404 ?_
      refine q_icmp (c := 3) rfl (by decide) (fun y6 => ?_) (fun y6 => ?_)
      · have y6 : ((I 404 32)).toInt ≤ (0 : Int) := y6
        refine q_ald rfl rfl ?_
        refine q_geti rfl sk_404 ?_
        refine q_ist rfl rfl ?_
        show dw_ok (pr_X12_wets K) 49 0 0 [some (.ref 404), some (.int x), some (.int lk), some (.int t.2.1), some (.int c.2.2.1), some (.int (I 404 32))] [] (n, SH1, I, J)
        refine q_ald rfl rfl ?_
        refine q_dup rfl ?_
        refine q_geti rfl sk_404 ?_
        refine q_ild rfl rfl ?_
        refine q_sub rfl ?_
        refine q_puti rfl sk_404 ?_
        show dw_ok (pr_X12_wets K) 60 0 0 [some (.ref 404), some (.int x), some (.int lk), some (.int t.2.1), some (.int c.2.2.1), some (.int (I 404 32))] [] (n, SH1, (dw_up I 404 32 ((I 404 32) - (I 404 32))), J)
        refine q_ald rfl rfl ?_
        refine q_getr rfl sk_404 sr_404_29 ?_
        refine q_ild rfl rfl ?_
        refine q_dup2 rfl ?_
        refine q_xald rfl (Or.inl rfl) sk_417 sn_417 (by omega) (by omega) ?_
        show dw_ok (pr_X12_wets K) 67 0 0 [some (.ref 404), some (.int x), some (.int lk), some (.int t.2.1), some (.int c.2.2.1), some (.int (I 404 32))] [.int ((dw_up I 404 32 ((I 404 32) - (I 404 32))) 417 (x).toInt.toNat), .int x, .ref 417] (n, SH1, (dw_up I 404 32 ((I 404 32) - (I 404 32))), J)
        rw [hxn]
        show dw_ok (pr_X12_wets K) 67 0 0 [some (.ref 404), some (.int x), some (.int lk), some (.int t.2.1), some (.int c.2.2.1), some (.int (I 404 32))] [.int ((dw_up I 404 32 ((I 404 32) - (I 404 32))) 417 k), .int x, .ref 417] (n, SH1, (dw_up I 404 32 ((I 404 32) - (I 404 32))), J)
        rw [show ((dw_up I 404 32 ((I 404 32) - (I 404 32))) 417 k) = (I 417 k) from (up_ne (Or.inl (by decide)))]
        refine q_ild rfl rfl ?_
        refine q_add rfl ?_
        refine q_iast rfl sk_417 sn_417 (by omega) (by omega) ?_
        show dw_ok (pr_X12_wets K) 71 0 0 [some (.ref 404), some (.int x), some (.int lk), some (.int t.2.1), some (.int c.2.2.1), some (.int (I 404 32))] [] (n, SH1, (dw_up (dw_up I 404 32 ((I 404 32) - (I 404 32))) 417 (x).toInt.toNat ((I 417 k) + (I 404 32))), J)
        rw [hxn]
        refine q_ald rfl rfl ?_
        refine q_geti rfl sk_404 ?_
        show dw_ok (pr_X12_wets K) 75 0 0 [some (.ref 404), some (.int x), some (.int lk), some (.int t.2.1), some (.int c.2.2.1), some (.int (I 404 32))] [.int ((dw_up (dw_up I 404 32 ((I 404 32) - (I 404 32))) 417 k ((I 417 k) + (I 404 32))) 404 34)] (n, SH1, (dw_up (dw_up I 404 32 ((I 404 32) - (I 404 32))) 417 k ((I 417 k) + (I 404 32))), J)
        rw [show ((dw_up (dw_up I 404 32 ((I 404 32) - (I 404 32))) 417 k ((I 417 k) + (I 404 32))) 404 34) = (I 404 34) from ((up_ne (Or.inl (by decide))).trans (up_fld (by decide)))]
        refine q_ic rfl ?_
        refine q_icmp (c := 0) rfl (by decide) (fun y7 => ?_) (fun y7 => ?_)
        · have y7 : ((I 404 34)).toInt = (1 : Int) := y7
          have nl : 0 < lk.toInt := by omega
          have ec : cmF st t lk (I 404 32) = (I 404 32) := by unfold cmF; rw [if_neg (by omega)]; exact (i_eq (by rw [k0]; omega))
          have eg : gfF st c = 0 := by unfold gfF; rw [if_pos (by omega)]
          unfold waF skF2 gvF at hk
          rw [if_pos nl, if_pos nl, if_pos nl, ec, eg] at hk
          rw [Int32.add_zero (I 417 k + (I 404 32)), Int32.add_zero (I 404 33)] at hk
          refine q_vret rfl (hk (dw_up (dw_up I 404 32 ((I 404 32) - (I 404 32))) 417 k ((I 417 k) + (I 404 32))) (fun a g1 g2 => ?_) (fun j g1 g2 => ?_) ?_ ?_ ?_)
          · exact ((up_row g2).trans (up_row g1))
          · exact ((up_ne (Or.inl (by decide))).trans (up_fld g1))
          · funext j
            by_cases e : j = k
            · rw [e, upF_at]; exact (up_same)
            · rw [upF_ne e]; exact ((up_fld e).trans (up_ne (Or.inl (by decide))))
          · exact ((up_ne (Or.inl (by decide))).trans (up_same))
          · exact ((up_ne (Or.inl (by decide))).trans (up_fld (by decide)))
        · have y7 : ((I 404 34)).toInt ≠ (1 : Int) := y7
          refine q_ald rfl rfl ?_
          refine q_getr rfl sk_404 sr_404_29 ?_
          refine q_ild rfl rfl ?_
          refine q_dup2 rfl ?_
          refine q_xald rfl (Or.inl rfl) sk_417 sn_417 (by omega) (by omega) ?_
          show dw_ok (pr_X12_wets K) 86 0 0 [some (.ref 404), some (.int x), some (.int lk), some (.int t.2.1), some (.int c.2.2.1), some (.int (I 404 32))] [.int ((dw_up (dw_up I 404 32 ((I 404 32) - (I 404 32))) 417 k ((I 417 k) + (I 404 32))) 417 (x).toInt.toNat), .int x, .ref 417] (n, SH1, (dw_up (dw_up I 404 32 ((I 404 32) - (I 404 32))) 417 k ((I 417 k) + (I 404 32))), J)
          rw [hxn]
          show dw_ok (pr_X12_wets K) 86 0 0 [some (.ref 404), some (.int x), some (.int lk), some (.int t.2.1), some (.int c.2.2.1), some (.int (I 404 32))] [.int ((dw_up (dw_up I 404 32 ((I 404 32) - (I 404 32))) 417 k ((I 417 k) + (I 404 32))) 417 k), .int x, .ref 417] (n, SH1, (dw_up (dw_up I 404 32 ((I 404 32) - (I 404 32))) 417 k ((I 417 k) + (I 404 32))), J)
          rw [show ((dw_up (dw_up I 404 32 ((I 404 32) - (I 404 32))) 417 k ((I 417 k) + (I 404 32))) 417 k) = ((I 417 k) + (I 404 32)) from up_same]
          refine q_ild rfl rfl ?_
          refine q_add rfl ?_
          refine q_iast rfl sk_417 sn_417 (by omega) (by omega) ?_
          show dw_ok (pr_X12_wets K) 90 0 0 [some (.ref 404), some (.int x), some (.int lk), some (.int t.2.1), some (.int c.2.2.1), some (.int (I 404 32))] [] (n, SH1, (dw_up (dw_up (dw_up I 404 32 ((I 404 32) - (I 404 32))) 417 k ((I 417 k) + (I 404 32))) 417 (x).toInt.toNat (((I 417 k) + (I 404 32)) + c.2.2.1)), J)
          rw [hxn]
          refine q_ald rfl rfl ?_
          refine q_dup rfl ?_
          refine q_geti rfl sk_404 ?_
          show dw_ok (pr_X12_wets K) 95 0 0 [some (.ref 404), some (.int x), some (.int lk), some (.int t.2.1), some (.int c.2.2.1), some (.int (I 404 32))] [.int ((dw_up (dw_up (dw_up I 404 32 ((I 404 32) - (I 404 32))) 417 k ((I 417 k) + (I 404 32))) 417 k (((I 417 k) + (I 404 32)) + c.2.2.1)) 404 33), .ref 404] (n, SH1, (dw_up (dw_up (dw_up I 404 32 ((I 404 32) - (I 404 32))) 417 k ((I 417 k) + (I 404 32))) 417 k (((I 417 k) + (I 404 32)) + c.2.2.1)), J)
          rw [show ((dw_up (dw_up (dw_up I 404 32 ((I 404 32) - (I 404 32))) 417 k ((I 417 k) + (I 404 32))) 417 k (((I 417 k) + (I 404 32)) + c.2.2.1)) 404 33) = (I 404 33) from ((up_ne (Or.inl (by decide))).trans ((up_ne (Or.inl (by decide))).trans (up_fld (by decide))))]
          refine q_ild rfl rfl ?_
          refine q_add rfl ?_
          refine q_puti rfl sk_404 ?_
          show dw_ok (pr_X12_wets K) 101 0 0 [some (.ref 404), some (.int x), some (.int lk), some (.int t.2.1), some (.int c.2.2.1), some (.int (I 404 32))] [] (n, SH1, (dw_up (dw_up (dw_up (dw_up I 404 32 ((I 404 32) - (I 404 32))) 417 k ((I 417 k) + (I 404 32))) 417 k (((I 417 k) + (I 404 32)) + c.2.2.1)) 404 33 ((I 404 33) + c.2.2.1)), J)
          have nl : 0 < lk.toInt := by omega
          have ec : cmF st t lk (I 404 32) = (I 404 32) := by unfold cmF; rw [if_neg (by omega)]; exact (i_eq (by rw [k0]; omega))
          have eg : gfF st c = c.2.2.1 := by unfold gfF; rw [if_neg (by omega)]
          unfold waF skF2 gvF at hk
          rw [if_pos nl, if_pos nl, if_pos nl, ec, eg] at hk
          refine q_vret rfl (hk (dw_up (dw_up (dw_up (dw_up I 404 32 ((I 404 32) - (I 404 32))) 417 k ((I 417 k) + (I 404 32))) 417 k (((I 417 k) + (I 404 32)) + c.2.2.1)) 404 33 ((I 404 33) + c.2.2.1)) (fun a g1 g2 => ?_) (fun j g1 g2 => ?_) ?_ ?_ ?_)
          · exact ((up_row g1).trans ((up_row g2).trans ((up_row g2).trans (up_row g1))))
          · exact ((up_fld g2).trans ((up_ne (Or.inl (by decide))).trans ((up_ne (Or.inl (by decide))).trans (up_fld g1))))
          · funext j
            by_cases e : j = k
            · rw [e, upF_at]; exact ((up_ne (Or.inl (by decide))).trans (up_same))
            · rw [upF_ne e]; exact ((up_ne (Or.inl (by decide))).trans ((up_fld e).trans ((up_fld e).trans (up_ne (Or.inl (by decide))))))
          · exact ((up_fld (by decide)).trans ((up_ne (Or.inl (by decide))).trans ((up_ne (Or.inl (by decide))).trans (up_same))))
          · exact (up_same)
      · have y6 : (0 : Int) < ((I 404 32)).toInt := y6
        refine q_ild rfl rfl ?_
        refine q_goto rfl ?_
        refine q_ist rfl rfl ?_
        show dw_ok (pr_X12_wets K) 49 0 0 [some (.ref 404), some (.int x), some (.int lk), some (.int t.2.1), some (.int c.2.2.1), some (.int (0 : Int32))] [] (n, SH1, I, J)
        refine q_ald rfl rfl ?_
        refine q_dup rfl ?_
        refine q_geti rfl sk_404 ?_
        refine q_ild rfl rfl ?_
        refine q_sub rfl ?_
        refine q_puti rfl sk_404 ?_
        show dw_ok (pr_X12_wets K) 60 0 0 [some (.ref 404), some (.int x), some (.int lk), some (.int t.2.1), some (.int c.2.2.1), some (.int (0 : Int32))] [] (n, SH1, (dw_up I 404 32 ((I 404 32) - (0 : Int32))), J)
        refine q_ald rfl rfl ?_
        refine q_getr rfl sk_404 sr_404_29 ?_
        refine q_ild rfl rfl ?_
        refine q_dup2 rfl ?_
        refine q_xald rfl (Or.inl rfl) sk_417 sn_417 (by omega) (by omega) ?_
        show dw_ok (pr_X12_wets K) 67 0 0 [some (.ref 404), some (.int x), some (.int lk), some (.int t.2.1), some (.int c.2.2.1), some (.int (0 : Int32))] [.int ((dw_up I 404 32 ((I 404 32) - (0 : Int32))) 417 (x).toInt.toNat), .int x, .ref 417] (n, SH1, (dw_up I 404 32 ((I 404 32) - (0 : Int32))), J)
        rw [hxn]
        show dw_ok (pr_X12_wets K) 67 0 0 [some (.ref 404), some (.int x), some (.int lk), some (.int t.2.1), some (.int c.2.2.1), some (.int (0 : Int32))] [.int ((dw_up I 404 32 ((I 404 32) - (0 : Int32))) 417 k), .int x, .ref 417] (n, SH1, (dw_up I 404 32 ((I 404 32) - (0 : Int32))), J)
        rw [show ((dw_up I 404 32 ((I 404 32) - (0 : Int32))) 417 k) = (I 417 k) from (up_ne (Or.inl (by decide)))]
        refine q_ild rfl rfl ?_
        refine q_add rfl ?_
        refine q_iast rfl sk_417 sn_417 (by omega) (by omega) ?_
        show dw_ok (pr_X12_wets K) 71 0 0 [some (.ref 404), some (.int x), some (.int lk), some (.int t.2.1), some (.int c.2.2.1), some (.int (0 : Int32))] [] (n, SH1, (dw_up (dw_up I 404 32 ((I 404 32) - (0 : Int32))) 417 (x).toInt.toNat ((I 417 k) + (0 : Int32))), J)
        rw [hxn]
        refine q_ald rfl rfl ?_
        refine q_geti rfl sk_404 ?_
        show dw_ok (pr_X12_wets K) 75 0 0 [some (.ref 404), some (.int x), some (.int lk), some (.int t.2.1), some (.int c.2.2.1), some (.int (0 : Int32))] [.int ((dw_up (dw_up I 404 32 ((I 404 32) - (0 : Int32))) 417 k ((I 417 k) + (0 : Int32))) 404 34)] (n, SH1, (dw_up (dw_up I 404 32 ((I 404 32) - (0 : Int32))) 417 k ((I 417 k) + (0 : Int32))), J)
        rw [show ((dw_up (dw_up I 404 32 ((I 404 32) - (0 : Int32))) 417 k ((I 417 k) + (0 : Int32))) 404 34) = (I 404 34) from ((up_ne (Or.inl (by decide))).trans (up_fld (by decide)))]
        refine q_ic rfl ?_
        refine q_icmp (c := 0) rfl (by decide) (fun y8 => ?_) (fun y8 => ?_)
        · have y8 : ((I 404 34)).toInt = (1 : Int) := y8
          have nl : 0 < lk.toInt := by omega
          have ec : cmF st t lk (I 404 32) = (0 : Int32) := by unfold cmF; rw [if_neg (by omega)]
          have eg : gfF st c = 0 := by unfold gfF; rw [if_pos (by omega)]
          unfold waF skF2 gvF at hk
          rw [if_pos nl, if_pos nl, if_pos nl, ec, eg] at hk
          rw [Int32.add_zero (I 417 k + (0 : Int32)), Int32.add_zero (I 404 33)] at hk
          refine q_vret rfl (hk (dw_up (dw_up I 404 32 ((I 404 32) - (0 : Int32))) 417 k ((I 417 k) + (0 : Int32))) (fun a g1 g2 => ?_) (fun j g1 g2 => ?_) ?_ ?_ ?_)
          · exact ((up_row g2).trans (up_row g1))
          · exact ((up_ne (Or.inl (by decide))).trans (up_fld g1))
          · funext j
            by_cases e : j = k
            · rw [e, upF_at]; exact (up_same)
            · rw [upF_ne e]; exact ((up_fld e).trans (up_ne (Or.inl (by decide))))
          · exact ((up_ne (Or.inl (by decide))).trans (up_same))
          · exact ((up_ne (Or.inl (by decide))).trans (up_fld (by decide)))
        · have y8 : ((I 404 34)).toInt ≠ (1 : Int) := y8
          refine q_ald rfl rfl ?_
          refine q_getr rfl sk_404 sr_404_29 ?_
          refine q_ild rfl rfl ?_
          refine q_dup2 rfl ?_
          refine q_xald rfl (Or.inl rfl) sk_417 sn_417 (by omega) (by omega) ?_
          show dw_ok (pr_X12_wets K) 86 0 0 [some (.ref 404), some (.int x), some (.int lk), some (.int t.2.1), some (.int c.2.2.1), some (.int (0 : Int32))] [.int ((dw_up (dw_up I 404 32 ((I 404 32) - (0 : Int32))) 417 k ((I 417 k) + (0 : Int32))) 417 (x).toInt.toNat), .int x, .ref 417] (n, SH1, (dw_up (dw_up I 404 32 ((I 404 32) - (0 : Int32))) 417 k ((I 417 k) + (0 : Int32))), J)
          rw [hxn]
          show dw_ok (pr_X12_wets K) 86 0 0 [some (.ref 404), some (.int x), some (.int lk), some (.int t.2.1), some (.int c.2.2.1), some (.int (0 : Int32))] [.int ((dw_up (dw_up I 404 32 ((I 404 32) - (0 : Int32))) 417 k ((I 417 k) + (0 : Int32))) 417 k), .int x, .ref 417] (n, SH1, (dw_up (dw_up I 404 32 ((I 404 32) - (0 : Int32))) 417 k ((I 417 k) + (0 : Int32))), J)
          rw [show ((dw_up (dw_up I 404 32 ((I 404 32) - (0 : Int32))) 417 k ((I 417 k) + (0 : Int32))) 417 k) = ((I 417 k) + (0 : Int32)) from up_same]
          refine q_ild rfl rfl ?_
          refine q_add rfl ?_
          refine q_iast rfl sk_417 sn_417 (by omega) (by omega) ?_
          show dw_ok (pr_X12_wets K) 90 0 0 [some (.ref 404), some (.int x), some (.int lk), some (.int t.2.1), some (.int c.2.2.1), some (.int (0 : Int32))] [] (n, SH1, (dw_up (dw_up (dw_up I 404 32 ((I 404 32) - (0 : Int32))) 417 k ((I 417 k) + (0 : Int32))) 417 (x).toInt.toNat (((I 417 k) + (0 : Int32)) + c.2.2.1)), J)
          rw [hxn]
          refine q_ald rfl rfl ?_
          refine q_dup rfl ?_
          refine q_geti rfl sk_404 ?_
          show dw_ok (pr_X12_wets K) 95 0 0 [some (.ref 404), some (.int x), some (.int lk), some (.int t.2.1), some (.int c.2.2.1), some (.int (0 : Int32))] [.int ((dw_up (dw_up (dw_up I 404 32 ((I 404 32) - (0 : Int32))) 417 k ((I 417 k) + (0 : Int32))) 417 k (((I 417 k) + (0 : Int32)) + c.2.2.1)) 404 33), .ref 404] (n, SH1, (dw_up (dw_up (dw_up I 404 32 ((I 404 32) - (0 : Int32))) 417 k ((I 417 k) + (0 : Int32))) 417 k (((I 417 k) + (0 : Int32)) + c.2.2.1)), J)
          rw [show ((dw_up (dw_up (dw_up I 404 32 ((I 404 32) - (0 : Int32))) 417 k ((I 417 k) + (0 : Int32))) 417 k (((I 417 k) + (0 : Int32)) + c.2.2.1)) 404 33) = (I 404 33) from ((up_ne (Or.inl (by decide))).trans ((up_ne (Or.inl (by decide))).trans (up_fld (by decide))))]
          refine q_ild rfl rfl ?_
          refine q_add rfl ?_
          refine q_puti rfl sk_404 ?_
          show dw_ok (pr_X12_wets K) 101 0 0 [some (.ref 404), some (.int x), some (.int lk), some (.int t.2.1), some (.int c.2.2.1), some (.int (0 : Int32))] [] (n, SH1, (dw_up (dw_up (dw_up (dw_up I 404 32 ((I 404 32) - (0 : Int32))) 417 k ((I 417 k) + (0 : Int32))) 417 k (((I 417 k) + (0 : Int32)) + c.2.2.1)) 404 33 ((I 404 33) + c.2.2.1)), J)
          have nl : 0 < lk.toInt := by omega
          have ec : cmF st t lk (I 404 32) = (0 : Int32) := by unfold cmF; rw [if_neg (by omega)]
          have eg : gfF st c = c.2.2.1 := by unfold gfF; rw [if_neg (by omega)]
          unfold waF skF2 gvF at hk
          rw [if_pos nl, if_pos nl, if_pos nl, ec, eg] at hk
          refine q_vret rfl (hk (dw_up (dw_up (dw_up (dw_up I 404 32 ((I 404 32) - (0 : Int32))) 417 k ((I 417 k) + (0 : Int32))) 417 k (((I 417 k) + (0 : Int32)) + c.2.2.1)) 404 33 ((I 404 33) + c.2.2.1)) (fun a g1 g2 => ?_) (fun j g1 g2 => ?_) ?_ ?_ ?_)
          · exact ((up_row g1).trans ((up_row g2).trans ((up_row g2).trans (up_row g1))))
          · exact ((up_fld g2).trans ((up_ne (Or.inl (by decide))).trans ((up_ne (Or.inl (by decide))).trans (up_fld g1))))
          · funext j
            by_cases e : j = k
            · rw [e, upF_at]; exact ((up_ne (Or.inl (by decide))).trans (up_same))
            · rw [upF_ne e]; exact ((up_ne (Or.inl (by decide))).trans ((up_fld e).trans ((up_fld e).trans (up_ne (Or.inl (by decide))))))
          · exact ((up_fld (by decide)).trans ((up_ne (Or.inl (by decide))).trans ((up_ne (Or.inl (by decide))).trans (up_same))))
          · exact (up_same)
    · have y5 : (t.2.1).toInt < (3 : Int) := y5
      refine q_ald rfl rfl ?_
      refine q_geti rfl sk_404 ?_
      refine q_ic rfl ?_
      refine q_icmp (c := 1) rfl (by decide) (fun y9 => ?_) (fun y9 => ?_)
      · have y9 : ((I 404 34)).toInt ≠ (2 : Int) := y9
        refine q_ild rfl rfl ?_
        refine q_ic rfl ?_
        refine q_div rfl (by decide) ?_
        refine q_ic rfl ?_
        refine q_add rfl ?_
        refine q_ist rfl rfl ?_
        show dw_ok (pr_X12_wets K) 29 0 0 [some (.ref 404), some (.int x), some (.int lk), some (.int t.2.1), some (.int c.2.2.1), some (.int ((lk / (50 : Int32)) + (1 : Int32)))] [] (n, SH1, I, J)
        refine q_ild rfl rfl ?_
        refine q_ald rfl rfl ?_
        refine q_geti rfl sk_404 ?_
        refine q_icmp (c := 3) rfl (by decide) (fun y10 => ?_) (fun y10 => ?_)
        · have y10 : ((I 404 32)).toInt ≤ (((lk / (50 : Int32)) + (1 : Int32))).toInt := y10
          refine q_ald rfl rfl ?_
          refine q_geti rfl sk_404 ?_
          refine q_ist rfl rfl ?_
          show dw_ok (pr_X12_wets K) 49 0 0 [some (.ref 404), some (.int x), some (.int lk), some (.int t.2.1), some (.int c.2.2.1), some (.int (I 404 32))] [] (n, SH1, I, J)
          refine q_ald rfl rfl ?_
          refine q_dup rfl ?_
          refine q_geti rfl sk_404 ?_
          refine q_ild rfl rfl ?_
          refine q_sub rfl ?_
          refine q_puti rfl sk_404 ?_
          show dw_ok (pr_X12_wets K) 60 0 0 [some (.ref 404), some (.int x), some (.int lk), some (.int t.2.1), some (.int c.2.2.1), some (.int (I 404 32))] [] (n, SH1, (dw_up I 404 32 ((I 404 32) - (I 404 32))), J)
          refine q_ald rfl rfl ?_
          refine q_getr rfl sk_404 sr_404_29 ?_
          refine q_ild rfl rfl ?_
          refine q_dup2 rfl ?_
          refine q_xald rfl (Or.inl rfl) sk_417 sn_417 (by omega) (by omega) ?_
          show dw_ok (pr_X12_wets K) 67 0 0 [some (.ref 404), some (.int x), some (.int lk), some (.int t.2.1), some (.int c.2.2.1), some (.int (I 404 32))] [.int ((dw_up I 404 32 ((I 404 32) - (I 404 32))) 417 (x).toInt.toNat), .int x, .ref 417] (n, SH1, (dw_up I 404 32 ((I 404 32) - (I 404 32))), J)
          rw [hxn]
          show dw_ok (pr_X12_wets K) 67 0 0 [some (.ref 404), some (.int x), some (.int lk), some (.int t.2.1), some (.int c.2.2.1), some (.int (I 404 32))] [.int ((dw_up I 404 32 ((I 404 32) - (I 404 32))) 417 k), .int x, .ref 417] (n, SH1, (dw_up I 404 32 ((I 404 32) - (I 404 32))), J)
          rw [show ((dw_up I 404 32 ((I 404 32) - (I 404 32))) 417 k) = (I 417 k) from (up_ne (Or.inl (by decide)))]
          refine q_ild rfl rfl ?_
          refine q_add rfl ?_
          refine q_iast rfl sk_417 sn_417 (by omega) (by omega) ?_
          show dw_ok (pr_X12_wets K) 71 0 0 [some (.ref 404), some (.int x), some (.int lk), some (.int t.2.1), some (.int c.2.2.1), some (.int (I 404 32))] [] (n, SH1, (dw_up (dw_up I 404 32 ((I 404 32) - (I 404 32))) 417 (x).toInt.toNat ((I 417 k) + (I 404 32))), J)
          rw [hxn]
          refine q_ald rfl rfl ?_
          refine q_geti rfl sk_404 ?_
          show dw_ok (pr_X12_wets K) 75 0 0 [some (.ref 404), some (.int x), some (.int lk), some (.int t.2.1), some (.int c.2.2.1), some (.int (I 404 32))] [.int ((dw_up (dw_up I 404 32 ((I 404 32) - (I 404 32))) 417 k ((I 417 k) + (I 404 32))) 404 34)] (n, SH1, (dw_up (dw_up I 404 32 ((I 404 32) - (I 404 32))) 417 k ((I 417 k) + (I 404 32))), J)
          rw [show ((dw_up (dw_up I 404 32 ((I 404 32) - (I 404 32))) 417 k ((I 417 k) + (I 404 32))) 404 34) = (I 404 34) from ((up_ne (Or.inl (by decide))).trans (up_fld (by decide)))]
          refine q_ic rfl ?_
          refine q_icmp (c := 0) rfl (by decide) (fun y11 => ?_) (fun y11 => ?_)
          · have y11 : ((I 404 34)).toInt = (1 : Int) := y11
            have nl : 0 < lk.toInt := by omega
            have ec : cmF st t lk (I 404 32) = (I 404 32) := by unfold cmF fi_min; rw [if_pos ⟨by omega, by omega⟩, if_neg (by rw [fi_lt]; omega)]
            have eg : gfF st c = 0 := by unfold gfF; rw [if_pos (by omega)]
            unfold waF skF2 gvF at hk
            rw [if_pos nl, if_pos nl, if_pos nl, ec, eg] at hk
            rw [Int32.add_zero (I 417 k + (I 404 32)), Int32.add_zero (I 404 33)] at hk
            refine q_vret rfl (hk (dw_up (dw_up I 404 32 ((I 404 32) - (I 404 32))) 417 k ((I 417 k) + (I 404 32))) (fun a g1 g2 => ?_) (fun j g1 g2 => ?_) ?_ ?_ ?_)
            · exact ((up_row g2).trans (up_row g1))
            · exact ((up_ne (Or.inl (by decide))).trans (up_fld g1))
            · funext j
              by_cases e : j = k
              · rw [e, upF_at]; exact (up_same)
              · rw [upF_ne e]; exact ((up_fld e).trans (up_ne (Or.inl (by decide))))
            · exact ((up_ne (Or.inl (by decide))).trans (up_same))
            · exact ((up_ne (Or.inl (by decide))).trans (up_fld (by decide)))
          · have y11 : ((I 404 34)).toInt ≠ (1 : Int) := y11
            refine q_ald rfl rfl ?_
            refine q_getr rfl sk_404 sr_404_29 ?_
            refine q_ild rfl rfl ?_
            refine q_dup2 rfl ?_
            refine q_xald rfl (Or.inl rfl) sk_417 sn_417 (by omega) (by omega) ?_
            show dw_ok (pr_X12_wets K) 86 0 0 [some (.ref 404), some (.int x), some (.int lk), some (.int t.2.1), some (.int c.2.2.1), some (.int (I 404 32))] [.int ((dw_up (dw_up I 404 32 ((I 404 32) - (I 404 32))) 417 k ((I 417 k) + (I 404 32))) 417 (x).toInt.toNat), .int x, .ref 417] (n, SH1, (dw_up (dw_up I 404 32 ((I 404 32) - (I 404 32))) 417 k ((I 417 k) + (I 404 32))), J)
            rw [hxn]
            show dw_ok (pr_X12_wets K) 86 0 0 [some (.ref 404), some (.int x), some (.int lk), some (.int t.2.1), some (.int c.2.2.1), some (.int (I 404 32))] [.int ((dw_up (dw_up I 404 32 ((I 404 32) - (I 404 32))) 417 k ((I 417 k) + (I 404 32))) 417 k), .int x, .ref 417] (n, SH1, (dw_up (dw_up I 404 32 ((I 404 32) - (I 404 32))) 417 k ((I 417 k) + (I 404 32))), J)
            rw [show ((dw_up (dw_up I 404 32 ((I 404 32) - (I 404 32))) 417 k ((I 417 k) + (I 404 32))) 417 k) = ((I 417 k) + (I 404 32)) from up_same]
            refine q_ild rfl rfl ?_
            refine q_add rfl ?_
            refine q_iast rfl sk_417 sn_417 (by omega) (by omega) ?_
            show dw_ok (pr_X12_wets K) 90 0 0 [some (.ref 404), some (.int x), some (.int lk), some (.int t.2.1), some (.int c.2.2.1), some (.int (I 404 32))] [] (n, SH1, (dw_up (dw_up (dw_up I 404 32 ((I 404 32) - (I 404 32))) 417 k ((I 417 k) + (I 404 32))) 417 (x).toInt.toNat (((I 417 k) + (I 404 32)) + c.2.2.1)), J)
            rw [hxn]
            refine q_ald rfl rfl ?_
            refine q_dup rfl ?_
            refine q_geti rfl sk_404 ?_
            show dw_ok (pr_X12_wets K) 95 0 0 [some (.ref 404), some (.int x), some (.int lk), some (.int t.2.1), some (.int c.2.2.1), some (.int (I 404 32))] [.int ((dw_up (dw_up (dw_up I 404 32 ((I 404 32) - (I 404 32))) 417 k ((I 417 k) + (I 404 32))) 417 k (((I 417 k) + (I 404 32)) + c.2.2.1)) 404 33), .ref 404] (n, SH1, (dw_up (dw_up (dw_up I 404 32 ((I 404 32) - (I 404 32))) 417 k ((I 417 k) + (I 404 32))) 417 k (((I 417 k) + (I 404 32)) + c.2.2.1)), J)
            rw [show ((dw_up (dw_up (dw_up I 404 32 ((I 404 32) - (I 404 32))) 417 k ((I 417 k) + (I 404 32))) 417 k (((I 417 k) + (I 404 32)) + c.2.2.1)) 404 33) = (I 404 33) from ((up_ne (Or.inl (by decide))).trans ((up_ne (Or.inl (by decide))).trans (up_fld (by decide))))]
            refine q_ild rfl rfl ?_
            refine q_add rfl ?_
            refine q_puti rfl sk_404 ?_
            show dw_ok (pr_X12_wets K) 101 0 0 [some (.ref 404), some (.int x), some (.int lk), some (.int t.2.1), some (.int c.2.2.1), some (.int (I 404 32))] [] (n, SH1, (dw_up (dw_up (dw_up (dw_up I 404 32 ((I 404 32) - (I 404 32))) 417 k ((I 417 k) + (I 404 32))) 417 k (((I 417 k) + (I 404 32)) + c.2.2.1)) 404 33 ((I 404 33) + c.2.2.1)), J)
            have nl : 0 < lk.toInt := by omega
            have ec : cmF st t lk (I 404 32) = (I 404 32) := by unfold cmF fi_min; rw [if_pos ⟨by omega, by omega⟩, if_neg (by rw [fi_lt]; omega)]
            have eg : gfF st c = c.2.2.1 := by unfold gfF; rw [if_neg (by omega)]
            unfold waF skF2 gvF at hk
            rw [if_pos nl, if_pos nl, if_pos nl, ec, eg] at hk
            refine q_vret rfl (hk (dw_up (dw_up (dw_up (dw_up I 404 32 ((I 404 32) - (I 404 32))) 417 k ((I 417 k) + (I 404 32))) 417 k (((I 417 k) + (I 404 32)) + c.2.2.1)) 404 33 ((I 404 33) + c.2.2.1)) (fun a g1 g2 => ?_) (fun j g1 g2 => ?_) ?_ ?_ ?_)
            · exact ((up_row g1).trans ((up_row g2).trans ((up_row g2).trans (up_row g1))))
            · exact ((up_fld g2).trans ((up_ne (Or.inl (by decide))).trans ((up_ne (Or.inl (by decide))).trans (up_fld g1))))
            · funext j
              by_cases e : j = k
              · rw [e, upF_at]; exact ((up_ne (Or.inl (by decide))).trans (up_same))
              · rw [upF_ne e]; exact ((up_ne (Or.inl (by decide))).trans ((up_fld e).trans ((up_fld e).trans (up_ne (Or.inl (by decide))))))
            · exact ((up_fld (by decide)).trans ((up_ne (Or.inl (by decide))).trans ((up_ne (Or.inl (by decide))).trans (up_same))))
            · exact (up_same)
        · have y10 : (((lk / (50 : Int32)) + (1 : Int32))).toInt < ((I 404 32)).toInt := y10
          refine q_ild rfl rfl ?_
          refine q_goto rfl ?_
          refine q_ist rfl rfl ?_
          show dw_ok (pr_X12_wets K) 49 0 0 [some (.ref 404), some (.int x), some (.int lk), some (.int t.2.1), some (.int c.2.2.1), some (.int ((lk / (50 : Int32)) + (1 : Int32)))] [] (n, SH1, I, J)
          refine q_ald rfl rfl ?_
          refine q_dup rfl ?_
          refine q_geti rfl sk_404 ?_
          refine q_ild rfl rfl ?_
          refine q_sub rfl ?_
          refine q_puti rfl sk_404 ?_
          show dw_ok (pr_X12_wets K) 60 0 0 [some (.ref 404), some (.int x), some (.int lk), some (.int t.2.1), some (.int c.2.2.1), some (.int ((lk / (50 : Int32)) + (1 : Int32)))] [] (n, SH1, (dw_up I 404 32 ((I 404 32) - ((lk / (50 : Int32)) + (1 : Int32)))), J)
          refine q_ald rfl rfl ?_
          refine q_getr rfl sk_404 sr_404_29 ?_
          refine q_ild rfl rfl ?_
          refine q_dup2 rfl ?_
          refine q_xald rfl (Or.inl rfl) sk_417 sn_417 (by omega) (by omega) ?_
          show dw_ok (pr_X12_wets K) 67 0 0 [some (.ref 404), some (.int x), some (.int lk), some (.int t.2.1), some (.int c.2.2.1), some (.int ((lk / (50 : Int32)) + (1 : Int32)))] [.int ((dw_up I 404 32 ((I 404 32) - ((lk / (50 : Int32)) + (1 : Int32)))) 417 (x).toInt.toNat), .int x, .ref 417] (n, SH1, (dw_up I 404 32 ((I 404 32) - ((lk / (50 : Int32)) + (1 : Int32)))), J)
          rw [hxn]
          show dw_ok (pr_X12_wets K) 67 0 0 [some (.ref 404), some (.int x), some (.int lk), some (.int t.2.1), some (.int c.2.2.1), some (.int ((lk / (50 : Int32)) + (1 : Int32)))] [.int ((dw_up I 404 32 ((I 404 32) - ((lk / (50 : Int32)) + (1 : Int32)))) 417 k), .int x, .ref 417] (n, SH1, (dw_up I 404 32 ((I 404 32) - ((lk / (50 : Int32)) + (1 : Int32)))), J)
          rw [show ((dw_up I 404 32 ((I 404 32) - ((lk / (50 : Int32)) + (1 : Int32)))) 417 k) = (I 417 k) from (up_ne (Or.inl (by decide)))]
          refine q_ild rfl rfl ?_
          refine q_add rfl ?_
          refine q_iast rfl sk_417 sn_417 (by omega) (by omega) ?_
          show dw_ok (pr_X12_wets K) 71 0 0 [some (.ref 404), some (.int x), some (.int lk), some (.int t.2.1), some (.int c.2.2.1), some (.int ((lk / (50 : Int32)) + (1 : Int32)))] [] (n, SH1, (dw_up (dw_up I 404 32 ((I 404 32) - ((lk / (50 : Int32)) + (1 : Int32)))) 417 (x).toInt.toNat ((I 417 k) + ((lk / (50 : Int32)) + (1 : Int32)))), J)
          rw [hxn]
          refine q_ald rfl rfl ?_
          refine q_geti rfl sk_404 ?_
          show dw_ok (pr_X12_wets K) 75 0 0 [some (.ref 404), some (.int x), some (.int lk), some (.int t.2.1), some (.int c.2.2.1), some (.int ((lk / (50 : Int32)) + (1 : Int32)))] [.int ((dw_up (dw_up I 404 32 ((I 404 32) - ((lk / (50 : Int32)) + (1 : Int32)))) 417 k ((I 417 k) + ((lk / (50 : Int32)) + (1 : Int32)))) 404 34)] (n, SH1, (dw_up (dw_up I 404 32 ((I 404 32) - ((lk / (50 : Int32)) + (1 : Int32)))) 417 k ((I 417 k) + ((lk / (50 : Int32)) + (1 : Int32)))), J)
          rw [show ((dw_up (dw_up I 404 32 ((I 404 32) - ((lk / (50 : Int32)) + (1 : Int32)))) 417 k ((I 417 k) + ((lk / (50 : Int32)) + (1 : Int32)))) 404 34) = (I 404 34) from ((up_ne (Or.inl (by decide))).trans (up_fld (by decide)))]
          refine q_ic rfl ?_
          refine q_icmp (c := 0) rfl (by decide) (fun y12 => ?_) (fun y12 => ?_)
          · have y12 : ((I 404 34)).toInt = (1 : Int) := y12
            have nl : 0 < lk.toInt := by omega
            have ec : cmF st t lk (I 404 32) = ((lk / (50 : Int32)) + (1 : Int32)) := by unfold cmF fi_min; rw [if_pos ⟨by omega, by omega⟩, if_pos (by rw [fi_lt]; omega)]
            have eg : gfF st c = 0 := by unfold gfF; rw [if_pos (by omega)]
            unfold waF skF2 gvF at hk
            rw [if_pos nl, if_pos nl, if_pos nl, ec, eg] at hk
            rw [Int32.add_zero (I 417 k + ((lk / (50 : Int32)) + (1 : Int32))), Int32.add_zero (I 404 33)] at hk
            refine q_vret rfl (hk (dw_up (dw_up I 404 32 ((I 404 32) - ((lk / (50 : Int32)) + (1 : Int32)))) 417 k ((I 417 k) + ((lk / (50 : Int32)) + (1 : Int32)))) (fun a g1 g2 => ?_) (fun j g1 g2 => ?_) ?_ ?_ ?_)
            · exact ((up_row g2).trans (up_row g1))
            · exact ((up_ne (Or.inl (by decide))).trans (up_fld g1))
            · funext j
              by_cases e : j = k
              · rw [e, upF_at]; exact (up_same)
              · rw [upF_ne e]; exact ((up_fld e).trans (up_ne (Or.inl (by decide))))
            · exact ((up_ne (Or.inl (by decide))).trans (up_same))
            · exact ((up_ne (Or.inl (by decide))).trans (up_fld (by decide)))
          · have y12 : ((I 404 34)).toInt ≠ (1 : Int) := y12
            refine q_ald rfl rfl ?_
            refine q_getr rfl sk_404 sr_404_29 ?_
            refine q_ild rfl rfl ?_
            refine q_dup2 rfl ?_
            refine q_xald rfl (Or.inl rfl) sk_417 sn_417 (by omega) (by omega) ?_
            show dw_ok (pr_X12_wets K) 86 0 0 [some (.ref 404), some (.int x), some (.int lk), some (.int t.2.1), some (.int c.2.2.1), some (.int ((lk / (50 : Int32)) + (1 : Int32)))] [.int ((dw_up (dw_up I 404 32 ((I 404 32) - ((lk / (50 : Int32)) + (1 : Int32)))) 417 k ((I 417 k) + ((lk / (50 : Int32)) + (1 : Int32)))) 417 (x).toInt.toNat), .int x, .ref 417] (n, SH1, (dw_up (dw_up I 404 32 ((I 404 32) - ((lk / (50 : Int32)) + (1 : Int32)))) 417 k ((I 417 k) + ((lk / (50 : Int32)) + (1 : Int32)))), J)
            rw [hxn]
            show dw_ok (pr_X12_wets K) 86 0 0 [some (.ref 404), some (.int x), some (.int lk), some (.int t.2.1), some (.int c.2.2.1), some (.int ((lk / (50 : Int32)) + (1 : Int32)))] [.int ((dw_up (dw_up I 404 32 ((I 404 32) - ((lk / (50 : Int32)) + (1 : Int32)))) 417 k ((I 417 k) + ((lk / (50 : Int32)) + (1 : Int32)))) 417 k), .int x, .ref 417] (n, SH1, (dw_up (dw_up I 404 32 ((I 404 32) - ((lk / (50 : Int32)) + (1 : Int32)))) 417 k ((I 417 k) + ((lk / (50 : Int32)) + (1 : Int32)))), J)
            rw [show ((dw_up (dw_up I 404 32 ((I 404 32) - ((lk / (50 : Int32)) + (1 : Int32)))) 417 k ((I 417 k) + ((lk / (50 : Int32)) + (1 : Int32)))) 417 k) = ((I 417 k) + ((lk / (50 : Int32)) + (1 : Int32))) from up_same]
            refine q_ild rfl rfl ?_
            refine q_add rfl ?_
            refine q_iast rfl sk_417 sn_417 (by omega) (by omega) ?_
            show dw_ok (pr_X12_wets K) 90 0 0 [some (.ref 404), some (.int x), some (.int lk), some (.int t.2.1), some (.int c.2.2.1), some (.int ((lk / (50 : Int32)) + (1 : Int32)))] [] (n, SH1, (dw_up (dw_up (dw_up I 404 32 ((I 404 32) - ((lk / (50 : Int32)) + (1 : Int32)))) 417 k ((I 417 k) + ((lk / (50 : Int32)) + (1 : Int32)))) 417 (x).toInt.toNat (((I 417 k) + ((lk / (50 : Int32)) + (1 : Int32))) + c.2.2.1)), J)
            rw [hxn]
            refine q_ald rfl rfl ?_
            refine q_dup rfl ?_
            refine q_geti rfl sk_404 ?_
            show dw_ok (pr_X12_wets K) 95 0 0 [some (.ref 404), some (.int x), some (.int lk), some (.int t.2.1), some (.int c.2.2.1), some (.int ((lk / (50 : Int32)) + (1 : Int32)))] [.int ((dw_up (dw_up (dw_up I 404 32 ((I 404 32) - ((lk / (50 : Int32)) + (1 : Int32)))) 417 k ((I 417 k) + ((lk / (50 : Int32)) + (1 : Int32)))) 417 k (((I 417 k) + ((lk / (50 : Int32)) + (1 : Int32))) + c.2.2.1)) 404 33), .ref 404] (n, SH1, (dw_up (dw_up (dw_up I 404 32 ((I 404 32) - ((lk / (50 : Int32)) + (1 : Int32)))) 417 k ((I 417 k) + ((lk / (50 : Int32)) + (1 : Int32)))) 417 k (((I 417 k) + ((lk / (50 : Int32)) + (1 : Int32))) + c.2.2.1)), J)
            rw [show ((dw_up (dw_up (dw_up I 404 32 ((I 404 32) - ((lk / (50 : Int32)) + (1 : Int32)))) 417 k ((I 417 k) + ((lk / (50 : Int32)) + (1 : Int32)))) 417 k (((I 417 k) + ((lk / (50 : Int32)) + (1 : Int32))) + c.2.2.1)) 404 33) = (I 404 33) from ((up_ne (Or.inl (by decide))).trans ((up_ne (Or.inl (by decide))).trans (up_fld (by decide))))]
            refine q_ild rfl rfl ?_
            refine q_add rfl ?_
            refine q_puti rfl sk_404 ?_
            show dw_ok (pr_X12_wets K) 101 0 0 [some (.ref 404), some (.int x), some (.int lk), some (.int t.2.1), some (.int c.2.2.1), some (.int ((lk / (50 : Int32)) + (1 : Int32)))] [] (n, SH1, (dw_up (dw_up (dw_up (dw_up I 404 32 ((I 404 32) - ((lk / (50 : Int32)) + (1 : Int32)))) 417 k ((I 417 k) + ((lk / (50 : Int32)) + (1 : Int32)))) 417 k (((I 417 k) + ((lk / (50 : Int32)) + (1 : Int32))) + c.2.2.1)) 404 33 ((I 404 33) + c.2.2.1)), J)
            have nl : 0 < lk.toInt := by omega
            have ec : cmF st t lk (I 404 32) = ((lk / (50 : Int32)) + (1 : Int32)) := by unfold cmF fi_min; rw [if_pos ⟨by omega, by omega⟩, if_pos (by rw [fi_lt]; omega)]
            have eg : gfF st c = c.2.2.1 := by unfold gfF; rw [if_neg (by omega)]
            unfold waF skF2 gvF at hk
            rw [if_pos nl, if_pos nl, if_pos nl, ec, eg] at hk
            refine q_vret rfl (hk (dw_up (dw_up (dw_up (dw_up I 404 32 ((I 404 32) - ((lk / (50 : Int32)) + (1 : Int32)))) 417 k ((I 417 k) + ((lk / (50 : Int32)) + (1 : Int32)))) 417 k (((I 417 k) + ((lk / (50 : Int32)) + (1 : Int32))) + c.2.2.1)) 404 33 ((I 404 33) + c.2.2.1)) (fun a g1 g2 => ?_) (fun j g1 g2 => ?_) ?_ ?_ ?_)
            · exact ((up_row g1).trans ((up_row g2).trans ((up_row g2).trans (up_row g1))))
            · exact ((up_fld g2).trans ((up_ne (Or.inl (by decide))).trans ((up_ne (Or.inl (by decide))).trans (up_fld g1))))
            · funext j
              by_cases e : j = k
              · rw [e, upF_at]; exact ((up_ne (Or.inl (by decide))).trans (up_same))
              · rw [upF_ne e]; exact ((up_ne (Or.inl (by decide))).trans ((up_fld e).trans ((up_fld e).trans (up_ne (Or.inl (by decide))))))
            · exact ((up_fld (by decide)).trans ((up_ne (Or.inl (by decide))).trans ((up_ne (Or.inl (by decide))).trans (up_same))))
            · exact (up_same)
      · have y9 : ((I 404 34)).toInt = (2 : Int) := y9
        refine q_ic rfl ?_
        refine q_goto rfl ?_
        refine q_ist rfl rfl ?_
        show dw_ok (pr_X12_wets K) 29 0 0 [some (.ref 404), some (.int x), some (.int lk), some (.int t.2.1), some (.int c.2.2.1), some (.int (0 : Int32))] [] (n, SH1, I, J)
        refine q_ild rfl rfl ?_
        refine q_ald rfl rfl ?_
        refine q_geti rfl sk_404 ?_
        refine q_icmp (c := 3) rfl (by decide) (fun y13 => ?_) (fun y13 => ?_)
        · have y13 : ((I 404 32)).toInt ≤ (0 : Int) := y13
          refine q_ald rfl rfl ?_
          refine q_geti rfl sk_404 ?_
          refine q_ist rfl rfl ?_
          show dw_ok (pr_X12_wets K) 49 0 0 [some (.ref 404), some (.int x), some (.int lk), some (.int t.2.1), some (.int c.2.2.1), some (.int (I 404 32))] [] (n, SH1, I, J)
          refine q_ald rfl rfl ?_
          refine q_dup rfl ?_
          refine q_geti rfl sk_404 ?_
          refine q_ild rfl rfl ?_
          refine q_sub rfl ?_
          refine q_puti rfl sk_404 ?_
          show dw_ok (pr_X12_wets K) 60 0 0 [some (.ref 404), some (.int x), some (.int lk), some (.int t.2.1), some (.int c.2.2.1), some (.int (I 404 32))] [] (n, SH1, (dw_up I 404 32 ((I 404 32) - (I 404 32))), J)
          refine q_ald rfl rfl ?_
          refine q_getr rfl sk_404 sr_404_29 ?_
          refine q_ild rfl rfl ?_
          refine q_dup2 rfl ?_
          refine q_xald rfl (Or.inl rfl) sk_417 sn_417 (by omega) (by omega) ?_
          show dw_ok (pr_X12_wets K) 67 0 0 [some (.ref 404), some (.int x), some (.int lk), some (.int t.2.1), some (.int c.2.2.1), some (.int (I 404 32))] [.int ((dw_up I 404 32 ((I 404 32) - (I 404 32))) 417 (x).toInt.toNat), .int x, .ref 417] (n, SH1, (dw_up I 404 32 ((I 404 32) - (I 404 32))), J)
          rw [hxn]
          show dw_ok (pr_X12_wets K) 67 0 0 [some (.ref 404), some (.int x), some (.int lk), some (.int t.2.1), some (.int c.2.2.1), some (.int (I 404 32))] [.int ((dw_up I 404 32 ((I 404 32) - (I 404 32))) 417 k), .int x, .ref 417] (n, SH1, (dw_up I 404 32 ((I 404 32) - (I 404 32))), J)
          rw [show ((dw_up I 404 32 ((I 404 32) - (I 404 32))) 417 k) = (I 417 k) from (up_ne (Or.inl (by decide)))]
          refine q_ild rfl rfl ?_
          refine q_add rfl ?_
          refine q_iast rfl sk_417 sn_417 (by omega) (by omega) ?_
          show dw_ok (pr_X12_wets K) 71 0 0 [some (.ref 404), some (.int x), some (.int lk), some (.int t.2.1), some (.int c.2.2.1), some (.int (I 404 32))] [] (n, SH1, (dw_up (dw_up I 404 32 ((I 404 32) - (I 404 32))) 417 (x).toInt.toNat ((I 417 k) + (I 404 32))), J)
          rw [hxn]
          refine q_ald rfl rfl ?_
          refine q_geti rfl sk_404 ?_
          show dw_ok (pr_X12_wets K) 75 0 0 [some (.ref 404), some (.int x), some (.int lk), some (.int t.2.1), some (.int c.2.2.1), some (.int (I 404 32))] [.int ((dw_up (dw_up I 404 32 ((I 404 32) - (I 404 32))) 417 k ((I 417 k) + (I 404 32))) 404 34)] (n, SH1, (dw_up (dw_up I 404 32 ((I 404 32) - (I 404 32))) 417 k ((I 417 k) + (I 404 32))), J)
          rw [show ((dw_up (dw_up I 404 32 ((I 404 32) - (I 404 32))) 417 k ((I 417 k) + (I 404 32))) 404 34) = (I 404 34) from ((up_ne (Or.inl (by decide))).trans (up_fld (by decide)))]
          refine q_ic rfl ?_
          refine q_icmp (c := 0) rfl (by decide) (fun y14 => ?_) (fun y14 => ?_)
          · have y14 : ((I 404 34)).toInt = (1 : Int) := y14
            have nl : 0 < lk.toInt := by omega
            have ec : cmF st t lk (I 404 32) = (I 404 32) := by unfold cmF; rw [if_neg (by omega)]; exact (i_eq (by rw [k0]; omega))
            have eg : gfF st c = 0 := by unfold gfF; rw [if_pos (by omega)]
            unfold waF skF2 gvF at hk
            rw [if_pos nl, if_pos nl, if_pos nl, ec, eg] at hk
            rw [Int32.add_zero (I 417 k + (I 404 32)), Int32.add_zero (I 404 33)] at hk
            refine q_vret rfl (hk (dw_up (dw_up I 404 32 ((I 404 32) - (I 404 32))) 417 k ((I 417 k) + (I 404 32))) (fun a g1 g2 => ?_) (fun j g1 g2 => ?_) ?_ ?_ ?_)
            · exact ((up_row g2).trans (up_row g1))
            · exact ((up_ne (Or.inl (by decide))).trans (up_fld g1))
            · funext j
              by_cases e : j = k
              · rw [e, upF_at]; exact (up_same)
              · rw [upF_ne e]; exact ((up_fld e).trans (up_ne (Or.inl (by decide))))
            · exact ((up_ne (Or.inl (by decide))).trans (up_same))
            · exact ((up_ne (Or.inl (by decide))).trans (up_fld (by decide)))
          · have y14 : ((I 404 34)).toInt ≠ (1 : Int) := y14
            refine q_ald rfl rfl ?_
            refine q_getr rfl sk_404 sr_404_29 ?_
            refine q_ild rfl rfl ?_
            refine q_dup2 rfl ?_
            refine q_xald rfl (Or.inl rfl) sk_417 sn_417 (by omega) (by omega) ?_
            show dw_ok (pr_X12_wets K) 86 0 0 [some (.ref 404), some (.int x), some (.int lk), some (.int t.2.1), some (.int c.2.2.1), some (.int (I 404 32))] [.int ((dw_up (dw_up I 404 32 ((I 404 32) - (I 404 32))) 417 k ((I 417 k) + (I 404 32))) 417 (x).toInt.toNat), .int x, .ref 417] (n, SH1, (dw_up (dw_up I 404 32 ((I 404 32) - (I 404 32))) 417 k ((I 417 k) + (I 404 32))), J)
            rw [hxn]
            show dw_ok (pr_X12_wets K) 86 0 0 [some (.ref 404), some (.int x), some (.int lk), some (.int t.2.1), some (.int c.2.2.1), some (.int (I 404 32))] [.int ((dw_up (dw_up I 404 32 ((I 404 32) - (I 404 32))) 417 k ((I 417 k) + (I 404 32))) 417 k), .int x, .ref 417] (n, SH1, (dw_up (dw_up I 404 32 ((I 404 32) - (I 404 32))) 417 k ((I 417 k) + (I 404 32))), J)
            rw [show ((dw_up (dw_up I 404 32 ((I 404 32) - (I 404 32))) 417 k ((I 417 k) + (I 404 32))) 417 k) = ((I 417 k) + (I 404 32)) from up_same]
            refine q_ild rfl rfl ?_
            refine q_add rfl ?_
            refine q_iast rfl sk_417 sn_417 (by omega) (by omega) ?_
            show dw_ok (pr_X12_wets K) 90 0 0 [some (.ref 404), some (.int x), some (.int lk), some (.int t.2.1), some (.int c.2.2.1), some (.int (I 404 32))] [] (n, SH1, (dw_up (dw_up (dw_up I 404 32 ((I 404 32) - (I 404 32))) 417 k ((I 417 k) + (I 404 32))) 417 (x).toInt.toNat (((I 417 k) + (I 404 32)) + c.2.2.1)), J)
            rw [hxn]
            refine q_ald rfl rfl ?_
            refine q_dup rfl ?_
            refine q_geti rfl sk_404 ?_
            show dw_ok (pr_X12_wets K) 95 0 0 [some (.ref 404), some (.int x), some (.int lk), some (.int t.2.1), some (.int c.2.2.1), some (.int (I 404 32))] [.int ((dw_up (dw_up (dw_up I 404 32 ((I 404 32) - (I 404 32))) 417 k ((I 417 k) + (I 404 32))) 417 k (((I 417 k) + (I 404 32)) + c.2.2.1)) 404 33), .ref 404] (n, SH1, (dw_up (dw_up (dw_up I 404 32 ((I 404 32) - (I 404 32))) 417 k ((I 417 k) + (I 404 32))) 417 k (((I 417 k) + (I 404 32)) + c.2.2.1)), J)
            rw [show ((dw_up (dw_up (dw_up I 404 32 ((I 404 32) - (I 404 32))) 417 k ((I 417 k) + (I 404 32))) 417 k (((I 417 k) + (I 404 32)) + c.2.2.1)) 404 33) = (I 404 33) from ((up_ne (Or.inl (by decide))).trans ((up_ne (Or.inl (by decide))).trans (up_fld (by decide))))]
            refine q_ild rfl rfl ?_
            refine q_add rfl ?_
            refine q_puti rfl sk_404 ?_
            show dw_ok (pr_X12_wets K) 101 0 0 [some (.ref 404), some (.int x), some (.int lk), some (.int t.2.1), some (.int c.2.2.1), some (.int (I 404 32))] [] (n, SH1, (dw_up (dw_up (dw_up (dw_up I 404 32 ((I 404 32) - (I 404 32))) 417 k ((I 417 k) + (I 404 32))) 417 k (((I 417 k) + (I 404 32)) + c.2.2.1)) 404 33 ((I 404 33) + c.2.2.1)), J)
            have nl : 0 < lk.toInt := by omega
            have ec : cmF st t lk (I 404 32) = (I 404 32) := by unfold cmF; rw [if_neg (by omega)]; exact (i_eq (by rw [k0]; omega))
            have eg : gfF st c = c.2.2.1 := by unfold gfF; rw [if_neg (by omega)]
            unfold waF skF2 gvF at hk
            rw [if_pos nl, if_pos nl, if_pos nl, ec, eg] at hk
            refine q_vret rfl (hk (dw_up (dw_up (dw_up (dw_up I 404 32 ((I 404 32) - (I 404 32))) 417 k ((I 417 k) + (I 404 32))) 417 k (((I 417 k) + (I 404 32)) + c.2.2.1)) 404 33 ((I 404 33) + c.2.2.1)) (fun a g1 g2 => ?_) (fun j g1 g2 => ?_) ?_ ?_ ?_)
            · exact ((up_row g1).trans ((up_row g2).trans ((up_row g2).trans (up_row g1))))
            · exact ((up_fld g2).trans ((up_ne (Or.inl (by decide))).trans ((up_ne (Or.inl (by decide))).trans (up_fld g1))))
            · funext j
              by_cases e : j = k
              · rw [e, upF_at]; exact ((up_ne (Or.inl (by decide))).trans (up_same))
              · rw [upF_ne e]; exact ((up_ne (Or.inl (by decide))).trans ((up_fld e).trans ((up_fld e).trans (up_ne (Or.inl (by decide))))))
            · exact ((up_fld (by decide)).trans ((up_ne (Or.inl (by decide))).trans ((up_ne (Or.inl (by decide))).trans (up_same))))
            · exact (up_same)
        · have y13 : (0 : Int) < ((I 404 32)).toInt := y13
          refine q_ild rfl rfl ?_
          refine q_goto rfl ?_
          refine q_ist rfl rfl ?_
          show dw_ok (pr_X12_wets K) 49 0 0 [some (.ref 404), some (.int x), some (.int lk), some (.int t.2.1), some (.int c.2.2.1), some (.int (0 : Int32))] [] (n, SH1, I, J)
          refine q_ald rfl rfl ?_
          refine q_dup rfl ?_
          refine q_geti rfl sk_404 ?_
          refine q_ild rfl rfl ?_
          refine q_sub rfl ?_
          refine q_puti rfl sk_404 ?_
          show dw_ok (pr_X12_wets K) 60 0 0 [some (.ref 404), some (.int x), some (.int lk), some (.int t.2.1), some (.int c.2.2.1), some (.int (0 : Int32))] [] (n, SH1, (dw_up I 404 32 ((I 404 32) - (0 : Int32))), J)
          refine q_ald rfl rfl ?_
          refine q_getr rfl sk_404 sr_404_29 ?_
          refine q_ild rfl rfl ?_
          refine q_dup2 rfl ?_
          refine q_xald rfl (Or.inl rfl) sk_417 sn_417 (by omega) (by omega) ?_
          show dw_ok (pr_X12_wets K) 67 0 0 [some (.ref 404), some (.int x), some (.int lk), some (.int t.2.1), some (.int c.2.2.1), some (.int (0 : Int32))] [.int ((dw_up I 404 32 ((I 404 32) - (0 : Int32))) 417 (x).toInt.toNat), .int x, .ref 417] (n, SH1, (dw_up I 404 32 ((I 404 32) - (0 : Int32))), J)
          rw [hxn]
          show dw_ok (pr_X12_wets K) 67 0 0 [some (.ref 404), some (.int x), some (.int lk), some (.int t.2.1), some (.int c.2.2.1), some (.int (0 : Int32))] [.int ((dw_up I 404 32 ((I 404 32) - (0 : Int32))) 417 k), .int x, .ref 417] (n, SH1, (dw_up I 404 32 ((I 404 32) - (0 : Int32))), J)
          rw [show ((dw_up I 404 32 ((I 404 32) - (0 : Int32))) 417 k) = (I 417 k) from (up_ne (Or.inl (by decide)))]
          refine q_ild rfl rfl ?_
          refine q_add rfl ?_
          refine q_iast rfl sk_417 sn_417 (by omega) (by omega) ?_
          show dw_ok (pr_X12_wets K) 71 0 0 [some (.ref 404), some (.int x), some (.int lk), some (.int t.2.1), some (.int c.2.2.1), some (.int (0 : Int32))] [] (n, SH1, (dw_up (dw_up I 404 32 ((I 404 32) - (0 : Int32))) 417 (x).toInt.toNat ((I 417 k) + (0 : Int32))), J)
          rw [hxn]
          refine q_ald rfl rfl ?_
          refine q_geti rfl sk_404 ?_
          show dw_ok (pr_X12_wets K) 75 0 0 [some (.ref 404), some (.int x), some (.int lk), some (.int t.2.1), some (.int c.2.2.1), some (.int (0 : Int32))] [.int ((dw_up (dw_up I 404 32 ((I 404 32) - (0 : Int32))) 417 k ((I 417 k) + (0 : Int32))) 404 34)] (n, SH1, (dw_up (dw_up I 404 32 ((I 404 32) - (0 : Int32))) 417 k ((I 417 k) + (0 : Int32))), J)
          rw [show ((dw_up (dw_up I 404 32 ((I 404 32) - (0 : Int32))) 417 k ((I 417 k) + (0 : Int32))) 404 34) = (I 404 34) from ((up_ne (Or.inl (by decide))).trans (up_fld (by decide)))]
          refine q_ic rfl ?_
          refine q_icmp (c := 0) rfl (by decide) (fun y15 => ?_) (fun y15 => ?_)
          · have y15 : ((I 404 34)).toInt = (1 : Int) := y15
            have nl : 0 < lk.toInt := by omega
            have ec : cmF st t lk (I 404 32) = (0 : Int32) := by unfold cmF; rw [if_neg (by omega)]
            have eg : gfF st c = 0 := by unfold gfF; rw [if_pos (by omega)]
            unfold waF skF2 gvF at hk
            rw [if_pos nl, if_pos nl, if_pos nl, ec, eg] at hk
            rw [Int32.add_zero (I 417 k + (0 : Int32)), Int32.add_zero (I 404 33)] at hk
            refine q_vret rfl (hk (dw_up (dw_up I 404 32 ((I 404 32) - (0 : Int32))) 417 k ((I 417 k) + (0 : Int32))) (fun a g1 g2 => ?_) (fun j g1 g2 => ?_) ?_ ?_ ?_)
            · exact ((up_row g2).trans (up_row g1))
            · exact ((up_ne (Or.inl (by decide))).trans (up_fld g1))
            · funext j
              by_cases e : j = k
              · rw [e, upF_at]; exact (up_same)
              · rw [upF_ne e]; exact ((up_fld e).trans (up_ne (Or.inl (by decide))))
            · exact ((up_ne (Or.inl (by decide))).trans (up_same))
            · exact ((up_ne (Or.inl (by decide))).trans (up_fld (by decide)))
          · have y15 : ((I 404 34)).toInt ≠ (1 : Int) := y15
            refine q_ald rfl rfl ?_
            refine q_getr rfl sk_404 sr_404_29 ?_
            refine q_ild rfl rfl ?_
            refine q_dup2 rfl ?_
            refine q_xald rfl (Or.inl rfl) sk_417 sn_417 (by omega) (by omega) ?_
            show dw_ok (pr_X12_wets K) 86 0 0 [some (.ref 404), some (.int x), some (.int lk), some (.int t.2.1), some (.int c.2.2.1), some (.int (0 : Int32))] [.int ((dw_up (dw_up I 404 32 ((I 404 32) - (0 : Int32))) 417 k ((I 417 k) + (0 : Int32))) 417 (x).toInt.toNat), .int x, .ref 417] (n, SH1, (dw_up (dw_up I 404 32 ((I 404 32) - (0 : Int32))) 417 k ((I 417 k) + (0 : Int32))), J)
            rw [hxn]
            show dw_ok (pr_X12_wets K) 86 0 0 [some (.ref 404), some (.int x), some (.int lk), some (.int t.2.1), some (.int c.2.2.1), some (.int (0 : Int32))] [.int ((dw_up (dw_up I 404 32 ((I 404 32) - (0 : Int32))) 417 k ((I 417 k) + (0 : Int32))) 417 k), .int x, .ref 417] (n, SH1, (dw_up (dw_up I 404 32 ((I 404 32) - (0 : Int32))) 417 k ((I 417 k) + (0 : Int32))), J)
            rw [show ((dw_up (dw_up I 404 32 ((I 404 32) - (0 : Int32))) 417 k ((I 417 k) + (0 : Int32))) 417 k) = ((I 417 k) + (0 : Int32)) from up_same]
            refine q_ild rfl rfl ?_
            refine q_add rfl ?_
            refine q_iast rfl sk_417 sn_417 (by omega) (by omega) ?_
            show dw_ok (pr_X12_wets K) 90 0 0 [some (.ref 404), some (.int x), some (.int lk), some (.int t.2.1), some (.int c.2.2.1), some (.int (0 : Int32))] [] (n, SH1, (dw_up (dw_up (dw_up I 404 32 ((I 404 32) - (0 : Int32))) 417 k ((I 417 k) + (0 : Int32))) 417 (x).toInt.toNat (((I 417 k) + (0 : Int32)) + c.2.2.1)), J)
            rw [hxn]
            refine q_ald rfl rfl ?_
            refine q_dup rfl ?_
            refine q_geti rfl sk_404 ?_
            show dw_ok (pr_X12_wets K) 95 0 0 [some (.ref 404), some (.int x), some (.int lk), some (.int t.2.1), some (.int c.2.2.1), some (.int (0 : Int32))] [.int ((dw_up (dw_up (dw_up I 404 32 ((I 404 32) - (0 : Int32))) 417 k ((I 417 k) + (0 : Int32))) 417 k (((I 417 k) + (0 : Int32)) + c.2.2.1)) 404 33), .ref 404] (n, SH1, (dw_up (dw_up (dw_up I 404 32 ((I 404 32) - (0 : Int32))) 417 k ((I 417 k) + (0 : Int32))) 417 k (((I 417 k) + (0 : Int32)) + c.2.2.1)), J)
            rw [show ((dw_up (dw_up (dw_up I 404 32 ((I 404 32) - (0 : Int32))) 417 k ((I 417 k) + (0 : Int32))) 417 k (((I 417 k) + (0 : Int32)) + c.2.2.1)) 404 33) = (I 404 33) from ((up_ne (Or.inl (by decide))).trans ((up_ne (Or.inl (by decide))).trans (up_fld (by decide))))]
            refine q_ild rfl rfl ?_
            refine q_add rfl ?_
            refine q_puti rfl sk_404 ?_
            show dw_ok (pr_X12_wets K) 101 0 0 [some (.ref 404), some (.int x), some (.int lk), some (.int t.2.1), some (.int c.2.2.1), some (.int (0 : Int32))] [] (n, SH1, (dw_up (dw_up (dw_up (dw_up I 404 32 ((I 404 32) - (0 : Int32))) 417 k ((I 417 k) + (0 : Int32))) 417 k (((I 417 k) + (0 : Int32)) + c.2.2.1)) 404 33 ((I 404 33) + c.2.2.1)), J)
            have nl : 0 < lk.toInt := by omega
            have ec : cmF st t lk (I 404 32) = (0 : Int32) := by unfold cmF; rw [if_neg (by omega)]
            have eg : gfF st c = c.2.2.1 := by unfold gfF; rw [if_neg (by omega)]
            unfold waF skF2 gvF at hk
            rw [if_pos nl, if_pos nl, if_pos nl, ec, eg] at hk
            refine q_vret rfl (hk (dw_up (dw_up (dw_up (dw_up I 404 32 ((I 404 32) - (0 : Int32))) 417 k ((I 417 k) + (0 : Int32))) 417 k (((I 417 k) + (0 : Int32)) + c.2.2.1)) 404 33 ((I 404 33) + c.2.2.1)) (fun a g1 g2 => ?_) (fun j g1 g2 => ?_) ?_ ?_ ?_)
            · exact ((up_row g1).trans ((up_row g2).trans ((up_row g2).trans (up_row g1))))
            · exact ((up_fld g2).trans ((up_ne (Or.inl (by decide))).trans ((up_ne (Or.inl (by decide))).trans (up_fld g1))))
            · funext j
              by_cases e : j = k
              · rw [e, upF_at]; exact ((up_ne (Or.inl (by decide))).trans (up_same))
              · rw [upF_ne e]; exact ((up_ne (Or.inl (by decide))).trans ((up_fld e).trans ((up_fld e).trans (up_ne (Or.inl (by decide))))))
            · exact ((up_fld (by decide)).trans ((up_ne (Or.inl (by decide))).trans ((up_ne (Or.inl (by decide))).trans (up_same))))
            · exact (up_same)
set_option maxRecDepth 8000 in
set_option maxHeartbeats 8000000 in
theorem mst_loop {n : Nat} {J : Nat → Nat → Int64} {K : dw_K} {t : Int32} {τ N st : Nat} {B D : Int} {I0 : Nat → Nat → Int32} (hT : t.toInt = τ) (hτ : τ < 144) (hN : (I0 406 0 * I0 406 1).toInt = N) (hN9 : N ≤ 144) (hst : (I0 404 34).toInt = st) (hkd : ∀ k, k < N → 0 ≤ (I0 419 k).toInt ∧ (I0 419 k).toInt < 8) (hC : ∀ k, k < N → cOK (cfM I0 τ k)) (ht : nOK (tnM I0 τ)) (h4 : 4000 ≤ B) (hB : B ≤ 2000000) (hD : D + 9 * N ≤ 2000000000) (hs : rOK N B D (srM I0))
    (hk : ∀ I' : Nat → Nat → Int32, (∀ a, a ≠ 404 → a ≠ 416 → a ≠ 417 → I' a = I0 a) → (∀ j, j ≠ 32 → j ≠ 33 → I' 404 j = I0 404 j) → srM I' = seF st (cfM I0 τ) (tnM I0 τ) N (srM I0) → K none (n, SH1, I', J)) :
    ∀ (f k : Nat) (x : Int32) (s3 s4 s5 s6 : Option Value) (I : Nat → Nat → Int32), k + f = N → x.toInt = k → (∀ a, a ≠ 404 → a ≠ 416 → a ≠ 417 → I a = I0 a) → (∀ j, j ≠ 32 → j ≠ 33 → I 404 j = I0 404 j) → srM I = seF st (cfM I0 τ) (tnM I0 τ) k (srM I0) → dw_ok (pr_X12_step K) 2 0 0 [some (.ref 404), some (.int t), some (.int x), s3, s4, s5, s6] [] (n, SH1, I, J) := by
  have k0 : (0 : Int32).toInt = 0 := rfl
  have k1 : (1 : Int32).toInt = 1 := rfl
  have k5 : (5 : Int32).toInt = 5 := rfl
  have k10 : (10 : Int32).toInt = 10 := rfl
  have k13 : (13 : Int32).toInt = 13 := rfl
  have k21 : (21 : Int32).toInt = 21 := rfl
  have k100 : (100 : Int32).toInt = 100 := rfl
  have htn : t.toInt.toNat = τ := by omega
  intro f
  induction f with
  | zero =>
    intro k x s3 s4 s5 s6 I hf hx hA hF hS
    have h406 : I 406 = I0 406 := hA 406 (by decide) (by decide) (by decide)
    refine q_ild rfl rfl ?_
    refine q_ald rfl rfl ?_
    refine q_callV (as := []) (rest := [.int x]) rfl rfl sk_404 rfl (Nat.le_of_ble_eq_true rfl) ?_
    refine v_mcells ?_
    show dw_ok (pr_X12_step K) 7 0 0 [some (.ref 404), some (.int t), some (.int x), s3, s4, s5, s6] [.int (I 406 0 * I 406 1), .int x] (n, SH1, I, J)
    rw [h406]
    show dw_ok (pr_X12_step K) 7 0 0 [some (.ref 404), some (.int t), some (.int x), s3, s4, s5, s6] [.int (I0 406 0 * I0 406 1), .int x] (n, SH1, I, J)
    refine q_icmp (c := 3) rfl (by decide) (fun y1 => ?_) (fun h => absurd (show (x).toInt < ((I0 406 0 * I0 406 1)).toInt from h) (by omega))
    have y1 : ((I0 406 0 * I0 406 1)).toInt ≤ (x).toInt := y1
    obtain rfl : k = N := by omega
    exact q_vret rfl (hk I hA hF hS)
  | succ f ih =>
    intro k x s3 s4 s5 s6 I hf hx hA hF hS
    have h406 : I 406 = I0 406 := hA 406 (by decide) (by decide) (by decide)
    have hkN : k < N := by omega
    have hxn : x.toInt.toNat = k := by omega
    obtain ⟨kd0, kd1⟩ := hkd k hkN
    have h419 : I 419 = I0 419 := hA 419 (by decide) (by decide) (by decide)
    have hc := hC k hkN
    obtain ⟨-, r2, r3, r5, -⟩ := se_ok (st := st) hC ht h4 hB hD hs k (by omega)
    have s1 : I 416 = (seF st (cfM I0 τ) (tnM I0 τ) k (srM I0)).1 := congrArg (·.1) hS
    have s2 : I 417 = (seF st (cfM I0 τ) (tnM I0 τ) k (srM I0)).2.1 := congrArg (·.2.1) hS
    have s3' : I 404 32 = (seF st (cfM I0 τ) (tnM I0 τ) k (srM I0)).2.2.1 := congrArg (·.2.2.1) hS
    have s4' : I 404 33 = (seF st (cfM I0 τ) (tnM I0 τ) k (srM I0)).2.2.2 := congrArg (·.2.2.2) hS
    obtain ⟨wb1, wb2⟩ := r2 k (Nat.le_refl k) hkN
    rw [← s1] at wb1 wb2
    rw [← s3'] at r5
    have kd0 : 0 ≤ (I 419 k).toInt := by rw [h419]; exact kd0
    have kd1 : (I 419 k).toInt < 8 := by rw [h419]; exact kd1
    have c1 : I 406 (5 + (I 419 k).toInt.toNat) = (cfM I0 τ k).1 := by rw [h406, h419]; rfl
    have c2 : I 406 (13 + (I 419 k).toInt.toNat) = (cfM I0 τ k).2.1 := by rw [h406, h419]; rfl
    have c3 : I 406 (21 + (I 419 k).toInt.toNat) = (cfM I0 τ k).2.2.1 := by rw [h406, h419]; rfl
    have t1 : I 411 τ = (tnM I0 τ).1 := congrFun (hA 411 (by decide) (by decide) (by decide)) τ
    have t2 : I 412 τ = (tnM I0 τ).2.1 := congrFun (hA 412 (by decide) (by decide) (by decide)) τ
    have t3 : I 413 τ = (tnM I0 τ).2.2.1 := congrFun (hA 413 (by decide) (by decide) (by decide)) τ
    have t4 : I 414 τ = (tnM I0 τ).2.2.2.1 := congrFun (hA 414 (by decide) (by decide) (by decide)) τ
    have t5 : I 415 τ = (tnM I0 τ).2.2.2.2 := congrFun (hA 415 (by decide) (by decide) (by decide)) τ
    have p35 : I 404 35 = I0 404 35 := hF 35 (by decide) (by decide)
    have p36 : I 404 36 = I0 404 36 := hF 36 (by decide) (by decide)
    have p37 : I 404 37 = I0 404 37 := hF 37 (by decide) (by decide)
    have h418 : I 418 k = I0 418 k := congrFun (hA 418 (by decide) (by decide) (by decide)) k
    obtain ⟨cc, hcc⟩ : ∃ cc, cc = cfM I0 τ k := ⟨_, rfl⟩
    obtain ⟨tt, htt⟩ : ∃ tt, tt = tnM I0 τ := ⟨_, rfl⟩
    have esy : cc.2.2.2 = syM I0 τ k := by rw [hcc]; rfl
    rw [← hcc] at hc c1 c2 c3
    rw [← htt] at t1 t2 t3 t4 t5
    have hd0 : cc.1 ≠ 0 := fi_nz (by have := hc.1.1; omega)
    have hd10 : 10 + cc.1 ≠ 0 := fi_nz (by
      have a1 := hc.1.1
      have a2 := hc.1.2
      rw [i_add (by omega) (by omega), k10]; omega)
    have hd100 : 100 * cc.1 ≠ 0 := fi_nz (by
      have a1 := hc.1.1
      have a2 := hc.1.2
      rw [i_mulB (by rw [k100]; omega) (by rw [k100]; omega), k100]; omega)
    obtain ⟨kd, hkdn⟩ : ∃ kd : Nat, (I 419 k).toInt = kd := ⟨(I 419 k).toInt.toNat, by omega⟩
    have hkd8 : kd < 8 := by omega
    rw [show (I 419 k).toInt.toNat = kd by omega] at c1 c2 c3
    have tail : dw_ok (pr_X12_step K) 43 0 0 [some (.ref 404), some (.int t), some (.int x), s3, s4, s5, s6] [.int cc.2.2.2] (n, SH1, I, J) := by
      refine q_ist rfl rfl ?_
      show dw_ok (pr_X12_step K) 44 0 0 [some (.ref 404), some (.int t), some (.int x), some (.int cc.2.2.2), s4, s5, s6] [] (n, SH1, I, J)
      refine q_ald rfl rfl ?_
      refine q_getr rfl sk_404 sr_404_6 ?_
      refine q_ic rfl ?_
      refine q_ald rfl rfl ?_
      refine q_getr rfl sk_404 sr_404_31 ?_
      refine q_ild rfl rfl ?_
      refine q_xald rfl (Or.inl rfl) sk_419 sn_419 (by omega) (by omega) ?_
      show dw_ok (pr_X12_step K) 55 0 0 [some (.ref 404), some (.int t), some (.int x), some (.int cc.2.2.2), s4, s5, s6] [.int (I 419 (x).toInt.toNat), .int (5 : Int32), .ref 406] (n, SH1, I, J)
      rw [hxn]
      refine q_add rfl ?_
      show dw_ok (pr_X12_step K) 56 0 0 [some (.ref 404), some (.int t), some (.int x), some (.int cc.2.2.2), s4, s5, s6] [.int ((5 : Int32) + (I 419 k)), .ref 406] (n, SH1, I, J)
      obtain ⟨v5, hv5⟩ : ∃ z, z = ((5 : Int32) + (I 419 k)) := ⟨_, rfl⟩
      rw [← hv5]
      have ev5 : v5.toInt = ((5 + kd : Nat) : Int) := by rw [hv5]; exact (ix_a (x := 5) (a := 5) rfl hkdn (by omega))
      refine q_xald rfl (Or.inl rfl) sk_406 sn_406 (by omega) (by omega) ?_
      show dw_ok (pr_X12_step K) 57 0 0 [some (.ref 404), some (.int t), some (.int x), some (.int cc.2.2.2), s4, s5, s6] [.int (I 406 (v5).toInt.toNat)] (n, SH1, I, J)
      rw [(nat_of ev5)]
      rw [c1]
      refine q_ist rfl rfl ?_
      show dw_ok (pr_X12_step K) 59 0 0 [some (.ref 404), some (.int t), some (.int x), some (.int cc.2.2.2), some (.int cc.1), s5, s6] [] (n, SH1, I, J)
      refine q_ald rfl rfl ?_
      refine q_getr rfl sk_404 sr_404_28 ?_
      refine q_ild rfl rfl ?_
      refine q_xald rfl (Or.inl rfl) sk_416 sn_416 (by omega) (by omega) ?_
      show dw_ok (pr_X12_step K) 65 0 0 [some (.ref 404), some (.int t), some (.int x), some (.int cc.2.2.2), some (.int cc.1), s5, s6] [.int (I 416 (x).toInt.toNat)] (n, SH1, I, J)
      rw [hxn]
      refine q_ist rfl rfl ?_
      show dw_ok (pr_X12_step K) 67 0 0 [some (.ref 404), some (.int t), some (.int x), some (.int cc.2.2.2), some (.int cc.1), some (.int (I 416 k)), s6] [] (n, SH1, I, J)
      refine q_ild rfl rfl ?_
      refine q_ic rfl ?_
      refine q_ald rfl rfl ?_
      refine q_getr rfl sk_404 sr_404_25 ?_
      refine q_ild rfl rfl ?_
      refine q_xald rfl (Or.inl rfl) sk_413 sn_413 (by omega) (by omega) ?_
      show dw_ok (pr_X12_step K) 77 0 0 [some (.ref 404), some (.int t), some (.int x), some (.int cc.2.2.2), some (.int cc.1), some (.int (I 416 k)), s6] [.int (I 413 (t).toInt.toNat), .int (100 : Int32), .int (I 416 k)] (n, SH1, I, J)
      rw [htn]
      rw [t3]
      refine q_mul rfl ?_
      refine q_ild rfl rfl ?_
      refine q_sub rfl ?_
      refine q_ic rfl ?_
      refine q_ald rfl rfl ?_
      refine q_getr rfl sk_404 sr_404_24 ?_
      refine q_ild rfl rfl ?_
      refine q_xald rfl (Or.inl rfl) sk_412 sn_412 (by omega) (by omega) ?_
      show dw_ok (pr_X12_step K) 88 0 0 [some (.ref 404), some (.int t), some (.int x), some (.int cc.2.2.2), some (.int cc.1), some (.int (I 416 k)), s6] [.int (I 412 (t).toInt.toNat), .int (1 : Int32), .int (((100 : Int32) * tt.2.2.1) - (I 416 k)), .int (I 416 k)] (n, SH1, I, J)
      rw [htn]
      rw [t2]
      refine q_add rfl ?_
      refine q_mul rfl ?_
      refine q_ic rfl ?_
      refine q_ild rfl rfl ?_
      refine q_add rfl ?_
      refine q_div rfl hd10 ?_
      refine q_add rfl ?_
      refine q_ald rfl rfl ?_
      refine q_getr rfl sk_404 sr_404_27 ?_
      refine q_ild rfl rfl ?_
      refine q_xald rfl (Or.inl rfl) sk_415 sn_415 (by omega) (by omega) ?_
      show dw_ok (pr_X12_step K) 103 0 0 [some (.ref 404), some (.int t), some (.int x), some (.int cc.2.2.2), some (.int cc.1), some (.int (I 416 k)), s6] [.int (I 415 (t).toInt.toNat), .int ((I 416 k) + (((((100 : Int32) * tt.2.2.1) - (I 416 k)) * ((1 : Int32) + tt.2.1)) / ((10 : Int32) + cc.1)))] (n, SH1, I, J)
      rw [htn]
      rw [t5]
      refine q_ic rfl ?_
      refine q_mul rfl ?_
      refine q_ild rfl rfl ?_
      refine q_mul rfl ?_
      refine q_ild rfl rfl ?_
      refine q_div rfl hd0 ?_
      refine q_add rfl ?_
      refine q_ild rfl rfl ?_
      refine q_ic rfl ?_
      refine q_ald rfl rfl ?_
      refine q_getr rfl sk_404 sr_404_23 ?_
      refine q_ild rfl rfl ?_
      refine q_xald rfl (Or.inl rfl) sk_411 sn_411 (by omega) (by omega) ?_
      show dw_ok (pr_X12_step K) 121 0 0 [some (.ref 404), some (.int t), some (.int x), some (.int cc.2.2.2), some (.int cc.1), some (.int (I 416 k)), s6] [.int (I 411 (t).toInt.toNat), .int (100 : Int32), .int cc.2.2.2, .int (((I 416 k) + (((((100 : Int32) * tt.2.2.1) - (I 416 k)) * ((1 : Int32) + tt.2.1)) / ((10 : Int32) + cc.1))) + (((tt.2.2.2.2 * (8 : Int32)) * cc.2.2.2) / cc.1))] (n, SH1, I, J)
      rw [htn]
      rw [t1]
      refine q_sub rfl ?_
      refine q_mul rfl ?_
      refine q_ald rfl rfl ?_
      refine q_getr rfl sk_404 sr_404_6 ?_
      refine q_ic rfl ?_
      refine q_ald rfl rfl ?_
      refine q_getr rfl sk_404 sr_404_31 ?_
      refine q_ild rfl rfl ?_
      refine q_xald rfl (Or.inl rfl) sk_419 sn_419 (by omega) (by omega) ?_
      show dw_ok (pr_X12_step K) 135 0 0 [some (.ref 404), some (.int t), some (.int x), some (.int cc.2.2.2), some (.int cc.1), some (.int (I 416 k)), s6] [.int (I 419 (x).toInt.toNat), .int (13 : Int32), .ref 406, .int (cc.2.2.2 * ((100 : Int32) - tt.1)), .int (((I 416 k) + (((((100 : Int32) * tt.2.2.1) - (I 416 k)) * ((1 : Int32) + tt.2.1)) / ((10 : Int32) + cc.1))) + (((tt.2.2.2.2 * (8 : Int32)) * cc.2.2.2) / cc.1))] (n, SH1, I, J)
      rw [hxn]
      refine q_add rfl ?_
      show dw_ok (pr_X12_step K) 136 0 0 [some (.ref 404), some (.int t), some (.int x), some (.int cc.2.2.2), some (.int cc.1), some (.int (I 416 k)), s6] [.int ((13 : Int32) + (I 419 k)), .ref 406, .int (cc.2.2.2 * ((100 : Int32) - tt.1)), .int (((I 416 k) + (((((100 : Int32) * tt.2.2.1) - (I 416 k)) * ((1 : Int32) + tt.2.1)) / ((10 : Int32) + cc.1))) + (((tt.2.2.2.2 * (8 : Int32)) * cc.2.2.2) / cc.1))] (n, SH1, I, J)
      obtain ⟨v13, hv13⟩ : ∃ z, z = ((13 : Int32) + (I 419 k)) := ⟨_, rfl⟩
      rw [← hv13]
      have ev13 : v13.toInt = ((13 + kd : Nat) : Int) := by rw [hv13]; exact (ix_a (x := 13) (a := 13) rfl hkdn (by omega))
      refine q_xald rfl (Or.inl rfl) sk_406 sn_406 (by omega) (by omega) ?_
      show dw_ok (pr_X12_step K) 137 0 0 [some (.ref 404), some (.int t), some (.int x), some (.int cc.2.2.2), some (.int cc.1), some (.int (I 416 k)), s6] [.int (I 406 (v13).toInt.toNat), .int (cc.2.2.2 * ((100 : Int32) - tt.1)), .int (((I 416 k) + (((((100 : Int32) * tt.2.2.1) - (I 416 k)) * ((1 : Int32) + tt.2.1)) / ((10 : Int32) + cc.1))) + (((tt.2.2.2.2 * (8 : Int32)) * cc.2.2.2) / cc.1))] (n, SH1, I, J)
      rw [(nat_of ev13)]
      rw [c2]
      refine q_mul rfl ?_
      refine q_ic rfl ?_
      refine q_ild rfl rfl ?_
      refine q_mul rfl ?_
      refine q_div rfl hd100 ?_
      refine q_sub rfl ?_
      refine q_ist rfl rfl ?_
      show dw_ok (pr_X12_step K) 147 0 0 [some (.ref 404), some (.int t), some (.int x), some (.int cc.2.2.2), some (.int cc.1), some (.int (I 416 k)), some (.int ((((I 416 k) + (((((100 : Int32) * tt.2.2.1) - (I 416 k)) * ((1 : Int32) + tt.2.1)) / ((10 : Int32) + cc.1))) + (((tt.2.2.2.2 * (8 : Int32)) * cc.2.2.2) / cc.1)) - (((cc.2.2.2 * ((100 : Int32) - tt.1)) * cc.2.1) / ((100 : Int32) * cc.1))))] [] (n, SH1, I, J)
      rw [wm_mod (c := cc) (t := tt)]
      show dw_ok (pr_X12_step K) 147 0 0 [some (.ref 404), some (.int t), some (.int x), some (.int cc.2.2.2), some (.int cc.1), some (.int (I 416 k)), some (.int (wmF cc tt (I 416 k)))] [] (n, SH1, I, J)
      refine q_ald rfl rfl ?_
      refine q_getr rfl sk_404 sr_404_28 ?_
      refine q_ild rfl rfl ?_
      refine q_ild rfl rfl ?_
      refine q_iast rfl sk_416 sn_416 (by omega) (by omega) ?_
      show dw_ok (pr_X12_step K) 155 0 0 [some (.ref 404), some (.int t), some (.int x), some (.int cc.2.2.2), some (.int cc.1), some (.int (I 416 k)), some (.int (wmF cc tt (I 416 k)))] [] (n, SH1, (dw_up I 416 (x).toInt.toNat (wmF cc tt (I 416 k))), J)
      rw [hxn]
      obtain ⟨I1, hI1⟩ : ∃ X, X = (dw_up I 416 k (wmF cc tt (I 416 k))) := ⟨_, rfl⟩
      show dw_ok (pr_X12_step K) 155 0 0 [some (.ref 404), some (.int t), some (.int x), some (.int cc.2.2.2), some (.int cc.1), some (.int (I 416 k)), some (.int (wmF cc tt (I 416 k)))] [] (n, SH1, (dw_up I 416 k (wmF cc tt (I 416 k))), J)
      rw [← hI1]
      have rI1 : ∀ a, a ≠ 416 → I1 a = I a := fun a q0 => by rw [hI1]; exact (up_row q0)
      have fI1_0 : ∀ j, j ≠ k → I1 416 j = I 416 j := fun j p0 => by rw [hI1]; exact (up_fld p0)
      have sI1_0_0 : I1 416 k = (wmF cc tt (I 416 k)) := by rw [hI1]; exact (up_same)
      have g406 : I1 406 = I 406 := rI1 406 (by decide)
      have g419 : I1 419 = I 419 := rI1 419 (by decide)
      have g412 : I1 412 τ = tt.2.1 := (congrFun (rI1 412 (by decide)) τ).trans t2
      have g414 : I1 414 τ = tt.2.2.2.1 := (congrFun (rI1 414 (by decide)) τ).trans t4
      have g404 : I1 404 = I 404 := rI1 404 (by decide)
      have g417 : I1 417 = I 417 := rI1 417 (by decide)
      have gc3 : I1 406 (21 + kd) = cc.2.2.1 := by rw [g406]; exact c3
      have hkd1 : (I1 419 k).toInt = kd := by rw [g419]; exact hkdn
      refine q_ald rfl rfl ?_
      refine q_ild rfl rfl ?_
      refine q_ic rfl ?_
      refine q_ald rfl rfl ?_
      refine q_getr rfl sk_404 sr_404_26 ?_
      refine q_ild rfl rfl ?_
      refine q_xald rfl (Or.inl rfl) sk_414 sn_414 (by omega) (by omega) ?_
      show dw_ok (pr_X12_step K) 165 0 0 [some (.ref 404), some (.int t), some (.int x), some (.int cc.2.2.2), some (.int cc.1), some (.int (I 416 k)), some (.int (wmF cc tt (I 416 k)))] [.int (I1 414 (t).toInt.toNat), .int (100 : Int32), .int x, .ref 404] (n, SH1, I1, J)
      rw [htn]
      rw [g414]
      refine q_mul rfl ?_
      refine q_ild rfl rfl ?_
      refine q_sub rfl ?_
      refine q_ald rfl rfl ?_
      refine q_getr rfl sk_404 sr_404_24 ?_
      refine q_ild rfl rfl ?_
      refine q_xald rfl (Or.inl rfl) sk_412 sn_412 (by omega) (by omega) ?_
      show dw_ok (pr_X12_step K) 175 0 0 [some (.ref 404), some (.int t), some (.int x), some (.int cc.2.2.2), some (.int cc.1), some (.int (I 416 k)), some (.int (wmF cc tt (I 416 k)))] [.int (I1 412 (t).toInt.toNat), .int (((100 : Int32) * tt.2.2.2.1) - (wmF cc tt (I 416 k))), .int x, .ref 404] (n, SH1, I1, J)
      rw [htn]
      rw [g412]
      refine q_ald rfl rfl ?_
      refine q_getr rfl sk_404 sr_404_6 ?_
      refine q_ic rfl ?_
      refine q_ald rfl rfl ?_
      refine q_getr rfl sk_404 sr_404_31 ?_
      refine q_ild rfl rfl ?_
      refine q_xald rfl (Or.inl rfl) sk_419 sn_419 (by omega) (by omega) ?_
      show dw_ok (pr_X12_step K) 187 0 0 [some (.ref 404), some (.int t), some (.int x), some (.int cc.2.2.2), some (.int cc.1), some (.int (I 416 k)), some (.int (wmF cc tt (I 416 k)))] [.int (I1 419 (x).toInt.toNat), .int (21 : Int32), .ref 406, .int tt.2.1, .int (((100 : Int32) * tt.2.2.2.1) - (wmF cc tt (I 416 k))), .int x, .ref 404] (n, SH1, I1, J)
      rw [hxn]
      refine q_add rfl ?_
      show dw_ok (pr_X12_step K) 188 0 0 [some (.ref 404), some (.int t), some (.int x), some (.int cc.2.2.2), some (.int cc.1), some (.int (I 416 k)), some (.int (wmF cc tt (I 416 k)))] [.int ((21 : Int32) + (I1 419 k)), .ref 406, .int tt.2.1, .int (((100 : Int32) * tt.2.2.2.1) - (wmF cc tt (I 416 k))), .int x, .ref 404] (n, SH1, I1, J)
      obtain ⟨w21, hw21⟩ : ∃ z, z = ((21 : Int32) + (I1 419 k)) := ⟨_, rfl⟩
      rw [← hw21]
      have ew21 : w21.toInt = ((21 + kd : Nat) : Int) := by rw [hw21]; exact (ix_a (x := 21) (a := 21) rfl hkd1 (by omega))
      refine q_xald rfl (Or.inl rfl) sk_406 sn_406 (by omega) (by omega) ?_
      show dw_ok (pr_X12_step K) 189 0 0 [some (.ref 404), some (.int t), some (.int x), some (.int cc.2.2.2), some (.int cc.1), some (.int (I 416 k)), some (.int (wmF cc tt (I 416 k)))] [.int (I1 406 (w21).toInt.toNat), .int tt.2.1, .int (((100 : Int32) * tt.2.2.2.1) - (wmF cc tt (I 416 k))), .int x, .ref 404] (n, SH1, I1, J)
      rw [(nat_of ew21)]
      rw [gc3]
      refine q_callV (as := [.int x, .int (((100 : Int32) * tt.2.2.2.1) - (wmF cc tt (I 416 k))), .int tt.2.1, .int cc.2.2.1]) (rest := []) rfl rfl sk_404 rfl (Nat.le_of_ble_eq_true rfl) ?_
      have el : 100 * tt.2.2.2.1 - wmF cc tt (I 416 k) = lkF cc tt (I 416 k) := rfl
      refine v_wets (c := cc) (t := tt) (k := k) (st := st) hx (by omega) (by rw [g404, hF 34 (by decide) (by decide)]; exact hst) (by rw [g404]; exact r5) (fun I2 g1 g2 g3 g4 g5 => ?_)
      show dw_ok (pr_X12_step K) 192 0 0 [some (.ref 404), some (.int t), some (.int x), some (.int cc.2.2.2), some (.int cc.1), some (.int (I 416 k)), some (.int (wmF cc tt (I 416 k)))] [] (n, SH1, I2, J)
      refine q_inc rfl rfl rfl ?_
      show dw_ok (pr_X12_step K) 195 0 0 [some (.ref 404), some (.int t), some (.int (x + 1)), some (.int cc.2.2.2), some (.int cc.1), some (.int (I 416 k)), some (.int (wmF cc tt (I 416 k)))] [] (n, SH1, I2, J)
      refine q_goto rfl ?_
      rw [g417, g404] at g3
      rw [g417, g404] at g4
      rw [g404] at g5
      have w16 : I2 416 = upF (I 416) k (wmF cc tt (I 416 k)) := by
        rw [g1 416 (by decide) (by decide), hI1]; exact upF_row
      refine ih (k + 1) (x + 1) _ _ _ _ I2 (by omega) (ix_1 hx (by omega)) (fun a q1 q2 q3 => ?_) (fun j q1 q2 => ?_) ?_
      · rw [g1 a q1 q3, rI1 a q2]; exact hA a q1 q2 q3
      · rw [g2 j q1 q2, g404]; exact hF j q1 q2
      · show (I2 416, I2 417, I2 404 32, I2 404 33) = clF st (cfM I0 τ) (tnM I0 τ) k (seF st (cfM I0 τ) (tnM I0 τ) k (srM I0))
        unfold clF
        rw [← s1, ← s2, ← s3', ← s4', ← hcc, ← htt, w16, g3, g4, g5]
        rfl
    refine q_ild rfl rfl ?_
    refine q_ald rfl rfl ?_
    refine q_callV (as := []) (rest := [.int x]) rfl rfl sk_404 rfl (Nat.le_of_ble_eq_true rfl) ?_
    refine v_mcells ?_
    show dw_ok (pr_X12_step K) 7 0 0 [some (.ref 404), some (.int t), some (.int x), s3, s4, s5, s6] [.int (I 406 0 * I 406 1), .int x] (n, SH1, I, J)
    rw [h406]
    show dw_ok (pr_X12_step K) 7 0 0 [some (.ref 404), some (.int t), some (.int x), s3, s4, s5, s6] [.int (I0 406 0 * I0 406 1), .int x] (n, SH1, I, J)
    refine q_icmp (c := 3) rfl (by decide) (fun h => absurd (show ((I0 406 0 * I0 406 1)).toInt ≤ (x).toInt from h) (by omega)) (fun y2 => ?_)
    have y2 : (x).toInt < ((I0 406 0 * I0 406 1)).toInt := y2
    refine q_ild rfl rfl ?_
    refine q_ald rfl rfl ?_
    refine q_geti rfl sk_404 ?_
    refine q_icmp (c := 1) rfl (by decide) (fun y3 => ?_) (fun y3 => ?_)
    · have y3 : (x).toInt ≠ ((I 404 35)).toInt := y3
      refine q_ald rfl rfl ?_
      refine q_getr rfl sk_404 sr_404_30 ?_
      refine q_ild rfl rfl ?_
      refine q_xald rfl (Or.inl rfl) sk_418 sn_418 (by omega) (by omega) ?_
      show dw_ok (pr_X12_step K) 43 0 0 [some (.ref 404), some (.int t), some (.int x), s3, s4, s5, s6] [.int (I 418 (x).toInt.toNat)] (n, SH1, I, J)
      rw [hxn]
      rw [show (I 418 k) = cc.2.2.2 from by
          rw [esy]
          unfold syM
          rw [if_neg (fun q => by
            obtain ⟨q1, q2, q3⟩ := q
            rw [← p35] at q1
            rw [← p36] at q2
            rw [← p37] at q3
            omega)]
          exact h418]
      exact tail
    · have y3 : (x).toInt = ((I 404 35)).toInt := y3
      refine q_ild rfl rfl ?_
      refine q_ald rfl rfl ?_
      refine q_geti rfl sk_404 ?_
      refine q_ald rfl rfl ?_
      refine q_geti rfl sk_404 ?_
      refine q_callS (as := [.int t, .int (I 404 36), .int (I 404 37)]) (rest := []) rfl rfl rfl rfl ?_
      refine v_isIn (fun w_ g4 => ?_)
      rcases g4 with ⟨rfl, g4⟩ | ⟨rfl, g4⟩
      · show dw_ok (pr_X12_step K) 30 0 0 [some (.ref 404), some (.int t), some (.int x), s3, s4, s5, s6] [.int (1 : Int32)] (n, SH1, I, J)
        refine q_if (c := 0) rfl (by decide) (fun h => absurd (show (1 : Int) = 0 from h) (by decide)) (fun y5 => ?_)
        have y5 : (1 : Int) ≠ 0 := y5
        refine q_ic rfl ?_
        refine q_goto rfl ?_
        rw [show (0 : Int32) = cc.2.2.2 from by
            rw [esy]
            unfold syM
            rw [if_pos ⟨by rw [← p35]; omega, by rw [← p36]; omega, by rw [← p37]; omega⟩]]
        exact tail
      · show dw_ok (pr_X12_step K) 30 0 0 [some (.ref 404), some (.int t), some (.int x), s3, s4, s5, s6] [.int (0 : Int32)] (n, SH1, I, J)
        refine q_if (c := 0) rfl (by decide) (fun y6 => ?_) (fun h => absurd (show (0 : Int) ≠ 0 from h) (by decide))
        have y6 : (0 : Int) = 0 := y6
        refine q_ald rfl rfl ?_
        refine q_getr rfl sk_404 sr_404_30 ?_
        refine q_ild rfl rfl ?_
        refine q_xald rfl (Or.inl rfl) sk_418 sn_418 (by omega) (by omega) ?_
        show dw_ok (pr_X12_step K) 43 0 0 [some (.ref 404), some (.int t), some (.int x), s3, s4, s5, s6] [.int (I 418 (x).toInt.toNat)] (n, SH1, I, J)
        rw [hxn]
        rw [show (I 418 k) = cc.2.2.2 from by
            rw [esy]
            unfold syM
            rw [if_neg (fun q => by
              obtain ⟨q1, q2, q3⟩ := q
              rw [← p35] at q1
              rw [← p36] at q2
              rw [← p37] at q3
              omega)]
            exact h418]
        exact tail
set_option maxRecDepth 8000 in
theorem v_mstep {n : Nat} {I : Nat → Nat → Int32} {J : Nat → Nat → Int64} {K : dw_K} {t : Int32} {τ N st : Nat} {B D : Int} (hT : t.toInt = τ) (hτ : τ < 144) (hN : (I 406 0 * I 406 1).toInt = N) (hN9 : N ≤ 144) (hst : (I 404 34).toInt = st) (hkd : ∀ k, k < N → 0 ≤ (I 419 k).toInt ∧ (I 419 k).toInt < 8) (hC : ∀ k, k < N → cOK (cfM I τ k)) (ht : nOK (tnM I τ)) (h4 : 4000 ≤ B) (hB : B ≤ 2000000) (hD : D + 9 * N ≤ 2000000000) (hs : rOK N B D (srM I)) (hk : ∀ I' : Nat → Nat → Int32, (∀ a, a ≠ 404 → a ≠ 416 → a ≠ 417 → I' a = I a) → (∀ j, j ≠ 32 → j ≠ 33 → I' 404 j = I 404 j) → srM I' = seF st (cfM I τ) (tnM I τ) N (srM I) → K none (n, SH1, I', J)) : t_X12_step [.ref 404, .int t] (n, SH1, I, J) K := by
  refine q_body (Nat.le_of_ble_eq_true rfl) ?_
  refine q_ic rfl ?_
  refine q_ist rfl rfl ?_
  show dw_ok (pr_X12_step K) 2 0 0 [some (.ref 404), some (.int t), some (.int (0 : Int32)), none, none, none, none] [] (n, SH1, I, J)
  exact mst_loop hT hτ hN hN9 hst hkd hC ht h4 hB hD hs hk N 0 0 none none none none I (by omega) rfl (fun _ _ _ _ => rfl) (fun _ _ _ => rfl) rfl
end
section
/-! ===== the two states alike ===== -/
abbrev Cn (R : Nat → Int32) : Nat := (R 0).toInt.toNat
abbrev Rn (R : Nat → Int32) : Nat := (R 1).toInt.toNat
abbrev Hn (R : Nat → Int32) : Nat := (R 3).toInt.toNat
abbrev Nn (R : Nat → Int32) : Nat := Cn R * Rn R
abbrev kdR (R : Nat → Int32) (c : Nat) : Nat := (R (29 + c)).toInt.toNat
abbrev nS (R : Nat → Int32) (s : Nat) : Nat → Int32 := fun j => R (221 + 97 * s + j)
abbrev nL (S : Nat → Int32) : Nat := (S 0).toInt.toNat
abbrev nU (S : Nat → Int32) : List (Nat × Nat × Int32) := uaF (msL S (nL S))
def gT (S : Nat → Int32) (t : Nat) : rN := (ndF (nU S) 0 t, ndF (nU S) 1 t, ndF (nU S) 2 t, ndF (nU S) 3 t, ndF (nU S) 4 t)
def skI (R : Nat → Int32) (c : Nat) : Int32 := Int32.ofInt (skM R (Cn R) (Hn R) c)
def gC (R : Nat → Int32) : Nat → rC := fun c => (R (5 + kdR R c), R (13 + kdR R c), R (21 + kdR R c), skI R c)
def g0S (R S : Nat → Int32) : rS := (fun _ => 100 * ndF (nU S) 2 0, fun _ => 0, R 4, 0)
/-- the model's GROUND is within bounds -/
def GOK (R : Nat → Int32) : Prop := mgOK R (Cn R) (Rn R) (Hn R) ∧ (0 ≤ (R 4).toInt ∧ (R 4).toInt ≤ 999) ∧ (0 ≤ (R 2).toInt ∧ (R 2).toInt ≤ 8) ∧
  (∀ q : Nat, (q : Int) < (R 2).toInt → (1 ≤ (R (5 + q)).toInt ∧ (R (5 + q)).toInt ≤ 50) ∧ (0 ≤ (R (13 + q)).toInt ∧ (R (13 + q)).toInt ≤ 99) ∧ 0 ≤ (R (21 + q)).toInt ∧ (R (21 + q)).toInt ≤ 9) ∧
  ∀ c, c < Nn R → 0 ≤ (R (29 + c)).toInt ∧ (R (29 + c)).toInt < (R 2).toInt
def NOK (S : Nat → Int32) : Prop := nsOK S (nL S) ∧ ∀ t, t < 144 → nOK (gT S t)
/-- a GROUND at G -/
def RG (I : Nat → Nat → Int32) (G : Nat) (R : Nat → Int32) : Prop := (∀ j, j < 5 → I G j = R j) ∧
  (∀ q : Nat, (q : Int) < (R 2).toInt → I (G + 1) q = R (5 + q) ∧ I (G + 2) q = R (13 + q) ∧ I (G + 3) q = R (21 + q)) ∧
  ∀ c, c < Nn R → I (G + 4) c = R (29 + c) ∧ (I (G + 5) c).toInt = skM R (Cn R) (Hn R) c
/-- a NIGHT at B -/
def RN (I : Nat → Nat → Int32) (B : Nat) (S : Nat → Int32) : Prop := (I B 0 = 0 ∧ (S 0).toInt < 0) ∨ (I B 0 = 1 ∧ NOK S ∧ ∀ w, w < 5 → ∀ t, t < 144 → I (B + 2 + w) t = ndF (nU S) w t)
/-- a PLAN at P -/
def RP (I : Nat → Nat → Int32) (P : Nat) (R : Nat → Int32) : Prop := I P 0 = R 803 ∧ (0 ≤ (R 803).toInt ∧ (R 803).toInt ≤ 30) ∧
  ∀ i : Nat, (i : Int) < (R 803).toInt → R (804 + 3 * i) = I (P + 2 + i) 0 ∧ (0 ≤ (I (P + 2 + i) 0).toInt ∧ (I (P + 2 + i) 0).toInt ≤ 3) ∧
    ((I (P + 2 + i) 0).toInt = 0 → R (805 + 3 * i) = I (P + 2 + i) 1 ∧ 1 ≤ (I (P + 2 + i) 1).toInt ∧ (I (P + 2 + i) 1).toInt ≤ 144) ∧
    ((I (P + 2 + i) 0).toInt ≠ 0 → R (805 + 3 * i) = R 0 * I (P + 2 + i) 2 + I (P + 2 + i) 1 ∧ (0 ≤ (I (P + 2 + i) 1).toInt ∧ (I (P + 2 + i) 1).toInt < Cn R) ∧ 0 ≤ (I (P + 2 + i) 2).toInt ∧ (I (P + 2 + i) 2).toInt < Rn R)
abbrev rnS (R : Nat → Int32) : Nat → Int32 := fun j => R (898 + j)
abbrev rrS (R : Nat → Int32) : rS := (fun c => R (995 + c), fun c => R (1139 + c), R 896, R 897)
/-- a RUN at A -/
def RR (I : Nat → Nat → Int32) (A : Nat) (R : Nat → Int32) : Prop := (I A 0 = 0 ∧ R 894 = 0) ∨ (I A 0 = 1 ∧ R 894 = 1 ∧ (I A 1).toInt = Nn R ∧ I A 2 = R 895 ∧ (0 ≤ (R 895).toInt ∧ (R 895).toInt ≤ 144) ∧ I A 3 = R 896 ∧ I A 4 = R 897 ∧ I A 5 = 0 ∧ I A 6 = 0 ∧
  NOK (rnS R) ∧ (∀ w, w < 5 → ∀ t, t < 144 → I (A + 1 + 2 + w) t = ndF (nU (rnS R)) w t) ∧
  (∀ c, c < Nn R → I (A + 8) c = R (5 + kdR R c) ∧ I (A + 9) c = R (13 + kdR R c) ∧ I (A + 10) c = R (21 + kdR R c) ∧ I (A + 12) c = R (1283 + c) ∧ (R (1283 + c) = 0 ∨ R (1283 + c) = 1) ∧ I (A + 11) c = (if R (1283 + c) = 1 then 0 else skI R c) ∧ I (A + 13) c = R (995 + c) ∧ I (A + 14) c = R (1139 + c)) ∧
  rOK (Nn R) (4000 + 9900 * (R 895).toInt) (999 + 1296 * (R 895).toInt) (rrS R))
/-- all that an image keeps, at S -/
def SREL (I : Nat → Nat → Int32) (S : Nat) (R : Nat → Int32) : Prop := GOK R ∧ RG I (S + 1) R ∧ (∀ s, s < 6 → RN I (S + 55 + 7 * s) (nS R s)) ∧ RP I (S + 8) R ∧ RR I (S + 40) R
set_option maxRecDepth 8000 in
theorem sk_b {R : Nat → Int32} {C R' H j : Nat} (h : mgOK R C R' H) : 0 ≤ skM R C H j ∧ skM R C H j ≤ 100 := by
  have q := mh_b (x := ((j % C : Nat) : Int)) (y := ((j / C : Nat) : Int)) h.2.2.2.2.2.2 H (Nat.le_refl H)
  show 0 ≤ max 0 (100 - mhF R ((j % C : Nat) : Int) ((j / C : Nat) : Int) H) ∧ max 0 (100 - mhF R ((j % C : Nat) : Int) ((j / C : Nat) : Int) H) ≤ 100
  omega
set_option maxRecDepth 8000 in
theorem skI_t {R : Nat → Int32} {c : Nat} (h : GOK R) : (skI R c).toInt = skM R (Cn R) (Hn R) c := by
  have q := sk_b (j := c) h.1
  exact dx_ofI (by omega) (by omega)
set_option maxRecDepth 8000 in
theorem skI_e {R : Nat → Int32} {c : Nat} {v : Int32} (h : GOK R) (hv : v.toInt = skM R (Cn R) (Hn R) c) : v = skI R c := i_eq (by rw [skI_t h]; exact hv)
set_option maxRecDepth 8000 in
theorem gok_N {R : Nat → Int32} (h : GOK R) : (R 0 * R 1).toInt = (Nn R : Nat) ∧ Nn R ≤ 144 := mg_N h.1
set_option maxRecDepth 8000 in
theorem gok_k {R : Nat → Int32} {c : Nat} (h : GOK R) (hc : c < Nn R) : 0 ≤ (R (29 + c)).toInt ∧ (R (29 + c)).toInt < 8 ∧ ((kdR R c : Nat) : Int) < (R 2).toInt := by
  obtain ⟨-, -, h2, -, h5⟩ := h
  have q := h5 c hc
  show 0 ≤ (R (29 + c)).toInt ∧ (R (29 + c)).toInt < 8 ∧ (((R (29 + c)).toInt.toNat : Nat) : Int) < (R 2).toInt
  omega
set_option maxRecDepth 8000 in
theorem gok_c {R : Nat → Int32} {c : Nat} (h : GOK R) (hc : c < Nn R) : cOK (gC R c) := by
  obtain ⟨k1, k2, k3⟩ := gok_k h hc
  obtain ⟨a, b, d⟩ := h.2.2.2.1 _ k3
  have q := sk_b (j := c) h.1
  have e := skI_t (c := c) h
  refine ⟨a, b, d, ?_, ?_⟩
  · show 0 ≤ (skI R c).toInt
    rw [e]; exact q.1
  · show (skI R c).toInt ≤ 100
    rw [e]; exact q.2
set_option maxRecDepth 8000 in
theorem hi_0 {d : Nat} : ¬ hiF 0 d := by
  rintro ⟨-, h⟩
  have e : ((0 : Int32) >>> ((Int32.ofNat d / 6) &&& 31)) = 0 := by
    apply Int32.toBitVec_inj.mp
    show BitVec.sshiftRight' (0 : BitVec 32) _ = 0
    rw [BitVec.sshiftRight']
    exact BitVec.zero_sshiftRight
  rw [e] at h
  exact absurd h (by decide)
set_option maxRecDepth 8000 in
/-- the class's RUN of a SLOT, set at A: its CELLS, its STEPS, its start -/
theorem cst_C {I I' : Nat → Nat → Int32} {A : Nat} {R : Nat → Int32} (hG : GOK R) (hR : RG I 4 R) (h : ∀ j, j < Nn R → I' (A + 8) j = I 5 (I 8 j).toInt.toNat ∧ I' (A + 9) j = I 6 (I 8 j).toInt.toNat ∧ I' (A + 10) j = I 7 (I 8 j).toInt.toNat ∧ I' (A + 11) j = I 9 j) :
    ∀ c, c < Nn R → cfC I' A c = gC R c := by
  intro c hc
  obtain ⟨h1, h2, h3, h4⟩ := h c hc
  obtain ⟨k1, k2, k3⟩ := gok_k hG hc
  obtain ⟨-, r2, r3⟩ := hR
  obtain ⟨e8, e9⟩ := r3 c hc
  have e8 : I 8 c = R (29 + c) := e8
  obtain ⟨q1, q2, q3⟩ := r2 _ k3
  unfold cfC gC
  rw [h1, h2, h3, h4, e8, show I 5 (R (29 + c)).toInt.toNat = R (5 + kdR R c) from q1, show I 6 (R (29 + c)).toInt.toNat = R (13 + kdR R c) from q2, show I 7 (R (29 + c)).toInt.toNat = R (21 + kdR R c) from q3, skI_e hG e9]
set_option maxRecDepth 8000 in
theorem cst_T {I I' : Nat → Nat → Int32} {A B : Nat} {S : Nat → Int32} (h6 : I' A 6 = 0) (hn : ∀ w, w < 5 → ∀ t, t < 144 → I' (A + 1 + 2 + w) t = I (B + 2 + w) t) (hB : ∀ w, w < 5 → ∀ t, t < 144 → I (B + 2 + w) t = ndF (nU S) w t) {t : Nat} (ht : t < 144) : tnC I' A t = gT S t := by
  unfold tnC gT
  rw [h6, if_neg hi_0, hn 0 (by decide) t ht, hn 1 (by decide) t ht, hn 2 (by decide) t ht, hn 3 (by decide) t ht, hn 4 (by decide) t ht, hB 0 (by decide) t ht, hB 1 (by decide) t ht, hB 2 (by decide) t ht, hB 3 (by decide) t ht, hB 4 (by decide) t ht]
set_option maxRecDepth 8000 in
/-- of the bounds, at the start -/
theorem g0_ok {R S : Nat → Int32} (hG : GOK R) (hS : NOK S) : rOK (Nn R) 4000 999 (g0S R S) := by
  have k100 : (100 : Int32).toInt = 100 := rfl
  have k0 : (0 : Int32).toInt = 0 := rfl
  obtain ⟨-, -, ⟨a0, a1⟩, -⟩ := hS.2 0 (by decide)
  have a0 : 0 ≤ (ndF (nU S) 2 0).toInt := a0
  have a1 : (ndF (nU S) 2 0).toInt ≤ 40 := a1
  have e : (100 * ndF (nU S) 2 0).toInt = 100 * (ndF (nU S) 2 0).toInt := by rw [i_mulB (by rw [k100]; omega) (by rw [k100]; omega), k100]
  have sm : ∀ n : Nat, smF (fun _ => (0 : Int32)) n = 0 := fun n => by
    induction n with
    | zero => rfl
    | succ n ih => show smF (fun _ => (0 : Int32)) n + (0 : Int32).toInt = 0; rw [ih]; rfl
  obtain ⟨-, ⟨s0, s1⟩, -⟩ := hG
  refine ⟨fun c _ => ?_, fun c _ => ?_, s0, ?_⟩
  · show -4000 ≤ (100 * ndF (nU S) 2 0).toInt ∧ (100 * ndF (nU S) 2 0).toInt ≤ 4000
    omega
  · show 0 ≤ (0 : Int32).toInt
    rw [k0]; exact Int.le_refl 0
  · show (R 4).toInt + smF (fun _ => (0 : Int32)) (Nn R) ≤ 999
    rw [sm]; omega
/-- a SLOT's NIGHT gone through: behind k STEPS -/
def runW (R S : Nat → Int32) (st k : Nat) : rS := ruF st (Nn R) (fun _ => gC R) (gT S) 0 k (g0S R S)
set_option maxRecDepth 8000 in
theorem run_ok {R S : Nat → Int32} {st : Nat} (hG : GOK R) (hS : NOK S) : ∀ k : Nat, k ≤ 144 → rOK (Nn R) (4000 + 9900 * k) (999 + 1296 * k) (runW R S st k)
  | 0, _ => g0_ok hG hS
  | k + 1, h => by
    have q := run_ok (st := st) hG hS k (by omega)
    have hN := (gok_N hG).2
    have g := st_ok2 (st := st) (C := gC R) (t := gT S (0 + k)) (fun c hc => gok_c hG hc) (hS.2 (0 + k) (by omega)) (by omega) (by omega) (by omega) q
    obtain ⟨g1, g2, g3, g4⟩ := g
    refine ⟨fun c hc => ?_, g2, g3, ?_⟩
    · have := g1 c hc
      show -(4000 + 9900 * ((k + 1 : Nat) : Int)) ≤ ((seF st (gC R) (gT S (0 + k)) (Nn R) (runW R S st k)).1 c).toInt ∧ ((seF st (gC R) (gT S (0 + k)) (Nn R) (runW R S st k)).1 c).toInt ≤ 4000 + 9900 * ((k + 1 : Nat) : Int)
      omega
    · show (seF st (gC R) (gT S (0 + k)) (Nn R) (runW R S st k)).2.2.1.toInt + smF (seF st (gC R) (gT S (0 + k)) (Nn R) (runW R S st k)).2.1 (Nn R) ≤ 999 + 1296 * ((k + 1 : Nat) : Int)
      omega
/-- a RUN of the class, set: by (C, T) it goes through, of N CELLS -/
def CST (I' : Nat → Nat → Int32) (A : Nat) (R S : Nat → Int32) : Prop := (∀ c, c < Nn R → cfC I' A c = gC R c) ∧ (∀ t, t < 144 → tnC I' A t = gT S t) ∧ rEq (Nn R) (srC I' A) (g0S R S) ∧ (I' A 1).toInt = Nn R ∧ (I' A 5).toInt = 0 ∧ (I' A 2).toInt = 0
set_option maxRecDepth 8000 in
theorem rg_3 {I : Nat → Nat → Int32} {R : Nat → Int32} (h : SREL I 3 R) : RG I 4 R := h.2.1
set_option maxRecDepth 8000 in
theorem rn_3 {I : Nat → Nat → Int32} {R : Nat → Int32} (h : SREL I 3 R) {s : Nat} (hs : s < 6) : RN I (58 + 7 * s) (nS R s) := by
  have q := h.2.2.1 s hs
  rw [show 3 + 55 + 7 * s = 58 + 7 * s by omega] at q
  exact q
set_option maxRecDepth 8000 in
theorem v_startR {n : Nat} {I : Nat → Nat → Int32} {J : Nat → Nat → Int64} {K : dw_K} {A : Nat} {x : Int32} {R : Nat → Int32} (hR : SREL I 3 R) (hA2 : A = 43 ∨ A = 164 ∨ A = 179)
    (h1 : ∀ s : Nat, s < 6 → x.toInt = s → NOK (nS R s) → ∀ I' : Nat → Nat → Int32, (∀ a, (a < A ∨ A + 14 < a) → I' a = I a) → I' A 0 = 1 → CST I' A R (nS R s) → I' A 6 = 0 → (∀ w, w < 5 → ∀ t, t < 144 → I' (A + 1 + 2 + w) t = ndF (nU (nS R s)) w t) → (∀ c, c < Nn R → I' (A + 12) c = 0) → K (some (.int 1)) (n, SH1, I', J))
    (h2 : (∀ s : Nat, s < 6 → x.toInt = s → (nS R s 0).toInt < 0) → K (some (.int 0)) (n, SH1, I, J)) : t_X11_start [.ref 0, .ref A, .int x] (n, SH1, I, J) K := by
  have hG := hR.1
  have hg := rg_3 hR
  obtain ⟨hN, hN9⟩ := gok_N hG
  have f0 : I 4 0 = R 0 := hg.1 0 (by decide)
  have f1 : I 4 1 = R 1 := hg.1 1 (by decide)
  have f4 : I 4 4 = R 4 := hg.1 4 (by decide)
  have hRT : RT A := by
    rcases hA2 with rfl | rfl | rfl
    · exact rt_ok (by decide)
    · exact rt_ok (by decide)
    · exact rt_ok (by decide)
  refine v_start (N := Nn R) hRT hA2 (fun s hs => ?_) (by rw [f0, f1]; exact hN) hN9 (fun j hj => ?_) (fun s hs hx e I' q0 q1 q2 q3 q4 q5 q6 q7 q8 q9 => ?_) (fun hno => h2 (fun s hs hx => ?_))
  · rcases rn_3 hR hs with ⟨e, -⟩ | ⟨e, -⟩
    · exact Or.inl e
    · exact Or.inr e
  · rw [show I 8 j = R (29 + j) from (hg.2.2 j hj).1]
    obtain ⟨k1, k2, -⟩ := gok_k hG hj
    exact ⟨k1, k2⟩
  · rcases rn_3 hR hs with ⟨e', -⟩ | ⟨-, hS, hB⟩
    · rw [e] at e'; exact absurd e' (by decide)
    · have hn : ∀ w, w < 5 → ∀ t, t < 144 → I' (A + 1 + 2 + w) t = ndF (nU (nS R s)) w t := fun w hw t ht => (q8 w hw t ht).trans (hB w hw t ht)
      refine h1 s hs hx hS I' q0 q1 ⟨cst_C hG hg (fun j hj => ?_), fun t ht => cst_T q7 q8 hB ht, ⟨fun c hc => ?_, fun c hc => ?_, ?_, ?_⟩, ?_, ?_, ?_⟩ q7 hn (fun c hc => (q9 c hc).2.2.2.2.1)
      · obtain ⟨b1, b2, b3, b4, -⟩ := q9 j hj
        exact ⟨b1, b2, b3, b4⟩
      · show I' (A + 13) c = 100 * ndF (nU (nS R s)) 2 0
        rw [(q9 c hc).2.2.2.2.2.1, hB 2 (by decide) 0 (by decide)]
      · exact (q9 c hc).2.2.2.2.2.2
      · exact q4.trans f4
      · exact q5
      · rw [q2, f0, f1]; exact hN
      · rw [q6]; rfl
      · rw [q3]; rfl
  · rcases rn_3 hR hs with ⟨-, e⟩ | ⟨e, -⟩
    · exact e
    · rw [hno s hs hx] at e; exact absurd e (by decide)
set_option maxRecDepth 8000 in
/-- what it comes to -/
theorem cst_run {I' : Nat → Nat → Int32} {A st : Nat} {R S : Nat → Int32} (h : CST I' A R S) {k : Nat} (hk : k ≤ 144) : rEq (Nn R) (ruF st (Nn R) (fun _ => cfC I' A) (tnC I' A) 0 k (srC I' A)) (runW R S st k) :=
  ruF_eq k (fun _ _ c hc => h.1 c hc) (fun i hi => h.2.1 (0 + i) (by omega)) h.2.2.1
set_option maxRecDepth 8000 in
theorem cst_h {I' : Nat → Nat → Int32} {A : Nat} {R S : Nat → Int32} (hG : GOK R) (h : CST I' A R S) : ∀ c, c < Nn R → 1 ≤ (I' (A + 8) c).toInt ∧ (I' (A + 8) c).toInt ≤ 1000 := by
  intro c hc
  have e : I' (A + 8) c = (gC R c).1 := congrArg (·.1) (h.1 c hc)
  obtain ⟨⟨a, b⟩, -⟩ := gok_c hG hc
  rw [e]
  exact ⟨a, by omega⟩
set_option maxRecDepth 8000 in
theorem v_behind {n : Nat} {I : Nat → Nat → Int32} {J : Nat → Nat → Int64} {K : dw_K} {x t : Int32} {R : Nat → Int32} (hR : SREL I 3 R)
    (h1 : ∀ s k : Nat, s < 6 → x.toInt = s → t.toInt = k → k < 144 → NOK (nS R s) → ∀ I' : Nat → Nat → Int32, (∀ a, (a < 164 ∨ 178 < a) → I' a = I a) → (I' 164 1).toInt = Nn R → rEq (Nn R) (srC I' 164) (runW R (nS R s) 0 (k + 1)) → K (some (.int 1)) (n, SH1, I', J))
    (h0 : (¬ (0 ≤ t.toInt ∧ t.toInt < 144) ∨ ∀ s : Nat, s < 6 → x.toInt = s → (nS R s 0).toInt < 0) → ∀ I' : Nat → Nat → Int32, I' = I → K (some (.int 0)) (n, SH1, I', J)) : t_X11_runBehind [.ref 0, .int x, .int t] (n, SH1, I, J) K := by
  have k1 : (1 : Int32).toInt = 1 := rfl
  refine q_body (Nat.le_of_ble_eq_true rfl) ?_
  refine q_ild rfl rfl ?_
  refine q_callS (as := [.int t]) (rest := []) rfl rfl rfl rfl ?_
  by_cases ht : 0 ≤ t.toInt ∧ t.toInt < 144
  · refine v_isStep ht.1 ht.2 ?_
    show dw_ok (pr_X11_runBehind K) 4 0 0 [some (.ref 0), some (.int x), some (.int t)] [.int 1] (n, SH1, I, J)
    refine q_if (c := 0) rfl (by decide) (fun h => absurd (show (1 : Int32).toInt = 0 from h) (by decide)) (fun _ => ?_)
    refine q_ald rfl rfl ?_
    refine q_ald rfl rfl ?_
    refine q_getr rfl sk_0 sr_0_6 ?_
    refine q_ild rfl rfl ?_
    refine q_callV (as := [.ref 164, .int x]) (rest := []) rfl rfl sk_0 rfl (Nat.le_of_ble_eq_true rfl) ?_
    refine v_startR hR (Or.inr (Or.inl rfl)) (fun s hs hx hS I1 q0 _ hC _ _ _ => ?_) (fun hno => ?_)
    · show dw_ok (pr_X11_runBehind K) 16 0 0 [some (.ref 0), some (.int x), some (.int t)] [.int 1] (n, SH1, I1, J)
      refine q_if (c := 1) rfl (by decide) (fun _ => ?_) (fun h => absurd (show (1 : Int32).toInt = 0 from h) (by decide))
      refine q_ald rfl rfl ?_
      refine q_getr rfl sk_0 sr_0_6 ?_
      refine q_ild rfl rfl ?_
      refine q_ic rfl ?_
      refine q_add rfl ?_
      refine q_callV (as := [.int (t + 1)]) (rest := []) rfl rfl sk_164 rfl (Nat.le_of_ble_eq_true rfl) ?_
      obtain ⟨k, hk⟩ : ∃ k : Nat, t.toInt = k := ⟨t.toInt.toNat, by omega⟩
      have hN9 := (gok_N hR.1).2
      refine v_until (st := 0) (N := Nn R) (d := 0) (e := k + 1) (rt_ok (by decide)) hC.2.2.2.1 hN9 hC.2.2.2.2.1 (cst_h hR.1 hC) hC.2.2.2.2.2 (by omega) (by omega) (Or.inl (by rw [i_add (by omega) (by omega), k1, hk]; omega)) (fun I2 g1 g2 g3 g4 => ?_)
      show dw_ok (pr_X11_runBehind K) 31 0 0 [some (.ref 0), some (.int x), some (.int t)] [] (n, SH1, I2, J)
      refine q_ic rfl ?_
      refine q_zret rfl (Or.inr rfl) (h1 s k hs hx hk (by omega) hS I2 (fun a ha => ?_) ?_ ?_)
      · rw [g1 a (by omega) (by omega) (by omega)]; exact q0 a (by omega)
      · rw [g2 1 (by decide) (by decide) (by decide)]; exact hC.2.2.2.1
      · rw [g4]; exact cst_run hC (by omega)
    · show dw_ok (pr_X11_runBehind K) 16 0 0 [some (.ref 0), some (.int x), some (.int t)] [.int 0] (n, SH1, I, J)
      refine q_if (c := 1) rfl (by decide) (fun h => absurd rfl h) (fun _ => ?_)
      refine q_ic rfl ?_
      exact q_zret rfl (Or.inl rfl) (h0 (Or.inr hno) I rfl)
  · refine v_noStep ht ?_
    show dw_ok (pr_X11_runBehind K) 4 0 0 [some (.ref 0), some (.int x), some (.int t)] [.int 0] (n, SH1, I, J)
    refine q_if (c := 0) rfl (by decide) (fun _ => ?_) (fun h => absurd rfl h)
    refine q_ic rfl ?_
    exact q_zret rfl (Or.inl rfl) (h0 (Or.inl ht) I rfl)
end
section
/-! ===== going on, of both, against one pure run ===== -/
/-- within bounds from STEP d on -/
def PUR (N : Nat) (C : Nat → Nat → rC) (T : Nat → rN) (s0 : rS) (d : Nat) : Prop := N ≤ 144 ∧ (∀ τ, d ≤ τ → τ < 144 → ∀ c, c < N → cOK (C τ c)) ∧ (∀ t, d ≤ t → t < 144 → nOK (T t)) ∧ rOK N (4000 + 9900 * d) (999 + 1296 * d) s0
set_option maxRecDepth 8000 in
theorem pur_ok {N st d : Nat} {C : Nat → Nat → rC} {T : Nat → rN} {s0 : rS} (h : PUR N C T s0 d) : ∀ k : Nat, d + k ≤ 144 → rOK N (4000 + 9900 * ((d + k : Nat) : Int)) (999 + 1296 * ((d + k : Nat) : Int)) (ruF st N C T d k s0)
  | 0, _ => h.2.2.2
  | k + 1, hk => by
    have q := pur_ok (st := st) h k (by omega)
    have hN := h.1
    obtain ⟨g1, g2, g3, g4⟩ := st_ok2 (st := st) (C := C (d + k)) (t := T (d + k)) (fun c hc => h.2.1 (d + k) (by omega) (by omega) c hc) (h.2.2.1 (d + k) (by omega) (by omega)) (by omega) (by omega) (by omega) q
    refine ⟨fun c hc => ?_, g2, g3, ?_⟩
    · have := g1 c hc
      show -(4000 + 9900 * ((d + (k + 1) : Nat) : Int)) ≤ ((seF st (C (d + k)) (T (d + k)) N (ruF st N C T d k s0)).1 c).toInt ∧ ((seF st (C (d + k)) (T (d + k)) N (ruF st N C T d k s0)).1 c).toInt ≤ 4000 + 9900 * ((d + (k + 1) : Nat) : Int)
      omega
    · show (seF st (C (d + k)) (T (d + k)) N (ruF st N C T d k s0)).2.2.1.toInt + smF (seF st (C (d + k)) (T (d + k)) N (ruF st N C T d k s0)).2.1 N ≤ 999 + 1296 * ((d + (k + 1) : Nat) : Int)
      omega
set_option maxRecDepth 8000 in
theorem sm_eq {f g : Nat → Int32} : ∀ n : Nat, (∀ c, c < n → f c = g c) → smF f n = smF g n
  | 0, _ => rfl
  | n + 1, h => by
    show smF f n + (f n).toInt = smF g n + (g n).toInt
    rw [sm_eq n (fun c hc => h c (by omega)), h n (by omega)]
set_option maxRecDepth 8000 in
theorem rok_eq {N : Nat} {B D : Int} {s s' : rS} (h : rEq N s s') (g : rOK N B D s') : rOK N B D s := by
  obtain ⟨e1, e2, e3, e4⟩ := h
  obtain ⟨g1, g2, g3, g4⟩ := g
  refine ⟨fun c hc => by rw [e1 c hc]; exact g1 c hc, fun c hc => by rw [e2 c hc]; exact g2 c hc, by rw [e3]; exact g3, ?_⟩
  rw [e3, sm_eq N e2]; exact g4
/-- the class's RUN at A is k STEPS on from STEP d -/
def CSK (I : Nat → Nat → Int32) (A N st : Nat) (C : Nat → Nat → rC) (T : Nat → rN) (s0 : rS) (d k : Nat) : Prop :=
  (∀ τ, d + k ≤ τ → τ < 144 → ∀ c, c < N → cfC I A c = C τ c) ∧ (∀ t, d + k ≤ t → t < 144 → tnC I A t = T t) ∧ rEq N (srC I A) (ruF st N C T d k s0) ∧ (I A 1).toInt = N ∧ (I A 5).toInt = st ∧ (I A 2).toInt = (d + k : Nat) ∧ ∀ c, c < N → 1 ≤ (I (A + 8) c).toInt ∧ (I (A + 8) c).toInt ≤ 1000
/-- the model is k STEPS on from STEP d -/
def MSK (I : Nat → Nat → Int32) (N st : Nat) (C : Nat → Nat → rC) (T : Nat → rN) (s0 : rS) (d k : Nat) : Prop :=
  (∀ τ, d + k ≤ τ → τ < 144 → ∀ c, c < N → cfM I τ c = C τ c) ∧ (∀ t, d + k ≤ t → t < 144 → tnM I t = T t) ∧ rEq N (srM I) (ruF st N C T d k s0) ∧ (I 406 0 * I 406 1).toInt = N ∧ (I 404 34).toInt = st ∧ ∀ c, c < N → 0 ≤ (I 419 c).toInt ∧ (I 419 c).toInt < 8
set_option maxRecDepth 8000 in
theorem v_stepR {n : Nat} {I : Nat → Nat → Int32} {J : Nat → Nat → Int64} {K : dw_K} {A N st d k : Nat} {C : Nat → Nat → rC} {T : Nat → rN} {s0 : rS} (hA : RT A) (h : CSK I A N st C T s0 d k) (h144 : d + k < 144) (hN9 : N ≤ 144)
    (hk : ∀ I' : Nat → Nat → Int32, (∀ a, a ≠ A → a ≠ A + 13 → a ≠ A + 14 → I' a = I a) → (∀ j, j ≠ 2 → j ≠ 3 → j ≠ 4 → I' A j = I A j) → CSK I' A N st C T s0 d (k + 1) → K none (n, SH1, I', J)) : t_X7_step [.ref A] (n, SH1, I, J) K := by
  obtain ⟨hc, ht, hr, h1, h5, h2, hh⟩ := h
  have k1 : (1 : Int32).toInt = 1 := rfl
  refine v_step (st := st) (N := N) hA h1 hN9 h5 hh (by omega) (by omega) (fun I' g1 g2 g3 g4 => hk I' g1 g2 ⟨fun τ q1 q2 c hcN => ?_, fun t q1 q2 => ?_, ?_, ?_, ?_, ?_, fun c hcN => ?_⟩)
  · rw [cf_eq g1]; exact hc τ (by omega) q2 c hcN
  · rw [tn_eq g1 (g2 6 (by decide) (by decide) (by decide))]; exact ht t (by omega) q2
  · rw [g4, show (I A 2).toInt.toNat = d + k by omega, ht (d + k) (Nat.le_refl _) h144]
    exact seF_eq (hc (d + k) (Nat.le_refl _) h144) hr N (Nat.le_refl N)
  · rw [g2 1 (by decide) (by decide) (by decide)]; exact h1
  · rw [g2 5 (by decide) (by decide) (by decide)]; exact h5
  · rw [g3, i_add (by omega) (by omega), k1, h2]; omega
  · rw [g1 (A + 8) (by omega) (by omega) (by omega)]; exact hh c hcN
set_option maxRecDepth 8000 in
theorem v_untilR {n : Nat} {I : Nat → Nat → Int32} {J : Nat → Nat → Int64} {K : dw_K} {A N st d k j : Nat} {s : Int32} {C : Nat → Nat → rC} {T : Nat → rN} {s0 : rS} (hA : RT A) (h : CSK I A N st C T s0 d k) (h144 : d + k + j ≤ 144) (hN9 : N ≤ 144) (hs : s.toInt = (d + k + j : Nat) ∨ (d + k + j = 144 ∧ 144 ≤ s.toInt) ∨ (j = 0 ∧ s.toInt ≤ (d + k : Nat)))
    (hk : ∀ I' : Nat → Nat → Int32, (∀ a, a ≠ A → a ≠ A + 13 → a ≠ A + 14 → I' a = I a) → (∀ j, j ≠ 2 → j ≠ 3 → j ≠ 4 → I' A j = I A j) → CSK I' A N st C T s0 d (k + j) → K none (n, SH1, I', J)) : t_X7_until [.ref A, .int s] (n, SH1, I, J) K := by
  obtain ⟨hc, ht, hr, h1, h5, h2, hh⟩ := h
  refine v_until (st := st) (N := N) (d := d + k) (e := d + k + j) hA h1 hN9 h5 hh h2 (by omega) h144 (by omega) (fun I' g1 g2 g3 g4 => hk I' g1 g2 ⟨fun τ q1 q2 c hcN => ?_, fun t q1 q2 => ?_, ?_, ?_, ?_, ?_, fun c hcN => ?_⟩)
  · rw [cf_eq g1]; exact hc τ (by omega) q2 c hcN
  · rw [tn_eq g1 (g2 6 (by decide) (by decide) (by decide))]; exact ht t (by omega) q2
  · rw [g4, show d + k + j - (d + k) = j by omega, ruF_add]
    exact ruF_eq j (fun i hi c hcN => hc (d + k + i) (by omega) (by omega) c hcN) (fun i hi => ht (d + k + i) (by omega) (by omega)) hr
  · rw [g2 1 (by decide) (by decide) (by decide)]; exact h1
  · rw [g2 5 (by decide) (by decide) (by decide)]; exact h5
  · rw [g3]; omega
  · rw [g1 (A + 8) (by omega) (by omega) (by omega)]; exact hh c hcN
set_option maxRecDepth 8000 in
theorem cfM_eq {I I' : Nat → Nat → Int32} {τ : Nat} (hA : ∀ a, a ≠ 404 → a ≠ 416 → a ≠ 417 → I' a = I a) (hF : ∀ j, j ≠ 32 → j ≠ 33 → I' 404 j = I 404 j) : cfM I' τ = cfM I τ := by
  funext c
  unfold cfM syM
  rw [hA 406 (by decide) (by decide) (by decide), hA 419 (by decide) (by decide) (by decide), hA 418 (by decide) (by decide) (by decide), hF 35 (by decide) (by decide), hF 36 (by decide) (by decide), hF 37 (by decide) (by decide)]
set_option maxRecDepth 8000 in
theorem tnM_eq {I I' : Nat → Nat → Int32} {τ : Nat} (hA : ∀ a, a ≠ 404 → a ≠ 416 → a ≠ 417 → I' a = I a) : tnM I' τ = tnM I τ := by
  unfold tnM
  rw [hA 411 (by decide) (by decide) (by decide), hA 412 (by decide) (by decide) (by decide), hA 413 (by decide) (by decide) (by decide), hA 414 (by decide) (by decide) (by decide), hA 415 (by decide) (by decide) (by decide)]
set_option maxRecDepth 8000 in
theorem v_mstepR {n : Nat} {I : Nat → Nat → Int32} {J : Nat → Nat → Int64} {K : dw_K} {N st d k : Nat} {t : Int32} {C : Nat → Nat → rC} {T : Nat → rN} {s0 : rS} (hP : PUR N C T s0 d) (h : MSK I N st C T s0 d k) (h144 : d + k < 144) (htk : t.toInt = (d + k : Nat))
    (hk : ∀ I' : Nat → Nat → Int32, (∀ a, a ≠ 404 → a ≠ 416 → a ≠ 417 → I' a = I a) → (∀ j, j ≠ 32 → j ≠ 33 → I' 404 j = I 404 j) → MSK I' N st C T s0 d (k + 1) → K none (n, SH1, I', J)) : t_X12_step [.ref 404, .int t] (n, SH1, I, J) K := by
  obtain ⟨hc, ht, hr, hN, h5, hkd⟩ := h
  have hN9 := hP.1
  have ok := rok_eq hr (pur_ok (st := st) hP k (by omega))
  have ok0 := hP.2.1 (d + k) (by omega) h144
  have nt := hP.2.2.1 (d + k) (by omega) h144
  refine v_mstep (τ := d + k) (N := N) (st := st) (B := 4000 + 9900 * ((d + k : Nat) : Int)) (D := 999 + 1296 * ((d + k : Nat) : Int)) htk h144 hN hN9 h5 hkd (fun c hcN => by rw [hc (d + k) (Nat.le_refl _) h144 c hcN]; exact ok0 c hcN) (by rw [ht (d + k) (Nat.le_refl _) h144]; exact nt) (by omega) (by omega) (by omega) ok (fun I' g1 g2 g3 => hk I' g1 g2 ⟨fun τ q1 q2 c hcN => ?_, fun t q1 q2 => ?_, ?_, ?_, ?_, fun c hcN => ?_⟩)
  · rw [cfM_eq g1 g2]; exact hc τ (by omega) q2 c hcN
  · rw [tnM_eq g1]; exact ht t (by omega) q2
  · rw [g3, ht (d + k) (Nat.le_refl _) h144]
    exact seF_eq (hc (d + k) (Nat.le_refl _) h144) hr N (Nat.le_refl N)
  · rw [g1 406 (by decide) (by decide) (by decide)]; exact hN
  · rw [g2 34 (by decide) (by decide)]; exact h5
  · rw [g1 419 (by decide) (by decide) (by decide)]; exact hkd c hcN
set_option maxRecDepth 8000 in
/-- a SLOT's NIGHT, purely -/
theorem pur_0 {R S : Nat → Int32} (hG : GOK R) (hS : NOK S) : PUR (Nn R) (fun _ => gC R) (gT S) (g0S R S) 0 :=
  ⟨(gok_N hG).2, fun _ _ _ c hc => gok_c hG hc, fun t _ ht => hS.2 t ht, g0_ok hG hS⟩
set_option maxRecDepth 8000 in
theorem cst_k {I : Nat → Nat → Int32} {A : Nat} {R S : Nat → Int32} (hG : GOK R) (h : CST I A R S) : CSK I A (Nn R) 0 (fun _ => gC R) (gT S) (g0S R S) 0 0 :=
  ⟨fun _ _ _ c hc => h.1 c hc, fun t _ ht => h.2.1 t ht, h.2.2.1, h.2.2.2.1, h.2.2.2.2.1, h.2.2.2.2.2, cst_h hG h⟩
abbrev okS (R : Nat → Int32) (x : Int32) : Prop := (0 ≤ x.toInt ∧ x.toInt ≤ 5) ∧ 0 ≤ (R (221 + 97 * x.toInt.toNat)).toInt
abbrev okC (R : Nat → Int32) (x y : Int32) : Prop := 0 ≤ x.toInt ∧ x.toInt < Cn R ∧ 0 ≤ y.toInt ∧ y.toInt < Rn R
abbrev okT (t : Int32) : Prop := 0 ≤ t.toInt ∧ t.toInt < 144
abbrev cN (R : Nat → Int32) (x y : Int32) : Nat := y.toInt.toNat * Cn R + x.toInt.toNat
abbrev nX (R : Nat → Int32) (x : Int32) : Nat → Int32 := nS R x.toInt.toNat
set_option maxRecDepth 8000 in
theorem cN_lt {R : Nat → Int32} {x y : Int32} (h : okC R x y) : cN R x y < Nn R := by
  obtain ⟨h1, h2, h3, h4⟩ := h
  have q : y.toInt.toNat + 1 ≤ Rn R := by omega
  have q2 : (y.toInt.toNat + 1) * Cn R ≤ Rn R * Cn R := Nat.mul_le_mul_right _ q
  rw [Nat.add_mul, Nat.one_mul] at q2
  have q3 : x.toInt.toNat < Cn R := by omega
  show y.toInt.toNat * Cn R + x.toInt.toNat < Cn R * Rn R
  rw [Nat.mul_comm (Cn R) (Rn R)]
  omega
set_option maxRecDepth 8000 in
theorem cN_i {R : Nat → Int32} {x y : Int32} (hG : GOK R) (h : okC R x y) : (y * R 0 + x).toInt = (cN R x y : Nat) ∧ (R 0 * y + x).toInt = (cN R x y : Nat) := by
  have hl : y.toInt.toNat * Cn R + x.toInt.toNat < Nn R := cN_lt h
  have hN := (gok_N hG).2
  obtain ⟨h1, h2, h3, h4⟩ := h
  have hC : (R 0).toInt = Cn R := hG.1.1
  have e0 : y.toInt = (y.toInt.toNat : Nat) := by omega
  have e1 : y.toInt * (R 0).toInt = ((y.toInt.toNat * Cn R : Nat) : Int) := by rw [hC, Int.natCast_mul, ← e0]
  rw [Int32.mul_comm (R 0) y]
  show (y * R 0 + x).toInt = ((y.toInt.toNat * Cn R + x.toInt.toNat : Nat) : Int) ∧ (y * R 0 + x).toInt = ((y.toInt.toNat * Cn R + x.toInt.toNat : Nat) : Int)
  generalize y.toInt.toNat * Cn R = p at hl e1 ⊢
  have e : (y * R 0).toInt = (p : Int) := by rw [i_mulB (by rw [e1]; omega) (by rw [e1]; omega), e1]
  have e2 : (y * R 0 + x).toInt = ((p + x.toInt.toNat : Nat) : Int) := by rw [i_add (by rw [e]; omega) (by rw [e]; omega), e]; omega
  exact ⟨e2, e2⟩
set_option maxRecDepth 8000 in
/-- the model's start, by its row -/
theorem v_mstartR {n : Nat} {I : Nat → Nat → Int32} {J : Nat → Nat → Int64} {K : dw_K} {x wh : Int32} {R : Nat → Int32} {st : Nat} (hR : I 406 = R) (hG : GOK R) (hx : okS R x) (hS : NOK (nX R x)) (hst : wh.toInt = st)
    (hk : ∀ I' : Nat → Nat → Int32, (∀ a, a ≠ 404 → (a < 411 ∨ 419 < a) → I' a = I a) → (∀ j, j ≠ 32 → j ≠ 33 → j ≠ 34 → j ≠ 35 → I' 404 j = I 404 j) → I' 404 35 = -1 → MSK I' (Nn R) st (fun _ => gC R) (gT (nX R x)) (g0S R (nX R x)) 0 0 → (∀ c, c < Nn R → I' 418 c = skI R c ∧ I' 419 c = R (29 + c)) → K none (n, SH1, I', J)) : t_X12_start [.ref 404, .int x, .int wh] (n, SH1, I, J) K := by
  obtain ⟨⟨x0, x5⟩, -⟩ := id hx
  refine v_mstart (sl := x.toInt.toNat) (L := nL (nX R x)) (C := Cn R) (R := Rn R) (H := Hn R) (by omega) (by omega) (by rw [hR]; exact hS.1) (by rw [hR]; exact hG.1) (fun I' g0 g1 g2 g3 g4 g5 g6 g7 => ?_)
  rw [hR] at g2 g6 g7
  have h406 : I' 406 = R := (g0 406 (by decide) (by decide)).trans hR
  have cM1 : (-1 : Int32).toInt = -1 := rfl
  have e18 : ∀ c, c < Nn R → I' 418 c = skI R c := fun c hc => skI_e hG (g7 c hc).2.2.1
  refine hk I' g0 g1 g5 ⟨fun τ _ _ c hc => ?_, fun t _ ht => ?_, ⟨fun c hc => ?_, fun c hc => ?_, ?_, ?_⟩, ?_, ?_, fun c hc => ?_⟩ (fun c hc => ⟨e18 c hc, (g7 c hc).2.2.2⟩)
  · unfold cfM gC syM
    rw [h406, (g7 c hc).2.2.2, g5, if_neg (fun q => by rw [cM1] at q; omega), e18 c hc]
  · unfold tnM gT
    rw [show I' 411 t = ndF (nU (nX R x)) 0 t from g6 0 (by decide) t ht, show I' 412 t = ndF (nU (nX R x)) 1 t from g6 1 (by decide) t ht, show I' 413 t = ndF (nU (nX R x)) 2 t from g6 2 (by decide) t ht, show I' 414 t = ndF (nU (nX R x)) 3 t from g6 3 (by decide) t ht, show I' 415 t = ndF (nU (nX R x)) 4 t from g6 4 (by decide) t ht]
  · exact (g7 c hc).1
  · exact (g7 c hc).2.1
  · exact g2
  · exact g3
  · rw [h406]; exact (gok_N hG).1
  · rw [g4]; exact hst
  · rw [(g7 c hc).2.2.2]
    obtain ⟨k1, k2, -⟩ := gok_k hG hc
    exact ⟨k1, k2⟩
end
section
/-! ===== questions ===== -/
set_option maxRecDepth 8000 in
theorem v_cellAt2 {n : Nat} {I : Nat → Nat → Int32} {J : Nat → Nat → Int64} {K : dw_K} {R : Nat → Int32} {x y : Int32} (hG : GOK R) (h0 : I 4 0 = R 0) (h1 : I 4 1 = R 1)
    (hy : okC R x y → ∀ c : Int32, c.toInt = (cN R x y : Nat) → K (some (.int c)) (n, SH1, I, J)) (hn : ¬ okC R x y → K (some (.int (-1))) (n, SH1, I, J)) : t_X0_cellAt [.ref 4, .int x, .int y] (n, SH1, I, J) K := by
  have e0 : (I 4 0).toInt = Cn R := by rw [h0]; exact hG.1.1
  have e1 : (I 4 1).toInt = Rn R := by rw [h1]; exact hG.1.2.1
  refine q_body (Nat.le_of_ble_eq_true rfl) ?_
  refine q_ild rfl rfl ?_
  refine q_if (c := 2) rfl (by decide) (fun g => ?_) (fun g1 => ?_)
  · have g : x.toInt < 0 := g
    refine q_ic rfl ?_
    exact q_iret rfl (hn (fun q => by omega))
  have g1 : 0 ≤ x.toInt := g1
  refine q_ild rfl rfl ?_
  refine q_ald rfl rfl ?_
  refine q_geti rfl sk_4 ?_
  refine q_icmp (c := 3) rfl (by decide) (fun g => ?_) (fun g2 => ?_)
  · have g : (I 4 0).toInt ≤ x.toInt := g
    refine q_ic rfl ?_
    exact q_iret rfl (hn (fun q => by omega))
  have g2 : x.toInt < (I 4 0).toInt := g2
  refine q_ild rfl rfl ?_
  refine q_if (c := 2) rfl (by decide) (fun g => ?_) (fun g3 => ?_)
  · have g : y.toInt < 0 := g
    refine q_ic rfl ?_
    exact q_iret rfl (hn (fun q => by omega))
  have g3 : 0 ≤ y.toInt := g3
  refine q_ild rfl rfl ?_
  refine q_ald rfl rfl ?_
  refine q_geti rfl sk_4 ?_
  refine q_icmp (c := 3) rfl (by decide) (fun g => ?_) (fun g4 => ?_)
  · have g : (I 4 1).toInt ≤ y.toInt := g
    refine q_ic rfl ?_
    exact q_iret rfl (hn (fun q => by omega))
  have g4 : y.toInt < (I 4 1).toInt := g4
  have ok : okC R x y := ⟨g1, by omega, g3, by omega⟩
  refine q_ild rfl rfl ?_
  refine q_ald rfl rfl ?_
  refine q_geti rfl sk_4 ?_
  refine q_mul rfl ?_
  refine q_ild rfl rfl ?_
  refine q_add rfl ?_
  refine q_goto rfl ?_
  exact q_iret rfl (hy ok _ (by show (y * I 4 0 + x).toInt = _; rw [h0]; exact (cN_i hG ok).1))
set_option maxRecDepth 8000 in
/-- a SLOT that is there, as the class sees it -/
theorem okS_of {R : Nat → Int32} {x : Int32} {s : Nat} (hs : s < 6) (hx : x.toInt = s) (hS : NOK (nS R s)) : okS R x ∧ nX R x = nS R s := by
  have e : x.toInt.toNat = s := by omega
  refine ⟨⟨by omega, ?_⟩, by show nS R x.toInt.toNat = nS R s; rw [e]⟩
  have q := hS.1.1
  have q2 : (R (221 + 97 * s + 0)).toInt = _ := q
  rw [e]
  rw [Nat.add_zero] at q2
  omega
set_option maxRecDepth 8000 in
theorem okS_no {R : Nat → Int32} {x : Int32} (h : ∀ s : Nat, s < 6 → x.toInt = s → (nS R s 0).toInt < 0) : ¬ okS R x := by
  rintro ⟨⟨h1, h2⟩, h3⟩
  have q := h x.toInt.toNat (by omega) (by omega)
  have q2 : (R (221 + 97 * x.toInt.toNat + 0)).toInt < 0 := q
  rw [Nat.add_zero] at q2
  omega
set_option maxRecDepth 8000 in
/-- where a SLOT is there the NIGHT is in order -/
theorem nok_of {I : Nat → Nat → Int32} {R : Nat → Int32} {x : Int32} (hR : SREL I 3 R) (h : okS R x) : NOK (nX R x) := by
  obtain ⟨⟨h1, h2⟩, h3⟩ := h
  rcases rn_3 hR (s := x.toInt.toNat) (by omega) with ⟨-, e⟩ | ⟨-, e, -⟩
  · have q2 : (R (221 + 97 * x.toInt.toNat + 0)).toInt < 0 := e
    rw [Nat.add_zero] at q2
    omega
  · exact e
def aMuch (R : Nat → Int32) (s x y t : Int32) : Int := if okS R s ∧ okC R x y ∧ okT t then ((runW R (nX R s) 0 (t.toInt.toNat + 1)).2.1 (cN R x y)).toInt else -1
def aWhere (R : Nat → Int32) (s t l : Int32) : Int := if okS R s ∧ okT t ∧ 1 ≤ l.toInt ∧ l.toInt ≤ 9999 then (wcF (runW R (nX R s) 0 (t.toInt.toNat + 1)).2.1 l (Nn R) : Nat) else -1
set_option maxRecDepth 8000 in
theorem v_cmuch {n : Nat} {I : Nat → Nat → Int32} {J : Nat → Nat → Int64} {K : dw_K} {R : Nat → Int32} (hR : SREL I 3 R) {a1 a2 a3 a4 : Int32} (hk : ∀ (w : Int32) (I' : Nat → Nat → Int32), w.toInt = aMuch R a1 a2 a3 a4 → K (some (.int w)) (n, SH1, I', J)) : t_X11_much [.ref 0, .int a1, .int a2, .int a3, .int a4] (n, SH1, I, J) K := by
  have cm1 : (-1 : Int32).toInt = -1 := rfl
  refine q_body (Nat.le_of_ble_eq_true rfl) ?_
  refine q_ald rfl rfl ?_
  refine q_getr rfl sk_0 sr_0_1 ?_
  refine q_getr rfl sk_3 sr_3_1 ?_
  refine q_ild rfl rfl ?_
  refine q_ild rfl rfl ?_
  refine q_callV (as := [.int a2, .int a3]) (rest := []) rfl rfl sk_4 rfl (Nat.le_of_ble_eq_true rfl) ?_
  refine v_cellAt2 (R := R) hR.1 ((rg_3 hR).1 0 (by decide)) ((rg_3 hR).1 1 (by decide)) (fun k2 c1 ec1 => ?_) (fun k2 => ?_)
  · show dw_ok (pr_X11_much K) 12 0 0 [some (.ref 0), some (.int a1), some (.int a2), some (.int a3), some (.int a4), none] [.int c1] (n, SH1, I, J)
    refine q_ist rfl rfl ?_
    show dw_ok (pr_X11_much K) 14 0 0 [some (.ref 0), some (.int a1), some (.int a2), some (.int a3), some (.int a4), some (.int c1)] [] (n, SH1, I, J)
    refine q_ild rfl rfl ?_
    refine q_ic rfl ?_
    refine q_icmp (c := 0) rfl (by decide) (fun h => absurd (show (c1).toInt = (-1 : Int) from h) (by have := ec1; omega)) (fun y3 => ?_)
    have y3 : (c1).toInt ≠ (-1 : Int) := y3
    refine q_ald rfl rfl ?_
    refine q_ild rfl rfl ?_
    refine q_ild rfl rfl ?_
    refine q_callV (as := [.int a1, .int a4]) (rest := []) rfl rfl sk_0 rfl (Nat.le_of_ble_eq_true rfl) ?_
    refine v_behind hR (fun s k hs hxs htk hk9 hS I1 q0 q1 q2 => ?_) (fun hno I1 eI1 => ?_)
    · show dw_ok (pr_X11_much K) 27 0 0 [some (.ref 0), some (.int a1), some (.int a2), some (.int a3), some (.int a4), some (.int c1)] [.int (1 : Int32)] (n, SH1, I1, J)
      refine q_if (c := 1) rfl (by decide) (fun y4 => ?_) (fun h => absurd (show (1 : Int) = 0 from h) (by decide))
      have y4 : (1 : Int) ≠ 0 := y4
      refine q_ald rfl rfl ?_
      refine q_getr rfl sk_0 sr_0_6 ?_
      refine q_ild rfl rfl ?_
      refine q_callV (as := [.int c1]) (rest := []) rfl rfl sk_164 rfl (Nat.le_of_ble_eq_true rfl) ?_
      refine v_waterOf (A := 164) (N := Nn R) (k := cN R a2 a3) (rt_ok (by decide)) ec1 q1 (gok_N hR.1).2 (cN_lt k2) ?_
      show dw_ok (pr_X11_much K) 41 0 0 [some (.ref 0), some (.int a1), some (.int a2), some (.int a3), some (.int a4), some (.int c1)] [.int (I1 (164 + 14) (cN R a2 a3))] (n, SH1, I1, J)
      obtain ⟨oS, eS⟩ := okS_of hs hxs hS
      refine q_iret rfl (hk _ _ ?_)
      unfold aMuch
      rw [if_pos ⟨oS, k2, by omega⟩, eS, show a4.toInt.toNat = k by omega]
      exact congrArg Int32.toInt (q2.2.1 _ (cN_lt k2))
    · subst eI1
      show dw_ok (pr_X11_much K) 27 0 0 [some (.ref 0), some (.int a1), some (.int a2), some (.int a3), some (.int a4), some (.int c1)] [.int (0 : Int32)] (n, SH1, I1, J)
      refine q_if (c := 1) rfl (by decide) (fun h => absurd (show (0 : Int) ≠ 0 from h) (by decide)) (fun y5 => ?_)
      have y5 : (0 : Int) = 0 := y5
      refine q_ic rfl ?_
      refine q_iret rfl (hk _ _ ?_)
      unfold aMuch
      rw [if_neg (fun q => hno.elim (fun g => g q.2.2) (fun g => okS_no g q.1))]
      exact cm1
  · show dw_ok (pr_X11_much K) 12 0 0 [some (.ref 0), some (.int a1), some (.int a2), some (.int a3), some (.int a4), none] [.int (-1 : Int32)] (n, SH1, I, J)
    refine q_ist rfl rfl ?_
    show dw_ok (pr_X11_much K) 14 0 0 [some (.ref 0), some (.int a1), some (.int a2), some (.int a3), some (.int a4), some (.int (-1 : Int32))] [] (n, SH1, I, J)
    refine q_ild rfl rfl ?_
    refine q_ic rfl ?_
    refine q_icmp (c := 0) rfl (by decide) (fun y6 => ?_) (fun h => absurd (show (-1 : Int) ≠ (-1 : Int) from h) (by omega))
    have y6 : (-1 : Int) = (-1 : Int) := y6
    refine q_ic rfl ?_
    refine q_iret rfl (hk _ _ ?_)
    unfold aMuch
    rw [if_neg (fun q => k2 q.2.1)]
    exact cm1
set_option maxRecDepth 8000 in
theorem v_cwhere {n : Nat} {I : Nat → Nat → Int32} {J : Nat → Nat → Int64} {K : dw_K} {R : Nat → Int32} (hR : SREL I 3 R) {a1 a2 a3 : Int32} (hk : ∀ (w : Int32) (I' : Nat → Nat → Int32), w.toInt = aWhere R a1 a2 a3 → K (some (.int w)) (n, SH1, I', J)) : t_X11_where [.ref 0, .int a1, .int a2, .int a3] (n, SH1, I, J) K := by
  have cm1 : (-1 : Int32).toInt = -1 := rfl
  refine q_body (Nat.le_of_ble_eq_true rfl) ?_
  refine q_ild rfl rfl ?_
  refine q_ic rfl ?_
  refine q_icmp (c := 2) rfl (by decide) (fun y1 => ?_) (fun y1 => ?_)
  · have y1 : (a3).toInt < (1 : Int) := y1
    refine q_ic rfl ?_
    refine q_iret rfl (hk _ _ ?_)
    unfold aWhere
    rw [if_neg (fun q => by omega)]
    exact cm1
  · have y1 : (1 : Int) ≤ (a3).toInt := y1
    refine q_ild rfl rfl ?_
    refine q_ic rfl ?_
    refine q_icmp (c := 4) rfl (by decide) (fun y2 => ?_) (fun y2 => ?_)
    · have y2 : (9999 : Int) < (a3).toInt := y2
      refine q_ic rfl ?_
      refine q_iret rfl (hk _ _ ?_)
      unfold aWhere
      rw [if_neg (fun q => by omega)]
      exact cm1
    · have y2 : (a3).toInt ≤ (9999 : Int) := y2
      refine q_ald rfl rfl ?_
      refine q_ild rfl rfl ?_
      refine q_ild rfl rfl ?_
      refine q_callV (as := [.int a1, .int a2]) (rest := []) rfl rfl sk_0 rfl (Nat.le_of_ble_eq_true rfl) ?_
      refine v_behind hR (fun s k hs hxs htk hk9 hS I1 q0 q1 q2 => ?_) (fun hno I1 eI1 => ?_)
      · show dw_ok (pr_X11_where K) 18 0 0 [some (.ref 0), some (.int a1), some (.int a2), some (.int a3)] [.int (1 : Int32)] (n, SH1, I1, J)
        refine q_if (c := 1) rfl (by decide) (fun y3 => ?_) (fun h => absurd (show (1 : Int) = 0 from h) (by decide))
        have y3 : (1 : Int) ≠ 0 := y3
        refine q_ald rfl rfl ?_
        refine q_getr rfl sk_0 sr_0_6 ?_
        refine q_ild rfl rfl ?_
        refine q_callV (as := [.int a3]) (rest := []) rfl rfl sk_164 rfl (Nat.le_of_ble_eq_true rfl) ?_
        refine v_wetCells (A := 164) (N := Nn R) (rt_ok (by decide)) q1 (gok_N hR.1).2 (fun w hw => ?_)
        show dw_ok (pr_X11_where K) 31 0 0 [some (.ref 0), some (.int a1), some (.int a2), some (.int a3)] [.int w] (n, SH1, I1, J)
        obtain ⟨oS, eS⟩ := okS_of hs hxs hS
        refine q_iret rfl (hk _ _ ?_)
        unfold aWhere
        rw [if_pos ⟨oS, by omega, by omega⟩, eS, show a2.toInt.toNat = k by omega, hw]
        exact congrArg Nat.cast (wc_eq (Nn R) (fun c hc => q2.2.1 c hc))
      · subst eI1
        show dw_ok (pr_X11_where K) 18 0 0 [some (.ref 0), some (.int a1), some (.int a2), some (.int a3)] [.int (0 : Int32)] (n, SH1, I1, J)
        refine q_if (c := 1) rfl (by decide) (fun h => absurd (show (0 : Int) ≠ 0 from h) (by decide)) (fun y4 => ?_)
        have y4 : (0 : Int) = 0 := y4
        refine q_ic rfl ?_
        refine q_iret rfl (hk _ _ ?_)
        unfold aWhere
        rw [if_neg (fun q => hno.elim (fun g => g q.2.1) (fun g => okS_no g q.1))]
        exact cm1
set_option maxRecDepth 8000 in
theorem mth_loop {n : Nat} {J : Nat → Nat → Int64} {K : dw_K} {R : Nat → Int32} {N st m : Nat} {C : Nat → Nat → rC} {T : Nat → rN} {s0 : rS} {x wh tl : Int32} (hP : PUR N C T s0 0) (htl : tl.toInt + 1 = m) (hm : m ≤ 144)
    (hk : ∀ I' : Nat → Nat → Int32, I' 406 = R → MSK I' N st C T s0 0 m → K none (n, SH1, I', J)) :
    ∀ (f k : Nat) (t : Int32) (I : Nat → Nat → Int32), k + f = m → t.toInt = k → I 406 = R → MSK I N st C T s0 0 k → dw_ok (pr_X12_through K) 9 0 0 [some (.ref 404), some (.int x), some (.int wh), some (.int tl), some (.int t)] [] (n, SH1, I, J) := by
  have k1 : (1 : Int32).toInt = 1 := rfl
  intro f
  induction f with
  | zero =>
    intro k t I hf ht hR hM
    refine q_ild rfl rfl ?_
    refine q_ild rfl rfl ?_
    refine q_icmp (c := 4) rfl (by decide) (fun _ => ?_) (fun h => absurd (show t.toInt ≤ tl.toInt from h) (by omega))
    obtain rfl : k = m := by omega
    exact q_vret rfl (hk I hR hM)
  | succ f ih =>
    intro k t I hf ht hR hM
    refine q_ild rfl rfl ?_
    refine q_ild rfl rfl ?_
    refine q_icmp (c := 4) rfl (by decide) (fun h => absurd (show tl.toInt < t.toInt from h) (by omega)) (fun _ => ?_)
    refine q_ald rfl rfl ?_
    refine q_ild rfl rfl ?_
    refine q_callV (as := [.int t]) (rest := []) rfl rfl sk_404 rfl (Nat.le_of_ble_eq_true rfl) ?_
    refine v_mstepR hP hM (by omega) (by omega) (fun I' g1 _ g3 => ?_)
    show dw_ok (pr_X12_through K) 21 0 0 [some (.ref 404), some (.int x), some (.int wh), some (.int tl), some (.int t)] [] (n, SH1, I', J)
    refine q_inc rfl rfl rfl ?_
    refine q_goto rfl ?_
    exact ih (k + 1) (t + 1) I' (by omega) (by rw [i_add (by omega) (by omega), k1, ht]; omega) ((g1 406 (by decide) (by decide) (by decide)).trans hR) g3
set_option maxRecDepth 8000 in
theorem v_through {n : Nat} {I : Nat → Nat → Int32} {J : Nat → Nat → Int64} {K : dw_K} {x wh tl : Int32} {R : Nat → Int32} {st : Nat} (hR : I 406 = R) (hG : GOK R) (hx : okS R x) (hS : NOK (nX R x)) (hst : wh.toInt = st) (ht : okT tl)
    (hk : ∀ I' : Nat → Nat → Int32, I' 406 = R → rEq (Nn R) (srM I') (runW R (nX R x) st (tl.toInt.toNat + 1)) → K none (n, SH1, I', J)) : t_X12_through [.ref 404, .int x, .int wh, .int tl] (n, SH1, I, J) K := by
  obtain ⟨t0, t9⟩ := id ht
  refine q_body (Nat.le_of_ble_eq_true rfl) ?_
  refine q_ald rfl rfl ?_
  refine q_ild rfl rfl ?_
  refine q_ild rfl rfl ?_
  refine q_callV (as := [.int x, .int wh]) (rest := []) rfl rfl sk_404 rfl (Nat.le_of_ble_eq_true rfl) ?_
  refine v_mstartR hR hG hx hS hst (fun I1 g0 _ _ hM _ => ?_)
  show dw_ok (pr_X12_through K) 6 0 0 [some (.ref 404), some (.int x), some (.int wh), some (.int tl), none] [] (n, SH1, I1, J)
  refine q_ic rfl ?_
  refine q_ist rfl rfl ?_
  exact mth_loop (m := tl.toInt.toNat + 1) (pur_0 hG hS) (by omega) (by omega) (fun I' h1 h2 => hk I' h1 h2.2.2.1) (tl.toInt.toNat + 1) 0 0 I1 (by omega) rfl ((g0 406 (by decide) (by decide)).trans hR) hM
set_option maxRecDepth 8000 in
set_option maxHeartbeats 4000000 in
theorem v_mmuch {n : Nat} {I : Nat → Nat → Int32} {J : Nat → Nat → Int64} {K : dw_K} {R : Nat → Int32} (hR : I 406 = R) (hG : GOK R) {a1 a2 a3 a4 : Int32} (hN : okS R a1 → NOK (nX R a1)) (hk : ∀ (w : Int32) (I' : Nat → Nat → Int32), w.toInt = aMuch R a1 a2 a3 a4 → K (some (.int w)) (n, SH1, I', J)) : t_X12_much [.ref 404, .int a1, .int a2, .int a3, .int a4] (n, SH1, I, J) K := by
  have cm1 : (-1 : Int32).toInt = -1 := rfl
  refine q_body (Nat.le_of_ble_eq_true rfl) ?_
  refine q_ald rfl rfl ?_
  refine q_ic rfl ?_
  refine q_puti rfl sk_404 ?_
  show dw_ok (pr_X12_much K) 5 0 0 [some (.ref 404), some (.int a1), some (.int a2), some (.int a3), some (.int a4)] [] (n, SH1, (dw_up I 404 0 (0 : Int32)), J)
  refine q_ald rfl rfl ?_
  refine q_ild rfl rfl ?_
  refine q_callV (as := [.int a1]) (rest := []) rfl rfl sk_404 rfl (Nat.le_of_ble_eq_true rfl) ?_
  obtain ⟨I1, hI1⟩ : ∃ X, X = (dw_up I 404 0 (0 : Int32)) := ⟨_, rfl⟩
  rw [← hI1]
  have eI1 : I1 406 = R := by rw [hI1]; exact ((up_row (by decide)).trans (hR))
  refine v_isNight (fun w_ oS => ?_)
  rcases oS with ⟨rfl, oS⟩ | ⟨rfl, oS⟩
  · show dw_ok (pr_X12_much K) 10 0 0 [some (.ref 404), some (.int a1), some (.int a2), some (.int a3), some (.int a4)] [.int (1 : Int32)] (n, SH1, I1, J)
    refine q_if (c := 0) rfl (by decide) (fun h => absurd (show (1 : Int) = 0 from h) (by decide)) (fun y2 => ?_)
    have y2 : (1 : Int) ≠ 0 := y2
    refine q_ald rfl rfl ?_
    refine q_ild rfl rfl ?_
    refine q_ild rfl rfl ?_
    refine q_callV (as := [.int a2, .int a3]) (rest := []) rfl rfl sk_404 rfl (Nat.le_of_ble_eq_true rfl) ?_
    refine v_misCell (C := Cn R) (R := Rn R) (by rw [eI1]; exact hG.1.1) (by rw [eI1]; exact hG.1.2.1) (fun w_ oC => ?_)
    rcases oC with ⟨rfl, oC⟩ | ⟨rfl, oC⟩
    · show dw_ok (pr_X12_much K) 19 0 0 [some (.ref 404), some (.int a1), some (.int a2), some (.int a3), some (.int a4)] [.int (1 : Int32)] (n, SH1, I1, J)
      refine q_if (c := 0) rfl (by decide) (fun h => absurd (show (1 : Int) = 0 from h) (by decide)) (fun y3 => ?_)
      have y3 : (1 : Int) ≠ 0 := y3
      refine q_ild rfl rfl ?_
      refine q_callS (as := [.int a4]) (rest := []) rfl rfl rfl rfl ?_
      refine v_mIsStep (fun w_ oT => ?_)
      rcases oT with ⟨rfl, oT⟩ | ⟨rfl, oT⟩
      · show dw_ok (pr_X12_much K) 27 0 0 [some (.ref 404), some (.int a1), some (.int a2), some (.int a3), some (.int a4)] [.int (1 : Int32)] (n, SH1, I1, J)
        refine q_if (c := 1) rfl (by decide) (fun y4 => ?_) (fun h => absurd (show (1 : Int) = 0 from h) (by decide))
        have y4 : (1 : Int) ≠ 0 := y4
        refine q_ald rfl rfl ?_
        refine q_ild rfl rfl ?_
        refine q_ic rfl ?_
        refine q_ild rfl rfl ?_
        refine q_callV (as := [.int a1, .int (0 : Int32), .int a4]) (rest := []) rfl rfl sk_404 rfl (Nat.le_of_ble_eq_true rfl) ?_
        rw [eI1] at oS
        refine v_through (st := 0) eI1 hG oS (hN oS) rfl (by omega) (fun I9 e9 q9 => ?_)
        show dw_ok (pr_X12_much K) 40 0 0 [some (.ref 404), some (.int a1), some (.int a2), some (.int a3), some (.int a4)] [] (n, SH1, I9, J)
        refine q_ald rfl rfl ?_
        refine q_getr rfl sk_404 sr_404_29 ?_
        refine q_ald rfl rfl ?_
        refine q_ild rfl rfl ?_
        refine q_ild rfl rfl ?_
        refine q_callV (as := [.int a2, .int a3]) (rest := [.ref 417]) rfl rfl sk_404 rfl (Nat.le_of_ble_eq_true rfl) ?_
        refine v_numberOf ?_
        show dw_ok (pr_X12_much K) 50 0 0 [some (.ref 404), some (.int a1), some (.int a2), some (.int a3), some (.int a4)] [.int (I9 406 0 * a3 + a2), .ref 417] (n, SH1, I9, J)
        rw [e9]
        have en : (R 0 * a3 + a2).toInt.toNat = cN R a2 a3 := by rw [(cN_i hG oC).2]; rfl
        have el := cN_lt oC
        have el9 := (gok_N hG).2
        have ei : (R 0 * a3 + a2).toInt = (cN R a2 a3 : Nat) := (cN_i hG oC).2
        show dw_ok (pr_X12_much K) 50 0 0 [some (.ref 404), some (.int a1), some (.int a2), some (.int a3), some (.int a4)] [.int (R 0 * a3 + a2), .ref 417] (n, SH1, I9, J)
        show dw_ok (pr_X12_much K) 50 0 0 [some (.ref 404), some (.int a1), some (.int a2), some (.int a3), some (.int a4)] [.int (R 0 * a3 + a2), .ref 417] (n, SH1, I9, J)
        refine q_xald rfl (Or.inl rfl) sk_417 sn_417 (by rw [ei]; omega) (by rw [ei]; omega) ?_
        show dw_ok (pr_X12_much K) 51 0 0 [some (.ref 404), some (.int a1), some (.int a2), some (.int a3), some (.int a4)] [.int (I9 417 ((R 0 * a3 + a2)).toInt.toNat)] (n, SH1, I9, J)
        rw [en]
        refine q_iret rfl (hk _ _ ?_)
        unfold aMuch
        rw [if_pos ⟨oS, oC, by omega⟩]
        exact congrArg Int32.toInt (q9.2.1 _ el)
      · show dw_ok (pr_X12_much K) 27 0 0 [some (.ref 404), some (.int a1), some (.int a2), some (.int a3), some (.int a4)] [.int (0 : Int32)] (n, SH1, I1, J)
        refine q_if (c := 1) rfl (by decide) (fun h => absurd (show (0 : Int) ≠ 0 from h) (by decide)) (fun y5 => ?_)
        have y5 : (0 : Int) = 0 := y5
        refine q_ic rfl ?_
        refine q_iret rfl (hk _ _ ?_)
        unfold aMuch
        rw [if_neg (fun q => oT ⟨q.2.2.1, by have := q.2.2.2; omega⟩)]
        exact cm1
    · show dw_ok (pr_X12_much K) 19 0 0 [some (.ref 404), some (.int a1), some (.int a2), some (.int a3), some (.int a4)] [.int (0 : Int32)] (n, SH1, I1, J)
      refine q_if (c := 0) rfl (by decide) (fun y6 => ?_) (fun h => absurd (show (0 : Int) ≠ 0 from h) (by decide))
      have y6 : (0 : Int) = 0 := y6
      refine q_ic rfl ?_
      refine q_iret rfl (hk _ _ ?_)
      unfold aMuch
      rw [if_neg (fun q => oC q.2.1)]
      exact cm1
  · show dw_ok (pr_X12_much K) 10 0 0 [some (.ref 404), some (.int a1), some (.int a2), some (.int a3), some (.int a4)] [.int (0 : Int32)] (n, SH1, I1, J)
    refine q_if (c := 0) rfl (by decide) (fun y7 => ?_) (fun h => absurd (show (0 : Int) ≠ 0 from h) (by decide))
    have y7 : (0 : Int) = 0 := y7
    refine q_ic rfl ?_
    refine q_iret rfl (hk _ _ ?_)
    unfold aMuch
    rw [if_neg (by rw [eI1] at oS; exact fun q => oS q.1)]
    exact cm1
set_option maxRecDepth 8000 in
theorem mwh_loop {n : Nat} {I : Nat → Nat → Int32} {J : Nat → Nat → Int64} {K : dw_K} {a1 a2 l : Int32} {R : Nat → Int32} (e1 : I 406 = R) (hG : GOK R)
    (hk : ∀ v : Int32, v.toInt = wcF (I 417) l (Nn R) → K (some (.int v)) (n, SH1, I, J)) :
    ∀ (f k : Nat) (v c : Int32), k + f = Nn R → c.toInt = k → v.toInt = wcF (I 417) l k → dw_ok (pr_X12_where K) 46 0 0 [some (.ref 404), some (.int a1), some (.int a2), some (.int l), some (.int v), some (.int c)] [] (n, SH1, I, J) := by
  obtain ⟨hN, hN9⟩ := gok_N hG
  have k1 : (1 : Int32).toInt = 1 := rfl
  have k0 : (0 : Int32).toInt = 0 := rfl
  intro f
  induction f with
  | zero =>
    intro k v c hf hc hv
    have hcn : c.toInt.toNat = k := by omega
    refine q_ild rfl rfl ?_
    refine q_ald rfl rfl ?_
    refine q_callV (as := []) (rest := [.int c]) rfl rfl sk_404 rfl (Nat.le_of_ble_eq_true rfl) ?_
    refine v_mcells ?_
    show dw_ok (pr_X12_where K) 52 0 0 [some (.ref 404), some (.int a1), some (.int a2), some (.int l), some (.int v), some (.int c)] [.int (I 406 0 * I 406 1), .int c] (n, SH1, I, J)
    rw [show I 406 = R from e1]
    obtain ⟨nv, hnv⟩ : ∃ z, z = R 0 * R 1 := ⟨_, rfl⟩
    rw [← hnv]
    have env : nv.toInt = Nn R := by rw [hnv]; exact hN
    show dw_ok (pr_X12_where K) 52 0 0 [some (.ref 404), some (.int a1), some (.int a2), some (.int l), some (.int v), some (.int c)] [.int nv, .int c] (n, SH1, I, J)
    refine q_icmp (c := 3) rfl (by decide) (fun y1 => ?_) (fun h => absurd (show (c).toInt < (nv).toInt from h) (by omega))
    have y1 : (nv).toInt ≤ (c).toInt := y1
    refine q_ild rfl rfl ?_
    have kN : k = Nn R := by omega
    rw [kN] at hv
    exact q_iret rfl (hk v hv)
  | succ f ih =>
    intro k v c hf hc hv
    have hcn : c.toInt.toNat = k := by omega
    have wl := wc_le (W := I 417) (l := l) k
    refine q_ild rfl rfl ?_
    refine q_ald rfl rfl ?_
    refine q_callV (as := []) (rest := [.int c]) rfl rfl sk_404 rfl (Nat.le_of_ble_eq_true rfl) ?_
    refine v_mcells ?_
    show dw_ok (pr_X12_where K) 52 0 0 [some (.ref 404), some (.int a1), some (.int a2), some (.int l), some (.int v), some (.int c)] [.int (I 406 0 * I 406 1), .int c] (n, SH1, I, J)
    rw [show I 406 = R from e1]
    obtain ⟨nv, hnv⟩ : ∃ z, z = R 0 * R 1 := ⟨_, rfl⟩
    rw [← hnv]
    have env : nv.toInt = Nn R := by rw [hnv]; exact hN
    show dw_ok (pr_X12_where K) 52 0 0 [some (.ref 404), some (.int a1), some (.int a2), some (.int l), some (.int v), some (.int c)] [.int nv, .int c] (n, SH1, I, J)
    refine q_icmp (c := 3) rfl (by decide) (fun h => absurd (show (nv).toInt ≤ (c).toInt from h) (by omega)) (fun y2 => ?_)
    have y2 : (c).toInt < (nv).toInt := y2
    refine q_ild rfl rfl ?_
    refine q_ald rfl rfl ?_
    refine q_getr rfl sk_404 sr_404_29 ?_
    refine q_ild rfl rfl ?_
    refine q_xald rfl (Or.inl rfl) sk_417 sn_417 (by omega) (by omega) ?_
    show dw_ok (pr_X12_where K) 64 0 0 [some (.ref 404), some (.int a1), some (.int a2), some (.int l), some (.int v), some (.int c)] [.int (I 417 (c).toInt.toNat), .int v] (n, SH1, I, J)
    rw [hcn]
    refine q_ild rfl rfl ?_
    refine q_icmp (c := 2) rfl (by decide) (fun y3 => ?_) (fun y3 => ?_)
    · have y3 : ((I 417 k)).toInt < (l).toInt := y3
      refine q_ic rfl ?_
      refine q_add rfl ?_
      refine q_ist rfl rfl ?_
      show dw_ok (pr_X12_where K) 76 0 0 [some (.ref 404), some (.int a1), some (.int a2), some (.int l), some (.int (v + (0 : Int32))), some (.int c)] [] (n, SH1, I, J)
      refine q_inc rfl rfl rfl ?_
      show dw_ok (pr_X12_where K) 79 0 0 [some (.ref 404), some (.int a1), some (.int a2), some (.int l), some (.int (v + (0 : Int32))), some (.int (c + 1))] [] (n, SH1, I, J)
      show dw_ok (pr_X12_where K) 79 0 0 [some (.ref 404), some (.int a1), some (.int a2), some (.int l), some (.int (v + (0 : Int32))), some (.int (c + 1))] [] (n, SH1, I, J)
      obtain ⟨cx, hcx⟩ : ∃ z, z = (c + 1) := ⟨_, rfl⟩
      rw [← hcx]
      have ecx : cx.toInt = ((k + 1 : Nat) : Int) := by rw [hcx]; exact ix_1 hc (by omega)
      refine q_goto rfl ?_
      refine ih (k + 1) (v + (0 : Int32)) cx (by omega) ecx ?_
      rw [i_add (by rw [hv, k0]; omega) (by rw [hv, k0]; omega), hv, k0]
      show _ = ((wcF (I 417) l k + (if l.toInt ≤ (I 417 k).toInt then 1 else 0) : Nat) : Int)
      rw [if_neg (by omega)]
      omega
    · have y3 : (l).toInt ≤ ((I 417 k)).toInt := y3
      refine q_ic rfl ?_
      refine q_goto rfl ?_
      refine q_add rfl ?_
      refine q_ist rfl rfl ?_
      show dw_ok (pr_X12_where K) 76 0 0 [some (.ref 404), some (.int a1), some (.int a2), some (.int l), some (.int (v + (1 : Int32))), some (.int c)] [] (n, SH1, I, J)
      refine q_inc rfl rfl rfl ?_
      show dw_ok (pr_X12_where K) 79 0 0 [some (.ref 404), some (.int a1), some (.int a2), some (.int l), some (.int (v + (1 : Int32))), some (.int (c + 1))] [] (n, SH1, I, J)
      show dw_ok (pr_X12_where K) 79 0 0 [some (.ref 404), some (.int a1), some (.int a2), some (.int l), some (.int (v + (1 : Int32))), some (.int (c + 1))] [] (n, SH1, I, J)
      obtain ⟨cx, hcx⟩ : ∃ z, z = (c + 1) := ⟨_, rfl⟩
      rw [← hcx]
      have ecx : cx.toInt = ((k + 1 : Nat) : Int) := by rw [hcx]; exact ix_1 hc (by omega)
      refine q_goto rfl ?_
      refine ih (k + 1) (v + (1 : Int32)) cx (by omega) ecx ?_
      rw [i_add (by rw [hv, k1]; omega) (by rw [hv, k1]; omega), hv, k1]
      show _ = ((wcF (I 417) l k + (if l.toInt ≤ (I 417 k).toInt then 1 else 0) : Nat) : Int)
      rw [if_pos (by omega)]
      omega
set_option maxRecDepth 8000 in
theorem wcF_eq2 {f g : Nat → Int32} {l : Int32} : ∀ N : Nat, (∀ c, c < N → f c = g c) → wcF f l N = wcF g l N
  | 0, _ => rfl
  | N + 1, h => by
    show wcF f l N + (if l.toInt ≤ (f N).toInt then 1 else 0) = wcF g l N + (if l.toInt ≤ (g N).toInt then 1 else 0)
    rw [wcF_eq2 N (fun c hc => h c (by omega)), h N (by omega)]
set_option maxRecDepth 8000 in
set_option maxHeartbeats 4000000 in
theorem v_mwhere {n : Nat} {I : Nat → Nat → Int32} {J : Nat → Nat → Int64} {K : dw_K} {R : Nat → Int32} (hR : I 406 = R) (hG : GOK R) {a1 a2 a3 : Int32} (hN : okS R a1 → NOK (nX R a1)) (hk : ∀ (w : Int32) (I' : Nat → Nat → Int32), w.toInt = aWhere R a1 a2 a3 → K (some (.int w)) (n, SH1, I', J)) : t_X12_where [.ref 404, .int a1, .int a2, .int a3] (n, SH1, I, J) K := by
  have cm1 : (-1 : Int32).toInt = -1 := rfl
  refine q_body (Nat.le_of_ble_eq_true rfl) ?_
  refine q_ald rfl rfl ?_
  refine q_ic rfl ?_
  refine q_puti rfl sk_404 ?_
  show dw_ok (pr_X12_where K) 5 0 0 [some (.ref 404), some (.int a1), some (.int a2), some (.int a3), none, none] [] (n, SH1, (dw_up I 404 0 (0 : Int32)), J)
  refine q_ald rfl rfl ?_
  refine q_ild rfl rfl ?_
  refine q_callV (as := [.int a1]) (rest := []) rfl rfl sk_404 rfl (Nat.le_of_ble_eq_true rfl) ?_
  obtain ⟨I1, hI1⟩ : ∃ X, X = (dw_up I 404 0 (0 : Int32)) := ⟨_, rfl⟩
  rw [← hI1]
  have eI1 : I1 406 = R := by rw [hI1]; exact ((up_row (by decide)).trans (hR))
  refine v_isNight (fun w_ oS => ?_)
  rcases oS with ⟨rfl, oS⟩ | ⟨rfl, oS⟩
  · show dw_ok (pr_X12_where K) 10 0 0 [some (.ref 404), some (.int a1), some (.int a2), some (.int a3), none, none] [.int (1 : Int32)] (n, SH1, I1, J)
    refine q_if (c := 0) rfl (by decide) (fun h => absurd (show (1 : Int) = 0 from h) (by decide)) (fun y2 => ?_)
    have y2 : (1 : Int) ≠ 0 := y2
    refine q_ild rfl rfl ?_
    refine q_callS (as := [.int a2]) (rest := []) rfl rfl rfl rfl ?_
    refine v_mIsStep (fun w_ oT => ?_)
    rcases oT with ⟨rfl, oT⟩ | ⟨rfl, oT⟩
    · show dw_ok (pr_X12_where K) 17 0 0 [some (.ref 404), some (.int a1), some (.int a2), some (.int a3), none, none] [.int (1 : Int32)] (n, SH1, I1, J)
      refine q_if (c := 0) rfl (by decide) (fun h => absurd (show (1 : Int) = 0 from h) (by decide)) (fun y3 => ?_)
      have y3 : (1 : Int) ≠ 0 := y3
      refine q_ild rfl rfl ?_
      refine q_ic rfl ?_
      refine q_ic rfl ?_
      refine q_callS (as := [.int a3, .int (1 : Int32), .int (9999 : Int32)]) (rest := []) rfl rfl rfl rfl ?_
      refine v_isIn (fun w_ oI => ?_)
      rcases oI with ⟨rfl, oI⟩ | ⟨rfl, oI⟩
      · show dw_ok (pr_X12_where K) 28 0 0 [some (.ref 404), some (.int a1), some (.int a2), some (.int a3), none, none] [.int (1 : Int32)] (n, SH1, I1, J)
        refine q_if (c := 1) rfl (by decide) (fun y4 => ?_) (fun h => absurd (show (1 : Int) = 0 from h) (by decide))
        have y4 : (1 : Int) ≠ 0 := y4
        refine q_ald rfl rfl ?_
        refine q_ild rfl rfl ?_
        refine q_ic rfl ?_
        refine q_ild rfl rfl ?_
        refine q_callV (as := [.int a1, .int (0 : Int32), .int a2]) (rest := []) rfl rfl sk_404 rfl (Nat.le_of_ble_eq_true rfl) ?_
        rw [eI1] at oS
        refine v_through (st := 0) eI1 hG oS (hN oS) rfl (by omega) (fun I9 e9 q9 => ?_)
        show dw_ok (pr_X12_where K) 40 0 0 [some (.ref 404), some (.int a1), some (.int a2), some (.int a3), none, none] [] (n, SH1, I9, J)
        refine q_ic rfl ?_
        refine q_ist rfl rfl ?_
        show dw_ok (pr_X12_where K) 43 0 0 [some (.ref 404), some (.int a1), some (.int a2), some (.int a3), some (.int (0 : Int32)), none] [] (n, SH1, I9, J)
        refine q_ic rfl ?_
        refine q_ist rfl rfl ?_
        show dw_ok (pr_X12_where K) 46 0 0 [some (.ref 404), some (.int a1), some (.int a2), some (.int a3), some (.int (0 : Int32)), some (.int (0 : Int32))] [] (n, SH1, I9, J)
        refine mwh_loop e9 hG (fun v hv => ?_) (Nn R) 0 0 0 (by omega) rfl rfl
        refine hk _ _ ?_
        unfold aWhere
        have ew : wcF (I9 417) a3 (Nn R) = wcF (runW R (nX R a1) 0 (a2.toInt.toNat + 1)).2.1 a3 (Nn R) := wcF_eq2 _ q9.2.1
        rw [if_pos ⟨oS, by omega, oI⟩, hv, ew]
      · show dw_ok (pr_X12_where K) 28 0 0 [some (.ref 404), some (.int a1), some (.int a2), some (.int a3), none, none] [.int (0 : Int32)] (n, SH1, I1, J)
        refine q_if (c := 1) rfl (by decide) (fun h => absurd (show (0 : Int) ≠ 0 from h) (by decide)) (fun y5 => ?_)
        have y5 : (0 : Int) = 0 := y5
        refine q_ic rfl ?_
        refine q_iret rfl (hk _ _ ?_)
        unfold aWhere
        rw [if_neg (fun q => oI q.2.2)]
        exact cm1
    · show dw_ok (pr_X12_where K) 17 0 0 [some (.ref 404), some (.int a1), some (.int a2), some (.int a3), none, none] [.int (0 : Int32)] (n, SH1, I1, J)
      refine q_if (c := 0) rfl (by decide) (fun y6 => ?_) (fun h => absurd (show (0 : Int) ≠ 0 from h) (by decide))
      have y6 : (0 : Int) = 0 := y6
      refine q_ic rfl ?_
      refine q_iret rfl (hk _ _ ?_)
      unfold aWhere
      rw [if_neg (fun q => oT ⟨q.2.1.1, by have := q.2.1.2; omega⟩)]
      exact cm1
  · show dw_ok (pr_X12_where K) 10 0 0 [some (.ref 404), some (.int a1), some (.int a2), some (.int a3), none, none] [.int (0 : Int32)] (n, SH1, I1, J)
    refine q_if (c := 0) rfl (by decide) (fun y7 => ?_) (fun h => absurd (show (0 : Int) ≠ 0 from h) (by decide))
    have y7 : (0 : Int) = 0 := y7
    refine q_ic rfl ?_
    refine q_iret rfl (hk _ _ ?_)
    unfold aWhere
    rw [if_neg (by rw [eI1] at oS; exact fun q => oS q.1)]
    exact cm1
end
