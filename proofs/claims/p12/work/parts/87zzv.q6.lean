/-! ===== a lawn told ===== -/
def alF (p : Nat → Bool) : Nat → Bool
  | 0 => true
  | k + 1 => alF p k && p k
set_option maxRecDepth 8000 in
theorem al_y {p : Nat → Bool} : ∀ {k : Nat}, (∀ c, c < k → p c = true) → alF p k = true
  | 0, _ => rfl
  | k + 1, h => by
    show (alF p k && p k) = true
    rw [al_y (fun c hc => h c (by omega)), h k (by omega), Bool.and_true]
set_option maxRecDepth 8000 in
theorem al_n {p : Nat → Bool} : ∀ {k : Nat}, (∃ c, c < k ∧ p c = false) → alF p k = false
  | 0, h => by obtain ⟨c, hc, -⟩ := h; exact absurd hc (Nat.not_lt_zero c)
  | k + 1, h => by
    show (alF p k && p k) = false
    obtain ⟨c, hc, q⟩ := h
    by_cases e : c = k
    · rw [← e, q, Bool.and_false]
    · rw [al_n ⟨c, by omega, q⟩, Bool.false_and]
set_option maxRecDepth 8000 in
theorem al_eq {p q : Nat → Bool} : ∀ {k : Nat}, (∀ c, c < k → p c = q c) → alF p k = alF q k
  | 0, _ => rfl
  | k + 1, h => by
    show (alF p k && p k) = (alF q k && q k)
    rw [al_eq (fun c hc => h c (by omega)), h k (by omega)]
def lwP (b : Nat → Int32) : Nat → Bool := fun c => decide ((b c).toInt ≤ 2)
def lkP (b W : Nat → Int32) : Nat → Bool := fun c => decide ((b c).toInt = 2 ∨ (b c).toInt = (if 0 < (W c).toInt then 1 else 0))
set_option maxRecDepth 8000 in
theorem lwP_y {b : Nat → Int32} {c : Nat} (h : (b c).toInt ≤ 2) : lwP b c = true := decide_eq_true h
set_option maxRecDepth 8000 in
theorem lwP_n {b : Nat → Int32} {c : Nat} (h : ¬ (b c).toInt ≤ 2) : lwP b c = false := decide_eq_false h
set_option maxRecDepth 8000 in
theorem lkP_y {b W : Nat → Int32} {c : Nat} (h : (b c).toInt = 2 ∨ (b c).toInt = (if 0 < (W c).toInt then 1 else 0)) : lkP b W c = true := decide_eq_true h
set_option maxRecDepth 8000 in
theorem lkP_n {b W : Nat → Int32} {c : Nat} (h : ¬ ((b c).toInt = 2 ∨ (b c).toInt = (if 0 < (W c).toInt then 1 else 0))) : lkP b W c = false := decide_eq_false h
set_option maxRecDepth 8000 in
theorem lk_w {W : Nat → Int32} {c : Nat} : (0 < (W c).toInt → (if 0 < (W c).toInt then (1 : Int) else 0) = 1) ∧ (¬ 0 < (W c).toInt → (if 0 < (W c).toInt then (1 : Int) else 0) = 0) := ⟨fun h => if_pos h, fun h => if_neg h⟩
/-- the bytes tell a lawn -/
def lwOK (R b : Nat → Int32) (sz : Int) : Prop := sz = Nn R ∧ alF (lwP b) (Nn R) = true
set_option maxRecDepth 8000 in
theorem v_byteC {n : Nat} {I : Nat → Nat → Int32} {J : Nat → Nat → Int64} {K : dw_K} {i : Int32} {k : Nat} (hi : i.toInt = k) (h1 : k < 940) (hk : K (some (.int (I 2 k))) (n, SH1, I, J)) : t_X9_byteAt [.ref 1, .int i] (n, SH1, I, J) K := by
  refine v_byteAt (by omega) (by omega) ?_
  rw [show i.toInt.toNat = k by omega]; exact hk
set_option maxRecDepth 8000 in
theorem v_octM {n : Nat} {I : Nat → Nat → Int32} {J : Nat → Nat → Int64} {K : dw_K} {i : Int32} {k : Nat} (hi : i.toInt = k) (h1 : k < 940) (hk : K (some (.int (I 405 k &&& 255))) (n, SH1, I, J)) : t_X12_octet [.ref 404, .int i] (n, SH1, I, J) K := by
  refine v_octet (by omega) (by omega) ?_
  rw [show i.toInt.toNat = k by omega]; exact hk
set_option maxRecDepth 8000 in
theorem isl_loop {n : Nat} {I : Nat → Nat → Int32} {J : Nat → Nat → Int64} {K : dw_K} {sz : Int32} {N : Nat} {b : Nat → Int32} (hs : sz.toInt = N) (hN9 : N ≤ 144) (hb : ∀ c, c < N → I 2 c = b c)
    (hk : ∀ w : Int32, (w = 1 ∧ alF (lwP b) N = true) ∨ (w = 0 ∧ alF (lwP b) N = false) → K (some (.int w)) (n, SH1, I, J)) :
    ∀ (f k : Nat) (c : Int32), k + f = N → c.toInt = k → (∀ j, j < k → lwP b j = true) → dw_ok (pr_X11_isLawn K) 18 0 0 [some (.ref 0), some (.int sz), some (.int c)] [] (n, SH1, I, J) := by
  have k2 : (2 : Int32).toInt = 2 := rfl
  intro f
  induction f with
  | zero =>
    intro k c hf hc hp
    refine q_ild rfl rfl ?_
    refine q_ild rfl rfl ?_
    refine q_icmp (c := 3) rfl (by decide) (fun y1 => ?_) (fun h => absurd (show (c).toInt < (sz).toInt from h) (by omega))
    have y1 : (sz).toInt ≤ (c).toInt := y1
    refine q_ic rfl ?_
    exact q_zret rfl (Or.inr rfl) (hk 1 (Or.inl ⟨rfl, al_y (fun j hj => hp j (by omega))⟩))
  | succ f ih =>
    intro k c hf hc hp
    have eb : (I 2 k).toInt = (b k).toInt := by rw [hb k (by omega)]
    refine q_ild rfl rfl ?_
    refine q_ild rfl rfl ?_
    refine q_icmp (c := 3) rfl (by decide) (fun h => absurd (show (sz).toInt ≤ (c).toInt from h) (by omega)) (fun y2 => ?_)
    have y2 : (c).toInt < (sz).toInt := y2
    refine q_ald rfl rfl ?_
    refine q_getr rfl sk_0 sr_0_0 ?_
    refine q_ild rfl rfl ?_
    refine q_callV (as := [.int c]) (rest := []) rfl rfl sk_1 rfl (Nat.le_of_ble_eq_true rfl) ?_
    refine v_byteC (k := k) hc (by omega) ?_
    show dw_ok (pr_X11_isLawn K) 31 0 0 [some (.ref 0), some (.int sz), some (.int c)] [.int (I 2 k)] (n, SH1, I, J)
    refine q_ic rfl ?_
    refine q_icmp (c := 5) rfl (by decide) (fun y3 => ?_) (fun y3 => ?_)
    · have y3 : ((I 2 k)).toInt ≤ (2 : Int) := y3
      refine q_inc rfl rfl rfl ?_
      show dw_ok (pr_X11_isLawn K) 40 0 0 [some (.ref 0), some (.int sz), some (.int (c + 1))] [] (n, SH1, I, J)
      show dw_ok (pr_X11_isLawn K) 40 0 0 [some (.ref 0), some (.int sz), some (.int (c + 1))] [] (n, SH1, I, J)
      obtain ⟨cx, hcx⟩ : ∃ z, z = (c + 1) := ⟨_, rfl⟩
      rw [← hcx]
      have ecx : cx.toInt = ((k + 1 : Nat) : Int) := by rw [hcx]; exact ix_1 hc (by omega)
      refine q_goto rfl ?_
      refine ih (k + 1) cx (by omega) ecx (fun j hj => ?_)
      by_cases e : j = k
      · rw [e]; exact lwP_y (by omega)
      · exact hp j (by omega)
    · have y3 : (2 : Int) < ((I 2 k)).toInt := y3
      refine q_ic rfl ?_
      exact q_zret rfl (Or.inl rfl) (hk 0 (Or.inr ⟨rfl, al_n ⟨k, by omega, lwP_n (by omega)⟩⟩))
set_option maxRecDepth 8000 in
theorem v_isLawnC {n : Nat} {I : Nat → Nat → Int32} {J : Nat → Nat → Int64} {K : dw_K} {R b : Nat → Int32} (hG : GOK R) (h40 : I 4 0 = R 0) (h41 : I 4 1 = R 1) {sz : Int32} (hb : ∀ c, c < Nn R → I 2 c = b c) (hk : ∀ w : Int32, (w = 1 ∧ lwOK R b sz.toInt) ∨ (w = 0 ∧ ¬ lwOK R b sz.toInt) → K (some (.int w)) (n, SH1, I, J)) : t_X11_isLawn [.ref 0, .int sz] (n, SH1, I, J) K := by
  refine q_body (Nat.le_of_ble_eq_true rfl) ?_
  refine q_ild rfl rfl ?_
  refine q_ald rfl rfl ?_
  refine q_getr rfl sk_0 sr_0_1 ?_
  refine q_getr rfl sk_3 sr_3_1 ?_
  refine q_callV (as := []) (rest := [.int sz]) rfl rfl sk_4 rfl (Nat.le_of_ble_eq_true rfl) ?_
  refine v_gsize ?_
  show dw_ok (pr_X11_isLawn K) 11 0 0 [some (.ref 0), some (.int sz), none] [.int (I 4 0 * I 4 1), .int sz] (n, SH1, I, J)
  rw [show I 4 0 = R 0 from h40, show I 4 1 = R 1 from h41]
  obtain ⟨nv, hnv⟩ : ∃ z, z = R 0 * R 1 := ⟨_, rfl⟩
  rw [← hnv]
  have env : nv.toInt = Nn R := by rw [hnv]; exact (gok_N hG).1
  show dw_ok (pr_X11_isLawn K) 11 0 0 [some (.ref 0), some (.int sz), none] [.int nv, .int sz] (n, SH1, I, J)
  refine q_icmp (c := 0) rfl (by decide) (fun y1 => ?_) (fun y1 => ?_)
  · have y1 : (sz).toInt = (nv).toInt := y1
    refine q_ic rfl ?_
    refine q_ist rfl rfl ?_
    show dw_ok (pr_X11_isLawn K) 18 0 0 [some (.ref 0), some (.int sz), some (.int (0 : Int32))] [] (n, SH1, I, J)
    have hs : sz.toInt = Nn R := by omega
    refine isl_loop (b := b) hs (gok_N hG).2 hb (fun w hw => hk w ?_) (Nn R) 0 0 (by omega) rfl (fun j hj => absurd hj (Nat.not_lt_zero j))
    rcases hw with ⟨e, q⟩ | ⟨e, q⟩
    · exact Or.inl ⟨e, hs, q⟩
    · exact Or.inr ⟨e, fun z => by rw [z.2] at q; exact absurd q (by decide)⟩
  · have y1 : (sz).toInt ≠ (nv).toInt := y1
    refine q_ic rfl ?_
    exact q_zret rfl (Or.inl rfl) (hk 0 (Or.inr ⟨rfl, fun q => by have := q.1; omega⟩))
set_option maxRecDepth 8000 in
theorem lks_loop {n : Nat} {I : Nat → Nat → Int32} {J : Nat → Nat → Int64} {K : dw_K} {nv : Int32} {N : Nat} {b W : Nat → Int32} (hs : nv.toInt = N) (hN9 : N ≤ 144) (hn : (I 164 1).toInt = N) (hb : ∀ c, c < N → I 2 c = b c) (hW : ∀ c, c < N → I (164 + 14) c = W c)
    (hk : ∀ w : Int32, (w = 1 ∧ alF (lkP b W) N = true) ∨ (w = 0 ∧ alF (lkP b W) N = false) → K (some (.int w)) (n, SH1, I, J)) :
    ∀ (f k : Nat) (c : Int32) (u v : Option Value), k + f = N → c.toInt = k → (∀ j, j < k → lkP b W j = true) → dw_ok (pr_X11_looksSo K) 13 0 0 [some (.ref 0), some (.ref 164), some (.int nv), some (.int c), u, v] [] (n, SH1, I, J) := by
  have k2 : (2 : Int32).toInt = 2 := rfl
  have k1 : (1 : Int32).toInt = 1 := rfl
  have k0 : (0 : Int32).toInt = 0 := rfl
  intro f
  induction f with
  | zero =>
    intro k c u v hf hc hp
    refine q_ild rfl rfl ?_
    refine q_ild rfl rfl ?_
    refine q_icmp (c := 3) rfl (by decide) (fun y1 => ?_) (fun h => absurd (show (c).toInt < (nv).toInt from h) (by omega))
    have y1 : (nv).toInt ≤ (c).toInt := y1
    refine q_ic rfl ?_
    exact q_zret rfl (Or.inr rfl) (hk 1 (Or.inl ⟨rfl, al_y (fun j hj => hp j (by omega))⟩))
  | succ f ih =>
    intro k c u v hf hc hp
    have eb : (I 2 k).toInt = (b k).toInt := by rw [hb k (by omega)]
    have eW : (I (164 + 14) k).toInt = (W k).toInt := by rw [hW k (by omega)]
    refine q_ild rfl rfl ?_
    refine q_ild rfl rfl ?_
    refine q_icmp (c := 3) rfl (by decide) (fun h => absurd (show (nv).toInt ≤ (c).toInt from h) (by omega)) (fun y2 => ?_)
    have y2 : (c).toInt < (nv).toInt := y2
    refine q_ald rfl rfl ?_
    refine q_getr rfl sk_0 sr_0_0 ?_
    refine q_ild rfl rfl ?_
    refine q_callV (as := [.int c]) (rest := []) rfl rfl sk_1 rfl (Nat.le_of_ble_eq_true rfl) ?_
    refine v_byteC (k := k) hc (by omega) ?_
    show dw_ok (pr_X11_looksSo K) 26 0 0 [some (.ref 0), some (.ref 164), some (.int nv), some (.int c), u, v] [.int (I 2 k)] (n, SH1, I, J)
    refine q_ist rfl rfl ?_
    show dw_ok (pr_X11_looksSo K) 28 0 0 [some (.ref 0), some (.ref 164), some (.int nv), some (.int c), some (.int (I 2 k)), v] [] (n, SH1, I, J)
    refine q_ald rfl rfl ?_
    refine q_ild rfl rfl ?_
    refine q_callV (as := [.int c]) (rest := []) rfl rfl sk_164 rfl (Nat.le_of_ble_eq_true rfl) ?_
    refine v_waterOf (A := 164) (N := N) (k := k) (rt_ok (by decide)) hc hn hN9 (by omega) ?_
    show dw_ok (pr_X11_looksSo K) 33 0 0 [some (.ref 0), some (.ref 164), some (.int nv), some (.int c), some (.int (I 2 k)), v] [.int (I (164 + 14) k)] (n, SH1, I, J)
    refine q_if (c := 5) rfl (by decide) (fun y3 => ?_) (fun y3 => ?_)
    · have y3 : ((I (164 + 14) k)).toInt ≤ 0 := y3
      refine q_ic rfl ?_
      refine q_ist rfl rfl ?_
      show dw_ok (pr_X11_looksSo K) 43 0 0 [some (.ref 0), some (.ref 164), some (.int nv), some (.int c), some (.int (I 2 k)), some (.int (0 : Int32))] [] (n, SH1, I, J)
      refine q_ild rfl rfl ?_
      refine q_ic rfl ?_
      refine q_icmp (c := 0) rfl (by decide) (fun y4 => ?_) (fun y4 => ?_)
      · have y4 : ((I 2 k)).toInt = (2 : Int) := y4
        refine q_inc rfl rfl rfl ?_
        show dw_ok (pr_X11_looksSo K) 61 0 0 [some (.ref 0), some (.ref 164), some (.int nv), some (.int (c + 1)), some (.int (I 2 k)), some (.int (0 : Int32))] [] (n, SH1, I, J)
        show dw_ok (pr_X11_looksSo K) 61 0 0 [some (.ref 0), some (.ref 164), some (.int nv), some (.int (c + 1)), some (.int (I 2 k)), some (.int (0 : Int32))] [] (n, SH1, I, J)
        obtain ⟨cx, hcx⟩ : ∃ z, z = (c + 1) := ⟨_, rfl⟩
        rw [← hcx]
        have ecx : cx.toInt = ((k + 1 : Nat) : Int) := by rw [hcx]; exact ix_1 hc (by omega)
        refine q_goto rfl ?_
        have lw := (lk_w (W := W) (c := k)).2 (by omega)
        refine ih (k + 1) cx _ _ (by omega) ecx (fun j hj => ?_)
        by_cases e : j = k
        · rw [e]; exact lkP_y (by rw [lw]; omega)
        · exact hp j (by omega)
      · have y4 : ((I 2 k)).toInt ≠ (2 : Int) := y4
        refine q_ild rfl rfl ?_
        refine q_ild rfl rfl ?_
        refine q_icmp (c := 0) rfl (by decide) (fun y5 => ?_) (fun y5 => ?_)
        · have y5 : ((I 2 k)).toInt = (0 : Int) := y5
          refine q_inc rfl rfl rfl ?_
          show dw_ok (pr_X11_looksSo K) 61 0 0 [some (.ref 0), some (.ref 164), some (.int nv), some (.int (c + 1)), some (.int (I 2 k)), some (.int (0 : Int32))] [] (n, SH1, I, J)
          show dw_ok (pr_X11_looksSo K) 61 0 0 [some (.ref 0), some (.ref 164), some (.int nv), some (.int (c + 1)), some (.int (I 2 k)), some (.int (0 : Int32))] [] (n, SH1, I, J)
          obtain ⟨cx, hcx⟩ : ∃ z, z = (c + 1) := ⟨_, rfl⟩
          rw [← hcx]
          have ecx : cx.toInt = ((k + 1 : Nat) : Int) := by rw [hcx]; exact ix_1 hc (by omega)
          refine q_goto rfl ?_
          have lw := (lk_w (W := W) (c := k)).2 (by omega)
          refine ih (k + 1) cx _ _ (by omega) ecx (fun j hj => ?_)
          by_cases e : j = k
          · rw [e]; exact lkP_y (by rw [lw]; omega)
          · exact hp j (by omega)
        · have y5 : ((I 2 k)).toInt ≠ (0 : Int) := y5
          refine q_ic rfl ?_
          have lw := (lk_w (W := W) (c := k)).2 (by omega)
          exact q_zret rfl (Or.inl rfl) (hk 0 (Or.inr ⟨rfl, al_n ⟨k, by omega, lkP_n (by rw [lw]; omega)⟩⟩))
    · have y3 : 0 < ((I (164 + 14) k)).toInt := y3
      refine q_ic rfl ?_
      refine q_goto rfl ?_
      refine q_ist rfl rfl ?_
      show dw_ok (pr_X11_looksSo K) 43 0 0 [some (.ref 0), some (.ref 164), some (.int nv), some (.int c), some (.int (I 2 k)), some (.int (1 : Int32))] [] (n, SH1, I, J)
      refine q_ild rfl rfl ?_
      refine q_ic rfl ?_
      refine q_icmp (c := 0) rfl (by decide) (fun y6 => ?_) (fun y6 => ?_)
      · have y6 : ((I 2 k)).toInt = (2 : Int) := y6
        refine q_inc rfl rfl rfl ?_
        show dw_ok (pr_X11_looksSo K) 61 0 0 [some (.ref 0), some (.ref 164), some (.int nv), some (.int (c + 1)), some (.int (I 2 k)), some (.int (1 : Int32))] [] (n, SH1, I, J)
        show dw_ok (pr_X11_looksSo K) 61 0 0 [some (.ref 0), some (.ref 164), some (.int nv), some (.int (c + 1)), some (.int (I 2 k)), some (.int (1 : Int32))] [] (n, SH1, I, J)
        obtain ⟨cx, hcx⟩ : ∃ z, z = (c + 1) := ⟨_, rfl⟩
        rw [← hcx]
        have ecx : cx.toInt = ((k + 1 : Nat) : Int) := by rw [hcx]; exact ix_1 hc (by omega)
        refine q_goto rfl ?_
        have lw := (lk_w (W := W) (c := k)).1 (by omega)
        refine ih (k + 1) cx _ _ (by omega) ecx (fun j hj => ?_)
        by_cases e : j = k
        · rw [e]; exact lkP_y (by rw [lw]; omega)
        · exact hp j (by omega)
      · have y6 : ((I 2 k)).toInt ≠ (2 : Int) := y6
        refine q_ild rfl rfl ?_
        refine q_ild rfl rfl ?_
        refine q_icmp (c := 0) rfl (by decide) (fun y7 => ?_) (fun y7 => ?_)
        · have y7 : ((I 2 k)).toInt = (1 : Int) := y7
          refine q_inc rfl rfl rfl ?_
          show dw_ok (pr_X11_looksSo K) 61 0 0 [some (.ref 0), some (.ref 164), some (.int nv), some (.int (c + 1)), some (.int (I 2 k)), some (.int (1 : Int32))] [] (n, SH1, I, J)
          show dw_ok (pr_X11_looksSo K) 61 0 0 [some (.ref 0), some (.ref 164), some (.int nv), some (.int (c + 1)), some (.int (I 2 k)), some (.int (1 : Int32))] [] (n, SH1, I, J)
          obtain ⟨cx, hcx⟩ : ∃ z, z = (c + 1) := ⟨_, rfl⟩
          rw [← hcx]
          have ecx : cx.toInt = ((k + 1 : Nat) : Int) := by rw [hcx]; exact ix_1 hc (by omega)
          refine q_goto rfl ?_
          have lw := (lk_w (W := W) (c := k)).1 (by omega)
          refine ih (k + 1) cx _ _ (by omega) ecx (fun j hj => ?_)
          by_cases e : j = k
          · rw [e]; exact lkP_y (by rw [lw]; omega)
          · exact hp j (by omega)
        · have y7 : ((I 2 k)).toInt ≠ (1 : Int) := y7
          refine q_ic rfl ?_
          have lw := (lk_w (W := W) (c := k)).1 (by omega)
          exact q_zret rfl (Or.inl rfl) (hk 0 (Or.inr ⟨rfl, al_n ⟨k, by omega, lkP_n (by rw [lw]; omega)⟩⟩))
set_option maxRecDepth 8000 in
theorem v_looksSo {n : Nat} {I : Nat → Nat → Int32} {J : Nat → Nat → Int64} {K : dw_K} {R b W : Nat → Int32} (hG : GOK R) (h40 : I 4 0 = R 0) (h41 : I 4 1 = R 1) (hn : (I 164 1).toInt = Nn R) (hb : ∀ c, c < Nn R → I 2 c = b c) (hW : ∀ c, c < Nn R → I (164 + 14) c = W c) (hk : ∀ w : Int32, (w = 1 ∧ alF (lkP b W) (Nn R) = true) ∨ (w = 0 ∧ alF (lkP b W) (Nn R) = false) → K (some (.int w)) (n, SH1, I, J)) : t_X11_looksSo [.ref 0, .ref 164] (n, SH1, I, J) K := by
  refine q_body (Nat.le_of_ble_eq_true rfl) ?_
  refine q_ald rfl rfl ?_
  refine q_getr rfl sk_0 sr_0_1 ?_
  refine q_getr rfl sk_3 sr_3_1 ?_
  refine q_callV (as := []) (rest := []) rfl rfl sk_4 rfl (Nat.le_of_ble_eq_true rfl) ?_
  refine v_gsize ?_
  show dw_ok (pr_X11_looksSo K) 10 0 0 [some (.ref 0), some (.ref 164), none, none, none, none] [.int (I 4 0 * I 4 1)] (n, SH1, I, J)
  rw [show I 4 0 = R 0 from h40, show I 4 1 = R 1 from h41]
  obtain ⟨nv, hnv⟩ : ∃ z, z = R 0 * R 1 := ⟨_, rfl⟩
  rw [← hnv]
  have env : nv.toInt = Nn R := by rw [hnv]; exact (gok_N hG).1
  show dw_ok (pr_X11_looksSo K) 10 0 0 [some (.ref 0), some (.ref 164), none, none, none, none] [.int nv] (n, SH1, I, J)
  refine q_ist rfl rfl ?_
  show dw_ok (pr_X11_looksSo K) 11 0 0 [some (.ref 0), some (.ref 164), some (.int nv), none, none, none] [] (n, SH1, I, J)
  refine q_ic rfl ?_
  refine q_ist rfl rfl ?_
  show dw_ok (pr_X11_looksSo K) 13 0 0 [some (.ref 0), some (.ref 164), some (.int nv), some (.int (0 : Int32)), none, none] [] (n, SH1, I, J)
  exact lks_loop env (gok_N hG).2 hn hb hW hk (Nn R) 0 0 _ _ (by omega) rfl (fun j hj => absurd hj (Nat.not_lt_zero j))
set_option maxRecDepth 8000 in
theorem mtl_loop {n : Nat} {I : Nat → Nat → Int32} {J : Nat → Nat → Int64} {K : dw_K} {N : Nat} {b : Nat → Int32} (hs : (I 404 3).toInt = N) (hN9 : N ≤ 144) (hb : ∀ c, c < N → I 405 c &&& 255 = b c)
    (hk : ∀ w : Int32, (w = 1 ∧ alF (lwP b) N = true) ∨ (w = 0 ∧ alF (lwP b) N = false) → K (some (.int w)) (n, SH1, I, J)) :
    ∀ (f k : Nat) (c : Int32), k + f = N → c.toInt = k → (∀ j, j < k → lwP b j = true) → dw_ok (pr_X12_takesLawn K) 22 0 0 [some (.ref 404), some (.int c)] [] (n, SH1, I, J) := by
  have k2 : (2 : Int32).toInt = 2 := rfl
  intro f
  induction f with
  | zero =>
    intro k c hf hc hp
    refine q_ild rfl rfl ?_
    refine q_ald rfl rfl ?_
    refine q_geti rfl sk_404 ?_
    refine q_icmp (c := 3) rfl (by decide) (fun y1 => ?_) (fun h => absurd (show (c).toInt < ((I 404 3)).toInt from h) (by omega))
    have y1 : ((I 404 3)).toInt ≤ (c).toInt := y1
    refine q_ic rfl ?_
    exact q_zret rfl (Or.inr rfl) (hk 1 (Or.inl ⟨rfl, al_y (fun j hj => hp j (by omega))⟩))
  | succ f ih =>
    intro k c hf hc hp
    refine q_ild rfl rfl ?_
    refine q_ald rfl rfl ?_
    refine q_geti rfl sk_404 ?_
    refine q_icmp (c := 3) rfl (by decide) (fun h => absurd (show ((I 404 3)).toInt ≤ (c).toInt from h) (by omega)) (fun y2 => ?_)
    have y2 : (c).toInt < ((I 404 3)).toInt := y2
    refine q_ald rfl rfl ?_
    refine q_ild rfl rfl ?_
    refine q_callV (as := [.int c]) (rest := []) rfl rfl sk_404 rfl (Nat.le_of_ble_eq_true rfl) ?_
    refine v_octM (k := k) hc (by omega) ?_
    show dw_ok (pr_X12_takesLawn K) 35 0 0 [some (.ref 404), some (.int c)] [.int (I 405 k &&& 255)] (n, SH1, I, J)
    rw [hb k (by omega)]
    show dw_ok (pr_X12_takesLawn K) 35 0 0 [some (.ref 404), some (.int c)] [.int (b k)] (n, SH1, I, J)
    refine q_ic rfl ?_
    refine q_icmp (c := 5) rfl (by decide) (fun y3 => ?_) (fun y3 => ?_)
    · have y3 : ((b k)).toInt ≤ (2 : Int) := y3
      refine q_inc rfl rfl rfl ?_
      show dw_ok (pr_X12_takesLawn K) 44 0 0 [some (.ref 404), some (.int (c + 1))] [] (n, SH1, I, J)
      show dw_ok (pr_X12_takesLawn K) 44 0 0 [some (.ref 404), some (.int (c + 1))] [] (n, SH1, I, J)
      obtain ⟨cx, hcx⟩ : ∃ z, z = (c + 1) := ⟨_, rfl⟩
      rw [← hcx]
      have ecx : cx.toInt = ((k + 1 : Nat) : Int) := by rw [hcx]; exact ix_1 hc (by omega)
      refine q_goto rfl ?_
      refine ih (k + 1) cx (by omega) ecx (fun j hj => ?_)
      by_cases e : j = k
      · rw [e]; exact lwP_y (by omega)
      · exact hp j (by omega)
    · have y3 : (2 : Int) < ((b k)).toInt := y3
      refine q_ic rfl ?_
      exact q_zret rfl (Or.inl rfl) (hk 0 (Or.inr ⟨rfl, al_n ⟨k, by omega, lwP_n (by omega)⟩⟩))
set_option maxRecDepth 8000 in
theorem v_takesLawn {n : Nat} {I : Nat → Nat → Int32} {J : Nat → Nat → Int64} {K : dw_K} {R b : Nat → Int32} (hR : I 406 = R) (hG : GOK R) (hb : ∀ c, c < Nn R → I 405 c &&& 255 = b c) (hk : ∀ (w : Int32) (I' : Nat → Nat → Int32), (∀ a, a ≠ 404 → I' a = I a) → (w = 1 ∧ lwOK R b (I 404 2).toInt) ∨ (w = 0 ∧ ¬ lwOK R b (I 404 2).toInt) → K (some (.int w)) (n, SH1, I', J)) : t_X12_takesLawn [.ref 404] (n, SH1, I, J) K := by
  refine q_body (Nat.le_of_ble_eq_true rfl) ?_
  refine q_ald rfl rfl ?_
  refine q_ic rfl ?_
  refine q_callV (as := [.int (940 : Int32)]) (rest := []) rfl rfl sk_404 rfl (Nat.le_of_ble_eq_true rfl) ?_
  refine v_taken ?_
  show dw_ok (pr_X12_takesLawn K) 7 0 0 [some (.ref 404), none] [] (n, SH1, (dw_up (dw_up (dw_up (dw_up I 404 3 (I 404 2)) 404 2 0) 404 4 0) 404 5 (940 : Int32)), J)
  obtain ⟨I1, hI1⟩ : ∃ X, X = (dw_up (dw_up (dw_up (dw_up I 404 3 (I 404 2)) 404 2 0) 404 4 0) 404 5 (940 : Int32)) := ⟨_, rfl⟩
  rw [← hI1]
  have r1 : ∀ a, a ≠ 404 → I1 a = I a := fun a p => by rw [hI1]; exact (up_row p).trans ((up_row p).trans ((up_row p).trans (up_row p)))
  have s3 : I1 404 3 = I 404 2 := by rw [hI1]; exact (up_fld (by decide)).trans ((up_fld (by decide)).trans ((up_fld (by decide)).trans up_same))
  have e1 : I1 406 = R := (r1 406 (by decide)).trans hR
  have hN := (gok_N hG).1
  show dw_ok (pr_X12_takesLawn K) 7 0 0 [some (.ref 404), none] [] (n, SH1, I1, J)
  refine q_ald rfl rfl ?_
  refine q_geti rfl sk_404 ?_
  refine q_ald rfl rfl ?_
  refine q_callV (as := []) (rest := [.int (I1 404 3)]) rfl rfl sk_404 rfl (Nat.le_of_ble_eq_true rfl) ?_
  refine v_mcells ?_
  show dw_ok (pr_X12_takesLawn K) 15 0 0 [some (.ref 404), none] [.int (I1 406 0 * I1 406 1), .int (I1 404 3)] (n, SH1, I1, J)
  rw [show I1 406 = R from e1]
  obtain ⟨nv1, hnv1⟩ : ∃ z, z = R 0 * R 1 := ⟨_, rfl⟩
  rw [← hnv1]
  have env1 : nv1.toInt = Nn R := by rw [hnv1]; exact hN
  show dw_ok (pr_X12_takesLawn K) 15 0 0 [some (.ref 404), none] [.int nv1, .int (I1 404 3)] (n, SH1, I1, J)
  refine q_icmp (c := 0) rfl (by decide) (fun y2 => ?_) (fun y2 => ?_)
  · have y2 : ((I1 404 3)).toInt = (nv1).toInt := y2
    refine q_ic rfl ?_
    refine q_ist rfl rfl ?_
    show dw_ok (pr_X12_takesLawn K) 22 0 0 [some (.ref 404), some (.int (0 : Int32))] [] (n, SH1, I1, J)
    have s4 := congrArg Int32.toInt s3
    have hs : (I1 404 3).toInt = Nn R := by omega
    refine mtl_loop (b := b) hs (gok_N hG).2 (fun c hc => by rw [r1 405 (by decide)]; exact hb c hc) (fun w hw => hk w I1 r1 ?_) (Nn R) 0 0 (by omega) rfl (fun j hj => absurd hj (Nat.not_lt_zero j))
    rcases hw with ⟨e, q⟩ | ⟨e, q⟩
    · exact Or.inl ⟨e, by rw [← s4]; exact hs, q⟩
    · exact Or.inr ⟨e, fun z => by rw [z.2] at q; exact absurd q (by decide)⟩
  · have y2 : ((I1 404 3)).toInt ≠ (nv1).toInt := y2
    refine q_ic rfl ?_
    exact q_zret rfl (Or.inl rfl) (hk 0 I1 r1 (Or.inr ⟨rfl, fun q => by have := q.1; have := congrArg Int32.toInt s3; omega⟩))
set_option maxRecDepth 8000 in
theorem alw2 {b : Nat → Int32} : ∀ {N k : Nat}, alF (lwP b) N = true → k < N → (b k).toInt ≤ 2
  | 0, _, _, hk => absurd hk (Nat.not_lt_zero _)
  | N + 1, k, h, hk => by
    have h : (alF (lwP b) N && lwP b N) = true := h
    rw [Bool.and_eq_true] at h
    by_cases e : k = N
    · rw [e]; exact of_decide_eq_true h.2
    · exact alw2 h.1 (by omega)
set_option maxRecDepth 8000 in
theorem mil_loop {n : Nat} {I : Nat → Nat → Int32} {J : Nat → Nat → Int64} {K : dw_K} {R b W : Nat → Int32} (e1 : I 406 = R) (hG : GOK R) (hb : ∀ c, c < Nn R → I 405 c &&& 255 = b c) (hW : ∀ c, c < Nn R → I 417 c = W c) (h2 : alF (lwP b) (Nn R) = true)
    (hk : ∀ w : Int32, (w = 1 ∧ alF (lkP b W) (Nn R) = true) ∨ (w = 0 ∧ alF (lkP b W) (Nn R) = false) → K (some (.int w)) (n, SH1, I, J)) :
    ∀ (f k : Nat) (c : Int32), k + f = Nn R → c.toInt = k → (∀ j, j < k → lkP b W j = true) → dw_ok (pr_X12_isLawn K) 2 0 0 [some (.ref 404), some (.int c)] [] (n, SH1, I, J) := by
  obtain ⟨hN, hN9⟩ := gok_N hG
  have k2 : (2 : Int32).toInt = 2 := rfl
  have k1 : (1 : Int32).toInt = 1 := rfl
  have k0 : (0 : Int32).toInt = 0 := rfl
  intro f
  induction f with
  | zero =>
    intro k c hf hc hp
    refine q_ild rfl rfl ?_
    refine q_ald rfl rfl ?_
    refine q_callV (as := []) (rest := [.int c]) rfl rfl sk_404 rfl (Nat.le_of_ble_eq_true rfl) ?_
    refine v_mcells ?_
    show dw_ok (pr_X12_isLawn K) 7 0 0 [some (.ref 404), some (.int c)] [.int (I 406 0 * I 406 1), .int c] (n, SH1, I, J)
    rw [show I 406 = R from e1]
    obtain ⟨nv1, hnv1⟩ : ∃ z, z = R 0 * R 1 := ⟨_, rfl⟩
    rw [← hnv1]
    have env1 : nv1.toInt = Nn R := by rw [hnv1]; exact hN
    show dw_ok (pr_X12_isLawn K) 7 0 0 [some (.ref 404), some (.int c)] [.int nv1, .int c] (n, SH1, I, J)
    refine q_icmp (c := 3) rfl (by decide) (fun y2 => ?_) (fun h => absurd (show (c).toInt < (nv1).toInt from h) (by omega))
    have y2 : (nv1).toInt ≤ (c).toInt := y2
    refine q_ic rfl ?_
    exact q_zret rfl (Or.inr rfl) (hk 1 (Or.inl ⟨rfl, al_y (fun j hj => hp j (by omega))⟩))
  | succ f ih =>
    intro k c hf hc hp
    have hcn : c.toInt.toNat = k := by omega
    have b2 : (b k).toInt ≤ 2 := alw2 h2 (by omega)
    have eW : (I 417 k).toInt = (W k).toInt := by rw [hW k (by omega)]
    refine q_ild rfl rfl ?_
    refine q_ald rfl rfl ?_
    refine q_callV (as := []) (rest := [.int c]) rfl rfl sk_404 rfl (Nat.le_of_ble_eq_true rfl) ?_
    refine v_mcells ?_
    show dw_ok (pr_X12_isLawn K) 7 0 0 [some (.ref 404), some (.int c)] [.int (I 406 0 * I 406 1), .int c] (n, SH1, I, J)
    rw [show I 406 = R from e1]
    obtain ⟨nv3, hnv3⟩ : ∃ z, z = R 0 * R 1 := ⟨_, rfl⟩
    rw [← hnv3]
    have env3 : nv3.toInt = Nn R := by rw [hnv3]; exact hN
    show dw_ok (pr_X12_isLawn K) 7 0 0 [some (.ref 404), some (.int c)] [.int nv3, .int c] (n, SH1, I, J)
    refine q_icmp (c := 3) rfl (by decide) (fun h => absurd (show (nv3).toInt ≤ (c).toInt from h) (by omega)) (fun y4 => ?_)
    have y4 : (c).toInt < (nv3).toInt := y4
    refine q_ald rfl rfl ?_
    refine q_ild rfl rfl ?_
    refine q_callV (as := [.int c]) (rest := []) rfl rfl sk_404 rfl (Nat.le_of_ble_eq_true rfl) ?_
    refine v_octM (k := k) hc (by omega) ?_
    show dw_ok (pr_X12_isLawn K) 15 0 0 [some (.ref 404), some (.int c)] [.int (I 405 k &&& 255)] (n, SH1, I, J)
    rw [hb k (by omega)]
    show dw_ok (pr_X12_isLawn K) 15 0 0 [some (.ref 404), some (.int c)] [.int (b k)] (n, SH1, I, J)
    refine q_ic rfl ?_
    refine q_icmp (c := 3) rfl (by decide) (fun y5 => ?_) (fun y5 => ?_)
    · have y5 : (2 : Int) ≤ ((b k)).toInt := y5
      refine q_inc rfl rfl rfl ?_
      show dw_ok (pr_X12_isLawn K) 46 0 0 [some (.ref 404), some (.int (c + 1))] [] (n, SH1, I, J)
      show dw_ok (pr_X12_isLawn K) 46 0 0 [some (.ref 404), some (.int (c + 1))] [] (n, SH1, I, J)
      obtain ⟨cx, hcx⟩ : ∃ z, z = (c + 1) := ⟨_, rfl⟩
      rw [← hcx]
      have ecx : cx.toInt = ((k + 1 : Nat) : Int) := by rw [hcx]; exact ix_1 hc (by omega)
      refine q_goto rfl ?_
      refine ih (k + 1) cx (by omega) ecx (fun j hj => ?_)
      by_cases e : j = k
      · rw [e]; exact lkP_y (Or.inl (by omega))
      · exact hp j (by omega)
    · have y5 : ((b k)).toInt < (2 : Int) := y5
      refine q_ald rfl rfl ?_
      refine q_ild rfl rfl ?_
      refine q_callV (as := [.int c]) (rest := []) rfl rfl sk_404 rfl (Nat.le_of_ble_eq_true rfl) ?_
      refine v_octM (k := k) hc (by omega) ?_
      show dw_ok (pr_X12_isLawn K) 24 0 0 [some (.ref 404), some (.int c)] [.int (I 405 k &&& 255)] (n, SH1, I, J)
      rw [hb k (by omega)]
      show dw_ok (pr_X12_isLawn K) 24 0 0 [some (.ref 404), some (.int c)] [.int (b k)] (n, SH1, I, J)
      refine q_ald rfl rfl ?_
      refine q_getr rfl sk_404 sr_404_29 ?_
      refine q_ild rfl rfl ?_
      refine q_xald rfl (Or.inl rfl) sk_417 sn_417 (by omega) (by omega) ?_
      show dw_ok (pr_X12_isLawn K) 30 0 0 [some (.ref 404), some (.int c)] [.int (I 417 (c).toInt.toNat), .int (b k)] (n, SH1, I, J)
      rw [hcn]
      refine q_if (c := 5) rfl (by decide) (fun y6 => ?_) (fun y6 => ?_)
      · have y6 : ((I 417 k)).toInt ≤ 0 := y6
        refine q_ic rfl ?_
        refine q_icmp (c := 0) rfl (by decide) (fun y7 => ?_) (fun y7 => ?_)
        · have y7 : ((b k)).toInt = (0 : Int) := y7
          refine q_inc rfl rfl rfl ?_
          show dw_ok (pr_X12_isLawn K) 46 0 0 [some (.ref 404), some (.int (c + 1))] [] (n, SH1, I, J)
          show dw_ok (pr_X12_isLawn K) 46 0 0 [some (.ref 404), some (.int (c + 1))] [] (n, SH1, I, J)
          obtain ⟨cx, hcx⟩ : ∃ z, z = (c + 1) := ⟨_, rfl⟩
          rw [← hcx]
          have ecx : cx.toInt = ((k + 1 : Nat) : Int) := by rw [hcx]; exact ix_1 hc (by omega)
          refine q_goto rfl ?_
          have lw := (lk_w (W := W) (c := k)).2 (by omega)
          refine ih (k + 1) cx (by omega) ecx (fun j hj => ?_)
          by_cases e : j = k
          · rw [e]; exact lkP_y (by rw [lw]; omega)
          · exact hp j (by omega)
        · have y7 : ((b k)).toInt ≠ (0 : Int) := y7
          refine q_ic rfl ?_
          have lw := (lk_w (W := W) (c := k)).2 (by omega)
          exact q_zret rfl (Or.inl rfl) (hk 0 (Or.inr ⟨rfl, al_n ⟨k, by omega, lkP_n (by rw [lw]; omega)⟩⟩))
      · have y6 : 0 < ((I 417 k)).toInt := y6
        refine q_ic rfl ?_
        refine q_goto rfl ?_
        refine q_icmp (c := 0) rfl (by decide) (fun y8 => ?_) (fun y8 => ?_)
        · have y8 : ((b k)).toInt = (1 : Int) := y8
          refine q_inc rfl rfl rfl ?_
          show dw_ok (pr_X12_isLawn K) 46 0 0 [some (.ref 404), some (.int (c + 1))] [] (n, SH1, I, J)
          show dw_ok (pr_X12_isLawn K) 46 0 0 [some (.ref 404), some (.int (c + 1))] [] (n, SH1, I, J)
          obtain ⟨cx, hcx⟩ : ∃ z, z = (c + 1) := ⟨_, rfl⟩
          rw [← hcx]
          have ecx : cx.toInt = ((k + 1 : Nat) : Int) := by rw [hcx]; exact ix_1 hc (by omega)
          refine q_goto rfl ?_
          have lw := (lk_w (W := W) (c := k)).1 (by omega)
          refine ih (k + 1) cx (by omega) ecx (fun j hj => ?_)
          by_cases e : j = k
          · rw [e]; exact lkP_y (by rw [lw]; omega)
          · exact hp j (by omega)
        · have y8 : ((b k)).toInt ≠ (1 : Int) := y8
          refine q_ic rfl ?_
          have lw := (lk_w (W := W) (c := k)).1 (by omega)
          exact q_zret rfl (Or.inl rfl) (hk 0 (Or.inr ⟨rfl, al_n ⟨k, by omega, lkP_n (by rw [lw]; omega)⟩⟩))
set_option maxRecDepth 8000 in
theorem v_misLawn {n : Nat} {I : Nat → Nat → Int32} {J : Nat → Nat → Int64} {K : dw_K} {R b W : Nat → Int32} (e1 : I 406 = R) (hG : GOK R) (hb : ∀ c, c < Nn R → I 405 c &&& 255 = b c) (hW : ∀ c, c < Nn R → I 417 c = W c) (h2 : alF (lwP b) (Nn R) = true)
    (hk : ∀ w : Int32, (w = 1 ∧ alF (lkP b W) (Nn R) = true) ∨ (w = 0 ∧ alF (lkP b W) (Nn R) = false) → K (some (.int w)) (n, SH1, I, J)) : t_X12_isLawn [.ref 404] (n, SH1, I, J) K := by
  refine q_body (Nat.le_of_ble_eq_true rfl) ?_
  refine q_ic rfl ?_
  refine q_ist rfl rfl ?_
  exact mil_loop e1 hG hb hW h2 hk (Nn R) 0 0 (by omega) rfl (fun j hj => absurd hj (Nat.not_lt_zero j))
/-- which SLOTS look so at six: the first k -/
def lsB (R b : Nat → Int32) (s : Nat) : Prop := 0 ≤ (R (221 + 97 * s)).toInt ∧ alF (lkP b (runW R (nS R s) 0 72).2.1) (Nn R) = true
noncomputable def lsW (R b : Nat → Int32) : Nat → Int32
  | 0 => 0
  | k + 1 => @ite Int32 (lsB R b k) (Classical.propDecidable _) (lsW R b k ||| (1 : Int32) <<< (Int32.ofNat k &&& 31)) (lsW R b k)
set_option maxRecDepth 8000 in
theorem ls_y {R b : Nat → Int32} {k : Nat} (h : lsB R b k) : lsW R b (k + 1) = lsW R b k ||| (1 : Int32) <<< (Int32.ofNat k &&& 31) := by
  show @ite Int32 (lsB R b k) (Classical.propDecidable _) _ _ = _
  rw [if_pos h]
set_option maxRecDepth 8000 in
theorem ls_n {R b : Nat → Int32} {k : Nat} (h : ¬ lsB R b k) : lsW R b (k + 1) = lsW R b k := by
  show @ite Int32 (lsB R b k) (Classical.propDecidable _) _ _ = _
  rw [if_neg h]
noncomputable def aLawn (R b : Nat → Int32) (sz : Int) : Int := @ite Int (lwOK R b sz) (Classical.propDecidable _) (lsW R b 6).toInt (-1)
set_option maxRecDepth 8000 in
theorem lawn_y {R b : Nat → Int32} {sz : Int} (h : lwOK R b sz) : aLawn R b sz = (lsW R b 6).toInt := by
  unfold aLawn
  rw [if_pos h]
set_option maxRecDepth 8000 in
theorem lawn_n {R b : Nat → Int32} {sz : Int} (h : ¬ lwOK R b sz) : aLawn R b sz = -1 := by
  unfold aLawn
  rw [if_neg h]
set_option maxRecDepth 8000 in
theorem nok_0 {R : Nat → Int32} {s : Nat} (h : NOK (nS R s)) : 0 ≤ (R (221 + 97 * s)).toInt := by
  have q2 : (R (221 + 97 * s + 0)).toInt = _ := h.1.1
  rw [Nat.add_zero] at q2
  omega
set_option maxRecDepth 8000 in
theorem lawn_loop {n : Nat} {J : Nat → Nat → Int64} {K : dw_K} {R b : Nat → Int32} {sz : Int32} (hG : GOK R) (hk : ∀ I' : Nat → Nat → Int32, K (some (.int (lsW R b 6))) (n, SH1, I', J)) :
    ∀ (f k : Nat) (v t : Int32) (I : Nat → Nat → Int32), k + f = 6 → t.toInt = k → v = lsW R b k → SREL I 3 R → (∀ c, c < Nn R → I 2 c = b c) → dw_ok (pr_X11_lawn K) 30 0 0 [some (.ref 0), some (.int sz), some (.int v), some (.int t)] [] (n, SH1, I, J) := by
  have cm1 : (-1 : Int32).toInt = -1 := rfl
  have k0 : (0 : Int32).toInt = 0 := rfl
  have k1 : (1 : Int32).toInt = 1 := rfl
  have k71 : (71 : Int32).toInt = 71 := rfl
  intro f
  induction f with
  | zero =>
    intro k v t I hf ht hv hR hb
    obtain rfl : k = 6 := by omega
    refine q_ild rfl rfl ?_
    refine q_ic rfl ?_
    refine q_icmp (c := 3) rfl (by decide) (fun y1 => ?_) (fun h => absurd (show (t).toInt < (6 : Int) from h) (by omega))
    have y1 : (6 : Int) ≤ (t).toInt := y1
    refine q_ild rfl rfl ?_
    rw [hv]
    exact q_iret rfl (hk I)
  | succ f ih =>
    intro k v t I hf ht hv hR hb
    have eo := of_nat ht (by omega)
    refine q_ild rfl rfl ?_
    refine q_ic rfl ?_
    refine q_icmp (c := 3) rfl (by decide) (fun h => absurd (show (6 : Int) ≤ (t).toInt from h) (by omega)) (fun y2 => ?_)
    have y2 : (t).toInt < (6 : Int) := y2
    refine q_ald rfl rfl ?_
    refine q_ild rfl rfl ?_
    refine q_ic rfl ?_
    refine q_callV (as := [.int t, .int (71 : Int32)]) (rest := []) rfl rfl sk_0 rfl (Nat.le_of_ble_eq_true rfl) ?_
    refine v_behind hR (fun s k2 hs hxs htk hk9 hS I1 q0 q1 q2 => ?_) (fun hno I1 eI1 => ?_)
    · have e2 : k2 = 71 := by omega
      have es : s = k := by omega
      rw [e2, es] at q2
      rw [es] at hS
      have th := nok_0 hS
      have hR2 : SREL I1 3 R := srel_fr (S := 3) (fun a p q => q0 a (by omega)) (fun _ _ => rfl) hR
      have hb2 : ∀ c, c < Nn R → I1 2 c = b c := fun c hc => by rw [q0 2 (by decide)]; exact hb c hc
      show dw_ok (pr_X11_lawn K) 43 0 0 [some (.ref 0), some (.int sz), some (.int v), some (.int t)] [.int (1 : Int32)] (n, SH1, I1, J)
      refine q_if (c := 0) rfl (by decide) (fun h => absurd (show (1 : Int) = 0 from h) (by decide)) (fun y3 => ?_)
      have y3 : (1 : Int) ≠ 0 := y3
      refine q_ald rfl rfl ?_
      refine q_ald rfl rfl ?_
      refine q_getr rfl sk_0 sr_0_6 ?_
      refine q_callV (as := [.ref 164]) (rest := []) rfl rfl sk_0 rfl (Nat.le_of_ble_eq_true rfl) ?_
      refine v_looksSo (R := R) (b := b) (W := (runW R (nS R k) 0 72).2.1) hG (by rw [q0 4 (by decide)]; exact (rg_3 hR).1 0 (by decide)) (by rw [q0 4 (by decide)]; exact (rg_3 hR).1 1 (by decide)) q1 hb2 (fun c hc => q2.2.1 c hc) (fun w_ hw => ?_)
      rcases hw with ⟨rfl, hw⟩ | ⟨rfl, hw⟩
      · show dw_ok (pr_X11_lawn K) 54 0 0 [some (.ref 0), some (.int sz), some (.int v), some (.int t)] [.int (1 : Int32)] (n, SH1, I1, J)
        refine q_if (c := 0) rfl (by decide) (fun h => absurd (show (1 : Int) = 0 from h) (by decide)) (fun y4 => ?_)
        have y4 : (1 : Int) ≠ 0 := y4
        refine q_ild rfl rfl ?_
        refine q_ic rfl ?_
        refine q_ild rfl rfl ?_
        refine q_ishl rfl ?_
        refine q_ior rfl ?_
        refine q_ist rfl rfl ?_
        show dw_ok (pr_X11_lawn K) 63 0 0 [some (.ref 0), some (.int sz), some (.int (v ||| ((1 : Int32) <<< (t &&& 31)))), some (.int t)] [] (n, SH1, I1, J)
        refine q_inc rfl rfl rfl ?_
        show dw_ok (pr_X11_lawn K) 66 0 0 [some (.ref 0), some (.int sz), some (.int (v ||| ((1 : Int32) <<< (t &&& 31)))), some (.int (t + 1))] [] (n, SH1, I1, J)
        show dw_ok (pr_X11_lawn K) 66 0 0 [some (.ref 0), some (.int sz), some (.int (v ||| ((1 : Int32) <<< (t &&& 31)))), some (.int (t + 1))] [] (n, SH1, I1, J)
        obtain ⟨tx, htx⟩ : ∃ z, z = (t + 1) := ⟨_, rfl⟩
        rw [← htx]
        have etx : tx.toInt = ((k + 1 : Nat) : Int) := by rw [htx]; exact ix_1 ht (by omega)
        refine q_goto rfl ?_
        exact ih (k + 1) (v ||| ((1 : Int32) <<< (t &&& 31))) tx I1 (by omega) etx (by rw [ls_y ⟨th, hw⟩, hv, eo]) hR2 hb2
      · show dw_ok (pr_X11_lawn K) 54 0 0 [some (.ref 0), some (.int sz), some (.int v), some (.int t)] [.int (0 : Int32)] (n, SH1, I1, J)
        refine q_if (c := 0) rfl (by decide) (fun y5 => ?_) (fun h => absurd (show (0 : Int) ≠ 0 from h) (by decide))
        have y5 : (0 : Int) = 0 := y5
        refine q_inc rfl rfl rfl ?_
        show dw_ok (pr_X11_lawn K) 66 0 0 [some (.ref 0), some (.int sz), some (.int v), some (.int (t + 1))] [] (n, SH1, I1, J)
        show dw_ok (pr_X11_lawn K) 66 0 0 [some (.ref 0), some (.int sz), some (.int v), some (.int (t + 1))] [] (n, SH1, I1, J)
        obtain ⟨tx, htx⟩ : ∃ z, z = (t + 1) := ⟨_, rfl⟩
        rw [← htx]
        have etx : tx.toInt = ((k + 1 : Nat) : Int) := by rw [htx]; exact ix_1 ht (by omega)
        refine q_goto rfl ?_
        exact ih (k + 1) v tx I1 (by omega) etx (by rw [ls_n (fun z => by rw [z.2] at hw; exact absurd hw (by decide))]; exact hv) hR2 hb2
    · subst eI1
      have th : ¬ 0 ≤ (R (221 + 97 * k)).toInt := fun z => hno.elim (fun g => g ⟨by omega, by omega⟩) (fun g => by
        have q : (R (221 + 97 * k + 0)).toInt < 0 := g k (by omega) ht
        rw [Nat.add_zero] at q; omega)
      show dw_ok (pr_X11_lawn K) 43 0 0 [some (.ref 0), some (.int sz), some (.int v), some (.int t)] [.int (0 : Int32)] (n, SH1, I1, J)
      refine q_if (c := 0) rfl (by decide) (fun y6 => ?_) (fun h => absurd (show (0 : Int) ≠ 0 from h) (by decide))
      have y6 : (0 : Int) = 0 := y6
      refine q_inc rfl rfl rfl ?_
      show dw_ok (pr_X11_lawn K) 66 0 0 [some (.ref 0), some (.int sz), some (.int v), some (.int (t + 1))] [] (n, SH1, I1, J)
      show dw_ok (pr_X11_lawn K) 66 0 0 [some (.ref 0), some (.int sz), some (.int v), some (.int (t + 1))] [] (n, SH1, I1, J)
      obtain ⟨tx, htx⟩ : ∃ z, z = (t + 1) := ⟨_, rfl⟩
      rw [← htx]
      have etx : tx.toInt = ((k + 1 : Nat) : Int) := by rw [htx]; exact ix_1 ht (by omega)
      refine q_goto rfl ?_
      exact ih (k + 1) v tx I1 (by omega) etx (by rw [ls_n (fun z => th z.1)]; exact hv) hR hb
set_option maxRecDepth 8000 in
theorem v_clawn {n : Nat} {I : Nat → Nat → Int32} {J : Nat → Nat → Int64} {K : dw_K} {R : Nat → Int32} (hR : SREL I 3 R) {b : Nat → Int32} (hb : ∀ c, c < Nn R → (c : Int) < (I 1 1).toInt → I 2 c = b c) (hk : ∀ (w : Int32) (I' : Nat → Nat → Int32), w.toInt = aLawn R b (I 1 1).toInt → K (some (.int w)) (n, SH1, I', J)) : t_X11_lawn [.ref 0] (n, SH1, I, J) K := by
  have cm1 : (-1 : Int32).toInt = -1 := rfl
  have k0 : (0 : Int32).toInt = 0 := rfl
  have k1 : (1 : Int32).toInt = 1 := rfl
  refine q_body (Nat.le_of_ble_eq_true rfl) ?_
  refine q_ald rfl rfl ?_
  refine q_getr rfl sk_0 sr_0_0 ?_
  refine q_geti rfl sk_1 ?_
  refine q_ist rfl rfl ?_
  show dw_ok (pr_X11_lawn K) 8 0 0 [some (.ref 0), some (.int (I 1 1)), none, none] [] (n, SH1, I, J)
  refine q_ald rfl rfl ?_
  refine q_getr rfl sk_0 sr_0_0 ?_
  refine q_ic rfl ?_
  refine q_puti rfl sk_1 ?_
  show dw_ok (pr_X11_lawn K) 16 0 0 [some (.ref 0), some (.int (I 1 1)), none, none] [] (n, SH1, (dw_up I 1 1 (0 : Int32)), J)
  refine q_ald rfl rfl ?_
  refine q_ild rfl rfl ?_
  refine q_callV (as := [.int (I 1 1)]) (rest := []) rfl rfl sk_0 rfl (Nat.le_of_ble_eq_true rfl) ?_
  obtain ⟨I0, hI0⟩ : ∃ X, X = (dw_up I 1 1 (0 : Int32)) := ⟨_, rfl⟩
  rw [← hI0]
  have r0 : ∀ a, a ≠ 1 → I0 a = I a := fun a p => by rw [hI0]; exact up_row p
  have hR0 : SREL I0 3 R := srel_fr (S := 3) (fun a p q => r0 a (by omega)) (fun _ _ => rfl) hR
  obtain ⟨b', hb'⟩ : ∃ b' : Nat → Int32, b' = I0 2 := ⟨_, rfl⟩
  refine v_isLawnC (R := R) (b := b') hR.1 ((rg_3 hR0).1 0 (by decide)) ((rg_3 hR0).1 1 (by decide)) (fun c _ => by rw [hb']) (fun w_ hw => ?_)
  have ebb : (I 1 1).toInt = Nn R → ∀ c, c < Nn R → b' c = b c := fun e c hc => by rw [hb', r0 2 (by decide)]; exact hb c hc (by omega)
  have eok : lwOK R b' (I 1 1).toInt ↔ lwOK R b (I 1 1).toInt := ⟨fun z => ⟨z.1, (al_eq (fun c hc => by unfold lwP; rw [ebb z.1 c hc])).symm.trans z.2⟩, fun z => ⟨z.1, (al_eq (fun c hc => by unfold lwP; rw [ebb z.1 c hc])).trans z.2⟩⟩
  rcases hw with ⟨rfl, hw⟩ | ⟨rfl, hw⟩
  · show dw_ok (pr_X11_lawn K) 21 0 0 [some (.ref 0), some (.int (I 1 1)), none, none] [.int (1 : Int32)] (n, SH1, I0, J)
    refine q_if (c := 1) rfl (by decide) (fun y1 => ?_) (fun h => absurd (show (1 : Int) = 0 from h) (by decide))
    have y1 : (1 : Int) ≠ 0 := y1
    refine q_ic rfl ?_
    refine q_ist rfl rfl ?_
    show dw_ok (pr_X11_lawn K) 28 0 0 [some (.ref 0), some (.int (I 1 1)), some (.int (0 : Int32)), none] [] (n, SH1, I0, J)
    refine q_ic rfl ?_
    refine q_ist rfl rfl ?_
    show dw_ok (pr_X11_lawn K) 30 0 0 [some (.ref 0), some (.int (I 1 1)), some (.int (0 : Int32)), some (.int (0 : Int32))] [] (n, SH1, I0, J)
    have ok := eok.mp hw
    exact lawn_loop (b := b) hR.1 (fun I' => hk _ I' (lawn_y ok).symm) 6 0 0 0 I0 rfl rfl rfl hR0 (fun c hc => by rw [← hb']; exact ebb hw.1 c hc)
  · show dw_ok (pr_X11_lawn K) 21 0 0 [some (.ref 0), some (.int (I 1 1)), none, none] [.int (0 : Int32)] (n, SH1, I0, J)
    refine q_if (c := 1) rfl (by decide) (fun h => absurd (show (0 : Int) ≠ 0 from h) (by decide)) (fun y2 => ?_)
    have y2 : (0 : Int) = 0 := y2
    refine q_ic rfl ?_
    exact q_iret rfl (hk _ I0 (cm1.trans (lawn_n (fun z => hw (eok.mpr z))).symm))
set_option maxRecDepth 8000 in
theorem mth_loopF {n : Nat} {J : Nat → Nat → Int64} {K : dw_K} {R : Nat → Int32} {N st m : Nat} {C : Nat → Nat → rC} {T : Nat → rN} {s0 : rS} {x wh tl : Int32} {I0 : Nat → Nat → Int32} (hP : PUR N C T s0 0) (htl : tl.toInt + 1 = m) (hm : m ≤ 144)
    (hk : ∀ I' : Nat → Nat → Int32, I' 406 = R → (∀ a, a ≠ 404 → (a < 411 ∨ 419 < a) → I' a = I0 a) → MSK I' N st C T s0 0 m → K none (n, SH1, I', J)) :
    ∀ (f k : Nat) (t : Int32) (I : Nat → Nat → Int32), k + f = m → t.toInt = k → I 406 = R → (∀ a, a ≠ 404 → (a < 411 ∨ 419 < a) → I a = I0 a) → MSK I N st C T s0 0 k → dw_ok (pr_X12_through K) 9 0 0 [some (.ref 404), some (.int x), some (.int wh), some (.int tl), some (.int t)] [] (n, SH1, I, J) := by
  have k1 : (1 : Int32).toInt = 1 := rfl
  intro f
  induction f with
  | zero =>
    intro k t I hf ht hR hF hM
    refine q_ild rfl rfl ?_
    refine q_ild rfl rfl ?_
    refine q_icmp (c := 4) rfl (by decide) (fun _ => ?_) (fun h => absurd (show t.toInt ≤ tl.toInt from h) (by omega))
    obtain rfl : k = m := by omega
    exact q_vret rfl (hk I hR hF hM)
  | succ f ih =>
    intro k t I hf ht hR hF hM
    refine q_ild rfl rfl ?_
    refine q_ild rfl rfl ?_
    refine q_icmp (c := 4) rfl (by decide) (fun h => absurd (show tl.toInt < t.toInt from h) (by omega)) (fun _ => ?_)
    refine q_ald rfl rfl ?_
    refine q_ild rfl rfl ?_
    refine q_callV (as := [.int t]) (rest := []) rfl rfl sk_404 rfl (Nat.le_of_ble_eq_true rfl) ?_
    refine v_mstepR hP hM (by omega) (by omega) (fun I' g1 _ g3 => ?_)
    show dw_ok (pr_X12_through K) 21 0 0 [some (.ref 404), some (.int x), some (.int wh), some (.int tl), some (.int t)] [] (n, SH1, I', J)
    refine q_inc rfl rfl rfl ?_
    refine q_goto rfl ?_
    exact ih (k + 1) (t + 1) I' (by omega) (by rw [i_add (by omega) (by omega), k1, ht]; omega) ((g1 406 (by decide) (by decide) (by decide)).trans hR) (fun a p q => (g1 a p (by omega) (by omega)).trans (hF a p q)) g3
set_option maxRecDepth 8000 in
theorem v_throughF {n : Nat} {I : Nat → Nat → Int32} {J : Nat → Nat → Int64} {K : dw_K} {x wh tl : Int32} {R : Nat → Int32} {st : Nat} (hR : I 406 = R) (hG : GOK R) (hx : okS R x) (hS : NOK (nX R x)) (hst : wh.toInt = st) (ht : okT tl)
    (hk : ∀ I' : Nat → Nat → Int32, I' 406 = R → (∀ a, a ≠ 404 → (a < 411 ∨ 419 < a) → I' a = I a) → rEq (Nn R) (srM I') (runW R (nX R x) st (tl.toInt.toNat + 1)) → K none (n, SH1, I', J)) : t_X12_through [.ref 404, .int x, .int wh, .int tl] (n, SH1, I, J) K := by
  obtain ⟨t0, t9⟩ := id ht
  refine q_body (Nat.le_of_ble_eq_true rfl) ?_
  refine q_ald rfl rfl ?_
  refine q_ild rfl rfl ?_
  refine q_ild rfl rfl ?_
  refine q_callV (as := [.int x, .int wh]) (rest := []) rfl rfl sk_404 rfl (Nat.le_of_ble_eq_true rfl) ?_
  refine v_mstartR hR hG hx hS hst (fun I1 g0 _ _ hM _ => ?_)
  show dw_ok (pr_X12_through K) 6 0 0 [some (.ref 404), some (.int x), some (.int wh), some (.int tl), none] [] (n, SH1, I1, J)
  refine q_ic rfl ?_
  refine q_ist rfl rfl ?_
  exact mth_loopF (m := tl.toInt.toNat + 1) (I0 := I) (pur_0 hG hS) (by omega) (by omega) (fun I' h1 hF h2 => hk I' h1 hF h2.2.2.1) (tl.toInt.toNat + 1) 0 0 I1 (by omega) rfl ((g0 406 (by decide) (by decide)).trans hR) (fun a p q => g0 a p q) hM
set_option maxRecDepth 8000 in
theorem mlw_loop {n : Nat} {J : Nat → Nat → Int64} {K : dw_K} {R b : Nat → Int32} (hG : GOK R) (hNN : ∀ x : Int32, okS R x → NOK (nX R x)) (h2 : alF (lwP b) (Nn R) = true) (hk : ∀ I' : Nat → Nat → Int32, K (some (.int (lsW R b 6))) (n, SH1, I', J)) :
    ∀ (f k : Nat) (v t : Int32) (I : Nat → Nat → Int32), k + f = 6 → t.toInt = k → v = lsW R b k → I 406 = R → (∀ c, c < Nn R → I 405 c &&& 255 = b c) → dw_ok (pr_X12_lawn K) 18 0 0 [some (.ref 404), some (.int v), some (.int t)] [] (n, SH1, I, J) := by
  have cm1 : (-1 : Int32).toInt = -1 := rfl
  have k0 : (0 : Int32).toInt = 0 := rfl
  have k1 : (1 : Int32).toInt = 1 := rfl
  have k71 : (71 : Int32).toInt = 71 := rfl
  intro f
  induction f with
  | zero =>
    intro k v t I hf ht hv hR hb
    obtain rfl : k = 6 := by omega
    refine q_ild rfl rfl ?_
    refine q_ic rfl ?_
    refine q_icmp (c := 3) rfl (by decide) (fun y1 => ?_) (fun h => absurd (show (t).toInt < (6 : Int) from h) (by omega))
    have y1 : (6 : Int) ≤ (t).toInt := y1
    refine q_ild rfl rfl ?_
    rw [hv]
    exact q_iret rfl (hk I)
  | succ f ih =>
    intro k v t I hf ht hv hR hb
    have eo := of_nat ht (by omega)
    have htn : t.toInt.toNat = k := by omega
    refine q_ild rfl rfl ?_
    refine q_ic rfl ?_
    refine q_icmp (c := 3) rfl (by decide) (fun h => absurd (show (6 : Int) ≤ (t).toInt from h) (by omega)) (fun y2 => ?_)
    have y2 : (t).toInt < (6 : Int) := y2
    refine q_ald rfl rfl ?_
    refine q_ild rfl rfl ?_
    refine q_callV (as := [.int t]) (rest := []) rfl rfl sk_404 rfl (Nat.le_of_ble_eq_true rfl) ?_
    refine v_isNight (fun w_ oS => ?_)
    rw [hR] at oS
    rcases oS with ⟨rfl, oS⟩ | ⟨rfl, oS⟩
    · show dw_ok (pr_X12_lawn K) 29 0 0 [some (.ref 404), some (.int v), some (.int t)] [.int (1 : Int32)] (n, SH1, I, J)
      refine q_if (c := 1) rfl (by decide) (fun y3 => ?_) (fun h => absurd (show (1 : Int) = 0 from h) (by decide))
      have y3 : (1 : Int) ≠ 0 := y3
      refine q_ald rfl rfl ?_
      refine q_ild rfl rfl ?_
      refine q_ic rfl ?_
      refine q_ic rfl ?_
      refine q_callV (as := [.int t, .int (0 : Int32), .int (71 : Int32)]) (rest := []) rfl rfl sk_404 rfl (Nat.le_of_ble_eq_true rfl) ?_
      refine v_throughF (st := 0) hR hG oS (hNN t oS) rfl ⟨by omega, by omega⟩ (fun I1 e1 qF q1 => ?_)
      show dw_ok (pr_X12_lawn K) 43 0 0 [some (.ref 404), some (.int v), some (.int t)] [] (n, SH1, I1, J)
      have e405 : ∀ c, c < Nn R → I1 405 c &&& 255 = b c := fun c hc => by rw [qF 405 (by decide) (by decide)]; exact hb c hc
      have eW : ∀ c, c < Nn R → I1 417 c = (runW R (nS R k) 0 72).2.1 c := fun c hc => by
        have q := q1.2.1 c hc
        rw [show (71 : Int32).toInt.toNat + 1 = 72 from rfl] at q
        rw [show nX R t = nS R k from congrArg (nS R) htn] at q
        exact q
      have th : 0 ≤ (R (221 + 97 * k)).toInt := by have z := oS.2; rw [htn] at z; exact z
      show dw_ok (pr_X12_lawn K) 43 0 0 [some (.ref 404), some (.int v), some (.int t)] [] (n, SH1, I1, J)
      refine q_ild rfl rfl ?_
      refine q_ald rfl rfl ?_
      refine q_callV (as := []) (rest := [.int v]) rfl rfl sk_404 rfl (Nat.le_of_ble_eq_true rfl) ?_
      refine v_misLawn (R := R) (b := b) (W := (runW R (nS R k) 0 72).2.1) e1 hG e405 eW h2 (fun w_ hw => ?_)
      rcases hw with ⟨rfl, hw⟩ | ⟨rfl, hw⟩
      · show dw_ok (pr_X12_lawn K) 48 0 0 [some (.ref 404), some (.int v), some (.int t)] [.int (1 : Int32), .int v] (n, SH1, I1, J)
        refine q_if (c := 0) rfl (by decide) (fun h => absurd (show (1 : Int) = 0 from h) (by decide)) (fun y4 => ?_)
        have y4 : (1 : Int) ≠ 0 := y4
        refine q_ic rfl ?_
        refine q_ild rfl rfl ?_
        refine q_ishl rfl ?_
        refine q_goto rfl ?_
        refine q_ior rfl ?_
        refine q_ist rfl rfl ?_
        show dw_ok (pr_X12_lawn K) 60 0 0 [some (.ref 404), some (.int (v ||| ((1 : Int32) <<< (t &&& 31)))), some (.int t)] [] (n, SH1, I1, J)
        refine q_inc rfl rfl rfl ?_
        show dw_ok (pr_X12_lawn K) 63 0 0 [some (.ref 404), some (.int (v ||| ((1 : Int32) <<< (t &&& 31)))), some (.int (t + 1))] [] (n, SH1, I1, J)
        show dw_ok (pr_X12_lawn K) 63 0 0 [some (.ref 404), some (.int (v ||| ((1 : Int32) <<< (t &&& 31)))), some (.int (t + 1))] [] (n, SH1, I1, J)
        obtain ⟨tx, htx⟩ : ∃ z, z = (t + 1) := ⟨_, rfl⟩
        rw [← htx]
        have etx : tx.toInt = ((k + 1 : Nat) : Int) := by rw [htx]; exact ix_1 ht (by omega)
        refine q_goto rfl ?_
        exact ih (k + 1) (v ||| ((1 : Int32) <<< (t &&& 31))) tx I1 (by omega) etx (by rw [ls_y ⟨th, hw⟩, hv, eo]) e1 e405
      · show dw_ok (pr_X12_lawn K) 48 0 0 [some (.ref 404), some (.int v), some (.int t)] [.int (0 : Int32), .int v] (n, SH1, I1, J)
        refine q_if (c := 0) rfl (by decide) (fun y5 => ?_) (fun h => absurd (show (0 : Int) ≠ 0 from h) (by decide))
        have y5 : (0 : Int) = 0 := y5
        refine q_ic rfl ?_
        refine q_ior rfl ?_
        refine q_ist rfl rfl ?_
        show dw_ok (pr_X12_lawn K) 60 0 0 [some (.ref 404), some (.int (v ||| (0 : Int32))), some (.int t)] [] (n, SH1, I1, J)
        refine q_inc rfl rfl rfl ?_
        show dw_ok (pr_X12_lawn K) 63 0 0 [some (.ref 404), some (.int (v ||| (0 : Int32))), some (.int (t + 1))] [] (n, SH1, I1, J)
        show dw_ok (pr_X12_lawn K) 63 0 0 [some (.ref 404), some (.int (v ||| (0 : Int32))), some (.int (t + 1))] [] (n, SH1, I1, J)
        obtain ⟨tx, htx⟩ : ∃ z, z = (t + 1) := ⟨_, rfl⟩
        rw [← htx]
        have etx : tx.toInt = ((k + 1 : Nat) : Int) := by rw [htx]; exact ix_1 ht (by omega)
        refine q_goto rfl ?_
        exact ih (k + 1) (v ||| (0 : Int32)) tx I1 (by omega) etx (by rw [ls_n (fun z => by rw [z.2] at hw; exact absurd hw (by decide)), hv]; exact Int32.or_zero) e1 e405
    · show dw_ok (pr_X12_lawn K) 29 0 0 [some (.ref 404), some (.int v), some (.int t)] [.int (0 : Int32)] (n, SH1, I, J)
      refine q_if (c := 1) rfl (by decide) (fun h => absurd (show (0 : Int) ≠ 0 from h) (by decide)) (fun y6 => ?_)
      have y6 : (0 : Int) = 0 := y6
      refine q_goto rfl ?_
      refine q_inc rfl rfl rfl ?_
      show dw_ok (pr_X12_lawn K) 63 0 0 [some (.ref 404), some (.int v), some (.int (t + 1))] [] (n, SH1, I, J)
      show dw_ok (pr_X12_lawn K) 63 0 0 [some (.ref 404), some (.int v), some (.int (t + 1))] [] (n, SH1, I, J)
      obtain ⟨tx, htx⟩ : ∃ z, z = (t + 1) := ⟨_, rfl⟩
      rw [← htx]
      have etx : tx.toInt = ((k + 1 : Nat) : Int) := by rw [htx]; exact ix_1 ht (by omega)
      refine q_goto rfl ?_
      exact ih (k + 1) v tx I (by omega) etx (by rw [ls_n (fun z => oS ⟨⟨by omega, by omega⟩, by rw [htn]; exact z.1⟩)]; exact hv) hR hb
set_option maxRecDepth 8000 in
set_option maxHeartbeats 4000000 in
theorem v_mlawn {n : Nat} {I : Nat → Nat → Int32} {J : Nat → Nat → Int64} {K : dw_K} {R b : Nat → Int32} (hR : I 406 = R) (hG : GOK R) (hNN : ∀ x : Int32, okS R x → NOK (nX R x)) (hb : ∀ c, c < Nn R → (c : Int) < (I 404 2).toInt → I 405 c &&& 255 = b c) (hk : ∀ (w : Int32) (I' : Nat → Nat → Int32), w.toInt = aLawn R b (I 404 2).toInt → K (some (.int w)) (n, SH1, I', J)) : t_X12_lawn [.ref 404] (n, SH1, I, J) K := by
  have cm1 : (-1 : Int32).toInt = -1 := rfl
  have k0 : (0 : Int32).toInt = 0 := rfl
  have k1 : (1 : Int32).toInt = 1 := rfl
  refine q_body (Nat.le_of_ble_eq_true rfl) ?_
  refine q_ald rfl rfl ?_
  refine q_ic rfl ?_
  refine q_puti rfl sk_404 ?_
  show dw_ok (pr_X12_lawn K) 5 0 0 [some (.ref 404), none, none] [] (n, SH1, (dw_up I 404 0 (0 : Int32)), J)
  refine q_ald rfl rfl ?_
  refine q_callV (as := []) (rest := []) rfl rfl sk_404 rfl (Nat.le_of_ble_eq_true rfl) ?_
  obtain ⟨I0, hI0⟩ : ∃ X, X = (dw_up I 404 0 (0 : Int32)) := ⟨_, rfl⟩
  rw [← hI0]
  have r0 : ∀ a, a ≠ 404 → I0 a = I a := fun a p => by rw [hI0]; exact up_row p
  have s2 : I0 404 2 = I 404 2 := by rw [hI0]; exact up_fld (by decide)
  obtain ⟨b', hb'⟩ : ∃ b' : Nat → Int32, b' = fun c => I0 405 c &&& 255 := ⟨_, rfl⟩
  refine v_takesLawn (R := R) (b := b') ((r0 406 (by decide)).trans hR) hG (fun c _ => by rw [hb']) (fun w_ I1 r1 hw => ?_)
  rw [s2] at hw
  have e1 : I1 406 = R := (r1 406 (by decide)).trans ((r0 406 (by decide)).trans hR)
  have ebb : (I 404 2).toInt = Nn R → ∀ c, c < Nn R → b' c = b c := fun e c hc => by rw [hb']; show I0 405 c &&& 255 = b c; rw [r0 405 (by decide)]; exact hb c hc (by omega)
  have eok : lwOK R b' (I 404 2).toInt ↔ lwOK R b (I 404 2).toInt := ⟨fun z => ⟨z.1, (al_eq (fun c hc => by unfold lwP; rw [ebb z.1 c hc])).symm.trans z.2⟩, fun z => ⟨z.1, (al_eq (fun c hc => by unfold lwP; rw [ebb z.1 c hc])).trans z.2⟩⟩
  rcases hw with ⟨rfl, hw⟩ | ⟨rfl, hw⟩
  · have ok := eok.mp hw
    have e405 : ∀ c, c < Nn R → I1 405 c &&& 255 = b c := fun c hc => by rw [r1 405 (by decide), r0 405 (by decide)]; exact hb c hc (by have := ok.1; omega)
    show dw_ok (pr_X12_lawn K) 9 0 0 [some (.ref 404), none, none] [.int (1 : Int32)] (n, SH1, I1, J)
    refine q_if (c := 1) rfl (by decide) (fun y1 => ?_) (fun h => absurd (show (1 : Int) = 0 from h) (by decide))
    have y1 : (1 : Int) ≠ 0 := y1
    refine q_ic rfl ?_
    refine q_ist rfl rfl ?_
    show dw_ok (pr_X12_lawn K) 16 0 0 [some (.ref 404), some (.int (0 : Int32)), none] [] (n, SH1, I1, J)
    refine q_ic rfl ?_
    refine q_ist rfl rfl ?_
    show dw_ok (pr_X12_lawn K) 18 0 0 [some (.ref 404), some (.int (0 : Int32)), some (.int (0 : Int32))] [] (n, SH1, I1, J)
    exact mlw_loop hG hNN ok.2 (fun I' => hk _ I' (lawn_y ok).symm) 6 0 0 0 I1 rfl rfl rfl e1 e405
  · show dw_ok (pr_X12_lawn K) 9 0 0 [some (.ref 404), none, none] [.int (0 : Int32)] (n, SH1, I1, J)
    refine q_if (c := 1) rfl (by decide) (fun h => absurd (show (0 : Int) ≠ 0 from h) (by decide)) (fun y2 => ?_)
    have y2 : (0 : Int) = 0 := y2
    refine q_ic rfl ?_
    exact q_iret rfl (hk _ I1 (cm1.trans (lawn_n (fun z => hw (eok.mpr z))).symm))
set_option maxRecDepth 8000 in
theorem hi_dec : (List.range 12).all (fun h => (List.range 72).all (fun d => decide (((((1 : Int32) <<< (Int32.ofNat h &&& 31)) >>> ((Int32.ofNat d / 6) &&& 31)) &&& 1).toInt = 1) == decide (d / 6 = h))) = true := by decide +kernel
set_option maxRecDepth 8000 in
theorem hi_1 {h d : Nat} (hh : h < 12) : hiF ((1 : Int32) <<< (Int32.ofNat h &&& 31)) d ↔ (d < 72 ∧ d / 6 = h) := by
  constructor
  · rintro ⟨h1, h2⟩
    have q := List.all_eq_true.mp (List.all_eq_true.mp hi_dec h (List.mem_range.mpr hh)) d (List.mem_range.mpr h1)
    rw [decide_eq_true h2] at q
    exact ⟨h1, of_decide_eq_true (eq_of_beq q).symm⟩
  · rintro ⟨h1, h2⟩
    have q := List.all_eq_true.mp (List.all_eq_true.mp hi_dec h (List.mem_range.mpr hh)) d (List.mem_range.mpr h1)
    rw [decide_eq_true h2] at q
    exact ⟨h1, of_decide_eq_true (eq_of_beq q)⟩
/-- with a cloud in hour h -/
def clT (S : Nat → Int32) (h : Nat) : Nat → rN := fun t => if t < 72 ∧ t / 6 = h then (100, (gT S t).2) else gT S t
set_option maxRecDepth 8000 in
theorem clT_y {S : Nat → Int32} {h t : Nat} (q : t < 72 ∧ t / 6 = h) : clT S h t = (100, (gT S t).2) := if_pos q
set_option maxRecDepth 8000 in
theorem clT_n {S : Nat → Int32} {h t : Nat} (q : ¬ (t < 72 ∧ t / 6 = h)) : clT S h t = gT S t := if_neg q
set_option maxRecDepth 8000 in
theorem clT_ok {S : Nat → Int32} {h : Nat} (hS : NOK S) : ∀ t, t < 144 → nOK (clT S h t) := fun t ht => by
  have q := hS.2 t ht
  by_cases e : t < 72 ∧ t / 6 = h
  · rw [clT_y e]; exact ⟨⟨show 0 ≤ (100 : Int32).toInt by decide, show (100 : Int32).toInt ≤ 100 by decide⟩, q.2⟩
  · rw [clT_n e]; exact q
def clW (R S : Nat → Int32) (h : Nat) : Nat → Int32 := (ruF 0 (Nn R) (fun _ => gC R) (clT S h) 0 72 (g0S R S)).2.1
def cdW (R S b : Nat → Int32) : Nat → Int32
  | 0 => 0
  | k + 1 => if alF (lkP b (clW R S k)) (Nn R) = true then cdW R S b k ||| (1 : Int32) <<< (Int32.ofNat k &&& 31) else cdW R S b k
set_option maxRecDepth 8000 in
theorem cd_y {R S b : Nat → Int32} {k : Nat} (h : alF (lkP b (clW R S k)) (Nn R) = true) : cdW R S b (k + 1) = cdW R S b k ||| (1 : Int32) <<< (Int32.ofNat k &&& 31) := if_pos h
set_option maxRecDepth 8000 in
theorem cd_n {R S b : Nat → Int32} {k : Nat} (h : alF (lkP b (clW R S k)) (Nn R) = false) : cdW R S b (k + 1) = cdW R S b k := if_neg (by rw [h]; decide)
noncomputable def aClouded (R b : Nat → Int32) (sz : Int) (s : Int32) : Int := @ite Int (lwOK R b sz ∧ okS R s) (Classical.propDecidable _) (cdW R (nX R s) b 12).toInt (-1)
set_option maxRecDepth 8000 in
theorem cld_y {R b : Nat → Int32} {sz : Int} {s : Int32} (h : lwOK R b sz ∧ okS R s) : aClouded R b sz s = (cdW R (nX R s) b 12).toInt := by
  unfold aClouded
  rw [if_pos h]
set_option maxRecDepth 8000 in
theorem cld_n {R b : Nat → Int32} {sz : Int} {s : Int32} (h : ¬ (lwOK R b sz ∧ okS R s)) : aClouded R b sz s = -1 := by
  unfold aClouded
  rw [if_neg h]
set_option maxRecDepth 8000 in
theorem csk_cloud {I : Nat → Nat → Int32} {h : Nat} {R S : Nat → Int32} (hG : GOK R) (hC : CST I 164 R S) (h6 : I 164 6 = 0) (hh : h < 12) : CSK (dw_up I 164 6 ((1 : Int32) <<< (Int32.ofNat h &&& 31))) 164 (Nn R) 0 (fun _ => gC R) (clT S h) (g0S R S) 0 0 := by
  have r : ∀ a, a ≠ 164 → dw_up I 164 6 ((1 : Int32) <<< (Int32.ofNat h &&& 31)) a = I a := fun a ha => up_row ha
  have f : ∀ j, j ≠ 6 → dw_up I 164 6 ((1 : Int32) <<< (Int32.ofNat h &&& 31)) 164 j = I 164 j := fun j hj => up_fld hj
  refine csk_mk hC (fun c hc => ?_) (fun t ht => ?_) (r _ (by decide)) (r _ (by decide)) (f 1 (by decide)) (f 2 (by decide)) (f 3 (by decide)) (f 4 (by decide)) (by rw [f 5 (by decide)]; exact hC.2.2.2.2.1) (fun c hc => gok_c hG hc)
  · have q := hC.1 c hc
    unfold cfC at q ⊢
    rw [r (164 + 8) (by decide), r (164 + 9) (by decide), r (164 + 10) (by decide), r (164 + 11) (by decide)]
    exact q
  · have q := hC.2.1 t ht
    unfold tnC at q ⊢
    rw [h6, if_neg hi_0] at q
    rw [up_same, r (164 + 1 + 2 + 0) (by decide), r (164 + 1 + 2 + 1) (by decide), r (164 + 1 + 2 + 2) (by decide), r (164 + 1 + 2 + 3) (by decide), r (164 + 1 + 2 + 4) (by decide)]
    have q2 := congrArg (fun z : rN => z.2) q
    by_cases e : t < 72 ∧ t / 6 = h
    · rw [clT_y e, if_pos ((hi_1 hh).mpr e)]
      exact Prod.ext rfl q2
    · rw [clT_n e, if_neg (fun z => e ((hi_1 hh).mp z))]
      exact q
set_option maxRecDepth 8000 in
theorem cld_loop {n : Nat} {J : Nat → Nat → Int64} {K : dw_K} {R b : Nat → Int32} {s sz : Int32} (hG : GOK R) (oS : okS R s) (hk : ∀ I' : Nat → Nat → Int32, K (some (.int (cdW R (nX R s) b 12))) (n, SH1, I', J)) :
    ∀ (f k : Nat) (v hr : Int32) (I : Nat → Nat → Int32), k + f = 12 → hr.toInt = k → v = cdW R (nX R s) b k → SREL I 3 R → (∀ c, c < Nn R → I 2 c = b c) → dw_ok (pr_X11_clouded K) 31 0 0 [some (.ref 0), some (.int s), some (.int sz), some (.int v), some (.int hr)] [] (n, SH1, I, J) := by
  have cm1 : (-1 : Int32).toInt = -1 := rfl
  have k0 : (0 : Int32).toInt = 0 := rfl
  have k1 : (1 : Int32).toInt = 1 := rfl
  have hN9 := (gok_N hG).2
  intro f
  induction f with
  | zero =>
    intro k v hr I hf hh hv hR hb
    obtain rfl : k = 12 := by omega
    refine q_ild rfl rfl ?_
    refine q_ic rfl ?_
    refine q_icmp (c := 3) rfl (by decide) (fun y1 => ?_) (fun h => absurd (show (hr).toInt < (12 : Int) from h) (by omega))
    have y1 : (12 : Int) ≤ (hr).toInt := y1
    refine q_ild rfl rfl ?_
    rw [hv]
    exact q_iret rfl (hk I)
  | succ f ih =>
    intro k v hr I hf hh hv hR hb
    have eo := of_nat hh (by omega)
    refine q_ild rfl rfl ?_
    refine q_ic rfl ?_
    refine q_icmp (c := 3) rfl (by decide) (fun h => absurd (show (12 : Int) ≤ (hr).toInt from h) (by omega)) (fun y2 => ?_)
    have y2 : (hr).toInt < (12 : Int) := y2
    refine q_ald rfl rfl ?_
    refine q_ald rfl rfl ?_
    refine q_getr rfl sk_0 sr_0_6 ?_
    refine q_ild rfl rfl ?_
    refine q_callV (as := [.ref 164, .int s]) (rest := []) rfl rfl sk_0 rfl (Nat.le_of_ble_eq_true rfl) ?_
    refine v_startR hR (Or.inr (Or.inl rfl)) (fun s1 hs hxs hS I1 q0 _ hC h6 _ _ => ?_) (fun hno => absurd oS (okS_no hno))
    obtain ⟨-, eS⟩ := okS_of hs hxs hS
    rw [← eS] at hC
    show dw_ok (pr_X11_clouded K) 47 0 0 [some (.ref 0), some (.int s), some (.int sz), some (.int v), some (.int hr)] [.int (1 : Int32)] (n, SH1, I1, J)
    refine q_if (c := 1) rfl (by decide) (fun y3 => ?_) (fun h => absurd (show (1 : Int) = 0 from h) (by decide))
    have y3 : (1 : Int) ≠ 0 := y3
    refine q_ald rfl rfl ?_
    refine q_getr rfl sk_0 sr_0_6 ?_
    refine q_ic rfl ?_
    refine q_ild rfl rfl ?_
    refine q_ishl rfl ?_
    refine q_puti rfl sk_164 ?_
    show dw_ok (pr_X11_clouded K) 63 0 0 [some (.ref 0), some (.int s), some (.int sz), some (.int v), some (.int hr)] [] (n, SH1, (dw_up I1 164 6 ((1 : Int32) <<< (hr &&& 31))), J)
    refine q_ald rfl rfl ?_
    refine q_getr rfl sk_0 sr_0_6 ?_
    refine q_ic rfl ?_
    refine q_callV (as := [.int (72 : Int32)]) (rest := []) rfl rfl sk_164 rfl (Nat.le_of_ble_eq_true rfl) ?_
    have hM : CSK (dw_up I1 164 6 ((1 : Int32) <<< (hr &&& 31))) 164 (Nn R) 0 (fun _ => gC R) (clT (nX R s) k) (g0S R (nX R s)) 0 0 := by
      have q := csk_cloud (h := k) hG hC h6 (by omega)
      rw [← eo] at q; exact q
    refine v_untilR (A := 164) (j := 72) (rt_ok (by decide)) hM (by decide) hN9 (Or.inl (show (72 : Int32).toInt = ((0 + 0 + 72 : Nat) : Int) from rfl)) (fun I2 g1 _ hK => ?_)
    show dw_ok (pr_X11_clouded K) 72 0 0 [some (.ref 0), some (.int s), some (.int sz), some (.int v), some (.int hr)] [] (n, SH1, I2, J)
    have r2 : ∀ a, a < 164 → I2 a = I a := fun a p => (g1 a (by omega) (by omega) (by omega)).trans ((up_row (by omega)).trans (q0 a (by omega)))
    have hR2 : SREL I2 3 R := srel_fr (S := 3) (fun a p q => r2 a (by omega)) (fun _ _ => rfl) hR
    have hb2 : ∀ c, c < Nn R → I2 2 c = b c := fun c hc => by rw [r2 2 (by decide)]; exact hb c hc
    show dw_ok (pr_X11_clouded K) 72 0 0 [some (.ref 0), some (.int s), some (.int sz), some (.int v), some (.int hr)] [] (n, SH1, I2, J)
    refine q_ald rfl rfl ?_
    refine q_ald rfl rfl ?_
    refine q_getr rfl sk_0 sr_0_6 ?_
    refine q_callV (as := [.ref 164]) (rest := []) rfl rfl sk_0 rfl (Nat.le_of_ble_eq_true rfl) ?_
    refine v_looksSo (R := R) (b := b) (W := clW R (nX R s) k) hG ((rg_3 hR2).1 0 (by decide)) ((rg_3 hR2).1 1 (by decide)) hK.2.2.2.1 hb2 (fun c hc => hK.2.2.1.2.1 c hc) (fun w_ hw => ?_)
    rcases hw with ⟨rfl, hw⟩ | ⟨rfl, hw⟩
    · show dw_ok (pr_X11_clouded K) 80 0 0 [some (.ref 0), some (.int s), some (.int sz), some (.int v), some (.int hr)] [.int (1 : Int32)] (n, SH1, I2, J)
      refine q_if (c := 0) rfl (by decide) (fun h => absurd (show (1 : Int) = 0 from h) (by decide)) (fun y4 => ?_)
      have y4 : (1 : Int) ≠ 0 := y4
      refine q_ild rfl rfl ?_
      refine q_ic rfl ?_
      refine q_ild rfl rfl ?_
      refine q_ishl rfl ?_
      refine q_ior rfl ?_
      refine q_ist rfl rfl ?_
      show dw_ok (pr_X11_clouded K) 90 0 0 [some (.ref 0), some (.int s), some (.int sz), some (.int (v ||| ((1 : Int32) <<< (hr &&& 31)))), some (.int hr)] [] (n, SH1, I2, J)
      refine q_inc rfl rfl rfl ?_
      show dw_ok (pr_X11_clouded K) 93 0 0 [some (.ref 0), some (.int s), some (.int sz), some (.int (v ||| ((1 : Int32) <<< (hr &&& 31)))), some (.int (hr + 1))] [] (n, SH1, I2, J)
      show dw_ok (pr_X11_clouded K) 93 0 0 [some (.ref 0), some (.int s), some (.int sz), some (.int (v ||| ((1 : Int32) <<< (hr &&& 31)))), some (.int (hr + 1))] [] (n, SH1, I2, J)
      obtain ⟨hx, hhx⟩ : ∃ z, z = (hr + 1) := ⟨_, rfl⟩
      rw [← hhx]
      have ehx : hx.toInt = ((k + 1 : Nat) : Int) := by rw [hhx]; exact ix_1 hh (by omega)
      refine q_goto rfl ?_
      exact ih (k + 1) (v ||| ((1 : Int32) <<< (hr &&& 31))) hx I2 (by omega) ehx (by rw [cd_y hw, hv, ← eo]) hR2 hb2
    · show dw_ok (pr_X11_clouded K) 80 0 0 [some (.ref 0), some (.int s), some (.int sz), some (.int v), some (.int hr)] [.int (0 : Int32)] (n, SH1, I2, J)
      refine q_if (c := 0) rfl (by decide) (fun y5 => ?_) (fun h => absurd (show (0 : Int) ≠ 0 from h) (by decide))
      have y5 : (0 : Int) = 0 := y5
      refine q_inc rfl rfl rfl ?_
      show dw_ok (pr_X11_clouded K) 93 0 0 [some (.ref 0), some (.int s), some (.int sz), some (.int v), some (.int (hr + 1))] [] (n, SH1, I2, J)
      show dw_ok (pr_X11_clouded K) 93 0 0 [some (.ref 0), some (.int s), some (.int sz), some (.int v), some (.int (hr + 1))] [] (n, SH1, I2, J)
      obtain ⟨hx, hhx⟩ : ∃ z, z = (hr + 1) := ⟨_, rfl⟩
      rw [← hhx]
      have ehx : hx.toInt = ((k + 1 : Nat) : Int) := by rw [hhx]; exact ix_1 hh (by omega)
      refine q_goto rfl ?_
      exact ih (k + 1) v hx I2 (by omega) ehx (by rw [cd_n hw]; exact hv) hR2 hb2
set_option maxRecDepth 8000 in
theorem v_cclouded {n : Nat} {I : Nat → Nat → Int32} {J : Nat → Nat → Int64} {K : dw_K} {R : Nat → Int32} (hR : SREL I 3 R) {b : Nat → Int32} {a1 : Int32} (hb : ∀ c, c < Nn R → (c : Int) < (I 1 1).toInt → I 2 c = b c) (hk : ∀ (w : Int32) (I' : Nat → Nat → Int32), w.toInt = aClouded R b (I 1 1).toInt a1 → K (some (.int w)) (n, SH1, I', J)) : t_X11_clouded [.ref 0, .int a1] (n, SH1, I, J) K := by
  have cm1 : (-1 : Int32).toInt = -1 := rfl
  have k0 : (0 : Int32).toInt = 0 := rfl
  have k1 : (1 : Int32).toInt = 1 := rfl
  refine q_body (Nat.le_of_ble_eq_true rfl) ?_
  refine q_ald rfl rfl ?_
  refine q_getr rfl sk_0 sr_0_0 ?_
  refine q_geti rfl sk_1 ?_
  refine q_ist rfl rfl ?_
  show dw_ok (pr_X11_clouded K) 8 0 0 [some (.ref 0), some (.int a1), some (.int (I 1 1)), none, none] [] (n, SH1, I, J)
  refine q_ald rfl rfl ?_
  refine q_getr rfl sk_0 sr_0_0 ?_
  refine q_ic rfl ?_
  refine q_puti rfl sk_1 ?_
  show dw_ok (pr_X11_clouded K) 16 0 0 [some (.ref 0), some (.int a1), some (.int (I 1 1)), none, none] [] (n, SH1, (dw_up I 1 1 (0 : Int32)), J)
  refine q_ald rfl rfl ?_
  refine q_ild rfl rfl ?_
  refine q_callV (as := [.int (I 1 1)]) (rest := []) rfl rfl sk_0 rfl (Nat.le_of_ble_eq_true rfl) ?_
  obtain ⟨I0, hI0⟩ : ∃ X, X = (dw_up I 1 1 (0 : Int32)) := ⟨_, rfl⟩
  rw [← hI0]
  have r0 : ∀ a, a ≠ 1 → I0 a = I a := fun a p => by rw [hI0]; exact up_row p
  have hR0 : SREL I0 3 R := srel_fr (S := 3) (fun a p q => r0 a (by omega)) (fun _ _ => rfl) hR
  obtain ⟨b', hb'⟩ : ∃ b' : Nat → Int32, b' = I0 2 := ⟨_, rfl⟩
  refine v_isLawnC (R := R) (b := b') hR.1 ((rg_3 hR0).1 0 (by decide)) ((rg_3 hR0).1 1 (by decide)) (fun c _ => by rw [hb']) (fun w_ hw => ?_)
  have ebb : (I 1 1).toInt = Nn R → ∀ c, c < Nn R → b' c = b c := fun e c hc => by rw [hb', r0 2 (by decide)]; exact hb c hc (by omega)
  have eok : lwOK R b' (I 1 1).toInt ↔ lwOK R b (I 1 1).toInt := ⟨fun z => ⟨z.1, (al_eq (fun c hc => by unfold lwP; rw [ebb z.1 c hc])).symm.trans z.2⟩, fun z => ⟨z.1, (al_eq (fun c hc => by unfold lwP; rw [ebb z.1 c hc])).trans z.2⟩⟩
  rcases hw with ⟨rfl, hw⟩ | ⟨rfl, hw⟩
  · show dw_ok (pr_X11_clouded K) 21 0 0 [some (.ref 0), some (.int a1), some (.int (I 1 1)), none, none] [.int (1 : Int32)] (n, SH1, I0, J)
    refine q_if (c := 1) rfl (by decide) (fun y1 => ?_) (fun h => absurd (show (1 : Int) = 0 from h) (by decide))
    have y1 : (1 : Int) ≠ 0 := y1
    refine q_ic rfl ?_
    refine q_ist rfl rfl ?_
    show dw_ok (pr_X11_clouded K) 28 0 0 [some (.ref 0), some (.int a1), some (.int (I 1 1)), some (.int (0 : Int32)), none] [] (n, SH1, I0, J)
    refine q_ic rfl ?_
    refine q_ist rfl rfl ?_
    show dw_ok (pr_X11_clouded K) 31 0 0 [some (.ref 0), some (.int a1), some (.int (I 1 1)), some (.int (0 : Int32)), some (.int (0 : Int32))] [] (n, SH1, I0, J)
    have ok := eok.mp hw
    by_cases oS : okS R a1
    · exact cld_loop (b := b) hR.1 oS (fun I' => hk _ I' (cld_y ⟨ok, oS⟩).symm) 12 0 0 0 I0 rfl rfl rfl hR0 (fun c hc => by rw [← hb']; exact ebb hw.1 c hc)
    · show dw_ok (pr_X11_clouded K) 31 0 0 [some (.ref 0), some (.int a1), some (.int (I 1 1)), some (.int (0 : Int32)), some (.int (0 : Int32))] [] (n, SH1, I0, J)
      refine q_ild rfl rfl ?_
      refine q_ic rfl ?_
      refine q_icmp (c := 3) rfl (by decide) (fun h => absurd (show (12 : Int) ≤ (0 : Int) from h) (by decide)) (fun y2 => ?_)
      have y2 : (0 : Int) < (12 : Int) := y2
      refine q_ald rfl rfl ?_
      refine q_ald rfl rfl ?_
      refine q_getr rfl sk_0 sr_0_6 ?_
      refine q_ild rfl rfl ?_
      refine q_callV (as := [.ref 164, .int a1]) (rest := []) rfl rfl sk_0 rfl (Nat.le_of_ble_eq_true rfl) ?_
      refine v_startR hR0 (Or.inr (Or.inl rfl)) (fun s hs hxs hS _ _ _ _ _ _ _ => absurd (okS_of hs hxs hS).1 oS) (fun hno => ?_)
      show dw_ok (pr_X11_clouded K) 47 0 0 [some (.ref 0), some (.int a1), some (.int (I 1 1)), some (.int (0 : Int32)), some (.int (0 : Int32))] [.int (0 : Int32)] (n, SH1, I0, J)
      refine q_if (c := 1) rfl (by decide) (fun h => absurd (show (0 : Int) ≠ 0 from h) (by decide)) (fun y3 => ?_)
      have y3 : (0 : Int) = 0 := y3
      refine q_ic rfl ?_
      exact q_iret rfl (hk _ I0 (cm1.trans (cld_n (fun z => oS z.2)).symm))
  · show dw_ok (pr_X11_clouded K) 21 0 0 [some (.ref 0), some (.int a1), some (.int (I 1 1)), none, none] [.int (0 : Int32)] (n, SH1, I0, J)
    refine q_if (c := 1) rfl (by decide) (fun h => absurd (show (0 : Int) ≠ 0 from h) (by decide)) (fun y4 => ?_)
    have y4 : (0 : Int) = 0 := y4
    refine q_ic rfl ?_
    exact q_iret rfl (hk _ I0 (cm1.trans (cld_n (fun z => hw (eok.mpr z.1))).symm))
set_option maxRecDepth 8000 in
theorem mcl_loop {n : Nat} {J : Nat → Nat → Int64} {K : dw_K} {x : Int32} {h : Nat} {I0 : Nat → Nat → Int32} (hx : x.toInt = h) (hh : h < 12)
    (hk : ∀ I' : Nat → Nat → Int32, (∀ a, a ≠ 411 → I' a = I0 a) → (∀ t, I' 411 t = if 6 * h ≤ t ∧ t < 6 * h + 6 then 100 else I0 411 t) → K none (n, SH1, I', J)) :
    ∀ (f k : Nat) (t : Int32) (I : Nat → Nat → Int32), k + f = 6 → t.toInt = ((6 * h + k : Nat) : Int) → (∀ a, a ≠ 411 → I a = I0 a) → (∀ t, I 411 t = if 6 * h ≤ t ∧ t < 6 * h + k then 100 else I0 411 t) → dw_ok (pr_X12_clouds K) 5 0 0 [some (.ref 404), some (.int x), some (.int t)] [] (n, SH1, I, J) := by
  have k6 : (6 : Int32).toInt = 6 := rfl
  have k1 : (1 : Int32).toInt = 1 := rfl
  intro f
  induction f with
  | zero =>
    intro k t I hf ht hfr hT
    obtain rfl : k = 6 := by omega
    refine q_ild rfl rfl ?_
    refine q_ic rfl ?_
    refine q_ild rfl rfl ?_
    refine q_mul rfl ?_
    refine q_ic rfl ?_
    refine q_add rfl ?_
    show dw_ok (pr_X12_clouds K) 13 0 0 [some (.ref 404), some (.int x), some (.int t)] [.int (((6 : Int32) * x) + (6 : Int32)), .int t] (n, SH1, I, J)
    obtain ⟨e6, he6⟩ : ∃ z, z = (((6 : Int32) * x) + (6 : Int32)) := ⟨_, rfl⟩
    rw [← he6]
    have ee6 : e6.toInt = ((6 * h + 6 : Nat) : Int) := by rw [he6]; exact ix_a (a := 6 * h) (m := 6) (ix_m (m := 6) hx rfl (by omega)) rfl (by omega)
    refine q_icmp (c := 3) rfl (by decide) (fun y1 => ?_) (fun h => absurd (show (t).toInt < (e6).toInt from h) (by omega))
    have y1 : (e6).toInt ≤ (t).toInt := y1
    exact q_vret rfl (hk I hfr hT)
  | succ f ih =>
    intro k t I hf ht hfr hT
    have htn : t.toInt.toNat = 6 * h + k := by omega
    refine q_ild rfl rfl ?_
    refine q_ic rfl ?_
    refine q_ild rfl rfl ?_
    refine q_mul rfl ?_
    refine q_ic rfl ?_
    refine q_add rfl ?_
    show dw_ok (pr_X12_clouds K) 13 0 0 [some (.ref 404), some (.int x), some (.int t)] [.int (((6 : Int32) * x) + (6 : Int32)), .int t] (n, SH1, I, J)
    obtain ⟨e6, he6⟩ : ∃ z, z = (((6 : Int32) * x) + (6 : Int32)) := ⟨_, rfl⟩
    rw [← he6]
    have ee6 : e6.toInt = ((6 * h + 6 : Nat) : Int) := by rw [he6]; exact ix_a (a := 6 * h) (m := 6) (ix_m (m := 6) hx rfl (by omega)) rfl (by omega)
    refine q_icmp (c := 3) rfl (by decide) (fun h => absurd (show (e6).toInt ≤ (t).toInt from h) (by omega)) (fun y2 => ?_)
    have y2 : (t).toInt < (e6).toInt := y2
    refine q_ald rfl rfl ?_
    refine q_getr rfl sk_404 sr_404_23 ?_
    refine q_ild rfl rfl ?_
    refine q_ic rfl ?_
    refine q_iast rfl sk_411 sn_411 (by omega) (by omega) ?_
    show dw_ok (pr_X12_clouds K) 24 0 0 [some (.ref 404), some (.int x), some (.int t)] [] (n, SH1, (dw_up I 411 (t).toInt.toNat (100 : Int32)), J)
    rw [htn]
    refine q_inc rfl rfl rfl ?_
    show dw_ok (pr_X12_clouds K) 27 0 0 [some (.ref 404), some (.int x), some (.int (t + 1))] [] (n, SH1, (dw_up I 411 (6 * h + k) (100 : Int32)), J)
    show dw_ok (pr_X12_clouds K) 27 0 0 [some (.ref 404), some (.int x), some (.int (t + 1))] [] (n, SH1, (dw_up I 411 (6 * h + k) (100 : Int32)), J)
    obtain ⟨tx, htx⟩ : ∃ z, z = (t + 1) := ⟨_, rfl⟩
    rw [← htx]
    have etx : tx.toInt = ((6 * h + (k + 1) : Nat) : Int) := by rw [htx]; exact ix_a (a := 6 * h + k) (m := 1) ht rfl (by omega)
    refine q_goto rfl ?_
    refine ih (k + 1) tx (dw_up I 411 (6 * h + k) (100 : Int32)) (by omega) etx (fun a ha => (up_row ha).trans (hfr a ha)) (fun t' => ?_)
    by_cases e : t' = 6 * h + k
    · rw [e, up_same, if_pos ⟨by omega, by omega⟩]
    · rw [up_fld e, hT t']
      by_cases q : 6 * h ≤ t' ∧ t' < 6 * h + k
      · rw [if_pos q, if_pos ⟨q.1, by omega⟩]
      · rw [if_neg q, if_neg (fun z => q ⟨z.1, by omega⟩)]
set_option maxRecDepth 8000 in
theorem v_clouds {n : Nat} {I : Nat → Nat → Int32} {J : Nat → Nat → Int64} {K : dw_K} {x : Int32} {h : Nat} (hx : x.toInt = h) (hh : h < 12)
    (hk : ∀ I' : Nat → Nat → Int32, (∀ a, a ≠ 411 → I' a = I a) → (∀ t, I' 411 t = if 6 * h ≤ t ∧ t < 6 * h + 6 then 100 else I 411 t) → K none (n, SH1, I', J)) : t_X12_clouds [.ref 404, .int x] (n, SH1, I, J) K := by
  refine q_body (Nat.le_of_ble_eq_true rfl) ?_
  refine q_ic rfl ?_
  refine q_ild rfl rfl ?_
  refine q_mul rfl ?_
  refine q_ist rfl rfl ?_
  exact mcl_loop (I0 := I) hx hh hk 6 0 (6 * x) I rfl (by rw [ix_m (m := 6) hx rfl (by omega)]; omega) (fun _ _ => rfl) (fun t => (if_neg (fun q => by omega)).symm)
set_option maxRecDepth 8000 in
/-- the model's STEPS with a cloud -/
theorem msk_cloud {I I' : Nat → Nat → Int32} {h : Nat} {R S : Nat → Int32} (hM : MSK I (Nn R) 0 (fun _ => gC R) (gT S) (g0S R S) 0 0) (hh : h < 12) (r : ∀ a, a ≠ 411 → I' a = I a) (h411 : ∀ t, I' 411 t = if 6 * h ≤ t ∧ t < 6 * h + 6 then 100 else I 411 t) : MSK I' (Nn R) 0 (fun _ => gC R) (clT S h) (g0S R S) 0 0 := by
  have r4 := r 404 (by decide)
  refine msk_mk hM (fun τ hτ c hc => ?_) (fun t ht => ?_) (r 416 (by decide)) (r 417 (by decide)) (r 406 (by decide)) (congrFun r4 32) (congrFun r4 33) (congrFun r4 34) (fun c hc => by rw [r 419 (by decide)]; exact hM.2.2.2.2.2 c hc)
  · rw [show cfM I' τ c = cfM I τ c by unfold cfM syM; rw [r 406 (by decide), r 419 (by decide), r 418 (by decide), r 404 (by decide)]]
    exact hM.1 τ (Nat.zero_le τ) hτ c hc
  · have q := hM.2.1 t (Nat.zero_le t) ht
    have q2 := congrArg (fun z : rN => z.2) q
    have q1 := congrArg (fun z : rN => z.1) q
    unfold tnM at q1 q2 ⊢
    rw [r 412 (by decide), r 413 (by decide), r 414 (by decide), r 415 (by decide), h411]
    by_cases e : t < 72 ∧ t / 6 = h
    · rw [clT_y e, if_pos ⟨by omega, by omega⟩]
      exact Prod.ext rfl q2
    · rw [clT_n e, if_neg (fun z => e ⟨by omega, by omega⟩)]
      exact Prod.ext q1 q2
set_option maxRecDepth 8000 in
theorem mcd_loop {n : Nat} {J : Nat → Nat → Int64} {K : dw_K} {R S : Nat → Int32} {I0 : Nat → Nat → Int32} {T : Nat → rN} {s v hr : Int32} (hP : PUR (Nn R) (fun _ => gC R) T (g0S R S) 0)
    (hk : ∀ (t : Int32) (I' : Nat → Nat → Int32), I' 406 = R → (∀ a, a ≠ 404 → a ≠ 416 → a ≠ 417 → I' a = I0 a) → (∀ j, j ≠ 32 → j ≠ 33 → I' 404 j = I0 404 j) → MSK I' (Nn R) 0 (fun _ => gC R) T (g0S R S) 0 72 → dw_ok (pr_X12_clouded K) 65 0 0 [some (.ref 404), some (.int s), some (.int v), some (.int hr), some (.int t)] [] (n, SH1, I', J)) :
    ∀ (f k : Nat) (t : Int32) (I : Nat → Nat → Int32), k + f = 72 → t.toInt = k → I 406 = R → (∀ a, a ≠ 404 → a ≠ 416 → a ≠ 417 → I a = I0 a) → (∀ j, j ≠ 32 → j ≠ 33 → I 404 j = I0 404 j) → MSK I (Nn R) 0 (fun _ => gC R) T (g0S R S) 0 k → dw_ok (pr_X12_clouded K) 46 0 0 [some (.ref 404), some (.int s), some (.int v), some (.int hr), some (.int t)] [] (n, SH1, I, J) := by
  have cm1 : (-1 : Int32).toInt = -1 := rfl
  have k0 : (0 : Int32).toInt = 0 := rfl
  have k1 : (1 : Int32).toInt = 1 := rfl
  intro f
  induction f with
  | zero =>
    intro k t I hf ht hR hF hF4 hM
    obtain rfl : k = 72 := by omega
    refine q_ild rfl rfl ?_
    refine q_ic rfl ?_
    refine q_icmp (c := 4) rfl (by decide) (fun y1 => ?_) (fun h => absurd (show (t).toInt ≤ (71 : Int) from h) (by omega))
    have y1 : (71 : Int) < (t).toInt := y1
    exact hk t I hR hF hF4 hM
  | succ f ih =>
    intro k t I hf ht hR hF hF4 hM
    refine q_ild rfl rfl ?_
    refine q_ic rfl ?_
    refine q_icmp (c := 4) rfl (by decide) (fun h => absurd (show (71 : Int) < (t).toInt from h) (by omega)) (fun y2 => ?_)
    have y2 : (t).toInt ≤ (71 : Int) := y2
    refine q_ald rfl rfl ?_
    refine q_ild rfl rfl ?_
    refine q_callV (as := [.int t]) (rest := []) rfl rfl sk_404 rfl (Nat.le_of_ble_eq_true rfl) ?_
    refine v_mstepR hP hM (by omega) (by omega) (fun I1 g1 g2 hM1 => ?_)
    show dw_ok (pr_X12_clouded K) 59 0 0 [some (.ref 404), some (.int s), some (.int v), some (.int hr), some (.int t)] [] (n, SH1, I1, J)
    refine q_inc rfl rfl rfl ?_
    show dw_ok (pr_X12_clouded K) 62 0 0 [some (.ref 404), some (.int s), some (.int v), some (.int hr), some (.int (t + 1))] [] (n, SH1, I1, J)
    show dw_ok (pr_X12_clouded K) 62 0 0 [some (.ref 404), some (.int s), some (.int v), some (.int hr), some (.int (t + 1))] [] (n, SH1, I1, J)
    obtain ⟨tx, htx⟩ : ∃ z, z = (t + 1) := ⟨_, rfl⟩
    rw [← htx]
    have etx : tx.toInt = ((k + 1 : Nat) : Int) := by rw [htx]; exact ix_1 ht (by omega)
    refine q_goto rfl ?_
    exact ih (k + 1) tx I1 (by omega) etx ((g1 406 (by decide) (by decide) (by decide)).trans hR) (fun a q1 q2 q3 => (g1 a q1 q2 q3).trans (hF a q1 q2 q3)) (fun j q1 q2 => (g2 j q1 q2).trans (hF4 j q1 q2)) hM1
set_option maxRecDepth 8000 in
theorem mcld_loop {n : Nat} {J : Nat → Nat → Int64} {K : dw_K} {R b : Nat → Int32} {s : Int32} (hG : GOK R) (oS : okS R s) (hS : NOK (nX R s)) (h2 : alF (lwP b) (Nn R) = true) (hk : ∀ I' : Nat → Nat → Int32, K (some (.int (cdW R (nX R s) b 12))) (n, SH1, I', J)) :
    ∀ (f k : Nat) (v hr : Int32) (u : Option Value) (I : Nat → Nat → Int32), k + f = 12 → hr.toInt = k → v = cdW R (nX R s) b k → I 406 = R → (∀ c, c < Nn R → I 405 c &&& 255 = b c) → dw_ok (pr_X12_clouded K) 26 0 0 [some (.ref 404), some (.int s), some (.int v), some (.int hr), u] [] (n, SH1, I, J) := by
  have cm1 : (-1 : Int32).toInt = -1 := rfl
  have k0 : (0 : Int32).toInt = 0 := rfl
  have k1 : (1 : Int32).toInt = 1 := rfl
  have hN9 := (gok_N hG).2
  intro f
  induction f with
  | zero =>
    intro k v hr u I hf hh hv hR hb
    obtain rfl : k = 12 := by omega
    refine q_ild rfl rfl ?_
    refine q_ic rfl ?_
    refine q_icmp (c := 3) rfl (by decide) (fun y1 => ?_) (fun h => absurd (show (hr).toInt < (12 : Int) from h) (by omega))
    have y1 : (12 : Int) ≤ (hr).toInt := y1
    refine q_ild rfl rfl ?_
    rw [hv]
    exact q_iret rfl (hk I)
  | succ f ih =>
    intro k v hr u I hf hh hv hR hb
    have eo := of_nat hh (by omega)
    refine q_ild rfl rfl ?_
    refine q_ic rfl ?_
    refine q_icmp (c := 3) rfl (by decide) (fun h => absurd (show (12 : Int) ≤ (hr).toInt from h) (by omega)) (fun y2 => ?_)
    have y2 : (hr).toInt < (12 : Int) := y2
    refine q_ald rfl rfl ?_
    refine q_ild rfl rfl ?_
    refine q_ic rfl ?_
    refine q_callV (as := [.int s, .int (0 : Int32)]) (rest := []) rfl rfl sk_404 rfl (Nat.le_of_ble_eq_true rfl) ?_
    refine v_mstartR (st := 0) hR hG oS hS rfl (fun I9 g0 _ h35 hM hB => ?_)
    show dw_ok (pr_X12_clouded K) 38 0 0 [some (.ref 404), some (.int s), some (.int v), some (.int hr), u] [] (n, SH1, I9, J)
    refine q_ald rfl rfl ?_
    refine q_ild rfl rfl ?_
    refine q_callV (as := [.int hr]) (rest := []) rfl rfl sk_404 rfl (Nat.le_of_ble_eq_true rfl) ?_
    refine v_clouds hh (by omega) (fun I3 r3 t3 => ?_)
    show dw_ok (pr_X12_clouded K) 43 0 0 [some (.ref 404), some (.int s), some (.int v), some (.int hr), u] [] (n, SH1, I3, J)
    refine q_ic rfl ?_
    refine q_ist rfl rfl ?_
    show dw_ok (pr_X12_clouded K) 46 0 0 [some (.ref 404), some (.int s), some (.int v), some (.int hr), some (.int (0 : Int32))] [] (n, SH1, I3, J)
    have hM2 := msk_cloud hM (show k < 12 by omega) r3 t3
    have e3 : I3 406 = R := (r3 406 (by decide)).trans ((g0 406 (by decide) (by decide)).trans hR)
    have hP : PUR (Nn R) (fun _ => gC R) (clT (nX R s) k) (g0S R (nX R s)) 0 := ⟨hN9, fun _ _ _ c hc => gok_c hG hc, fun t _ ht => clT_ok hS t ht, g0_ok hG hS⟩
    refine mcd_loop (I0 := I3) hP (fun t I2 eI2 fr _ hK => ?_) 72 0 0 I3 rfl rfl e3 (fun _ _ _ _ => rfl) (fun _ _ _ => rfl) hM2
    have e405 : ∀ c, c < Nn R → I2 405 c &&& 255 = b c := fun c hc => by rw [fr 405 (by decide) (by decide) (by decide), r3 405 (by decide), g0 405 (by decide) (by decide)]; exact hb c hc
    show dw_ok (pr_X12_clouded K) 65 0 0 [some (.ref 404), some (.int s), some (.int v), some (.int hr), some (.int t)] [] (n, SH1, I2, J)
    refine q_ild rfl rfl ?_
    refine q_ald rfl rfl ?_
    refine q_callV (as := []) (rest := [.int v]) rfl rfl sk_404 rfl (Nat.le_of_ble_eq_true rfl) ?_
    refine v_misLawn (R := R) (b := b) (W := clW R (nX R s) k) eI2 hG e405 (fun c hc => hK.2.2.1.2.1 c hc) h2 (fun w_ hw => ?_)
    rcases hw with ⟨rfl, hw⟩ | ⟨rfl, hw⟩
    · show dw_ok (pr_X12_clouded K) 70 0 0 [some (.ref 404), some (.int s), some (.int v), some (.int hr), some (.int t)] [.int (1 : Int32), .int v] (n, SH1, I2, J)
      refine q_if (c := 0) rfl (by decide) (fun h => absurd (show (1 : Int) = 0 from h) (by decide)) (fun y3 => ?_)
      have y3 : (1 : Int) ≠ 0 := y3
      refine q_ic rfl ?_
      refine q_ild rfl rfl ?_
      refine q_ishl rfl ?_
      refine q_goto rfl ?_
      refine q_ior rfl ?_
      refine q_ist rfl rfl ?_
      show dw_ok (pr_X12_clouded K) 82 0 0 [some (.ref 404), some (.int s), some (.int (v ||| ((1 : Int32) <<< (hr &&& 31)))), some (.int hr), some (.int t)] [] (n, SH1, I2, J)
      refine q_inc rfl rfl rfl ?_
      show dw_ok (pr_X12_clouded K) 85 0 0 [some (.ref 404), some (.int s), some (.int (v ||| ((1 : Int32) <<< (hr &&& 31)))), some (.int (hr + 1)), some (.int t)] [] (n, SH1, I2, J)
      show dw_ok (pr_X12_clouded K) 85 0 0 [some (.ref 404), some (.int s), some (.int (v ||| ((1 : Int32) <<< (hr &&& 31)))), some (.int (hr + 1)), some (.int t)] [] (n, SH1, I2, J)
      obtain ⟨hx, hhx⟩ : ∃ z, z = (hr + 1) := ⟨_, rfl⟩
      rw [← hhx]
      have ehx : hx.toInt = ((k + 1 : Nat) : Int) := by rw [hhx]; exact ix_1 hh (by omega)
      refine q_goto rfl ?_
      exact ih (k + 1) (v ||| ((1 : Int32) <<< (hr &&& 31))) hx _ I2 (by omega) ehx (by rw [cd_y hw, hv, ← eo]) eI2 e405
    · show dw_ok (pr_X12_clouded K) 70 0 0 [some (.ref 404), some (.int s), some (.int v), some (.int hr), some (.int t)] [.int (0 : Int32), .int v] (n, SH1, I2, J)
      refine q_if (c := 0) rfl (by decide) (fun y4 => ?_) (fun h => absurd (show (0 : Int) ≠ 0 from h) (by decide))
      have y4 : (0 : Int) = 0 := y4
      refine q_ic rfl ?_
      refine q_ior rfl ?_
      refine q_ist rfl rfl ?_
      show dw_ok (pr_X12_clouded K) 82 0 0 [some (.ref 404), some (.int s), some (.int (v ||| (0 : Int32))), some (.int hr), some (.int t)] [] (n, SH1, I2, J)
      refine q_inc rfl rfl rfl ?_
      show dw_ok (pr_X12_clouded K) 85 0 0 [some (.ref 404), some (.int s), some (.int (v ||| (0 : Int32))), some (.int (hr + 1)), some (.int t)] [] (n, SH1, I2, J)
      show dw_ok (pr_X12_clouded K) 85 0 0 [some (.ref 404), some (.int s), some (.int (v ||| (0 : Int32))), some (.int (hr + 1)), some (.int t)] [] (n, SH1, I2, J)
      obtain ⟨hx, hhx⟩ : ∃ z, z = (hr + 1) := ⟨_, rfl⟩
      rw [← hhx]
      have ehx : hx.toInt = ((k + 1 : Nat) : Int) := by rw [hhx]; exact ix_1 hh (by omega)
      refine q_goto rfl ?_
      exact ih (k + 1) (v ||| (0 : Int32)) hx _ I2 (by omega) ehx (by rw [cd_n hw, hv]; exact Int32.or_zero) eI2 e405
set_option maxRecDepth 8000 in
set_option maxHeartbeats 4000000 in
theorem v_mclouded {n : Nat} {I : Nat → Nat → Int32} {J : Nat → Nat → Int64} {K : dw_K} {R b : Nat → Int32} {a1 : Int32} (hR : I 406 = R) (hG : GOK R) (hNN : ∀ x : Int32, okS R x → NOK (nX R x)) (hb : ∀ c, c < Nn R → (c : Int) < (I 404 2).toInt → I 405 c &&& 255 = b c) (hk : ∀ (w : Int32) (I' : Nat → Nat → Int32), w.toInt = aClouded R b (I 404 2).toInt a1 → K (some (.int w)) (n, SH1, I', J)) : t_X12_clouded [.ref 404, .int a1] (n, SH1, I, J) K := by
  have cm1 : (-1 : Int32).toInt = -1 := rfl
  have k0 : (0 : Int32).toInt = 0 := rfl
  have k1 : (1 : Int32).toInt = 1 := rfl
  refine q_body (Nat.le_of_ble_eq_true rfl) ?_
  refine q_ald rfl rfl ?_
  refine q_ic rfl ?_
  refine q_puti rfl sk_404 ?_
  show dw_ok (pr_X12_clouded K) 5 0 0 [some (.ref 404), some (.int a1), none, none, none] [] (n, SH1, (dw_up I 404 0 (0 : Int32)), J)
  refine q_ald rfl rfl ?_
  refine q_callV (as := []) (rest := []) rfl rfl sk_404 rfl (Nat.le_of_ble_eq_true rfl) ?_
  obtain ⟨I0, hI0⟩ : ∃ X, X = (dw_up I 404 0 (0 : Int32)) := ⟨_, rfl⟩
  rw [← hI0]
  have r0 : ∀ a, a ≠ 404 → I0 a = I a := fun a p => by rw [hI0]; exact up_row p
  have s2 : I0 404 2 = I 404 2 := by rw [hI0]; exact up_fld (by decide)
  obtain ⟨b', hb'⟩ : ∃ b' : Nat → Int32, b' = fun c => I0 405 c &&& 255 := ⟨_, rfl⟩
  refine v_takesLawn (R := R) (b := b') ((r0 406 (by decide)).trans hR) hG (fun c _ => by rw [hb']) (fun w_ I1 r1 hw => ?_)
  rw [s2] at hw
  have e1 : I1 406 = R := (r1 406 (by decide)).trans ((r0 406 (by decide)).trans hR)
  have ebb : (I 404 2).toInt = Nn R → ∀ c, c < Nn R → b' c = b c := fun e c hc => by rw [hb']; show I0 405 c &&& 255 = b c; rw [r0 405 (by decide)]; exact hb c hc (by omega)
  have eok : lwOK R b' (I 404 2).toInt ↔ lwOK R b (I 404 2).toInt := ⟨fun z => ⟨z.1, (al_eq (fun c hc => by unfold lwP; rw [ebb z.1 c hc])).symm.trans z.2⟩, fun z => ⟨z.1, (al_eq (fun c hc => by unfold lwP; rw [ebb z.1 c hc])).trans z.2⟩⟩
  rcases hw with ⟨rfl, hw⟩ | ⟨rfl, hw⟩
  · have ok := eok.mp hw
    have e405 : ∀ c, c < Nn R → I1 405 c &&& 255 = b c := fun c hc => by rw [r1 405 (by decide), r0 405 (by decide)]; exact hb c hc (by have := ok.1; omega)
    show dw_ok (pr_X12_clouded K) 9 0 0 [some (.ref 404), some (.int a1), none, none, none] [.int (1 : Int32)] (n, SH1, I1, J)
    refine q_if (c := 0) rfl (by decide) (fun h => absurd (show (1 : Int) = 0 from h) (by decide)) (fun y1 => ?_)
    have y1 : (1 : Int) ≠ 0 := y1
    refine q_ald rfl rfl ?_
    refine q_ild rfl rfl ?_
    refine q_callV (as := [.int a1]) (rest := []) rfl rfl sk_404 rfl (Nat.le_of_ble_eq_true rfl) ?_
    refine v_isNight (fun w_ oS => ?_)
    rw [e1] at oS
    rcases oS with ⟨rfl, oS⟩ | ⟨rfl, oS⟩
    · show dw_ok (pr_X12_clouded K) 17 0 0 [some (.ref 404), some (.int a1), none, none, none] [.int (1 : Int32)] (n, SH1, I1, J)
      refine q_if (c := 1) rfl (by decide) (fun y2 => ?_) (fun h => absurd (show (1 : Int) = 0 from h) (by decide))
      have y2 : (1 : Int) ≠ 0 := y2
      refine q_ic rfl ?_
      refine q_ist rfl rfl ?_
      show dw_ok (pr_X12_clouded K) 24 0 0 [some (.ref 404), some (.int a1), some (.int (0 : Int32)), none, none] [] (n, SH1, I1, J)
      refine q_ic rfl ?_
      refine q_ist rfl rfl ?_
      show dw_ok (pr_X12_clouded K) 26 0 0 [some (.ref 404), some (.int a1), some (.int (0 : Int32)), some (.int (0 : Int32)), none] [] (n, SH1, I1, J)
      exact mcld_loop hG oS (hNN a1 oS) ok.2 (fun I' => hk _ I' (cld_y ⟨ok, oS⟩).symm) 12 0 0 0 _ I1 rfl rfl rfl e1 e405
    · show dw_ok (pr_X12_clouded K) 17 0 0 [some (.ref 404), some (.int a1), none, none, none] [.int (0 : Int32)] (n, SH1, I1, J)
      refine q_if (c := 1) rfl (by decide) (fun h => absurd (show (0 : Int) ≠ 0 from h) (by decide)) (fun y3 => ?_)
      have y3 : (0 : Int) = 0 := y3
      refine q_ic rfl ?_
      exact q_iret rfl (hk _ I1 (cm1.trans (cld_n (fun z => oS z.2)).symm))
  · show dw_ok (pr_X12_clouded K) 9 0 0 [some (.ref 404), some (.int a1), none, none, none] [.int (0 : Int32)] (n, SH1, I1, J)
    refine q_if (c := 0) rfl (by decide) (fun y4 => ?_) (fun h => absurd (show (0 : Int) ≠ 0 from h) (by decide))
    have y4 : (0 : Int) = 0 := y4
    refine q_ic rfl ?_
    exact q_iret rfl (hk _ I1 (cm1.trans (cld_n (fun z => hw (eok.mpr z.1))).symm))
