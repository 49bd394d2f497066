/-! ===== a lawn told ===== -/
def alF (p : Nat → Bool) : Nat → Bool
  | 0 => true
  | k + 1 => alF p k && p k
set_option maxRecDepth 8000 in
theorem al_y {p : Nat → Bool} : ∀ {k : Nat}, (∀ c, c < k → p c = true) → alF p k = true
  | 0, _ => rfl
  | k + 1, h => by
    show (alF p k && p k) = true
    rw [al_y (fun c hc => h c (by omega)), h k (by omega), Bool.and_true]
set_option maxRecDepth 8000 in
theorem al_n {p : Nat → Bool} : ∀ {k : Nat}, (∃ c, c < k ∧ p c = false) → alF p k = false
  | 0, h => by obtain ⟨c, hc, -⟩ := h; exact absurd hc (Nat.not_lt_zero c)
  | k + 1, h => by
    show (alF p k && p k) = false
    obtain ⟨c, hc, q⟩ := h
    by_cases e : c = k
    · rw [← e, q, Bool.and_false]
    · rw [al_n ⟨c, by omega, q⟩, Bool.false_and]
set_option maxRecDepth 8000 in
theorem al_eq {p q : Nat → Bool} : ∀ {k : Nat}, (∀ c, c < k → p c = q c) → alF p k = alF q k
  | 0, _ => rfl
  | k + 1, h => by
    show (alF p k && p k) = (alF q k && q k)
    rw [al_eq (fun c hc => h c (by omega)), h k (by omega)]
def lwP (b : Nat → Int32) : Nat → Bool := fun c => decide ((b c).toInt ≤ 2)
def lkP (b W : Nat → Int32) : Nat → Bool := fun c => decide ((b c).toInt = 2 ∨ (b c).toInt = (if 0 < (W c).toInt then 1 else 0))
set_option maxRecDepth 8000 in
theorem lwP_y {b : Nat → Int32} {c : Nat} (h : (b c).toInt ≤ 2) : lwP b c = true := decide_eq_true h
set_option maxRecDepth 8000 in
theorem lwP_n {b : Nat → Int32} {c : Nat} (h : ¬ (b c).toInt ≤ 2) : lwP b c = false := decide_eq_false h
set_option maxRecDepth 8000 in
theorem lkP_y {b W : Nat → Int32} {c : Nat} (h : (b c).toInt = 2 ∨ (b c).toInt = (if 0 < (W c).toInt then 1 else 0)) : lkP b W c = true := decide_eq_true h
set_option maxRecDepth 8000 in
theorem lkP_n {b W : Nat → Int32} {c : Nat} (h : ¬ ((b c).toInt = 2 ∨ (b c).toInt = (if 0 < (W c).toInt then 1 else 0))) : lkP b W c = false := decide_eq_false h
set_option maxRecDepth 8000 in
theorem lk_w {W : Nat → Int32} {c : Nat} : (0 < (W c).toInt → (if 0 < (W c).toInt then (1 : Int) else 0) = 1) ∧ (¬ 0 < (W c).toInt → (if 0 < (W c).toInt then (1 : Int) else 0) = 0) := ⟨fun h => if_pos h, fun h => if_neg h⟩
/-- the bytes tell a lawn -/
def lwOK (R b : Nat → Int32) (sz : Int) : Prop := sz = Nn R ∧ alF (lwP b) (Nn R) = true
set_option maxRecDepth 8000 in
theorem v_byteC {n : Nat} {I : Nat → Nat → Int32} {J : Nat → Nat → Int64} {K : dw_K} {i : Int32} {k : Nat} (hi : i.toInt = k) (h1 : k < 940) (hk : K (some (.int (I 2 k))) (n, SH1, I, J)) : t_X9_byteAt [.ref 1, .int i] (n, SH1, I, J) K := by
  refine v_byteAt (by omega) (by omega) ?_
  rw [show i.toInt.toNat = k by omega]; exact hk
set_option maxRecDepth 8000 in
theorem v_octM {n : Nat} {I : Nat → Nat → Int32} {J : Nat → Nat → Int64} {K : dw_K} {i : Int32} {k : Nat} (hi : i.toInt = k) (h1 : k < 940) (hk : K (some (.int (I 405 k &&& 255))) (n, SH1, I, J)) : t_X12_octet [.ref 404, .int i] (n, SH1, I, J) K := by
  refine v_octet (by omega) (by omega) ?_
  rw [show i.toInt.toNat = k by omega]; exact hk
set_option maxRecDepth 8000 in
theorem isl_loop {n : Nat} {I : Nat → Nat → Int32} {J : Nat → Nat → Int64} {K : dw_K} {sz : Int32} {N : Nat} {b : Nat → Int32} (hs : sz.toInt = N) (hN9 : N ≤ 144) (hb : ∀ c, c < N → I 2 c = b c)
    (hk : ∀ w : Int32, (w = 1 ∧ alF (lwP b) N = true) ∨ (w = 0 ∧ alF (lwP b) N = false) → K (some (.int w)) (n, SH1, I, J)) :
    ∀ (f k : Nat) (c : Int32), k + f = N → c.toInt = k → (∀ j, j < k → lwP b j = true) → dw_ok (pr_X11_isLawn K) 18 0 0 [some (.ref 0), some (.int sz), some (.int c)] [] (n, SH1, I, J) := by
  have k2 : (2 : Int32).toInt = 2 := rfl
  intro f
  induction f with
  | zero =>
    intro k c hf hc hp
    refine q_ild rfl rfl ?_
    refine q_ild rfl rfl ?_
    refine q_icmp (c := 3) rfl (by decide) (fun y1 => ?_) (fun h => absurd (show (c).toInt < (sz).toInt from h) (by omega))
    have y1 : (sz).toInt ≤ (c).toInt := y1
    refine q_ic rfl ?_
    exact q_zret rfl (Or.inr rfl) (hk 1 (Or.inl ⟨rfl, al_y (fun j hj => hp j (by omega))⟩))
  | succ f ih =>
    intro k c hf hc hp
    have eb : (I 2 k).toInt = (b k).toInt := by rw [hb k (by omega)]
    refine q_ild rfl rfl ?_
    refine q_ild rfl rfl ?_
    refine q_icmp (c := 3) rfl (by decide) (fun h => absurd (show (sz).toInt ≤ (c).toInt from h) (by omega)) (fun y2 => ?_)
    have y2 : (c).toInt < (sz).toInt := y2
    refine q_ald rfl rfl ?_
    refine q_getr rfl sk_0 sr_0_0 ?_
    refine q_ild rfl rfl ?_
    refine q_callV (as := [.int c]) (rest := []) rfl rfl sk_1 rfl (Nat.le_of_ble_eq_true rfl) ?_
    refine v_byteC (k := k) hc (by omega) ?_
    show dw_ok (pr_X11_isLawn K) 31 0 0 [some (.ref 0), some (.int sz), some (.int c)] [.int (I 2 k)] (n, SH1, I, J)
    refine q_ic rfl ?_
    refine q_icmp (c := 5) rfl (by decide) (fun y3 => ?_) (fun y3 => ?_)
    · have y3 : ((I 2 k)).toInt ≤ (2 : Int) := y3
      refine q_inc rfl rfl rfl ?_
      show dw_ok (pr_X11_isLawn K) 40 0 0 [some (.ref 0), some (.int sz), some (.int (c + 1))] [] (n, SH1, I, J)
      show dw_ok (pr_X11_isLawn K) 40 0 0 [some (.ref 0), some (.int sz), some (.int (c + 1))] [] (n, SH1, I, J)
      obtain ⟨cx, hcx⟩ : ∃ z, z = (c + 1) := ⟨_, rfl⟩
      rw [← hcx]
      have ecx : cx.toInt = ((k + 1 : Nat) : Int) := by rw [hcx]; exact ix_1 hc (by omega)
      refine q_goto rfl ?_
      refine ih (k + 1) cx (by omega) ecx (fun j hj => ?_)
      by_cases e : j = k
      · rw [e]; exact lwP_y (by omega)
      · exact hp j (by omega)
    · have y3 : (2 : Int) < ((I 2 k)).toInt := y3
      refine q_ic rfl ?_
      exact q_zret rfl (Or.inl rfl) (hk 0 (Or.inr ⟨rfl, al_n ⟨k, by omega, lwP_n (by omega)⟩⟩))
set_option maxRecDepth 8000 in
theorem v_isLawnC {n : Nat} {I : Nat → Nat → Int32} {J : Nat → Nat → Int64} {K : dw_K} {R b : Nat → Int32} (hG : GOK R) (h40 : I 4 0 = R 0) (h41 : I 4 1 = R 1) {sz : Int32} (hb : ∀ c, c < Nn R → I 2 c = b c) (hk : ∀ w : Int32, (w = 1 ∧ lwOK R b sz.toInt) ∨ (w = 0 ∧ ¬ lwOK R b sz.toInt) → K (some (.int w)) (n, SH1, I, J)) : t_X11_isLawn [.ref 0, .int sz] (n, SH1, I, J) K := by
  refine q_body (Nat.le_of_ble_eq_true rfl) ?_
  refine q_ild rfl rfl ?_
  refine q_ald rfl rfl ?_
  refine q_getr rfl sk_0 sr_0_1 ?_
  refine q_getr rfl sk_3 sr_3_1 ?_
  refine q_callV (as := []) (rest := [.int sz]) rfl rfl sk_4 rfl (Nat.le_of_ble_eq_true rfl) ?_
  refine v_gsize ?_
  show dw_ok (pr_X11_isLawn K) 11 0 0 [some (.ref 0), some (.int sz), none] [.int (I 4 0 * I 4 1), .int sz] (n, SH1, I, J)
  rw [show I 4 0 = R 0 from h40, show I 4 1 = R 1 from h41]
  obtain ⟨nv, hnv⟩ : ∃ z, z = R 0 * R 1 := ⟨_, rfl⟩
  rw [← hnv]
  have env : nv.toInt = Nn R := by rw [hnv]; exact (gok_N hG).1
  show dw_ok (pr_X11_isLawn K) 11 0 0 [some (.ref 0), some (.int sz), none] [.int nv, .int sz] (n, SH1, I, J)
  refine q_icmp (c := 0) rfl (by decide) (fun y1 => ?_) (fun y1 => ?_)
  · have y1 : (sz).toInt = (nv).toInt := y1
    refine q_ic rfl ?_
    refine q_ist rfl rfl ?_
    show dw_ok (pr_X11_isLawn K) 18 0 0 [some (.ref 0), some (.int sz), some (.int (0 : Int32))] [] (n, SH1, I, J)
    have hs : sz.toInt = Nn R := by omega
    refine isl_loop (b := b) hs (gok_N hG).2 hb (fun w hw => hk w ?_) (Nn R) 0 0 (by omega) rfl (fun j hj => absurd hj (Nat.not_lt_zero j))
    rcases hw with ⟨e, q⟩ | ⟨e, q⟩
    · exact Or.inl ⟨e, hs, q⟩
    · exact Or.inr ⟨e, fun z => by rw [z.2] at q; exact absurd q (by decide)⟩
  · have y1 : (sz).toInt ≠ (nv).toInt := y1
    refine q_ic rfl ?_
    exact q_zret rfl (Or.inl rfl) (hk 0 (Or.inr ⟨rfl, fun q => by have := q.1; omega⟩))
set_option maxRecDepth 8000 in
theorem lks_loop {n : Nat} {I : Nat → Nat → Int32} {J : Nat → Nat → Int64} {K : dw_K} {nv : Int32} {N : Nat} {b W : Nat → Int32} (hs : nv.toInt = N) (hN9 : N ≤ 144) (hn : (I 164 1).toInt = N) (hb : ∀ c, c < N → I 2 c = b c) (hW : ∀ c, c < N → I (164 + 14) c = W c)
    (hk : ∀ w : Int32, (w = 1 ∧ alF (lkP b W) N = true) ∨ (w = 0 ∧ alF (lkP b W) N = false) → K (some (.int w)) (n, SH1, I, J)) :
    ∀ (f k : Nat) (c : Int32) (u v : Option Value), k + f = N → c.toInt = k → (∀ j, j < k → lkP b W j = true) → dw_ok (pr_X11_looksSo K) 13 0 0 [some (.ref 0), some (.ref 164), some (.int nv), some (.int c), u, v] [] (n, SH1, I, J) := by
  have k2 : (2 : Int32).toInt = 2 := rfl
  have k1 : (1 : Int32).toInt = 1 := rfl
  have k0 : (0 : Int32).toInt = 0 := rfl
  intro f
  induction f with
  | zero =>
    intro k c u v hf hc hp
    refine q_ild rfl rfl ?_
    refine q_ild rfl rfl ?_
    refine q_icmp (c := 3) rfl (by decide) (fun y1 => ?_) (fun h => absurd (show (c).toInt < (nv).toInt from h) (by omega))
    have y1 : (nv).toInt ≤ (c).toInt := y1
    refine q_ic rfl ?_
    exact q_zret rfl (Or.inr rfl) (hk 1 (Or.inl ⟨rfl, al_y (fun j hj => hp j (by omega))⟩))
  | succ f ih =>
    intro k c u v hf hc hp
    have eb : (I 2 k).toInt = (b k).toInt := by rw [hb k (by omega)]
    have eW : (I (164 + 14) k).toInt = (W k).toInt := by rw [hW k (by omega)]
    obtain ⟨lw1, lw0⟩ := lk_w (W := W) (c := k)
    refine q_ild rfl rfl ?_
    refine q_ild rfl rfl ?_
    refine q_icmp (c := 3) rfl (by decide) (fun h => absurd (show (nv).toInt ≤ (c).toInt from h) (by omega)) (fun y2 => ?_)
    have y2 : (c).toInt < (nv).toInt := y2
    refine q_ald rfl rfl ?_
    refine q_getr rfl sk_0 sr_0_0 ?_
    refine q_ild rfl rfl ?_
    refine q_callV (as := [.int c]) (rest := []) rfl rfl sk_1 rfl (Nat.le_of_ble_eq_true rfl) ?_
    refine v_byteC (k := k) hc (by omega) ?_
    show dw_ok (pr_X11_looksSo K) 26 0 0 [some (.ref 0), some (.ref 164), some (.int nv), some (.int c), u, v] [.int (I 2 k)] (n, SH1, I, J)
    refine q_ist rfl rfl ?_
    show dw_ok (pr_X11_looksSo K) 28 0 0 [some (.ref 0), some (.ref 164), some (.int nv), some (.int c), some (.int (I 2 k)), v] [] (n, SH1, I, J)
    refine q_ald rfl rfl ?_
    refine q_ild rfl rfl ?_
    refine q_callV (as := [.int c]) (rest := []) rfl rfl sk_164 rfl (Nat.le_of_ble_eq_true rfl) ?_
    refine v_waterOf (A := 164) (N := N) (k := k) (rt_ok (by decide)) hc hn hN9 (by omega) ?_
    show dw_ok (pr_X11_looksSo K) 33 0 0 [some (.ref 0), some (.ref 164), some (.int nv), some (.int c), some (.int (I 2 k)), v] [.int (I (164 + 14) k)] (n, SH1, I, J)
    refine q_if (c := 5) rfl (by decide) (fun y3 => ?_) (fun y3 => ?_)
    · have y3 : ((I (164 + 14) k)).toInt ≤ 0 := y3
      refine q_ic rfl ?_
      refine q_ist rfl rfl ?_
      show dw_ok (pr_X11_looksSo K) 43 0 0 [some (.ref 0), some (.ref 164), some (.int nv), some (.int c), some (.int (I 2 k)), some (.int (0 : Int32))] [] (n, SH1, I, J)
      refine q_ild rfl rfl ?_
      refine q_ic rfl ?_
      refine q_icmp (c := 0) rfl (by decide) (fun y4 => ?_) (fun y4 => ?_)
      · have y4 : ((I 2 k)).toInt = (2 : Int) := y4
        refine q_inc rfl rfl rfl ?_
        show dw_ok (pr_X11_looksSo K) 61 0 0 [some (.ref 0), some (.ref 164), some (.int nv), some (.int (c + 1)), some (.int (I 2 k)), some (.int (0 : Int32))] [] (n, SH1, I, J)
        show dw_ok (pr_X11_looksSo K) 61 0 0 [some (.ref 0), some (.ref 164), some (.int nv), some (.int (c + 1)), some (.int (I 2 k)), some (.int (0 : Int32))] [] (n, SH1, I, J)
        obtain ⟨cx, hcx⟩ : ∃ z, z = (c + 1) := ⟨_, rfl⟩
        rw [← hcx]
        have ecx : cx.toInt = ((k + 1 : Nat) : Int) := by rw [hcx]; exact ix_1 hc (by omega)
        refine q_goto rfl ?_
        have lw := lw0 (by omega)
        refine ih (k + 1) cx _ _ (by omega) ecx (fun j hj => ?_)
        by_cases e : j = k
        · rw [e]; exact lkP_y (by rw [lw]; omega)
        · exact hp j (by omega)
      · have y4 : ((I 2 k)).toInt ≠ (2 : Int) := y4
        refine q_ild rfl rfl ?_
        refine q_ild rfl rfl ?_
        refine q_icmp (c := 0) rfl (by decide) (fun y5 => ?_) (fun y5 => ?_)
        · have y5 : ((I 2 k)).toInt = (0 : Int) := y5
          refine q_inc rfl rfl rfl ?_
          show dw_ok (pr_X11_looksSo K) 61 0 0 [some (.ref 0), some (.ref 164), some (.int nv), some (.int (c + 1)), some (.int (I 2 k)), some (.int (0 : Int32))] [] (n, SH1, I, J)
          show dw_ok (pr_X11_looksSo K) 61 0 0 [some (.ref 0), some (.ref 164), some (.int nv), some (.int (c + 1)), some (.int (I 2 k)), some (.int (0 : Int32))] [] (n, SH1, I, J)
          obtain ⟨cx, hcx⟩ : ∃ z, z = (c + 1) := ⟨_, rfl⟩
          rw [← hcx]
          have ecx : cx.toInt = ((k + 1 : Nat) : Int) := by rw [hcx]; exact ix_1 hc (by omega)
          refine q_goto rfl ?_
          have lw := lw0 (by omega)
          refine ih (k + 1) cx _ _ (by omega) ecx (fun j hj => ?_)
          by_cases e : j = k
          · rw [e]; exact lkP_y (by rw [lw]; omega)
          · exact hp j (by omega)
        · have y5 : ((I 2 k)).toInt ≠ (0 : Int) := y5
          refine q_ic rfl ?_
          have lw := lw0 (by omega)
          exact q_zret rfl (Or.inl rfl) (hk 0 (Or.inr ⟨rfl, al_n ⟨k, by omega, lkP_n (by rw [lw]; omega)⟩⟩))
    · have y3 : 0 < ((I (164 + 14) k)).toInt := y3
      refine q_ic rfl ?_
      refine q_goto rfl ?_
      refine q_ist rfl rfl ?_
      show dw_ok (pr_X11_looksSo K) 43 0 0 [some (.ref 0), some (.ref 164), some (.int nv), some (.int c), some (.int (I 2 k)), some (.int (1 : Int32))] [] (n, SH1, I, J)
      refine q_ild rfl rfl ?_
      refine q_ic rfl ?_
      refine q_icmp (c := 0) rfl (by decide) (fun y6 => ?_) (fun y6 => ?_)
      · have y6 : ((I 2 k)).toInt = (2 : Int) := y6
        refine q_inc rfl rfl rfl ?_
        show dw_ok (pr_X11_looksSo K) 61 0 0 [some (.ref 0), some (.ref 164), some (.int nv), some (.int (c + 1)), some (.int (I 2 k)), some (.int (1 : Int32))] [] (n, SH1, I, J)
        show dw_ok (pr_X11_looksSo K) 61 0 0 [some (.ref 0), some (.ref 164), some (.int nv), some (.int (c + 1)), some (.int (I 2 k)), some (.int (1 : Int32))] [] (n, SH1, I, J)
        obtain ⟨cx, hcx⟩ : ∃ z, z = (c + 1) := ⟨_, rfl⟩
        rw [← hcx]
        have ecx : cx.toInt = ((k + 1 : Nat) : Int) := by rw [hcx]; exact ix_1 hc (by omega)
        refine q_goto rfl ?_
        have lw := lw1 (by omega)
        refine ih (k + 1) cx _ _ (by omega) ecx (fun j hj => ?_)
        by_cases e : j = k
        · rw [e]; exact lkP_y (by rw [lw]; omega)
        · exact hp j (by omega)
      · have y6 : ((I 2 k)).toInt ≠ (2 : Int) := y6
        refine q_ild rfl rfl ?_
        refine q_ild rfl rfl ?_
        refine q_icmp (c := 0) rfl (by decide) (fun y7 => ?_) (fun y7 => ?_)
        · have y7 : ((I 2 k)).toInt = (1 : Int) := y7
          refine q_inc rfl rfl rfl ?_
          show dw_ok (pr_X11_looksSo K) 61 0 0 [some (.ref 0), some (.ref 164), some (.int nv), some (.int (c + 1)), some (.int (I 2 k)), some (.int (1 : Int32))] [] (n, SH1, I, J)
          show dw_ok (pr_X11_looksSo K) 61 0 0 [some (.ref 0), some (.ref 164), some (.int nv), some (.int (c + 1)), some (.int (I 2 k)), some (.int (1 : Int32))] [] (n, SH1, I, J)
          obtain ⟨cx, hcx⟩ : ∃ z, z = (c + 1) := ⟨_, rfl⟩
          rw [← hcx]
          have ecx : cx.toInt = ((k + 1 : Nat) : Int) := by rw [hcx]; exact ix_1 hc (by omega)
          refine q_goto rfl ?_
          have lw := lw1 (by omega)
          refine ih (k + 1) cx _ _ (by omega) ecx (fun j hj => ?_)
          by_cases e : j = k
          · rw [e]; exact lkP_y (by rw [lw]; omega)
          · exact hp j (by omega)
        · have y7 : ((I 2 k)).toInt ≠ (1 : Int) := y7
          refine q_ic rfl ?_
          have lw := lw1 (by omega)
          exact q_zret rfl (Or.inl rfl) (hk 0 (Or.inr ⟨rfl, al_n ⟨k, by omega, lkP_n (by rw [lw]; omega)⟩⟩))
set_option maxRecDepth 8000 in
theorem v_looksSo {n : Nat} {I : Nat → Nat → Int32} {J : Nat → Nat → Int64} {K : dw_K} {R b W : Nat → Int32} (hG : GOK R) (h40 : I 4 0 = R 0) (h41 : I 4 1 = R 1) (hn : (I 164 1).toInt = Nn R) (hb : ∀ c, c < Nn R → I 2 c = b c) (hW : ∀ c, c < Nn R → I (164 + 14) c = W c) (hk : ∀ w : Int32, (w = 1 ∧ alF (lkP b W) (Nn R) = true) ∨ (w = 0 ∧ alF (lkP b W) (Nn R) = false) → K (some (.int w)) (n, SH1, I, J)) : t_X11_looksSo [.ref 0, .ref 164] (n, SH1, I, J) K := by
  refine q_body (Nat.le_of_ble_eq_true rfl) ?_
  refine q_ald rfl rfl ?_
  refine q_getr rfl sk_0 sr_0_1 ?_
  refine q_getr rfl sk_3 sr_3_1 ?_
  refine q_callV (as := []) (rest := []) rfl rfl sk_4 rfl (Nat.le_of_ble_eq_true rfl) ?_
  refine v_gsize ?_
  show dw_ok (pr_X11_looksSo K) 10 0 0 [some (.ref 0), some (.ref 164), none, none, none, none] [.int (I 4 0 * I 4 1)] (n, SH1, I, J)
  rw [show I 4 0 = R 0 from h40, show I 4 1 = R 1 from h41]
  obtain ⟨nv, hnv⟩ : ∃ z, z = R 0 * R 1 := ⟨_, rfl⟩
  rw [← hnv]
  have env : nv.toInt = Nn R := by rw [hnv]; exact (gok_N hG).1
  show dw_ok (pr_X11_looksSo K) 10 0 0 [some (.ref 0), some (.ref 164), none, none, none, none] [.int nv] (n, SH1, I, J)
  refine q_ist rfl rfl ?_
  show dw_ok (pr_X11_looksSo K) 11 0 0 [some (.ref 0), some (.ref 164), some (.int nv), none, none, none] [] (n, SH1, I, J)
  refine q_ic rfl ?_
  refine q_ist rfl rfl ?_
  show dw_ok (pr_X11_looksSo K) 13 0 0 [some (.ref 0), some (.ref 164), some (.int nv), some (.int (0 : Int32)), none, none] [] (n, SH1, I, J)
  exact lks_loop env (gok_N hG).2 hn hb hW hk (Nn R) 0 0 _ _ (by omega) rfl (fun j hj => absurd hj (Nat.not_lt_zero j))
