/-! ===== the driest square ===== -/
/-- the water of the first k CELLS of a square of side m -/
def sqF (W : Nat → Int32) (C X Y m : Nat) : Nat → Int32
  | 0 => 0
  | k + 1 => sqF W C X Y m k + W ((Y + k / m) * C + (X + k % m))
set_option maxRecDepth 8000 in
theorem sq_s {W : Nat → Int32} {C X Y m i j : Nat} (hj : j < m) : sqF W C X Y m (m * i + (j + 1)) = sqF W C X Y m (m * i + j) + W ((Y + i) * C + (X + j)) := by
  show sqF W C X Y m (m * i + j) + W ((Y + (m * i + j) / m) * C + (X + (m * i + j) % m)) = _
  rw [Nat.mul_add_div (by omega), Nat.div_eq_of_lt hj, Nat.mul_add_mod, Nat.mod_eq_of_lt hj, Nat.add_zero]
set_option maxRecDepth 8000 in
theorem sq_b {W : Nat → Int32} {C X Y m : Nat} : ∀ k : Nat, k ≤ 144 → (∀ i, i < k → 0 ≤ (W ((Y + i / m) * C + (X + i % m))).toInt ∧ (W ((Y + i / m) * C + (X + i % m))).toInt ≤ 100000) → 0 ≤ (sqF W C X Y m k).toInt ∧ (sqF W C X Y m k).toInt ≤ 100000 * (k : Int)
  | 0, _, _ => ⟨Int.le_refl 0, Int.le_refl 0⟩
  | k + 1, hk, h => by
    have ih := sq_b (W := W) (C := C) (X := X) (Y := Y) (m := m) k (by omega) (fun i hi => h i (by omega))
    have q := h k (by omega)
    show 0 ≤ (sqF W C X Y m k + W ((Y + k / m) * C + (X + k % m))).toInt ∧ (sqF W C X Y m k + W ((Y + k / m) * C + (X + k % m))).toInt ≤ 100000 * ((k + 1 : Nat) : Int)
    rw [i_add (by omega) (by omega)]
    omega
abbrev sqW (W : Nat → Int32) (C m X Y : Nat) : Int32 := sqF W C X Y m (m * m)
/-- where, how much -/
def dsU (W : Nat → Int32) (C m : Nat) (s : Int32 × Int32) (X Y : Nat) : Int32 × Int32 :=
  if s.1.toInt = -1 ∨ (sqW W C m X Y).toInt < s.2.toInt then (100 * Int32.ofNat Y + Int32.ofNat X, sqW W C m X Y) else s
set_option maxRecDepth 8000 in
theorem ds_y {W : Nat → Int32} {C m X Y : Nat} {s : Int32 × Int32} (h : s.1.toInt = -1 ∨ (sqW W C m X Y).toInt < s.2.toInt) : dsU W C m s X Y = (100 * Int32.ofNat Y + Int32.ofNat X, sqW W C m X Y) := if_pos h
set_option maxRecDepth 8000 in
theorem ds_n {W : Nat → Int32} {C m X Y : Nat} {s : Int32 × Int32} (h : ¬ (s.1.toInt = -1 ∨ (sqW W C m X Y).toInt < s.2.toInt)) : dsU W C m s X Y = s := if_neg h
def dsX (W : Nat → Int32) (C m Y : Nat) (s : Int32 × Int32) : Nat → Int32 × Int32
  | 0 => s
  | X + 1 => dsU W C m (dsX W C m Y s X) X Y
/-- rows of n squares each -/
def dsY (W : Nat → Int32) (C m n : Nat) : Nat → Int32 × Int32
  | 0 => (-1, 0)
  | Y + 1 => dsX W C m Y (dsY W C m n Y) n
def aDriest (R : Nat → Int32) (s l : Int32) : Int :=
  if okS R s ∧ 1 ≤ l.toInt ∧ l.toInt ≤ Cn R ∧ l.toInt ≤ Rn R then (dsY (runW R (nX R s) 0 72).2.1 (Cn R) l.toInt.toNat (Cn R - l.toInt.toNat + 1) (Rn R - l.toInt.toNat + 1)).1.toInt else -1
set_option maxRecDepth 8000 in
theorem driest_y {R : Nat → Int32} {s l : Int32} (h : okS R s ∧ 1 ≤ l.toInt ∧ l.toInt ≤ Cn R ∧ l.toInt ≤ Rn R) : aDriest R s l = (dsY (runW R (nX R s) 0 72).2.1 (Cn R) l.toInt.toNat (Cn R - l.toInt.toNat + 1) (Rn R - l.toInt.toNat + 1)).1.toInt := if_pos h
set_option maxRecDepth 8000 in
theorem driest_n {R : Nat → Int32} {s l : Int32} (h : ¬ (okS R s ∧ 1 ≤ l.toInt ∧ l.toInt ≤ Cn R ∧ l.toInt ≤ Rn R)) : aDriest R s l = -1 := if_neg h
set_option maxRecDepth 8000 in
theorem w72_b {R S : Nat → Int32} (hG : GOK R) (hS : NOK S) {c : Nat} (hc : c < Nn R) : 0 ≤ ((runW R S 0 72).2.1 c).toInt ∧ ((runW R S 0 72).2.1 c).toInt ≤ 100000 := by
  obtain ⟨-, h2, h3, h4⟩ := run_ok (st := 0) hG hS 72 (by decide)
  have one := sm_one (c := c) (Nn R) h2 hc
  have z := h2 c hc
  omega
set_option maxRecDepth 8000 in
theorem pl_t {X Y : Nat} (hX : X < 100) (hY : Y < 100) : (100 * Int32.ofNat Y + Int32.ofNat X).toInt = ((100 * Y + X : Nat) : Int) := by
  have e1 : (Int32.ofNat X).toInt = X := Int32.toInt_ofNat_of_lt (by omega)
  have e2 : (Int32.ofNat Y).toInt = Y := Int32.toInt_ofNat_of_lt (by omega)
  exact ix_a (a := 100 * Y) (m := X) (ix_m (m := 100) e2 rfl (by omega)) e1 (by omega)
set_option maxRecDepth 8000 in
theorem sqW_b {R S : Nat → Int32} (hG : GOK R) (hS : NOK S) {m X Y : Nat} (h1 : 1 ≤ m) (hX : X + m ≤ Cn R) (hY : Y + m ≤ Rn R) : 0 ≤ (sqW (runW R S 0 72).2.1 (Cn R) m X Y).toInt ∧ (sqW (runW R S 0 72).2.1 (Cn R) m X Y).toInt < 1000000000 := by
  have hC : Cn R ≤ 12 := hG.1.2.2.2.1
  have hm : m ≤ 12 := by omega
  have hmm : m * m ≤ 144 := Nat.mul_le_mul hm hm
  have q := sq_b (W := (runW R S 0 72).2.1) (C := Cn R) (X := X) (Y := Y) (m := m) (m * m) hmm (fun i hi => w72_b hG hS (by
    have h1 : i / m < m := Nat.div_lt_of_lt_mul hi
    have h2 : i % m < m := Nat.mod_lt i (by omega)
    have h3 : (Y + i / m + 1) * Cn R ≤ Rn R * Cn R := Nat.mul_le_mul_right _ (by omega)
    rw [Nat.add_mul, Nat.one_mul] at h3
    show (Y + i / m) * Cn R + (X + i % m) < Cn R * Rn R
    rw [Nat.mul_comm (Cn R) (Rn R)]
    omega))
  have hcast : ((m * m : Nat) : Int) ≤ ((144 : Nat) : Int) := Int.ofNat_le.mpr hmm
  show 0 ≤ (sqF (runW R S 0 72).2.1 (Cn R) X Y m (m * m)).toInt ∧ (sqF (runW R S 0 72).2.1 (Cn R) X Y m (m * m)).toInt < 1000000000
  generalize ((m * m : Nat) : Int) = z at q hcast
  omega
set_option maxRecDepth 8000 in
theorem sqi_loop {n : Nat} {I : Nat → Nat → Int32} {J : Nat → Nat → Int64} {K : dw_K} {R W : Nat → Int32} {x y l : Int32} {X Y m : Nat} (hG : GOK R) (h40 : I 4 0 = R 0) (h41 : I 4 1 = R 1) (hn : (I 164 1).toInt = Nn R) (hW : ∀ c, c < Nn R → I (164 + 14) c = W c) (hx : x.toInt = X) (hy : y.toInt = Y) (hl : l.toInt = m) (hX : X + m ≤ Cn R) (hY : Y + m ≤ Rn R) {yy : Int32} {i : Nat} (hi : i < m) (hyy : yy.toInt = ((Y + i : Nat) : Int)) (hk : ∀ v xx : Int32, v = sqF W (Cn R) X Y m (m * i + m) → dw_ok (pr_X11_waterOfSquare K) 57 0 0 [some (.ref 0), some (.int x), some (.int y), some (.int l), some (.int v), some (.int yy), some (.int xx)] [] (n, SH1, I, J)) :
    ∀ (f j : Nat) (v xx : Int32), j + f = m → xx.toInt = ((X + j : Nat) : Int) → v = sqF W (Cn R) X Y m (m * i + j) → dw_ok (pr_X11_waterOfSquare K) 17 0 0 [some (.ref 0), some (.int x), some (.int y), some (.int l), some (.int v), some (.int yy), some (.int xx)] [] (n, SH1, I, J) := by
  have hC9 : Cn R ≤ 12 := hG.1.2.2.2.1
  have hR9 : Rn R ≤ 12 := hG.1.2.2.2.2.1
  have hN9 := (gok_N hG).2
  intro f
  induction f with
  | zero =>
    intro j v xx hf hxx hv
    have ejm : j = m := by omega
    rw [ejm] at hv
    refine q_ild rfl rfl ?_
    refine q_ild rfl rfl ?_
    refine q_ild rfl rfl ?_
    refine q_add rfl ?_
    show dw_ok (pr_X11_waterOfSquare K) 22 0 0 [some (.ref 0), some (.int x), some (.int y), some (.int l), some (.int v), some (.int yy), some (.int xx)] [.int (x + l), .int xx] (n, SH1, I, J)
    obtain ⟨e1, he1⟩ : ∃ z, z = (x + l) := ⟨_, rfl⟩
    rw [← he1]
    have ee1 : e1.toInt = ((X + m : Nat) : Int) := by rw [he1]; exact ix_a hx hl (by omega)
    refine q_icmp (c := 3) rfl (by decide) (fun y1 => ?_) (fun h => absurd (show (xx).toInt < (e1).toInt from h) (by omega))
    have y1 : (e1).toInt ≤ (xx).toInt := y1
    exact hk v xx hv
  | succ f ih =>
    intro j v xx hf hxx hv
    refine q_ild rfl rfl ?_
    refine q_ild rfl rfl ?_
    refine q_ild rfl rfl ?_
    refine q_add rfl ?_
    show dw_ok (pr_X11_waterOfSquare K) 22 0 0 [some (.ref 0), some (.int x), some (.int y), some (.int l), some (.int v), some (.int yy), some (.int xx)] [.int (x + l), .int xx] (n, SH1, I, J)
    obtain ⟨e1, he1⟩ : ∃ z, z = (x + l) := ⟨_, rfl⟩
    rw [← he1]
    have ee1 : e1.toInt = ((X + m : Nat) : Int) := by rw [he1]; exact ix_a hx hl (by omega)
    refine q_icmp (c := 3) rfl (by decide) (fun h => absurd (show (e1).toInt ≤ (xx).toInt from h) (by omega)) (fun y2 => ?_)
    have y2 : (xx).toInt < (e1).toInt := y2
    refine q_ild rfl rfl ?_
    refine q_ald rfl rfl ?_
    refine q_getr rfl sk_0 sr_0_6 ?_
    refine q_ald rfl rfl ?_
    refine q_getr rfl sk_0 sr_0_1 ?_
    refine q_getr rfl sk_3 sr_3_1 ?_
    refine q_ild rfl rfl ?_
    refine q_ild rfl rfl ?_
    refine q_callV (as := [.int xx, .int yy]) (rest := [.ref 164, .int v]) rfl rfl sk_4 rfl (Nat.le_of_ble_eq_true rfl) ?_
    refine v_cellAt2 (R := R) hG h40 h41 (fun oC c ec => ?_) (fun nC => absurd (show okC R xx yy from ⟨by omega, by omega, by omega, by omega⟩) nC)
    show dw_ok (pr_X11_waterOfSquare K) 45 0 0 [some (.ref 0), some (.int x), some (.int y), some (.int l), some (.int v), some (.int yy), some (.int xx)] [.int c, .ref 164, .int v] (n, SH1, I, J)
    refine q_callV (as := [.int c]) (rest := [.int v]) rfl rfl sk_164 rfl (Nat.le_of_ble_eq_true rfl) ?_
    refine v_waterOf (A := 164) (N := Nn R) (k := cN R xx yy) (rt_ok (by decide)) ec hn hN9 (cN_lt oC) ?_
    show dw_ok (pr_X11_waterOfSquare K) 48 0 0 [some (.ref 0), some (.int x), some (.int y), some (.int l), some (.int v), some (.int yy), some (.int xx)] [.int (I (164 + 14) (cN R xx yy)), .int v] (n, SH1, I, J)
    have ecn : cN R xx yy = (Y + i) * Cn R + (X + j) := by
      show yy.toInt.toNat * Cn R + xx.toInt.toNat = _
      rw [show yy.toInt.toNat = Y + i by omega, show xx.toInt.toNat = X + j by omega]
    rw [hW _ (cN_lt oC), ecn]
    show dw_ok (pr_X11_waterOfSquare K) 48 0 0 [some (.ref 0), some (.int x), some (.int y), some (.int l), some (.int v), some (.int yy), some (.int xx)] [.int (W ((Y + i) * Cn R + (X + j))), .int v] (n, SH1, I, J)
    refine q_add rfl ?_
    refine q_ist rfl rfl ?_
    show dw_ok (pr_X11_waterOfSquare K) 51 0 0 [some (.ref 0), some (.int x), some (.int y), some (.int l), some (.int (v + (W ((Y + i) * Cn R + (X + j))))), some (.int yy), some (.int xx)] [] (n, SH1, I, J)
    refine q_inc rfl rfl rfl ?_
    show dw_ok (pr_X11_waterOfSquare K) 54 0 0 [some (.ref 0), some (.int x), some (.int y), some (.int l), some (.int (v + (W ((Y + i) * Cn R + (X + j))))), some (.int yy), some (.int (xx + 1))] [] (n, SH1, I, J)
    show dw_ok (pr_X11_waterOfSquare K) 54 0 0 [some (.ref 0), some (.int x), some (.int y), some (.int l), some (.int (v + (W ((Y + i) * Cn R + (X + j))))), some (.int yy), some (.int (xx + 1))] [] (n, SH1, I, J)
    obtain ⟨xz, hxz⟩ : ∃ z, z = (xx + 1) := ⟨_, rfl⟩
    rw [← hxz]
    have exz : xz.toInt = ((X + (j + 1) : Nat) : Int) := by rw [hxz]; exact ix_a (a := X + j) (m := 1) hxx rfl (by omega)
    refine q_goto rfl ?_
    exact ih (j + 1) (v + (W ((Y + i) * Cn R + (X + j)))) xz (by omega) exz (by rw [sq_s (by omega), hv])
set_option maxRecDepth 8000 in
theorem sqo_loop {n : Nat} {I : Nat → Nat → Int32} {J : Nat → Nat → Int64} {K : dw_K} {R W : Nat → Int32} {x y l : Int32} {X Y m : Nat} (hG : GOK R) (h40 : I 4 0 = R 0) (h41 : I 4 1 = R 1) (hn : (I 164 1).toInt = Nn R) (hW : ∀ c, c < Nn R → I (164 + 14) c = W c) (hx : x.toInt = X) (hy : y.toInt = Y) (hl : l.toInt = m) (hX : X + m ≤ Cn R) (hY : Y + m ≤ Rn R) (hk : K (some (.int (sqW W (Cn R) m X Y))) (n, SH1, I, J)) :
    ∀ (f i : Nat) (v yy : Int32) (u : Option Value), i + f = m → yy.toInt = ((Y + i : Nat) : Int) → v = sqF W (Cn R) X Y m (m * i) → dw_ok (pr_X11_waterOfSquare K) 6 0 0 [some (.ref 0), some (.int x), some (.int y), some (.int l), some (.int v), some (.int yy), u] [] (n, SH1, I, J) := by
  have hC9 : Cn R ≤ 12 := hG.1.2.2.2.1
  have hR9 : Rn R ≤ 12 := hG.1.2.2.2.2.1
  intro f
  induction f with
  | zero =>
    intro i v yy u hf hyy hv
    have eim : i = m := by omega
    rw [eim] at hv
    refine q_ild rfl rfl ?_
    refine q_ild rfl rfl ?_
    refine q_ild rfl rfl ?_
    refine q_add rfl ?_
    show dw_ok (pr_X11_waterOfSquare K) 11 0 0 [some (.ref 0), some (.int x), some (.int y), some (.int l), some (.int v), some (.int yy), u] [.int (y + l), .int yy] (n, SH1, I, J)
    obtain ⟨e2, he2⟩ : ∃ z, z = (y + l) := ⟨_, rfl⟩
    rw [← he2]
    have ee2 : e2.toInt = ((Y + m : Nat) : Int) := by rw [he2]; exact ix_a hy hl (by omega)
    refine q_icmp (c := 3) rfl (by decide) (fun y1 => ?_) (fun h => absurd (show (yy).toInt < (e2).toInt from h) (by omega))
    have y1 : (e2).toInt ≤ (yy).toInt := y1
    refine q_ild rfl rfl ?_
    rw [hv]
    exact q_iret rfl hk
  | succ f ih =>
    intro i v yy u hf hyy hv
    refine q_ild rfl rfl ?_
    refine q_ild rfl rfl ?_
    refine q_ild rfl rfl ?_
    refine q_add rfl ?_
    show dw_ok (pr_X11_waterOfSquare K) 11 0 0 [some (.ref 0), some (.int x), some (.int y), some (.int l), some (.int v), some (.int yy), u] [.int (y + l), .int yy] (n, SH1, I, J)
    obtain ⟨e2, he2⟩ : ∃ z, z = (y + l) := ⟨_, rfl⟩
    rw [← he2]
    have ee2 : e2.toInt = ((Y + m : Nat) : Int) := by rw [he2]; exact ix_a hy hl (by omega)
    refine q_icmp (c := 3) rfl (by decide) (fun h => absurd (show (e2).toInt ≤ (yy).toInt from h) (by omega)) (fun y2 => ?_)
    have y2 : (yy).toInt < (e2).toInt := y2
    refine q_ild rfl rfl ?_
    refine q_ist rfl rfl ?_
    show dw_ok (pr_X11_waterOfSquare K) 17 0 0 [some (.ref 0), some (.int x), some (.int y), some (.int l), some (.int v), some (.int yy), some (.int x)] [] (n, SH1, I, J)
    refine sqi_loop (i := i) hG h40 h41 hn hW hx hy hl hX hY (by omega) hyy (fun v xx hv2 => ?_) m 0 v x (by omega) hx hv
    show dw_ok (pr_X11_waterOfSquare K) 57 0 0 [some (.ref 0), some (.int x), some (.int y), some (.int l), some (.int v), some (.int yy), some (.int xx)] [] (n, SH1, I, J)
    refine q_inc rfl rfl rfl ?_
    show dw_ok (pr_X11_waterOfSquare K) 60 0 0 [some (.ref 0), some (.int x), some (.int y), some (.int l), some (.int v), some (.int (yy + 1)), some (.int xx)] [] (n, SH1, I, J)
    show dw_ok (pr_X11_waterOfSquare K) 60 0 0 [some (.ref 0), some (.int x), some (.int y), some (.int l), some (.int v), some (.int (yy + 1)), some (.int xx)] [] (n, SH1, I, J)
    obtain ⟨yz, hyz⟩ : ∃ z, z = (yy + 1) := ⟨_, rfl⟩
    rw [← hyz]
    have eyz : yz.toInt = ((Y + (i + 1) : Nat) : Int) := by rw [hyz]; exact ix_a (a := Y + i) (m := 1) hyy rfl (by omega)
    refine q_goto rfl ?_
    exact ih (i + 1) v yz _ (by omega) eyz (by rw [hv2, Nat.mul_add, Nat.mul_one])
set_option maxRecDepth 8000 in
theorem v_square {n : Nat} {I : Nat → Nat → Int32} {J : Nat → Nat → Int64} {K : dw_K} {R W : Nat → Int32} {x y l : Int32} {X Y m : Nat} (hG : GOK R) (h40 : I 4 0 = R 0) (h41 : I 4 1 = R 1) (hn : (I 164 1).toInt = Nn R) (hW : ∀ c, c < Nn R → I (164 + 14) c = W c) (hx : x.toInt = X) (hy : y.toInt = Y) (hl : l.toInt = m) (hX : X + m ≤ Cn R) (hY : Y + m ≤ Rn R) (hk : K (some (.int (sqW W (Cn R) m X Y))) (n, SH1, I, J)) : t_X11_waterOfSquare [.ref 0, .int x, .int y, .int l] (n, SH1, I, J) K := by
  refine q_body (Nat.le_of_ble_eq_true rfl) ?_
  refine q_ic rfl ?_
  refine q_ist rfl rfl ?_
  refine q_ild rfl rfl ?_
  refine q_ist rfl rfl ?_
  exact sqo_loop hG h40 h41 hn hW hx hy hl hX hY hk m 0 0 y none (by omega) hy rfl
set_option maxRecDepth 8000 in
theorem drx_loop {n : Nat} {I : Nat → Nat → Int32} {J : Nat → Nat → Int64} {K : dw_K} {R S : Nat → Int32} {s l cs rs : Int32} {m : Nat} (hG : GOK R) (h40 : I 4 0 = R 0) (h41 : I 4 1 = R 1) (hn : (I 164 1).toInt = Nn R) (hW : ∀ c, c < Nn R → I (164 + 14) c = (runW R S 0 72).2.1 c) (hl : l.toInt = m) (h1 : 1 ≤ m) (hmC : m ≤ Cn R) (hmR : m ≤ Rn R) (hcs : cs.toInt = Cn R) (hrs : rs.toInt = Rn R) {y : Int32} {Y : Nat} (hy : y.toInt = Y) (hY : Y + m ≤ Rn R) {s0 : Int32 × Int32} (hk : ∀ (b le x : Int32) (u : Option Value), b = (dsX (runW R S 0 72).2.1 (Cn R) m Y s0 (Cn R - m + 1)).1 → le = (dsX (runW R S 0 72).2.1 (Cn R) m Y s0 (Cn R - m + 1)).2 → dw_ok (pr_X11_driest K) 124 0 0 [some (.ref 0), some (.int s), some (.int l), some (.int cs), some (.int rs), some (.int b), some (.int le), some (.int y), some (.int x), u] [] (n, SH1, I, J)) :
    ∀ (f X : Nat) (b le x : Int32) (u : Option Value), X + f = Cn R - m + 1 → x.toInt = X → b = (dsX (runW R S 0 72).2.1 (Cn R) m Y s0 X).1 → le = (dsX (runW R S 0 72).2.1 (Cn R) m Y s0 X).2 → dw_ok (pr_X11_driest K) 72 0 0 [some (.ref 0), some (.int s), some (.int l), some (.int cs), some (.int rs), some (.int b), some (.int le), some (.int y), some (.int x), u] [] (n, SH1, I, J) := by
  have cm1 : (-1 : Int32).toInt = -1 := rfl
  have k0 : (0 : Int32).toInt = 0 := rfl
  have k1 : (1 : Int32).toInt = 1 := rfl
  have hC9 : Cn R ≤ 12 := hG.1.2.2.2.1
  have hR9 : Rn R ≤ 12 := hG.1.2.2.2.2.1
  have ey := of_nat hy (by omega)
  intro f
  induction f with
  | zero =>
    intro X b le x u hf hx hb hle
    obtain rfl : X = Cn R - m + 1 := by omega
    refine q_ild rfl rfl ?_
    refine q_ild rfl rfl ?_
    refine q_ild rfl rfl ?_
    refine q_sub rfl ?_
    show dw_ok (pr_X11_driest K) 77 0 0 [some (.ref 0), some (.int s), some (.int l), some (.int cs), some (.int rs), some (.int b), some (.int le), some (.int y), some (.int x), u] [.int (cs - l), .int x] (n, SH1, I, J)
    obtain ⟨e3, he3⟩ : ∃ z, z = (cs - l) := ⟨_, rfl⟩
    rw [← he3]
    have ee3 : e3.toInt = ((Cn R - m : Nat) : Int) := by rw [he3]; exact (by rw [i_sub (by omega) (by omega), hcs, hl]; omega)
    refine q_icmp (c := 4) rfl (by decide) (fun y1 => ?_) (fun h => absurd (show (x).toInt ≤ (e3).toInt from h) (by omega))
    have y1 : (e3).toInt < (x).toInt := y1
    exact hk b le x u hb hle
  | succ f ih =>
    intro X b le x u hf hx hb hle
    have ex := of_nat hx (by omega)
    refine q_ild rfl rfl ?_
    refine q_ild rfl rfl ?_
    refine q_ild rfl rfl ?_
    refine q_sub rfl ?_
    show dw_ok (pr_X11_driest K) 77 0 0 [some (.ref 0), some (.int s), some (.int l), some (.int cs), some (.int rs), some (.int b), some (.int le), some (.int y), some (.int x), u] [.int (cs - l), .int x] (n, SH1, I, J)
    obtain ⟨e3, he3⟩ : ∃ z, z = (cs - l) := ⟨_, rfl⟩
    rw [← he3]
    have ee3 : e3.toInt = ((Cn R - m : Nat) : Int) := by rw [he3]; exact (by rw [i_sub (by omega) (by omega), hcs, hl]; omega)
    refine q_icmp (c := 4) rfl (by decide) (fun h => absurd (show (e3).toInt < (x).toInt from h) (by omega)) (fun y2 => ?_)
    have y2 : (x).toInt ≤ (e3).toInt := y2
    refine q_ald rfl rfl ?_
    refine q_ild rfl rfl ?_
    refine q_ild rfl rfl ?_
    refine q_ild rfl rfl ?_
    refine q_callV (as := [.int x, .int y, .int l]) (rest := []) rfl rfl sk_0 rfl (Nat.le_of_ble_eq_true rfl) ?_
    refine v_square (X := X) (Y := Y) (m := m) hG h40 h41 hn hW hx hy hl (by omega) hY ?_
    show dw_ok (pr_X11_driest K) 89 0 0 [some (.ref 0), some (.int s), some (.int l), some (.int cs), some (.int rs), some (.int b), some (.int le), some (.int y), some (.int x), u] [.int (sqW (runW R S 0 72).2.1 (Cn R) m X Y)] (n, SH1, I, J)
    obtain ⟨sw, hsw⟩ : ∃ z, z = sqW (runW R S 0 72).2.1 (Cn R) m X Y := ⟨_, rfl⟩
    rw [← hsw]
    show dw_ok (pr_X11_driest K) 89 0 0 [some (.ref 0), some (.int s), some (.int l), some (.int cs), some (.int rs), some (.int b), some (.int le), some (.int y), some (.int x), u] [.int sw] (n, SH1, I, J)
    refine q_ist rfl rfl ?_
    show dw_ok (pr_X11_driest K) 91 0 0 [some (.ref 0), some (.int s), some (.int l), some (.int cs), some (.int rs), some (.int b), some (.int le), some (.int y), some (.int x), some (.int sw)] [] (n, SH1, I, J)
    refine q_ild rfl rfl ?_
    refine q_ic rfl ?_
    refine q_icmp (c := 0) rfl (by decide) (fun y3 => ?_) (fun y3 => ?_)
    · have y3 : (b).toInt = (-1 : Int) := y3
      refine q_ic rfl ?_
      refine q_ild rfl rfl ?_
      refine q_mul rfl ?_
      refine q_ild rfl rfl ?_
      refine q_add rfl ?_
      refine q_ist rfl rfl ?_
      show dw_ok (pr_X11_driest K) 114 0 0 [some (.ref 0), some (.int s), some (.int l), some (.int cs), some (.int rs), some (.int (((100 : Int32) * y) + x)), some (.int le), some (.int y), some (.int x), some (.int sw)] [] (n, SH1, I, J)
      refine q_ild rfl rfl ?_
      refine q_ist rfl rfl ?_
      show dw_ok (pr_X11_driest K) 118 0 0 [some (.ref 0), some (.int s), some (.int l), some (.int cs), some (.int rs), some (.int (((100 : Int32) * y) + x)), some (.int sw), some (.int y), some (.int x), some (.int sw)] [] (n, SH1, I, J)
      refine q_inc rfl rfl rfl ?_
      show dw_ok (pr_X11_driest K) 121 0 0 [some (.ref 0), some (.int s), some (.int l), some (.int cs), some (.int rs), some (.int (((100 : Int32) * y) + x)), some (.int sw), some (.int y), some (.int (x + 1)), some (.int sw)] [] (n, SH1, I, J)
      show dw_ok (pr_X11_driest K) 121 0 0 [some (.ref 0), some (.int s), some (.int l), some (.int cs), some (.int rs), some (.int (((100 : Int32) * y) + x)), some (.int sw), some (.int y), some (.int (x + 1)), some (.int sw)] [] (n, SH1, I, J)
      obtain ⟨xz, hxz⟩ : ∃ z, z = (x + 1) := ⟨_, rfl⟩
      rw [← hxz]
      have exz : xz.toInt = ((X + 1 : Nat) : Int) := by rw [hxz]; exact ix_1 hx (by omega)
      refine q_goto rfl ?_
      have hs := ds_y (W := (runW R S 0 72).2.1) (C := Cn R) (m := m) (X := X) (Y := Y) (s := (dsX (runW R S 0 72).2.1 (Cn R) m Y s0 X)) (by rw [← hb, ← hle, ← hsw]; omega)
      exact ih (X + 1) (((100 : Int32) * y) + x) sw xz _ (by omega) exz ((show (((100 : Int32) * y) + x) = 100 * Int32.ofNat Y + Int32.ofNat X by rw [← ey, ← ex]).trans (congrArg Prod.fst hs).symm) (hsw.trans (congrArg Prod.snd hs).symm)
    · have y3 : (b).toInt ≠ (-1 : Int) := y3
      refine q_ild rfl rfl ?_
      refine q_ild rfl rfl ?_
      refine q_icmp (c := 3) rfl (by decide) (fun y4 => ?_) (fun y4 => ?_)
      · have y4 : (le).toInt ≤ (sw).toInt := y4
        refine q_inc rfl rfl rfl ?_
        show dw_ok (pr_X11_driest K) 121 0 0 [some (.ref 0), some (.int s), some (.int l), some (.int cs), some (.int rs), some (.int b), some (.int le), some (.int y), some (.int (x + 1)), some (.int sw)] [] (n, SH1, I, J)
        show dw_ok (pr_X11_driest K) 121 0 0 [some (.ref 0), some (.int s), some (.int l), some (.int cs), some (.int rs), some (.int b), some (.int le), some (.int y), some (.int (x + 1)), some (.int sw)] [] (n, SH1, I, J)
        obtain ⟨xz, hxz⟩ : ∃ z, z = (x + 1) := ⟨_, rfl⟩
        rw [← hxz]
        have exz : xz.toInt = ((X + 1 : Nat) : Int) := by rw [hxz]; exact ix_1 hx (by omega)
        refine q_goto rfl ?_
        have hs : dsU (runW R S 0 72).2.1 (Cn R) m (dsX (runW R S 0 72).2.1 (Cn R) m Y s0 X) X Y = (dsX (runW R S 0 72).2.1 (Cn R) m Y s0 X) := ds_n (fun q => by rw [← hb, ← hle, ← hsw] at q; omega)
        exact ih (X + 1) b le xz _ (by omega) exz (hb.trans (congrArg Prod.fst hs).symm) (hle.trans (congrArg Prod.snd hs).symm)
      · have y4 : (sw).toInt < (le).toInt := y4
        refine q_ic rfl ?_
        refine q_ild rfl rfl ?_
        refine q_mul rfl ?_
        refine q_ild rfl rfl ?_
        refine q_add rfl ?_
        refine q_ist rfl rfl ?_
        show dw_ok (pr_X11_driest K) 114 0 0 [some (.ref 0), some (.int s), some (.int l), some (.int cs), some (.int rs), some (.int (((100 : Int32) * y) + x)), some (.int le), some (.int y), some (.int x), some (.int sw)] [] (n, SH1, I, J)
        refine q_ild rfl rfl ?_
        refine q_ist rfl rfl ?_
        show dw_ok (pr_X11_driest K) 118 0 0 [some (.ref 0), some (.int s), some (.int l), some (.int cs), some (.int rs), some (.int (((100 : Int32) * y) + x)), some (.int sw), some (.int y), some (.int x), some (.int sw)] [] (n, SH1, I, J)
        refine q_inc rfl rfl rfl ?_
        show dw_ok (pr_X11_driest K) 121 0 0 [some (.ref 0), some (.int s), some (.int l), some (.int cs), some (.int rs), some (.int (((100 : Int32) * y) + x)), some (.int sw), some (.int y), some (.int (x + 1)), some (.int sw)] [] (n, SH1, I, J)
        show dw_ok (pr_X11_driest K) 121 0 0 [some (.ref 0), some (.int s), some (.int l), some (.int cs), some (.int rs), some (.int (((100 : Int32) * y) + x)), some (.int sw), some (.int y), some (.int (x + 1)), some (.int sw)] [] (n, SH1, I, J)
        obtain ⟨xz, hxz⟩ : ∃ z, z = (x + 1) := ⟨_, rfl⟩
        rw [← hxz]
        have exz : xz.toInt = ((X + 1 : Nat) : Int) := by rw [hxz]; exact ix_1 hx (by omega)
        refine q_goto rfl ?_
        have hs := ds_y (W := (runW R S 0 72).2.1) (C := Cn R) (m := m) (X := X) (Y := Y) (s := (dsX (runW R S 0 72).2.1 (Cn R) m Y s0 X)) (by rw [← hb, ← hle, ← hsw]; omega)
        exact ih (X + 1) (((100 : Int32) * y) + x) sw xz _ (by omega) exz ((show (((100 : Int32) * y) + x) = 100 * Int32.ofNat Y + Int32.ofNat X by rw [← ey, ← ex]).trans (congrArg Prod.fst hs).symm) (hsw.trans (congrArg Prod.snd hs).symm)
set_option maxRecDepth 8000 in
theorem dry_loop {n : Nat} {I : Nat → Nat → Int32} {J : Nat → Nat → Int64} {K : dw_K} {R S : Nat → Int32} {s l cs rs : Int32} {m : Nat} (hG : GOK R) (h40 : I 4 0 = R 0) (h41 : I 4 1 = R 1) (hn : (I 164 1).toInt = Nn R) (hW : ∀ c, c < Nn R → I (164 + 14) c = (runW R S 0 72).2.1 c) (hl : l.toInt = m) (h1 : 1 ≤ m) (hmC : m ≤ Cn R) (hmR : m ≤ Rn R) (hcs : cs.toInt = Cn R) (hrs : rs.toInt = Rn R) (hk : K (some (.int (dsY (runW R S 0 72).2.1 (Cn R) m (Cn R - m + 1) (Rn R - m + 1)).1)) (n, SH1, I, J)) :
    ∀ (f Y : Nat) (b le y : Int32) (v u : Option Value), Y + f = Rn R - m + 1 → y.toInt = Y → b = (dsY (runW R S 0 72).2.1 (Cn R) m (Cn R - m + 1) Y).1 → le = (dsY (runW R S 0 72).2.1 (Cn R) m (Cn R - m + 1) Y).2 → dw_ok (pr_X11_driest K) 60 0 0 [some (.ref 0), some (.int s), some (.int l), some (.int cs), some (.int rs), some (.int b), some (.int le), some (.int y), v, u] [] (n, SH1, I, J) := by
  have k0 : (0 : Int32).toInt = 0 := rfl
  have hC9 : Cn R ≤ 12 := hG.1.2.2.2.1
  have hR9 : Rn R ≤ 12 := hG.1.2.2.2.2.1
  intro f
  induction f with
  | zero =>
    intro Y b le y v u hf hy hb hle
    obtain rfl : Y = Rn R - m + 1 := by omega
    refine q_ild rfl rfl ?_
    refine q_ild rfl rfl ?_
    refine q_ild rfl rfl ?_
    refine q_sub rfl ?_
    show dw_ok (pr_X11_driest K) 66 0 0 [some (.ref 0), some (.int s), some (.int l), some (.int cs), some (.int rs), some (.int b), some (.int le), some (.int y), v, u] [.int (rs - l), .int y] (n, SH1, I, J)
    obtain ⟨e4, he4⟩ : ∃ z, z = (rs - l) := ⟨_, rfl⟩
    rw [← he4]
    have ee4 : e4.toInt = ((Rn R - m : Nat) : Int) := by rw [he4]; exact (by rw [i_sub (by omega) (by omega), hrs, hl]; omega)
    refine q_icmp (c := 4) rfl (by decide) (fun y1 => ?_) (fun h => absurd (show (y).toInt ≤ (e4).toInt from h) (by omega))
    have y1 : (e4).toInt < (y).toInt := y1
    refine q_ild rfl rfl ?_
    rw [hb]
    exact q_iret rfl hk
  | succ f ih =>
    intro Y b le y v u hf hy hb hle
    refine q_ild rfl rfl ?_
    refine q_ild rfl rfl ?_
    refine q_ild rfl rfl ?_
    refine q_sub rfl ?_
    show dw_ok (pr_X11_driest K) 66 0 0 [some (.ref 0), some (.int s), some (.int l), some (.int cs), some (.int rs), some (.int b), some (.int le), some (.int y), v, u] [.int (rs - l), .int y] (n, SH1, I, J)
    obtain ⟨e4, he4⟩ : ∃ z, z = (rs - l) := ⟨_, rfl⟩
    rw [← he4]
    have ee4 : e4.toInt = ((Rn R - m : Nat) : Int) := by rw [he4]; exact (by rw [i_sub (by omega) (by omega), hrs, hl]; omega)
    refine q_icmp (c := 4) rfl (by decide) (fun h => absurd (show (e4).toInt < (y).toInt from h) (by omega)) (fun y2 => ?_)
    have y2 : (y).toInt ≤ (e4).toInt := y2
    refine q_ic rfl ?_
    refine q_ist rfl rfl ?_
    show dw_ok (pr_X11_driest K) 72 0 0 [some (.ref 0), some (.int s), some (.int l), some (.int cs), some (.int rs), some (.int b), some (.int le), some (.int y), some (.int (0 : Int32)), u] [] (n, SH1, I, J)
    refine drx_loop (S := S) hG h40 h41 hn hW hl h1 hmC hmR hcs hrs hy (by omega) (s0 := (dsY (runW R S 0 72).2.1 (Cn R) m (Cn R - m + 1) Y)) (fun b le x u hb2 hle2 => ?_) (Cn R - m + 1) 0 b le 0 u (by omega) rfl hb hle
    show dw_ok (pr_X11_driest K) 124 0 0 [some (.ref 0), some (.int s), some (.int l), some (.int cs), some (.int rs), some (.int b), some (.int le), some (.int y), some (.int x), u] [] (n, SH1, I, J)
    refine q_inc rfl rfl rfl ?_
    show dw_ok (pr_X11_driest K) 127 0 0 [some (.ref 0), some (.int s), some (.int l), some (.int cs), some (.int rs), some (.int b), some (.int le), some (.int (y + 1)), some (.int x), u] [] (n, SH1, I, J)
    show dw_ok (pr_X11_driest K) 127 0 0 [some (.ref 0), some (.int s), some (.int l), some (.int cs), some (.int rs), some (.int b), some (.int le), some (.int (y + 1)), some (.int x), u] [] (n, SH1, I, J)
    obtain ⟨yz, hyz⟩ : ∃ z, z = (y + 1) := ⟨_, rfl⟩
    rw [← hyz]
    have eyz : yz.toInt = ((Y + 1 : Nat) : Int) := by rw [hyz]; exact ix_1 hy (by omega)
    refine q_goto rfl ?_
    exact ih (Y + 1) b le yz _ _ (by omega) eyz hb2 hle2
set_option maxRecDepth 8000 in
theorem v_cdriest {n : Nat} {I : Nat → Nat → Int32} {J : Nat → Nat → Int64} {K : dw_K} {R : Nat → Int32} (hR : SREL I 3 R) {a1 l : Int32} (hk : ∀ (w : Int32) (I' : Nat → Nat → Int32), w.toInt = aDriest R a1 l → K (some (.int w)) (n, SH1, I', J)) : t_X11_driest [.ref 0, .int a1, .int l] (n, SH1, I, J) K := by
  have cm1 : (-1 : Int32).toInt = -1 := rfl
  have k0 : (0 : Int32).toInt = 0 := rfl
  have k1 : (1 : Int32).toInt = 1 := rfl
  have k71 : (71 : Int32).toInt = 71 := rfl
  have e40 : (I 4 0).toInt = Cn R := by rw [show I 4 0 = R 0 from (rg_3 hR).1 0 (by decide)]; exact hR.1.1.1
  have e41 : (I 4 1).toInt = Rn R := by rw [show I 4 1 = R 1 from (rg_3 hR).1 1 (by decide)]; exact hR.1.1.2.1
  refine q_body (Nat.le_of_ble_eq_true rfl) ?_
  refine q_ald rfl rfl ?_
  refine q_getr rfl sk_0 sr_0_1 ?_
  refine q_getr rfl sk_3 sr_3_1 ?_
  refine q_geti rfl sk_4 ?_
  refine q_ist rfl rfl ?_
  show dw_ok (pr_X11_driest K) 11 0 0 [some (.ref 0), some (.int a1), some (.int l), some (.int (I 4 0)), none, none, none, none, none, none] [] (n, SH1, I, J)
  show dw_ok (pr_X11_driest K) 11 0 0 [some (.ref 0), some (.int a1), some (.int l), some (.int (I 4 0)), none, none, none, none, none, none] [] (n, SH1, I, J)
  obtain ⟨cs, hcs⟩ : ∃ z, z = (I 4 0) := ⟨_, rfl⟩
  rw [← hcs]
  have ecs : cs.toInt = Cn R := by rw [hcs]; exact e40
  refine q_ald rfl rfl ?_
  refine q_getr rfl sk_0 sr_0_1 ?_
  refine q_getr rfl sk_3 sr_3_1 ?_
  refine q_geti rfl sk_4 ?_
  refine q_ist rfl rfl ?_
  show dw_ok (pr_X11_driest K) 23 0 0 [some (.ref 0), some (.int a1), some (.int l), some (.int cs), some (.int (I 4 1)), none, none, none, none, none] [] (n, SH1, I, J)
  show dw_ok (pr_X11_driest K) 23 0 0 [some (.ref 0), some (.int a1), some (.int l), some (.int cs), some (.int (I 4 1)), none, none, none, none, none] [] (n, SH1, I, J)
  obtain ⟨rs, hrs⟩ : ∃ z, z = (I 4 1) := ⟨_, rfl⟩
  rw [← hrs]
  have ers : rs.toInt = Rn R := by rw [hrs]; exact e41
  refine q_ild rfl rfl ?_
  refine q_ic rfl ?_
  refine q_icmp (c := 2) rfl (by decide) (fun y1 => ?_) (fun y1 => ?_)
  · have y1 : (l).toInt < (1 : Int) := y1
    refine q_ic rfl ?_
    exact q_iret rfl (hk _ I (cm1.trans (driest_n (fun q => by have := q.2; omega)).symm))
  · have y1 : (1 : Int) ≤ (l).toInt := y1
    refine q_ild rfl rfl ?_
    refine q_ild rfl rfl ?_
    refine q_icmp (c := 4) rfl (by decide) (fun y2 => ?_) (fun y2 => ?_)
    · have y2 : (cs).toInt < (l).toInt := y2
      refine q_ic rfl ?_
      exact q_iret rfl (hk _ I (cm1.trans (driest_n (fun q => by have := q.2; omega)).symm))
    · have y2 : (l).toInt ≤ (cs).toInt := y2
      refine q_ild rfl rfl ?_
      refine q_ild rfl rfl ?_
      refine q_icmp (c := 4) rfl (by decide) (fun y3 => ?_) (fun y3 => ?_)
      · have y3 : (rs).toInt < (l).toInt := y3
        refine q_ic rfl ?_
        exact q_iret rfl (hk _ I (cm1.trans (driest_n (fun q => by have := q.2; omega)).symm))
      · have y3 : (l).toInt ≤ (rs).toInt := y3
        refine q_ald rfl rfl ?_
        refine q_ild rfl rfl ?_
        refine q_ic rfl ?_
        refine q_callV (as := [.int a1, .int (71 : Int32)]) (rest := []) rfl rfl sk_0 rfl (Nat.le_of_ble_eq_true rfl) ?_
        refine v_behind hR (fun s1 k2 hs hxs htk hk9 hS I1 q0 q1 q2 => ?_) (fun hno I1 eI1 => ?_)
        · have e2 : k2 = 71 := by omega
          rw [e2] at q2
          obtain ⟨oS, eS⟩ := okS_of hs hxs hS
          rw [← eS] at q2
          show dw_ok (pr_X11_driest K) 46 0 0 [some (.ref 0), some (.int a1), some (.int l), some (.int cs), some (.int rs), none, none, none, none, none] [.int (1 : Int32)] (n, SH1, I1, J)
          refine q_if (c := 1) rfl (by decide) (fun y4 => ?_) (fun h => absurd (show (1 : Int) = 0 from h) (by decide))
          have y4 : (1 : Int) ≠ 0 := y4
          refine q_ic rfl ?_
          refine q_ist rfl rfl ?_
          show dw_ok (pr_X11_driest K) 54 0 0 [some (.ref 0), some (.int a1), some (.int l), some (.int cs), some (.int rs), some (.int (-1 : Int32)), none, none, none, none] [] (n, SH1, I1, J)
          refine q_ic rfl ?_
          refine q_ist rfl rfl ?_
          show dw_ok (pr_X11_driest K) 57 0 0 [some (.ref 0), some (.int a1), some (.int l), some (.int cs), some (.int rs), some (.int (-1 : Int32)), some (.int (0 : Int32)), none, none, none] [] (n, SH1, I1, J)
          refine q_ic rfl ?_
          refine q_ist rfl rfl ?_
          show dw_ok (pr_X11_driest K) 60 0 0 [some (.ref 0), some (.int a1), some (.int l), some (.int cs), some (.int rs), some (.int (-1 : Int32)), some (.int (0 : Int32)), some (.int (0 : Int32)), none, none] [] (n, SH1, I1, J)
          have el : l.toInt = (l.toInt.toNat : Nat) := by omega
          have f40 : I1 4 0 = R 0 := by rw [q0 4 (by decide)]; exact (rg_3 hR).1 0 (by decide)
          have f41 : I1 4 1 = R 1 := by rw [q0 4 (by decide)]; exact (rg_3 hR).1 1 (by decide)
          exact dry_loop (S := nX R a1) (m := l.toInt.toNat) hR.1 f40 f41 q1 (fun c hc => q2.2.1 c hc) el (by omega) (by omega) (by omega) ecs ers (hk _ I1 (driest_y ⟨oS, by omega, by omega, by omega⟩).symm) (Rn R - l.toInt.toNat + 1) 0 (-1) 0 0 _ _ (by omega) rfl rfl rfl
        · subst eI1
          show dw_ok (pr_X11_driest K) 46 0 0 [some (.ref 0), some (.int a1), some (.int l), some (.int cs), some (.int rs), none, none, none, none, none] [.int (0 : Int32)] (n, SH1, I1, J)
          refine q_if (c := 1) rfl (by decide) (fun h => absurd (show (0 : Int) ≠ 0 from h) (by decide)) (fun y5 => ?_)
          have y5 : (0 : Int) = 0 := y5
          refine q_ic rfl ?_
          exact q_iret rfl (hk _ I1 (cm1.trans (driest_n (fun q => hno.elim (fun g => g ⟨by omega, by omega⟩) (fun g => okS_no g q.1))).symm))
/-- the model's pair beside the pure one -/
def mbR (b le : Int32) (s : Int32 × Int32) : Prop := b = s.1 ∧ ((s.1.toInt = -1 ∧ le.toInt = 1000000000) ∨ (s.1.toInt ≠ -1 ∧ le = s.2))
set_option maxRecDepth 8000 in
theorem msq_loop {n : Nat} {I : Nat → Nat → Int32} {J : Nat → Nat → Int64} {K : dw_K} {R S : Nat → Int32} {s l : Int32} {m : Nat} (hR : I 406 = R) (hG : GOK R) (hS : NOK S) (hW : ∀ c, c < Nn R → I 417 c = (runW R S 0 72).2.1 c) (hl : l.toInt = m) (h1 : 1 ≤ m) (hmC : m ≤ Cn R) (hmR : m ≤ Rn R) {b le x y : Int32} {X Y : Nat} (hx : x.toInt = X) (hy : y.toInt = Y) (hX : X + m ≤ Cn R) (hY : Y + m ≤ Rn R) (hk : ∀ kk : Int32, dw_ok (pr_X12_driest K) 140 0 0 [some (.ref 404), some (.int s), some (.int l), some (.int b), some (.int le), some (.int y), some (.int x), some (.int (sqW (runW R S 0 72).2.1 (Cn R) m X Y)), some (.int kk)] [] (n, SH1, I, J)) :
    ∀ (f k : Nat) (v kk : Int32), k + f = m * m → kk.toInt = k → v = sqF (runW R S 0 72).2.1 (Cn R) X Y m k → dw_ok (pr_X12_driest K) 98 0 0 [some (.ref 404), some (.int s), some (.int l), some (.int b), some (.int le), some (.int y), some (.int x), some (.int v), some (.int kk)] [] (n, SH1, I, J) := by
  have hC9 : Cn R ≤ 12 := hG.1.2.2.2.1
  have hR9 : Rn R ≤ 12 := hG.1.2.2.2.2.1
  have hN9 := (gok_N hG).2
  have e40 : (I 406 0).toInt = Cn R := by rw [hR]; exact hG.1.1
  have e41 : (I 406 1).toInt = Rn R := by rw [hR]; exact hG.1.2.1
  have hmm : m * m ≤ 144 := Nat.mul_le_mul (show m ≤ 12 by omega) (show m ≤ 12 by omega)
  intro f
  induction f with
  | zero =>
    intro k v kk hf hkk hv
    obtain rfl : k = m * m := by omega
    refine q_ild rfl rfl ?_
    refine q_ild rfl rfl ?_
    refine q_ild rfl rfl ?_
    refine q_mul rfl ?_
    show dw_ok (pr_X12_driest K) 103 0 0 [some (.ref 404), some (.int s), some (.int l), some (.int b), some (.int le), some (.int y), some (.int x), some (.int v), some (.int kk)] [.int (l * l), .int kk] (n, SH1, I, J)
    obtain ⟨ll, hll⟩ : ∃ z, z = (l * l) := ⟨_, rfl⟩
    rw [← hll]
    have ell : ll.toInt = ((m * m : Nat) : Int) := by rw [hll]; exact ix_m hl hl (by omega)
    refine q_icmp (c := 3) rfl (by decide) (fun y1 => ?_) (fun h => absurd (show (kk).toInt < (ll).toInt from h) (by omega))
    have y1 : (ll).toInt ≤ (kk).toInt := y1
    rw [hv]
    exact hk kk
  | succ f ih =>
    intro k v kk hf hkk hv
    have hkm : k < m * m := by omega
    obtain ⟨rr, hrr⟩ : ∃ z, z = k % m := ⟨_, rfl⟩
    obtain ⟨qq, hqq⟩ : ∃ z, z = k / m := ⟨_, rfl⟩
    have b1 : rr < m := by rw [hrr]; exact Nat.mod_lt k (by omega)
    have b2 : qq < m := by rw [hqq]; exact Nat.div_lt_of_lt_mul hkm
    refine q_ild rfl rfl ?_
    refine q_ild rfl rfl ?_
    refine q_ild rfl rfl ?_
    refine q_mul rfl ?_
    show dw_ok (pr_X12_driest K) 103 0 0 [some (.ref 404), some (.int s), some (.int l), some (.int b), some (.int le), some (.int y), some (.int x), some (.int v), some (.int kk)] [.int (l * l), .int kk] (n, SH1, I, J)
    obtain ⟨ll, hll⟩ : ∃ z, z = (l * l) := ⟨_, rfl⟩
    rw [← hll]
    have ell : ll.toInt = ((m * m : Nat) : Int) := by rw [hll]; exact ix_m hl hl (by omega)
    refine q_icmp (c := 3) rfl (by decide) (fun h => absurd (show (ll).toInt ≤ (kk).toInt from h) (by omega)) (fun y2 => ?_)
    have y2 : (kk).toInt < (ll).toInt := y2
    refine q_ild rfl rfl ?_
    refine q_ald rfl rfl ?_
    refine q_getr rfl sk_404 sr_404_29 ?_
    refine q_ald rfl rfl ?_
    refine q_ild rfl rfl ?_
    refine q_ild rfl rfl ?_
    refine q_ild rfl rfl ?_
    refine q_rem rfl (show l ≠ 0 from fun q => by rw [q, show (0 : Int32).toInt = 0 from rfl] at hl; omega) ?_
    show dw_ok (pr_X12_driest K) 119 0 0 [some (.ref 404), some (.int s), some (.int l), some (.int b), some (.int le), some (.int y), some (.int x), some (.int v), some (.int kk)] [.int (kk - kk / l * l), .int x, .ref 404, .ref 417, .int v] (n, SH1, I, J)
    obtain ⟨r1, hr1⟩ : ∃ z, z = (kk - kk / l * l) := ⟨_, rfl⟩
    rw [← hr1]
    have er1 : r1.toInt = ((rr : Nat) : Int) := by rw [hr1]; exact (by rw [hrr]; exact i_modN hkk hl (by omega))
    refine q_add rfl ?_
    show dw_ok (pr_X12_driest K) 120 0 0 [some (.ref 404), some (.int s), some (.int l), some (.int b), some (.int le), some (.int y), some (.int x), some (.int v), some (.int kk)] [.int (x + r1), .ref 404, .ref 417, .int v] (n, SH1, I, J)
    obtain ⟨xx, hxx⟩ : ∃ z, z = (x + r1) := ⟨_, rfl⟩
    rw [← hxx]
    have exx : xx.toInt = ((X + rr : Nat) : Int) := by rw [hxx]; exact ix_a hx er1 (by omega)
    refine q_ild rfl rfl ?_
    refine q_ild rfl rfl ?_
    refine q_ild rfl rfl ?_
    refine q_div rfl (show l ≠ 0 from fun q => by rw [q, show (0 : Int32).toInt = 0 from rfl] at hl; omega) ?_
    show dw_ok (pr_X12_driest K) 126 0 0 [some (.ref 404), some (.int s), some (.int l), some (.int b), some (.int le), some (.int y), some (.int x), some (.int v), some (.int kk)] [.int (kk / l), .int y, .int xx, .ref 404, .ref 417, .int v] (n, SH1, I, J)
    obtain ⟨d1, hd1⟩ : ∃ z, z = (kk / l) := ⟨_, rfl⟩
    rw [← hd1]
    have ed1 : d1.toInt = ((qq : Nat) : Int) := by rw [hd1]; exact (by rw [hqq]; exact i_divN hkk hl (by omega))
    refine q_add rfl ?_
    show dw_ok (pr_X12_driest K) 127 0 0 [some (.ref 404), some (.int s), some (.int l), some (.int b), some (.int le), some (.int y), some (.int x), some (.int v), some (.int kk)] [.int (y + d1), .int xx, .ref 404, .ref 417, .int v] (n, SH1, I, J)
    obtain ⟨yy, hyy⟩ : ∃ z, z = (y + d1) := ⟨_, rfl⟩
    rw [← hyy]
    have eyy : yy.toInt = ((Y + qq : Nat) : Int) := by rw [hyy]; exact ix_a hy ed1 (by omega)
    refine q_callV (as := [.int xx, .int yy]) (rest := [.ref 417, .int v]) rfl rfl sk_404 rfl (Nat.le_of_ble_eq_true rfl) ?_
    have oC : okC R xx yy := ⟨by omega, by omega, by omega, by omega⟩
    refine v_numberOf ?_
    show dw_ok (pr_X12_driest K) 130 0 0 [some (.ref 404), some (.int s), some (.int l), some (.int b), some (.int le), some (.int y), some (.int x), some (.int v), some (.int kk)] [.int (I 406 0 * yy + xx), .ref 417, .int v] (n, SH1, I, J)
    rw [hR]
    have en : (R 0 * yy + xx).toInt.toNat = cN R xx yy := by rw [(cN_i hG oC).2]; rfl
    have el := cN_lt oC
    have el9 := (gok_N hG).2
    have ei : (R 0 * yy + xx).toInt = (cN R xx yy : Nat) := (cN_i hG oC).2
    show dw_ok (pr_X12_driest K) 130 0 0 [some (.ref 404), some (.int s), some (.int l), some (.int b), some (.int le), some (.int y), some (.int x), some (.int v), some (.int kk)] [.int (R 0 * yy + xx), .ref 417, .int v] (n, SH1, I, J)
    show dw_ok (pr_X12_driest K) 130 0 0 [some (.ref 404), some (.int s), some (.int l), some (.int b), some (.int le), some (.int y), some (.int x), some (.int v), some (.int kk)] [.int (R 0 * yy + xx), .ref 417, .int v] (n, SH1, I, J)
    refine q_xald rfl (Or.inl rfl) sk_417 sn_417 (by rw [ei]; omega) (by rw [ei]; omega) ?_
    show dw_ok (pr_X12_driest K) 131 0 0 [some (.ref 404), some (.int s), some (.int l), some (.int b), some (.int le), some (.int y), some (.int x), some (.int v), some (.int kk)] [.int (I 417 ((R 0 * yy + xx)).toInt.toNat), .int v] (n, SH1, I, J)
    rw [en]
    show dw_ok (pr_X12_driest K) 131 0 0 [some (.ref 404), some (.int s), some (.int l), some (.int b), some (.int le), some (.int y), some (.int x), some (.int v), some (.int kk)] [.int (I 417 (cN R xx yy)), .int v] (n, SH1, I, J)
    have ecn : cN R xx yy = (Y + qq) * Cn R + (X + rr) := by
      show yy.toInt.toNat * Cn R + xx.toInt.toNat = _
      rw [show yy.toInt.toNat = Y + qq by omega, show xx.toInt.toNat = X + rr by omega]
    rw [show (I 417 (cN R xx yy)) = (runW R S 0 72).2.1 ((Y + qq) * Cn R + (X + rr)) by rw [hW _ el, ecn]]
    refine q_add rfl ?_
    refine q_ist rfl rfl ?_
    show dw_ok (pr_X12_driest K) 134 0 0 [some (.ref 404), some (.int s), some (.int l), some (.int b), some (.int le), some (.int y), some (.int x), some (.int (v + ((runW R S 0 72).2.1 ((Y + qq) * Cn R + (X + rr))))), some (.int kk)] [] (n, SH1, I, J)
    refine q_inc rfl rfl rfl ?_
    show dw_ok (pr_X12_driest K) 137 0 0 [some (.ref 404), some (.int s), some (.int l), some (.int b), some (.int le), some (.int y), some (.int x), some (.int (v + ((runW R S 0 72).2.1 ((Y + qq) * Cn R + (X + rr))))), some (.int (kk + 1))] [] (n, SH1, I, J)
    show dw_ok (pr_X12_driest K) 137 0 0 [some (.ref 404), some (.int s), some (.int l), some (.int b), some (.int le), some (.int y), some (.int x), some (.int (v + ((runW R S 0 72).2.1 ((Y + qq) * Cn R + (X + rr))))), some (.int (kk + 1))] [] (n, SH1, I, J)
    obtain ⟨kz, hkz⟩ : ∃ z, z = (kk + 1) := ⟨_, rfl⟩
    rw [← hkz]
    have ekz : kz.toInt = ((k + 1 : Nat) : Int) := by rw [hkz]; exact ix_1 hkk (by omega)
    refine q_goto rfl ?_
    exact ih (k + 1) (v + ((runW R S 0 72).2.1 ((Y + qq) * Cn R + (X + rr)))) kz (by omega) ekz (by rw [hv, hqq, hrr]; rfl)
set_option maxRecDepth 8000 in
theorem mdx_loop {n : Nat} {I : Nat → Nat → Int32} {J : Nat → Nat → Int64} {K : dw_K} {R S : Nat → Int32} {s l : Int32} {m : Nat} (hR : I 406 = R) (hG : GOK R) (hS : NOK S) (hW : ∀ c, c < Nn R → I 417 c = (runW R S 0 72).2.1 c) (hl : l.toInt = m) (h1 : 1 ≤ m) (hmC : m ≤ Cn R) (hmR : m ≤ Rn R) {y : Int32} {Y : Nat} (hy : y.toInt = Y) (hY : Y + m ≤ Rn R) {s0 : Int32 × Int32} (hk : ∀ (b le x : Int32) (u w : Option Value), mbR b le (dsX (runW R S 0 72).2.1 (Cn R) m Y s0 (Cn R - m + 1)) → dw_ok (pr_X12_driest K) 169 0 0 [some (.ref 404), some (.int s), some (.int l), some (.int b), some (.int le), some (.int y), some (.int x), u, w] [] (n, SH1, I, J)) :
    ∀ (f X : Nat) (b le x : Int32) (u w : Option Value), X + f = Cn R - m + 1 → x.toInt = X → mbR b le (dsX (runW R S 0 72).2.1 (Cn R) m Y s0 X) → dw_ok (pr_X12_driest K) 79 0 0 [some (.ref 404), some (.int s), some (.int l), some (.int b), some (.int le), some (.int y), some (.int x), u, w] [] (n, SH1, I, J) := by
  have hC9 : Cn R ≤ 12 := hG.1.2.2.2.1
  have hR9 : Rn R ≤ 12 := hG.1.2.2.2.2.1
  have hN9 := (gok_N hG).2
  have e40 : (I 406 0).toInt = Cn R := by rw [hR]; exact hG.1.1
  have e41 : (I 406 1).toInt = Rn R := by rw [hR]; exact hG.1.2.1
  have hmm : m * m ≤ 144 := Nat.mul_le_mul (show m ≤ 12 by omega) (show m ≤ 12 by omega)
  have cm1 : (-1 : Int32).toInt = -1 := rfl
  have ey := of_nat hy (by omega)
  intro f
  induction f with
  | zero =>
    intro X b le x u w hf hx hb
    have eX : X = Cn R - m + 1 := by omega
    refine q_ild rfl rfl ?_
    refine q_ild rfl rfl ?_
    refine q_add rfl ?_
    show dw_ok (pr_X12_driest K) 83 0 0 [some (.ref 404), some (.int s), some (.int l), some (.int b), some (.int le), some (.int y), some (.int x), u, w] [.int (x + l)] (n, SH1, I, J)
    obtain ⟨e5, he5⟩ : ∃ z, z = (x + l) := ⟨_, rfl⟩
    rw [← he5]
    have ee5 : e5.toInt = ((X + m : Nat) : Int) := by rw [he5]; exact ix_a hx hl (by omega)
    refine q_ald rfl rfl ?_
    refine q_getr rfl sk_404 sr_404_6 ?_
    refine q_ic rfl ?_
    refine q_xald rfl (Or.inl rfl) sk_406 sn_406 (by decide) (by decide) ?_
    refine q_icmp (c := 4) rfl (by decide) (fun y1 => ?_) (fun h => absurd (show (e5).toInt ≤ ((I 406 0)).toInt from h) (by omega))
    have y1 : ((I 406 0)).toInt < (e5).toInt := y1
    rw [eX] at hb
    exact hk b le x u w hb
  | succ f ih =>
    intro X b le x u w hf hx hb
    have ex := of_nat hx (by omega)
    obtain ⟨hb1, hb2⟩ := hb
    have sb := sqW_b (m := m) (X := X) (Y := Y) hG hS h1 (by omega) hY
    refine q_ild rfl rfl ?_
    refine q_ild rfl rfl ?_
    refine q_add rfl ?_
    show dw_ok (pr_X12_driest K) 83 0 0 [some (.ref 404), some (.int s), some (.int l), some (.int b), some (.int le), some (.int y), some (.int x), u, w] [.int (x + l)] (n, SH1, I, J)
    obtain ⟨e5, he5⟩ : ∃ z, z = (x + l) := ⟨_, rfl⟩
    rw [← he5]
    have ee5 : e5.toInt = ((X + m : Nat) : Int) := by rw [he5]; exact ix_a hx hl (by omega)
    refine q_ald rfl rfl ?_
    refine q_getr rfl sk_404 sr_404_6 ?_
    refine q_ic rfl ?_
    refine q_xald rfl (Or.inl rfl) sk_406 sn_406 (by decide) (by decide) ?_
    refine q_icmp (c := 4) rfl (by decide) (fun h => absurd (show ((I 406 0)).toInt < (e5).toInt from h) (by omega)) (fun y2 => ?_)
    have y2 : (e5).toInt ≤ ((I 406 0)).toInt := y2
    refine q_ic rfl ?_
    refine q_ist rfl rfl ?_
    show dw_ok (pr_X12_driest K) 95 0 0 [some (.ref 404), some (.int s), some (.int l), some (.int b), some (.int le), some (.int y), some (.int x), some (.int (0 : Int32)), w] [] (n, SH1, I, J)
    refine q_ic rfl ?_
    refine q_ist rfl rfl ?_
    show dw_ok (pr_X12_driest K) 98 0 0 [some (.ref 404), some (.int s), some (.int l), some (.int b), some (.int le), some (.int y), some (.int x), some (.int (0 : Int32)), some (.int (0 : Int32))] [] (n, SH1, I, J)
    refine msq_loop (b := b) (le := le) hR hG hS hW hl h1 hmC hmR hx hy (by omega) hY (fun kk => ?_) (m * m) 0 0 0 (by omega) rfl rfl
    show dw_ok (pr_X12_driest K) 140 0 0 [some (.ref 404), some (.int s), some (.int l), some (.int b), some (.int le), some (.int y), some (.int x), some (.int (sqW (runW R S 0 72).2.1 (Cn R) m X Y)), some (.int kk)] [] (n, SH1, I, J)
    obtain ⟨sw, hsw⟩ : ∃ z, z = sqW (runW R S 0 72).2.1 (Cn R) m X Y := ⟨_, rfl⟩
    rw [← hsw] at sb ⊢
    show dw_ok (pr_X12_driest K) 140 0 0 [some (.ref 404), some (.int s), some (.int l), some (.int b), some (.int le), some (.int y), some (.int x), some (.int sw), some (.int kk)] [] (n, SH1, I, J)
    refine q_ild rfl rfl ?_
    refine q_ild rfl rfl ?_
    refine q_icmp (c := 2) rfl (by decide) (fun y3 => ?_) (fun y3 => ?_)
    · have y3 : (sw).toInt < (le).toInt := y3
      refine q_ild rfl rfl ?_
      refine q_ist rfl rfl ?_
      show dw_ok (pr_X12_driest K) 154 0 0 [some (.ref 404), some (.int s), some (.int l), some (.int b), some (.int sw), some (.int y), some (.int x), some (.int sw), some (.int kk)] [] (n, SH1, I, J)
      refine q_ic rfl ?_
      refine q_ild rfl rfl ?_
      refine q_mul rfl ?_
      refine q_ild rfl rfl ?_
      refine q_add rfl ?_
      refine q_ist rfl rfl ?_
      show dw_ok (pr_X12_driest K) 163 0 0 [some (.ref 404), some (.int s), some (.int l), some (.int (((100 : Int32) * y) + x)), some (.int sw), some (.int y), some (.int x), some (.int sw), some (.int kk)] [] (n, SH1, I, J)
      refine q_inc rfl rfl rfl ?_
      show dw_ok (pr_X12_driest K) 166 0 0 [some (.ref 404), some (.int s), some (.int l), some (.int (((100 : Int32) * y) + x)), some (.int sw), some (.int y), some (.int (x + 1)), some (.int sw), some (.int kk)] [] (n, SH1, I, J)
      show dw_ok (pr_X12_driest K) 166 0 0 [some (.ref 404), some (.int s), some (.int l), some (.int (((100 : Int32) * y) + x)), some (.int sw), some (.int y), some (.int (x + 1)), some (.int sw), some (.int kk)] [] (n, SH1, I, J)
      obtain ⟨xz, hxz⟩ : ∃ z, z = (x + 1) := ⟨_, rfl⟩
      rw [← hxz]
      have exz : xz.toInt = ((X + 1 : Nat) : Int) := by rw [hxz]; exact ix_1 hx (by omega)
      refine q_goto rfl ?_
      have hs := ds_y (W := (runW R S 0 72).2.1) (C := Cn R) (m := m) (X := X) (Y := Y) (s := (dsX (runW R S 0 72).2.1 (Cn R) m Y s0 X)) (by
        rw [← hsw]
        rcases hb2 with ⟨z, -⟩ | ⟨-, z⟩
        · exact Or.inl z
        · exact Or.inr (by rw [← z]; omega))
      have pt := pl_t (X := X) (Y := Y) (by omega) (by omega)
      have eb : (((100 : Int32) * y) + x) = 100 * Int32.ofNat Y + Int32.ofNat X := by rw [← ey, ← ex]
      exact ih (X + 1) (((100 : Int32) * y) + x) sw xz _ _ (by omega) exz ⟨eb.trans (congrArg Prod.fst hs).symm, Or.inr ⟨by rw [show ((dsX (runW R S 0 72).2.1 (Cn R) m Y s0 (X + 1))).1 = _ from congrArg Prod.fst hs]; show (100 * Int32.ofNat Y + Int32.ofNat X).toInt ≠ -1; omega, hsw.trans (congrArg Prod.snd hs).symm⟩⟩
    · have y3 : (le).toInt ≤ (sw).toInt := y3
      refine q_goto rfl ?_
      refine q_inc rfl rfl rfl ?_
      show dw_ok (pr_X12_driest K) 166 0 0 [some (.ref 404), some (.int s), some (.int l), some (.int b), some (.int le), some (.int y), some (.int (x + 1)), some (.int sw), some (.int kk)] [] (n, SH1, I, J)
      show dw_ok (pr_X12_driest K) 166 0 0 [some (.ref 404), some (.int s), some (.int l), some (.int b), some (.int le), some (.int y), some (.int (x + 1)), some (.int sw), some (.int kk)] [] (n, SH1, I, J)
      obtain ⟨xz, hxz⟩ : ∃ z, z = (x + 1) := ⟨_, rfl⟩
      rw [← hxz]
      have exz : xz.toInt = ((X + 1 : Nat) : Int) := by rw [hxz]; exact ix_1 hx (by omega)
      refine q_goto rfl ?_
      have hs : dsU (runW R S 0 72).2.1 (Cn R) m (dsX (runW R S 0 72).2.1 (Cn R) m Y s0 X) X Y = (dsX (runW R S 0 72).2.1 (Cn R) m Y s0 X) := ds_n (fun q => by
        rw [← hsw] at q
        rcases hb2 with ⟨z, z2⟩ | ⟨z, z2⟩
        · omega
        · rw [← z2] at q
          exact q.elim (fun g => z g) (fun g => by omega))
      exact ih (X + 1) b le xz _ _ (by omega) exz (show mbR b le (dsU (runW R S 0 72).2.1 (Cn R) m (dsX (runW R S 0 72).2.1 (Cn R) m Y s0 X) X Y) by rw [hs]; exact ⟨hb1, hb2⟩)
set_option maxRecDepth 8000 in
theorem mdy_loop {n : Nat} {I : Nat → Nat → Int32} {J : Nat → Nat → Int64} {K : dw_K} {R S : Nat → Int32} {s l : Int32} {m : Nat} (hR : I 406 = R) (hG : GOK R) (hS : NOK S) (hW : ∀ c, c < Nn R → I 417 c = (runW R S 0 72).2.1 c) (hl : l.toInt = m) (h1 : 1 ≤ m) (hmC : m ≤ Cn R) (hmR : m ≤ Rn R) (hk : K (some (.int (dsY (runW R S 0 72).2.1 (Cn R) m (Cn R - m + 1) (Rn R - m + 1)).1)) (n, SH1, I, J)) :
    ∀ (f Y : Nat) (b le y : Int32) (v u w : Option Value), Y + f = Rn R - m + 1 → y.toInt = Y → mbR b le (dsY (runW R S 0 72).2.1 (Cn R) m (Cn R - m + 1) Y) → dw_ok (pr_X12_driest K) 63 0 0 [some (.ref 404), some (.int s), some (.int l), some (.int b), some (.int le), some (.int y), v, u, w] [] (n, SH1, I, J) := by
  have hC9 : Cn R ≤ 12 := hG.1.2.2.2.1
  have hR9 : Rn R ≤ 12 := hG.1.2.2.2.2.1
  have hN9 := (gok_N hG).2
  have e40 : (I 406 0).toInt = Cn R := by rw [hR]; exact hG.1.1
  have e41 : (I 406 1).toInt = Rn R := by rw [hR]; exact hG.1.2.1
  have hmm : m * m ≤ 144 := Nat.mul_le_mul (show m ≤ 12 by omega) (show m ≤ 12 by omega)
  intro f
  induction f with
  | zero =>
    intro Y b le y v u w hf hy hb
    have eY : Y = Rn R - m + 1 := by omega
    refine q_ild rfl rfl ?_
    refine q_ild rfl rfl ?_
    refine q_add rfl ?_
    show dw_ok (pr_X12_driest K) 67 0 0 [some (.ref 404), some (.int s), some (.int l), some (.int b), some (.int le), some (.int y), v, u, w] [.int (y + l)] (n, SH1, I, J)
    obtain ⟨e6, he6⟩ : ∃ z, z = (y + l) := ⟨_, rfl⟩
    rw [← he6]
    have ee6 : e6.toInt = ((Y + m : Nat) : Int) := by rw [he6]; exact ix_a hy hl (by omega)
    refine q_ald rfl rfl ?_
    refine q_getr rfl sk_404 sr_404_6 ?_
    refine q_ic rfl ?_
    refine q_xald rfl (Or.inl rfl) sk_406 sn_406 (by decide) (by decide) ?_
    refine q_icmp (c := 4) rfl (by decide) (fun y1 => ?_) (fun h => absurd (show (e6).toInt ≤ ((I 406 1)).toInt from h) (by omega))
    have y1 : ((I 406 1)).toInt < (e6).toInt := y1
    refine q_ild rfl rfl ?_
    rw [eY] at hb
    rw [hb.1]
    exact q_iret rfl hk
  | succ f ih =>
    intro Y b le y v u w hf hy hb
    refine q_ild rfl rfl ?_
    refine q_ild rfl rfl ?_
    refine q_add rfl ?_
    show dw_ok (pr_X12_driest K) 67 0 0 [some (.ref 404), some (.int s), some (.int l), some (.int b), some (.int le), some (.int y), v, u, w] [.int (y + l)] (n, SH1, I, J)
    obtain ⟨e6, he6⟩ : ∃ z, z = (y + l) := ⟨_, rfl⟩
    rw [← he6]
    have ee6 : e6.toInt = ((Y + m : Nat) : Int) := by rw [he6]; exact ix_a hy hl (by omega)
    refine q_ald rfl rfl ?_
    refine q_getr rfl sk_404 sr_404_6 ?_
    refine q_ic rfl ?_
    refine q_xald rfl (Or.inl rfl) sk_406 sn_406 (by decide) (by decide) ?_
    refine q_icmp (c := 4) rfl (by decide) (fun h => absurd (show ((I 406 1)).toInt < (e6).toInt from h) (by omega)) (fun y2 => ?_)
    have y2 : (e6).toInt ≤ ((I 406 1)).toInt := y2
    refine q_ic rfl ?_
    refine q_ist rfl rfl ?_
    show dw_ok (pr_X12_driest K) 79 0 0 [some (.ref 404), some (.int s), some (.int l), some (.int b), some (.int le), some (.int y), some (.int (0 : Int32)), u, w] [] (n, SH1, I, J)
    refine mdx_loop (S := S) hR hG hS hW hl h1 hmC hmR hy (by omega) (s0 := (dsY (runW R S 0 72).2.1 (Cn R) m (Cn R - m + 1) Y)) (fun b le x u w hb2 => ?_) (Cn R - m + 1) 0 b le 0 u w (by omega) rfl hb
    show dw_ok (pr_X12_driest K) 169 0 0 [some (.ref 404), some (.int s), some (.int l), some (.int b), some (.int le), some (.int y), some (.int x), u, w] [] (n, SH1, I, J)
    refine q_inc rfl rfl rfl ?_
    show dw_ok (pr_X12_driest K) 172 0 0 [some (.ref 404), some (.int s), some (.int l), some (.int b), some (.int le), some (.int (y + 1)), some (.int x), u, w] [] (n, SH1, I, J)
    show dw_ok (pr_X12_driest K) 172 0 0 [some (.ref 404), some (.int s), some (.int l), some (.int b), some (.int le), some (.int (y + 1)), some (.int x), u, w] [] (n, SH1, I, J)
    obtain ⟨yz, hyz⟩ : ∃ z, z = (y + 1) := ⟨_, rfl⟩
    rw [← hyz]
    have eyz : yz.toInt = ((Y + 1 : Nat) : Int) := by rw [hyz]; exact ix_1 hy (by omega)
    refine q_goto rfl ?_
    exact ih (Y + 1) b le yz _ _ _ (by omega) eyz hb2
set_option maxRecDepth 8000 in
set_option maxHeartbeats 4000000 in
theorem v_mdriest {n : Nat} {I : Nat → Nat → Int32} {J : Nat → Nat → Int64} {K : dw_K} {R : Nat → Int32} (hR : I 406 = R) (hG : GOK R) {a1 a2 : Int32} (hN : okS R a1 → NOK (nX R a1)) (hk : ∀ (w : Int32) (I' : Nat → Nat → Int32), w.toInt = aDriest R a1 a2 → K (some (.int w)) (n, SH1, I', J)) : t_X12_driest [.ref 404, .int a1, .int a2] (n, SH1, I, J) K := by
  have cm1 : (-1 : Int32).toInt = -1 := rfl
  have k0 : (0 : Int32).toInt = 0 := rfl
  have k1 : (1 : Int32).toInt = 1 := rfl
  have k2 : (2 : Int32).toInt = 2 := rfl
  refine q_body (Nat.le_of_ble_eq_true rfl) ?_
  refine q_ald rfl rfl ?_
  refine q_ic rfl ?_
  refine q_puti rfl sk_404 ?_
  show dw_ok (pr_X12_driest K) 5 0 0 [some (.ref 404), some (.int a1), some (.int a2), none, none, none, none, none, none] [] (n, SH1, (dw_up I 404 0 (0 : Int32)), J)
  refine q_ald rfl rfl ?_
  refine q_ild rfl rfl ?_
  refine q_callV (as := [.int a1]) (rest := []) rfl rfl sk_404 rfl (Nat.le_of_ble_eq_true rfl) ?_
  obtain ⟨I1, hI1⟩ : ∃ X, X = (dw_up I 404 0 (0 : Int32)) := ⟨_, rfl⟩
  rw [← hI1]
  have eI1 : I1 406 = R := by rw [hI1]; exact ((up_row (by decide)).trans (hR))
  refine v_isNight (fun w_ oS => ?_)
  rcases oS with ⟨rfl, oS⟩ | ⟨rfl, oS⟩
  · show dw_ok (pr_X12_driest K) 10 0 0 [some (.ref 404), some (.int a1), some (.int a2), none, none, none, none, none, none] [.int (1 : Int32)] (n, SH1, I1, J)
    refine q_if (c := 0) rfl (by decide) (fun h => absurd (show (1 : Int) = 0 from h) (by decide)) (fun y2 => ?_)
    have y2 : (1 : Int) ≠ 0 := y2
    refine q_ild rfl rfl ?_
    refine q_ic rfl ?_
    refine q_ic rfl ?_
    refine q_callS (as := [.int a2, .int (1 : Int32), .int (12 : Int32)]) (rest := []) rfl rfl rfl rfl ?_
    have e40 : (I1 406 0).toInt = Cn R := by rw [eI1]; exact hG.1.1
    have e41 : (I1 406 1).toInt = Rn R := by rw [eI1]; exact hG.1.2.1
    have hC9 : Cn R ≤ 12 := hG.1.2.2.2.1
    have hR9 : Rn R ≤ 12 := hG.1.2.2.2.2.1
    refine v_isIn (fun w_ oI => ?_)
    rcases oI with ⟨rfl, oI⟩ | ⟨rfl, oI⟩
    · have oI : (1 ≤ a2.toInt ∧ a2.toInt ≤ 12) := oI
      show dw_ok (pr_X12_driest K) 20 0 0 [some (.ref 404), some (.int a1), some (.int a2), none, none, none, none, none, none] [.int (1 : Int32)] (n, SH1, I1, J)
      refine q_if (c := 0) rfl (by decide) (fun h => absurd (show (1 : Int) = 0 from h) (by decide)) (fun y3 => ?_)
      have y3 : (1 : Int) ≠ 0 := y3
      refine q_ild rfl rfl ?_
      refine q_ald rfl rfl ?_
      refine q_getr rfl sk_404 sr_404_6 ?_
      refine q_ic rfl ?_
      refine q_xald rfl (Or.inl rfl) sk_406 sn_406 (by decide) (by decide) ?_
      refine q_icmp (c := 4) rfl (by decide) (fun y4 => ?_) (fun y4 => ?_)
      · have y4 : ((I1 406 0)).toInt < (a2).toInt := y4
        refine q_ic rfl ?_
        exact q_iret rfl (hk _ _ (cm1.trans (driest_n (fun q => by have := q.2; omega)).symm))
      · have y4 : (a2).toInt ≤ ((I1 406 0)).toInt := y4
        refine q_ild rfl rfl ?_
        refine q_ald rfl rfl ?_
        refine q_getr rfl sk_404 sr_404_6 ?_
        refine q_ic rfl ?_
        refine q_xald rfl (Or.inl rfl) sk_406 sn_406 (by decide) (by decide) ?_
        refine q_icmp (c := 5) rfl (by decide) (fun y5 => ?_) (fun y5 => ?_)
        · have y5 : (a2).toInt ≤ ((I1 406 1)).toInt := y5
          refine q_ald rfl rfl ?_
          refine q_ild rfl rfl ?_
          refine q_ic rfl ?_
          refine q_ic rfl ?_
          refine q_callV (as := [.int a1, .int (0 : Int32), .int (71 : Int32)]) (rest := []) rfl rfl sk_404 rfl (Nat.le_of_ble_eq_true rfl) ?_
          rw [eI1] at oS
          refine v_through (st := 0) eI1 hG oS (hN oS) rfl ⟨by decide, by decide⟩ (fun I9 e9 q9 => ?_)
          rw [show (71 : Int32).toInt.toNat + 1 = 72 from rfl] at q9
          show dw_ok (pr_X12_driest K) 53 0 0 [some (.ref 404), some (.int a1), some (.int a2), none, none, none, none, none, none] [] (n, SH1, I9, J)
          refine q_ic rfl ?_
          refine q_ist rfl rfl ?_
          show dw_ok (pr_X12_driest K) 55 0 0 [some (.ref 404), some (.int a1), some (.int a2), some (.int (-1 : Int32)), none, none, none, none, none] [] (n, SH1, I9, J)
          refine q_ic rfl ?_
          refine q_ist rfl rfl ?_
          show dw_ok (pr_X12_driest K) 60 0 0 [some (.ref 404), some (.int a1), some (.int a2), some (.int (-1 : Int32)), some (.int (1000000000 : Int32)), none, none, none, none] [] (n, SH1, I9, J)
          refine q_ic rfl ?_
          refine q_ist rfl rfl ?_
          show dw_ok (pr_X12_driest K) 63 0 0 [some (.ref 404), some (.int a1), some (.int a2), some (.int (-1 : Int32)), some (.int (1000000000 : Int32)), some (.int (0 : Int32)), none, none, none] [] (n, SH1, I9, J)
          have el : a2.toInt = (a2.toInt.toNat : Nat) := by omega
          exact mdy_loop (S := nX R a1) (m := a2.toInt.toNat) e9 hG (hN oS) (fun c hc => q9.2.1 c hc) el (by omega) (by omega) (by omega) (hk _ I9 (driest_y ⟨oS, by omega, by omega, by omega⟩).symm) (Rn R - a2.toInt.toNat + 1) 0 (-1) 1000000000 0 _ _ _ (by omega) rfl ⟨rfl, Or.inl ⟨rfl, rfl⟩⟩
        · have y5 : ((I1 406 1)).toInt < (a2).toInt := y5
          refine q_ic rfl ?_
          exact q_iret rfl (hk _ _ (cm1.trans (driest_n (fun q => by have := q.2; omega)).symm))
    · have oI : ¬ (1 ≤ a2.toInt ∧ a2.toInt ≤ 12) := oI
      show dw_ok (pr_X12_driest K) 20 0 0 [some (.ref 404), some (.int a1), some (.int a2), none, none, none, none, none, none] [.int (0 : Int32)] (n, SH1, I1, J)
      refine q_if (c := 0) rfl (by decide) (fun y6 => ?_) (fun h => absurd (show (0 : Int) ≠ 0 from h) (by decide))
      have y6 : (0 : Int) = 0 := y6
      refine q_ic rfl ?_
      exact q_iret rfl (hk _ _ (cm1.trans (driest_n (fun q => oI ⟨q.2.1, by have := q.2.2.1; omega⟩)).symm))
  · show dw_ok (pr_X12_driest K) 10 0 0 [some (.ref 404), some (.int a1), some (.int a2), none, none, none, none, none, none] [.int (0 : Int32)] (n, SH1, I1, J)
    refine q_if (c := 0) rfl (by decide) (fun y7 => ?_) (fun h => absurd (show (0 : Int) ≠ 0 from h) (by decide))
    have y7 : (0 : Int) = 0 := y7
    refine q_ic rfl ?_
    exact q_iret rfl (hk _ _ (cm1.trans (driest_n (fun q => by rw [eI1] at oS; exact oS q.1)).symm))
