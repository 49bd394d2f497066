section
set_option maxRecDepth 8000 in
theorem v_costAt {n : Nat} {I : Nat → Nat → Int32} {J : Nat → Nat → Int64} {K : dw_K} {R : Nat → Int32} {x y : Int32} (hG : GOK R) (h40 : I 4 0 = R 0) (h41 : I 4 1 = R 1) (hk : ∀ w : Int32, csA R (I 202) x y w → K (some (.int w)) (n, SH1, I, J)) : t_X4_costAt [.ref 201, .ref 4, .int x, .int y] (n, SH1, I, J) K := by
  have hN9 := (gok_N hG).2
  refine q_body (Nat.le_of_ble_eq_true rfl) ?_
  refine q_ald rfl rfl ?_
  refine q_ild rfl rfl ?_
  refine q_ild rfl rfl ?_
  refine q_callV (as := [.int x, .int y]) (rest := []) rfl rfl sk_4 rfl (Nat.le_of_ble_eq_true rfl) ?_
  refine v_cellAt2 (R := R) hG h40 h41 (fun oC c ec => ?_) (fun nC => ?_)
  · have cl := cN_lt oC
    have ecn : c.toInt.toNat = cN R x y := nat_of ec
    show dw_ok (pr_X4_costAt K) 6 0 0 [some (.ref 201), some (.ref 4), some (.int x), some (.int y), none] [.int c] (n, SH1, I, J)
    refine q_ist rfl rfl ?_
    show dw_ok (pr_X4_costAt K) 8 0 0 [some (.ref 201), some (.ref 4), some (.int x), some (.int y), some (.int c)] [] (n, SH1, I, J)
    refine q_ild rfl rfl ?_
    refine q_if (c := 2) rfl (by decide) (fun h => absurd (show (c).toInt < 0 from h) (by omega)) (fun y1 => ?_)
    have y1 : 0 ≤ (c).toInt := y1
    refine q_ild rfl rfl ?_
    refine q_ic rfl ?_
    refine q_icmp (c := 3) rfl (by decide) (fun h => absurd (show (144 : Int) ≤ (c).toInt from h) (by omega)) (fun y2 => ?_)
    have y2 : (c).toInt < (144 : Int) := y2
    refine q_ald rfl rfl ?_
    refine q_getr rfl sk_201 sr_201_0 ?_
    refine q_ild rfl rfl ?_
    refine q_xald rfl (Or.inl rfl) sk_202 sn_202 (by omega) (by omega) ?_
    show dw_ok (pr_X4_costAt K) 28 0 0 [some (.ref 201), some (.ref 4), some (.int x), some (.int y), some (.int c)] [.int (I 202 (c).toInt.toNat)] (n, SH1, I, J)
    rw [ecn]
    refine q_goto rfl ?_
    exact q_iret rfl (hk _ (Or.inl ⟨oC, rfl⟩))
  · show dw_ok (pr_X4_costAt K) 6 0 0 [some (.ref 201), some (.ref 4), some (.int x), some (.int y), none] [.int (-1 : Int32)] (n, SH1, I, J)
    refine q_ist rfl rfl ?_
    show dw_ok (pr_X4_costAt K) 8 0 0 [some (.ref 201), some (.ref 4), some (.int x), some (.int y), some (.int (-1 : Int32))] [] (n, SH1, I, J)
    refine q_ild rfl rfl ?_
    refine q_if (c := 2) rfl (by decide) (fun y3 => ?_) (fun h => absurd (show 0 ≤ (-1 : Int) from h) (by decide))
    have y3 : (-1 : Int) < 0 := y3
    refine q_ic rfl ?_
    exact q_iret rfl (hk _ (Or.inr ⟨nC, rfl⟩))
set_option maxRecDepth 8000 in
theorem v_leastBeside {n : Nat} {I : Nat → Nat → Int32} {J : Nat → Nat → Int64} {K : dw_K} {R : Nat → Int32} {c : Int32} {k : Nat} (hG : GOK R) (h40 : I 4 0 = R 0) (h41 : I 4 1 = R 1) (hc : c.toInt = k) (hk9 : k < Nn R) (hk : ∀ w : Int32, lbP (Cn R) (Nn R) k (I 202) w → K (some (.int w)) (n, SH1, I, J)) : t_X4_leastBeside [.ref 201, .ref 4, .int c] (n, SH1, I, J) K := by
  have hN9 := (gok_N hG).2
  have hC9 : Cn R ≤ 12 := hG.1.2.2.2.1
  have k1 : (1 : Int32).toInt = 1 := rfl
  have e40 : (I 4 0).toInt = Cn R := by rw [h40]; exact hG.1.1
  have hC1 : 0 < Cn R := by
    rcases Nat.eq_zero_or_pos (Cn R) with e | e
    · have q : k < Cn R * Rn R := hk9
      rw [e, Nat.zero_mul] at q
      exact absurd q (Nat.not_lt_zero k)
    · exact e
  obtain ⟨XX, hX⟩ : ∃ z, z = k % Cn R := ⟨_, rfl⟩
  obtain ⟨YY, hY⟩ : ∃ z, z = k / Cn R := ⟨_, rfl⟩
  have bX : XX ≤ 144 := by rw [hX]; exact Nat.le_trans (Nat.mod_le k (Cn R)) (by omega)
  have bY : YY ≤ 144 := by rw [hY]; exact Nat.le_trans (Nat.div_le_self k (Cn R)) (by omega)
  refine q_body (Nat.le_of_ble_eq_true rfl) ?_
  refine q_ald rfl rfl ?_
  refine q_geti rfl sk_4 ?_
  refine q_ic rfl ?_
  refine q_icmp (c := 3) rfl (by decide) (fun y1 => ?_) (fun h => absurd (show ((I 4 0)).toInt < (1 : Int) from h) (by omega))
  have y1 : (1 : Int) ≤ ((I 4 0)).toInt := y1
  refine q_ild rfl rfl ?_
  refine q_ald rfl rfl ?_
  refine q_geti rfl sk_4 ?_
  refine q_rem rfl (show I 4 0 ≠ 0 from fun q => by rw [q, show (0 : Int32).toInt = 0 from rfl] at e40; omega) ?_
  show dw_ok (pr_X4_leastBeside K) 17 0 0 [some (.ref 201), some (.ref 4), some (.int c), none, none, none, none] [.int (c - c / (I 4 0) * (I 4 0))] (n, SH1, I, J)
  obtain ⟨xx, hxx⟩ : ∃ z, z = (c - c / (I 4 0) * (I 4 0)) := ⟨_, rfl⟩
  rw [← hxx]
  have exx : xx.toInt = ((XX : Nat) : Int) := by rw [hxx]; exact (by rw [hX]; exact i_modN hc e40 hC1)
  refine q_ist rfl rfl ?_
  show dw_ok (pr_X4_leastBeside K) 18 0 0 [some (.ref 201), some (.ref 4), some (.int c), some (.int xx), none, none, none] [] (n, SH1, I, J)
  refine q_ild rfl rfl ?_
  refine q_ald rfl rfl ?_
  refine q_geti rfl sk_4 ?_
  refine q_div rfl (show I 4 0 ≠ 0 from fun q => by rw [q, show (0 : Int32).toInt = 0 from rfl] at e40; omega) ?_
  show dw_ok (pr_X4_leastBeside K) 24 0 0 [some (.ref 201), some (.ref 4), some (.int c), some (.int xx), none, none, none] [.int (c / (I 4 0))] (n, SH1, I, J)
  obtain ⟨yy, hyy⟩ : ∃ z, z = (c / (I 4 0)) := ⟨_, rfl⟩
  rw [← hyy]
  have eyy : yy.toInt = ((YY : Nat) : Int) := by rw [hyy]; exact (by rw [hY]; exact i_divN hc e40 hC1)
  refine q_ist rfl rfl ?_
  show dw_ok (pr_X4_leastBeside K) 26 0 0 [some (.ref 201), some (.ref 4), some (.int c), some (.int xx), some (.int yy), none, none] [] (n, SH1, I, J)
  refine q_ald rfl rfl ?_
  refine q_ald rfl rfl ?_
  refine q_ild rfl rfl ?_
  refine q_ild rfl rfl ?_
  refine q_ic rfl ?_
  refine q_sub rfl ?_
  show dw_ok (pr_X4_leastBeside K) 33 0 0 [some (.ref 201), some (.ref 4), some (.int c), some (.int xx), some (.int yy), none, none] [.int (yy - (1 : Int32)), .int xx, .ref 4, .ref 201] (n, SH1, I, J)
  obtain ⟨y1, hy1⟩ : ∃ z, z = (yy - (1 : Int32)) := ⟨_, rfl⟩
  rw [← hy1]
  have ey1 : y1.toInt = (YY : Int) - 1 := by rw [hy1]; exact (by rw [i_sub (by omega) (by omega), eyy, k1])
  refine q_callV (as := [.ref 4, .int xx, .int y1]) (rest := []) rfl rfl sk_201 rfl (Nat.le_of_ble_eq_true rfl) ?_
  refine v_costAt hG h40 h41 (fun z1 hz1 => ?_)
  show dw_ok (pr_X4_leastBeside K) 36 0 0 [some (.ref 201), some (.ref 4), some (.int c), some (.int xx), some (.int yy), none, none] [.int z1] (n, SH1, I, J)
  refine q_ald rfl rfl ?_
  refine q_ald rfl rfl ?_
  refine q_ild rfl rfl ?_
  refine q_ild rfl rfl ?_
  refine q_ic rfl ?_
  refine q_add rfl ?_
  show dw_ok (pr_X4_leastBeside K) 43 0 0 [some (.ref 201), some (.ref 4), some (.int c), some (.int xx), some (.int yy), none, none] [.int (yy + (1 : Int32)), .int xx, .ref 4, .ref 201, .int z1] (n, SH1, I, J)
  obtain ⟨y2, hy2⟩ : ∃ z, z = (yy + (1 : Int32)) := ⟨_, rfl⟩
  rw [← hy2]
  have ey2 : y2.toInt = (YY : Int) + 1 := by rw [hy2]; exact (by rw [i_add (by omega) (by omega), eyy, k1])
  refine q_callV (as := [.ref 4, .int xx, .int y2]) (rest := [.int z1]) rfl rfl sk_201 rfl (Nat.le_of_ble_eq_true rfl) ?_
  refine v_costAt hG h40 h41 (fun z2 hz2 => ?_)
  show dw_ok (pr_X4_leastBeside K) 46 0 0 [some (.ref 201), some (.ref 4), some (.int c), some (.int xx), some (.int yy), none, none] [.int z2, .int z1] (n, SH1, I, J)
  refine q_min rfl rfl ?_
  refine q_ist rfl rfl ?_
  show dw_ok (pr_X4_leastBeside K) 51 0 0 [some (.ref 201), some (.ref 4), some (.int c), some (.int xx), some (.int yy), some (.int (fi_min z1 z2)), none] [] (n, SH1, I, J)
  refine q_ald rfl rfl ?_
  refine q_ald rfl rfl ?_
  refine q_ild rfl rfl ?_
  refine q_ic rfl ?_
  refine q_add rfl ?_
  show dw_ok (pr_X4_leastBeside K) 56 0 0 [some (.ref 201), some (.ref 4), some (.int c), some (.int xx), some (.int yy), some (.int (fi_min z1 z2)), none] [.int (xx + (1 : Int32)), .ref 4, .ref 201] (n, SH1, I, J)
  obtain ⟨x1, hx1⟩ : ∃ z, z = (xx + (1 : Int32)) := ⟨_, rfl⟩
  rw [← hx1]
  have ex1 : x1.toInt = (XX : Int) + 1 := by rw [hx1]; exact (by rw [i_add (by omega) (by omega), exx, k1])
  refine q_ild rfl rfl ?_
  refine q_callV (as := [.ref 4, .int x1, .int yy]) (rest := []) rfl rfl sk_201 rfl (Nat.le_of_ble_eq_true rfl) ?_
  refine v_costAt hG h40 h41 (fun z3 hz3 => ?_)
  show dw_ok (pr_X4_leastBeside K) 61 0 0 [some (.ref 201), some (.ref 4), some (.int c), some (.int xx), some (.int yy), some (.int (fi_min z1 z2)), none] [.int z3] (n, SH1, I, J)
  refine q_ald rfl rfl ?_
  refine q_ald rfl rfl ?_
  refine q_ild rfl rfl ?_
  refine q_ic rfl ?_
  refine q_sub rfl ?_
  show dw_ok (pr_X4_leastBeside K) 66 0 0 [some (.ref 201), some (.ref 4), some (.int c), some (.int xx), some (.int yy), some (.int (fi_min z1 z2)), none] [.int (xx - (1 : Int32)), .ref 4, .ref 201, .int z3] (n, SH1, I, J)
  obtain ⟨x2, hx2⟩ : ∃ z, z = (xx - (1 : Int32)) := ⟨_, rfl⟩
  rw [← hx2]
  have ex2 : x2.toInt = (XX : Int) - 1 := by rw [hx2]; exact (by rw [i_sub (by omega) (by omega), exx, k1])
  refine q_ild rfl rfl ?_
  refine q_callV (as := [.ref 4, .int x2, .int yy]) (rest := [.int z3]) rfl rfl sk_201 rfl (Nat.le_of_ble_eq_true rfl) ?_
  refine v_costAt hG h40 h41 (fun z4 hz4 => ?_)
  show dw_ok (pr_X4_leastBeside K) 71 0 0 [some (.ref 201), some (.ref 4), some (.int c), some (.int xx), some (.int yy), some (.int (fi_min z1 z2)), none] [.int z4, .int z3] (n, SH1, I, J)
  refine q_min rfl rfl ?_
  refine q_ist rfl rfl ?_
  show dw_ok (pr_X4_leastBeside K) 76 0 0 [some (.ref 201), some (.ref 4), some (.int c), some (.int xx), some (.int yy), some (.int (fi_min z1 z2)), some (.int (fi_min z3 z4))] [] (n, SH1, I, J)
  refine q_ild rfl rfl ?_
  refine q_ild rfl rfl ?_
  refine q_min rfl rfl ?_
  refine q_iret rfl (hk _ (lb_of hk9 ?_ ?_ ?_ ?_ hz1 hz2 hz3 hz4))
  · rw [← hX, ← hY]
    exact Or.inr (Or.inr (Or.inr ⟨rfl, by omega, by omega⟩))
  · rw [← hX, ← hY]
    exact Or.inr (Or.inr (Or.inl ⟨rfl, by omega, by omega⟩))
  · rw [← hX, ← hY]
    exact Or.inl ⟨rfl, by omega, by omega⟩
  · rw [← hX, ← hY]
    exact Or.inr (Or.inl ⟨rfl, by omega, by omega⟩)
def wbP (b : Bool) (wo : Int32) : Prop := (b = true ∧ wo.toInt = 1) ∨ (b = false ∧ wo.toInt = 0)
def spA (N : Nat) (ch : Int32) (f g : Nat → Int32) : Prop := ch.toInt = 1 ∨ (ch.toInt = 0 ∧ ∀ x, x < N → f x = g x)
def spR (C N : Nat) (W : Nat → Int32) (b : Bool) (a r : Nat) (ch : Int32) (f : Nat → Int32) : Prop := (ch.toInt = 1 ∧ rdP C N W b a r f) ∨ (ch.toInt = 0 ∧ fnW C N W b a f)
set_option maxRecDepth 8000 in
theorem spi_loop {n : Nat} {J : Nat → Nat → Int64} {K : dw_K} {R W : Nat → Int32} {I0 : Nat → Nat → Int32} {fm wo : Int32} {a : Nat} {b : Bool} (hG : GOK R) (h40 : I0 4 0 = R 0) (h41 : I0 4 1 = R 1) (hn : (I0 164 1).toInt = Nn R) (hW : ∀ c, c < Nn R → I0 (164 + 14) c = W c) (hWb : ∀ c, c < Nn R → 0 ≤ (W c).toInt ∧ (W c).toInt ≤ 200000) (hfm : fm.toInt = a) (ha : a < Nn R) (hk : ∀ (c : Int32) (I : Nat → Nat → Int32), (∀ x, x ≠ 202 → I x = I0 x) → (∀ j, j < 144 → I 202 j = inF W a j) → dw_ok (pr_X4_spread K) 41 0 0 [some (.ref 201), some (.ref 164), some (.ref 4), some (.int fm), some (.int wo), some (.int c), none, none, none, none, none] [] (n, SH1, I, J)) :
    ∀ (f k : Nat) (c : Int32) (I : Nat → Nat → Int32), k + f = 144 → c.toInt = k → (∀ x, x ≠ 202 → I x = I0 x) → (∀ j, j < k → I 202 j = inF W a j) → dw_ok (pr_X4_spread K) 3 0 0 [some (.ref 201), some (.ref 164), some (.ref 4), some (.int fm), some (.int wo), some (.int c), none, none, none, none, none] [] (n, SH1, I, J) := by
  have hN9 := (gok_N hG).2
  intro f
  induction f with
  | zero =>
    intro k c I hf hc hfr h2
    obtain rfl : k = 144 := by omega
    refine q_ild rfl rfl ?_
    refine q_ic rfl ?_
    refine q_icmp (c := 3) rfl (by decide) (fun y1 => ?_) (fun h => absurd (show (c).toInt < (144 : Int) from h) (by omega))
    have y1 : (144 : Int) ≤ (c).toInt := y1
    exact hk c I hfr h2
  | succ f ih =>
    intro k c I hf hc hfr h2
    have hcn : c.toInt.toNat = k := nat_of hc
    refine q_ild rfl rfl ?_
    refine q_ic rfl ?_
    refine q_icmp (c := 3) rfl (by decide) (fun h => absurd (show (144 : Int) ≤ (c).toInt from h) (by omega)) (fun y2 => ?_)
    have y2 : (c).toInt < (144 : Int) := y2
    refine q_ald rfl rfl ?_
    refine q_getr rfl sk_201 sr_201_0 ?_
    refine q_ild rfl rfl ?_
    refine q_ild rfl rfl ?_
    refine q_ild rfl rfl ?_
    refine q_icmp (c := 1) rfl (by decide) (fun y3 => ?_) (fun y3 => ?_)
    · have y3 : (c).toInt ≠ (fm).toInt := y3
      refine q_ic rfl ?_
      refine q_iast rfl sk_202 sn_202 (by omega) (by omega) ?_
      show dw_ok (pr_X4_spread K) 35 0 0 [some (.ref 201), some (.ref 164), some (.ref 4), some (.int fm), some (.int wo), some (.int c), none, none, none, none, none] [] (n, SH1, (dw_up I 202 (c).toInt.toNat (1000000000 : Int32)), J)
      rw [hcn]
      refine q_inc rfl rfl rfl ?_
      show dw_ok (pr_X4_spread K) 38 0 0 [some (.ref 201), some (.ref 164), some (.ref 4), some (.int fm), some (.int wo), some (.int (c + 1)), none, none, none, none, none] [] (n, SH1, (dw_up I 202 k (1000000000 : Int32)), J)
      show dw_ok (pr_X4_spread K) 38 0 0 [some (.ref 201), some (.ref 164), some (.ref 4), some (.int fm), some (.int wo), some (.int (c + 1)), none, none, none, none, none] [] (n, SH1, (dw_up I 202 k (1000000000 : Int32)), J)
      obtain ⟨cx, hcx⟩ : ∃ z, z = (c + 1) := ⟨_, rfl⟩
      rw [← hcx]
      have ecx : cx.toInt = ((k + 1 : Nat) : Int) := by rw [hcx]; exact ix_1 hc (by omega)
      refine q_goto rfl ?_
      refine ih (k + 1) cx (dw_up I 202 k (1000000000 : Int32)) (by omega) ecx (fun x hx => (up_row hx).trans (hfr x hx)) (fun j hj => ?_)
      by_cases e : j = k
      · rw [e, up_same]
        exact (in_n (by omega)).symm
      · rw [up_fld e]
        exact h2 j (by omega)
    · have y3 : (c).toInt = (fm).toInt := y3
      refine q_ald rfl rfl ?_
      refine q_ild rfl rfl ?_
      refine q_callV (as := [.int c]) (rest := [.int c, .ref 202]) rfl rfl sk_164 rfl (Nat.le_of_ble_eq_true rfl) ?_
      refine v_waterOf (A := 164) (N := Nn R) (k := a) (rt_ok (by decide)) (show c.toInt = (a : Nat) by omega) (by rw [hfr 164 (by decide)]; exact hn) hN9 ha ?_
      show dw_ok (pr_X4_spread K) 29 0 0 [some (.ref 201), some (.ref 164), some (.ref 4), some (.int fm), some (.int wo), some (.int c), none, none, none, none, none] [.int (I (164 + 14) a), .int c, .ref 202] (n, SH1, I, J)
      rw [hfr (164 + 14) (by decide), hW a ha]
      show dw_ok (pr_X4_spread K) 29 0 0 [some (.ref 201), some (.ref 164), some (.ref 4), some (.int fm), some (.int wo), some (.int c), none, none, none, none, none] [.int (W a), .int c, .ref 202] (n, SH1, I, J)
      refine q_goto rfl ?_
      refine q_iast rfl sk_202 sn_202 (by omega) (by omega) ?_
      show dw_ok (pr_X4_spread K) 35 0 0 [some (.ref 201), some (.ref 164), some (.ref 4), some (.int fm), some (.int wo), some (.int c), none, none, none, none, none] [] (n, SH1, (dw_up I 202 (c).toInt.toNat (W a)), J)
      rw [hcn]
      refine q_inc rfl rfl rfl ?_
      show dw_ok (pr_X4_spread K) 38 0 0 [some (.ref 201), some (.ref 164), some (.ref 4), some (.int fm), some (.int wo), some (.int (c + 1)), none, none, none, none, none] [] (n, SH1, (dw_up I 202 k (W a)), J)
      show dw_ok (pr_X4_spread K) 38 0 0 [some (.ref 201), some (.ref 164), some (.ref 4), some (.int fm), some (.int wo), some (.int (c + 1)), none, none, none, none, none] [] (n, SH1, (dw_up I 202 k (W a)), J)
      obtain ⟨cx, hcx⟩ : ∃ z, z = (c + 1) := ⟨_, rfl⟩
      rw [← hcx]
      have ecx : cx.toInt = ((k + 1 : Nat) : Int) := by rw [hcx]; exact ix_1 hc (by omega)
      refine q_goto rfl ?_
      refine ih (k + 1) cx (dw_up I 202 k (W a)) (by omega) ecx (fun x hx => (up_row hx).trans (hfr x hx)) (fun j hj => ?_)
      by_cases e : j = k
      · rw [e, up_same]
        exact (in_y (by omega)).symm
      · rw [up_fld e]
        exact h2 j (by omega)
set_option maxRecDepth 8000 in
theorem spc_loop {n : Nat} {J : Nat → Nat → Int64} {K : dw_K} {R W : Nat → Int32} {I0 : Nat → Nat → Int32} {fm wo : Int32} {a : Nat} {b : Bool} (hG : GOK R) (h40 : I0 4 0 = R 0) (h41 : I0 4 1 = R 1) (hn : (I0 164 1).toInt = Nn R) (hW : ∀ c, c < Nn R → I0 (164 + 14) c = W c) (hWb : ∀ c, c < Nn R → 0 ≤ (W c).toInt ∧ (W c).toInt ≤ 200000) (hfm : fm.toInt = a) (ha : a < Nn R) (hb : wbP b wo) {g : Nat → Int32} {cs rd : Int32} (hcs : cs.toInt = Nn R)
    (hk : ∀ (c ch : Int32) (v9 v10 : Option Value) (I : Nat → Nat → Int32), (∀ x, x ≠ 202 → I x = I0 x) → spI (Cn R) (Nn R) W b a g (I 202) (Nn R) → spA (Nn R) ch (I 202) g → dw_ok (pr_X4_spread K) 152 0 0 [some (.ref 201), some (.ref 164), some (.ref 4), some (.int fm), some (.int wo), some (.int cs), some (.int ch), some (.int rd), some (.int c), v9, v10] [] (n, SH1, I, J)) :
    ∀ (f k : Nat) (c ch : Int32) (v9 v10 : Option Value) (I : Nat → Nat → Int32), k + f = Nn R → c.toInt = k → (∀ x, x ≠ 202 → I x = I0 x) → spI (Cn R) (Nn R) W b a g (I 202) k → spA (Nn R) ch (I 202) g → dw_ok (pr_X4_spread K) 72 0 0 [some (.ref 201), some (.ref 164), some (.ref 4), some (.int fm), some (.int wo), some (.int cs), some (.int ch), some (.int rd), some (.int c), v9, v10] [] (n, SH1, I, J) := by
  have hN9 := (gok_N hG).2
  have k0 : (0 : Int32).toInt = 0 := rfl
  have k1 : (1 : Int32).toInt = 1 := rfl
  intro f
  induction f with
  | zero =>
    intro k c ch v9 v10 I hf hc hfr h2 h3
    have ek : k = Nn R := by omega
    rw [ek] at h2
    refine q_ild rfl rfl ?_
    refine q_ild rfl rfl ?_
    refine q_icmp (c := 3) rfl (by decide) (fun y1 => ?_) (fun h => absurd (show (c).toInt < (cs).toInt from h) (by omega))
    have y1 : (cs).toInt ≤ (c).toInt := y1
    exact hk c ch v9 v10 I hfr h2 h3
  | succ f ih =>
    intro k c ch v9 v10 I hf hc hfr h2 h3
    have hcn : c.toInt.toNat = k := nat_of hc
    have hkN : k < Nn R := by omega
    obtain ⟨fk0, fk9, -⟩ := h2.1 k hkN
    obtain ⟨wk0, wk9⟩ := hWb k hkN
    have g40 : I 4 0 = R 0 := by rw [hfr 4 (by decide)]; exact h40
    have g41 : I 4 1 = R 1 := by rw [hfr 4 (by decide)]; exact h41
    refine q_ild rfl rfl ?_
    refine q_ild rfl rfl ?_
    refine q_icmp (c := 3) rfl (by decide) (fun h => absurd (show (cs).toInt ≤ (c).toInt from h) (by omega)) (fun y2 => ?_)
    have y2 : (c).toInt < (cs).toInt := y2
    refine q_ild rfl rfl ?_
    refine q_ic rfl ?_
    refine q_icmp (c := 3) rfl (by decide) (fun h => absurd (show (144 : Int) ≤ (c).toInt from h) (by omega)) (fun y3 => ?_)
    have y3 : (c).toInt < (144 : Int) := y3
    refine q_ald rfl rfl ?_
    refine q_ild rfl rfl ?_
    refine q_callV (as := [.int c]) (rest := []) rfl rfl sk_164 rfl (Nat.le_of_ble_eq_true rfl) ?_
    refine v_waterOf (A := 164) (N := Nn R) (k := k) (rt_ok (by decide)) hc (by rw [hfr 164 (by decide)]; exact hn) hN9 hkN ?_
    show dw_ok (pr_X4_spread K) 93 0 0 [some (.ref 201), some (.ref 164), some (.ref 4), some (.int fm), some (.int wo), some (.int cs), some (.int ch), some (.int rd), some (.int c), v9, v10] [.int (I (164 + 14) k)] (n, SH1, I, J)
    obtain ⟨wa, hwa⟩ : ∃ z, z = W k := ⟨_, rfl⟩
    rw [hfr (164 + 14) (by decide), hW k hkN, ← hwa]
    rw [← hwa] at wk0 wk9
    show dw_ok (pr_X4_spread K) 93 0 0 [some (.ref 201), some (.ref 164), some (.ref 4), some (.int fm), some (.int wo), some (.int cs), some (.int ch), some (.int rd), some (.int c), v9, v10] [.int wa] (n, SH1, I, J)
    refine q_ist rfl rfl ?_
    show dw_ok (pr_X4_spread K) 95 0 0 [some (.ref 201), some (.ref 164), some (.ref 4), some (.int fm), some (.int wo), some (.int cs), some (.int ch), some (.int rd), some (.int c), some (.int wa), v10] [] (n, SH1, I, J)
    refine q_ild rfl rfl ?_
    refine q_if (c := 4) rfl (by decide) (fun y4 => ?_) (fun y4 => ?_)
    · have y4 : 0 < (wa).toInt := y4
      refine q_ald rfl rfl ?_
      refine q_ald rfl rfl ?_
      refine q_ild rfl rfl ?_
      refine q_callV (as := [.ref 4, .int c]) (rest := []) rfl rfl sk_201 rfl (Nat.le_of_ble_eq_true rfl) ?_
      refine v_leastBeside hG g40 g41 hc hkN (fun w hw => ?_)
      obtain ⟨w0, w9⟩ := lb_b h2.1 hw
      show dw_ok (pr_X4_spread K) 112 0 0 [some (.ref 201), some (.ref 164), some (.ref 4), some (.int fm), some (.int wo), some (.int cs), some (.int ch), some (.int rd), some (.int c), some (.int wa), v10] [.int w] (n, SH1, I, J)
      refine q_ild rfl rfl ?_
      refine q_add rfl ?_
      show dw_ok (pr_X4_spread K) 115 0 0 [some (.ref 201), some (.ref 164), some (.ref 4), some (.int fm), some (.int wo), some (.int cs), some (.int ch), some (.int rd), some (.int c), some (.int wa), v10] [.int (w + wa)] (n, SH1, I, J)
      obtain ⟨wy, hwy⟩ : ∃ z, z = (w + wa) := ⟨_, rfl⟩
      rw [← hwy]
      have ewy : wy.toInt = w.toInt + wa.toInt := by rw [hwy]; exact i_add (by omega) (by omega)
      refine q_goto rfl ?_
      refine q_ist rfl rfl ?_
      show dw_ok (pr_X4_spread K) 122 0 0 [some (.ref 201), some (.ref 164), some (.ref 4), some (.int fm), some (.int wo), some (.int cs), some (.int ch), some (.int rd), some (.int c), some (.int wa), some (.int wy)] [] (n, SH1, I, J)
      refine q_ild rfl rfl ?_
      refine q_ald rfl rfl ?_
      refine q_getr rfl sk_201 sr_201_0 ?_
      refine q_ild rfl rfl ?_
      refine q_xald rfl (Or.inl rfl) sk_202 sn_202 (by omega) (by omega) ?_
      show dw_ok (pr_X4_spread K) 131 0 0 [some (.ref 201), some (.ref 164), some (.ref 4), some (.int fm), some (.int wo), some (.int cs), some (.int ch), some (.int rd), some (.int c), some (.int wa), some (.int wy)] [.int (I 202 (c).toInt.toNat), .int wy] (n, SH1, I, J)
      rw [hcn]
      refine q_icmp (c := 3) rfl (by decide) (fun y5 => ?_) (fun y5 => ?_)
      · have y5 : ((I 202 k)).toInt ≤ (wy).toInt := y5
        refine q_inc rfl rfl rfl ?_
        show dw_ok (pr_X4_spread K) 149 0 0 [some (.ref 201), some (.ref 164), some (.ref 4), some (.int fm), some (.int wo), some (.int cs), some (.int ch), some (.int rd), some (.int (c + 1)), some (.int wa), some (.int wy)] [] (n, SH1, I, J)
        show dw_ok (pr_X4_spread K) 149 0 0 [some (.ref 201), some (.ref 164), some (.ref 4), some (.int fm), some (.int wo), some (.int cs), some (.int ch), some (.int rd), some (.int (c + 1)), some (.int wa), some (.int wy)] [] (n, SH1, I, J)
        obtain ⟨cx, hcx⟩ : ∃ z, z = (c + 1) := ⟨_, rfl⟩
        rw [← hcx]
        have ecx : cx.toInt = ((k + 1 : Nat) : Int) := by rw [hcx]; exact ix_1 hc (by omega)
        refine q_goto rfl ?_
        have hps : psP W b k := fun _ => by rw [← hwa]; exact y4
        rw [hwa] at ewy wk0
        exact ih (k + 1) cx ch _ _ I (by omega) ecx hfr (sp_n h2 hw ewy y5) h3
      · have y5 : (wy).toInt < ((I 202 k)).toInt := y5
        refine q_ald rfl rfl ?_
        refine q_getr rfl sk_201 sr_201_0 ?_
        refine q_ild rfl rfl ?_
        refine q_ild rfl rfl ?_
        refine q_iast rfl sk_202 sn_202 (by omega) (by omega) ?_
        show dw_ok (pr_X4_spread K) 143 0 0 [some (.ref 201), some (.ref 164), some (.ref 4), some (.int fm), some (.int wo), some (.int cs), some (.int ch), some (.int rd), some (.int c), some (.int wa), some (.int wy)] [] (n, SH1, (dw_up I 202 (c).toInt.toNat wy), J)
        rw [hcn]
        refine q_ic rfl ?_
        refine q_ist rfl rfl ?_
        show dw_ok (pr_X4_spread K) 146 0 0 [some (.ref 201), some (.ref 164), some (.ref 4), some (.int fm), some (.int wo), some (.int cs), some (.int (1 : Int32)), some (.int rd), some (.int c), some (.int wa), some (.int wy)] [] (n, SH1, (dw_up I 202 k wy), J)
        refine q_inc rfl rfl rfl ?_
        show dw_ok (pr_X4_spread K) 149 0 0 [some (.ref 201), some (.ref 164), some (.ref 4), some (.int fm), some (.int wo), some (.int cs), some (.int (1 : Int32)), some (.int rd), some (.int (c + 1)), some (.int wa), some (.int wy)] [] (n, SH1, (dw_up I 202 k wy), J)
        show dw_ok (pr_X4_spread K) 149 0 0 [some (.ref 201), some (.ref 164), some (.ref 4), some (.int fm), some (.int wo), some (.int cs), some (.int (1 : Int32)), some (.int rd), some (.int (c + 1)), some (.int wa), some (.int wy)] [] (n, SH1, (dw_up I 202 k wy), J)
        obtain ⟨cx, hcx⟩ : ∃ z, z = (c + 1) := ⟨_, rfl⟩
        rw [← hcx]
        have ecx : cx.toInt = ((k + 1 : Nat) : Int) := by rw [hcx]; exact ix_1 hc (by omega)
        refine q_goto rfl ?_
        have hps : psP W b k := fun _ => by rw [← hwa]; exact y4
        rw [hwa] at ewy wk0
        exact ih (k + 1) cx 1 _ _ (dw_up I 202 k wy) (by omega) ecx (fun x hx => (up_row hx).trans (hfr x hx)) (by rw [upF_row]; exact sp_y h2 hkN wk0 hw hps ewy y5) (Or.inl rfl)
    · have y4 : (wa).toInt ≤ 0 := y4
      refine q_ild rfl rfl ?_
      refine q_if (c := 1) rfl (by decide) (fun y6 => ?_) (fun y6 => ?_)
      · have y6 : (wo).toInt ≠ 0 := y6
        refine q_ic rfl ?_
        refine q_ist rfl rfl ?_
        show dw_ok (pr_X4_spread K) 122 0 0 [some (.ref 201), some (.ref 164), some (.ref 4), some (.int fm), some (.int wo), some (.int cs), some (.int ch), some (.int rd), some (.int c), some (.int wa), some (.int (1000000000 : Int32))] [] (n, SH1, I, J)
        refine q_ild rfl rfl ?_
        refine q_ald rfl rfl ?_
        refine q_getr rfl sk_201 sr_201_0 ?_
        refine q_ild rfl rfl ?_
        refine q_xald rfl (Or.inl rfl) sk_202 sn_202 (by omega) (by omega) ?_
        show dw_ok (pr_X4_spread K) 131 0 0 [some (.ref 201), some (.ref 164), some (.ref 4), some (.int fm), some (.int wo), some (.int cs), some (.int ch), some (.int rd), some (.int c), some (.int wa), some (.int (1000000000 : Int32))] [.int (I 202 (c).toInt.toNat), .int (1000000000 : Int32)] (n, SH1, I, J)
        rw [hcn]
        refine q_icmp (c := 3) rfl (by decide) (fun y7 => ?_) (fun h => absurd (show (1000000000 : Int) < ((I 202 k)).toInt from h) (by omega))
        have y7 : ((I 202 k)).toInt ≤ (1000000000 : Int) := y7
        refine q_inc rfl rfl rfl ?_
        show dw_ok (pr_X4_spread K) 149 0 0 [some (.ref 201), some (.ref 164), some (.ref 4), some (.int fm), some (.int wo), some (.int cs), some (.int ch), some (.int rd), some (.int (c + 1)), some (.int wa), some (.int (1000000000 : Int32))] [] (n, SH1, I, J)
        show dw_ok (pr_X4_spread K) 149 0 0 [some (.ref 201), some (.ref 164), some (.ref 4), some (.int fm), some (.int wo), some (.int cs), some (.int ch), some (.int rd), some (.int (c + 1)), some (.int wa), some (.int (1000000000 : Int32))] [] (n, SH1, I, J)
        obtain ⟨cx, hcx⟩ : ∃ z, z = (c + 1) := ⟨_, rfl⟩
        rw [← hcx]
        have ecx : cx.toInt = ((k + 1 : Nat) : Int) := by rw [hcx]; exact ix_1 hc (by omega)
        refine q_goto rfl ?_
        have hps : ¬ psP W b k := by
          rcases hb with ⟨e, -⟩ | ⟨-, e⟩
          · intro q
            have q2 := q e
            rw [← hwa] at q2
            omega
          · exact absurd e (by omega)
        exact ih (k + 1) cx ch _ _ I (by omega) ecx hfr (sp_x h2 hps) h3
      · have y6 : (wo).toInt = 0 := y6
        refine q_ald rfl rfl ?_
        refine q_ald rfl rfl ?_
        refine q_ild rfl rfl ?_
        refine q_callV (as := [.ref 4, .int c]) (rest := []) rfl rfl sk_201 rfl (Nat.le_of_ble_eq_true rfl) ?_
        refine v_leastBeside hG g40 g41 hc hkN (fun w hw => ?_)
        obtain ⟨w0, w9⟩ := lb_b h2.1 hw
        show dw_ok (pr_X4_spread K) 112 0 0 [some (.ref 201), some (.ref 164), some (.ref 4), some (.int fm), some (.int wo), some (.int cs), some (.int ch), some (.int rd), some (.int c), some (.int wa), v10] [.int w] (n, SH1, I, J)
        refine q_ild rfl rfl ?_
        refine q_add rfl ?_
        show dw_ok (pr_X4_spread K) 115 0 0 [some (.ref 201), some (.ref 164), some (.ref 4), some (.int fm), some (.int wo), some (.int cs), some (.int ch), some (.int rd), some (.int c), some (.int wa), v10] [.int (w + wa)] (n, SH1, I, J)
        obtain ⟨wy, hwy⟩ : ∃ z, z = (w + wa) := ⟨_, rfl⟩
        rw [← hwy]
        have ewy : wy.toInt = w.toInt + wa.toInt := by rw [hwy]; exact i_add (by omega) (by omega)
        refine q_goto rfl ?_
        refine q_ist rfl rfl ?_
        show dw_ok (pr_X4_spread K) 122 0 0 [some (.ref 201), some (.ref 164), some (.ref 4), some (.int fm), some (.int wo), some (.int cs), some (.int ch), some (.int rd), some (.int c), some (.int wa), some (.int wy)] [] (n, SH1, I, J)
        refine q_ild rfl rfl ?_
        refine q_ald rfl rfl ?_
        refine q_getr rfl sk_201 sr_201_0 ?_
        refine q_ild rfl rfl ?_
        refine q_xald rfl (Or.inl rfl) sk_202 sn_202 (by omega) (by omega) ?_
        show dw_ok (pr_X4_spread K) 131 0 0 [some (.ref 201), some (.ref 164), some (.ref 4), some (.int fm), some (.int wo), some (.int cs), some (.int ch), some (.int rd), some (.int c), some (.int wa), some (.int wy)] [.int (I 202 (c).toInt.toNat), .int wy] (n, SH1, I, J)
        rw [hcn]
        refine q_icmp (c := 3) rfl (by decide) (fun y8 => ?_) (fun y8 => ?_)
        · have y8 : ((I 202 k)).toInt ≤ (wy).toInt := y8
          refine q_inc rfl rfl rfl ?_
          show dw_ok (pr_X4_spread K) 149 0 0 [some (.ref 201), some (.ref 164), some (.ref 4), some (.int fm), some (.int wo), some (.int cs), some (.int ch), some (.int rd), some (.int (c + 1)), some (.int wa), some (.int wy)] [] (n, SH1, I, J)
          show dw_ok (pr_X4_spread K) 149 0 0 [some (.ref 201), some (.ref 164), some (.ref 4), some (.int fm), some (.int wo), some (.int cs), some (.int ch), some (.int rd), some (.int (c + 1)), some (.int wa), some (.int wy)] [] (n, SH1, I, J)
          obtain ⟨cx, hcx⟩ : ∃ z, z = (c + 1) := ⟨_, rfl⟩
          rw [← hcx]
          have ecx : cx.toInt = ((k + 1 : Nat) : Int) := by rw [hcx]; exact ix_1 hc (by omega)
          refine q_goto rfl ?_
          have hps : psP W b k := by
            rcases hb with ⟨-, e⟩ | ⟨e, -⟩
            · exact absurd e (by omega)
            · intro q
              rw [e] at q
              exact absurd q (by decide)
          rw [hwa] at ewy wk0
          exact ih (k + 1) cx ch _ _ I (by omega) ecx hfr (sp_n h2 hw ewy y8) h3
        · have y8 : (wy).toInt < ((I 202 k)).toInt := y8
          refine q_ald rfl rfl ?_
          refine q_getr rfl sk_201 sr_201_0 ?_
          refine q_ild rfl rfl ?_
          refine q_ild rfl rfl ?_
          refine q_iast rfl sk_202 sn_202 (by omega) (by omega) ?_
          show dw_ok (pr_X4_spread K) 143 0 0 [some (.ref 201), some (.ref 164), some (.ref 4), some (.int fm), some (.int wo), some (.int cs), some (.int ch), some (.int rd), some (.int c), some (.int wa), some (.int wy)] [] (n, SH1, (dw_up I 202 (c).toInt.toNat wy), J)
          rw [hcn]
          refine q_ic rfl ?_
          refine q_ist rfl rfl ?_
          show dw_ok (pr_X4_spread K) 146 0 0 [some (.ref 201), some (.ref 164), some (.ref 4), some (.int fm), some (.int wo), some (.int cs), some (.int (1 : Int32)), some (.int rd), some (.int c), some (.int wa), some (.int wy)] [] (n, SH1, (dw_up I 202 k wy), J)
          refine q_inc rfl rfl rfl ?_
          show dw_ok (pr_X4_spread K) 149 0 0 [some (.ref 201), some (.ref 164), some (.ref 4), some (.int fm), some (.int wo), some (.int cs), some (.int (1 : Int32)), some (.int rd), some (.int (c + 1)), some (.int wa), some (.int wy)] [] (n, SH1, (dw_up I 202 k wy), J)
          show dw_ok (pr_X4_spread K) 149 0 0 [some (.ref 201), some (.ref 164), some (.ref 4), some (.int fm), some (.int wo), some (.int cs), some (.int (1 : Int32)), some (.int rd), some (.int (c + 1)), some (.int wa), some (.int wy)] [] (n, SH1, (dw_up I 202 k wy), J)
          obtain ⟨cx, hcx⟩ : ∃ z, z = (c + 1) := ⟨_, rfl⟩
          rw [← hcx]
          have ecx : cx.toInt = ((k + 1 : Nat) : Int) := by rw [hcx]; exact ix_1 hc (by omega)
          refine q_goto rfl ?_
          have hps : psP W b k := by
            rcases hb with ⟨-, e⟩ | ⟨e, -⟩
            · exact absurd e (by omega)
            · intro q
              rw [e] at q
              exact absurd q (by decide)
          rw [hwa] at ewy wk0
          exact ih (k + 1) cx 1 _ _ (dw_up I 202 k wy) (by omega) ecx (fun x hx => (up_row hx).trans (hfr x hx)) (by rw [upF_row]; exact sp_y h2 hkN wk0 hw hps ewy y8) (Or.inl rfl)
set_option maxRecDepth 8000 in
theorem spo_loop {n : Nat} {J : Nat → Nat → Int64} {K : dw_K} {R W : Nat → Int32} {I0 : Nat → Nat → Int32} {fm wo : Int32} {a : Nat} {b : Bool} (hG : GOK R) (h40 : I0 4 0 = R 0) (h41 : I0 4 1 = R 1) (hn : (I0 164 1).toInt = Nn R) (hW : ∀ c, c < Nn R → I0 (164 + 14) c = W c) (hWb : ∀ c, c < Nn R → 0 ≤ (W c).toInt ∧ (W c).toInt ≤ 200000) (hfm : fm.toInt = a) (ha : a < Nn R) (hb : wbP b wo) {cs : Int32} (hcs : cs.toInt = Nn R)
    (hk : ∀ I : Nat → Nat → Int32, (∀ x, x ≠ 202 → I x = I0 x) → fnW (Cn R) (Nn R) W b a (I 202) → K none (n, SH1, I, J)) :
    ∀ (f r : Nat) (ch rd : Int32) (v8 v9 v10 : Option Value) (I : Nat → Nat → Int32), r + f = 144 → rd.toInt = r → (∀ x, x ≠ 202 → I x = I0 x) → fiP (Cn R) (Nn R) W b a (I 202) → spR (Cn R) (Nn R) W b a r ch (I 202) → dw_ok (pr_X4_spread K) 53 0 0 [some (.ref 201), some (.ref 164), some (.ref 4), some (.int fm), some (.int wo), some (.int cs), some (.int ch), some (.int rd), v8, v9, v10] [] (n, SH1, I, J) := by
  have hN9 := (gok_N hG).2
  have k0 : (0 : Int32).toInt = 0 := rfl
  have k1 : (1 : Int32).toInt = 1 := rfl
  intro f
  induction f with
  | zero =>
    intro r ch rd v8 v9 v10 I hf hr hfr h2 h3
    refine q_ild rfl rfl ?_
    refine q_ic rfl ?_
    refine q_icmp (c := 3) rfl (by decide) (fun y1 => ?_) (fun h => absurd (show (rd).toInt < (144 : Int) from h) (by omega))
    have y1 : (144 : Int) ≤ (rd).toInt := y1
    refine q_vret rfl (hk I hfr ?_)
    rcases h3 with ⟨-, h4⟩ | ⟨-, h4⟩
    · exact ⟨h2, rd_all ha (fun c hc => (hWb c hc).1) (by omega) h4⟩
    · exact h4
  | succ f ih =>
    intro r ch rd v8 v9 v10 I hf hr hfr h2 h3
    refine q_ild rfl rfl ?_
    refine q_ic rfl ?_
    refine q_icmp (c := 3) rfl (by decide) (fun h => absurd (show (144 : Int) ≤ (rd).toInt from h) (by omega)) (fun y2 => ?_)
    have y2 : (rd).toInt < (144 : Int) := y2
    refine q_ild rfl rfl ?_
    refine q_if (c := 0) rfl (by decide) (fun y3 => ?_) (fun y3 => ?_)
    · have y3 : (ch).toInt = 0 := y3
      refine q_vret rfl (hk I hfr ?_)
      rcases h3 with ⟨e, -⟩ | ⟨-, h4⟩
      · omega
      · exact h4
    · have y3 : (ch).toInt ≠ 0 := y3
      refine q_ic rfl ?_
      refine q_ist rfl rfl ?_
      show dw_ok (pr_X4_spread K) 69 0 0 [some (.ref 201), some (.ref 164), some (.ref 4), some (.int fm), some (.int wo), some (.int cs), some (.int (0 : Int32)), some (.int rd), v8, v9, v10] [] (n, SH1, I, J)
      refine q_ic rfl ?_
      refine q_ist rfl rfl ?_
      show dw_ok (pr_X4_spread K) 72 0 0 [some (.ref 201), some (.ref 164), some (.ref 4), some (.int fm), some (.int wo), some (.int cs), some (.int (0 : Int32)), some (.int rd), some (.int (0 : Int32)), v9, v10] [] (n, SH1, I, J)
      have hr2 : rdP (Cn R) (Nn R) W b a r (I 202) := by
        rcases h3 with ⟨-, h4⟩ | ⟨e, -⟩
        · exact h4
        · omega
      refine spc_loop (I0 := I0) (g := I 202) hG h40 h41 hn hW hWb hfm ha hb hcs (fun c ch v9 v10 I2 hfr2 s2 s3 => ?_) (Nn R) 0 0 0 _ _ I (Nat.zero_add _) rfl hfr (sp_0 h2) (Or.inr ⟨rfl, fun _ _ => rfl⟩)
      show dw_ok (pr_X4_spread K) 152 0 0 [some (.ref 201), some (.ref 164), some (.ref 4), some (.int fm), some (.int wo), some (.int cs), some (.int ch), some (.int rd), some (.int c), v9, v10] [] (n, SH1, I2, J)
      refine q_inc rfl rfl rfl ?_
      show dw_ok (pr_X4_spread K) 155 0 0 [some (.ref 201), some (.ref 164), some (.ref 4), some (.int fm), some (.int wo), some (.int cs), some (.int ch), some (.int (rd + 1)), some (.int c), v9, v10] [] (n, SH1, I2, J)
      show dw_ok (pr_X4_spread K) 155 0 0 [some (.ref 201), some (.ref 164), some (.ref 4), some (.int fm), some (.int wo), some (.int cs), some (.int ch), some (.int (rd + 1)), some (.int c), v9, v10] [] (n, SH1, I2, J)
      obtain ⟨rx, hrx⟩ : ∃ z, z = (rd + 1) := ⟨_, rfl⟩
      rw [← hrx]
      have erx : rx.toInt = ((r + 1 : Nat) : Int) := by rw [hrx]; exact ix_1 hr (by omega)
      refine q_goto rfl ?_
      refine ih (r + 1) ch rx _ _ _ I2 (by omega) erx hfr2 s2.1 ?_
      rcases s3 with e | ⟨e, s4⟩
      · exact Or.inl ⟨e, sp_end ha s2 hr2⟩
      · exact Or.inr ⟨e, sp_fin ha s2 s4 hr2⟩
set_option maxRecDepth 8000 in
theorem v_spread {n : Nat} {J : Nat → Nat → Int64} {K : dw_K} {R W : Nat → Int32} {I0 : Nat → Nat → Int32} {fm wo : Int32} {a : Nat} {b : Bool} (hG : GOK R) (h40 : I0 4 0 = R 0) (h41 : I0 4 1 = R 1) (hn : (I0 164 1).toInt = Nn R) (hW : ∀ c, c < Nn R → I0 (164 + 14) c = W c) (hWb : ∀ c, c < Nn R → 0 ≤ (W c).toInt ∧ (W c).toInt ≤ 200000) (hfm : fm.toInt = a) (ha : a < Nn R) (hb : wbP b wo) (hk : ∀ I : Nat → Nat → Int32, (∀ x, x ≠ 202 → I x = I0 x) → fnW (Cn R) (Nn R) W b a (I 202) → K none (n, SH1, I, J)) : t_X4_spread [.ref 201, .ref 164, .ref 4, .int fm, .int wo] (n, SH1, I0, J) K := by
  obtain ⟨hN, hN9⟩ := gok_N hG
  refine q_body (Nat.le_of_ble_eq_true rfl) ?_
  refine q_ic rfl ?_
  refine q_ist rfl rfl ?_
  show dw_ok (pr_X4_spread K) 3 0 0 [some (.ref 201), some (.ref 164), some (.ref 4), some (.int fm), some (.int wo), some (.int (0 : Int32)), none, none, none, none, none] [] (n, SH1, I0, J)
  refine spi_loop (b := b) (K := K) (wo := wo) hG h40 h41 hn hW hWb hfm ha (fun c I1 r1 q1 => ?_) 144 0 0 I0 (by decide) rfl (fun _ _ => rfl) (fun j hj => absurd hj (Nat.not_lt_zero j))
  show dw_ok (pr_X4_spread K) 41 0 0 [some (.ref 201), some (.ref 164), some (.ref 4), some (.int fm), some (.int wo), some (.int c), none, none, none, none, none] [] (n, SH1, I1, J)
  refine q_ald rfl rfl ?_
  refine q_callV (as := []) (rest := []) rfl rfl sk_4 rfl (Nat.le_of_ble_eq_true rfl) ?_
  refine v_gsize ?_
  show dw_ok (pr_X4_spread K) 45 0 0 [some (.ref 201), some (.ref 164), some (.ref 4), some (.int fm), some (.int wo), some (.int c), none, none, none, none, none] [.int (I1 4 0 * I1 4 1)] (n, SH1, I1, J)
  rw [r1 4 (by decide), h40, h41]
  obtain ⟨cs, hcs⟩ : ∃ z, z = R 0 * R 1 := ⟨_, rfl⟩
  rw [← hcs]
  have ecs : cs.toInt = Nn R := by rw [hcs]; exact hN
  show dw_ok (pr_X4_spread K) 45 0 0 [some (.ref 201), some (.ref 164), some (.ref 4), some (.int fm), some (.int wo), some (.int c), none, none, none, none, none] [.int cs] (n, SH1, I1, J)
  refine q_ist rfl rfl ?_
  show dw_ok (pr_X4_spread K) 47 0 0 [some (.ref 201), some (.ref 164), some (.ref 4), some (.int fm), some (.int wo), some (.int cs), none, none, none, none, none] [] (n, SH1, I1, J)
  refine q_ic rfl ?_
  refine q_ist rfl rfl ?_
  show dw_ok (pr_X4_spread K) 50 0 0 [some (.ref 201), some (.ref 164), some (.ref 4), some (.int fm), some (.int wo), some (.int cs), some (.int (1 : Int32)), none, none, none, none] [] (n, SH1, I1, J)
  refine q_ic rfl ?_
  refine q_ist rfl rfl ?_
  show dw_ok (pr_X4_spread K) 53 0 0 [some (.ref 201), some (.ref 164), some (.ref 4), some (.int fm), some (.int wo), some (.int cs), some (.int (1 : Int32)), some (.int (0 : Int32)), none, none, none] [] (n, SH1, I1, J)
  obtain ⟨i1, i2⟩ := in_ok (C := Cn R) (b := b) ha hWb (fun c hc => q1 c (by omega))
  exact spo_loop hG h40 h41 hn hW hWb hfm ha hb ecs hk 144 0 1 0 _ _ _ I1 (by decide) rfl r1 i1 (Or.inl ⟨rfl, i2⟩)
set_option maxRecDepth 8000 in
theorem wa_loop {n : Nat} {J : Nat → Nat → Int64} {K : dw_K} {I : Nat → Nat → Int32} {N a C : Nat} {W : Nat → Int32} {fm cs : Int32} (hN9 : N ≤ 144) (ha : a < N) (hWb : ∀ c, c < N → 0 ≤ (W c).toInt ∧ (W c).toInt ≤ 200000) (hcs : cs.toInt = N) (hF : fnW C N W true a (I 202)) (hk : ∀ m : Int32, m.toInt = (rcN (rcP C N W true a) N : Nat) → K (some (.int m)) (n, SH1, I, J)) :
    ∀ (f k : Nat) (m c : Int32), k + f = N → c.toInt = k → m.toInt = (rcN (rcP C N W true a) k : Nat) → dw_ok (pr_X4_wetAround K) 30 0 0 [some (.ref 201), some (.ref 164), some (.ref 4), some (.int fm), some (.int cs), some (.int m), some (.int c)] [] (n, SH1, I, J) := by
  intro f
  induction f with
  | zero =>
    intro k m c hf hc hm
    have ek : k = N := by omega
    rw [ek] at hm
    refine q_ild rfl rfl ?_
    refine q_ild rfl rfl ?_
    refine q_icmp (c := 3) rfl (by decide) (fun y1 => ?_) (fun h => absurd (show (c).toInt < (cs).toInt from h) (by omega))
    have y1 : (cs).toInt ≤ (c).toInt := y1
    refine q_ild rfl rfl ?_
    exact q_iret rfl (hk m hm)
  | succ f ih =>
    intro k m c hf hc hm
    have hkN : k < N := by omega
    have hcn : c.toInt.toNat = k := nat_of hc
    obtain ⟨f1, f2⟩ := fn_rc hWb ha hN9 hF hkN
    have hle := rc_le (P := rcP C N W true a) k
    refine q_ild rfl rfl ?_
    refine q_ild rfl rfl ?_
    refine q_icmp (c := 3) rfl (by decide) (fun h => absurd (show (cs).toInt ≤ (c).toInt from h) (by omega)) (fun y2 => ?_)
    have y2 : (c).toInt < (cs).toInt := y2
    refine q_ild rfl rfl ?_
    refine q_ic rfl ?_
    refine q_icmp (c := 3) rfl (by decide) (fun h => absurd (show (144 : Int) ≤ (c).toInt from h) (by omega)) (fun y3 => ?_)
    have y3 : (c).toInt < (144 : Int) := y3
    refine q_ild rfl rfl ?_
    refine q_ald rfl rfl ?_
    refine q_getr rfl sk_201 sr_201_0 ?_
    refine q_ild rfl rfl ?_
    refine q_xald rfl (Or.inl rfl) sk_202 sn_202 (by omega) (by omega) ?_
    show dw_ok (pr_X4_wetAround K) 54 0 0 [some (.ref 201), some (.ref 164), some (.ref 4), some (.int fm), some (.int cs), some (.int m), some (.int c)] [.int (I 202 (c).toInt.toNat), .int m] (n, SH1, I, J)
    rw [hcn]
    refine q_ic rfl ?_
    refine q_icmp (c := 3) rfl (by decide) (fun y4 => ?_) (fun y4 => ?_)
    · have y4 : (1000000000 : Int) ≤ ((I 202 k)).toInt := y4
      refine q_ic rfl ?_
      refine q_add rfl ?_
      show dw_ok (pr_X4_wetAround K) 65 0 0 [some (.ref 201), some (.ref 164), some (.ref 4), some (.int fm), some (.int cs), some (.int m), some (.int c)] [.int (m + (0 : Int32))] (n, SH1, I, J)
      obtain ⟨mz, hmz⟩ : ∃ z, z = (m + (0 : Int32)) := ⟨_, rfl⟩
      rw [← hmz]
      have emz : mz.toInt = ((rcN (rcP C N W true a) k + 0 : Nat) : Int) := by rw [hmz]; exact ix_a (m := 0) hm rfl (by omega)
      refine q_ist rfl rfl ?_
      show dw_ok (pr_X4_wetAround K) 67 0 0 [some (.ref 201), some (.ref 164), some (.ref 4), some (.int fm), some (.int cs), some (.int mz), some (.int c)] [] (n, SH1, I, J)
      refine q_inc rfl rfl rfl ?_
      show dw_ok (pr_X4_wetAround K) 70 0 0 [some (.ref 201), some (.ref 164), some (.ref 4), some (.int fm), some (.int cs), some (.int mz), some (.int (c + 1))] [] (n, SH1, I, J)
      show dw_ok (pr_X4_wetAround K) 70 0 0 [some (.ref 201), some (.ref 164), some (.ref 4), some (.int fm), some (.int cs), some (.int mz), some (.int (c + 1))] [] (n, SH1, I, J)
      obtain ⟨cx, hcx⟩ : ∃ z, z = (c + 1) := ⟨_, rfl⟩
      rw [← hcx]
      have ecx : cx.toInt = ((k + 1 : Nat) : Int) := by rw [hcx]; exact ix_1 hc (by omega)
      refine q_goto rfl ?_
      exact ih (k + 1) mz cx (by omega) ecx (by rw [rc_n (fun q => by have z := f2 q; omega)]; exact emz)
    · have y4 : ((I 202 k)).toInt < (1000000000 : Int) := y4
      refine q_ic rfl ?_
      refine q_goto rfl ?_
      refine q_add rfl ?_
      show dw_ok (pr_X4_wetAround K) 65 0 0 [some (.ref 201), some (.ref 164), some (.ref 4), some (.int fm), some (.int cs), some (.int m), some (.int c)] [.int (m + (1 : Int32))] (n, SH1, I, J)
      obtain ⟨mx, hmx⟩ : ∃ z, z = (m + (1 : Int32)) := ⟨_, rfl⟩
      rw [← hmx]
      have emx : mx.toInt = ((rcN (rcP C N W true a) k + 1 : Nat) : Int) := by rw [hmx]; exact ix_1 hm (by omega)
      refine q_ist rfl rfl ?_
      show dw_ok (pr_X4_wetAround K) 67 0 0 [some (.ref 201), some (.ref 164), some (.ref 4), some (.int fm), some (.int cs), some (.int mx), some (.int c)] [] (n, SH1, I, J)
      refine q_inc rfl rfl rfl ?_
      show dw_ok (pr_X4_wetAround K) 70 0 0 [some (.ref 201), some (.ref 164), some (.ref 4), some (.int fm), some (.int cs), some (.int mx), some (.int (c + 1))] [] (n, SH1, I, J)
      show dw_ok (pr_X4_wetAround K) 70 0 0 [some (.ref 201), some (.ref 164), some (.ref 4), some (.int fm), some (.int cs), some (.int mx), some (.int (c + 1))] [] (n, SH1, I, J)
      obtain ⟨cx, hcx⟩ : ∃ z, z = (c + 1) := ⟨_, rfl⟩
      rw [← hcx]
      have ecx : cx.toInt = ((k + 1 : Nat) : Int) := by rw [hcx]; exact ix_1 hc (by omega)
      refine q_goto rfl ?_
      exact ih (k + 1) mx cx (by omega) ecx (by rw [rc_y (f1 y4)]; exact emx)
set_option maxRecDepth 8000 in
theorem v_wetAround {n : Nat} {J : Nat → Nat → Int64} {K : dw_K} {R W : Nat → Int32} {I0 : Nat → Nat → Int32} {fm : Int32} {a : Nat} (hG : GOK R) (h40 : I0 4 0 = R 0) (h41 : I0 4 1 = R 1) (hn : (I0 164 1).toInt = Nn R) (hW : ∀ c, c < Nn R → I0 (164 + 14) c = W c) (hWb : ∀ c, c < Nn R → 0 ≤ (W c).toInt ∧ (W c).toInt ≤ 200000) (hfm : fm.toInt = a) (ha : a < Nn R) (hk : ∀ (w : Int32) (I : Nat → Nat → Int32), w.toInt = slA (Cn R) (Nn R) W a → K (some (.int w)) (n, SH1, I, J)) : t_X4_wetAround [.ref 201, .ref 164, .ref 4, .int fm] (n, SH1, I0, J) K := by
  obtain ⟨hN, hN9⟩ := gok_N hG
  have k0 : (0 : Int32).toInt = 0 := rfl
  refine q_body (Nat.le_of_ble_eq_true rfl) ?_
  refine q_ald rfl rfl ?_
  refine q_ild rfl rfl ?_
  refine q_callV (as := [.int fm]) (rest := []) rfl rfl sk_164 rfl (Nat.le_of_ble_eq_true rfl) ?_
  refine v_waterOf (A := 164) (N := Nn R) (k := a) (rt_ok (by decide)) hfm hn hN9 ha ?_
  show dw_ok (pr_X4_wetAround K) 5 0 0 [some (.ref 201), some (.ref 164), some (.ref 4), some (.int fm), none, none, none] [.int (I0 (164 + 14) a)] (n, SH1, I0, J)
  rw [hW a ha]
  show dw_ok (pr_X4_wetAround K) 5 0 0 [some (.ref 201), some (.ref 164), some (.ref 4), some (.int fm), none, none, none] [.int (W a)] (n, SH1, I0, J)
  refine q_if (c := 1) rfl (by decide) (fun y1 => ?_) (fun y1 => ?_)
  · have y1 : ((W a)).toInt ≠ 0 := y1
    refine q_ald rfl rfl ?_
    refine q_ald rfl rfl ?_
    refine q_ald rfl rfl ?_
    refine q_ild rfl rfl ?_
    refine q_ic rfl ?_
    refine q_callV (as := [.ref 164, .ref 4, .int fm, .int (1 : Int32)]) (rest := []) rfl rfl sk_201 rfl (Nat.le_of_ble_eq_true rfl) ?_
    refine v_spread (b := true) hG h40 h41 hn hW hWb hfm ha (Or.inl ⟨rfl, rfl⟩) (fun I1 r1 q1 => ?_)
    show dw_ok (pr_X4_wetAround K) 18 0 0 [some (.ref 201), some (.ref 164), some (.ref 4), some (.int fm), none, none, none] [] (n, SH1, I1, J)
    refine q_ald rfl rfl ?_
    refine q_callV (as := []) (rest := []) rfl rfl sk_4 rfl (Nat.le_of_ble_eq_true rfl) ?_
    refine v_gsize ?_
    show dw_ok (pr_X4_wetAround K) 22 0 0 [some (.ref 201), some (.ref 164), some (.ref 4), some (.int fm), none, none, none] [.int (I1 4 0 * I1 4 1)] (n, SH1, I1, J)
    rw [r1 4 (by decide), h40, h41]
    obtain ⟨cs, hcs⟩ : ∃ z, z = R 0 * R 1 := ⟨_, rfl⟩
    rw [← hcs]
    have ecs : cs.toInt = Nn R := by rw [hcs]; exact hN
    show dw_ok (pr_X4_wetAround K) 22 0 0 [some (.ref 201), some (.ref 164), some (.ref 4), some (.int fm), none, none, none] [.int cs] (n, SH1, I1, J)
    refine q_ist rfl rfl ?_
    show dw_ok (pr_X4_wetAround K) 24 0 0 [some (.ref 201), some (.ref 164), some (.ref 4), some (.int fm), some (.int cs), none, none] [] (n, SH1, I1, J)
    refine q_ic rfl ?_
    refine q_ist rfl rfl ?_
    show dw_ok (pr_X4_wetAround K) 27 0 0 [some (.ref 201), some (.ref 164), some (.ref 4), some (.int fm), some (.int cs), some (.int (0 : Int32)), none] [] (n, SH1, I1, J)
    refine q_ic rfl ?_
    refine q_ist rfl rfl ?_
    show dw_ok (pr_X4_wetAround K) 30 0 0 [some (.ref 201), some (.ref 164), some (.ref 4), some (.int fm), some (.int cs), some (.int (0 : Int32)), some (.int (0 : Int32))] [] (n, SH1, I1, J)
    exact wa_loop hN9 ha hWb ecs q1 (fun m hm => hk m I1 (hm.trans (sla_n y1).symm)) (Nn R) 0 0 0 (Nat.zero_add _) rfl rfl
  · have y1 : ((W a)).toInt = 0 := y1
    refine q_ic rfl ?_
    exact q_iret rfl (hk _ I0 (k0.trans (sla_y y1).symm))
set_option maxRecDepth 8000 in
theorem v_leastWater {n : Nat} {J : Nat → Nat → Int64} {K : dw_K} {R W : Nat → Int32} {I0 : Nat → Nat → Int32} {fm : Int32} {a : Nat} (hG : GOK R) (h40 : I0 4 0 = R 0) (h41 : I0 4 1 = R 1) (hn : (I0 164 1).toInt = Nn R) (hW : ∀ c, c < Nn R → I0 (164 + 14) c = W c) (hWb : ∀ c, c < Nn R → 0 ≤ (W c).toInt ∧ (W c).toInt ≤ 200000) (hfm : fm.toInt = a) (ha : a < Nn R) {to : Int32} {c : Nat} (hto : to.toInt = c) (hc : c < Nn R) (hk : ∀ (w : Int32) (I : Nat → Nat → Int32), w.toInt = wyL (Cn R) (Nn R) W false a c → K (some (.int w)) (n, SH1, I, J)) : t_X4_leastWater [.ref 201, .ref 164, .ref 4, .int fm, .int to] (n, SH1, I0, J) K := by
  obtain ⟨hN, hN9⟩ := gok_N hG
  have hcn : to.toInt.toNat = c := nat_of hto
  refine q_body (Nat.le_of_ble_eq_true rfl) ?_
  refine q_ald rfl rfl ?_
  refine q_ald rfl rfl ?_
  refine q_ald rfl rfl ?_
  refine q_ild rfl rfl ?_
  refine q_ic rfl ?_
  refine q_callV (as := [.ref 164, .ref 4, .int fm, .int (0 : Int32)]) (rest := []) rfl rfl sk_201 rfl (Nat.le_of_ble_eq_true rfl) ?_
  refine v_spread (b := false) hG h40 h41 hn hW hWb hfm ha (Or.inr ⟨rfl, rfl⟩) (fun I1 r1 q1 => ?_)
  show dw_ok (pr_X4_leastWater K) 8 0 0 [some (.ref 201), some (.ref 164), some (.ref 4), some (.int fm), some (.int to)] [] (n, SH1, I1, J)
  refine q_ild rfl rfl ?_
  refine q_if (c := 2) rfl (by decide) (fun h => absurd (show (to).toInt < 0 from h) (by omega)) (fun y1 => ?_)
  have y1 : 0 ≤ (to).toInt := y1
  refine q_ild rfl rfl ?_
  refine q_ic rfl ?_
  refine q_icmp (c := 3) rfl (by decide) (fun h => absurd (show (144 : Int) ≤ (to).toInt from h) (by omega)) (fun y2 => ?_)
  have y2 : (to).toInt < (144 : Int) := y2
  refine q_ald rfl rfl ?_
  refine q_getr rfl sk_201 sr_201_0 ?_
  refine q_ild rfl rfl ?_
  refine q_xald rfl (Or.inl rfl) sk_202 sn_202 (by omega) (by omega) ?_
  show dw_ok (pr_X4_leastWater K) 28 0 0 [some (.ref 201), some (.ref 164), some (.ref 4), some (.int fm), some (.int to)] [.int (I1 202 (to).toInt.toNat)] (n, SH1, I1, J)
  rw [hcn]
  refine q_goto rfl ?_
  exact q_iret rfl (hk _ I1 (wl_of q1 hc))
set_option maxRecDepth 8000 in
theorem v_cslugs {n : Nat} {I : Nat → Nat → Int32} {J : Nat → Nat → Int64} {K : dw_K} {R : Nat → Int32} (hR : SREL I 3 R) {a1 a2 a3 a4 : Int32} (hk : ∀ (w : Int32) (I' : Nat → Nat → Int32), w.toInt = aSlugs R a1 a2 a3 a4 → K (some (.int w)) (n, SH1, I', J)) : t_X11_slugs [.ref 0, .int a1, .int a2, .int a3, .int a4] (n, SH1, I, J) K := by
  have cm1 : (-1 : Int32).toInt = -1 := rfl
  have k0 : (0 : Int32).toInt = 0 := rfl
  have k1 : (1 : Int32).toInt = 1 := rfl
  refine q_body (Nat.le_of_ble_eq_true rfl) ?_
  refine q_ald rfl rfl ?_
  refine q_getr rfl sk_0 sr_0_1 ?_
  refine q_getr rfl sk_3 sr_3_1 ?_
  refine q_ild rfl rfl ?_
  refine q_ild rfl rfl ?_
  refine q_callV (as := [.int a3, .int a4]) (rest := []) rfl rfl sk_4 rfl (Nat.le_of_ble_eq_true rfl) ?_
  refine v_cellAt2 (R := R) hR.1 ((rg_3 hR).1 0 (by decide)) ((rg_3 hR).1 1 (by decide)) (fun k2 c1 ec1 => ?_) (fun k2 => ?_)
  · show dw_ok (pr_X11_slugs K) 13 0 0 [some (.ref 0), some (.int a1), some (.int a2), some (.int a3), some (.int a4), none] [.int c1] (n, SH1, I, J)
    refine q_ist rfl rfl ?_
    show dw_ok (pr_X11_slugs K) 15 0 0 [some (.ref 0), some (.int a1), some (.int a2), some (.int a3), some (.int a4), some (.int c1)] [] (n, SH1, I, J)
    refine q_ild rfl rfl ?_
    refine q_ic rfl ?_
    refine q_icmp (c := 0) rfl (by decide) (fun h => absurd (show (c1).toInt = (-1 : Int) from h) (by have := ec1; omega)) (fun y3 => ?_)
    have y3 : (c1).toInt ≠ (-1 : Int) := y3
    refine q_ald rfl rfl ?_
    refine q_ild rfl rfl ?_
    refine q_ild rfl rfl ?_
    refine q_callV (as := [.int a1, .int a2]) (rest := []) rfl rfl sk_0 rfl (Nat.le_of_ble_eq_true rfl) ?_
    refine v_behind hR (fun sx kx hs hxs htk hk9 hS I1 q0 q1 q2 => ?_) (fun hno I1 eI1 => ?_)
    · have e2 : kx = a2.toInt.toNat := by omega
      rw [e2] at q2
      obtain ⟨oS, eS⟩ := okS_of hs hxs hS
      rw [← eS] at q2 hS
      have f40 : I1 4 0 = R 0 := by rw [q0 4 (by decide)]; exact (rg_3 hR).1 0 (by decide)
      have f41 : I1 4 1 = R 1 := by rw [q0 4 (by decide)]; exact (rg_3 hR).1 1 (by decide)
      have oT : okT a2 := ⟨by omega, by omega⟩
      show dw_ok (pr_X11_slugs K) 27 0 0 [some (.ref 0), some (.int a1), some (.int a2), some (.int a3), some (.int a4), some (.int c1)] [.int (1 : Int32)] (n, SH1, I1, J)
      refine q_if (c := 1) rfl (by decide) (fun y4 => ?_) (fun h => absurd (show (1 : Int) = 0 from h) (by decide))
      have y4 : (1 : Int) ≠ 0 := y4
      refine q_ald rfl rfl ?_
      refine q_getr rfl sk_0 sr_0_9 ?_
      refine q_ald rfl rfl ?_
      refine q_getr rfl sk_0 sr_0_6 ?_
      refine q_ald rfl rfl ?_
      refine q_getr rfl sk_0 sr_0_1 ?_
      refine q_getr rfl sk_3 sr_3_1 ?_
      refine q_ild rfl rfl ?_
      refine q_callV (as := [.ref 164, .ref 4, .int c1]) (rest := []) rfl rfl sk_201 rfl (Nat.le_of_ble_eq_true rfl) ?_
      refine v_wetAround (W := (runW R (nX R a1) 0 (a2.toInt.toNat + 1)).2.1) hR.1 f40 f41 q1 (fun c hc => q2.2.1 c hc) (fun c hc => wW_b hR.1 hS (by omega) hc) ec1 (cN_lt k2) (fun w I2 hw => ?_)
      show dw_ok (pr_X11_slugs K) 52 0 0 [some (.ref 0), some (.int a1), some (.int a2), some (.int a3), some (.int a4), some (.int c1)] [.int w] (n, SH1, I2, J)
      exact q_iret rfl (hk w I2 (hw.trans (slugs_y ⟨oS, k2, oT⟩).symm))
    · subst eI1
      show dw_ok (pr_X11_slugs K) 27 0 0 [some (.ref 0), some (.int a1), some (.int a2), some (.int a3), some (.int a4), some (.int c1)] [.int (0 : Int32)] (n, SH1, I1, J)
      refine q_if (c := 1) rfl (by decide) (fun h => absurd (show (0 : Int) ≠ 0 from h) (by decide)) (fun y5 => ?_)
      have y5 : (0 : Int) = 0 := y5
      refine q_ic rfl ?_
      exact q_iret rfl (hk _ _ (cm1.trans (slugs_n (fun q => hno.elim (fun g => g q.2.2) (fun g => okS_no g q.1))).symm))
  · show dw_ok (pr_X11_slugs K) 13 0 0 [some (.ref 0), some (.int a1), some (.int a2), some (.int a3), some (.int a4), none] [.int (-1 : Int32)] (n, SH1, I, J)
    refine q_ist rfl rfl ?_
    show dw_ok (pr_X11_slugs K) 15 0 0 [some (.ref 0), some (.int a1), some (.int a2), some (.int a3), some (.int a4), some (.int (-1 : Int32))] [] (n, SH1, I, J)
    refine q_ild rfl rfl ?_
    refine q_ic rfl ?_
    refine q_icmp (c := 0) rfl (by decide) (fun y6 => ?_) (fun h => absurd (show (-1 : Int) ≠ (-1 : Int) from h) (by omega))
    have y6 : (-1 : Int) = (-1 : Int) := y6
    refine q_ic rfl ?_
    exact q_iret rfl (hk _ _ (cm1.trans (slugs_n (fun q => k2 q.2.1)).symm))
set_option maxRecDepth 8000 in
theorem v_cwalk {n : Nat} {I : Nat → Nat → Int32} {J : Nat → Nat → Int64} {K : dw_K} {R : Nat → Int32} (hR : SREL I 3 R) {a1 a2 a3 a4 : Int32} (hk : ∀ (w : Int32) (I' : Nat → Nat → Int32), w.toInt = aWalk R a1 a2 a3 a4 → K (some (.int w)) (n, SH1, I', J)) : t_X11_walk [.ref 0, .int a1, .int a2, .int a3, .int a4] (n, SH1, I, J) K := by
  have cm1 : (-1 : Int32).toInt = -1 := rfl
  have k0 : (0 : Int32).toInt = 0 := rfl
  have k1 : (1 : Int32).toInt = 1 := rfl
  refine q_body (Nat.le_of_ble_eq_true rfl) ?_
  refine q_ald rfl rfl ?_
  refine q_getr rfl sk_0 sr_0_1 ?_
  refine q_getr rfl sk_3 sr_3_1 ?_
  refine q_callV (as := []) (rest := []) rfl rfl sk_4 rfl (Nat.le_of_ble_eq_true rfl) ?_
  refine v_gsize ?_
  show dw_ok (pr_X11_walk K) 10 0 0 [some (.ref 0), some (.int a1), some (.int a2), some (.int a3), some (.int a4), none] [.int (I 4 0 * I 4 1)] (n, SH1, I, J)
  rw [show I 4 0 = R 0 from (rg_3 hR).1 0 (by decide), show I 4 1 = R 1 from (rg_3 hR).1 1 (by decide)]
  obtain ⟨cs, hcs⟩ : ∃ z, z = R 0 * R 1 := ⟨_, rfl⟩
  rw [← hcs]
  have ecs : cs.toInt = Nn R := by rw [hcs]; exact (gok_N hR.1).1
  show dw_ok (pr_X11_walk K) 10 0 0 [some (.ref 0), some (.int a1), some (.int a2), some (.int a3), some (.int a4), none] [.int cs] (n, SH1, I, J)
  refine q_ist rfl rfl ?_
  show dw_ok (pr_X11_walk K) 12 0 0 [some (.ref 0), some (.int a1), some (.int a2), some (.int a3), some (.int a4), some (.int cs)] [] (n, SH1, I, J)
  refine q_ild rfl rfl ?_
  refine q_if (c := 2) rfl (by decide) (fun y1 => ?_) (fun y1 => ?_)
  · have y1 : (a3).toInt < 0 := y1
    refine q_ic rfl ?_
    exact q_iret rfl (hk _ _ (cm1.trans (walk_n (fun q => by have q1 := q.2.2.1; have q2 := q.2.2.2; omega)).symm))
  · have y1 : 0 ≤ (a3).toInt := y1
    refine q_ild rfl rfl ?_
    refine q_ild rfl rfl ?_
    refine q_icmp (c := 3) rfl (by decide) (fun y2 => ?_) (fun y2 => ?_)
    · have y2 : (cs).toInt ≤ (a3).toInt := y2
      refine q_ic rfl ?_
      exact q_iret rfl (hk _ _ (cm1.trans (walk_n (fun q => by have q1 := q.2.2.1; have q2 := q.2.2.2; omega)).symm))
    · have y2 : (a3).toInt < (cs).toInt := y2
      refine q_ild rfl rfl ?_
      refine q_if (c := 2) rfl (by decide) (fun y3 => ?_) (fun y3 => ?_)
      · have y3 : (a4).toInt < 0 := y3
        refine q_ic rfl ?_
        exact q_iret rfl (hk _ _ (cm1.trans (walk_n (fun q => by have q1 := q.2.2.1; have q2 := q.2.2.2; omega)).symm))
      · have y3 : 0 ≤ (a4).toInt := y3
        refine q_ild rfl rfl ?_
        refine q_ild rfl rfl ?_
        refine q_icmp (c := 3) rfl (by decide) (fun y4 => ?_) (fun y4 => ?_)
        · have y4 : (cs).toInt ≤ (a4).toInt := y4
          refine q_ic rfl ?_
          exact q_iret rfl (hk _ _ (cm1.trans (walk_n (fun q => by have q1 := q.2.2.1; have q2 := q.2.2.2; omega)).symm))
        · have y4 : (a4).toInt < (cs).toInt := y4
          refine q_ald rfl rfl ?_
          refine q_ild rfl rfl ?_
          refine q_ild rfl rfl ?_
          refine q_callV (as := [.int a1, .int a2]) (rest := []) rfl rfl sk_0 rfl (Nat.le_of_ble_eq_true rfl) ?_
          refine v_behind hR (fun sx kx hs hxs htk hk9 hS I1 q0 q1 q2 => ?_) (fun hno I1 eI1 => ?_)
          · have e2 : kx = a2.toInt.toNat := by omega
            rw [e2] at q2
            obtain ⟨oS, eS⟩ := okS_of hs hxs hS
            rw [← eS] at q2 hS
            have f40 : I1 4 0 = R 0 := by rw [q0 4 (by decide)]; exact (rg_3 hR).1 0 (by decide)
            have f41 : I1 4 1 = R 1 := by rw [q0 4 (by decide)]; exact (rg_3 hR).1 1 (by decide)
            have oT : okT a2 := ⟨by omega, by omega⟩
            show dw_ok (pr_X11_walk K) 40 0 0 [some (.ref 0), some (.int a1), some (.int a2), some (.int a3), some (.int a4), some (.int cs)] [.int (1 : Int32)] (n, SH1, I1, J)
            refine q_if (c := 1) rfl (by decide) (fun y5 => ?_) (fun h => absurd (show (1 : Int) = 0 from h) (by decide))
            have y5 : (1 : Int) ≠ 0 := y5
            refine q_ald rfl rfl ?_
            refine q_getr rfl sk_0 sr_0_9 ?_
            refine q_ald rfl rfl ?_
            refine q_getr rfl sk_0 sr_0_6 ?_
            refine q_ald rfl rfl ?_
            refine q_getr rfl sk_0 sr_0_1 ?_
            refine q_getr rfl sk_3 sr_3_1 ?_
            refine q_ild rfl rfl ?_
            refine q_ild rfl rfl ?_
            refine q_callV (as := [.ref 164, .ref 4, .int a3, .int a4]) (rest := []) rfl rfl sk_201 rfl (Nat.le_of_ble_eq_true rfl) ?_
            refine v_leastWater (W := (runW R (nX R a1) 0 (a2.toInt.toNat + 1)).2.1) (a := a3.toInt.toNat) (c := a4.toInt.toNat) hR.1 f40 f41 q1 (fun c hc => q2.2.1 c hc) (fun c hc => wW_b hR.1 hS (by omega) hc) (by omega) (by omega) (by omega) (by omega) (fun w I2 hw => ?_)
            show dw_ok (pr_X11_walk K) 66 0 0 [some (.ref 0), some (.int a1), some (.int a2), some (.int a3), some (.int a4), some (.int cs)] [.int w] (n, SH1, I2, J)
            exact q_iret rfl (hk w I2 (hw.trans (walk_y ⟨oS, oT, ⟨by omega, by omega⟩, ⟨by omega, by omega⟩⟩).symm))
          · subst eI1
            show dw_ok (pr_X11_walk K) 40 0 0 [some (.ref 0), some (.int a1), some (.int a2), some (.int a3), some (.int a4), some (.int cs)] [.int (0 : Int32)] (n, SH1, I1, J)
            refine q_if (c := 1) rfl (by decide) (fun h => absurd (show (0 : Int) ≠ 0 from h) (by decide)) (fun y6 => ?_)
            have y6 : (0 : Int) = 0 := y6
            refine q_ic rfl ?_
            exact q_iret rfl (hk _ _ (cm1.trans (walk_n (fun q => hno.elim (fun g => g q.2.1) (fun g => okS_no g q.1))).symm))
end
section
set_option maxRecDepth 8000 in
theorem v_beside {n : Nat} {I : Nat → Nat → Int32} {J : Nat → Nat → Int64} {K : dw_K} {R : Nat → Int32} {c sd : Int32} {k s : Nat} (hR : I 406 = R) (hG : GOK R) (hc : c.toInt = k) (hk9 : k < Nn R) (hsd : sd.toInt = s) (hs4 : s < 4)
    (hk : ∀ w : Int32, (∃ o, o < Nn R ∧ bsP (Cn R) k s o ∧ w.toInt = (o : Nat)) ∨ (w.toInt = -1 ∧ ∀ o, o < Nn R → ¬ bsP (Cn R) k s o) → K (some (.int w)) (n, SH1, I, J)) : t_X12_beside [.ref 404, .int c, .int sd] (n, SH1, I, J) K := by
  have hN9 := (gok_N hG).2
  have hC9 : Cn R ≤ 12 := hG.1.2.2.2.1
  have cm1 : (-1 : Int32).toInt = -1 := rfl
  have k0 : (0 : Int32).toInt = 0 := rfl
  have k1 : (1 : Int32).toInt = 1 := rfl
  have e40 : (I 406 0).toInt = Cn R := by rw [hR]; exact hG.1.1
  have hC1 : 0 < Cn R := by
    rcases Nat.eq_zero_or_pos (Cn R) with e | e
    · have q : k < Cn R * Rn R := hk9
      rw [e, Nat.zero_mul] at q
      exact absurd q (Nat.not_lt_zero k)
    · exact e
  obtain ⟨XX, hX⟩ : ∃ z, z = k % Cn R := ⟨_, rfl⟩
  obtain ⟨YY, hY⟩ : ∃ z, z = k / Cn R := ⟨_, rfl⟩
  have bX : XX ≤ 144 := by rw [hX]; exact Nat.le_trans (Nat.mod_le k (Cn R)) (by omega)
  have bY : YY ≤ 144 := by rw [hY]; exact Nat.le_trans (Nat.div_le_self k (Cn R)) (by omega)
  refine q_body (Nat.le_of_ble_eq_true rfl) ?_
  refine q_ild rfl rfl ?_
  refine q_ald rfl rfl ?_
  refine q_getr rfl sk_404 sr_404_6 ?_
  refine q_ic rfl ?_
  refine q_xald rfl (Or.inl rfl) sk_406 sn_406 (by decide) (by decide) ?_
  refine q_rem rfl (show I 406 0 ≠ 0 from fun q => by rw [q, show (0 : Int32).toInt = 0 from rfl] at e40; omega) ?_
  show dw_ok (pr_X12_beside K) 8 0 0 [some (.ref 404), some (.int c), some (.int sd), none, none] [.int (c - c / (I 406 0) * (I 406 0))] (n, SH1, I, J)
  obtain ⟨xx, hxx⟩ : ∃ z, z = (c - c / (I 406 0) * (I 406 0)) := ⟨_, rfl⟩
  rw [← hxx]
  have exx : xx.toInt = ((XX : Nat) : Int) := by rw [hxx]; exact (by rw [hX]; exact i_modN hc e40 hC1)
  refine q_ild rfl rfl ?_
  refine q_if (c := 1) rfl (by decide) (fun y1 => ?_) (fun y1 => ?_)
  · have y1 : (sd).toInt ≠ 0 := y1
    refine q_ild rfl rfl ?_
    refine q_ic rfl ?_
    refine q_icmp (c := 1) rfl (by decide) (fun y2 => ?_) (fun y2 => ?_)
    · have y2 : (sd).toInt ≠ (1 : Int) := y2
      refine q_ic rfl ?_
      refine q_add rfl ?_
      show dw_ok (pr_X12_beside K) 27 0 0 [some (.ref 404), some (.int c), some (.int sd), none, none] [.int (xx + (0 : Int32))] (n, SH1, I, J)
      obtain ⟨xxz, hxxz⟩ : ∃ z, z = (xx + (0 : Int32)) := ⟨_, rfl⟩
      rw [← hxxz]
      have exxz : xxz.toInt = (XX : Int) := by rw [hxxz]; exact (by rw [i_add (by omega) (by omega), exx, k0]; omega)
      refine q_ist rfl rfl ?_
      show dw_ok (pr_X12_beside K) 28 0 0 [some (.ref 404), some (.int c), some (.int sd), some (.int xxz), none] [] (n, SH1, I, J)
      refine q_ild rfl rfl ?_
      refine q_ald rfl rfl ?_
      refine q_getr rfl sk_404 sr_404_6 ?_
      refine q_ic rfl ?_
      refine q_xald rfl (Or.inl rfl) sk_406 sn_406 (by decide) (by decide) ?_
      refine q_div rfl (show I 406 0 ≠ 0 from fun q => by rw [q, show (0 : Int32).toInt = 0 from rfl] at e40; omega) ?_
      show dw_ok (pr_X12_beside K) 36 0 0 [some (.ref 404), some (.int c), some (.int sd), some (.int xxz), none] [.int (c / (I 406 0))] (n, SH1, I, J)
      obtain ⟨yy, hyy⟩ : ∃ z, z = (c / (I 406 0)) := ⟨_, rfl⟩
      rw [← hyy]
      have eyy : yy.toInt = ((YY : Nat) : Int) := by rw [hyy]; exact (by rw [hY]; exact i_divN hc e40 hC1)
      refine q_ild rfl rfl ?_
      refine q_ic rfl ?_
      refine q_icmp (c := 1) rfl (by decide) (fun y3 => ?_) (fun y3 => ?_)
      · have y3 : (sd).toInt ≠ (2 : Int) := y3
        refine q_ild rfl rfl ?_
        refine q_ic rfl ?_
        refine q_icmp (c := 1) rfl (by decide) (fun h => absurd (show (sd).toInt ≠ (3 : Int) from h) (by omega)) (fun y4 => ?_)
        have y4 : (sd).toInt = (3 : Int) := y4
        refine q_ic rfl ?_
        refine q_goto rfl ?_
        refine q_add rfl ?_
        show dw_ok (pr_X12_beside K) 56 0 0 [some (.ref 404), some (.int c), some (.int sd), some (.int xxz), none] [.int (yy + (-1 : Int32))] (n, SH1, I, J)
        obtain ⟨yym, hyym⟩ : ∃ z, z = (yy + (-1 : Int32)) := ⟨_, rfl⟩
        rw [← hyym]
        have eyym : yym.toInt = (YY : Int) - 1 := by rw [hyym]; exact (by rw [i_add (by omega) (by omega), eyy, cm1]; omega)
        refine q_ist rfl rfl ?_
        show dw_ok (pr_X12_beside K) 58 0 0 [some (.ref 404), some (.int c), some (.int sd), some (.int xxz), some (.int yym)] [] (n, SH1, I, J)
        refine q_ald rfl rfl ?_
        refine q_ild rfl rfl ?_
        refine q_ild rfl rfl ?_
        refine q_callV (as := [.int xxz, .int yym]) (rest := []) rfl rfl sk_404 rfl (Nat.le_of_ble_eq_true rfl) ?_
        have hsi : sdI (k % Cn R) (k / Cn R) s xxz.toInt yym.toInt := by
          rw [← hX, ← hY]
          exact Or.inr (Or.inr (Or.inr ⟨by omega, by omega, by omega⟩))
        refine v_misCell (C := Cn R) (R := Rn R) (by rw [hR]; exact hG.1.1) (by rw [hR]; exact hG.1.2.1) (fun w_ oC => ?_)
        rcases oC with ⟨rfl, oC⟩ | ⟨rfl, oC⟩
        · show dw_ok (pr_X12_beside K) 65 0 0 [some (.ref 404), some (.int c), some (.int sd), some (.int xxz), some (.int yym)] [.int (1 : Int32)] (n, SH1, I, J)
          refine q_if (c := 0) rfl (by decide) (fun h => absurd (show (1 : Int) = 0 from h) (by decide)) (fun y5 => ?_)
          have y5 : (1 : Int) ≠ 0 := y5
          refine q_ald rfl rfl ?_
          refine q_ild rfl rfl ?_
          refine q_ild rfl rfl ?_
          refine q_callV (as := [.int xxz, .int yym]) (rest := []) rfl rfl sk_404 rfl (Nat.le_of_ble_eq_true rfl) ?_
          refine v_numberOf ?_
          show dw_ok (pr_X12_beside K) 75 0 0 [some (.ref 404), some (.int c), some (.int sd), some (.int xxz), some (.int yym)] [.int (I 406 0 * yym + xxz)] (n, SH1, I, J)
          refine q_goto rfl ?_
          refine q_iret rfl (hk _ (Or.inl ⟨cN R xxz yym, cN_lt oC, bs_cN oC hsi, ?_⟩))
          rw [hR]
          exact (cN_i hG oC).2
        · show dw_ok (pr_X12_beside K) 65 0 0 [some (.ref 404), some (.int c), some (.int sd), some (.int xxz), some (.int yym)] [.int (0 : Int32)] (n, SH1, I, J)
          refine q_if (c := 0) rfl (by decide) (fun y6 => ?_) (fun h => absurd (show (0 : Int) ≠ 0 from h) (by decide))
          have y6 : (0 : Int) = 0 := y6
          refine q_ic rfl ?_
          exact q_iret rfl (hk _ (Or.inr ⟨cm1, fun o ho hb => oC (ok_bs ho hb hsi).1⟩))
      · have y3 : (sd).toInt = (2 : Int) := y3
        refine q_ic rfl ?_
        refine q_goto rfl ?_
        refine q_add rfl ?_
        show dw_ok (pr_X12_beside K) 56 0 0 [some (.ref 404), some (.int c), some (.int sd), some (.int xxz), none] [.int (yy + (1 : Int32))] (n, SH1, I, J)
        obtain ⟨yyp, hyyp⟩ : ∃ z, z = (yy + (1 : Int32)) := ⟨_, rfl⟩
        rw [← hyyp]
        have eyyp : yyp.toInt = (YY : Int) + 1 := by rw [hyyp]; exact (by rw [i_add (by omega) (by omega), eyy, k1])
        refine q_ist rfl rfl ?_
        show dw_ok (pr_X12_beside K) 58 0 0 [some (.ref 404), some (.int c), some (.int sd), some (.int xxz), some (.int yyp)] [] (n, SH1, I, J)
        refine q_ald rfl rfl ?_
        refine q_ild rfl rfl ?_
        refine q_ild rfl rfl ?_
        refine q_callV (as := [.int xxz, .int yyp]) (rest := []) rfl rfl sk_404 rfl (Nat.le_of_ble_eq_true rfl) ?_
        have hsi : sdI (k % Cn R) (k / Cn R) s xxz.toInt yyp.toInt := by
          rw [← hX, ← hY]
          exact Or.inr (Or.inr (Or.inl ⟨by omega, by omega, by omega⟩))
        refine v_misCell (C := Cn R) (R := Rn R) (by rw [hR]; exact hG.1.1) (by rw [hR]; exact hG.1.2.1) (fun w_ oC => ?_)
        rcases oC with ⟨rfl, oC⟩ | ⟨rfl, oC⟩
        · show dw_ok (pr_X12_beside K) 65 0 0 [some (.ref 404), some (.int c), some (.int sd), some (.int xxz), some (.int yyp)] [.int (1 : Int32)] (n, SH1, I, J)
          refine q_if (c := 0) rfl (by decide) (fun h => absurd (show (1 : Int) = 0 from h) (by decide)) (fun y7 => ?_)
          have y7 : (1 : Int) ≠ 0 := y7
          refine q_ald rfl rfl ?_
          refine q_ild rfl rfl ?_
          refine q_ild rfl rfl ?_
          refine q_callV (as := [.int xxz, .int yyp]) (rest := []) rfl rfl sk_404 rfl (Nat.le_of_ble_eq_true rfl) ?_
          refine v_numberOf ?_
          show dw_ok (pr_X12_beside K) 75 0 0 [some (.ref 404), some (.int c), some (.int sd), some (.int xxz), some (.int yyp)] [.int (I 406 0 * yyp + xxz)] (n, SH1, I, J)
          refine q_goto rfl ?_
          refine q_iret rfl (hk _ (Or.inl ⟨cN R xxz yyp, cN_lt oC, bs_cN oC hsi, ?_⟩))
          rw [hR]
          exact (cN_i hG oC).2
        · show dw_ok (pr_X12_beside K) 65 0 0 [some (.ref 404), some (.int c), some (.int sd), some (.int xxz), some (.int yyp)] [.int (0 : Int32)] (n, SH1, I, J)
          refine q_if (c := 0) rfl (by decide) (fun y8 => ?_) (fun h => absurd (show (0 : Int) ≠ 0 from h) (by decide))
          have y8 : (0 : Int) = 0 := y8
          refine q_ic rfl ?_
          exact q_iret rfl (hk _ (Or.inr ⟨cm1, fun o ho hb => oC (ok_bs ho hb hsi).1⟩))
    · have y2 : (sd).toInt = (1 : Int) := y2
      refine q_ic rfl ?_
      refine q_goto rfl ?_
      refine q_add rfl ?_
      show dw_ok (pr_X12_beside K) 27 0 0 [some (.ref 404), some (.int c), some (.int sd), none, none] [.int (xx + (-1 : Int32))] (n, SH1, I, J)
      obtain ⟨xxm, hxxm⟩ : ∃ z, z = (xx + (-1 : Int32)) := ⟨_, rfl⟩
      rw [← hxxm]
      have exxm : xxm.toInt = (XX : Int) - 1 := by rw [hxxm]; exact (by rw [i_add (by omega) (by omega), exx, cm1]; omega)
      refine q_ist rfl rfl ?_
      show dw_ok (pr_X12_beside K) 28 0 0 [some (.ref 404), some (.int c), some (.int sd), some (.int xxm), none] [] (n, SH1, I, J)
      refine q_ild rfl rfl ?_
      refine q_ald rfl rfl ?_
      refine q_getr rfl sk_404 sr_404_6 ?_
      refine q_ic rfl ?_
      refine q_xald rfl (Or.inl rfl) sk_406 sn_406 (by decide) (by decide) ?_
      refine q_div rfl (show I 406 0 ≠ 0 from fun q => by rw [q, show (0 : Int32).toInt = 0 from rfl] at e40; omega) ?_
      show dw_ok (pr_X12_beside K) 36 0 0 [some (.ref 404), some (.int c), some (.int sd), some (.int xxm), none] [.int (c / (I 406 0))] (n, SH1, I, J)
      obtain ⟨yy, hyy⟩ : ∃ z, z = (c / (I 406 0)) := ⟨_, rfl⟩
      rw [← hyy]
      have eyy : yy.toInt = ((YY : Nat) : Int) := by rw [hyy]; exact (by rw [hY]; exact i_divN hc e40 hC1)
      refine q_ild rfl rfl ?_
      refine q_ic rfl ?_
      refine q_icmp (c := 1) rfl (by decide) (fun y9 => ?_) (fun h => absurd (show (sd).toInt = (2 : Int) from h) (by omega))
      have y9 : (sd).toInt ≠ (2 : Int) := y9
      refine q_ild rfl rfl ?_
      refine q_ic rfl ?_
      refine q_icmp (c := 1) rfl (by decide) (fun y10 => ?_) (fun h => absurd (show (sd).toInt = (3 : Int) from h) (by omega))
      have y10 : (sd).toInt ≠ (3 : Int) := y10
      refine q_ic rfl ?_
      refine q_add rfl ?_
      show dw_ok (pr_X12_beside K) 56 0 0 [some (.ref 404), some (.int c), some (.int sd), some (.int xxm), none] [.int (yy + (0 : Int32))] (n, SH1, I, J)
      obtain ⟨yyz, hyyz⟩ : ∃ z, z = (yy + (0 : Int32)) := ⟨_, rfl⟩
      rw [← hyyz]
      have eyyz : yyz.toInt = (YY : Int) := by rw [hyyz]; exact (by rw [i_add (by omega) (by omega), eyy, k0]; omega)
      refine q_ist rfl rfl ?_
      show dw_ok (pr_X12_beside K) 58 0 0 [some (.ref 404), some (.int c), some (.int sd), some (.int xxm), some (.int yyz)] [] (n, SH1, I, J)
      refine q_ald rfl rfl ?_
      refine q_ild rfl rfl ?_
      refine q_ild rfl rfl ?_
      refine q_callV (as := [.int xxm, .int yyz]) (rest := []) rfl rfl sk_404 rfl (Nat.le_of_ble_eq_true rfl) ?_
      have hsi : sdI (k % Cn R) (k / Cn R) s xxm.toInt yyz.toInt := by
        rw [← hX, ← hY]
        exact Or.inr (Or.inl ⟨by omega, by omega, by omega⟩)
      refine v_misCell (C := Cn R) (R := Rn R) (by rw [hR]; exact hG.1.1) (by rw [hR]; exact hG.1.2.1) (fun w_ oC => ?_)
      rcases oC with ⟨rfl, oC⟩ | ⟨rfl, oC⟩
      · show dw_ok (pr_X12_beside K) 65 0 0 [some (.ref 404), some (.int c), some (.int sd), some (.int xxm), some (.int yyz)] [.int (1 : Int32)] (n, SH1, I, J)
        refine q_if (c := 0) rfl (by decide) (fun h => absurd (show (1 : Int) = 0 from h) (by decide)) (fun y11 => ?_)
        have y11 : (1 : Int) ≠ 0 := y11
        refine q_ald rfl rfl ?_
        refine q_ild rfl rfl ?_
        refine q_ild rfl rfl ?_
        refine q_callV (as := [.int xxm, .int yyz]) (rest := []) rfl rfl sk_404 rfl (Nat.le_of_ble_eq_true rfl) ?_
        refine v_numberOf ?_
        show dw_ok (pr_X12_beside K) 75 0 0 [some (.ref 404), some (.int c), some (.int sd), some (.int xxm), some (.int yyz)] [.int (I 406 0 * yyz + xxm)] (n, SH1, I, J)
        refine q_goto rfl ?_
        refine q_iret rfl (hk _ (Or.inl ⟨cN R xxm yyz, cN_lt oC, bs_cN oC hsi, ?_⟩))
        rw [hR]
        exact (cN_i hG oC).2
      · show dw_ok (pr_X12_beside K) 65 0 0 [some (.ref 404), some (.int c), some (.int sd), some (.int xxm), some (.int yyz)] [.int (0 : Int32)] (n, SH1, I, J)
        refine q_if (c := 0) rfl (by decide) (fun y12 => ?_) (fun h => absurd (show (0 : Int) ≠ 0 from h) (by decide))
        have y12 : (0 : Int) = 0 := y12
        refine q_ic rfl ?_
        exact q_iret rfl (hk _ (Or.inr ⟨cm1, fun o ho hb => oC (ok_bs ho hb hsi).1⟩))
  · have y1 : (sd).toInt = 0 := y1
    refine q_ic rfl ?_
    refine q_goto rfl ?_
    refine q_add rfl ?_
    show dw_ok (pr_X12_beside K) 27 0 0 [some (.ref 404), some (.int c), some (.int sd), none, none] [.int (xx + (1 : Int32))] (n, SH1, I, J)
    obtain ⟨xxp, hxxp⟩ : ∃ z, z = (xx + (1 : Int32)) := ⟨_, rfl⟩
    rw [← hxxp]
    have exxp : xxp.toInt = (XX : Int) + 1 := by rw [hxxp]; exact (by rw [i_add (by omega) (by omega), exx, k1])
    refine q_ist rfl rfl ?_
    show dw_ok (pr_X12_beside K) 28 0 0 [some (.ref 404), some (.int c), some (.int sd), some (.int xxp), none] [] (n, SH1, I, J)
    refine q_ild rfl rfl ?_
    refine q_ald rfl rfl ?_
    refine q_getr rfl sk_404 sr_404_6 ?_
    refine q_ic rfl ?_
    refine q_xald rfl (Or.inl rfl) sk_406 sn_406 (by decide) (by decide) ?_
    refine q_div rfl (show I 406 0 ≠ 0 from fun q => by rw [q, show (0 : Int32).toInt = 0 from rfl] at e40; omega) ?_
    show dw_ok (pr_X12_beside K) 36 0 0 [some (.ref 404), some (.int c), some (.int sd), some (.int xxp), none] [.int (c / (I 406 0))] (n, SH1, I, J)
    obtain ⟨yy, hyy⟩ : ∃ z, z = (c / (I 406 0)) := ⟨_, rfl⟩
    rw [← hyy]
    have eyy : yy.toInt = ((YY : Nat) : Int) := by rw [hyy]; exact (by rw [hY]; exact i_divN hc e40 hC1)
    refine q_ild rfl rfl ?_
    refine q_ic rfl ?_
    refine q_icmp (c := 1) rfl (by decide) (fun y13 => ?_) (fun h => absurd (show (sd).toInt = (2 : Int) from h) (by omega))
    have y13 : (sd).toInt ≠ (2 : Int) := y13
    refine q_ild rfl rfl ?_
    refine q_ic rfl ?_
    refine q_icmp (c := 1) rfl (by decide) (fun y14 => ?_) (fun h => absurd (show (sd).toInt = (3 : Int) from h) (by omega))
    have y14 : (sd).toInt ≠ (3 : Int) := y14
    refine q_ic rfl ?_
    refine q_add rfl ?_
    show dw_ok (pr_X12_beside K) 56 0 0 [some (.ref 404), some (.int c), some (.int sd), some (.int xxp), none] [.int (yy + (0 : Int32))] (n, SH1, I, J)
    obtain ⟨yyz, hyyz⟩ : ∃ z, z = (yy + (0 : Int32)) := ⟨_, rfl⟩
    rw [← hyyz]
    have eyyz : yyz.toInt = (YY : Int) := by rw [hyyz]; exact (by rw [i_add (by omega) (by omega), eyy, k0]; omega)
    refine q_ist rfl rfl ?_
    show dw_ok (pr_X12_beside K) 58 0 0 [some (.ref 404), some (.int c), some (.int sd), some (.int xxp), some (.int yyz)] [] (n, SH1, I, J)
    refine q_ald rfl rfl ?_
    refine q_ild rfl rfl ?_
    refine q_ild rfl rfl ?_
    refine q_callV (as := [.int xxp, .int yyz]) (rest := []) rfl rfl sk_404 rfl (Nat.le_of_ble_eq_true rfl) ?_
    have hsi : sdI (k % Cn R) (k / Cn R) s xxp.toInt yyz.toInt := by
      rw [← hX, ← hY]
      exact Or.inl ⟨by omega, by omega, by omega⟩
    refine v_misCell (C := Cn R) (R := Rn R) (by rw [hR]; exact hG.1.1) (by rw [hR]; exact hG.1.2.1) (fun w_ oC => ?_)
    rcases oC with ⟨rfl, oC⟩ | ⟨rfl, oC⟩
    · show dw_ok (pr_X12_beside K) 65 0 0 [some (.ref 404), some (.int c), some (.int sd), some (.int xxp), some (.int yyz)] [.int (1 : Int32)] (n, SH1, I, J)
      refine q_if (c := 0) rfl (by decide) (fun h => absurd (show (1 : Int) = 0 from h) (by decide)) (fun y15 => ?_)
      have y15 : (1 : Int) ≠ 0 := y15
      refine q_ald rfl rfl ?_
      refine q_ild rfl rfl ?_
      refine q_ild rfl rfl ?_
      refine q_callV (as := [.int xxp, .int yyz]) (rest := []) rfl rfl sk_404 rfl (Nat.le_of_ble_eq_true rfl) ?_
      refine v_numberOf ?_
      show dw_ok (pr_X12_beside K) 75 0 0 [some (.ref 404), some (.int c), some (.int sd), some (.int xxp), some (.int yyz)] [.int (I 406 0 * yyz + xxp)] (n, SH1, I, J)
      refine q_goto rfl ?_
      refine q_iret rfl (hk _ (Or.inl ⟨cN R xxp yyz, cN_lt oC, bs_cN oC hsi, ?_⟩))
      rw [hR]
      exact (cN_i hG oC).2
    · show dw_ok (pr_X12_beside K) 65 0 0 [some (.ref 404), some (.int c), some (.int sd), some (.int xxp), some (.int yyz)] [.int (0 : Int32)] (n, SH1, I, J)
      refine q_if (c := 0) rfl (by decide) (fun y16 => ?_) (fun h => absurd (show (0 : Int) ≠ 0 from h) (by decide))
      have y16 : (0 : Int) = 0 := y16
      refine q_ic rfl ?_
      exact q_iret rfl (hk _ (Or.inr ⟨cm1, fun o ho hb => oC (ok_bs ho hb hsi).1⟩))
set_option maxRecDepth 8000 in
theorem msl0_loop {n : Nat} {J : Nat → Nat → Int64} {K : dw_K} {R W : Nat → Int32} {I0 : Nat → Nat → Int32} {a : Nat} (hR0 : I0 406 = R) (hG : GOK R) (hW : ∀ c, c < Nn R → I0 417 c = W c) (hWb : ∀ c, c < Nn R → 0 ≤ (W c).toInt ∧ (W c).toInt ≤ 200000) (ha : a < Nn R) {a1 a2 a3 a4 : Int32} (hk : ∀ (c : Int32) (I : Nat → Nat → Int32), (∀ x, x ≠ 425 → I x = I0 x) → (∀ j, j < Nn R → I 425 j = 0) → dw_ok (pr_X12_slugs K) 65 0 0 [some (.ref 404), some (.int a1), some (.int a2), some (.int a3), some (.int a4), some (.int c), none, none, none, none, none] [] (n, SH1, I, J)) :
    ∀ (f k : Nat) (c : Int32) (I : Nat → Nat → Int32), k + f = Nn R → c.toInt = k → (∀ x, x ≠ 425 → I x = I0 x) → (∀ j, j < k → I 425 j = 0) → dw_ok (pr_X12_slugs K) 42 0 0 [some (.ref 404), some (.int a1), some (.int a2), some (.int a3), some (.int a4), some (.int c), none, none, none, none, none] [] (n, SH1, I, J) := by
  obtain ⟨hN, hN9⟩ := gok_N hG
  intro f
  induction f with
  | zero =>
    intro k c I hf hc hfr h2
    have ek : k = Nn R := by omega
    rw [ek] at h2
    refine q_ild rfl rfl ?_
    refine q_ald rfl rfl ?_
    refine q_callV (as := []) (rest := [.int c]) rfl rfl sk_404 rfl (Nat.le_of_ble_eq_true rfl) ?_
    refine v_mcells ?_
    show dw_ok (pr_X12_slugs K) 48 0 0 [some (.ref 404), some (.int a1), some (.int a2), some (.int a3), some (.int a4), some (.int c), none, none, none, none, none] [.int (I 406 0 * I 406 1), .int c] (n, SH1, I, J)
    rw [show I 406 = R from (hfr 406 (by decide)).trans hR0]
    obtain ⟨nv, hnv⟩ : ∃ z, z = R 0 * R 1 := ⟨_, rfl⟩
    rw [← hnv]
    have env : nv.toInt = Nn R := by rw [hnv]; exact hN
    show dw_ok (pr_X12_slugs K) 48 0 0 [some (.ref 404), some (.int a1), some (.int a2), some (.int a3), some (.int a4), some (.int c), none, none, none, none, none] [.int nv, .int c] (n, SH1, I, J)
    refine q_icmp (c := 3) rfl (by decide) (fun y1 => ?_) (fun h => absurd (show (c).toInt < (nv).toInt from h) (by omega))
    have y1 : (nv).toInt ≤ (c).toInt := y1
    exact hk c I hfr h2
  | succ f ih =>
    intro k c I hf hc hfr h2
    have hcn : c.toInt.toNat = k := nat_of hc
    refine q_ild rfl rfl ?_
    refine q_ald rfl rfl ?_
    refine q_callV (as := []) (rest := [.int c]) rfl rfl sk_404 rfl (Nat.le_of_ble_eq_true rfl) ?_
    refine v_mcells ?_
    show dw_ok (pr_X12_slugs K) 48 0 0 [some (.ref 404), some (.int a1), some (.int a2), some (.int a3), some (.int a4), some (.int c), none, none, none, none, none] [.int (I 406 0 * I 406 1), .int c] (n, SH1, I, J)
    rw [show I 406 = R from (hfr 406 (by decide)).trans hR0]
    obtain ⟨nv, hnv⟩ : ∃ z, z = R 0 * R 1 := ⟨_, rfl⟩
    rw [← hnv]
    have env : nv.toInt = Nn R := by rw [hnv]; exact hN
    show dw_ok (pr_X12_slugs K) 48 0 0 [some (.ref 404), some (.int a1), some (.int a2), some (.int a3), some (.int a4), some (.int c), none, none, none, none, none] [.int nv, .int c] (n, SH1, I, J)
    refine q_icmp (c := 3) rfl (by decide) (fun h => absurd (show (nv).toInt ≤ (c).toInt from h) (by omega)) (fun y2 => ?_)
    have y2 : (c).toInt < (nv).toInt := y2
    refine q_ald rfl rfl ?_
    refine q_getr rfl sk_404 sr_404_45 ?_
    refine q_ild rfl rfl ?_
    refine q_ic rfl ?_
    refine q_iast rfl sk_425 sn_425 (by omega) (by omega) ?_
    show dw_ok (pr_X12_slugs K) 59 0 0 [some (.ref 404), some (.int a1), some (.int a2), some (.int a3), some (.int a4), some (.int c), none, none, none, none, none] [] (n, SH1, (dw_up I 425 (c).toInt.toNat (0 : Int32)), J)
    rw [hcn]
    refine q_inc rfl rfl rfl ?_
    show dw_ok (pr_X12_slugs K) 62 0 0 [some (.ref 404), some (.int a1), some (.int a2), some (.int a3), some (.int a4), some (.int (c + 1)), none, none, none, none, none] [] (n, SH1, (dw_up I 425 k (0 : Int32)), J)
    show dw_ok (pr_X12_slugs K) 62 0 0 [some (.ref 404), some (.int a1), some (.int a2), some (.int a3), some (.int a4), some (.int (c + 1)), none, none, none, none, none] [] (n, SH1, (dw_up I 425 k (0 : Int32)), J)
    obtain ⟨cx, hcx⟩ : ∃ z, z = (c + 1) := ⟨_, rfl⟩
    rw [← hcx]
    have ecx : cx.toInt = ((k + 1 : Nat) : Int) := by rw [hcx]; exact ix_1 hc (by omega)
    refine q_goto rfl ?_
    refine ih (k + 1) cx (dw_up I 425 k 0) (by omega) ecx (fun x hx => (up_row hx).trans (hfr x hx)) (fun j hj => ?_)
    by_cases e : j = k
    · rw [e, up_same]
    · rw [up_fld e]
      exact h2 j (by omega)
set_option maxRecDepth 8000 in
/-- one CELL a side -/
theorem bs_uni {R : Nat → Int32} {k s o o2 : Nat} (hk : k < Nn R) (ho2 : o2 < Nn R) (ho : o < Nn R) (h2 : bsP (Cn R) k s o2) (h : bsP (Cn R) k s o) : o2 = o := by
  have e1 : Cn R * (o / Cn R) + o % Cn R = o := Nat.div_add_mod o (Cn R)
  have e2 : Cn R * (o2 / Cn R) + o2 % Cn R = o2 := Nat.div_add_mod o2 (Cn R)
  have q : o2 / Cn R = o / Cn R ∧ o2 % Cn R = o % Cn R := by
    unfold bsP at h h2
    obtain ⟨X, hX⟩ : ∃ z, z = k % Cn R := ⟨_, rfl⟩
    obtain ⟨Y, hY⟩ : ∃ z, z = k / Cn R := ⟨_, rfl⟩
    obtain ⟨X1, hX1⟩ : ∃ z, z = o % Cn R := ⟨_, rfl⟩
    obtain ⟨Y1, hY1⟩ : ∃ z, z = o / Cn R := ⟨_, rfl⟩
    obtain ⟨X2, hX2⟩ : ∃ z, z = o2 % Cn R := ⟨_, rfl⟩
    obtain ⟨Y2, hY2⟩ : ∃ z, z = o2 / Cn R := ⟨_, rfl⟩
    rw [← hX, ← hY, ← hX1, ← hY1] at h
    rw [← hX, ← hY, ← hX2, ← hY2] at h2
    rw [← hX1, ← hY1, ← hX2, ← hY2]
    clear hX hY hX1 hY1 hX2 hY2 e1 e2 hk ho ho2
    rcases h with ⟨e, a, b⟩ | ⟨e, a, b⟩ | ⟨e, a, b⟩ | ⟨e, a, b⟩ <;> rcases h2 with ⟨f, c, d⟩ | ⟨f, c, d⟩ | ⟨f, c, d⟩ | ⟨f, c, d⟩ <;> omega
  rw [← e1, ← e2, q.1, q.2]
set_option maxRecDepth 8000 in
theorem msi_loop {n : Nat} {J : Nat → Nat → Int64} {K : dw_K} {R W : Nat → Int32} {I0 : Nat → Nat → Int32} {a : Nat} (hR0 : I0 406 = R) (hG : GOK R) (hW : ∀ c, c < Nn R → I0 417 c = W c) (hWb : ∀ c, c < Nn R → 0 ≤ (W c).toInt ∧ (W c).toInt ≤ 200000) (ha : a < Nn R) {a1 a2 a3 a4 : Int32} {c5 c8 : Int32} {k : Nat} {n0 : Int} (hc8 : c8.toInt = k) (hk9 : k < Nn R)
    (hk : ∀ (nn mo sd : Int32) (v10 : Option Value) (I : Nat → Nat → Int32), (∀ x, x ≠ 425 → I x = I0 x) → slI (Cn R) (Nn R) W a (I 425) nn.toInt → slM (Cn R) (Nn R) W (I 425) nn.toInt mo.toInt n0 k 4 → dw_ok (pr_X12_slugs K) 199 0 0 [some (.ref 404), some (.int a1), some (.int a2), some (.int a3), some (.int a4), some (.int c5), some (.int nn), some (.int mo), some (.int c8), some (.int sd), v10] [] (n, SH1, I, J)) :
    ∀ (f s : Nat) (nn mo sd : Int32) (v10 : Option Value) (I : Nat → Nat → Int32), s + f = 4 → sd.toInt = s → (∀ x, x ≠ 425 → I x = I0 x) → slI (Cn R) (Nn R) W a (I 425) nn.toInt → slM (Cn R) (Nn R) W (I 425) nn.toInt mo.toInt n0 k s → dw_ok (pr_X12_slugs K) 123 0 0 [some (.ref 404), some (.int a1), some (.int a2), some (.int a3), some (.int a4), some (.int c5), some (.int nn), some (.int mo), some (.int c8), some (.int sd), v10] [] (n, SH1, I, J) := by
  obtain ⟨hN, hN9⟩ := gok_N hG
  have k0 : (0 : Int32).toInt = 0 := rfl
  have k1 : (1 : Int32).toInt = 1 := rfl
  have k4 : (4 : Int32).toInt = 4 := rfl
  have hcn : c8.toInt.toNat = k := nat_of hc8
  intro f
  induction f with
  | zero =>
    intro s nn mo sd v10 I hf hs hfr h2 h3
    have es : s = 4 := by omega
    rw [es] at h3
    refine q_ild rfl rfl ?_
    refine q_ic rfl ?_
    refine q_icmp (c := 3) rfl (by decide) (fun y1 => ?_) (fun h => absurd (show (sd).toInt < (4 : Int) from h) (by omega))
    have y1 : (4 : Int) ≤ (sd).toInt := y1
    exact hk nn mo sd v10 I hfr h2 h3
  | succ f ih =>
    intro s nn mo sd v10 I hf hs hfr h2 h3
    have hR : I 406 = R := (hfr 406 (by decide)).trans hR0
    obtain ⟨nb0, nb1⟩ := sl_b h2
    refine q_ild rfl rfl ?_
    refine q_ic rfl ?_
    refine q_icmp (c := 3) rfl (by decide) (fun h => absurd (show (4 : Int) ≤ (sd).toInt from h) (by omega)) (fun y2 => ?_)
    have y2 : (sd).toInt < (4 : Int) := y2
    refine q_ald rfl rfl ?_
    refine q_getr rfl sk_404 sr_404_45 ?_
    refine q_ild rfl rfl ?_
    refine q_xald rfl (Or.inl rfl) sk_425 sn_425 (by omega) (by omega) ?_
    show dw_ok (pr_X12_slugs K) 136 0 0 [some (.ref 404), some (.int a1), some (.int a2), some (.int a3), some (.int a4), some (.int c5), some (.int nn), some (.int mo), some (.int c8), some (.int sd), v10] [.int (I 425 (c8).toInt.toNat)] (n, SH1, I, J)
    rw [hcn]
    refine q_ic rfl ?_
    refine q_icmp (c := 1) rfl (by decide) (fun y3 => ?_) (fun y3 => ?_)
    · have y3 : ((I 425 k)).toInt ≠ (1 : Int) := y3
      exact hk nn mo sd _ I hfr h2 (sl_x h3 y3)
    · have y3 : ((I 425 k)).toInt = (1 : Int) := y3
      refine q_ald rfl rfl ?_
      refine q_ild rfl rfl ?_
      refine q_ild rfl rfl ?_
      refine q_callV (as := [.int c8, .int sd]) (rest := []) rfl rfl sk_404 rfl (Nat.le_of_ble_eq_true rfl) ?_
      refine v_beside hR hG hc8 hk9 hs (by omega) (fun o ho => ?_)
      rcases ho with ⟨oo, ho, hbs, eo⟩ | ⟨eo, hno⟩
      · have oon : o.toInt.toNat = oo := nat_of eo
        obtain ⟨w0, w9⟩ := hWb oo ho
        have had : adB (Cn R) (Nn R) k oo := ⟨hk9, ho, s, by omega, hbs⟩
        show dw_ok (pr_X12_slugs K) 148 0 0 [some (.ref 404), some (.int a1), some (.int a2), some (.int a3), some (.int a4), some (.int c5), some (.int nn), some (.int mo), some (.int c8), some (.int sd), v10] [.int o] (n, SH1, I, J)
        refine q_ist rfl rfl ?_
        show dw_ok (pr_X12_slugs K) 150 0 0 [some (.ref 404), some (.int a1), some (.int a2), some (.int a3), some (.int a4), some (.int c5), some (.int nn), some (.int mo), some (.int c8), some (.int sd), some (.int o)] [] (n, SH1, I, J)
        refine q_ild rfl rfl ?_
        refine q_if (c := 2) rfl (by decide) (fun h => absurd (show (o).toInt < 0 from h) (by omega)) (fun y4 => ?_)
        have y4 : 0 ≤ (o).toInt := y4
        refine q_ald rfl rfl ?_
        refine q_getr rfl sk_404 sr_404_29 ?_
        refine q_ild rfl rfl ?_
        refine q_xald rfl (Or.inl rfl) sk_417 sn_417 (by omega) (by omega) ?_
        show dw_ok (pr_X12_slugs K) 162 0 0 [some (.ref 404), some (.int a1), some (.int a2), some (.int a3), some (.int a4), some (.int c5), some (.int nn), some (.int mo), some (.int c8), some (.int sd), some (.int o)] [.int (I 417 (o).toInt.toNat)] (n, SH1, I, J)
        rw [oon]
        show dw_ok (pr_X12_slugs K) 162 0 0 [some (.ref 404), some (.int a1), some (.int a2), some (.int a3), some (.int a4), some (.int c5), some (.int nn), some (.int mo), some (.int c8), some (.int sd), some (.int o)] [.int (I 417 oo)] (n, SH1, I, J)
        rw [show I 417 oo = W oo from (by rw [hfr 417 (by decide)]; exact hW oo ho)]
        refine q_if (c := 0) rfl (by decide) (fun y5 => ?_) (fun y5 => ?_)
        · have y5 : ((W oo)).toInt = 0 := y5
          refine q_inc rfl rfl rfl ?_
          show dw_ok (pr_X12_slugs K) 196 0 0 [some (.ref 404), some (.int a1), some (.int a2), some (.int a3), some (.int a4), some (.int c5), some (.int nn), some (.int mo), some (.int c8), some (.int (sd + 1)), some (.int o)] [] (n, SH1, I, J)
          show dw_ok (pr_X12_slugs K) 196 0 0 [some (.ref 404), some (.int a1), some (.int a2), some (.int a3), some (.int a4), some (.int c5), some (.int nn), some (.int mo), some (.int c8), some (.int (sd + 1)), some (.int o)] [] (n, SH1, I, J)
          obtain ⟨sx, hsx⟩ : ∃ z, z = (sd + 1) := ⟨_, rfl⟩
          rw [← hsx]
          have esx : sx.toInt = ((s + 1 : Nat) : Int) := by rw [hsx]; exact ix_1 hs (by omega)
          refine q_goto rfl ?_
          exact ih (s + 1) nn mo sx _ I (by omega) esx hfr h2 (sl_s h3 (fun oo2 ho2 hb2 hw2 _ => by rw [bs_uni hk9 ho2 ho hb2 hbs] at hw2; omega))
        · have y5 : ((W oo)).toInt ≠ 0 := y5
          refine q_ald rfl rfl ?_
          refine q_getr rfl sk_404 sr_404_45 ?_
          refine q_ild rfl rfl ?_
          refine q_xald rfl (Or.inl rfl) sk_425 sn_425 (by omega) (by omega) ?_
          show dw_ok (pr_X12_slugs K) 172 0 0 [some (.ref 404), some (.int a1), some (.int a2), some (.int a3), some (.int a4), some (.int c5), some (.int nn), some (.int mo), some (.int c8), some (.int sd), some (.int o)] [.int (I 425 (o).toInt.toNat)] (n, SH1, I, J)
          rw [oon]
          refine q_ic rfl ?_
          refine q_icmp (c := 1) rfl (by decide) (fun y6 => ?_) (fun y6 => ?_)
          · have y6 : ((I 425 oo)).toInt ≠ (1 : Int) := y6
            refine q_ald rfl rfl ?_
            refine q_getr rfl sk_404 sr_404_45 ?_
            refine q_ild rfl rfl ?_
            refine q_ic rfl ?_
            refine q_iast rfl sk_425 sn_425 (by omega) (by omega) ?_
            show dw_ok (pr_X12_slugs K) 187 0 0 [some (.ref 404), some (.int a1), some (.int a2), some (.int a3), some (.int a4), some (.int c5), some (.int nn), some (.int mo), some (.int c8), some (.int sd), some (.int o)] [] (n, SH1, (dw_up I 425 (o).toInt.toNat (1 : Int32)), J)
            rw [oon]
            refine q_inc rfl rfl rfl ?_
            show dw_ok (pr_X12_slugs K) 190 0 0 [some (.ref 404), some (.int a1), some (.int a2), some (.int a3), some (.int a4), some (.int c5), some (.int (nn + 1)), some (.int mo), some (.int c8), some (.int sd), some (.int o)] [] (n, SH1, (dw_up I 425 oo (1 : Int32)), J)
            show dw_ok (pr_X12_slugs K) 190 0 0 [some (.ref 404), some (.int a1), some (.int a2), some (.int a3), some (.int a4), some (.int c5), some (.int (nn + 1)), some (.int mo), some (.int c8), some (.int sd), some (.int o)] [] (n, SH1, (dw_up I 425 oo (1 : Int32)), J)
            obtain ⟨nx, hnx⟩ : ∃ z, z = (nn + 1) := ⟨_, rfl⟩
            rw [← hnx]
            have enx : nx.toInt = nn.toInt + 1 := by rw [hnx]; exact (by rw [i_add (by omega) (by omega), k1])
            refine q_ic rfl ?_
            refine q_ist rfl rfl ?_
            show dw_ok (pr_X12_slugs K) 193 0 0 [some (.ref 404), some (.int a1), some (.int a2), some (.int a3), some (.int a4), some (.int c5), some (.int nx), some (.int (1 : Int32)), some (.int c8), some (.int sd), some (.int o)] [] (n, SH1, (dw_up I 425 oo (1 : Int32)), J)
            refine q_inc rfl rfl rfl ?_
            show dw_ok (pr_X12_slugs K) 196 0 0 [some (.ref 404), some (.int a1), some (.int a2), some (.int a3), some (.int a4), some (.int c5), some (.int nx), some (.int (1 : Int32)), some (.int c8), some (.int (sd + 1)), some (.int o)] [] (n, SH1, (dw_up I 425 oo (1 : Int32)), J)
            show dw_ok (pr_X12_slugs K) 196 0 0 [some (.ref 404), some (.int a1), some (.int a2), some (.int a3), some (.int a4), some (.int c5), some (.int nx), some (.int (1 : Int32)), some (.int c8), some (.int (sd + 1)), some (.int o)] [] (n, SH1, (dw_up I 425 oo (1 : Int32)), J)
            obtain ⟨sx, hsx⟩ : ∃ z, z = (sd + 1) := ⟨_, rfl⟩
            rw [← hsx]
            have esx : sx.toInt = ((s + 1 : Nat) : Int) := by rw [hsx]; exact ix_1 hs (by omega)
            refine q_goto rfl ?_
            have h4 := sl_up (v := 1) h2 had y3 y6 (by omega) k1
            exact ih (s + 1) nx 1 sx _ (dw_up I 425 oo 1) (by omega) esx (fun x hx => (up_row hx).trans (hfr x hx)) (by rw [upF_row, enx]; exact h4) ⟨by have := h3.1; omega, Or.inl ⟨k1, by have := h3.1; omega⟩⟩
          · have y6 : ((I 425 oo)).toInt = (1 : Int) := y6
            refine q_goto rfl ?_
            refine q_inc rfl rfl rfl ?_
            show dw_ok (pr_X12_slugs K) 196 0 0 [some (.ref 404), some (.int a1), some (.int a2), some (.int a3), some (.int a4), some (.int c5), some (.int nn), some (.int mo), some (.int c8), some (.int (sd + 1)), some (.int o)] [] (n, SH1, I, J)
            show dw_ok (pr_X12_slugs K) 196 0 0 [some (.ref 404), some (.int a1), some (.int a2), some (.int a3), some (.int a4), some (.int c5), some (.int nn), some (.int mo), some (.int c8), some (.int (sd + 1)), some (.int o)] [] (n, SH1, I, J)
            obtain ⟨sx, hsx⟩ : ∃ z, z = (sd + 1) := ⟨_, rfl⟩
            rw [← hsx]
            have esx : sx.toInt = ((s + 1 : Nat) : Int) := by rw [hsx]; exact ix_1 hs (by omega)
            refine q_goto rfl ?_
            exact ih (s + 1) nn mo sx _ I (by omega) esx hfr h2 (sl_s h3 (fun oo2 ho2 hb2 _ _ => by rw [bs_uni hk9 ho2 ho hb2 hbs]; exact y6))
      · show dw_ok (pr_X12_slugs K) 148 0 0 [some (.ref 404), some (.int a1), some (.int a2), some (.int a3), some (.int a4), some (.int c5), some (.int nn), some (.int mo), some (.int c8), some (.int sd), v10] [.int o] (n, SH1, I, J)
        refine q_ist rfl rfl ?_
        show dw_ok (pr_X12_slugs K) 150 0 0 [some (.ref 404), some (.int a1), some (.int a2), some (.int a3), some (.int a4), some (.int c5), some (.int nn), some (.int mo), some (.int c8), some (.int sd), some (.int o)] [] (n, SH1, I, J)
        refine q_ild rfl rfl ?_
        refine q_if (c := 2) rfl (by decide) (fun y7 => ?_) (fun h => absurd (show 0 ≤ (o).toInt from h) (by omega))
        have y7 : (o).toInt < 0 := y7
        refine q_inc rfl rfl rfl ?_
        show dw_ok (pr_X12_slugs K) 196 0 0 [some (.ref 404), some (.int a1), some (.int a2), some (.int a3), some (.int a4), some (.int c5), some (.int nn), some (.int mo), some (.int c8), some (.int (sd + 1)), some (.int o)] [] (n, SH1, I, J)
        show dw_ok (pr_X12_slugs K) 196 0 0 [some (.ref 404), some (.int a1), some (.int a2), some (.int a3), some (.int a4), some (.int c5), some (.int nn), some (.int mo), some (.int c8), some (.int (sd + 1)), some (.int o)] [] (n, SH1, I, J)
        obtain ⟨sx, hsx⟩ : ∃ z, z = (sd + 1) := ⟨_, rfl⟩
        rw [← hsx]
        have esx : sx.toInt = ((s + 1 : Nat) : Int) := by rw [hsx]; exact ix_1 hs (by omega)
        refine q_goto rfl ?_
        exact ih (s + 1) nn mo sx _ I (by omega) esx hfr h2 (sl_s h3 (fun o2 ho2 hb2 _ _ => absurd hb2 (hno o2 ho2)))
set_option maxRecDepth 8000 in
theorem msc_loop {n : Nat} {J : Nat → Nat → Int64} {K : dw_K} {R W : Nat → Int32} {I0 : Nat → Nat → Int32} {a : Nat} (hR0 : I0 406 = R) (hG : GOK R) (hW : ∀ c, c < Nn R → I0 417 c = W c) (hWb : ∀ c, c < Nn R → 0 ≤ (W c).toInt ∧ (W c).toInt ≤ 200000) (ha : a < Nn R) {a1 a2 a3 a4 : Int32} {c5 : Int32} {n0 : Int}
    (hk : ∀ (nn mo c8 : Int32) (v9 v10 : Option Value) (I : Nat → Nat → Int32), (∀ x, x ≠ 425 → I x = I0 x) → slI (Cn R) (Nn R) W a (I 425) nn.toInt → slM (Cn R) (Nn R) W (I 425) nn.toInt mo.toInt n0 (Nn R) 0 → dw_ok (pr_X12_slugs K) 100 0 0 [some (.ref 404), some (.int a1), some (.int a2), some (.int a3), some (.int a4), some (.int c5), some (.int nn), some (.int mo), some (.int c8), v9, v10] [] (n, SH1, I, J)) :
    ∀ (f k : Nat) (nn mo c8 : Int32) (v9 v10 : Option Value) (I : Nat → Nat → Int32), k + f = Nn R → c8.toInt = k → (∀ x, x ≠ 425 → I x = I0 x) → slI (Cn R) (Nn R) W a (I 425) nn.toInt → slM (Cn R) (Nn R) W (I 425) nn.toInt mo.toInt n0 k 0 → dw_ok (pr_X12_slugs K) 111 0 0 [some (.ref 404), some (.int a1), some (.int a2), some (.int a3), some (.int a4), some (.int c5), some (.int nn), some (.int mo), some (.int c8), v9, v10] [] (n, SH1, I, J) := by
  obtain ⟨hN, hN9⟩ := gok_N hG
  intro f
  induction f with
  | zero =>
    intro k nn mo c8 v9 v10 I hf hc hfr h2 h3
    have ek : k = Nn R := by omega
    rw [ek] at h3
    refine q_ild rfl rfl ?_
    refine q_ald rfl rfl ?_
    refine q_callV (as := []) (rest := [.int c8]) rfl rfl sk_404 rfl (Nat.le_of_ble_eq_true rfl) ?_
    refine v_mcells ?_
    show dw_ok (pr_X12_slugs K) 117 0 0 [some (.ref 404), some (.int a1), some (.int a2), some (.int a3), some (.int a4), some (.int c5), some (.int nn), some (.int mo), some (.int c8), v9, v10] [.int (I 406 0 * I 406 1), .int c8] (n, SH1, I, J)
    rw [show I 406 = R from (hfr 406 (by decide)).trans hR0]
    obtain ⟨nv, hnv⟩ : ∃ z, z = R 0 * R 1 := ⟨_, rfl⟩
    rw [← hnv]
    have env : nv.toInt = Nn R := by rw [hnv]; exact hN
    show dw_ok (pr_X12_slugs K) 117 0 0 [some (.ref 404), some (.int a1), some (.int a2), some (.int a3), some (.int a4), some (.int c5), some (.int nn), some (.int mo), some (.int c8), v9, v10] [.int nv, .int c8] (n, SH1, I, J)
    refine q_icmp (c := 3) rfl (by decide) (fun y1 => ?_) (fun h => absurd (show (c8).toInt < (nv).toInt from h) (by omega))
    have y1 : (nv).toInt ≤ (c8).toInt := y1
    refine q_goto rfl ?_
    exact hk nn mo c8 v9 v10 I hfr h2 h3
  | succ f ih =>
    intro k nn mo c8 v9 v10 I hf hc hfr h2 h3
    refine q_ild rfl rfl ?_
    refine q_ald rfl rfl ?_
    refine q_callV (as := []) (rest := [.int c8]) rfl rfl sk_404 rfl (Nat.le_of_ble_eq_true rfl) ?_
    refine v_mcells ?_
    show dw_ok (pr_X12_slugs K) 117 0 0 [some (.ref 404), some (.int a1), some (.int a2), some (.int a3), some (.int a4), some (.int c5), some (.int nn), some (.int mo), some (.int c8), v9, v10] [.int (I 406 0 * I 406 1), .int c8] (n, SH1, I, J)
    rw [show I 406 = R from (hfr 406 (by decide)).trans hR0]
    obtain ⟨nv, hnv⟩ : ∃ z, z = R 0 * R 1 := ⟨_, rfl⟩
    rw [← hnv]
    have env : nv.toInt = Nn R := by rw [hnv]; exact hN
    show dw_ok (pr_X12_slugs K) 117 0 0 [some (.ref 404), some (.int a1), some (.int a2), some (.int a3), some (.int a4), some (.int c5), some (.int nn), some (.int mo), some (.int c8), v9, v10] [.int nv, .int c8] (n, SH1, I, J)
    refine q_icmp (c := 3) rfl (by decide) (fun h => absurd (show (nv).toInt ≤ (c8).toInt from h) (by omega)) (fun y2 => ?_)
    have y2 : (c8).toInt < (nv).toInt := y2
    refine q_ic rfl ?_
    refine q_ist rfl rfl ?_
    show dw_ok (pr_X12_slugs K) 123 0 0 [some (.ref 404), some (.int a1), some (.int a2), some (.int a3), some (.int a4), some (.int c5), some (.int nn), some (.int mo), some (.int c8), some (.int (0 : Int32)), v10] [] (n, SH1, I, J)
    refine msi_loop (I0 := I0) (a := a) hR0 hG hW hWb ha hc (by omega) (fun nn2 mo2 sd v10 I2 r2 q2 q3 => ?_) 4 0 nn mo 0 v10 I (by decide) rfl hfr h2 h3
    show dw_ok (pr_X12_slugs K) 199 0 0 [some (.ref 404), some (.int a1), some (.int a2), some (.int a3), some (.int a4), some (.int c5), some (.int nn2), some (.int mo2), some (.int c8), some (.int sd), v10] [] (n, SH1, I2, J)
    refine q_inc rfl rfl rfl ?_
    show dw_ok (pr_X12_slugs K) 202 0 0 [some (.ref 404), some (.int a1), some (.int a2), some (.int a3), some (.int a4), some (.int c5), some (.int nn2), some (.int mo2), some (.int (c8 + 1)), some (.int sd), v10] [] (n, SH1, I2, J)
    show dw_ok (pr_X12_slugs K) 202 0 0 [some (.ref 404), some (.int a1), some (.int a2), some (.int a3), some (.int a4), some (.int c5), some (.int nn2), some (.int mo2), some (.int (c8 + 1)), some (.int sd), v10] [] (n, SH1, I2, J)
    obtain ⟨cx, hcx⟩ : ∃ z, z = (c8 + 1) := ⟨_, rfl⟩
    rw [← hcx]
    have ecx : cx.toInt = ((k + 1 : Nat) : Int) := by rw [hcx]; exact ix_1 hc (by omega)
    refine q_goto rfl ?_
    exact ih (k + 1) nn2 mo2 cx _ _ I2 (by omega) ecx r2 q2 (sl_k q3)
set_option maxRecDepth 8000 in
theorem msx {n : Nat} {J : Nat → Nat → Int64} {K : dw_K} {R W : Nat → Int32} {I0 : Nat → Nat → Int32} {a : Nat} (hR0 : I0 406 = R) (hG : GOK R) (hW : ∀ c, c < Nn R → I0 417 c = W c) (hWb : ∀ c, c < Nn R → 0 ≤ (W c).toInt ∧ (W c).toInt ≤ 200000) (ha : a < Nn R) {a1 a2 a3 a4 : Int32} {c5 nn mo : Int32} {v8 v9 v10 : Option Value} {I : Nat → Nat → Int32} (hk : ∀ (w : Int32) (I : Nat → Nat → Int32), w.toInt = (rcN (rcP (Cn R) (Nn R) W true a) (Nn R) : Nat) → K (some (.int w)) (n, SH1, I, J)) (h2 : slI (Cn R) (Nn R) W a (I 425) nn.toInt) (hm : mo.toInt = 0) (h3 : slG (Cn R) (Nn R) W (I 425) (Nn R) 0) : dw_ok (pr_X12_slugs K) 100 0 0 [some (.ref 404), some (.int a1), some (.int a2), some (.int a3), some (.int a4), some (.int c5), some (.int nn), some (.int mo), v8, v9, v10] [] (n, SH1, I, J) := by
  refine q_ild rfl rfl ?_
  refine q_if (c := 0) rfl (by decide) (fun y1 => ?_) (fun h => absurd (show (mo).toInt ≠ 0 from h) (by omega))
  have y1 : (mo).toInt = 0 := y1
  refine q_ild rfl rfl ?_
  exact q_iret rfl (hk nn I (sl_done ha h2 h3))
set_option maxRecDepth 8000 in
theorem mso_loop {n : Nat} {J : Nat → Nat → Int64} {K : dw_K} {R W : Nat → Int32} {I0 : Nat → Nat → Int32} {a : Nat} (hR0 : I0 406 = R) (hG : GOK R) (hW : ∀ c, c < Nn R → I0 417 c = W c) (hWb : ∀ c, c < Nn R → 0 ≤ (W c).toInt ∧ (W c).toInt ≤ 200000) (ha : a < Nn R) {a1 a2 a3 a4 : Int32} {c5 : Int32} (hk : ∀ (w : Int32) (I : Nat → Nat → Int32), w.toInt = (rcN (rcP (Cn R) (Nn R) W true a) (Nn R) : Nat) → K (some (.int w)) (n, SH1, I, J)) :
    ∀ (f : Nat) (nn mo : Int32) (v8 v9 v10 : Option Value) (I : Nat → Nat → Int32), (∀ x, x ≠ 425 → I x = I0 x) → slI (Cn R) (Nn R) W a (I 425) nn.toInt → mo.toInt = 1 → (Nn R : Int) + 1 ≤ (f : Int) + nn.toInt → dw_ok (pr_X12_slugs K) 100 0 0 [some (.ref 404), some (.int a1), some (.int a2), some (.int a3), some (.int a4), some (.int c5), some (.int nn), some (.int mo), v8, v9, v10] [] (n, SH1, I, J) := by
  intro f
  induction f with
  | zero =>
    intro nn mo v8 v9 v10 I hfr h2 hm hf
    obtain ⟨b0, b1⟩ := sl_b h2
    exact absurd hf (by omega)
  | succ f ih =>
    intro nn mo v8 v9 v10 I hfr h2 hm hf
    obtain ⟨b0, b1⟩ := sl_b h2
    refine q_ild rfl rfl ?_
    refine q_if (c := 0) rfl (by decide) (fun h => absurd (show (mo).toInt = 0 from h) (by omega)) (fun y1 => ?_)
    have y1 : (mo).toInt ≠ 0 := y1
    refine q_ic rfl ?_
    refine q_ist rfl rfl ?_
    show dw_ok (pr_X12_slugs K) 108 0 0 [some (.ref 404), some (.int a1), some (.int a2), some (.int a3), some (.int a4), some (.int c5), some (.int nn), some (.int (0 : Int32)), v8, v9, v10] [] (n, SH1, I, J)
    refine q_ic rfl ?_
    refine q_ist rfl rfl ?_
    show dw_ok (pr_X12_slugs K) 111 0 0 [some (.ref 404), some (.int a1), some (.int a2), some (.int a3), some (.int a4), some (.int c5), some (.int nn), some (.int (0 : Int32)), some (.int (0 : Int32)), v9, v10] [] (n, SH1, I, J)
    refine msc_loop (I0 := I0) (a := a) (n0 := nn.toInt) hR0 hG hW hWb ha (fun nn2 mo2 c8 v9 v10 I2 r2 q2 q3 => ?_) (Nn R) 0 nn 0 0 _ _ I (Nat.zero_add _) rfl hfr h2 sl_0
    rcases q3 with ⟨q4, ⟨q5, q6⟩ | ⟨q5, q6⟩⟩
    · exact ih nn2 mo2 _ _ _ I2 r2 q2 q5 (by omega)
    · exact msx hR0 hG hW hWb ha hk q2 q5 q6
set_option maxRecDepth 8000 in
theorem sm_z {f : Nat → Int32} : ∀ n : Nat, (∀ c, c < n → f c = 0) → smF f n = 0
  | 0, _ => rfl
  | n + 1, h => by
    have q := sm_z n (fun c hc => h c (by omega))
    show smF f n + (f n).toInt = 0
    rw [q, h n (by omega)]
    rfl
set_option maxRecDepth 8000 in
set_option maxHeartbeats 4000000 in
theorem v_mslugs {n : Nat} {I : Nat → Nat → Int32} {J : Nat → Nat → Int64} {K : dw_K} {R : Nat → Int32} (hR : I 406 = R) (hG : GOK R) {a1 a2 a3 a4 : Int32} (hN : okS R a1 → NOK (nX R a1)) (hk : ∀ (w : Int32) (I' : Nat → Nat → Int32), w.toInt = aSlugs R a1 a2 a3 a4 → K (some (.int w)) (n, SH1, I', J)) : t_X12_slugs [.ref 404, .int a1, .int a2, .int a3, .int a4] (n, SH1, I, J) K := by
  have cm1 : (-1 : Int32).toInt = -1 := rfl
  have k0 : (0 : Int32).toInt = 0 := rfl
  have k1 : (1 : Int32).toInt = 1 := rfl
  have k2 : (2 : Int32).toInt = 2 := rfl
  refine q_body (Nat.le_of_ble_eq_true rfl) ?_
  refine q_ald rfl rfl ?_
  refine q_ic rfl ?_
  refine q_puti rfl sk_404 ?_
  show dw_ok (pr_X12_slugs K) 5 0 0 [some (.ref 404), some (.int a1), some (.int a2), some (.int a3), some (.int a4), none, none, none, none, none, none] [] (n, SH1, (dw_up I 404 0 (0 : Int32)), J)
  refine q_ald rfl rfl ?_
  refine q_ild rfl rfl ?_
  refine q_callV (as := [.int a1]) (rest := []) rfl rfl sk_404 rfl (Nat.le_of_ble_eq_true rfl) ?_
  obtain ⟨I1, hI1⟩ : ∃ X, X = (dw_up I 404 0 (0 : Int32)) := ⟨_, rfl⟩
  rw [← hI1]
  have eI1 : I1 406 = R := by rw [hI1]; exact ((up_row (by decide)).trans (hR))
  refine v_isNight (fun w_ oS => ?_)
  rcases oS with ⟨rfl, oS⟩ | ⟨rfl, oS⟩
  · show dw_ok (pr_X12_slugs K) 10 0 0 [some (.ref 404), some (.int a1), some (.int a2), some (.int a3), some (.int a4), none, none, none, none, none, none] [.int (1 : Int32)] (n, SH1, I1, J)
    refine q_if (c := 0) rfl (by decide) (fun h => absurd (show (1 : Int) = 0 from h) (by decide)) (fun y2 => ?_)
    have y2 : (1 : Int) ≠ 0 := y2
    refine q_ild rfl rfl ?_
    refine q_callS (as := [.int a2]) (rest := []) rfl rfl rfl rfl ?_
    refine v_mIsStep (fun w_ oT => ?_)
    rcases oT with ⟨rfl, oT⟩ | ⟨rfl, oT⟩
    · show dw_ok (pr_X12_slugs K) 17 0 0 [some (.ref 404), some (.int a1), some (.int a2), some (.int a3), some (.int a4), none, none, none, none, none, none] [.int (1 : Int32)] (n, SH1, I1, J)
      refine q_if (c := 0) rfl (by decide) (fun h => absurd (show (1 : Int) = 0 from h) (by decide)) (fun y3 => ?_)
      have y3 : (1 : Int) ≠ 0 := y3
      refine q_ald rfl rfl ?_
      refine q_ild rfl rfl ?_
      refine q_ild rfl rfl ?_
      refine q_callV (as := [.int a3, .int a4]) (rest := []) rfl rfl sk_404 rfl (Nat.le_of_ble_eq_true rfl) ?_
      refine v_misCell (C := Cn R) (R := Rn R) (by rw [eI1]; exact hG.1.1) (by rw [eI1]; exact hG.1.2.1) (fun w_ oC => ?_)
      rcases oC with ⟨rfl, oC⟩ | ⟨rfl, oC⟩
      · show dw_ok (pr_X12_slugs K) 27 0 0 [some (.ref 404), some (.int a1), some (.int a2), some (.int a3), some (.int a4), none, none, none, none, none, none] [.int (1 : Int32)] (n, SH1, I1, J)
        refine q_if (c := 1) rfl (by decide) (fun y4 => ?_) (fun h => absurd (show (1 : Int) = 0 from h) (by decide))
        have y4 : (1 : Int) ≠ 0 := y4
        refine q_ald rfl rfl ?_
        refine q_ild rfl rfl ?_
        refine q_ic rfl ?_
        refine q_ild rfl rfl ?_
        refine q_callV (as := [.int a1, .int (0 : Int32), .int a2]) (rest := []) rfl rfl sk_404 rfl (Nat.le_of_ble_eq_true rfl) ?_
        rw [eI1] at oS
        refine v_through (st := 0) eI1 hG oS (hN oS) rfl ⟨oT.1, by have := oT.2; omega⟩ (fun I9 e9 q9 => ?_)
        show dw_ok (pr_X12_slugs K) 39 0 0 [some (.ref 404), some (.int a1), some (.int a2), some (.int a3), some (.int a4), none, none, none, none, none, none] [] (n, SH1, I9, J)
        refine q_ic rfl ?_
        refine q_ist rfl rfl ?_
        show dw_ok (pr_X12_slugs K) 42 0 0 [some (.ref 404), some (.int a1), some (.int a2), some (.int a3), some (.int a4), some (.int (0 : Int32)), none, none, none, none, none] [] (n, SH1, I9, J)
        have oT2 : okT a2 := ⟨oT.1, by have := oT.2; omega⟩
        obtain ⟨t0, t9⟩ := id oT2
        have hWb : ∀ c, c < Nn R → 0 ≤ ((runW R (nX R a1) 0 (a2.toInt.toNat + 1)).2.1 c).toInt ∧ ((runW R (nX R a1) 0 (a2.toInt.toNat + 1)).2.1 c).toInt ≤ 200000 := fun c hc => wW_b hG (hN oS) (by omega) hc
        refine msl0_loop (I0 := I9) (a := cN R a3 a4) (W := (runW R (nX R a1) 0 (a2.toInt.toNat + 1)).2.1) e9 hG (fun c hc => q9.2.1 c hc) hWb (cN_lt oC) (fun c I1 r1 z1 => ?_) (Nn R) 0 0 I9 (Nat.zero_add _) rfl (fun _ _ => rfl) (fun j hj => absurd hj (Nat.not_lt_zero j))
        show dw_ok (pr_X12_slugs K) 65 0 0 [some (.ref 404), some (.int a1), some (.int a2), some (.int a3), some (.int a4), some (.int c), none, none, none, none, none] [] (n, SH1, I1, J)
        refine q_ald rfl rfl ?_
        refine q_ild rfl rfl ?_
        refine q_ild rfl rfl ?_
        refine q_callV (as := [.int a3, .int a4]) (rest := []) rfl rfl sk_404 rfl (Nat.le_of_ble_eq_true rfl) ?_
        refine v_numberOf ?_
        show dw_ok (pr_X12_slugs K) 72 0 0 [some (.ref 404), some (.int a1), some (.int a2), some (.int a3), some (.int a4), some (.int c), none, none, none, none, none] [.int (I1 406 0 * a4 + a3)] (n, SH1, I1, J)
        rw [show I1 406 = R from (r1 406 (by decide)).trans e9]
        obtain ⟨fm, hfm⟩ : ∃ z, z = R 0 * a4 + a3 := ⟨_, rfl⟩
        rw [← hfm]
        have efm : fm.toInt = (cN R a3 a4 : Nat) := by rw [hfm]; exact (cN_i hG oC).2
        have el := cN_lt oC
        have el9 := (gok_N hG).2
        have en : fm.toInt.toNat = cN R a3 a4 := nat_of efm
        show dw_ok (pr_X12_slugs K) 72 0 0 [some (.ref 404), some (.int a1), some (.int a2), some (.int a3), some (.int a4), some (.int c), none, none, none, none, none] [.int fm] (n, SH1, I1, J)
        refine q_ist rfl rfl ?_
        show dw_ok (pr_X12_slugs K) 74 0 0 [some (.ref 404), some (.int a1), some (.int a2), some (.int a3), some (.int a4), some (.int fm), none, none, none, none, none] [] (n, SH1, I1, J)
        refine q_ald rfl rfl ?_
        refine q_getr rfl sk_404 sr_404_29 ?_
        refine q_ild rfl rfl ?_
        refine q_xald rfl (Or.inl rfl) sk_417 sn_417 (by omega) (by omega) ?_
        show dw_ok (pr_X12_slugs K) 81 0 0 [some (.ref 404), some (.int a1), some (.int a2), some (.int a3), some (.int a4), some (.int fm), none, none, none, none, none] [.int (I1 417 (fm).toInt.toNat)] (n, SH1, I1, J)
        rw [en]
        show dw_ok (pr_X12_slugs K) 81 0 0 [some (.ref 404), some (.int a1), some (.int a2), some (.int a3), some (.int a4), some (.int fm), none, none, none, none, none] [.int (I1 417 (cN R a3 a4))] (n, SH1, I1, J)
        rw [show I1 417 (cN R a3 a4) = (runW R (nX R a1) 0 (a2.toInt.toNat + 1)).2.1 (cN R a3 a4) from (by rw [r1 417 (by decide)]; exact q9.2.1 _ el)]
        refine q_if (c := 1) rfl (by decide) (fun y5 => ?_) (fun y5 => ?_)
        · have y5 : (((runW R (nX R a1) 0 (a2.toInt.toNat + 1)).2.1 (cN R a3 a4))).toInt ≠ 0 := y5
          refine q_ald rfl rfl ?_
          refine q_getr rfl sk_404 sr_404_45 ?_
          refine q_ild rfl rfl ?_
          refine q_ic rfl ?_
          refine q_iast rfl sk_425 sn_425 (by omega) (by omega) ?_
          show dw_ok (pr_X12_slugs K) 94 0 0 [some (.ref 404), some (.int a1), some (.int a2), some (.int a3), some (.int a4), some (.int fm), none, none, none, none, none] [] (n, SH1, (dw_up I1 425 (fm).toInt.toNat (1 : Int32)), J)
          rw [en]
          refine q_ic rfl ?_
          refine q_ist rfl rfl ?_
          show dw_ok (pr_X12_slugs K) 97 0 0 [some (.ref 404), some (.int a1), some (.int a2), some (.int a3), some (.int a4), some (.int fm), some (.int (1 : Int32)), none, none, none, none] [] (n, SH1, (dw_up I1 425 (cN R a3 a4) (1 : Int32)), J)
          refine q_ic rfl ?_
          refine q_ist rfl rfl ?_
          show dw_ok (pr_X12_slugs K) 100 0 0 [some (.ref 404), some (.int a1), some (.int a2), some (.int a3), some (.int a4), some (.int fm), some (.int (1 : Int32)), some (.int (1 : Int32)), none, none, none] [] (n, SH1, (dw_up I1 425 (cN R a3 a4) (1 : Int32)), J)
          have hz : ∀ c, c < Nn R → (upF (I1 425) (cN R a3 a4) 1 c).toInt = 0 ∨ ((upF (I1 425) (cN R a3 a4) 1 c).toInt = 1 ∧ rcP (Cn R) (Nn R) (runW R (nX R a1) 0 (a2.toInt.toNat + 1)).2.1 true (cN R a3 a4) c) := by
            intro c hc
            by_cases g : c = cN R a3 a4
            · rw [g, upF_at]
              exact Or.inr ⟨rfl, fun _ => cN R a3 a4, 0, wy_0, rfl⟩
            · rw [upF_ne g, z1 c hc]
              exact Or.inl rfl
          have hs : (1 : Int) = smF (upF (I1 425) (cN R a3 a4) 1) (Nn R) := by
            rw [sm_up, if_pos el, z1 _ el, sm_z (Nn R) z1]
            rfl
          have h2 : slI (Cn R) (Nn R) (runW R (nX R a1) 0 (a2.toInt.toNat + 1)).2.1 (cN R a3 a4) (upF (I1 425) (cN R a3 a4) 1) (1 : Int32).toInt := ⟨hz, by rw [upF_at]; rfl, hs⟩
          refine mso_loop (I0 := I9) (a := cN R a3 a4) (W := (runW R (nX R a1) 0 (a2.toInt.toNat + 1)).2.1) e9 hG (fun c hc => q9.2.1 c hc) hWb (cN_lt oC) (fun w I2 hw => ?_) (Nn R) 1 1 _ _ _ (dw_up I1 425 (cN R a3 a4) 1) (fun x hx => (up_row hx).trans (r1 x hx)) (by rw [upF_row]; exact h2) rfl (Int.le_refl _)
          exact hk w I2 (hw.trans ((slugs_y ⟨oS, oC, oT2⟩).trans (sla_n y5)).symm)
        · have y5 : (((runW R (nX R a1) 0 (a2.toInt.toNat + 1)).2.1 (cN R a3 a4))).toInt = 0 := y5
          refine q_ic rfl ?_
          exact q_iret rfl (hk _ _ (k0.trans ((slugs_y ⟨oS, oC, oT2⟩).trans (sla_y y5)).symm))
      · show dw_ok (pr_X12_slugs K) 27 0 0 [some (.ref 404), some (.int a1), some (.int a2), some (.int a3), some (.int a4), none, none, none, none, none, none] [.int (0 : Int32)] (n, SH1, I1, J)
        refine q_if (c := 1) rfl (by decide) (fun h => absurd (show (0 : Int) ≠ 0 from h) (by decide)) (fun y6 => ?_)
        have y6 : (0 : Int) = 0 := y6
        refine q_ic rfl ?_
        exact q_iret rfl (hk _ _ (cm1.trans (slugs_n (fun q => oC q.2.1)).symm))
    · show dw_ok (pr_X12_slugs K) 17 0 0 [some (.ref 404), some (.int a1), some (.int a2), some (.int a3), some (.int a4), none, none, none, none, none, none] [.int (0 : Int32)] (n, SH1, I1, J)
      refine q_if (c := 0) rfl (by decide) (fun y7 => ?_) (fun h => absurd (show (0 : Int) ≠ 0 from h) (by decide))
      have y7 : (0 : Int) = 0 := y7
      refine q_ic rfl ?_
      exact q_iret rfl (hk _ _ (cm1.trans (slugs_n (fun q => oT ⟨q.2.2.1, by have := q.2.2.2; omega⟩)).symm))
  · show dw_ok (pr_X12_slugs K) 10 0 0 [some (.ref 404), some (.int a1), some (.int a2), some (.int a3), some (.int a4), none, none, none, none, none, none] [.int (0 : Int32)] (n, SH1, I1, J)
    refine q_if (c := 0) rfl (by decide) (fun y8 => ?_) (fun h => absurd (show (0 : Int) ≠ 0 from h) (by decide))
    have y8 : (0 : Int) = 0 := y8
    refine q_ic rfl ?_
    exact q_iret rfl (hk _ _ (cm1.trans (slugs_n (fun q => by rw [eI1] at oS; exact oS q.1)).symm))
set_option maxRecDepth 8000 in
theorem mw0_loop {n : Nat} {J : Nat → Nat → Int64} {K : dw_K} {R W : Nat → Int32} {I0 : Nat → Nat → Int32} {a : Nat} (hR0 : I0 406 = R) (hG : GOK R) (hW : ∀ c, c < Nn R → I0 417 c = W c) (hWb : ∀ c, c < Nn R → 0 ≤ (W c).toInt ∧ (W c).toInt ≤ 200000) (ha : a < Nn R) {a1 a2 a3 a4 : Int32} (hfm : a3.toInt = a) (hk : ∀ (c : Int32) (I : Nat → Nat → Int32), (∀ x, x ≠ 425 → I x = I0 x) → (∀ j, j < Nn R → I 425 j = inF W a j) → dw_ok (pr_X12_walk K) 102 0 0 [some (.ref 404), some (.int a1), some (.int a2), some (.int a3), some (.int a4), some (.int c), none, none, none] [] (n, SH1, I, J)) :
    ∀ (f k : Nat) (c : Int32) (I : Nat → Nat → Int32), k + f = Nn R → c.toInt = k → (∀ x, x ≠ 425 → I x = I0 x) → (∀ j, j < k → I 425 j = inF W a j) → dw_ok (pr_X12_walk K) 61 0 0 [some (.ref 404), some (.int a1), some (.int a2), some (.int a3), some (.int a4), some (.int c), none, none, none] [] (n, SH1, I, J) := by
  obtain ⟨hN, hN9⟩ := gok_N hG
  intro f
  induction f with
  | zero =>
    intro k c I hf hc hfr h2
    have ek : k = Nn R := by omega
    rw [ek] at h2
    refine q_ild rfl rfl ?_
    refine q_ald rfl rfl ?_
    refine q_callV (as := []) (rest := [.int c]) rfl rfl sk_404 rfl (Nat.le_of_ble_eq_true rfl) ?_
    refine v_mcells ?_
    show dw_ok (pr_X12_walk K) 67 0 0 [some (.ref 404), some (.int a1), some (.int a2), some (.int a3), some (.int a4), some (.int c), none, none, none] [.int (I 406 0 * I 406 1), .int c] (n, SH1, I, J)
    rw [show I 406 = R from (hfr 406 (by decide)).trans hR0]
    obtain ⟨nv, hnv⟩ : ∃ z, z = R 0 * R 1 := ⟨_, rfl⟩
    rw [← hnv]
    have env : nv.toInt = Nn R := by rw [hnv]; exact hN
    show dw_ok (pr_X12_walk K) 67 0 0 [some (.ref 404), some (.int a1), some (.int a2), some (.int a3), some (.int a4), some (.int c), none, none, none] [.int nv, .int c] (n, SH1, I, J)
    refine q_icmp (c := 3) rfl (by decide) (fun y1 => ?_) (fun h => absurd (show (c).toInt < (nv).toInt from h) (by omega))
    have y1 : (nv).toInt ≤ (c).toInt := y1
    exact hk c I hfr h2
  | succ f ih =>
    intro k c I hf hc hfr h2
    have hcn : c.toInt.toNat = k := nat_of hc
    have hkN : k < Nn R := by omega
    refine q_ild rfl rfl ?_
    refine q_ald rfl rfl ?_
    refine q_callV (as := []) (rest := [.int c]) rfl rfl sk_404 rfl (Nat.le_of_ble_eq_true rfl) ?_
    refine v_mcells ?_
    show dw_ok (pr_X12_walk K) 67 0 0 [some (.ref 404), some (.int a1), some (.int a2), some (.int a3), some (.int a4), some (.int c), none, none, none] [.int (I 406 0 * I 406 1), .int c] (n, SH1, I, J)
    rw [show I 406 = R from (hfr 406 (by decide)).trans hR0]
    obtain ⟨nv, hnv⟩ : ∃ z, z = R 0 * R 1 := ⟨_, rfl⟩
    rw [← hnv]
    have env : nv.toInt = Nn R := by rw [hnv]; exact hN
    show dw_ok (pr_X12_walk K) 67 0 0 [some (.ref 404), some (.int a1), some (.int a2), some (.int a3), some (.int a4), some (.int c), none, none, none] [.int nv, .int c] (n, SH1, I, J)
    refine q_icmp (c := 3) rfl (by decide) (fun h => absurd (show (nv).toInt ≤ (c).toInt from h) (by omega)) (fun y2 => ?_)
    have y2 : (c).toInt < (nv).toInt := y2
    refine q_ald rfl rfl ?_
    refine q_getr rfl sk_404 sr_404_45 ?_
    refine q_ild rfl rfl ?_
    refine q_ild rfl rfl ?_
    refine q_ild rfl rfl ?_
    refine q_icmp (c := 1) rfl (by decide) (fun y3 => ?_) (fun y3 => ?_)
    · have y3 : (c).toInt ≠ (a3).toInt := y3
      refine q_ic rfl ?_
      refine q_iast rfl sk_425 sn_425 (by omega) (by omega) ?_
      show dw_ok (pr_X12_walk K) 96 0 0 [some (.ref 404), some (.int a1), some (.int a2), some (.int a3), some (.int a4), some (.int c), none, none, none] [] (n, SH1, (dw_up I 425 (c).toInt.toNat (1000000000 : Int32)), J)
      rw [hcn]
      refine q_inc rfl rfl rfl ?_
      show dw_ok (pr_X12_walk K) 99 0 0 [some (.ref 404), some (.int a1), some (.int a2), some (.int a3), some (.int a4), some (.int (c + 1)), none, none, none] [] (n, SH1, (dw_up I 425 k (1000000000 : Int32)), J)
      show dw_ok (pr_X12_walk K) 99 0 0 [some (.ref 404), some (.int a1), some (.int a2), some (.int a3), some (.int a4), some (.int (c + 1)), none, none, none] [] (n, SH1, (dw_up I 425 k (1000000000 : Int32)), J)
      obtain ⟨cx, hcx⟩ : ∃ z, z = (c + 1) := ⟨_, rfl⟩
      rw [← hcx]
      have ecx : cx.toInt = ((k + 1 : Nat) : Int) := by rw [hcx]; exact ix_1 hc (by omega)
      refine q_goto rfl ?_
      refine ih (k + 1) cx (dw_up I 425 k (1000000000 : Int32)) (by omega) ecx (fun x hx => (up_row hx).trans (hfr x hx)) (fun j hj => ?_)
      by_cases e : j = k
      · rw [e, up_same]
        exact (in_n (by omega)).symm
      · rw [up_fld e]
        exact h2 j (by omega)
    · have y3 : (c).toInt = (a3).toInt := y3
      refine q_ald rfl rfl ?_
      refine q_getr rfl sk_404 sr_404_29 ?_
      refine q_ild rfl rfl ?_
      refine q_xald rfl (Or.inl rfl) sk_417 sn_417 (by omega) (by omega) ?_
      show dw_ok (pr_X12_walk K) 89 0 0 [some (.ref 404), some (.int a1), some (.int a2), some (.int a3), some (.int a4), some (.int c), none, none, none] [.int (I 417 (c).toInt.toNat), .int c, .ref 425] (n, SH1, I, J)
      rw [hcn]
      show dw_ok (pr_X12_walk K) 89 0 0 [some (.ref 404), some (.int a1), some (.int a2), some (.int a3), some (.int a4), some (.int c), none, none, none] [.int (I 417 k), .int c, .ref 425] (n, SH1, I, J)
      rw [show I 417 k = W k from (by rw [hfr 417 (by decide)]; exact hW k hkN)]
      refine q_goto rfl ?_
      refine q_iast rfl sk_425 sn_425 (by omega) (by omega) ?_
      show dw_ok (pr_X12_walk K) 96 0 0 [some (.ref 404), some (.int a1), some (.int a2), some (.int a3), some (.int a4), some (.int c), none, none, none] [] (n, SH1, (dw_up I 425 (c).toInt.toNat (W k)), J)
      rw [hcn]
      refine q_inc rfl rfl rfl ?_
      show dw_ok (pr_X12_walk K) 99 0 0 [some (.ref 404), some (.int a1), some (.int a2), some (.int a3), some (.int a4), some (.int (c + 1)), none, none, none] [] (n, SH1, (dw_up I 425 k (W k)), J)
      show dw_ok (pr_X12_walk K) 99 0 0 [some (.ref 404), some (.int a1), some (.int a2), some (.int a3), some (.int a4), some (.int (c + 1)), none, none, none] [] (n, SH1, (dw_up I 425 k (W k)), J)
      obtain ⟨cx, hcx⟩ : ∃ z, z = (c + 1) := ⟨_, rfl⟩
      rw [← hcx]
      have ecx : cx.toInt = ((k + 1 : Nat) : Int) := by rw [hcx]; exact ix_1 hc (by omega)
      refine q_goto rfl ?_
      refine ih (k + 1) cx (dw_up I 425 k (W k)) (by omega) ecx (fun x hx => (up_row hx).trans (hfr x hx)) (fun j hj => ?_)
      by_cases e : j = k
      · rw [e, up_same]
        have eka : k = a := by omega
        rw [eka]
        exact (in_y rfl).symm
      · rw [up_fld e]
        exact h2 j (by omega)
set_option maxRecDepth 8000 in
theorem mwi_loop {n : Nat} {J : Nat → Nat → Int64} {K : dw_K} {R W : Nat → Int32} {I0 : Nat → Nat → Int32} {a : Nat} (hR0 : I0 406 = R) (hG : GOK R) (hW : ∀ c, c < Nn R → I0 417 c = W c) (hWb : ∀ c, c < Nn R → 0 ≤ (W c).toInt ∧ (W c).toInt ≤ 200000) (ha : a < Nn R) {a1 a2 a3 a4 : Int32} {c6 : Int32} {k : Nat} {S0 : Int} (hc6 : c6.toInt = k) (hk9 : k < Nn R)
    (hk : ∀ (mo sd : Int32) (v8 : Option Value) (I : Nat → Nat → Int32), (∀ x, x ≠ 425 → I x = I0 x) → fiP (Cn R) (Nn R) W false a (I 425) → (I 425 a).toInt ≤ (W a).toInt → wkM (Cn R) (Nn R) W (I 425) mo.toInt S0 k 4 → dw_ok (pr_X12_walk K) 221 0 0 [some (.ref 404), some (.int a1), some (.int a2), some (.int a3), some (.int a4), some (.int mo), some (.int c6), some (.int sd), v8] [] (n, SH1, I, J)) :
    ∀ (f s : Nat) (mo sd : Int32) (v8 : Option Value) (I : Nat → Nat → Int32), s + f = 4 → sd.toInt = s → (∀ x, x ≠ 425 → I x = I0 x) → fiP (Cn R) (Nn R) W false a (I 425) → (I 425 a).toInt ≤ (W a).toInt → wkM (Cn R) (Nn R) W (I 425) mo.toInt S0 k s → dw_ok (pr_X12_walk K) 128 0 0 [some (.ref 404), some (.int a1), some (.int a2), some (.int a3), some (.int a4), some (.int mo), some (.int c6), some (.int sd), v8] [] (n, SH1, I, J) := by
  obtain ⟨hN, hN9⟩ := gok_N hG
  have k0 : (0 : Int32).toInt = 0 := rfl
  have k1 : (1 : Int32).toInt = 1 := rfl
  have k4 : (4 : Int32).toInt = 4 := rfl
  have hcn : c6.toInt.toNat = k := nat_of hc6
  intro f
  induction f with
  | zero =>
    intro s mo sd v8 I hf hs hfr h1 h2 h3
    have es : s = 4 := by omega
    rw [es] at h3
    refine q_ild rfl rfl ?_
    refine q_ic rfl ?_
    refine q_icmp (c := 3) rfl (by decide) (fun y1 => ?_) (fun h => absurd (show (sd).toInt < (4 : Int) from h) (by omega))
    have y1 : (4 : Int) ≤ (sd).toInt := y1
    exact hk mo sd v8 I hfr h1 h2 h3
  | succ f ih =>
    intro s mo sd v8 I hf hs hfr h1 h2 h3
    have hR : I 406 = R := (hfr 406 (by decide)).trans hR0
    obtain ⟨fk0, fk9, -⟩ := h1 k hk9
    refine q_ild rfl rfl ?_
    refine q_ic rfl ?_
    refine q_icmp (c := 3) rfl (by decide) (fun h => absurd (show (4 : Int) ≤ (sd).toInt from h) (by omega)) (fun y2 => ?_)
    have y2 : (sd).toInt < (4 : Int) := y2
    refine q_ald rfl rfl ?_
    refine q_ild rfl rfl ?_
    refine q_ild rfl rfl ?_
    refine q_callV (as := [.int c6, .int sd]) (rest := []) rfl rfl sk_404 rfl (Nat.le_of_ble_eq_true rfl) ?_
    refine v_beside hR hG hc6 hk9 hs (by omega) (fun o ho => ?_)
    rcases ho with ⟨oo, ho, hbs, eo⟩ | ⟨eo, hno⟩
    · have oon : o.toInt.toNat = oo := nat_of eo
      obtain ⟨w0, w9⟩ := hWb oo ho
      have had : adB (Cn R) (Nn R) k oo := ⟨hk9, ho, s, by omega, hbs⟩
      obtain ⟨fo0, fo9, -⟩ := h1 oo ho
      obtain ⟨wa, hwa⟩ : ∃ z, z = W oo := ⟨_, rfl⟩
      rw [← hwa] at w0 w9
      show dw_ok (pr_X12_walk K) 142 0 0 [some (.ref 404), some (.int a1), some (.int a2), some (.int a3), some (.int a4), some (.int mo), some (.int c6), some (.int sd), v8] [.int o] (n, SH1, I, J)
      refine q_ist rfl rfl ?_
      show dw_ok (pr_X12_walk K) 144 0 0 [some (.ref 404), some (.int a1), some (.int a2), some (.int a3), some (.int a4), some (.int mo), some (.int c6), some (.int sd), some (.int o)] [] (n, SH1, I, J)
      refine q_ild rfl rfl ?_
      refine q_if (c := 2) rfl (by decide) (fun h => absurd (show (o).toInt < 0 from h) (by omega)) (fun y3 => ?_)
      have y3 : 0 ≤ (o).toInt := y3
      refine q_ald rfl rfl ?_
      refine q_getr rfl sk_404 sr_404_45 ?_
      refine q_ild rfl rfl ?_
      refine q_xald rfl (Or.inl rfl) sk_425 sn_425 (by omega) (by omega) ?_
      show dw_ok (pr_X12_walk K) 156 0 0 [some (.ref 404), some (.int a1), some (.int a2), some (.int a3), some (.int a4), some (.int mo), some (.int c6), some (.int sd), some (.int o)] [.int (I 425 (c6).toInt.toNat)] (n, SH1, I, J)
      rw [hcn]
      refine q_ic rfl ?_
      refine q_icmp (c := 0) rfl (by decide) (fun y4 => ?_) (fun y4 => ?_)
      · have y4 : ((I 425 k)).toInt = (1000000000 : Int) := y4
        refine q_inc rfl rfl rfl ?_
        show dw_ok (pr_X12_walk K) 218 0 0 [some (.ref 404), some (.int a1), some (.int a2), some (.int a3), some (.int a4), some (.int mo), some (.int c6), some (.int (sd + 1)), some (.int o)] [] (n, SH1, I, J)
        show dw_ok (pr_X12_walk K) 218 0 0 [some (.ref 404), some (.int a1), some (.int a2), some (.int a3), some (.int a4), some (.int mo), some (.int c6), some (.int (sd + 1)), some (.int o)] [] (n, SH1, I, J)
        obtain ⟨sx, hsx⟩ : ∃ z, z = (sd + 1) := ⟨_, rfl⟩
        rw [← hsx]
        have esx : sx.toInt = ((s + 1 : Nat) : Int) := by rw [hsx]; exact ix_1 hs (by omega)
        refine q_goto rfl ?_
        rw [hwa] at w0
        exact ih (s + 1) mo sx _ I (by omega) esx hfr h1 h2 (wk_s h3 (fun oo2 ho2 hb2 => by rw [bs_uni hk9 ho2 ho hb2 hbs]; omega))
      · have y4 : ((I 425 k)).toInt ≠ (1000000000 : Int) := y4
        refine q_ald rfl rfl ?_
        refine q_getr rfl sk_404 sr_404_45 ?_
        refine q_ild rfl rfl ?_
        refine q_xald rfl (Or.inl rfl) sk_425 sn_425 (by omega) (by omega) ?_
        show dw_ok (pr_X12_walk K) 169 0 0 [some (.ref 404), some (.int a1), some (.int a2), some (.int a3), some (.int a4), some (.int mo), some (.int c6), some (.int sd), some (.int o)] [.int (I 425 (c6).toInt.toNat)] (n, SH1, I, J)
        rw [hcn]
        refine q_ald rfl rfl ?_
        refine q_getr rfl sk_404 sr_404_29 ?_
        refine q_ild rfl rfl ?_
        refine q_xald rfl (Or.inl rfl) sk_417 sn_417 (by omega) (by omega) ?_
        show dw_ok (pr_X12_walk K) 176 0 0 [some (.ref 404), some (.int a1), some (.int a2), some (.int a3), some (.int a4), some (.int mo), some (.int c6), some (.int sd), some (.int o)] [.int (I 417 (o).toInt.toNat), .int (I 425 k)] (n, SH1, I, J)
        rw [oon]
        show dw_ok (pr_X12_walk K) 176 0 0 [some (.ref 404), some (.int a1), some (.int a2), some (.int a3), some (.int a4), some (.int mo), some (.int c6), some (.int sd), some (.int o)] [.int (I 417 oo), .int (I 425 k)] (n, SH1, I, J)
        rw [show I 417 oo = wa from (by rw [hfr 417 (by decide), hwa]; exact hW oo ho)]
        refine q_add rfl ?_
        show dw_ok (pr_X12_walk K) 177 0 0 [some (.ref 404), some (.int a1), some (.int a2), some (.int a3), some (.int a4), some (.int mo), some (.int c6), some (.int sd), some (.int o)] [.int ((I 425 k) + wa)] (n, SH1, I, J)
        obtain ⟨wy, hwy⟩ : ∃ z, z = ((I 425 k) + wa) := ⟨_, rfl⟩
        rw [← hwy]
        have ewy : wy.toInt = (I 425 k).toInt + wa.toInt := by rw [hwy]; exact i_add (by omega) (by omega)
        refine q_ald rfl rfl ?_
        refine q_getr rfl sk_404 sr_404_45 ?_
        refine q_ild rfl rfl ?_
        refine q_xald rfl (Or.inl rfl) sk_425 sn_425 (by omega) (by omega) ?_
        show dw_ok (pr_X12_walk K) 184 0 0 [some (.ref 404), some (.int a1), some (.int a2), some (.int a3), some (.int a4), some (.int mo), some (.int c6), some (.int sd), some (.int o)] [.int (I 425 (o).toInt.toNat), .int wy] (n, SH1, I, J)
        rw [oon]
        refine q_icmp (c := 2) rfl (by decide) (fun y5 => ?_) (fun y5 => ?_)
        · have y5 : (wy).toInt < ((I 425 oo)).toInt := y5
          refine q_ald rfl rfl ?_
          refine q_getr rfl sk_404 sr_404_45 ?_
          refine q_ild rfl rfl ?_
          refine q_ald rfl rfl ?_
          refine q_getr rfl sk_404 sr_404_45 ?_
          refine q_ild rfl rfl ?_
          refine q_xald rfl (Or.inl rfl) sk_425 sn_425 (by omega) (by omega) ?_
          show dw_ok (pr_X12_walk K) 203 0 0 [some (.ref 404), some (.int a1), some (.int a2), some (.int a3), some (.int a4), some (.int mo), some (.int c6), some (.int sd), some (.int o)] [.int (I 425 (c6).toInt.toNat), .int o, .ref 425] (n, SH1, I, J)
          rw [hcn]
          refine q_ald rfl rfl ?_
          refine q_getr rfl sk_404 sr_404_29 ?_
          refine q_ild rfl rfl ?_
          refine q_xald rfl (Or.inl rfl) sk_417 sn_417 (by omega) (by omega) ?_
          show dw_ok (pr_X12_walk K) 210 0 0 [some (.ref 404), some (.int a1), some (.int a2), some (.int a3), some (.int a4), some (.int mo), some (.int c6), some (.int sd), some (.int o)] [.int (I 417 (o).toInt.toNat), .int (I 425 k), .int o, .ref 425] (n, SH1, I, J)
          rw [oon]
          show dw_ok (pr_X12_walk K) 210 0 0 [some (.ref 404), some (.int a1), some (.int a2), some (.int a3), some (.int a4), some (.int mo), some (.int c6), some (.int sd), some (.int o)] [.int (I 417 oo), .int (I 425 k), .int o, .ref 425] (n, SH1, I, J)
          rw [show I 417 oo = wa from (by rw [hfr 417 (by decide), hwa]; exact hW oo ho)]
          refine q_add rfl ?_
          show dw_ok (pr_X12_walk K) 211 0 0 [some (.ref 404), some (.int a1), some (.int a2), some (.int a3), some (.int a4), some (.int mo), some (.int c6), some (.int sd), some (.int o)] [.int ((I 425 k) + wa), .int o, .ref 425] (n, SH1, I, J)
          rw [← hwy]
          refine q_iast rfl sk_425 sn_425 (by omega) (by omega) ?_
          show dw_ok (pr_X12_walk K) 212 0 0 [some (.ref 404), some (.int a1), some (.int a2), some (.int a3), some (.int a4), some (.int mo), some (.int c6), some (.int sd), some (.int o)] [] (n, SH1, (dw_up I 425 (o).toInt.toNat wy), J)
          rw [oon]
          refine q_ic rfl ?_
          refine q_ist rfl rfl ?_
          show dw_ok (pr_X12_walk K) 215 0 0 [some (.ref 404), some (.int a1), some (.int a2), some (.int a3), some (.int a4), some (.int (1 : Int32)), some (.int c6), some (.int sd), some (.int o)] [] (n, SH1, (dw_up I 425 oo wy), J)
          refine q_inc rfl rfl rfl ?_
          show dw_ok (pr_X12_walk K) 218 0 0 [some (.ref 404), some (.int a1), some (.int a2), some (.int a3), some (.int a4), some (.int (1 : Int32)), some (.int c6), some (.int (sd + 1)), some (.int o)] [] (n, SH1, (dw_up I 425 oo wy), J)
          show dw_ok (pr_X12_walk K) 218 0 0 [some (.ref 404), some (.int a1), some (.int a2), some (.int a3), some (.int a4), some (.int (1 : Int32)), some (.int c6), some (.int (sd + 1)), some (.int o)] [] (n, SH1, (dw_up I 425 oo wy), J)
          obtain ⟨sx, hsx⟩ : ∃ z, z = (sd + 1) := ⟨_, rfl⟩
          rw [← hsx]
          have esx : sx.toInt = ((s + 1 : Nat) : Int) := by rw [hsx]; exact ix_1 hs (by omega)
          refine q_goto rfl ?_
          have h5 := wk_up h3 ho y5 k (s + 1)
          rw [hwa] at ewy w0
          have h4 : fiP (Cn R) (Nn R) W false a (upF (I 425) oo wy) := fi_up h1 hk9 had (fun q => absurd q (by decide)) y4 w0 ewy (by omega)
          have h6 : (upF (I 425) oo wy a).toInt ≤ (W a).toInt := by
            by_cases g : a = oo
            · rw [g, upF_at]
              rw [g] at h2
              omega
            · rw [upF_ne g]
              exact h2
          exact ih (s + 1) 1 sx _ (dw_up I 425 oo wy) (by omega) esx (fun x hx => (up_row hx).trans (hfr x hx)) (by rw [upF_row]; exact h4) (by rw [upF_row]; exact h6) (by rw [upF_row]; exact h5)
        · have y5 : ((I 425 oo)).toInt ≤ (wy).toInt := y5
          refine q_goto rfl ?_
          refine q_inc rfl rfl rfl ?_
          show dw_ok (pr_X12_walk K) 218 0 0 [some (.ref 404), some (.int a1), some (.int a2), some (.int a3), some (.int a4), some (.int mo), some (.int c6), some (.int (sd + 1)), some (.int o)] [] (n, SH1, I, J)
          show dw_ok (pr_X12_walk K) 218 0 0 [some (.ref 404), some (.int a1), some (.int a2), some (.int a3), some (.int a4), some (.int mo), some (.int c6), some (.int (sd + 1)), some (.int o)] [] (n, SH1, I, J)
          obtain ⟨sx, hsx⟩ : ∃ z, z = (sd + 1) := ⟨_, rfl⟩
          rw [← hsx]
          have esx : sx.toInt = ((s + 1 : Nat) : Int) := by rw [hsx]; exact ix_1 hs (by omega)
          refine q_goto rfl ?_
          rw [hwa] at ewy
          exact ih (s + 1) mo sx _ I (by omega) esx hfr h1 h2 (wk_s h3 (fun oo2 ho2 hb2 => by rw [bs_uni hk9 ho2 ho hb2 hbs]; omega))
    · show dw_ok (pr_X12_walk K) 142 0 0 [some (.ref 404), some (.int a1), some (.int a2), some (.int a3), some (.int a4), some (.int mo), some (.int c6), some (.int sd), v8] [.int o] (n, SH1, I, J)
      refine q_ist rfl rfl ?_
      show dw_ok (pr_X12_walk K) 144 0 0 [some (.ref 404), some (.int a1), some (.int a2), some (.int a3), some (.int a4), some (.int mo), some (.int c6), some (.int sd), some (.int o)] [] (n, SH1, I, J)
      refine q_ild rfl rfl ?_
      refine q_if (c := 2) rfl (by decide) (fun y6 => ?_) (fun h => absurd (show 0 ≤ (o).toInt from h) (by omega))
      have y6 : (o).toInt < 0 := y6
      refine q_inc rfl rfl rfl ?_
      show dw_ok (pr_X12_walk K) 218 0 0 [some (.ref 404), some (.int a1), some (.int a2), some (.int a3), some (.int a4), some (.int mo), some (.int c6), some (.int (sd + 1)), some (.int o)] [] (n, SH1, I, J)
      show dw_ok (pr_X12_walk K) 218 0 0 [some (.ref 404), some (.int a1), some (.int a2), some (.int a3), some (.int a4), some (.int mo), some (.int c6), some (.int (sd + 1)), some (.int o)] [] (n, SH1, I, J)
      obtain ⟨sx, hsx⟩ : ∃ z, z = (sd + 1) := ⟨_, rfl⟩
      rw [← hsx]
      have esx : sx.toInt = ((s + 1 : Nat) : Int) := by rw [hsx]; exact ix_1 hs (by omega)
      refine q_goto rfl ?_
      exact ih (s + 1) mo sx _ I (by omega) esx hfr h1 h2 (wk_s h3 (fun o2 ho2 hb2 => absurd hb2 (hno o2 ho2)))
set_option maxRecDepth 8000 in
theorem mwc_loop {n : Nat} {J : Nat → Nat → Int64} {K : dw_K} {R W : Nat → Int32} {I0 : Nat → Nat → Int32} {a : Nat} (hR0 : I0 406 = R) (hG : GOK R) (hW : ∀ c, c < Nn R → I0 417 c = W c) (hWb : ∀ c, c < Nn R → 0 ≤ (W c).toInt ∧ (W c).toInt ≤ 200000) (ha : a < Nn R) {a1 a2 a3 a4 : Int32} {S0 : Int}
    (hk : ∀ (mo c6 : Int32) (v7 v8 : Option Value) (I : Nat → Nat → Int32), (∀ x, x ≠ 425 → I x = I0 x) → fiP (Cn R) (Nn R) W false a (I 425) → (I 425 a).toInt ≤ (W a).toInt → wkM (Cn R) (Nn R) W (I 425) mo.toInt S0 (Nn R) 0 → dw_ok (pr_X12_walk K) 105 0 0 [some (.ref 404), some (.int a1), some (.int a2), some (.int a3), some (.int a4), some (.int mo), some (.int c6), v7, v8] [] (n, SH1, I, J)) :
    ∀ (f k : Nat) (mo c6 : Int32) (v7 v8 : Option Value) (I : Nat → Nat → Int32), k + f = Nn R → c6.toInt = k → (∀ x, x ≠ 425 → I x = I0 x) → fiP (Cn R) (Nn R) W false a (I 425) → (I 425 a).toInt ≤ (W a).toInt → wkM (Cn R) (Nn R) W (I 425) mo.toInt S0 k 0 → dw_ok (pr_X12_walk K) 116 0 0 [some (.ref 404), some (.int a1), some (.int a2), some (.int a3), some (.int a4), some (.int mo), some (.int c6), v7, v8] [] (n, SH1, I, J) := by
  obtain ⟨hN, hN9⟩ := gok_N hG
  intro f
  induction f with
  | zero =>
    intro k mo c6 v7 v8 I hf hc hfr h1 h2 h3
    have ek : k = Nn R := by omega
    rw [ek] at h3
    refine q_ild rfl rfl ?_
    refine q_ald rfl rfl ?_
    refine q_callV (as := []) (rest := [.int c6]) rfl rfl sk_404 rfl (Nat.le_of_ble_eq_true rfl) ?_
    refine v_mcells ?_
    show dw_ok (pr_X12_walk K) 122 0 0 [some (.ref 404), some (.int a1), some (.int a2), some (.int a3), some (.int a4), some (.int mo), some (.int c6), v7, v8] [.int (I 406 0 * I 406 1), .int c6] (n, SH1, I, J)
    rw [show I 406 = R from (hfr 406 (by decide)).trans hR0]
    obtain ⟨nv, hnv⟩ : ∃ z, z = R 0 * R 1 := ⟨_, rfl⟩
    rw [← hnv]
    have env : nv.toInt = Nn R := by rw [hnv]; exact hN
    show dw_ok (pr_X12_walk K) 122 0 0 [some (.ref 404), some (.int a1), some (.int a2), some (.int a3), some (.int a4), some (.int mo), some (.int c6), v7, v8] [.int nv, .int c6] (n, SH1, I, J)
    refine q_icmp (c := 3) rfl (by decide) (fun y1 => ?_) (fun h => absurd (show (c6).toInt < (nv).toInt from h) (by omega))
    have y1 : (nv).toInt ≤ (c6).toInt := y1
    refine q_goto rfl ?_
    exact hk mo c6 v7 v8 I hfr h1 h2 h3
  | succ f ih =>
    intro k mo c6 v7 v8 I hf hc hfr h1 h2 h3
    refine q_ild rfl rfl ?_
    refine q_ald rfl rfl ?_
    refine q_callV (as := []) (rest := [.int c6]) rfl rfl sk_404 rfl (Nat.le_of_ble_eq_true rfl) ?_
    refine v_mcells ?_
    show dw_ok (pr_X12_walk K) 122 0 0 [some (.ref 404), some (.int a1), some (.int a2), some (.int a3), some (.int a4), some (.int mo), some (.int c6), v7, v8] [.int (I 406 0 * I 406 1), .int c6] (n, SH1, I, J)
    rw [show I 406 = R from (hfr 406 (by decide)).trans hR0]
    obtain ⟨nv, hnv⟩ : ∃ z, z = R 0 * R 1 := ⟨_, rfl⟩
    rw [← hnv]
    have env : nv.toInt = Nn R := by rw [hnv]; exact hN
    show dw_ok (pr_X12_walk K) 122 0 0 [some (.ref 404), some (.int a1), some (.int a2), some (.int a3), some (.int a4), some (.int mo), some (.int c6), v7, v8] [.int nv, .int c6] (n, SH1, I, J)
    refine q_icmp (c := 3) rfl (by decide) (fun h => absurd (show (nv).toInt ≤ (c6).toInt from h) (by omega)) (fun y2 => ?_)
    have y2 : (c6).toInt < (nv).toInt := y2
    refine q_ic rfl ?_
    refine q_ist rfl rfl ?_
    show dw_ok (pr_X12_walk K) 128 0 0 [some (.ref 404), some (.int a1), some (.int a2), some (.int a3), some (.int a4), some (.int mo), some (.int c6), some (.int (0 : Int32)), v8] [] (n, SH1, I, J)
    refine mwi_loop (I0 := I0) (a := a) hR0 hG hW hWb ha hc (by omega) (fun mo2 sd v8 I2 r2 q1 q2 q3 => ?_) 4 0 mo 0 v8 I (by decide) rfl hfr h1 h2 h3
    show dw_ok (pr_X12_walk K) 221 0 0 [some (.ref 404), some (.int a1), some (.int a2), some (.int a3), some (.int a4), some (.int mo2), some (.int c6), some (.int sd), v8] [] (n, SH1, I2, J)
    refine q_inc rfl rfl rfl ?_
    show dw_ok (pr_X12_walk K) 224 0 0 [some (.ref 404), some (.int a1), some (.int a2), some (.int a3), some (.int a4), some (.int mo2), some (.int (c6 + 1)), some (.int sd), v8] [] (n, SH1, I2, J)
    show dw_ok (pr_X12_walk K) 224 0 0 [some (.ref 404), some (.int a1), some (.int a2), some (.int a3), some (.int a4), some (.int mo2), some (.int (c6 + 1)), some (.int sd), v8] [] (n, SH1, I2, J)
    obtain ⟨cx, hcx⟩ : ∃ z, z = (c6 + 1) := ⟨_, rfl⟩
    rw [← hcx]
    have ecx : cx.toInt = ((k + 1 : Nat) : Int) := by rw [hcx]; exact ix_1 hc (by omega)
    refine q_goto rfl ?_
    exact ih (k + 1) mo2 cx _ _ I2 (by omega) ecx r2 q1 q2 (wk_k q3)
set_option maxRecDepth 8000 in
theorem mwx {n : Nat} {J : Nat → Nat → Int64} {K : dw_K} {R W : Nat → Int32} {I0 : Nat → Nat → Int32} {a : Nat} (hR0 : I0 406 = R) (hG : GOK R) (hW : ∀ c, c < Nn R → I0 417 c = W c) (hWb : ∀ c, c < Nn R → 0 ≤ (W c).toInt ∧ (W c).toInt ≤ 200000) (ha : a < Nn R) {a1 a2 a3 a4 : Int32} {mo : Int32} {v6 v7 v8 : Option Value} {I : Nat → Nat → Int32} {c : Nat} (hto : a4.toInt = c) (hc4 : c < Nn R) (hk : ∀ (w : Int32) (I : Nat → Nat → Int32), w.toInt = wyL (Cn R) (Nn R) W false a c → K (some (.int w)) (n, SH1, I, J)) (hF : fnW (Cn R) (Nn R) W false a (I 425)) (hm : mo.toInt = 0) : dw_ok (pr_X12_walk K) 105 0 0 [some (.ref 404), some (.int a1), some (.int a2), some (.int a3), some (.int a4), some (.int mo), v6, v7, v8] [] (n, SH1, I, J) := by
  have hN9 := (gok_N hG).2
  have hcn : a4.toInt.toNat = c := nat_of hto
  refine q_ild rfl rfl ?_
  refine q_if (c := 0) rfl (by decide) (fun y1 => ?_) (fun h => absurd (show (mo).toInt ≠ 0 from h) (by omega))
  have y1 : (mo).toInt = 0 := y1
  refine q_ald rfl rfl ?_
  refine q_getr rfl sk_404 sr_404_45 ?_
  refine q_ild rfl rfl ?_
  refine q_xald rfl (Or.inl rfl) sk_425 sn_425 (by omega) (by omega) ?_
  show dw_ok (pr_X12_walk K) 237 0 0 [some (.ref 404), some (.int a1), some (.int a2), some (.int a3), some (.int a4), some (.int mo), v6, v7, v8] [.int (I 425 (a4).toInt.toNat)] (n, SH1, I, J)
  rw [hcn]
  exact q_iret rfl (hk _ I (wl_of hF hc4))
set_option maxRecDepth 8000 in
theorem mwo_loop {n : Nat} {J : Nat → Nat → Int64} {K : dw_K} {R W : Nat → Int32} {I0 : Nat → Nat → Int32} {a : Nat} (hR0 : I0 406 = R) (hG : GOK R) (hW : ∀ c, c < Nn R → I0 417 c = W c) (hWb : ∀ c, c < Nn R → 0 ≤ (W c).toInt ∧ (W c).toInt ≤ 200000) (ha : a < Nn R) {a1 a2 a3 a4 : Int32} {c : Nat} (hto : a4.toInt = c) (hc4 : c < Nn R) (hk : ∀ (w : Int32) (I : Nat → Nat → Int32), w.toInt = wyL (Cn R) (Nn R) W false a c → K (some (.int w)) (n, SH1, I, J)) :
    ∀ (f : Nat) (mo : Int32) (v6 v7 v8 : Option Value) (I : Nat → Nat → Int32), (∀ x, x ≠ 425 → I x = I0 x) → fiP (Cn R) (Nn R) W false a (I 425) → (I 425 a).toInt ≤ (W a).toInt → mo.toInt = 1 → smF (I 425) (Nn R) < (f : Int) → dw_ok (pr_X12_walk K) 105 0 0 [some (.ref 404), some (.int a1), some (.int a2), some (.int a3), some (.int a4), some (.int mo), v6, v7, v8] [] (n, SH1, I, J) := by
  intro f
  induction f with
  | zero =>
    intro mo v6 v7 v8 I hfr h1 h2 hm hf
    have b0 := sm_nn (f := I 425) (Nn R) (fun c hc => (h1 c hc).1)
    exact absurd hf (by omega)
  | succ f ih =>
    intro mo v6 v7 v8 I hfr h1 h2 hm hf
    refine q_ild rfl rfl ?_
    refine q_if (c := 0) rfl (by decide) (fun h => absurd (show (mo).toInt = 0 from h) (by omega)) (fun y1 => ?_)
    have y1 : (mo).toInt ≠ 0 := y1
    refine q_ic rfl ?_
    refine q_ist rfl rfl ?_
    show dw_ok (pr_X12_walk K) 113 0 0 [some (.ref 404), some (.int a1), some (.int a2), some (.int a3), some (.int a4), some (.int (0 : Int32)), v6, v7, v8] [] (n, SH1, I, J)
    refine q_ic rfl ?_
    refine q_ist rfl rfl ?_
    show dw_ok (pr_X12_walk K) 116 0 0 [some (.ref 404), some (.int a1), some (.int a2), some (.int a3), some (.int a4), some (.int (0 : Int32)), some (.int (0 : Int32)), v7, v8] [] (n, SH1, I, J)
    refine mwc_loop (I0 := I0) (a := a) (S0 := smF (I 425) (Nn R)) hR0 hG hW hWb ha (fun mo2 c6 v7 v8 I2 r2 q1 q2 q3 => ?_) (Nn R) 0 0 0 _ _ I (Nat.zero_add _) rfl hfr h1 h2 wk_0
    rcases q3 with ⟨q4, ⟨q5, q6⟩ | ⟨q5, q6⟩⟩
    · exact ih mo2 _ _ _ I2 r2 q1 q2 q5 (by omega)
    · exact mwx hR0 hG hW hWb ha hto hc4 hk (wk_done q1 q2 q6) q5
set_option maxRecDepth 8000 in
set_option maxHeartbeats 4000000 in
theorem v_mwalk {n : Nat} {I : Nat → Nat → Int32} {J : Nat → Nat → Int64} {K : dw_K} {R : Nat → Int32} (hR : I 406 = R) (hG : GOK R) {a1 a2 a3 a4 : Int32} (hN : okS R a1 → NOK (nX R a1)) (hk : ∀ (w : Int32) (I' : Nat → Nat → Int32), w.toInt = aWalk R a1 a2 a3 a4 → K (some (.int w)) (n, SH1, I', J)) : t_X12_walk [.ref 404, .int a1, .int a2, .int a3, .int a4] (n, SH1, I, J) K := by
  have cm1 : (-1 : Int32).toInt = -1 := rfl
  have k0 : (0 : Int32).toInt = 0 := rfl
  have k1 : (1 : Int32).toInt = 1 := rfl
  have k2 : (2 : Int32).toInt = 2 := rfl
  have hN9 := (gok_N hG).2
  refine q_body (Nat.le_of_ble_eq_true rfl) ?_
  refine q_ald rfl rfl ?_
  refine q_ic rfl ?_
  refine q_puti rfl sk_404 ?_
  show dw_ok (pr_X12_walk K) 5 0 0 [some (.ref 404), some (.int a1), some (.int a2), some (.int a3), some (.int a4), none, none, none, none] [] (n, SH1, (dw_up I 404 0 (0 : Int32)), J)
  refine q_ald rfl rfl ?_
  refine q_ild rfl rfl ?_
  refine q_callV (as := [.int a1]) (rest := []) rfl rfl sk_404 rfl (Nat.le_of_ble_eq_true rfl) ?_
  obtain ⟨I1, hI1⟩ : ∃ X, X = (dw_up I 404 0 (0 : Int32)) := ⟨_, rfl⟩
  rw [← hI1]
  have eI1 : I1 406 = R := by rw [hI1]; exact ((up_row (by decide)).trans (hR))
  refine v_isNight (fun w_ oS => ?_)
  rcases oS with ⟨rfl, oS⟩ | ⟨rfl, oS⟩
  · show dw_ok (pr_X12_walk K) 10 0 0 [some (.ref 404), some (.int a1), some (.int a2), some (.int a3), some (.int a4), none, none, none, none] [.int (1 : Int32)] (n, SH1, I1, J)
    refine q_if (c := 0) rfl (by decide) (fun h => absurd (show (1 : Int) = 0 from h) (by decide)) (fun y2 => ?_)
    have y2 : (1 : Int) ≠ 0 := y2
    refine q_ild rfl rfl ?_
    refine q_callS (as := [.int a2]) (rest := []) rfl rfl rfl rfl ?_
    refine v_mIsStep (fun w_ oT => ?_)
    rcases oT with ⟨rfl, oT⟩ | ⟨rfl, oT⟩
    · show dw_ok (pr_X12_walk K) 17 0 0 [some (.ref 404), some (.int a1), some (.int a2), some (.int a3), some (.int a4), none, none, none, none] [.int (1 : Int32)] (n, SH1, I1, J)
      refine q_if (c := 0) rfl (by decide) (fun h => absurd (show (1 : Int) = 0 from h) (by decide)) (fun y3 => ?_)
      have y3 : (1 : Int) ≠ 0 := y3
      refine q_ild rfl rfl ?_
      refine q_ic rfl ?_
      refine q_ald rfl rfl ?_
      refine q_callV (as := []) (rest := [.int (0 : Int32), .int a3]) rfl rfl sk_404 rfl (Nat.le_of_ble_eq_true rfl) ?_
      refine v_mcells ?_
      show dw_ok (pr_X12_walk K) 26 0 0 [some (.ref 404), some (.int a1), some (.int a2), some (.int a3), some (.int a4), none, none, none, none] [.int (I1 406 0 * I1 406 1), .int (0 : Int32), .int a3] (n, SH1, I1, J)
      rw [show I1 406 = R from eI1]
      obtain ⟨nv4, hnv4⟩ : ∃ z, z = R 0 * R 1 := ⟨_, rfl⟩
      rw [← hnv4]
      have env4 : nv4.toInt = Nn R := by rw [hnv4]; exact (gok_N hG).1
      show dw_ok (pr_X12_walk K) 26 0 0 [some (.ref 404), some (.int a1), some (.int a2), some (.int a3), some (.int a4), none, none, none, none] [.int nv4, .int (0 : Int32), .int a3] (n, SH1, I1, J)
      refine q_ic rfl ?_
      refine q_sub rfl ?_
      show dw_ok (pr_X12_walk K) 28 0 0 [some (.ref 404), some (.int a1), some (.int a2), some (.int a3), some (.int a4), none, none, none, none] [.int (nv4 - (1 : Int32)), .int (0 : Int32), .int a3] (n, SH1, I1, J)
      obtain ⟨wnv4, hwnv4⟩ : ∃ z, z = (nv4 - (1 : Int32)) := ⟨_, rfl⟩
      rw [← hwnv4]
      have ewnv4 : wnv4.toInt = (Nn R : Int) - 1 := by rw [hwnv4]; exact (by rw [i_sub (by omega) (by omega), env4, k1])
      refine q_callS (as := [.int a3, .int (0 : Int32), .int wnv4]) (rest := []) rfl rfl rfl rfl ?_
      refine v_isIn (fun w_ oI => ?_)
      rcases oI with ⟨rfl, oI⟩ | ⟨rfl, oI⟩
      · have oI : (0 ≤ a3.toInt ∧ a3.toInt ≤ wnv4.toInt) := oI
        show dw_ok (pr_X12_walk K) 31 0 0 [some (.ref 404), some (.int a1), some (.int a2), some (.int a3), some (.int a4), none, none, none, none] [.int (1 : Int32)] (n, SH1, I1, J)
        refine q_if (c := 0) rfl (by decide) (fun h => absurd (show (1 : Int) = 0 from h) (by decide)) (fun y5 => ?_)
        have y5 : (1 : Int) ≠ 0 := y5
        refine q_ild rfl rfl ?_
        refine q_ic rfl ?_
        refine q_ald rfl rfl ?_
        refine q_callV (as := []) (rest := [.int (0 : Int32), .int a4]) rfl rfl sk_404 rfl (Nat.le_of_ble_eq_true rfl) ?_
        refine v_mcells ?_
        show dw_ok (pr_X12_walk K) 41 0 0 [some (.ref 404), some (.int a1), some (.int a2), some (.int a3), some (.int a4), none, none, none, none] [.int (I1 406 0 * I1 406 1), .int (0 : Int32), .int a4] (n, SH1, I1, J)
        rw [show I1 406 = R from eI1]
        obtain ⟨nv6, hnv6⟩ : ∃ z, z = R 0 * R 1 := ⟨_, rfl⟩
        rw [← hnv6]
        have env6 : nv6.toInt = Nn R := by rw [hnv6]; exact (gok_N hG).1
        show dw_ok (pr_X12_walk K) 41 0 0 [some (.ref 404), some (.int a1), some (.int a2), some (.int a3), some (.int a4), none, none, none, none] [.int nv6, .int (0 : Int32), .int a4] (n, SH1, I1, J)
        refine q_ic rfl ?_
        refine q_sub rfl ?_
        show dw_ok (pr_X12_walk K) 43 0 0 [some (.ref 404), some (.int a1), some (.int a2), some (.int a3), some (.int a4), none, none, none, none] [.int (nv6 - (1 : Int32)), .int (0 : Int32), .int a4] (n, SH1, I1, J)
        obtain ⟨wnv6, hwnv6⟩ : ∃ z, z = (nv6 - (1 : Int32)) := ⟨_, rfl⟩
        rw [← hwnv6]
        have ewnv6 : wnv6.toInt = (Nn R : Int) - 1 := by rw [hwnv6]; exact (by rw [i_sub (by omega) (by omega), env6, k1])
        refine q_callS (as := [.int a4, .int (0 : Int32), .int wnv6]) (rest := []) rfl rfl rfl rfl ?_
        refine v_isIn (fun w_ oJ => ?_)
        rcases oJ with ⟨rfl, oJ⟩ | ⟨rfl, oJ⟩
        · have oJ : (0 ≤ a4.toInt ∧ a4.toInt ≤ wnv6.toInt) := oJ
          show dw_ok (pr_X12_walk K) 46 0 0 [some (.ref 404), some (.int a1), some (.int a2), some (.int a3), some (.int a4), none, none, none, none] [.int (1 : Int32)] (n, SH1, I1, J)
          refine q_if (c := 1) rfl (by decide) (fun y7 => ?_) (fun h => absurd (show (1 : Int) = 0 from h) (by decide))
          have y7 : (1 : Int) ≠ 0 := y7
          refine q_ald rfl rfl ?_
          refine q_ild rfl rfl ?_
          refine q_ic rfl ?_
          refine q_ild rfl rfl ?_
          refine q_callV (as := [.int a1, .int (0 : Int32), .int a2]) (rest := []) rfl rfl sk_404 rfl (Nat.le_of_ble_eq_true rfl) ?_
          rw [eI1] at oS
          refine v_through (st := 0) eI1 hG oS (hN oS) rfl ⟨oT.1, by have := oT.2; omega⟩ (fun I9 e9 q9 => ?_)
          show dw_ok (pr_X12_walk K) 58 0 0 [some (.ref 404), some (.int a1), some (.int a2), some (.int a3), some (.int a4), none, none, none, none] [] (n, SH1, I9, J)
          refine q_ic rfl ?_
          refine q_ist rfl rfl ?_
          show dw_ok (pr_X12_walk K) 61 0 0 [some (.ref 404), some (.int a1), some (.int a2), some (.int a3), some (.int a4), some (.int (0 : Int32)), none, none, none] [] (n, SH1, I9, J)
          have oT2 : okT a2 := ⟨oT.1, by have := oT.2; omega⟩
          obtain ⟨t0, t9⟩ := id oT2
          have hWb : ∀ c, c < Nn R → 0 ≤ ((runW R (nX R a1) 0 (a2.toInt.toNat + 1)).2.1 c).toInt ∧ ((runW R (nX R a1) 0 (a2.toInt.toNat + 1)).2.1 c).toInt ≤ 200000 := fun c hc => wW_b hG (hN oS) (by omega) hc
          have oA : okNo R a3 := ⟨oI.1, by have := oI.2; omega⟩
          have oB : okNo R a4 := ⟨oJ.1, by have := oJ.2; omega⟩
          obtain ⟨p1, p2⟩ := id oA
          obtain ⟨p3, p4⟩ := id oB
          have p5 : a3.toInt.toNat < Nn R := by omega
          have hN9 := (gok_N hG).2
          refine mw0_loop (I0 := I9) (a := a3.toInt.toNat) (W := (runW R (nX R a1) 0 (a2.toInt.toNat + 1)).2.1) e9 hG (fun c hc => q9.2.1 c hc) hWb p5 (by omega) (fun c I1 r1 z1 => ?_) (Nn R) 0 0 I9 (Nat.zero_add _) rfl (fun _ _ => rfl) (fun j hj => absurd hj (Nat.not_lt_zero j))
          show dw_ok (pr_X12_walk K) 102 0 0 [some (.ref 404), some (.int a1), some (.int a2), some (.int a3), some (.int a4), some (.int c), none, none, none] [] (n, SH1, I1, J)
          refine q_ic rfl ?_
          refine q_ist rfl rfl ?_
          show dw_ok (pr_X12_walk K) 105 0 0 [some (.ref 404), some (.int a1), some (.int a2), some (.int a3), some (.int a4), some (.int (1 : Int32)), none, none, none] [] (n, SH1, I1, J)
          obtain ⟨i1, i2⟩ := in_ok (C := Cn R) (b := false) p5 hWb z1
          have i3 : (I1 425 a3.toInt.toNat).toInt ≤ ((runW R (nX R a1) 0 (a2.toInt.toNat + 1)).2.1 a3.toInt.toNat).toInt := by
            rw [z1 _ p5, in_y rfl]
            exact Int.le_refl _
          have i0 := sm_nn (f := I1 425) (Nn R) (fun c hc => (i1 c hc).1)
          refine mwo_loop (I0 := I9) (a := a3.toInt.toNat) (c := a4.toInt.toNat) (W := (runW R (nX R a1) 0 (a2.toInt.toNat + 1)).2.1) e9 hG (fun c hc => q9.2.1 c hc) hWb p5 (by omega) (by omega) (fun w I2 hw => ?_) ((smF (I1 425) (Nn R)).toNat + 1) 1 _ _ _ I1 r1 i1 i3 rfl (by omega)
          exact hk w I2 (hw.trans (walk_y ⟨oS, oT2, oA, oB⟩).symm)
        · have oJ : ¬ (0 ≤ a4.toInt ∧ a4.toInt ≤ wnv6.toInt) := oJ
          show dw_ok (pr_X12_walk K) 46 0 0 [some (.ref 404), some (.int a1), some (.int a2), some (.int a3), some (.int a4), none, none, none, none] [.int (0 : Int32)] (n, SH1, I1, J)
          refine q_if (c := 1) rfl (by decide) (fun h => absurd (show (0 : Int) ≠ 0 from h) (by decide)) (fun y8 => ?_)
          have y8 : (0 : Int) = 0 := y8
          refine q_ic rfl ?_
          exact q_iret rfl (hk _ _ (cm1.trans (walk_n (fun q => oJ ⟨q.2.2.2.1, by have := q.2.2.2.2; omega⟩)).symm))
      · have oI : ¬ (0 ≤ a3.toInt ∧ a3.toInt ≤ wnv4.toInt) := oI
        show dw_ok (pr_X12_walk K) 31 0 0 [some (.ref 404), some (.int a1), some (.int a2), some (.int a3), some (.int a4), none, none, none, none] [.int (0 : Int32)] (n, SH1, I1, J)
        refine q_if (c := 0) rfl (by decide) (fun y9 => ?_) (fun h => absurd (show (0 : Int) ≠ 0 from h) (by decide))
        have y9 : (0 : Int) = 0 := y9
        refine q_ic rfl ?_
        exact q_iret rfl (hk _ _ (cm1.trans (walk_n (fun q => oI ⟨q.2.2.1.1, by have := q.2.2.1.2; omega⟩)).symm))
    · show dw_ok (pr_X12_walk K) 17 0 0 [some (.ref 404), some (.int a1), some (.int a2), some (.int a3), some (.int a4), none, none, none, none] [.int (0 : Int32)] (n, SH1, I1, J)
      refine q_if (c := 0) rfl (by decide) (fun y10 => ?_) (fun h => absurd (show (0 : Int) ≠ 0 from h) (by decide))
      have y10 : (0 : Int) = 0 := y10
      refine q_ic rfl ?_
      exact q_iret rfl (hk _ _ (cm1.trans (walk_n (fun q => oT ⟨q.2.1.1, by have := q.2.1.2; omega⟩)).symm))
  · show dw_ok (pr_X12_walk K) 10 0 0 [some (.ref 404), some (.int a1), some (.int a2), some (.int a3), some (.int a4), none, none, none, none] [.int (0 : Int32)] (n, SH1, I1, J)
    refine q_if (c := 0) rfl (by decide) (fun y11 => ?_) (fun h => absurd (show (0 : Int) ≠ 0 from h) (by decide))
    have y11 : (0 : Int) = 0 := y11
    refine q_ic rfl ?_
    exact q_iret rfl (hk _ _ (cm1.trans (walk_n (fun q => by rw [eI1] at oS; exact oS q.1)).symm))
end
