section
/-! ===== tries ===== -/
set_option maxRecDepth 8000 in
theorem bt_dec : (List.range 256).all (fun s => (List.range 8).all (fun i => decide (((Int32.ofNat s >>> (Int32.ofNat i &&& 31)) &&& 1) = if Nat.testBit s i = true then 1 else 0))) = true := by decide +kernel
set_option maxRecDepth 8000 in
theorem p2_dec : (List.range 9).all (fun m => decide (((1 : Int32) <<< (Int32.ofNat m &&& 31)).toInt = ((2 ^ m : Nat) : Int))) = true := by decide +kernel
set_option maxRecDepth 8000 in
theorem bt_i {set i : Int32} {s k : Nat} (hs : set.toInt = s) (h : s < 256) (hi : i.toInt = k) (hk : k < 8) : ((set >>> (i &&& 31)) &&& 1) = if Nat.testBit s k = true then 1 else 0 := by
  rw [of_nat hs (by omega), of_nat hi (by omega)]
  exact of_decide_eq_true (List.all_eq_true.mp (List.all_eq_true.mp bt_dec s (List.mem_range.mpr h)) k (List.mem_range.mpr hk))
set_option maxRecDepth 8000 in
theorem p2_i {c : Int32} {m : Nat} (hc : c.toInt = m) (hm : m ≤ 8) : ((1 : Int32) <<< (c &&& 31)).toInt = ((2 ^ m : Nat) : Int) := by
  rw [of_nat hc (by omega)]
  exact of_decide_eq_true (List.all_eq_true.mp p2_dec m (List.mem_range.mpr (by omega)))
set_option maxRecDepth 8000 in
theorem p2_b {m : Nat} (hm : m ≤ 8) : 2 ^ m ≤ 256 := Nat.pow_le_pow_right (n := 2) (by decide) hm
/-- a CELL of the set where A and B part -/
def pxF (A B : Nat → Int32) (s : Nat) : Nat → Bool
  | 0 => false
  | k + 1 => pxF A B s k || (Nat.testBit s k && decide (A k ≠ B k))
def cnF2 (s : Nat) : Nat → Nat
  | 0 => 0
  | k + 1 => cnF2 s k + (if Nat.testBit s k = true then 1 else 0)
set_option maxRecDepth 8000 in
theorem px_y {A B : Nat → Int32} {s k : Nat} (h : Nat.testBit s k = true) (g : A k ≠ B k) : pxF A B s (k + 1) = true := by
  show (pxF A B s k || (Nat.testBit s k && decide (A k ≠ B k))) = true
  rw [h, decide_eq_true g, Bool.and_self, Bool.or_true]
set_option maxRecDepth 8000 in
theorem px_n0 {A B : Nat → Int32} {s k : Nat} (h : Nat.testBit s k = false) : pxF A B s (k + 1) = pxF A B s k := by
  show (pxF A B s k || (Nat.testBit s k && decide (A k ≠ B k))) = _
  rw [h, Bool.false_and, Bool.or_false]
set_option maxRecDepth 8000 in
theorem px_n1 {A B : Nat → Int32} {s k : Nat} (h : A k = B k) : pxF A B s (k + 1) = pxF A B s k := by
  show (pxF A B s k || (Nat.testBit s k && decide (A k ≠ B k))) = _
  rw [decide_eq_false (fun q => q h), Bool.and_false, Bool.or_false]
set_option maxRecDepth 8000 in
theorem px_up {A B : Nat → Int32} {s k : Nat} (h : pxF A B s k = true) : ∀ j : Nat, pxF A B s (k + j) = true
  | 0 => h
  | j + 1 => by
    show (pxF A B s (k + j) || _) = true
    rw [px_up h j, Bool.true_or]
set_option maxRecDepth 8000 in
theorem px_eq {A B A' B' : Nat → Int32} {s : Nat} : ∀ m : Nat, (∀ i, i < m → A i = A' i ∧ B i = B' i) → pxF A B s m = pxF A' B' s m
  | 0, _ => rfl
  | m + 1, h => by
    show (pxF A B s m || (Nat.testBit s m && decide (A m ≠ B m))) = (pxF A' B' s m || (Nat.testBit s m && decide (A' m ≠ B' m)))
    rw [px_eq m (fun i hi => h i (by omega)), (h m (by omega)).1, (h m (by omega)).2]
set_option maxRecDepth 8000 in
theorem tb_0 {s m i : Nat} (h : s < 2 ^ m) (hi : m ≤ i) : Nat.testBit s i = false := Nat.testBit_lt_two_pow (Nat.lt_of_lt_of_le h (Nat.pow_le_pow_right (by decide) hi))
set_option maxRecDepth 8000 in
theorem px_cut {A B : Nat → Int32} {s m : Nat} (h : s < 2 ^ m) : ∀ j : Nat, pxF A B s (m + j) = pxF A B s m
  | 0 => rfl
  | j + 1 => by
    show pxF A B s (m + j + 1) = _
    rw [px_n0 (tb_0 h (by omega)), px_cut h j]
set_option maxRecDepth 8000 in
theorem cn_cut {s m : Nat} (h : s < 2 ^ m) : ∀ j : Nat, cnF2 s (m + j) = cnF2 s m
  | 0 => rfl
  | j + 1 => by
    show cnF2 s (m + j) + (if Nat.testBit s (m + j) = true then 1 else 0) = _
    rw [tb_0 h (by omega), if_neg (by decide), cn_cut h j]
    rfl
set_option maxRecDepth 8000 in
theorem cn2_le {s : Nat} : ∀ m : Nat, cnF2 s m ≤ m
  | 0 => Nat.le_refl 0
  | m + 1 => by
    have := cn2_le (s := s) m
    show cnF2 s m + (if Nat.testBit s m = true then 1 else 0) ≤ m + 1
    by_cases h : Nat.testBit s m = true
    · rw [if_pos h]; omega
    · rw [if_neg h]; omega
set_option maxRecDepth 8000 in
theorem px_0 {A B : Nat → Int32} : ∀ m : Nat, pxF A B 0 m = false
  | 0 => rfl
  | m + 1 => by rw [px_n0 (Nat.zero_testBit m), px_0 m]
/-- a set that parts all three -/
def ptA (A0 A1 A2 : Nat → Int32) (m s : Nat) : Bool := pxF A0 A1 s m && (pxF A0 A2 s m && pxF A1 A2 s m)
/-- the best below s, and how many CELLS it has -/
def bsF (A0 A1 A2 : Nat → Int32) (m : Nat) : Nat → Int × Nat
  | 0 => (-1, 9)
  | s + 1 => if ptA A0 A1 A2 m s = true ∧ cnF2 s m < (bsF A0 A1 A2 m s).2 then ((s : Int), cnF2 s m) else bsF A0 A1 A2 m s
set_option maxRecDepth 8000 in
theorem bs_y {A0 A1 A2 : Nat → Int32} {m s : Nat} (h : ptA A0 A1 A2 m s = true ∧ cnF2 s m < (bsF A0 A1 A2 m s).2) : bsF A0 A1 A2 m (s + 1) = ((s : Int), cnF2 s m) := if_pos h
set_option maxRecDepth 8000 in
theorem bs_n {A0 A1 A2 : Nat → Int32} {m s : Nat} (h : ¬ (ptA A0 A1 A2 m s = true ∧ cnF2 s m < (bsF A0 A1 A2 m s).2)) : bsF A0 A1 A2 m (s + 1) = bsF A0 A1 A2 m s := if_neg h
set_option maxRecDepth 8000 in
theorem bs_i {A0 A1 A2 : Nat → Int32} {m : Nat} : ∀ s : Nat, bsF A0 A1 A2 m s = (-1, 9) ∨ ∃ q : Nat, q < s ∧ bsF A0 A1 A2 m s = ((q : Int), cnF2 q m)
  | 0 => Or.inl rfl
  | s + 1 => by
    by_cases h : ptA A0 A1 A2 m s = true ∧ cnF2 s m < (bsF A0 A1 A2 m s).2
    · exact Or.inr ⟨s, by omega, bs_y h⟩
    · rw [bs_n h]
      rcases bs_i (A0 := A0) (A1 := A1) (A2 := A2) (m := m) s with e | ⟨q, hq, e⟩
      · exact Or.inl e
      · exact Or.inr ⟨q, by omega, e⟩
set_option maxRecDepth 8000 in
theorem pt_0 {A0 A1 A2 : Nat → Int32} {m : Nat} : ptA A0 A1 A2 m 0 = false := by
  unfold ptA
  rw [px_0, Bool.false_and]
def usr (x y : Int32) : Int32 := (x.toUInt32 >>> (y.toUInt32 &&& Int32.toUInt32 31)).toInt32
def bcF (x : Int32) : Int32 :=
  let a := x - (usr x 1 &&& 1431655765)
  let b := (a &&& 858993459) + (usr a 2 &&& 858993459)
  let c := (b + usr b 4) &&& 252645135
  let d := c + usr c 8
  let e := d + usr d 16
  e &&& 63
set_option maxRecDepth 8000 in
theorem bc_dec : (List.range 256).all (fun s => decide ((bcF (Int32.ofNat s)).toInt = ((cnF2 s 8 : Nat) : Int))) = true := by decide +kernel
set_option maxRecDepth 8000 in
theorem bc_i {x : Int32} {s : Nat} (hs : x.toInt = s) (h : s < 256) : (bcF x).toInt = ((cnF2 s 8 : Nat) : Int) := by
  rw [of_nat hs (by omega)]
  exact of_decide_eq_true (List.all_eq_true.mp bc_dec s (List.mem_range.mpr h))
set_option maxRecDepth 8000 in
theorem v_bitC {n : Nat} {I : Nat → Nat → Int32} {J : Nat → Nat → Int64} {K : dw_K} {x : Int32} (hk : K (some (.int (bcF x))) (n, SH1, I, J)) : t_J6_bitCount_0f7a4 [.int x] (n, SH1, I, J) K := by
  refine q_body (Nat.le_of_ble_eq_true rfl) ?_
  refine q_ild rfl rfl ?_
  refine q_ild rfl rfl ?_
  refine q_ic rfl ?_
  refine q_iushr rfl ?_
  refine q_ic rfl ?_
  refine q_and rfl ?_
  refine q_sub rfl ?_
  refine q_ist rfl rfl ?_
  refine q_ild rfl rfl ?_
  refine q_ic rfl ?_
  refine q_and rfl ?_
  refine q_ild rfl rfl ?_
  refine q_ic rfl ?_
  refine q_iushr rfl ?_
  refine q_ic rfl ?_
  refine q_and rfl ?_
  refine q_add rfl ?_
  refine q_ist rfl rfl ?_
  refine q_ild rfl rfl ?_
  refine q_ild rfl rfl ?_
  refine q_ic rfl ?_
  refine q_iushr rfl ?_
  refine q_add rfl ?_
  refine q_ic rfl ?_
  refine q_and rfl ?_
  refine q_ist rfl rfl ?_
  refine q_ild rfl rfl ?_
  refine q_ild rfl rfl ?_
  refine q_ic rfl ?_
  refine q_iushr rfl ?_
  refine q_add rfl ?_
  refine q_ist rfl rfl ?_
  refine q_ild rfl rfl ?_
  refine q_ild rfl rfl ?_
  refine q_ic rfl ?_
  refine q_iushr rfl ?_
  refine q_add rfl ?_
  refine q_ist rfl rfl ?_
  refine q_ild rfl rfl ?_
  refine q_ic rfl ?_
  refine q_and rfl ?_
  exact q_iret rfl hk
set_option maxRecDepth 8000 in
theorem prt_loop_01 {n : Nat} {I : Nat → Nat → Int32} {J : Nat → Nat → Int64} {K : dw_K} {set : Int32} {s : Nat} (hs : set.toInt = s) (hs9 : s < 256) (hk : ∀ w : Int32, (w = 1 ∧ pxF (I 205) (I 206) s 8 = true) ∨ (w = 0 ∧ pxF (I 205) (I 206) s 8 = false) → K (some (.int w)) (n, SH1, I, J)) :
    ∀ (f k : Nat) (i : Int32), k + f = 8 → i.toInt = k → pxF (I 205) (I 206) s k = false → dw_ok (pr_X11_parts K) 3 0 0 [some (.ref 0), some (.int set), some (.int 0), some (.int 1), some (.int i)] [] (n, SH1, I, J) := by
  have k1 : (1 : Int32).toInt = 1 := rfl
  have k0 : (0 : Int32).toInt = 0 := rfl
  intro f
  induction f with
  | zero =>
    intro k i hf hi hp
    obtain rfl : k = 8 := by omega
    refine q_ild rfl rfl ?_
    refine q_ic rfl ?_
    refine q_icmp (c := 3) rfl (by decide) (fun y1 => ?_) (fun h => absurd (show (i).toInt < (8 : Int) from h) (by omega))
    have y1 : (8 : Int) ≤ (i).toInt := y1
    refine q_ic rfl ?_
    exact q_zret rfl (Or.inl rfl) (hk 0 (Or.inr ⟨rfl, hp⟩))
  | succ f ih =>
    intro k i hf hi hp
    have hin : i.toInt.toNat = k := by omega
    refine q_ild rfl rfl ?_
    refine q_ic rfl ?_
    refine q_icmp (c := 3) rfl (by decide) (fun h => absurd (show (8 : Int) ≤ (i).toInt from h) (by omega)) (fun y2 => ?_)
    have y2 : (i).toInt < (8 : Int) := y2
    refine q_ild rfl rfl ?_
    refine q_ild rfl rfl ?_
    refine q_ishr rfl ?_
    refine q_ic rfl ?_
    refine q_and rfl ?_
    show dw_ok (pr_X11_parts K) 16 0 0 [some (.ref 0), some (.int set), some (.int (0 : Int32)), some (.int (1 : Int32)), some (.int i)] [.int ((set >>> (i &&& 31)) &&& (1 : Int32))] (n, SH1, I, J)
    have eb : ((set >>> (i &&& 31)) &&& (1 : Int32)) = (if Nat.testBit s k = true then 1 else 0) := bt_i hs hs9 hi (by omega)
    obtain ⟨bw, hbw⟩ : ∃ z, z = ((set >>> (i &&& 31)) &&& (1 : Int32)) := ⟨_, rfl⟩
    rw [← hbw] at eb ⊢
    refine q_ic rfl ?_
    refine q_icmp (c := 1) rfl (by decide) (fun y3 => ?_) (fun y3 => ?_)
    · have y3 : (bw).toInt ≠ (1 : Int) := y3
      refine q_inc rfl rfl rfl ?_
      show dw_ok (pr_X11_parts K) 46 0 0 [some (.ref 0), some (.int set), some (.int (0 : Int32)), some (.int (1 : Int32)), some (.int (i + 1))] [] (n, SH1, I, J)
      show dw_ok (pr_X11_parts K) 46 0 0 [some (.ref 0), some (.int set), some (.int (0 : Int32)), some (.int (1 : Int32)), some (.int (i + 1))] [] (n, SH1, I, J)
      obtain ⟨ix, hix⟩ : ∃ z, z = (i + 1) := ⟨_, rfl⟩
      rw [← hix]
      have eix : ix.toInt = ((k + 1 : Nat) : Int) := by rw [hix]; exact ix_1 hi (by omega)
      refine q_goto rfl ?_
      exact ih (k + 1) ix (by omega) eix (by
        rw [px_n0 (by
          cases hb : Nat.testBit s k with
          | false => rfl
          | true => rw [hb, if_pos rfl] at eb; exact absurd (show bw.toInt = 1 by rw [eb]; rfl) y3)]; exact hp)
    · have y3 : (bw).toInt = (1 : Int) := y3
      refine q_ald rfl rfl ?_
      refine q_getr rfl sk_0 sr_0_11 ?_
      refine q_ild rfl rfl ?_
      refine q_xaldr rfl sk_204 sn_204 (by decide) (by decide) sr_204_0 ?_
      refine q_ild rfl rfl ?_
      refine q_xald rfl (Or.inl rfl) sk_205 sn_205 (by omega) (by omega) ?_
      show dw_ok (pr_X11_parts K) 29 0 0 [some (.ref 0), some (.int set), some (.int (0 : Int32)), some (.int (1 : Int32)), some (.int i)] [.int (I 205 (i).toInt.toNat)] (n, SH1, I, J)
      rw [hin]
      refine q_ald rfl rfl ?_
      refine q_getr rfl sk_0 sr_0_11 ?_
      refine q_ild rfl rfl ?_
      refine q_xaldr rfl sk_204 sn_204 (by decide) (by decide) sr_204_1 ?_
      refine q_ild rfl rfl ?_
      refine q_xald rfl (Or.inl rfl) sk_206 sn_206 (by omega) (by omega) ?_
      show dw_ok (pr_X11_parts K) 38 0 0 [some (.ref 0), some (.int set), some (.int (0 : Int32)), some (.int (1 : Int32)), some (.int i)] [.int (I 206 (i).toInt.toNat), .int (I 205 k)] (n, SH1, I, J)
      rw [hin]
      refine q_icmp (c := 0) rfl (by decide) (fun y4 => ?_) (fun y4 => ?_)
      · have y4 : ((I 205 k)).toInt = ((I 206 k)).toInt := y4
        refine q_inc rfl rfl rfl ?_
        show dw_ok (pr_X11_parts K) 46 0 0 [some (.ref 0), some (.int set), some (.int (0 : Int32)), some (.int (1 : Int32)), some (.int (i + 1))] [] (n, SH1, I, J)
        show dw_ok (pr_X11_parts K) 46 0 0 [some (.ref 0), some (.int set), some (.int (0 : Int32)), some (.int (1 : Int32)), some (.int (i + 1))] [] (n, SH1, I, J)
        obtain ⟨ix, hix⟩ : ∃ z, z = (i + 1) := ⟨_, rfl⟩
        rw [← hix]
        have eix : ix.toInt = ((k + 1 : Nat) : Int) := by rw [hix]; exact ix_1 hi (by omega)
        refine q_goto rfl ?_
        exact ih (k + 1) ix (by omega) eix (by
          rw [px_n1 (i_eq y4)]; exact hp)
      · have y4 : ((I 205 k)).toInt ≠ ((I 206 k)).toInt := y4
        refine q_ic rfl ?_
        have hb : Nat.testBit s k = true := by
          cases hb : Nat.testBit s k with
          | true => rfl
          | false => rw [hb, if_neg (by decide)] at eb; exact absurd (show bw.toInt = 0 by rw [eb]; rfl) (by omega)
        have hy : pxF (I 205) (I 206) s 8 = true := by
          have q := px_up (px_y (A := (I 205)) (B := (I 206)) hb (fun e => y4 (by rw [e]))) f
          rw [show k + 1 + f = 8 by omega] at q
          exact q
        exact q_zret rfl (Or.inr rfl) (hk 1 (Or.inl ⟨rfl, hy⟩))
set_option maxRecDepth 8000 in
theorem v_parts01 {n : Nat} {I : Nat → Nat → Int32} {J : Nat → Nat → Int64} {K : dw_K} {set : Int32} {s : Nat} (hs : set.toInt = s) (hs9 : s < 256) (hk : ∀ w : Int32, (w = 1 ∧ pxF (I 205) (I 206) s 8 = true) ∨ (w = 0 ∧ pxF (I 205) (I 206) s 8 = false) → K (some (.int w)) (n, SH1, I, J)) : t_X11_parts [.ref 0, .int set, .int 0, .int 1] (n, SH1, I, J) K := by
  refine q_body (Nat.le_of_ble_eq_true rfl) ?_
  refine q_ic rfl ?_
  refine q_ist rfl rfl ?_
  exact prt_loop_01 hs hs9 hk 8 0 0 rfl rfl rfl
set_option maxRecDepth 8000 in
theorem prt_loop_02 {n : Nat} {I : Nat → Nat → Int32} {J : Nat → Nat → Int64} {K : dw_K} {set : Int32} {s : Nat} (hs : set.toInt = s) (hs9 : s < 256) (hk : ∀ w : Int32, (w = 1 ∧ pxF (I 205) (I 207) s 8 = true) ∨ (w = 0 ∧ pxF (I 205) (I 207) s 8 = false) → K (some (.int w)) (n, SH1, I, J)) :
    ∀ (f k : Nat) (i : Int32), k + f = 8 → i.toInt = k → pxF (I 205) (I 207) s k = false → dw_ok (pr_X11_parts K) 3 0 0 [some (.ref 0), some (.int set), some (.int 0), some (.int 2), some (.int i)] [] (n, SH1, I, J) := by
  have k1 : (1 : Int32).toInt = 1 := rfl
  have k0 : (0 : Int32).toInt = 0 := rfl
  intro f
  induction f with
  | zero =>
    intro k i hf hi hp
    obtain rfl : k = 8 := by omega
    refine q_ild rfl rfl ?_
    refine q_ic rfl ?_
    refine q_icmp (c := 3) rfl (by decide) (fun y1 => ?_) (fun h => absurd (show (i).toInt < (8 : Int) from h) (by omega))
    have y1 : (8 : Int) ≤ (i).toInt := y1
    refine q_ic rfl ?_
    exact q_zret rfl (Or.inl rfl) (hk 0 (Or.inr ⟨rfl, hp⟩))
  | succ f ih =>
    intro k i hf hi hp
    have hin : i.toInt.toNat = k := by omega
    refine q_ild rfl rfl ?_
    refine q_ic rfl ?_
    refine q_icmp (c := 3) rfl (by decide) (fun h => absurd (show (8 : Int) ≤ (i).toInt from h) (by omega)) (fun y2 => ?_)
    have y2 : (i).toInt < (8 : Int) := y2
    refine q_ild rfl rfl ?_
    refine q_ild rfl rfl ?_
    refine q_ishr rfl ?_
    refine q_ic rfl ?_
    refine q_and rfl ?_
    show dw_ok (pr_X11_parts K) 16 0 0 [some (.ref 0), some (.int set), some (.int (0 : Int32)), some (.int (2 : Int32)), some (.int i)] [.int ((set >>> (i &&& 31)) &&& (1 : Int32))] (n, SH1, I, J)
    have eb : ((set >>> (i &&& 31)) &&& (1 : Int32)) = (if Nat.testBit s k = true then 1 else 0) := bt_i hs hs9 hi (by omega)
    obtain ⟨bw, hbw⟩ : ∃ z, z = ((set >>> (i &&& 31)) &&& (1 : Int32)) := ⟨_, rfl⟩
    rw [← hbw] at eb ⊢
    refine q_ic rfl ?_
    refine q_icmp (c := 1) rfl (by decide) (fun y3 => ?_) (fun y3 => ?_)
    · have y3 : (bw).toInt ≠ (1 : Int) := y3
      refine q_inc rfl rfl rfl ?_
      show dw_ok (pr_X11_parts K) 46 0 0 [some (.ref 0), some (.int set), some (.int (0 : Int32)), some (.int (2 : Int32)), some (.int (i + 1))] [] (n, SH1, I, J)
      show dw_ok (pr_X11_parts K) 46 0 0 [some (.ref 0), some (.int set), some (.int (0 : Int32)), some (.int (2 : Int32)), some (.int (i + 1))] [] (n, SH1, I, J)
      obtain ⟨ix, hix⟩ : ∃ z, z = (i + 1) := ⟨_, rfl⟩
      rw [← hix]
      have eix : ix.toInt = ((k + 1 : Nat) : Int) := by rw [hix]; exact ix_1 hi (by omega)
      refine q_goto rfl ?_
      exact ih (k + 1) ix (by omega) eix (by
        rw [px_n0 (by
          cases hb : Nat.testBit s k with
          | false => rfl
          | true => rw [hb, if_pos rfl] at eb; exact absurd (show bw.toInt = 1 by rw [eb]; rfl) y3)]; exact hp)
    · have y3 : (bw).toInt = (1 : Int) := y3
      refine q_ald rfl rfl ?_
      refine q_getr rfl sk_0 sr_0_11 ?_
      refine q_ild rfl rfl ?_
      refine q_xaldr rfl sk_204 sn_204 (by decide) (by decide) sr_204_0 ?_
      refine q_ild rfl rfl ?_
      refine q_xald rfl (Or.inl rfl) sk_205 sn_205 (by omega) (by omega) ?_
      show dw_ok (pr_X11_parts K) 29 0 0 [some (.ref 0), some (.int set), some (.int (0 : Int32)), some (.int (2 : Int32)), some (.int i)] [.int (I 205 (i).toInt.toNat)] (n, SH1, I, J)
      rw [hin]
      refine q_ald rfl rfl ?_
      refine q_getr rfl sk_0 sr_0_11 ?_
      refine q_ild rfl rfl ?_
      refine q_xaldr rfl sk_204 sn_204 (by decide) (by decide) sr_204_2 ?_
      refine q_ild rfl rfl ?_
      refine q_xald rfl (Or.inl rfl) sk_207 sn_207 (by omega) (by omega) ?_
      show dw_ok (pr_X11_parts K) 38 0 0 [some (.ref 0), some (.int set), some (.int (0 : Int32)), some (.int (2 : Int32)), some (.int i)] [.int (I 207 (i).toInt.toNat), .int (I 205 k)] (n, SH1, I, J)
      rw [hin]
      refine q_icmp (c := 0) rfl (by decide) (fun y4 => ?_) (fun y4 => ?_)
      · have y4 : ((I 205 k)).toInt = ((I 207 k)).toInt := y4
        refine q_inc rfl rfl rfl ?_
        show dw_ok (pr_X11_parts K) 46 0 0 [some (.ref 0), some (.int set), some (.int (0 : Int32)), some (.int (2 : Int32)), some (.int (i + 1))] [] (n, SH1, I, J)
        show dw_ok (pr_X11_parts K) 46 0 0 [some (.ref 0), some (.int set), some (.int (0 : Int32)), some (.int (2 : Int32)), some (.int (i + 1))] [] (n, SH1, I, J)
        obtain ⟨ix, hix⟩ : ∃ z, z = (i + 1) := ⟨_, rfl⟩
        rw [← hix]
        have eix : ix.toInt = ((k + 1 : Nat) : Int) := by rw [hix]; exact ix_1 hi (by omega)
        refine q_goto rfl ?_
        exact ih (k + 1) ix (by omega) eix (by
          rw [px_n1 (i_eq y4)]; exact hp)
      · have y4 : ((I 205 k)).toInt ≠ ((I 207 k)).toInt := y4
        refine q_ic rfl ?_
        have hb : Nat.testBit s k = true := by
          cases hb : Nat.testBit s k with
          | true => rfl
          | false => rw [hb, if_neg (by decide)] at eb; exact absurd (show bw.toInt = 0 by rw [eb]; rfl) (by omega)
        have hy : pxF (I 205) (I 207) s 8 = true := by
          have q := px_up (px_y (A := (I 205)) (B := (I 207)) hb (fun e => y4 (by rw [e]))) f
          rw [show k + 1 + f = 8 by omega] at q
          exact q
        exact q_zret rfl (Or.inr rfl) (hk 1 (Or.inl ⟨rfl, hy⟩))
set_option maxRecDepth 8000 in
theorem v_parts02 {n : Nat} {I : Nat → Nat → Int32} {J : Nat → Nat → Int64} {K : dw_K} {set : Int32} {s : Nat} (hs : set.toInt = s) (hs9 : s < 256) (hk : ∀ w : Int32, (w = 1 ∧ pxF (I 205) (I 207) s 8 = true) ∨ (w = 0 ∧ pxF (I 205) (I 207) s 8 = false) → K (some (.int w)) (n, SH1, I, J)) : t_X11_parts [.ref 0, .int set, .int 0, .int 2] (n, SH1, I, J) K := by
  refine q_body (Nat.le_of_ble_eq_true rfl) ?_
  refine q_ic rfl ?_
  refine q_ist rfl rfl ?_
  exact prt_loop_02 hs hs9 hk 8 0 0 rfl rfl rfl
set_option maxRecDepth 8000 in
theorem prt_loop_12 {n : Nat} {I : Nat → Nat → Int32} {J : Nat → Nat → Int64} {K : dw_K} {set : Int32} {s : Nat} (hs : set.toInt = s) (hs9 : s < 256) (hk : ∀ w : Int32, (w = 1 ∧ pxF (I 206) (I 207) s 8 = true) ∨ (w = 0 ∧ pxF (I 206) (I 207) s 8 = false) → K (some (.int w)) (n, SH1, I, J)) :
    ∀ (f k : Nat) (i : Int32), k + f = 8 → i.toInt = k → pxF (I 206) (I 207) s k = false → dw_ok (pr_X11_parts K) 3 0 0 [some (.ref 0), some (.int set), some (.int 1), some (.int 2), some (.int i)] [] (n, SH1, I, J) := by
  have k1 : (1 : Int32).toInt = 1 := rfl
  have k0 : (0 : Int32).toInt = 0 := rfl
  intro f
  induction f with
  | zero =>
    intro k i hf hi hp
    obtain rfl : k = 8 := by omega
    refine q_ild rfl rfl ?_
    refine q_ic rfl ?_
    refine q_icmp (c := 3) rfl (by decide) (fun y1 => ?_) (fun h => absurd (show (i).toInt < (8 : Int) from h) (by omega))
    have y1 : (8 : Int) ≤ (i).toInt := y1
    refine q_ic rfl ?_
    exact q_zret rfl (Or.inl rfl) (hk 0 (Or.inr ⟨rfl, hp⟩))
  | succ f ih =>
    intro k i hf hi hp
    have hin : i.toInt.toNat = k := by omega
    refine q_ild rfl rfl ?_
    refine q_ic rfl ?_
    refine q_icmp (c := 3) rfl (by decide) (fun h => absurd (show (8 : Int) ≤ (i).toInt from h) (by omega)) (fun y2 => ?_)
    have y2 : (i).toInt < (8 : Int) := y2
    refine q_ild rfl rfl ?_
    refine q_ild rfl rfl ?_
    refine q_ishr rfl ?_
    refine q_ic rfl ?_
    refine q_and rfl ?_
    show dw_ok (pr_X11_parts K) 16 0 0 [some (.ref 0), some (.int set), some (.int (1 : Int32)), some (.int (2 : Int32)), some (.int i)] [.int ((set >>> (i &&& 31)) &&& (1 : Int32))] (n, SH1, I, J)
    have eb : ((set >>> (i &&& 31)) &&& (1 : Int32)) = (if Nat.testBit s k = true then 1 else 0) := bt_i hs hs9 hi (by omega)
    obtain ⟨bw, hbw⟩ : ∃ z, z = ((set >>> (i &&& 31)) &&& (1 : Int32)) := ⟨_, rfl⟩
    rw [← hbw] at eb ⊢
    refine q_ic rfl ?_
    refine q_icmp (c := 1) rfl (by decide) (fun y3 => ?_) (fun y3 => ?_)
    · have y3 : (bw).toInt ≠ (1 : Int) := y3
      refine q_inc rfl rfl rfl ?_
      show dw_ok (pr_X11_parts K) 46 0 0 [some (.ref 0), some (.int set), some (.int (1 : Int32)), some (.int (2 : Int32)), some (.int (i + 1))] [] (n, SH1, I, J)
      show dw_ok (pr_X11_parts K) 46 0 0 [some (.ref 0), some (.int set), some (.int (1 : Int32)), some (.int (2 : Int32)), some (.int (i + 1))] [] (n, SH1, I, J)
      obtain ⟨ix, hix⟩ : ∃ z, z = (i + 1) := ⟨_, rfl⟩
      rw [← hix]
      have eix : ix.toInt = ((k + 1 : Nat) : Int) := by rw [hix]; exact ix_1 hi (by omega)
      refine q_goto rfl ?_
      exact ih (k + 1) ix (by omega) eix (by
        rw [px_n0 (by
          cases hb : Nat.testBit s k with
          | false => rfl
          | true => rw [hb, if_pos rfl] at eb; exact absurd (show bw.toInt = 1 by rw [eb]; rfl) y3)]; exact hp)
    · have y3 : (bw).toInt = (1 : Int) := y3
      refine q_ald rfl rfl ?_
      refine q_getr rfl sk_0 sr_0_11 ?_
      refine q_ild rfl rfl ?_
      refine q_xaldr rfl sk_204 sn_204 (by decide) (by decide) sr_204_1 ?_
      refine q_ild rfl rfl ?_
      refine q_xald rfl (Or.inl rfl) sk_206 sn_206 (by omega) (by omega) ?_
      show dw_ok (pr_X11_parts K) 29 0 0 [some (.ref 0), some (.int set), some (.int (1 : Int32)), some (.int (2 : Int32)), some (.int i)] [.int (I 206 (i).toInt.toNat)] (n, SH1, I, J)
      rw [hin]
      refine q_ald rfl rfl ?_
      refine q_getr rfl sk_0 sr_0_11 ?_
      refine q_ild rfl rfl ?_
      refine q_xaldr rfl sk_204 sn_204 (by decide) (by decide) sr_204_2 ?_
      refine q_ild rfl rfl ?_
      refine q_xald rfl (Or.inl rfl) sk_207 sn_207 (by omega) (by omega) ?_
      show dw_ok (pr_X11_parts K) 38 0 0 [some (.ref 0), some (.int set), some (.int (1 : Int32)), some (.int (2 : Int32)), some (.int i)] [.int (I 207 (i).toInt.toNat), .int (I 206 k)] (n, SH1, I, J)
      rw [hin]
      refine q_icmp (c := 0) rfl (by decide) (fun y4 => ?_) (fun y4 => ?_)
      · have y4 : ((I 206 k)).toInt = ((I 207 k)).toInt := y4
        refine q_inc rfl rfl rfl ?_
        show dw_ok (pr_X11_parts K) 46 0 0 [some (.ref 0), some (.int set), some (.int (1 : Int32)), some (.int (2 : Int32)), some (.int (i + 1))] [] (n, SH1, I, J)
        show dw_ok (pr_X11_parts K) 46 0 0 [some (.ref 0), some (.int set), some (.int (1 : Int32)), some (.int (2 : Int32)), some (.int (i + 1))] [] (n, SH1, I, J)
        obtain ⟨ix, hix⟩ : ∃ z, z = (i + 1) := ⟨_, rfl⟩
        rw [← hix]
        have eix : ix.toInt = ((k + 1 : Nat) : Int) := by rw [hix]; exact ix_1 hi (by omega)
        refine q_goto rfl ?_
        exact ih (k + 1) ix (by omega) eix (by
          rw [px_n1 (i_eq y4)]; exact hp)
      · have y4 : ((I 206 k)).toInt ≠ ((I 207 k)).toInt := y4
        refine q_ic rfl ?_
        have hb : Nat.testBit s k = true := by
          cases hb : Nat.testBit s k with
          | true => rfl
          | false => rw [hb, if_neg (by decide)] at eb; exact absurd (show bw.toInt = 0 by rw [eb]; rfl) (by omega)
        have hy : pxF (I 206) (I 207) s 8 = true := by
          have q := px_up (px_y (A := (I 206)) (B := (I 207)) hb (fun e => y4 (by rw [e]))) f
          rw [show k + 1 + f = 8 by omega] at q
          exact q
        exact q_zret rfl (Or.inr rfl) (hk 1 (Or.inl ⟨rfl, hy⟩))
set_option maxRecDepth 8000 in
theorem v_parts12 {n : Nat} {I : Nat → Nat → Int32} {J : Nat → Nat → Int64} {K : dw_K} {set : Int32} {s : Nat} (hs : set.toInt = s) (hs9 : s < 256) (hk : ∀ w : Int32, (w = 1 ∧ pxF (I 206) (I 207) s 8 = true) ∨ (w = 0 ∧ pxF (I 206) (I 207) s 8 = false) → K (some (.int w)) (n, SH1, I, J)) : t_X11_parts [.ref 0, .int set, .int 1, .int 2] (n, SH1, I, J) K := by
  refine q_body (Nat.le_of_ble_eq_true rfl) ?_
  refine q_ic rfl ?_
  refine q_ist rfl rfl ?_
  exact prt_loop_12 hs hs9 hk 8 0 0 rfl rfl rfl
set_option maxRecDepth 8000 in
theorem px_8 {A B : Nat → Int32} {s m : Nat} (h : s < 2 ^ m) (hm : m ≤ 8) : pxF A B s 8 = pxF A B s m := by
  have q := px_cut (A := A) (B := B) h (8 - m)
  rw [show m + (8 - m) = 8 by omega] at q
  exact q
set_option maxRecDepth 8000 in
theorem cn_8 {s m : Nat} (h : s < 2 ^ m) (hm : m ≤ 8) : cnF2 s 8 = cnF2 s m := by
  have q := cn_cut h (8 - m)
  rw [show m + (8 - m) = 8 by omega] at q
  exact q
set_option maxRecDepth 8000 in
theorem pt_no {A0 A1 A2 : Nat → Int32} {m s : Nat} (h : pxF A0 A1 s m = false ∨ pxF A0 A2 s m = false ∨ pxF A1 A2 s m = false) : ptA A0 A1 A2 m s = false := by
  unfold ptA
  rcases h with h | h | h
  · rw [h, Bool.false_and]
  · rw [h, Bool.false_and, Bool.and_false]
  · rw [h, Bool.and_false, Bool.and_false]
set_option maxRecDepth 8000 in
theorem pt_ye {A0 A1 A2 : Nat → Int32} {m s : Nat} (h0 : pxF A0 A1 s m = true) (h1 : pxF A0 A2 s m = true) (h2 : pxF A1 A2 s m = true) : ptA A0 A1 A2 m s = true := by
  unfold ptA
  rw [h0, h1, h2]
  rfl
set_option maxRecDepth 8000 in
theorem bs_no {A0 A1 A2 : Nat → Int32} {m s : Nat} (h : ptA A0 A1 A2 m s = false) : bsF A0 A1 A2 m (s + 1) = bsF A0 A1 A2 m s := bs_n (fun q => by rw [h] at q; exact absurd q.1 (by decide))
set_option maxRecDepth 8000 in
theorem few_loop {n : Nat} {I : Nat → Nat → Int32} {J : Nat → Nat → Int64} {K : dw_K} {cells : Int32} {m M : Nat} (hc : cells.toInt = m) (hm : m ≤ 8) (hM : 2 ^ m = M) (hM9 : M ≤ 256) (hk : ∀ w : Int32, w.toInt = (bsF (I 205) (I 206) (I 207) m M).1 → K (some (.int w)) (n, SH1, I, J)) :
    ∀ (f k : Nat) (best set : Int32), k + f = M → set.toInt = k → best.toInt = (bsF (I 205) (I 206) (I 207) m k).1 → dw_ok (pr_X11_fewestParting K) 4 0 0 [some (.ref 0), some (.int cells), some (.int best), some (.int set)] [] (n, SH1, I, J) := by
  have cM1 : (-1 : Int32).toInt = -1 := rfl
  have ep := p2_i hc hm
  rw [hM] at ep
  obtain ⟨pw, hpw⟩ : ∃ z, z = ((1 : Int32) <<< (cells &&& 31)) := ⟨_, rfl⟩
  rw [← hpw] at ep
  intro f
  induction f with
  | zero =>
    intro k best set hf hs hb
    have ekM : k = M := by omega
    refine q_ild rfl rfl ?_
    refine q_ic rfl ?_
    refine q_ild rfl rfl ?_
    refine q_ishl rfl ?_
    show dw_ok (pr_X11_fewestParting K) 8 0 0 [some (.ref 0), some (.int cells), some (.int best), some (.int set)] [.int ((1 : Int32) <<< (cells &&& 31)), .int set] (n, SH1, I, J)
    rw [← hpw]
    refine q_icmp (c := 3) rfl (by decide) (fun y1 => ?_) (fun h => absurd (show (set).toInt < (pw).toInt from h) (by omega))
    have y1 : (pw).toInt ≤ (set).toInt := y1
    refine q_ild rfl rfl ?_
    rw [ekM] at hb
    exact q_iret rfl (hk _ hb)
  | succ f ih =>
    intro k best set hf hs hb
    have hkM : k < 2 ^ m := by rw [hM]; omega
    have bi := bs_i (A0 := I 205) (A1 := I 206) (A2 := I 207) (m := m) k
    obtain ⟨bb, ebb⟩ : ∃ z, z = (bsF (I 205) (I 206) (I 207) m k) := ⟨_, rfl⟩
    rw [← ebb] at bi hb
    refine q_ild rfl rfl ?_
    refine q_ic rfl ?_
    refine q_ild rfl rfl ?_
    refine q_ishl rfl ?_
    show dw_ok (pr_X11_fewestParting K) 8 0 0 [some (.ref 0), some (.int cells), some (.int best), some (.int set)] [.int ((1 : Int32) <<< (cells &&& 31)), .int set] (n, SH1, I, J)
    rw [← hpw]
    refine q_icmp (c := 3) rfl (by decide) (fun h => absurd (show (pw).toInt ≤ (set).toInt from h) (by omega)) (fun y2 => ?_)
    have y2 : (set).toInt < (pw).toInt := y2
    refine q_ald rfl rfl ?_
    refine q_ild rfl rfl ?_
    refine q_ic rfl ?_
    refine q_ic rfl ?_
    refine q_callV (as := [.int set, .int (0 : Int32), .int (1 : Int32)]) (rest := []) rfl rfl sk_0 rfl (Nat.le_of_ble_eq_true rfl) ?_
    refine v_parts01 (s := k) hs (by omega) (fun w_ p01 => ?_)
    rcases p01 with ⟨rfl, p01⟩ | ⟨rfl, p01⟩
    · show dw_ok (pr_X11_fewestParting K) 18 0 0 [some (.ref 0), some (.int cells), some (.int best), some (.int set)] [.int (1 : Int32)] (n, SH1, I, J)
      refine q_if (c := 0) rfl (by decide) (fun h => absurd (show (1 : Int) = 0 from h) (by decide)) (fun y3 => ?_)
      have y3 : (1 : Int) ≠ 0 := y3
      refine q_ald rfl rfl ?_
      refine q_ild rfl rfl ?_
      refine q_ic rfl ?_
      refine q_ic rfl ?_
      refine q_callV (as := [.int set, .int (0 : Int32), .int (2 : Int32)]) (rest := []) rfl rfl sk_0 rfl (Nat.le_of_ble_eq_true rfl) ?_
      refine v_parts02 (s := k) hs (by omega) (fun w_ p02 => ?_)
      rcases p02 with ⟨rfl, p02⟩ | ⟨rfl, p02⟩
      · show dw_ok (pr_X11_fewestParting K) 28 0 0 [some (.ref 0), some (.int cells), some (.int best), some (.int set)] [.int (1 : Int32)] (n, SH1, I, J)
        refine q_if (c := 0) rfl (by decide) (fun h => absurd (show (1 : Int) = 0 from h) (by decide)) (fun y4 => ?_)
        have y4 : (1 : Int) ≠ 0 := y4
        refine q_ald rfl rfl ?_
        refine q_ild rfl rfl ?_
        refine q_ic rfl ?_
        refine q_ic rfl ?_
        refine q_callV (as := [.int set, .int (1 : Int32), .int (2 : Int32)]) (rest := []) rfl rfl sk_0 rfl (Nat.le_of_ble_eq_true rfl) ?_
        refine v_parts12 (s := k) hs (by omega) (fun w_ p12 => ?_)
        rcases p12 with ⟨rfl, p12⟩ | ⟨rfl, p12⟩
        · show dw_ok (pr_X11_fewestParting K) 38 0 0 [some (.ref 0), some (.int cells), some (.int best), some (.int set)] [.int (1 : Int32)] (n, SH1, I, J)
          refine q_if (c := 0) rfl (by decide) (fun h => absurd (show (1 : Int) = 0 from h) (by decide)) (fun y5 => ?_)
          have y5 : (1 : Int) ≠ 0 := y5
          refine q_ild rfl rfl ?_
          refine q_ic rfl ?_
          refine q_icmp (c := 0) rfl (by decide) (fun y6 => ?_) (fun y6 => ?_)
          · have y6 : (best).toInt = (-1 : Int) := y6
            refine q_ild rfl rfl ?_
            refine q_ist rfl rfl ?_
            show dw_ok (pr_X11_fewestParting K) 59 0 0 [some (.ref 0), some (.int cells), some (.int set), some (.int set)] [] (n, SH1, I, J)
            refine q_inc rfl rfl rfl ?_
            show dw_ok (pr_X11_fewestParting K) 62 0 0 [some (.ref 0), some (.int cells), some (.int set), some (.int (set + 1))] [] (n, SH1, I, J)
            show dw_ok (pr_X11_fewestParting K) 62 0 0 [some (.ref 0), some (.int cells), some (.int set), some (.int (set + 1))] [] (n, SH1, I, J)
            obtain ⟨sx, hsx⟩ : ∃ z, z = (set + 1) := ⟨_, rfl⟩
            rw [← hsx]
            have esx : sx.toInt = ((k + 1 : Nat) : Int) := by rw [hsx]; exact ix_1 hs (by omega)
            refine q_goto rfl ?_
            rw [px_8 hkM hm] at p01 p02 p12
            have hp := pt_ye p01 p02 p12
            have hcm := cn2_le (s := k) m
            have h9 : bb.2 = 9 := by
              rcases bi with e | ⟨q, _, e⟩
              · rw [e]
              · rw [e] at hb
                have hb : best.toInt = (q : Int) := hb
                omega
            exact ih (k + 1) set sx (by omega) esx (by rw [bs_y ⟨hp, by rw [← ebb, h9]; omega⟩]; exact hs)
          · have y6 : (best).toInt ≠ (-1 : Int) := y6
            refine q_ild rfl rfl ?_
            refine q_callS (as := [.int set]) (rest := []) rfl rfl rfl rfl ?_
            refine v_bitC ?_
            show dw_ok (pr_X11_fewestParting K) 50 0 0 [some (.ref 0), some (.int cells), some (.int best), some (.int set)] [.int (bcF set)] (n, SH1, I, J)
            refine q_ild rfl rfl ?_
            refine q_callS (as := [.int best]) (rest := [.int (bcF set)]) rfl rfl rfl rfl ?_
            refine v_bitC ?_
            show dw_ok (pr_X11_fewestParting K) 54 0 0 [some (.ref 0), some (.int cells), some (.int best), some (.int set)] [.int (bcF best), .int (bcF set)] (n, SH1, I, J)
            refine q_icmp (c := 3) rfl (by decide) (fun y7 => ?_) (fun y7 => ?_)
            · have y7 : ((bcF best)).toInt ≤ ((bcF set)).toInt := y7
              refine q_inc rfl rfl rfl ?_
              show dw_ok (pr_X11_fewestParting K) 62 0 0 [some (.ref 0), some (.int cells), some (.int best), some (.int (set + 1))] [] (n, SH1, I, J)
              show dw_ok (pr_X11_fewestParting K) 62 0 0 [some (.ref 0), some (.int cells), some (.int best), some (.int (set + 1))] [] (n, SH1, I, J)
              obtain ⟨sx, hsx⟩ : ∃ z, z = (set + 1) := ⟨_, rfl⟩
              rw [← hsx]
              have esx : sx.toInt = ((k + 1 : Nat) : Int) := by rw [hsx]; exact ix_1 hs (by omega)
              refine q_goto rfl ?_
              rw [px_8 hkM hm] at p01 p02 p12
              have hp := pt_ye p01 p02 p12
              have hcm := cn2_le (s := k) m
              rcases bi with e | ⟨q, hq, e⟩
              · rw [e] at hb
                exact absurd hb y6
              have hb2 : best.toInt = (q : Int) := by rw [hb, e]
              have b1 := bc_i hs (show k < 256 by omega)
              have b2 := bc_i hb2 (show q < 256 by omega)
              rw [cn_8 hkM hm] at b1
              rw [cn_8 (show q < 2 ^ m by omega) hm] at b2
              have hlt : bb.2 = cnF2 q m := by rw [e]
              have y : (bcF best).toInt ≤ (bcF set).toInt := y7
              exact ih (k + 1) best sx (by omega) esx (by rw [bs_n (fun z => by have z2 := z.2; rw [← ebb, hlt] at z2; omega), ← ebb]; exact hb)
            · have y7 : ((bcF set)).toInt < ((bcF best)).toInt := y7
              refine q_ild rfl rfl ?_
              refine q_ist rfl rfl ?_
              show dw_ok (pr_X11_fewestParting K) 59 0 0 [some (.ref 0), some (.int cells), some (.int set), some (.int set)] [] (n, SH1, I, J)
              refine q_inc rfl rfl rfl ?_
              show dw_ok (pr_X11_fewestParting K) 62 0 0 [some (.ref 0), some (.int cells), some (.int set), some (.int (set + 1))] [] (n, SH1, I, J)
              show dw_ok (pr_X11_fewestParting K) 62 0 0 [some (.ref 0), some (.int cells), some (.int set), some (.int (set + 1))] [] (n, SH1, I, J)
              obtain ⟨sx, hsx⟩ : ∃ z, z = (set + 1) := ⟨_, rfl⟩
              rw [← hsx]
              have esx : sx.toInt = ((k + 1 : Nat) : Int) := by rw [hsx]; exact ix_1 hs (by omega)
              refine q_goto rfl ?_
              rw [px_8 hkM hm] at p01 p02 p12
              have hp := pt_ye p01 p02 p12
              have hcm := cn2_le (s := k) m
              rcases bi with e | ⟨q, hq, e⟩
              · rw [e] at hb
                exact absurd hb y6
              have hb2 : best.toInt = (q : Int) := by rw [hb, e]
              have b1 := bc_i hs (show k < 256 by omega)
              have b2 := bc_i hb2 (show q < 256 by omega)
              rw [cn_8 hkM hm] at b1
              rw [cn_8 (show q < 2 ^ m by omega) hm] at b2
              have hlt : bb.2 = cnF2 q m := by rw [e]
              have y : (bcF set).toInt < (bcF best).toInt := y7
              exact ih (k + 1) set sx (by omega) esx (by rw [bs_y ⟨hp, by rw [← ebb, hlt]; omega⟩]; exact hs)
        · show dw_ok (pr_X11_fewestParting K) 38 0 0 [some (.ref 0), some (.int cells), some (.int best), some (.int set)] [.int (0 : Int32)] (n, SH1, I, J)
          refine q_if (c := 0) rfl (by decide) (fun y8 => ?_) (fun h => absurd (show (0 : Int) ≠ 0 from h) (by decide))
          have y8 : (0 : Int) = 0 := y8
          refine q_inc rfl rfl rfl ?_
          show dw_ok (pr_X11_fewestParting K) 62 0 0 [some (.ref 0), some (.int cells), some (.int best), some (.int (set + 1))] [] (n, SH1, I, J)
          show dw_ok (pr_X11_fewestParting K) 62 0 0 [some (.ref 0), some (.int cells), some (.int best), some (.int (set + 1))] [] (n, SH1, I, J)
          obtain ⟨sx, hsx⟩ : ∃ z, z = (set + 1) := ⟨_, rfl⟩
          rw [← hsx]
          have esx : sx.toInt = ((k + 1 : Nat) : Int) := by rw [hsx]; exact ix_1 hs (by omega)
          refine q_goto rfl ?_
          have q := p12
          rw [px_8 hkM hm] at q
          exact ih (k + 1) best sx (by omega) esx (by rw [bs_no (pt_no (Or.inr (Or.inr q))), ← ebb]; exact hb)
      · show dw_ok (pr_X11_fewestParting K) 28 0 0 [some (.ref 0), some (.int cells), some (.int best), some (.int set)] [.int (0 : Int32)] (n, SH1, I, J)
        refine q_if (c := 0) rfl (by decide) (fun y9 => ?_) (fun h => absurd (show (0 : Int) ≠ 0 from h) (by decide))
        have y9 : (0 : Int) = 0 := y9
        refine q_inc rfl rfl rfl ?_
        show dw_ok (pr_X11_fewestParting K) 62 0 0 [some (.ref 0), some (.int cells), some (.int best), some (.int (set + 1))] [] (n, SH1, I, J)
        show dw_ok (pr_X11_fewestParting K) 62 0 0 [some (.ref 0), some (.int cells), some (.int best), some (.int (set + 1))] [] (n, SH1, I, J)
        obtain ⟨sx, hsx⟩ : ∃ z, z = (set + 1) := ⟨_, rfl⟩
        rw [← hsx]
        have esx : sx.toInt = ((k + 1 : Nat) : Int) := by rw [hsx]; exact ix_1 hs (by omega)
        refine q_goto rfl ?_
        have q := p02
        rw [px_8 hkM hm] at q
        exact ih (k + 1) best sx (by omega) esx (by rw [bs_no (pt_no (Or.inr (Or.inl q))), ← ebb]; exact hb)
    · show dw_ok (pr_X11_fewestParting K) 18 0 0 [some (.ref 0), some (.int cells), some (.int best), some (.int set)] [.int (0 : Int32)] (n, SH1, I, J)
      refine q_if (c := 0) rfl (by decide) (fun y10 => ?_) (fun h => absurd (show (0 : Int) ≠ 0 from h) (by decide))
      have y10 : (0 : Int) = 0 := y10
      refine q_inc rfl rfl rfl ?_
      show dw_ok (pr_X11_fewestParting K) 62 0 0 [some (.ref 0), some (.int cells), some (.int best), some (.int (set + 1))] [] (n, SH1, I, J)
      show dw_ok (pr_X11_fewestParting K) 62 0 0 [some (.ref 0), some (.int cells), some (.int best), some (.int (set + 1))] [] (n, SH1, I, J)
      obtain ⟨sx, hsx⟩ : ∃ z, z = (set + 1) := ⟨_, rfl⟩
      rw [← hsx]
      have esx : sx.toInt = ((k + 1 : Nat) : Int) := by rw [hsx]; exact ix_1 hs (by omega)
      refine q_goto rfl ?_
      have q := p01
      rw [px_8 hkM hm] at q
      exact ih (k + 1) best sx (by omega) esx (by rw [bs_no (pt_no (Or.inl q)), ← ebb]; exact hb)
set_option maxRecDepth 8000 in
theorem v_fewest {n : Nat} {I : Nat → Nat → Int32} {J : Nat → Nat → Int64} {K : dw_K} {cells : Int32} {m : Nat} (hc : cells.toInt = m) (hm : m ≤ 8) (hk : ∀ w : Int32, w.toInt = (bsF (I 205) (I 206) (I 207) m (2 ^ m)).1 → K (some (.int w)) (n, SH1, I, J)) : t_X11_fewestParting [.ref 0, .int cells] (n, SH1, I, J) K := by
  refine q_body (Nat.le_of_ble_eq_true rfl) ?_
  refine q_ic rfl ?_
  refine q_ist rfl rfl ?_
  refine q_ic rfl ?_
  refine q_ist rfl rfl ?_
  have h1 : 1 ≤ 2 ^ m := Nat.one_le_two_pow
  exact few_loop hc hm rfl (p2_b hm) hk (2 ^ m - 1) 1 (-1) 1 (by omega) rfl (by rw [show (1 : Nat) = 0 + 1 from rfl, bs_no pt_0]; rfl)
set_option maxRecDepth 8000 in
theorem hf_dec : (List.range 941).all (fun n => decide ((Int32.ofNat n / 2).toInt = ((n / 2 : Nat) : Int)) && decide ((Int32.ofNat n - Int32.ofNat n / 2 * 2).toInt = ((n % 2 : Nat) : Int))) = true := by decide +kernel
set_option maxRecDepth 8000 in
theorem hf_i {x : Int32} {N : Nat} (hx : x.toInt = N) (hN : N ≤ 940) : (x / 2).toInt = ((N / 2 : Nat) : Int) ∧ (x - x / 2 * 2).toInt = ((N % 2 : Nat) : Int) := by
  have q := List.all_eq_true.mp hf_dec N (List.mem_range.mpr (by omega))
  rw [Bool.and_eq_true] at q
  rw [of_nat hx (by omega)]
  exact ⟨of_decide_eq_true q.1, of_decide_eq_true q.2⟩
set_option maxRecDepth 8000 in
theorem i_dbl {i : Int32} {k : Nat} (hi : i.toInt = k) (hk : k ≤ 1000) : ((2 : Int32) * i).toInt = ((2 * k : Nat) : Int) := by
  have k2 : (2 : Int32).toInt = 2 := rfl
  exact i_mul (by rw [k2, hi]; omega) (by omega) (by omega)
abbrev bX (b : Nat → Int32) (k : Nat) : Int32 := b (2 * k)
abbrev bY (b : Nat → Int32) (k : Nat) : Int32 := b (2 * k + 1)
abbrev cT (R b : Nat → Int32) (k : Nat) : Nat := cN R (bX b k) (bY b k)
/-- the first k are CELLS, none twice -/
abbrev okA (R b : Nat → Int32) (k : Nat) : Prop := ∀ i, i < k → okC R (bX b i) (bY b i) ∧ ∀ j, j < i → cT R b j ≠ cT R b i
set_option maxRecDepth 8000 in
theorem okA_0 {R b : Nat → Int32} : okA R b 0 := fun i hi => absurd hi (Nat.not_lt_zero i)
set_option maxRecDepth 8000 in
theorem okA_1 {R b : Nat → Int32} {k : Nat} (h : okA R b k) (hC : okC R (bX b k) (bY b k)) (hn : ∀ j, j < k → cT R b j ≠ cT R b k) : okA R b (k + 1) := fun i hi => by
  by_cases e : i = k
  · subst e; exact ⟨hC, hn⟩
  · exact h i (by omega)
set_option maxRecDepth 8000 in
theorem tri_loop {n : Nat} {I : Nat → Nat → Int32} {J : Nat → Nat → Int64} {K : dw_K} {R b : Nat → Int32} {bytes i c : Int32} {k : Nat} (hi : i.toInt = k) (hk8 : k < 8) (hc : c.toInt = cT R b k) (hr : ∀ q, q < k → (I 203 q).toInt = cT R b q) (h0 : (∃ q, q < k ∧ cT R b q = cT R b k) → K (some (.int 0)) (n, SH1, I, J)) (h1 : ∀ j : Int32, (∀ q, q < k → cT R b q ≠ cT R b k) → dw_ok (pr_X11_areTriedCells K) 96 0 0 [some (.ref 0), some (.int bytes), some (.int i), some (.int c), some (.int j)] [] (n, SH1, I, J)) :
    ∀ (f l : Nat) (j : Int32), l + f = k → j.toInt = l → (∀ q, q < l → cT R b q ≠ cT R b k) → dw_ok (pr_X11_areTriedCells K) 71 0 0 [some (.ref 0), some (.int bytes), some (.int i), some (.int c), some (.int j)] [] (n, SH1, I, J) := by
  have k0 : (0 : Int32).toInt = 0 := rfl
  intro f
  induction f with
  | zero =>
    intro l j hf hj hn
    have elk : l = k := by omega
    refine q_ild rfl rfl ?_
    refine q_ild rfl rfl ?_
    refine q_icmp (c := 3) rfl (by decide) (fun y1 => ?_) (fun h => absurd (show (j).toInt < (i).toInt from h) (by omega))
    have y1 : (i).toInt ≤ (j).toInt := y1
    exact h1 j (fun q hq => hn q (by omega))
  | succ f ih =>
    intro l j hf hj hn
    have hjn : j.toInt.toNat = l := by omega
    have er := hr l (by omega)
    refine q_ild rfl rfl ?_
    refine q_ild rfl rfl ?_
    refine q_icmp (c := 3) rfl (by decide) (fun h => absurd (show (i).toInt ≤ (j).toInt from h) (by omega)) (fun y2 => ?_)
    have y2 : (j).toInt < (i).toInt := y2
    refine q_ald rfl rfl ?_
    refine q_getr rfl sk_0 sr_0_10 ?_
    refine q_ild rfl rfl ?_
    refine q_xald rfl (Or.inl rfl) sk_203 sn_203 (by omega) (by omega) ?_
    show dw_ok (pr_X11_areTriedCells K) 84 0 0 [some (.ref 0), some (.int bytes), some (.int i), some (.int c), some (.int j)] [.int (I 203 (j).toInt.toNat)] (n, SH1, I, J)
    rw [hjn]
    refine q_ild rfl rfl ?_
    refine q_icmp (c := 1) rfl (by decide) (fun y3 => ?_) (fun y3 => ?_)
    · have y3 : ((I 203 l)).toInt ≠ (c).toInt := y3
      refine q_inc rfl rfl rfl ?_
      show dw_ok (pr_X11_areTriedCells K) 93 0 0 [some (.ref 0), some (.int bytes), some (.int i), some (.int c), some (.int (j + 1))] [] (n, SH1, I, J)
      show dw_ok (pr_X11_areTriedCells K) 93 0 0 [some (.ref 0), some (.int bytes), some (.int i), some (.int c), some (.int (j + 1))] [] (n, SH1, I, J)
      obtain ⟨jx, hjx⟩ : ∃ z, z = (j + 1) := ⟨_, rfl⟩
      rw [← hjx]
      have ejx : jx.toInt = ((l + 1 : Nat) : Int) := by rw [hjx]; exact ix_1 hj (by omega)
      refine q_goto rfl ?_
      refine ih (l + 1) jx (by omega) ejx (fun q hq => ?_)
      by_cases e : q = l
      · rw [e]; intro z; exact y3 (by rw [er, hc, z])
      · exact hn q (by omega)
    · have y3 : ((I 203 l)).toInt = (c).toInt := y3
      refine q_ic rfl ?_
      exact q_zret rfl (Or.inl rfl) (h0 ⟨l, by omega, by have y := y3; omega⟩)
set_option maxRecDepth 8000 in
theorem trc_loop {n : Nat} {J : Nat → Nat → Int64} {K : dw_K} {R b : Nat → Int32} {I0 : Nat → Nat → Int32} {bytes : Int32} {m N : Nat} (hG : GOK R) (h40 : I0 4 0 = R 0) (h41 : I0 4 1 = R 1) (hB : bytes.toInt = N) (hm : N / 2 = m) (hN : N ≤ 16) (hb : ∀ c, c < N → I0 2 c = b c) (hk : ∀ (w : Int32) (I' : Nat → Nat → Int32), (∀ a, a ≠ 203 → I' a = I0 a) → (w = 1 ∧ okA R b m ∧ ∀ q, q < m → (I' 203 q).toInt = cT R b q) ∨ (w = 0 ∧ ¬ okA R b m) → K (some (.int w)) (n, SH1, I', J)) :
    ∀ (f k : Nat) (i : Int32) (u v : Option Value) (I : Nat → Nat → Int32), k + f = m → i.toInt = k → (∀ a, a ≠ 203 → I a = I0 a) → okA R b k → (∀ q, q < k → (I 203 q).toInt = cT R b q) → dw_ok (pr_X11_areTriedCells K) 21 0 0 [some (.ref 0), some (.int bytes), some (.int i), u, v] [] (n, SH1, I, J) := by
  have k0 : (0 : Int32).toInt = 0 := rfl
  have cm1 : (-1 : Int32).toInt = -1 := rfl
  have hh := (hf_i hB (by omega)).1
  have hN9 := (gok_N hG).2
  intro f
  induction f with
  | zero =>
    intro k i u v I hf hi hr hA hT
    have ekm : k = m := by omega
    refine q_ild rfl rfl ?_
    refine q_ild rfl rfl ?_
    refine q_ic rfl ?_
    refine q_div rfl (by decide) ?_
    show dw_ok (pr_X11_areTriedCells K) 25 0 0 [some (.ref 0), some (.int bytes), some (.int i), u, v] [.int (bytes / (2 : Int32)), .int i] (n, SH1, I, J)
    obtain ⟨hb2, hhb2⟩ : ∃ z, z = (bytes / (2 : Int32)) := ⟨_, rfl⟩
    rw [← hhb2]
    have ehb2 : hb2.toInt = ((N / 2 : Nat) : Int) := by rw [hhb2]; exact hh
    refine q_icmp (c := 3) rfl (by decide) (fun y1 => ?_) (fun h => absurd (show (i).toInt < (hb2).toInt from h) (by omega))
    have y1 : (hb2).toInt ≤ (i).toInt := y1
    refine q_ic rfl ?_
    rw [ekm] at hA hT
    exact q_zret rfl (Or.inr rfl) (hk 1 I hr (Or.inl ⟨rfl, hA, hT⟩))
  | succ f ih =>
    intro k i u v I hf hi hr hA hT
    have hin : i.toInt.toNat = k := by omega
    have ex : I 2 (2 * k) = bX b k := by rw [hr 2 (by decide)]; exact hb _ (by omega)
    have ey : I 2 (2 * k + 1) = bY b k := by rw [hr 2 (by decide)]; exact hb _ (by omega)
    have g0 : I 4 0 = R 0 := by rw [hr 4 (by decide)]; exact h40
    have g1 : I 4 1 = R 1 := by rw [hr 4 (by decide)]; exact h41
    refine q_ild rfl rfl ?_
    refine q_ild rfl rfl ?_
    refine q_ic rfl ?_
    refine q_div rfl (by decide) ?_
    show dw_ok (pr_X11_areTriedCells K) 25 0 0 [some (.ref 0), some (.int bytes), some (.int i), u, v] [.int (bytes / (2 : Int32)), .int i] (n, SH1, I, J)
    obtain ⟨hb2, hhb2⟩ : ∃ z, z = (bytes / (2 : Int32)) := ⟨_, rfl⟩
    rw [← hhb2]
    have ehb2 : hb2.toInt = ((N / 2 : Nat) : Int) := by rw [hhb2]; exact hh
    refine q_icmp (c := 3) rfl (by decide) (fun h => absurd (show (hb2).toInt ≤ (i).toInt from h) (by omega)) (fun y2 => ?_)
    have y2 : (i).toInt < (hb2).toInt := y2
    refine q_ald rfl rfl ?_
    refine q_getr rfl sk_0 sr_0_1 ?_
    refine q_getr rfl sk_3 sr_3_1 ?_
    refine q_ald rfl rfl ?_
    refine q_getr rfl sk_0 sr_0_0 ?_
    refine q_ic rfl ?_
    refine q_ild rfl rfl ?_
    refine q_mul rfl ?_
    show dw_ok (pr_X11_areTriedCells K) 42 0 0 [some (.ref 0), some (.int bytes), some (.int i), u, v] [.int ((2 : Int32) * i), .ref 1, .ref 4] (n, SH1, I, J)
    obtain ⟨ia, hia⟩ : ∃ z, z = ((2 : Int32) * i) := ⟨_, rfl⟩
    rw [← hia]
    have eia : ia.toInt = ((2 * k : Nat) : Int) := by rw [hia]; exact i_dbl hi (by omega)
    refine q_callV (as := [.int ia]) (rest := [.ref 4]) rfl rfl sk_1 rfl (Nat.le_of_ble_eq_true rfl) ?_
    refine v_byteC (k := 2 * k) eia (by omega) ?_
    show dw_ok (pr_X11_areTriedCells K) 45 0 0 [some (.ref 0), some (.int bytes), some (.int i), u, v] [.int (I 2 (2 * k)), .ref 4] (n, SH1, I, J)
    rw [ex]
    show dw_ok (pr_X11_areTriedCells K) 45 0 0 [some (.ref 0), some (.int bytes), some (.int i), u, v] [.int (bX b k), .ref 4] (n, SH1, I, J)
    refine q_ald rfl rfl ?_
    refine q_getr rfl sk_0 sr_0_0 ?_
    refine q_ic rfl ?_
    refine q_ild rfl rfl ?_
    refine q_mul rfl ?_
    show dw_ok (pr_X11_areTriedCells K) 52 0 0 [some (.ref 0), some (.int bytes), some (.int i), u, v] [.int ((2 : Int32) * i), .ref 1, .int (bX b k), .ref 4] (n, SH1, I, J)
    obtain ⟨ia, hia⟩ : ∃ z, z = ((2 : Int32) * i) := ⟨_, rfl⟩
    rw [← hia]
    have eia : ia.toInt = ((2 * k : Nat) : Int) := by rw [hia]; exact i_dbl hi (by omega)
    refine q_ic rfl ?_
    refine q_add rfl ?_
    show dw_ok (pr_X11_areTriedCells K) 54 0 0 [some (.ref 0), some (.int bytes), some (.int i), u, v] [.int (ia + (1 : Int32)), .ref 1, .int (bX b k), .ref 4] (n, SH1, I, J)
    obtain ⟨ib, hib⟩ : ∃ z, z = (ia + (1 : Int32)) := ⟨_, rfl⟩
    rw [← hib]
    have eib : ib.toInt = ((2 * k + 1 : Nat) : Int) := by rw [hib]; exact ix_1 eia (by omega)
    refine q_callV (as := [.int ib]) (rest := [.int (bX b k), .ref 4]) rfl rfl sk_1 rfl (Nat.le_of_ble_eq_true rfl) ?_
    refine v_byteC (k := 2 * k + 1) eib (by omega) ?_
    show dw_ok (pr_X11_areTriedCells K) 57 0 0 [some (.ref 0), some (.int bytes), some (.int i), u, v] [.int (I 2 (2 * k + 1)), .int (bX b k), .ref 4] (n, SH1, I, J)
    rw [ey]
    show dw_ok (pr_X11_areTriedCells K) 57 0 0 [some (.ref 0), some (.int bytes), some (.int i), u, v] [.int (bY b k), .int (bX b k), .ref 4] (n, SH1, I, J)
    refine q_callV (as := [.int (bX b k), .int (bY b k)]) (rest := []) rfl rfl sk_4 rfl (Nat.le_of_ble_eq_true rfl) ?_
    refine v_cellAt2 (R := R) hG g0 g1 (fun oC c ec => ?_) (fun nC => ?_)
    · show dw_ok (pr_X11_areTriedCells K) 60 0 0 [some (.ref 0), some (.int bytes), some (.int i), u, v] [.int c] (n, SH1, I, J)
      refine q_ist rfl rfl ?_
      show dw_ok (pr_X11_areTriedCells K) 61 0 0 [some (.ref 0), some (.int bytes), some (.int i), some (.int c), v] [] (n, SH1, I, J)
      refine q_ild rfl rfl ?_
      refine q_ic rfl ?_
      refine q_icmp (c := 1) rfl (by decide) (fun y3 => ?_) (fun h => absurd (show (c).toInt = (-1 : Int) from h) (by have := ec; omega))
      have y3 : (c).toInt ≠ (-1 : Int) := y3
      refine q_ic rfl ?_
      refine q_ist rfl rfl ?_
      show dw_ok (pr_X11_areTriedCells K) 71 0 0 [some (.ref 0), some (.int bytes), some (.int i), some (.int c), some (.int (0 : Int32))] [] (n, SH1, I, J)
      refine tri_loop (R := R) (b := b) hi (by omega) ec hT (fun z => ?_) (fun j hn => ?_) k 0 0 (by omega) rfl (fun q hq => absurd hq (Nat.not_lt_zero q))
      · obtain ⟨q, hq, e⟩ := z
        exact hk 0 I hr (Or.inr ⟨rfl, fun w => (w k (by omega)).2 q hq e⟩)
      · show dw_ok (pr_X11_areTriedCells K) 96 0 0 [some (.ref 0), some (.int bytes), some (.int i), some (.int c), some (.int j)] [] (n, SH1, I, J)
        refine q_ald rfl rfl ?_
        refine q_getr rfl sk_0 sr_0_10 ?_
        refine q_ild rfl rfl ?_
        refine q_ild rfl rfl ?_
        refine q_iast rfl sk_203 sn_203 (by omega) (by omega) ?_
        show dw_ok (pr_X11_areTriedCells K) 103 0 0 [some (.ref 0), some (.int bytes), some (.int i), some (.int c), some (.int j)] [] (n, SH1, (dw_up I 203 (i).toInt.toNat c), J)
        rw [hin]
        refine q_inc rfl rfl rfl ?_
        show dw_ok (pr_X11_areTriedCells K) 106 0 0 [some (.ref 0), some (.int bytes), some (.int (i + 1)), some (.int c), some (.int j)] [] (n, SH1, (dw_up I 203 k c), J)
        show dw_ok (pr_X11_areTriedCells K) 106 0 0 [some (.ref 0), some (.int bytes), some (.int (i + 1)), some (.int c), some (.int j)] [] (n, SH1, (dw_up I 203 k c), J)
        obtain ⟨iz, hiz⟩ : ∃ z, z = (i + 1) := ⟨_, rfl⟩
        rw [← hiz]
        have eiz : iz.toInt = ((k + 1 : Nat) : Int) := by rw [hiz]; exact ix_1 hi (by omega)
        refine q_goto rfl ?_
        refine ih (k + 1) iz _ _ (dw_up I 203 k c) (by omega) eiz (fun a ha => (up_row ha).trans (hr a ha)) (okA_1 hA oC hn) (fun q hq => ?_)
        by_cases e : q = k
        · rw [e, show (dw_up I 203 k c) 203 k = c from up_same]; exact ec
        · rw [show (dw_up I 203 k c) 203 q = I 203 q from up_fld e]; exact hT q (by omega)
    · show dw_ok (pr_X11_areTriedCells K) 60 0 0 [some (.ref 0), some (.int bytes), some (.int i), u, v] [.int (-1 : Int32)] (n, SH1, I, J)
      refine q_ist rfl rfl ?_
      show dw_ok (pr_X11_areTriedCells K) 61 0 0 [some (.ref 0), some (.int bytes), some (.int i), some (.int (-1 : Int32)), v] [] (n, SH1, I, J)
      refine q_ild rfl rfl ?_
      refine q_ic rfl ?_
      refine q_icmp (c := 1) rfl (by decide) (fun h => absurd (show (-1 : Int) ≠ (-1 : Int) from h) (by omega)) (fun y4 => ?_)
      have y4 : (-1 : Int) = (-1 : Int) := y4
      refine q_ic rfl ?_
      exact q_zret rfl (Or.inl rfl) (hk 0 I hr (Or.inr ⟨rfl, fun w => nC (w k (by omega)).1⟩))
/-- the bytes tell CELLS to be tried -/
abbrev okTB (R b : Nat → Int32) (N : Nat) : Prop := 2 ≤ N ∧ N ≤ 16 ∧ N % 2 = 0 ∧ okA R b (N / 2)
set_option maxRecDepth 8000 in
theorem v_tried {n : Nat} {I : Nat → Nat → Int32} {J : Nat → Nat → Int64} {K : dw_K} {R b : Nat → Int32} {bytes : Int32} {N : Nat} (hG : GOK R) (h40 : I 4 0 = R 0) (h41 : I 4 1 = R 1) (hB : bytes.toInt = N) (hN9 : N ≤ 940) (hb : ∀ c, c < N → I 2 c = b c) (hk : ∀ (w : Int32) (I' : Nat → Nat → Int32), (∀ a, a ≠ 203 → I' a = I a) → (w = 1 ∧ okTB R b N ∧ ∀ q, q < N / 2 → (I' 203 q).toInt = cT R b q) ∨ (w = 0 ∧ ¬ okTB R b N) → K (some (.int w)) (n, SH1, I', J)) : t_X11_areTriedCells [.ref 0, .int bytes] (n, SH1, I, J) K := by
  have hm := (hf_i hB (by omega)).2
  have k2 : (2 : Int32).toInt = 2 := rfl
  have k16 : (16 : Int32).toInt = 16 := rfl
  refine q_body (Nat.le_of_ble_eq_true rfl) ?_
  refine q_ild rfl rfl ?_
  refine q_ic rfl ?_
  refine q_icmp (c := 2) rfl (by decide) (fun y1 => ?_) (fun y1 => ?_)
  · have y1 : (bytes).toInt < (2 : Int) := y1
    refine q_ic rfl ?_
    exact q_zret rfl (Or.inl rfl) (hk 0 I (fun _ _ => rfl) (Or.inr ⟨rfl, fun q => by have q1 := q.1; have q2 := q.2.1; have q3 := q.2.2.1; omega⟩))
  · have y1 : (2 : Int) ≤ (bytes).toInt := y1
    refine q_ild rfl rfl ?_
    refine q_ic rfl ?_
    refine q_icmp (c := 4) rfl (by decide) (fun y2 => ?_) (fun y2 => ?_)
    · have y2 : (16 : Int) < (bytes).toInt := y2
      refine q_ic rfl ?_
      exact q_zret rfl (Or.inl rfl) (hk 0 I (fun _ _ => rfl) (Or.inr ⟨rfl, fun q => by have q1 := q.1; have q2 := q.2.1; have q3 := q.2.2.1; omega⟩))
    · have y2 : (bytes).toInt ≤ (16 : Int) := y2
      refine q_ild rfl rfl ?_
      refine q_ic rfl ?_
      refine q_rem rfl (by decide) ?_
      show dw_ok (pr_X11_areTriedCells K) 14 0 0 [some (.ref 0), some (.int bytes), none, none, none] [.int (bytes - bytes / (2 : Int32) * (2 : Int32))] (n, SH1, I, J)
      obtain ⟨rm, hrm⟩ : ∃ z, z = (bytes - bytes / (2 : Int32) * (2 : Int32)) := ⟨_, rfl⟩
      rw [← hrm]
      have erm : rm.toInt = ((N % 2 : Nat) : Int) := by rw [hrm]; exact hm
      refine q_if (c := 0) rfl (by decide) (fun y3 => ?_) (fun y3 => ?_)
      · have y3 : (rm).toInt = 0 := y3
        refine q_ic rfl ?_
        refine q_ist rfl rfl ?_
        show dw_ok (pr_X11_areTriedCells K) 21 0 0 [some (.ref 0), some (.int bytes), some (.int (0 : Int32)), none, none] [] (n, SH1, I, J)
        refine trc_loop (R := R) (b := b) (I0 := I) (m := N / 2) hG h40 h41 hB rfl (by omega) hb (fun w I' hr hw => hk w I' hr ?_) (N / 2) 0 0 _ _ I (by omega) rfl (fun _ _ => rfl) okA_0 (fun q hq => absurd hq (Nat.not_lt_zero q))
        rcases hw with ⟨e, hA, hT⟩ | ⟨e, hn⟩
        · exact Or.inl ⟨e, ⟨by omega, by omega, by omega, hA⟩, hT⟩
        · exact Or.inr ⟨e, fun q => hn q.2.2.2⟩
      · have y3 : (rm).toInt ≠ 0 := y3
        refine q_ic rfl ?_
        exact q_zret rfl (Or.inl rfl) (hk 0 I (fun _ _ => rfl) (Or.inr ⟨rfl, fun q => by have q1 := q.1; have q2 := q.2.1; have q3 := q.2.2.1; omega⟩))
set_option maxRecDepth 8000 in
theorem ptA_eq {A0 A1 A2 B0 B1 B2 : Nat → Int32} {m s : Nat} (h : ∀ i, i < m → A0 i = B0 i ∧ A1 i = B1 i ∧ A2 i = B2 i) : ptA A0 A1 A2 m s = ptA B0 B1 B2 m s := by
  unfold ptA
  rw [px_eq (A := A0) (A' := B0) (B := A1) (B' := B1) m (fun i hi => ⟨(h i hi).1, (h i hi).2.1⟩), px_eq (A := A0) (A' := B0) (B := A2) (B' := B2) m (fun i hi => ⟨(h i hi).1, (h i hi).2.2⟩), px_eq (A := A1) (A' := B1) (B := A2) (B' := B2) m (fun i hi => ⟨(h i hi).2.1, (h i hi).2.2⟩)]
set_option maxRecDepth 8000 in
theorem bsF_eq {A0 A1 A2 B0 B1 B2 : Nat → Int32} {m : Nat} (h : ∀ i, i < m → A0 i = B0 i ∧ A1 i = B1 i ∧ A2 i = B2 i) : ∀ s : Nat, bsF A0 A1 A2 m s = bsF B0 B1 B2 m s
  | 0 => rfl
  | s + 1 => by
    show (if ptA A0 A1 A2 m s = true ∧ cnF2 s m < (bsF A0 A1 A2 m s).2 then ((s : Int), cnF2 s m) else bsF A0 A1 A2 m s) = (if ptA B0 B1 B2 m s = true ∧ cnF2 s m < (bsF B0 B1 B2 m s).2 then ((s : Int), cnF2 s m) else bsF B0 B1 B2 m s)
    rw [bsF_eq h s, ptA_eq h]
/-- the water of the CELLS tried in STORY q -/
def wTr (R b S : Nat → Int32) (t q : Nat) : Nat → Int32 := fun i => (runW R S q (t + 1)).2.1 (cT R b i)
def aTries (R b : Nat → Int32) (N : Nat) (s t : Int32) : Int := if okS R s ∧ okT t ∧ okTB R b N then (bsF (wTr R b (nX R s) t.toInt.toNat 0) (wTr R b (nX R s) t.toInt.toNat 1) (wTr R b (nX R s) t.toInt.toNat 2) (N / 2) (2 ^ (N / 2))).1 else -1
set_option maxRecDepth 8000 in
theorem trw_loop_0 {n : Nat} {J : Nat → Nat → Int64} {K : dw_K} {R b W : Nat → Int32} {I0 : Nat → Nat → Int32} {a1 a2 bytes cells : Int32} {m : Nat} (hc : cells.toInt = m) (hm : m ≤ 8) (hN9 : Nn R ≤ 144) (hn : (I0 164 1).toInt = Nn R) (hW : ∀ c, c < Nn R → I0 (164 + 14) c = W c) (hT : ∀ i, i < m → (I0 203 i).toInt = cT R b i) (hl : ∀ i, i < m → cT R b i < Nn R)
    (hk : ∀ (i : Int32) (I' : Nat → Nat → Int32), (∀ a, a ≠ 205 → I' a = I0 a) → (∀ i, i < m → I' 205 i = W (cT R b i)) → dw_ok (pr_X11_tries K) 127 0 0 [some (.ref 0), some (.int a1), some (.int a2), some (.int bytes), some (.int cells), some (.int 0), some (.int i)] [] (n, SH1, I', J)) :
    ∀ (f k : Nat) (i : Int32) (I : Nat → Nat → Int32), k + f = m → i.toInt = k → (∀ a, a ≠ 205 → I a = I0 a) → (∀ i, i < k → I 205 i = W (cT R b i)) → dw_ok (pr_X11_tries K) 83 0 0 [some (.ref 0), some (.int a1), some (.int a2), some (.int bytes), some (.int cells), some (.int 0), some (.int i)] [] (n, SH1, I, J) := by
  have k8 : (8 : Int32).toInt = 8 := rfl
  intro f
  induction f with
  | zero =>
    intro k i I hf hi hr hV
    have ekm : k = m := by omega
    refine q_ild rfl rfl ?_
    refine q_ild rfl rfl ?_
    refine q_icmp (c := 3) rfl (by decide) (fun y1 => ?_) (fun h => absurd (show (i).toInt < (cells).toInt from h) (by omega))
    have y1 : (cells).toInt ≤ (i).toInt := y1
    rw [ekm] at hV
    exact hk i I hr hV
  | succ f ih =>
    intro k i I hf hi hr hV
    have hin : i.toInt.toNat = k := by omega
    refine q_ild rfl rfl ?_
    refine q_ild rfl rfl ?_
    refine q_icmp (c := 3) rfl (by decide) (fun h => absurd (show (cells).toInt ≤ (i).toInt from h) (by omega)) (fun y2 => ?_)
    have y2 : (i).toInt < (cells).toInt := y2
    refine q_ild rfl rfl ?_
    refine q_ic rfl ?_
    refine q_icmp (c := 3) rfl (by decide) (fun h => absurd (show (8 : Int) ≤ (i).toInt from h) (by omega)) (fun y3 => ?_)
    have y3 : (i).toInt < (8 : Int) := y3
    refine q_ald rfl rfl ?_
    refine q_getr rfl sk_0 sr_0_11 ?_
    refine q_ild rfl rfl ?_
    refine q_xaldr rfl sk_204 sn_204 (by decide) (by decide) sr_204_0 ?_
    refine q_ild rfl rfl ?_
    refine q_ald rfl rfl ?_
    refine q_getr rfl sk_0 sr_0_6 ?_
    refine q_ald rfl rfl ?_
    refine q_getr rfl sk_0 sr_0_10 ?_
    refine q_ild rfl rfl ?_
    refine q_xald rfl (Or.inl rfl) sk_203 sn_203 (by omega) (by omega) ?_
    show dw_ok (pr_X11_tries K) 117 0 0 [some (.ref 0), some (.int a1), some (.int a2), some (.int bytes), some (.int cells), some (.int (0 : Int32)), some (.int i)] [.int (I 203 (i).toInt.toNat), .ref 164, .int i, .ref 205] (n, SH1, I, J)
    rw [hin]
    refine q_callV (as := [.int (I 203 k)]) (rest := [.int i, .ref 205]) rfl rfl sk_164 rfl (Nat.le_of_ble_eq_true rfl) ?_
    refine v_waterOf (A := 164) (N := Nn R) (k := cT R b k) (rt_ok (by decide)) (by rw [hr 203 (by decide)]; exact hT k (by omega)) (by rw [hr 164 (by decide)]; exact hn) hN9 (hl k (by omega)) ?_
    show dw_ok (pr_X11_tries K) 120 0 0 [some (.ref 0), some (.int a1), some (.int a2), some (.int bytes), some (.int cells), some (.int (0 : Int32)), some (.int i)] [.int (I (164 + 14) (cT R b k)), .int i, .ref 205] (n, SH1, I, J)
    rw [show I (164 + 14) (cT R b k) = W (cT R b k) by rw [hr (164 + 14) (by decide)]; exact hW _ (hl k (by omega))]
    show dw_ok (pr_X11_tries K) 120 0 0 [some (.ref 0), some (.int a1), some (.int a2), some (.int bytes), some (.int cells), some (.int (0 : Int32)), some (.int i)] [.int (W (cT R b k)), .int i, .ref 205] (n, SH1, I, J)
    refine q_iast rfl sk_205 sn_205 (by omega) (by omega) ?_
    show dw_ok (pr_X11_tries K) 121 0 0 [some (.ref 0), some (.int a1), some (.int a2), some (.int bytes), some (.int cells), some (.int (0 : Int32)), some (.int i)] [] (n, SH1, (dw_up I 205 (i).toInt.toNat (W (cT R b k))), J)
    rw [hin]
    refine q_inc rfl rfl rfl ?_
    show dw_ok (pr_X11_tries K) 124 0 0 [some (.ref 0), some (.int a1), some (.int a2), some (.int bytes), some (.int cells), some (.int (0 : Int32)), some (.int (i + 1))] [] (n, SH1, (dw_up I 205 k (W (cT R b k))), J)
    show dw_ok (pr_X11_tries K) 124 0 0 [some (.ref 0), some (.int a1), some (.int a2), some (.int bytes), some (.int cells), some (.int (0 : Int32)), some (.int (i + 1))] [] (n, SH1, (dw_up I 205 k (W (cT R b k))), J)
    obtain ⟨ix, hix⟩ : ∃ z, z = (i + 1) := ⟨_, rfl⟩
    rw [← hix]
    have eix : ix.toInt = ((k + 1 : Nat) : Int) := by rw [hix]; exact ix_1 hi (by omega)
    refine q_goto rfl ?_
    refine ih (k + 1) ix (dw_up I 205 k (W (cT R b k))) (by omega) eix (fun a ha => (up_row ha).trans (hr a ha)) (fun j hj => ?_)
    by_cases e : j = k
    · rw [e]; exact up_same
    · rw [show (dw_up I 205 k (W (cT R b k))) 205 j = I 205 j from up_fld e]; exact hV j (by omega)
set_option maxRecDepth 8000 in
theorem trw_loop_1 {n : Nat} {J : Nat → Nat → Int64} {K : dw_K} {R b W : Nat → Int32} {I0 : Nat → Nat → Int32} {a1 a2 bytes cells : Int32} {m : Nat} (hc : cells.toInt = m) (hm : m ≤ 8) (hN9 : Nn R ≤ 144) (hn : (I0 164 1).toInt = Nn R) (hW : ∀ c, c < Nn R → I0 (164 + 14) c = W c) (hT : ∀ i, i < m → (I0 203 i).toInt = cT R b i) (hl : ∀ i, i < m → cT R b i < Nn R)
    (hk : ∀ (i : Int32) (I' : Nat → Nat → Int32), (∀ a, a ≠ 206 → I' a = I0 a) → (∀ i, i < m → I' 206 i = W (cT R b i)) → dw_ok (pr_X11_tries K) 127 0 0 [some (.ref 0), some (.int a1), some (.int a2), some (.int bytes), some (.int cells), some (.int 1), some (.int i)] [] (n, SH1, I', J)) :
    ∀ (f k : Nat) (i : Int32) (I : Nat → Nat → Int32), k + f = m → i.toInt = k → (∀ a, a ≠ 206 → I a = I0 a) → (∀ i, i < k → I 206 i = W (cT R b i)) → dw_ok (pr_X11_tries K) 83 0 0 [some (.ref 0), some (.int a1), some (.int a2), some (.int bytes), some (.int cells), some (.int 1), some (.int i)] [] (n, SH1, I, J) := by
  have k8 : (8 : Int32).toInt = 8 := rfl
  intro f
  induction f with
  | zero =>
    intro k i I hf hi hr hV
    have ekm : k = m := by omega
    refine q_ild rfl rfl ?_
    refine q_ild rfl rfl ?_
    refine q_icmp (c := 3) rfl (by decide) (fun y1 => ?_) (fun h => absurd (show (i).toInt < (cells).toInt from h) (by omega))
    have y1 : (cells).toInt ≤ (i).toInt := y1
    rw [ekm] at hV
    exact hk i I hr hV
  | succ f ih =>
    intro k i I hf hi hr hV
    have hin : i.toInt.toNat = k := by omega
    refine q_ild rfl rfl ?_
    refine q_ild rfl rfl ?_
    refine q_icmp (c := 3) rfl (by decide) (fun h => absurd (show (cells).toInt ≤ (i).toInt from h) (by omega)) (fun y2 => ?_)
    have y2 : (i).toInt < (cells).toInt := y2
    refine q_ild rfl rfl ?_
    refine q_ic rfl ?_
    refine q_icmp (c := 3) rfl (by decide) (fun h => absurd (show (8 : Int) ≤ (i).toInt from h) (by omega)) (fun y3 => ?_)
    have y3 : (i).toInt < (8 : Int) := y3
    refine q_ald rfl rfl ?_
    refine q_getr rfl sk_0 sr_0_11 ?_
    refine q_ild rfl rfl ?_
    refine q_xaldr rfl sk_204 sn_204 (by decide) (by decide) sr_204_1 ?_
    refine q_ild rfl rfl ?_
    refine q_ald rfl rfl ?_
    refine q_getr rfl sk_0 sr_0_6 ?_
    refine q_ald rfl rfl ?_
    refine q_getr rfl sk_0 sr_0_10 ?_
    refine q_ild rfl rfl ?_
    refine q_xald rfl (Or.inl rfl) sk_203 sn_203 (by omega) (by omega) ?_
    show dw_ok (pr_X11_tries K) 117 0 0 [some (.ref 0), some (.int a1), some (.int a2), some (.int bytes), some (.int cells), some (.int (1 : Int32)), some (.int i)] [.int (I 203 (i).toInt.toNat), .ref 164, .int i, .ref 206] (n, SH1, I, J)
    rw [hin]
    refine q_callV (as := [.int (I 203 k)]) (rest := [.int i, .ref 206]) rfl rfl sk_164 rfl (Nat.le_of_ble_eq_true rfl) ?_
    refine v_waterOf (A := 164) (N := Nn R) (k := cT R b k) (rt_ok (by decide)) (by rw [hr 203 (by decide)]; exact hT k (by omega)) (by rw [hr 164 (by decide)]; exact hn) hN9 (hl k (by omega)) ?_
    show dw_ok (pr_X11_tries K) 120 0 0 [some (.ref 0), some (.int a1), some (.int a2), some (.int bytes), some (.int cells), some (.int (1 : Int32)), some (.int i)] [.int (I (164 + 14) (cT R b k)), .int i, .ref 206] (n, SH1, I, J)
    rw [show I (164 + 14) (cT R b k) = W (cT R b k) by rw [hr (164 + 14) (by decide)]; exact hW _ (hl k (by omega))]
    show dw_ok (pr_X11_tries K) 120 0 0 [some (.ref 0), some (.int a1), some (.int a2), some (.int bytes), some (.int cells), some (.int (1 : Int32)), some (.int i)] [.int (W (cT R b k)), .int i, .ref 206] (n, SH1, I, J)
    refine q_iast rfl sk_206 sn_206 (by omega) (by omega) ?_
    show dw_ok (pr_X11_tries K) 121 0 0 [some (.ref 0), some (.int a1), some (.int a2), some (.int bytes), some (.int cells), some (.int (1 : Int32)), some (.int i)] [] (n, SH1, (dw_up I 206 (i).toInt.toNat (W (cT R b k))), J)
    rw [hin]
    refine q_inc rfl rfl rfl ?_
    show dw_ok (pr_X11_tries K) 124 0 0 [some (.ref 0), some (.int a1), some (.int a2), some (.int bytes), some (.int cells), some (.int (1 : Int32)), some (.int (i + 1))] [] (n, SH1, (dw_up I 206 k (W (cT R b k))), J)
    show dw_ok (pr_X11_tries K) 124 0 0 [some (.ref 0), some (.int a1), some (.int a2), some (.int bytes), some (.int cells), some (.int (1 : Int32)), some (.int (i + 1))] [] (n, SH1, (dw_up I 206 k (W (cT R b k))), J)
    obtain ⟨ix, hix⟩ : ∃ z, z = (i + 1) := ⟨_, rfl⟩
    rw [← hix]
    have eix : ix.toInt = ((k + 1 : Nat) : Int) := by rw [hix]; exact ix_1 hi (by omega)
    refine q_goto rfl ?_
    refine ih (k + 1) ix (dw_up I 206 k (W (cT R b k))) (by omega) eix (fun a ha => (up_row ha).trans (hr a ha)) (fun j hj => ?_)
    by_cases e : j = k
    · rw [e]; exact up_same
    · rw [show (dw_up I 206 k (W (cT R b k))) 206 j = I 206 j from up_fld e]; exact hV j (by omega)
set_option maxRecDepth 8000 in
theorem trw_loop_2 {n : Nat} {J : Nat → Nat → Int64} {K : dw_K} {R b W : Nat → Int32} {I0 : Nat → Nat → Int32} {a1 a2 bytes cells : Int32} {m : Nat} (hc : cells.toInt = m) (hm : m ≤ 8) (hN9 : Nn R ≤ 144) (hn : (I0 164 1).toInt = Nn R) (hW : ∀ c, c < Nn R → I0 (164 + 14) c = W c) (hT : ∀ i, i < m → (I0 203 i).toInt = cT R b i) (hl : ∀ i, i < m → cT R b i < Nn R)
    (hk : ∀ (i : Int32) (I' : Nat → Nat → Int32), (∀ a, a ≠ 207 → I' a = I0 a) → (∀ i, i < m → I' 207 i = W (cT R b i)) → dw_ok (pr_X11_tries K) 127 0 0 [some (.ref 0), some (.int a1), some (.int a2), some (.int bytes), some (.int cells), some (.int 2), some (.int i)] [] (n, SH1, I', J)) :
    ∀ (f k : Nat) (i : Int32) (I : Nat → Nat → Int32), k + f = m → i.toInt = k → (∀ a, a ≠ 207 → I a = I0 a) → (∀ i, i < k → I 207 i = W (cT R b i)) → dw_ok (pr_X11_tries K) 83 0 0 [some (.ref 0), some (.int a1), some (.int a2), some (.int bytes), some (.int cells), some (.int 2), some (.int i)] [] (n, SH1, I, J) := by
  have k8 : (8 : Int32).toInt = 8 := rfl
  intro f
  induction f with
  | zero =>
    intro k i I hf hi hr hV
    have ekm : k = m := by omega
    refine q_ild rfl rfl ?_
    refine q_ild rfl rfl ?_
    refine q_icmp (c := 3) rfl (by decide) (fun y1 => ?_) (fun h => absurd (show (i).toInt < (cells).toInt from h) (by omega))
    have y1 : (cells).toInt ≤ (i).toInt := y1
    rw [ekm] at hV
    exact hk i I hr hV
  | succ f ih =>
    intro k i I hf hi hr hV
    have hin : i.toInt.toNat = k := by omega
    refine q_ild rfl rfl ?_
    refine q_ild rfl rfl ?_
    refine q_icmp (c := 3) rfl (by decide) (fun h => absurd (show (cells).toInt ≤ (i).toInt from h) (by omega)) (fun y2 => ?_)
    have y2 : (i).toInt < (cells).toInt := y2
    refine q_ild rfl rfl ?_
    refine q_ic rfl ?_
    refine q_icmp (c := 3) rfl (by decide) (fun h => absurd (show (8 : Int) ≤ (i).toInt from h) (by omega)) (fun y3 => ?_)
    have y3 : (i).toInt < (8 : Int) := y3
    refine q_ald rfl rfl ?_
    refine q_getr rfl sk_0 sr_0_11 ?_
    refine q_ild rfl rfl ?_
    refine q_xaldr rfl sk_204 sn_204 (by decide) (by decide) sr_204_2 ?_
    refine q_ild rfl rfl ?_
    refine q_ald rfl rfl ?_
    refine q_getr rfl sk_0 sr_0_6 ?_
    refine q_ald rfl rfl ?_
    refine q_getr rfl sk_0 sr_0_10 ?_
    refine q_ild rfl rfl ?_
    refine q_xald rfl (Or.inl rfl) sk_203 sn_203 (by omega) (by omega) ?_
    show dw_ok (pr_X11_tries K) 117 0 0 [some (.ref 0), some (.int a1), some (.int a2), some (.int bytes), some (.int cells), some (.int (2 : Int32)), some (.int i)] [.int (I 203 (i).toInt.toNat), .ref 164, .int i, .ref 207] (n, SH1, I, J)
    rw [hin]
    refine q_callV (as := [.int (I 203 k)]) (rest := [.int i, .ref 207]) rfl rfl sk_164 rfl (Nat.le_of_ble_eq_true rfl) ?_
    refine v_waterOf (A := 164) (N := Nn R) (k := cT R b k) (rt_ok (by decide)) (by rw [hr 203 (by decide)]; exact hT k (by omega)) (by rw [hr 164 (by decide)]; exact hn) hN9 (hl k (by omega)) ?_
    show dw_ok (pr_X11_tries K) 120 0 0 [some (.ref 0), some (.int a1), some (.int a2), some (.int bytes), some (.int cells), some (.int (2 : Int32)), some (.int i)] [.int (I (164 + 14) (cT R b k)), .int i, .ref 207] (n, SH1, I, J)
    rw [show I (164 + 14) (cT R b k) = W (cT R b k) by rw [hr (164 + 14) (by decide)]; exact hW _ (hl k (by omega))]
    show dw_ok (pr_X11_tries K) 120 0 0 [some (.ref 0), some (.int a1), some (.int a2), some (.int bytes), some (.int cells), some (.int (2 : Int32)), some (.int i)] [.int (W (cT R b k)), .int i, .ref 207] (n, SH1, I, J)
    refine q_iast rfl sk_207 sn_207 (by omega) (by omega) ?_
    show dw_ok (pr_X11_tries K) 121 0 0 [some (.ref 0), some (.int a1), some (.int a2), some (.int bytes), some (.int cells), some (.int (2 : Int32)), some (.int i)] [] (n, SH1, (dw_up I 207 (i).toInt.toNat (W (cT R b k))), J)
    rw [hin]
    refine q_inc rfl rfl rfl ?_
    show dw_ok (pr_X11_tries K) 124 0 0 [some (.ref 0), some (.int a1), some (.int a2), some (.int bytes), some (.int cells), some (.int (2 : Int32)), some (.int (i + 1))] [] (n, SH1, (dw_up I 207 k (W (cT R b k))), J)
    show dw_ok (pr_X11_tries K) 124 0 0 [some (.ref 0), some (.int a1), some (.int a2), some (.int bytes), some (.int cells), some (.int (2 : Int32)), some (.int (i + 1))] [] (n, SH1, (dw_up I 207 k (W (cT R b k))), J)
    obtain ⟨ix, hix⟩ : ∃ z, z = (i + 1) := ⟨_, rfl⟩
    rw [← hix]
    have eix : ix.toInt = ((k + 1 : Nat) : Int) := by rw [hix]; exact ix_1 hi (by omega)
    refine q_goto rfl ?_
    refine ih (k + 1) ix (dw_up I 207 k (W (cT R b k))) (by omega) eix (fun a ha => (up_row ha).trans (hr a ha)) (fun j hj => ?_)
    by_cases e : j = k
    · rw [e]; exact up_same
    · rw [show (dw_up I 207 k (W (cT R b k))) 207 j = I 207 j from up_fld e]; exact hV j (by omega)
set_option maxRecDepth 8000 in
theorem trs_3 {n : Nat} {I : Nat → Nat → Int32} {J : Nat → Nat → Int64} {K : dw_K} {R b : Nat → Int32} {a1 a2 bytes cells : Int32} {u : Option Value} {m : Nat} (hR : SREL I 3 R) (oS : okS R a1) (oT : okT a2) (hc : cells.toInt = m) (hm : m ≤ 8) (hT : ∀ i, i < m → (I 203 i).toInt = cT R b i) (hl : ∀ i, i < m → cT R b i < Nn R) (h0 : ∀ i, i < m → I 205 i = (wTr R b (nX R a1) a2.toInt.toNat 0) i) (h1 : ∀ i, i < m → I 206 i = (wTr R b (nX R a1) a2.toInt.toNat 1) i) (h2 : ∀ i, i < m → I 207 i = (wTr R b (nX R a1) a2.toInt.toNat 2) i) (hk : okS R a1 → ∀ (w : Int32) (I' : Nat → Nat → Int32), w.toInt = (bsF (wTr R b (nX R a1) a2.toInt.toNat 0) (wTr R b (nX R a1) a2.toInt.toNat 1) (wTr R b (nX R a1) a2.toInt.toNat 2) m (2 ^ m)).1 → K (some (.int w)) (n, SH1, I', J)) : dw_ok (pr_X11_tries K) 41 0 0 [some (.ref 0), some (.int a1), some (.int a2), some (.int bytes), some (.int cells), some (.int 3), u] [] (n, SH1, I, J) := by
  have k1 : (1 : Int32).toInt = 1 := rfl
  have hG := hR.1
  have hN9 := (gok_N hG).2
  obtain ⟨t0, t9⟩ := id oT
  refine q_ild rfl rfl ?_
  refine q_ic rfl ?_
  refine q_icmp (c := 3) rfl (by decide) (fun y1 => ?_) (fun h => absurd (show (3 : Int) < (3 : Int) from h) (by decide))
  have y1 : (3 : Int) ≤ (3 : Int) := y1
  refine q_ald rfl rfl ?_
  refine q_ild rfl rfl ?_
  refine q_callV (as := [.int cells]) (rest := []) rfl rfl sk_0 rfl (Nat.le_of_ble_eq_true rfl) ?_
  refine v_fewest hc hm (fun w hw => ?_)
  show dw_ok (pr_X11_tries K) 139 0 0 [some (.ref 0), some (.int a1), some (.int a2), some (.int bytes), some (.int cells), some (.int (3 : Int32)), u] [.int w] (n, SH1, I, J)
  refine q_iret rfl (hk oS w I (hw.trans ?_))
  rw [bsF_eq (fun i hi => ⟨h0 i hi, h1 i hi, h2 i hi⟩)]
set_option maxRecDepth 8000 in
theorem trs_2 {n : Nat} {I : Nat → Nat → Int32} {J : Nat → Nat → Int64} {K : dw_K} {R b : Nat → Int32} {a1 a2 bytes cells : Int32} {u : Option Value} {m : Nat} (hR : SREL I 3 R) (oS : okS R a1) (oT : okT a2) (hc : cells.toInt = m) (hm : m ≤ 8) (hT : ∀ i, i < m → (I 203 i).toInt = cT R b i) (hl : ∀ i, i < m → cT R b i < Nn R) (h0 : ∀ i, i < m → I 205 i = (wTr R b (nX R a1) a2.toInt.toNat 0) i) (h1 : ∀ i, i < m → I 206 i = (wTr R b (nX R a1) a2.toInt.toNat 1) i) (hk : okS R a1 → ∀ (w : Int32) (I' : Nat → Nat → Int32), w.toInt = (bsF (wTr R b (nX R a1) a2.toInt.toNat 0) (wTr R b (nX R a1) a2.toInt.toNat 1) (wTr R b (nX R a1) a2.toInt.toNat 2) m (2 ^ m)).1 → K (some (.int w)) (n, SH1, I', J)) : dw_ok (pr_X11_tries K) 41 0 0 [some (.ref 0), some (.int a1), some (.int a2), some (.int bytes), some (.int cells), some (.int 2), u] [] (n, SH1, I, J) := by
  have k1 : (1 : Int32).toInt = 1 := rfl
  have hG := hR.1
  have hN9 := (gok_N hG).2
  obtain ⟨t0, t9⟩ := id oT
  refine q_ild rfl rfl ?_
  refine q_ic rfl ?_
  refine q_icmp (c := 3) rfl (by decide) (fun h => absurd (show (3 : Int) ≤ (2 : Int) from h) (by decide)) (fun y1 => ?_)
  have y1 : (2 : Int) < (3 : Int) := y1
  refine q_ald rfl rfl ?_
  refine q_ald rfl rfl ?_
  refine q_getr rfl sk_0 sr_0_6 ?_
  refine q_ild rfl rfl ?_
  refine q_callV (as := [.ref 164, .int a1]) (rest := []) rfl rfl sk_0 rfl (Nat.le_of_ble_eq_true rfl) ?_
  refine v_startR hR (Or.inr (Or.inl rfl)) (fun s1 hs hxs hS I1 q0 _ hC _ _ _ => ?_) (fun hno => ?_)
  · show dw_ok (pr_X11_tries K) 56 0 0 [some (.ref 0), some (.int a1), some (.int a2), some (.int bytes), some (.int cells), some (.int (2 : Int32)), u] [.int (1 : Int32)] (n, SH1, I1, J)
    refine q_if (c := 1) rfl (by decide) (fun y2 => ?_) (fun h => absurd (show (1 : Int) = 0 from h) (by decide))
    have y2 : (1 : Int) ≠ 0 := y2
    refine q_ald rfl rfl ?_
    refine q_getr rfl sk_0 sr_0_6 ?_
    refine q_ild rfl rfl ?_
    refine q_puti rfl sk_164 ?_
    show dw_ok (pr_X11_tries K) 70 0 0 [some (.ref 0), some (.int a1), some (.int a2), some (.int bytes), some (.int cells), some (.int (2 : Int32)), u] [] (n, SH1, (dw_up I1 164 5 (2 : Int32)), J)
    refine q_ald rfl rfl ?_
    refine q_getr rfl sk_0 sr_0_6 ?_
    refine q_ild rfl rfl ?_
    refine q_ic rfl ?_
    refine q_add rfl ?_
    refine q_callV (as := [.int (a2 + (1 : Int32))]) (rest := []) rfl rfl sk_164 rfl (Nat.le_of_ble_eq_true rfl) ?_
    obtain ⟨oS1, eS⟩ := okS_of hs hxs hS
    rw [← eS] at hC
    have hK1 := csk_st (st := 2) (v := (2 : Int32)) hG hC rfl
    refine v_untilR (A := 164) (j := a2.toInt.toNat + 1) (rt_ok (by decide)) hK1 (by omega) hN9 (Or.inl (by rw [i_add (by omega) (by omega), k1]; omega)) (fun I2 g1 _ hK2 => ?_)
    rw [Nat.zero_add] at hK2
    show dw_ok (pr_X11_tries K) 80 0 0 [some (.ref 0), some (.int a1), some (.int a2), some (.int bytes), some (.int cells), some (.int (2 : Int32)), u] [] (n, SH1, I2, J)
    refine q_ic rfl ?_
    refine q_ist rfl rfl ?_
    show dw_ok (pr_X11_tries K) 83 0 0 [some (.ref 0), some (.int a1), some (.int a2), some (.int bytes), some (.int cells), some (.int (2 : Int32)), some (.int (0 : Int32))] [] (n, SH1, I2, J)
    have r2 : ∀ a, (a < 164 ∨ 178 < a) → I2 a = I a := fun a p => (g1 a (by omega) (by omega) (by omega)).trans ((up_row (by omega)).trans (q0 a (by omega)))
    refine trw_loop_2 (R := R) (b := b) (W := fun c => (runW R (nX R a1) 2 (a2.toInt.toNat + 1)).2.1 c) (I0 := I2) hc hm hN9 hK2.2.2.2.1 hK2.2.2.1.2.1 (fun i hi => by rw [r2 203 (by decide)]; exact hT i hi) hl (fun i I3 r3 hV => ?_) m 0 0 I2 (by omega) rfl (fun _ _ => rfl) (fun i hi => absurd hi (Nat.not_lt_zero i))
    show dw_ok (pr_X11_tries K) 127 0 0 [some (.ref 0), some (.int a1), some (.int a2), some (.int bytes), some (.int cells), some (.int (2 : Int32)), some (.int i)] [] (n, SH1, I3, J)
    refine q_inc rfl rfl rfl ?_
    show dw_ok (pr_X11_tries K) 130 0 0 [some (.ref 0), some (.int a1), some (.int a2), some (.int bytes), some (.int cells), some (.int ((2 : Int32) + 1)), some (.int i)] [] (n, SH1, I3, J)
    refine q_goto rfl ?_
    have hR3 : SREL I3 3 R := srel_fr (S := 3) (fun a p q => (r3 a (by omega)).trans (r2 a (by omega))) (fun _ _ => rfl) hR
    rw [show ((2 : Int32) + 1) = (3 : Int32) from rfl]
    exact trs_3 hR3 oS1 oT hc hm (fun i hi => by rw [r3 203 (by decide), r2 203 (by decide)]; exact hT i hi) hl (fun i hi => by rw [r3 205 (by decide), r2 205 (by decide)]; exact h0 i hi) (fun i hi => by rw [r3 206 (by decide), r2 206 (by decide)]; exact h1 i hi) (fun i hi => hV i hi) (fun oS => hk oS)
  · exact absurd oS (okS_no hno)
set_option maxRecDepth 8000 in
theorem trs_1 {n : Nat} {I : Nat → Nat → Int32} {J : Nat → Nat → Int64} {K : dw_K} {R b : Nat → Int32} {a1 a2 bytes cells : Int32} {u : Option Value} {m : Nat} (hR : SREL I 3 R) (oS : okS R a1) (oT : okT a2) (hc : cells.toInt = m) (hm : m ≤ 8) (hT : ∀ i, i < m → (I 203 i).toInt = cT R b i) (hl : ∀ i, i < m → cT R b i < Nn R) (h0 : ∀ i, i < m → I 205 i = (wTr R b (nX R a1) a2.toInt.toNat 0) i) (hk : okS R a1 → ∀ (w : Int32) (I' : Nat → Nat → Int32), w.toInt = (bsF (wTr R b (nX R a1) a2.toInt.toNat 0) (wTr R b (nX R a1) a2.toInt.toNat 1) (wTr R b (nX R a1) a2.toInt.toNat 2) m (2 ^ m)).1 → K (some (.int w)) (n, SH1, I', J)) : dw_ok (pr_X11_tries K) 41 0 0 [some (.ref 0), some (.int a1), some (.int a2), some (.int bytes), some (.int cells), some (.int 1), u] [] (n, SH1, I, J) := by
  have k1 : (1 : Int32).toInt = 1 := rfl
  have hG := hR.1
  have hN9 := (gok_N hG).2
  obtain ⟨t0, t9⟩ := id oT
  refine q_ild rfl rfl ?_
  refine q_ic rfl ?_
  refine q_icmp (c := 3) rfl (by decide) (fun h => absurd (show (3 : Int) ≤ (1 : Int) from h) (by decide)) (fun y1 => ?_)
  have y1 : (1 : Int) < (3 : Int) := y1
  refine q_ald rfl rfl ?_
  refine q_ald rfl rfl ?_
  refine q_getr rfl sk_0 sr_0_6 ?_
  refine q_ild rfl rfl ?_
  refine q_callV (as := [.ref 164, .int a1]) (rest := []) rfl rfl sk_0 rfl (Nat.le_of_ble_eq_true rfl) ?_
  refine v_startR hR (Or.inr (Or.inl rfl)) (fun s1 hs hxs hS I1 q0 _ hC _ _ _ => ?_) (fun hno => ?_)
  · show dw_ok (pr_X11_tries K) 56 0 0 [some (.ref 0), some (.int a1), some (.int a2), some (.int bytes), some (.int cells), some (.int (1 : Int32)), u] [.int (1 : Int32)] (n, SH1, I1, J)
    refine q_if (c := 1) rfl (by decide) (fun y2 => ?_) (fun h => absurd (show (1 : Int) = 0 from h) (by decide))
    have y2 : (1 : Int) ≠ 0 := y2
    refine q_ald rfl rfl ?_
    refine q_getr rfl sk_0 sr_0_6 ?_
    refine q_ild rfl rfl ?_
    refine q_puti rfl sk_164 ?_
    show dw_ok (pr_X11_tries K) 70 0 0 [some (.ref 0), some (.int a1), some (.int a2), some (.int bytes), some (.int cells), some (.int (1 : Int32)), u] [] (n, SH1, (dw_up I1 164 5 (1 : Int32)), J)
    refine q_ald rfl rfl ?_
    refine q_getr rfl sk_0 sr_0_6 ?_
    refine q_ild rfl rfl ?_
    refine q_ic rfl ?_
    refine q_add rfl ?_
    refine q_callV (as := [.int (a2 + (1 : Int32))]) (rest := []) rfl rfl sk_164 rfl (Nat.le_of_ble_eq_true rfl) ?_
    obtain ⟨oS1, eS⟩ := okS_of hs hxs hS
    rw [← eS] at hC
    have hK1 := csk_st (st := 1) (v := (1 : Int32)) hG hC rfl
    refine v_untilR (A := 164) (j := a2.toInt.toNat + 1) (rt_ok (by decide)) hK1 (by omega) hN9 (Or.inl (by rw [i_add (by omega) (by omega), k1]; omega)) (fun I2 g1 _ hK2 => ?_)
    rw [Nat.zero_add] at hK2
    show dw_ok (pr_X11_tries K) 80 0 0 [some (.ref 0), some (.int a1), some (.int a2), some (.int bytes), some (.int cells), some (.int (1 : Int32)), u] [] (n, SH1, I2, J)
    refine q_ic rfl ?_
    refine q_ist rfl rfl ?_
    show dw_ok (pr_X11_tries K) 83 0 0 [some (.ref 0), some (.int a1), some (.int a2), some (.int bytes), some (.int cells), some (.int (1 : Int32)), some (.int (0 : Int32))] [] (n, SH1, I2, J)
    have r2 : ∀ a, (a < 164 ∨ 178 < a) → I2 a = I a := fun a p => (g1 a (by omega) (by omega) (by omega)).trans ((up_row (by omega)).trans (q0 a (by omega)))
    refine trw_loop_1 (R := R) (b := b) (W := fun c => (runW R (nX R a1) 1 (a2.toInt.toNat + 1)).2.1 c) (I0 := I2) hc hm hN9 hK2.2.2.2.1 hK2.2.2.1.2.1 (fun i hi => by rw [r2 203 (by decide)]; exact hT i hi) hl (fun i I3 r3 hV => ?_) m 0 0 I2 (by omega) rfl (fun _ _ => rfl) (fun i hi => absurd hi (Nat.not_lt_zero i))
    show dw_ok (pr_X11_tries K) 127 0 0 [some (.ref 0), some (.int a1), some (.int a2), some (.int bytes), some (.int cells), some (.int (1 : Int32)), some (.int i)] [] (n, SH1, I3, J)
    refine q_inc rfl rfl rfl ?_
    show dw_ok (pr_X11_tries K) 130 0 0 [some (.ref 0), some (.int a1), some (.int a2), some (.int bytes), some (.int cells), some (.int ((1 : Int32) + 1)), some (.int i)] [] (n, SH1, I3, J)
    refine q_goto rfl ?_
    have hR3 : SREL I3 3 R := srel_fr (S := 3) (fun a p q => (r3 a (by omega)).trans (r2 a (by omega))) (fun _ _ => rfl) hR
    rw [show ((1 : Int32) + 1) = (2 : Int32) from rfl]
    exact trs_2 hR3 oS1 oT hc hm (fun i hi => by rw [r3 203 (by decide), r2 203 (by decide)]; exact hT i hi) hl (fun i hi => by rw [r3 205 (by decide), r2 205 (by decide)]; exact h0 i hi) (fun i hi => hV i hi) (fun oS => hk oS)
  · exact absurd oS (okS_no hno)
set_option maxRecDepth 8000 in
theorem trs_0 {n : Nat} {I : Nat → Nat → Int32} {J : Nat → Nat → Int64} {K : dw_K} {R b : Nat → Int32} {a1 a2 bytes cells : Int32} {u : Option Value} {m : Nat} (hR : SREL I 3 R) (oT : okT a2) (hc : cells.toInt = m) (hm : m ≤ 8) (hT : ∀ i, i < m → (I 203 i).toInt = cT R b i) (hl : ∀ i, i < m → cT R b i < Nn R) (hn : ¬ okS R a1 → ∀ I' : Nat → Nat → Int32, K (some (.int (-1))) (n, SH1, I', J)) (hk : okS R a1 → ∀ (w : Int32) (I' : Nat → Nat → Int32), w.toInt = (bsF (wTr R b (nX R a1) a2.toInt.toNat 0) (wTr R b (nX R a1) a2.toInt.toNat 1) (wTr R b (nX R a1) a2.toInt.toNat 2) m (2 ^ m)).1 → K (some (.int w)) (n, SH1, I', J)) : dw_ok (pr_X11_tries K) 41 0 0 [some (.ref 0), some (.int a1), some (.int a2), some (.int bytes), some (.int cells), some (.int 0), u] [] (n, SH1, I, J) := by
  have k1 : (1 : Int32).toInt = 1 := rfl
  have hG := hR.1
  have hN9 := (gok_N hG).2
  obtain ⟨t0, t9⟩ := id oT
  refine q_ild rfl rfl ?_
  refine q_ic rfl ?_
  refine q_icmp (c := 3) rfl (by decide) (fun h => absurd (show (3 : Int) ≤ (0 : Int) from h) (by decide)) (fun y1 => ?_)
  have y1 : (0 : Int) < (3 : Int) := y1
  refine q_ald rfl rfl ?_
  refine q_ald rfl rfl ?_
  refine q_getr rfl sk_0 sr_0_6 ?_
  refine q_ild rfl rfl ?_
  refine q_callV (as := [.ref 164, .int a1]) (rest := []) rfl rfl sk_0 rfl (Nat.le_of_ble_eq_true rfl) ?_
  refine v_startR hR (Or.inr (Or.inl rfl)) (fun s1 hs hxs hS I1 q0 _ hC _ _ _ => ?_) (fun hno => ?_)
  · show dw_ok (pr_X11_tries K) 56 0 0 [some (.ref 0), some (.int a1), some (.int a2), some (.int bytes), some (.int cells), some (.int (0 : Int32)), u] [.int (1 : Int32)] (n, SH1, I1, J)
    refine q_if (c := 1) rfl (by decide) (fun y2 => ?_) (fun h => absurd (show (1 : Int) = 0 from h) (by decide))
    have y2 : (1 : Int) ≠ 0 := y2
    refine q_ald rfl rfl ?_
    refine q_getr rfl sk_0 sr_0_6 ?_
    refine q_ild rfl rfl ?_
    refine q_puti rfl sk_164 ?_
    show dw_ok (pr_X11_tries K) 70 0 0 [some (.ref 0), some (.int a1), some (.int a2), some (.int bytes), some (.int cells), some (.int (0 : Int32)), u] [] (n, SH1, (dw_up I1 164 5 (0 : Int32)), J)
    refine q_ald rfl rfl ?_
    refine q_getr rfl sk_0 sr_0_6 ?_
    refine q_ild rfl rfl ?_
    refine q_ic rfl ?_
    refine q_add rfl ?_
    refine q_callV (as := [.int (a2 + (1 : Int32))]) (rest := []) rfl rfl sk_164 rfl (Nat.le_of_ble_eq_true rfl) ?_
    obtain ⟨oS1, eS⟩ := okS_of hs hxs hS
    rw [← eS] at hC
    have hK1 := csk_st (st := 0) (v := (0 : Int32)) hG hC rfl
    refine v_untilR (A := 164) (j := a2.toInt.toNat + 1) (rt_ok (by decide)) hK1 (by omega) hN9 (Or.inl (by rw [i_add (by omega) (by omega), k1]; omega)) (fun I2 g1 _ hK2 => ?_)
    rw [Nat.zero_add] at hK2
    show dw_ok (pr_X11_tries K) 80 0 0 [some (.ref 0), some (.int a1), some (.int a2), some (.int bytes), some (.int cells), some (.int (0 : Int32)), u] [] (n, SH1, I2, J)
    refine q_ic rfl ?_
    refine q_ist rfl rfl ?_
    show dw_ok (pr_X11_tries K) 83 0 0 [some (.ref 0), some (.int a1), some (.int a2), some (.int bytes), some (.int cells), some (.int (0 : Int32)), some (.int (0 : Int32))] [] (n, SH1, I2, J)
    have r2 : ∀ a, (a < 164 ∨ 178 < a) → I2 a = I a := fun a p => (g1 a (by omega) (by omega) (by omega)).trans ((up_row (by omega)).trans (q0 a (by omega)))
    refine trw_loop_0 (R := R) (b := b) (W := fun c => (runW R (nX R a1) 0 (a2.toInt.toNat + 1)).2.1 c) (I0 := I2) hc hm hN9 hK2.2.2.2.1 hK2.2.2.1.2.1 (fun i hi => by rw [r2 203 (by decide)]; exact hT i hi) hl (fun i I3 r3 hV => ?_) m 0 0 I2 (by omega) rfl (fun _ _ => rfl) (fun i hi => absurd hi (Nat.not_lt_zero i))
    show dw_ok (pr_X11_tries K) 127 0 0 [some (.ref 0), some (.int a1), some (.int a2), some (.int bytes), some (.int cells), some (.int (0 : Int32)), some (.int i)] [] (n, SH1, I3, J)
    refine q_inc rfl rfl rfl ?_
    show dw_ok (pr_X11_tries K) 130 0 0 [some (.ref 0), some (.int a1), some (.int a2), some (.int bytes), some (.int cells), some (.int ((0 : Int32) + 1)), some (.int i)] [] (n, SH1, I3, J)
    refine q_goto rfl ?_
    have hR3 : SREL I3 3 R := srel_fr (S := 3) (fun a p q => (r3 a (by omega)).trans (r2 a (by omega))) (fun _ _ => rfl) hR
    rw [show ((0 : Int32) + 1) = (1 : Int32) from rfl]
    exact trs_1 hR3 oS1 oT hc hm (fun i hi => by rw [r3 203 (by decide), r2 203 (by decide)]; exact hT i hi) hl (fun i hi => hV i hi) (fun oS => hk oS)
  · show dw_ok (pr_X11_tries K) 56 0 0 [some (.ref 0), some (.int a1), some (.int a2), some (.int bytes), some (.int cells), some (.int (0 : Int32)), u] [.int (0 : Int32)] (n, SH1, I, J)
    refine q_if (c := 1) rfl (by decide) (fun h => absurd (show (0 : Int) ≠ 0 from h) (by decide)) (fun y3 => ?_)
    have y3 : (0 : Int) = 0 := y3
    refine q_ic rfl ?_
    exact q_iret rfl (hn (okS_no hno) _)
set_option maxRecDepth 8000 in
theorem v_ctries {n : Nat} {I : Nat → Nat → Int32} {J : Nat → Nat → Int64} {K : dw_K} {R : Nat → Int32} (hR : SREL I 3 R) {b : Nat → Int32} {a1 a2 : Int32} {N : Nat} (hz : (I 1 1).toInt = N) (hN9 : N ≤ 940) (hb : ∀ c, c < N → I 2 c = b c) (hk : ∀ (w : Int32) (I' : Nat → Nat → Int32), w.toInt = aTries R b N a1 a2 → K (some (.int w)) (n, SH1, I', J)) : t_X11_tries [.ref 0, .int a1, .int a2] (n, SH1, I, J) K := by
  have cm1 : (-1 : Int32).toInt = -1 := rfl
  have k0 : (0 : Int32).toInt = 0 := rfl
  have k1 : (1 : Int32).toInt = 1 := rfl
  have hz2 := (hf_i hz hN9).1
  refine q_body (Nat.le_of_ble_eq_true rfl) ?_
  refine q_ald rfl rfl ?_
  refine q_getr rfl sk_0 sr_0_0 ?_
  refine q_geti rfl sk_1 ?_
  refine q_ist rfl rfl ?_
  show dw_ok (pr_X11_tries K) 8 0 0 [some (.ref 0), some (.int a1), some (.int a2), some (.int (I 1 1)), none, none, none] [] (n, SH1, I, J)
  refine q_ald rfl rfl ?_
  refine q_getr rfl sk_0 sr_0_0 ?_
  refine q_ic rfl ?_
  refine q_puti rfl sk_1 ?_
  show dw_ok (pr_X11_tries K) 16 0 0 [some (.ref 0), some (.int a1), some (.int a2), some (.int (I 1 1)), none, none, none] [] (n, SH1, (dw_up I 1 1 (0 : Int32)), J)
  refine q_ild rfl rfl ?_
  refine q_ic rfl ?_
  refine q_div rfl (by decide) ?_
  show dw_ok (pr_X11_tries K) 19 0 0 [some (.ref 0), some (.int a1), some (.int a2), some (.int (I 1 1)), none, none, none] [.int ((I 1 1) / (2 : Int32))] (n, SH1, (dw_up I 1 1 (0 : Int32)), J)
  obtain ⟨cl, hcl⟩ : ∃ z, z = ((I 1 1) / (2 : Int32)) := ⟨_, rfl⟩
  rw [← hcl]
  have ecl : cl.toInt = ((N / 2 : Nat) : Int) := by rw [hcl]; exact hz2
  refine q_ist rfl rfl ?_
  show dw_ok (pr_X11_tries K) 21 0 0 [some (.ref 0), some (.int a1), some (.int a2), some (.int (I 1 1)), some (.int cl), none, none] [] (n, SH1, (dw_up I 1 1 (0 : Int32)), J)
  refine q_ald rfl rfl ?_
  refine q_ild rfl rfl ?_
  refine q_callV (as := [.int (I 1 1)]) (rest := []) rfl rfl sk_0 rfl (Nat.le_of_ble_eq_true rfl) ?_
  refine v_tried (R := R) (b := b) (N := N) hR.1 ((congrFun (up_row (by decide)) 0).trans ((rg_3 hR).1 0 (by decide))) ((congrFun (up_row (by decide)) 1).trans ((rg_3 hR).1 1 (by decide))) hz hN9 (fun c hc => (congrFun (up_row (by decide)) c).trans (hb c hc)) (fun w I1 r1 hw => ?_)
  rcases hw with ⟨rfl, oB, hT⟩ | ⟨rfl, oB⟩
  · show dw_ok (pr_X11_tries K) 26 0 0 [some (.ref 0), some (.int a1), some (.int a2), some (.int (I 1 1)), some (.int cl), none, none] [.int (1 : Int32)] (n, SH1, I1, J)
    refine q_if (c := 0) rfl (by decide) (fun h => absurd (show (1 : Int) = 0 from h) (by decide)) (fun y1 => ?_)
    have y1 : (1 : Int) ≠ 0 := y1
    refine q_ild rfl rfl ?_
    refine q_callS (as := [.int a2]) (rest := []) rfl rfl rfl rfl ?_
    refine v_cIsStep (fun w_ oT => ?_)
    rcases oT with ⟨rfl, oT⟩ | ⟨rfl, oT⟩
    · show dw_ok (pr_X11_tries K) 33 0 0 [some (.ref 0), some (.int a1), some (.int a2), some (.int (I 1 1)), some (.int cl), none, none] [.int (1 : Int32)] (n, SH1, I1, J)
      refine q_if (c := 1) rfl (by decide) (fun y2 => ?_) (fun h => absurd (show (1 : Int) = 0 from h) (by decide))
      have y2 : (1 : Int) ≠ 0 := y2
      refine q_ic rfl ?_
      refine q_ist rfl rfl ?_
      show dw_ok (pr_X11_tries K) 41 0 0 [some (.ref 0), some (.int a1), some (.int a2), some (.int (I 1 1)), some (.int cl), some (.int (0 : Int32)), none] [] (n, SH1, I1, J)
      have hR1 : SREL I1 3 R := srel_fr (S := 3) (fun a p q => (r1 a (by omega)).trans (up_row (by omega))) (fun _ _ => rfl) hR
      exact trs_0 (m := N / 2) hR1 oT ecl (by have := oB.2.1; omega) hT (fun i hi => cN_lt (oB.2.2.2 i hi).1) (fun no I' => hk _ I' (by unfold aTries; rw [if_neg (fun q => no q.1)]; exact cm1)) (fun oS w I' hw => hk w I' (by unfold aTries; rw [if_pos ⟨oS, oT, oB⟩]; exact hw))
    · show dw_ok (pr_X11_tries K) 33 0 0 [some (.ref 0), some (.int a1), some (.int a2), some (.int (I 1 1)), some (.int cl), none, none] [.int (0 : Int32)] (n, SH1, I1, J)
      refine q_if (c := 1) rfl (by decide) (fun h => absurd (show (0 : Int) ≠ 0 from h) (by decide)) (fun y3 => ?_)
      have y3 : (0 : Int) = 0 := y3
      refine q_ic rfl ?_
      refine q_iret rfl (hk _ _ ?_)
      unfold aTries
      rw [if_neg (fun q => oT q.2.1)]
      exact cm1
  · show dw_ok (pr_X11_tries K) 26 0 0 [some (.ref 0), some (.int a1), some (.int a2), some (.int (I 1 1)), some (.int cl), none, none] [.int (0 : Int32)] (n, SH1, I1, J)
    refine q_if (c := 0) rfl (by decide) (fun y4 => ?_) (fun h => absurd (show (0 : Int) ≠ 0 from h) (by decide))
    have y4 : (0 : Int) = 0 := y4
    refine q_ic rfl ?_
    refine q_iret rfl (hk _ _ ?_)
    unfold aTries
    rw [if_neg (fun q => oB q.2.2)]
    exact cm1
end
section
set_option maxRecDepth 8000 in
theorem mthF_loop {n : Nat} {J : Nat → Nat → Int64} {K : dw_K} {R : Nat → Int32} {I0 : Nat → Nat → Int32} {N st m : Nat} {C : Nat → Nat → rC} {T : Nat → rN} {s0 : rS} {x wh tl : Int32} (hP : PUR N C T s0 0) (htl : tl.toInt + 1 = m) (hm : m ≤ 144)
    (hk : ∀ I' : Nat → Nat → Int32, I' 406 = R → (∀ a, a ≠ 404 → (a < 411 ∨ 419 < a) → I' a = I0 a) → MSK I' N st C T s0 0 m → K none (n, SH1, I', J)) :
    ∀ (f k : Nat) (t : Int32) (I : Nat → Nat → Int32), k + f = m → t.toInt = k → I 406 = R → (∀ a, a ≠ 404 → (a < 411 ∨ 419 < a) → I a = I0 a) → MSK I N st C T s0 0 k → dw_ok (pr_X12_through K) 9 0 0 [some (.ref 404), some (.int x), some (.int wh), some (.int tl), some (.int t)] [] (n, SH1, I, J) := by
  have k1 : (1 : Int32).toInt = 1 := rfl
  intro f
  induction f with
  | zero =>
    intro k t I hf ht hR hr hM
    refine q_ild rfl rfl ?_
    refine q_ild rfl rfl ?_
    refine q_icmp (c := 4) rfl (by decide) (fun _ => ?_) (fun h => absurd (show t.toInt ≤ tl.toInt from h) (by omega))
    have ekm : k = m := by omega
    rw [ekm] at hM
    exact q_vret rfl (hk I hR hr hM)
  | succ f ih =>
    intro k t I hf ht hR hr hM
    refine q_ild rfl rfl ?_
    refine q_ild rfl rfl ?_
    refine q_icmp (c := 4) rfl (by decide) (fun h => absurd (show tl.toInt < t.toInt from h) (by omega)) (fun _ => ?_)
    refine q_ald rfl rfl ?_
    refine q_ild rfl rfl ?_
    refine q_callV (as := [.int t]) (rest := []) rfl rfl sk_404 rfl (Nat.le_of_ble_eq_true rfl) ?_
    refine v_mstepR hP hM (by omega) (by omega) (fun I' g1 _ g3 => ?_)
    show dw_ok (pr_X12_through K) 21 0 0 [some (.ref 404), some (.int x), some (.int wh), some (.int tl), some (.int t)] [] (n, SH1, I', J)
    refine q_inc rfl rfl rfl ?_
    refine q_goto rfl ?_
    exact ih (k + 1) (t + 1) I' (by omega) (by rw [i_add (by omega) (by omega), k1, ht]; omega) ((g1 406 (by decide) (by decide) (by decide)).trans hR) (fun a q1 q2 => (g1 a q1 (by omega) (by omega)).trans (hr a q1 q2)) g3
set_option maxRecDepth 8000 in
theorem v_thrT {n : Nat} {I : Nat → Nat → Int32} {J : Nat → Nat → Int64} {K : dw_K} {x wh tl : Int32} {R : Nat → Int32} {st : Nat} (hR : I 406 = R) (hG : GOK R) (hx : okS R x) (hS : NOK (nX R x)) (hst : wh.toInt = st) (ht : okT tl)
    (hk : ∀ I' : Nat → Nat → Int32, I' 406 = R → (∀ a, a ≠ 404 → (a < 411 ∨ 419 < a) → I' a = I a) → (∀ c, c < Nn R → I' 417 c = (runW R (nX R x) st (tl.toInt.toNat + 1)).2.1 c) → K none (n, SH1, I', J)) : t_X12_through [.ref 404, .int x, .int wh, .int tl] (n, SH1, I, J) K := by
  obtain ⟨t0, t9⟩ := id ht
  refine q_body (Nat.le_of_ble_eq_true rfl) ?_
  refine q_ald rfl rfl ?_
  refine q_ild rfl rfl ?_
  refine q_ild rfl rfl ?_
  refine q_callV (as := [.int x, .int wh]) (rest := []) rfl rfl sk_404 rfl (Nat.le_of_ble_eq_true rfl) ?_
  refine v_mstartR hR hG hx hS hst (fun I1 g0 _ _ hM _ => ?_)
  show dw_ok (pr_X12_through K) 6 0 0 [some (.ref 404), some (.int x), some (.int wh), some (.int tl), none] [] (n, SH1, I1, J)
  refine q_ic rfl ?_
  refine q_ist rfl rfl ?_
  exact mthF_loop (I0 := I) (m := tl.toInt.toNat + 1) (pur_0 hG hS) (by omega) (by omega) (fun I' h1 h2 h3 => hk I' h1 h2 (fun c hc => h3.2.2.1.2.1 c hc)) (tl.toInt.toNat + 1) 0 0 I1 (by omega) rfl ((g0 406 (by decide) (by decide)).trans hR) (fun a q1 q2 => g0 a q1 q2) hM
def mtV (x y z : Bool) : Int32 := ((if x = true then (1 : Int32) else 0) ||| (if y = true then (2 : Int32) else 0)) ||| (if z = true then (4 : Int32) else 0)
set_option maxRecDepth 8000 in
theorem mt_or {a b c x y z : Bool} : mtV a b c ||| mtV x y z = mtV (a || x) (b || y) (c || z) := by
  cases a <;> cases b <;> cases c <;> cases x <;> cases y <;> cases z <;> decide
set_option maxRecDepth 8000 in
theorem mt_7 {x y z : Bool} : (mtV x y z).toInt = 7 → x = true ∧ y = true ∧ z = true := by
  cases x <;> cases y <;> cases z <;> decide
set_option maxRecDepth 8000 in
theorem mt_0 : (0 : Int32) = mtV false false false := by decide
set_option maxRecDepth 8000 in
theorem mt_y : (mtV true true true).toInt = 7 := by decide
set_option maxRecDepth 8000 in
theorem px_b {A B : Nat → Int32} {s k : Nat} (h : Nat.testBit s k = true) : pxF A B s (k + 1) = (pxF A B s k || decide (A k ≠ B k)) := by
  show (pxF A B s k || (Nat.testBit s k && decide (A k ≠ B k))) = _
  rw [h, Bool.true_and]
set_option maxRecDepth 8000 in
theorem cn2_y {s k : Nat} (h : Nat.testBit s k = true) : cnF2 s (k + 1) = cnF2 s k + 1 := by
  show cnF2 s k + (if Nat.testBit s k = true then 1 else 0) = _
  rw [if_pos h]
set_option maxRecDepth 8000 in
theorem cn2_n {s k : Nat} (h : Nat.testBit s k = false) : cnF2 s (k + 1) = cnF2 s k := by
  show cnF2 s k + (if Nat.testBit s k = true then 1 else 0) = _
  rw [h, if_neg (by decide), Nat.add_zero]
set_option maxRecDepth 8000 in
theorem v_mhas {n : Nat} {I : Nat → Nat → Int32} {J : Nat → Nat → Int64} {K : dw_K} {set j : Int32} {s k : Nat} (hs : set.toInt = s) (hs9 : s < 256) (hj : j.toInt = k) (hk8 : k < 8) (hk : ∀ w : Int32, (w = 1 ∧ Nat.testBit s k = true) ∨ (w = 0 ∧ Nat.testBit s k = false) → K (some (.int w)) (n, SH1, I, J)) : t_X12_has [.int set, .int j] (n, SH1, I, J) K := by
  have eb := bt_i hs hs9 hj hk8
  refine q_body (Nat.le_of_ble_eq_true rfl) ?_
  refine q_ild rfl rfl ?_
  refine q_ild rfl rfl ?_
  refine q_ishr rfl ?_
  refine q_ic rfl ?_
  refine q_and rfl ?_
  rw [eb]
  refine q_ic rfl ?_
  cases hb : Nat.testBit s k with
  | true =>
    rw [if_pos rfl]
    refine q_icmp (c := 1) rfl (by decide) (fun h => absurd rfl h) (fun _ => ?_)
    refine q_ic rfl ?_
    refine q_goto rfl ?_
    exact q_zret rfl (Or.inr rfl) (hk 1 (Or.inl ⟨rfl, hb⟩))
  | false =>
    rw [if_neg (by decide)]
    refine q_icmp (c := 1) rfl (by decide) (fun _ => ?_) (fun h => absurd (show (0 : Int32).toInt = (1 : Int32).toInt from h) (by decide))
    refine q_ic rfl ?_
    exact q_zret rfl (Or.inl rfl) (hk 0 (Or.inr ⟨rfl, hb⟩))
set_option maxRecDepth 8000 in
theorem mti_loop {n : Nat} {I : Nat → Nat → Int32} {J : Nat → Nat → Int64} {K : dw_K} {A0 A1 A2 : Nat → Int32} {a1 a2 nn best few set : Int32} {m s : Nat} (hn : nn.toInt = m) (hm : m ≤ 8) (hs : set.toInt = s) (hs9 : s < 256) (hV : ∀ i, i < m → I 429 i = mtV (decide (A0 i ≠ A1 i)) (decide (A0 i ≠ A2 i)) (decide (A1 i ≠ A2 i))) (hk : ∀ met many j : Int32, met = mtV (pxF A0 A1 s m) (pxF A0 A2 s m) (pxF A1 A2 s m) → many.toInt = cnF2 s m → dw_ok (pr_X12_tries K) 394 0 0 [some (.ref 404), some (.int a1), some (.int a2), some (.int nn), some (.int best), some (.int few), some (.int set), some (.int met), some (.int many), some (.int j)] [] (n, SH1, I, J)) :
    ∀ (f k : Nat) (met many j : Int32), k + f = m → j.toInt = k → met = mtV (pxF A0 A1 s k) (pxF A0 A2 s k) (pxF A1 A2 s k) → many.toInt = cnF2 s k → dw_ok (pr_X12_tries K) 354 0 0 [some (.ref 404), some (.int a1), some (.int a2), some (.int nn), some (.int best), some (.int few), some (.int set), some (.int met), some (.int many), some (.int j)] [] (n, SH1, I, J) := by
  have k1 : (1 : Int32).toInt = 1 := rfl
  intro f
  induction f with
  | zero =>
    intro k met many j hf hj hmet hmany
    have ekm : k = m := by omega
    refine q_ild rfl rfl ?_
    refine q_ild rfl rfl ?_
    refine q_icmp (c := 3) rfl (by decide) (fun y1 => ?_) (fun h => absurd (show (j).toInt < (nn).toInt from h) (by omega))
    have y1 : (nn).toInt ≤ (j).toInt := y1
    rw [ekm] at hmet hmany
    exact hk met many j hmet hmany
  | succ f ih =>
    intro k met many j hf hj hmet hmany
    have hjn : j.toInt.toNat = k := by omega
    have hcn := cn2_le (s := s) k
    refine q_ild rfl rfl ?_
    refine q_ild rfl rfl ?_
    refine q_icmp (c := 3) rfl (by decide) (fun h => absurd (show (nn).toInt ≤ (j).toInt from h) (by omega)) (fun y2 => ?_)
    have y2 : (j).toInt < (nn).toInt := y2
    refine q_ild rfl rfl ?_
    refine q_ild rfl rfl ?_
    refine q_callS (as := [.int set, .int j]) (rest := []) rfl rfl rfl rfl ?_
    refine v_mhas (s := s) (k := k) hs hs9 hj (by omega) (fun w_ ob => ?_)
    rcases ob with ⟨rfl, ob⟩ | ⟨rfl, ob⟩
    · show dw_ok (pr_X12_tries K) 367 0 0 [some (.ref 404), some (.int a1), some (.int a2), some (.int nn), some (.int best), some (.int few), some (.int set), some (.int met), some (.int many), some (.int j)] [.int (1 : Int32)] (n, SH1, I, J)
      refine q_if (c := 1) rfl (by decide) (fun y3 => ?_) (fun h => absurd (show (1 : Int) = 0 from h) (by decide))
      have y3 : (1 : Int) ≠ 0 := y3
      refine q_ild rfl rfl ?_
      refine q_ald rfl rfl ?_
      refine q_getr rfl sk_404 sr_404_50 ?_
      refine q_ild rfl rfl ?_
      refine q_xald rfl (Or.inl rfl) sk_429 sn_429 (by omega) (by omega) ?_
      show dw_ok (pr_X12_tries K) 382 0 0 [some (.ref 404), some (.int a1), some (.int a2), some (.int nn), some (.int best), some (.int few), some (.int set), some (.int met), some (.int many), some (.int j)] [.int (I 429 (j).toInt.toNat), .int met] (n, SH1, I, J)
      rw [hjn]
      refine q_ior rfl ?_
      refine q_ist rfl rfl ?_
      show dw_ok (pr_X12_tries K) 385 0 0 [some (.ref 404), some (.int a1), some (.int a2), some (.int nn), some (.int best), some (.int few), some (.int set), some (.int (met ||| (I 429 k))), some (.int many), some (.int j)] [] (n, SH1, I, J)
      refine q_inc rfl rfl rfl ?_
      show dw_ok (pr_X12_tries K) 388 0 0 [some (.ref 404), some (.int a1), some (.int a2), some (.int nn), some (.int best), some (.int few), some (.int set), some (.int (met ||| (I 429 k))), some (.int (many + 1)), some (.int j)] [] (n, SH1, I, J)
      refine q_inc rfl rfl rfl ?_
      show dw_ok (pr_X12_tries K) 391 0 0 [some (.ref 404), some (.int a1), some (.int a2), some (.int nn), some (.int best), some (.int few), some (.int set), some (.int (met ||| (I 429 k))), some (.int (many + 1)), some (.int (j + 1))] [] (n, SH1, I, J)
      show dw_ok (pr_X12_tries K) 391 0 0 [some (.ref 404), some (.int a1), some (.int a2), some (.int nn), some (.int best), some (.int few), some (.int set), some (.int (met ||| (I 429 k))), some (.int (many + 1)), some (.int (j + 1))] [] (n, SH1, I, J)
      obtain ⟨jx, hjx⟩ : ∃ z, z = (j + 1) := ⟨_, rfl⟩
      rw [← hjx]
      have ejx : jx.toInt = ((k + 1 : Nat) : Int) := by rw [hjx]; exact ix_1 hj (by omega)
      refine q_goto rfl ?_
      exact ih (k + 1) _ _ jx (by omega) ejx (by rw [hV k (by omega), hmet, mt_or, px_b ob, px_b ob, px_b ob]) (by rw [i_add (by rw [hmany, k1]; omega) (by rw [hmany, k1]; omega), hmany, k1, cn2_y ob]; omega)
    · show dw_ok (pr_X12_tries K) 367 0 0 [some (.ref 404), some (.int a1), some (.int a2), some (.int nn), some (.int best), some (.int few), some (.int set), some (.int met), some (.int many), some (.int j)] [.int (0 : Int32)] (n, SH1, I, J)
      refine q_if (c := 1) rfl (by decide) (fun h => absurd (show (0 : Int) ≠ 0 from h) (by decide)) (fun y4 => ?_)
      have y4 : (0 : Int) = 0 := y4
      refine q_goto rfl ?_
      refine q_inc rfl rfl rfl ?_
      show dw_ok (pr_X12_tries K) 391 0 0 [some (.ref 404), some (.int a1), some (.int a2), some (.int nn), some (.int best), some (.int few), some (.int set), some (.int met), some (.int many), some (.int (j + 1))] [] (n, SH1, I, J)
      show dw_ok (pr_X12_tries K) 391 0 0 [some (.ref 404), some (.int a1), some (.int a2), some (.int nn), some (.int best), some (.int few), some (.int set), some (.int met), some (.int many), some (.int (j + 1))] [] (n, SH1, I, J)
      obtain ⟨jx, hjx⟩ : ∃ z, z = (j + 1) := ⟨_, rfl⟩
      rw [← hjx]
      have ejx : jx.toInt = ((k + 1 : Nat) : Int) := by rw [hjx]; exact ix_1 hj (by omega)
      refine q_goto rfl ?_
      exact ih (k + 1) _ _ jx (by omega) ejx (by rw [px_n0 ob, px_n0 ob, px_n0 ob]; exact hmet) (by rw [cn2_n ob]; exact hmany)
set_option maxRecDepth 8000 in
theorem mtO_loop {n : Nat} {I : Nat → Nat → Int32} {J : Nat → Nat → Int64} {K : dw_K} {A0 A1 A2 : Nat → Int32} {a1 a2 nn : Int32} {m M : Nat} (hn : nn.toInt = m) (hm : m ≤ 8) (hM : 2 ^ m = M) (hM9 : M ≤ 256) (hV : ∀ i, i < m → I 429 i = mtV (decide (A0 i ≠ A1 i)) (decide (A0 i ≠ A2 i)) (decide (A1 i ≠ A2 i))) (hk : ∀ w : Int32, w.toInt = (bsF A0 A1 A2 m M).1 → K (some (.int w)) (n, SH1, I, J)) :
    ∀ (f k : Nat) (best few set : Int32) (u7 u8 u9 : Option Value), k + f = M → set.toInt = k → best.toInt = (bsF A0 A1 A2 m k).1 → few.toInt = ((bsF A0 A1 A2 m k).2 : Nat) → dw_ok (pr_X12_tries K) 337 0 0 [some (.ref 404), some (.int a1), some (.int a2), some (.int nn), some (.int best), some (.int few), some (.int set), u7, u8, u9] [] (n, SH1, I, J) := by
  have k7 : (7 : Int32).toInt = 7 := rfl
  have ep := p2_i hn hm
  rw [hM] at ep
  obtain ⟨pw, hpw⟩ : ∃ z, z = ((1 : Int32) <<< (nn &&& 31)) := ⟨_, rfl⟩
  rw [← hpw] at ep
  intro f
  induction f with
  | zero =>
    intro k best few set u7 u8 u9 hf hs hb hw
    have ekM : k = M := by omega
    refine q_ild rfl rfl ?_
    refine q_ic rfl ?_
    refine q_ild rfl rfl ?_
    refine q_ishl rfl ?_
    show dw_ok (pr_X12_tries K) 342 0 0 [some (.ref 404), some (.int a1), some (.int a2), some (.int nn), some (.int best), some (.int few), some (.int set), u7, u8, u9] [.int ((1 : Int32) <<< (nn &&& 31)), .int set] (n, SH1, I, J)
    rw [← hpw]
    refine q_icmp (c := 3) rfl (by decide) (fun y1 => ?_) (fun h => absurd (show (set).toInt < (pw).toInt from h) (by omega))
    have y1 : (pw).toInt ≤ (set).toInt := y1
    refine q_ild rfl rfl ?_
    rw [ekM] at hb
    exact q_iret rfl (hk _ hb)
  | succ f ih =>
    intro k best few set u7 u8 u9 hf hs hb hw
    refine q_ild rfl rfl ?_
    refine q_ic rfl ?_
    refine q_ild rfl rfl ?_
    refine q_ishl rfl ?_
    show dw_ok (pr_X12_tries K) 342 0 0 [some (.ref 404), some (.int a1), some (.int a2), some (.int nn), some (.int best), some (.int few), some (.int set), u7, u8, u9] [.int ((1 : Int32) <<< (nn &&& 31)), .int set] (n, SH1, I, J)
    rw [← hpw]
    refine q_icmp (c := 3) rfl (by decide) (fun h => absurd (show (pw).toInt ≤ (set).toInt from h) (by omega)) (fun y2 => ?_)
    have y2 : (set).toInt < (pw).toInt := y2
    refine q_ic rfl ?_
    refine q_ist rfl rfl ?_
    show dw_ok (pr_X12_tries K) 348 0 0 [some (.ref 404), some (.int a1), some (.int a2), some (.int nn), some (.int best), some (.int few), some (.int set), some (.int (0 : Int32)), u8, u9] [] (n, SH1, I, J)
    refine q_ic rfl ?_
    refine q_ist rfl rfl ?_
    show dw_ok (pr_X12_tries K) 351 0 0 [some (.ref 404), some (.int a1), some (.int a2), some (.int nn), some (.int best), some (.int few), some (.int set), some (.int (0 : Int32)), some (.int (0 : Int32)), u9] [] (n, SH1, I, J)
    refine q_ic rfl ?_
    refine q_ist rfl rfl ?_
    show dw_ok (pr_X12_tries K) 354 0 0 [some (.ref 404), some (.int a1), some (.int a2), some (.int nn), some (.int best), some (.int few), some (.int set), some (.int (0 : Int32)), some (.int (0 : Int32)), some (.int (0 : Int32))] [] (n, SH1, I, J)
    refine mti_loop (A0 := A0) (A1 := A1) (A2 := A2) (s := k) hn hm hs (by omega) hV (fun met many j hmet hmany => ?_) m 0 0 0 0 (by omega) rfl mt_0 rfl
    show dw_ok (pr_X12_tries K) 394 0 0 [some (.ref 404), some (.int a1), some (.int a2), some (.int nn), some (.int best), some (.int few), some (.int set), some (.int met), some (.int many), some (.int j)] [] (n, SH1, I, J)
    have e7 : met.toInt = 7 → ptA A0 A1 A2 m k = true := fun q => by
      rw [hmet] at q
      obtain ⟨q0, q1, q2⟩ := mt_7 q
      exact pt_ye q0 q1 q2
    have e8 : ptA A0 A1 A2 m k = true → met.toInt = 7 := fun q => by
      unfold ptA at q
      rw [Bool.and_eq_true, Bool.and_eq_true] at q
      rw [hmet, q.1, q.2.1, q.2.2]; exact mt_y
    refine q_ild rfl rfl ?_
    refine q_ic rfl ?_
    refine q_icmp (c := 1) rfl (by decide) (fun y3 => ?_) (fun y3 => ?_)
    · have y3 : (met).toInt ≠ (7 : Int) := y3
      refine q_inc rfl rfl rfl ?_
      show dw_ok (pr_X12_tries K) 422 0 0 [some (.ref 404), some (.int a1), some (.int a2), some (.int nn), some (.int best), some (.int few), some (.int (set + 1)), some (.int met), some (.int many), some (.int j)] [] (n, SH1, I, J)
      show dw_ok (pr_X12_tries K) 422 0 0 [some (.ref 404), some (.int a1), some (.int a2), some (.int nn), some (.int best), some (.int few), some (.int (set + 1)), some (.int met), some (.int many), some (.int j)] [] (n, SH1, I, J)
      obtain ⟨sx, hsx⟩ : ∃ z, z = (set + 1) := ⟨_, rfl⟩
      rw [← hsx]
      have esx : sx.toInt = ((k + 1 : Nat) : Int) := by rw [hsx]; exact ix_1 hs (by omega)
      refine q_goto rfl ?_
      obtain ⟨bb, ebb⟩ : ∃ z, z = (bsF A0 A1 A2 m k) := ⟨_, rfl⟩
      rw [← ebb] at hb hw
      have y : met.toInt ≠ 7 := y3
      exact ih (k + 1) best few sx _ _ _ (by omega) esx (by rw [bs_n (fun z => y (e8 z.1)), ← ebb]; exact hb) (by rw [bs_n (fun z => y (e8 z.1)), ← ebb]; exact hw)
    · have y3 : (met).toInt = (7 : Int) := y3
      refine q_ild rfl rfl ?_
      refine q_ild rfl rfl ?_
      refine q_icmp (c := 2) rfl (by decide) (fun y4 => ?_) (fun y4 => ?_)
      · have y4 : (many).toInt < (few).toInt := y4
        refine q_ild rfl rfl ?_
        refine q_ist rfl rfl ?_
        show dw_ok (pr_X12_tries K) 415 0 0 [some (.ref 404), some (.int a1), some (.int a2), some (.int nn), some (.int best), some (.int many), some (.int set), some (.int met), some (.int many), some (.int j)] [] (n, SH1, I, J)
        refine q_ild rfl rfl ?_
        refine q_ist rfl rfl ?_
        show dw_ok (pr_X12_tries K) 419 0 0 [some (.ref 404), some (.int a1), some (.int a2), some (.int nn), some (.int set), some (.int many), some (.int set), some (.int met), some (.int many), some (.int j)] [] (n, SH1, I, J)
        refine q_inc rfl rfl rfl ?_
        show dw_ok (pr_X12_tries K) 422 0 0 [some (.ref 404), some (.int a1), some (.int a2), some (.int nn), some (.int set), some (.int many), some (.int (set + 1)), some (.int met), some (.int many), some (.int j)] [] (n, SH1, I, J)
        show dw_ok (pr_X12_tries K) 422 0 0 [some (.ref 404), some (.int a1), some (.int a2), some (.int nn), some (.int set), some (.int many), some (.int (set + 1)), some (.int met), some (.int many), some (.int j)] [] (n, SH1, I, J)
        obtain ⟨sx, hsx⟩ : ∃ z, z = (set + 1) := ⟨_, rfl⟩
        rw [← hsx]
        have esx : sx.toInt = ((k + 1 : Nat) : Int) := by rw [hsx]; exact ix_1 hs (by omega)
        refine q_goto rfl ?_
        obtain ⟨bb, ebb⟩ : ∃ z, z = (bsF A0 A1 A2 m k) := ⟨_, rfl⟩
        rw [← ebb] at hb hw
        have y : met.toInt = 7 := y3
        have y2 : many.toInt < few.toInt := y4
        have hz : ptA A0 A1 A2 m k = true ∧ cnF2 k m < (bsF A0 A1 A2 m k).2 := ⟨e7 y, by rw [← ebb]; omega⟩
        exact ih (k + 1) set many sx _ _ _ (by omega) esx (by rw [bs_y hz]; exact hs) (by rw [bs_y hz]; exact hmany)
      · have y4 : (few).toInt ≤ (many).toInt := y4
        refine q_goto rfl ?_
        refine q_inc rfl rfl rfl ?_
        show dw_ok (pr_X12_tries K) 422 0 0 [some (.ref 404), some (.int a1), some (.int a2), some (.int nn), some (.int best), some (.int few), some (.int (set + 1)), some (.int met), some (.int many), some (.int j)] [] (n, SH1, I, J)
        show dw_ok (pr_X12_tries K) 422 0 0 [some (.ref 404), some (.int a1), some (.int a2), some (.int nn), some (.int best), some (.int few), some (.int (set + 1)), some (.int met), some (.int many), some (.int j)] [] (n, SH1, I, J)
        obtain ⟨sx, hsx⟩ : ∃ z, z = (set + 1) := ⟨_, rfl⟩
        rw [← hsx]
        have esx : sx.toInt = ((k + 1 : Nat) : Int) := by rw [hsx]; exact ix_1 hs (by omega)
        refine q_goto rfl ?_
        obtain ⟨bb, ebb⟩ : ∃ z, z = (bsF A0 A1 A2 m k) := ⟨_, rfl⟩
        rw [← ebb] at hb hw
        have y2 : few.toInt ≤ many.toInt := y4
        have hz : ¬ (ptA A0 A1 A2 m k = true ∧ cnF2 k m < (bsF A0 A1 A2 m k).2) := fun z => by have z2 := z.2; rw [← ebb] at z2; omega
        exact ih (k + 1) best few sx _ _ _ (by omega) esx (by rw [bs_n hz, ← ebb]; exact hb) (by rw [bs_n hz, ← ebb]; exact hw)
set_option maxRecDepth 8000 in
theorem mtp_loop {n : Nat} {J : Nat → Nat → Int64} {K : dw_K} {I0 : Nat → Nat → Int32} {a1 a2 nn : Int32} {u5 u6 u7 u8 u9 : Option Value} {m : Nat} (hn : nn.toInt = m) (hm : m ≤ 8)
    (hk : ∀ (i : Int32) (I' : Nat → Nat → Int32), (∀ a, a ≠ 429 → I' a = I0 a) → (∀ i, i < m → I' 429 i = mtV (decide (I0 430 i ≠ I0 430 (8 + i))) (decide (I0 430 i ≠ I0 430 (16 + i))) (decide (I0 430 (8 + i) ≠ I0 430 (16 + i)))) → dw_ok (pr_X12_tries K) 327 0 0 [some (.ref 404), some (.int a1), some (.int a2), some (.int nn), some (.int i), u5, u6, u7, u8, u9] [] (n, SH1, I', J)) :
    ∀ (f k : Nat) (i : Int32) (I : Nat → Nat → Int32), k + f = m → i.toInt = k → (∀ a, a ≠ 429 → I a = I0 a) → (∀ i, i < k → I 429 i = mtV (decide (I0 430 i ≠ I0 430 (8 + i))) (decide (I0 430 i ≠ I0 430 (16 + i))) (decide (I0 430 (8 + i) ≠ I0 430 (16 + i)))) → dw_ok (pr_X12_tries K) 228 0 0 [some (.ref 404), some (.int a1), some (.int a2), some (.int nn), some (.int i), u5, u6, u7, u8, u9] [] (n, SH1, I, J) := by
  have k8 : (8 : Int32).toInt = 8 := rfl
  have k16 : (16 : Int32).toInt = 16 := rfl
  intro f
  induction f with
  | zero =>
    intro k i I hf hi hr hV
    have ekm : k = m := by omega
    refine q_ild rfl rfl ?_
    refine q_ild rfl rfl ?_
    refine q_icmp (c := 3) rfl (by decide) (fun y1 => ?_) (fun h => absurd (show (i).toInt < (nn).toInt from h) (by omega))
    have y1 : (nn).toInt ≤ (i).toInt := y1
    rw [ekm] at hV
    exact hk i I hr hV
  | succ f ih =>
    intro k i I hf hi hr hV
    have hin : i.toInt.toNat = k := by omega
    have e430 : I 430 = I0 430 := hr 430 (by decide)
    refine q_ild rfl rfl ?_
    refine q_ild rfl rfl ?_
    refine q_icmp (c := 3) rfl (by decide) (fun h => absurd (show (nn).toInt ≤ (i).toInt from h) (by omega)) (fun y2 => ?_)
    have y2 : (i).toInt < (nn).toInt := y2
    refine q_ald rfl rfl ?_
    refine q_getr rfl sk_404 sr_404_50 ?_
    refine q_ild rfl rfl ?_
    refine q_ald rfl rfl ?_
    refine q_getr rfl sk_404 sr_404_51 ?_
    refine q_ild rfl rfl ?_
    refine q_xald rfl (Or.inl rfl) sk_430 sn_430 (by omega) (by omega) ?_
    show dw_ok (pr_X12_tries K) 247 0 0 [some (.ref 404), some (.int a1), some (.int a2), some (.int nn), some (.int i), u5, u6, u7, u8, u9] [.int (I 430 (i).toInt.toNat), .int i, .ref 429] (n, SH1, I, J)
    rw [hin]
    refine q_ald rfl rfl ?_
    refine q_getr rfl sk_404 sr_404_51 ?_
    refine q_ic rfl ?_
    refine q_ild rfl rfl ?_
    refine q_add rfl ?_
    show dw_ok (pr_X12_tries K) 256 0 0 [some (.ref 404), some (.int a1), some (.int a2), some (.int nn), some (.int i), u5, u6, u7, u8, u9] [.int ((8 : Int32) + i), .ref 430, .int (I 430 k), .int i, .ref 429] (n, SH1, I, J)
    obtain ⟨i8, hi8⟩ : ∃ z, z = ((8 : Int32) + i) := ⟨_, rfl⟩
    rw [← hi8]
    have ei8 : i8.toInt = ((8 + k : Nat) : Int) := by rw [hi8]; exact ix_a (x := 8) (a := 8) rfl hi (by omega)
    refine q_xald rfl (Or.inl rfl) sk_430 sn_430 (by omega) (by omega) ?_
    show dw_ok (pr_X12_tries K) 257 0 0 [some (.ref 404), some (.int a1), some (.int a2), some (.int nn), some (.int i), u5, u6, u7, u8, u9] [.int (I 430 (i8).toInt.toNat), .int (I 430 k), .int i, .ref 429] (n, SH1, I, J)
    rw [(nat_of ei8)]
    refine q_icmp (c := 0) rfl (by decide) (fun y3 => ?_) (fun y3 => ?_)
    · have y3 : ((I 430 k)).toInt = ((I 430 (8 + k))).toInt := y3
      refine q_ic rfl ?_
      refine q_ald rfl rfl ?_
      refine q_getr rfl sk_404 sr_404_51 ?_
      refine q_ild rfl rfl ?_
      refine q_xald rfl (Or.inl rfl) sk_430 sn_430 (by omega) (by omega) ?_
      show dw_ok (pr_X12_tries K) 272 0 0 [some (.ref 404), some (.int a1), some (.int a2), some (.int nn), some (.int i), u5, u6, u7, u8, u9] [.int (I 430 (i).toInt.toNat), .int (0 : Int32), .int i, .ref 429] (n, SH1, I, J)
      rw [hin]
      refine q_ald rfl rfl ?_
      refine q_getr rfl sk_404 sr_404_51 ?_
      refine q_ic rfl ?_
      refine q_ild rfl rfl ?_
      refine q_add rfl ?_
      show dw_ok (pr_X12_tries K) 281 0 0 [some (.ref 404), some (.int a1), some (.int a2), some (.int nn), some (.int i), u5, u6, u7, u8, u9] [.int ((16 : Int32) + i), .ref 430, .int (I 430 k), .int (0 : Int32), .int i, .ref 429] (n, SH1, I, J)
      obtain ⟨i16, hi16⟩ : ∃ z, z = ((16 : Int32) + i) := ⟨_, rfl⟩
      rw [← hi16]
      have ei16 : i16.toInt = ((16 + k : Nat) : Int) := by rw [hi16]; exact ix_a (x := 16) (a := 16) rfl hi (by omega)
      refine q_xald rfl (Or.inl rfl) sk_430 sn_430 (by omega) (by omega) ?_
      show dw_ok (pr_X12_tries K) 282 0 0 [some (.ref 404), some (.int a1), some (.int a2), some (.int nn), some (.int i), u5, u6, u7, u8, u9] [.int (I 430 (i16).toInt.toNat), .int (I 430 k), .int (0 : Int32), .int i, .ref 429] (n, SH1, I, J)
      rw [(nat_of ei16)]
      refine q_icmp (c := 0) rfl (by decide) (fun y4 => ?_) (fun y4 => ?_)
      · have y4 : ((I 430 k)).toInt = ((I 430 (16 + k))).toInt := y4
        refine q_ic rfl ?_
        refine q_ior rfl ?_
        refine q_ald rfl rfl ?_
        refine q_getr rfl sk_404 sr_404_51 ?_
        refine q_ic rfl ?_
        refine q_ild rfl rfl ?_
        refine q_add rfl ?_
        show dw_ok (pr_X12_tries K) 300 0 0 [some (.ref 404), some (.int a1), some (.int a2), some (.int nn), some (.int i), u5, u6, u7, u8, u9] [.int ((8 : Int32) + i), .ref 430, .int ((0 : Int32) ||| (0 : Int32)), .int i, .ref 429] (n, SH1, I, J)
        obtain ⟨i8, hi8⟩ : ∃ z, z = ((8 : Int32) + i) := ⟨_, rfl⟩
        rw [← hi8]
        have ei8 : i8.toInt = ((8 + k : Nat) : Int) := by rw [hi8]; exact ix_a (x := 8) (a := 8) rfl hi (by omega)
        refine q_xald rfl (Or.inl rfl) sk_430 sn_430 (by omega) (by omega) ?_
        show dw_ok (pr_X12_tries K) 301 0 0 [some (.ref 404), some (.int a1), some (.int a2), some (.int nn), some (.int i), u5, u6, u7, u8, u9] [.int (I 430 (i8).toInt.toNat), .int ((0 : Int32) ||| (0 : Int32)), .int i, .ref 429] (n, SH1, I, J)
        rw [(nat_of ei8)]
        refine q_ald rfl rfl ?_
        refine q_getr rfl sk_404 sr_404_51 ?_
        refine q_ic rfl ?_
        refine q_ild rfl rfl ?_
        refine q_add rfl ?_
        show dw_ok (pr_X12_tries K) 310 0 0 [some (.ref 404), some (.int a1), some (.int a2), some (.int nn), some (.int i), u5, u6, u7, u8, u9] [.int ((16 : Int32) + i), .ref 430, .int (I 430 (8 + k)), .int ((0 : Int32) ||| (0 : Int32)), .int i, .ref 429] (n, SH1, I, J)
        obtain ⟨i16, hi16⟩ : ∃ z, z = ((16 : Int32) + i) := ⟨_, rfl⟩
        rw [← hi16]
        have ei16 : i16.toInt = ((16 + k : Nat) : Int) := by rw [hi16]; exact ix_a (x := 16) (a := 16) rfl hi (by omega)
        refine q_xald rfl (Or.inl rfl) sk_430 sn_430 (by omega) (by omega) ?_
        show dw_ok (pr_X12_tries K) 311 0 0 [some (.ref 404), some (.int a1), some (.int a2), some (.int nn), some (.int i), u5, u6, u7, u8, u9] [.int (I 430 (i16).toInt.toNat), .int (I 430 (8 + k)), .int ((0 : Int32) ||| (0 : Int32)), .int i, .ref 429] (n, SH1, I, J)
        rw [(nat_of ei16)]
        refine q_icmp (c := 0) rfl (by decide) (fun y5 => ?_) (fun y5 => ?_)
        · have y5 : ((I 430 (8 + k))).toInt = ((I 430 (16 + k))).toInt := y5
          refine q_ic rfl ?_
          refine q_ior rfl ?_
          refine q_iast rfl sk_429 sn_429 (by omega) (by omega) ?_
          show dw_ok (pr_X12_tries K) 321 0 0 [some (.ref 404), some (.int a1), some (.int a2), some (.int nn), some (.int i), u5, u6, u7, u8, u9] [] (n, SH1, (dw_up I 429 (i).toInt.toNat (((0 : Int32) ||| (0 : Int32)) ||| (0 : Int32))), J)
          rw [hin]
          refine q_inc rfl rfl rfl ?_
          show dw_ok (pr_X12_tries K) 324 0 0 [some (.ref 404), some (.int a1), some (.int a2), some (.int nn), some (.int (i + 1)), u5, u6, u7, u8, u9] [] (n, SH1, (dw_up I 429 k (((0 : Int32) ||| (0 : Int32)) ||| (0 : Int32))), J)
          show dw_ok (pr_X12_tries K) 324 0 0 [some (.ref 404), some (.int a1), some (.int a2), some (.int nn), some (.int (i + 1)), u5, u6, u7, u8, u9] [] (n, SH1, (dw_up I 429 k (((0 : Int32) ||| (0 : Int32)) ||| (0 : Int32))), J)
          obtain ⟨ix, hix⟩ : ∃ z, z = (i + 1) := ⟨_, rfl⟩
          rw [← hix]
          have eix : ix.toInt = ((k + 1 : Nat) : Int) := by rw [hix]; exact ix_1 hi (by omega)
          refine q_goto rfl ?_
          refine ih (k + 1) ix (dw_up I 429 k (((0 : Int32) ||| (0 : Int32)) ||| (0 : Int32))) (by omega) eix (fun a ha => (up_row ha).trans (hr a ha)) (fun j hj => ?_)
          by_cases e : j = k
          · rw [e, show (dw_up I 429 k (((0 : Int32) ||| (0 : Int32)) ||| (0 : Int32))) 429 k = (((0 : Int32) ||| (0 : Int32)) ||| (0 : Int32)) from up_same, decide_eq_false (show ¬ I0 430 k ≠ I0 430 (8 + k) from fun q => q (i_eq (by rw [← e430]; exact y3))), decide_eq_false (show ¬ I0 430 k ≠ I0 430 (16 + k) from fun q => q (i_eq (by rw [← e430]; exact y4))), decide_eq_false (show ¬ I0 430 (8 + k) ≠ I0 430 (16 + k) from fun q => q (i_eq (by rw [← e430]; exact y5)))]
            rfl
          · rw [show (dw_up I 429 k (((0 : Int32) ||| (0 : Int32)) ||| (0 : Int32))) 429 j = I 429 j from up_fld e]; exact hV j (by omega)
        · have y5 : ((I 430 (8 + k))).toInt ≠ ((I 430 (16 + k))).toInt := y5
          refine q_ic rfl ?_
          refine q_goto rfl ?_
          refine q_ior rfl ?_
          refine q_iast rfl sk_429 sn_429 (by omega) (by omega) ?_
          show dw_ok (pr_X12_tries K) 321 0 0 [some (.ref 404), some (.int a1), some (.int a2), some (.int nn), some (.int i), u5, u6, u7, u8, u9] [] (n, SH1, (dw_up I 429 (i).toInt.toNat (((0 : Int32) ||| (0 : Int32)) ||| (4 : Int32))), J)
          rw [hin]
          refine q_inc rfl rfl rfl ?_
          show dw_ok (pr_X12_tries K) 324 0 0 [some (.ref 404), some (.int a1), some (.int a2), some (.int nn), some (.int (i + 1)), u5, u6, u7, u8, u9] [] (n, SH1, (dw_up I 429 k (((0 : Int32) ||| (0 : Int32)) ||| (4 : Int32))), J)
          show dw_ok (pr_X12_tries K) 324 0 0 [some (.ref 404), some (.int a1), some (.int a2), some (.int nn), some (.int (i + 1)), u5, u6, u7, u8, u9] [] (n, SH1, (dw_up I 429 k (((0 : Int32) ||| (0 : Int32)) ||| (4 : Int32))), J)
          obtain ⟨ix, hix⟩ : ∃ z, z = (i + 1) := ⟨_, rfl⟩
          rw [← hix]
          have eix : ix.toInt = ((k + 1 : Nat) : Int) := by rw [hix]; exact ix_1 hi (by omega)
          refine q_goto rfl ?_
          refine ih (k + 1) ix (dw_up I 429 k (((0 : Int32) ||| (0 : Int32)) ||| (4 : Int32))) (by omega) eix (fun a ha => (up_row ha).trans (hr a ha)) (fun j hj => ?_)
          by_cases e : j = k
          · rw [e, show (dw_up I 429 k (((0 : Int32) ||| (0 : Int32)) ||| (4 : Int32))) 429 k = (((0 : Int32) ||| (0 : Int32)) ||| (4 : Int32)) from up_same, decide_eq_false (show ¬ I0 430 k ≠ I0 430 (8 + k) from fun q => q (i_eq (by rw [← e430]; exact y3))), decide_eq_false (show ¬ I0 430 k ≠ I0 430 (16 + k) from fun q => q (i_eq (by rw [← e430]; exact y4))), decide_eq_true (show I0 430 (8 + k) ≠ I0 430 (16 + k) from fun q => y5 (by rw [e430, q]))]
            rfl
          · rw [show (dw_up I 429 k (((0 : Int32) ||| (0 : Int32)) ||| (4 : Int32))) 429 j = I 429 j from up_fld e]; exact hV j (by omega)
      · have y4 : ((I 430 k)).toInt ≠ ((I 430 (16 + k))).toInt := y4
        refine q_ic rfl ?_
        refine q_goto rfl ?_
        refine q_ior rfl ?_
        refine q_ald rfl rfl ?_
        refine q_getr rfl sk_404 sr_404_51 ?_
        refine q_ic rfl ?_
        refine q_ild rfl rfl ?_
        refine q_add rfl ?_
        show dw_ok (pr_X12_tries K) 300 0 0 [some (.ref 404), some (.int a1), some (.int a2), some (.int nn), some (.int i), u5, u6, u7, u8, u9] [.int ((8 : Int32) + i), .ref 430, .int ((0 : Int32) ||| (2 : Int32)), .int i, .ref 429] (n, SH1, I, J)
        obtain ⟨i8, hi8⟩ : ∃ z, z = ((8 : Int32) + i) := ⟨_, rfl⟩
        rw [← hi8]
        have ei8 : i8.toInt = ((8 + k : Nat) : Int) := by rw [hi8]; exact ix_a (x := 8) (a := 8) rfl hi (by omega)
        refine q_xald rfl (Or.inl rfl) sk_430 sn_430 (by omega) (by omega) ?_
        show dw_ok (pr_X12_tries K) 301 0 0 [some (.ref 404), some (.int a1), some (.int a2), some (.int nn), some (.int i), u5, u6, u7, u8, u9] [.int (I 430 (i8).toInt.toNat), .int ((0 : Int32) ||| (2 : Int32)), .int i, .ref 429] (n, SH1, I, J)
        rw [(nat_of ei8)]
        refine q_ald rfl rfl ?_
        refine q_getr rfl sk_404 sr_404_51 ?_
        refine q_ic rfl ?_
        refine q_ild rfl rfl ?_
        refine q_add rfl ?_
        show dw_ok (pr_X12_tries K) 310 0 0 [some (.ref 404), some (.int a1), some (.int a2), some (.int nn), some (.int i), u5, u6, u7, u8, u9] [.int ((16 : Int32) + i), .ref 430, .int (I 430 (8 + k)), .int ((0 : Int32) ||| (2 : Int32)), .int i, .ref 429] (n, SH1, I, J)
        obtain ⟨i16, hi16⟩ : ∃ z, z = ((16 : Int32) + i) := ⟨_, rfl⟩
        rw [← hi16]
        have ei16 : i16.toInt = ((16 + k : Nat) : Int) := by rw [hi16]; exact ix_a (x := 16) (a := 16) rfl hi (by omega)
        refine q_xald rfl (Or.inl rfl) sk_430 sn_430 (by omega) (by omega) ?_
        show dw_ok (pr_X12_tries K) 311 0 0 [some (.ref 404), some (.int a1), some (.int a2), some (.int nn), some (.int i), u5, u6, u7, u8, u9] [.int (I 430 (i16).toInt.toNat), .int (I 430 (8 + k)), .int ((0 : Int32) ||| (2 : Int32)), .int i, .ref 429] (n, SH1, I, J)
        rw [(nat_of ei16)]
        refine q_icmp (c := 0) rfl (by decide) (fun y6 => ?_) (fun y6 => ?_)
        · have y6 : ((I 430 (8 + k))).toInt = ((I 430 (16 + k))).toInt := y6
          refine q_ic rfl ?_
          refine q_ior rfl ?_
          refine q_iast rfl sk_429 sn_429 (by omega) (by omega) ?_
          show dw_ok (pr_X12_tries K) 321 0 0 [some (.ref 404), some (.int a1), some (.int a2), some (.int nn), some (.int i), u5, u6, u7, u8, u9] [] (n, SH1, (dw_up I 429 (i).toInt.toNat (((0 : Int32) ||| (2 : Int32)) ||| (0 : Int32))), J)
          rw [hin]
          refine q_inc rfl rfl rfl ?_
          show dw_ok (pr_X12_tries K) 324 0 0 [some (.ref 404), some (.int a1), some (.int a2), some (.int nn), some (.int (i + 1)), u5, u6, u7, u8, u9] [] (n, SH1, (dw_up I 429 k (((0 : Int32) ||| (2 : Int32)) ||| (0 : Int32))), J)
          show dw_ok (pr_X12_tries K) 324 0 0 [some (.ref 404), some (.int a1), some (.int a2), some (.int nn), some (.int (i + 1)), u5, u6, u7, u8, u9] [] (n, SH1, (dw_up I 429 k (((0 : Int32) ||| (2 : Int32)) ||| (0 : Int32))), J)
          obtain ⟨ix, hix⟩ : ∃ z, z = (i + 1) := ⟨_, rfl⟩
          rw [← hix]
          have eix : ix.toInt = ((k + 1 : Nat) : Int) := by rw [hix]; exact ix_1 hi (by omega)
          refine q_goto rfl ?_
          refine ih (k + 1) ix (dw_up I 429 k (((0 : Int32) ||| (2 : Int32)) ||| (0 : Int32))) (by omega) eix (fun a ha => (up_row ha).trans (hr a ha)) (fun j hj => ?_)
          by_cases e : j = k
          · rw [e, show (dw_up I 429 k (((0 : Int32) ||| (2 : Int32)) ||| (0 : Int32))) 429 k = (((0 : Int32) ||| (2 : Int32)) ||| (0 : Int32)) from up_same, decide_eq_false (show ¬ I0 430 k ≠ I0 430 (8 + k) from fun q => q (i_eq (by rw [← e430]; exact y3))), decide_eq_true (show I0 430 k ≠ I0 430 (16 + k) from fun q => y4 (by rw [e430, q])), decide_eq_false (show ¬ I0 430 (8 + k) ≠ I0 430 (16 + k) from fun q => q (i_eq (by rw [← e430]; exact y6)))]
            rfl
          · rw [show (dw_up I 429 k (((0 : Int32) ||| (2 : Int32)) ||| (0 : Int32))) 429 j = I 429 j from up_fld e]; exact hV j (by omega)
        · have y6 : ((I 430 (8 + k))).toInt ≠ ((I 430 (16 + k))).toInt := y6
          refine q_ic rfl ?_
          refine q_goto rfl ?_
          refine q_ior rfl ?_
          refine q_iast rfl sk_429 sn_429 (by omega) (by omega) ?_
          show dw_ok (pr_X12_tries K) 321 0 0 [some (.ref 404), some (.int a1), some (.int a2), some (.int nn), some (.int i), u5, u6, u7, u8, u9] [] (n, SH1, (dw_up I 429 (i).toInt.toNat (((0 : Int32) ||| (2 : Int32)) ||| (4 : Int32))), J)
          rw [hin]
          refine q_inc rfl rfl rfl ?_
          show dw_ok (pr_X12_tries K) 324 0 0 [some (.ref 404), some (.int a1), some (.int a2), some (.int nn), some (.int (i + 1)), u5, u6, u7, u8, u9] [] (n, SH1, (dw_up I 429 k (((0 : Int32) ||| (2 : Int32)) ||| (4 : Int32))), J)
          show dw_ok (pr_X12_tries K) 324 0 0 [some (.ref 404), some (.int a1), some (.int a2), some (.int nn), some (.int (i + 1)), u5, u6, u7, u8, u9] [] (n, SH1, (dw_up I 429 k (((0 : Int32) ||| (2 : Int32)) ||| (4 : Int32))), J)
          obtain ⟨ix, hix⟩ : ∃ z, z = (i + 1) := ⟨_, rfl⟩
          rw [← hix]
          have eix : ix.toInt = ((k + 1 : Nat) : Int) := by rw [hix]; exact ix_1 hi (by omega)
          refine q_goto rfl ?_
          refine ih (k + 1) ix (dw_up I 429 k (((0 : Int32) ||| (2 : Int32)) ||| (4 : Int32))) (by omega) eix (fun a ha => (up_row ha).trans (hr a ha)) (fun j hj => ?_)
          by_cases e : j = k
          · rw [e, show (dw_up I 429 k (((0 : Int32) ||| (2 : Int32)) ||| (4 : Int32))) 429 k = (((0 : Int32) ||| (2 : Int32)) ||| (4 : Int32)) from up_same, decide_eq_false (show ¬ I0 430 k ≠ I0 430 (8 + k) from fun q => q (i_eq (by rw [← e430]; exact y3))), decide_eq_true (show I0 430 k ≠ I0 430 (16 + k) from fun q => y4 (by rw [e430, q])), decide_eq_true (show I0 430 (8 + k) ≠ I0 430 (16 + k) from fun q => y6 (by rw [e430, q]))]
            rfl
          · rw [show (dw_up I 429 k (((0 : Int32) ||| (2 : Int32)) ||| (4 : Int32))) 429 j = I 429 j from up_fld e]; exact hV j (by omega)
    · have y3 : ((I 430 k)).toInt ≠ ((I 430 (8 + k))).toInt := y3
      refine q_ic rfl ?_
      refine q_goto rfl ?_
      refine q_ald rfl rfl ?_
      refine q_getr rfl sk_404 sr_404_51 ?_
      refine q_ild rfl rfl ?_
      refine q_xald rfl (Or.inl rfl) sk_430 sn_430 (by omega) (by omega) ?_
      show dw_ok (pr_X12_tries K) 272 0 0 [some (.ref 404), some (.int a1), some (.int a2), some (.int nn), some (.int i), u5, u6, u7, u8, u9] [.int (I 430 (i).toInt.toNat), .int (1 : Int32), .int i, .ref 429] (n, SH1, I, J)
      rw [hin]
      refine q_ald rfl rfl ?_
      refine q_getr rfl sk_404 sr_404_51 ?_
      refine q_ic rfl ?_
      refine q_ild rfl rfl ?_
      refine q_add rfl ?_
      show dw_ok (pr_X12_tries K) 281 0 0 [some (.ref 404), some (.int a1), some (.int a2), some (.int nn), some (.int i), u5, u6, u7, u8, u9] [.int ((16 : Int32) + i), .ref 430, .int (I 430 k), .int (1 : Int32), .int i, .ref 429] (n, SH1, I, J)
      obtain ⟨i16, hi16⟩ : ∃ z, z = ((16 : Int32) + i) := ⟨_, rfl⟩
      rw [← hi16]
      have ei16 : i16.toInt = ((16 + k : Nat) : Int) := by rw [hi16]; exact ix_a (x := 16) (a := 16) rfl hi (by omega)
      refine q_xald rfl (Or.inl rfl) sk_430 sn_430 (by omega) (by omega) ?_
      show dw_ok (pr_X12_tries K) 282 0 0 [some (.ref 404), some (.int a1), some (.int a2), some (.int nn), some (.int i), u5, u6, u7, u8, u9] [.int (I 430 (i16).toInt.toNat), .int (I 430 k), .int (1 : Int32), .int i, .ref 429] (n, SH1, I, J)
      rw [(nat_of ei16)]
      refine q_icmp (c := 0) rfl (by decide) (fun y7 => ?_) (fun y7 => ?_)
      · have y7 : ((I 430 k)).toInt = ((I 430 (16 + k))).toInt := y7
        refine q_ic rfl ?_
        refine q_ior rfl ?_
        refine q_ald rfl rfl ?_
        refine q_getr rfl sk_404 sr_404_51 ?_
        refine q_ic rfl ?_
        refine q_ild rfl rfl ?_
        refine q_add rfl ?_
        show dw_ok (pr_X12_tries K) 300 0 0 [some (.ref 404), some (.int a1), some (.int a2), some (.int nn), some (.int i), u5, u6, u7, u8, u9] [.int ((8 : Int32) + i), .ref 430, .int ((1 : Int32) ||| (0 : Int32)), .int i, .ref 429] (n, SH1, I, J)
        obtain ⟨i8, hi8⟩ : ∃ z, z = ((8 : Int32) + i) := ⟨_, rfl⟩
        rw [← hi8]
        have ei8 : i8.toInt = ((8 + k : Nat) : Int) := by rw [hi8]; exact ix_a (x := 8) (a := 8) rfl hi (by omega)
        refine q_xald rfl (Or.inl rfl) sk_430 sn_430 (by omega) (by omega) ?_
        show dw_ok (pr_X12_tries K) 301 0 0 [some (.ref 404), some (.int a1), some (.int a2), some (.int nn), some (.int i), u5, u6, u7, u8, u9] [.int (I 430 (i8).toInt.toNat), .int ((1 : Int32) ||| (0 : Int32)), .int i, .ref 429] (n, SH1, I, J)
        rw [(nat_of ei8)]
        refine q_ald rfl rfl ?_
        refine q_getr rfl sk_404 sr_404_51 ?_
        refine q_ic rfl ?_
        refine q_ild rfl rfl ?_
        refine q_add rfl ?_
        show dw_ok (pr_X12_tries K) 310 0 0 [some (.ref 404), some (.int a1), some (.int a2), some (.int nn), some (.int i), u5, u6, u7, u8, u9] [.int ((16 : Int32) + i), .ref 430, .int (I 430 (8 + k)), .int ((1 : Int32) ||| (0 : Int32)), .int i, .ref 429] (n, SH1, I, J)
        obtain ⟨i16, hi16⟩ : ∃ z, z = ((16 : Int32) + i) := ⟨_, rfl⟩
        rw [← hi16]
        have ei16 : i16.toInt = ((16 + k : Nat) : Int) := by rw [hi16]; exact ix_a (x := 16) (a := 16) rfl hi (by omega)
        refine q_xald rfl (Or.inl rfl) sk_430 sn_430 (by omega) (by omega) ?_
        show dw_ok (pr_X12_tries K) 311 0 0 [some (.ref 404), some (.int a1), some (.int a2), some (.int nn), some (.int i), u5, u6, u7, u8, u9] [.int (I 430 (i16).toInt.toNat), .int (I 430 (8 + k)), .int ((1 : Int32) ||| (0 : Int32)), .int i, .ref 429] (n, SH1, I, J)
        rw [(nat_of ei16)]
        refine q_icmp (c := 0) rfl (by decide) (fun y8 => ?_) (fun y8 => ?_)
        · have y8 : ((I 430 (8 + k))).toInt = ((I 430 (16 + k))).toInt := y8
          refine q_ic rfl ?_
          refine q_ior rfl ?_
          refine q_iast rfl sk_429 sn_429 (by omega) (by omega) ?_
          show dw_ok (pr_X12_tries K) 321 0 0 [some (.ref 404), some (.int a1), some (.int a2), some (.int nn), some (.int i), u5, u6, u7, u8, u9] [] (n, SH1, (dw_up I 429 (i).toInt.toNat (((1 : Int32) ||| (0 : Int32)) ||| (0 : Int32))), J)
          rw [hin]
          refine q_inc rfl rfl rfl ?_
          show dw_ok (pr_X12_tries K) 324 0 0 [some (.ref 404), some (.int a1), some (.int a2), some (.int nn), some (.int (i + 1)), u5, u6, u7, u8, u9] [] (n, SH1, (dw_up I 429 k (((1 : Int32) ||| (0 : Int32)) ||| (0 : Int32))), J)
          show dw_ok (pr_X12_tries K) 324 0 0 [some (.ref 404), some (.int a1), some (.int a2), some (.int nn), some (.int (i + 1)), u5, u6, u7, u8, u9] [] (n, SH1, (dw_up I 429 k (((1 : Int32) ||| (0 : Int32)) ||| (0 : Int32))), J)
          obtain ⟨ix, hix⟩ : ∃ z, z = (i + 1) := ⟨_, rfl⟩
          rw [← hix]
          have eix : ix.toInt = ((k + 1 : Nat) : Int) := by rw [hix]; exact ix_1 hi (by omega)
          refine q_goto rfl ?_
          refine ih (k + 1) ix (dw_up I 429 k (((1 : Int32) ||| (0 : Int32)) ||| (0 : Int32))) (by omega) eix (fun a ha => (up_row ha).trans (hr a ha)) (fun j hj => ?_)
          by_cases e : j = k
          · rw [e, show (dw_up I 429 k (((1 : Int32) ||| (0 : Int32)) ||| (0 : Int32))) 429 k = (((1 : Int32) ||| (0 : Int32)) ||| (0 : Int32)) from up_same, decide_eq_true (show I0 430 k ≠ I0 430 (8 + k) from fun q => y3 (by rw [e430, q])), decide_eq_false (show ¬ I0 430 k ≠ I0 430 (16 + k) from fun q => q (i_eq (by rw [← e430]; exact y7))), decide_eq_false (show ¬ I0 430 (8 + k) ≠ I0 430 (16 + k) from fun q => q (i_eq (by rw [← e430]; exact y8)))]
            rfl
          · rw [show (dw_up I 429 k (((1 : Int32) ||| (0 : Int32)) ||| (0 : Int32))) 429 j = I 429 j from up_fld e]; exact hV j (by omega)
        · have y8 : ((I 430 (8 + k))).toInt ≠ ((I 430 (16 + k))).toInt := y8
          refine q_ic rfl ?_
          refine q_goto rfl ?_
          refine q_ior rfl ?_
          refine q_iast rfl sk_429 sn_429 (by omega) (by omega) ?_
          show dw_ok (pr_X12_tries K) 321 0 0 [some (.ref 404), some (.int a1), some (.int a2), some (.int nn), some (.int i), u5, u6, u7, u8, u9] [] (n, SH1, (dw_up I 429 (i).toInt.toNat (((1 : Int32) ||| (0 : Int32)) ||| (4 : Int32))), J)
          rw [hin]
          refine q_inc rfl rfl rfl ?_
          show dw_ok (pr_X12_tries K) 324 0 0 [some (.ref 404), some (.int a1), some (.int a2), some (.int nn), some (.int (i + 1)), u5, u6, u7, u8, u9] [] (n, SH1, (dw_up I 429 k (((1 : Int32) ||| (0 : Int32)) ||| (4 : Int32))), J)
          show dw_ok (pr_X12_tries K) 324 0 0 [some (.ref 404), some (.int a1), some (.int a2), some (.int nn), some (.int (i + 1)), u5, u6, u7, u8, u9] [] (n, SH1, (dw_up I 429 k (((1 : Int32) ||| (0 : Int32)) ||| (4 : Int32))), J)
          obtain ⟨ix, hix⟩ : ∃ z, z = (i + 1) := ⟨_, rfl⟩
          rw [← hix]
          have eix : ix.toInt = ((k + 1 : Nat) : Int) := by rw [hix]; exact ix_1 hi (by omega)
          refine q_goto rfl ?_
          refine ih (k + 1) ix (dw_up I 429 k (((1 : Int32) ||| (0 : Int32)) ||| (4 : Int32))) (by omega) eix (fun a ha => (up_row ha).trans (hr a ha)) (fun j hj => ?_)
          by_cases e : j = k
          · rw [e, show (dw_up I 429 k (((1 : Int32) ||| (0 : Int32)) ||| (4 : Int32))) 429 k = (((1 : Int32) ||| (0 : Int32)) ||| (4 : Int32)) from up_same, decide_eq_true (show I0 430 k ≠ I0 430 (8 + k) from fun q => y3 (by rw [e430, q])), decide_eq_false (show ¬ I0 430 k ≠ I0 430 (16 + k) from fun q => q (i_eq (by rw [← e430]; exact y7))), decide_eq_true (show I0 430 (8 + k) ≠ I0 430 (16 + k) from fun q => y8 (by rw [e430, q]))]
            rfl
          · rw [show (dw_up I 429 k (((1 : Int32) ||| (0 : Int32)) ||| (4 : Int32))) 429 j = I 429 j from up_fld e]; exact hV j (by omega)
      · have y7 : ((I 430 k)).toInt ≠ ((I 430 (16 + k))).toInt := y7
        refine q_ic rfl ?_
        refine q_goto rfl ?_
        refine q_ior rfl ?_
        refine q_ald rfl rfl ?_
        refine q_getr rfl sk_404 sr_404_51 ?_
        refine q_ic rfl ?_
        refine q_ild rfl rfl ?_
        refine q_add rfl ?_
        show dw_ok (pr_X12_tries K) 300 0 0 [some (.ref 404), some (.int a1), some (.int a2), some (.int nn), some (.int i), u5, u6, u7, u8, u9] [.int ((8 : Int32) + i), .ref 430, .int ((1 : Int32) ||| (2 : Int32)), .int i, .ref 429] (n, SH1, I, J)
        obtain ⟨i8, hi8⟩ : ∃ z, z = ((8 : Int32) + i) := ⟨_, rfl⟩
        rw [← hi8]
        have ei8 : i8.toInt = ((8 + k : Nat) : Int) := by rw [hi8]; exact ix_a (x := 8) (a := 8) rfl hi (by omega)
        refine q_xald rfl (Or.inl rfl) sk_430 sn_430 (by omega) (by omega) ?_
        show dw_ok (pr_X12_tries K) 301 0 0 [some (.ref 404), some (.int a1), some (.int a2), some (.int nn), some (.int i), u5, u6, u7, u8, u9] [.int (I 430 (i8).toInt.toNat), .int ((1 : Int32) ||| (2 : Int32)), .int i, .ref 429] (n, SH1, I, J)
        rw [(nat_of ei8)]
        refine q_ald rfl rfl ?_
        refine q_getr rfl sk_404 sr_404_51 ?_
        refine q_ic rfl ?_
        refine q_ild rfl rfl ?_
        refine q_add rfl ?_
        show dw_ok (pr_X12_tries K) 310 0 0 [some (.ref 404), some (.int a1), some (.int a2), some (.int nn), some (.int i), u5, u6, u7, u8, u9] [.int ((16 : Int32) + i), .ref 430, .int (I 430 (8 + k)), .int ((1 : Int32) ||| (2 : Int32)), .int i, .ref 429] (n, SH1, I, J)
        obtain ⟨i16, hi16⟩ : ∃ z, z = ((16 : Int32) + i) := ⟨_, rfl⟩
        rw [← hi16]
        have ei16 : i16.toInt = ((16 + k : Nat) : Int) := by rw [hi16]; exact ix_a (x := 16) (a := 16) rfl hi (by omega)
        refine q_xald rfl (Or.inl rfl) sk_430 sn_430 (by omega) (by omega) ?_
        show dw_ok (pr_X12_tries K) 311 0 0 [some (.ref 404), some (.int a1), some (.int a2), some (.int nn), some (.int i), u5, u6, u7, u8, u9] [.int (I 430 (i16).toInt.toNat), .int (I 430 (8 + k)), .int ((1 : Int32) ||| (2 : Int32)), .int i, .ref 429] (n, SH1, I, J)
        rw [(nat_of ei16)]
        refine q_icmp (c := 0) rfl (by decide) (fun y9 => ?_) (fun y9 => ?_)
        · have y9 : ((I 430 (8 + k))).toInt = ((I 430 (16 + k))).toInt := y9
          refine q_ic rfl ?_
          refine q_ior rfl ?_
          refine q_iast rfl sk_429 sn_429 (by omega) (by omega) ?_
          show dw_ok (pr_X12_tries K) 321 0 0 [some (.ref 404), some (.int a1), some (.int a2), some (.int nn), some (.int i), u5, u6, u7, u8, u9] [] (n, SH1, (dw_up I 429 (i).toInt.toNat (((1 : Int32) ||| (2 : Int32)) ||| (0 : Int32))), J)
          rw [hin]
          refine q_inc rfl rfl rfl ?_
          show dw_ok (pr_X12_tries K) 324 0 0 [some (.ref 404), some (.int a1), some (.int a2), some (.int nn), some (.int (i + 1)), u5, u6, u7, u8, u9] [] (n, SH1, (dw_up I 429 k (((1 : Int32) ||| (2 : Int32)) ||| (0 : Int32))), J)
          show dw_ok (pr_X12_tries K) 324 0 0 [some (.ref 404), some (.int a1), some (.int a2), some (.int nn), some (.int (i + 1)), u5, u6, u7, u8, u9] [] (n, SH1, (dw_up I 429 k (((1 : Int32) ||| (2 : Int32)) ||| (0 : Int32))), J)
          obtain ⟨ix, hix⟩ : ∃ z, z = (i + 1) := ⟨_, rfl⟩
          rw [← hix]
          have eix : ix.toInt = ((k + 1 : Nat) : Int) := by rw [hix]; exact ix_1 hi (by omega)
          refine q_goto rfl ?_
          refine ih (k + 1) ix (dw_up I 429 k (((1 : Int32) ||| (2 : Int32)) ||| (0 : Int32))) (by omega) eix (fun a ha => (up_row ha).trans (hr a ha)) (fun j hj => ?_)
          by_cases e : j = k
          · rw [e, show (dw_up I 429 k (((1 : Int32) ||| (2 : Int32)) ||| (0 : Int32))) 429 k = (((1 : Int32) ||| (2 : Int32)) ||| (0 : Int32)) from up_same, decide_eq_true (show I0 430 k ≠ I0 430 (8 + k) from fun q => y3 (by rw [e430, q])), decide_eq_true (show I0 430 k ≠ I0 430 (16 + k) from fun q => y7 (by rw [e430, q])), decide_eq_false (show ¬ I0 430 (8 + k) ≠ I0 430 (16 + k) from fun q => q (i_eq (by rw [← e430]; exact y9)))]
            rfl
          · rw [show (dw_up I 429 k (((1 : Int32) ||| (2 : Int32)) ||| (0 : Int32))) 429 j = I 429 j from up_fld e]; exact hV j (by omega)
        · have y9 : ((I 430 (8 + k))).toInt ≠ ((I 430 (16 + k))).toInt := y9
          refine q_ic rfl ?_
          refine q_goto rfl ?_
          refine q_ior rfl ?_
          refine q_iast rfl sk_429 sn_429 (by omega) (by omega) ?_
          show dw_ok (pr_X12_tries K) 321 0 0 [some (.ref 404), some (.int a1), some (.int a2), some (.int nn), some (.int i), u5, u6, u7, u8, u9] [] (n, SH1, (dw_up I 429 (i).toInt.toNat (((1 : Int32) ||| (2 : Int32)) ||| (4 : Int32))), J)
          rw [hin]
          refine q_inc rfl rfl rfl ?_
          show dw_ok (pr_X12_tries K) 324 0 0 [some (.ref 404), some (.int a1), some (.int a2), some (.int nn), some (.int (i + 1)), u5, u6, u7, u8, u9] [] (n, SH1, (dw_up I 429 k (((1 : Int32) ||| (2 : Int32)) ||| (4 : Int32))), J)
          show dw_ok (pr_X12_tries K) 324 0 0 [some (.ref 404), some (.int a1), some (.int a2), some (.int nn), some (.int (i + 1)), u5, u6, u7, u8, u9] [] (n, SH1, (dw_up I 429 k (((1 : Int32) ||| (2 : Int32)) ||| (4 : Int32))), J)
          obtain ⟨ix, hix⟩ : ∃ z, z = (i + 1) := ⟨_, rfl⟩
          rw [← hix]
          have eix : ix.toInt = ((k + 1 : Nat) : Int) := by rw [hix]; exact ix_1 hi (by omega)
          refine q_goto rfl ?_
          refine ih (k + 1) ix (dw_up I 429 k (((1 : Int32) ||| (2 : Int32)) ||| (4 : Int32))) (by omega) eix (fun a ha => (up_row ha).trans (hr a ha)) (fun j hj => ?_)
          by_cases e : j = k
          · rw [e, show (dw_up I 429 k (((1 : Int32) ||| (2 : Int32)) ||| (4 : Int32))) 429 k = (((1 : Int32) ||| (2 : Int32)) ||| (4 : Int32)) from up_same, decide_eq_true (show I0 430 k ≠ I0 430 (8 + k) from fun q => y3 (by rw [e430, q])), decide_eq_true (show I0 430 k ≠ I0 430 (16 + k) from fun q => y7 (by rw [e430, q])), decide_eq_true (show I0 430 (8 + k) ≠ I0 430 (16 + k) from fun q => y9 (by rw [e430, q]))]
            rfl
          · rw [show (dw_up I 429 k (((1 : Int32) ||| (2 : Int32)) ||| (4 : Int32))) 429 j = I 429 j from up_fld e]; exact hV j (by omega)
set_option maxRecDepth 8000 in
theorem mtw_loop_0 {n : Nat} {J : Nat → Nat → Int64} {K : dw_K} {R b : Nat → Int32} {I0 : Nat → Nat → Int32} {a1 a2 nn : Int32} {u6 u7 u8 u9 : Option Value} {m : Nat} (hn : nn.toInt = m) (hm : m ≤ 8) (hN9 : Nn R ≤ 144) (hT : ∀ i, i < m → (I0 428 i).toInt = cT R b i) (hl : ∀ i, i < m → cT R b i < Nn R)
    (hk : ∀ (i : Int32) (I' : Nat → Nat → Int32), (∀ a, a ≠ 430 → I' a = I0 a) → (∀ j, j < 0 → I' 430 j = I0 430 j) → (∀ i, i < m → I' 430 (0 + i) = I0 417 (cT R b i)) → dw_ok (pr_X12_tries K) 219 0 0 [some (.ref 404), some (.int a1), some (.int a2), some (.int nn), some (.int 0), some (.int i), u6, u7, u8, u9] [] (n, SH1, I', J)) :
    ∀ (f k : Nat) (i : Int32) (I : Nat → Nat → Int32), k + f = m → i.toInt = k → (∀ a, a ≠ 430 → I a = I0 a) → (∀ j, j < 0 → I 430 j = I0 430 j) → (∀ i, i < k → I 430 (0 + i) = I0 417 (cT R b i)) → dw_ok (pr_X12_tries K) 182 0 0 [some (.ref 404), some (.int a1), some (.int a2), some (.int nn), some (.int 0), some (.int i), u6, u7, u8, u9] [] (n, SH1, I, J) := by
  intro f
  induction f with
  | zero =>
    intro k i I hf hi hr hB hV
    have ekm : k = m := by omega
    refine q_ild rfl rfl ?_
    refine q_ild rfl rfl ?_
    refine q_icmp (c := 3) rfl (by decide) (fun y1 => ?_) (fun h => absurd (show (i).toInt < (nn).toInt from h) (by omega))
    have y1 : (nn).toInt ≤ (i).toInt := y1
    rw [ekm] at hV
    exact hk i I hr hB hV
  | succ f ih =>
    intro k i I hf hi hr hB hV
    have hin : i.toInt.toNat = k := by omega
    have h428 : (I 428 k).toInt = cT R b k := by rw [hr 428 (by decide)]; exact hT k (by omega)
    have hlk := hl k (by omega)
    have n428 : (I 428 k).toInt.toNat = cT R b k := by omega
    refine q_ild rfl rfl ?_
    refine q_ild rfl rfl ?_
    refine q_icmp (c := 3) rfl (by decide) (fun h => absurd (show (nn).toInt ≤ (i).toInt from h) (by omega)) (fun y2 => ?_)
    have y2 : (i).toInt < (nn).toInt := y2
    refine q_ald rfl rfl ?_
    refine q_getr rfl sk_404 sr_404_51 ?_
    refine q_ic rfl ?_
    refine q_ild rfl rfl ?_
    refine q_mul rfl ?_
    show dw_ok (pr_X12_tries K) 197 0 0 [some (.ref 404), some (.int a1), some (.int a2), some (.int nn), some (.int (0 : Int32)), some (.int i), u6, u7, u8, u9] [.int ((8 : Int32) * (0 : Int32)), .ref 430] (n, SH1, I, J)
    obtain ⟨e8, he8⟩ : ∃ z, z = ((8 : Int32) * (0 : Int32)) := ⟨_, rfl⟩
    rw [← he8]
    have ee8 : e8.toInt = ((0 : Nat) : Int) := by rw [he8]; exact rfl
    refine q_ild rfl rfl ?_
    refine q_add rfl ?_
    show dw_ok (pr_X12_tries K) 200 0 0 [some (.ref 404), some (.int a1), some (.int a2), some (.int nn), some (.int (0 : Int32)), some (.int i), u6, u7, u8, u9] [.int (e8 + i), .ref 430] (n, SH1, I, J)
    obtain ⟨ij, hij⟩ : ∃ z, z = (e8 + i) := ⟨_, rfl⟩
    rw [← hij]
    have eij : ij.toInt = ((0 + k : Nat) : Int) := by rw [hij]; exact ix_a (x := e8) (a := 0) ee8 hi (by omega)
    refine q_ald rfl rfl ?_
    refine q_getr rfl sk_404 sr_404_29 ?_
    refine q_ald rfl rfl ?_
    refine q_getr rfl sk_404 sr_404_49 ?_
    refine q_ild rfl rfl ?_
    refine q_xald rfl (Or.inl rfl) sk_428 sn_428 (by omega) (by omega) ?_
    show dw_ok (pr_X12_tries K) 211 0 0 [some (.ref 404), some (.int a1), some (.int a2), some (.int nn), some (.int (0 : Int32)), some (.int i), u6, u7, u8, u9] [.int (I 428 (i).toInt.toNat), .ref 417, .int ij, .ref 430] (n, SH1, I, J)
    rw [hin]
    show dw_ok (pr_X12_tries K) 211 0 0 [some (.ref 404), some (.int a1), some (.int a2), some (.int nn), some (.int (0 : Int32)), some (.int i), u6, u7, u8, u9] [.int (I 428 k), .ref 417, .int ij, .ref 430] (n, SH1, I, J)
    refine q_xald rfl (Or.inl rfl) sk_417 sn_417 (by omega) (by omega) ?_
    show dw_ok (pr_X12_tries K) 212 0 0 [some (.ref 404), some (.int a1), some (.int a2), some (.int nn), some (.int (0 : Int32)), some (.int i), u6, u7, u8, u9] [.int (I 417 ((I 428 k)).toInt.toNat), .int ij, .ref 430] (n, SH1, I, J)
    rw [n428]
    refine q_iast rfl sk_430 sn_430 (by omega) (by omega) ?_
    show dw_ok (pr_X12_tries K) 213 0 0 [some (.ref 404), some (.int a1), some (.int a2), some (.int nn), some (.int (0 : Int32)), some (.int i), u6, u7, u8, u9] [] (n, SH1, (dw_up I 430 (ij).toInt.toNat (I 417 (cT R b k))), J)
    rw [(nat_of eij)]
    refine q_inc rfl rfl rfl ?_
    show dw_ok (pr_X12_tries K) 216 0 0 [some (.ref 404), some (.int a1), some (.int a2), some (.int nn), some (.int (0 : Int32)), some (.int (i + 1)), u6, u7, u8, u9] [] (n, SH1, (dw_up I 430 (0 + k) (I 417 (cT R b k))), J)
    show dw_ok (pr_X12_tries K) 216 0 0 [some (.ref 404), some (.int a1), some (.int a2), some (.int nn), some (.int (0 : Int32)), some (.int (i + 1)), u6, u7, u8, u9] [] (n, SH1, (dw_up I 430 (0 + k) (I 417 (cT R b k))), J)
    obtain ⟨ix, hix⟩ : ∃ z, z = (i + 1) := ⟨_, rfl⟩
    rw [← hix]
    have eix : ix.toInt = ((k + 1 : Nat) : Int) := by rw [hix]; exact ix_1 hi (by omega)
    refine q_goto rfl ?_
    refine ih (k + 1) ix (dw_up I 430 (0 + k) (I 417 (cT R b k))) (by omega) eix (fun a ha => (up_row ha).trans (hr a ha)) (fun j hj => (up_fld (by omega)).trans (hB j hj)) (fun j hj => ?_)
    by_cases e : j = k
    · rw [e, show (dw_up I 430 (0 + k) (I 417 (cT R b k))) 430 (0 + k) = (I 417 (cT R b k)) from up_same, hr 417 (by decide)]
    · rw [show (dw_up I 430 (0 + k) (I 417 (cT R b k))) 430 (0 + j) = I 430 (0 + j) from up_fld (by omega)]; exact hV j (by omega)
set_option maxRecDepth 8000 in
theorem mtw_loop_1 {n : Nat} {J : Nat → Nat → Int64} {K : dw_K} {R b : Nat → Int32} {I0 : Nat → Nat → Int32} {a1 a2 nn : Int32} {u6 u7 u8 u9 : Option Value} {m : Nat} (hn : nn.toInt = m) (hm : m ≤ 8) (hN9 : Nn R ≤ 144) (hT : ∀ i, i < m → (I0 428 i).toInt = cT R b i) (hl : ∀ i, i < m → cT R b i < Nn R)
    (hk : ∀ (i : Int32) (I' : Nat → Nat → Int32), (∀ a, a ≠ 430 → I' a = I0 a) → (∀ j, j < 8 → I' 430 j = I0 430 j) → (∀ i, i < m → I' 430 (8 + i) = I0 417 (cT R b i)) → dw_ok (pr_X12_tries K) 219 0 0 [some (.ref 404), some (.int a1), some (.int a2), some (.int nn), some (.int 1), some (.int i), u6, u7, u8, u9] [] (n, SH1, I', J)) :
    ∀ (f k : Nat) (i : Int32) (I : Nat → Nat → Int32), k + f = m → i.toInt = k → (∀ a, a ≠ 430 → I a = I0 a) → (∀ j, j < 8 → I 430 j = I0 430 j) → (∀ i, i < k → I 430 (8 + i) = I0 417 (cT R b i)) → dw_ok (pr_X12_tries K) 182 0 0 [some (.ref 404), some (.int a1), some (.int a2), some (.int nn), some (.int 1), some (.int i), u6, u7, u8, u9] [] (n, SH1, I, J) := by
  intro f
  induction f with
  | zero =>
    intro k i I hf hi hr hB hV
    have ekm : k = m := by omega
    refine q_ild rfl rfl ?_
    refine q_ild rfl rfl ?_
    refine q_icmp (c := 3) rfl (by decide) (fun y1 => ?_) (fun h => absurd (show (i).toInt < (nn).toInt from h) (by omega))
    have y1 : (nn).toInt ≤ (i).toInt := y1
    rw [ekm] at hV
    exact hk i I hr hB hV
  | succ f ih =>
    intro k i I hf hi hr hB hV
    have hin : i.toInt.toNat = k := by omega
    have h428 : (I 428 k).toInt = cT R b k := by rw [hr 428 (by decide)]; exact hT k (by omega)
    have hlk := hl k (by omega)
    have n428 : (I 428 k).toInt.toNat = cT R b k := by omega
    refine q_ild rfl rfl ?_
    refine q_ild rfl rfl ?_
    refine q_icmp (c := 3) rfl (by decide) (fun h => absurd (show (nn).toInt ≤ (i).toInt from h) (by omega)) (fun y2 => ?_)
    have y2 : (i).toInt < (nn).toInt := y2
    refine q_ald rfl rfl ?_
    refine q_getr rfl sk_404 sr_404_51 ?_
    refine q_ic rfl ?_
    refine q_ild rfl rfl ?_
    refine q_mul rfl ?_
    show dw_ok (pr_X12_tries K) 197 0 0 [some (.ref 404), some (.int a1), some (.int a2), some (.int nn), some (.int (1 : Int32)), some (.int i), u6, u7, u8, u9] [.int ((8 : Int32) * (1 : Int32)), .ref 430] (n, SH1, I, J)
    obtain ⟨e8, he8⟩ : ∃ z, z = ((8 : Int32) * (1 : Int32)) := ⟨_, rfl⟩
    rw [← he8]
    have ee8 : e8.toInt = ((8 : Nat) : Int) := by rw [he8]; exact rfl
    refine q_ild rfl rfl ?_
    refine q_add rfl ?_
    show dw_ok (pr_X12_tries K) 200 0 0 [some (.ref 404), some (.int a1), some (.int a2), some (.int nn), some (.int (1 : Int32)), some (.int i), u6, u7, u8, u9] [.int (e8 + i), .ref 430] (n, SH1, I, J)
    obtain ⟨ij, hij⟩ : ∃ z, z = (e8 + i) := ⟨_, rfl⟩
    rw [← hij]
    have eij : ij.toInt = ((8 + k : Nat) : Int) := by rw [hij]; exact ix_a (x := e8) (a := 8) ee8 hi (by omega)
    refine q_ald rfl rfl ?_
    refine q_getr rfl sk_404 sr_404_29 ?_
    refine q_ald rfl rfl ?_
    refine q_getr rfl sk_404 sr_404_49 ?_
    refine q_ild rfl rfl ?_
    refine q_xald rfl (Or.inl rfl) sk_428 sn_428 (by omega) (by omega) ?_
    show dw_ok (pr_X12_tries K) 211 0 0 [some (.ref 404), some (.int a1), some (.int a2), some (.int nn), some (.int (1 : Int32)), some (.int i), u6, u7, u8, u9] [.int (I 428 (i).toInt.toNat), .ref 417, .int ij, .ref 430] (n, SH1, I, J)
    rw [hin]
    show dw_ok (pr_X12_tries K) 211 0 0 [some (.ref 404), some (.int a1), some (.int a2), some (.int nn), some (.int (1 : Int32)), some (.int i), u6, u7, u8, u9] [.int (I 428 k), .ref 417, .int ij, .ref 430] (n, SH1, I, J)
    refine q_xald rfl (Or.inl rfl) sk_417 sn_417 (by omega) (by omega) ?_
    show dw_ok (pr_X12_tries K) 212 0 0 [some (.ref 404), some (.int a1), some (.int a2), some (.int nn), some (.int (1 : Int32)), some (.int i), u6, u7, u8, u9] [.int (I 417 ((I 428 k)).toInt.toNat), .int ij, .ref 430] (n, SH1, I, J)
    rw [n428]
    refine q_iast rfl sk_430 sn_430 (by omega) (by omega) ?_
    show dw_ok (pr_X12_tries K) 213 0 0 [some (.ref 404), some (.int a1), some (.int a2), some (.int nn), some (.int (1 : Int32)), some (.int i), u6, u7, u8, u9] [] (n, SH1, (dw_up I 430 (ij).toInt.toNat (I 417 (cT R b k))), J)
    rw [(nat_of eij)]
    refine q_inc rfl rfl rfl ?_
    show dw_ok (pr_X12_tries K) 216 0 0 [some (.ref 404), some (.int a1), some (.int a2), some (.int nn), some (.int (1 : Int32)), some (.int (i + 1)), u6, u7, u8, u9] [] (n, SH1, (dw_up I 430 (8 + k) (I 417 (cT R b k))), J)
    show dw_ok (pr_X12_tries K) 216 0 0 [some (.ref 404), some (.int a1), some (.int a2), some (.int nn), some (.int (1 : Int32)), some (.int (i + 1)), u6, u7, u8, u9] [] (n, SH1, (dw_up I 430 (8 + k) (I 417 (cT R b k))), J)
    obtain ⟨ix, hix⟩ : ∃ z, z = (i + 1) := ⟨_, rfl⟩
    rw [← hix]
    have eix : ix.toInt = ((k + 1 : Nat) : Int) := by rw [hix]; exact ix_1 hi (by omega)
    refine q_goto rfl ?_
    refine ih (k + 1) ix (dw_up I 430 (8 + k) (I 417 (cT R b k))) (by omega) eix (fun a ha => (up_row ha).trans (hr a ha)) (fun j hj => (up_fld (by omega)).trans (hB j hj)) (fun j hj => ?_)
    by_cases e : j = k
    · rw [e, show (dw_up I 430 (8 + k) (I 417 (cT R b k))) 430 (8 + k) = (I 417 (cT R b k)) from up_same, hr 417 (by decide)]
    · rw [show (dw_up I 430 (8 + k) (I 417 (cT R b k))) 430 (8 + j) = I 430 (8 + j) from up_fld (by omega)]; exact hV j (by omega)
set_option maxRecDepth 8000 in
theorem mtw_loop_2 {n : Nat} {J : Nat → Nat → Int64} {K : dw_K} {R b : Nat → Int32} {I0 : Nat → Nat → Int32} {a1 a2 nn : Int32} {u6 u7 u8 u9 : Option Value} {m : Nat} (hn : nn.toInt = m) (hm : m ≤ 8) (hN9 : Nn R ≤ 144) (hT : ∀ i, i < m → (I0 428 i).toInt = cT R b i) (hl : ∀ i, i < m → cT R b i < Nn R)
    (hk : ∀ (i : Int32) (I' : Nat → Nat → Int32), (∀ a, a ≠ 430 → I' a = I0 a) → (∀ j, j < 16 → I' 430 j = I0 430 j) → (∀ i, i < m → I' 430 (16 + i) = I0 417 (cT R b i)) → dw_ok (pr_X12_tries K) 219 0 0 [some (.ref 404), some (.int a1), some (.int a2), some (.int nn), some (.int 2), some (.int i), u6, u7, u8, u9] [] (n, SH1, I', J)) :
    ∀ (f k : Nat) (i : Int32) (I : Nat → Nat → Int32), k + f = m → i.toInt = k → (∀ a, a ≠ 430 → I a = I0 a) → (∀ j, j < 16 → I 430 j = I0 430 j) → (∀ i, i < k → I 430 (16 + i) = I0 417 (cT R b i)) → dw_ok (pr_X12_tries K) 182 0 0 [some (.ref 404), some (.int a1), some (.int a2), some (.int nn), some (.int 2), some (.int i), u6, u7, u8, u9] [] (n, SH1, I, J) := by
  intro f
  induction f with
  | zero =>
    intro k i I hf hi hr hB hV
    have ekm : k = m := by omega
    refine q_ild rfl rfl ?_
    refine q_ild rfl rfl ?_
    refine q_icmp (c := 3) rfl (by decide) (fun y1 => ?_) (fun h => absurd (show (i).toInt < (nn).toInt from h) (by omega))
    have y1 : (nn).toInt ≤ (i).toInt := y1
    rw [ekm] at hV
    exact hk i I hr hB hV
  | succ f ih =>
    intro k i I hf hi hr hB hV
    have hin : i.toInt.toNat = k := by omega
    have h428 : (I 428 k).toInt = cT R b k := by rw [hr 428 (by decide)]; exact hT k (by omega)
    have hlk := hl k (by omega)
    have n428 : (I 428 k).toInt.toNat = cT R b k := by omega
    refine q_ild rfl rfl ?_
    refine q_ild rfl rfl ?_
    refine q_icmp (c := 3) rfl (by decide) (fun h => absurd (show (nn).toInt ≤ (i).toInt from h) (by omega)) (fun y2 => ?_)
    have y2 : (i).toInt < (nn).toInt := y2
    refine q_ald rfl rfl ?_
    refine q_getr rfl sk_404 sr_404_51 ?_
    refine q_ic rfl ?_
    refine q_ild rfl rfl ?_
    refine q_mul rfl ?_
    show dw_ok (pr_X12_tries K) 197 0 0 [some (.ref 404), some (.int a1), some (.int a2), some (.int nn), some (.int (2 : Int32)), some (.int i), u6, u7, u8, u9] [.int ((8 : Int32) * (2 : Int32)), .ref 430] (n, SH1, I, J)
    obtain ⟨e8, he8⟩ : ∃ z, z = ((8 : Int32) * (2 : Int32)) := ⟨_, rfl⟩
    rw [← he8]
    have ee8 : e8.toInt = ((16 : Nat) : Int) := by rw [he8]; exact rfl
    refine q_ild rfl rfl ?_
    refine q_add rfl ?_
    show dw_ok (pr_X12_tries K) 200 0 0 [some (.ref 404), some (.int a1), some (.int a2), some (.int nn), some (.int (2 : Int32)), some (.int i), u6, u7, u8, u9] [.int (e8 + i), .ref 430] (n, SH1, I, J)
    obtain ⟨ij, hij⟩ : ∃ z, z = (e8 + i) := ⟨_, rfl⟩
    rw [← hij]
    have eij : ij.toInt = ((16 + k : Nat) : Int) := by rw [hij]; exact ix_a (x := e8) (a := 16) ee8 hi (by omega)
    refine q_ald rfl rfl ?_
    refine q_getr rfl sk_404 sr_404_29 ?_
    refine q_ald rfl rfl ?_
    refine q_getr rfl sk_404 sr_404_49 ?_
    refine q_ild rfl rfl ?_
    refine q_xald rfl (Or.inl rfl) sk_428 sn_428 (by omega) (by omega) ?_
    show dw_ok (pr_X12_tries K) 211 0 0 [some (.ref 404), some (.int a1), some (.int a2), some (.int nn), some (.int (2 : Int32)), some (.int i), u6, u7, u8, u9] [.int (I 428 (i).toInt.toNat), .ref 417, .int ij, .ref 430] (n, SH1, I, J)
    rw [hin]
    show dw_ok (pr_X12_tries K) 211 0 0 [some (.ref 404), some (.int a1), some (.int a2), some (.int nn), some (.int (2 : Int32)), some (.int i), u6, u7, u8, u9] [.int (I 428 k), .ref 417, .int ij, .ref 430] (n, SH1, I, J)
    refine q_xald rfl (Or.inl rfl) sk_417 sn_417 (by omega) (by omega) ?_
    show dw_ok (pr_X12_tries K) 212 0 0 [some (.ref 404), some (.int a1), some (.int a2), some (.int nn), some (.int (2 : Int32)), some (.int i), u6, u7, u8, u9] [.int (I 417 ((I 428 k)).toInt.toNat), .int ij, .ref 430] (n, SH1, I, J)
    rw [n428]
    refine q_iast rfl sk_430 sn_430 (by omega) (by omega) ?_
    show dw_ok (pr_X12_tries K) 213 0 0 [some (.ref 404), some (.int a1), some (.int a2), some (.int nn), some (.int (2 : Int32)), some (.int i), u6, u7, u8, u9] [] (n, SH1, (dw_up I 430 (ij).toInt.toNat (I 417 (cT R b k))), J)
    rw [(nat_of eij)]
    refine q_inc rfl rfl rfl ?_
    show dw_ok (pr_X12_tries K) 216 0 0 [some (.ref 404), some (.int a1), some (.int a2), some (.int nn), some (.int (2 : Int32)), some (.int (i + 1)), u6, u7, u8, u9] [] (n, SH1, (dw_up I 430 (16 + k) (I 417 (cT R b k))), J)
    show dw_ok (pr_X12_tries K) 216 0 0 [some (.ref 404), some (.int a1), some (.int a2), some (.int nn), some (.int (2 : Int32)), some (.int (i + 1)), u6, u7, u8, u9] [] (n, SH1, (dw_up I 430 (16 + k) (I 417 (cT R b k))), J)
    obtain ⟨ix, hix⟩ : ∃ z, z = (i + 1) := ⟨_, rfl⟩
    rw [← hix]
    have eix : ix.toInt = ((k + 1 : Nat) : Int) := by rw [hix]; exact ix_1 hi (by omega)
    refine q_goto rfl ?_
    refine ih (k + 1) ix (dw_up I 430 (16 + k) (I 417 (cT R b k))) (by omega) eix (fun a ha => (up_row ha).trans (hr a ha)) (fun j hj => (up_fld (by omega)).trans (hB j hj)) (fun j hj => ?_)
    by_cases e : j = k
    · rw [e, show (dw_up I 430 (16 + k) (I 417 (cT R b k))) 430 (16 + k) = (I 417 (cT R b k)) from up_same, hr 417 (by decide)]
    · rw [show (dw_up I 430 (16 + k) (I 417 (cT R b k))) 430 (16 + j) = I 430 (16 + j) from up_fld (by omega)]; exact hV j (by omega)
set_option maxRecDepth 8000 in
theorem mtS_3 {n : Nat} {J : Nat → Nat → Int64} {K : dw_K} {R b : Nat → Int32} {a1 a2 nn : Int32} {u6 u7 u8 u9 : Option Value} {m : Nat} (hG : GOK R) (oS : okS R a1) (hS : NOK (nX R a1)) (oT : okT a2) (hn : nn.toInt = m) (hm : m ≤ 8) (hl : ∀ i, i < m → cT R b i < Nn R) (hk : ∀ (u : Option Value) (I' : Nat → Nat → Int32), (∀ i, i < m → I' 430 (0 + i) = (wTr R b (nX R a1) a2.toInt.toNat 0) i) → (∀ i, i < m → I' 430 (8 + i) = (wTr R b (nX R a1) a2.toInt.toNat 1) i) → (∀ i, i < m → I' 430 (16 + i) = (wTr R b (nX R a1) a2.toInt.toNat 2) i) → dw_ok (pr_X12_tries K) 225 0 0 [some (.ref 404), some (.int a1), some (.int a2), some (.int nn), some (.int 3), u, u6, u7, u8, u9] [] (n, SH1, I', J)) : ∀ (I : Nat → Nat → Int32) (u : Option Value), I 406 = R → (∀ i, i < m → (I 428 i).toInt = cT R b i) → (∀ i, i < m → I 430 (0 + i) = (wTr R b (nX R a1) a2.toInt.toNat 0) i) → (∀ i, i < m → I 430 (8 + i) = (wTr R b (nX R a1) a2.toInt.toNat 1) i) → (∀ i, i < m → I 430 (16 + i) = (wTr R b (nX R a1) a2.toInt.toNat 2) i) → dw_ok (pr_X12_tries K) 165 0 0 [some (.ref 404), some (.int a1), some (.int a2), some (.int nn), some (.int 3), u, u6, u7, u8, u9] [] (n, SH1, I, J) := by
  have hN9 := (gok_N hG).2
  intro I u e6 hT h0 h1 h2
  refine q_ild rfl rfl ?_
  refine q_ic rfl ?_
  refine q_icmp (c := 3) rfl (by decide) (fun y1 => ?_) (fun h => absurd (show (3 : Int) < (3 : Int) from h) (by decide))
  have y1 : (3 : Int) ≤ (3 : Int) := y1
  exact hk u I h0 h1 h2
set_option maxRecDepth 8000 in
theorem mtS_2 {n : Nat} {J : Nat → Nat → Int64} {K : dw_K} {R b : Nat → Int32} {a1 a2 nn : Int32} {u6 u7 u8 u9 : Option Value} {m : Nat} (hG : GOK R) (oS : okS R a1) (hS : NOK (nX R a1)) (oT : okT a2) (hn : nn.toInt = m) (hm : m ≤ 8) (hl : ∀ i, i < m → cT R b i < Nn R) (hk : ∀ (u : Option Value) (I' : Nat → Nat → Int32), (∀ i, i < m → I' 430 (0 + i) = (wTr R b (nX R a1) a2.toInt.toNat 0) i) → (∀ i, i < m → I' 430 (8 + i) = (wTr R b (nX R a1) a2.toInt.toNat 1) i) → (∀ i, i < m → I' 430 (16 + i) = (wTr R b (nX R a1) a2.toInt.toNat 2) i) → dw_ok (pr_X12_tries K) 225 0 0 [some (.ref 404), some (.int a1), some (.int a2), some (.int nn), some (.int 3), u, u6, u7, u8, u9] [] (n, SH1, I', J)) : ∀ (I : Nat → Nat → Int32) (u : Option Value), I 406 = R → (∀ i, i < m → (I 428 i).toInt = cT R b i) → (∀ i, i < m → I 430 (0 + i) = (wTr R b (nX R a1) a2.toInt.toNat 0) i) → (∀ i, i < m → I 430 (8 + i) = (wTr R b (nX R a1) a2.toInt.toNat 1) i) → dw_ok (pr_X12_tries K) 165 0 0 [some (.ref 404), some (.int a1), some (.int a2), some (.int nn), some (.int 2), u, u6, u7, u8, u9] [] (n, SH1, I, J) := by
  have hN9 := (gok_N hG).2
  intro I u e6 hT h0 h1
  refine q_ild rfl rfl ?_
  refine q_ic rfl ?_
  refine q_icmp (c := 3) rfl (by decide) (fun h => absurd (show (3 : Int) ≤ (2 : Int) from h) (by decide)) (fun y1 => ?_)
  have y1 : (2 : Int) < (3 : Int) := y1
  refine q_ald rfl rfl ?_
  refine q_ild rfl rfl ?_
  refine q_ild rfl rfl ?_
  refine q_ild rfl rfl ?_
  refine q_callV (as := [.int a1, .int (2 : Int32), .int a2]) (rest := []) rfl rfl sk_404 rfl (Nat.le_of_ble_eq_true rfl) ?_
  refine v_thrT (st := 2) e6 hG oS hS rfl oT (fun I1 e1 r1 w1 => ?_)
  show dw_ok (pr_X12_tries K) 179 0 0 [some (.ref 404), some (.int a1), some (.int a2), some (.int nn), some (.int (2 : Int32)), u, u6, u7, u8, u9] [] (n, SH1, I1, J)
  refine q_ic rfl ?_
  refine q_ist rfl rfl ?_
  show dw_ok (pr_X12_tries K) 182 0 0 [some (.ref 404), some (.int a1), some (.int a2), some (.int nn), some (.int (2 : Int32)), some (.int (0 : Int32)), u6, u7, u8, u9] [] (n, SH1, I1, J)
  refine mtw_loop_2 (R := R) (b := b) (I0 := I1) hn hm hN9 (fun i hi => by rw [r1 428 (by decide) (by decide)]; exact hT i hi) hl (fun i I3 r3 hB hV => ?_) m 0 0 I1 (by omega) rfl (fun _ _ => rfl) (fun _ _ => rfl) (fun i hi => absurd hi (Nat.not_lt_zero i))
  show dw_ok (pr_X12_tries K) 219 0 0 [some (.ref 404), some (.int a1), some (.int a2), some (.int nn), some (.int (2 : Int32)), some (.int i), u6, u7, u8, u9] [] (n, SH1, I3, J)
  refine q_inc rfl rfl rfl ?_
  show dw_ok (pr_X12_tries K) 222 0 0 [some (.ref 404), some (.int a1), some (.int a2), some (.int nn), some (.int ((2 : Int32) + 1)), some (.int i), u6, u7, u8, u9] [] (n, SH1, I3, J)
  refine q_goto rfl ?_
  rw [show ((2 : Int32) + 1) = (3 : Int32) from rfl]
  exact mtS_3 hG oS hS oT hn hm hl hk I3 _ ((r3 406 (by decide)).trans e1) (fun i hi => by rw [r3 428 (by decide), r1 428 (by decide) (by decide)]; exact hT i hi) (fun i hi => by rw [hB (0 + i) (by omega), r1 430 (by decide) (by decide)]; exact h0 i hi) (fun i hi => by rw [hB (8 + i) (by omega), r1 430 (by decide) (by decide)]; exact h1 i hi) (fun i hi => (hV i hi).trans (w1 _ (hl i hi)))
set_option maxRecDepth 8000 in
theorem mtS_1 {n : Nat} {J : Nat → Nat → Int64} {K : dw_K} {R b : Nat → Int32} {a1 a2 nn : Int32} {u6 u7 u8 u9 : Option Value} {m : Nat} (hG : GOK R) (oS : okS R a1) (hS : NOK (nX R a1)) (oT : okT a2) (hn : nn.toInt = m) (hm : m ≤ 8) (hl : ∀ i, i < m → cT R b i < Nn R) (hk : ∀ (u : Option Value) (I' : Nat → Nat → Int32), (∀ i, i < m → I' 430 (0 + i) = (wTr R b (nX R a1) a2.toInt.toNat 0) i) → (∀ i, i < m → I' 430 (8 + i) = (wTr R b (nX R a1) a2.toInt.toNat 1) i) → (∀ i, i < m → I' 430 (16 + i) = (wTr R b (nX R a1) a2.toInt.toNat 2) i) → dw_ok (pr_X12_tries K) 225 0 0 [some (.ref 404), some (.int a1), some (.int a2), some (.int nn), some (.int 3), u, u6, u7, u8, u9] [] (n, SH1, I', J)) : ∀ (I : Nat → Nat → Int32) (u : Option Value), I 406 = R → (∀ i, i < m → (I 428 i).toInt = cT R b i) → (∀ i, i < m → I 430 (0 + i) = (wTr R b (nX R a1) a2.toInt.toNat 0) i) → dw_ok (pr_X12_tries K) 165 0 0 [some (.ref 404), some (.int a1), some (.int a2), some (.int nn), some (.int 1), u, u6, u7, u8, u9] [] (n, SH1, I, J) := by
  have hN9 := (gok_N hG).2
  intro I u e6 hT h0
  refine q_ild rfl rfl ?_
  refine q_ic rfl ?_
  refine q_icmp (c := 3) rfl (by decide) (fun h => absurd (show (3 : Int) ≤ (1 : Int) from h) (by decide)) (fun y1 => ?_)
  have y1 : (1 : Int) < (3 : Int) := y1
  refine q_ald rfl rfl ?_
  refine q_ild rfl rfl ?_
  refine q_ild rfl rfl ?_
  refine q_ild rfl rfl ?_
  refine q_callV (as := [.int a1, .int (1 : Int32), .int a2]) (rest := []) rfl rfl sk_404 rfl (Nat.le_of_ble_eq_true rfl) ?_
  refine v_thrT (st := 1) e6 hG oS hS rfl oT (fun I1 e1 r1 w1 => ?_)
  show dw_ok (pr_X12_tries K) 179 0 0 [some (.ref 404), some (.int a1), some (.int a2), some (.int nn), some (.int (1 : Int32)), u, u6, u7, u8, u9] [] (n, SH1, I1, J)
  refine q_ic rfl ?_
  refine q_ist rfl rfl ?_
  show dw_ok (pr_X12_tries K) 182 0 0 [some (.ref 404), some (.int a1), some (.int a2), some (.int nn), some (.int (1 : Int32)), some (.int (0 : Int32)), u6, u7, u8, u9] [] (n, SH1, I1, J)
  refine mtw_loop_1 (R := R) (b := b) (I0 := I1) hn hm hN9 (fun i hi => by rw [r1 428 (by decide) (by decide)]; exact hT i hi) hl (fun i I3 r3 hB hV => ?_) m 0 0 I1 (by omega) rfl (fun _ _ => rfl) (fun _ _ => rfl) (fun i hi => absurd hi (Nat.not_lt_zero i))
  show dw_ok (pr_X12_tries K) 219 0 0 [some (.ref 404), some (.int a1), some (.int a2), some (.int nn), some (.int (1 : Int32)), some (.int i), u6, u7, u8, u9] [] (n, SH1, I3, J)
  refine q_inc rfl rfl rfl ?_
  show dw_ok (pr_X12_tries K) 222 0 0 [some (.ref 404), some (.int a1), some (.int a2), some (.int nn), some (.int ((1 : Int32) + 1)), some (.int i), u6, u7, u8, u9] [] (n, SH1, I3, J)
  refine q_goto rfl ?_
  rw [show ((1 : Int32) + 1) = (2 : Int32) from rfl]
  exact mtS_2 hG oS hS oT hn hm hl hk I3 _ ((r3 406 (by decide)).trans e1) (fun i hi => by rw [r3 428 (by decide), r1 428 (by decide) (by decide)]; exact hT i hi) (fun i hi => by rw [hB (0 + i) (by omega), r1 430 (by decide) (by decide)]; exact h0 i hi) (fun i hi => (hV i hi).trans (w1 _ (hl i hi)))
set_option maxRecDepth 8000 in
theorem mtS_0 {n : Nat} {J : Nat → Nat → Int64} {K : dw_K} {R b : Nat → Int32} {a1 a2 nn : Int32} {u6 u7 u8 u9 : Option Value} {m : Nat} (hG : GOK R) (oS : okS R a1) (hS : NOK (nX R a1)) (oT : okT a2) (hn : nn.toInt = m) (hm : m ≤ 8) (hl : ∀ i, i < m → cT R b i < Nn R) (hk : ∀ (u : Option Value) (I' : Nat → Nat → Int32), (∀ i, i < m → I' 430 (0 + i) = (wTr R b (nX R a1) a2.toInt.toNat 0) i) → (∀ i, i < m → I' 430 (8 + i) = (wTr R b (nX R a1) a2.toInt.toNat 1) i) → (∀ i, i < m → I' 430 (16 + i) = (wTr R b (nX R a1) a2.toInt.toNat 2) i) → dw_ok (pr_X12_tries K) 225 0 0 [some (.ref 404), some (.int a1), some (.int a2), some (.int nn), some (.int 3), u, u6, u7, u8, u9] [] (n, SH1, I', J)) : ∀ (I : Nat → Nat → Int32) (u : Option Value), I 406 = R → (∀ i, i < m → (I 428 i).toInt = cT R b i) → dw_ok (pr_X12_tries K) 165 0 0 [some (.ref 404), some (.int a1), some (.int a2), some (.int nn), some (.int 0), u, u6, u7, u8, u9] [] (n, SH1, I, J) := by
  have hN9 := (gok_N hG).2
  intro I u e6 hT
  refine q_ild rfl rfl ?_
  refine q_ic rfl ?_
  refine q_icmp (c := 3) rfl (by decide) (fun h => absurd (show (3 : Int) ≤ (0 : Int) from h) (by decide)) (fun y1 => ?_)
  have y1 : (0 : Int) < (3 : Int) := y1
  refine q_ald rfl rfl ?_
  refine q_ild rfl rfl ?_
  refine q_ild rfl rfl ?_
  refine q_ild rfl rfl ?_
  refine q_callV (as := [.int a1, .int (0 : Int32), .int a2]) (rest := []) rfl rfl sk_404 rfl (Nat.le_of_ble_eq_true rfl) ?_
  refine v_thrT (st := 0) e6 hG oS hS rfl oT (fun I1 e1 r1 w1 => ?_)
  show dw_ok (pr_X12_tries K) 179 0 0 [some (.ref 404), some (.int a1), some (.int a2), some (.int nn), some (.int (0 : Int32)), u, u6, u7, u8, u9] [] (n, SH1, I1, J)
  refine q_ic rfl ?_
  refine q_ist rfl rfl ?_
  show dw_ok (pr_X12_tries K) 182 0 0 [some (.ref 404), some (.int a1), some (.int a2), some (.int nn), some (.int (0 : Int32)), some (.int (0 : Int32)), u6, u7, u8, u9] [] (n, SH1, I1, J)
  refine mtw_loop_0 (R := R) (b := b) (I0 := I1) hn hm hN9 (fun i hi => by rw [r1 428 (by decide) (by decide)]; exact hT i hi) hl (fun i I3 r3 hB hV => ?_) m 0 0 I1 (by omega) rfl (fun _ _ => rfl) (fun _ _ => rfl) (fun i hi => absurd hi (Nat.not_lt_zero i))
  show dw_ok (pr_X12_tries K) 219 0 0 [some (.ref 404), some (.int a1), some (.int a2), some (.int nn), some (.int (0 : Int32)), some (.int i), u6, u7, u8, u9] [] (n, SH1, I3, J)
  refine q_inc rfl rfl rfl ?_
  show dw_ok (pr_X12_tries K) 222 0 0 [some (.ref 404), some (.int a1), some (.int a2), some (.int nn), some (.int ((0 : Int32) + 1)), some (.int i), u6, u7, u8, u9] [] (n, SH1, I3, J)
  refine q_goto rfl ?_
  rw [show ((0 : Int32) + 1) = (1 : Int32) from rfl]
  exact mtS_1 hG oS hS oT hn hm hl hk I3 _ ((r3 406 (by decide)).trans e1) (fun i hi => by rw [r3 428 (by decide), r1 428 (by decide) (by decide)]; exact hT i hi) (fun i hi => (hV i hi).trans (w1 _ (hl i hi)))
set_option maxRecDepth 8000 in
theorem mtc_loop {n : Nat} {I : Nat → Nat → Int32} {J : Nat → Nat → Int64} {K : dw_K} {R b : Nat → Int32} {a1 a2 nn i : Int32} {u6 u7 u8 u9 : Option Value} {k : Nat} (hi : i.toInt = k) (hk8 : k < 8) (hT : ∀ q, q ≤ k → (I 428 q).toInt = cT R b q) (h0 : (∃ q, q < k ∧ cT R b q = cT R b k) → K (some (.int (-1))) (n, SH1, I, J)) (h1 : ∀ j : Int32, (∀ q, q < k → cT R b q ≠ cT R b k) → dw_ok (pr_X12_tries K) 156 0 0 [some (.ref 404), some (.int a1), some (.int a2), some (.int nn), some (.int i), some (.int j), u6, u7, u8, u9] [] (n, SH1, I, J)) :
    ∀ (f l : Nat) (j : Int32), l + f = k → j.toInt = l → (∀ q, q < l → cT R b q ≠ cT R b k) → dw_ok (pr_X12_tries K) 124 0 0 [some (.ref 404), some (.int a1), some (.int a2), some (.int nn), some (.int i), some (.int j), u6, u7, u8, u9] [] (n, SH1, I, J) := by
  have hin : i.toInt.toNat = k := by omega
  have ek := hT k (Nat.le_refl k)
  intro f
  induction f with
  | zero =>
    intro l j hf hj hn
    have elk : l = k := by omega
    refine q_ild rfl rfl ?_
    refine q_ild rfl rfl ?_
    refine q_icmp (c := 3) rfl (by decide) (fun y1 => ?_) (fun h => absurd (show (j).toInt < (i).toInt from h) (by omega))
    have y1 : (i).toInt ≤ (j).toInt := y1
    exact h1 j (fun q hq => hn q (by omega))
  | succ f ih =>
    intro l j hf hj hn
    have hjn : j.toInt.toNat = l := by omega
    have er := hT l (by omega)
    refine q_ild rfl rfl ?_
    refine q_ild rfl rfl ?_
    refine q_icmp (c := 3) rfl (by decide) (fun h => absurd (show (i).toInt ≤ (j).toInt from h) (by omega)) (fun y2 => ?_)
    have y2 : (j).toInt < (i).toInt := y2
    refine q_ald rfl rfl ?_
    refine q_getr rfl sk_404 sr_404_49 ?_
    refine q_ild rfl rfl ?_
    refine q_xald rfl (Or.inl rfl) sk_428 sn_428 (by omega) (by omega) ?_
    show dw_ok (pr_X12_tries K) 138 0 0 [some (.ref 404), some (.int a1), some (.int a2), some (.int nn), some (.int i), some (.int j), u6, u7, u8, u9] [.int (I 428 (j).toInt.toNat)] (n, SH1, I, J)
    rw [hjn]
    refine q_ald rfl rfl ?_
    refine q_getr rfl sk_404 sr_404_49 ?_
    refine q_ild rfl rfl ?_
    refine q_xald rfl (Or.inl rfl) sk_428 sn_428 (by omega) (by omega) ?_
    show dw_ok (pr_X12_tries K) 145 0 0 [some (.ref 404), some (.int a1), some (.int a2), some (.int nn), some (.int i), some (.int j), u6, u7, u8, u9] [.int (I 428 (i).toInt.toNat), .int (I 428 l)] (n, SH1, I, J)
    rw [hin]
    refine q_icmp (c := 1) rfl (by decide) (fun y3 => ?_) (fun y3 => ?_)
    · have y3 : ((I 428 l)).toInt ≠ ((I 428 k)).toInt := y3
      refine q_inc rfl rfl rfl ?_
      show dw_ok (pr_X12_tries K) 153 0 0 [some (.ref 404), some (.int a1), some (.int a2), some (.int nn), some (.int i), some (.int (j + 1)), u6, u7, u8, u9] [] (n, SH1, I, J)
      show dw_ok (pr_X12_tries K) 153 0 0 [some (.ref 404), some (.int a1), some (.int a2), some (.int nn), some (.int i), some (.int (j + 1)), u6, u7, u8, u9] [] (n, SH1, I, J)
      obtain ⟨jx, hjx⟩ : ∃ z, z = (j + 1) := ⟨_, rfl⟩
      rw [← hjx]
      have ejx : jx.toInt = ((l + 1 : Nat) : Int) := by rw [hjx]; exact ix_1 hj (by omega)
      refine q_goto rfl ?_
      refine ih (l + 1) jx (by omega) ejx (fun q hq => ?_)
      by_cases e : q = l
      · rw [e]; intro z; exact y3 (by rw [er, ek, z])
      · exact hn q (by omega)
    · have y3 : ((I 428 l)).toInt = ((I 428 k)).toInt := y3
      refine q_ic rfl ?_
      exact q_iret rfl (h0 ⟨l, by omega, by have y := y3; omega⟩)
set_option maxRecDepth 8000 in
set_option maxHeartbeats 4000000 in
theorem mtC_loop {n : Nat} {J : Nat → Nat → Int64} {K : dw_K} {R b : Nat → Int32} {a1 a2 nn : Int32} {u6 u7 u8 u9 : Option Value} {m N : Nat} {I0 : Nat → Nat → Int32} (hG : GOK R) (h6 : I0 406 = R) (hn : nn.toInt = m) (hm : m ≤ 8) (hN : 2 * m ≤ N) (hb : ∀ c, c < N → (I0 405 c &&& 255) = b c) (hk : ∀ (i : Int32) (u : Option Value) (I' : Nat → Nat → Int32), (∀ a, a ≠ 428 → I' a = I0 a) → okA R b m → (∀ q, q < m → (I' 428 q).toInt = cT R b q) → dw_ok (pr_X12_tries K) 162 0 0 [some (.ref 404), some (.int a1), some (.int a2), some (.int nn), some (.int i), u, u6, u7, u8, u9] [] (n, SH1, I', J)) (hno : ¬ okA R b m → ∀ I' : Nat → Nat → Int32, K (some (.int (-1))) (n, SH1, I', J)) :
    ∀ (f k : Nat) (i : Int32) (u5 : Option Value) (I : Nat → Nat → Int32), k + f = m → i.toInt = k → (∀ a, a ≠ 428 → I a = I0 a) → okA R b k → (∀ q, q < k → (I 428 q).toInt = cT R b q) → dw_ok (pr_X12_tries K) 59 0 0 [some (.ref 404), some (.int a1), some (.int a2), some (.int nn), some (.int i), u5, u6, u7, u8, u9] [] (n, SH1, I, J) := by
  have hN9 := (gok_N hG).2
  intro f
  induction f with
  | zero =>
    intro k i u5 I hf hi hr hA hT
    have ekm : k = m := by omega
    refine q_ild rfl rfl ?_
    refine q_ild rfl rfl ?_
    refine q_icmp (c := 3) rfl (by decide) (fun y1 => ?_) (fun h => absurd (show (i).toInt < (nn).toInt from h) (by omega))
    have y1 : (nn).toInt ≤ (i).toInt := y1
    rw [ekm] at hA hT
    exact hk i u5 I hr hA hT
  | succ f ih =>
    intro k i u5 I hf hi hr hA hT
    have hin : i.toInt.toNat = k := by omega
    have e6 : I 406 = R := (hr 406 (by decide)).trans h6
    have ex : (I 405 (2 * k) &&& 255) = bX b k := by rw [hr 405 (by decide)]; exact hb _ (by omega)
    have ey : (I 405 (2 * k + 1) &&& 255) = bY b k := by rw [hr 405 (by decide)]; exact hb _ (by omega)
    refine q_ild rfl rfl ?_
    refine q_ild rfl rfl ?_
    refine q_icmp (c := 3) rfl (by decide) (fun h => absurd (show (nn).toInt ≤ (i).toInt from h) (by omega)) (fun y2 => ?_)
    have y2 : (i).toInt < (nn).toInt := y2
    refine q_ald rfl rfl ?_
    refine q_ald rfl rfl ?_
    refine q_ic rfl ?_
    refine q_ild rfl rfl ?_
    refine q_mul rfl ?_
    show dw_ok (pr_X12_tries K) 71 0 0 [some (.ref 404), some (.int a1), some (.int a2), some (.int nn), some (.int i), u5, u6, u7, u8, u9] [.int ((2 : Int32) * i), .ref 404, .ref 404] (n, SH1, I, J)
    obtain ⟨ia, hia⟩ : ∃ z, z = ((2 : Int32) * i) := ⟨_, rfl⟩
    rw [← hia]
    have eia : ia.toInt = ((2 * k : Nat) : Int) := by rw [hia]; exact i_dbl hi (by omega)
    refine q_callV (as := [.int ia]) (rest := [.ref 404]) rfl rfl sk_404 rfl (Nat.le_of_ble_eq_true rfl) ?_
    refine v_octM (k := 2 * k) eia (by omega) ?_
    show dw_ok (pr_X12_tries K) 74 0 0 [some (.ref 404), some (.int a1), some (.int a2), some (.int nn), some (.int i), u5, u6, u7, u8, u9] [.int (I 405 (2 * k) &&& 255), .ref 404] (n, SH1, I, J)
    rw [ex]
    show dw_ok (pr_X12_tries K) 74 0 0 [some (.ref 404), some (.int a1), some (.int a2), some (.int nn), some (.int i), u5, u6, u7, u8, u9] [.int (bX b k), .ref 404] (n, SH1, I, J)
    refine q_ald rfl rfl ?_
    refine q_ic rfl ?_
    refine q_ild rfl rfl ?_
    refine q_mul rfl ?_
    show dw_ok (pr_X12_tries K) 79 0 0 [some (.ref 404), some (.int a1), some (.int a2), some (.int nn), some (.int i), u5, u6, u7, u8, u9] [.int ((2 : Int32) * i), .ref 404, .int (bX b k), .ref 404] (n, SH1, I, J)
    obtain ⟨ia, hia⟩ : ∃ z, z = ((2 : Int32) * i) := ⟨_, rfl⟩
    rw [← hia]
    have eia : ia.toInt = ((2 * k : Nat) : Int) := by rw [hia]; exact i_dbl hi (by omega)
    refine q_ic rfl ?_
    refine q_add rfl ?_
    show dw_ok (pr_X12_tries K) 81 0 0 [some (.ref 404), some (.int a1), some (.int a2), some (.int nn), some (.int i), u5, u6, u7, u8, u9] [.int (ia + (1 : Int32)), .ref 404, .int (bX b k), .ref 404] (n, SH1, I, J)
    obtain ⟨ib, hib⟩ : ∃ z, z = (ia + (1 : Int32)) := ⟨_, rfl⟩
    rw [← hib]
    have eib : ib.toInt = ((2 * k + 1 : Nat) : Int) := by rw [hib]; exact ix_1 eia (by omega)
    refine q_callV (as := [.int ib]) (rest := [.int (bX b k), .ref 404]) rfl rfl sk_404 rfl (Nat.le_of_ble_eq_true rfl) ?_
    refine v_octM (k := 2 * k + 1) eib (by omega) ?_
    show dw_ok (pr_X12_tries K) 84 0 0 [some (.ref 404), some (.int a1), some (.int a2), some (.int nn), some (.int i), u5, u6, u7, u8, u9] [.int (I 405 (2 * k + 1) &&& 255), .int (bX b k), .ref 404] (n, SH1, I, J)
    rw [ey]
    show dw_ok (pr_X12_tries K) 84 0 0 [some (.ref 404), some (.int a1), some (.int a2), some (.int nn), some (.int i), u5, u6, u7, u8, u9] [.int (bY b k), .int (bX b k), .ref 404] (n, SH1, I, J)
    refine q_callV (as := [.int (bX b k), .int (bY b k)]) (rest := []) rfl rfl sk_404 rfl (Nat.le_of_ble_eq_true rfl) ?_
    refine v_misCell (C := Cn R) (R := Rn R) (by rw [e6]; exact hG.1.1) (by rw [e6]; exact hG.1.2.1) (fun w_ oC => ?_)
    rcases oC with ⟨rfl, oC⟩ | ⟨rfl, oC⟩
    · show dw_ok (pr_X12_tries K) 87 0 0 [some (.ref 404), some (.int a1), some (.int a2), some (.int nn), some (.int i), u5, u6, u7, u8, u9] [.int (1 : Int32)] (n, SH1, I, J)
      refine q_if (c := 1) rfl (by decide) (fun y3 => ?_) (fun h => absurd (show (1 : Int) = 0 from h) (by decide))
      have y3 : (1 : Int) ≠ 0 := y3
      refine q_ald rfl rfl ?_
      refine q_getr rfl sk_404 sr_404_49 ?_
      refine q_ild rfl rfl ?_
      refine q_ald rfl rfl ?_
      refine q_ald rfl rfl ?_
      refine q_ic rfl ?_
      refine q_ild rfl rfl ?_
      refine q_mul rfl ?_
      show dw_ok (pr_X12_tries K) 104 0 0 [some (.ref 404), some (.int a1), some (.int a2), some (.int nn), some (.int i), u5, u6, u7, u8, u9] [.int ((2 : Int32) * i), .ref 404, .ref 404, .int i, .ref 428] (n, SH1, I, J)
      obtain ⟨ia, hia⟩ : ∃ z, z = ((2 : Int32) * i) := ⟨_, rfl⟩
      rw [← hia]
      have eia : ia.toInt = ((2 * k : Nat) : Int) := by rw [hia]; exact i_dbl hi (by omega)
      refine q_callV (as := [.int ia]) (rest := [.ref 404, .int i, .ref 428]) rfl rfl sk_404 rfl (Nat.le_of_ble_eq_true rfl) ?_
      refine v_octM (k := 2 * k) eia (by omega) ?_
      show dw_ok (pr_X12_tries K) 107 0 0 [some (.ref 404), some (.int a1), some (.int a2), some (.int nn), some (.int i), u5, u6, u7, u8, u9] [.int (I 405 (2 * k) &&& 255), .ref 404, .int i, .ref 428] (n, SH1, I, J)
      rw [ex]
      show dw_ok (pr_X12_tries K) 107 0 0 [some (.ref 404), some (.int a1), some (.int a2), some (.int nn), some (.int i), u5, u6, u7, u8, u9] [.int (bX b k), .ref 404, .int i, .ref 428] (n, SH1, I, J)
      refine q_ald rfl rfl ?_
      refine q_ic rfl ?_
      refine q_ild rfl rfl ?_
      refine q_mul rfl ?_
      show dw_ok (pr_X12_tries K) 112 0 0 [some (.ref 404), some (.int a1), some (.int a2), some (.int nn), some (.int i), u5, u6, u7, u8, u9] [.int ((2 : Int32) * i), .ref 404, .int (bX b k), .ref 404, .int i, .ref 428] (n, SH1, I, J)
      obtain ⟨ia, hia⟩ : ∃ z, z = ((2 : Int32) * i) := ⟨_, rfl⟩
      rw [← hia]
      have eia : ia.toInt = ((2 * k : Nat) : Int) := by rw [hia]; exact i_dbl hi (by omega)
      refine q_ic rfl ?_
      refine q_add rfl ?_
      show dw_ok (pr_X12_tries K) 114 0 0 [some (.ref 404), some (.int a1), some (.int a2), some (.int nn), some (.int i), u5, u6, u7, u8, u9] [.int (ia + (1 : Int32)), .ref 404, .int (bX b k), .ref 404, .int i, .ref 428] (n, SH1, I, J)
      obtain ⟨ib, hib⟩ : ∃ z, z = (ia + (1 : Int32)) := ⟨_, rfl⟩
      rw [← hib]
      have eib : ib.toInt = ((2 * k + 1 : Nat) : Int) := by rw [hib]; exact ix_1 eia (by omega)
      refine q_callV (as := [.int ib]) (rest := [.int (bX b k), .ref 404, .int i, .ref 428]) rfl rfl sk_404 rfl (Nat.le_of_ble_eq_true rfl) ?_
      refine v_octM (k := 2 * k + 1) eib (by omega) ?_
      show dw_ok (pr_X12_tries K) 117 0 0 [some (.ref 404), some (.int a1), some (.int a2), some (.int nn), some (.int i), u5, u6, u7, u8, u9] [.int (I 405 (2 * k + 1) &&& 255), .int (bX b k), .ref 404, .int i, .ref 428] (n, SH1, I, J)
      rw [ey]
      show dw_ok (pr_X12_tries K) 117 0 0 [some (.ref 404), some (.int a1), some (.int a2), some (.int nn), some (.int i), u5, u6, u7, u8, u9] [.int (bY b k), .int (bX b k), .ref 404, .int i, .ref 428] (n, SH1, I, J)
      refine q_callV (as := [.int (bX b k), .int (bY b k)]) (rest := [.int i, .ref 428]) rfl rfl sk_404 rfl (Nat.le_of_ble_eq_true rfl) ?_
      refine v_numberOf ?_
      show dw_ok (pr_X12_tries K) 120 0 0 [some (.ref 404), some (.int a1), some (.int a2), some (.int nn), some (.int i), u5, u6, u7, u8, u9] [.int (I 406 0 * bY b k + bX b k), .int i, .ref 428] (n, SH1, I, J)
      rw [e6]
      have ec : (R 0 * bY b k + bX b k).toInt = (cT R b k : Nat) := (cN_i hG oC).2
      obtain ⟨c, hc⟩ : ∃ z, z = R 0 * bY b k + bX b k := ⟨_, rfl⟩
      rw [← hc] at ec ⊢
      show dw_ok (pr_X12_tries K) 120 0 0 [some (.ref 404), some (.int a1), some (.int a2), some (.int nn), some (.int i), u5, u6, u7, u8, u9] [.int c, .int i, .ref 428] (n, SH1, I, J)
      refine q_iast rfl sk_428 sn_428 (by omega) (by omega) ?_
      show dw_ok (pr_X12_tries K) 121 0 0 [some (.ref 404), some (.int a1), some (.int a2), some (.int nn), some (.int i), u5, u6, u7, u8, u9] [] (n, SH1, (dw_up I 428 (i).toInt.toNat c), J)
      rw [hin]
      refine q_ic rfl ?_
      refine q_ist rfl rfl ?_
      show dw_ok (pr_X12_tries K) 124 0 0 [some (.ref 404), some (.int a1), some (.int a2), some (.int nn), some (.int i), some (.int (0 : Int32)), u6, u7, u8, u9] [] (n, SH1, (dw_up I 428 k c), J)
      obtain ⟨I5, hI5⟩ : ∃ X, X = (dw_up I 428 k c) := ⟨_, rfl⟩
      rw [← hI5]
      have hT5 : ∀ q, q ≤ k → (I5 428 q).toInt = cT R b q := fun q hq => by
        by_cases e : q = k
        · rw [e, hI5, show (dw_up I 428 k c) 428 k = c from up_same]; exact ec
        · rw [hI5, show (dw_up I 428 k c) 428 q = I 428 q from up_fld e]; exact hT q (by omega)
      have r5 : ∀ a, a ≠ 428 → I5 a = I0 a := fun a ha => by rw [hI5]; exact (up_row ha).trans (hr a ha)
      refine mtc_loop (R := R) (b := b) hi (by omega) hT5 (fun z => ?_) (fun j hn => ?_) k 0 0 (by omega) rfl (fun q hq => absurd hq (Nat.not_lt_zero q))
      · obtain ⟨q, hq, e⟩ := z
        exact hno (fun w => (w k (by omega)).2 q hq e) _
      · show dw_ok (pr_X12_tries K) 156 0 0 [some (.ref 404), some (.int a1), some (.int a2), some (.int nn), some (.int i), some (.int j), u6, u7, u8, u9] [] (n, SH1, I5, J)
        refine q_inc rfl rfl rfl ?_
        show dw_ok (pr_X12_tries K) 159 0 0 [some (.ref 404), some (.int a1), some (.int a2), some (.int nn), some (.int (i + 1)), some (.int j), u6, u7, u8, u9] [] (n, SH1, I5, J)
        show dw_ok (pr_X12_tries K) 159 0 0 [some (.ref 404), some (.int a1), some (.int a2), some (.int nn), some (.int (i + 1)), some (.int j), u6, u7, u8, u9] [] (n, SH1, I5, J)
        obtain ⟨iz, hiz⟩ : ∃ z, z = (i + 1) := ⟨_, rfl⟩
        rw [← hiz]
        have eiz : iz.toInt = ((k + 1 : Nat) : Int) := by rw [hiz]; exact ix_1 hi (by omega)
        refine q_goto rfl ?_
        exact ih (k + 1) iz _ I5 (by omega) eiz r5 (okA_1 hA oC hn) (fun q hq => hT5 q (by omega))
    · show dw_ok (pr_X12_tries K) 87 0 0 [some (.ref 404), some (.int a1), some (.int a2), some (.int nn), some (.int i), u5, u6, u7, u8, u9] [.int (0 : Int32)] (n, SH1, I, J)
      refine q_if (c := 1) rfl (by decide) (fun h => absurd (show (0 : Int) ≠ 0 from h) (by decide)) (fun y4 => ?_)
      have y4 : (0 : Int) = 0 := y4
      refine q_ic rfl ?_
      exact q_iret rfl (hno (fun w => oC (w k (by omega)).1) _)
set_option maxRecDepth 8000 in
set_option maxHeartbeats 4000000 in
theorem v_mtries {n : Nat} {I : Nat → Nat → Int32} {J : Nat → Nat → Int64} {K : dw_K} {R b : Nat → Int32} (hR : I 406 = R) (hG : GOK R) {a1 a2 : Int32} {N : Nat} (hz : (I 404 2).toInt = N) (hN9 : N ≤ 940) (hb : ∀ c, c < N → (I 405 c &&& 255) = b c) (hN : okS R a1 → NOK (nX R a1)) (hk : ∀ (w : Int32) (I' : Nat → Nat → Int32), w.toInt = aTries R b N a1 a2 → K (some (.int w)) (n, SH1, I', J)) : t_X12_tries [.ref 404, .int a1, .int a2] (n, SH1, I, J) K := by
  have cm1 : (-1 : Int32).toInt = -1 := rfl
  have k0 : (0 : Int32).toInt = 0 := rfl
  have k1 : (1 : Int32).toInt = 1 := rfl
  have hz2 := hf_i hz hN9
  refine q_body (Nat.le_of_ble_eq_true rfl) ?_
  refine q_ald rfl rfl ?_
  refine q_ic rfl ?_
  refine q_puti rfl sk_404 ?_
  show dw_ok (pr_X12_tries K) 5 0 0 [some (.ref 404), some (.int a1), some (.int a2), none, none, none, none, none, none, none] [] (n, SH1, (dw_up I 404 0 (0 : Int32)), J)
  refine q_ald rfl rfl ?_
  refine q_ic rfl ?_
  refine q_callV (as := [.int (940 : Int32)]) (rest := []) rfl rfl sk_404 rfl (Nat.le_of_ble_eq_true rfl) ?_
  refine v_taken ?_
  show dw_ok (pr_X12_tries K) 12 0 0 [some (.ref 404), some (.int a1), some (.int a2), none, none, none, none, none, none, none] [] (n, SH1, (dw_up (dw_up (dw_up (dw_up (dw_up I 404 0 (0 : Int32)) 404 3 ((dw_up I 404 0 (0 : Int32)) 404 2)) 404 2 0) 404 4 0) 404 5 (940 : Int32)), J)
  obtain ⟨I1, hI1⟩ : ∃ X, X = (dw_up (dw_up (dw_up (dw_up (dw_up I 404 0 (0 : Int32)) 404 3 ((dw_up I 404 0 (0 : Int32)) 404 2)) 404 2 0) 404 4 0) 404 5 (940 : Int32)) := ⟨_, rfl⟩
  rw [← hI1]
  have r1 : ∀ a, a ≠ 404 → I1 a = I a := fun a p => by rw [hI1]; exact (up_row p).trans ((up_row p).trans ((up_row p).trans ((up_row p).trans (up_row p))))
  have s3 : I1 404 3 = I 404 2 := by rw [hI1]; exact (up_fld (by decide)).trans ((up_fld (by decide)).trans ((up_fld (by decide)).trans (up_same.trans (up_fld (by decide)))))
  have e1 : I1 406 = R := (r1 406 (by decide)).trans hR
  show dw_ok (pr_X12_tries K) 12 0 0 [some (.ref 404), some (.int a1), some (.int a2), none, none, none, none, none, none, none] [] (n, SH1, I1, J)
  refine q_ald rfl rfl ?_
  refine q_geti rfl sk_404 ?_
  show dw_ok (pr_X12_tries K) 16 0 0 [some (.ref 404), some (.int a1), some (.int a2), none, none, none, none, none, none, none] [.int (I1 404 3)] (n, SH1, I1, J)
  rw [s3]
  refine q_ic rfl ?_
  refine q_div rfl (by decide) ?_
  show dw_ok (pr_X12_tries K) 18 0 0 [some (.ref 404), some (.int a1), some (.int a2), none, none, none, none, none, none, none] [.int ((I 404 2) / (2 : Int32))] (n, SH1, I1, J)
  obtain ⟨cl, hcl⟩ : ∃ z, z = ((I 404 2) / (2 : Int32)) := ⟨_, rfl⟩
  rw [← hcl]
  have ecl : cl.toInt = ((N / 2 : Nat) : Int) := by rw [hcl]; exact hz2.1
  refine q_ist rfl rfl ?_
  show dw_ok (pr_X12_tries K) 19 0 0 [some (.ref 404), some (.int a1), some (.int a2), some (.int cl), none, none, none, none, none, none] [] (n, SH1, I1, J)
  refine q_ald rfl rfl ?_
  refine q_ild rfl rfl ?_
  refine q_callV (as := [.int a1]) (rest := []) rfl rfl sk_404 rfl (Nat.le_of_ble_eq_true rfl) ?_
  refine v_isNight (fun w_ oS => ?_)
  rcases oS with ⟨rfl, oS⟩ | ⟨rfl, oS⟩
  · show dw_ok (pr_X12_tries K) 24 0 0 [some (.ref 404), some (.int a1), some (.int a2), some (.int cl), none, none, none, none, none, none] [.int (1 : Int32)] (n, SH1, I1, J)
    refine q_if (c := 0) rfl (by decide) (fun h => absurd (show (1 : Int) = 0 from h) (by decide)) (fun y1 => ?_)
    have y1 : (1 : Int) ≠ 0 := y1
    refine q_ild rfl rfl ?_
    refine q_callS (as := [.int a2]) (rest := []) rfl rfl rfl rfl ?_
    refine v_mIsStep (fun w_ oT => ?_)
    rcases oT with ⟨rfl, oT⟩ | ⟨rfl, oT⟩
    · show dw_ok (pr_X12_tries K) 31 0 0 [some (.ref 404), some (.int a1), some (.int a2), some (.int cl), none, none, none, none, none, none] [.int (1 : Int32)] (n, SH1, I1, J)
      refine q_if (c := 0) rfl (by decide) (fun h => absurd (show (1 : Int) = 0 from h) (by decide)) (fun y2 => ?_)
      have y2 : (1 : Int) ≠ 0 := y2
      refine q_ald rfl rfl ?_
      refine q_geti rfl sk_404 ?_
      show dw_ok (pr_X12_tries K) 38 0 0 [some (.ref 404), some (.int a1), some (.int a2), some (.int cl), none, none, none, none, none, none] [.int (I1 404 3)] (n, SH1, I1, J)
      rw [s3]
      refine q_ic rfl ?_
      refine q_rem rfl (by decide) ?_
      show dw_ok (pr_X12_tries K) 40 0 0 [some (.ref 404), some (.int a1), some (.int a2), some (.int cl), none, none, none, none, none, none] [.int ((I 404 2) - (I 404 2) / (2 : Int32) * (2 : Int32))] (n, SH1, I1, J)
      obtain ⟨rm, hrm⟩ : ∃ z, z = ((I 404 2) - (I 404 2) / (2 : Int32) * (2 : Int32)) := ⟨_, rfl⟩
      rw [← hrm]
      have erm : rm.toInt = ((N % 2 : Nat) : Int) := by rw [hrm]; exact hz2.2
      refine q_ic rfl ?_
      refine q_icmp (c := 0) rfl (by decide) (fun y3 => ?_) (fun y3 => ?_)
      · have y3 : (rm).toInt = (1 : Int) := y3
        refine q_ic rfl ?_
        refine q_iret rfl (hk _ _ ?_)
        unfold aTries
        rw [if_neg (fun q => by have q3 := q.2.2.2.2.1; have y := y3; omega)]
        exact cm1
      · have y3 : (rm).toInt ≠ (1 : Int) := y3
        refine q_ild rfl rfl ?_
        refine q_ic rfl ?_
        refine q_ic rfl ?_
        refine q_callS (as := [.int cl, .int (1 : Int32), .int (8 : Int32)]) (rest := []) rfl rfl rfl rfl ?_
        refine v_isIn (fun w_ oI => ?_)
        rcases oI with ⟨rfl, oI⟩ | ⟨rfl, oI⟩
        · show dw_ok (pr_X12_tries K) 51 0 0 [some (.ref 404), some (.int a1), some (.int a2), some (.int cl), none, none, none, none, none, none] [.int (1 : Int32)] (n, SH1, I1, J)
          refine q_if (c := 1) rfl (by decide) (fun y4 => ?_) (fun h => absurd (show (1 : Int) = 0 from h) (by decide))
          have y4 : (1 : Int) ≠ 0 := y4
          refine q_ic rfl ?_
          refine q_ist rfl rfl ?_
          show dw_ok (pr_X12_tries K) 59 0 0 [some (.ref 404), some (.int a1), some (.int a2), some (.int cl), some (.int (0 : Int32)), none, none, none, none, none] [] (n, SH1, I1, J)
          rw [e1] at oS
          have k8 : (8 : Int32).toInt = 8 := rfl
          have yr : rm.toInt ≠ (1 : Int) := y3
          have oT : okT a2 := ⟨oT.1, by have := oT.2; omega⟩
          have hN2 : 2 ≤ N := by omega
          have hN16 : N ≤ 16 := by omega
          have hNm : N % 2 = 0 := by omega
          refine mtC_loop (R := R) (b := b) (m := N / 2) (N := N) (I0 := I1) hG e1 ecl (by omega) (by omega) (fun c hc => by rw [r1 405 (by decide)]; exact hb c hc) (fun i u I2 r2 hA hT => ?_) (fun no I' => hk _ I' (by unfold aTries; rw [if_neg (fun q => no q.2.2.2.2.2)]; exact cm1)) (N / 2) 0 0 _ I1 (by omega) rfl (fun _ _ => rfl) okA_0 (fun q hq => absurd hq (Nat.not_lt_zero q))
          show dw_ok (pr_X12_tries K) 162 0 0 [some (.ref 404), some (.int a1), some (.int a2), some (.int cl), some (.int i), u, none, none, none, none] [] (n, SH1, I2, J)
          refine q_ic rfl ?_
          refine q_ist rfl rfl ?_
          show dw_ok (pr_X12_tries K) 165 0 0 [some (.ref 404), some (.int a1), some (.int a2), some (.int cl), some (.int (0 : Int32)), u, none, none, none, none] [] (n, SH1, I2, J)
          refine mtS_0 (R := R) (b := b) hG oS (hN oS) oT ecl (by omega) (fun i hi => cN_lt (hA i hi).1) (fun u I3 w0 w1 w2 => ?_) I2 _ ((r2 406 (by decide)).trans e1) hT
          show dw_ok (pr_X12_tries K) 225 0 0 [some (.ref 404), some (.int a1), some (.int a2), some (.int cl), some (.int (3 : Int32)), u, none, none, none, none] [] (n, SH1, I3, J)
          refine q_ic rfl ?_
          refine q_ist rfl rfl ?_
          show dw_ok (pr_X12_tries K) 228 0 0 [some (.ref 404), some (.int a1), some (.int a2), some (.int cl), some (.int (0 : Int32)), u, none, none, none, none] [] (n, SH1, I3, J)
          refine mtp_loop (I0 := I3) ecl (by omega) (fun i I4 r4 hV => ?_) (N / 2) 0 0 I3 (by omega) rfl (fun _ _ => rfl) (fun i hi => absurd hi (Nat.not_lt_zero i))
          show dw_ok (pr_X12_tries K) 327 0 0 [some (.ref 404), some (.int a1), some (.int a2), some (.int cl), some (.int i), u, none, none, none, none] [] (n, SH1, I4, J)
          refine q_ic rfl ?_
          refine q_ist rfl rfl ?_
          show dw_ok (pr_X12_tries K) 330 0 0 [some (.ref 404), some (.int a1), some (.int a2), some (.int cl), some (.int (-1 : Int32)), u, none, none, none, none] [] (n, SH1, I4, J)
          refine q_ic rfl ?_
          refine q_ist rfl rfl ?_
          show dw_ok (pr_X12_tries K) 334 0 0 [some (.ref 404), some (.int a1), some (.int a2), some (.int cl), some (.int (-1 : Int32)), some (.int (9 : Int32)), none, none, none, none] [] (n, SH1, I4, J)
          refine q_ic rfl ?_
          refine q_ist rfl rfl ?_
          show dw_ok (pr_X12_tries K) 337 0 0 [some (.ref 404), some (.int a1), some (.int a2), some (.int cl), some (.int (-1 : Int32)), some (.int (9 : Int32)), some (.int (0 : Int32)), none, none, none] [] (n, SH1, I4, J)
          refine mtO_loop (A0 := fun i => I3 430 i) (A1 := fun i => I3 430 (8 + i)) (A2 := fun i => I3 430 (16 + i)) (m := N / 2) (M := 2 ^ (N / 2)) ecl (by omega) rfl (p2_b (by omega)) hV (fun w hw => hk w I4 ?_) (2 ^ (N / 2)) 0 (-1) 9 0 _ _ _ (Nat.zero_add _) rfl rfl rfl
          unfold aTries
          rw [if_pos ⟨oS, oT, hN2, hN16, hNm, hA⟩]
          exact hw.trans (congrArg (fun z : Int × Nat => z.1) (bsF_eq (fun i hi => ⟨by have q := w0 i hi; rw [Nat.zero_add] at q; exact q, w1 i hi, w2 i hi⟩) _))
        · show dw_ok (pr_X12_tries K) 51 0 0 [some (.ref 404), some (.int a1), some (.int a2), some (.int cl), none, none, none, none, none, none] [.int (0 : Int32)] (n, SH1, I1, J)
          refine q_if (c := 1) rfl (by decide) (fun h => absurd (show (0 : Int) ≠ 0 from h) (by decide)) (fun y5 => ?_)
          have y5 : (0 : Int) = 0 := y5
          refine q_ic rfl ?_
          have k8 : (8 : Int32).toInt = 8 := rfl
          refine q_iret rfl (hk _ _ ?_)
          unfold aTries
          rw [if_neg (fun q => oI (by have q1 := q.2.2.1; have q2 := q.2.2.2.1; omega))]
          exact cm1
    · show dw_ok (pr_X12_tries K) 31 0 0 [some (.ref 404), some (.int a1), some (.int a2), some (.int cl), none, none, none, none, none, none] [.int (0 : Int32)] (n, SH1, I1, J)
      refine q_if (c := 0) rfl (by decide) (fun y6 => ?_) (fun h => absurd (show (0 : Int) ≠ 0 from h) (by decide))
      have y6 : (0 : Int) = 0 := y6
      refine q_ic rfl ?_
      refine q_iret rfl (hk _ _ ?_)
      unfold aTries
      rw [if_neg (fun q => oT ⟨q.2.1.1, by have := q.2.1.2; omega⟩)]
      exact cm1
  · show dw_ok (pr_X12_tries K) 24 0 0 [some (.ref 404), some (.int a1), some (.int a2), some (.int cl), none, none, none, none, none, none] [.int (0 : Int32)] (n, SH1, I1, J)
    refine q_if (c := 0) rfl (by decide) (fun y7 => ?_) (fun h => absurd (show (0 : Int) ≠ 0 from h) (by decide))
    have y7 : (0 : Int) = 0 := y7
    refine q_ic rfl ?_
    rw [e1] at oS
    refine q_iret rfl (hk _ _ ?_)
    unfold aTries
    rw [if_neg (fun q => oS q.1)]
    exact cm1
end
