/-! ===== intervals ===== -/
theorem dx_bm {n : Int} (h : -2147483648 ≤ n) (h2 : n ≤ 2147483647) : n.bmod (2 ^ 32) = n := Int.bmod_eq_of_le_mul_two (by omega) (by omega)
theorem dx_b1 (x : Int32) : -2147483648 ≤ x.toInt := by have := x.le_toInt; omega
theorem dx_b2 (x : Int32) : x.toInt ≤ 2147483647 := by have := x.toInt_lt; omega
theorem dx_ofI {v : Int} (h : -2147483648 ≤ v) (h2 : v ≤ 2147483647) : (Int32.ofInt v).toInt = v := Int32.toInt_ofInt_of_le (by omega) (by omega)
def dx_full : Int × Int := (-2147483648, 2147483647)
def dx_rg (l h : Int) : Int × Int := if -2147483648 ≤ l ∧ h ≤ 2147483647 then (l, h) else dx_full
def dx_is (r : Int × Int) (x : Int32) : Prop := r.1 ≤ x.toInt ∧ x.toInt ≤ r.2
theorem dx_is_full (x : Int32) : dx_is dx_full x := ⟨dx_b1 x, dx_b2 x⟩
theorem dx_is_rg {l h n : Int} {x : Int32} (hx : x.toInt = n.bmod (2 ^ 32)) (h1 : l ≤ n) (h2 : n ≤ h) : dx_is (dx_rg l h) x := by
  unfold dx_rg
  split
  next q =>
    have e : x.toInt = n := by rw [hx]; exact dx_bm (by omega) (by omega)
    exact ⟨by rw [e]; exact h1, by rw [e]; exact h2⟩
  next => exact dx_is_full x
theorem dx_and {x y : Int32} (hy : 0 ≤ y.toInt) : 0 ≤ (x &&& y).toInt ∧ (x &&& y).toInt ≤ y.toInt := by
  have e1 : (x &&& y).toInt = (x.toBitVec &&& y.toBitVec).toInt := rfl
  have e2 : y.toInt = y.toBitVec.toInt := rfl
  rw [e1]
  rw [e2] at hy ⊢
  rw [BitVec.toInt_eq_toNat_cond] at hy
  rw [BitVec.toInt_eq_toNat_cond, BitVec.toInt_eq_toNat_cond (x := y.toBitVec), BitVec.toNat_and]
  have h1 : x.toBitVec.toNat &&& y.toBitVec.toNat ≤ y.toBitVec.toNat := Nat.and_le_right
  have h2 := y.toBitVec.isLt
  split at hy
  next h =>
    rw [if_pos h, if_pos (by omega)]
    omega
  next h => omega
theorem dx_and2 {x y : Int32} (hx : 0 ≤ x.toInt) : 0 ≤ (x &&& y).toInt ∧ (x &&& y).toInt ≤ x.toInt := by
  rw [Int32.and_comm]
  exact dx_and hx
def dx_bv (k : Nat) (x y : Int32) : Int32 := match k with
  | 0 => x + y
  | 1 => x - y
  | 2 => x * y
  | 3 => x &&& y
  | 4 => x ||| y
  | 5 => x <<< (y &&& 31)
  | 6 => x >>> (y &&& 31)
  | 7 => (x.toUInt32 >>> (y.toUInt32 &&& Int32.toUInt32 31)).toInt32
  | 8 => x / y
  | 9 => x - x / y * y
  | 10 => if x < y then y else x
  | _ => if y < x then y else x
def dx_bi (k : Nat) (lx hx ly hy : Int) : Int × Int := match k with
  | 0 => dx_rg (lx + ly) (hx + hy)
  | 1 => dx_rg (lx - hy) (hx - ly)
  | 2 => if 0 ≤ lx ∧ 0 ≤ ly then dx_rg (lx * ly) (hx * hy) else dx_full
  | 3 => if 0 ≤ ly then (0, hy) else if 0 ≤ lx then (0, hx) else dx_full
  | 8 => if 1 ≤ ly ∧ 0 ≤ lx then (0, hx / ly) else dx_full
  | 9 => if 1 ≤ ly then (if 0 ≤ lx then (0, hy - 1) else (1 - hy, hy - 1)) else dx_full
  | 10 => (max lx ly, max hx hy)
  | 11 => (min lx ly, min hx hy)
  | _ => dx_full
theorem dx_tdiv {X Y H L : Int} (hX : 0 ≤ X) (hH : X ≤ H) (hL : 1 ≤ L) (hY : L ≤ Y) : 0 ≤ X.tdiv Y ∧ X.tdiv Y ≤ H / L ∧ X.tdiv Y ≤ X := by
  rw [Int.tdiv_eq_ediv_of_nonneg hX]
  have h1 : 0 ≤ X / Y := Int.ediv_nonneg hX (by omega)
  have h2 : X / Y * Y ≤ X := Int.ediv_mul_le X (by omega)
  have h3 : X / Y * L ≤ X / Y * Y := Int.mul_le_mul_of_nonneg_left hY h1
  have h4 : X / Y * 1 ≤ X / Y * Y := Int.mul_le_mul_of_nonneg_left (by omega) h1
  exact ⟨h1, Int.le_ediv_of_mul_le (by omega) (by omega), by omega⟩
theorem dx_remv {x y : Int32} : (x - x / y * y).toInt = (x.toInt.tmod y.toInt).bmod (2 ^ 32) := by
  rw [Int32.toInt_sub, Int32.toInt_mul, Int32.toInt_div, Int.sub_bmod_bmod, Int.tmod_def, Int.mul_comm y.toInt]
  rw [← Int.sub_bmod_bmod (y := (x.toInt.tdiv y.toInt).bmod (2 ^ 32) * y.toInt), Int.bmod_mul_bmod, Int.sub_bmod_bmod]
theorem dx_bi_ok {k : Nat} {x y : Int32} {lx hx ly hy : Int} (h1 : lx ≤ x.toInt) (h2 : x.toInt ≤ hx) (h3 : ly ≤ y.toInt) (h4 : y.toInt ≤ hy) : dx_is (dx_bi k lx hx ly hy) (dx_bv k x y) := by
  unfold dx_bi
  split
  · exact dx_is_rg (Int32.toInt_add x y) (by omega) (by omega)
  · exact dx_is_rg (Int32.toInt_sub x y) (by omega) (by omega)
  · split
    next q => exact dx_is_rg (Int32.toInt_mul x y) (Int.mul_le_mul h1 h3 q.2 (by omega)) (Int.mul_le_mul h2 h4 (by omega) (by omega))
    next => exact dx_is_full _
  · split
    next q =>
      have := dx_and (x := x) (y := y) (by omega)
      exact ⟨this.1, Int.le_trans this.2 h4⟩
    next =>
      split
      next q =>
        have := dx_and2 (x := x) (y := y) (by omega)
        exact ⟨this.1, Int.le_trans this.2 h2⟩
      next => exact dx_is_full _
  · split
    next q =>
      have h5 := dx_tdiv (X := x.toInt) (Y := y.toInt) (H := hx) (L := ly) (by omega) h2 q.1 h3
      have h6 := dx_b2 x
      have e : (x / y).toInt = x.toInt.tdiv y.toInt := by rw [Int32.toInt_div]; exact dx_bm (by omega) (by omega)
      exact ⟨by show 0 ≤ (x / y).toInt; rw [e]; exact h5.1, by show (x / y).toInt ≤ _; rw [e]; exact h5.2.1⟩
    next => exact dx_is_full _
  · split
    next q =>
      have h5 := Int.tmod_lt_of_pos x.toInt (b := y.toInt) (by omega)
      have h6 := Int.lt_tmod_of_pos x.toInt (b := y.toInt) (by omega)
      have h7 := dx_b2 y
      have e : (x - x / y * y).toInt = x.toInt.tmod y.toInt := by rw [dx_remv]; exact dx_bm (by omega) (by omega)
      split
      next q2 =>
        have h8 := Int.tmod_nonneg (a := x.toInt) y.toInt (by omega)
        exact ⟨by show 0 ≤ (x - x / y * y).toInt; rw [e]; exact h8, by show (x - x / y * y).toInt ≤ _; rw [e]; show _ ≤ hy - 1; omega⟩
      next => exact ⟨by show _ ≤ (x - x / y * y).toInt; rw [e]; show 1 - hy ≤ _; omega, by show (x - x / y * y).toInt ≤ _; rw [e]; show _ ≤ hy - 1; omega⟩
    next => exact dx_is_full _
  · show dx_is (max lx ly, max hx hy) (if x < y then y else x)
    split
    next q =>
      rw [Int32.lt_iff_toInt_lt] at q
      exact ⟨by show max lx ly ≤ _; omega, by show _ ≤ max hx hy; omega⟩
    next q =>
      rw [Int32.lt_iff_toInt_lt] at q
      exact ⟨by show max lx ly ≤ _; omega, by show _ ≤ max hx hy; omega⟩
  · show dx_is (min lx ly, min hx hy) (if y < x then y else x)
    split
    next q =>
      rw [Int32.lt_iff_toInt_lt] at q
      exact ⟨by show min lx ly ≤ _; omega, by show _ ≤ min hx hy; omega⟩
    next q =>
      rw [Int32.lt_iff_toInt_lt] at q
      exact ⟨by show min lx ly ≤ _; omega, by show _ ≤ min hx hy; omega⟩
  · exact dx_is_full _
def dx_uv (k : Nat) (x : Int32) : Int32 := match k with
  | 0 => -x
  | 1 => x.toInt8.toInt32
  | _ => if 0 ≤ x then x else 0 - x
def dx_ui (k : Nat) (lx hx : Int) : Int × Int := match k with
  | 0 => if -2147483648 < lx then (-hx, -lx) else dx_full
  | 1 => (-128, 127)
  | _ => if -2147483648 < lx then (0, max hx (-lx)) else dx_full
theorem dx_ui_ok {k : Nat} {x : Int32} {lx hx : Int} (h1 : lx ≤ x.toInt) (h2 : x.toInt ≤ hx) : dx_is (dx_ui k lx hx) (dx_uv k x) := by
  have h3 := dx_b2 x
  unfold dx_ui
  split
  · split
    next q =>
      have e : (-x).toInt = - x.toInt := by rw [Int32.toInt_neg]; exact dx_bm (by omega) (by omega)
      exact ⟨by show _ ≤ (-x).toInt; rw [e]; show -hx ≤ _; omega, by show (-x).toInt ≤ _; rw [e]; show _ ≤ -lx; omega⟩
    next => exact dx_is_full _
  · show dx_is (-128, 127) x.toInt8.toInt32
    unfold dx_is
    rw [Int8.toInt_toInt32]
    have h4 := x.toInt8.le_toInt
    have h5 := x.toInt8.toInt_lt
    exact ⟨by show -128 ≤ _; omega, by show _ ≤ 127; omega⟩
  next k0 h0 h1' =>
    split
    next q =>
      have e0 : dx_uv k x = if 0 ≤ x then x else 0 - x := by
        unfold dx_uv
        split
        · exact absurd rfl h0
        · exact absurd rfl h1'
        · rfl
      rw [e0]
      split
      next q2 =>
        rw [Int32.le_iff_toInt_le] at q2
        have e9 : (0 : Int32).toInt = 0 := rfl
        exact ⟨by show 0 ≤ _; omega, by show _ ≤ max hx (-lx); omega⟩
      next q2 =>
        rw [Int32.le_iff_toInt_le] at q2
        have e9 : (0 : Int32).toInt = 0 := rfl
        have e : (0 - x).toInt = - x.toInt := by rw [Int32.toInt_sub, e9, Int.zero_sub]; exact dx_bm (by omega) (by omega)
        exact ⟨by show 0 ≤ (0 - x).toInt; rw [e]; omega, by show (0 - x).toInt ≤ _; rw [e]; show _ ≤ max hx (-lx); omega⟩
    next => exact dx_is_full _
/-- comparisons: 0 eq, 1 ne, 2 lt, 3 ge, 4 gt, 5 le -/
def dx_cp (c : Nat) (x y : Int) : Prop := match c with
  | 0 => x = y
  | 1 => x ≠ y
  | 2 => x < y
  | 3 => y ≤ x
  | 4 => y < x
  | _ => x ≤ y
def dx_ng (c : Nat) : Nat := match c with
  | 0 => 1
  | 1 => 0
  | 2 => 3
  | 3 => 2
  | 4 => 5
  | _ => 4
def dx_cr (c : Nat) (lx hx ly hy : Int) : Int × Int × Int × Int := match c with
  | 0 => (max lx ly, min hx hy, max lx ly, min hx hy)
  | 1 => (if ly = hy ∧ lx = ly then lx + 1 else lx, if ly = hy ∧ hx = ly then hx - 1 else hx, if lx = hx ∧ ly = lx then ly + 1 else ly, if lx = hx ∧ hy = lx then hy - 1 else hy)
  | 2 => (lx, min hx (hy - 1), max ly (lx + 1), hy)
  | 3 => (max lx ly, hx, ly, min hy hx)
  | 4 => (max lx (ly + 1), hx, ly, min hy (hx - 1))
  | _ => (lx, min hx hy, max ly lx, hy)
theorem dx_cr_ok {c : Nat} {x y lx hx ly hy : Int} (h : dx_cp c x y) (h1 : lx ≤ x) (h2 : x ≤ hx) (h3 : ly ≤ y) (h4 : y ≤ hy) :
    (dx_cr c lx hx ly hy).1 ≤ x ∧ x ≤ (dx_cr c lx hx ly hy).2.1 ∧ (dx_cr c lx hx ly hy).2.2.1 ≤ y ∧ y ≤ (dx_cr c lx hx ly hy).2.2.2 := by
  unfold dx_cp at h
  unfold dx_cr
  split at h
  all_goals (refine ⟨?_, ?_, ?_, ?_⟩ <;> simp only [] <;> (try split) <;> omega)
