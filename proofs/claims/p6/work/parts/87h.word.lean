/-! ===== words as longs ===== -/
set_option maxRecDepth 8000 in
theorem bv_nat {w : Nat} {x : BitVec w} (hw : 0 < w) (h : 0 ≤ x.toInt) : x.toInt = x.toNat ∧ 2 * x.toNat < 2 ^ w := by
  have e := BitVec.toInt_eq_toNat_cond x
  have hl := x.isLt
  by_cases c : 2 * x.toNat < 2 ^ w
  · rw [if_pos c] at e; exact ⟨e, c⟩
  · rw [if_neg c] at e
    have : ((2 ^ w : Nat) : Int) = (2 : Int) ^ w := by rw [Int.natCast_pow]; rfl
    omega
set_option maxRecDepth 8000 in
theorem wd_step {x : Int64} {c : Int32} (h0 : 0 ≤ x.toInt) (h1 : x.toInt < 36028797018963968) (c0 : 0 ≤ c.toInt) (c1 : c.toInt < 256) : ((x <<< ((8 : Int32).toInt64 &&& 63)) ||| c.toInt64).toInt = x.toInt * 256 + c.toInt := by
  have e8 : (8 : Int32).toInt64 &&& 63 = 8 := by decide
  rw [e8]
  have hx : x.toInt = x.toBitVec.toInt := rfl
  have hc : c.toInt = c.toInt64.toBitVec.toInt := (Int32.toInt_toInt64 c).symm
  obtain ⟨x1, x2⟩ := bv_nat (x := x.toBitVec) (by decide) (by rw [← hx]; exact h0)
  obtain ⟨d1, d2⟩ := bv_nat (x := c.toInt64.toBitVec) (by decide) (by rw [← hc]; exact c0)
  have hX : x.toBitVec.toNat < 36028797018963968 := by omega
  have hC : c.toInt64.toBitVec.toNat < 256 := by omega
  have e1 : ((x <<< 8) ||| c.toInt64).toBitVec = (x.toBitVec <<< 8) ||| c.toInt64.toBitVec := rfl
  have e2 : ((x.toBitVec <<< 8) ||| c.toInt64.toBitVec).toNat = x.toBitVec.toNat * 256 + c.toInt64.toBitVec.toNat := by
    rw [BitVec.toNat_or, BitVec.toNat_shiftLeft, Nat.mod_eq_of_lt (by rw [Nat.shiftLeft_eq]; omega), ← Nat.shiftLeft_add_eq_or_of_lt (show c.toInt64.toBitVec.toNat < 2 ^ 8 by omega), Nat.shiftLeft_eq]
  have e3 : ((x <<< 8) ||| c.toInt64).toInt = ((x <<< 8) ||| c.toInt64).toBitVec.toInt := rfl
  rw [e3, e1, BitVec.toInt_eq_toNat_cond, e2, if_pos (by omega)]
  omega
/-- a word's number -/
def wiF (b : fB) (q : Nat) : Nat → Int
  | 0 => 0
  | k + 1 => wiF b q k * 256 + (b (q + k)).toInt
set_option maxRecDepth 8000 in
theorem p256 {j k : Nat} (h : j ≤ k) : (256 : Int) ^ j ≤ 256 ^ k := by
  have e : ∀ n : Nat, ((256 ^ n : Nat) : Int) = (256 : Int) ^ n := fun n => by
    induction n with
    | zero => rfl
    | succ n ih => rw [Nat.pow_succ, Int.pow_succ, Int.natCast_mul, ih]; rfl
  have h1 : 256 ^ j ≤ 256 ^ k := Nat.pow_le_pow_right (by decide) h
  rw [← e j, ← e k]
  exact Int.ofNat_le.mpr h1
set_option maxRecDepth 8000 in
/-- a longer word has a greater number -/
theorem wi_rng {b : fB} {q : Nat} : ∀ k : Nat, (∀ i, i < k + 1 → f_sm (b (q + i))) → 97 * 256 ^ k ≤ wiF b q (k + 1) ∧ wiF b q (k + 1) < 123 * 256 ^ k
  | 0, h => by
    have := h 0 (by omega)
    show 97 * 256 ^ 0 ≤ (0 : Int) * 256 + (b (q + 0)).toInt ∧ (0 : Int) * 256 + (b (q + 0)).toInt < 123 * 256 ^ 0
    simp only [Int.pow_zero]
    omega
  | k + 1, h => by
    have h1 := wi_rng (b := b) (q := q) k (fun i hi => h i (by omega))
    have h2 := h (k + 1) (by omega)
    show 97 * 256 ^ (k + 1) ≤ wiF b q (k + 1) * 256 + (b (q + (k + 1))).toInt ∧ wiF b q (k + 1) * 256 + (b (q + (k + 1))).toInt < 123 * 256 ^ (k + 1)
    rw [Int.pow_succ]
    omega
set_option maxRecDepth 8000 in
theorem wd_wi {b : fB} {q : Nat} : ∀ k : Nat, k ≤ 8 → (∀ i, i < k → f_sm (b (q + i))) → (wdF b q k).toInt = wiF b q k ∧ 0 ≤ wiF b q k ∧ wiF b q k < 123 * 256 ^ k
  | 0, _, _ => ⟨rfl, (show (0 : Int) ≤ 0 by decide), (show (0 : Int) < 123 * 256 ^ 0 by decide)⟩
  | k + 1, h, ha => by
    obtain ⟨h1, h2, h3⟩ := wd_wi (b := b) (q := q) k (by omega) (fun i hi => ha i (by omega))
    have hk := ha k (by omega)
    have hs : wiF b q k < 36028797018963968 := by
      rcases Nat.eq_zero_or_pos k with e | e
      · rw [e]; exact (show (0 : Int) < 36028797018963968 by decide)
      · have r := wi_rng (b := b) (q := q) (k - 1) (fun i hi => ha i (by omega))
        rw [show k - 1 + 1 = k by omega] at r
        have := p256 (show k - 1 ≤ 6 by omega)
        omega
    refine ⟨?_, ?_, ?_⟩
    · show ((wdF b q k <<< ((8 : Int32).toInt64 &&& 63)) ||| (b (q + k)).toInt64).toInt = wiF b q k * 256 + (b (q + k)).toInt
      rw [wd_step (by omega) (by omega) (by omega) (by omega), h1]
    · show 0 ≤ wiF b q k * 256 + (b (q + k)).toInt
      omega
    · show wiF b q k * 256 + (b (q + k)).toInt < 123 * 256 ^ (k + 1)
      rw [Int.pow_succ]
      omega
/-- the digits of a word's number -/
def wlF (w : List Int32) : Nat → Int
  | 0 => 0
  | k + 1 => wlF w k * 256 + (w.getD k 0).toInt
set_option maxRecDepth 8000 in
theorem wi_eq {b : fB} {q : Nat} {w : List Int32} : ∀ k : Nat, (∀ i, i < k → b (q + i) = w.getD i 0) → wiF b q k = wlF w k
  | 0, _ => rfl
  | k + 1, h => by
    show wiF b q k * 256 + (b (q + k)).toInt = wlF w k * 256 + (w.getD k 0).toInt
    rw [wi_eq k (fun i hi => h i (by omega)), h k (by omega)]
set_option maxRecDepth 8000 in
/-- numbers alike: the words are alike (letters, of the same length) -/
theorem wi_inj {b : fB} {q : Nat} {w : List Int32} : ∀ k : Nat, (∀ i, i < k → f_sm (b (q + i))) → (∀ i, i < k → f_sm (w.getD i 0)) → wiF b q k = wlF w k → ∀ i, i < k → b (q + i) = w.getD i 0
  | 0, _, _, _, i, hi => absurd hi (Nat.not_lt_zero i)
  | k + 1, h1, h2, h, i, hi => by
    have e : wiF b q k * 256 + (b (q + k)).toInt = wlF w k * 256 + (w.getD k 0).toInt := h
    have a1 := h1 k (by omega)
    have a2 := h2 k (by omega)
    by_cases g : i = k
    · rw [g]; exact i_eq (by omega)
    · exact wi_inj k (fun j hj => h1 j (by omega)) (fun j hj => h2 j (by omega)) (by omega) i (by omega)
set_option maxRecDepth 8000 in
theorem pw_lt {j k : Nat} (h : j < k) : (123 : Int) * 256 ^ j < 97 * 256 ^ k := by
  have h1 : (256 : Int) ^ (j + 1) ≤ 256 ^ k := p256 h
  have h2 : (0 : Int) < 256 ^ j := Int.pow_pos (by decide)
  rw [Int.pow_succ] at h1
  omega
set_option maxRecDepth 8000 in
/-- a word of letters, of 1 to 8: told apart by its number -/
theorem wi_word {b : fB} {q k : Nat} {w : List Int32} {W : Int} (hk1 : 1 ≤ k) (hb : ∀ i, i < k → f_sm (b (q + i))) (hw1 : 1 ≤ w.length) (hw : ∀ i, i < w.length → f_sm (w.getD i 0)) (hW : wlF w w.length = W) : wiF b q k = W ↔ (k = w.length ∧ ∀ i, i < w.length → b (q + i) = w.getD i 0) := by
  have hbw : wlF w w.length = wiF (fun i => w.getD i 0) 0 w.length := (wi_eq (b := fun i => w.getD i 0) (q := 0) (w := w) w.length (fun i _ => by rw [Nat.zero_add])).symm
  obtain ⟨k', rfl⟩ : ∃ k', k = k' + 1 := ⟨k - 1, by omega⟩
  obtain ⟨l', hl⟩ : ∃ l', w.length = l' + 1 := ⟨w.length - 1, by omega⟩
  have r1 := wi_rng (b := b) (q := q) k' hb
  have r2 := wi_rng (b := fun i => w.getD i 0) (q := 0) l' (fun i hi => by rw [Nat.zero_add]; exact hw i (by omega))
  rw [← hl, ← hbw, hW] at r2
  constructor
  · intro h
    have hkl : k' = l' := by
      rcases Nat.lt_trichotomy k' l' with g | g | g
      · have := pw_lt g; omega
      · exact g
      · have := pw_lt g; omega
    refine ⟨by omega, ?_⟩
    have := wi_inj (b := b) (q := q) (w := w) w.length (fun i hi => hb i (by omega)) hw (by rw [hW, ← h]; congr 1; omega)
    exact this
  · rintro ⟨h1, h2⟩
    rw [h1, ← hW]
    exact wi_eq w.length h2
set_option maxRecDepth 8000 in
/-- the bytes that the two tapes keep of a number -/
theorem by_sr {v : Int32} {s : Nat} (hs : s ≤ 24) : ((v >>> (Int32.ofNat s &&& 31)).toInt8.toInt32 &&& 255) = (((v.toUInt32 >>> ((Int32.ofNat s).toUInt32 &&& Int32.toUInt32 31)).toInt32) &&& 255) := by
  have h255 : ∀ i, i < 32 → (255 : Int32).toBitVec.getLsbD i = decide (i < 8) := by decide
  have e1 : ((Int32.ofNat s) &&& 31).toBitVec.smod 32 = BitVec.ofNat 32 s := by
    have : ∀ s, s < 25 → ((Int32.ofNat s) &&& 31).toBitVec.smod 32 = BitVec.ofNat 32 s := by decide
    exact this s (by omega)
  have e2 : ((Int32.ofNat s).toUInt32 &&& Int32.toUInt32 31).toBitVec % 32 = BitVec.ofNat 32 s := by
    have : ∀ s, s < 25 → ((Int32.ofNat s).toUInt32 &&& Int32.toUInt32 31).toBitVec % 32 = BitVec.ofNat 32 s := by decide
    exact this s (by omega)
  apply Int32.toBitVec_inj.mp
  apply BitVec.eq_of_getLsbD_eq
  intro i hi
  show ((BitVec.signExtend 32 (BitVec.signExtend 8 (v.toBitVec.sshiftRight' (((Int32.ofNat s) &&& 31).toBitVec.smod 32)))) &&& (255 : Int32).toBitVec).getLsbD i = ((v.toBitVec >>> (((Int32.ofNat s).toUInt32 &&& Int32.toUInt32 31).toBitVec % 32)) &&& (255 : Int32).toBitVec).getLsbD i
  rw [e1, e2, BitVec.getLsbD_and, BitVec.getLsbD_and, h255 i hi]
  by_cases h8 : i < 8
  · rw [BitVec.getLsbD_signExtend, BitVec.getLsbD_signExtend, BitVec.getLsbD_sshiftRight']
    have es : (BitVec.ofNat 32 s).toNat = s := by rw [BitVec.toNat_ofNat]; omega
    rw [BitVec.ushiftRight_eq', BitVec.getLsbD_ushiftRight, es]
    simp only [h8, hi, decide_true, Bool.and_true, Bool.true_and, if_true]
    rw [if_pos (by omega)]
    simp only [show ¬ 32 ≤ i by omega, decide_false, Bool.not_false, Bool.true_and]
  · simp only [h8, decide_false, Bool.and_false]
