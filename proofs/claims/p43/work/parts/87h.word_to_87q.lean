section
/-! ===== words as longs ===== -/
set_option maxRecDepth 8000 in
theorem bv_nat {w : Nat} {x : BitVec w} (hw : 0 < w) (h : 0 ≤ x.toInt) : x.toInt = x.toNat ∧ 2 * x.toNat < 2 ^ w := by
  have e := BitVec.toInt_eq_toNat_cond x
  have hl := x.isLt
  by_cases c : 2 * x.toNat < 2 ^ w
  · rw [if_pos c] at e; exact ⟨e, c⟩
  · rw [if_neg c] at e
    have : ((2 ^ w : Nat) : Int) = (2 : Int) ^ w := by rw [Int.natCast_pow]; rfl
    omega
set_option maxRecDepth 8000 in
theorem wd_step {x : Int64} {c : Int32} (h0 : 0 ≤ x.toInt) (h1 : x.toInt < 36028797018963968) (c0 : 0 ≤ c.toInt) (c1 : c.toInt < 256) : ((x <<< ((8 : Int32).toInt64 &&& 63)) ||| c.toInt64).toInt = x.toInt * 256 + c.toInt := by
  have e8 : (8 : Int32).toInt64 &&& 63 = 8 := by decide
  rw [e8]
  have hx : x.toInt = x.toBitVec.toInt := rfl
  have hc : c.toInt = c.toInt64.toBitVec.toInt := (Int32.toInt_toInt64 c).symm
  obtain ⟨x1, x2⟩ := bv_nat (x := x.toBitVec) (by decide) (by rw [← hx]; exact h0)
  obtain ⟨d1, d2⟩ := bv_nat (x := c.toInt64.toBitVec) (by decide) (by rw [← hc]; exact c0)
  have hX : x.toBitVec.toNat < 36028797018963968 := by omega
  have hC : c.toInt64.toBitVec.toNat < 256 := by omega
  have e1 : ((x <<< 8) ||| c.toInt64).toBitVec = (x.toBitVec <<< 8) ||| c.toInt64.toBitVec := rfl
  have e2 : ((x.toBitVec <<< 8) ||| c.toInt64.toBitVec).toNat = x.toBitVec.toNat * 256 + c.toInt64.toBitVec.toNat := by
    rw [BitVec.toNat_or, BitVec.toNat_shiftLeft, Nat.mod_eq_of_lt (by rw [Nat.shiftLeft_eq]; omega), ← Nat.shiftLeft_add_eq_or_of_lt (show c.toInt64.toBitVec.toNat < 2 ^ 8 by omega), Nat.shiftLeft_eq]
  have e3 : ((x <<< 8) ||| c.toInt64).toInt = ((x <<< 8) ||| c.toInt64).toBitVec.toInt := rfl
  rw [e3, e1, BitVec.toInt_eq_toNat_cond, e2, if_pos (by omega)]
  omega
/-- a word's number -/
def wiF (b : fB) (q : Nat) : Nat → Int
  | 0 => 0
  | k + 1 => wiF b q k * 256 + (b (q + k)).toInt
set_option maxRecDepth 8000 in
theorem p256 {j k : Nat} (h : j ≤ k) : (256 : Int) ^ j ≤ 256 ^ k := by
  have e : ∀ n : Nat, ((256 ^ n : Nat) : Int) = (256 : Int) ^ n := fun n => by
    induction n with
    | zero => rfl
    | succ n ih => rw [Nat.pow_succ, Int.pow_succ, Int.natCast_mul, ih]; rfl
  have h1 : 256 ^ j ≤ 256 ^ k := Nat.pow_le_pow_right (by decide) h
  rw [← e j, ← e k]
  exact Int.ofNat_le.mpr h1
set_option maxRecDepth 8000 in
/-- a longer word has a greater number -/
theorem wi_rng {b : fB} {q : Nat} : ∀ k : Nat, (∀ i, i < k + 1 → f_sm (b (q + i))) → 97 * 256 ^ k ≤ wiF b q (k + 1) ∧ wiF b q (k + 1) < 123 * 256 ^ k
  | 0, h => by
    have := h 0 (by omega)
    show 97 * 256 ^ 0 ≤ (0 : Int) * 256 + (b (q + 0)).toInt ∧ (0 : Int) * 256 + (b (q + 0)).toInt < 123 * 256 ^ 0
    simp only [Int.pow_zero]
    omega
  | k + 1, h => by
    have h1 := wi_rng (b := b) (q := q) k (fun i hi => h i (by omega))
    have h2 := h (k + 1) (by omega)
    show 97 * 256 ^ (k + 1) ≤ wiF b q (k + 1) * 256 + (b (q + (k + 1))).toInt ∧ wiF b q (k + 1) * 256 + (b (q + (k + 1))).toInt < 123 * 256 ^ (k + 1)
    rw [Int.pow_succ]
    omega
set_option maxRecDepth 8000 in
theorem wd_wi {b : fB} {q : Nat} : ∀ k : Nat, k ≤ 8 → (∀ i, i < k → f_sm (b (q + i))) → (wdF b q k).toInt = wiF b q k ∧ 0 ≤ wiF b q k ∧ wiF b q k < 123 * 256 ^ k
  | 0, _, _ => ⟨rfl, (show (0 : Int) ≤ 0 by decide), (show (0 : Int) < 123 * 256 ^ 0 by decide)⟩
  | k + 1, h, ha => by
    obtain ⟨h1, h2, h3⟩ := wd_wi (b := b) (q := q) k (by omega) (fun i hi => ha i (by omega))
    have hk := ha k (by omega)
    have hs : wiF b q k < 36028797018963968 := by
      rcases Nat.eq_zero_or_pos k with e | e
      · rw [e]; exact (show (0 : Int) < 36028797018963968 by decide)
      · have r := wi_rng (b := b) (q := q) (k - 1) (fun i hi => ha i (by omega))
        rw [show k - 1 + 1 = k by omega] at r
        have := p256 (show k - 1 ≤ 6 by omega)
        omega
    refine ⟨?_, ?_, ?_⟩
    · show ((wdF b q k <<< ((8 : Int32).toInt64 &&& 63)) ||| (b (q + k)).toInt64).toInt = wiF b q k * 256 + (b (q + k)).toInt
      rw [wd_step (by omega) (by omega) (by omega) (by omega), h1]
    · show 0 ≤ wiF b q k * 256 + (b (q + k)).toInt
      omega
    · show wiF b q k * 256 + (b (q + k)).toInt < 123 * 256 ^ (k + 1)
      rw [Int.pow_succ]
      omega
/-- the digits of a word's number -/
def wlF (w : List Int32) : Nat → Int
  | 0 => 0
  | k + 1 => wlF w k * 256 + (w.getD k 0).toInt
set_option maxRecDepth 8000 in
theorem wi_eq {b : fB} {q : Nat} {w : List Int32} : ∀ k : Nat, (∀ i, i < k → b (q + i) = w.getD i 0) → wiF b q k = wlF w k
  | 0, _ => rfl
  | k + 1, h => by
    show wiF b q k * 256 + (b (q + k)).toInt = wlF w k * 256 + (w.getD k 0).toInt
    rw [wi_eq k (fun i hi => h i (by omega)), h k (by omega)]
set_option maxRecDepth 8000 in
/-- numbers alike: the words are alike (letters, of the same length) -/
theorem wi_inj {b : fB} {q : Nat} {w : List Int32} : ∀ k : Nat, (∀ i, i < k → f_sm (b (q + i))) → (∀ i, i < k → f_sm (w.getD i 0)) → wiF b q k = wlF w k → ∀ i, i < k → b (q + i) = w.getD i 0
  | 0, _, _, _, i, hi => absurd hi (Nat.not_lt_zero i)
  | k + 1, h1, h2, h, i, hi => by
    have e : wiF b q k * 256 + (b (q + k)).toInt = wlF w k * 256 + (w.getD k 0).toInt := h
    have a1 := h1 k (by omega)
    have a2 := h2 k (by omega)
    by_cases g : i = k
    · rw [g]; exact i_eq (by omega)
    · exact wi_inj k (fun j hj => h1 j (by omega)) (fun j hj => h2 j (by omega)) (by omega) i (by omega)
set_option maxRecDepth 8000 in
theorem pw_lt {j k : Nat} (h : j < k) : (123 : Int) * 256 ^ j < 97 * 256 ^ k := by
  have h1 : (256 : Int) ^ (j + 1) ≤ 256 ^ k := p256 h
  have h2 : (0 : Int) < 256 ^ j := Int.pow_pos (by decide)
  rw [Int.pow_succ] at h1
  omega
set_option maxRecDepth 8000 in
/-- a word of letters, of 1 to 8: told apart by its number -/
theorem wi_word {b : fB} {q k : Nat} {w : List Int32} {W : Int} (hk1 : 1 ≤ k) (hb : ∀ i, i < k → f_sm (b (q + i))) (hw1 : 1 ≤ w.length) (hw : ∀ i, i < w.length → f_sm (w.getD i 0)) (hW : wlF w w.length = W) : wiF b q k = W ↔ (k = w.length ∧ ∀ i, i < w.length → b (q + i) = w.getD i 0) := by
  have hbw : wlF w w.length = wiF (fun i => w.getD i 0) 0 w.length := (wi_eq (b := fun i => w.getD i 0) (q := 0) (w := w) w.length (fun i _ => by rw [Nat.zero_add])).symm
  obtain ⟨k', rfl⟩ : ∃ k', k = k' + 1 := ⟨k - 1, by omega⟩
  obtain ⟨l', hl⟩ : ∃ l', w.length = l' + 1 := ⟨w.length - 1, by omega⟩
  have r1 := wi_rng (b := b) (q := q) k' hb
  have r2 := wi_rng (b := fun i => w.getD i 0) (q := 0) l' (fun i hi => by rw [Nat.zero_add]; exact hw i (by omega))
  rw [← hl, ← hbw, hW] at r2
  constructor
  · intro h
    have hkl : k' = l' := by
      rcases Nat.lt_trichotomy k' l' with g | g | g
      · have := pw_lt g; omega
      · exact g
      · have := pw_lt g; omega
    refine ⟨by omega, ?_⟩
    have := wi_inj (b := b) (q := q) (w := w) w.length (fun i hi => hb i (by omega)) hw (by rw [hW, ← h]; congr 1; omega)
    exact this
  · rintro ⟨h1, h2⟩
    rw [h1, ← hW]
    exact wi_eq w.length h2
set_option maxRecDepth 8000 in
/-- the bytes that the two tapes keep of a number -/
theorem by_sr {v : Int32} {s : Nat} (hs : s ≤ 24) : ((v >>> (Int32.ofNat s &&& 31)).toInt8.toInt32 &&& 255) = (((v.toUInt32 >>> ((Int32.ofNat s).toUInt32 &&& Int32.toUInt32 31)).toInt32) &&& 255) := by
  have h255 : ∀ i, i < 32 → (255 : Int32).toBitVec.getLsbD i = decide (i < 8) := by decide
  have e1 : ((Int32.ofNat s) &&& 31).toBitVec.smod 32 = BitVec.ofNat 32 s := by
    have : ∀ s, s < 25 → ((Int32.ofNat s) &&& 31).toBitVec.smod 32 = BitVec.ofNat 32 s := by decide
    exact this s (by omega)
  have e2 : ((Int32.ofNat s).toUInt32 &&& Int32.toUInt32 31).toBitVec % 32 = BitVec.ofNat 32 s := by
    have : ∀ s, s < 25 → ((Int32.ofNat s).toUInt32 &&& Int32.toUInt32 31).toBitVec % 32 = BitVec.ofNat 32 s := by decide
    exact this s (by omega)
  apply Int32.toBitVec_inj.mp
  apply BitVec.eq_of_getLsbD_eq
  intro i hi
  show ((BitVec.signExtend 32 (BitVec.signExtend 8 (v.toBitVec.sshiftRight' (((Int32.ofNat s) &&& 31).toBitVec.smod 32)))) &&& (255 : Int32).toBitVec).getLsbD i = ((v.toBitVec >>> (((Int32.ofNat s).toUInt32 &&& Int32.toUInt32 31).toBitVec % 32)) &&& (255 : Int32).toBitVec).getLsbD i
  rw [e1, e2, BitVec.getLsbD_and, BitVec.getLsbD_and, h255 i hi]
  by_cases h8 : i < 8
  · rw [BitVec.getLsbD_signExtend, BitVec.getLsbD_signExtend, BitVec.getLsbD_sshiftRight']
    have es : (BitVec.ofNat 32 s).toNat = s := by rw [BitVec.toNat_ofNat]; omega
    rw [BitVec.ushiftRight_eq', BitVec.getLsbD_ushiftRight, es]
    simp only [h8, hi, decide_true, Bool.and_true, Bool.true_and, if_true]
    rw [if_pos (by omega)]
    simp only [show ¬ 32 ≤ i by omega, decide_false, Bool.not_false, Bool.true_and]
  · simp only [h8, decide_false, Bool.and_false]
end
section
/-! ===== words ===== -/
abbrev sayF (b : fB) (T : fT) (w : List Int32) : Prop := T.1 = 1 ∧ T.2.2.1 = T.2.1 + w.length ∧ ∀ i, i < w.length → b (T.2.1 + i) = w.getD i 0
section
variable {pr : Nat → dw_Op} {pc bc bs nx : Nat} {ls : dw_L} {st : List Value} {μ : dw_S}
set_option maxRecDepth 8000 in
theorem q_xblx {a : Nat} {j : Int32} (ho : pr pc = o_xbl nx) (h : dw_isS a) (h0 : 0 ≤ j.toInt) (h1 : j.toInt < (dw_sb (dw_sx a)).length) (k : dw_ok pr nx bc bs ls (.int ((dw_sb (dw_sx a)).getD j.toInt.toNat 0) :: st) μ) : dw_ok pr pc bc bs ls (.int j :: .ref (a + 100) :: st) μ :=
  dw_ok.step (by rw [ho]; unfold o_xbl; simp only []; rw [if_pos (show 100 ≤ a + 100 ∧ dw_isS (a + 100 - 100) from ⟨Nat.le_add_left _ _, by rw [Nat.add_sub_cancel]; exact h⟩), Nat.add_sub_cancel, if_pos ⟨dx_nlt h0, by rw [dx_tn]; omega⟩, dx_tn]; exact k)
end
set_option maxRecDepth 8000 in
theorem t_chr1x {a : Nat} {j : Int32} {μ : dw_S} {K : dw_K} (h : dw_isS a) (h0 : 0 ≤ j.toInt) (h1 : j.toInt < (dw_sb (dw_sx a)).length) (hl : (Int32.ofNat (dw_sb (dw_sx a)).length).toInt = (dw_sb (dw_sx a)).length) (k : K (some (.int ((dw_sb (dw_sx a)).getD j.toInt.toNat 0 &&& 255))) μ) : t_J1_charAt_3b067 [.ref (a + 100), .int j] μ K := by
  refine q_body (Nat.le_refl 2) ?_
  refine q_ild rfl rfl ?_
  refine q_ald rfl rfl ?_
  refine q_xal rfl h ?_
  refine q_callS2 rfl (show 0 ≤ 8 by decide) (t_chk h0 (by omega) ?_)
  refine q_ald rfl rfl ?_
  refine q_ild rfl rfl ?_
  refine q_xblx rfl h h0 h1 ?_
  refine q_ic rfl ?_
  refine q_and rfl ?_
  refine q_i2c rfl ?_
  refine q_nret rfl (chr_nar _) ?_
  rw [chr_m]
  exact k
set_option maxRecDepth 8000 in
theorem t_charAtx {a : Nat} {j : Int32} {μ : dw_S} {K : dw_K} (h : dw_isS a) (h0 : 0 ≤ j.toInt) (h1 : j.toInt < (dw_sb (dw_sx a)).length) (hl : (Int32.ofNat (dw_sb (dw_sx a)).length).toInt = (dw_sb (dw_sx a)).length) (k : K (some (.int ((dw_sb (dw_sx a)).getD j.toInt.toNat 0 &&& 255))) μ) : t_J0_charAt_5068e [.ref a, .int j] μ K := by
  refine q_body (Nat.le_refl 2) ?_
  refine q_ald rfl rfl ?_
  refine q_callT1 rfl h (show 0 ≤ 8 by decide) (t_latin h ?_)
  refine q_if0 rfl (by decide) ?_
  refine q_ald rfl rfl ?_
  refine q_xgv rfl h ?_
  refine q_ild rfl rfl ?_
  refine q_callS2 rfl (show 0 ≤ 8 by decide) (t_chr1x h h0 h1 hl ?_)
  refine q_nret rfl ?_ k
  have e := chr_nar ((dw_sb (dw_sx a)).getD j.toInt.toNat 0)
  rw [chr_m] at e
  exact e
set_option maxRecDepth 8000 in
theorem sy_loop {n : Nat} {I : Nat → Nat → Int32} {J : Nat → Nat → Int64} {K : dw_K} {bc bs a N : Nat} {T : fT} {w : List Int32} (hN : (I 1 1).toInt = N) (hN9 : N ≤ 940) (ha : dw_isS a) (hw : dw_sb (dw_sx a) = w) (hw9 : ∀ j, j < w.length → w.getD j 0 &&& 255 = w.getD j 0) (hl : (Int32.ofNat w.length).toInt = w.length)
    (h4 : (I 1 4).toInt = T.2.1) (hT1 : T.1 = 1) (hTl : T.2.2.1 = T.2.1 + w.length) (hTN : T.2.2.1 ≤ N)
    (hk : ∀ v : Int32, (v = 1 ∧ sayF (tbC I) T w) ∨ (v = 0 ∧ ¬ sayF (tbC I) T w) → K (some (.int v)) (n, SH1, I, J)) :
    ∀ (f i : Nat) (x : Int32), x.toInt = i → i ≤ w.length → w.length - i ≤ f → (∀ j, j < i → tbC I (T.2.1 + j) = w.getD j 0) → dw_ok (pr_X9_says K) 23 bc bs [some (.ref 1), some (.ref a), some (.int x)] [] (n, SH1, I, J) := by
  have c1 : (1 : Int32).toInt = 1 := rfl
  intro f
  induction f with
  | zero =>
    intro i x hx hi hf hall
    refine q_ild rfl rfl ?_
    refine q_ald rfl rfl ?_
    refine q_callT1 rfl ha (show 1 ≤ 8 by decide) (t_length ha ?_)
    rw [hw]
    refine q_icmp (c := 3) rfl (by decide) (fun _ => ?_) (fun h => absurd (show x.toInt < (Int32.ofNat w.length).toInt from h) (by omega))
    refine q_ic rfl ?_
    exact q_zret rfl (Or.inr rfl) (hk 1 (Or.inl ⟨rfl, hT1, hTl, fun j hj => hall j (by omega)⟩))
  | succ f ih =>
    intro i x hx hi hf hall
    refine q_ild rfl rfl ?_
    refine q_ald rfl rfl ?_
    refine q_callT1 rfl ha (show 1 ≤ 8 by decide) (t_length ha ?_)
    rw [hw]
    refine q_icmp (c := 3) rfl (by decide) (fun g => ?_) (fun g => ?_)
    · have g : (Int32.ofNat w.length).toInt ≤ x.toInt := g
      refine q_ic rfl ?_
      exact q_zret rfl (Or.inr rfl) (hk 1 (Or.inl ⟨rfl, hT1, hTl, fun j hj => hall j (by omega)⟩))
    have g : x.toInt < (Int32.ofNat w.length).toInt := g
    have t1 : (I 1 4 + x).toInt = (I 1 4).toInt + x.toInt := i_add (by omega) (by omega)
    have t2 : (x + 1).toInt = x.toInt + 1 := by rw [i_add (by omega) (by omega), c1]
    refine q_ald rfl rfl ?_
    refine q_ald rfl rfl ?_
    refine q_geti rfl sk_1 ?_
    refine q_ild rfl rfl ?_
    refine q_add rfl ?_
    refine q_callV (as := [.int (I 1 4 + x)]) (rest := []) rfl rfl sk_1 rfl (Nat.le_of_ble_eq_true rfl) ?_
    refine v_byteAt (by omega) (by omega) ?_
    show dw_ok (pr_X9_says K) 41 bc bs [some (.ref 1), some (.ref a), some (.int x)] [.int (I 2 (I 1 4 + x).toInt.toNat)] (n, SH1, I, J)
    have eb : I 2 (I 1 4 + x).toInt.toNat = tbC I (T.2.1 + i) := by rw [tbC_in (by omega), show (I 1 4 + x).toInt.toNat = T.2.1 + i by omega]
    have ew : (dw_sb (dw_sx a)).getD x.toInt.toNat 0 &&& 255 = w.getD i 0 := by rw [hw, show x.toInt.toNat = i by omega]; exact hw9 i (by omega)
    refine q_ald rfl rfl ?_
    refine q_ild rfl rfl ?_
    refine q_callT2 rfl ha (Nat.le_of_ble_eq_true rfl) (t_charAtx ha (by omega) (by rw [hw]; omega) (by rw [hw]; exact hl) ?_)
    rw [eb, ew]
    refine q_icmp (c := 0) rfl (by decide) (fun g2 => ?_) (fun g2 => ?_)
    · have g2 : tbC I (T.2.1 + i) = w.getD i 0 := i_eq g2
      refine q_inc rfl rfl rfl ?_
      refine q_goto rfl ?_
      refine ih (i + 1) (x + 1) (by omega) (by omega) (by omega) (fun j hj => ?_)
      by_cases e : j = i
      · rw [e]; exact g2
      · exact hall j (by omega)
    · have g2 : (tbC I (T.2.1 + i)).toInt ≠ (w.getD i 0).toInt := g2
      refine q_ic rfl ?_
      exact q_zret rfl (Or.inl rfl) (hk 0 (Or.inr ⟨rfl, fun h => g2 (by rw [h.2.2 i (by omega)])⟩))
set_option maxRecDepth 8000 in
theorem v_says {n : Nat} {I : Nat → Nat → Int32} {J : Nat → Nat → Int64} {K : dw_K} {a N : Nat} {T : fT} {w : List Int32} (hN : (I 1 1).toInt = N) (hN9 : N ≤ 940) (ha : dw_isS a) (hw : dw_sb (dw_sx a) = w) (hw9 : ∀ j, j < w.length → w.getD j 0 &&& 255 = w.getD j 0) (hl : (Int32.ofNat w.length).toInt = w.length)
    (h3 : (I 1 3).toInt = T.2.2.1) (h4 : (I 1 4).toInt = T.2.1) (h5 : (I 1 5).toInt = T.1) (hTN : T.2.2.1 ≤ N) (hT2 : T.2.1 ≤ N)
    (hk : ∀ v : Int32, (v = 1 ∧ sayF (tbC I) T w) ∨ (v = 0 ∧ ¬ sayF (tbC I) T w) → K (some (.int v)) (n, SH1, I, J)) : t_X9_says [.ref 1, .ref a] (n, SH1, I, J) K := by
  have c1 : (1 : Int32).toInt = 1 := rfl
  have ts : (I 1 3 - I 1 4).toInt = (I 1 3).toInt - (I 1 4).toInt := i_sub (by omega) (by omega)
  refine q_body (Nat.le_of_ble_eq_true rfl) ?_
  refine q_ald rfl rfl ?_
  refine q_geti rfl sk_1 ?_
  refine q_ic rfl ?_
  refine q_icmp (c := 1) rfl (by decide) (fun g => ?_) (fun g => ?_)
  · have g : (I 1 5).toInt ≠ 1 := g
    refine q_ic rfl ?_
    exact q_zret rfl (Or.inl rfl) (hk 0 (Or.inr ⟨rfl, fun h => by have := h.1; omega⟩))
  have g : (I 1 5).toInt = 1 := g
  refine q_ald rfl rfl ?_
  refine q_callV (as := []) (rest := []) rfl rfl sk_1 rfl (Nat.le_of_ble_eq_true rfl) ?_
  refine v_tokenSize ?_
  show dw_ok (pr_X9_says K) 12 0 0 [some (.ref 1), some (.ref a), none] [.int (I 1 3 - I 1 4)] (n, SH1, I, J)
  refine q_ald rfl rfl ?_
  refine q_callT1 rfl ha (show 1 ≤ 8 by decide) (t_length ha ?_)
  rw [hw]
  refine q_icmp (c := 0) rfl (by decide) (fun g2 => ?_) (fun g2 => ?_)
  · have g2 : (I 1 3 - I 1 4).toInt = (Int32.ofNat w.length).toInt := g2
    refine q_ic rfl ?_
    refine q_ist rfl rfl ?_
    exact sy_loop hN hN9 ha hw hw9 hl h4 (by omega) (by omega) hTN hk w.length 0 0 rfl (Nat.zero_le _) (Nat.le_refl _) (fun j hj => absurd hj (Nat.not_lt_zero j))
  · have g2 : (I 1 3 - I 1 4).toInt ≠ (Int32.ofNat w.length).toInt := g2
    refine q_ic rfl ?_
    exact q_zret rfl (Or.inl rfl) (hk 0 (Or.inr ⟨rfl, fun h => by have := h.2.1; omega⟩))
set_option maxRecDepth 8000 in
/-- the thirteen words: of the class, of the model -/
theorem st_all : (List.range dw_strs.length).all (fun i => decide ((dw_sb i).all (fun x => decide (x &&& 255 = x)) = true) && decide ((dw_sb i).length ≤ 200)) = true := by decide +kernel
set_option maxRecDepth 8000 in
theorem st_ok {i : Nat} (h : i < dw_strs.length) : (∀ j, j < (dw_sb i).length → (dw_sb i).getD j 0 &&& 255 = (dw_sb i).getD j 0) ∧ (Int32.ofNat (dw_sb i).length).toInt = (dw_sb i).length := by
  have h1 := List.all_eq_true.mp st_all i (List.mem_range.mpr h)
  rw [Bool.and_eq_true, decide_eq_true_eq, decide_eq_true_eq] at h1
  refine ⟨fun j hj => ?_, oN (by omega)⟩
  have h2 := List.all_eq_true.mp h1.1 ((dw_sb i)[j]) (List.getElem_mem hj)
  rw [decide_eq_true_eq] at h2
  rw [List.getD_eq_getElem?_getD, List.getElem?_eq_getElem hj]
  exact h2
end
section
/-! ===== a NIGHT's text, purely ===== -/
/-- a line: 0 cloud, 1 wind, 2 air, 3 sun; T; its numbers -/
abbrev fL : Type := Nat × Int32 × Int32 × Int32
/-- a fault's kind (0: none), its place, the next place, the line -/
abbrev fR : Type := Nat × Nat × Nat × fL
def wkF (b : fB) (T : fT) : Nat := if sayF b T (dw_sb 18) then 0 else if sayF b T (dw_sb 19) then 1 else if sayF b T (dw_sb 20) then 2 else if sayF b T (dw_sb 21) then 3 else 9
def moF (k : Nat) : Int := if k = 0 then 100 else if k = 1 then 9 else 40
def nbK (t : fT) (lo hi : Int) (k : Int32 → Nat → fR) : fR := if nbF t lo hi = 0 then k t.2.2.2 t.2.2.1 else (nbF t lo hi, t.2.1, 0, 0, 0, 0, 0)
def stK (t : fT) (k : Nat → fR) : fR := if t.1 = 3 then k t.2.2.1 else (1, t.2.1, 0, 0, 0, 0, 0)
def nlF (b : fB) (N m ln : Nat) (lat : Int32) (T : fT) : fR :=
  if wkF b T = 9 then (1, T.2.1, 0, 0, 0, 0, 0)
  else if 24 ≤ ln then (4, T.2.1, 0, 0, 0, 0, 0)
  else nbK (tkF b N m T.2.2.1) lat.toInt 143 (fun v1 p1 =>
    if wkF b T = 3 then stK (tkF b N m p1) (fun p2 => (0, 0, p2, 3, v1, 0, 0))
    else nbK (tkF b N m p1) 0 (moF (wkF b T)) (fun v2 p2 =>
      if wkF b T = 2 then nbK (tkF b N m p2) 0 40 (fun v3 p3 => stK (tkF b N m p3) (fun p4 => (0, 0, p4, 2, v1, v2, v3)))
      else stK (tkF b N m p2) (fun p3 => (0, 0, p3, wkF b T, v1, v2, 0))))
/-- a text: a fault's kind, its place, how many lines, the lines (the latest first) -/
def ngF (b : fB) (N m : Nat) : Nat → Nat → Int32 → Nat → List fL → Nat × Nat × Nat × List fL
  | 0, _, _, _, _ => (9, 0, 0, [])
  | f + 1, ln, lat, p, L =>
    if (tkF b N m p).1 = 0 then (0, 0, ln, L)
    else if (nlF b N m ln lat (tkF b N m p)).1 = 0 then ngF b N m f (ln + 1) (nlF b N m ln lat (tkF b N m p)).2.2.2.2.1 (nlF b N m ln lat (tkF b N m p)).2.2.1 ((nlF b N m ln lat (tkF b N m p)).2.2.2 :: L)
    else ((nlF b N m ln lat (tkF b N m p)).1, (nlF b N m ln lat (tkF b N m p)).2.1, 0, [])
/-- what the lines tell of each step: what, from when on, how much (the latest first) -/
def udF (l : fL) : List (Nat × Nat × Int32) :=
  if l.1 = 3 then [(4, l.2.1.toInt.toNat, 1)] else if l.1 = 2 then [(3, l.2.1.toInt.toNat, l.2.2.2), (2, l.2.1.toInt.toNat, l.2.2.1)] else [(l.1, l.2.1.toInt.toNat, l.2.2.1)]
def uaF : List fL → List (Nat × Nat × Int32)
  | [] => [(4, 0, 0), (3, 0, 8), (2, 0, 10), (1, 0, 0), (0, 0, 0)]
  | l :: r => udF l ++ uaF r
def ndF : List (Nat × Nat × Int32) → Nat → Nat → Int32
  | [], _, _ => 0
  | u :: r, w, t => if w = u.1 ∧ u.2.1 ≤ t then u.2.2 else ndF r w t
/-- the class's reader of a NIGHT, going on -/
def NRp (I0 I : Nat → Nat → Int32) (lat : Int32) (U : List (Nat × Nat × Int32)) : Prop :=
  (∀ a, a ≠ 1 → a ≠ 123 → (a < 126 ∨ 130 < a) → I a = I0 a) ∧ (∀ j, j < 3 → I 1 j = I0 1 j) ∧ I 123 1 = lat ∧ ∀ w, w < 5 → ∀ t, t < 144 → I (126 + w) t = ndF U w t
set_option maxRecDepth 8000 in
theorem NR_tape {I0 I I1 : Nat → Nat → Int32} {lat : Int32} {U : List (Nat × Nat × Int32)} (h : NRp I0 I lat U) (hA : ∀ a, a ≠ 1 → I1 a = I a) (hF : ∀ j, j < 3 → I1 1 j = I 1 j) : NRp I0 I1 lat U := by
  refine ⟨fun a h1 h2 h3 => (hA a h1).trans (h.1 a h1 h2 h3), fun j hj => (hF j hj).trans (h.2.1 j hj), ?_, fun w hw t ht => ?_⟩
  · rw [hA 123 (by decide)]; exact h.2.2.1
  · rw [hA (126 + w) (by omega)]; exact h.2.2.2 w hw t ht
set_option maxRecDepth 8000 in
theorem NR_lat {I0 I : Nat → Nat → Int32} {lat v : Int32} {U : List (Nat × Nat × Int32)} (h : NRp I0 I lat U) : NRp I0 (dw_up I 123 1 v) v U := by
  refine ⟨fun a h1 h2 h3 => (up_row h2).trans (h.1 a h1 h2 h3), fun j hj => ?_, up_same, fun w hw t ht => ?_⟩
  · rw [up_row (by decide)]; exact h.2.1 j hj
  · rw [up_row (by omega)]; exact h.2.2.2 w hw t ht
set_option maxRecDepth 8000 in
theorem NR_set {I0 I I1 : Nat → Nat → Int32} {lat v : Int32} {U : List (Nat × Nat × Int32)} {w t0 : Nat} (h : NRp I0 I lat U) (hw : w < 5) (hA : ∀ a, a ≠ 126 + w → I1 a = I a) (hB : ∀ j, I1 (126 + w) j = if t0 ≤ j ∧ j < 144 then v else I (126 + w) j) : NRp I0 I1 lat ((w, t0, v) :: U) := by
  refine ⟨fun a h1 h2 h3 => (hA a (by omega)).trans (h.1 a h1 h2 h3), fun j hj => ?_, ?_, fun w' hw' t ht => ?_⟩
  · rw [hA 1 (by omega)]; exact h.2.1 j hj
  · rw [hA 123 (by omega)]; exact h.2.2.1
  · unfold ndF
    by_cases e : w' = w
    · subst e
      rw [hB t]
      by_cases g : t0 ≤ t
      · rw [if_pos ⟨g, ht⟩, if_pos ⟨rfl, g⟩]
      · rw [if_neg (fun q => g q.1), if_neg (fun q => g q.2)]; exact h.2.2.2 w' hw' t ht
    · rw [hA (126 + w') (by omega), if_neg (fun q => e q.1)]; exact h.2.2.2 w' hw' t ht
set_option maxRecDepth 8000 in
/-- the class's NIGHT being read: the table of an array of it -/
theorem nt_ref {w : Nat} (hw : w < 5) : (SH1 125).2.2 w = some (126 + w) ∧ (SH1 (126 + w)).1 = 16 ∧ (SH1 (126 + w)).2.1 = 144 := by
  match w, hw with
  | 0, _ => exact ⟨sr_125_0, sk_126, sn_126⟩
  | 1, _ => exact ⟨sr_125_1, sk_127, sn_127⟩
  | 2, _ => exact ⟨sr_125_2, sk_128, sn_128⟩
  | 3, _ => exact ⟨sr_125_3, sk_129, sn_129⟩
  | 4, _ => exact ⟨sr_125_4, sk_130, sn_130⟩
  | k + 5, h => exact absurd h (by omega)
set_option maxRecDepth 8000 in
theorem ns_loop {n : Nat} {J : Nat → Nat → Int64} {K : dw_K} {bc bs w t0 : Nat} {I0 : Nat → Nat → Int32} {x t v : Int32} (hw : w < 5) (hx : x.toInt = w)
    (hk : ∀ I' : Nat → Nat → Int32, (∀ a, a ≠ 126 + w → I' a = I0 a) → (∀ j, I' (126 + w) j = if t0 ≤ j ∧ j < 144 then v else I0 (126 + w) j) → K none (n, SH1, I', J)) :
    ∀ (f k : Nat) (y : Int32) (I : Nat → Nat → Int32), t0 + k ≤ 144 → 144 - (t0 + k) ≤ f → y.toInt = (t0 + k : Nat) → (∀ a, a ≠ 126 + w → I a = I0 a) → (∀ j, I (126 + w) j = if t0 ≤ j ∧ j < t0 + k then v else I0 (126 + w) j) → dw_ok (pr_X2_set K) 7 bc bs [some (.ref 124), some (.int x), some (.int t), some (.int v), some (.int y)] [] (n, SH1, I, J) := by
  obtain ⟨r1, r2, r3⟩ := nt_ref hw
  have c144 : (144 : Int32).toInt = 144 := rfl
  have c5 : (5 : Int32).toInt = 5 := rfl
  have c1 : (1 : Int32).toInt = 1 := rfl
  have hxn : x.toInt.toNat = w := by omega
  intro f
  induction f with
  | zero =>
    intro k y I hk1 hf hy hA hB
    refine q_ild rfl rfl ?_
    refine q_ic rfl ?_
    refine q_icmp (c := 3) rfl (by decide) (fun _ => ?_) (fun h => absurd (show y.toInt < (144 : Int32).toInt from h) (by omega))
    exact q_vret rfl (hk I hA (fun j => by rw [hB j, show t0 + k = 144 by omega]))
  | succ f ih =>
    intro k y I hk1 hf hy hA hB
    refine q_ild rfl rfl ?_
    refine q_ic rfl ?_
    refine q_icmp (c := 3) rfl (by decide) (fun h => ?_) (fun h => ?_)
    · have h : (144 : Int32).toInt ≤ y.toInt := h
      exact q_vret rfl (hk I hA (fun j => by rw [hB j, show t0 + k = 144 by omega]))
    have h : y.toInt < (144 : Int32).toInt := h
    have ty : (y + 1).toInt = y.toInt + 1 := by rw [i_add (by omega) (by omega), c1]
    refine q_ild rfl rfl ?_
    refine q_if (c := 2) rfl (by decide) (fun g => absurd (show x.toInt < 0 from g) (by omega)) (fun _ => ?_)
    refine q_ild rfl rfl ?_
    refine q_ic rfl ?_
    refine q_icmp (c := 3) rfl (by decide) (fun g => absurd (show (5 : Int32).toInt ≤ x.toInt from g) (by omega)) (fun _ => ?_)
    refine q_ald rfl rfl ?_
    refine q_getr rfl sk_124 sr_124_1 ?_
    refine q_ild rfl rfl ?_
    refine q_xaldr rfl sk_125 sn_125 (by omega) (show x.toInt < (5 : Nat) by omega) (show (SH1 125).2.2 x.toInt.toNat = some (126 + w) by rw [hxn]; exact r1) ?_
    refine q_ild rfl rfl ?_
    refine q_ild rfl rfl ?_
    refine q_iast rfl r2 r3 (by omega) (by omega) ?_
    refine q_inc rfl rfl rfl ?_
    refine q_goto rfl ?_
    have hyn : y.toInt.toNat = t0 + k := by omega
    refine ih (k + 1) (y + 1) (dw_up I (126 + w) y.toInt.toNat v) (by omega) (by omega) (by omega) (fun a ha => (up_row ha).trans (hA a ha)) (fun j => ?_)
    by_cases e : j = t0 + k
    · rw [if_pos (by omega), hyn, e]; exact up_same
    · rw [up_fld (by omega), hB j]
      by_cases g : t0 ≤ j ∧ j < t0 + k
      · rw [if_pos g, if_pos (by omega)]
      · rw [if_neg g, if_neg (by omega)]
set_option maxRecDepth 8000 in
theorem v_nset {n : Nat} {I : Nat → Nat → Int32} {J : Nat → Nat → Int64} {K : dw_K} {w t0 : Nat} {x t v : Int32} (hw : w < 5) (hx : x.toInt = w) (ht : t.toInt = t0) (ht9 : t0 ≤ 143)
    (hk : ∀ I' : Nat → Nat → Int32, (∀ a, a ≠ 126 + w → I' a = I a) → (∀ j, I' (126 + w) j = if t0 ≤ j ∧ j < 144 then v else I (126 + w) j) → K none (n, SH1, I', J)) : t_X2_set [.ref 124, .int x, .int t, .int v] (n, SH1, I, J) K := by
  refine q_body (Nat.le_of_ble_eq_true rfl) ?_
  refine q_ic rfl ?_
  refine q_ild rfl rfl ?_
  refine q_max rfl rfl ?_
  refine q_ist rfl rfl ?_
  have e : (fi_max 0 t).toInt = t.toInt := by
    rw [fi_max_i]
    have c0 : (0 : Int32).toInt = 0 := rfl
    omega
  exact ns_loop hw hx hk 144 0 (fi_max 0 t) I (by omega) (by omega) (by omega) (fun _ _ => rfl) (fun j => by rw [if_neg (by omega)])
set_option maxRecDepth 8000 in
theorem v_nclear {n : Nat} {I : Nat → Nat → Int32} {J : Nat → Nat → Int64} {K : dw_K}
    (hk : ∀ I' : Nat → Nat → Int32, (∀ a, a ≠ 124 → (a < 126 ∨ 130 < a) → I' a = I a) → (∀ j, j ≠ 0 → I' 124 j = I 124 j) → (∀ w, w < 5 → ∀ t, t < 144 → I' (126 + w) t = ndF (uaF []) w t) → K none (n, SH1, I', J)) : t_X2_clear [.ref 124] (n, SH1, I, J) K := by
  refine q_body (Nat.le_of_ble_eq_true rfl) ?_
  refine q_ald rfl rfl ?_
  refine q_ic rfl ?_
  refine q_putz rfl sk_124 (Or.inl rfl) ?_
  refine q_ald rfl rfl ?_
  refine q_ic rfl ?_
  refine q_ic rfl ?_
  refine q_ic rfl ?_
  refine q_callV (as := [.int 0, .int 0, .int 0]) (rest := []) rfl rfl sk_124 rfl (Nat.le_of_ble_eq_true rfl) ?_
  refine v_nset (w := 0) (t0 := 0) (I := dw_up I 124 0 0) (by decide) rfl rfl (by decide) (fun I1 hA1 hB1 => ?_)
  show dw_ok (pr_X2_clear K) 12 0 0 [some (.ref 124)] [] (n, SH1, I1, J)
  refine q_ald rfl rfl ?_
  refine q_ic rfl ?_
  refine q_ic rfl ?_
  refine q_ic rfl ?_
  refine q_callV (as := [.int 1, .int 0, .int 0]) (rest := []) rfl rfl sk_124 rfl (Nat.le_of_ble_eq_true rfl) ?_
  refine v_nset (w := 1) (t0 := 0) (by decide) rfl rfl (by decide) (fun I2 hA2 hB2 => ?_)
  show dw_ok (pr_X2_clear K) 19 0 0 [some (.ref 124)] [] (n, SH1, I2, J)
  refine q_ald rfl rfl ?_
  refine q_ic rfl ?_
  refine q_ic rfl ?_
  refine q_ic rfl ?_
  refine q_callV (as := [.int 2, .int 0, .int 10]) (rest := []) rfl rfl sk_124 rfl (Nat.le_of_ble_eq_true rfl) ?_
  refine v_nset (w := 2) (t0 := 0) (by decide) rfl rfl (by decide) (fun I3 hA3 hB3 => ?_)
  show dw_ok (pr_X2_clear K) 27 0 0 [some (.ref 124)] [] (n, SH1, I3, J)
  refine q_ald rfl rfl ?_
  refine q_ic rfl ?_
  refine q_ic rfl ?_
  refine q_ic rfl ?_
  refine q_callV (as := [.int 3, .int 0, .int 8]) (rest := []) rfl rfl sk_124 rfl (Nat.le_of_ble_eq_true rfl) ?_
  refine v_nset (w := 3) (t0 := 0) (by decide) rfl rfl (by decide) (fun I4 hA4 hB4 => ?_)
  show dw_ok (pr_X2_clear K) 35 0 0 [some (.ref 124)] [] (n, SH1, I4, J)
  refine q_ald rfl rfl ?_
  refine q_ic rfl ?_
  refine q_ic rfl ?_
  refine q_ic rfl ?_
  refine q_callV (as := [.int 4, .int 0, .int 0]) (rest := []) rfl rfl sk_124 rfl (Nat.le_of_ble_eq_true rfl) ?_
  refine v_nset (w := 4) (t0 := 0) (by decide) rfl rfl (by decide) (fun I5 hA5 hB5 => ?_)
  refine q_vret rfl (hk I5 (fun a h1 h2 => ?_) (fun j hj => ?_) (fun w hw t ht => ?_))
  · rw [hA5 a (by omega), hA4 a (by omega), hA3 a (by omega), hA2 a (by omega), hA1 a (by omega)]; exact up_row h1
  · rw [hA5 124 (by decide), hA4 124 (by decide), hA3 124 (by decide), hA2 124 (by decide), hA1 124 (by decide)]; exact up_fld hj
  · match w, hw with
    | 0, _ => rw [hA5 126 (by decide), hA4 126 (by decide), hA3 126 (by decide), hA2 126 (by decide), hB1 t, if_pos (by omega)]; simp [uaF, ndF]
    | 1, _ => rw [hA5 127 (by decide), hA4 127 (by decide), hA3 127 (by decide), hB2 t, if_pos (by omega)]; simp [uaF, ndF]
    | 2, _ => rw [hA5 128 (by decide), hA4 128 (by decide), hB3 t, if_pos (by omega)]; simp [uaF, ndF]
    | 3, _ => rw [hA5 129 (by decide), hB4 t, if_pos (by omega)]; simp [uaF, ndF]
    | 4, _ => rw [hB5 t, if_pos (by omega)]; simp [uaF, ndF]
    | k + 5, h => exact absurd h (by omega)
end
section
/-! ===== a reader's steps on the class's tape, whatever else it keeps ===== -/
set_option maxRecDepth 8000 in
theorem nb_2 {t : fT} {lo hi : Int} (h : nbF t lo hi = 0) : t.1 = 2 := by
  unfold nbF at h
  by_cases g : t.1 = 2
  · exact g
  · rw [if_neg g] at h; exact absurd h (nn rfl)
set_option maxRecDepth 8000 in
theorem nb_r {t : fT} {lo hi : Int} (h : nbF t lo hi = 0) : lo ≤ t.2.2.2.toInt ∧ t.2.2.2.toInt ≤ hi := by
  have h2 := nb_2 h
  unfold nbF at h
  rw [if_pos h2] at h
  by_cases g : lo ≤ t.2.2.2.toInt ∧ t.2.2.2.toInt ≤ hi
  · exact g
  · rw [if_neg g] at h; exact absurd h (nn rfl)
set_option maxRecDepth 8000 in
theorem st_e {t : fT} {k : Nat} : stF t k = 0 ↔ t.1 = k := by
  unfold stF
  by_cases g : t.1 = k
  · rw [if_pos g]; exact ⟨fun _ => g, fun _ => rfl⟩
  · rw [if_neg g]; exact ⟨fun h => absurd h (nn rfl), fun h => absurd h g⟩
set_option maxRecDepth 8000 in
theorem st_1 {t : fT} {k : Nat} (g : t.1 ≠ k) : stF t k = 1 := if_neg g
def TapeInv (I0 : Nat → Nat → Int32) (Inv : (Nat → Nat → Int32) → Prop) : Prop :=
  (∀ I I1, Inv I → (∀ a, a ≠ 1 → I1 a = I a) → (∀ j, j < 3 → I1 1 j = I 1 j) → Inv I1) ∧ ∀ I, Inv I → I 1 1 = I0 1 1 ∧ I 1 2 = I0 1 2 ∧ I 2 = I0 2
section
variable {pr : Nat → dw_Op} {K : dw_K} {pc nx cont z1 z2 bc bs n : Nat} {ls : dw_L} {J : Nat → Nat → Int64} {I0 I : Nat → Nat → Int32} {Inv : (Nat → Nat → Int32) → Prop} {N m p : Nat}
set_option maxRecDepth 8000 in
theorem tn_step {lo hi : Int32} (ho : pr pc = o_callV 9 3 0 0 t_X9_takeNumber nx) (ho1 : pr nx = o_if_ne cont z1) (ho2 : pr z1 = o_ic 0 z2) (ho3 : pr z2 = o_zret K) (hT : TapeInv I0 Inv) (hI : Inv I) (hN : (I0 1 1).toInt = N) (hN9 : N ≤ 940) (hm : (I0 1 2).toInt = m) (h3 : (I 1 3).toInt = p) (hp : p ≤ N)
    (k1 : nbF (tkF (tbC I0) N m p) lo.toInt hi.toInt = 0 → ∀ I1 : Nat → Nat → Int32, Inv I1 → (I1 1 3).toInt = (tkF (tbC I0) N m p).2.2.1 → I1 1 6 = (tkF (tbC I0) N m p).2.2.2 → dw_ok pr cont bc bs ls [] (n, SH1, I1, J))
    (k0 : nbF (tkF (tbC I0) N m p) lo.toInt hi.toInt ≠ 0 → ∀ I1 : Nat → Nat → Int32, Inv I1 → (I1 1 7).toInt = nbF (tkF (tbC I0) N m p) lo.toInt hi.toInt → (I1 1 8).toInt = (tkF (tbC I0) N m p).2.1 → K (some (.int 0)) (n, SH1, I1, J)) :
    dw_ok pr pc bc bs ls [.int hi, .int lo, .ref 1] (n, SH1, I, J) := by
  obtain ⟨e1, e2, e3⟩ := hT.2 I hI
  have hb : tbC I = tbC I0 := tbC_eq e1 e3
  refine q_callV (as := [.int lo, .int hi]) (rest := []) ho rfl sk_1 rfl (Nat.le_of_ble_eq_true rfl) ?_
  refine v_takeNumber (p := p) (N := N) (m := m) (by rw [e1]; exact hN) hN9 (by rw [e2]; exact hm) h3 hp (fun I1 w hA hF hy hn => ?_)
  rw [hb] at hy hn
  have hI1 := hT.1 I I1 hI hA hF
  show dw_ok pr nx bc bs ls [.int w] (n, SH1, I1, J)
  by_cases e : nbF (tkF (tbC I0) N m p) lo.toInt hi.toInt = 0
  · obtain ⟨rfl, g3, g4, g5, g6⟩ := hy e
    exact q_if (c := 1) ho1 (by decide) (fun _ => k1 e I1 hI1 g3 (g6 (nb_2 e))) (fun h => absurd (show (1 : Int32).toInt = 0 from h) (by decide))
  · obtain ⟨rfl, g7, g8⟩ := hn e
    refine q_if (c := 1) ho1 (by decide) (fun h => absurd rfl h) (fun _ => ?_)
    refine q_ic ho2 ?_
    exact q_zret ho3 (Or.inl rfl) (k0 e I1 hI1 g7 g8)
set_option maxRecDepth 8000 in
theorem ts_step (ho : pr pc = o_callV 9 1 0 0 t_X9_takeStop nx) (ho1 : pr nx = o_zret K) (hT : TapeInv I0 Inv) (hI : Inv I) (hN : (I0 1 1).toInt = N) (hN9 : N ≤ 940) (hm : (I0 1 2).toInt = m) (h3 : (I 1 3).toInt = p) (hp : p ≤ N)
    (k1 : (tkF (tbC I0) N m p).1 = 3 → ∀ I1 : Nat → Nat → Int32, Inv I1 → (I1 1 3).toInt = (tkF (tbC I0) N m p).2.2.1 → K (some (.int 1)) (n, SH1, I1, J))
    (k0 : (tkF (tbC I0) N m p).1 ≠ 3 → ∀ I1 : Nat → Nat → Int32, Inv I1 → (I1 1 7).toInt = 1 → (I1 1 8).toInt = (tkF (tbC I0) N m p).2.1 → K (some (.int 0)) (n, SH1, I1, J)) :
    dw_ok pr pc bc bs ls [.ref 1] (n, SH1, I, J) := by
  obtain ⟨e1, e2, e3⟩ := hT.2 I hI
  have hb : tbC I = tbC I0 := tbC_eq e1 e3
  refine q_callV (as := []) (rest := []) ho rfl sk_1 rfl (Nat.le_of_ble_eq_true rfl) ?_
  refine v_takeStop (p := p) (N := N) (m := m) (by rw [e1]; exact hN) hN9 (by rw [e2]; exact hm) h3 hp (fun I1 w hA hF hy hn => ?_)
  rw [hb] at hy hn
  have hI1 := hT.1 I I1 hI hA hF
  show dw_ok pr nx bc bs ls [.int w] (n, SH1, I1, J)
  by_cases e : (tkF (tbC I0) N m p).1 = 3
  · obtain ⟨rfl, g3, -⟩ := hy (st_e.mpr e)
    exact q_zret ho1 (Or.inr rfl) (k1 e I1 hI1 g3)
  · have s1 := st_1 e
    obtain ⟨rfl, g7, g8⟩ := hn (by rw [s1]; decide)
    rw [s1] at g7
    exact q_zret ho1 (Or.inl rfl) (k0 e I1 hI1 g7 g8)
set_option maxRecDepth 8000 in
theorem fl_step {c : Int32} (ho : pr pc = o_callV 9 2 0 0 t_X9_fail nx) (ho1 : pr nx = o_zret K) (hT : TapeInv I0 Inv) (hI : Inv I)
    (k0 : ∀ I1 : Nat → Nat → Int32, Inv I1 → (I1 1 7).toInt = c.toInt → (I1 1 8).toInt = (I 1 4).toInt → K (some (.int 0)) (n, SH1, I1, J)) :
    dw_ok pr pc bc bs ls [.int c, .ref 1] (n, SH1, I, J) := by
  refine q_callV (as := [.int c]) (rest := []) ho rfl sk_1 rfl (Nat.le_of_ble_eq_true rfl) ?_
  refine v_fail ?_
  refine q_zret ho1 (Or.inl rfl) (k0 _ (hT.1 I _ hI (fun a ha => ?_) (fun j hj => ?_)) rfl rfl)
  · exact (up_row ha).trans (up_row ha)
  · exact (up_fld (by omega)).trans (up_fld (by omega))
end
set_option maxRecDepth 8000 in
theorem nrT {I0 : Nat → Nat → Int32} {lat : Int32} {U : List (Nat × Nat × Int32)} : TapeInv I0 (fun I => NRp I0 I lat U) :=
  ⟨fun _ _ h hA hF => NR_tape h hA hF, fun _ h => ⟨h.2.1 1 (by decide), h.2.1 2 (by decide), h.1 2 (by decide) (by decide) (by decide)⟩⟩
end
section
/-! ===== a NIGHT read by the class ===== -/
def wcI (k : Nat) : Int := if k = 3 then 4 else if k = 9 then -1 else k
set_option maxRecDepth 8000 in
theorem wk_cases (b : fB) (T : fT) : wkF b T = 0 ∨ wkF b T = 1 ∨ wkF b T = 2 ∨ wkF b T = 3 ∨ wkF b T = 9 := by
  unfold wkF
  split
  · exact Or.inl rfl
  · split
    · exact Or.inr (Or.inl rfl)
    · split
      · exact Or.inr (Or.inr (Or.inl rfl))
      · split
        · exact Or.inr (Or.inr (Or.inr (Or.inl rfl)))
        · exact Or.inr (Or.inr (Or.inr (Or.inr rfl)))
section
variable {pr : Nat → dw_Op} {pc bc bs nx : Nat} {ls : dw_L} {st : List Value} {μ : dw_S}
set_option maxRecDepth 8000 in
theorem q_look {ps : List (Int × Nat)} {df : Nat} {x : Int32} (ho : pr pc = o_look ps df) (k : dw_ok pr (dw_pick x.toInt df ps) bc bs ls st μ) : dw_ok pr pc bc bs ls (.int x :: st) μ := dw_ok.step (by rw [ho]; exact k)
end
set_option maxRecDepth 8000 in
theorem v_mostOf {x : Int32} {μ : dw_S} {K : dw_K} (hk : ∀ w : Int32, (x.toInt = 0 → w = 100) → (x.toInt = 1 → w = 9) → (x.toInt ≠ 0 → x.toInt ≠ 1 → w = 40) → K (some (.int w)) μ) : t_X3_mostOf [.int x] μ K := by
  refine q_body (Nat.le_of_ble_eq_true rfl) ?_
  refine q_ild rfl rfl ?_
  refine q_look rfl ?_
  by_cases h0 : x.toInt = 0
  · rw [show dw_pick x.toInt 34 [(0, 28), (1, 31)] = 28 by unfold dw_pick; rw [if_pos h0]]
    refine q_ic rfl ?_
    exact q_iret rfl (hk _ (fun _ => rfl) (fun h => absurd h (by omega)) (fun h => absurd h0 h))
  by_cases h1 : x.toInt = 1
  · rw [show dw_pick x.toInt 34 [(0, 28), (1, 31)] = 31 by unfold dw_pick; rw [if_neg h0]; unfold dw_pick; rw [if_pos h1]]
    refine q_ic rfl ?_
    exact q_iret rfl (hk _ (fun h => absurd h h0) (fun _ => rfl) (fun _ h => absurd h1 h))
  rw [show dw_pick x.toInt 34 [(0, 28), (1, 31)] = 34 by unfold dw_pick; rw [if_neg h0]; unfold dw_pick; rw [if_neg h1]; rfl]
  refine q_ic rfl ?_
  exact q_iret rfl (hk _ (fun h => absurd h h0) (fun h => absurd h h1) (fun _ _ => rfl))
set_option maxRecDepth 8000 in
theorem v_whatIsTold {n : Nat} {I : Nat → Nat → Int32} {J : Nat → Nat → Int64} {K : dw_K} {T : fT} {N : Nat} (hN : (I 1 1).toInt = N) (hN9 : N ≤ 940) (h3 : (I 1 3).toInt = T.2.2.1) (h4 : (I 1 4).toInt = T.2.1) (h5 : (I 1 5).toInt = T.1) (hTN : T.2.2.1 ≤ N) (hT2 : T.2.1 ≤ N) (hk : ∀ w : Int32, w.toInt = wcI (wkF (tbC I) T) → K (some (.int w)) (n, SH1, I, J)) : t_X3_whatIsTold [.ref 1] (n, SH1, I, J) K := by
  refine q_body (Nat.le_of_ble_eq_true rfl) ?_
  refine q_ald rfl rfl ?_
  refine q_str rfl ?_
  refine q_callV (as := [.ref 1000019]) (rest := []) rfl rfl sk_1 rfl (Nat.le_of_ble_eq_true rfl) ?_
  refine v_says (T := T) (w := dw_sb 18) hN hN9 ⟨by decide, by decide⟩ rfl (st_ok (by decide)).1 (st_ok (by decide)).2 h3 h4 h5 hTN hT2 (fun v vc => ?_)
  show dw_ok (pr_X3_whatIsTold K) 6 0 0 [some (.ref 1)] [.int v] (n, SH1, I, J)
  rcases vc with ⟨rfl, s18⟩ | ⟨rfl, s18⟩
  · skip
    refine q_if (c := 0) rfl (by decide) (fun h => absurd (show (1 : Int) = 0 from h) (by decide)) (fun y1 => ?_)
    have y1 : (1 : Int) ≠ 0 := y1
    refine q_ic rfl ?_
    exact q_iret rfl (hk _ (by unfold wkF; rw [if_pos s18]; rfl))
  · skip
    refine q_if (c := 0) rfl (by decide) (fun y2 => ?_) (fun h => absurd (show (0 : Int) ≠ 0 from h) (by decide))
    have y2 : (0 : Int) = 0 := y2
    refine q_ald rfl rfl ?_
    refine q_str rfl ?_
    refine q_callV (as := [.ref 1000020]) (rest := []) rfl rfl sk_1 rfl (Nat.le_of_ble_eq_true rfl) ?_
    refine v_says (T := T) (w := dw_sb 19) hN hN9 ⟨by decide, by decide⟩ rfl (st_ok (by decide)).1 (st_ok (by decide)).2 h3 h4 h5 hTN hT2 (fun v vc => ?_)
    show dw_ok (pr_X3_whatIsTold K) 17 0 0 [some (.ref 1)] [.int v] (n, SH1, I, J)
    rcases vc with ⟨rfl, s19⟩ | ⟨rfl, s19⟩
    · skip
      refine q_if (c := 0) rfl (by decide) (fun h => absurd (show (1 : Int) = 0 from h) (by decide)) (fun y3 => ?_)
      have y3 : (1 : Int) ≠ 0 := y3
      refine q_ic rfl ?_
      exact q_iret rfl (hk _ (by unfold wkF; rw [if_neg s18, if_pos s19]; rfl))
    · skip
      refine q_if (c := 0) rfl (by decide) (fun y4 => ?_) (fun h => absurd (show (0 : Int) ≠ 0 from h) (by decide))
      have y4 : (0 : Int) = 0 := y4
      refine q_ald rfl rfl ?_
      refine q_str rfl ?_
      refine q_callV (as := [.ref 1000021]) (rest := []) rfl rfl sk_1 rfl (Nat.le_of_ble_eq_true rfl) ?_
      refine v_says (T := T) (w := dw_sb 20) hN hN9 ⟨by decide, by decide⟩ rfl (st_ok (by decide)).1 (st_ok (by decide)).2 h3 h4 h5 hTN hT2 (fun v vc => ?_)
      show dw_ok (pr_X3_whatIsTold K) 28 0 0 [some (.ref 1)] [.int v] (n, SH1, I, J)
      rcases vc with ⟨rfl, s20⟩ | ⟨rfl, s20⟩
      · skip
        refine q_if (c := 0) rfl (by decide) (fun h => absurd (show (1 : Int) = 0 from h) (by decide)) (fun y5 => ?_)
        have y5 : (1 : Int) ≠ 0 := y5
        refine q_ic rfl ?_
        exact q_iret rfl (hk _ (by unfold wkF; rw [if_neg s18, if_neg s19, if_pos s20]; rfl))
      · skip
        refine q_if (c := 0) rfl (by decide) (fun y6 => ?_) (fun h => absurd (show (0 : Int) ≠ 0 from h) (by decide))
        have y6 : (0 : Int) = 0 := y6
        refine q_ald rfl rfl ?_
        refine q_str rfl ?_
        refine q_callV (as := [.ref 1000022]) (rest := []) rfl rfl sk_1 rfl (Nat.le_of_ble_eq_true rfl) ?_
        refine v_says (T := T) (w := dw_sb 21) hN hN9 ⟨by decide, by decide⟩ rfl (st_ok (by decide)).1 (st_ok (by decide)).2 h3 h4 h5 hTN hT2 (fun v vc => ?_)
        show dw_ok (pr_X3_whatIsTold K) 39 0 0 [some (.ref 1)] [.int v] (n, SH1, I, J)
        rcases vc with ⟨rfl, s21⟩ | ⟨rfl, s21⟩
        · skip
          refine q_if (c := 0) rfl (by decide) (fun h => absurd (show (1 : Int) = 0 from h) (by decide)) (fun y7 => ?_)
          have y7 : (1 : Int) ≠ 0 := y7
          refine q_ic rfl ?_
          refine q_goto rfl ?_
          exact q_iret rfl (hk _ (by unfold wkF; rw [if_neg s18, if_neg s19, if_neg s20, if_pos s21]; rfl))
        · skip
          refine q_if (c := 0) rfl (by decide) (fun y8 => ?_) (fun h => absurd (show (0 : Int) ≠ 0 from h) (by decide))
          have y8 : (0 : Int) = 0 := y8
          refine q_ic rfl ?_
          exact q_iret rfl (hk _ (by unfold wkF; rw [if_neg s18, if_neg s19, if_neg s20, if_neg s21]; rfl))
set_option maxRecDepth 8000 in
set_option maxHeartbeats 2000000 in
theorem v_nline0 {n : Nat} {I : Nat → Nat → Int32} {J : Nat → Nat → Int64} {K : dw_K} {I0 : Nat → Nat → Int32} {lat i : Int32} {U : List (Nat × Nat × Int32)} {T : fT} {N m ln : Nat} (hR : NRp I0 I lat U) (hN : (I0 1 1).toInt = N) (hN9 : N ≤ 940) (hm : (I0 1 2).toInt = m) (h3 : (I 1 3).toInt = T.2.2.1) (h4 : (I 1 4).toInt = T.2.1) (h5 : (I 1 5).toInt = T.1) (hTN : T.2.2.1 ≤ N) (hT2 : T.2.1 ≤ N) (hl0 : 0 ≤ lat.toInt) (hi : i.toInt = ln) (hw : wkF (tbC I0) T = 0)
    (hok : (nlF (tbC I0) N m ln lat T).1 = 0 → ∀ I' : Nat → Nat → Int32, NRp I0 I' (nlF (tbC I0) N m ln lat T).2.2.2.2.1 (udF (nlF (tbC I0) N m ln lat T).2.2.2 ++ U) → (I' 1 3).toInt = (nlF (tbC I0) N m ln lat T).2.2.1 → (nlF (tbC I0) N m ln lat T).2.2.1 ≤ N → 0 ≤ (nlF (tbC I0) N m ln lat T).2.2.2.2.1.toInt → K (some (.int 1)) (n, SH1, I', J))
    (hno : (nlF (tbC I0) N m ln lat T).1 ≠ 0 → ∀ (I' : Nat → Nat → Int32) (lat' : Int32) (U' : List (Nat × Nat × Int32)), NRp I0 I' lat' U' → (I' 1 7).toInt = (nlF (tbC I0) N m ln lat T).1 → (I' 1 8).toInt = (nlF (tbC I0) N m ln lat T).2.1 → K (some (.int 0)) (n, SH1, I', J)) : dw_ok (pr_X3_readLine K) 16 0 0 [some (.ref 123), some (.ref 1), some (.int i), some (.int 0)] [] (n, SH1, I, J) := by
  have c24 : (24 : Int32).toInt = 24 := rfl
  have hw9 : ¬ (0 = 9) := by decide
  refine q_ild rfl rfl ?_
  refine q_ic rfl ?_
  refine q_icmp (c := 2) rfl (by decide) (fun h => ?_) (fun h => ?_)
  rotate_left
  · have h : (24 : Int32).toInt ≤ i.toInt := h
    have hg : 24 ≤ ln := by omega
    have eR : (nlF (tbC I0) N m ln lat T) = (4, T.2.1, 0, 0, 0, 0, 0) := by simp only [nlF, hw, hg, hw9, ↓reduceIte]
    refine q_ald rfl rfl ?_
    refine q_ic rfl ?_
    refine fl_step (c := 4) rfl rfl (nrT (lat := lat) (U := U)) hR (fun I1 hI1 g7 g8 => ?_)
    rw [eR] at hno
    exact hno (nn rfl) I1 lat U hI1 g7 (g8.trans h4)
  have h : i.toInt < (24 : Int32).toInt := h
  have hg : ¬ (24 ≤ ln) := by omega
  refine q_ald rfl rfl ?_
  refine q_ald rfl rfl ?_
  refine q_geti rfl sk_123 ?_
  refine q_ic rfl ?_
  show dw_ok (pr_X3_readLine K) 36 0 0 [some (.ref 123), some (.ref 1), some (.int i), some (.int 0)] [.int 143, .int (I 123 1), .ref 1] (n, SH1, I, J)
  rw [show I 123 1 = lat from hR.2.2.1]
  obtain ⟨T1, hT1⟩ : ∃ t, t = tkF (tbC I0) N m T.2.2.1 := ⟨_, rfl⟩
  have hin1 := tkF_in (b := tbC I0) (n := N) (m := m) (p := T.2.2.1) hTN
  refine tn_step (p := T.2.2.1) rfl rfl rfl rfl nrT hR hN hN9 hm h3 hTN ?_ ?_
  rotate_left
  · intro e1 I1 hI1 g7 g8
    rw [← hT1] at e1 g7 g8
    have e1 : nbF T1 lat.toInt 143 ≠ 0 := e1
    have eR : (nlF (tbC I0) N m ln lat T) = (nbF T1 lat.toInt 143, T1.2.1, 0, 0, 0, 0, 0) := by simp only [nlF, nbK, hw, hw9, hg, ← hT1, e1, ↓reduceIte]
    rw [eR] at hno
    exact hno e1 I1 _ _ hI1 g7 g8
  intro e1 I1 hR1 g13 g16
  rw [← hT1] at e1 g13 g16 hin1
  have e1 : nbF T1 lat.toInt 143 = 0 := e1
  have r1 := nb_r e1
  refine q_ald rfl rfl ?_
  refine q_ald rfl rfl ?_
  refine q_geti rfl sk_1 ?_
  refine q_puti rfl sk_123 ?_
  show dw_ok (pr_X3_readLine K) 52 0 0 [some (.ref 123), some (.ref 1), some (.int i), some (.int 0)] [] (n, SH1, dw_up I1 123 1 (I1 1 6), J)
  rw [g16]
  have hR1l := NR_lat (v := T1.2.2.2) hR1
  obtain ⟨I1l, hI1l⟩ : ∃ X, X = dw_up I1 123 1 T1.2.2.2 := ⟨_, rfl⟩
  have l1 : (I1l 1 3).toInt = T1.2.2.1 := by rw [hI1l]; exact g13
  rw [← hI1l] at hR1l
  rw [← hI1l]
  refine q_ild rfl rfl ?_
  refine q_ic rfl ?_
  refine q_icmp (c := 1) rfl (by decide) (fun _ => ?_) (fun h => absurd (show (0 : Int32).toInt = (4 : Int32).toInt from h) (by decide))
  refine q_ald rfl rfl ?_
  refine q_ic rfl ?_
  refine q_ild rfl rfl ?_
  refine q_callS (as := [.int 0]) (rest := [.int 0, .ref 1]) rfl rfl rfl rfl ?_
  refine v_mostOf (fun wm m0 m1 m2 => ?_)
  obtain rfl : wm = (100 : Int32) := m0 rfl
  show dw_ok (pr_X3_readLine K) 81 0 0 [some (.ref 123), some (.ref 1), some (.int i), some (.int 0)] [.int 100, .int 0, .ref 1] (n, SH1, I1l, J)
  obtain ⟨T2, hT2'⟩ : ∃ t, t = tkF (tbC I0) N m T1.2.2.1 := ⟨_, rfl⟩
  have hin2 := tkF_in (b := tbC I0) (n := N) (m := m) (p := T1.2.2.1) hin1.2.2.1
  refine tn_step (p := T1.2.2.1) rfl rfl rfl rfl nrT hR1l hN hN9 hm l1 hin1.2.2.1 ?_ ?_
  rotate_left
  · intro e2 I2 hI2 g7 g8
    rw [← hT2'] at e2 g7 g8
    have e2 : nbF T2 0 100 ≠ 0 := e2
    have eR : (nlF (tbC I0) N m ln lat T) = (nbF T2 0 100, T2.2.1, 0, 0, 0, 0, 0) := by simp only [nlF, nbK, hw, hw9, hg, ← hT1, e1, ← hT2', e2, moF, ↓reduceIte, show ¬ (0 = 3) by decide, show ¬ (0 = 2) by decide]
    rw [eR] at hno
    exact hno e2 I2 _ _ hI2 g7 g8
  intro e2 I2 hR2 g23 g26
  rw [← hT2'] at e2 g23 g26 hin2
  have e2 : nbF T2 0 100 = 0 := e2
  refine q_ald rfl rfl ?_
  refine q_getr rfl sk_123 sr_123_0 ?_
  refine q_ild rfl rfl ?_
  refine q_ald rfl rfl ?_
  refine q_geti rfl sk_123 ?_
  refine q_ald rfl rfl ?_
  refine q_geti rfl sk_1 ?_
  show dw_ok (pr_X3_readLine K) 102 0 0 [some (.ref 123), some (.ref 1), some (.int i), some (.int 0)] [.int (I2 1 6), .int (I2 123 1), .int 0, .ref 124] (n, SH1, I2, J)
  rw [show I2 123 1 = T1.2.2.2 from hR2.2.2.1, g26]
  refine q_callV (as := [.int 0, .int T1.2.2.2, .int T2.2.2.2]) (rest := []) rfl rfl sk_124 rfl (Nat.le_of_ble_eq_true rfl) ?_
  refine v_nset (w := 0) (t0 := T1.2.2.2.toInt.toNat) (by decide) rfl (by omega) (by omega) (fun I3 hAI3 hBI3 => ?_)
  have hR3 := NR_set hR2 (by decide) hAI3 hBI3
  have l3 : (I3 1 3).toInt = T2.2.2.1 := by rw [hAI3 1 (by decide)]; exact g23
  show dw_ok (pr_X3_readLine K) 105 0 0 [some (.ref 123), some (.ref 1), some (.int i), some (.int 0)] [] (n, SH1, I3, J)
  refine q_ild rfl rfl ?_
  refine q_ic rfl ?_
  refine q_icmp (c := 1) rfl (by decide) (fun _ => ?_) (fun h => absurd (show (0 : Int32).toInt = (2 : Int32).toInt from h) (by decide))
  obtain ⟨T3, hT3⟩ : ∃ t, t = tkF (tbC I0) N m T2.2.2.1 := ⟨_, rfl⟩
  have hinT3 := tkF_in (b := tbC I0) (n := N) (m := m) (p := T2.2.2.1) hin2.2.2.1
  refine q_ald rfl rfl ?_
  refine ts_step (p := T2.2.2.1) rfl rfl nrT hR3 hN hN9 hm l3 hin2.2.2.1 ?_ ?_
  rotate_left
  · intro es I9 hI9 g7 g8
    rw [← hT3] at es g8
    have eR : (nlF (tbC I0) N m ln lat T) = (1, T3.2.1, 0, 0, 0, 0, 0) := by simp only [nlF, nbK, stK, hw, hw9, hg, ← hT1, e1, ← hT2', e2, ← hT3, es, moF, ↓reduceIte, show ¬ (0 = 3) by decide, show ¬ (0 = 2) by decide]
    rw [eR] at hno
    exact hno (nn rfl) I9 _ _ hI9 g7 g8
  intro es I9 hI9 g3
  rw [← hT3] at es g3 hinT3
  have eR : (nlF (tbC I0) N m ln lat T) = (0, 0, T3.2.2.1, 0, T1.2.2.2, T2.2.2.2, 0) := by simp only [nlF, nbK, stK, hw, hw9, hg, ← hT1, e1, ← hT2', e2, ← hT3, es, moF, ↓reduceIte, show ¬ (0 = 3) by decide, show ¬ (0 = 2) by decide]
  rw [eR] at hok
  exact hok rfl I9 hI9 g3 hinT3.2.2.1 (by dsimp only; omega)
set_option maxRecDepth 8000 in
set_option maxHeartbeats 2000000 in
theorem v_nline1 {n : Nat} {I : Nat → Nat → Int32} {J : Nat → Nat → Int64} {K : dw_K} {I0 : Nat → Nat → Int32} {lat i : Int32} {U : List (Nat × Nat × Int32)} {T : fT} {N m ln : Nat} (hR : NRp I0 I lat U) (hN : (I0 1 1).toInt = N) (hN9 : N ≤ 940) (hm : (I0 1 2).toInt = m) (h3 : (I 1 3).toInt = T.2.2.1) (h4 : (I 1 4).toInt = T.2.1) (h5 : (I 1 5).toInt = T.1) (hTN : T.2.2.1 ≤ N) (hT2 : T.2.1 ≤ N) (hl0 : 0 ≤ lat.toInt) (hi : i.toInt = ln) (hw : wkF (tbC I0) T = 1)
    (hok : (nlF (tbC I0) N m ln lat T).1 = 0 → ∀ I' : Nat → Nat → Int32, NRp I0 I' (nlF (tbC I0) N m ln lat T).2.2.2.2.1 (udF (nlF (tbC I0) N m ln lat T).2.2.2 ++ U) → (I' 1 3).toInt = (nlF (tbC I0) N m ln lat T).2.2.1 → (nlF (tbC I0) N m ln lat T).2.2.1 ≤ N → 0 ≤ (nlF (tbC I0) N m ln lat T).2.2.2.2.1.toInt → K (some (.int 1)) (n, SH1, I', J))
    (hno : (nlF (tbC I0) N m ln lat T).1 ≠ 0 → ∀ (I' : Nat → Nat → Int32) (lat' : Int32) (U' : List (Nat × Nat × Int32)), NRp I0 I' lat' U' → (I' 1 7).toInt = (nlF (tbC I0) N m ln lat T).1 → (I' 1 8).toInt = (nlF (tbC I0) N m ln lat T).2.1 → K (some (.int 0)) (n, SH1, I', J)) : dw_ok (pr_X3_readLine K) 16 0 0 [some (.ref 123), some (.ref 1), some (.int i), some (.int 1)] [] (n, SH1, I, J) := by
  have c24 : (24 : Int32).toInt = 24 := rfl
  have hw9 : ¬ (1 = 9) := by decide
  refine q_ild rfl rfl ?_
  refine q_ic rfl ?_
  refine q_icmp (c := 2) rfl (by decide) (fun h => ?_) (fun h => ?_)
  rotate_left
  · have h : (24 : Int32).toInt ≤ i.toInt := h
    have hg : 24 ≤ ln := by omega
    have eR : (nlF (tbC I0) N m ln lat T) = (4, T.2.1, 0, 0, 0, 0, 0) := by simp only [nlF, hw, hg, hw9, ↓reduceIte]
    refine q_ald rfl rfl ?_
    refine q_ic rfl ?_
    refine fl_step (c := 4) rfl rfl (nrT (lat := lat) (U := U)) hR (fun I1 hI1 g7 g8 => ?_)
    rw [eR] at hno
    exact hno (nn rfl) I1 lat U hI1 g7 (g8.trans h4)
  have h : i.toInt < (24 : Int32).toInt := h
  have hg : ¬ (24 ≤ ln) := by omega
  refine q_ald rfl rfl ?_
  refine q_ald rfl rfl ?_
  refine q_geti rfl sk_123 ?_
  refine q_ic rfl ?_
  show dw_ok (pr_X3_readLine K) 36 0 0 [some (.ref 123), some (.ref 1), some (.int i), some (.int 1)] [.int 143, .int (I 123 1), .ref 1] (n, SH1, I, J)
  rw [show I 123 1 = lat from hR.2.2.1]
  obtain ⟨T1, hT1⟩ : ∃ t, t = tkF (tbC I0) N m T.2.2.1 := ⟨_, rfl⟩
  have hin1 := tkF_in (b := tbC I0) (n := N) (m := m) (p := T.2.2.1) hTN
  refine tn_step (p := T.2.2.1) rfl rfl rfl rfl nrT hR hN hN9 hm h3 hTN ?_ ?_
  rotate_left
  · intro e1 I1 hI1 g7 g8
    rw [← hT1] at e1 g7 g8
    have e1 : nbF T1 lat.toInt 143 ≠ 0 := e1
    have eR : (nlF (tbC I0) N m ln lat T) = (nbF T1 lat.toInt 143, T1.2.1, 0, 0, 0, 0, 0) := by simp only [nlF, nbK, hw, hw9, hg, ← hT1, e1, ↓reduceIte]
    rw [eR] at hno
    exact hno e1 I1 _ _ hI1 g7 g8
  intro e1 I1 hR1 g13 g16
  rw [← hT1] at e1 g13 g16 hin1
  have e1 : nbF T1 lat.toInt 143 = 0 := e1
  have r1 := nb_r e1
  refine q_ald rfl rfl ?_
  refine q_ald rfl rfl ?_
  refine q_geti rfl sk_1 ?_
  refine q_puti rfl sk_123 ?_
  show dw_ok (pr_X3_readLine K) 52 0 0 [some (.ref 123), some (.ref 1), some (.int i), some (.int 1)] [] (n, SH1, dw_up I1 123 1 (I1 1 6), J)
  rw [g16]
  have hR1l := NR_lat (v := T1.2.2.2) hR1
  obtain ⟨I1l, hI1l⟩ : ∃ X, X = dw_up I1 123 1 T1.2.2.2 := ⟨_, rfl⟩
  have l1 : (I1l 1 3).toInt = T1.2.2.1 := by rw [hI1l]; exact g13
  rw [← hI1l] at hR1l
  rw [← hI1l]
  refine q_ild rfl rfl ?_
  refine q_ic rfl ?_
  refine q_icmp (c := 1) rfl (by decide) (fun _ => ?_) (fun h => absurd (show (1 : Int32).toInt = (4 : Int32).toInt from h) (by decide))
  refine q_ald rfl rfl ?_
  refine q_ic rfl ?_
  refine q_ild rfl rfl ?_
  refine q_callS (as := [.int 1]) (rest := [.int 0, .ref 1]) rfl rfl rfl rfl ?_
  refine v_mostOf (fun wm m0 m1 m2 => ?_)
  obtain rfl : wm = (9 : Int32) := m1 rfl
  show dw_ok (pr_X3_readLine K) 81 0 0 [some (.ref 123), some (.ref 1), some (.int i), some (.int 1)] [.int 9, .int 0, .ref 1] (n, SH1, I1l, J)
  obtain ⟨T2, hT2'⟩ : ∃ t, t = tkF (tbC I0) N m T1.2.2.1 := ⟨_, rfl⟩
  have hin2 := tkF_in (b := tbC I0) (n := N) (m := m) (p := T1.2.2.1) hin1.2.2.1
  refine tn_step (p := T1.2.2.1) rfl rfl rfl rfl nrT hR1l hN hN9 hm l1 hin1.2.2.1 ?_ ?_
  rotate_left
  · intro e2 I2 hI2 g7 g8
    rw [← hT2'] at e2 g7 g8
    have e2 : nbF T2 0 9 ≠ 0 := e2
    have eR : (nlF (tbC I0) N m ln lat T) = (nbF T2 0 9, T2.2.1, 0, 0, 0, 0, 0) := by simp only [nlF, nbK, hw, hw9, hg, ← hT1, e1, ← hT2', e2, moF, ↓reduceIte, show ¬ (1 = 3) by decide, show ¬ (1 = 2) by decide, show ¬ (1 = 0) by decide]
    rw [eR] at hno
    exact hno e2 I2 _ _ hI2 g7 g8
  intro e2 I2 hR2 g23 g26
  rw [← hT2'] at e2 g23 g26 hin2
  have e2 : nbF T2 0 9 = 0 := e2
  refine q_ald rfl rfl ?_
  refine q_getr rfl sk_123 sr_123_0 ?_
  refine q_ild rfl rfl ?_
  refine q_ald rfl rfl ?_
  refine q_geti rfl sk_123 ?_
  refine q_ald rfl rfl ?_
  refine q_geti rfl sk_1 ?_
  show dw_ok (pr_X3_readLine K) 102 0 0 [some (.ref 123), some (.ref 1), some (.int i), some (.int 1)] [.int (I2 1 6), .int (I2 123 1), .int 1, .ref 124] (n, SH1, I2, J)
  rw [show I2 123 1 = T1.2.2.2 from hR2.2.2.1, g26]
  refine q_callV (as := [.int 1, .int T1.2.2.2, .int T2.2.2.2]) (rest := []) rfl rfl sk_124 rfl (Nat.le_of_ble_eq_true rfl) ?_
  refine v_nset (w := 1) (t0 := T1.2.2.2.toInt.toNat) (by decide) rfl (by omega) (by omega) (fun I3 hAI3 hBI3 => ?_)
  have hR3 := NR_set hR2 (by decide) hAI3 hBI3
  have l3 : (I3 1 3).toInt = T2.2.2.1 := by rw [hAI3 1 (by decide)]; exact g23
  show dw_ok (pr_X3_readLine K) 105 0 0 [some (.ref 123), some (.ref 1), some (.int i), some (.int 1)] [] (n, SH1, I3, J)
  refine q_ild rfl rfl ?_
  refine q_ic rfl ?_
  refine q_icmp (c := 1) rfl (by decide) (fun _ => ?_) (fun h => absurd (show (1 : Int32).toInt = (2 : Int32).toInt from h) (by decide))
  obtain ⟨T3, hT3⟩ : ∃ t, t = tkF (tbC I0) N m T2.2.2.1 := ⟨_, rfl⟩
  have hinT3 := tkF_in (b := tbC I0) (n := N) (m := m) (p := T2.2.2.1) hin2.2.2.1
  refine q_ald rfl rfl ?_
  refine ts_step (p := T2.2.2.1) rfl rfl nrT hR3 hN hN9 hm l3 hin2.2.2.1 ?_ ?_
  rotate_left
  · intro es I9 hI9 g7 g8
    rw [← hT3] at es g8
    have eR : (nlF (tbC I0) N m ln lat T) = (1, T3.2.1, 0, 0, 0, 0, 0) := by simp only [nlF, nbK, stK, hw, hw9, hg, ← hT1, e1, ← hT2', e2, ← hT3, es, moF, ↓reduceIte, show ¬ (1 = 3) by decide, show ¬ (1 = 2) by decide, show ¬ (1 = 0) by decide]
    rw [eR] at hno
    exact hno (nn rfl) I9 _ _ hI9 g7 g8
  intro es I9 hI9 g3
  rw [← hT3] at es g3 hinT3
  have eR : (nlF (tbC I0) N m ln lat T) = (0, 0, T3.2.2.1, 1, T1.2.2.2, T2.2.2.2, 0) := by simp only [nlF, nbK, stK, hw, hw9, hg, ← hT1, e1, ← hT2', e2, ← hT3, es, moF, ↓reduceIte, show ¬ (1 = 3) by decide, show ¬ (1 = 2) by decide, show ¬ (1 = 0) by decide]
  rw [eR] at hok
  exact hok rfl I9 hI9 g3 hinT3.2.2.1 (by dsimp only; omega)
set_option maxRecDepth 8000 in
set_option maxHeartbeats 2000000 in
theorem v_nline2 {n : Nat} {I : Nat → Nat → Int32} {J : Nat → Nat → Int64} {K : dw_K} {I0 : Nat → Nat → Int32} {lat i : Int32} {U : List (Nat × Nat × Int32)} {T : fT} {N m ln : Nat} (hR : NRp I0 I lat U) (hN : (I0 1 1).toInt = N) (hN9 : N ≤ 940) (hm : (I0 1 2).toInt = m) (h3 : (I 1 3).toInt = T.2.2.1) (h4 : (I 1 4).toInt = T.2.1) (h5 : (I 1 5).toInt = T.1) (hTN : T.2.2.1 ≤ N) (hT2 : T.2.1 ≤ N) (hl0 : 0 ≤ lat.toInt) (hi : i.toInt = ln) (hw : wkF (tbC I0) T = 2)
    (hok : (nlF (tbC I0) N m ln lat T).1 = 0 → ∀ I' : Nat → Nat → Int32, NRp I0 I' (nlF (tbC I0) N m ln lat T).2.2.2.2.1 (udF (nlF (tbC I0) N m ln lat T).2.2.2 ++ U) → (I' 1 3).toInt = (nlF (tbC I0) N m ln lat T).2.2.1 → (nlF (tbC I0) N m ln lat T).2.2.1 ≤ N → 0 ≤ (nlF (tbC I0) N m ln lat T).2.2.2.2.1.toInt → K (some (.int 1)) (n, SH1, I', J))
    (hno : (nlF (tbC I0) N m ln lat T).1 ≠ 0 → ∀ (I' : Nat → Nat → Int32) (lat' : Int32) (U' : List (Nat × Nat × Int32)), NRp I0 I' lat' U' → (I' 1 7).toInt = (nlF (tbC I0) N m ln lat T).1 → (I' 1 8).toInt = (nlF (tbC I0) N m ln lat T).2.1 → K (some (.int 0)) (n, SH1, I', J)) : dw_ok (pr_X3_readLine K) 16 0 0 [some (.ref 123), some (.ref 1), some (.int i), some (.int 2)] [] (n, SH1, I, J) := by
  have c24 : (24 : Int32).toInt = 24 := rfl
  have hw9 : ¬ (2 = 9) := by decide
  refine q_ild rfl rfl ?_
  refine q_ic rfl ?_
  refine q_icmp (c := 2) rfl (by decide) (fun h => ?_) (fun h => ?_)
  rotate_left
  · have h : (24 : Int32).toInt ≤ i.toInt := h
    have hg : 24 ≤ ln := by omega
    have eR : (nlF (tbC I0) N m ln lat T) = (4, T.2.1, 0, 0, 0, 0, 0) := by simp only [nlF, hw, hg, hw9, ↓reduceIte]
    refine q_ald rfl rfl ?_
    refine q_ic rfl ?_
    refine fl_step (c := 4) rfl rfl (nrT (lat := lat) (U := U)) hR (fun I1 hI1 g7 g8 => ?_)
    rw [eR] at hno
    exact hno (nn rfl) I1 lat U hI1 g7 (g8.trans h4)
  have h : i.toInt < (24 : Int32).toInt := h
  have hg : ¬ (24 ≤ ln) := by omega
  refine q_ald rfl rfl ?_
  refine q_ald rfl rfl ?_
  refine q_geti rfl sk_123 ?_
  refine q_ic rfl ?_
  show dw_ok (pr_X3_readLine K) 36 0 0 [some (.ref 123), some (.ref 1), some (.int i), some (.int 2)] [.int 143, .int (I 123 1), .ref 1] (n, SH1, I, J)
  rw [show I 123 1 = lat from hR.2.2.1]
  obtain ⟨T1, hT1⟩ : ∃ t, t = tkF (tbC I0) N m T.2.2.1 := ⟨_, rfl⟩
  have hin1 := tkF_in (b := tbC I0) (n := N) (m := m) (p := T.2.2.1) hTN
  refine tn_step (p := T.2.2.1) rfl rfl rfl rfl nrT hR hN hN9 hm h3 hTN ?_ ?_
  rotate_left
  · intro e1 I1 hI1 g7 g8
    rw [← hT1] at e1 g7 g8
    have e1 : nbF T1 lat.toInt 143 ≠ 0 := e1
    have eR : (nlF (tbC I0) N m ln lat T) = (nbF T1 lat.toInt 143, T1.2.1, 0, 0, 0, 0, 0) := by simp only [nlF, nbK, hw, hw9, hg, ← hT1, e1, ↓reduceIte]
    rw [eR] at hno
    exact hno e1 I1 _ _ hI1 g7 g8
  intro e1 I1 hR1 g13 g16
  rw [← hT1] at e1 g13 g16 hin1
  have e1 : nbF T1 lat.toInt 143 = 0 := e1
  have r1 := nb_r e1
  refine q_ald rfl rfl ?_
  refine q_ald rfl rfl ?_
  refine q_geti rfl sk_1 ?_
  refine q_puti rfl sk_123 ?_
  show dw_ok (pr_X3_readLine K) 52 0 0 [some (.ref 123), some (.ref 1), some (.int i), some (.int 2)] [] (n, SH1, dw_up I1 123 1 (I1 1 6), J)
  rw [g16]
  have hR1l := NR_lat (v := T1.2.2.2) hR1
  obtain ⟨I1l, hI1l⟩ : ∃ X, X = dw_up I1 123 1 T1.2.2.2 := ⟨_, rfl⟩
  have l1 : (I1l 1 3).toInt = T1.2.2.1 := by rw [hI1l]; exact g13
  rw [← hI1l] at hR1l
  rw [← hI1l]
  refine q_ild rfl rfl ?_
  refine q_ic rfl ?_
  refine q_icmp (c := 1) rfl (by decide) (fun _ => ?_) (fun h => absurd (show (2 : Int32).toInt = (4 : Int32).toInt from h) (by decide))
  refine q_ald rfl rfl ?_
  refine q_ic rfl ?_
  refine q_ild rfl rfl ?_
  refine q_callS (as := [.int 2]) (rest := [.int 0, .ref 1]) rfl rfl rfl rfl ?_
  refine v_mostOf (fun wm m0 m1 m2 => ?_)
  obtain rfl : wm = (40 : Int32) := m2 (by decide) (by decide)
  show dw_ok (pr_X3_readLine K) 81 0 0 [some (.ref 123), some (.ref 1), some (.int i), some (.int 2)] [.int 40, .int 0, .ref 1] (n, SH1, I1l, J)
  obtain ⟨T2, hT2'⟩ : ∃ t, t = tkF (tbC I0) N m T1.2.2.1 := ⟨_, rfl⟩
  have hin2 := tkF_in (b := tbC I0) (n := N) (m := m) (p := T1.2.2.1) hin1.2.2.1
  refine tn_step (p := T1.2.2.1) rfl rfl rfl rfl nrT hR1l hN hN9 hm l1 hin1.2.2.1 ?_ ?_
  rotate_left
  · intro e2 I2 hI2 g7 g8
    rw [← hT2'] at e2 g7 g8
    have e2 : nbF T2 0 40 ≠ 0 := e2
    have eR : (nlF (tbC I0) N m ln lat T) = (nbF T2 0 40, T2.2.1, 0, 0, 0, 0, 0) := by simp only [nlF, nbK, hw, hw9, hg, ← hT1, e1, ← hT2', e2, moF, ↓reduceIte, show ¬ (2 = 3) by decide, show ¬ (2 = 0) by decide, show ¬ (2 = 1) by decide]
    rw [eR] at hno
    exact hno e2 I2 _ _ hI2 g7 g8
  intro e2 I2 hR2 g23 g26
  rw [← hT2'] at e2 g23 g26 hin2
  have e2 : nbF T2 0 40 = 0 := e2
  refine q_ald rfl rfl ?_
  refine q_getr rfl sk_123 sr_123_0 ?_
  refine q_ild rfl rfl ?_
  refine q_ald rfl rfl ?_
  refine q_geti rfl sk_123 ?_
  refine q_ald rfl rfl ?_
  refine q_geti rfl sk_1 ?_
  show dw_ok (pr_X3_readLine K) 102 0 0 [some (.ref 123), some (.ref 1), some (.int i), some (.int 2)] [.int (I2 1 6), .int (I2 123 1), .int 2, .ref 124] (n, SH1, I2, J)
  rw [show I2 123 1 = T1.2.2.2 from hR2.2.2.1, g26]
  refine q_callV (as := [.int 2, .int T1.2.2.2, .int T2.2.2.2]) (rest := []) rfl rfl sk_124 rfl (Nat.le_of_ble_eq_true rfl) ?_
  refine v_nset (w := 2) (t0 := T1.2.2.2.toInt.toNat) (by decide) rfl (by omega) (by omega) (fun I3 hAI3 hBI3 => ?_)
  have hR3 := NR_set hR2 (by decide) hAI3 hBI3
  have l3 : (I3 1 3).toInt = T2.2.2.1 := by rw [hAI3 1 (by decide)]; exact g23
  show dw_ok (pr_X3_readLine K) 105 0 0 [some (.ref 123), some (.ref 1), some (.int i), some (.int 2)] [] (n, SH1, I3, J)
  refine q_ild rfl rfl ?_
  refine q_ic rfl ?_
  refine q_icmp (c := 1) rfl (by decide) (fun h => absurd rfl h) (fun _ => ?_)
  refine q_ald rfl rfl ?_
  refine q_ic rfl ?_
  refine q_ic rfl ?_
  refine q_callS (as := [.int 3]) (rest := [.int 0, .ref 1]) rfl rfl rfl rfl ?_
  refine v_mostOf (fun wm m0 m1 m2 => ?_)
  obtain rfl : wm = (40 : Int32) := m2 (by decide) (by decide)
  show dw_ok (pr_X3_readLine K) 116 0 0 [some (.ref 123), some (.ref 1), some (.int i), some (.int 2)] [.int 40, .int 0, .ref 1] (n, SH1, I3, J)
  obtain ⟨T3, hT3⟩ : ∃ t, t = tkF (tbC I0) N m T2.2.2.1 := ⟨_, rfl⟩
  have hin3 := tkF_in (b := tbC I0) (n := N) (m := m) (p := T2.2.2.1) hin2.2.2.1
  refine tn_step (p := T2.2.2.1) rfl rfl rfl rfl nrT hR3 hN hN9 hm l3 hin2.2.2.1 ?_ ?_
  rotate_left
  · intro e3 I4 hI4 g7 g8
    rw [← hT3] at e3 g7 g8
    have e3 : nbF T3 0 40 ≠ 0 := e3
    have eR : (nlF (tbC I0) N m ln lat T) = (nbF T3 0 40, T3.2.1, 0, 0, 0, 0, 0) := by simp only [nlF, nbK, hw, hw9, hg, ← hT1, e1, ← hT2', e2, ← hT3, e3, moF, ↓reduceIte, show ¬ (2 = 3) by decide, show ¬ (2 = 0) by decide, show ¬ (2 = 1) by decide]
    rw [eR] at hno
    exact hno e3 I4 _ _ hI4 g7 g8
  intro e3 I4 hR4 g43 g46
  rw [← hT3] at e3 g43 g46 hin3
  have e3 : nbF T3 0 40 = 0 := e3
  refine q_ald rfl rfl ?_
  refine q_getr rfl sk_123 sr_123_0 ?_
  refine q_ic rfl ?_
  refine q_ald rfl rfl ?_
  refine q_geti rfl sk_123 ?_
  refine q_ald rfl rfl ?_
  refine q_geti rfl sk_1 ?_
  show dw_ok (pr_X3_readLine K) 137 0 0 [some (.ref 123), some (.ref 1), some (.int i), some (.int 2)] [.int (I4 1 6), .int (I4 123 1), .int 3, .ref 124] (n, SH1, I4, J)
  rw [show I4 123 1 = T1.2.2.2 from hR4.2.2.1, g46]
  refine q_callV (as := [.int 3, .int T1.2.2.2, .int T3.2.2.2]) (rest := []) rfl rfl sk_124 rfl (Nat.le_of_ble_eq_true rfl) ?_
  refine v_nset (w := 3) (t0 := T1.2.2.2.toInt.toNat) (by decide) rfl (by omega) (by omega) (fun I5 hAI5 hBI5 => ?_)
  have hR5 := NR_set hR4 (by decide) hAI5 hBI5
  have l5 : (I5 1 3).toInt = T3.2.2.1 := by rw [hAI5 1 (by decide)]; exact g43
  show dw_ok (pr_X3_readLine K) 140 0 0 [some (.ref 123), some (.ref 1), some (.int i), some (.int 2)] [] (n, SH1, I5, J)
  obtain ⟨T4, hT4⟩ : ∃ t, t = tkF (tbC I0) N m T3.2.2.1 := ⟨_, rfl⟩
  have hinT4 := tkF_in (b := tbC I0) (n := N) (m := m) (p := T3.2.2.1) hin3.2.2.1
  refine q_ald rfl rfl ?_
  refine ts_step (p := T3.2.2.1) rfl rfl nrT hR5 hN hN9 hm l5 hin3.2.2.1 ?_ ?_
  rotate_left
  · intro es I9 hI9 g7 g8
    rw [← hT4] at es g8
    have eR : (nlF (tbC I0) N m ln lat T) = (1, T4.2.1, 0, 0, 0, 0, 0) := by simp only [nlF, nbK, stK, hw, hw9, hg, ← hT1, e1, ← hT2', e2, ← hT3, e3, ← hT4, es, moF, ↓reduceIte, show ¬ (2 = 3) by decide, show ¬ (2 = 0) by decide, show ¬ (2 = 1) by decide]
    rw [eR] at hno
    exact hno (nn rfl) I9 _ _ hI9 g7 g8
  intro es I9 hI9 g3
  rw [← hT4] at es g3 hinT4
  have eR : (nlF (tbC I0) N m ln lat T) = (0, 0, T4.2.2.1, 2, T1.2.2.2, T2.2.2.2, T3.2.2.2) := by simp only [nlF, nbK, stK, hw, hw9, hg, ← hT1, e1, ← hT2', e2, ← hT3, e3, ← hT4, es, moF, ↓reduceIte, show ¬ (2 = 3) by decide, show ¬ (2 = 0) by decide, show ¬ (2 = 1) by decide]
  rw [eR] at hok
  exact hok rfl I9 hI9 g3 hinT4.2.2.1 (by dsimp only; omega)
set_option maxRecDepth 8000 in
set_option maxHeartbeats 2000000 in
theorem v_nline3 {n : Nat} {I : Nat → Nat → Int32} {J : Nat → Nat → Int64} {K : dw_K} {I0 : Nat → Nat → Int32} {lat i : Int32} {U : List (Nat × Nat × Int32)} {T : fT} {N m ln : Nat} (hR : NRp I0 I lat U) (hN : (I0 1 1).toInt = N) (hN9 : N ≤ 940) (hm : (I0 1 2).toInt = m) (h3 : (I 1 3).toInt = T.2.2.1) (h4 : (I 1 4).toInt = T.2.1) (h5 : (I 1 5).toInt = T.1) (hTN : T.2.2.1 ≤ N) (hT2 : T.2.1 ≤ N) (hl0 : 0 ≤ lat.toInt) (hi : i.toInt = ln) (hw : wkF (tbC I0) T = 3)
    (hok : (nlF (tbC I0) N m ln lat T).1 = 0 → ∀ I' : Nat → Nat → Int32, NRp I0 I' (nlF (tbC I0) N m ln lat T).2.2.2.2.1 (udF (nlF (tbC I0) N m ln lat T).2.2.2 ++ U) → (I' 1 3).toInt = (nlF (tbC I0) N m ln lat T).2.2.1 → (nlF (tbC I0) N m ln lat T).2.2.1 ≤ N → 0 ≤ (nlF (tbC I0) N m ln lat T).2.2.2.2.1.toInt → K (some (.int 1)) (n, SH1, I', J))
    (hno : (nlF (tbC I0) N m ln lat T).1 ≠ 0 → ∀ (I' : Nat → Nat → Int32) (lat' : Int32) (U' : List (Nat × Nat × Int32)), NRp I0 I' lat' U' → (I' 1 7).toInt = (nlF (tbC I0) N m ln lat T).1 → (I' 1 8).toInt = (nlF (tbC I0) N m ln lat T).2.1 → K (some (.int 0)) (n, SH1, I', J)) : dw_ok (pr_X3_readLine K) 16 0 0 [some (.ref 123), some (.ref 1), some (.int i), some (.int 4)] [] (n, SH1, I, J) := by
  have c24 : (24 : Int32).toInt = 24 := rfl
  have hw9 : ¬ (3 = 9) := by decide
  refine q_ild rfl rfl ?_
  refine q_ic rfl ?_
  refine q_icmp (c := 2) rfl (by decide) (fun h => ?_) (fun h => ?_)
  rotate_left
  · have h : (24 : Int32).toInt ≤ i.toInt := h
    have hg : 24 ≤ ln := by omega
    have eR : (nlF (tbC I0) N m ln lat T) = (4, T.2.1, 0, 0, 0, 0, 0) := by simp only [nlF, hw, hg, hw9, ↓reduceIte]
    refine q_ald rfl rfl ?_
    refine q_ic rfl ?_
    refine fl_step (c := 4) rfl rfl (nrT (lat := lat) (U := U)) hR (fun I1 hI1 g7 g8 => ?_)
    rw [eR] at hno
    exact hno (nn rfl) I1 lat U hI1 g7 (g8.trans h4)
  have h : i.toInt < (24 : Int32).toInt := h
  have hg : ¬ (24 ≤ ln) := by omega
  refine q_ald rfl rfl ?_
  refine q_ald rfl rfl ?_
  refine q_geti rfl sk_123 ?_
  refine q_ic rfl ?_
  show dw_ok (pr_X3_readLine K) 36 0 0 [some (.ref 123), some (.ref 1), some (.int i), some (.int 4)] [.int 143, .int (I 123 1), .ref 1] (n, SH1, I, J)
  rw [show I 123 1 = lat from hR.2.2.1]
  obtain ⟨T1, hT1⟩ : ∃ t, t = tkF (tbC I0) N m T.2.2.1 := ⟨_, rfl⟩
  have hin1 := tkF_in (b := tbC I0) (n := N) (m := m) (p := T.2.2.1) hTN
  refine tn_step (p := T.2.2.1) rfl rfl rfl rfl nrT hR hN hN9 hm h3 hTN ?_ ?_
  rotate_left
  · intro e1 I1 hI1 g7 g8
    rw [← hT1] at e1 g7 g8
    have e1 : nbF T1 lat.toInt 143 ≠ 0 := e1
    have eR : (nlF (tbC I0) N m ln lat T) = (nbF T1 lat.toInt 143, T1.2.1, 0, 0, 0, 0, 0) := by simp only [nlF, nbK, hw, hw9, hg, ← hT1, e1, ↓reduceIte]
    rw [eR] at hno
    exact hno e1 I1 _ _ hI1 g7 g8
  intro e1 I1 hR1 g13 g16
  rw [← hT1] at e1 g13 g16 hin1
  have e1 : nbF T1 lat.toInt 143 = 0 := e1
  have r1 := nb_r e1
  refine q_ald rfl rfl ?_
  refine q_ald rfl rfl ?_
  refine q_geti rfl sk_1 ?_
  refine q_puti rfl sk_123 ?_
  show dw_ok (pr_X3_readLine K) 52 0 0 [some (.ref 123), some (.ref 1), some (.int i), some (.int 4)] [] (n, SH1, dw_up I1 123 1 (I1 1 6), J)
  rw [g16]
  have hR1l := NR_lat (v := T1.2.2.2) hR1
  obtain ⟨I1l, hI1l⟩ : ∃ X, X = dw_up I1 123 1 T1.2.2.2 := ⟨_, rfl⟩
  have l1 : (I1l 1 3).toInt = T1.2.2.1 := by rw [hI1l]; exact g13
  rw [← hI1l] at hR1l
  rw [← hI1l]
  refine q_ild rfl rfl ?_
  refine q_ic rfl ?_
  refine q_icmp (c := 1) rfl (by decide) (fun h => absurd rfl h) (fun _ => ?_)
  refine q_ald rfl rfl ?_
  refine q_getr rfl sk_123 sr_123_0 ?_
  refine q_ic rfl ?_
  refine q_ald rfl rfl ?_
  refine q_geti rfl sk_123 ?_
  refine q_ic rfl ?_
  show dw_ok (pr_X3_readLine K) 67 0 0 [some (.ref 123), some (.ref 1), some (.int i), some (.int 4)] [.int 1, .int (I1l 123 1), .int 4, .ref 124] (n, SH1, I1l, J)
  rw [show I1l 123 1 = T1.2.2.2 from hR1l.2.2.1]
  refine q_callV (as := [.int 4, .int T1.2.2.2, .int 1]) (rest := []) rfl rfl sk_124 rfl (Nat.le_of_ble_eq_true rfl) ?_
  refine v_nset (w := 4) (t0 := T1.2.2.2.toInt.toNat) (by decide) rfl (by omega) (by omega) (fun I2 hAI2 hBI2 => ?_)
  have hR2 := NR_set hR1l (by decide) hAI2 hBI2
  have l2 : (I2 1 3).toInt = T1.2.2.1 := by rw [hAI2 1 (by decide)]; exact l1
  show dw_ok (pr_X3_readLine K) 70 0 0 [some (.ref 123), some (.ref 1), some (.int i), some (.int 4)] [] (n, SH1, I2, J)
  obtain ⟨T2, hT2⟩ : ∃ t, t = tkF (tbC I0) N m T1.2.2.1 := ⟨_, rfl⟩
  have hinT2 := tkF_in (b := tbC I0) (n := N) (m := m) (p := T1.2.2.1) hin1.2.2.1
  refine q_ald rfl rfl ?_
  refine ts_step (p := T1.2.2.1) rfl rfl nrT hR2 hN hN9 hm l2 hin1.2.2.1 ?_ ?_
  rotate_left
  · intro es I9 hI9 g7 g8
    rw [← hT2] at es g8
    have eR : (nlF (tbC I0) N m ln lat T) = (1, T2.2.1, 0, 0, 0, 0, 0) := by simp only [nlF, nbK, stK, hw, hw9, hg, ← hT1, e1, ← hT2, es, moF, ↓reduceIte, show ¬ (3 = 2) by decide]
    rw [eR] at hno
    exact hno (nn rfl) I9 _ _ hI9 g7 g8
  intro es I9 hI9 g3
  rw [← hT2] at es g3 hinT2
  have eR : (nlF (tbC I0) N m ln lat T) = (0, 0, T2.2.2.1, 3, T1.2.2.2, 0, 0) := by simp only [nlF, nbK, stK, hw, hw9, hg, ← hT1, e1, ← hT2, es, moF, ↓reduceIte, show ¬ (3 = 2) by decide]
  rw [eR] at hok
  exact hok rfl I9 hI9 g3 hinT2.2.2.1 (by dsimp only; omega)
set_option maxRecDepth 8000 in
theorem v_nline {n : Nat} {I : Nat → Nat → Int32} {J : Nat → Nat → Int64} {K : dw_K} {I0 : Nat → Nat → Int32} {lat i : Int32} {U : List (Nat × Nat × Int32)} {T : fT} {N m ln : Nat} (hR : NRp I0 I lat U) (hN : (I0 1 1).toInt = N) (hN9 : N ≤ 940) (hm : (I0 1 2).toInt = m) (h3 : (I 1 3).toInt = T.2.2.1) (h4 : (I 1 4).toInt = T.2.1) (h5 : (I 1 5).toInt = T.1) (hTN : T.2.2.1 ≤ N) (hT2 : T.2.1 ≤ N) (hl0 : 0 ≤ lat.toInt) (hi : i.toInt = ln)
    (hok : (nlF (tbC I0) N m ln lat T).1 = 0 → ∀ I' : Nat → Nat → Int32, NRp I0 I' (nlF (tbC I0) N m ln lat T).2.2.2.2.1 (udF (nlF (tbC I0) N m ln lat T).2.2.2 ++ U) → (I' 1 3).toInt = (nlF (tbC I0) N m ln lat T).2.2.1 → (nlF (tbC I0) N m ln lat T).2.2.1 ≤ N → 0 ≤ (nlF (tbC I0) N m ln lat T).2.2.2.2.1.toInt → K (some (.int 1)) (n, SH1, I', J))
    (hno : (nlF (tbC I0) N m ln lat T).1 ≠ 0 → ∀ (I' : Nat → Nat → Int32) (lat' : Int32) (U' : List (Nat × Nat × Int32)), NRp I0 I' lat' U' → (I' 1 7).toInt = (nlF (tbC I0) N m ln lat T).1 → (I' 1 8).toInt = (nlF (tbC I0) N m ln lat T).2.1 → K (some (.int 0)) (n, SH1, I', J)) : t_X3_readLine [.ref 123, .ref 1, .int i] (n, SH1, I, J) K := by
  have hN0 : (I 1 1).toInt = N := by rw [hR.2.1 1 (by decide)]; exact hN
  have hb0 : tbC I = tbC I0 := tbC_eq (hR.2.1 1 (by decide)) (hR.1 2 (by decide) (by decide) (by decide))
  refine q_body (Nat.le_of_ble_eq_true rfl) ?_
  refine q_ald rfl rfl ?_
  refine q_callS (as := [.ref 1]) (rest := []) rfl rfl rfl rfl ?_
  refine v_whatIsTold hN0 hN9 h3 h4 h5 hTN hT2 (fun w wc => ?_)
  rw [hb0] at wc
  show dw_ok (pr_X3_readLine K) 4 0 0 [some (.ref 123), some (.ref 1), some (.int i), none] [.int w] (n, SH1, I, J)
  rcases wk_cases (tbC I0) T with hw | hw | hw | hw | hw
  · obtain rfl : w = (0 : Int32) := i_eq (by rw [wc, hw]; rfl)
    refine q_ist rfl rfl ?_
    refine q_ild rfl rfl ?_
    refine q_ic rfl ?_
    refine q_icmp (c := 1) rfl (by decide) (fun _ => ?_) (fun h => absurd (show (0 : Int32).toInt = (-1 : Int32).toInt from h) (by decide))
    exact v_nline0 hR hN hN9 hm h3 h4 h5 hTN hT2 hl0 hi hw hok hno
  · obtain rfl : w = (1 : Int32) := i_eq (by rw [wc, hw]; rfl)
    refine q_ist rfl rfl ?_
    refine q_ild rfl rfl ?_
    refine q_ic rfl ?_
    refine q_icmp (c := 1) rfl (by decide) (fun _ => ?_) (fun h => absurd (show (1 : Int32).toInt = (-1 : Int32).toInt from h) (by decide))
    exact v_nline1 hR hN hN9 hm h3 h4 h5 hTN hT2 hl0 hi hw hok hno
  · obtain rfl : w = (2 : Int32) := i_eq (by rw [wc, hw]; rfl)
    refine q_ist rfl rfl ?_
    refine q_ild rfl rfl ?_
    refine q_ic rfl ?_
    refine q_icmp (c := 1) rfl (by decide) (fun _ => ?_) (fun h => absurd (show (2 : Int32).toInt = (-1 : Int32).toInt from h) (by decide))
    exact v_nline2 hR hN hN9 hm h3 h4 h5 hTN hT2 hl0 hi hw hok hno
  · obtain rfl : w = (4 : Int32) := i_eq (by rw [wc, hw]; rfl)
    refine q_ist rfl rfl ?_
    refine q_ild rfl rfl ?_
    refine q_ic rfl ?_
    refine q_icmp (c := 1) rfl (by decide) (fun _ => ?_) (fun h => absurd (show (4 : Int32).toInt = (-1 : Int32).toInt from h) (by decide))
    exact v_nline3 hR hN hN9 hm h3 h4 h5 hTN hT2 hl0 hi hw hok hno
  · obtain rfl : w = (-1 : Int32) := i_eq (by rw [wc, hw]; rfl)
    have eR : (nlF (tbC I0) N m ln lat T) = (1, T.2.1, 0, 0, 0, 0, 0) := by simp only [nlF, hw, ↓reduceIte]
    refine q_ist rfl rfl ?_
    refine q_ild rfl rfl ?_
    refine q_ic rfl ?_
    refine q_icmp (c := 1) rfl (by decide) (fun h => absurd rfl h) (fun _ => ?_)
    refine q_ald rfl rfl ?_
    refine q_ic rfl ?_
    refine fl_step (c := 1) rfl rfl (nrT (lat := lat) (U := U)) hR (fun I1 hI1 g7 g8 => ?_)
    rw [eR] at hno
    exact hno (nn rfl) I1 lat U hI1 g7 (g8.trans h4)
end
section
/-! ===== a NIGHT's text read by the class ===== -/
set_option maxRecDepth 8000 in
theorem nb_K {t : fT} {lo hi : Int} {k : Int32 → Nat → fR} (h : (nbK t lo hi k).1 = 0) : nbF t lo hi = 0 := by
  unfold nbK at h
  by_cases g : nbF t lo hi = 0
  · exact g
  · rw [if_neg g] at h; exact absurd h g
set_option maxRecDepth 8000 in
theorem nl_24 {b : fB} {N m ln : Nat} {lat : Int32} {T : fT} (h : 24 ≤ ln) : (nlF b N m ln lat T).1 ≠ 0 := by
  unfold nlF
  by_cases g : wkF b T = 9
  · rw [if_pos g]; exact nn rfl
  · rw [if_neg g, if_pos h]; exact nn rfl
set_option maxRecDepth 8000 in
theorem nt_loop {n : Nat} {I0 : Nat → Nat → Int32} {J : Nat → Nat → Int64} {K : dw_K} {bc bs N m : Nat} {G : Nat × Nat × Nat × List fL} (hN : (I0 1 1).toInt = N) (hN9 : N ≤ 940) (hm : (I0 1 2).toInt = m)
    (hok : G.1 = 0 → ∀ (I' : Nat → Nat → Int32) (lat' w : Int32), NRp I0 I' lat' (uaF G.2.2.2) → w.toInt = G.2.2.1 → w.toInt ≤ 24 → K (some (.int w)) (n, SH1, I', J))
    (hno : G.1 ≠ 0 → ∀ (I' : Nat → Nat → Int32) (lat' : Int32) (U' : List (Nat × Nat × Int32)), NRp I0 I' lat' U' → (I' 1 7).toInt = G.1 → (I' 1 8).toInt = G.2.1 → K (some (.int (-1))) (n, SH1, I', J)) :
    ∀ (f ln p : Nat) (lat i : Int32) (L : List fL) (I : Nat → Nat → Int32), ln + f = 24 → ngF (tbC I0) N m (f + 1) ln lat p L = G → NRp I0 I lat (uaF L) → (I 1 3).toInt = p → p ≤ N → 0 ≤ lat.toInt → i.toInt = ln → dw_ok (pr_X3_readText K) 29 bc bs [some (.ref 123), some (.ref 1), some (.int i)] [] (n, SH1, I, J) := by
  have c24 : (24 : Int32).toInt = 24 := rfl
  have c1 : (1 : Int32).toInt = 1 := rfl
  intro f
  induction f with
  | zero =>
    intro ln p lat i L I hf hG hR h3 hp hl0 hi
    refine q_ild rfl rfl ?_
    refine q_ic rfl ?_
    refine q_icmp (c := 4) rfl (by decide) (fun h => absurd (show (24 : Int32).toInt < i.toInt from h) (by omega)) (fun _ => ?_)
    refine q_ald rfl rfl ?_
    refine q_callV (as := []) (rest := []) rfl rfl sk_1 rfl (Nat.le_of_ble_eq_true rfl) ?_
    have e1 : I 1 1 = I0 1 1 := hR.2.1 1 (by decide)
    have e2 : I 1 2 = I0 1 2 := hR.2.1 2 (by decide)
    have hb : tbC I = tbC I0 := tbC_eq e1 (hR.1 2 (by decide) (by decide) (by decide))
    refine v_take (p := p) (N := N) (m := m) (by rw [e1]; exact hN) hN9 (by rw [e2]; exact hm) h3 hp (fun I1 hA hF g3 g4 g5 g6 => ?_)
    rw [hb] at g3 g4 g5 g6
    have hR1 := NR_tape hR hA (fun j hj => hF j (by omega) (by omega) (by omega) (by omega))
    have hin := tkF_in (b := tbC I0) (n := N) (m := m) (p := p) hp
    unfold ngF at hG
    show dw_ok (pr_X3_readText K) 39 bc bs [some (.ref 123), some (.ref 1), some (.int i)] [] (n, SH1, I1, J)
    refine q_ald rfl rfl ?_
    refine q_geti rfl sk_1 ?_
    refine q_if (c := 1) rfl (by decide) (fun h => ?_) (fun h => ?_)
    · have h : (I1 1 5).toInt ≠ 0 := h
      have hT0 : ¬ (tkF (tbC I0) N m p).1 = 0 := by omega
      rw [if_neg hT0] at hG
      refine q_ald rfl rfl ?_
      refine q_ald rfl rfl ?_
      refine q_ild rfl rfl ?_
      refine q_callV (as := [.ref 1, .int i]) (rest := []) rfl rfl sk_123 rfl (Nat.le_of_ble_eq_true rfl) ?_
      refine v_nline hR1 hN hN9 hm g3 g4 g5 hin.2.2.1 hin.1 hl0 hi (fun hr => absurd hr (nl_24 (by omega))) (fun hr I2 lat2 U2 hR2 g7 g8 => ?_)
      rw [if_neg hr] at hG
      show dw_ok (pr_X3_readText K) 54 bc bs [some (.ref 123), some (.ref 1), some (.int i)] [.int 0] (n, SH1, I2, J)
      refine q_if (c := 1) rfl (by decide) (fun h => absurd rfl h) (fun _ => ?_)
      refine q_ic rfl ?_
      rw [← hG] at hno
      exact q_iret rfl (hno hr I2 lat2 U2 hR2 g7 g8)
    · have h : (I1 1 5).toInt = 0 := h
      have hT0 : (tkF (tbC I0) N m p).1 = 0 := by omega
      rw [if_pos hT0] at hG
      refine q_ild rfl rfl ?_
      rw [← hG] at hok
      exact q_iret rfl (hok rfl I1 lat i hR1 hi (by omega))
  | succ f ih =>
    intro ln p lat i L I hf hG hR h3 hp hl0 hi
    refine q_ild rfl rfl ?_
    refine q_ic rfl ?_
    refine q_icmp (c := 4) rfl (by decide) (fun h => absurd (show (24 : Int32).toInt < i.toInt from h) (by omega)) (fun _ => ?_)
    refine q_ald rfl rfl ?_
    refine q_callV (as := []) (rest := []) rfl rfl sk_1 rfl (Nat.le_of_ble_eq_true rfl) ?_
    have e1 : I 1 1 = I0 1 1 := hR.2.1 1 (by decide)
    have e2 : I 1 2 = I0 1 2 := hR.2.1 2 (by decide)
    have hb : tbC I = tbC I0 := tbC_eq e1 (hR.1 2 (by decide) (by decide) (by decide))
    refine v_take (p := p) (N := N) (m := m) (by rw [e1]; exact hN) hN9 (by rw [e2]; exact hm) h3 hp (fun I1 hA hF g3 g4 g5 g6 => ?_)
    rw [hb] at g3 g4 g5 g6
    have hR1 := NR_tape hR hA (fun j hj => hF j (by omega) (by omega) (by omega) (by omega))
    have hin := tkF_in (b := tbC I0) (n := N) (m := m) (p := p) hp
    unfold ngF at hG
    show dw_ok (pr_X3_readText K) 39 bc bs [some (.ref 123), some (.ref 1), some (.int i)] [] (n, SH1, I1, J)
    refine q_ald rfl rfl ?_
    refine q_geti rfl sk_1 ?_
    refine q_if (c := 1) rfl (by decide) (fun h => ?_) (fun h => ?_)
    · have h : (I1 1 5).toInt ≠ 0 := h
      have hT0 : ¬ (tkF (tbC I0) N m p).1 = 0 := by omega
      rw [if_neg hT0] at hG
      refine q_ald rfl rfl ?_
      refine q_ald rfl rfl ?_
      refine q_ild rfl rfl ?_
      refine q_callV (as := [.ref 1, .int i]) (rest := []) rfl rfl sk_123 rfl (Nat.le_of_ble_eq_true rfl) ?_
      refine v_nline hR1 hN hN9 hm g3 g4 g5 hin.2.2.1 hin.1 hl0 hi (fun hr I2 hR2 g23 hle hl2 => ?_) (fun hr I2 lat2 U2 hR2 g7 g8 => ?_)
      · rw [if_pos hr] at hG
        show dw_ok (pr_X3_readText K) 54 bc bs [some (.ref 123), some (.ref 1), some (.int i)] [.int 1] (n, SH1, I2, J)
        refine q_if (c := 1) rfl (by decide) (fun _ => ?_) (fun h => absurd (show (1 : Int32).toInt = 0 from h) (by decide))
        refine q_inc rfl rfl rfl ?_
        refine q_goto rfl ?_
        exact ih (ln + 1) _ _ (i + 1) _ I2 (by omega) hG hR2 g23 hle hl2 (by rw [i_add (by omega) (by omega), c1]; omega)
      · rw [if_neg hr] at hG
        show dw_ok (pr_X3_readText K) 54 bc bs [some (.ref 123), some (.ref 1), some (.int i)] [.int 0] (n, SH1, I2, J)
        refine q_if (c := 1) rfl (by decide) (fun h => absurd rfl h) (fun _ => ?_)
        refine q_ic rfl ?_
        rw [← hG] at hno
        exact q_iret rfl (hno hr I2 lat2 U2 hR2 g7 g8)
    · have h : (I1 1 5).toInt = 0 := h
      have hT0 : (tkF (tbC I0) N m p).1 = 0 := by omega
      rw [if_pos hT0] at hG
      refine q_ild rfl rfl ?_
      rw [← hG] at hok
      exact q_iret rfl (hok rfl I1 lat i hR1 hi (by omega))
set_option maxRecDepth 8000 in
/-- the reader's text: the place where it stands is 0 -/
theorem v_ntext {n : Nat} {I : Nat → Nat → Int32} {J : Nat → Nat → Int64} {K : dw_K} {N : Nat} {G : Nat × Nat × Nat × List fL} (hN : (I 1 1).toInt = N) (hN9 : N ≤ 940) (hG : ngF (tbC I) N 400 25 0 0 0 [] = G)
    (hok : G.1 = 0 → ∀ (I' : Nat → Nat → Int32) (w : Int32), (∀ a, a ≠ 1 → (a < 123 ∨ 130 < a) → I' a = I a) → I' 1 0 = I 1 0 → I' 1 1 = I 1 1 → (I' 124 0).toInt = 1 → (∀ w, w < 5 → ∀ t, t < 144 → I' (126 + w) t = ndF (uaF G.2.2.2) w t) → w.toInt = G.2.2.1 → w.toInt ≤ 24 → K (some (.int w)) (n, SH1, I', J))
    (hno : G.1 ≠ 0 → ∀ I' : Nat → Nat → Int32, (∀ a, a ≠ 1 → (a < 123 ∨ 130 < a) → I' a = I a) → I' 1 0 = I 1 0 → I' 1 1 = I 1 1 → (I' 1 7).toInt = G.1 → (I' 1 8).toInt = G.2.1 → K (some (.int (-1))) (n, SH1, I', J)) : t_X3_readText [.ref 123, .ref 1] (n, SH1, I, J) K := by
  refine q_body (Nat.le_of_ble_eq_true rfl) ?_
  refine q_ald rfl rfl ?_
  refine q_getr rfl sk_123 sr_123_0 ?_
  refine q_callV (as := []) (rest := []) rfl rfl sk_124 rfl (Nat.le_of_ble_eq_true rfl) ?_
  refine v_nclear (fun I1 hA1 hF1 hB1 => ?_)
  show dw_ok (pr_X3_readText K) 7 0 0 [some (.ref 123), some (.ref 1), none] [] (n, SH1, I1, J)
  refine q_ald rfl rfl ?_
  refine q_getr rfl sk_123 sr_123_0 ?_
  refine q_ic rfl ?_
  refine q_putz rfl sk_124 (Or.inr rfl) ?_
  refine q_ald rfl rfl ?_
  refine q_ic rfl ?_
  refine q_puti rfl sk_123 ?_
  refine q_ald rfl rfl ?_
  refine q_ic rfl ?_
  refine q_callV (as := [.int 400]) (rest := []) rfl rfl sk_1 rfl (Nat.le_of_ble_eq_true rfl) ?_
  refine v_open ?_
  refine q_ic rfl ?_
  refine q_ist rfl rfl ?_
  obtain ⟨I2, hI2⟩ : ∃ X, X = dw_up (dw_up (dw_up (dw_up (dw_up (dw_up (dw_up I1 124 0 1) 123 1 0) 1 2 400) 1 3 0) 1 4 0) 1 7 0) 1 8 0 := ⟨_, rfl⟩
  have hr : ∀ a, a ≠ 1 → a ≠ 123 → a ≠ 124 → I2 a = I1 a := fun a h1 h2 h3 => by rw [hI2]; funext j; simp [dw_up, h1, h2, h3]
  have f1 : I2 1 1 = I 1 1 := by rw [hI2]; show I1 1 1 = _; rw [hA1 1 (by decide) (by decide)]
  have f0 : I2 1 0 = I 1 0 := by rw [hI2]; show I1 1 0 = _; rw [hA1 1 (by decide) (by decide)]
  have f2 : I2 1 2 = 400 := by rw [hI2]; rfl
  have hb2 : tbC I2 = tbC I := tbC_eq f1 ((hr 2 (by decide) (by decide) (by decide)).trans (hA1 2 (by decide) (by decide)))
  have hR : NRp I2 I2 0 (uaF []) := ⟨fun _ _ _ _ => rfl, fun _ _ => rfl, by rw [hI2]; rfl, fun w hw t ht => by rw [hr (126 + w) (by omega) (by omega) (by omega)]; exact hB1 w hw t ht⟩
  show dw_ok (pr_X3_readText K) 29 0 0 [some (.ref 123), some (.ref 1), some (.int 0)] [] (n, SH1, dw_up (dw_up (dw_up (dw_up (dw_up (dw_up (dw_up I1 124 0 1) 123 1 0) 1 2 400) 1 3 0) 1 4 0) 1 7 0) 1 8 0, J)
  rw [← hI2]
  rw [← hb2] at hG
  refine nt_loop (I0 := I2) (G := G) (by rw [f1]; exact hN) hN9 (m := 400) (by rw [f2]; rfl) (fun hg I' lat' w hR' hw h24 => ?_) (fun hg I' lat' U' hR' g7 g8 => ?_) 24 0 0 0 0 [] I2 rfl hG hR (by rw [hI2]; rfl) (Nat.zero_le _) (by decide) rfl
  · refine hok hg I' w (fun a h1 h2 => ?_) ?_ ?_ ?_ hR'.2.2.2 hw h24
    · rw [hR'.1 a h1 (by omega) (by omega), hr a h1 (by omega) (by omega)]; exact hA1 a (by omega) (by omega)
    · rw [hR'.2.1 0 (by decide)]; exact f0
    · rw [hR'.2.1 1 (by decide)]; exact f1
    · rw [hR'.1 124 (by decide) (by decide) (by decide), hI2]; rfl
  · refine hno hg I' (fun a h1 h2 => ?_) ?_ ?_ g7 g8
    · rw [hR'.1 a h1 (by omega) (by omega), hr a h1 (by omega) (by omega)]; exact hA1 a (by omega) (by omega)
    · rw [hR'.2.1 0 (by decide)]; exact f0
    · rw [hR'.2.1 1 (by decide)]; exact f1
end
section
/-! ===== NIGHTS copied; night() of the class ===== -/
/-- a NIGHT lies at A -/
def NT (A : Nat) : Prop := (SH1 A).1 = 2 ∧ (SH1 A).2.2 1 = some (A + 1) ∧ (SH1 (A + 1)).1 = 20 ∧ (SH1 (A + 1)).2.1 = 5 ∧ ∀ w, w < 5 → (SH1 (A + 1)).2.2 w = some (A + 2 + w) ∧ (SH1 (A + 2 + w)).1 = 16 ∧ (SH1 (A + 2 + w)).2.1 = 144
def nt_list : List Nat := [44, 58, 65, 72, 79, 86, 93, 124]
set_option maxRecDepth 8000 in
theorem nt_dec : (nt_list.all (fun A => decide ((dx_ce A).k = 2) && decide (((dx_ce A).rf[1]?).join = some (A + 1)) && decide ((dx_ce (A + 1)).k = 20) && decide ((dx_ce (A + 1)).n = 5) && (List.range 5).all (fun w => decide (((dx_ce (A + 1)).rf[w]?).join = some (A + 2 + w)) && decide ((dx_ce (A + 2 + w)).k = 16) && decide ((dx_ce (A + 2 + w)).n = 144)))) = true := by decide +kernel
set_option maxRecDepth 8000 in
theorem nt_ok {A : Nat} (h : A ∈ nt_list) : NT A := by
  have h1 := List.all_eq_true.mp nt_dec A h
  simp only [Bool.and_eq_true, decide_eq_true_eq] at h1
  obtain ⟨⟨⟨⟨a1, a2⟩, a3⟩, a4⟩, a5⟩ := h1
  refine ⟨(shE A).1.trans a1, ((shE A).2.2 1).trans a2, (shE (A + 1)).1.trans a3, (shE (A + 1)).2.1.trans a4, fun w hw => ?_⟩
  have h2 := List.all_eq_true.mp a5 w (List.mem_range.mpr hw)
  simp only [Bool.and_eq_true, decide_eq_true_eq] at h2
  obtain ⟨⟨b1, b2⟩, b3⟩ := h2
  exact ⟨((shE (A + 1)).2.2 w).trans b1, (shE (A + 2 + w)).1.trans b2, (shE (A + 2 + w)).2.1.trans b3⟩
section
variable {pr : Nat → dw_Op} {pc bc bs nx : Nat} {ls : dw_L} {st : List Value} {μ : dw_S}
set_option maxRecDepth 8000 in
theorem q_copy {sr d n sn dn : Nat} {nn : Int32} (ho : pr pc = o_copy nx) (k1 : (μ.2.1 sr).1 = 16) (k2 : (μ.2.1 d).1 = 16) (n1 : (μ.2.1 sr).2.1 = sn) (n2 : (μ.2.1 d).2.1 = dn) (hc : Nat.ble (dw_cats st) 8 = true) (hn : nn.toInt = n) (h1 : n ≤ sn) (h2 : n ≤ dn) (k : dw_ok pr nx bc bs ls st (dw_cp μ sr d 0 0 n)) : dw_ok pr pc bc bs ls (.int nn :: .int 0 :: .ref d :: .int 0 :: .ref sr :: st) μ :=
  dw_ok.step (by
    rw [ho]
    unfold o_copy
    simp only []
    have e0 : Int32.toNatClampNeg 0 = 0 := rfl
    have en : nn.toNatClampNeg = n := by rw [dx_tn]; omega
    rw [if_pos ⟨k1, k2, Nat.le_of_ble_eq_true hc⟩, if_pos ⟨⟨dx_nlt (by decide), dx_nlt (by decide), dx_nlt (by omega)⟩, by rw [e0, en, n1]; omega, by rw [e0, en, n2]; omega⟩, e0, en]
    exact k)
end
set_option maxRecDepth 8000 in
theorem nc_loop {n : Nat} {J : Nat → Nat → Int64} {K : dw_K} {bc bs A B : Nat} {I0 : Nat → Nat → Int32} (hA : NT A) (hB : NT B) (hAB : A + 7 ≤ B ∨ B + 7 ≤ A)
    (hk : ∀ I' : Nat → Nat → Int32, (∀ a, (a < A + 2 ∨ A + 6 < a) → I' a = I0 a) → (∀ w, w < 5 → ∀ t, t < 144 → I' (A + 2 + w) t = I0 (B + 2 + w) t) → K none (n, SH1, I', J)) :
    ∀ (f w : Nat) (x : Int32) (I : Nat → Nat → Int32), w + f = 5 → x.toInt = w → (∀ a, (a < A + 2 ∨ A + 6 < a) → I a = I0 a) → (∀ v, v < w → ∀ t, t < 144 → I (A + 2 + v) t = I0 (B + 2 + v) t) → dw_ok (pr_X2_copyFrom K) 10 bc bs [some (.ref A), some (.ref B), some (.int x)] [] (n, SH1, I, J) := by
  have c5 : (5 : Int32).toInt = 5 := rfl
  have c1 : (1 : Int32).toInt = 1 := rfl
  intro f
  induction f with
  | zero =>
    intro w x I hw hx hr hv
    refine q_ild rfl rfl ?_
    refine q_ic rfl ?_
    refine q_icmp (c := 3) rfl (by decide) (fun _ => ?_) (fun h => absurd (show x.toInt < (5 : Int32).toInt from h) (by omega))
    exact q_vret rfl (hk I hr (fun v hv5 t ht => hv v (by omega) t ht))
  | succ f ih =>
    intro w x I hw hx hr hv
    have hxn : x.toInt.toNat = w := by omega
    obtain ⟨a1, a2, a3⟩ := hA.2.2.2.2 w (by omega)
    obtain ⟨b1, b2, b3⟩ := hB.2.2.2.2 w (by omega)
    refine q_ild rfl rfl ?_
    refine q_ic rfl ?_
    refine q_icmp (c := 3) rfl (by decide) (fun h => absurd (show (5 : Int32).toInt ≤ x.toInt from h) (by omega)) (fun _ => ?_)
    refine q_ald rfl rfl ?_
    refine q_getr rfl hB.1 hB.2.1 ?_
    refine q_ild rfl rfl ?_
    refine q_xaldr rfl hB.2.2.1 hB.2.2.2.1 (by omega) (show x.toInt < (5 : Nat) by omega) (show (SH1 (B + 1)).2.2 x.toInt.toNat = some (B + 2 + w) by rw [hxn]; exact b1) ?_
    refine q_ic rfl ?_
    refine q_ald rfl rfl ?_
    refine q_getr rfl hA.1 hA.2.1 ?_
    refine q_ild rfl rfl ?_
    refine q_xaldr rfl hA.2.2.1 hA.2.2.2.1 (by omega) (show x.toInt < (5 : Nat) by omega) (show (SH1 (A + 1)).2.2 x.toInt.toNat = some (A + 2 + w) by rw [hxn]; exact a1) ?_
    refine q_ic rfl ?_
    refine q_ic rfl ?_
    refine q_copy (n := 144) rfl b2 a2 b3 a3 rfl rfl (Nat.le_refl _) (Nat.le_refl _) ?_
    refine q_inc rfl rfl rfl ?_
    refine q_goto rfl ?_
    refine ih (w + 1) (x + 1) (dw_cp (n, SH1, I, J) (B + 2 + w) (A + 2 + w) 0 0 144).2.2.1 (by omega) (by rw [i_add (by omega) (by omega), c1]; omega) (fun a ha => ?_) (fun v hv5 t ht => ?_)
    · rw [← hr a ha]
      funext j
      show (if a = A + 2 + w then _ else I a j) = I a j
      rw [if_neg (by omega)]
    · show (if A + 2 + v = A + 2 + w then (if 0 ≤ t ∧ t < 0 + 144 then I (B + 2 + w) (0 + (t - 0)) else I (A + 2 + w) t) else I (A + 2 + v) t) = I0 (B + 2 + v) t
      by_cases e : v = w
      · subst e
        rw [if_pos rfl, if_pos (by omega), hr (B + 2 + v) (by omega), Nat.zero_add, Nat.sub_zero]
      · rw [if_neg (by omega)]
        exact hv v (by omega) t ht
set_option maxRecDepth 8000 in
theorem v_ncopy {n : Nat} {I : Nat → Nat → Int32} {J : Nat → Nat → Int64} {K : dw_K} {A B : Nat} (hA : NT A) (hB : NT B) (hAB : A + 7 ≤ B ∨ B + 7 ≤ A) (hz : I B 0 = 0 ∨ I B 0 = 1)
    (hk : ∀ I' : Nat → Nat → Int32, (∀ a, a ≠ A → (a < A + 2 ∨ A + 6 < a) → I' a = I a) → (∀ j, j ≠ 0 → I' A j = I A j) → I' A 0 = I B 0 → (∀ w, w < 5 → ∀ t, t < 144 → I' (A + 2 + w) t = I (B + 2 + w) t) → K none (n, SH1, I', J)) : t_X2_copyFrom [.ref A, .ref B] (n, SH1, I, J) K := by
  refine q_body (Nat.le_of_ble_eq_true rfl) ?_
  refine q_ald rfl rfl ?_
  refine q_ald rfl rfl ?_
  refine q_getz rfl hB.1 ?_
  refine q_putz rfl hA.1 hz ?_
  refine q_ic rfl ?_
  refine q_ist rfl rfl ?_
  refine nc_loop (I0 := dw_up I A 0 (I B 0)) hA hB hAB (fun I' hr hv => ?_) 5 0 0 (dw_up I A 0 (I B 0)) rfl rfl (fun _ _ => rfl) (fun v hv => absurd hv (Nat.not_lt_zero v))
  refine hk I' (fun a h1 h2 => ?_) (fun j hj => ?_) ?_ (fun w hw t ht => ?_)
  · rw [hr a h2]; exact up_row h1
  · rw [hr A (by omega)]; exact up_fld hj
  · rw [hr A (by omega)]; exact up_same
  · rw [hv w hw t ht, up_row (by omega)]
set_option maxRecDepth 8000 in
theorem no_ref {s : Nat} (hs : s < 6) : (SH1 10).2.2 s = some (58 + 7 * s) ∧ NT (58 + 7 * s) := by
  match s, hs with
  | 0, _ => exact ⟨sr_10_0, nt_ok (by decide)⟩
  | 1, _ => exact ⟨sr_10_1, nt_ok (by decide)⟩
  | 2, _ => exact ⟨sr_10_2, nt_ok (by decide)⟩
  | 3, _ => exact ⟨sr_10_3, nt_ok (by decide)⟩
  | 4, _ => exact ⟨sr_10_4, nt_ok (by decide)⟩
  | 5, _ => exact ⟨sr_10_5, nt_ok (by decide)⟩
  | k + 6, h => exact absurd h (by omega)
set_option maxRecDepth 8000 in
theorem v_nightOf {n : Nat} {I : Nat → Nat → Int32} {J : Nat → Nat → Int64} {K : dw_K} {x : Int32} (h1 : ∀ s : Nat, s < 6 → x.toInt = s → K (some (.ref (58 + 7 * s))) (n, SH1, I, J)) (h2 : ¬ (0 ≤ x.toInt ∧ x.toInt ≤ 5) → K (some .null) (n, SH1, I, J)) : t_X8_nightOf [.ref 3, .int x] (n, SH1, I, J) K := by
  have c6 : (6 : Int32).toInt = 6 := rfl
  refine q_body (Nat.le_of_ble_eq_true rfl) ?_
  refine q_ild rfl rfl ?_
  refine q_if (c := 2) rfl (by decide) (fun h => ?_) (fun h => ?_)
  · have h : x.toInt < 0 := h
    refine q_nul rfl ?_
    exact q_aretn rfl (h2 (by omega))
  have h : 0 ≤ x.toInt := h
  refine q_ild rfl rfl ?_
  refine q_ic rfl ?_
  refine q_icmp (c := 3) rfl (by decide) (fun g => ?_) (fun g => ?_)
  · have g : (6 : Int32).toInt ≤ x.toInt := g
    refine q_nul rfl ?_
    exact q_aretn rfl (h2 (by omega))
  have g : x.toInt < (6 : Int32).toInt := g
  obtain ⟨s, hs⟩ : ∃ s : Nat, x.toInt.toNat = s := ⟨_, rfl⟩
  refine q_ald rfl rfl ?_
  refine q_getr rfl sk_3 sr_3_2 ?_
  refine q_ild rfl rfl ?_
  refine q_xaldr rfl sk_10 sn_10 h (show x.toInt < (6 : Nat) by omega) (show (SH1 10).2.2 x.toInt.toNat = some (58 + 7 * s) by rw [hs]; exact (no_ref (by omega)).1) ?_
  refine q_goto rfl ?_
  exact q_aret rfl (h1 s (by omega) (by omega))
set_option maxRecDepth 8000 in
theorem v_cnight {n : Nat} {I : Nat → Nat → Int32} {J : Nat → Nat → Int64} {K : dw_K} {x : Int32} {N : Nat} {G : Nat × Nat × Nat × List fL} (hN : (I 1 1).toInt = N) (hN9 : N ≤ 940) (hG : ngF (tbC I) N 400 25 0 0 0 [] = G)
    (h0 : ¬ (0 ≤ x.toInt ∧ x.toInt ≤ 5) → ∀ I' : Nat → Nat → Int32, (∀ a, a ≠ 1 → I' a = I a) → I' 1 1 = 0 → K (some (.int (-1001))) (n, SH1, I', J))
    (h1 : ∀ s : Nat, s < 6 → x.toInt = s → G.1 = 0 → ∀ (I' : Nat → Nat → Int32) (w : Int32), (∀ a, a ≠ 1 → (a < 123 ∨ 130 < a) → a ≠ 58 + 7 * s → (a < 60 + 7 * s ∨ 64 + 7 * s < a) → I' a = I a) → I' 1 1 = 0 → (∀ j, j ≠ 0 → I' (58 + 7 * s) j = I (58 + 7 * s) j) → (I' (58 + 7 * s) 0).toInt = 1 → (∀ w, w < 5 → ∀ t, t < 144 → I' (60 + 7 * s + w) t = ndF (uaF G.2.2.2) w t) → w.toInt = G.2.2.1 → K (some (.int w)) (n, SH1, I', J))
    (h2 : ∀ s : Nat, s < 6 → x.toInt = s → G.1 ≠ 0 → ∀ (I' : Nat → Nat → Int32) (w : Int32), (∀ a, a ≠ 1 → (a < 123 ∨ 130 < a) → I' a = I a) → I' 1 1 = 0 → w.toInt = -1 - G.2.1 → K (some (.int w)) (n, SH1, I', J))
    (hpl : G.2.1 ≤ 940) : t_X11_night [.ref 0, .int x] (n, SH1, I, J) K := by
  have cm : (-1 : Int32).toInt = -1 := rfl
  refine q_body (Nat.le_of_ble_eq_true rfl) ?_
  refine q_ald rfl rfl ?_
  refine q_getr rfl sk_0 sr_0_1 ?_
  refine q_ild rfl rfl ?_
  refine q_callV (as := [.int x]) (rest := []) rfl rfl sk_3 rfl (Nat.le_of_ble_eq_true rfl) ?_
  refine v_nightOf (fun s hs hx => ?_) (fun hx => ?_)
  · show dw_ok (pr_X11_night K) 8 0 0 [some (.ref 0), some (.int x), none, none] [.ref (58 + 7 * s)] (n, SH1, I, J)
    refine q_ast rfl rfl ?_
    refine q_ald rfl rfl ?_
    refine q_ifnn_r rfl ?_
    refine q_ald rfl rfl ?_
    refine q_getr rfl sk_0 sr_0_4 ?_
    refine q_ald rfl rfl ?_
    refine q_getr rfl sk_0 sr_0_0 ?_
    refine q_callV (as := [.ref 1]) (rest := []) rfl rfl sk_123 rfl (Nat.le_of_ble_eq_true rfl) ?_
    refine v_ntext hN hN9 hG (fun hg I' w hA f0 f1 ht hB hw h24 => ?_) (fun hg I' hA f0 f1 g7 g8 => ?_)
    · show dw_ok (pr_X11_night K) 44 0 0 [some (.ref 0), some (.int x), some (.ref (58 + 7 * s)), none] [.int w] (n, SH1, I', J)
      refine q_ist rfl rfl ?_
      refine q_ald rfl rfl ?_
      refine q_getr rfl sk_0 sr_0_0 ?_
      refine q_ic rfl ?_
      refine q_puti rfl sk_1 ?_
      show dw_ok (pr_X11_night K) 53 0 0 [some (.ref 0), some (.int x), some (.ref (58 + 7 * s)), some (.int w)] [] (n, SH1, dw_up I' 1 1 0, J)
      refine q_ild rfl rfl ?_
      refine q_ic rfl ?_
      refine q_icmp (c := 1) rfl (by decide) (fun _ => ?_) (fun h => absurd (show w.toInt = (-1 : Int32).toInt from h) (by omega))
      refine q_ald rfl rfl ?_
      refine q_ald rfl rfl ?_
      refine q_getr rfl sk_0 sr_0_4 ?_
      refine q_getr rfl sk_123 sr_123_0 ?_
      refine q_callV (as := [.ref 124]) (rest := []) rfl rfl (no_ref hs).2.1 rfl (Nat.le_of_ble_eq_true rfl) ?_
      have ht1 : dw_up I' 1 1 0 124 0 = 1 := i_eq ht
      refine v_ncopy (no_ref hs).2 (nt_ok (by decide)) (by omega) (Or.inr ht1) (fun I2 hA2 hF2 h20 hB2 => ?_)
      show dw_ok (pr_X11_night K) 79 0 0 [some (.ref 0), some (.int x), some (.ref (58 + 7 * s)), some (.int w)] [] (n, SH1, I2, J)
      refine q_ild rfl rfl ?_
      refine q_iret rfl (h1 s hs hx hg I2 w (fun a g1 g2 g3 g4 => ?_) ?_ (fun j hj => ?_) ?_ (fun v hv t htt => ?_) hw)
      · rw [hA2 a g3 (by omega), up_row g1]; exact hA a g1 g2
      · rw [hA2 1 (by omega) (by omega)]; exact up_same
      · rw [hF2 j hj, up_row (by omega), hA (58 + 7 * s) (by omega) (by omega)]
      · rw [h20, ht1]; rfl
      · have e := hB2 v hv t htt
        rw [show 58 + 7 * s + 2 + v = 60 + 7 * s + v by omega] at e
        rw [e, up_row (by omega)]
        exact hB v hv t htt
    · show dw_ok (pr_X11_night K) 44 0 0 [some (.ref 0), some (.int x), some (.ref (58 + 7 * s)), none] [.int (-1)] (n, SH1, I', J)
      refine q_ist rfl rfl ?_
      refine q_ald rfl rfl ?_
      refine q_getr rfl sk_0 sr_0_0 ?_
      refine q_ic rfl ?_
      refine q_puti rfl sk_1 ?_
      show dw_ok (pr_X11_night K) 53 0 0 [some (.ref 0), some (.int x), some (.ref (58 + 7 * s)), some (.int (-1))] [] (n, SH1, dw_up I' 1 1 0, J)
      refine q_ild rfl rfl ?_
      refine q_ic rfl ?_
      refine q_icmp (c := 1) rfl (by decide) (fun h => absurd rfl h) (fun _ => ?_)
      refine q_ic rfl ?_
      refine q_ald rfl rfl ?_
      refine q_getr rfl sk_0 sr_0_0 ?_
      refine q_geti rfl sk_1 ?_
      refine q_sub rfl ?_
      refine q_iret rfl (h2 s hs hx hg (dw_up I' 1 1 0) (-1 - I' 1 8) (fun a g1 g2 => (up_row g1).trans (hA a g1 g2)) up_same ?_)
      rw [i_sub (by omega) (by omega), cm, g8]
  · show dw_ok (pr_X11_night K) 8 0 0 [some (.ref 0), some (.int x), none, none] [.null] (n, SH1, I, J)
    refine q_astn rfl rfl ?_
    refine q_aldn rfl rfl ?_
    refine q_ifnn_n rfl ?_
    refine q_ald rfl rfl ?_
    refine q_getr rfl sk_0 sr_0_0 ?_
    refine q_ic rfl ?_
    refine q_puti rfl sk_1 ?_
    refine q_ald rfl rfl ?_
    refine q_getr rfl sk_0 sr_0_0 ?_
    refine q_ic rfl ?_
    refine q_puti rfl sk_1 ?_
    refine q_ic rfl ?_
    exact q_iret rfl (h0 hx (dw_up (dw_up I 1 1 0) 1 7 0) (fun a ha => (up_row ha).trans (up_row ha)) rfl)
end
section
/-! ===== the model's reading, step by step, whatever else it keeps ===== -/
set_option maxRecDepth 8000 in
theorem tk_word {b : fB} {n m p : Nat} (h : (tkF b n m p).1 = 1) (hp : p ≤ n) : (tkF b n m p).2.1 < (tkF b n m p).2.2.1 ∧ (tkF b n m p).2.2.1 ≤ (tkF b n m p).2.1 + 12 ∧ ∀ i, i < (tkF b n m p).2.2.1 - (tkF b n m p).2.1 → f_sm (b ((tkF b n m p).2.1 + i)) := by
  have h2 := skF_le (b := b) (n := n) (n - p) p hp
  have h3 := rnF_ge (b := b) (n := n) (n - skF b n (n - p) p) (skF b n (n - p) p)
  unfold tkF at h ⊢
  by_cases c1 : m < n ∧ m ≤ skF b n (n - p) p
  · rw [if_pos c1] at h; exact absurd h (nn rfl)
  rw [if_neg c1] at h ⊢
  by_cases c2 : n ≤ skF b n (n - p) p
  · rw [if_pos c2] at h; exact absurd h (nn rfl)
  rw [if_neg c2] at h ⊢
  by_cases c3 : (b (skF b n (n - p) p)).toInt = 59
  · rw [if_pos c3] at h; exact absurd h (nn rfl)
  rw [if_neg c3] at h ⊢
  by_cases c4 : dtF b (skF b n (n - p) p) (rnF b n (n - skF b n (n - p) p) (skF b n (n - p) p) - skF b n (n - p) p) = 0 ∧ 1 ≤ rnF b n (n - skF b n (n - p) p) (skF b n (n - p) p) - skF b n (n - p) p ∧ rnF b n (n - skF b n (n - p) p) (skF b n (n - p) p) - skF b n (n - p) p ≤ 12
  · rw [if_pos c4]
    dsimp only
    refine ⟨by omega, by omega, fun i hi => ?_⟩
    exact dtF_0 _ c4.1 (fun j hj => (rnF_in (b := b) (n := n) (n - skF b n (n - p) p) (skF b n (n - p) p) _ (by omega) (by omega)).2) i hi
  · rw [if_neg c4] at h
    split at h <;> exact absurd h (nn rfl)
set_option maxRecDepth 8000 in
/-- the model's word is the class's -/
theorem ms_iff {b : fB} {n m p i : Nat} {I : Nat → Nat → Int32} {J : Nat → Nat → Int64} {W : Int64} (hT : MK b (tkF b n m p) I J) (hp : p ≤ n) (h1 : 1 ≤ (dw_sb i).length) (h7 : (dw_sb i).length ≤ 7) (hs : ∀ j, j < (dw_sb i).length → f_sm ((dw_sb i).getD j 0)) (hW : wlF (dw_sb i) (dw_sb i).length = W.toInt) :
    ((I 404 11).toInt = 1 ∧ J 404 17 = W) ↔ sayF b (tkF b n m p) (dw_sb i) := by
  by_cases h : (tkF b n m p).1 = 1
  · obtain ⟨w1, w2, w3⟩ := tk_word h hp
    obtain ⟨-, hw, -⟩ := hT.2.2.2.2.2 h
    have hi : (I 404 11).toInt = 1 := by rw [hT.1, h]; rfl
    obtain ⟨k, hk⟩ : ∃ k, (tkF b n m p).2.2.1 - (tkF b n m p).2.1 = k := ⟨_, rfl⟩
    rw [hk] at hw w3
    obtain ⟨d1, -, -⟩ := wd_wi (b := b) (q := (tkF b n m p).2.1) (min k 8) (by omega) (fun j hj => w3 j (by omega))
    have hwi := wi_word (b := b) (q := (tkF b n m p).2.1) (k := min k 8) (w := dw_sb i) (W := W.toInt) (by omega) (fun j hj => w3 j (by omega)) h1 hs hW
    have e : J 404 17 = W ↔ wiF b (tkF b n m p).2.1 (min k 8) = W.toInt := by
      rw [hw, ← d1]
      exact Int64.toInt_inj.symm
    constructor
    · rintro ⟨-, g⟩
      obtain ⟨g1, g2⟩ := hwi.mp (e.mp g)
      exact ⟨h, by omega, g2⟩
    · rintro ⟨-, g1, g2⟩
      exact ⟨hi, e.mpr (hwi.mpr ⟨by omega, g2⟩)⟩
  · constructor
    · rintro ⟨g, -⟩
      have := hT.1
      exact absurd (show (tkF b n m p).1 = 1 by omega) h
    · rintro ⟨g, -⟩
      exact absurd g h
abbrev mF (j : Nat) : Prop := j ≠ 4 ∧ j ≠ 11 ∧ j ≠ 12 ∧ j ≠ 13 ∧ j ≠ 14 ∧ j ≠ 15 ∧ j ≠ 16 ∧ j ≠ 19
def MInv (I0 : Nat → Nat → Int32) (Inv : (Nat → Nat → Int32) → (Nat → Nat → Int64) → Prop) : Prop :=
  (∀ I J I1 J1, Inv I J → (∀ a, a ≠ 404 → I1 a = I a) → (∀ j, mF j → I1 404 j = I 404 j) → (∀ a, a ≠ 404 → J1 a = J a) → (∀ j, j ≠ 17 → j ≠ 18 → J1 404 j = J 404 j) → Inv I1 J1) ∧ ∀ I J, Inv I J → I 404 3 = I0 404 3 ∧ I 404 5 = I0 404 5 ∧ I 405 = I0 405
section
variable {pr : Nat → dw_Op} {K : dw_K} {pc nx cont z1 z2 bc bs n : Nat} {ls : dw_L} {J : Nat → Nat → Int64} {I0 I : Nat → Nat → Int32} {Inv : (Nat → Nat → Int32) → (Nat → Nat → Int64) → Prop} {N m : Nat} {T : fT}
set_option maxRecDepth 8000 in
theorem mt_step {lo hi : Int32} (ho : pr pc = o_callV 12 3 0 0 t_X12_takes nx) (ho1 : pr nx = o_if_ne cont z1) (ho2 : pr z1 = o_ic 0 z2) (ho3 : pr z2 = o_zret K) (hV : MInv I0 Inv) (hI : Inv I J) (hN : (I0 404 3).toInt = N) (hN9 : N ≤ 940) (hm : (I0 404 5).toInt = m) (hT : MK (tbM I0) T I J) (hnx : T.2.2.1 ≤ N)
    (k1 : nbF T lo.toInt hi.toInt = 0 → ∀ (I1 : Nat → Nat → Int32) (J1 : Nat → Nat → Int64), Inv I1 J1 → MK (tbM I0) (tkF (tbM I0) N m T.2.2.1) I1 J1 → I1 404 19 = T.2.2.2 → dw_ok pr cont bc bs ls [] (n, SH1, I1, J1))
    (k0 : nbF T lo.toInt hi.toInt ≠ 0 → ∀ (I1 : Nat → Nat → Int32) (J1 : Nat → Nat → Int64), Inv I1 J1 → (I1 404 15).toInt = nbF T lo.toInt hi.toInt → (I1 404 16).toInt = T.2.1 → K (some (.int 0)) (n, SH1, I1, J1)) :
    dw_ok pr pc bc bs ls [.int hi, .int lo, .ref 404] (n, SH1, I, J) := by
  obtain ⟨e1, e2, e3⟩ := hV.2 I J hI
  have hb : tbM I = tbM I0 := tbM_eq e1 e3
  refine q_callV (as := [.int lo, .int hi]) (rest := []) ho rfl sk_404 rfl (Nat.le_of_ble_eq_true rfl) ?_
  refine v_takes (b := tbM I0) (T := T) (N := N) (m := m) (by rw [e1]; exact hN) hN9 (by rw [e2]; exact hm) hb hT hnx (fun e I1 J1 hA hF hJa hJf h19 hM => ?_) (fun c hc hc0 => ?_)
  · show dw_ok pr nx bc bs ls [.int 1] (n, SH1, I1, J1)
    exact q_if (c := 1) ho1 (by decide) (fun _ => k1 e I1 J1 (hV.1 I J I1 J1 hI hA (fun j hj => hF j hj.1 hj.2.1 hj.2.2.1 hj.2.2.2.1 hj.2.2.2.2.1 hj.2.2.2.2.2.2.2) hJa hJf) hM h19) (fun h => absurd (show (1 : Int32).toInt = 0 from h) (by decide))
  · show dw_ok pr nx bc bs ls [.int 0] (n, SH1, dw_up (dw_up I 404 15 c) 404 16 (I 404 12), J)
    refine q_if (c := 1) ho1 (by decide) (fun h => absurd rfl h) (fun _ => ?_)
    refine q_ic ho2 ?_
    refine q_zret ho3 (Or.inl rfl) (k0 (by omega) _ _ (hV.1 I J _ J hI (fun a ha => (up_row ha).trans (up_row ha)) (fun j hj => (up_fld hj.2.2.2.2.2.2.1).trans (up_fld hj.2.2.2.2.2.1)) (fun _ _ => rfl) (fun _ _ _ => rfl)) hc hT.2.1)
set_option maxRecDepth 8000 in
theorem mn_step (ho : pr pc = o_callV 12 1 0 0 t_X12_next nx) (hV : MInv I0 Inv) (hI : Inv I J) (hN : (I0 404 3).toInt = N) (hN9 : N ≤ 940) (hm : (I0 404 5).toInt = m) {p : Nat} (hp : p ≤ N) (h4 : (I 404 4).toInt = p)
    (k1 : ∀ (I1 : Nat → Nat → Int32) (J1 : Nat → Nat → Int64), Inv I1 J1 → MK (tbM I0) (tkF (tbM I0) N m p) I1 J1 → dw_ok pr nx bc bs ls [] (n, SH1, I1, J1)) :
    dw_ok pr pc bc bs ls [.ref 404] (n, SH1, I, J) := by
  obtain ⟨e1, e2, e3⟩ := hV.2 I J hI
  have hb : tbM I = tbM I0 := tbM_eq e1 e3
  refine q_callV (as := []) (rest := []) ho rfl sk_404 rfl (Nat.le_of_ble_eq_true rfl) ?_
  refine v_next (p := p) (N := N) (m := m) (by rw [e1]; exact hN) hN9 (by rw [e2]; exact hm) h4 hp (fun I1 J1 hA hF hJa hJf hM => ?_)
  rw [hb] at hM
  exact k1 I1 J1 (hV.1 I J I1 J1 hI hA (fun j hj => hF j hj.1 hj.2.1 hj.2.2.1 hj.2.2.2.1 hj.2.2.2.2.1) hJa hJf) hM
set_option maxRecDepth 8000 in
theorem mb_step {c : Int32} (ho : pr pc = o_callV 12 2 0 0 t_X12_bad nx) (ho1 : pr nx = o_zret K) (hV : MInv I0 Inv) (hI : Inv I J)
    (k0 : ∀ (I1 : Nat → Nat → Int32) (J1 : Nat → Nat → Int64), Inv I1 J1 → (I1 404 15).toInt = c.toInt → (I1 404 16).toInt = (I 404 12).toInt → K (some (.int 0)) (n, SH1, I1, J1)) :
    dw_ok pr pc bc bs ls [.int c, .ref 404] (n, SH1, I, J) := by
  refine q_callV (as := [.int c]) (rest := []) ho rfl sk_404 rfl (Nat.le_of_ble_eq_true rfl) ?_
  refine v_bad ?_
  exact q_zret ho1 (Or.inl rfl) (k0 _ _ (hV.1 I J _ J hI (fun a ha => (up_row ha).trans (up_row ha)) (fun j hj => (up_fld hj.2.2.2.2.2.2.1).trans (up_fld hj.2.2.2.2.2.1)) (fun _ _ => rfl) (fun _ _ _ => rfl)) rfl rfl)
set_option maxRecDepth 8000 in
/-- a word asked for: the answer is left on the stack -/
theorem mw_step {b : fB} {p i : Nat} {W : Int64} (ho : pr pc = o_callV 12 2 0 0 t_X12_isWord nx) (hT : MK b (tkF b N m p) I J) (hp : p ≤ N) (h1 : 1 ≤ (dw_sb i).length) (h7 : (dw_sb i).length ≤ 7) (hs : ∀ j, j < (dw_sb i).length → f_sm ((dw_sb i).getD j 0)) (hW : wlF (dw_sb i) (dw_sb i).length = W.toInt)
    (k1 : sayF b (tkF b N m p) (dw_sb i) → dw_ok pr nx bc bs ls [.int 1] (n, SH1, I, J)) (k0 : ¬ sayF b (tkF b N m p) (dw_sb i) → dw_ok pr nx bc bs ls [.int 0] (n, SH1, I, J)) :
    dw_ok pr pc bc bs ls [.long W, .ref 404] (n, SH1, I, J) := by
  refine q_callV (as := [.long W]) (rest := []) ho rfl sk_404 rfl (Nat.le_of_ble_eq_true rfl) ?_
  have e := ms_iff hT hp h1 h7 hs hW
  refine v_isWord (fun v hv => ?_)
  rcases hv with ⟨rfl, g⟩ | ⟨rfl, g⟩
  · exact k1 (e.mp g)
  · exact k0 (fun h => g (e.mpr h))
end
set_option maxRecDepth 8000 in
/-- the words are of small letters -/
theorem sm_dec : (List.range 26).all (fun i => (dw_sb i).all (fun x => decide (97 ≤ x.toInt) && decide (x.toInt ≤ 122))) = true := by decide +kernel
set_option maxRecDepth 8000 in
theorem sm_ok {i : Nat} (h : i < 26) : ∀ j, j < (dw_sb i).length → f_sm ((dw_sb i).getD j 0) := by
  intro j hj
  have h1 := List.all_eq_true.mp sm_dec i (List.mem_range.mpr h)
  have h2 := List.all_eq_true.mp h1 ((dw_sb i)[j]) (List.getElem_mem hj)
  rw [Bool.and_eq_true, decide_eq_true_eq, decide_eq_true_eq] at h2
  rw [List.getD_eq_getElem?_getD, List.getElem?_eq_getElem hj]
  exact h2
end
section
/-! ===== a NIGHT read by the model ===== -/
/-- what the model keeps of lines (the latest first) -/
def mdF (I : Nat → Nat → Int32) : List fL → Prop
  | [] => True
  | l :: r => I 408 (1 + 4 * r.length) = Int32.ofNat l.1 ∧ I 408 (2 + 4 * r.length) = l.2.1 ∧ I 408 (3 + 4 * r.length) = l.2.2.1 ∧ I 408 (4 + 4 * r.length) = l.2.2.2 ∧ mdF I r
set_option maxRecDepth 8000 in
theorem md_same {I I' : Nat → Nat → Int32} : ∀ (L : List fL), (∀ j, j < 1 + 4 * L.length → I' 408 j = I 408 j) → mdF I L → mdF I' L
  | [], _, _ => trivial
  | l :: r, h, g => by
    have hl : (l :: r).length = r.length + 1 := rfl
    obtain ⟨g1, g2, g3, g4, g5⟩ := g
    refine ⟨(h _ (by omega)).trans g1, (h _ (by omega)).trans g2, (h _ (by omega)).trans g3, (h _ (by omega)).trans g4, md_same r (fun j hj => h j (by omega)) g5⟩
set_option maxRecDepth 8000 in
theorem md_pos {I I' : Nat → Nat → Int32} : ∀ (L : List fL), (∀ j, 1 ≤ j → I' 408 j = I 408 j) → mdF I L → mdF I' L
  | [], _, _ => trivial
  | l :: r, h, g => by
    obtain ⟨g1, g2, g3, g4, g5⟩ := g
    exact ⟨(h _ (by omega)).trans g1, (h _ (by omega)).trans g2, (h _ (by omega)).trans g3, (h _ (by omega)).trans g4, md_pos r h g5⟩
def laF : List fL → Int32
  | [] => 0
  | l :: _ => l.2.1
/-- the model's reader of a NIGHT, going on: behind ln lines -/
def NMp (I0 : Nat → Nat → Int32) (J0 : Nat → Nat → Int64) (ln : Nat) (I : Nat → Nat → Int32) (J : Nat → Nat → Int64) : Prop :=
  (∀ a, a ≠ 404 → a ≠ 408 → I a = I0 a) ∧ (∀ j, mF j → I 404 j = I0 404 j) ∧ (∀ j, j < 1 + 4 * ln → I 408 j = I0 408 j) ∧ (∀ a, a ≠ 404 → J a = J0 a) ∧ ∀ j, j ≠ 17 → j ≠ 18 → J 404 j = J0 404 j
set_option maxRecDepth 8000 in
theorem nmV {I0 : Nat → Nat → Int32} {J0 : Nat → Nat → Int64} {ln : Nat} {P : (Nat → Int32) → Prop} : MInv I0 (fun I J => NMp I0 J0 ln I J ∧ P (I 408)) := by
  refine ⟨fun I J I1 J1 h hA hF hJa hJf => ⟨⟨fun a h1 h2 => (hA a h1).trans (h.1.1 a h1 h2), fun j hj => (hF j hj).trans (h.1.2.1 j hj), fun j hj => ?_, fun a ha => (hJa a ha).trans (h.1.2.2.2.1 a ha), fun j h1 h2 => (hJf j h1 h2).trans (h.1.2.2.2.2 j h1 h2)⟩, ?_⟩, fun I J h => ⟨h.1.2.1 3 (by decide), h.1.2.1 5 (by decide), h.1.1 405 (by decide) (by decide)⟩⟩
  · rw [hA 408 (by decide)]; exact h.1.2.2.1 j hj
  · rw [hA 408 (by decide)]; exact h.2
set_option maxRecDepth 8000 in
theorem nm_up {I0 I : Nat → Nat → Int32} {J0 J : Nat → Nat → Int64} {ln q : Nat} {x : Int32} (h : NMp I0 J0 ln I J) (hq : 1 + 4 * ln ≤ q) : NMp I0 J0 ln (dw_up I 408 q x) J := by
  refine ⟨fun a h1 h2 => (up_row h2).trans (h.1 a h1 h2), fun j hj => (congrFun (up_row (show 404 ≠ 408 by decide)) j).trans (h.2.1 j hj), fun j hj => ?_, h.2.2.2.1, h.2.2.2.2⟩
  rw [up_fld (by omega)]; exact h.2.2.1 j hj
set_option maxRecDepth 8000 in
theorem wk_1 {b : fB} {T : fT} (h : wkF b T ≠ 9) : T.1 = 1 := by
  by_cases g : T.1 = 1
  · exact g
  · exfalso
    apply h
    unfold wkF
    rw [if_neg (fun s => g s.1), if_neg (fun s => g s.1), if_neg (fun s => g s.1), if_neg (fun s => g s.1)]
set_option maxRecDepth 8000 in
theorem mk_row {b : fB} {T : fT} {I I' : Nat → Nat → Int32} {J : Nat → Nat → Int64} (h : I' 404 = I 404) (g : MK b T I J) : MK b T I' J := by
  unfold MK at g ⊢
  rw [h]
  exact g
set_option maxRecDepth 8000 in
theorem mk_fld {b : fB} {T : fT} {I I' : Nat → Nat → Int32} {J : Nat → Nat → Int64} {q : Nat} (h : ∀ j, j ≠ q → I' 404 j = I 404 j) (g : MK b T I J) (hq : q = 21 := by rfl) : MK b T I' J := by
  subst hq
  unfold MK at g ⊢
  rw [h 11 (by decide), h 12 (by decide), h 4 (by decide), h 14 (by decide), h 13 (by decide)]
  exact g
set_option maxRecDepth 8000 in
set_option maxHeartbeats 4000000 in
theorem v_mline0 {n : Nat} {I : Nat → Nat → Int32} {J : Nat → Nat → Int64} {K : dw_K} {I0 : Nat → Nat → Int32} {J0 : Nat → Nat → Int64} {lat : Int32} {T : fT} {N m ln p : Nat} (hR : NMp I0 J0 ln I J) (hN : (I0 404 3).toInt = N) (hN9 : N ≤ 940) (hm : (I0 404 5).toInt = m) (hT : MK (tbM I0) T I J) (hTe : T = tkF (tbM I0) N m p) (hp : p ≤ N) (hln : (I0 404 21).toInt = ln) (hl24 : ln ≤ 24) (hlat : (ln = 0 → lat = 0) ∧ (ln ≠ 0 → I0 408 (4 * ln - 2) = lat)) (hl0 : 0 ≤ lat.toInt) (hw : wkF (tbM I0) T = 0)
    (hok : ∀ (T' : fT) (p' : Nat) (l : fL) (I' : Nat → Nat → Int32) (J' : Nat → Nat → Int64), (nlF (tbM I0) N m ln lat T) = stK T' (fun p => (0, 0, p, l)) → T' = tkF (tbM I0) N m p' → p' ≤ N → 0 ≤ l.2.1.toInt → MK (tbM I0) T' I' J' → NMp I0 J0 ln I' J' → I' 408 (1 + 4 * ln) = Int32.ofNat l.1 ∧ I' 408 (2 + 4 * ln) = l.2.1 ∧ I' 408 (3 + 4 * ln) = l.2.2.1 ∧ I' 408 (4 + 4 * ln) = l.2.2.2 → K (some (.int 1)) (n, SH1, I', J'))
    (hno : (nlF (tbM I0) N m ln lat T).1 ≠ 0 → ∀ (I' : Nat → Nat → Int32) (J' : Nat → Nat → Int64), NMp I0 J0 ln I' J' → (I' 404 15).toInt = (nlF (tbM I0) N m ln lat T).1 → (I' 404 16).toInt = (nlF (tbM I0) N m ln lat T).2.1 → K (some (.int 0)) (n, SH1, I', J')) : dw_ok (pr_X12_nightLine K) 58 0 0 [some (.ref 404), some (.int 0), none] [] (n, SH1, I, J) := by
  have c24 : (24 : Int32).toInt = 24 := rfl
  have c1 : (1 : Int32).toInt = 1 := rfl
  have c2 : (2 : Int32).toInt = 2 := rfl
  have c3 : (3 : Int32).toInt = 3 := rfl
  have c4 : (4 : Int32).toInt = 4 := rfl
  have hw9 : ¬ (0 = 9) := by decide
  have h21 : (I 404 21).toInt = ln := by rw [hR.2.1 21 (by decide)]; exact hln
  have hI0 : NMp I0 J0 ln I J ∧ (fun _ => True) (I 408) := ⟨hR, trivial⟩
  refine q_ild rfl rfl ?_
  refine q_if (c := 3) rfl (by decide) (fun _ => ?_) (fun h => absurd (show (0 : Int32).toInt < 0 from h) (by decide))
  refine q_ald rfl rfl ?_
  refine q_geti rfl sk_404 ?_
  refine q_ic rfl ?_
  refine q_icmp (c := 1) rfl (by decide) (fun h => ?_) (fun h => ?_)
  rotate_left
  · have h : (I 404 21).toInt = (24 : Int32).toInt := h
    have hg : 24 ≤ ln := by omega
    have eR : (nlF (tbM I0) N m ln lat T) = (4, T.2.1, 0, 0, 0, 0, 0) := by simp only [nlF, hw, hg, hw9, ↓reduceIte]
    refine q_ald rfl rfl ?_
    refine q_ic rfl ?_
    refine mb_step (c := 4) rfl rfl (nmV (J0 := J0) (P := fun _ => True)) hI0 (fun I1 J1 hI1 g7 g8 => ?_)
    rw [eR] at hno
    exact hno (nn rfl) I1 J1 hI1.1 g7 (g8.trans hT.2.1)
  have h : (I 404 21).toInt ≠ (24 : Int32).toInt := h
  have hg : ¬ (24 ≤ ln) := by omega
  have t4 : (4 * I 404 21).toInt = 4 * ln := i_mul (by rw [c4, h21]) (by omega) (by omega)
  have tto : (1 + 4 * I 404 21).toInt = 1 + 4 * ln := by rw [i_add (by omega) (by omega), c1, t4]
  refine q_ic rfl ?_
  refine q_ic rfl ?_
  refine q_ald rfl rfl ?_
  refine q_geti rfl sk_404 ?_
  refine q_mul rfl ?_
  refine q_add rfl ?_
  refine q_ist rfl rfl ?_
  show dw_ok (pr_X12_nightLine K) 92 0 0 [some (.ref 404), some (.int 0), some (.int (1 + 4 * I 404 21))] [] (n, SH1, I, J)
  have hw1 : T.1 = 1 := wk_1 (by rw [hw]; decide)
  have hin := tkF_in (b := tbM I0) (n := N) (m := m) (p := p) hp
  rw [← hTe] at hin
  refine q_ald rfl rfl ?_
  refine mn_step (p := T.2.2.1) rfl (nmV (J0 := J0) (P := fun _ => True)) hI0 hN hN9 hm hin.2.2.1 (hT.2.2.1 (Or.inl hw1)) (fun I1 J1 hI1 hM1 => ?_)
  obtain ⟨T1, hT1⟩ : ∃ t, t = tkF (tbM I0) N m T.2.2.1 := ⟨_, rfl⟩
  have hin1 := tkF_in (b := tbM I0) (n := N) (m := m) (p := T.2.2.1) hin.2.2.1
  rw [← hT1] at hM1 hin1
  have h211 : (I1 404 21).toInt = ln := by rw [hI1.1.2.1 21 (by decide)]; exact hln
  -- the number told first
  have J119 : ∀ I1 J1, NMp I0 J0 ln I1 J1 ∧ (fun _ => True) (I1 408) → MK (tbM I0) T1 I1 J1 → dw_ok (pr_X12_nightLine K) 119 0 0 [some (.ref 404), some (.int 0), some (.int (1 + 4 * I 404 21))] [.int 143, .int lat, .ref 404] (n, SH1, I1, J1) := by
    intro I1 J1 hI1 hM1
    refine mt_step (T := T1) rfl rfl rfl rfl (nmV (P := fun _ => True)) hI1 hN hN9 hm hM1 hin1.2.2.1 ?_ ?_
    rotate_left
    · intro e1 I2 J2 hI2 g7 g8
      have e1 : nbF T1 lat.toInt 143 ≠ 0 := e1
      have eR : (nlF (tbM I0) N m ln lat T) = (nbF T1 lat.toInt 143, T1.2.1, 0, 0, 0, 0, 0) := by simp only [nlF, nbK, hw, hw9, hg, ← hT1, e1, ↓reduceIte]
      rw [eR] at hno
      exact hno e1 I2 J2 hI2.1 g7 g8
    intro e1 I2 J2 hI2 hM2 g19
    have e1 : nbF T1 lat.toInt 143 = 0 := e1
    have r1 := nb_r e1
    have tt1 : (1 + 4 * I 404 21 + 1).toInt = 2 + 4 * ln := by rw [i_add (by omega) (by omega), tto, c1]; omega
    have tt2 : (1 + 4 * I 404 21 + 2).toInt = 3 + 4 * ln := by rw [i_add (by omega) (by omega), tto, c2]; omega
    have tt3 : (1 + 4 * I 404 21 + 3).toInt = 4 + 4 * ln := by rw [i_add (by omega) (by omega), tto, c3]; omega
    have n0 : (1 + 4 * I 404 21).toInt.toNat = 1 + 4 * ln := by omega
    have n1 : (1 + 4 * I 404 21 + 1).toInt.toNat = 2 + 4 * ln := by omega
    have n2 : (1 + 4 * I 404 21 + 2).toInt.toNat = 3 + 4 * ln := by omega
    have n3 : (1 + 4 * I 404 21 + 3).toInt.toNat = 4 + 4 * ln := by omega
    refine q_ald rfl rfl ?_
    refine q_getr rfl sk_404 sr_404_8 ?_
    refine q_ild rfl rfl ?_
    refine q_ild rfl rfl ?_
    refine q_iast rfl sk_408 sn_408 (by omega) (by omega) ?_
    rw [n0]
    refine q_ald rfl rfl ?_
    refine q_getr rfl sk_404 sr_404_8 ?_
    refine q_ild rfl rfl ?_
    refine q_ic rfl ?_
    refine q_add rfl ?_
    refine q_ald rfl rfl ?_
    refine q_geti rfl sk_404 ?_
    refine q_iast rfl sk_408 sn_408 (by omega) (by omega) ?_
    rw [n1]
    refine q_ald rfl rfl ?_
    refine q_getr rfl sk_404 sr_404_8 ?_
    refine q_ild rfl rfl ?_
    refine q_ic rfl ?_
    refine q_add rfl ?_
    refine q_ic rfl ?_
    refine q_iast rfl sk_408 sn_408 (by omega) (by omega) ?_
    rw [n2]
    refine q_ald rfl rfl ?_
    refine q_getr rfl sk_404 sr_404_8 ?_
    refine q_ild rfl rfl ?_
    refine q_ic rfl ?_
    refine q_add rfl ?_
    refine q_ic rfl ?_
    refine q_iast rfl sk_408 sn_408 (by omega) (by omega) ?_
    rw [n3]
    show dw_ok (pr_X12_nightLine K) 164 0 0 [some (.ref 404), some (.int 0), some (.int (1 + 4 * I 404 21))] [] (n, SH1, dw_up (dw_up (dw_up (dw_up I2 408 (1 + 4 * ln) 0) 408 (2 + 4 * ln) (I2 404 19)) 408 (3 + 4 * ln) 0) 408 (4 + 4 * ln) 0, J2)
    rw [g19]
    obtain ⟨I3, hI3⟩ : ∃ X, X = dw_up (dw_up (dw_up (dw_up I2 408 (1 + 4 * ln) 0) 408 (2 + 4 * ln) T1.2.2.2) 408 (3 + 4 * ln) 0) 408 (4 + 4 * ln) 0 := ⟨_, rfl⟩
    have hR3 : NMp I0 J0 ln I3 J2 := by rw [hI3]; exact nm_up (nm_up (nm_up (nm_up hI2.1 (by omega)) (by omega)) (by omega)) (by omega)
    have hD3 : I3 408 (1 + 4 * ln) = 0 ∧ I3 408 (2 + 4 * ln) = T1.2.2.2 ∧ I3 408 (3 + 4 * ln) = 0 ∧ I3 408 (4 + 4 * ln) = 0 := by
      rw [hI3]
      refine ⟨?_, ?_, ?_, up_same⟩
      · rw [up_fld (by omega), up_fld (by omega), up_fld (by omega)]; exact up_same
      · rw [up_fld (by omega), up_fld (by omega)]; exact up_same
      · rw [up_fld (by omega)]; exact up_same
    have hM3 : MK (tbM I0) (tkF (tbM I0) N m T1.2.2.1) I3 J2 := mk_row (by rw [hI3]; exact (up_row (by decide)).trans ((up_row (by decide)).trans ((up_row (by decide)).trans (up_row (by decide))))) hM2
    obtain ⟨T2, hT2⟩ : ∃ t, t = tkF (tbM I0) N m T1.2.2.1 := ⟨_, rfl⟩
    have hin2 := tkF_in (b := tbM I0) (n := N) (m := m) (p := T1.2.2.1) hin1.2.2.1
    rw [← hT2] at hM3 hin2
    rw [← hI3]
    refine q_ild rfl rfl ?_
    refine q_ic rfl ?_
    refine q_icmp (c := 1) rfl (by decide) (fun _ => ?_) (fun h => absurd (show (0 : Int32).toInt = (3 : Int32).toInt from h) (by decide))
    refine q_ald rfl rfl ?_
    refine q_ic rfl ?_
    refine q_ild rfl rfl ?_
    refine q_if (c := 1) rfl (by decide) (fun h => absurd rfl h) (fun _ => ?_)
    refine q_ic rfl ?_
    refine q_goto rfl ?_
    refine mt_step (T := T2) (lo := 0) (hi := 100) rfl rfl rfl rfl (nmV (P := fun f => f (1 + 4 * ln) = 0 ∧ f (2 + 4 * ln) = T1.2.2.2 ∧ f (3 + 4 * ln) = 0 ∧ f (4 + 4 * ln) = 0)) ⟨hR3, hD3⟩ hN hN9 hm hM3 hin2.2.2.1 ?_ ?_
    rotate_left
    · intro e2 I4 J4 hI4 g7 g8
      have e2 : nbF T2 0 100 ≠ 0 := e2
      have eR : (nlF (tbM I0) N m ln lat T) = (nbF T2 0 100, T2.2.1, 0, 0, 0, 0, 0) := by simp only [nlF, nbK, hw, hw9, hg, ← hT1, e1, ← hT2, e2, moF, ↓reduceIte, show ¬ (0 = 3) by decide, show ¬ (0 = 2) by decide]
      rw [eR] at hno
      exact hno e2 I4 J4 hI4.1 g7 g8
    intro e2 I4 J4 hI4 hM4 g419
    have e2 : nbF T2 0 100 = 0 := e2
    obtain ⟨hR4, hD4⟩ := hI4
    refine q_ald rfl rfl ?_
    refine q_getr rfl sk_404 sr_404_8 ?_
    refine q_ild rfl rfl ?_
    refine q_ic rfl ?_
    refine q_add rfl ?_
    refine q_ald rfl rfl ?_
    refine q_geti rfl sk_404 ?_
    refine q_iast rfl sk_408 sn_408 (by omega) (by omega) ?_
    rw [n2]
    show dw_ok (pr_X12_nightLine K) 214 0 0 [some (.ref 404), some (.int 0), some (.int (1 + 4 * I 404 21))] [] (n, SH1, dw_up I4 408 (3 + 4 * ln) (I4 404 19), J4)
    rw [g419]
    obtain ⟨I5, hI5⟩ : ∃ X, X = dw_up I4 408 (3 + 4 * ln) T2.2.2.2 := ⟨_, rfl⟩
    have hR5 : NMp I0 J0 ln I5 J4 := by rw [hI5]; exact nm_up hR4 (by omega)
    have hD5 : I5 408 (1 + 4 * ln) = 0 ∧ I5 408 (2 + 4 * ln) = T1.2.2.2 ∧ I5 408 (3 + 4 * ln) = T2.2.2.2 ∧ I5 408 (4 + 4 * ln) = 0 := by
      rw [hI5]
      refine ⟨?_, ?_, up_same, ?_⟩
      · rw [up_fld (by omega)]; exact hD4.1
      · rw [up_fld (by omega)]; exact hD4.2.1
      · rw [up_fld (by omega)]; exact hD4.2.2.2
    have hM5 : MK (tbM I0) (tkF (tbM I0) N m T2.2.2.1) I5 J4 := mk_row (by rw [hI5]; exact up_row (by decide)) hM4
    obtain ⟨T3, hT3⟩ : ∃ t, t = tkF (tbM I0) N m T2.2.2.1 := ⟨_, rfl⟩
    have hin3 := tkF_in (b := tbM I0) (n := N) (m := m) (p := T2.2.2.1) hin2.2.2.1
    rw [← hT3] at hM5 hin3
    rw [← hI5]
    refine q_ild rfl rfl ?_
    refine q_ic rfl ?_
    refine q_icmp (c := 0) rfl (by decide) (fun h => absurd (show (0 : Int32).toInt = (2 : Int32).toInt from h) (by decide)) (fun _ => ?_)
    refine q_ic rfl ?_
    have eR : (nlF (tbM I0) N m ln lat T) = stK T3 (fun p => (0, 0, p, 0, T1.2.2.2, T2.2.2.2, 0)) := by simp only [nlF, nbK, hw, hw9, hg, ← hT1, e1, ← hT2, e2, ← hT3, moF, ↓reduceIte, show ¬ (0 = 3) by decide, show ¬ (0 = 2) by decide]
    exact q_zret rfl (Or.inr rfl) (hok T3 _ _ I5 J4 eR hT3 hin2.2.2.1 (show 0 ≤ T1.2.2.2.toInt by omega) hM5 hR5 hD5)
  refine q_ald rfl rfl ?_
  refine q_ald rfl rfl ?_
  refine q_geti rfl sk_404 ?_
  refine q_if (c := 1) rfl (by decide) (fun h => ?_) (fun h => ?_)
  · have h : (I1 404 21).toInt ≠ 0 := h
    have tm3 : (1 + 4 * I 404 21 - 3).toInt = 4 * ln - 2 := by rw [i_sub (by omega) (by omega), tto, c3]; omega
    refine q_ald rfl rfl ?_
    refine q_getr rfl sk_404 sr_404_8 ?_
    refine q_ild rfl rfl ?_
    refine q_ic rfl ?_
    refine q_sub rfl ?_
    refine q_xald rfl (Or.inl rfl) sk_408 sn_408 (by omega) (by omega) ?_
    refine q_ic rfl ?_
    show dw_ok (pr_X12_nightLine K) 119 0 0 [some (.ref 404), some (.int 0), some (.int (1 + 4 * I 404 21))] [.int 143, .int (I1 408 (1 + 4 * I 404 21 - 3).toInt.toNat), .ref 404] (n, SH1, I1, J1)
    rw [show (1 + 4 * I 404 21 - 3).toInt.toNat = 4 * ln - 2 by omega, hI1.1.2.2.1 (4 * ln - 2) (by omega), hlat.2 (by omega)]
    exact J119 I1 J1 hI1 hM1
  · have h : (I1 404 21).toInt = 0 := h
    refine q_ic rfl ?_
    refine q_goto rfl ?_
    refine q_ic rfl ?_
    have e := J119 I1 J1 hI1 hM1
    rw [hlat.1 (by omega)] at e
    exact e
set_option maxRecDepth 8000 in
set_option maxHeartbeats 4000000 in
theorem v_mline1 {n : Nat} {I : Nat → Nat → Int32} {J : Nat → Nat → Int64} {K : dw_K} {I0 : Nat → Nat → Int32} {J0 : Nat → Nat → Int64} {lat : Int32} {T : fT} {N m ln p : Nat} (hR : NMp I0 J0 ln I J) (hN : (I0 404 3).toInt = N) (hN9 : N ≤ 940) (hm : (I0 404 5).toInt = m) (hT : MK (tbM I0) T I J) (hTe : T = tkF (tbM I0) N m p) (hp : p ≤ N) (hln : (I0 404 21).toInt = ln) (hl24 : ln ≤ 24) (hlat : (ln = 0 → lat = 0) ∧ (ln ≠ 0 → I0 408 (4 * ln - 2) = lat)) (hl0 : 0 ≤ lat.toInt) (hw : wkF (tbM I0) T = 1)
    (hok : ∀ (T' : fT) (p' : Nat) (l : fL) (I' : Nat → Nat → Int32) (J' : Nat → Nat → Int64), (nlF (tbM I0) N m ln lat T) = stK T' (fun p => (0, 0, p, l)) → T' = tkF (tbM I0) N m p' → p' ≤ N → 0 ≤ l.2.1.toInt → MK (tbM I0) T' I' J' → NMp I0 J0 ln I' J' → I' 408 (1 + 4 * ln) = Int32.ofNat l.1 ∧ I' 408 (2 + 4 * ln) = l.2.1 ∧ I' 408 (3 + 4 * ln) = l.2.2.1 ∧ I' 408 (4 + 4 * ln) = l.2.2.2 → K (some (.int 1)) (n, SH1, I', J'))
    (hno : (nlF (tbM I0) N m ln lat T).1 ≠ 0 → ∀ (I' : Nat → Nat → Int32) (J' : Nat → Nat → Int64), NMp I0 J0 ln I' J' → (I' 404 15).toInt = (nlF (tbM I0) N m ln lat T).1 → (I' 404 16).toInt = (nlF (tbM I0) N m ln lat T).2.1 → K (some (.int 0)) (n, SH1, I', J')) : dw_ok (pr_X12_nightLine K) 58 0 0 [some (.ref 404), some (.int 1), none] [] (n, SH1, I, J) := by
  have c24 : (24 : Int32).toInt = 24 := rfl
  have c1 : (1 : Int32).toInt = 1 := rfl
  have c2 : (2 : Int32).toInt = 2 := rfl
  have c3 : (3 : Int32).toInt = 3 := rfl
  have c4 : (4 : Int32).toInt = 4 := rfl
  have hw9 : ¬ (1 = 9) := by decide
  have h21 : (I 404 21).toInt = ln := by rw [hR.2.1 21 (by decide)]; exact hln
  have hI0 : NMp I0 J0 ln I J ∧ (fun _ => True) (I 408) := ⟨hR, trivial⟩
  refine q_ild rfl rfl ?_
  refine q_if (c := 3) rfl (by decide) (fun _ => ?_) (fun h => absurd (show (1 : Int32).toInt < 0 from h) (by decide))
  refine q_ald rfl rfl ?_
  refine q_geti rfl sk_404 ?_
  refine q_ic rfl ?_
  refine q_icmp (c := 1) rfl (by decide) (fun h => ?_) (fun h => ?_)
  rotate_left
  · have h : (I 404 21).toInt = (24 : Int32).toInt := h
    have hg : 24 ≤ ln := by omega
    have eR : (nlF (tbM I0) N m ln lat T) = (4, T.2.1, 0, 0, 0, 0, 0) := by simp only [nlF, hw, hg, hw9, ↓reduceIte]
    refine q_ald rfl rfl ?_
    refine q_ic rfl ?_
    refine mb_step (c := 4) rfl rfl (nmV (J0 := J0) (P := fun _ => True)) hI0 (fun I1 J1 hI1 g7 g8 => ?_)
    rw [eR] at hno
    exact hno (nn rfl) I1 J1 hI1.1 g7 (g8.trans hT.2.1)
  have h : (I 404 21).toInt ≠ (24 : Int32).toInt := h
  have hg : ¬ (24 ≤ ln) := by omega
  have t4 : (4 * I 404 21).toInt = 4 * ln := i_mul (by rw [c4, h21]) (by omega) (by omega)
  have tto : (1 + 4 * I 404 21).toInt = 1 + 4 * ln := by rw [i_add (by omega) (by omega), c1, t4]
  refine q_ic rfl ?_
  refine q_ic rfl ?_
  refine q_ald rfl rfl ?_
  refine q_geti rfl sk_404 ?_
  refine q_mul rfl ?_
  refine q_add rfl ?_
  refine q_ist rfl rfl ?_
  show dw_ok (pr_X12_nightLine K) 92 0 0 [some (.ref 404), some (.int 1), some (.int (1 + 4 * I 404 21))] [] (n, SH1, I, J)
  have hw1 : T.1 = 1 := wk_1 (by rw [hw]; decide)
  have hin := tkF_in (b := tbM I0) (n := N) (m := m) (p := p) hp
  rw [← hTe] at hin
  refine q_ald rfl rfl ?_
  refine mn_step (p := T.2.2.1) rfl (nmV (J0 := J0) (P := fun _ => True)) hI0 hN hN9 hm hin.2.2.1 (hT.2.2.1 (Or.inl hw1)) (fun I1 J1 hI1 hM1 => ?_)
  obtain ⟨T1, hT1⟩ : ∃ t, t = tkF (tbM I0) N m T.2.2.1 := ⟨_, rfl⟩
  have hin1 := tkF_in (b := tbM I0) (n := N) (m := m) (p := T.2.2.1) hin.2.2.1
  rw [← hT1] at hM1 hin1
  have h211 : (I1 404 21).toInt = ln := by rw [hI1.1.2.1 21 (by decide)]; exact hln
  -- the number told first
  have J119 : ∀ I1 J1, NMp I0 J0 ln I1 J1 ∧ (fun _ => True) (I1 408) → MK (tbM I0) T1 I1 J1 → dw_ok (pr_X12_nightLine K) 119 0 0 [some (.ref 404), some (.int 1), some (.int (1 + 4 * I 404 21))] [.int 143, .int lat, .ref 404] (n, SH1, I1, J1) := by
    intro I1 J1 hI1 hM1
    refine mt_step (T := T1) rfl rfl rfl rfl (nmV (P := fun _ => True)) hI1 hN hN9 hm hM1 hin1.2.2.1 ?_ ?_
    rotate_left
    · intro e1 I2 J2 hI2 g7 g8
      have e1 : nbF T1 lat.toInt 143 ≠ 0 := e1
      have eR : (nlF (tbM I0) N m ln lat T) = (nbF T1 lat.toInt 143, T1.2.1, 0, 0, 0, 0, 0) := by simp only [nlF, nbK, hw, hw9, hg, ← hT1, e1, ↓reduceIte]
      rw [eR] at hno
      exact hno e1 I2 J2 hI2.1 g7 g8
    intro e1 I2 J2 hI2 hM2 g19
    have e1 : nbF T1 lat.toInt 143 = 0 := e1
    have r1 := nb_r e1
    have tt1 : (1 + 4 * I 404 21 + 1).toInt = 2 + 4 * ln := by rw [i_add (by omega) (by omega), tto, c1]; omega
    have tt2 : (1 + 4 * I 404 21 + 2).toInt = 3 + 4 * ln := by rw [i_add (by omega) (by omega), tto, c2]; omega
    have tt3 : (1 + 4 * I 404 21 + 3).toInt = 4 + 4 * ln := by rw [i_add (by omega) (by omega), tto, c3]; omega
    have n0 : (1 + 4 * I 404 21).toInt.toNat = 1 + 4 * ln := by omega
    have n1 : (1 + 4 * I 404 21 + 1).toInt.toNat = 2 + 4 * ln := by omega
    have n2 : (1 + 4 * I 404 21 + 2).toInt.toNat = 3 + 4 * ln := by omega
    have n3 : (1 + 4 * I 404 21 + 3).toInt.toNat = 4 + 4 * ln := by omega
    refine q_ald rfl rfl ?_
    refine q_getr rfl sk_404 sr_404_8 ?_
    refine q_ild rfl rfl ?_
    refine q_ild rfl rfl ?_
    refine q_iast rfl sk_408 sn_408 (by omega) (by omega) ?_
    rw [n0]
    refine q_ald rfl rfl ?_
    refine q_getr rfl sk_404 sr_404_8 ?_
    refine q_ild rfl rfl ?_
    refine q_ic rfl ?_
    refine q_add rfl ?_
    refine q_ald rfl rfl ?_
    refine q_geti rfl sk_404 ?_
    refine q_iast rfl sk_408 sn_408 (by omega) (by omega) ?_
    rw [n1]
    refine q_ald rfl rfl ?_
    refine q_getr rfl sk_404 sr_404_8 ?_
    refine q_ild rfl rfl ?_
    refine q_ic rfl ?_
    refine q_add rfl ?_
    refine q_ic rfl ?_
    refine q_iast rfl sk_408 sn_408 (by omega) (by omega) ?_
    rw [n2]
    refine q_ald rfl rfl ?_
    refine q_getr rfl sk_404 sr_404_8 ?_
    refine q_ild rfl rfl ?_
    refine q_ic rfl ?_
    refine q_add rfl ?_
    refine q_ic rfl ?_
    refine q_iast rfl sk_408 sn_408 (by omega) (by omega) ?_
    rw [n3]
    show dw_ok (pr_X12_nightLine K) 164 0 0 [some (.ref 404), some (.int 1), some (.int (1 + 4 * I 404 21))] [] (n, SH1, dw_up (dw_up (dw_up (dw_up I2 408 (1 + 4 * ln) 1) 408 (2 + 4 * ln) (I2 404 19)) 408 (3 + 4 * ln) 0) 408 (4 + 4 * ln) 0, J2)
    rw [g19]
    obtain ⟨I3, hI3⟩ : ∃ X, X = dw_up (dw_up (dw_up (dw_up I2 408 (1 + 4 * ln) 1) 408 (2 + 4 * ln) T1.2.2.2) 408 (3 + 4 * ln) 0) 408 (4 + 4 * ln) 0 := ⟨_, rfl⟩
    have hR3 : NMp I0 J0 ln I3 J2 := by rw [hI3]; exact nm_up (nm_up (nm_up (nm_up hI2.1 (by omega)) (by omega)) (by omega)) (by omega)
    have hD3 : I3 408 (1 + 4 * ln) = 1 ∧ I3 408 (2 + 4 * ln) = T1.2.2.2 ∧ I3 408 (3 + 4 * ln) = 0 ∧ I3 408 (4 + 4 * ln) = 0 := by
      rw [hI3]
      refine ⟨?_, ?_, ?_, up_same⟩
      · rw [up_fld (by omega), up_fld (by omega), up_fld (by omega)]; exact up_same
      · rw [up_fld (by omega), up_fld (by omega)]; exact up_same
      · rw [up_fld (by omega)]; exact up_same
    have hM3 : MK (tbM I0) (tkF (tbM I0) N m T1.2.2.1) I3 J2 := mk_row (by rw [hI3]; exact (up_row (by decide)).trans ((up_row (by decide)).trans ((up_row (by decide)).trans (up_row (by decide))))) hM2
    obtain ⟨T2, hT2⟩ : ∃ t, t = tkF (tbM I0) N m T1.2.2.1 := ⟨_, rfl⟩
    have hin2 := tkF_in (b := tbM I0) (n := N) (m := m) (p := T1.2.2.1) hin1.2.2.1
    rw [← hT2] at hM3 hin2
    rw [← hI3]
    refine q_ild rfl rfl ?_
    refine q_ic rfl ?_
    refine q_icmp (c := 1) rfl (by decide) (fun _ => ?_) (fun h => absurd (show (1 : Int32).toInt = (3 : Int32).toInt from h) (by decide))
    refine q_ald rfl rfl ?_
    refine q_ic rfl ?_
    refine q_ild rfl rfl ?_
    refine q_if (c := 1) rfl (by decide) (fun _ => ?_) (fun h => absurd (show (1 : Int32).toInt = 0 from h) (by decide))
    refine q_ild rfl rfl ?_
    refine q_ic rfl ?_
    refine q_icmp (c := 1) rfl (by decide) (fun h => absurd rfl h) (fun _ => ?_)
    refine q_ic rfl ?_
    refine q_goto rfl ?_
    refine mt_step (T := T2) (lo := 0) (hi := 9) rfl rfl rfl rfl (nmV (P := fun f => f (1 + 4 * ln) = 1 ∧ f (2 + 4 * ln) = T1.2.2.2 ∧ f (3 + 4 * ln) = 0 ∧ f (4 + 4 * ln) = 0)) ⟨hR3, hD3⟩ hN hN9 hm hM3 hin2.2.2.1 ?_ ?_
    rotate_left
    · intro e2 I4 J4 hI4 g7 g8
      have e2 : nbF T2 0 9 ≠ 0 := e2
      have eR : (nlF (tbM I0) N m ln lat T) = (nbF T2 0 9, T2.2.1, 0, 0, 0, 0, 0) := by simp only [nlF, nbK, hw, hw9, hg, ← hT1, e1, ← hT2, e2, moF, ↓reduceIte, show ¬ (1 = 3) by decide, show ¬ (1 = 2) by decide, show ¬ (1 = 0) by decide]
      rw [eR] at hno
      exact hno e2 I4 J4 hI4.1 g7 g8
    intro e2 I4 J4 hI4 hM4 g419
    have e2 : nbF T2 0 9 = 0 := e2
    obtain ⟨hR4, hD4⟩ := hI4
    refine q_ald rfl rfl ?_
    refine q_getr rfl sk_404 sr_404_8 ?_
    refine q_ild rfl rfl ?_
    refine q_ic rfl ?_
    refine q_add rfl ?_
    refine q_ald rfl rfl ?_
    refine q_geti rfl sk_404 ?_
    refine q_iast rfl sk_408 sn_408 (by omega) (by omega) ?_
    rw [n2]
    show dw_ok (pr_X12_nightLine K) 214 0 0 [some (.ref 404), some (.int 1), some (.int (1 + 4 * I 404 21))] [] (n, SH1, dw_up I4 408 (3 + 4 * ln) (I4 404 19), J4)
    rw [g419]
    obtain ⟨I5, hI5⟩ : ∃ X, X = dw_up I4 408 (3 + 4 * ln) T2.2.2.2 := ⟨_, rfl⟩
    have hR5 : NMp I0 J0 ln I5 J4 := by rw [hI5]; exact nm_up hR4 (by omega)
    have hD5 : I5 408 (1 + 4 * ln) = 1 ∧ I5 408 (2 + 4 * ln) = T1.2.2.2 ∧ I5 408 (3 + 4 * ln) = T2.2.2.2 ∧ I5 408 (4 + 4 * ln) = 0 := by
      rw [hI5]
      refine ⟨?_, ?_, up_same, ?_⟩
      · rw [up_fld (by omega)]; exact hD4.1
      · rw [up_fld (by omega)]; exact hD4.2.1
      · rw [up_fld (by omega)]; exact hD4.2.2.2
    have hM5 : MK (tbM I0) (tkF (tbM I0) N m T2.2.2.1) I5 J4 := mk_row (by rw [hI5]; exact up_row (by decide)) hM4
    obtain ⟨T3, hT3⟩ : ∃ t, t = tkF (tbM I0) N m T2.2.2.1 := ⟨_, rfl⟩
    have hin3 := tkF_in (b := tbM I0) (n := N) (m := m) (p := T2.2.2.1) hin2.2.2.1
    rw [← hT3] at hM5 hin3
    rw [← hI5]
    refine q_ild rfl rfl ?_
    refine q_ic rfl ?_
    refine q_icmp (c := 0) rfl (by decide) (fun h => absurd (show (1 : Int32).toInt = (2 : Int32).toInt from h) (by decide)) (fun _ => ?_)
    refine q_ic rfl ?_
    have eR : (nlF (tbM I0) N m ln lat T) = stK T3 (fun p => (0, 0, p, 1, T1.2.2.2, T2.2.2.2, 0)) := by simp only [nlF, nbK, hw, hw9, hg, ← hT1, e1, ← hT2, e2, ← hT3, moF, ↓reduceIte, show ¬ (1 = 3) by decide, show ¬ (1 = 2) by decide, show ¬ (1 = 0) by decide]
    exact q_zret rfl (Or.inr rfl) (hok T3 _ _ I5 J4 eR hT3 hin2.2.2.1 (show 0 ≤ T1.2.2.2.toInt by omega) hM5 hR5 hD5)
  refine q_ald rfl rfl ?_
  refine q_ald rfl rfl ?_
  refine q_geti rfl sk_404 ?_
  refine q_if (c := 1) rfl (by decide) (fun h => ?_) (fun h => ?_)
  · have h : (I1 404 21).toInt ≠ 0 := h
    have tm3 : (1 + 4 * I 404 21 - 3).toInt = 4 * ln - 2 := by rw [i_sub (by omega) (by omega), tto, c3]; omega
    refine q_ald rfl rfl ?_
    refine q_getr rfl sk_404 sr_404_8 ?_
    refine q_ild rfl rfl ?_
    refine q_ic rfl ?_
    refine q_sub rfl ?_
    refine q_xald rfl (Or.inl rfl) sk_408 sn_408 (by omega) (by omega) ?_
    refine q_ic rfl ?_
    show dw_ok (pr_X12_nightLine K) 119 0 0 [some (.ref 404), some (.int 1), some (.int (1 + 4 * I 404 21))] [.int 143, .int (I1 408 (1 + 4 * I 404 21 - 3).toInt.toNat), .ref 404] (n, SH1, I1, J1)
    rw [show (1 + 4 * I 404 21 - 3).toInt.toNat = 4 * ln - 2 by omega, hI1.1.2.2.1 (4 * ln - 2) (by omega), hlat.2 (by omega)]
    exact J119 I1 J1 hI1 hM1
  · have h : (I1 404 21).toInt = 0 := h
    refine q_ic rfl ?_
    refine q_goto rfl ?_
    refine q_ic rfl ?_
    have e := J119 I1 J1 hI1 hM1
    rw [hlat.1 (by omega)] at e
    exact e
set_option maxRecDepth 8000 in
set_option maxHeartbeats 4000000 in
theorem v_mline2 {n : Nat} {I : Nat → Nat → Int32} {J : Nat → Nat → Int64} {K : dw_K} {I0 : Nat → Nat → Int32} {J0 : Nat → Nat → Int64} {lat : Int32} {T : fT} {N m ln p : Nat} (hR : NMp I0 J0 ln I J) (hN : (I0 404 3).toInt = N) (hN9 : N ≤ 940) (hm : (I0 404 5).toInt = m) (hT : MK (tbM I0) T I J) (hTe : T = tkF (tbM I0) N m p) (hp : p ≤ N) (hln : (I0 404 21).toInt = ln) (hl24 : ln ≤ 24) (hlat : (ln = 0 → lat = 0) ∧ (ln ≠ 0 → I0 408 (4 * ln - 2) = lat)) (hl0 : 0 ≤ lat.toInt) (hw : wkF (tbM I0) T = 2)
    (hok : ∀ (T' : fT) (p' : Nat) (l : fL) (I' : Nat → Nat → Int32) (J' : Nat → Nat → Int64), (nlF (tbM I0) N m ln lat T) = stK T' (fun p => (0, 0, p, l)) → T' = tkF (tbM I0) N m p' → p' ≤ N → 0 ≤ l.2.1.toInt → MK (tbM I0) T' I' J' → NMp I0 J0 ln I' J' → I' 408 (1 + 4 * ln) = Int32.ofNat l.1 ∧ I' 408 (2 + 4 * ln) = l.2.1 ∧ I' 408 (3 + 4 * ln) = l.2.2.1 ∧ I' 408 (4 + 4 * ln) = l.2.2.2 → K (some (.int 1)) (n, SH1, I', J'))
    (hno : (nlF (tbM I0) N m ln lat T).1 ≠ 0 → ∀ (I' : Nat → Nat → Int32) (J' : Nat → Nat → Int64), NMp I0 J0 ln I' J' → (I' 404 15).toInt = (nlF (tbM I0) N m ln lat T).1 → (I' 404 16).toInt = (nlF (tbM I0) N m ln lat T).2.1 → K (some (.int 0)) (n, SH1, I', J')) : dw_ok (pr_X12_nightLine K) 58 0 0 [some (.ref 404), some (.int 2), none] [] (n, SH1, I, J) := by
  have c24 : (24 : Int32).toInt = 24 := rfl
  have c1 : (1 : Int32).toInt = 1 := rfl
  have c2 : (2 : Int32).toInt = 2 := rfl
  have c3 : (3 : Int32).toInt = 3 := rfl
  have c4 : (4 : Int32).toInt = 4 := rfl
  have hw9 : ¬ (2 = 9) := by decide
  have h21 : (I 404 21).toInt = ln := by rw [hR.2.1 21 (by decide)]; exact hln
  have hI0 : NMp I0 J0 ln I J ∧ (fun _ => True) (I 408) := ⟨hR, trivial⟩
  refine q_ild rfl rfl ?_
  refine q_if (c := 3) rfl (by decide) (fun _ => ?_) (fun h => absurd (show (2 : Int32).toInt < 0 from h) (by decide))
  refine q_ald rfl rfl ?_
  refine q_geti rfl sk_404 ?_
  refine q_ic rfl ?_
  refine q_icmp (c := 1) rfl (by decide) (fun h => ?_) (fun h => ?_)
  rotate_left
  · have h : (I 404 21).toInt = (24 : Int32).toInt := h
    have hg : 24 ≤ ln := by omega
    have eR : (nlF (tbM I0) N m ln lat T) = (4, T.2.1, 0, 0, 0, 0, 0) := by simp only [nlF, hw, hg, hw9, ↓reduceIte]
    refine q_ald rfl rfl ?_
    refine q_ic rfl ?_
    refine mb_step (c := 4) rfl rfl (nmV (J0 := J0) (P := fun _ => True)) hI0 (fun I1 J1 hI1 g7 g8 => ?_)
    rw [eR] at hno
    exact hno (nn rfl) I1 J1 hI1.1 g7 (g8.trans hT.2.1)
  have h : (I 404 21).toInt ≠ (24 : Int32).toInt := h
  have hg : ¬ (24 ≤ ln) := by omega
  have t4 : (4 * I 404 21).toInt = 4 * ln := i_mul (by rw [c4, h21]) (by omega) (by omega)
  have tto : (1 + 4 * I 404 21).toInt = 1 + 4 * ln := by rw [i_add (by omega) (by omega), c1, t4]
  refine q_ic rfl ?_
  refine q_ic rfl ?_
  refine q_ald rfl rfl ?_
  refine q_geti rfl sk_404 ?_
  refine q_mul rfl ?_
  refine q_add rfl ?_
  refine q_ist rfl rfl ?_
  show dw_ok (pr_X12_nightLine K) 92 0 0 [some (.ref 404), some (.int 2), some (.int (1 + 4 * I 404 21))] [] (n, SH1, I, J)
  have hw1 : T.1 = 1 := wk_1 (by rw [hw]; decide)
  have hin := tkF_in (b := tbM I0) (n := N) (m := m) (p := p) hp
  rw [← hTe] at hin
  refine q_ald rfl rfl ?_
  refine mn_step (p := T.2.2.1) rfl (nmV (J0 := J0) (P := fun _ => True)) hI0 hN hN9 hm hin.2.2.1 (hT.2.2.1 (Or.inl hw1)) (fun I1 J1 hI1 hM1 => ?_)
  obtain ⟨T1, hT1⟩ : ∃ t, t = tkF (tbM I0) N m T.2.2.1 := ⟨_, rfl⟩
  have hin1 := tkF_in (b := tbM I0) (n := N) (m := m) (p := T.2.2.1) hin.2.2.1
  rw [← hT1] at hM1 hin1
  have h211 : (I1 404 21).toInt = ln := by rw [hI1.1.2.1 21 (by decide)]; exact hln
  -- the number told first
  have J119 : ∀ I1 J1, NMp I0 J0 ln I1 J1 ∧ (fun _ => True) (I1 408) → MK (tbM I0) T1 I1 J1 → dw_ok (pr_X12_nightLine K) 119 0 0 [some (.ref 404), some (.int 2), some (.int (1 + 4 * I 404 21))] [.int 143, .int lat, .ref 404] (n, SH1, I1, J1) := by
    intro I1 J1 hI1 hM1
    refine mt_step (T := T1) rfl rfl rfl rfl (nmV (P := fun _ => True)) hI1 hN hN9 hm hM1 hin1.2.2.1 ?_ ?_
    rotate_left
    · intro e1 I2 J2 hI2 g7 g8
      have e1 : nbF T1 lat.toInt 143 ≠ 0 := e1
      have eR : (nlF (tbM I0) N m ln lat T) = (nbF T1 lat.toInt 143, T1.2.1, 0, 0, 0, 0, 0) := by simp only [nlF, nbK, hw, hw9, hg, ← hT1, e1, ↓reduceIte]
      rw [eR] at hno
      exact hno e1 I2 J2 hI2.1 g7 g8
    intro e1 I2 J2 hI2 hM2 g19
    have e1 : nbF T1 lat.toInt 143 = 0 := e1
    have r1 := nb_r e1
    have tt1 : (1 + 4 * I 404 21 + 1).toInt = 2 + 4 * ln := by rw [i_add (by omega) (by omega), tto, c1]; omega
    have tt2 : (1 + 4 * I 404 21 + 2).toInt = 3 + 4 * ln := by rw [i_add (by omega) (by omega), tto, c2]; omega
    have tt3 : (1 + 4 * I 404 21 + 3).toInt = 4 + 4 * ln := by rw [i_add (by omega) (by omega), tto, c3]; omega
    have n0 : (1 + 4 * I 404 21).toInt.toNat = 1 + 4 * ln := by omega
    have n1 : (1 + 4 * I 404 21 + 1).toInt.toNat = 2 + 4 * ln := by omega
    have n2 : (1 + 4 * I 404 21 + 2).toInt.toNat = 3 + 4 * ln := by omega
    have n3 : (1 + 4 * I 404 21 + 3).toInt.toNat = 4 + 4 * ln := by omega
    refine q_ald rfl rfl ?_
    refine q_getr rfl sk_404 sr_404_8 ?_
    refine q_ild rfl rfl ?_
    refine q_ild rfl rfl ?_
    refine q_iast rfl sk_408 sn_408 (by omega) (by omega) ?_
    rw [n0]
    refine q_ald rfl rfl ?_
    refine q_getr rfl sk_404 sr_404_8 ?_
    refine q_ild rfl rfl ?_
    refine q_ic rfl ?_
    refine q_add rfl ?_
    refine q_ald rfl rfl ?_
    refine q_geti rfl sk_404 ?_
    refine q_iast rfl sk_408 sn_408 (by omega) (by omega) ?_
    rw [n1]
    refine q_ald rfl rfl ?_
    refine q_getr rfl sk_404 sr_404_8 ?_
    refine q_ild rfl rfl ?_
    refine q_ic rfl ?_
    refine q_add rfl ?_
    refine q_ic rfl ?_
    refine q_iast rfl sk_408 sn_408 (by omega) (by omega) ?_
    rw [n2]
    refine q_ald rfl rfl ?_
    refine q_getr rfl sk_404 sr_404_8 ?_
    refine q_ild rfl rfl ?_
    refine q_ic rfl ?_
    refine q_add rfl ?_
    refine q_ic rfl ?_
    refine q_iast rfl sk_408 sn_408 (by omega) (by omega) ?_
    rw [n3]
    show dw_ok (pr_X12_nightLine K) 164 0 0 [some (.ref 404), some (.int 2), some (.int (1 + 4 * I 404 21))] [] (n, SH1, dw_up (dw_up (dw_up (dw_up I2 408 (1 + 4 * ln) 2) 408 (2 + 4 * ln) (I2 404 19)) 408 (3 + 4 * ln) 0) 408 (4 + 4 * ln) 0, J2)
    rw [g19]
    obtain ⟨I3, hI3⟩ : ∃ X, X = dw_up (dw_up (dw_up (dw_up I2 408 (1 + 4 * ln) 2) 408 (2 + 4 * ln) T1.2.2.2) 408 (3 + 4 * ln) 0) 408 (4 + 4 * ln) 0 := ⟨_, rfl⟩
    have hR3 : NMp I0 J0 ln I3 J2 := by rw [hI3]; exact nm_up (nm_up (nm_up (nm_up hI2.1 (by omega)) (by omega)) (by omega)) (by omega)
    have hD3 : I3 408 (1 + 4 * ln) = 2 ∧ I3 408 (2 + 4 * ln) = T1.2.2.2 ∧ I3 408 (3 + 4 * ln) = 0 ∧ I3 408 (4 + 4 * ln) = 0 := by
      rw [hI3]
      refine ⟨?_, ?_, ?_, up_same⟩
      · rw [up_fld (by omega), up_fld (by omega), up_fld (by omega)]; exact up_same
      · rw [up_fld (by omega), up_fld (by omega)]; exact up_same
      · rw [up_fld (by omega)]; exact up_same
    have hM3 : MK (tbM I0) (tkF (tbM I0) N m T1.2.2.1) I3 J2 := mk_row (by rw [hI3]; exact (up_row (by decide)).trans ((up_row (by decide)).trans ((up_row (by decide)).trans (up_row (by decide))))) hM2
    obtain ⟨T2, hT2⟩ : ∃ t, t = tkF (tbM I0) N m T1.2.2.1 := ⟨_, rfl⟩
    have hin2 := tkF_in (b := tbM I0) (n := N) (m := m) (p := T1.2.2.1) hin1.2.2.1
    rw [← hT2] at hM3 hin2
    rw [← hI3]
    refine q_ild rfl rfl ?_
    refine q_ic rfl ?_
    refine q_icmp (c := 1) rfl (by decide) (fun _ => ?_) (fun h => absurd (show (2 : Int32).toInt = (3 : Int32).toInt from h) (by decide))
    refine q_ald rfl rfl ?_
    refine q_ic rfl ?_
    refine q_ild rfl rfl ?_
    refine q_if (c := 1) rfl (by decide) (fun _ => ?_) (fun h => absurd (show (2 : Int32).toInt = 0 from h) (by decide))
    refine q_ild rfl rfl ?_
    refine q_ic rfl ?_
    refine q_icmp (c := 1) rfl (by decide) (fun _ => ?_) (fun h => absurd (show (2 : Int32).toInt = (1 : Int32).toInt from h) (by decide))
    refine q_ic rfl ?_
    refine mt_step (T := T2) (lo := 0) (hi := 40) rfl rfl rfl rfl (nmV (P := fun f => f (1 + 4 * ln) = 2 ∧ f (2 + 4 * ln) = T1.2.2.2 ∧ f (3 + 4 * ln) = 0 ∧ f (4 + 4 * ln) = 0)) ⟨hR3, hD3⟩ hN hN9 hm hM3 hin2.2.2.1 ?_ ?_
    rotate_left
    · intro e2 I4 J4 hI4 g7 g8
      have e2 : nbF T2 0 40 ≠ 0 := e2
      have eR : (nlF (tbM I0) N m ln lat T) = (nbF T2 0 40, T2.2.1, 0, 0, 0, 0, 0) := by simp only [nlF, nbK, hw, hw9, hg, ← hT1, e1, ← hT2, e2, moF, ↓reduceIte, show ¬ (2 = 3) by decide, show ¬ (2 = 0) by decide, show ¬ (2 = 1) by decide]
      rw [eR] at hno
      exact hno e2 I4 J4 hI4.1 g7 g8
    intro e2 I4 J4 hI4 hM4 g419
    have e2 : nbF T2 0 40 = 0 := e2
    obtain ⟨hR4, hD4⟩ := hI4
    refine q_ald rfl rfl ?_
    refine q_getr rfl sk_404 sr_404_8 ?_
    refine q_ild rfl rfl ?_
    refine q_ic rfl ?_
    refine q_add rfl ?_
    refine q_ald rfl rfl ?_
    refine q_geti rfl sk_404 ?_
    refine q_iast rfl sk_408 sn_408 (by omega) (by omega) ?_
    rw [n2]
    show dw_ok (pr_X12_nightLine K) 214 0 0 [some (.ref 404), some (.int 2), some (.int (1 + 4 * I 404 21))] [] (n, SH1, dw_up I4 408 (3 + 4 * ln) (I4 404 19), J4)
    rw [g419]
    obtain ⟨I5, hI5⟩ : ∃ X, X = dw_up I4 408 (3 + 4 * ln) T2.2.2.2 := ⟨_, rfl⟩
    have hR5 : NMp I0 J0 ln I5 J4 := by rw [hI5]; exact nm_up hR4 (by omega)
    have hD5 : I5 408 (1 + 4 * ln) = 2 ∧ I5 408 (2 + 4 * ln) = T1.2.2.2 ∧ I5 408 (3 + 4 * ln) = T2.2.2.2 ∧ I5 408 (4 + 4 * ln) = 0 := by
      rw [hI5]
      refine ⟨?_, ?_, up_same, ?_⟩
      · rw [up_fld (by omega)]; exact hD4.1
      · rw [up_fld (by omega)]; exact hD4.2.1
      · rw [up_fld (by omega)]; exact hD4.2.2.2
    have hM5 : MK (tbM I0) (tkF (tbM I0) N m T2.2.2.1) I5 J4 := mk_row (by rw [hI5]; exact up_row (by decide)) hM4
    obtain ⟨T3, hT3⟩ : ∃ t, t = tkF (tbM I0) N m T2.2.2.1 := ⟨_, rfl⟩
    have hin3 := tkF_in (b := tbM I0) (n := N) (m := m) (p := T2.2.2.1) hin2.2.2.1
    rw [← hT3] at hM5 hin3
    rw [← hI5]
    refine q_ild rfl rfl ?_
    refine q_ic rfl ?_
    refine q_icmp (c := 0) rfl (by decide) (fun _ => ?_) (fun h => absurd rfl h)
    refine q_ald rfl rfl ?_
    refine q_ic rfl ?_
    refine q_ic rfl ?_
    refine mt_step (T := T3) (lo := 0) (hi := 40) rfl rfl rfl rfl (nmV (P := fun f => f (1 + 4 * ln) = 2 ∧ f (2 + 4 * ln) = T1.2.2.2 ∧ f (3 + 4 * ln) = T2.2.2.2 ∧ f (4 + 4 * ln) = 0)) ⟨hR5, hD5⟩ hN hN9 hm hM5 hin3.2.2.1 ?_ ?_
    rotate_left
    · intro e3 I6 J6 hI6 g7 g8
      have e3 : nbF T3 0 40 ≠ 0 := e3
      have eR : (nlF (tbM I0) N m ln lat T) = (nbF T3 0 40, T3.2.1, 0, 0, 0, 0, 0) := by simp only [nlF, nbK, hw, hw9, hg, ← hT1, e1, ← hT2, e2, ← hT3, e3, moF, ↓reduceIte, show ¬ (2 = 3) by decide, show ¬ (2 = 0) by decide, show ¬ (2 = 1) by decide]
      rw [eR] at hno
      exact hno e3 I6 J6 hI6.1 g7 g8
    intro e3 I6 J6 hI6 hM6 g619
    have e3 : nbF T3 0 40 = 0 := e3
    obtain ⟨hR6, hD6⟩ := hI6
    refine q_ald rfl rfl ?_
    refine q_getr rfl sk_404 sr_404_8 ?_
    refine q_ild rfl rfl ?_
    refine q_ic rfl ?_
    refine q_add rfl ?_
    refine q_ald rfl rfl ?_
    refine q_geti rfl sk_404 ?_
    refine q_iast rfl sk_408 sn_408 (by omega) (by omega) ?_
    rw [n3]
    show dw_ok (pr_X12_nightLine K) 245 0 0 [some (.ref 404), some (.int 2), some (.int (1 + 4 * I 404 21))] [] (n, SH1, dw_up I6 408 (4 + 4 * ln) (I6 404 19), J6)
    rw [g619]
    obtain ⟨I7, hI7⟩ : ∃ X, X = dw_up I6 408 (4 + 4 * ln) T3.2.2.2 := ⟨_, rfl⟩
    have hR7 : NMp I0 J0 ln I7 J6 := by rw [hI7]; exact nm_up hR6 (by omega)
    have hD7 : I7 408 (1 + 4 * ln) = 2 ∧ I7 408 (2 + 4 * ln) = T1.2.2.2 ∧ I7 408 (3 + 4 * ln) = T2.2.2.2 ∧ I7 408 (4 + 4 * ln) = T3.2.2.2 := by
      rw [hI7]
      refine ⟨?_, ?_, ?_, up_same⟩
      · rw [up_fld (by omega)]; exact hD6.1
      · rw [up_fld (by omega)]; exact hD6.2.1
      · rw [up_fld (by omega)]; exact hD6.2.2.1
    have hM7 : MK (tbM I0) (tkF (tbM I0) N m T3.2.2.1) I7 J6 := mk_row (by rw [hI7]; exact up_row (by decide)) hM6
    rw [← hI7]
    refine q_ic rfl ?_
    have eR : (nlF (tbM I0) N m ln lat T) = stK (tkF (tbM I0) N m T3.2.2.1) (fun p => (0, 0, p, 2, T1.2.2.2, T2.2.2.2, T3.2.2.2)) := by simp only [nlF, nbK, hw, hw9, hg, ← hT1, e1, ← hT2, e2, ← hT3, e3, moF, ↓reduceIte, show ¬ (2 = 3) by decide, show ¬ (2 = 0) by decide, show ¬ (2 = 1) by decide]
    exact q_zret rfl (Or.inr rfl) (hok _ _ _ I7 J6 eR rfl hin3.2.2.1 (show 0 ≤ T1.2.2.2.toInt by omega) hM7 hR7 hD7)
  refine q_ald rfl rfl ?_
  refine q_ald rfl rfl ?_
  refine q_geti rfl sk_404 ?_
  refine q_if (c := 1) rfl (by decide) (fun h => ?_) (fun h => ?_)
  · have h : (I1 404 21).toInt ≠ 0 := h
    have tm3 : (1 + 4 * I 404 21 - 3).toInt = 4 * ln - 2 := by rw [i_sub (by omega) (by omega), tto, c3]; omega
    refine q_ald rfl rfl ?_
    refine q_getr rfl sk_404 sr_404_8 ?_
    refine q_ild rfl rfl ?_
    refine q_ic rfl ?_
    refine q_sub rfl ?_
    refine q_xald rfl (Or.inl rfl) sk_408 sn_408 (by omega) (by omega) ?_
    refine q_ic rfl ?_
    show dw_ok (pr_X12_nightLine K) 119 0 0 [some (.ref 404), some (.int 2), some (.int (1 + 4 * I 404 21))] [.int 143, .int (I1 408 (1 + 4 * I 404 21 - 3).toInt.toNat), .ref 404] (n, SH1, I1, J1)
    rw [show (1 + 4 * I 404 21 - 3).toInt.toNat = 4 * ln - 2 by omega, hI1.1.2.2.1 (4 * ln - 2) (by omega), hlat.2 (by omega)]
    exact J119 I1 J1 hI1 hM1
  · have h : (I1 404 21).toInt = 0 := h
    refine q_ic rfl ?_
    refine q_goto rfl ?_
    refine q_ic rfl ?_
    have e := J119 I1 J1 hI1 hM1
    rw [hlat.1 (by omega)] at e
    exact e
set_option maxRecDepth 8000 in
set_option maxHeartbeats 4000000 in
theorem v_mline3 {n : Nat} {I : Nat → Nat → Int32} {J : Nat → Nat → Int64} {K : dw_K} {I0 : Nat → Nat → Int32} {J0 : Nat → Nat → Int64} {lat : Int32} {T : fT} {N m ln p : Nat} (hR : NMp I0 J0 ln I J) (hN : (I0 404 3).toInt = N) (hN9 : N ≤ 940) (hm : (I0 404 5).toInt = m) (hT : MK (tbM I0) T I J) (hTe : T = tkF (tbM I0) N m p) (hp : p ≤ N) (hln : (I0 404 21).toInt = ln) (hl24 : ln ≤ 24) (hlat : (ln = 0 → lat = 0) ∧ (ln ≠ 0 → I0 408 (4 * ln - 2) = lat)) (hl0 : 0 ≤ lat.toInt) (hw : wkF (tbM I0) T = 3)
    (hok : ∀ (T' : fT) (p' : Nat) (l : fL) (I' : Nat → Nat → Int32) (J' : Nat → Nat → Int64), (nlF (tbM I0) N m ln lat T) = stK T' (fun p => (0, 0, p, l)) → T' = tkF (tbM I0) N m p' → p' ≤ N → 0 ≤ l.2.1.toInt → MK (tbM I0) T' I' J' → NMp I0 J0 ln I' J' → I' 408 (1 + 4 * ln) = Int32.ofNat l.1 ∧ I' 408 (2 + 4 * ln) = l.2.1 ∧ I' 408 (3 + 4 * ln) = l.2.2.1 ∧ I' 408 (4 + 4 * ln) = l.2.2.2 → K (some (.int 1)) (n, SH1, I', J'))
    (hno : (nlF (tbM I0) N m ln lat T).1 ≠ 0 → ∀ (I' : Nat → Nat → Int32) (J' : Nat → Nat → Int64), NMp I0 J0 ln I' J' → (I' 404 15).toInt = (nlF (tbM I0) N m ln lat T).1 → (I' 404 16).toInt = (nlF (tbM I0) N m ln lat T).2.1 → K (some (.int 0)) (n, SH1, I', J')) : dw_ok (pr_X12_nightLine K) 58 0 0 [some (.ref 404), some (.int 3), none] [] (n, SH1, I, J) := by
  have c24 : (24 : Int32).toInt = 24 := rfl
  have c1 : (1 : Int32).toInt = 1 := rfl
  have c2 : (2 : Int32).toInt = 2 := rfl
  have c3 : (3 : Int32).toInt = 3 := rfl
  have c4 : (4 : Int32).toInt = 4 := rfl
  have hw9 : ¬ (3 = 9) := by decide
  have h21 : (I 404 21).toInt = ln := by rw [hR.2.1 21 (by decide)]; exact hln
  have hI0 : NMp I0 J0 ln I J ∧ (fun _ => True) (I 408) := ⟨hR, trivial⟩
  refine q_ild rfl rfl ?_
  refine q_if (c := 3) rfl (by decide) (fun _ => ?_) (fun h => absurd (show (3 : Int32).toInt < 0 from h) (by decide))
  refine q_ald rfl rfl ?_
  refine q_geti rfl sk_404 ?_
  refine q_ic rfl ?_
  refine q_icmp (c := 1) rfl (by decide) (fun h => ?_) (fun h => ?_)
  rotate_left
  · have h : (I 404 21).toInt = (24 : Int32).toInt := h
    have hg : 24 ≤ ln := by omega
    have eR : (nlF (tbM I0) N m ln lat T) = (4, T.2.1, 0, 0, 0, 0, 0) := by simp only [nlF, hw, hg, hw9, ↓reduceIte]
    refine q_ald rfl rfl ?_
    refine q_ic rfl ?_
    refine mb_step (c := 4) rfl rfl (nmV (J0 := J0) (P := fun _ => True)) hI0 (fun I1 J1 hI1 g7 g8 => ?_)
    rw [eR] at hno
    exact hno (nn rfl) I1 J1 hI1.1 g7 (g8.trans hT.2.1)
  have h : (I 404 21).toInt ≠ (24 : Int32).toInt := h
  have hg : ¬ (24 ≤ ln) := by omega
  have t4 : (4 * I 404 21).toInt = 4 * ln := i_mul (by rw [c4, h21]) (by omega) (by omega)
  have tto : (1 + 4 * I 404 21).toInt = 1 + 4 * ln := by rw [i_add (by omega) (by omega), c1, t4]
  refine q_ic rfl ?_
  refine q_ic rfl ?_
  refine q_ald rfl rfl ?_
  refine q_geti rfl sk_404 ?_
  refine q_mul rfl ?_
  refine q_add rfl ?_
  refine q_ist rfl rfl ?_
  show dw_ok (pr_X12_nightLine K) 92 0 0 [some (.ref 404), some (.int 3), some (.int (1 + 4 * I 404 21))] [] (n, SH1, I, J)
  have hw1 : T.1 = 1 := wk_1 (by rw [hw]; decide)
  have hin := tkF_in (b := tbM I0) (n := N) (m := m) (p := p) hp
  rw [← hTe] at hin
  refine q_ald rfl rfl ?_
  refine mn_step (p := T.2.2.1) rfl (nmV (J0 := J0) (P := fun _ => True)) hI0 hN hN9 hm hin.2.2.1 (hT.2.2.1 (Or.inl hw1)) (fun I1 J1 hI1 hM1 => ?_)
  obtain ⟨T1, hT1⟩ : ∃ t, t = tkF (tbM I0) N m T.2.2.1 := ⟨_, rfl⟩
  have hin1 := tkF_in (b := tbM I0) (n := N) (m := m) (p := T.2.2.1) hin.2.2.1
  rw [← hT1] at hM1 hin1
  have h211 : (I1 404 21).toInt = ln := by rw [hI1.1.2.1 21 (by decide)]; exact hln
  -- the number told first
  have J119 : ∀ I1 J1, NMp I0 J0 ln I1 J1 ∧ (fun _ => True) (I1 408) → MK (tbM I0) T1 I1 J1 → dw_ok (pr_X12_nightLine K) 119 0 0 [some (.ref 404), some (.int 3), some (.int (1 + 4 * I 404 21))] [.int 143, .int lat, .ref 404] (n, SH1, I1, J1) := by
    intro I1 J1 hI1 hM1
    refine mt_step (T := T1) rfl rfl rfl rfl (nmV (P := fun _ => True)) hI1 hN hN9 hm hM1 hin1.2.2.1 ?_ ?_
    rotate_left
    · intro e1 I2 J2 hI2 g7 g8
      have e1 : nbF T1 lat.toInt 143 ≠ 0 := e1
      have eR : (nlF (tbM I0) N m ln lat T) = (nbF T1 lat.toInt 143, T1.2.1, 0, 0, 0, 0, 0) := by simp only [nlF, nbK, hw, hw9, hg, ← hT1, e1, ↓reduceIte]
      rw [eR] at hno
      exact hno e1 I2 J2 hI2.1 g7 g8
    intro e1 I2 J2 hI2 hM2 g19
    have e1 : nbF T1 lat.toInt 143 = 0 := e1
    have r1 := nb_r e1
    have tt1 : (1 + 4 * I 404 21 + 1).toInt = 2 + 4 * ln := by rw [i_add (by omega) (by omega), tto, c1]; omega
    have tt2 : (1 + 4 * I 404 21 + 2).toInt = 3 + 4 * ln := by rw [i_add (by omega) (by omega), tto, c2]; omega
    have tt3 : (1 + 4 * I 404 21 + 3).toInt = 4 + 4 * ln := by rw [i_add (by omega) (by omega), tto, c3]; omega
    have n0 : (1 + 4 * I 404 21).toInt.toNat = 1 + 4 * ln := by omega
    have n1 : (1 + 4 * I 404 21 + 1).toInt.toNat = 2 + 4 * ln := by omega
    have n2 : (1 + 4 * I 404 21 + 2).toInt.toNat = 3 + 4 * ln := by omega
    have n3 : (1 + 4 * I 404 21 + 3).toInt.toNat = 4 + 4 * ln := by omega
    refine q_ald rfl rfl ?_
    refine q_getr rfl sk_404 sr_404_8 ?_
    refine q_ild rfl rfl ?_
    refine q_ild rfl rfl ?_
    refine q_iast rfl sk_408 sn_408 (by omega) (by omega) ?_
    rw [n0]
    refine q_ald rfl rfl ?_
    refine q_getr rfl sk_404 sr_404_8 ?_
    refine q_ild rfl rfl ?_
    refine q_ic rfl ?_
    refine q_add rfl ?_
    refine q_ald rfl rfl ?_
    refine q_geti rfl sk_404 ?_
    refine q_iast rfl sk_408 sn_408 (by omega) (by omega) ?_
    rw [n1]
    refine q_ald rfl rfl ?_
    refine q_getr rfl sk_404 sr_404_8 ?_
    refine q_ild rfl rfl ?_
    refine q_ic rfl ?_
    refine q_add rfl ?_
    refine q_ic rfl ?_
    refine q_iast rfl sk_408 sn_408 (by omega) (by omega) ?_
    rw [n2]
    refine q_ald rfl rfl ?_
    refine q_getr rfl sk_404 sr_404_8 ?_
    refine q_ild rfl rfl ?_
    refine q_ic rfl ?_
    refine q_add rfl ?_
    refine q_ic rfl ?_
    refine q_iast rfl sk_408 sn_408 (by omega) (by omega) ?_
    rw [n3]
    show dw_ok (pr_X12_nightLine K) 164 0 0 [some (.ref 404), some (.int 3), some (.int (1 + 4 * I 404 21))] [] (n, SH1, dw_up (dw_up (dw_up (dw_up I2 408 (1 + 4 * ln) 3) 408 (2 + 4 * ln) (I2 404 19)) 408 (3 + 4 * ln) 0) 408 (4 + 4 * ln) 0, J2)
    rw [g19]
    obtain ⟨I3, hI3⟩ : ∃ X, X = dw_up (dw_up (dw_up (dw_up I2 408 (1 + 4 * ln) 3) 408 (2 + 4 * ln) T1.2.2.2) 408 (3 + 4 * ln) 0) 408 (4 + 4 * ln) 0 := ⟨_, rfl⟩
    have hR3 : NMp I0 J0 ln I3 J2 := by rw [hI3]; exact nm_up (nm_up (nm_up (nm_up hI2.1 (by omega)) (by omega)) (by omega)) (by omega)
    have hD3 : I3 408 (1 + 4 * ln) = 3 ∧ I3 408 (2 + 4 * ln) = T1.2.2.2 ∧ I3 408 (3 + 4 * ln) = 0 ∧ I3 408 (4 + 4 * ln) = 0 := by
      rw [hI3]
      refine ⟨?_, ?_, ?_, up_same⟩
      · rw [up_fld (by omega), up_fld (by omega), up_fld (by omega)]; exact up_same
      · rw [up_fld (by omega), up_fld (by omega)]; exact up_same
      · rw [up_fld (by omega)]; exact up_same
    have hM3 : MK (tbM I0) (tkF (tbM I0) N m T1.2.2.1) I3 J2 := mk_row (by rw [hI3]; exact (up_row (by decide)).trans ((up_row (by decide)).trans ((up_row (by decide)).trans (up_row (by decide))))) hM2
    obtain ⟨T2, hT2⟩ : ∃ t, t = tkF (tbM I0) N m T1.2.2.1 := ⟨_, rfl⟩
    have hin2 := tkF_in (b := tbM I0) (n := N) (m := m) (p := T1.2.2.1) hin1.2.2.1
    rw [← hT2] at hM3 hin2
    rw [← hI3]
    refine q_ild rfl rfl ?_
    refine q_ic rfl ?_
    refine q_icmp (c := 1) rfl (by decide) (fun h => absurd rfl h) (fun _ => ?_)
    refine q_ic rfl ?_
    have eR : (nlF (tbM I0) N m ln lat T) = stK T2 (fun p => (0, 0, p, 3, T1.2.2.2, 0, 0)) := by simp only [nlF, nbK, hw, hw9, hg, ← hT1, e1, ← hT2, ↓reduceIte]
    exact q_zret rfl (Or.inr rfl) (hok T2 _ _ I3 J2 eR hT2 hin1.2.2.1 (show 0 ≤ T1.2.2.2.toInt by omega) hM3 hR3 hD3)
  refine q_ald rfl rfl ?_
  refine q_ald rfl rfl ?_
  refine q_geti rfl sk_404 ?_
  refine q_if (c := 1) rfl (by decide) (fun h => ?_) (fun h => ?_)
  · have h : (I1 404 21).toInt ≠ 0 := h
    have tm3 : (1 + 4 * I 404 21 - 3).toInt = 4 * ln - 2 := by rw [i_sub (by omega) (by omega), tto, c3]; omega
    refine q_ald rfl rfl ?_
    refine q_getr rfl sk_404 sr_404_8 ?_
    refine q_ild rfl rfl ?_
    refine q_ic rfl ?_
    refine q_sub rfl ?_
    refine q_xald rfl (Or.inl rfl) sk_408 sn_408 (by omega) (by omega) ?_
    refine q_ic rfl ?_
    show dw_ok (pr_X12_nightLine K) 119 0 0 [some (.ref 404), some (.int 3), some (.int (1 + 4 * I 404 21))] [.int 143, .int (I1 408 (1 + 4 * I 404 21 - 3).toInt.toNat), .ref 404] (n, SH1, I1, J1)
    rw [show (1 + 4 * I 404 21 - 3).toInt.toNat = 4 * ln - 2 by omega, hI1.1.2.2.1 (4 * ln - 2) (by omega), hlat.2 (by omega)]
    exact J119 I1 J1 hI1 hM1
  · have h : (I1 404 21).toInt = 0 := h
    refine q_ic rfl ?_
    refine q_goto rfl ?_
    refine q_ic rfl ?_
    have e := J119 I1 J1 hI1 hM1
    rw [hlat.1 (by omega)] at e
    exact e
set_option maxRecDepth 8000 in
set_option maxHeartbeats 1000000 in
theorem v_mline {n : Nat} {I : Nat → Nat → Int32} {J : Nat → Nat → Int64} {K : dw_K} {I0 : Nat → Nat → Int32} {J0 : Nat → Nat → Int64} {lat : Int32} {T : fT} {N m ln p : Nat} (hR : NMp I0 J0 ln I J) (hN : (I0 404 3).toInt = N) (hN9 : N ≤ 940) (hm : (I0 404 5).toInt = m) (hT : MK (tbM I0) T I J) (hTe : T = tkF (tbM I0) N m p) (hp : p ≤ N) (hln : (I0 404 21).toInt = ln) (hl24 : ln ≤ 24) (hlat : (ln = 0 → lat = 0) ∧ (ln ≠ 0 → I0 408 (4 * ln - 2) = lat)) (hl0 : 0 ≤ lat.toInt)
    (hok : ∀ (T' : fT) (p' : Nat) (l : fL) (I' : Nat → Nat → Int32) (J' : Nat → Nat → Int64), (nlF (tbM I0) N m ln lat T) = stK T' (fun p => (0, 0, p, l)) → T' = tkF (tbM I0) N m p' → p' ≤ N → 0 ≤ l.2.1.toInt → MK (tbM I0) T' I' J' → NMp I0 J0 ln I' J' → I' 408 (1 + 4 * ln) = Int32.ofNat l.1 ∧ I' 408 (2 + 4 * ln) = l.2.1 ∧ I' 408 (3 + 4 * ln) = l.2.2.1 ∧ I' 408 (4 + 4 * ln) = l.2.2.2 → K (some (.int 1)) (n, SH1, I', J'))
    (hno : (nlF (tbM I0) N m ln lat T).1 ≠ 0 → ∀ (I' : Nat → Nat → Int32) (J' : Nat → Nat → Int64), NMp I0 J0 ln I' J' → (I' 404 15).toInt = (nlF (tbM I0) N m ln lat T).1 → (I' 404 16).toInt = (nlF (tbM I0) N m ln lat T).2.1 → K (some (.int 0)) (n, SH1, I', J')) : t_X12_nightLine [.ref 404] (n, SH1, I, J) K := by
  refine q_body (Nat.le_of_ble_eq_true rfl) ?_
  have hT' := hT
  rw [hTe] at hT'
  refine q_ald rfl rfl ?_
  refine q_lc rfl ?_
  refine mw_step (i := 18) (W := 427021006180) rfl hT' hp (by decide) (by decide) (sm_ok (by decide)) (by decide +kernel) (fun s18 => ?_) (fun s18 => ?_)
  · refine q_if (c := 0) rfl (by decide) (fun h => absurd (show (1 : Int32).toInt = 0 from h) (by decide)) (fun _ => ?_)
    refine q_ic rfl ?_
    refine q_goto rfl ?_
    refine q_ist rfl rfl ?_
    have hw : wkF (tbM I0) T = 0 := by rw [hTe]; unfold wkF; rw [if_pos s18]
    exact v_mline0 hR hN hN9 hm hT hTe hp hln hl24 hlat hl0 hw hok hno
  refine q_if (c := 0) rfl (by decide) (fun _ => ?_) (fun h => absurd rfl h)
  refine q_ald rfl rfl ?_
  refine q_lc rfl ?_
  refine mw_step (i := 19) (W := 2003398244) rfl hT' hp (by decide) (by decide) (sm_ok (by decide)) (by decide +kernel) (fun s19 => ?_) (fun s19 => ?_)
  · refine q_if (c := 0) rfl (by decide) (fun h => absurd (show (1 : Int32).toInt = 0 from h) (by decide)) (fun _ => ?_)
    refine q_ic rfl ?_
    refine q_goto rfl ?_
    refine q_ist rfl rfl ?_
    have hw : wkF (tbM I0) T = 1 := by rw [hTe]; unfold wkF; rw [if_neg s18, if_pos s19]
    exact v_mline1 hR hN hN9 hm hT hTe hp hln hl24 hlat hl0 hw hok hno
  refine q_if (c := 0) rfl (by decide) (fun _ => ?_) (fun h => absurd rfl h)
  refine q_ald rfl rfl ?_
  refine q_lc rfl ?_
  refine mw_step (i := 20) (W := 6383986) rfl hT' hp (by decide) (by decide) (sm_ok (by decide)) (by decide +kernel) (fun s20 => ?_) (fun s20 => ?_)
  · refine q_if (c := 0) rfl (by decide) (fun h => absurd (show (1 : Int32).toInt = 0 from h) (by decide)) (fun _ => ?_)
    refine q_ic rfl ?_
    refine q_goto rfl ?_
    refine q_ist rfl rfl ?_
    have hw : wkF (tbM I0) T = 2 := by rw [hTe]; unfold wkF; rw [if_neg s18, if_neg s19, if_pos s20]
    exact v_mline2 hR hN hN9 hm hT hTe hp hln hl24 hlat hl0 hw hok hno
  refine q_if (c := 0) rfl (by decide) (fun _ => ?_) (fun h => absurd rfl h)
  refine q_ald rfl rfl ?_
  refine q_lc rfl ?_
  refine mw_step (i := 21) (W := 7566702) rfl hT' hp (by decide) (by decide) (sm_ok (by decide)) (by decide +kernel) (fun s21 => ?_) (fun s21 => ?_)
  · refine q_if (c := 0) rfl (by decide) (fun h => absurd (show (1 : Int32).toInt = 0 from h) (by decide)) (fun _ => ?_)
    refine q_ic rfl ?_
    refine q_goto rfl ?_
    refine q_ist rfl rfl ?_
    have hw : wkF (tbM I0) T = 3 := by rw [hTe]; unfold wkF; rw [if_neg s18, if_neg s19, if_neg s20, if_pos s21]
    exact v_mline3 hR hN hN9 hm hT hTe hp hln hl24 hlat hl0 hw hok hno
  refine q_if (c := 0) rfl (by decide) (fun _ => ?_) (fun h => absurd rfl h)
  refine q_ic rfl ?_
  refine q_ist rfl rfl ?_
  have hw : wkF (tbM I0) T = 9 := by rw [hTe]; unfold wkF; rw [if_neg s18, if_neg s19, if_neg s20, if_neg s21]
  have eR : (nlF (tbM I0) N m ln lat T) = (1, T.2.1, 0, 0, 0, 0, 0) := by simp only [nlF, hw, ↓reduceIte]
  refine q_ild rfl rfl ?_
  refine q_if (c := 3) rfl (by decide) (fun h => absurd (show 0 ≤ (-1 : Int32).toInt from h) (by decide)) (fun _ => ?_)
  refine q_ald rfl rfl ?_
  refine q_ic rfl ?_
  refine mb_step (c := 1) rfl rfl (nmV (J0 := J0) (P := fun _ => True)) ⟨hR, trivial⟩ (fun I1 J1 hI1 g7 g8 => ?_)
  rw [eR] at hno
  exact hno (nn rfl) I1 J1 hI1.1 g7 (g8.trans hT.2.1)
end
section
/-! ===== night() of the model ===== -/
def NLp (I0 : Nat → Nat → Int32) (J0 : Nat → Nat → Int64) (I : Nat → Nat → Int32) (J : Nat → Nat → Int64) : Prop :=
  (∀ a, a ≠ 404 → a ≠ 408 → I a = I0 a) ∧ (∀ j, mF j → j ≠ 21 → I 404 j = I0 404 j) ∧ (∀ a, a ≠ 404 → J a = J0 a) ∧ ∀ j, j ≠ 17 → j ≠ 18 → J 404 j = J0 404 j
set_option maxRecDepth 8000 in
theorem NL_N {I0 I I' : Nat → Nat → Int32} {J0 J J' : Nat → Nat → Int64} {ln : Nat} (h : NLp I0 J0 I J) (g : NMp I J ln I' J') : NLp I0 J0 I' J' :=
  ⟨fun a h1 h2 => (g.1 a h1 h2).trans (h.1 a h1 h2), fun j h1 h2 => (g.2.1 j h1).trans (h.2.1 j h1 h2), fun a ha => (g.2.2.2.1 a ha).trans (h.2.2.1 a ha), fun j h1 h2 => (g.2.2.2.2 j h1 h2).trans (h.2.2.2 j h1 h2)⟩
set_option maxRecDepth 8000 in
theorem la_eq {I : Nat → Nat → Int32} : ∀ {L : List fL}, mdF I L → (L.length = 0 → laF L = 0) ∧ (L.length ≠ 0 → I 408 (4 * L.length - 2) = laF L)
  | [], _ => ⟨fun _ => rfl, fun h => absurd rfl h⟩
  | l :: r, h => by
    refine ⟨fun g => absurd g (Nat.succ_ne_zero _), fun _ => ?_⟩
    have hl : (l :: r).length = r.length + 1 := rfl
    rw [show 4 * (l :: r).length - 2 = 2 + 4 * r.length by omega]
    exact h.2.1
set_option maxRecDepth 8000 in
/-- a fault is told: -1 less its place -/
theorem mn_bad {n bc bs : Nat} {I : Nat → Nat → Int32} {J : Nat → Nat → Int64} {K : dw_K} {x : Int32} {q : Nat} (h : (I 404 16).toInt = q) (hq : q ≤ 940) (hk : ∀ w : Int32, w.toInt = -1 - (q : Int) → K (some (.int w)) (n, SH1, I, J)) : dw_ok (pr_X12_night K) 62 bc bs [some (.ref 404), some (.int x), none] [] (n, SH1, I, J) := by
  have cm : (-1 : Int32).toInt = -1 := rfl
  refine q_ic rfl ?_
  refine q_ald rfl rfl ?_
  refine q_geti rfl sk_404 ?_
  refine q_sub rfl ?_
  exact q_iret rfl (hk _ (by show ((-1 : Int32) - I 404 16).toInt = _; rw [i_sub (by omega) (by omega), cm, h]))
set_option maxRecDepth 8000 in
theorem mn_loop {n bc bs : Nat} {K : dw_K} {I0 : Nat → Nat → Int32} {J0 : Nat → Nat → Int64} {N m : Nat} {x : Int32} {G : Nat × Nat × Nat × List fL} (hN : (I0 404 3).toInt = N) (hN9 : N ≤ 940) (hm : (I0 404 5).toInt = m) (hpl : G.2.1 ≤ 940)
    (hok : G.1 = 0 → ∀ (I' : Nat → Nat → Int32) (J' : Nat → Nat → Int64), NLp I0 J0 I' J' → mdF I' G.2.2.2 → (I' 404 21).toInt = G.2.2.1 → G.2.2.1 = G.2.2.2.length → G.2.2.1 ≤ 24 → dw_ok (pr_X12_night K) 82 bc bs [some (.ref 404), some (.int x), none] [] (n, SH1, I', J'))
    (hno : G.1 ≠ 0 → ∀ (I' : Nat → Nat → Int32) (J' : Nat → Nat → Int64) (w : Int32), NLp I0 J0 I' J' → w.toInt = -1 - (G.2.1 : Int) → K (some (.int w)) (n, SH1, I', J')) :
    ∀ (f ln p : Nat) (L : List fL) (I : Nat → Nat → Int32) (J : Nat → Nat → Int64), ln + f = 24 → L.length = ln → ngF (tbM I0) N m (f + 1) ln (laF L) p L = G → NLp I0 J0 I J → (I 404 21).toInt = ln → mdF I L → MK (tbM I0) (tkF (tbM I0) N m p) I J → p ≤ N → 0 ≤ (laF L).toInt → dw_ok (pr_X12_night K) 39 bc bs [some (.ref 404), some (.int x), none] [] (n, SH1, I, J) := by
  have c1 : (1 : Int32).toInt = 1 := rfl
  intro f
  induction f with
  | zero =>
    intro ln p L I J hf hL hG hR h21 hD hT hp hl0
    have hb : tbM I = tbM I0 := tbM_eq (hR.2.1 3 (by decide) (by decide)) (hR.1 405 (by decide) (by decide))
    have hNI : (I 404 3).toInt = N := by rw [hR.2.1 3 (by decide) (by decide)]; exact hN
    have hmI : (I 404 5).toInt = m := by rw [hR.2.1 5 (by decide) (by decide)]; exact hm
    unfold ngF at hG
    refine q_ald rfl rfl ?_
    refine q_geti rfl sk_404 ?_
    refine q_if (c := 0) rfl (by decide) (fun h => ?_) (fun h => ?_)
    · have h : (I 404 11).toInt = 0 := h
      have hT0 : (tkF (tbM I0) N m p).1 = 0 := by have := hT.1; omega
      rw [if_pos hT0] at hG
      rw [← hG] at hok
      exact hok rfl I J hR hD h21 hL.symm (by show ln ≤ 24; omega)
    have h : (I 404 11).toInt ≠ 0 := h
    have hT0 : ¬ (tkF (tbM I0) N m p).1 = 0 := by have := hT.1; omega
    rw [if_neg hT0] at hG
    refine q_ald rfl rfl ?_
    refine q_callV (as := []) (rest := []) rfl rfl sk_404 rfl (Nat.le_of_ble_eq_true rfl) ?_
    have hla := la_eq hD
    rw [hL] at hla
    rw [← hb] at hT hG
    refine v_mline (I0 := I) (J0 := J) (lat := laF L) (p := p) (ln := ln) ⟨fun _ _ _ => rfl, fun _ _ => rfl, fun _ _ => rfl, fun _ _ => rfl, fun _ _ _ => rfl⟩ hNI hN9 hmI hT rfl hp h21 (by omega) hla hl0 (fun T' p' l I' J' e hTe hp' hl hM hR' hD' => ?_) (fun hr I' J' hR' g15 g16 => ?_)
    · have hr : (nlF (tbM I) N m ln (laF L) (tkF (tbM I) N m p)).1 ≠ 0 := nl_24 (by omega)
      rw [if_neg hr] at hG
      have h3 : T'.1 ≠ 3 := fun h3 => hr (by rw [e]; unfold stK; rw [if_pos h3])
      have e2 : nlF (tbM I) N m ln (laF L) (tkF (tbM I) N m p) = (1, T'.2.1, 0, 0, 0, 0, 0) := by rw [e]; unfold stK; rw [if_neg h3]
      rw [e2] at hG
      have hin' := tkF_in (b := tbM I) (n := N) (m := m) (p := p') hp'
      rw [← hTe] at hin'
      show dw_ok (pr_X12_night K) 50 bc bs [some (.ref 404), some (.int x), none] [.int 1] (n, SH1, I', J')
      refine q_if (c := 0) rfl (by decide) (fun h => absurd (show (1 : Int32).toInt = 0 from h) (by decide)) (fun _ => ?_)
      refine q_ald rfl rfl ?_
      refine q_ic rfl ?_
      refine q_callV (as := [.int 59]) (rest := []) rfl rfl sk_404 rfl (Nat.le_of_ble_eq_true rfl) ?_
      refine v_sign (b := tbM I) (T := T') (N := N) (m := m) (by rw [hR'.2.1 3 (by decide)]; exact hNI) hN9 (by rw [hR'.2.1 5 (by decide)]; exact hmI) (tbM_eq (hR'.2.1 3 (by decide)) (hR'.1 405 (by decide) (by decide))) hM hin'.2.2.1 (fun g => absurd g h3) (fun _ => ?_)
      show dw_ok (pr_X12_night K) 59 bc bs [some (.ref 404), some (.int x), none] [.int 0] (n, SH1, dw_up (dw_up I' 404 15 1) 404 16 (I' 404 12), J')
      refine q_if (c := 1) rfl (by decide) (fun h => absurd rfl h) (fun _ => ?_)
      have hR2 : NLp I0 J0 (dw_up (dw_up I' 404 15 1) 404 16 (I' 404 12)) J' := by
        have q := NL_N hR hR'
        exact ⟨fun a h1 h2 => (up_row h1).trans ((up_row h1).trans (q.1 a h1 h2)), fun j h1 h2 => (up_fld h1.2.2.2.2.2.2.1).trans ((up_fld h1.2.2.2.2.2.1).trans (q.2.1 j h1 h2)), q.2.2.1, q.2.2.2⟩
      rw [← hG] at hno hpl
      exact mn_bad (q := T'.2.1) hM.2.1 hpl (fun w hw => hno (nn rfl) _ _ w hR2 hw)
    · rw [if_neg hr] at hG
      show dw_ok (pr_X12_night K) 50 bc bs [some (.ref 404), some (.int x), none] [.int 0] (n, SH1, I', J')
      refine q_if (c := 0) rfl (by decide) (fun _ => ?_) (fun h => absurd rfl h)
      rw [← hG] at hno hpl
      exact mn_bad g16 hpl (fun w hw => hno hr _ _ w (NL_N hR hR') hw)
  | succ f ih =>
    intro ln p L I J hf hL hG hR h21 hD hT hp hl0
    have hb : tbM I = tbM I0 := tbM_eq (hR.2.1 3 (by decide) (by decide)) (hR.1 405 (by decide) (by decide))
    have hNI : (I 404 3).toInt = N := by rw [hR.2.1 3 (by decide) (by decide)]; exact hN
    have hmI : (I 404 5).toInt = m := by rw [hR.2.1 5 (by decide) (by decide)]; exact hm
    unfold ngF at hG
    refine q_ald rfl rfl ?_
    refine q_geti rfl sk_404 ?_
    refine q_if (c := 0) rfl (by decide) (fun h => ?_) (fun h => ?_)
    · have h : (I 404 11).toInt = 0 := h
      have hT0 : (tkF (tbM I0) N m p).1 = 0 := by have := hT.1; omega
      rw [if_pos hT0] at hG
      rw [← hG] at hok
      exact hok rfl I J hR hD h21 hL.symm (by show ln ≤ 24; omega)
    have h : (I 404 11).toInt ≠ 0 := h
    have hT0 : ¬ (tkF (tbM I0) N m p).1 = 0 := by have := hT.1; omega
    rw [if_neg hT0] at hG
    refine q_ald rfl rfl ?_
    refine q_callV (as := []) (rest := []) rfl rfl sk_404 rfl (Nat.le_of_ble_eq_true rfl) ?_
    have hla := la_eq hD
    rw [hL] at hla
    rw [← hb] at hT hG
    refine v_mline (I0 := I) (J0 := J) (lat := laF L) (p := p) (ln := ln) ⟨fun _ _ _ => rfl, fun _ _ => rfl, fun _ _ => rfl, fun _ _ => rfl, fun _ _ _ => rfl⟩ hNI hN9 hmI hT rfl hp h21 (by omega) hla hl0 (fun T' p' l I' J' e hTe hp' hl hM hR' hD' => ?_) (fun hr I' J' hR' g15 g16 => ?_)
    · have hin' := tkF_in (b := tbM I) (n := N) (m := m) (p := p') hp'
      rw [← hTe] at hin'
      show dw_ok (pr_X12_night K) 50 bc bs [some (.ref 404), some (.int x), none] [.int 1] (n, SH1, I', J')
      refine q_if (c := 0) rfl (by decide) (fun h => absurd (show (1 : Int32).toInt = 0 from h) (by decide)) (fun _ => ?_)
      refine q_ald rfl rfl ?_
      refine q_ic rfl ?_
      refine q_callV (as := [.int 59]) (rest := []) rfl rfl sk_404 rfl (Nat.le_of_ble_eq_true rfl) ?_
      have hb' : tbM I' = tbM I := tbM_eq (hR'.2.1 3 (by decide)) (hR'.1 405 (by decide) (by decide))
      refine v_sign (b := tbM I) (T := T') (N := N) (m := m) (by rw [hR'.2.1 3 (by decide)]; exact hNI) hN9 (by rw [hR'.2.1 5 (by decide)]; exact hmI) hb' hM hin'.2.2.1 (fun h3 I2 J2 hA hF hJa hJf hM2 => ?_) (fun h3 => ?_)
      · have e2 : nlF (tbM I) N m ln (laF L) (tkF (tbM I) N m p) = (0, 0, T'.2.2.1, l) := by rw [e]; unfold stK; rw [if_pos h3]
        rw [e2, if_pos rfl] at hG
        have h212 : (I2 404 21).toInt = ln := by rw [hF 21 (by decide) (by decide) (by decide) (by decide) (by decide), hR'.2.1 21 (by decide)]; exact h21
        have t21 : (I2 404 21 + 1).toInt = (ln + 1 : Nat) := by rw [i_add (by omega) (by omega), c1, h212]; omega
        show dw_ok (pr_X12_night K) 59 bc bs [some (.ref 404), some (.int x), none] [.int 1] (n, SH1, I2, J2)
        refine q_if (c := 1) rfl (by decide) (fun _ => ?_) (fun h => absurd (show (1 : Int32).toInt = 0 from h) (by decide))
        refine q_ald rfl rfl ?_
        refine q_dup rfl ?_
        refine q_geti rfl sk_404 ?_
        refine q_ic rfl ?_
        refine q_add rfl ?_
        refine q_puti rfl sk_404 ?_
        refine q_goto rfl ?_
        show dw_ok (pr_X12_night K) 39 bc bs [some (.ref 404), some (.int x), none] [] (n, SH1, dw_up I2 404 21 (I2 404 21 + 1), J2)
        have q := NL_N hR hR'
        rw [hb] at hM2 hG
        refine ih (ln + 1) T'.2.2.1 (l :: L) (dw_up I2 404 21 (I2 404 21 + 1)) J2 (by omega) (by rw [List.length_cons, hL]) hG ⟨fun a h1 h2 => (up_row h1).trans ((hA a h1).trans (q.1 a h1 h2)), fun j h1 h2 => (up_fld h2).trans ((hF j h1.1 h1.2.1 h1.2.2.1 h1.2.2.2.1 h1.2.2.2.2.1).trans (q.2.1 j h1 h2)), fun a ha => (hJa a ha).trans (q.2.2.1 a ha), fun j h1 h2 => (hJf j h1 h2).trans (q.2.2.2 j h1 h2)⟩ ?_ ?_ ?_ hin'.2.2.1 hl
        · show (I2 404 21 + 1).toInt = _; exact t21
        · have hr8 : (dw_up I2 404 21 (I2 404 21 + 1)) 408 = I' 408 := (up_row (by decide)).trans (hA 408 (by decide))
          have hLl : L.length = ln := hL
          refine ⟨?_, ?_, ?_, ?_, md_same (I := I) L (fun j hj => ?_) hD⟩
          · rw [hr8, hLl]; exact hD'.1
          · rw [hr8, hLl]; exact hD'.2.1
          · rw [hr8, hLl]; exact hD'.2.2.1
          · rw [hr8, hLl]; exact hD'.2.2.2
          · rw [hr8]; exact hR'.2.2.1 j (by omega)
        · exact mk_fld (fun j hj => up_fld hj) hM2
      · have e2 : nlF (tbM I) N m ln (laF L) (tkF (tbM I) N m p) = (1, T'.2.1, 0, 0, 0, 0, 0) := by rw [e]; unfold stK; rw [if_neg h3]
        rw [e2] at hG
        show dw_ok (pr_X12_night K) 59 bc bs [some (.ref 404), some (.int x), none] [.int 0] (n, SH1, dw_up (dw_up I' 404 15 1) 404 16 (I' 404 12), J')
        refine q_if (c := 1) rfl (by decide) (fun h => absurd rfl h) (fun _ => ?_)
        have hR2 : NLp I0 J0 (dw_up (dw_up I' 404 15 1) 404 16 (I' 404 12)) J' := by
          have q := NL_N hR hR'
          exact ⟨fun a h1 h2 => (up_row h1).trans ((up_row h1).trans (q.1 a h1 h2)), fun j h1 h2 => (up_fld h1.2.2.2.2.2.2.1).trans ((up_fld h1.2.2.2.2.2.1).trans (q.2.1 j h1 h2)), q.2.2.1, q.2.2.2⟩
        rw [if_neg (show ¬ (((1, T'.2.1, 0, 0, 0, 0, 0) : fR).1 = 0) from nn rfl)] at hG
        rw [← hG] at hno hpl
        exact mn_bad (q := T'.2.1) hM.2.1 hpl (fun w hw => hno (nn rfl) _ _ w hR2 hw)
    · rw [if_neg hr] at hG
      show dw_ok (pr_X12_night K) 50 bc bs [some (.ref 404), some (.int x), none] [.int 0] (n, SH1, I', J')
      refine q_if (c := 0) rfl (by decide) (fun _ => ?_) (fun h => absurd rfl h)
      rw [← hG] at hno hpl
      exact mn_bad g16 hpl (fun w hw => hno hr _ _ w (NL_N hR hR') hw)
end
