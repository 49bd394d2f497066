section
/-! ===== NIGHTS drawn ===== -/
set_option maxRecDepth 8000 in
theorem and_or_r {a b c : Int32} : (a ||| b) &&& c = (a &&& c) ||| (b &&& c) := Int32.toBitVec_inj.1 BitVec.and_or_distrib_right
set_option maxRecDepth 8000 in
theorem d6_dec : (List.range 72).all (fun d => decide (Int32.ofNat d / 6 = Int32.ofNat (d / 6))) = true := by decide +kernel
set_option maxRecDepth 8000 in
theorem b1_dec : (List.range 12).all (fun h => (List.range 12).all (fun j => decide ((((1 : Int32) <<< (Int32.ofNat h &&& 31)) >>> (Int32.ofNat j &&& 31)) &&& 1 = if j = h then 1 else 0))) = true := by decide +kernel
/-- the hours with clouds, as bits -/
def cSF (ch : Nat → Bool) : Nat → Int32
  | 0 => 0
  | h + 1 => cSF ch h ||| (if ch h = true then (1 : Int32) <<< (Int32.ofNat h &&& 31) else 0)
set_option maxRecDepth 8000 in
theorem cS_bit {ch : Nat → Bool} : ∀ h : Nat, h ≤ 12 → ∀ j : Nat, j < 12 → ((cSF ch h >>> (Int32.ofNat j &&& 31)) &&& 1) = if j < h ∧ ch j = true then 1 else 0
  | 0, _, j, _ => by
    show (((0 : Int32) >>> (Int32.ofNat j &&& 31)) &&& 1) = _
    rw [Int32.zero_shiftRight, Int32.zero_and, if_neg (fun q => Nat.not_lt_zero _ q.1)]
  | h + 1, hh, j, hj => by
    have ih := cS_bit (ch := ch) h (by omega) j hj
    have b1 := of_decide_eq_true (List.all_eq_true.mp (List.all_eq_true.mp b1_dec h (List.mem_range.mpr (by omega))) j (List.mem_range.mpr hj))
    show (((cSF ch h ||| (if ch h = true then (1 : Int32) <<< (Int32.ofNat h &&& 31) else 0)) >>> (Int32.ofNat j &&& 31)) &&& 1) = _
    rw [Int32.shiftRight_or, and_or_r, ih]
    by_cases hc : ch h = true
    · rw [if_pos hc, b1]
      by_cases e : j = h
      · rw [if_pos e, if_neg (fun q => by omega), if_pos ⟨by omega, by rw [e]; exact hc⟩]
        rfl
      · rw [if_neg e, Int32.or_zero]
        by_cases q : j < h ∧ ch j = true
        · rw [if_pos q, if_pos ⟨by omega, q.2⟩]
        · rw [if_neg q, if_neg (fun z => q ⟨by omega, z.2⟩)]
    · rw [if_neg hc, Int32.zero_shiftRight, Int32.zero_and, Int32.or_zero]
      by_cases q : j < h ∧ ch j = true
      · rw [if_pos q, if_pos ⟨by omega, q.2⟩]
      · rw [if_neg q, if_neg (fun z => q ⟨by
          rcases Nat.lt_or_ge j h with g | g
          · exact g
          · exact absurd (show ch h = true by rw [show h = j by omega]; exact z.2) hc, z.2⟩)]
set_option maxRecDepth 8000 in
theorem hi_S {ch : Nat → Bool} {d : Nat} : hiF (cSF ch 12) d ↔ (d < 72 ∧ ch (d / 6) = true) := by
  have key : d < 72 → (((cSF ch 12 >>> ((Int32.ofNat d / 6) &&& 31)) &&& 1).toInt = 1 ↔ ch (d / 6) = true) := fun hd => by
    have e := of_decide_eq_true (List.all_eq_true.mp d6_dec d (List.mem_range.mpr hd))
    have b := cS_bit (ch := ch) 12 (Nat.le_refl 12) (d / 6) (by omega)
    rw [e, b]
    by_cases q : d / 6 < 12 ∧ ch (d / 6) = true
    · rw [if_pos q]; exact ⟨fun _ => q.2, fun _ => rfl⟩
    · rw [if_neg q]; exact ⟨fun z => absurd z (by decide), fun z => absurd ⟨by omega, z⟩ q⟩
  exact ⟨fun q => ⟨q.1, (key q.1).mp q.2⟩, fun q => ⟨q.1, (key q.1).mpr q.2⟩⟩
/-- the numbers drawn -/
def dwN (d : Int32) : Int32 := d * 1103515245 + 12345
def dwE (d : Int32) : Int32 := (d.toUInt32 >>> ((8 : Int32).toUInt32 &&& Int32.toUInt32 31)).toInt32
def dwQ (d : Int32) : Int32 := dwE d - dwE d / 4 * 4
def dwS (d : Int32) : Nat → Int32
  | 0 => d
  | k + 1 => dwN (dwS d k)
def chF (d : Int32) : Nat → Bool := fun h => decide ((dwQ (dwS d (h + 1))).toInt = 0)
set_option maxRecDepth 8000 in
theorem ch_y {d : Int32} {h : Nat} (q : (dwQ (dwS d (h + 1))).toInt = 0) : chF d h = true := decide_eq_true q
set_option maxRecDepth 8000 in
theorem ch_n {d : Int32} {h : Nat} (q : ¬ (dwQ (dwS d (h + 1))).toInt = 0) : chF d h = false := decide_eq_false q
def dnT (S : Nat → Int32) (ch : Nat → Bool) : Nat → rN := fun t => if t < 72 ∧ ch (t / 6) = true then (100, (gT S t).2) else gT S t
set_option maxRecDepth 8000 in
theorem dnT_y {S : Nat → Int32} {ch : Nat → Bool} {t : Nat} (q : t < 72 ∧ ch (t / 6) = true) : dnT S ch t = (100, (gT S t).2) := if_pos q
set_option maxRecDepth 8000 in
theorem dnT_n {S : Nat → Int32} {ch : Nat → Bool} {t : Nat} (q : ¬ (t < 72 ∧ ch (t / 6) = true)) : dnT S ch t = gT S t := if_neg q
set_option maxRecDepth 8000 in
theorem dnT_ok {S : Nat → Int32} {ch : Nat → Bool} (hS : NOK S) : ∀ t, t < 144 → nOK (dnT S ch t) := fun t ht => by
  have q := hS.2 t ht
  by_cases e : t < 72 ∧ ch (t / 6) = true
  · rw [dnT_y e]; exact ⟨⟨show 0 ≤ (100 : Int32).toInt by decide, show (100 : Int32).toInt ≤ 100 by decide⟩, q.2⟩
  · rw [dnT_n e]; exact q
/-- what a CELL catches in a NIGHT drawn from d on -/
def dnW (R S : Nat → Int32) (c : Nat) (d : Int32) : Int32 := (ruF 0 (Nn R) (fun _ => gC R) (dnT S (chF d)) 0 72 (g0S R S)).2.1 c
/-- behind k NIGHTS: the number drawn last, what was caught -/
def dnS (R S : Nat → Int32) (c : Nat) (d : Int32) : Nat → Int32 × Int32
  | 0 => (d, 0)
  | k + 1 => (dwS (dnS R S c d k).1 12, (dnS R S c d k).2 + dnW R S c (dnS R S c d k).1)
def aDrawn (R : Nat → Int32) (s x y l d : Int32) : Int := if okS R s ∧ okC R x y ∧ 1 ≤ l.toInt ∧ l.toInt ≤ 30 then (dnS R (nX R s) (cN R x y) d l.toInt.toNat).2.toInt else -1
set_option maxRecDepth 8000 in
theorem drawn_y {R : Nat → Int32} {s x y l d : Int32} (h : okS R s ∧ okC R x y ∧ 1 ≤ l.toInt ∧ l.toInt ≤ 30) : aDrawn R s x y l d = (dnS R (nX R s) (cN R x y) d l.toInt.toNat).2.toInt := if_pos h
set_option maxRecDepth 8000 in
theorem drawn_n {R : Nat → Int32} {s x y l d : Int32} (h : ¬ (okS R s ∧ okC R x y ∧ 1 ≤ l.toInt ∧ l.toInt ≤ 30)) : aDrawn R s x y l d = -1 := if_neg h
set_option maxRecDepth 8000 in
theorem csk_drawn {I I' : Nat → Nat → Int32} {ch : Nat → Bool} {R S : Nat → Int32} (hG : GOK R) (hC : CST I 164 R S) (h6 : I 164 6 = 0) (r : ∀ a, a ≠ 164 → I' a = I a) (f : ∀ j, j ≠ 6 → I' 164 j = I 164 j) (g6 : I' 164 6 = cSF ch 12) : CSK I' 164 (Nn R) 0 (fun _ => gC R) (dnT S ch) (g0S R S) 0 0 := by
  refine csk_mk hC (fun c hc => ?_) (fun t ht => ?_) (r _ (by decide)) (r _ (by decide)) (f 1 (by decide)) (f 2 (by decide)) (f 3 (by decide)) (f 4 (by decide)) (by rw [f 5 (by decide)]; exact hC.2.2.2.2.1) (fun c hc => gok_c hG hc)
  · have q := hC.1 c hc
    unfold cfC at q ⊢
    rw [r (164 + 8) (by decide), r (164 + 9) (by decide), r (164 + 10) (by decide), r (164 + 11) (by decide)]
    exact q
  · have q := hC.2.1 t ht
    unfold tnC at q ⊢
    rw [h6, if_neg hi_0] at q
    rw [g6, r (164 + 1 + 2 + 0) (by decide), r (164 + 1 + 2 + 1) (by decide), r (164 + 1 + 2 + 2) (by decide), r (164 + 1 + 2 + 3) (by decide), r (164 + 1 + 2 + 4) (by decide)]
    have q2 := congrArg (fun z : rN => z.2) q
    by_cases e : t < 72 ∧ ch (t / 6) = true
    · rw [dnT_y e, if_pos (hi_S.mpr e)]
      exact Prod.ext rfl q2
    · rw [dnT_n e, if_neg (fun z => e (hi_S.mp z))]
      exact q
set_option maxRecDepth 8000 in
theorem msk_drawn {I I' : Nat → Nat → Int32} {ch : Nat → Bool} {R S : Nat → Int32} (hM : MSK I (Nn R) 0 (fun _ => gC R) (gT S) (g0S R S) 0 0) (r : ∀ a, a ≠ 404 → a ≠ 411 → I' a = I a) (f : ∀ j, j ≠ 52 → I' 404 j = I 404 j) (h411 : ∀ t, t < 144 → I' 411 t = if t < 72 ∧ ch (t / 6) = true then 100 else I 411 t) : MSK I' (Nn R) 0 (fun _ => gC R) (dnT S ch) (g0S R S) 0 0 := by
  refine msk_mk hM (fun τ hτ c hc => ?_) (fun t ht => ?_) (r 416 (by decide) (by decide)) (r 417 (by decide) (by decide)) (r 406 (by decide) (by decide)) (f 32 (by decide)) (f 33 (by decide)) (f 34 (by decide)) (fun c hc => by rw [r 419 (by decide) (by decide)]; exact hM.2.2.2.2.2 c hc)
  · rw [show cfM I' τ c = cfM I τ c by unfold cfM syM; rw [r 406 (by decide) (by decide), r 419 (by decide) (by decide), r 418 (by decide) (by decide), f 35 (by decide), f 36 (by decide), f 37 (by decide)]]
    exact hM.1 τ (Nat.zero_le τ) hτ c hc
  · have q := hM.2.1 t (Nat.zero_le t) ht
    have q2 := congrArg (fun z : rN => z.2) q
    have q1 := congrArg (fun z : rN => z.1) q
    unfold tnM at q1 q2 ⊢
    rw [r 412 (by decide) (by decide), r 413 (by decide) (by decide), r 414 (by decide) (by decide), r 415 (by decide) (by decide), h411 t ht]
    by_cases e : t < 72 ∧ ch (t / 6) = true
    · rw [dnT_y e, if_pos e]
      exact Prod.ext rfl q2
    · rw [dnT_n e, if_neg e]
      exact Prod.ext q1 q2
set_option maxRecDepth 8000 in
theorem dnh_loop {n : Nat} {J : Nat → Nat → Int64} {K : dw_K} {s x y l d c ca i d0 : Int32} {I0 : Nat → Nat → Int32}
    (hk : ∀ (w hr : Int32) (I' : Nat → Nat → Int32), w = dwS d0 12 → (∀ a, a ≠ 164 → I' a = I0 a) → (∀ j, j ≠ 6 → I' 164 j = I0 164 j) → I' 164 6 = cSF (chF d0) 12 → dw_ok (pr_X11_drawn K) 143 0 0 [some (.ref 0), some (.int s), some (.int x), some (.int y), some (.int l), some (.int d), some (.int c), some (.int w), some (.int ca), some (.int i), some (.int hr)] [] (n, SH1, I', J)) :
    ∀ (f k : Nat) (w hr : Int32) (I : Nat → Nat → Int32), k + f = 12 → hr.toInt = k → w = dwS d0 k → (∀ a, a ≠ 164 → I a = I0 a) → (∀ j, j ≠ 6 → I 164 j = I0 164 j) → I 164 6 = cSF (chF d0) k → dw_ok (pr_X11_drawn K) 88 0 0 [some (.ref 0), some (.int s), some (.int x), some (.int y), some (.int l), some (.int d), some (.int c), some (.int w), some (.int ca), some (.int i), some (.int hr)] [] (n, SH1, I, J) := by
  have k0 : (0 : Int32).toInt = 0 := rfl
  intro f
  induction f with
  | zero =>
    intro k w hr I hf hh hw r f2 g6
    obtain rfl : k = 12 := by omega
    refine q_ild rfl rfl ?_
    refine q_ic rfl ?_
    refine q_icmp (c := 3) rfl (by decide) (fun y1 => ?_) (fun h => absurd (show (hr).toInt < (12 : Int) from h) (by omega))
    have y1 : (12 : Int) ≤ (hr).toInt := y1
    exact hk w hr I hw r f2 g6
  | succ f ih =>
    intro k w hr I hf hh hw r f2 g6
    have eh := of_nat hh (by omega)
    refine q_ild rfl rfl ?_
    refine q_ic rfl ?_
    refine q_icmp (c := 3) rfl (by decide) (fun h => absurd (show (12 : Int) ≤ (hr).toInt from h) (by omega)) (fun y2 => ?_)
    have y2 : (hr).toInt < (12 : Int) := y2
    refine q_ild rfl rfl ?_
    refine q_ic rfl ?_
    refine q_mul rfl ?_
    refine q_ic rfl ?_
    refine q_add rfl ?_
    refine q_ist rfl rfl ?_
    show dw_ok (pr_X11_drawn K) 107 0 0 [some (.ref 0), some (.int s), some (.int x), some (.int y), some (.int l), some (.int d), some (.int c), some (.int ((w * (1103515245 : Int32)) + (12345 : Int32))), some (.int ca), some (.int i), some (.int hr)] [] (n, SH1, I, J)
    refine q_ald rfl rfl ?_
    refine q_getr rfl sk_0 sr_0_6 ?_
    refine q_dup rfl ?_
    refine q_geti rfl sk_164 ?_
    refine q_ild rfl rfl ?_
    refine q_ic rfl ?_
    refine q_iushr rfl ?_
    refine q_ic rfl ?_
    refine q_rem rfl (by decide) ?_
    show dw_ok (pr_X11_drawn K) 122 0 0 [some (.ref 0), some (.int s), some (.int x), some (.int y), some (.int l), some (.int d), some (.int c), some (.int ((w * (1103515245 : Int32)) + (12345 : Int32))), some (.int ca), some (.int i), some (.int hr)] [.int ((((((w * (1103515245 : Int32)) + (12345 : Int32))).toUInt32 >>> (((8 : Int32)).toUInt32 &&& Int32.toUInt32 31)).toInt32) - (((((w * (1103515245 : Int32)) + (12345 : Int32))).toUInt32 >>> (((8 : Int32)).toUInt32 &&& Int32.toUInt32 31)).toInt32) / (4 : Int32) * (4 : Int32)), .int (I 164 6), .ref 164] (n, SH1, I, J)
    obtain ⟨w2, hw2⟩ : ∃ z, z = ((w * (1103515245 : Int32)) + (12345 : Int32)) := ⟨_, rfl⟩
    have ew2 : w2 = dwS d0 (k + 1) := by rw [hw2, hw]; rfl
    have eq2 : ((((((w * (1103515245 : Int32)) + (12345 : Int32))).toUInt32 >>> (((8 : Int32)).toUInt32 &&& Int32.toUInt32 31)).toInt32) - (((((w * (1103515245 : Int32)) + (12345 : Int32))).toUInt32 >>> (((8 : Int32)).toUInt32 &&& Int32.toUInt32 31)).toInt32) / (4 : Int32) * (4 : Int32)) = dwQ w2 := by rw [hw2]; rfl
    rw [eq2, ← hw2]
    show dw_ok (pr_X11_drawn K) 122 0 0 [some (.ref 0), some (.int s), some (.int x), some (.int y), some (.int l), some (.int d), some (.int c), some (.int w2), some (.int ca), some (.int i), some (.int hr)] [.int (dwQ w2), .int (I 164 6), .ref 164] (n, SH1, I, J)
    refine q_if (c := 1) rfl (by decide) (fun y3 => ?_) (fun y3 => ?_)
    · have y3 : ((dwQ w2)).toInt ≠ 0 := y3
      refine q_ic rfl ?_
      refine q_ior rfl ?_
      refine q_puti rfl sk_164 ?_
      show dw_ok (pr_X11_drawn K) 137 0 0 [some (.ref 0), some (.int s), some (.int x), some (.int y), some (.int l), some (.int d), some (.int c), some (.int w2), some (.int ca), some (.int i), some (.int hr)] [] (n, SH1, (dw_up I 164 6 ((I 164 6) ||| (0 : Int32))), J)
      refine q_inc rfl rfl rfl ?_
      show dw_ok (pr_X11_drawn K) 140 0 0 [some (.ref 0), some (.int s), some (.int x), some (.int y), some (.int l), some (.int d), some (.int c), some (.int w2), some (.int ca), some (.int i), some (.int (hr + 1))] [] (n, SH1, (dw_up I 164 6 ((I 164 6) ||| (0 : Int32))), J)
      show dw_ok (pr_X11_drawn K) 140 0 0 [some (.ref 0), some (.int s), some (.int x), some (.int y), some (.int l), some (.int d), some (.int c), some (.int w2), some (.int ca), some (.int i), some (.int (hr + 1))] [] (n, SH1, (dw_up I 164 6 ((I 164 6) ||| (0 : Int32))), J)
      obtain ⟨hx, hhx⟩ : ∃ z, z = (hr + 1) := ⟨_, rfl⟩
      rw [← hhx]
      have ehx : hx.toInt = ((k + 1 : Nat) : Int) := by rw [hhx]; exact ix_1 hh (by omega)
      refine q_goto rfl ?_
      have hc : chF d0 k = false := ch_n (by rw [← ew2]; exact y3)
      have eb : ((I 164 6) ||| (0 : Int32)) = cSF (chF d0) (k + 1) := by
        show _ = cSF (chF d0) k ||| (if chF d0 k = true then (1 : Int32) <<< (Int32.ofNat k &&& 31) else 0)
        rw [g6, if_neg (by rw [hc]; decide)]
      exact ih (k + 1) w2 hx (dw_up I 164 6 ((I 164 6) ||| (0 : Int32))) (by omega) ehx ew2 (fun a ha => (up_row ha).trans (r a ha)) (fun j hj => (up_fld hj).trans (f2 j hj)) (up_same.trans eb)
    · have y3 : ((dwQ w2)).toInt = 0 := y3
      refine q_ic rfl ?_
      refine q_ild rfl rfl ?_
      refine q_ishl rfl ?_
      refine q_goto rfl ?_
      refine q_ior rfl ?_
      refine q_puti rfl sk_164 ?_
      show dw_ok (pr_X11_drawn K) 137 0 0 [some (.ref 0), some (.int s), some (.int x), some (.int y), some (.int l), some (.int d), some (.int c), some (.int w2), some (.int ca), some (.int i), some (.int hr)] [] (n, SH1, (dw_up I 164 6 ((I 164 6) ||| ((1 : Int32) <<< (hr &&& 31)))), J)
      refine q_inc rfl rfl rfl ?_
      show dw_ok (pr_X11_drawn K) 140 0 0 [some (.ref 0), some (.int s), some (.int x), some (.int y), some (.int l), some (.int d), some (.int c), some (.int w2), some (.int ca), some (.int i), some (.int (hr + 1))] [] (n, SH1, (dw_up I 164 6 ((I 164 6) ||| ((1 : Int32) <<< (hr &&& 31)))), J)
      show dw_ok (pr_X11_drawn K) 140 0 0 [some (.ref 0), some (.int s), some (.int x), some (.int y), some (.int l), some (.int d), some (.int c), some (.int w2), some (.int ca), some (.int i), some (.int (hr + 1))] [] (n, SH1, (dw_up I 164 6 ((I 164 6) ||| ((1 : Int32) <<< (hr &&& 31)))), J)
      obtain ⟨hx, hhx⟩ : ∃ z, z = (hr + 1) := ⟨_, rfl⟩
      rw [← hhx]
      have ehx : hx.toInt = ((k + 1 : Nat) : Int) := by rw [hhx]; exact ix_1 hh (by omega)
      refine q_goto rfl ?_
      have hc : chF d0 k = true := ch_y (by rw [← ew2]; exact y3)
      have eb : ((I 164 6) ||| ((1 : Int32) <<< (hr &&& 31))) = cSF (chF d0) (k + 1) := by
        show _ = cSF (chF d0) k ||| (if chF d0 k = true then (1 : Int32) <<< (Int32.ofNat k &&& 31) else 0)
        rw [g6, if_pos hc, ← eh]
      exact ih (k + 1) w2 hx (dw_up I 164 6 ((I 164 6) ||| ((1 : Int32) <<< (hr &&& 31)))) (by omega) ehx ew2 (fun a ha => (up_row ha).trans (r a ha)) (fun j hj => (up_fld hj).trans (f2 j hj)) (up_same.trans eb)
set_option maxRecDepth 8000 in
set_option maxHeartbeats 4000000 in
theorem dnn_loop {n : Nat} {J : Nat → Nat → Int64} {K : dw_K} {R : Nat → Int32} {s x y l d c : Int32} {cc m : Nat} (hG : GOK R) (oS : okS R s) (hc : c.toInt = cc) (hl : cc < Nn R) (hm : l.toInt = m) (hm9 : m ≤ 30) (hk : ∀ I' : Nat → Nat → Int32, K (some (.int (dnS R (nX R s) cc d m).2)) (n, SH1, I', J)) :
    ∀ (f k : Nat) (w ca i : Int32) (u : Option Value) (I : Nat → Nat → Int32), k + f = m → i.toInt = k → w = (dnS R (nX R s) cc d k).1 → ca = (dnS R (nX R s) cc d k).2 → SREL I 3 R → dw_ok (pr_X11_drawn K) 64 0 0 [some (.ref 0), some (.int s), some (.int x), some (.int y), some (.int l), some (.int d), some (.int c), some (.int w), some (.int ca), some (.int i), u] [] (n, SH1, I, J) := by
  have k0 : (0 : Int32).toInt = 0 := rfl
  have hN9 := (gok_N hG).2
  intro f
  induction f with
  | zero =>
    intro k w ca i u I hf hi hw hca hR
    have ekm : k = m := by omega
    refine q_ild rfl rfl ?_
    refine q_ild rfl rfl ?_
    refine q_icmp (c := 3) rfl (by decide) (fun y1 => ?_) (fun h => absurd (show (i).toInt < (l).toInt from h) (by omega))
    have y1 : (l).toInt ≤ (i).toInt := y1
    refine q_ald rfl rfl ?_
    refine q_ic rfl ?_
    refine q_putz rfl sk_0 (Or.inr rfl) ?_
    show dw_ok (pr_X11_drawn K) 254 0 0 [some (.ref 0), some (.int s), some (.int x), some (.int y), some (.int l), some (.int d), some (.int c), some (.int w), some (.int ca), some (.int i), u] [] (n, SH1, (dw_up I 0 17 (1 : Int32)), J)
    refine q_ild rfl rfl ?_
    rw [hca, ekm]
    exact q_iret rfl (hk _)
  | succ f ih =>
    intro k w ca i u I hf hi hw hca hR
    refine q_ild rfl rfl ?_
    refine q_ild rfl rfl ?_
    refine q_icmp (c := 3) rfl (by decide) (fun h => absurd (show (l).toInt ≤ (i).toInt from h) (by omega)) (fun y2 => ?_)
    have y2 : (i).toInt < (l).toInt := y2
    refine q_ald rfl rfl ?_
    refine q_ald rfl rfl ?_
    refine q_getr rfl sk_0 sr_0_6 ?_
    refine q_ild rfl rfl ?_
    refine q_callV (as := [.ref 164, .int s]) (rest := []) rfl rfl sk_0 rfl (Nat.le_of_ble_eq_true rfl) ?_
    refine v_startR hR (Or.inr (Or.inl rfl)) (fun s1 hs hxs hS I1 q0 _ hC h6 _ _ => ?_) (fun hno => absurd oS (okS_no hno))
    obtain ⟨-, eS⟩ := okS_of hs hxs hS
    rw [← eS] at hC
    show dw_ok (pr_X11_drawn K) 80 0 0 [some (.ref 0), some (.int s), some (.int x), some (.int y), some (.int l), some (.int d), some (.int c), some (.int w), some (.int ca), some (.int i), u] [.int (1 : Int32)] (n, SH1, I1, J)
    refine q_if (c := 1) rfl (by decide) (fun y3 => ?_) (fun h => absurd (show (1 : Int) = 0 from h) (by decide))
    have y3 : (1 : Int) ≠ 0 := y3
    refine q_ic rfl ?_
    refine q_ist rfl rfl ?_
    show dw_ok (pr_X11_drawn K) 88 0 0 [some (.ref 0), some (.int s), some (.int x), some (.int y), some (.int l), some (.int d), some (.int c), some (.int w), some (.int ca), some (.int i), some (.int (0 : Int32))] [] (n, SH1, I1, J)
    refine dnh_loop (d0 := w) (I0 := I1) (fun w2 hr I3 hw2 r3 f3 g3 => ?_) 12 0 w 0 I1 rfl rfl rfl (fun _ _ => rfl) (fun _ _ => rfl) h6
    show dw_ok (pr_X11_drawn K) 143 0 0 [some (.ref 0), some (.int s), some (.int x), some (.int y), some (.int l), some (.int d), some (.int c), some (.int w2), some (.int ca), some (.int i), some (.int hr)] [] (n, SH1, I3, J)
    refine q_ald rfl rfl ?_
    refine q_getr rfl sk_0 sr_0_6 ?_
    refine q_ic rfl ?_
    refine q_callV (as := [.int (72 : Int32)]) (rest := []) rfl rfl sk_164 rfl (Nat.le_of_ble_eq_true rfl) ?_
    have hM := csk_drawn hG hC h6 r3 f3 g3
    refine v_untilR (A := 164) (j := 72) (rt_ok (by decide)) hM (by decide) hN9 (Or.inl (show (72 : Int32).toInt = ((0 + 0 + 72 : Nat) : Int) from rfl)) (fun I2 g1 _ hK => ?_)
    show dw_ok (pr_X11_drawn K) 152 0 0 [some (.ref 0), some (.int s), some (.int x), some (.int y), some (.int l), some (.int d), some (.int c), some (.int w2), some (.int ca), some (.int i), some (.int hr)] [] (n, SH1, I2, J)
    have r2 : ∀ a, a < 164 → I2 a = I a := fun a p => (g1 a (by omega) (by omega) (by omega)).trans ((r3 a (by omega)).trans (q0 a (by omega)))
    have hR2 : SREL I2 3 R := srel_fr (S := 3) (fun a p q => r2 a (by omega)) (fun _ _ => rfl) hR
    have ew : I2 (164 + 14) cc = dnW R (nX R s) cc w := hK.2.2.1.2.1 cc hl
    show dw_ok (pr_X11_drawn K) 152 0 0 [some (.ref 0), some (.int s), some (.int x), some (.int y), some (.int l), some (.int d), some (.int c), some (.int w2), some (.int ca), some (.int i), some (.int hr)] [] (n, SH1, I2, J)
    refine q_ald rfl rfl ?_
    refine q_getr rfl sk_0 sr_0_6 ?_
    refine q_ild rfl rfl ?_
    refine q_callV (as := [.int c]) (rest := []) rfl rfl sk_164 rfl (Nat.le_of_ble_eq_true rfl) ?_
    refine v_waterOf (A := 164) (N := Nn R) (k := cc) (rt_ok (by decide)) hc hK.2.2.2.1 hN9 hl ?_
    show dw_ok (pr_X11_drawn K) 161 0 0 [some (.ref 0), some (.int s), some (.int x), some (.int y), some (.int l), some (.int d), some (.int c), some (.int w2), some (.int ca), some (.int i), some (.int hr)] [.int (I2 (164 + 14) cc)] (n, SH1, I2, J)
    rw [ew]
    obtain ⟨ww, hww⟩ : ∃ z, z = dnW R (nX R s) cc w := ⟨_, rfl⟩
    rw [← hww]
    show dw_ok (pr_X11_drawn K) 161 0 0 [some (.ref 0), some (.int s), some (.int x), some (.int y), some (.int l), some (.int d), some (.int c), some (.int w2), some (.int ca), some (.int i), some (.int hr)] [.int ww] (n, SH1, I2, J)
    refine q_ist rfl rfl ?_
    show dw_ok (pr_X11_drawn K) 163 0 0 [some (.ref 0), some (.int s), some (.int x), some (.int y), some (.int l), some (.int d), some (.int c), some (.int w2), some (.int ca), some (.int i), some (.int ww)] [] (n, SH1, I2, J)
    refine q_ild rfl rfl ?_
    refine q_ild rfl rfl ?_
    refine q_add rfl ?_
    refine q_ist rfl rfl ?_
    show dw_ok (pr_X11_drawn K) 170 0 0 [some (.ref 0), some (.int s), some (.int x), some (.int y), some (.int l), some (.int d), some (.int c), some (.int w2), some (.int (ca + ww)), some (.int i), some (.int ww)] [] (n, SH1, I2, J)
    refine q_ald rfl rfl ?_
    refine q_getr rfl sk_0 sr_0_16 ?_
    refine q_ic rfl ?_
    refine q_ild rfl rfl ?_
    refine q_if (c := 1) rfl (by decide) (fun y4 => ?_) (fun y4 => ?_)
    · have y4 : (i).toInt ≠ 0 := y4
      refine q_ald rfl rfl ?_
      refine q_getr rfl sk_0 sr_0_16 ?_
      refine q_ic rfl ?_
      refine q_xald rfl (Or.inl rfl) sk_209 sn_209 (by decide) (by decide) ?_
      refine q_ild rfl rfl ?_
      refine q_min rfl rfl ?_
      refine q_iast rfl sk_209 sn_209 (by decide) (by decide) ?_
      show dw_ok (pr_X11_drawn K) 197 0 0 [some (.ref 0), some (.int s), some (.int x), some (.int y), some (.int l), some (.int d), some (.int c), some (.int w2), some (.int (ca + ww)), some (.int i), some (.int ww)] [] (n, SH1, (dw_up I2 209 0 (fi_min (I2 209 0) ww)), J)
      refine q_ald rfl rfl ?_
      refine q_getr rfl sk_0 sr_0_16 ?_
      refine q_ic rfl ?_
      refine q_ild rfl rfl ?_
      refine q_if (c := 1) rfl (by decide) (fun y5 => ?_) (fun y5 => ?_)
      · have y5 : (i).toInt ≠ 0 := y5
        refine q_ald rfl rfl ?_
        refine q_getr rfl sk_0 sr_0_16 ?_
        refine q_ic rfl ?_
        refine q_xald rfl (Or.inl rfl) sk_209 sn_209 (by decide) (by decide) ?_
        show dw_ok (pr_X11_drawn K) 218 0 0 [some (.ref 0), some (.int s), some (.int x), some (.int y), some (.int l), some (.int d), some (.int c), some (.int w2), some (.int (ca + ww)), some (.int i), some (.int ww)] [.int ((dw_up I2 209 0 (fi_min (I2 209 0) ww)) 209 1), .int (1 : Int32), .ref 209] (n, SH1, (dw_up I2 209 0 (fi_min (I2 209 0) ww)), J)
        rw [show ((dw_up I2 209 0 (fi_min (I2 209 0) ww)) 209 1) = (I2 209 1) from (up_fld (by decide))]
        refine q_ild rfl rfl ?_
        refine q_max rfl rfl ?_
        refine q_iast rfl sk_209 sn_209 (by decide) (by decide) ?_
        show dw_ok (pr_X11_drawn K) 224 0 0 [some (.ref 0), some (.int s), some (.int x), some (.int y), some (.int l), some (.int d), some (.int c), some (.int w2), some (.int (ca + ww)), some (.int i), some (.int ww)] [] (n, SH1, (dw_up (dw_up I2 209 0 (fi_min (I2 209 0) ww)) 209 1 (fi_max (I2 209 1) ww)), J)
        refine q_ald rfl rfl ?_
        refine q_getr rfl sk_0 sr_0_16 ?_
        refine q_ic rfl ?_
        refine q_dup2 rfl ?_
        refine q_xald rfl (Or.inl rfl) sk_209 sn_209 (by decide) (by decide) ?_
        show dw_ok (pr_X11_drawn K) 231 0 0 [some (.ref 0), some (.int s), some (.int x), some (.int y), some (.int l), some (.int d), some (.int c), some (.int w2), some (.int (ca + ww)), some (.int i), some (.int ww)] [.int ((dw_up (dw_up I2 209 0 (fi_min (I2 209 0) ww)) 209 1 (fi_max (I2 209 1) ww)) 209 2), .int (2 : Int32), .ref 209] (n, SH1, (dw_up (dw_up I2 209 0 (fi_min (I2 209 0) ww)) 209 1 (fi_max (I2 209 1) ww)), J)
        rw [show ((dw_up (dw_up I2 209 0 (fi_min (I2 209 0) ww)) 209 1 (fi_max (I2 209 1) ww)) 209 2) = (I2 209 2) from ((up_fld (by decide)).trans (up_fld (by decide)))]
        refine q_ild rfl rfl ?_
        refine q_if (c := 5) rfl (by decide) (fun y6 => ?_) (fun y6 => ?_)
        · have y6 : (ww).toInt ≤ 0 := y6
          refine q_ic rfl ?_
          refine q_add rfl ?_
          refine q_iast rfl sk_209 sn_209 (by decide) (by decide) ?_
          show dw_ok (pr_X11_drawn K) 243 0 0 [some (.ref 0), some (.int s), some (.int x), some (.int y), some (.int l), some (.int d), some (.int c), some (.int w2), some (.int (ca + ww)), some (.int i), some (.int ww)] [] (n, SH1, (dw_up (dw_up (dw_up I2 209 0 (fi_min (I2 209 0) ww)) 209 1 (fi_max (I2 209 1) ww)) 209 2 ((I2 209 2) + (0 : Int32))), J)
          refine q_inc rfl rfl rfl ?_
          show dw_ok (pr_X11_drawn K) 246 0 0 [some (.ref 0), some (.int s), some (.int x), some (.int y), some (.int l), some (.int d), some (.int c), some (.int w2), some (.int (ca + ww)), some (.int (i + 1)), some (.int ww)] [] (n, SH1, (dw_up (dw_up (dw_up I2 209 0 (fi_min (I2 209 0) ww)) 209 1 (fi_max (I2 209 1) ww)) 209 2 ((I2 209 2) + (0 : Int32))), J)
          show dw_ok (pr_X11_drawn K) 246 0 0 [some (.ref 0), some (.int s), some (.int x), some (.int y), some (.int l), some (.int d), some (.int c), some (.int w2), some (.int (ca + ww)), some (.int (i + 1)), some (.int ww)] [] (n, SH1, (dw_up (dw_up (dw_up I2 209 0 (fi_min (I2 209 0) ww)) 209 1 (fi_max (I2 209 1) ww)) 209 2 ((I2 209 2) + (0 : Int32))), J)
          obtain ⟨iz, hiz⟩ : ∃ z, z = (i + 1) := ⟨_, rfl⟩
          rw [← hiz]
          have eiz : iz.toInt = ((k + 1 : Nat) : Int) := by rw [hiz]; exact ix_1 hi (by omega)
          refine q_goto rfl ?_
          have hR3 : SREL (dw_up (dw_up (dw_up I2 209 0 (fi_min (I2 209 0) ww)) 209 1 (fi_max (I2 209 1) ww)) 209 2 ((I2 209 2) + (0 : Int32))) 3 R := srel_fr (S := 3) (fun a p q => ((up_row (by omega)).trans ((up_row (by omega)).trans ((up_row (by omega)).trans (rfl))))) (fun _ _ => rfl) hR2
          exact ih (k + 1) w2 (ca + ww) iz _ (dw_up (dw_up (dw_up I2 209 0 (fi_min (I2 209 0) ww)) 209 1 (fi_max (I2 209 1) ww)) 209 2 ((I2 209 2) + (0 : Int32))) (by omega) eiz (by rw [hw2, hw]; rfl) (by rw [hca, hww, hw]; rfl) hR3
        · have y6 : 0 < (ww).toInt := y6
          refine q_ic rfl ?_
          refine q_goto rfl ?_
          refine q_add rfl ?_
          refine q_iast rfl sk_209 sn_209 (by decide) (by decide) ?_
          show dw_ok (pr_X11_drawn K) 243 0 0 [some (.ref 0), some (.int s), some (.int x), some (.int y), some (.int l), some (.int d), some (.int c), some (.int w2), some (.int (ca + ww)), some (.int i), some (.int ww)] [] (n, SH1, (dw_up (dw_up (dw_up I2 209 0 (fi_min (I2 209 0) ww)) 209 1 (fi_max (I2 209 1) ww)) 209 2 ((I2 209 2) + (1 : Int32))), J)
          refine q_inc rfl rfl rfl ?_
          show dw_ok (pr_X11_drawn K) 246 0 0 [some (.ref 0), some (.int s), some (.int x), some (.int y), some (.int l), some (.int d), some (.int c), some (.int w2), some (.int (ca + ww)), some (.int (i + 1)), some (.int ww)] [] (n, SH1, (dw_up (dw_up (dw_up I2 209 0 (fi_min (I2 209 0) ww)) 209 1 (fi_max (I2 209 1) ww)) 209 2 ((I2 209 2) + (1 : Int32))), J)
          show dw_ok (pr_X11_drawn K) 246 0 0 [some (.ref 0), some (.int s), some (.int x), some (.int y), some (.int l), some (.int d), some (.int c), some (.int w2), some (.int (ca + ww)), some (.int (i + 1)), some (.int ww)] [] (n, SH1, (dw_up (dw_up (dw_up I2 209 0 (fi_min (I2 209 0) ww)) 209 1 (fi_max (I2 209 1) ww)) 209 2 ((I2 209 2) + (1 : Int32))), J)
          obtain ⟨iz, hiz⟩ : ∃ z, z = (i + 1) := ⟨_, rfl⟩
          rw [← hiz]
          have eiz : iz.toInt = ((k + 1 : Nat) : Int) := by rw [hiz]; exact ix_1 hi (by omega)
          refine q_goto rfl ?_
          have hR3 : SREL (dw_up (dw_up (dw_up I2 209 0 (fi_min (I2 209 0) ww)) 209 1 (fi_max (I2 209 1) ww)) 209 2 ((I2 209 2) + (1 : Int32))) 3 R := srel_fr (S := 3) (fun a p q => ((up_row (by omega)).trans ((up_row (by omega)).trans ((up_row (by omega)).trans (rfl))))) (fun _ _ => rfl) hR2
          exact ih (k + 1) w2 (ca + ww) iz _ (dw_up (dw_up (dw_up I2 209 0 (fi_min (I2 209 0) ww)) 209 1 (fi_max (I2 209 1) ww)) 209 2 ((I2 209 2) + (1 : Int32))) (by omega) eiz (by rw [hw2, hw]; rfl) (by rw [hca, hww, hw]; rfl) hR3
      · have y5 : (i).toInt = 0 := y5
        refine q_ild rfl rfl ?_
        refine q_goto rfl ?_
        refine q_iast rfl sk_209 sn_209 (by decide) (by decide) ?_
        show dw_ok (pr_X11_drawn K) 224 0 0 [some (.ref 0), some (.int s), some (.int x), some (.int y), some (.int l), some (.int d), some (.int c), some (.int w2), some (.int (ca + ww)), some (.int i), some (.int ww)] [] (n, SH1, (dw_up (dw_up I2 209 0 (fi_min (I2 209 0) ww)) 209 1 ww), J)
        refine q_ald rfl rfl ?_
        refine q_getr rfl sk_0 sr_0_16 ?_
        refine q_ic rfl ?_
        refine q_dup2 rfl ?_
        refine q_xald rfl (Or.inl rfl) sk_209 sn_209 (by decide) (by decide) ?_
        show dw_ok (pr_X11_drawn K) 231 0 0 [some (.ref 0), some (.int s), some (.int x), some (.int y), some (.int l), some (.int d), some (.int c), some (.int w2), some (.int (ca + ww)), some (.int i), some (.int ww)] [.int ((dw_up (dw_up I2 209 0 (fi_min (I2 209 0) ww)) 209 1 ww) 209 2), .int (2 : Int32), .ref 209] (n, SH1, (dw_up (dw_up I2 209 0 (fi_min (I2 209 0) ww)) 209 1 ww), J)
        rw [show ((dw_up (dw_up I2 209 0 (fi_min (I2 209 0) ww)) 209 1 ww) 209 2) = (I2 209 2) from ((up_fld (by decide)).trans (up_fld (by decide)))]
        refine q_ild rfl rfl ?_
        refine q_if (c := 5) rfl (by decide) (fun y7 => ?_) (fun y7 => ?_)
        · have y7 : (ww).toInt ≤ 0 := y7
          refine q_ic rfl ?_
          refine q_add rfl ?_
          refine q_iast rfl sk_209 sn_209 (by decide) (by decide) ?_
          show dw_ok (pr_X11_drawn K) 243 0 0 [some (.ref 0), some (.int s), some (.int x), some (.int y), some (.int l), some (.int d), some (.int c), some (.int w2), some (.int (ca + ww)), some (.int i), some (.int ww)] [] (n, SH1, (dw_up (dw_up (dw_up I2 209 0 (fi_min (I2 209 0) ww)) 209 1 ww) 209 2 ((I2 209 2) + (0 : Int32))), J)
          refine q_inc rfl rfl rfl ?_
          show dw_ok (pr_X11_drawn K) 246 0 0 [some (.ref 0), some (.int s), some (.int x), some (.int y), some (.int l), some (.int d), some (.int c), some (.int w2), some (.int (ca + ww)), some (.int (i + 1)), some (.int ww)] [] (n, SH1, (dw_up (dw_up (dw_up I2 209 0 (fi_min (I2 209 0) ww)) 209 1 ww) 209 2 ((I2 209 2) + (0 : Int32))), J)
          show dw_ok (pr_X11_drawn K) 246 0 0 [some (.ref 0), some (.int s), some (.int x), some (.int y), some (.int l), some (.int d), some (.int c), some (.int w2), some (.int (ca + ww)), some (.int (i + 1)), some (.int ww)] [] (n, SH1, (dw_up (dw_up (dw_up I2 209 0 (fi_min (I2 209 0) ww)) 209 1 ww) 209 2 ((I2 209 2) + (0 : Int32))), J)
          obtain ⟨iz, hiz⟩ : ∃ z, z = (i + 1) := ⟨_, rfl⟩
          rw [← hiz]
          have eiz : iz.toInt = ((k + 1 : Nat) : Int) := by rw [hiz]; exact ix_1 hi (by omega)
          refine q_goto rfl ?_
          have hR3 : SREL (dw_up (dw_up (dw_up I2 209 0 (fi_min (I2 209 0) ww)) 209 1 ww) 209 2 ((I2 209 2) + (0 : Int32))) 3 R := srel_fr (S := 3) (fun a p q => ((up_row (by omega)).trans ((up_row (by omega)).trans ((up_row (by omega)).trans (rfl))))) (fun _ _ => rfl) hR2
          exact ih (k + 1) w2 (ca + ww) iz _ (dw_up (dw_up (dw_up I2 209 0 (fi_min (I2 209 0) ww)) 209 1 ww) 209 2 ((I2 209 2) + (0 : Int32))) (by omega) eiz (by rw [hw2, hw]; rfl) (by rw [hca, hww, hw]; rfl) hR3
        · have y7 : 0 < (ww).toInt := y7
          refine q_ic rfl ?_
          refine q_goto rfl ?_
          refine q_add rfl ?_
          refine q_iast rfl sk_209 sn_209 (by decide) (by decide) ?_
          show dw_ok (pr_X11_drawn K) 243 0 0 [some (.ref 0), some (.int s), some (.int x), some (.int y), some (.int l), some (.int d), some (.int c), some (.int w2), some (.int (ca + ww)), some (.int i), some (.int ww)] [] (n, SH1, (dw_up (dw_up (dw_up I2 209 0 (fi_min (I2 209 0) ww)) 209 1 ww) 209 2 ((I2 209 2) + (1 : Int32))), J)
          refine q_inc rfl rfl rfl ?_
          show dw_ok (pr_X11_drawn K) 246 0 0 [some (.ref 0), some (.int s), some (.int x), some (.int y), some (.int l), some (.int d), some (.int c), some (.int w2), some (.int (ca + ww)), some (.int (i + 1)), some (.int ww)] [] (n, SH1, (dw_up (dw_up (dw_up I2 209 0 (fi_min (I2 209 0) ww)) 209 1 ww) 209 2 ((I2 209 2) + (1 : Int32))), J)
          show dw_ok (pr_X11_drawn K) 246 0 0 [some (.ref 0), some (.int s), some (.int x), some (.int y), some (.int l), some (.int d), some (.int c), some (.int w2), some (.int (ca + ww)), some (.int (i + 1)), some (.int ww)] [] (n, SH1, (dw_up (dw_up (dw_up I2 209 0 (fi_min (I2 209 0) ww)) 209 1 ww) 209 2 ((I2 209 2) + (1 : Int32))), J)
          obtain ⟨iz, hiz⟩ : ∃ z, z = (i + 1) := ⟨_, rfl⟩
          rw [← hiz]
          have eiz : iz.toInt = ((k + 1 : Nat) : Int) := by rw [hiz]; exact ix_1 hi (by omega)
          refine q_goto rfl ?_
          have hR3 : SREL (dw_up (dw_up (dw_up I2 209 0 (fi_min (I2 209 0) ww)) 209 1 ww) 209 2 ((I2 209 2) + (1 : Int32))) 3 R := srel_fr (S := 3) (fun a p q => ((up_row (by omega)).trans ((up_row (by omega)).trans ((up_row (by omega)).trans (rfl))))) (fun _ _ => rfl) hR2
          exact ih (k + 1) w2 (ca + ww) iz _ (dw_up (dw_up (dw_up I2 209 0 (fi_min (I2 209 0) ww)) 209 1 ww) 209 2 ((I2 209 2) + (1 : Int32))) (by omega) eiz (by rw [hw2, hw]; rfl) (by rw [hca, hww, hw]; rfl) hR3
    · have y4 : (i).toInt = 0 := y4
      refine q_ild rfl rfl ?_
      refine q_goto rfl ?_
      refine q_iast rfl sk_209 sn_209 (by decide) (by decide) ?_
      show dw_ok (pr_X11_drawn K) 197 0 0 [some (.ref 0), some (.int s), some (.int x), some (.int y), some (.int l), some (.int d), some (.int c), some (.int w2), some (.int (ca + ww)), some (.int i), some (.int ww)] [] (n, SH1, (dw_up I2 209 0 ww), J)
      refine q_ald rfl rfl ?_
      refine q_getr rfl sk_0 sr_0_16 ?_
      refine q_ic rfl ?_
      refine q_ild rfl rfl ?_
      refine q_if (c := 1) rfl (by decide) (fun y8 => ?_) (fun y8 => ?_)
      · have y8 : (i).toInt ≠ 0 := y8
        refine q_ald rfl rfl ?_
        refine q_getr rfl sk_0 sr_0_16 ?_
        refine q_ic rfl ?_
        refine q_xald rfl (Or.inl rfl) sk_209 sn_209 (by decide) (by decide) ?_
        show dw_ok (pr_X11_drawn K) 218 0 0 [some (.ref 0), some (.int s), some (.int x), some (.int y), some (.int l), some (.int d), some (.int c), some (.int w2), some (.int (ca + ww)), some (.int i), some (.int ww)] [.int ((dw_up I2 209 0 ww) 209 1), .int (1 : Int32), .ref 209] (n, SH1, (dw_up I2 209 0 ww), J)
        rw [show ((dw_up I2 209 0 ww) 209 1) = (I2 209 1) from (up_fld (by decide))]
        refine q_ild rfl rfl ?_
        refine q_max rfl rfl ?_
        refine q_iast rfl sk_209 sn_209 (by decide) (by decide) ?_
        show dw_ok (pr_X11_drawn K) 224 0 0 [some (.ref 0), some (.int s), some (.int x), some (.int y), some (.int l), some (.int d), some (.int c), some (.int w2), some (.int (ca + ww)), some (.int i), some (.int ww)] [] (n, SH1, (dw_up (dw_up I2 209 0 ww) 209 1 (fi_max (I2 209 1) ww)), J)
        refine q_ald rfl rfl ?_
        refine q_getr rfl sk_0 sr_0_16 ?_
        refine q_ic rfl ?_
        refine q_dup2 rfl ?_
        refine q_xald rfl (Or.inl rfl) sk_209 sn_209 (by decide) (by decide) ?_
        show dw_ok (pr_X11_drawn K) 231 0 0 [some (.ref 0), some (.int s), some (.int x), some (.int y), some (.int l), some (.int d), some (.int c), some (.int w2), some (.int (ca + ww)), some (.int i), some (.int ww)] [.int ((dw_up (dw_up I2 209 0 ww) 209 1 (fi_max (I2 209 1) ww)) 209 2), .int (2 : Int32), .ref 209] (n, SH1, (dw_up (dw_up I2 209 0 ww) 209 1 (fi_max (I2 209 1) ww)), J)
        rw [show ((dw_up (dw_up I2 209 0 ww) 209 1 (fi_max (I2 209 1) ww)) 209 2) = (I2 209 2) from ((up_fld (by decide)).trans (up_fld (by decide)))]
        refine q_ild rfl rfl ?_
        refine q_if (c := 5) rfl (by decide) (fun y9 => ?_) (fun y9 => ?_)
        · have y9 : (ww).toInt ≤ 0 := y9
          refine q_ic rfl ?_
          refine q_add rfl ?_
          refine q_iast rfl sk_209 sn_209 (by decide) (by decide) ?_
          show dw_ok (pr_X11_drawn K) 243 0 0 [some (.ref 0), some (.int s), some (.int x), some (.int y), some (.int l), some (.int d), some (.int c), some (.int w2), some (.int (ca + ww)), some (.int i), some (.int ww)] [] (n, SH1, (dw_up (dw_up (dw_up I2 209 0 ww) 209 1 (fi_max (I2 209 1) ww)) 209 2 ((I2 209 2) + (0 : Int32))), J)
          refine q_inc rfl rfl rfl ?_
          show dw_ok (pr_X11_drawn K) 246 0 0 [some (.ref 0), some (.int s), some (.int x), some (.int y), some (.int l), some (.int d), some (.int c), some (.int w2), some (.int (ca + ww)), some (.int (i + 1)), some (.int ww)] [] (n, SH1, (dw_up (dw_up (dw_up I2 209 0 ww) 209 1 (fi_max (I2 209 1) ww)) 209 2 ((I2 209 2) + (0 : Int32))), J)
          show dw_ok (pr_X11_drawn K) 246 0 0 [some (.ref 0), some (.int s), some (.int x), some (.int y), some (.int l), some (.int d), some (.int c), some (.int w2), some (.int (ca + ww)), some (.int (i + 1)), some (.int ww)] [] (n, SH1, (dw_up (dw_up (dw_up I2 209 0 ww) 209 1 (fi_max (I2 209 1) ww)) 209 2 ((I2 209 2) + (0 : Int32))), J)
          obtain ⟨iz, hiz⟩ : ∃ z, z = (i + 1) := ⟨_, rfl⟩
          rw [← hiz]
          have eiz : iz.toInt = ((k + 1 : Nat) : Int) := by rw [hiz]; exact ix_1 hi (by omega)
          refine q_goto rfl ?_
          have hR3 : SREL (dw_up (dw_up (dw_up I2 209 0 ww) 209 1 (fi_max (I2 209 1) ww)) 209 2 ((I2 209 2) + (0 : Int32))) 3 R := srel_fr (S := 3) (fun a p q => ((up_row (by omega)).trans ((up_row (by omega)).trans ((up_row (by omega)).trans (rfl))))) (fun _ _ => rfl) hR2
          exact ih (k + 1) w2 (ca + ww) iz _ (dw_up (dw_up (dw_up I2 209 0 ww) 209 1 (fi_max (I2 209 1) ww)) 209 2 ((I2 209 2) + (0 : Int32))) (by omega) eiz (by rw [hw2, hw]; rfl) (by rw [hca, hww, hw]; rfl) hR3
        · have y9 : 0 < (ww).toInt := y9
          refine q_ic rfl ?_
          refine q_goto rfl ?_
          refine q_add rfl ?_
          refine q_iast rfl sk_209 sn_209 (by decide) (by decide) ?_
          show dw_ok (pr_X11_drawn K) 243 0 0 [some (.ref 0), some (.int s), some (.int x), some (.int y), some (.int l), some (.int d), some (.int c), some (.int w2), some (.int (ca + ww)), some (.int i), some (.int ww)] [] (n, SH1, (dw_up (dw_up (dw_up I2 209 0 ww) 209 1 (fi_max (I2 209 1) ww)) 209 2 ((I2 209 2) + (1 : Int32))), J)
          refine q_inc rfl rfl rfl ?_
          show dw_ok (pr_X11_drawn K) 246 0 0 [some (.ref 0), some (.int s), some (.int x), some (.int y), some (.int l), some (.int d), some (.int c), some (.int w2), some (.int (ca + ww)), some (.int (i + 1)), some (.int ww)] [] (n, SH1, (dw_up (dw_up (dw_up I2 209 0 ww) 209 1 (fi_max (I2 209 1) ww)) 209 2 ((I2 209 2) + (1 : Int32))), J)
          show dw_ok (pr_X11_drawn K) 246 0 0 [some (.ref 0), some (.int s), some (.int x), some (.int y), some (.int l), some (.int d), some (.int c), some (.int w2), some (.int (ca + ww)), some (.int (i + 1)), some (.int ww)] [] (n, SH1, (dw_up (dw_up (dw_up I2 209 0 ww) 209 1 (fi_max (I2 209 1) ww)) 209 2 ((I2 209 2) + (1 : Int32))), J)
          obtain ⟨iz, hiz⟩ : ∃ z, z = (i + 1) := ⟨_, rfl⟩
          rw [← hiz]
          have eiz : iz.toInt = ((k + 1 : Nat) : Int) := by rw [hiz]; exact ix_1 hi (by omega)
          refine q_goto rfl ?_
          have hR3 : SREL (dw_up (dw_up (dw_up I2 209 0 ww) 209 1 (fi_max (I2 209 1) ww)) 209 2 ((I2 209 2) + (1 : Int32))) 3 R := srel_fr (S := 3) (fun a p q => ((up_row (by omega)).trans ((up_row (by omega)).trans ((up_row (by omega)).trans (rfl))))) (fun _ _ => rfl) hR2
          exact ih (k + 1) w2 (ca + ww) iz _ (dw_up (dw_up (dw_up I2 209 0 ww) 209 1 (fi_max (I2 209 1) ww)) 209 2 ((I2 209 2) + (1 : Int32))) (by omega) eiz (by rw [hw2, hw]; rfl) (by rw [hca, hww, hw]; rfl) hR3
      · have y8 : (i).toInt = 0 := y8
        refine q_ild rfl rfl ?_
        refine q_goto rfl ?_
        refine q_iast rfl sk_209 sn_209 (by decide) (by decide) ?_
        show dw_ok (pr_X11_drawn K) 224 0 0 [some (.ref 0), some (.int s), some (.int x), some (.int y), some (.int l), some (.int d), some (.int c), some (.int w2), some (.int (ca + ww)), some (.int i), some (.int ww)] [] (n, SH1, (dw_up (dw_up I2 209 0 ww) 209 1 ww), J)
        refine q_ald rfl rfl ?_
        refine q_getr rfl sk_0 sr_0_16 ?_
        refine q_ic rfl ?_
        refine q_dup2 rfl ?_
        refine q_xald rfl (Or.inl rfl) sk_209 sn_209 (by decide) (by decide) ?_
        show dw_ok (pr_X11_drawn K) 231 0 0 [some (.ref 0), some (.int s), some (.int x), some (.int y), some (.int l), some (.int d), some (.int c), some (.int w2), some (.int (ca + ww)), some (.int i), some (.int ww)] [.int ((dw_up (dw_up I2 209 0 ww) 209 1 ww) 209 2), .int (2 : Int32), .ref 209] (n, SH1, (dw_up (dw_up I2 209 0 ww) 209 1 ww), J)
        rw [show ((dw_up (dw_up I2 209 0 ww) 209 1 ww) 209 2) = (I2 209 2) from ((up_fld (by decide)).trans (up_fld (by decide)))]
        refine q_ild rfl rfl ?_
        refine q_if (c := 5) rfl (by decide) (fun y10 => ?_) (fun y10 => ?_)
        · have y10 : (ww).toInt ≤ 0 := y10
          refine q_ic rfl ?_
          refine q_add rfl ?_
          refine q_iast rfl sk_209 sn_209 (by decide) (by decide) ?_
          show dw_ok (pr_X11_drawn K) 243 0 0 [some (.ref 0), some (.int s), some (.int x), some (.int y), some (.int l), some (.int d), some (.int c), some (.int w2), some (.int (ca + ww)), some (.int i), some (.int ww)] [] (n, SH1, (dw_up (dw_up (dw_up I2 209 0 ww) 209 1 ww) 209 2 ((I2 209 2) + (0 : Int32))), J)
          refine q_inc rfl rfl rfl ?_
          show dw_ok (pr_X11_drawn K) 246 0 0 [some (.ref 0), some (.int s), some (.int x), some (.int y), some (.int l), some (.int d), some (.int c), some (.int w2), some (.int (ca + ww)), some (.int (i + 1)), some (.int ww)] [] (n, SH1, (dw_up (dw_up (dw_up I2 209 0 ww) 209 1 ww) 209 2 ((I2 209 2) + (0 : Int32))), J)
          show dw_ok (pr_X11_drawn K) 246 0 0 [some (.ref 0), some (.int s), some (.int x), some (.int y), some (.int l), some (.int d), some (.int c), some (.int w2), some (.int (ca + ww)), some (.int (i + 1)), some (.int ww)] [] (n, SH1, (dw_up (dw_up (dw_up I2 209 0 ww) 209 1 ww) 209 2 ((I2 209 2) + (0 : Int32))), J)
          obtain ⟨iz, hiz⟩ : ∃ z, z = (i + 1) := ⟨_, rfl⟩
          rw [← hiz]
          have eiz : iz.toInt = ((k + 1 : Nat) : Int) := by rw [hiz]; exact ix_1 hi (by omega)
          refine q_goto rfl ?_
          have hR3 : SREL (dw_up (dw_up (dw_up I2 209 0 ww) 209 1 ww) 209 2 ((I2 209 2) + (0 : Int32))) 3 R := srel_fr (S := 3) (fun a p q => ((up_row (by omega)).trans ((up_row (by omega)).trans ((up_row (by omega)).trans (rfl))))) (fun _ _ => rfl) hR2
          exact ih (k + 1) w2 (ca + ww) iz _ (dw_up (dw_up (dw_up I2 209 0 ww) 209 1 ww) 209 2 ((I2 209 2) + (0 : Int32))) (by omega) eiz (by rw [hw2, hw]; rfl) (by rw [hca, hww, hw]; rfl) hR3
        · have y10 : 0 < (ww).toInt := y10
          refine q_ic rfl ?_
          refine q_goto rfl ?_
          refine q_add rfl ?_
          refine q_iast rfl sk_209 sn_209 (by decide) (by decide) ?_
          show dw_ok (pr_X11_drawn K) 243 0 0 [some (.ref 0), some (.int s), some (.int x), some (.int y), some (.int l), some (.int d), some (.int c), some (.int w2), some (.int (ca + ww)), some (.int i), some (.int ww)] [] (n, SH1, (dw_up (dw_up (dw_up I2 209 0 ww) 209 1 ww) 209 2 ((I2 209 2) + (1 : Int32))), J)
          refine q_inc rfl rfl rfl ?_
          show dw_ok (pr_X11_drawn K) 246 0 0 [some (.ref 0), some (.int s), some (.int x), some (.int y), some (.int l), some (.int d), some (.int c), some (.int w2), some (.int (ca + ww)), some (.int (i + 1)), some (.int ww)] [] (n, SH1, (dw_up (dw_up (dw_up I2 209 0 ww) 209 1 ww) 209 2 ((I2 209 2) + (1 : Int32))), J)
          show dw_ok (pr_X11_drawn K) 246 0 0 [some (.ref 0), some (.int s), some (.int x), some (.int y), some (.int l), some (.int d), some (.int c), some (.int w2), some (.int (ca + ww)), some (.int (i + 1)), some (.int ww)] [] (n, SH1, (dw_up (dw_up (dw_up I2 209 0 ww) 209 1 ww) 209 2 ((I2 209 2) + (1 : Int32))), J)
          obtain ⟨iz, hiz⟩ : ∃ z, z = (i + 1) := ⟨_, rfl⟩
          rw [← hiz]
          have eiz : iz.toInt = ((k + 1 : Nat) : Int) := by rw [hiz]; exact ix_1 hi (by omega)
          refine q_goto rfl ?_
          have hR3 : SREL (dw_up (dw_up (dw_up I2 209 0 ww) 209 1 ww) 209 2 ((I2 209 2) + (1 : Int32))) 3 R := srel_fr (S := 3) (fun a p q => ((up_row (by omega)).trans ((up_row (by omega)).trans ((up_row (by omega)).trans (rfl))))) (fun _ _ => rfl) hR2
          exact ih (k + 1) w2 (ca + ww) iz _ (dw_up (dw_up (dw_up I2 209 0 ww) 209 1 ww) 209 2 ((I2 209 2) + (1 : Int32))) (by omega) eiz (by rw [hw2, hw]; rfl) (by rw [hca, hww, hw]; rfl) hR3
set_option maxRecDepth 8000 in
theorem v_cdrawn {n : Nat} {I : Nat → Nat → Int32} {J : Nat → Nat → Int64} {K : dw_K} {R : Nat → Int32} (hR : SREL I 3 R) {a1 a2 a3 a4 a5 : Int32} (hk : ∀ (w : Int32) (I' : Nat → Nat → Int32), w.toInt = aDrawn R a1 a2 a3 a4 a5 → K (some (.int w)) (n, SH1, I', J)) : t_X11_drawn [.ref 0, .int a1, .int a2, .int a3, .int a4, .int a5] (n, SH1, I, J) K := by
  have cm1 : (-1 : Int32).toInt = -1 := rfl
  have k0 : (0 : Int32).toInt = 0 := rfl
  have k1 : (1 : Int32).toInt = 1 := rfl
  refine q_body (Nat.le_of_ble_eq_true rfl) ?_
  refine q_ald rfl rfl ?_
  refine q_getr rfl sk_0 sr_0_1 ?_
  refine q_getr rfl sk_3 sr_3_1 ?_
  refine q_ild rfl rfl ?_
  refine q_ild rfl rfl ?_
  refine q_callV (as := [.int a2, .int a3]) (rest := []) rfl rfl sk_4 rfl (Nat.le_of_ble_eq_true rfl) ?_
  refine v_cellAt2 (R := R) hR.1 ((rg_3 hR).1 0 (by decide)) ((rg_3 hR).1 1 (by decide)) (fun k2 c1 ec1 => ?_) (fun k2 => ?_)
  · show dw_ok (pr_X11_drawn K) 12 0 0 [some (.ref 0), some (.int a1), some (.int a2), some (.int a3), some (.int a4), some (.int a5), none, none, none, none, none] [.int c1] (n, SH1, I, J)
    refine q_ist rfl rfl ?_
    show dw_ok (pr_X11_drawn K) 14 0 0 [some (.ref 0), some (.int a1), some (.int a2), some (.int a3), some (.int a4), some (.int a5), some (.int c1), none, none, none, none] [] (n, SH1, I, J)
    refine q_ild rfl rfl ?_
    refine q_ic rfl ?_
    refine q_icmp (c := 0) rfl (by decide) (fun h => absurd (show (c1).toInt = (-1 : Int) from h) (by have := ec1; omega)) (fun y3 => ?_)
    have y3 : (c1).toInt ≠ (-1 : Int) := y3
    refine q_ild rfl rfl ?_
    refine q_ic rfl ?_
    refine q_icmp (c := 2) rfl (by decide) (fun y4 => ?_) (fun y4 => ?_)
    · have y4 : (a4).toInt < (1 : Int) := y4
      refine q_ic rfl ?_
      exact q_iret rfl (hk _ _ (cm1.trans (drawn_n (fun q => by have := q.2.2; omega)).symm))
    · have y4 : (1 : Int) ≤ (a4).toInt := y4
      refine q_ild rfl rfl ?_
      refine q_ic rfl ?_
      refine q_icmp (c := 4) rfl (by decide) (fun y5 => ?_) (fun y5 => ?_)
      · have y5 : (30 : Int) < (a4).toInt := y5
        refine q_ic rfl ?_
        exact q_iret rfl (hk _ _ (cm1.trans (drawn_n (fun q => by have := q.2.2; omega)).symm))
      · have y5 : (a4).toInt ≤ (30 : Int) := y5
        refine q_ald rfl rfl ?_
        refine q_ald rfl rfl ?_
        refine q_getr rfl sk_0 sr_0_6 ?_
        refine q_ild rfl rfl ?_
        refine q_callV (as := [.ref 164, .int a1]) (rest := []) rfl rfl sk_0 rfl (Nat.le_of_ble_eq_true rfl) ?_
        refine v_startR hR (Or.inr (Or.inl rfl)) (fun s hs hxs hS I1 q0 _ hC _ _ _ => ?_) (fun hno => ?_)
        · show dw_ok (pr_X11_drawn K) 42 0 0 [some (.ref 0), some (.int a1), some (.int a2), some (.int a3), some (.int a4), some (.int a5), some (.int c1), none, none, none, none] [.int (1 : Int32)] (n, SH1, I1, J)
          refine q_if (c := 1) rfl (by decide) (fun y6 => ?_) (fun h => absurd (show (1 : Int) = 0 from h) (by decide))
          have y6 : (1 : Int) ≠ 0 := y6
          refine q_ild rfl rfl ?_
          refine q_ist rfl rfl ?_
          show dw_ok (pr_X11_drawn K) 51 0 0 [some (.ref 0), some (.int a1), some (.int a2), some (.int a3), some (.int a4), some (.int a5), some (.int c1), some (.int a5), none, none, none] [] (n, SH1, I1, J)
          refine q_ic rfl ?_
          refine q_ist rfl rfl ?_
          show dw_ok (pr_X11_drawn K) 54 0 0 [some (.ref 0), some (.int a1), some (.int a2), some (.int a3), some (.int a4), some (.int a5), some (.int c1), some (.int a5), some (.int (0 : Int32)), none, none] [] (n, SH1, I1, J)
          refine q_ald rfl rfl ?_
          refine q_getr rfl sk_0 sr_0_16 ?_
          refine q_ic rfl ?_
          refine q_ic rfl ?_
          refine q_iast rfl sk_209 sn_209 (by decide) (by decide) ?_
          show dw_ok (pr_X11_drawn K) 61 0 0 [some (.ref 0), some (.int a1), some (.int a2), some (.int a3), some (.int a4), some (.int a5), some (.int c1), some (.int a5), some (.int (0 : Int32)), none, none] [] (n, SH1, (dw_up I1 209 2 (0 : Int32)), J)
          refine q_ic rfl ?_
          refine q_ist rfl rfl ?_
          show dw_ok (pr_X11_drawn K) 64 0 0 [some (.ref 0), some (.int a1), some (.int a2), some (.int a3), some (.int a4), some (.int a5), some (.int c1), some (.int a5), some (.int (0 : Int32)), some (.int (0 : Int32)), none] [] (n, SH1, (dw_up I1 209 2 (0 : Int32)), J)
          obtain ⟨oS, eS⟩ := okS_of hs hxs hS
          have hR3 : SREL (dw_up I1 209 2 (0 : Int32)) 3 R := srel_fr (S := 3) (fun a p q => ((up_row (by omega)).trans (q0 a (by omega)))) (fun _ _ => rfl) hR
          exact dnn_loop (cc := cN R a2 a3) (m := a4.toInt.toNat) hR.1 oS ec1 (cN_lt k2) (by omega) (by omega) (fun I' => hk _ I' (drawn_y ⟨oS, k2, by omega, by omega⟩).symm) a4.toInt.toNat 0 a5 0 0 _ (dw_up I1 209 2 (0 : Int32)) (by omega) rfl rfl rfl hR3
        · show dw_ok (pr_X11_drawn K) 42 0 0 [some (.ref 0), some (.int a1), some (.int a2), some (.int a3), some (.int a4), some (.int a5), some (.int c1), none, none, none, none] [.int (0 : Int32)] (n, SH1, I, J)
          refine q_if (c := 1) rfl (by decide) (fun h => absurd (show (0 : Int) ≠ 0 from h) (by decide)) (fun y7 => ?_)
          have y7 : (0 : Int) = 0 := y7
          refine q_ic rfl ?_
          exact q_iret rfl (hk _ _ (cm1.trans (drawn_n (fun q => okS_no hno q.1)).symm))
  · show dw_ok (pr_X11_drawn K) 12 0 0 [some (.ref 0), some (.int a1), some (.int a2), some (.int a3), some (.int a4), some (.int a5), none, none, none, none, none] [.int (-1 : Int32)] (n, SH1, I, J)
    refine q_ist rfl rfl ?_
    show dw_ok (pr_X11_drawn K) 14 0 0 [some (.ref 0), some (.int a1), some (.int a2), some (.int a3), some (.int a4), some (.int a5), some (.int (-1 : Int32)), none, none, none, none] [] (n, SH1, I, J)
    refine q_ild rfl rfl ?_
    refine q_ic rfl ?_
    refine q_icmp (c := 0) rfl (by decide) (fun y8 => ?_) (fun h => absurd (show (-1 : Int) ≠ (-1 : Int) from h) (by omega))
    have y8 : (-1 : Int) = (-1 : Int) := y8
    refine q_ic rfl ?_
    exact q_iret rfl (hk _ _ (cm1.trans (drawn_n (fun q => k2 q.2.1)).symm))
set_option maxRecDepth 8000 in
theorem v_draw {n : Nat} {I : Nat → Nat → Int32} {J : Nat → Nat → Int64} {K : dw_K} {d : Int32} (hd : I 404 52 = d) (hk : K (some (.int (dwQ (dwN d)))) (n, SH1, dw_up I 404 52 (dwN d), J)) : t_X12_draw [.ref 404, .int 4] (n, SH1, I, J) K := by
  refine q_body (Nat.le_of_ble_eq_true rfl) ?_
  refine q_ald rfl rfl ?_
  refine q_ald rfl rfl ?_
  refine q_geti rfl sk_404 ?_
  show dw_ok (pr_X12_draw K) 5 0 0 [some (.ref 404), some (.int 4)] [.int (I 404 52), .ref 404] (n, SH1, I, J)
  rw [hd]
  refine q_ic rfl ?_
  refine q_mul rfl ?_
  refine q_ic rfl ?_
  refine q_add rfl ?_
  refine q_puti rfl sk_404 ?_
  show dw_ok (pr_X12_draw K) 16 0 0 [some (.ref 404), some (.int 4)] [] (n, SH1, dw_up I 404 52 (dwN d), J)
  refine q_ald rfl rfl ?_
  refine q_geti rfl sk_404 ?_
  show dw_ok (pr_X12_draw K) 20 0 0 [some (.ref 404), some (.int 4)] [.int (dw_up I 404 52 (dwN d) 404 52)] (n, SH1, dw_up I 404 52 (dwN d), J)
  rw [show dw_up I 404 52 (dwN d) 404 52 = dwN d from up_same]
  refine q_ic rfl ?_
  refine q_iushr rfl ?_
  refine q_ild rfl rfl ?_
  refine q_rem rfl (by decide) ?_
  exact q_iret rfl hk
set_option maxRecDepth 8000 in
theorem mdh_loop {n : Nat} {J : Nat → Nat → Int64} {K : dw_K} {s x y l d ca i d0 : Int32} {I0 : Nat → Nat → Int32}
    (hk : ∀ (hr : Int32) (I' : Nat → Nat → Int32), (∀ a, a ≠ 404 → a ≠ 411 → I' a = I0 a) → (∀ j, j ≠ 52 → I' 404 j = I0 404 j) → I' 404 52 = dwS d0 12 → (∀ t, t < 144 → I' 411 t = if t < 72 ∧ t / 6 < 12 ∧ chF d0 (t / 6) = true then 100 else I0 411 t) → dw_ok (pr_X12_drawn K) 118 0 0 [some (.ref 404), some (.int s), some (.int x), some (.int y), some (.int l), some (.int d), some (.int ca), some (.int i), some (.int hr)] [] (n, SH1, I', J)) :
    ∀ (f k : Nat) (hr : Int32) (I : Nat → Nat → Int32), k + f = 12 → hr.toInt = k → (∀ a, a ≠ 404 → a ≠ 411 → I a = I0 a) → (∀ j, j ≠ 52 → I 404 j = I0 404 j) → I 404 52 = dwS d0 k → (∀ t, t < 144 → I 411 t = if t < 72 ∧ t / 6 < k ∧ chF d0 (t / 6) = true then 100 else I0 411 t) → dw_ok (pr_X12_drawn K) 91 0 0 [some (.ref 404), some (.int s), some (.int x), some (.int y), some (.int l), some (.int d), some (.int ca), some (.int i), some (.int hr)] [] (n, SH1, I, J) := by
  have k0 : (0 : Int32).toInt = 0 := rfl
  intro f
  induction f with
  | zero =>
    intro k hr I hf hh r f2 g5 t4
    obtain rfl : k = 12 := by omega
    refine q_ild rfl rfl ?_
    refine q_ic rfl ?_
    refine q_icmp (c := 3) rfl (by decide) (fun y1 => ?_) (fun h => absurd (show (hr).toInt < (12 : Int) from h) (by omega))
    have y1 : (12 : Int) ≤ (hr).toInt := y1
    exact hk hr I r f2 g5 t4
  | succ f ih =>
    intro k hr I hf hh r f2 g5 t4
    refine q_ild rfl rfl ?_
    refine q_ic rfl ?_
    refine q_icmp (c := 3) rfl (by decide) (fun h => absurd (show (12 : Int) ≤ (hr).toInt from h) (by omega)) (fun y2 => ?_)
    have y2 : (hr).toInt < (12 : Int) := y2
    refine q_ald rfl rfl ?_
    refine q_ic rfl ?_
    refine q_callV (as := [.int (4 : Int32)]) (rest := []) rfl rfl sk_404 rfl (Nat.le_of_ble_eq_true rfl) ?_
    refine v_draw g5 ?_
    show dw_ok (pr_X12_drawn K) 103 0 0 [some (.ref 404), some (.int s), some (.int x), some (.int y), some (.int l), some (.int d), some (.int ca), some (.int i), some (.int hr)] [.int (dwQ (dwN (dwS d0 k)))] (n, SH1, (dw_up I 404 52 (dwN (dwS d0 k))), J)
    refine q_if (c := 1) rfl (by decide) (fun y3 => ?_) (fun y3 => ?_)
    · have y3 : ((dwQ (dwN (dwS d0 k)))).toInt ≠ 0 := y3
      refine q_inc rfl rfl rfl ?_
      show dw_ok (pr_X12_drawn K) 115 0 0 [some (.ref 404), some (.int s), some (.int x), some (.int y), some (.int l), some (.int d), some (.int ca), some (.int i), some (.int (hr + 1))] [] (n, SH1, (dw_up I 404 52 (dwN (dwS d0 k))), J)
      show dw_ok (pr_X12_drawn K) 115 0 0 [some (.ref 404), some (.int s), some (.int x), some (.int y), some (.int l), some (.int d), some (.int ca), some (.int i), some (.int (hr + 1))] [] (n, SH1, (dw_up I 404 52 (dwN (dwS d0 k))), J)
      obtain ⟨hx, hhx⟩ : ∃ z, z = (hr + 1) := ⟨_, rfl⟩
      rw [← hhx]
      have ehx : hx.toInt = ((k + 1 : Nat) : Int) := by rw [hhx]; exact ix_1 hh (by omega)
      refine q_goto rfl ?_
      have hc : chF d0 k = false := ch_n y3
      refine ih (k + 1) hx (dw_up I 404 52 (dwN (dwS d0 k))) (by omega) ehx (fun a h1 h2 => (up_row h1).trans (r a h1 h2)) (fun j hj => (up_fld hj).trans (f2 j hj)) up_same (fun t ht => ?_)
      rw [show (dw_up I 404 52 (dwN (dwS d0 k))) 411 t = I 411 t from congrFun (up_row (by decide)) t, t4 t ht]
      by_cases q : t < 72 ∧ t / 6 < k ∧ chF d0 (t / 6) = true
      · rw [if_pos q, if_pos ⟨q.1, by omega, q.2.2⟩]
      · rw [if_neg q, if_neg (fun z => q ⟨z.1, by
          rcases Nat.lt_or_ge (t / 6) k with g | g
          · exact g
          · have z2 := z.2.2
            rw [show t / 6 = k by omega, hc] at z2
            exact absurd z2 (by decide), z.2.2⟩)]
    · have y3 : ((dwQ (dwN (dwS d0 k)))).toInt = 0 := y3
      refine q_ald rfl rfl ?_
      refine q_ild rfl rfl ?_
      refine q_callV (as := [.int hr]) (rest := []) rfl rfl sk_404 rfl (Nat.le_of_ble_eq_true rfl) ?_
      refine v_clouds hh (by omega) (fun I3 r3 t3 => ?_)
      show dw_ok (pr_X12_drawn K) 112 0 0 [some (.ref 404), some (.int s), some (.int x), some (.int y), some (.int l), some (.int d), some (.int ca), some (.int i), some (.int hr)] [] (n, SH1, I3, J)
      refine q_inc rfl rfl rfl ?_
      show dw_ok (pr_X12_drawn K) 115 0 0 [some (.ref 404), some (.int s), some (.int x), some (.int y), some (.int l), some (.int d), some (.int ca), some (.int i), some (.int (hr + 1))] [] (n, SH1, I3, J)
      show dw_ok (pr_X12_drawn K) 115 0 0 [some (.ref 404), some (.int s), some (.int x), some (.int y), some (.int l), some (.int d), some (.int ca), some (.int i), some (.int (hr + 1))] [] (n, SH1, I3, J)
      obtain ⟨hx, hhx⟩ : ∃ z, z = (hr + 1) := ⟨_, rfl⟩
      rw [← hhx]
      have ehx : hx.toInt = ((k + 1 : Nat) : Int) := by rw [hhx]; exact ix_1 hh (by omega)
      refine q_goto rfl ?_
      have hc : chF d0 k = true := ch_y y3
      refine ih (k + 1) hx I3 (by omega) ehx (fun a h1 h2 => (r3 a h2).trans ((up_row h1).trans (r a h1 h2))) (fun j hj => (congrFun (r3 404 (by decide)) j).trans ((up_fld hj).trans (f2 j hj))) ((congrFun (r3 404 (by decide)) 52).trans up_same) (fun t ht => ?_)
      rw [t3 t, show (dw_up I 404 52 (dwN (dwS d0 k))) 411 t = I 411 t from congrFun (up_row (by decide)) t, t4 t ht]
      by_cases e : 6 * k ≤ t ∧ t < 6 * k + 6
      · rw [if_pos e, if_pos ⟨by omega, by omega, by rw [show t / 6 = k by omega]; exact hc⟩]
      · rw [if_neg e]
        by_cases q : t < 72 ∧ t / 6 < k ∧ chF d0 (t / 6) = true
        · rw [if_pos q, if_pos ⟨q.1, by omega, q.2.2⟩]
        · rw [if_neg q, if_neg (fun z => q ⟨z.1, by omega, z.2.2⟩)]
set_option maxRecDepth 8000 in
theorem mds_loop {n : Nat} {J : Nat → Nat → Int64} {K : dw_K} {R S : Nat → Int32} {I0 : Nat → Nat → Int32} {T : Nat → rN} {s x y l d ca i : Int32} (hP : PUR (Nn R) (fun _ => gC R) T (g0S R S) 0)
    (hk : ∀ (t : Int32) (I' : Nat → Nat → Int32), I' 406 = R → (∀ a, a ≠ 404 → a ≠ 416 → a ≠ 417 → I' a = I0 a) → (∀ j, j ≠ 32 → j ≠ 33 → I' 404 j = I0 404 j) → MSK I' (Nn R) 0 (fun _ => gC R) T (g0S R S) 0 72 → dw_ok (pr_X12_drawn K) 140 0 0 [some (.ref 404), some (.int s), some (.int x), some (.int y), some (.int l), some (.int d), some (.int ca), some (.int i), some (.int t)] [] (n, SH1, I', J)) :
    ∀ (f k : Nat) (t : Int32) (I : Nat → Nat → Int32), k + f = 72 → t.toInt = k → I 406 = R → (∀ a, a ≠ 404 → a ≠ 416 → a ≠ 417 → I a = I0 a) → (∀ j, j ≠ 32 → j ≠ 33 → I 404 j = I0 404 j) → MSK I (Nn R) 0 (fun _ => gC R) T (g0S R S) 0 k → dw_ok (pr_X12_drawn K) 121 0 0 [some (.ref 404), some (.int s), some (.int x), some (.int y), some (.int l), some (.int d), some (.int ca), some (.int i), some (.int t)] [] (n, SH1, I, J) := by
  have cm1 : (-1 : Int32).toInt = -1 := rfl
  have k0 : (0 : Int32).toInt = 0 := rfl
  have k1 : (1 : Int32).toInt = 1 := rfl
  intro f
  induction f with
  | zero =>
    intro k t I hf ht hR hF hF4 hM
    obtain rfl : k = 72 := by omega
    refine q_ild rfl rfl ?_
    refine q_ic rfl ?_
    refine q_icmp (c := 4) rfl (by decide) (fun y1 => ?_) (fun h => absurd (show (t).toInt ≤ (71 : Int) from h) (by omega))
    have y1 : (71 : Int) < (t).toInt := y1
    exact hk t I hR hF hF4 hM
  | succ f ih =>
    intro k t I hf ht hR hF hF4 hM
    refine q_ild rfl rfl ?_
    refine q_ic rfl ?_
    refine q_icmp (c := 4) rfl (by decide) (fun h => absurd (show (71 : Int) < (t).toInt from h) (by omega)) (fun y2 => ?_)
    have y2 : (t).toInt ≤ (71 : Int) := y2
    refine q_ald rfl rfl ?_
    refine q_ild rfl rfl ?_
    refine q_callV (as := [.int t]) (rest := []) rfl rfl sk_404 rfl (Nat.le_of_ble_eq_true rfl) ?_
    refine v_mstepR hP hM (by omega) (by omega) (fun I1 g1 g2 hM1 => ?_)
    show dw_ok (pr_X12_drawn K) 134 0 0 [some (.ref 404), some (.int s), some (.int x), some (.int y), some (.int l), some (.int d), some (.int ca), some (.int i), some (.int t)] [] (n, SH1, I1, J)
    refine q_inc rfl rfl rfl ?_
    show dw_ok (pr_X12_drawn K) 137 0 0 [some (.ref 404), some (.int s), some (.int x), some (.int y), some (.int l), some (.int d), some (.int ca), some (.int i), some (.int (t + 1))] [] (n, SH1, I1, J)
    show dw_ok (pr_X12_drawn K) 137 0 0 [some (.ref 404), some (.int s), some (.int x), some (.int y), some (.int l), some (.int d), some (.int ca), some (.int i), some (.int (t + 1))] [] (n, SH1, I1, J)
    obtain ⟨tx, htx⟩ : ∃ z, z = (t + 1) := ⟨_, rfl⟩
    rw [← htx]
    have etx : tx.toInt = ((k + 1 : Nat) : Int) := by rw [htx]; exact ix_1 ht (by omega)
    refine q_goto rfl ?_
    exact ih (k + 1) tx I1 (by omega) etx ((g1 406 (by decide) (by decide) (by decide)).trans hR) (fun a q1 q2 q3 => (g1 a q1 q2 q3).trans (hF a q1 q2 q3)) (fun j q1 q2 => (g2 j q1 q2).trans (hF4 j q1 q2)) hM1
set_option maxRecDepth 8000 in
set_option maxHeartbeats 8000000 in
theorem mdn_loop {n : Nat} {J : Nat → Nat → Int64} {K : dw_K} {R : Nat → Int32} {s x y l d d0 : Int32} {m : Nat} (hG : GOK R) (oS : okS R s) (hS : NOK (nX R s)) (oC : okC R x y) (hm : l.toInt = m) (hm9 : m ≤ 30) (hk : ∀ I' : Nat → Nat → Int32, K (some (.int (dnS R (nX R s) (cN R x y) d0 m).2)) (n, SH1, I', J)) :
    ∀ (f k : Nat) (ca i : Int32) (u : Option Value) (I : Nat → Nat → Int32), k + f = m → i.toInt = k → I 404 52 = (dnS R (nX R s) (cN R x y) d0 k).1 → ca = (dnS R (nX R s) (cN R x y) d0 k).2 → I 406 = R → dw_ok (pr_X12_drawn K) 75 0 0 [some (.ref 404), some (.int s), some (.int x), some (.int y), some (.int l), some (.int d), some (.int ca), some (.int i), u] [] (n, SH1, I, J) := by
  have k0 : (0 : Int32).toInt = 0 := rfl
  have hN9 := (gok_N hG).2
  intro f
  induction f with
  | zero =>
    intro k ca i u I hf hi hw hca hR
    have ekm : k = m := by omega
    refine q_ild rfl rfl ?_
    refine q_ild rfl rfl ?_
    refine q_icmp (c := 3) rfl (by decide) (fun y1 => ?_) (fun h => absurd (show (i).toInt < (l).toInt from h) (by omega))
    have y1 : (l).toInt ≤ (i).toInt := y1
    refine q_ild rfl rfl ?_
    rw [hca, ekm]
    exact q_iret rfl (hk _)
  | succ f ih =>
    intro k ca i u I hf hi hw hca hR
    obtain ⟨w, ew⟩ : ∃ z, z = (dnS R (nX R s) (cN R x y) d0 k).1 := ⟨_, rfl⟩
    rw [← ew] at hw
    refine q_ild rfl rfl ?_
    refine q_ild rfl rfl ?_
    refine q_icmp (c := 3) rfl (by decide) (fun h => absurd (show (l).toInt ≤ (i).toInt from h) (by omega)) (fun y2 => ?_)
    have y2 : (i).toInt < (l).toInt := y2
    refine q_ald rfl rfl ?_
    refine q_ild rfl rfl ?_
    refine q_ic rfl ?_
    refine q_callV (as := [.int s, .int (0 : Int32)]) (rest := []) rfl rfl sk_404 rfl (Nat.le_of_ble_eq_true rfl) ?_
    refine v_mstartR (st := 0) hR hG oS hS rfl (fun I9 g0 gf h35 hM hB => ?_)
    show dw_ok (pr_X12_drawn K) 88 0 0 [some (.ref 404), some (.int s), some (.int x), some (.int y), some (.int l), some (.int d), some (.int ca), some (.int i), u] [] (n, SH1, I9, J)
    have e9 : I9 406 = R := (g0 406 (by decide) (by decide)).trans hR
    have w9 : I9 404 52 = w := (gf 52 (by decide) (by decide) (by decide) (by decide)).trans hw
    show dw_ok (pr_X12_drawn K) 88 0 0 [some (.ref 404), some (.int s), some (.int x), some (.int y), some (.int l), some (.int d), some (.int ca), some (.int i), u] [] (n, SH1, I9, J)
    refine q_ic rfl ?_
    refine q_ist rfl rfl ?_
    show dw_ok (pr_X12_drawn K) 91 0 0 [some (.ref 404), some (.int s), some (.int x), some (.int y), some (.int l), some (.int d), some (.int ca), some (.int i), some (.int (0 : Int32))] [] (n, SH1, I9, J)
    refine mdh_loop (d0 := w) (I0 := I9) (fun hr I3 r3 f3 g3 t3 => ?_) 12 0 0 I9 rfl rfl (fun _ _ _ => rfl) (fun _ _ => rfl) w9 (fun t _ => (if_neg (fun q => Nat.not_lt_zero _ q.2.1)).symm)
    show dw_ok (pr_X12_drawn K) 118 0 0 [some (.ref 404), some (.int s), some (.int x), some (.int y), some (.int l), some (.int d), some (.int ca), some (.int i), some (.int hr)] [] (n, SH1, I3, J)
    refine q_ic rfl ?_
    refine q_ist rfl rfl ?_
    show dw_ok (pr_X12_drawn K) 121 0 0 [some (.ref 404), some (.int s), some (.int x), some (.int y), some (.int l), some (.int d), some (.int ca), some (.int i), some (.int (0 : Int32))] [] (n, SH1, I3, J)
    have hM2 := msk_drawn (ch := chF w) hM r3 f3 (fun t ht => by
      rw [t3 t ht]
      by_cases q : t < 72 ∧ chF w (t / 6) = true
      · rw [if_pos q, if_pos ⟨q.1, by omega, q.2⟩]
      · rw [if_neg q, if_neg (fun z => q ⟨z.1, z.2.2⟩)])
    have e3 : I3 406 = R := (r3 406 (by decide) (by decide)).trans e9
    have hP : PUR (Nn R) (fun _ => gC R) (dnT (nX R s) (chF w)) (g0S R (nX R s)) 0 := ⟨hN9, fun _ _ _ c hc => gok_c hG hc, fun t _ ht => dnT_ok hS t ht, g0_ok hG hS⟩
    refine mds_loop (I0 := I3) hP (fun t I2 eI2 _ f4 hK => ?_) 72 0 0 I3 rfl rfl e3 (fun _ _ _ _ => rfl) (fun _ _ _ => rfl) hM2
    have w2 : I2 404 52 = dwS w 12 := (f4 52 (by decide) (by decide)).trans g3
    show dw_ok (pr_X12_drawn K) 140 0 0 [some (.ref 404), some (.int s), some (.int x), some (.int y), some (.int l), some (.int d), some (.int ca), some (.int i), some (.int t)] [] (n, SH1, I2, J)
    refine q_ald rfl rfl ?_
    refine q_getr rfl sk_404 sr_404_29 ?_
    refine q_ald rfl rfl ?_
    refine q_ild rfl rfl ?_
    refine q_ild rfl rfl ?_
    refine q_callV (as := [.int x, .int y]) (rest := [.ref 417]) rfl rfl sk_404 rfl (Nat.le_of_ble_eq_true rfl) ?_
    refine v_numberOf ?_
    show dw_ok (pr_X12_drawn K) 150 0 0 [some (.ref 404), some (.int s), some (.int x), some (.int y), some (.int l), some (.int d), some (.int ca), some (.int i), some (.int t)] [.int (I2 406 0 * y + x), .ref 417] (n, SH1, I2, J)
    rw [eI2]
    have en : (R 0 * y + x).toInt.toNat = cN R x y := by rw [(cN_i hG oC).2]; rfl
    have el := cN_lt oC
    have el9 := (gok_N hG).2
    have ei : (R 0 * y + x).toInt = (cN R x y : Nat) := (cN_i hG oC).2
    show dw_ok (pr_X12_drawn K) 150 0 0 [some (.ref 404), some (.int s), some (.int x), some (.int y), some (.int l), some (.int d), some (.int ca), some (.int i), some (.int t)] [.int (R 0 * y + x), .ref 417] (n, SH1, I2, J)
    show dw_ok (pr_X12_drawn K) 150 0 0 [some (.ref 404), some (.int s), some (.int x), some (.int y), some (.int l), some (.int d), some (.int ca), some (.int i), some (.int t)] [.int (R 0 * y + x), .ref 417] (n, SH1, I2, J)
    refine q_xald rfl (Or.inl rfl) sk_417 sn_417 (by rw [ei]; omega) (by rw [ei]; omega) ?_
    show dw_ok (pr_X12_drawn K) 151 0 0 [some (.ref 404), some (.int s), some (.int x), some (.int y), some (.int l), some (.int d), some (.int ca), some (.int i), some (.int t)] [.int (I2 417 ((R 0 * y + x)).toInt.toNat)] (n, SH1, I2, J)
    rw [en]
    show dw_ok (pr_X12_drawn K) 151 0 0 [some (.ref 404), some (.int s), some (.int x), some (.int y), some (.int l), some (.int d), some (.int ca), some (.int i), some (.int t)] [.int (I2 417 (cN R x y))] (n, SH1, I2, J)
    have eww : (I2 417 (cN R x y)) = dnW R (nX R s) (cN R x y) w := hK.2.2.1.2.1 _ el
    obtain ⟨ww, hww⟩ : ∃ z, z = dnW R (nX R s) (cN R x y) w := ⟨_, rfl⟩
    rw [eww, ← hww]
    refine q_ist rfl rfl ?_
    show dw_ok (pr_X12_drawn K) 153 0 0 [some (.ref 404), some (.int s), some (.int x), some (.int y), some (.int l), some (.int d), some (.int ca), some (.int i), some (.int ww)] [] (n, SH1, I2, J)
    refine q_ild rfl rfl ?_
    refine q_ild rfl rfl ?_
    refine q_add rfl ?_
    refine q_ist rfl rfl ?_
    show dw_ok (pr_X12_drawn K) 160 0 0 [some (.ref 404), some (.int s), some (.int x), some (.int y), some (.int l), some (.int d), some (.int (ca + ww)), some (.int i), some (.int ww)] [] (n, SH1, I2, J)
    refine q_ald rfl rfl ?_
    refine q_getr rfl sk_404 sr_404_53 ?_
    refine q_ic rfl ?_
    refine q_ild rfl rfl ?_
    refine q_ald rfl rfl ?_
    refine q_getr rfl sk_404 sr_404_53 ?_
    refine q_ic rfl ?_
    refine q_xald rfl (Or.inl rfl) sk_431 sn_431 (by decide) (by decide) ?_
    refine q_icmp (c := 3) rfl (by decide) (fun y3 => ?_) (fun y3 => ?_)
    · have y3 : ((I2 431 0)).toInt ≤ (ww).toInt := y3
      refine q_ald rfl rfl ?_
      refine q_getr rfl sk_404 sr_404_53 ?_
      refine q_ic rfl ?_
      refine q_xald rfl (Or.inl rfl) sk_431 sn_431 (by decide) (by decide) ?_
      refine q_iast rfl sk_431 sn_431 (by decide) (by decide) ?_
      show dw_ok (pr_X12_drawn K) 188 0 0 [some (.ref 404), some (.int s), some (.int x), some (.int y), some (.int l), some (.int d), some (.int (ca + ww)), some (.int i), some (.int ww)] [] (n, SH1, (dw_up I2 431 0 (I2 431 0)), J)
      refine q_ald rfl rfl ?_
      refine q_getr rfl sk_404 sr_404_53 ?_
      refine q_ic rfl ?_
      refine q_ild rfl rfl ?_
      refine q_ald rfl rfl ?_
      refine q_getr rfl sk_404 sr_404_53 ?_
      refine q_ic rfl ?_
      refine q_xald rfl (Or.inl rfl) sk_431 sn_431 (by decide) (by decide) ?_
      show dw_ok (pr_X12_drawn K) 201 0 0 [some (.ref 404), some (.int s), some (.int x), some (.int y), some (.int l), some (.int d), some (.int (ca + ww)), some (.int i), some (.int ww)] [.int ((dw_up I2 431 0 (I2 431 0)) 431 1), .int ww, .int (1 : Int32), .ref 431] (n, SH1, (dw_up I2 431 0 (I2 431 0)), J)
      rw [show ((dw_up I2 431 0 (I2 431 0)) 431 1) = (I2 431 1) from (up_fld (by decide))]
      refine q_icmp (c := 5) rfl (by decide) (fun y4 => ?_) (fun y4 => ?_)
      · have y4 : (ww).toInt ≤ ((I2 431 1)).toInt := y4
        refine q_ald rfl rfl ?_
        refine q_getr rfl sk_404 sr_404_53 ?_
        refine q_ic rfl ?_
        refine q_xald rfl (Or.inl rfl) sk_431 sn_431 (by decide) (by decide) ?_
        show dw_ok (pr_X12_drawn K) 215 0 0 [some (.ref 404), some (.int s), some (.int x), some (.int y), some (.int l), some (.int d), some (.int (ca + ww)), some (.int i), some (.int ww)] [.int ((dw_up I2 431 0 (I2 431 0)) 431 1), .int (1 : Int32), .ref 431] (n, SH1, (dw_up I2 431 0 (I2 431 0)), J)
        rw [show ((dw_up I2 431 0 (I2 431 0)) 431 1) = (I2 431 1) from (up_fld (by decide))]
        refine q_iast rfl sk_431 sn_431 (by decide) (by decide) ?_
        show dw_ok (pr_X12_drawn K) 216 0 0 [some (.ref 404), some (.int s), some (.int x), some (.int y), some (.int l), some (.int d), some (.int (ca + ww)), some (.int i), some (.int ww)] [] (n, SH1, (dw_up (dw_up I2 431 0 (I2 431 0)) 431 1 (I2 431 1)), J)
        refine q_ald rfl rfl ?_
        refine q_getr rfl sk_404 sr_404_53 ?_
        refine q_ic rfl ?_
        refine q_dup2 rfl ?_
        refine q_xald rfl (Or.inl rfl) sk_431 sn_431 (by decide) (by decide) ?_
        show dw_ok (pr_X12_drawn K) 223 0 0 [some (.ref 404), some (.int s), some (.int x), some (.int y), some (.int l), some (.int d), some (.int (ca + ww)), some (.int i), some (.int ww)] [.int ((dw_up (dw_up I2 431 0 (I2 431 0)) 431 1 (I2 431 1)) 431 2), .int (2 : Int32), .ref 431] (n, SH1, (dw_up (dw_up I2 431 0 (I2 431 0)) 431 1 (I2 431 1)), J)
        rw [show ((dw_up (dw_up I2 431 0 (I2 431 0)) 431 1 (I2 431 1)) 431 2) = (I2 431 2) from ((up_fld (by decide)).trans (up_fld (by decide)))]
        refine q_ild rfl rfl ?_
        refine q_if (c := 5) rfl (by decide) (fun y5 => ?_) (fun y5 => ?_)
        · have y5 : (ww).toInt ≤ 0 := y5
          refine q_ic rfl ?_
          refine q_add rfl ?_
          refine q_iast rfl sk_431 sn_431 (by decide) (by decide) ?_
          show dw_ok (pr_X12_drawn K) 235 0 0 [some (.ref 404), some (.int s), some (.int x), some (.int y), some (.int l), some (.int d), some (.int (ca + ww)), some (.int i), some (.int ww)] [] (n, SH1, (dw_up (dw_up (dw_up I2 431 0 (I2 431 0)) 431 1 (I2 431 1)) 431 2 ((I2 431 2) + (0 : Int32))), J)
          refine q_inc rfl rfl rfl ?_
          show dw_ok (pr_X12_drawn K) 238 0 0 [some (.ref 404), some (.int s), some (.int x), some (.int y), some (.int l), some (.int d), some (.int (ca + ww)), some (.int (i + 1)), some (.int ww)] [] (n, SH1, (dw_up (dw_up (dw_up I2 431 0 (I2 431 0)) 431 1 (I2 431 1)) 431 2 ((I2 431 2) + (0 : Int32))), J)
          show dw_ok (pr_X12_drawn K) 238 0 0 [some (.ref 404), some (.int s), some (.int x), some (.int y), some (.int l), some (.int d), some (.int (ca + ww)), some (.int (i + 1)), some (.int ww)] [] (n, SH1, (dw_up (dw_up (dw_up I2 431 0 (I2 431 0)) 431 1 (I2 431 1)) 431 2 ((I2 431 2) + (0 : Int32))), J)
          obtain ⟨iz, hiz⟩ : ∃ z, z = (i + 1) := ⟨_, rfl⟩
          rw [← hiz]
          have eiz : iz.toInt = ((k + 1 : Nat) : Int) := by rw [hiz]; exact ix_1 hi (by omega)
          refine q_goto rfl ?_
          exact ih (k + 1) (ca + ww) iz _ (dw_up (dw_up (dw_up I2 431 0 (I2 431 0)) 431 1 (I2 431 1)) 431 2 ((I2 431 2) + (0 : Int32))) (by omega) eiz ((((congrFun (up_row (by decide)) _).trans ((congrFun (up_row (by decide)) _).trans ((congrFun (up_row (by decide)) _).trans (w2))))).trans (by rw [ew]; rfl)) (by rw [hca, hww, ew]; rfl) (((up_row (by decide)).trans ((up_row (by decide)).trans ((up_row (by decide)).trans (eI2)))))
        · have y5 : 0 < (ww).toInt := y5
          refine q_ic rfl ?_
          refine q_goto rfl ?_
          refine q_add rfl ?_
          refine q_iast rfl sk_431 sn_431 (by decide) (by decide) ?_
          show dw_ok (pr_X12_drawn K) 235 0 0 [some (.ref 404), some (.int s), some (.int x), some (.int y), some (.int l), some (.int d), some (.int (ca + ww)), some (.int i), some (.int ww)] [] (n, SH1, (dw_up (dw_up (dw_up I2 431 0 (I2 431 0)) 431 1 (I2 431 1)) 431 2 ((I2 431 2) + (1 : Int32))), J)
          refine q_inc rfl rfl rfl ?_
          show dw_ok (pr_X12_drawn K) 238 0 0 [some (.ref 404), some (.int s), some (.int x), some (.int y), some (.int l), some (.int d), some (.int (ca + ww)), some (.int (i + 1)), some (.int ww)] [] (n, SH1, (dw_up (dw_up (dw_up I2 431 0 (I2 431 0)) 431 1 (I2 431 1)) 431 2 ((I2 431 2) + (1 : Int32))), J)
          show dw_ok (pr_X12_drawn K) 238 0 0 [some (.ref 404), some (.int s), some (.int x), some (.int y), some (.int l), some (.int d), some (.int (ca + ww)), some (.int (i + 1)), some (.int ww)] [] (n, SH1, (dw_up (dw_up (dw_up I2 431 0 (I2 431 0)) 431 1 (I2 431 1)) 431 2 ((I2 431 2) + (1 : Int32))), J)
          obtain ⟨iz, hiz⟩ : ∃ z, z = (i + 1) := ⟨_, rfl⟩
          rw [← hiz]
          have eiz : iz.toInt = ((k + 1 : Nat) : Int) := by rw [hiz]; exact ix_1 hi (by omega)
          refine q_goto rfl ?_
          exact ih (k + 1) (ca + ww) iz _ (dw_up (dw_up (dw_up I2 431 0 (I2 431 0)) 431 1 (I2 431 1)) 431 2 ((I2 431 2) + (1 : Int32))) (by omega) eiz ((((congrFun (up_row (by decide)) _).trans ((congrFun (up_row (by decide)) _).trans ((congrFun (up_row (by decide)) _).trans (w2))))).trans (by rw [ew]; rfl)) (by rw [hca, hww, ew]; rfl) (((up_row (by decide)).trans ((up_row (by decide)).trans ((up_row (by decide)).trans (eI2)))))
      · have y4 : ((I2 431 1)).toInt < (ww).toInt := y4
        refine q_ild rfl rfl ?_
        refine q_goto rfl ?_
        refine q_iast rfl sk_431 sn_431 (by decide) (by decide) ?_
        show dw_ok (pr_X12_drawn K) 216 0 0 [some (.ref 404), some (.int s), some (.int x), some (.int y), some (.int l), some (.int d), some (.int (ca + ww)), some (.int i), some (.int ww)] [] (n, SH1, (dw_up (dw_up I2 431 0 (I2 431 0)) 431 1 ww), J)
        refine q_ald rfl rfl ?_
        refine q_getr rfl sk_404 sr_404_53 ?_
        refine q_ic rfl ?_
        refine q_dup2 rfl ?_
        refine q_xald rfl (Or.inl rfl) sk_431 sn_431 (by decide) (by decide) ?_
        show dw_ok (pr_X12_drawn K) 223 0 0 [some (.ref 404), some (.int s), some (.int x), some (.int y), some (.int l), some (.int d), some (.int (ca + ww)), some (.int i), some (.int ww)] [.int ((dw_up (dw_up I2 431 0 (I2 431 0)) 431 1 ww) 431 2), .int (2 : Int32), .ref 431] (n, SH1, (dw_up (dw_up I2 431 0 (I2 431 0)) 431 1 ww), J)
        rw [show ((dw_up (dw_up I2 431 0 (I2 431 0)) 431 1 ww) 431 2) = (I2 431 2) from ((up_fld (by decide)).trans (up_fld (by decide)))]
        refine q_ild rfl rfl ?_
        refine q_if (c := 5) rfl (by decide) (fun y6 => ?_) (fun y6 => ?_)
        · have y6 : (ww).toInt ≤ 0 := y6
          refine q_ic rfl ?_
          refine q_add rfl ?_
          refine q_iast rfl sk_431 sn_431 (by decide) (by decide) ?_
          show dw_ok (pr_X12_drawn K) 235 0 0 [some (.ref 404), some (.int s), some (.int x), some (.int y), some (.int l), some (.int d), some (.int (ca + ww)), some (.int i), some (.int ww)] [] (n, SH1, (dw_up (dw_up (dw_up I2 431 0 (I2 431 0)) 431 1 ww) 431 2 ((I2 431 2) + (0 : Int32))), J)
          refine q_inc rfl rfl rfl ?_
          show dw_ok (pr_X12_drawn K) 238 0 0 [some (.ref 404), some (.int s), some (.int x), some (.int y), some (.int l), some (.int d), some (.int (ca + ww)), some (.int (i + 1)), some (.int ww)] [] (n, SH1, (dw_up (dw_up (dw_up I2 431 0 (I2 431 0)) 431 1 ww) 431 2 ((I2 431 2) + (0 : Int32))), J)
          show dw_ok (pr_X12_drawn K) 238 0 0 [some (.ref 404), some (.int s), some (.int x), some (.int y), some (.int l), some (.int d), some (.int (ca + ww)), some (.int (i + 1)), some (.int ww)] [] (n, SH1, (dw_up (dw_up (dw_up I2 431 0 (I2 431 0)) 431 1 ww) 431 2 ((I2 431 2) + (0 : Int32))), J)
          obtain ⟨iz, hiz⟩ : ∃ z, z = (i + 1) := ⟨_, rfl⟩
          rw [← hiz]
          have eiz : iz.toInt = ((k + 1 : Nat) : Int) := by rw [hiz]; exact ix_1 hi (by omega)
          refine q_goto rfl ?_
          exact ih (k + 1) (ca + ww) iz _ (dw_up (dw_up (dw_up I2 431 0 (I2 431 0)) 431 1 ww) 431 2 ((I2 431 2) + (0 : Int32))) (by omega) eiz ((((congrFun (up_row (by decide)) _).trans ((congrFun (up_row (by decide)) _).trans ((congrFun (up_row (by decide)) _).trans (w2))))).trans (by rw [ew]; rfl)) (by rw [hca, hww, ew]; rfl) (((up_row (by decide)).trans ((up_row (by decide)).trans ((up_row (by decide)).trans (eI2)))))
        · have y6 : 0 < (ww).toInt := y6
          refine q_ic rfl ?_
          refine q_goto rfl ?_
          refine q_add rfl ?_
          refine q_iast rfl sk_431 sn_431 (by decide) (by decide) ?_
          show dw_ok (pr_X12_drawn K) 235 0 0 [some (.ref 404), some (.int s), some (.int x), some (.int y), some (.int l), some (.int d), some (.int (ca + ww)), some (.int i), some (.int ww)] [] (n, SH1, (dw_up (dw_up (dw_up I2 431 0 (I2 431 0)) 431 1 ww) 431 2 ((I2 431 2) + (1 : Int32))), J)
          refine q_inc rfl rfl rfl ?_
          show dw_ok (pr_X12_drawn K) 238 0 0 [some (.ref 404), some (.int s), some (.int x), some (.int y), some (.int l), some (.int d), some (.int (ca + ww)), some (.int (i + 1)), some (.int ww)] [] (n, SH1, (dw_up (dw_up (dw_up I2 431 0 (I2 431 0)) 431 1 ww) 431 2 ((I2 431 2) + (1 : Int32))), J)
          show dw_ok (pr_X12_drawn K) 238 0 0 [some (.ref 404), some (.int s), some (.int x), some (.int y), some (.int l), some (.int d), some (.int (ca + ww)), some (.int (i + 1)), some (.int ww)] [] (n, SH1, (dw_up (dw_up (dw_up I2 431 0 (I2 431 0)) 431 1 ww) 431 2 ((I2 431 2) + (1 : Int32))), J)
          obtain ⟨iz, hiz⟩ : ∃ z, z = (i + 1) := ⟨_, rfl⟩
          rw [← hiz]
          have eiz : iz.toInt = ((k + 1 : Nat) : Int) := by rw [hiz]; exact ix_1 hi (by omega)
          refine q_goto rfl ?_
          exact ih (k + 1) (ca + ww) iz _ (dw_up (dw_up (dw_up I2 431 0 (I2 431 0)) 431 1 ww) 431 2 ((I2 431 2) + (1 : Int32))) (by omega) eiz ((((congrFun (up_row (by decide)) _).trans ((congrFun (up_row (by decide)) _).trans ((congrFun (up_row (by decide)) _).trans (w2))))).trans (by rw [ew]; rfl)) (by rw [hca, hww, ew]; rfl) (((up_row (by decide)).trans ((up_row (by decide)).trans ((up_row (by decide)).trans (eI2)))))
    · have y3 : (ww).toInt < ((I2 431 0)).toInt := y3
      refine q_ild rfl rfl ?_
      refine q_goto rfl ?_
      refine q_iast rfl sk_431 sn_431 (by decide) (by decide) ?_
      show dw_ok (pr_X12_drawn K) 188 0 0 [some (.ref 404), some (.int s), some (.int x), some (.int y), some (.int l), some (.int d), some (.int (ca + ww)), some (.int i), some (.int ww)] [] (n, SH1, (dw_up I2 431 0 ww), J)
      refine q_ald rfl rfl ?_
      refine q_getr rfl sk_404 sr_404_53 ?_
      refine q_ic rfl ?_
      refine q_ild rfl rfl ?_
      refine q_ald rfl rfl ?_
      refine q_getr rfl sk_404 sr_404_53 ?_
      refine q_ic rfl ?_
      refine q_xald rfl (Or.inl rfl) sk_431 sn_431 (by decide) (by decide) ?_
      show dw_ok (pr_X12_drawn K) 201 0 0 [some (.ref 404), some (.int s), some (.int x), some (.int y), some (.int l), some (.int d), some (.int (ca + ww)), some (.int i), some (.int ww)] [.int ((dw_up I2 431 0 ww) 431 1), .int ww, .int (1 : Int32), .ref 431] (n, SH1, (dw_up I2 431 0 ww), J)
      rw [show ((dw_up I2 431 0 ww) 431 1) = (I2 431 1) from (up_fld (by decide))]
      refine q_icmp (c := 5) rfl (by decide) (fun y7 => ?_) (fun y7 => ?_)
      · have y7 : (ww).toInt ≤ ((I2 431 1)).toInt := y7
        refine q_ald rfl rfl ?_
        refine q_getr rfl sk_404 sr_404_53 ?_
        refine q_ic rfl ?_
        refine q_xald rfl (Or.inl rfl) sk_431 sn_431 (by decide) (by decide) ?_
        show dw_ok (pr_X12_drawn K) 215 0 0 [some (.ref 404), some (.int s), some (.int x), some (.int y), some (.int l), some (.int d), some (.int (ca + ww)), some (.int i), some (.int ww)] [.int ((dw_up I2 431 0 ww) 431 1), .int (1 : Int32), .ref 431] (n, SH1, (dw_up I2 431 0 ww), J)
        rw [show ((dw_up I2 431 0 ww) 431 1) = (I2 431 1) from (up_fld (by decide))]
        refine q_iast rfl sk_431 sn_431 (by decide) (by decide) ?_
        show dw_ok (pr_X12_drawn K) 216 0 0 [some (.ref 404), some (.int s), some (.int x), some (.int y), some (.int l), some (.int d), some (.int (ca + ww)), some (.int i), some (.int ww)] [] (n, SH1, (dw_up (dw_up I2 431 0 ww) 431 1 (I2 431 1)), J)
        refine q_ald rfl rfl ?_
        refine q_getr rfl sk_404 sr_404_53 ?_
        refine q_ic rfl ?_
        refine q_dup2 rfl ?_
        refine q_xald rfl (Or.inl rfl) sk_431 sn_431 (by decide) (by decide) ?_
        show dw_ok (pr_X12_drawn K) 223 0 0 [some (.ref 404), some (.int s), some (.int x), some (.int y), some (.int l), some (.int d), some (.int (ca + ww)), some (.int i), some (.int ww)] [.int ((dw_up (dw_up I2 431 0 ww) 431 1 (I2 431 1)) 431 2), .int (2 : Int32), .ref 431] (n, SH1, (dw_up (dw_up I2 431 0 ww) 431 1 (I2 431 1)), J)
        rw [show ((dw_up (dw_up I2 431 0 ww) 431 1 (I2 431 1)) 431 2) = (I2 431 2) from ((up_fld (by decide)).trans (up_fld (by decide)))]
        refine q_ild rfl rfl ?_
        refine q_if (c := 5) rfl (by decide) (fun y8 => ?_) (fun y8 => ?_)
        · have y8 : (ww).toInt ≤ 0 := y8
          refine q_ic rfl ?_
          refine q_add rfl ?_
          refine q_iast rfl sk_431 sn_431 (by decide) (by decide) ?_
          show dw_ok (pr_X12_drawn K) 235 0 0 [some (.ref 404), some (.int s), some (.int x), some (.int y), some (.int l), some (.int d), some (.int (ca + ww)), some (.int i), some (.int ww)] [] (n, SH1, (dw_up (dw_up (dw_up I2 431 0 ww) 431 1 (I2 431 1)) 431 2 ((I2 431 2) + (0 : Int32))), J)
          refine q_inc rfl rfl rfl ?_
          show dw_ok (pr_X12_drawn K) 238 0 0 [some (.ref 404), some (.int s), some (.int x), some (.int y), some (.int l), some (.int d), some (.int (ca + ww)), some (.int (i + 1)), some (.int ww)] [] (n, SH1, (dw_up (dw_up (dw_up I2 431 0 ww) 431 1 (I2 431 1)) 431 2 ((I2 431 2) + (0 : Int32))), J)
          show dw_ok (pr_X12_drawn K) 238 0 0 [some (.ref 404), some (.int s), some (.int x), some (.int y), some (.int l), some (.int d), some (.int (ca + ww)), some (.int (i + 1)), some (.int ww)] [] (n, SH1, (dw_up (dw_up (dw_up I2 431 0 ww) 431 1 (I2 431 1)) 431 2 ((I2 431 2) + (0 : Int32))), J)
          obtain ⟨iz, hiz⟩ : ∃ z, z = (i + 1) := ⟨_, rfl⟩
          rw [← hiz]
          have eiz : iz.toInt = ((k + 1 : Nat) : Int) := by rw [hiz]; exact ix_1 hi (by omega)
          refine q_goto rfl ?_
          exact ih (k + 1) (ca + ww) iz _ (dw_up (dw_up (dw_up I2 431 0 ww) 431 1 (I2 431 1)) 431 2 ((I2 431 2) + (0 : Int32))) (by omega) eiz ((((congrFun (up_row (by decide)) _).trans ((congrFun (up_row (by decide)) _).trans ((congrFun (up_row (by decide)) _).trans (w2))))).trans (by rw [ew]; rfl)) (by rw [hca, hww, ew]; rfl) (((up_row (by decide)).trans ((up_row (by decide)).trans ((up_row (by decide)).trans (eI2)))))
        · have y8 : 0 < (ww).toInt := y8
          refine q_ic rfl ?_
          refine q_goto rfl ?_
          refine q_add rfl ?_
          refine q_iast rfl sk_431 sn_431 (by decide) (by decide) ?_
          show dw_ok (pr_X12_drawn K) 235 0 0 [some (.ref 404), some (.int s), some (.int x), some (.int y), some (.int l), some (.int d), some (.int (ca + ww)), some (.int i), some (.int ww)] [] (n, SH1, (dw_up (dw_up (dw_up I2 431 0 ww) 431 1 (I2 431 1)) 431 2 ((I2 431 2) + (1 : Int32))), J)
          refine q_inc rfl rfl rfl ?_
          show dw_ok (pr_X12_drawn K) 238 0 0 [some (.ref 404), some (.int s), some (.int x), some (.int y), some (.int l), some (.int d), some (.int (ca + ww)), some (.int (i + 1)), some (.int ww)] [] (n, SH1, (dw_up (dw_up (dw_up I2 431 0 ww) 431 1 (I2 431 1)) 431 2 ((I2 431 2) + (1 : Int32))), J)
          show dw_ok (pr_X12_drawn K) 238 0 0 [some (.ref 404), some (.int s), some (.int x), some (.int y), some (.int l), some (.int d), some (.int (ca + ww)), some (.int (i + 1)), some (.int ww)] [] (n, SH1, (dw_up (dw_up (dw_up I2 431 0 ww) 431 1 (I2 431 1)) 431 2 ((I2 431 2) + (1 : Int32))), J)
          obtain ⟨iz, hiz⟩ : ∃ z, z = (i + 1) := ⟨_, rfl⟩
          rw [← hiz]
          have eiz : iz.toInt = ((k + 1 : Nat) : Int) := by rw [hiz]; exact ix_1 hi (by omega)
          refine q_goto rfl ?_
          exact ih (k + 1) (ca + ww) iz _ (dw_up (dw_up (dw_up I2 431 0 ww) 431 1 (I2 431 1)) 431 2 ((I2 431 2) + (1 : Int32))) (by omega) eiz ((((congrFun (up_row (by decide)) _).trans ((congrFun (up_row (by decide)) _).trans ((congrFun (up_row (by decide)) _).trans (w2))))).trans (by rw [ew]; rfl)) (by rw [hca, hww, ew]; rfl) (((up_row (by decide)).trans ((up_row (by decide)).trans ((up_row (by decide)).trans (eI2)))))
      · have y7 : ((I2 431 1)).toInt < (ww).toInt := y7
        refine q_ild rfl rfl ?_
        refine q_goto rfl ?_
        refine q_iast rfl sk_431 sn_431 (by decide) (by decide) ?_
        show dw_ok (pr_X12_drawn K) 216 0 0 [some (.ref 404), some (.int s), some (.int x), some (.int y), some (.int l), some (.int d), some (.int (ca + ww)), some (.int i), some (.int ww)] [] (n, SH1, (dw_up (dw_up I2 431 0 ww) 431 1 ww), J)
        refine q_ald rfl rfl ?_
        refine q_getr rfl sk_404 sr_404_53 ?_
        refine q_ic rfl ?_
        refine q_dup2 rfl ?_
        refine q_xald rfl (Or.inl rfl) sk_431 sn_431 (by decide) (by decide) ?_
        show dw_ok (pr_X12_drawn K) 223 0 0 [some (.ref 404), some (.int s), some (.int x), some (.int y), some (.int l), some (.int d), some (.int (ca + ww)), some (.int i), some (.int ww)] [.int ((dw_up (dw_up I2 431 0 ww) 431 1 ww) 431 2), .int (2 : Int32), .ref 431] (n, SH1, (dw_up (dw_up I2 431 0 ww) 431 1 ww), J)
        rw [show ((dw_up (dw_up I2 431 0 ww) 431 1 ww) 431 2) = (I2 431 2) from ((up_fld (by decide)).trans (up_fld (by decide)))]
        refine q_ild rfl rfl ?_
        refine q_if (c := 5) rfl (by decide) (fun y9 => ?_) (fun y9 => ?_)
        · have y9 : (ww).toInt ≤ 0 := y9
          refine q_ic rfl ?_
          refine q_add rfl ?_
          refine q_iast rfl sk_431 sn_431 (by decide) (by decide) ?_
          show dw_ok (pr_X12_drawn K) 235 0 0 [some (.ref 404), some (.int s), some (.int x), some (.int y), some (.int l), some (.int d), some (.int (ca + ww)), some (.int i), some (.int ww)] [] (n, SH1, (dw_up (dw_up (dw_up I2 431 0 ww) 431 1 ww) 431 2 ((I2 431 2) + (0 : Int32))), J)
          refine q_inc rfl rfl rfl ?_
          show dw_ok (pr_X12_drawn K) 238 0 0 [some (.ref 404), some (.int s), some (.int x), some (.int y), some (.int l), some (.int d), some (.int (ca + ww)), some (.int (i + 1)), some (.int ww)] [] (n, SH1, (dw_up (dw_up (dw_up I2 431 0 ww) 431 1 ww) 431 2 ((I2 431 2) + (0 : Int32))), J)
          show dw_ok (pr_X12_drawn K) 238 0 0 [some (.ref 404), some (.int s), some (.int x), some (.int y), some (.int l), some (.int d), some (.int (ca + ww)), some (.int (i + 1)), some (.int ww)] [] (n, SH1, (dw_up (dw_up (dw_up I2 431 0 ww) 431 1 ww) 431 2 ((I2 431 2) + (0 : Int32))), J)
          obtain ⟨iz, hiz⟩ : ∃ z, z = (i + 1) := ⟨_, rfl⟩
          rw [← hiz]
          have eiz : iz.toInt = ((k + 1 : Nat) : Int) := by rw [hiz]; exact ix_1 hi (by omega)
          refine q_goto rfl ?_
          exact ih (k + 1) (ca + ww) iz _ (dw_up (dw_up (dw_up I2 431 0 ww) 431 1 ww) 431 2 ((I2 431 2) + (0 : Int32))) (by omega) eiz ((((congrFun (up_row (by decide)) _).trans ((congrFun (up_row (by decide)) _).trans ((congrFun (up_row (by decide)) _).trans (w2))))).trans (by rw [ew]; rfl)) (by rw [hca, hww, ew]; rfl) (((up_row (by decide)).trans ((up_row (by decide)).trans ((up_row (by decide)).trans (eI2)))))
        · have y9 : 0 < (ww).toInt := y9
          refine q_ic rfl ?_
          refine q_goto rfl ?_
          refine q_add rfl ?_
          refine q_iast rfl sk_431 sn_431 (by decide) (by decide) ?_
          show dw_ok (pr_X12_drawn K) 235 0 0 [some (.ref 404), some (.int s), some (.int x), some (.int y), some (.int l), some (.int d), some (.int (ca + ww)), some (.int i), some (.int ww)] [] (n, SH1, (dw_up (dw_up (dw_up I2 431 0 ww) 431 1 ww) 431 2 ((I2 431 2) + (1 : Int32))), J)
          refine q_inc rfl rfl rfl ?_
          show dw_ok (pr_X12_drawn K) 238 0 0 [some (.ref 404), some (.int s), some (.int x), some (.int y), some (.int l), some (.int d), some (.int (ca + ww)), some (.int (i + 1)), some (.int ww)] [] (n, SH1, (dw_up (dw_up (dw_up I2 431 0 ww) 431 1 ww) 431 2 ((I2 431 2) + (1 : Int32))), J)
          show dw_ok (pr_X12_drawn K) 238 0 0 [some (.ref 404), some (.int s), some (.int x), some (.int y), some (.int l), some (.int d), some (.int (ca + ww)), some (.int (i + 1)), some (.int ww)] [] (n, SH1, (dw_up (dw_up (dw_up I2 431 0 ww) 431 1 ww) 431 2 ((I2 431 2) + (1 : Int32))), J)
          obtain ⟨iz, hiz⟩ : ∃ z, z = (i + 1) := ⟨_, rfl⟩
          rw [← hiz]
          have eiz : iz.toInt = ((k + 1 : Nat) : Int) := by rw [hiz]; exact ix_1 hi (by omega)
          refine q_goto rfl ?_
          exact ih (k + 1) (ca + ww) iz _ (dw_up (dw_up (dw_up I2 431 0 ww) 431 1 ww) 431 2 ((I2 431 2) + (1 : Int32))) (by omega) eiz ((((congrFun (up_row (by decide)) _).trans ((congrFun (up_row (by decide)) _).trans ((congrFun (up_row (by decide)) _).trans (w2))))).trans (by rw [ew]; rfl)) (by rw [hca, hww, ew]; rfl) (((up_row (by decide)).trans ((up_row (by decide)).trans ((up_row (by decide)).trans (eI2)))))
set_option maxRecDepth 8000 in
set_option maxHeartbeats 4000000 in
theorem v_mdrawn {n : Nat} {I : Nat → Nat → Int32} {J : Nat → Nat → Int64} {K : dw_K} {R : Nat → Int32} (hR : I 406 = R) (hG : GOK R) {a1 a2 a3 a4 a5 : Int32} (hN : okS R a1 → NOK (nX R a1)) (hk : ∀ (w : Int32) (I' : Nat → Nat → Int32), w.toInt = aDrawn R a1 a2 a3 a4 a5 → K (some (.int w)) (n, SH1, I', J)) : t_X12_drawn [.ref 404, .int a1, .int a2, .int a3, .int a4, .int a5] (n, SH1, I, J) K := by
  have cm1 : (-1 : Int32).toInt = -1 := rfl
  have k0 : (0 : Int32).toInt = 0 := rfl
  have k1 : (1 : Int32).toInt = 1 := rfl
  have k2 : (2 : Int32).toInt = 2 := rfl
  refine q_body (Nat.le_of_ble_eq_true rfl) ?_
  refine q_ald rfl rfl ?_
  refine q_ic rfl ?_
  refine q_puti rfl sk_404 ?_
  show dw_ok (pr_X12_drawn K) 5 0 0 [some (.ref 404), some (.int a1), some (.int a2), some (.int a3), some (.int a4), some (.int a5), none, none, none] [] (n, SH1, (dw_up I 404 0 (0 : Int32)), J)
  refine q_ald rfl rfl ?_
  refine q_ild rfl rfl ?_
  refine q_callV (as := [.int a1]) (rest := []) rfl rfl sk_404 rfl (Nat.le_of_ble_eq_true rfl) ?_
  obtain ⟨I1, hI1⟩ : ∃ X, X = (dw_up I 404 0 (0 : Int32)) := ⟨_, rfl⟩
  rw [← hI1]
  have eI1 : I1 406 = R := by rw [hI1]; exact ((up_row (by decide)).trans (hR))
  refine v_isNight (fun w_ oS => ?_)
  rcases oS with ⟨rfl, oS⟩ | ⟨rfl, oS⟩
  · show dw_ok (pr_X12_drawn K) 10 0 0 [some (.ref 404), some (.int a1), some (.int a2), some (.int a3), some (.int a4), some (.int a5), none, none, none] [.int (1 : Int32)] (n, SH1, I1, J)
    refine q_if (c := 0) rfl (by decide) (fun h => absurd (show (1 : Int) = 0 from h) (by decide)) (fun y2 => ?_)
    have y2 : (1 : Int) ≠ 0 := y2
    refine q_ald rfl rfl ?_
    refine q_ild rfl rfl ?_
    refine q_ild rfl rfl ?_
    refine q_callV (as := [.int a2, .int a3]) (rest := []) rfl rfl sk_404 rfl (Nat.le_of_ble_eq_true rfl) ?_
    refine v_misCell (C := Cn R) (R := Rn R) (by rw [eI1]; exact hG.1.1) (by rw [eI1]; exact hG.1.2.1) (fun w_ oC => ?_)
    rcases oC with ⟨rfl, oC⟩ | ⟨rfl, oC⟩
    · show dw_ok (pr_X12_drawn K) 19 0 0 [some (.ref 404), some (.int a1), some (.int a2), some (.int a3), some (.int a4), some (.int a5), none, none, none] [.int (1 : Int32)] (n, SH1, I1, J)
      refine q_if (c := 0) rfl (by decide) (fun h => absurd (show (1 : Int) = 0 from h) (by decide)) (fun y3 => ?_)
      have y3 : (1 : Int) ≠ 0 := y3
      refine q_ild rfl rfl ?_
      refine q_ic rfl ?_
      refine q_ic rfl ?_
      refine q_callS (as := [.int a4, .int (1 : Int32), .int (30 : Int32)]) (rest := []) rfl rfl rfl rfl ?_
      refine v_isIn (fun w_ oI => ?_)
      rcases oI with ⟨rfl, oI⟩ | ⟨rfl, oI⟩
      · have oI : (1 ≤ a4.toInt ∧ a4.toInt ≤ 30) := oI
        show dw_ok (pr_X12_drawn K) 30 0 0 [some (.ref 404), some (.int a1), some (.int a2), some (.int a3), some (.int a4), some (.int a5), none, none, none] [.int (1 : Int32)] (n, SH1, I1, J)
        refine q_if (c := 1) rfl (by decide) (fun y4 => ?_) (fun h => absurd (show (1 : Int) = 0 from h) (by decide))
        have y4 : (1 : Int) ≠ 0 := y4
        refine q_ald rfl rfl ?_
        refine q_ild rfl rfl ?_
        refine q_puti rfl sk_404 ?_
        show dw_ok (pr_X12_drawn K) 41 0 0 [some (.ref 404), some (.int a1), some (.int a2), some (.int a3), some (.int a4), some (.int a5), none, none, none] [] (n, SH1, (dw_up I1 404 52 a5), J)
        refine q_ic rfl ?_
        refine q_ist rfl rfl ?_
        show dw_ok (pr_X12_drawn K) 44 0 0 [some (.ref 404), some (.int a1), some (.int a2), some (.int a3), some (.int a4), some (.int a5), some (.int (0 : Int32)), none, none] [] (n, SH1, (dw_up I1 404 52 a5), J)
        refine q_ald rfl rfl ?_
        refine q_getr rfl sk_404 sr_404_53 ?_
        refine q_ic rfl ?_
        refine q_ic rfl ?_
        refine q_iast rfl sk_431 sn_431 (by decide) (by decide) ?_
        show dw_ok (pr_X12_drawn K) 53 0 0 [some (.ref 404), some (.int a1), some (.int a2), some (.int a3), some (.int a4), some (.int a5), some (.int (0 : Int32)), none, none] [] (n, SH1, (dw_up (dw_up I1 404 52 a5) 431 0 (1000000000 : Int32)), J)
        refine q_ald rfl rfl ?_
        refine q_getr rfl sk_404 sr_404_53 ?_
        refine q_ic rfl ?_
        refine q_ic rfl ?_
        refine q_iast rfl sk_431 sn_431 (by decide) (by decide) ?_
        show dw_ok (pr_X12_drawn K) 60 0 0 [some (.ref 404), some (.int a1), some (.int a2), some (.int a3), some (.int a4), some (.int a5), some (.int (0 : Int32)), none, none] [] (n, SH1, (dw_up (dw_up (dw_up I1 404 52 a5) 431 0 (1000000000 : Int32)) 431 1 (0 : Int32)), J)
        refine q_ald rfl rfl ?_
        refine q_getr rfl sk_404 sr_404_53 ?_
        refine q_ic rfl ?_
        refine q_ic rfl ?_
        refine q_iast rfl sk_431 sn_431 (by decide) (by decide) ?_
        show dw_ok (pr_X12_drawn K) 67 0 0 [some (.ref 404), some (.int a1), some (.int a2), some (.int a3), some (.int a4), some (.int a5), some (.int (0 : Int32)), none, none] [] (n, SH1, (dw_up (dw_up (dw_up (dw_up I1 404 52 a5) 431 0 (1000000000 : Int32)) 431 1 (0 : Int32)) 431 2 (0 : Int32)), J)
        refine q_ald rfl rfl ?_
        refine q_ic rfl ?_
        refine q_putz rfl sk_404 (Or.inr rfl) ?_
        show dw_ok (pr_X12_drawn K) 72 0 0 [some (.ref 404), some (.int a1), some (.int a2), some (.int a3), some (.int a4), some (.int a5), some (.int (0 : Int32)), none, none] [] (n, SH1, (dw_up (dw_up (dw_up (dw_up (dw_up I1 404 52 a5) 431 0 (1000000000 : Int32)) 431 1 (0 : Int32)) 431 2 (0 : Int32)) 404 54 (1 : Int32)), J)
        refine q_ic rfl ?_
        refine q_ist rfl rfl ?_
        show dw_ok (pr_X12_drawn K) 75 0 0 [some (.ref 404), some (.int a1), some (.int a2), some (.int a3), some (.int a4), some (.int a5), some (.int (0 : Int32)), some (.int (0 : Int32)), none] [] (n, SH1, (dw_up (dw_up (dw_up (dw_up (dw_up I1 404 52 a5) 431 0 (1000000000 : Int32)) 431 1 (0 : Int32)) 431 2 (0 : Int32)) 404 54 (1 : Int32)), J)
        rw [eI1] at oS
        obtain ⟨I5, hI5⟩ : ∃ X, X = (dw_up (dw_up (dw_up (dw_up (dw_up I1 404 52 a5) 431 0 (1000000000 : Int32)) 431 1 (0 : Int32)) 431 2 (0 : Int32)) 404 54 (1 : Int32)) := ⟨_, rfl⟩
        rw [← hI5]
        have e5 : I5 406 = R := by rw [hI5]; exact ((up_row (by decide)).trans ((up_row (by decide)).trans ((up_row (by decide)).trans ((up_row (by decide)).trans ((up_row (by decide)).trans (eI1))))))
        have w5 : I5 404 52 = a5 := by rw [hI5]; exact ((up_fld (by decide)).trans ((congrFun (up_row (by decide)) _).trans ((congrFun (up_row (by decide)) _).trans ((congrFun (up_row (by decide)) _).trans (up_same)))))
        exact mdn_loop (d0 := a5) (m := a4.toInt.toNat) hG oS (hN oS) oC (by omega) (by omega) (fun I' => hk _ I' (drawn_y ⟨oS, oC, oI⟩).symm) a4.toInt.toNat 0 0 0 _ I5 (by omega) rfl w5 rfl e5
      · have oI : ¬ (1 ≤ a4.toInt ∧ a4.toInt ≤ 30) := oI
        show dw_ok (pr_X12_drawn K) 30 0 0 [some (.ref 404), some (.int a1), some (.int a2), some (.int a3), some (.int a4), some (.int a5), none, none, none] [.int (0 : Int32)] (n, SH1, I1, J)
        refine q_if (c := 1) rfl (by decide) (fun h => absurd (show (0 : Int) ≠ 0 from h) (by decide)) (fun y5 => ?_)
        have y5 : (0 : Int) = 0 := y5
        refine q_ic rfl ?_
        exact q_iret rfl (hk _ _ (cm1.trans (drawn_n (fun q => oI q.2.2)).symm))
    · show dw_ok (pr_X12_drawn K) 19 0 0 [some (.ref 404), some (.int a1), some (.int a2), some (.int a3), some (.int a4), some (.int a5), none, none, none] [.int (0 : Int32)] (n, SH1, I1, J)
      refine q_if (c := 0) rfl (by decide) (fun y6 => ?_) (fun h => absurd (show (0 : Int) ≠ 0 from h) (by decide))
      have y6 : (0 : Int) = 0 := y6
      refine q_ic rfl ?_
      exact q_iret rfl (hk _ _ (cm1.trans (drawn_n (fun q => oC q.2.1)).symm))
  · show dw_ok (pr_X12_drawn K) 10 0 0 [some (.ref 404), some (.int a1), some (.int a2), some (.int a3), some (.int a4), some (.int a5), none, none, none] [.int (0 : Int32)] (n, SH1, I1, J)
    refine q_if (c := 0) rfl (by decide) (fun y7 => ?_) (fun h => absurd (show (0 : Int) ≠ 0 from h) (by decide))
    have y7 : (0 : Int) = 0 := y7
    refine q_ic rfl ?_
    exact q_iret rfl (hk _ _ (cm1.trans (drawn_n (fun q => by rw [eI1] at oS; exact oS q.1)).symm))
end
section
/-! ===== NIGHTS drawn, with what is told of them ===== -/
def upX (v : Int32) (t : Int32 × Int32 × Int32) : Int32 × Int32 × Int32 := (if v.toInt < t.1.toInt then v else t.1, if t.2.1.toInt < v.toInt then v else t.2.1, t.2.2 + (if 0 < v.toInt then 1 else 0))
/-- behind k NIGHTS: the least, the most, in how many -/
def dnX (R S : Nat → Int32) (c : Nat) (d : Int32) : Nat → Int32 × Int32 × Int32
  | 0 => (1000000000, 0, 0)
  | k + 1 => upX (dnW R S c (dnS R S c d k).1) (dnX R S c d k)
set_option maxRecDepth 8000 in
theorem upx_0y {v : Int32} {t : Int32 × Int32 × Int32} (h : v.toInt < t.1.toInt) : (upX v t).1 = v := if_pos h
set_option maxRecDepth 8000 in
theorem upx_0n {v : Int32} {t : Int32 × Int32 × Int32} (h : t.1.toInt ≤ v.toInt) : (upX v t).1 = t.1 := if_neg (Int.not_lt.mpr h)
set_option maxRecDepth 8000 in
theorem upx_1y {v : Int32} {t : Int32 × Int32 × Int32} (h : t.2.1.toInt < v.toInt) : (upX v t).2.1 = v := if_pos h
set_option maxRecDepth 8000 in
theorem upx_1n {v : Int32} {t : Int32 × Int32 × Int32} (h : v.toInt ≤ t.2.1.toInt) : (upX v t).2.1 = t.2.1 := if_neg (Int.not_lt.mpr h)
set_option maxRecDepth 8000 in
theorem upx_2y {v : Int32} {t : Int32 × Int32 × Int32} (h : 0 < v.toInt) : (upX v t).2.2 = t.2.2 + 1 := by
  show t.2.2 + (if 0 < v.toInt then 1 else 0) = _
  rw [if_pos h]
set_option maxRecDepth 8000 in
theorem upx_2n {v : Int32} {t : Int32 × Int32 × Int32} (h : v.toInt ≤ 0) : (upX v t).2.2 = t.2.2 + 0 := by
  show t.2.2 + (if 0 < v.toInt then 1 else 0) = _
  rw [if_neg (Int.not_lt.mpr h)]
set_option maxRecDepth 8000 in
theorem upx_mn {v : Int32} {t : Int32 × Int32 × Int32} : fi_min t.1 v = (upX v t).1 := by
  unfold fi_min
  by_cases h : v.toInt < t.1.toInt
  · rw [if_pos (fi_lt.mpr h), upx_0y h]
  · rw [if_neg (fun q => h (fi_lt.mp q)), upx_0n (Int.not_lt.mp h)]
set_option maxRecDepth 8000 in
theorem upx_mx {v : Int32} {t : Int32 × Int32 × Int32} : fi_max t.2.1 v = (upX v t).2.1 := by
  unfold fi_max
  by_cases h : t.2.1.toInt < v.toInt
  · rw [if_pos (fi_lt.mpr h), upx_1y h]
  · rw [if_neg (fun q => h (fi_lt.mp q)), upx_1n (Int.not_lt.mp h)]
set_option maxRecDepth 8000 in
theorem upx_b0 {v : Int32} (h : v.toInt < 1000000000) : (upX v (1000000000, 0, 0)).1 = v := upx_0y (show v.toInt < (1000000000 : Int32).toInt from h)
set_option maxRecDepth 8000 in
theorem upx_b1 {v : Int32} (h : 0 ≤ v.toInt) : (upX v (1000000000, 0, 0)).2.1 = v := by
  have k0 : (0 : Int32).toInt = 0 := rfl
  by_cases q : 0 < v.toInt
  · exact upx_1y (show (0 : Int32).toInt < v.toInt by omega)
  · rw [upx_1n (show v.toInt ≤ (0 : Int32).toInt by omega)]
    exact i_eq (show (0 : Int32).toInt = v.toInt by omega)
set_option maxRecDepth 8000 in
theorem dnW_b {R S : Nat → Int32} {c : Nat} {d : Int32} (hG : GOK R) (hS : NOK S) (hc : c < Nn R) : 0 ≤ (dnW R S c d).toInt ∧ (dnW R S c d).toInt < 1000000000 := by
  have hP : PUR (Nn R) (fun _ => gC R) (dnT S (chF d)) (g0S R S) 0 := ⟨(gok_N hG).2, fun _ _ _ c hc => gok_c hG hc, fun t _ ht => dnT_ok hS t ht, g0_ok hG hS⟩
  obtain ⟨-, q2, q3, q4⟩ := pur_ok (st := 0) hP 72 (by decide)
  have q5 := sm_one (Nn R) q2 hc
  have q6 := q2 c hc
  have e : dnW R S c d = (ruF 0 (Nn R) (fun _ => gC R) (dnT S (chF d)) 0 72 (g0S R S)).2.1 c := rfl
  rw [e]
  exact ⟨q6, by omega⟩
set_option maxRecDepth 8000 in
set_option maxHeartbeats 4000000 in
theorem dnn_loop2 {n : Nat} {J : Nat → Nat → Int64} {K : dw_K} {R : Nat → Int32} {s x y l d c : Int32} {cc m : Nat} (hG : GOK R) (oS : okS R s) (hc : c.toInt = cc) (hl : cc < Nn R) (hm : l.toInt = m) (hm9 : m ≤ 30) (hk : ∀ I' : Nat → Nat → Int32, I' 0 17 = 1 → (m ≠ 0 → I' 209 0 = (dnX R (nX R s) cc d m).1 ∧ I' 209 1 = (dnX R (nX R s) cc d m).2.1) → I' 209 2 = (dnX R (nX R s) cc d m).2.2 → K (some (.int (dnS R (nX R s) cc d m).2)) (n, SH1, I', J)) :
    ∀ (f k : Nat) (w ca i : Int32) (u : Option Value) (I : Nat → Nat → Int32), k + f = m → i.toInt = k → w = (dnS R (nX R s) cc d k).1 → ca = (dnS R (nX R s) cc d k).2 → (k ≠ 0 → I 209 0 = (dnX R (nX R s) cc d k).1 ∧ I 209 1 = (dnX R (nX R s) cc d k).2.1) → I 209 2 = (dnX R (nX R s) cc d k).2.2 → SREL I 3 R → dw_ok (pr_X11_drawn K) 64 0 0 [some (.ref 0), some (.int s), some (.int x), some (.int y), some (.int l), some (.int d), some (.int c), some (.int w), some (.int ca), some (.int i), u] [] (n, SH1, I, J) := by
  have k0 : (0 : Int32).toInt = 0 := rfl
  have hN9 := (gok_N hG).2
  intro f
  induction f with
  | zero =>
    intro k w ca i u I hf hi hw hca h0 h2 hR
    have ekm : k = m := by omega
    refine q_ild rfl rfl ?_
    refine q_ild rfl rfl ?_
    refine q_icmp (c := 3) rfl (by decide) (fun y1 => ?_) (fun h => absurd (show (i).toInt < (l).toInt from h) (by omega))
    have y1 : (l).toInt ≤ (i).toInt := y1
    refine q_ald rfl rfl ?_
    refine q_ic rfl ?_
    refine q_putz rfl sk_0 (Or.inr rfl) ?_
    show dw_ok (pr_X11_drawn K) 254 0 0 [some (.ref 0), some (.int s), some (.int x), some (.int y), some (.int l), some (.int d), some (.int c), some (.int w), some (.int ca), some (.int i), u] [] (n, SH1, (dw_up I 0 17 (1 : Int32)), J)
    refine q_ild rfl rfl ?_
    rw [ekm] at h0 h2
    rw [hca, ekm]
    exact q_iret rfl (hk _ up_same (fun q => by rw [show (dw_up I 0 17 (1 : Int32)) 209 = I 209 from up_row (by decide)]; exact h0 q) (by rw [show (dw_up I 0 17 (1 : Int32)) 209 = I 209 from up_row (by decide)]; exact h2))
  | succ f ih =>
    intro k w ca i u I hf hi hw hca h0 h2 hR
    refine q_ild rfl rfl ?_
    refine q_ild rfl rfl ?_
    refine q_icmp (c := 3) rfl (by decide) (fun h => absurd (show (l).toInt ≤ (i).toInt from h) (by omega)) (fun y2 => ?_)
    have y2 : (i).toInt < (l).toInt := y2
    refine q_ald rfl rfl ?_
    refine q_ald rfl rfl ?_
    refine q_getr rfl sk_0 sr_0_6 ?_
    refine q_ild rfl rfl ?_
    refine q_callV (as := [.ref 164, .int s]) (rest := []) rfl rfl sk_0 rfl (Nat.le_of_ble_eq_true rfl) ?_
    refine v_startR hR (Or.inr (Or.inl rfl)) (fun s1 hs hxs hS I1 q0 _ hC h6 _ _ => ?_) (fun hno => absurd oS (okS_no hno))
    obtain ⟨-, eS⟩ := okS_of hs hxs hS
    rw [← eS] at hC
    show dw_ok (pr_X11_drawn K) 80 0 0 [some (.ref 0), some (.int s), some (.int x), some (.int y), some (.int l), some (.int d), some (.int c), some (.int w), some (.int ca), some (.int i), u] [.int (1 : Int32)] (n, SH1, I1, J)
    refine q_if (c := 1) rfl (by decide) (fun y3 => ?_) (fun h => absurd (show (1 : Int) = 0 from h) (by decide))
    have y3 : (1 : Int) ≠ 0 := y3
    refine q_ic rfl ?_
    refine q_ist rfl rfl ?_
    show dw_ok (pr_X11_drawn K) 88 0 0 [some (.ref 0), some (.int s), some (.int x), some (.int y), some (.int l), some (.int d), some (.int c), some (.int w), some (.int ca), some (.int i), some (.int (0 : Int32))] [] (n, SH1, I1, J)
    refine dnh_loop (d0 := w) (I0 := I1) (fun w2 hr I3 hw2 r3 f3 g3 => ?_) 12 0 w 0 I1 rfl rfl rfl (fun _ _ => rfl) (fun _ _ => rfl) h6
    show dw_ok (pr_X11_drawn K) 143 0 0 [some (.ref 0), some (.int s), some (.int x), some (.int y), some (.int l), some (.int d), some (.int c), some (.int w2), some (.int ca), some (.int i), some (.int hr)] [] (n, SH1, I3, J)
    refine q_ald rfl rfl ?_
    refine q_getr rfl sk_0 sr_0_6 ?_
    refine q_ic rfl ?_
    refine q_callV (as := [.int (72 : Int32)]) (rest := []) rfl rfl sk_164 rfl (Nat.le_of_ble_eq_true rfl) ?_
    have hM := csk_drawn hG hC h6 r3 f3 g3
    refine v_untilR (A := 164) (j := 72) (rt_ok (by decide)) hM (by decide) hN9 (Or.inl (show (72 : Int32).toInt = ((0 + 0 + 72 : Nat) : Int) from rfl)) (fun I2 g1 _ hK => ?_)
    show dw_ok (pr_X11_drawn K) 152 0 0 [some (.ref 0), some (.int s), some (.int x), some (.int y), some (.int l), some (.int d), some (.int c), some (.int w2), some (.int ca), some (.int i), some (.int hr)] [] (n, SH1, I2, J)
    have r2 : ∀ a, a < 164 → I2 a = I a := fun a p => (g1 a (by omega) (by omega) (by omega)).trans ((r3 a (by omega)).trans (q0 a (by omega)))
    have hR2 : SREL I2 3 R := srel_fr (S := 3) (fun a p q => r2 a (by omega)) (fun _ _ => rfl) hR
    have e9 : I2 209 = I 209 := (g1 209 (by decide) (by decide) (by decide)).trans ((r3 209 (by decide)).trans (q0 209 (by decide)))
    have ew : I2 (164 + 14) cc = dnW R (nX R s) cc w := hK.2.2.1.2.1 cc hl
    show dw_ok (pr_X11_drawn K) 152 0 0 [some (.ref 0), some (.int s), some (.int x), some (.int y), some (.int l), some (.int d), some (.int c), some (.int w2), some (.int ca), some (.int i), some (.int hr)] [] (n, SH1, I2, J)
    refine q_ald rfl rfl ?_
    refine q_getr rfl sk_0 sr_0_6 ?_
    refine q_ild rfl rfl ?_
    refine q_callV (as := [.int c]) (rest := []) rfl rfl sk_164 rfl (Nat.le_of_ble_eq_true rfl) ?_
    refine v_waterOf (A := 164) (N := Nn R) (k := cc) (rt_ok (by decide)) hc hK.2.2.2.1 hN9 hl ?_
    show dw_ok (pr_X11_drawn K) 161 0 0 [some (.ref 0), some (.int s), some (.int x), some (.int y), some (.int l), some (.int d), some (.int c), some (.int w2), some (.int ca), some (.int i), some (.int hr)] [.int (I2 (164 + 14) cc)] (n, SH1, I2, J)
    rw [ew]
    obtain ⟨ww, hww⟩ : ∃ z, z = dnW R (nX R s) cc w := ⟨_, rfl⟩
    rw [← hww]
    have hb := dnW_b (d := w) hG (show NOK (nX R s) by rw [eS]; exact hS) hl
    rw [← hww] at hb
    show dw_ok (pr_X11_drawn K) 161 0 0 [some (.ref 0), some (.int s), some (.int x), some (.int y), some (.int l), some (.int d), some (.int c), some (.int w2), some (.int ca), some (.int i), some (.int hr)] [.int ww] (n, SH1, I2, J)
    refine q_ist rfl rfl ?_
    show dw_ok (pr_X11_drawn K) 163 0 0 [some (.ref 0), some (.int s), some (.int x), some (.int y), some (.int l), some (.int d), some (.int c), some (.int w2), some (.int ca), some (.int i), some (.int ww)] [] (n, SH1, I2, J)
    refine q_ild rfl rfl ?_
    refine q_ild rfl rfl ?_
    refine q_add rfl ?_
    refine q_ist rfl rfl ?_
    show dw_ok (pr_X11_drawn K) 170 0 0 [some (.ref 0), some (.int s), some (.int x), some (.int y), some (.int l), some (.int d), some (.int c), some (.int w2), some (.int (ca + ww)), some (.int i), some (.int ww)] [] (n, SH1, I2, J)
    refine q_ald rfl rfl ?_
    refine q_getr rfl sk_0 sr_0_16 ?_
    refine q_ic rfl ?_
    refine q_ild rfl rfl ?_
    refine q_if (c := 1) rfl (by decide) (fun y4 => ?_) (fun y4 => ?_)
    · have y4 : (i).toInt ≠ 0 := y4
      refine q_ald rfl rfl ?_
      refine q_getr rfl sk_0 sr_0_16 ?_
      refine q_ic rfl ?_
      refine q_xald rfl (Or.inl rfl) sk_209 sn_209 (by decide) (by decide) ?_
      refine q_ild rfl rfl ?_
      refine q_min rfl rfl ?_
      refine q_iast rfl sk_209 sn_209 (by decide) (by decide) ?_
      show dw_ok (pr_X11_drawn K) 197 0 0 [some (.ref 0), some (.int s), some (.int x), some (.int y), some (.int l), some (.int d), some (.int c), some (.int w2), some (.int (ca + ww)), some (.int i), some (.int ww)] [] (n, SH1, (dw_up I2 209 0 (fi_min (I2 209 0) ww)), J)
      refine q_ald rfl rfl ?_
      refine q_getr rfl sk_0 sr_0_16 ?_
      refine q_ic rfl ?_
      refine q_ild rfl rfl ?_
      refine q_if (c := 1) rfl (by decide) (fun y5 => ?_) (fun y5 => ?_)
      · have y5 : (i).toInt ≠ 0 := y5
        refine q_ald rfl rfl ?_
        refine q_getr rfl sk_0 sr_0_16 ?_
        refine q_ic rfl ?_
        refine q_xald rfl (Or.inl rfl) sk_209 sn_209 (by decide) (by decide) ?_
        show dw_ok (pr_X11_drawn K) 218 0 0 [some (.ref 0), some (.int s), some (.int x), some (.int y), some (.int l), some (.int d), some (.int c), some (.int w2), some (.int (ca + ww)), some (.int i), some (.int ww)] [.int ((dw_up I2 209 0 (fi_min (I2 209 0) ww)) 209 1), .int (1 : Int32), .ref 209] (n, SH1, (dw_up I2 209 0 (fi_min (I2 209 0) ww)), J)
        rw [show ((dw_up I2 209 0 (fi_min (I2 209 0) ww)) 209 1) = (I2 209 1) from (up_fld (by decide))]
        refine q_ild rfl rfl ?_
        refine q_max rfl rfl ?_
        refine q_iast rfl sk_209 sn_209 (by decide) (by decide) ?_
        show dw_ok (pr_X11_drawn K) 224 0 0 [some (.ref 0), some (.int s), some (.int x), some (.int y), some (.int l), some (.int d), some (.int c), some (.int w2), some (.int (ca + ww)), some (.int i), some (.int ww)] [] (n, SH1, (dw_up (dw_up I2 209 0 (fi_min (I2 209 0) ww)) 209 1 (fi_max (I2 209 1) ww)), J)
        refine q_ald rfl rfl ?_
        refine q_getr rfl sk_0 sr_0_16 ?_
        refine q_ic rfl ?_
        refine q_dup2 rfl ?_
        refine q_xald rfl (Or.inl rfl) sk_209 sn_209 (by decide) (by decide) ?_
        show dw_ok (pr_X11_drawn K) 231 0 0 [some (.ref 0), some (.int s), some (.int x), some (.int y), some (.int l), some (.int d), some (.int c), some (.int w2), some (.int (ca + ww)), some (.int i), some (.int ww)] [.int ((dw_up (dw_up I2 209 0 (fi_min (I2 209 0) ww)) 209 1 (fi_max (I2 209 1) ww)) 209 2), .int (2 : Int32), .ref 209] (n, SH1, (dw_up (dw_up I2 209 0 (fi_min (I2 209 0) ww)) 209 1 (fi_max (I2 209 1) ww)), J)
        rw [show ((dw_up (dw_up I2 209 0 (fi_min (I2 209 0) ww)) 209 1 (fi_max (I2 209 1) ww)) 209 2) = (I2 209 2) from ((up_fld (by decide)).trans (up_fld (by decide)))]
        refine q_ild rfl rfl ?_
        refine q_if (c := 5) rfl (by decide) (fun y6 => ?_) (fun y6 => ?_)
        · have y6 : (ww).toInt ≤ 0 := y6
          refine q_ic rfl ?_
          refine q_add rfl ?_
          refine q_iast rfl sk_209 sn_209 (by decide) (by decide) ?_
          show dw_ok (pr_X11_drawn K) 243 0 0 [some (.ref 0), some (.int s), some (.int x), some (.int y), some (.int l), some (.int d), some (.int c), some (.int w2), some (.int (ca + ww)), some (.int i), some (.int ww)] [] (n, SH1, (dw_up (dw_up (dw_up I2 209 0 (fi_min (I2 209 0) ww)) 209 1 (fi_max (I2 209 1) ww)) 209 2 ((I2 209 2) + (0 : Int32))), J)
          refine q_inc rfl rfl rfl ?_
          show dw_ok (pr_X11_drawn K) 246 0 0 [some (.ref 0), some (.int s), some (.int x), some (.int y), some (.int l), some (.int d), some (.int c), some (.int w2), some (.int (ca + ww)), some (.int (i + 1)), some (.int ww)] [] (n, SH1, (dw_up (dw_up (dw_up I2 209 0 (fi_min (I2 209 0) ww)) 209 1 (fi_max (I2 209 1) ww)) 209 2 ((I2 209 2) + (0 : Int32))), J)
          show dw_ok (pr_X11_drawn K) 246 0 0 [some (.ref 0), some (.int s), some (.int x), some (.int y), some (.int l), some (.int d), some (.int c), some (.int w2), some (.int (ca + ww)), some (.int (i + 1)), some (.int ww)] [] (n, SH1, (dw_up (dw_up (dw_up I2 209 0 (fi_min (I2 209 0) ww)) 209 1 (fi_max (I2 209 1) ww)) 209 2 ((I2 209 2) + (0 : Int32))), J)
          obtain ⟨iz, hiz⟩ : ∃ z, z = (i + 1) := ⟨_, rfl⟩
          rw [← hiz]
          have eiz : iz.toInt = ((k + 1 : Nat) : Int) := by rw [hiz]; exact ix_1 hi (by omega)
          refine q_goto rfl ?_
          have hR3 : SREL (dw_up (dw_up (dw_up I2 209 0 (fi_min (I2 209 0) ww)) 209 1 (fi_max (I2 209 1) ww)) 209 2 ((I2 209 2) + (0 : Int32))) 3 R := srel_fr (S := 3) (fun a p q => ((up_row (by omega)).trans ((up_row (by omega)).trans ((up_row (by omega)).trans (rfl))))) (fun _ _ => rfl) hR2
          obtain ⟨tt, ht⟩ : ∃ z, z = (dnX R (nX R s) cc d k) := ⟨_, rfl⟩
          have hX : (dnX R (nX R s) cc d (k + 1)) = upX ww tt := by rw [ht, hww, hw]; rfl
          have v2 : I2 209 2 = tt.2.2 := by rw [ht]; exact (congrFun e9 2).trans h2
          obtain ⟨h00, h01⟩ := h0 (show k ≠ 0 by omega)
          have v0 : I2 209 0 = tt.1 := by rw [ht]; exact (congrFun e9 0).trans h00
          have v1 : I2 209 1 = tt.2.1 := by rw [ht]; exact (congrFun e9 1).trans h01
          have g0 : (dw_up (dw_up (dw_up I2 209 0 (fi_min (I2 209 0) ww)) 209 1 (fi_max (I2 209 1) ww)) 209 2 ((I2 209 2) + (0 : Int32))) 209 0 = (dnX R (nX R s) cc d (k + 1)).1 := by
            rw [show (dw_up (dw_up (dw_up I2 209 0 (fi_min (I2 209 0) ww)) 209 1 (fi_max (I2 209 1) ww)) 209 2 ((I2 209 2) + (0 : Int32))) 209 0 = (fi_min (I2 209 0) ww) from (up_fld (by decide)).trans ((up_fld (by decide)).trans up_same), hX]
            exact (by rw [v0]; exact upx_mn)
          have g1x : (dw_up (dw_up (dw_up I2 209 0 (fi_min (I2 209 0) ww)) 209 1 (fi_max (I2 209 1) ww)) 209 2 ((I2 209 2) + (0 : Int32))) 209 1 = (dnX R (nX R s) cc d (k + 1)).2.1 := by
            rw [show (dw_up (dw_up (dw_up I2 209 0 (fi_min (I2 209 0) ww)) 209 1 (fi_max (I2 209 1) ww)) 209 2 ((I2 209 2) + (0 : Int32))) 209 1 = (fi_max (I2 209 1) ww) from (up_fld (by decide)).trans up_same, hX]
            exact (by rw [v1]; exact upx_mx)
          have g2x : (dw_up (dw_up (dw_up I2 209 0 (fi_min (I2 209 0) ww)) 209 1 (fi_max (I2 209 1) ww)) 209 2 ((I2 209 2) + (0 : Int32))) 209 2 = (dnX R (nX R s) cc d (k + 1)).2.2 := by
            rw [show (dw_up (dw_up (dw_up I2 209 0 (fi_min (I2 209 0) ww)) 209 1 (fi_max (I2 209 1) ww)) 209 2 ((I2 209 2) + (0 : Int32))) 209 2 = ((I2 209 2) + (0 : Int32)) from up_same, hX]
            exact (by rw [v2]; exact (upx_2n y6).symm)
          exact ih (k + 1) w2 (ca + ww) iz _ (dw_up (dw_up (dw_up I2 209 0 (fi_min (I2 209 0) ww)) 209 1 (fi_max (I2 209 1) ww)) 209 2 ((I2 209 2) + (0 : Int32))) (by omega) eiz (by rw [hw2, hw]; rfl) (by rw [hca, hww, hw]; rfl) (fun _ => ⟨g0, g1x⟩) g2x hR3
        · have y6 : 0 < (ww).toInt := y6
          refine q_ic rfl ?_
          refine q_goto rfl ?_
          refine q_add rfl ?_
          refine q_iast rfl sk_209 sn_209 (by decide) (by decide) ?_
          show dw_ok (pr_X11_drawn K) 243 0 0 [some (.ref 0), some (.int s), some (.int x), some (.int y), some (.int l), some (.int d), some (.int c), some (.int w2), some (.int (ca + ww)), some (.int i), some (.int ww)] [] (n, SH1, (dw_up (dw_up (dw_up I2 209 0 (fi_min (I2 209 0) ww)) 209 1 (fi_max (I2 209 1) ww)) 209 2 ((I2 209 2) + (1 : Int32))), J)
          refine q_inc rfl rfl rfl ?_
          show dw_ok (pr_X11_drawn K) 246 0 0 [some (.ref 0), some (.int s), some (.int x), some (.int y), some (.int l), some (.int d), some (.int c), some (.int w2), some (.int (ca + ww)), some (.int (i + 1)), some (.int ww)] [] (n, SH1, (dw_up (dw_up (dw_up I2 209 0 (fi_min (I2 209 0) ww)) 209 1 (fi_max (I2 209 1) ww)) 209 2 ((I2 209 2) + (1 : Int32))), J)
          show dw_ok (pr_X11_drawn K) 246 0 0 [some (.ref 0), some (.int s), some (.int x), some (.int y), some (.int l), some (.int d), some (.int c), some (.int w2), some (.int (ca + ww)), some (.int (i + 1)), some (.int ww)] [] (n, SH1, (dw_up (dw_up (dw_up I2 209 0 (fi_min (I2 209 0) ww)) 209 1 (fi_max (I2 209 1) ww)) 209 2 ((I2 209 2) + (1 : Int32))), J)
          obtain ⟨iz, hiz⟩ : ∃ z, z = (i + 1) := ⟨_, rfl⟩
          rw [← hiz]
          have eiz : iz.toInt = ((k + 1 : Nat) : Int) := by rw [hiz]; exact ix_1 hi (by omega)
          refine q_goto rfl ?_
          have hR3 : SREL (dw_up (dw_up (dw_up I2 209 0 (fi_min (I2 209 0) ww)) 209 1 (fi_max (I2 209 1) ww)) 209 2 ((I2 209 2) + (1 : Int32))) 3 R := srel_fr (S := 3) (fun a p q => ((up_row (by omega)).trans ((up_row (by omega)).trans ((up_row (by omega)).trans (rfl))))) (fun _ _ => rfl) hR2
          obtain ⟨tt, ht⟩ : ∃ z, z = (dnX R (nX R s) cc d k) := ⟨_, rfl⟩
          have hX : (dnX R (nX R s) cc d (k + 1)) = upX ww tt := by rw [ht, hww, hw]; rfl
          have v2 : I2 209 2 = tt.2.2 := by rw [ht]; exact (congrFun e9 2).trans h2
          obtain ⟨h00, h01⟩ := h0 (show k ≠ 0 by omega)
          have v0 : I2 209 0 = tt.1 := by rw [ht]; exact (congrFun e9 0).trans h00
          have v1 : I2 209 1 = tt.2.1 := by rw [ht]; exact (congrFun e9 1).trans h01
          have g0 : (dw_up (dw_up (dw_up I2 209 0 (fi_min (I2 209 0) ww)) 209 1 (fi_max (I2 209 1) ww)) 209 2 ((I2 209 2) + (1 : Int32))) 209 0 = (dnX R (nX R s) cc d (k + 1)).1 := by
            rw [show (dw_up (dw_up (dw_up I2 209 0 (fi_min (I2 209 0) ww)) 209 1 (fi_max (I2 209 1) ww)) 209 2 ((I2 209 2) + (1 : Int32))) 209 0 = (fi_min (I2 209 0) ww) from (up_fld (by decide)).trans ((up_fld (by decide)).trans up_same), hX]
            exact (by rw [v0]; exact upx_mn)
          have g1x : (dw_up (dw_up (dw_up I2 209 0 (fi_min (I2 209 0) ww)) 209 1 (fi_max (I2 209 1) ww)) 209 2 ((I2 209 2) + (1 : Int32))) 209 1 = (dnX R (nX R s) cc d (k + 1)).2.1 := by
            rw [show (dw_up (dw_up (dw_up I2 209 0 (fi_min (I2 209 0) ww)) 209 1 (fi_max (I2 209 1) ww)) 209 2 ((I2 209 2) + (1 : Int32))) 209 1 = (fi_max (I2 209 1) ww) from (up_fld (by decide)).trans up_same, hX]
            exact (by rw [v1]; exact upx_mx)
          have g2x : (dw_up (dw_up (dw_up I2 209 0 (fi_min (I2 209 0) ww)) 209 1 (fi_max (I2 209 1) ww)) 209 2 ((I2 209 2) + (1 : Int32))) 209 2 = (dnX R (nX R s) cc d (k + 1)).2.2 := by
            rw [show (dw_up (dw_up (dw_up I2 209 0 (fi_min (I2 209 0) ww)) 209 1 (fi_max (I2 209 1) ww)) 209 2 ((I2 209 2) + (1 : Int32))) 209 2 = ((I2 209 2) + (1 : Int32)) from up_same, hX]
            exact (by rw [v2]; exact (upx_2y y6).symm)
          exact ih (k + 1) w2 (ca + ww) iz _ (dw_up (dw_up (dw_up I2 209 0 (fi_min (I2 209 0) ww)) 209 1 (fi_max (I2 209 1) ww)) 209 2 ((I2 209 2) + (1 : Int32))) (by omega) eiz (by rw [hw2, hw]; rfl) (by rw [hca, hww, hw]; rfl) (fun _ => ⟨g0, g1x⟩) g2x hR3
      · have y5 : (i).toInt = 0 := y5
        refine q_ild rfl rfl ?_
        refine q_goto rfl ?_
        refine q_iast rfl sk_209 sn_209 (by decide) (by decide) ?_
        show dw_ok (pr_X11_drawn K) 224 0 0 [some (.ref 0), some (.int s), some (.int x), some (.int y), some (.int l), some (.int d), some (.int c), some (.int w2), some (.int (ca + ww)), some (.int i), some (.int ww)] [] (n, SH1, (dw_up (dw_up I2 209 0 (fi_min (I2 209 0) ww)) 209 1 ww), J)
        refine q_ald rfl rfl ?_
        refine q_getr rfl sk_0 sr_0_16 ?_
        refine q_ic rfl ?_
        refine q_dup2 rfl ?_
        refine q_xald rfl (Or.inl rfl) sk_209 sn_209 (by decide) (by decide) ?_
        show dw_ok (pr_X11_drawn K) 231 0 0 [some (.ref 0), some (.int s), some (.int x), some (.int y), some (.int l), some (.int d), some (.int c), some (.int w2), some (.int (ca + ww)), some (.int i), some (.int ww)] [.int ((dw_up (dw_up I2 209 0 (fi_min (I2 209 0) ww)) 209 1 ww) 209 2), .int (2 : Int32), .ref 209] (n, SH1, (dw_up (dw_up I2 209 0 (fi_min (I2 209 0) ww)) 209 1 ww), J)
        rw [show ((dw_up (dw_up I2 209 0 (fi_min (I2 209 0) ww)) 209 1 ww) 209 2) = (I2 209 2) from ((up_fld (by decide)).trans (up_fld (by decide)))]
        refine q_ild rfl rfl ?_
        refine q_if (c := 5) rfl (by decide) (fun y7 => ?_) (fun y7 => ?_)
        · have y7 : (ww).toInt ≤ 0 := y7
          refine q_ic rfl ?_
          refine q_add rfl ?_
          refine q_iast rfl sk_209 sn_209 (by decide) (by decide) ?_
          show dw_ok (pr_X11_drawn K) 243 0 0 [some (.ref 0), some (.int s), some (.int x), some (.int y), some (.int l), some (.int d), some (.int c), some (.int w2), some (.int (ca + ww)), some (.int i), some (.int ww)] [] (n, SH1, (dw_up (dw_up (dw_up I2 209 0 (fi_min (I2 209 0) ww)) 209 1 ww) 209 2 ((I2 209 2) + (0 : Int32))), J)
          refine q_inc rfl rfl rfl ?_
          show dw_ok (pr_X11_drawn K) 246 0 0 [some (.ref 0), some (.int s), some (.int x), some (.int y), some (.int l), some (.int d), some (.int c), some (.int w2), some (.int (ca + ww)), some (.int (i + 1)), some (.int ww)] [] (n, SH1, (dw_up (dw_up (dw_up I2 209 0 (fi_min (I2 209 0) ww)) 209 1 ww) 209 2 ((I2 209 2) + (0 : Int32))), J)
          show dw_ok (pr_X11_drawn K) 246 0 0 [some (.ref 0), some (.int s), some (.int x), some (.int y), some (.int l), some (.int d), some (.int c), some (.int w2), some (.int (ca + ww)), some (.int (i + 1)), some (.int ww)] [] (n, SH1, (dw_up (dw_up (dw_up I2 209 0 (fi_min (I2 209 0) ww)) 209 1 ww) 209 2 ((I2 209 2) + (0 : Int32))), J)
          obtain ⟨iz, hiz⟩ : ∃ z, z = (i + 1) := ⟨_, rfl⟩
          rw [← hiz]
          have eiz : iz.toInt = ((k + 1 : Nat) : Int) := by rw [hiz]; exact ix_1 hi (by omega)
          refine q_goto rfl ?_
          have hR3 : SREL (dw_up (dw_up (dw_up I2 209 0 (fi_min (I2 209 0) ww)) 209 1 ww) 209 2 ((I2 209 2) + (0 : Int32))) 3 R := srel_fr (S := 3) (fun a p q => ((up_row (by omega)).trans ((up_row (by omega)).trans ((up_row (by omega)).trans (rfl))))) (fun _ _ => rfl) hR2
          exact absurd y5 y4
        · have y7 : 0 < (ww).toInt := y7
          refine q_ic rfl ?_
          refine q_goto rfl ?_
          refine q_add rfl ?_
          refine q_iast rfl sk_209 sn_209 (by decide) (by decide) ?_
          show dw_ok (pr_X11_drawn K) 243 0 0 [some (.ref 0), some (.int s), some (.int x), some (.int y), some (.int l), some (.int d), some (.int c), some (.int w2), some (.int (ca + ww)), some (.int i), some (.int ww)] [] (n, SH1, (dw_up (dw_up (dw_up I2 209 0 (fi_min (I2 209 0) ww)) 209 1 ww) 209 2 ((I2 209 2) + (1 : Int32))), J)
          refine q_inc rfl rfl rfl ?_
          show dw_ok (pr_X11_drawn K) 246 0 0 [some (.ref 0), some (.int s), some (.int x), some (.int y), some (.int l), some (.int d), some (.int c), some (.int w2), some (.int (ca + ww)), some (.int (i + 1)), some (.int ww)] [] (n, SH1, (dw_up (dw_up (dw_up I2 209 0 (fi_min (I2 209 0) ww)) 209 1 ww) 209 2 ((I2 209 2) + (1 : Int32))), J)
          show dw_ok (pr_X11_drawn K) 246 0 0 [some (.ref 0), some (.int s), some (.int x), some (.int y), some (.int l), some (.int d), some (.int c), some (.int w2), some (.int (ca + ww)), some (.int (i + 1)), some (.int ww)] [] (n, SH1, (dw_up (dw_up (dw_up I2 209 0 (fi_min (I2 209 0) ww)) 209 1 ww) 209 2 ((I2 209 2) + (1 : Int32))), J)
          obtain ⟨iz, hiz⟩ : ∃ z, z = (i + 1) := ⟨_, rfl⟩
          rw [← hiz]
          have eiz : iz.toInt = ((k + 1 : Nat) : Int) := by rw [hiz]; exact ix_1 hi (by omega)
          refine q_goto rfl ?_
          have hR3 : SREL (dw_up (dw_up (dw_up I2 209 0 (fi_min (I2 209 0) ww)) 209 1 ww) 209 2 ((I2 209 2) + (1 : Int32))) 3 R := srel_fr (S := 3) (fun a p q => ((up_row (by omega)).trans ((up_row (by omega)).trans ((up_row (by omega)).trans (rfl))))) (fun _ _ => rfl) hR2
          exact absurd y5 y4
    · have y4 : (i).toInt = 0 := y4
      refine q_ild rfl rfl ?_
      refine q_goto rfl ?_
      refine q_iast rfl sk_209 sn_209 (by decide) (by decide) ?_
      show dw_ok (pr_X11_drawn K) 197 0 0 [some (.ref 0), some (.int s), some (.int x), some (.int y), some (.int l), some (.int d), some (.int c), some (.int w2), some (.int (ca + ww)), some (.int i), some (.int ww)] [] (n, SH1, (dw_up I2 209 0 ww), J)
      refine q_ald rfl rfl ?_
      refine q_getr rfl sk_0 sr_0_16 ?_
      refine q_ic rfl ?_
      refine q_ild rfl rfl ?_
      refine q_if (c := 1) rfl (by decide) (fun y8 => ?_) (fun y8 => ?_)
      · have y8 : (i).toInt ≠ 0 := y8
        refine q_ald rfl rfl ?_
        refine q_getr rfl sk_0 sr_0_16 ?_
        refine q_ic rfl ?_
        refine q_xald rfl (Or.inl rfl) sk_209 sn_209 (by decide) (by decide) ?_
        show dw_ok (pr_X11_drawn K) 218 0 0 [some (.ref 0), some (.int s), some (.int x), some (.int y), some (.int l), some (.int d), some (.int c), some (.int w2), some (.int (ca + ww)), some (.int i), some (.int ww)] [.int ((dw_up I2 209 0 ww) 209 1), .int (1 : Int32), .ref 209] (n, SH1, (dw_up I2 209 0 ww), J)
        rw [show ((dw_up I2 209 0 ww) 209 1) = (I2 209 1) from (up_fld (by decide))]
        refine q_ild rfl rfl ?_
        refine q_max rfl rfl ?_
        refine q_iast rfl sk_209 sn_209 (by decide) (by decide) ?_
        show dw_ok (pr_X11_drawn K) 224 0 0 [some (.ref 0), some (.int s), some (.int x), some (.int y), some (.int l), some (.int d), some (.int c), some (.int w2), some (.int (ca + ww)), some (.int i), some (.int ww)] [] (n, SH1, (dw_up (dw_up I2 209 0 ww) 209 1 (fi_max (I2 209 1) ww)), J)
        refine q_ald rfl rfl ?_
        refine q_getr rfl sk_0 sr_0_16 ?_
        refine q_ic rfl ?_
        refine q_dup2 rfl ?_
        refine q_xald rfl (Or.inl rfl) sk_209 sn_209 (by decide) (by decide) ?_
        show dw_ok (pr_X11_drawn K) 231 0 0 [some (.ref 0), some (.int s), some (.int x), some (.int y), some (.int l), some (.int d), some (.int c), some (.int w2), some (.int (ca + ww)), some (.int i), some (.int ww)] [.int ((dw_up (dw_up I2 209 0 ww) 209 1 (fi_max (I2 209 1) ww)) 209 2), .int (2 : Int32), .ref 209] (n, SH1, (dw_up (dw_up I2 209 0 ww) 209 1 (fi_max (I2 209 1) ww)), J)
        rw [show ((dw_up (dw_up I2 209 0 ww) 209 1 (fi_max (I2 209 1) ww)) 209 2) = (I2 209 2) from ((up_fld (by decide)).trans (up_fld (by decide)))]
        refine q_ild rfl rfl ?_
        refine q_if (c := 5) rfl (by decide) (fun y9 => ?_) (fun y9 => ?_)
        · have y9 : (ww).toInt ≤ 0 := y9
          refine q_ic rfl ?_
          refine q_add rfl ?_
          refine q_iast rfl sk_209 sn_209 (by decide) (by decide) ?_
          show dw_ok (pr_X11_drawn K) 243 0 0 [some (.ref 0), some (.int s), some (.int x), some (.int y), some (.int l), some (.int d), some (.int c), some (.int w2), some (.int (ca + ww)), some (.int i), some (.int ww)] [] (n, SH1, (dw_up (dw_up (dw_up I2 209 0 ww) 209 1 (fi_max (I2 209 1) ww)) 209 2 ((I2 209 2) + (0 : Int32))), J)
          refine q_inc rfl rfl rfl ?_
          show dw_ok (pr_X11_drawn K) 246 0 0 [some (.ref 0), some (.int s), some (.int x), some (.int y), some (.int l), some (.int d), some (.int c), some (.int w2), some (.int (ca + ww)), some (.int (i + 1)), some (.int ww)] [] (n, SH1, (dw_up (dw_up (dw_up I2 209 0 ww) 209 1 (fi_max (I2 209 1) ww)) 209 2 ((I2 209 2) + (0 : Int32))), J)
          show dw_ok (pr_X11_drawn K) 246 0 0 [some (.ref 0), some (.int s), some (.int x), some (.int y), some (.int l), some (.int d), some (.int c), some (.int w2), some (.int (ca + ww)), some (.int (i + 1)), some (.int ww)] [] (n, SH1, (dw_up (dw_up (dw_up I2 209 0 ww) 209 1 (fi_max (I2 209 1) ww)) 209 2 ((I2 209 2) + (0 : Int32))), J)
          obtain ⟨iz, hiz⟩ : ∃ z, z = (i + 1) := ⟨_, rfl⟩
          rw [← hiz]
          have eiz : iz.toInt = ((k + 1 : Nat) : Int) := by rw [hiz]; exact ix_1 hi (by omega)
          refine q_goto rfl ?_
          have hR3 : SREL (dw_up (dw_up (dw_up I2 209 0 ww) 209 1 (fi_max (I2 209 1) ww)) 209 2 ((I2 209 2) + (0 : Int32))) 3 R := srel_fr (S := 3) (fun a p q => ((up_row (by omega)).trans ((up_row (by omega)).trans ((up_row (by omega)).trans (rfl))))) (fun _ _ => rfl) hR2
          exact absurd y4 y8
        · have y9 : 0 < (ww).toInt := y9
          refine q_ic rfl ?_
          refine q_goto rfl ?_
          refine q_add rfl ?_
          refine q_iast rfl sk_209 sn_209 (by decide) (by decide) ?_
          show dw_ok (pr_X11_drawn K) 243 0 0 [some (.ref 0), some (.int s), some (.int x), some (.int y), some (.int l), some (.int d), some (.int c), some (.int w2), some (.int (ca + ww)), some (.int i), some (.int ww)] [] (n, SH1, (dw_up (dw_up (dw_up I2 209 0 ww) 209 1 (fi_max (I2 209 1) ww)) 209 2 ((I2 209 2) + (1 : Int32))), J)
          refine q_inc rfl rfl rfl ?_
          show dw_ok (pr_X11_drawn K) 246 0 0 [some (.ref 0), some (.int s), some (.int x), some (.int y), some (.int l), some (.int d), some (.int c), some (.int w2), some (.int (ca + ww)), some (.int (i + 1)), some (.int ww)] [] (n, SH1, (dw_up (dw_up (dw_up I2 209 0 ww) 209 1 (fi_max (I2 209 1) ww)) 209 2 ((I2 209 2) + (1 : Int32))), J)
          show dw_ok (pr_X11_drawn K) 246 0 0 [some (.ref 0), some (.int s), some (.int x), some (.int y), some (.int l), some (.int d), some (.int c), some (.int w2), some (.int (ca + ww)), some (.int (i + 1)), some (.int ww)] [] (n, SH1, (dw_up (dw_up (dw_up I2 209 0 ww) 209 1 (fi_max (I2 209 1) ww)) 209 2 ((I2 209 2) + (1 : Int32))), J)
          obtain ⟨iz, hiz⟩ : ∃ z, z = (i + 1) := ⟨_, rfl⟩
          rw [← hiz]
          have eiz : iz.toInt = ((k + 1 : Nat) : Int) := by rw [hiz]; exact ix_1 hi (by omega)
          refine q_goto rfl ?_
          have hR3 : SREL (dw_up (dw_up (dw_up I2 209 0 ww) 209 1 (fi_max (I2 209 1) ww)) 209 2 ((I2 209 2) + (1 : Int32))) 3 R := srel_fr (S := 3) (fun a p q => ((up_row (by omega)).trans ((up_row (by omega)).trans ((up_row (by omega)).trans (rfl))))) (fun _ _ => rfl) hR2
          exact absurd y4 y8
      · have y8 : (i).toInt = 0 := y8
        refine q_ild rfl rfl ?_
        refine q_goto rfl ?_
        refine q_iast rfl sk_209 sn_209 (by decide) (by decide) ?_
        show dw_ok (pr_X11_drawn K) 224 0 0 [some (.ref 0), some (.int s), some (.int x), some (.int y), some (.int l), some (.int d), some (.int c), some (.int w2), some (.int (ca + ww)), some (.int i), some (.int ww)] [] (n, SH1, (dw_up (dw_up I2 209 0 ww) 209 1 ww), J)
        refine q_ald rfl rfl ?_
        refine q_getr rfl sk_0 sr_0_16 ?_
        refine q_ic rfl ?_
        refine q_dup2 rfl ?_
        refine q_xald rfl (Or.inl rfl) sk_209 sn_209 (by decide) (by decide) ?_
        show dw_ok (pr_X11_drawn K) 231 0 0 [some (.ref 0), some (.int s), some (.int x), some (.int y), some (.int l), some (.int d), some (.int c), some (.int w2), some (.int (ca + ww)), some (.int i), some (.int ww)] [.int ((dw_up (dw_up I2 209 0 ww) 209 1 ww) 209 2), .int (2 : Int32), .ref 209] (n, SH1, (dw_up (dw_up I2 209 0 ww) 209 1 ww), J)
        rw [show ((dw_up (dw_up I2 209 0 ww) 209 1 ww) 209 2) = (I2 209 2) from ((up_fld (by decide)).trans (up_fld (by decide)))]
        refine q_ild rfl rfl ?_
        refine q_if (c := 5) rfl (by decide) (fun y10 => ?_) (fun y10 => ?_)
        · have y10 : (ww).toInt ≤ 0 := y10
          refine q_ic rfl ?_
          refine q_add rfl ?_
          refine q_iast rfl sk_209 sn_209 (by decide) (by decide) ?_
          show dw_ok (pr_X11_drawn K) 243 0 0 [some (.ref 0), some (.int s), some (.int x), some (.int y), some (.int l), some (.int d), some (.int c), some (.int w2), some (.int (ca + ww)), some (.int i), some (.int ww)] [] (n, SH1, (dw_up (dw_up (dw_up I2 209 0 ww) 209 1 ww) 209 2 ((I2 209 2) + (0 : Int32))), J)
          refine q_inc rfl rfl rfl ?_
          show dw_ok (pr_X11_drawn K) 246 0 0 [some (.ref 0), some (.int s), some (.int x), some (.int y), some (.int l), some (.int d), some (.int c), some (.int w2), some (.int (ca + ww)), some (.int (i + 1)), some (.int ww)] [] (n, SH1, (dw_up (dw_up (dw_up I2 209 0 ww) 209 1 ww) 209 2 ((I2 209 2) + (0 : Int32))), J)
          show dw_ok (pr_X11_drawn K) 246 0 0 [some (.ref 0), some (.int s), some (.int x), some (.int y), some (.int l), some (.int d), some (.int c), some (.int w2), some (.int (ca + ww)), some (.int (i + 1)), some (.int ww)] [] (n, SH1, (dw_up (dw_up (dw_up I2 209 0 ww) 209 1 ww) 209 2 ((I2 209 2) + (0 : Int32))), J)
          obtain ⟨iz, hiz⟩ : ∃ z, z = (i + 1) := ⟨_, rfl⟩
          rw [← hiz]
          have eiz : iz.toInt = ((k + 1 : Nat) : Int) := by rw [hiz]; exact ix_1 hi (by omega)
          refine q_goto rfl ?_
          have hR3 : SREL (dw_up (dw_up (dw_up I2 209 0 ww) 209 1 ww) 209 2 ((I2 209 2) + (0 : Int32))) 3 R := srel_fr (S := 3) (fun a p q => ((up_row (by omega)).trans ((up_row (by omega)).trans ((up_row (by omega)).trans (rfl))))) (fun _ _ => rfl) hR2
          obtain ⟨tt, ht⟩ : ∃ z, z = (dnX R (nX R s) cc d k) := ⟨_, rfl⟩
          have hX : (dnX R (nX R s) cc d (k + 1)) = upX ww tt := by rw [ht, hww, hw]; rfl
          have v2 : I2 209 2 = tt.2.2 := by rw [ht]; exact (congrFun e9 2).trans h2
          have hk0 : k = 0 := by omega
          have ht0 : tt = (1000000000, 0, 0) := by rw [ht, hk0]; rfl
          have g0 : (dw_up (dw_up (dw_up I2 209 0 ww) 209 1 ww) 209 2 ((I2 209 2) + (0 : Int32))) 209 0 = (dnX R (nX R s) cc d (k + 1)).1 := by
            rw [show (dw_up (dw_up (dw_up I2 209 0 ww) 209 1 ww) 209 2 ((I2 209 2) + (0 : Int32))) 209 0 = ww from (up_fld (by decide)).trans ((up_fld (by decide)).trans up_same), hX]
            exact (by rw [ht0]; exact (upx_b0 hb.2).symm)
          have g1x : (dw_up (dw_up (dw_up I2 209 0 ww) 209 1 ww) 209 2 ((I2 209 2) + (0 : Int32))) 209 1 = (dnX R (nX R s) cc d (k + 1)).2.1 := by
            rw [show (dw_up (dw_up (dw_up I2 209 0 ww) 209 1 ww) 209 2 ((I2 209 2) + (0 : Int32))) 209 1 = ww from (up_fld (by decide)).trans up_same, hX]
            exact (by rw [ht0]; exact (upx_b1 hb.1).symm)
          have g2x : (dw_up (dw_up (dw_up I2 209 0 ww) 209 1 ww) 209 2 ((I2 209 2) + (0 : Int32))) 209 2 = (dnX R (nX R s) cc d (k + 1)).2.2 := by
            rw [show (dw_up (dw_up (dw_up I2 209 0 ww) 209 1 ww) 209 2 ((I2 209 2) + (0 : Int32))) 209 2 = ((I2 209 2) + (0 : Int32)) from up_same, hX]
            exact (by rw [v2]; exact (upx_2n y10).symm)
          exact ih (k + 1) w2 (ca + ww) iz _ (dw_up (dw_up (dw_up I2 209 0 ww) 209 1 ww) 209 2 ((I2 209 2) + (0 : Int32))) (by omega) eiz (by rw [hw2, hw]; rfl) (by rw [hca, hww, hw]; rfl) (fun _ => ⟨g0, g1x⟩) g2x hR3
        · have y10 : 0 < (ww).toInt := y10
          refine q_ic rfl ?_
          refine q_goto rfl ?_
          refine q_add rfl ?_
          refine q_iast rfl sk_209 sn_209 (by decide) (by decide) ?_
          show dw_ok (pr_X11_drawn K) 243 0 0 [some (.ref 0), some (.int s), some (.int x), some (.int y), some (.int l), some (.int d), some (.int c), some (.int w2), some (.int (ca + ww)), some (.int i), some (.int ww)] [] (n, SH1, (dw_up (dw_up (dw_up I2 209 0 ww) 209 1 ww) 209 2 ((I2 209 2) + (1 : Int32))), J)
          refine q_inc rfl rfl rfl ?_
          show dw_ok (pr_X11_drawn K) 246 0 0 [some (.ref 0), some (.int s), some (.int x), some (.int y), some (.int l), some (.int d), some (.int c), some (.int w2), some (.int (ca + ww)), some (.int (i + 1)), some (.int ww)] [] (n, SH1, (dw_up (dw_up (dw_up I2 209 0 ww) 209 1 ww) 209 2 ((I2 209 2) + (1 : Int32))), J)
          show dw_ok (pr_X11_drawn K) 246 0 0 [some (.ref 0), some (.int s), some (.int x), some (.int y), some (.int l), some (.int d), some (.int c), some (.int w2), some (.int (ca + ww)), some (.int (i + 1)), some (.int ww)] [] (n, SH1, (dw_up (dw_up (dw_up I2 209 0 ww) 209 1 ww) 209 2 ((I2 209 2) + (1 : Int32))), J)
          obtain ⟨iz, hiz⟩ : ∃ z, z = (i + 1) := ⟨_, rfl⟩
          rw [← hiz]
          have eiz : iz.toInt = ((k + 1 : Nat) : Int) := by rw [hiz]; exact ix_1 hi (by omega)
          refine q_goto rfl ?_
          have hR3 : SREL (dw_up (dw_up (dw_up I2 209 0 ww) 209 1 ww) 209 2 ((I2 209 2) + (1 : Int32))) 3 R := srel_fr (S := 3) (fun a p q => ((up_row (by omega)).trans ((up_row (by omega)).trans ((up_row (by omega)).trans (rfl))))) (fun _ _ => rfl) hR2
          obtain ⟨tt, ht⟩ : ∃ z, z = (dnX R (nX R s) cc d k) := ⟨_, rfl⟩
          have hX : (dnX R (nX R s) cc d (k + 1)) = upX ww tt := by rw [ht, hww, hw]; rfl
          have v2 : I2 209 2 = tt.2.2 := by rw [ht]; exact (congrFun e9 2).trans h2
          have hk0 : k = 0 := by omega
          have ht0 : tt = (1000000000, 0, 0) := by rw [ht, hk0]; rfl
          have g0 : (dw_up (dw_up (dw_up I2 209 0 ww) 209 1 ww) 209 2 ((I2 209 2) + (1 : Int32))) 209 0 = (dnX R (nX R s) cc d (k + 1)).1 := by
            rw [show (dw_up (dw_up (dw_up I2 209 0 ww) 209 1 ww) 209 2 ((I2 209 2) + (1 : Int32))) 209 0 = ww from (up_fld (by decide)).trans ((up_fld (by decide)).trans up_same), hX]
            exact (by rw [ht0]; exact (upx_b0 hb.2).symm)
          have g1x : (dw_up (dw_up (dw_up I2 209 0 ww) 209 1 ww) 209 2 ((I2 209 2) + (1 : Int32))) 209 1 = (dnX R (nX R s) cc d (k + 1)).2.1 := by
            rw [show (dw_up (dw_up (dw_up I2 209 0 ww) 209 1 ww) 209 2 ((I2 209 2) + (1 : Int32))) 209 1 = ww from (up_fld (by decide)).trans up_same, hX]
            exact (by rw [ht0]; exact (upx_b1 hb.1).symm)
          have g2x : (dw_up (dw_up (dw_up I2 209 0 ww) 209 1 ww) 209 2 ((I2 209 2) + (1 : Int32))) 209 2 = (dnX R (nX R s) cc d (k + 1)).2.2 := by
            rw [show (dw_up (dw_up (dw_up I2 209 0 ww) 209 1 ww) 209 2 ((I2 209 2) + (1 : Int32))) 209 2 = ((I2 209 2) + (1 : Int32)) from up_same, hX]
            exact (by rw [v2]; exact (upx_2y y10).symm)
          exact ih (k + 1) w2 (ca + ww) iz _ (dw_up (dw_up (dw_up I2 209 0 ww) 209 1 ww) 209 2 ((I2 209 2) + (1 : Int32))) (by omega) eiz (by rw [hw2, hw]; rfl) (by rw [hca, hww, hw]; rfl) (fun _ => ⟨g0, g1x⟩) g2x hR3
set_option maxRecDepth 8000 in
theorem v_cdrawn2 {n : Nat} {I : Nat → Nat → Int32} {J : Nat → Nat → Int64} {K : dw_K} {R : Nat → Int32} (hR : SREL I 3 R) {a1 a2 a3 a4 a5 : Int32} (hk : okS R a1 ∧ okC R a2 a3 ∧ 1 ≤ a4.toInt ∧ a4.toInt ≤ 30 → ∀ (w : Int32) (I' : Nat → Nat → Int32), I' 0 17 = 1 → I' 209 0 = (dnX R (nX R a1) (cN R a2 a3) a5 a4.toInt.toNat).1 → I' 209 1 = (dnX R (nX R a1) (cN R a2 a3) a5 a4.toInt.toNat).2.1 → I' 209 2 = (dnX R (nX R a1) (cN R a2 a3) a5 a4.toInt.toNat).2.2 → K (some (.int w)) (n, SH1, I', J)) (hn : ¬ (okS R a1 ∧ okC R a2 a3 ∧ 1 ≤ a4.toInt ∧ a4.toInt ≤ 30) → ∀ (w : Int32) (I' : Nat → Nat → Int32), I' 0 = I 0 → I' 209 = I 209 → K (some (.int w)) (n, SH1, I', J)) : t_X11_drawn [.ref 0, .int a1, .int a2, .int a3, .int a4, .int a5] (n, SH1, I, J) K := by
  have cm1 : (-1 : Int32).toInt = -1 := rfl
  have k0 : (0 : Int32).toInt = 0 := rfl
  have k1 : (1 : Int32).toInt = 1 := rfl
  refine q_body (Nat.le_of_ble_eq_true rfl) ?_
  refine q_ald rfl rfl ?_
  refine q_getr rfl sk_0 sr_0_1 ?_
  refine q_getr rfl sk_3 sr_3_1 ?_
  refine q_ild rfl rfl ?_
  refine q_ild rfl rfl ?_
  refine q_callV (as := [.int a2, .int a3]) (rest := []) rfl rfl sk_4 rfl (Nat.le_of_ble_eq_true rfl) ?_
  refine v_cellAt2 (R := R) hR.1 ((rg_3 hR).1 0 (by decide)) ((rg_3 hR).1 1 (by decide)) (fun k2 c1 ec1 => ?_) (fun k2 => ?_)
  · show dw_ok (pr_X11_drawn K) 12 0 0 [some (.ref 0), some (.int a1), some (.int a2), some (.int a3), some (.int a4), some (.int a5), none, none, none, none, none] [.int c1] (n, SH1, I, J)
    refine q_ist rfl rfl ?_
    show dw_ok (pr_X11_drawn K) 14 0 0 [some (.ref 0), some (.int a1), some (.int a2), some (.int a3), some (.int a4), some (.int a5), some (.int c1), none, none, none, none] [] (n, SH1, I, J)
    refine q_ild rfl rfl ?_
    refine q_ic rfl ?_
    refine q_icmp (c := 0) rfl (by decide) (fun h => absurd (show (c1).toInt = (-1 : Int) from h) (by have := ec1; omega)) (fun y3 => ?_)
    have y3 : (c1).toInt ≠ (-1 : Int) := y3
    refine q_ild rfl rfl ?_
    refine q_ic rfl ?_
    refine q_icmp (c := 2) rfl (by decide) (fun y4 => ?_) (fun y4 => ?_)
    · have y4 : (a4).toInt < (1 : Int) := y4
      refine q_ic rfl ?_
      exact q_iret rfl (hn (fun q => by have := q.2.2; omega) _ _ rfl rfl)
    · have y4 : (1 : Int) ≤ (a4).toInt := y4
      refine q_ild rfl rfl ?_
      refine q_ic rfl ?_
      refine q_icmp (c := 4) rfl (by decide) (fun y5 => ?_) (fun y5 => ?_)
      · have y5 : (30 : Int) < (a4).toInt := y5
        refine q_ic rfl ?_
        exact q_iret rfl (hn (fun q => by have := q.2.2; omega) _ _ rfl rfl)
      · have y5 : (a4).toInt ≤ (30 : Int) := y5
        refine q_ald rfl rfl ?_
        refine q_ald rfl rfl ?_
        refine q_getr rfl sk_0 sr_0_6 ?_
        refine q_ild rfl rfl ?_
        refine q_callV (as := [.ref 164, .int a1]) (rest := []) rfl rfl sk_0 rfl (Nat.le_of_ble_eq_true rfl) ?_
        refine v_startR hR (Or.inr (Or.inl rfl)) (fun s hs hxs hS I1 q0 _ hC _ _ _ => ?_) (fun hno => ?_)
        · show dw_ok (pr_X11_drawn K) 42 0 0 [some (.ref 0), some (.int a1), some (.int a2), some (.int a3), some (.int a4), some (.int a5), some (.int c1), none, none, none, none] [.int (1 : Int32)] (n, SH1, I1, J)
          refine q_if (c := 1) rfl (by decide) (fun y6 => ?_) (fun h => absurd (show (1 : Int) = 0 from h) (by decide))
          have y6 : (1 : Int) ≠ 0 := y6
          refine q_ild rfl rfl ?_
          refine q_ist rfl rfl ?_
          show dw_ok (pr_X11_drawn K) 51 0 0 [some (.ref 0), some (.int a1), some (.int a2), some (.int a3), some (.int a4), some (.int a5), some (.int c1), some (.int a5), none, none, none] [] (n, SH1, I1, J)
          refine q_ic rfl ?_
          refine q_ist rfl rfl ?_
          show dw_ok (pr_X11_drawn K) 54 0 0 [some (.ref 0), some (.int a1), some (.int a2), some (.int a3), some (.int a4), some (.int a5), some (.int c1), some (.int a5), some (.int (0 : Int32)), none, none] [] (n, SH1, I1, J)
          refine q_ald rfl rfl ?_
          refine q_getr rfl sk_0 sr_0_16 ?_
          refine q_ic rfl ?_
          refine q_ic rfl ?_
          refine q_iast rfl sk_209 sn_209 (by decide) (by decide) ?_
          show dw_ok (pr_X11_drawn K) 61 0 0 [some (.ref 0), some (.int a1), some (.int a2), some (.int a3), some (.int a4), some (.int a5), some (.int c1), some (.int a5), some (.int (0 : Int32)), none, none] [] (n, SH1, (dw_up I1 209 2 (0 : Int32)), J)
          refine q_ic rfl ?_
          refine q_ist rfl rfl ?_
          show dw_ok (pr_X11_drawn K) 64 0 0 [some (.ref 0), some (.int a1), some (.int a2), some (.int a3), some (.int a4), some (.int a5), some (.int c1), some (.int a5), some (.int (0 : Int32)), some (.int (0 : Int32)), none] [] (n, SH1, (dw_up I1 209 2 (0 : Int32)), J)
          obtain ⟨oS, eS⟩ := okS_of hs hxs hS
          have hR3 : SREL (dw_up I1 209 2 (0 : Int32)) 3 R := srel_fr (S := 3) (fun a p q => ((up_row (by omega)).trans (q0 a (by omega)))) (fun _ _ => rfl) hR
          exact dnn_loop2 (cc := cN R a2 a3) (m := a4.toInt.toNat) hR.1 oS ec1 (cN_lt k2) (by omega) (by omega) (fun I' e1 e2 e3 => hk ⟨oS, k2, by omega, by omega⟩ _ I' e1 (e2 (by omega)).1 (e2 (by omega)).2 e3) a4.toInt.toNat 0 a5 0 0 _ (dw_up I1 209 2 (0 : Int32)) (by omega) rfl rfl rfl (fun q => absurd rfl q) up_same hR3
        · show dw_ok (pr_X11_drawn K) 42 0 0 [some (.ref 0), some (.int a1), some (.int a2), some (.int a3), some (.int a4), some (.int a5), some (.int c1), none, none, none, none] [.int (0 : Int32)] (n, SH1, I, J)
          refine q_if (c := 1) rfl (by decide) (fun h => absurd (show (0 : Int) ≠ 0 from h) (by decide)) (fun y7 => ?_)
          have y7 : (0 : Int) = 0 := y7
          refine q_ic rfl ?_
          exact q_iret rfl (hn (fun q => okS_no hno q.1) _ _ rfl rfl)
  · show dw_ok (pr_X11_drawn K) 12 0 0 [some (.ref 0), some (.int a1), some (.int a2), some (.int a3), some (.int a4), some (.int a5), none, none, none, none, none] [.int (-1 : Int32)] (n, SH1, I, J)
    refine q_ist rfl rfl ?_
    show dw_ok (pr_X11_drawn K) 14 0 0 [some (.ref 0), some (.int a1), some (.int a2), some (.int a3), some (.int a4), some (.int a5), some (.int (-1 : Int32)), none, none, none, none] [] (n, SH1, I, J)
    refine q_ild rfl rfl ?_
    refine q_ic rfl ?_
    refine q_icmp (c := 0) rfl (by decide) (fun y8 => ?_) (fun h => absurd (show (-1 : Int) ≠ (-1 : Int) from h) (by omega))
    have y8 : (-1 : Int) = (-1 : Int) := y8
    refine q_ic rfl ?_
    exact q_iret rfl (hn (fun q => k2 q.2.1) _ _ rfl rfl)
set_option maxRecDepth 8000 in
set_option maxHeartbeats 8000000 in
theorem mdn_loop2 {n : Nat} {J : Nat → Nat → Int64} {K : dw_K} {R : Nat → Int32} {s x y l d d0 : Int32} {m : Nat} (hG : GOK R) (oS : okS R s) (hS : NOK (nX R s)) (oC : okC R x y) (hm : l.toInt = m) (hm9 : m ≤ 30) (hk : ∀ I' : Nat → Nat → Int32, I' 431 0 = (dnX R (nX R s) (cN R x y) d0 m).1 → I' 431 1 = (dnX R (nX R s) (cN R x y) d0 m).2.1 → I' 431 2 = (dnX R (nX R s) (cN R x y) d0 m).2.2 → I' 404 54 = 1 → K (some (.int (dnS R (nX R s) (cN R x y) d0 m).2)) (n, SH1, I', J)) :
    ∀ (f k : Nat) (ca i : Int32) (u : Option Value) (I : Nat → Nat → Int32), k + f = m → i.toInt = k → I 404 52 = (dnS R (nX R s) (cN R x y) d0 k).1 → ca = (dnS R (nX R s) (cN R x y) d0 k).2 → I 431 0 = (dnX R (nX R s) (cN R x y) d0 k).1 → I 431 1 = (dnX R (nX R s) (cN R x y) d0 k).2.1 → I 431 2 = (dnX R (nX R s) (cN R x y) d0 k).2.2 → I 404 54 = 1 → I 406 = R → dw_ok (pr_X12_drawn K) 75 0 0 [some (.ref 404), some (.int s), some (.int x), some (.int y), some (.int l), some (.int d), some (.int ca), some (.int i), u] [] (n, SH1, I, J) := by
  have k0 : (0 : Int32).toInt = 0 := rfl
  have hN9 := (gok_N hG).2
  intro f
  induction f with
  | zero =>
    intro k ca i u I hf hi hw hca h0 h1 h2 h54 hR
    have ekm : k = m := by omega
    refine q_ild rfl rfl ?_
    refine q_ild rfl rfl ?_
    refine q_icmp (c := 3) rfl (by decide) (fun y1 => ?_) (fun h => absurd (show (i).toInt < (l).toInt from h) (by omega))
    have y1 : (l).toInt ≤ (i).toInt := y1
    refine q_ild rfl rfl ?_
    rw [ekm] at h0 h1 h2
    rw [hca, ekm]
    exact q_iret rfl (hk _ h0 h1 h2 h54)
  | succ f ih =>
    intro k ca i u I hf hi hw hca h0 h1 h2 h54 hR
    obtain ⟨w, ew⟩ : ∃ z, z = (dnS R (nX R s) (cN R x y) d0 k).1 := ⟨_, rfl⟩
    rw [← ew] at hw
    refine q_ild rfl rfl ?_
    refine q_ild rfl rfl ?_
    refine q_icmp (c := 3) rfl (by decide) (fun h => absurd (show (l).toInt ≤ (i).toInt from h) (by omega)) (fun y2 => ?_)
    have y2 : (i).toInt < (l).toInt := y2
    refine q_ald rfl rfl ?_
    refine q_ild rfl rfl ?_
    refine q_ic rfl ?_
    refine q_callV (as := [.int s, .int (0 : Int32)]) (rest := []) rfl rfl sk_404 rfl (Nat.le_of_ble_eq_true rfl) ?_
    refine v_mstartR (st := 0) hR hG oS hS rfl (fun I9 g0 gf h35 hM hB => ?_)
    show dw_ok (pr_X12_drawn K) 88 0 0 [some (.ref 404), some (.int s), some (.int x), some (.int y), some (.int l), some (.int d), some (.int ca), some (.int i), u] [] (n, SH1, I9, J)
    have e9 : I9 406 = R := (g0 406 (by decide) (by decide)).trans hR
    have w9 : I9 404 52 = w := (gf 52 (by decide) (by decide) (by decide) (by decide)).trans hw
    show dw_ok (pr_X12_drawn K) 88 0 0 [some (.ref 404), some (.int s), some (.int x), some (.int y), some (.int l), some (.int d), some (.int ca), some (.int i), u] [] (n, SH1, I9, J)
    refine q_ic rfl ?_
    refine q_ist rfl rfl ?_
    show dw_ok (pr_X12_drawn K) 91 0 0 [some (.ref 404), some (.int s), some (.int x), some (.int y), some (.int l), some (.int d), some (.int ca), some (.int i), some (.int (0 : Int32))] [] (n, SH1, I9, J)
    refine mdh_loop (d0 := w) (I0 := I9) (fun hr I3 r3 f3 g3 t3 => ?_) 12 0 0 I9 rfl rfl (fun _ _ _ => rfl) (fun _ _ => rfl) w9 (fun t _ => (if_neg (fun q => Nat.not_lt_zero _ q.2.1)).symm)
    show dw_ok (pr_X12_drawn K) 118 0 0 [some (.ref 404), some (.int s), some (.int x), some (.int y), some (.int l), some (.int d), some (.int ca), some (.int i), some (.int hr)] [] (n, SH1, I3, J)
    refine q_ic rfl ?_
    refine q_ist rfl rfl ?_
    show dw_ok (pr_X12_drawn K) 121 0 0 [some (.ref 404), some (.int s), some (.int x), some (.int y), some (.int l), some (.int d), some (.int ca), some (.int i), some (.int (0 : Int32))] [] (n, SH1, I3, J)
    have hM2 := msk_drawn (ch := chF w) hM r3 f3 (fun t ht => by
      rw [t3 t ht]
      by_cases q : t < 72 ∧ chF w (t / 6) = true
      · rw [if_pos q, if_pos ⟨q.1, by omega, q.2⟩]
      · rw [if_neg q, if_neg (fun z => q ⟨z.1, z.2.2⟩)])
    have e3 : I3 406 = R := (r3 406 (by decide) (by decide)).trans e9
    have hP : PUR (Nn R) (fun _ => gC R) (dnT (nX R s) (chF w)) (g0S R (nX R s)) 0 := ⟨hN9, fun _ _ _ c hc => gok_c hG hc, fun t _ ht => dnT_ok hS t ht, g0_ok hG hS⟩
    refine mds_loop (I0 := I3) hP (fun t I2 eI2 f5 f4 hK => ?_) 72 0 0 I3 rfl rfl e3 (fun _ _ _ _ => rfl) (fun _ _ _ => rfl) hM2
    have e431 : I2 431 = I 431 := (f5 431 (by decide) (by decide) (by decide)).trans ((r3 431 (by decide) (by decide)).trans (g0 431 (by decide) (by decide)))
    have e54 : I2 404 54 = 1 := (f4 54 (by decide) (by decide)).trans ((f3 54 (by decide)).trans ((gf 54 (by decide) (by decide) (by decide) (by decide)).trans h54))
    have w2 : I2 404 52 = dwS w 12 := (f4 52 (by decide) (by decide)).trans g3
    show dw_ok (pr_X12_drawn K) 140 0 0 [some (.ref 404), some (.int s), some (.int x), some (.int y), some (.int l), some (.int d), some (.int ca), some (.int i), some (.int t)] [] (n, SH1, I2, J)
    refine q_ald rfl rfl ?_
    refine q_getr rfl sk_404 sr_404_29 ?_
    refine q_ald rfl rfl ?_
    refine q_ild rfl rfl ?_
    refine q_ild rfl rfl ?_
    refine q_callV (as := [.int x, .int y]) (rest := [.ref 417]) rfl rfl sk_404 rfl (Nat.le_of_ble_eq_true rfl) ?_
    refine v_numberOf ?_
    show dw_ok (pr_X12_drawn K) 150 0 0 [some (.ref 404), some (.int s), some (.int x), some (.int y), some (.int l), some (.int d), some (.int ca), some (.int i), some (.int t)] [.int (I2 406 0 * y + x), .ref 417] (n, SH1, I2, J)
    rw [eI2]
    have en : (R 0 * y + x).toInt.toNat = cN R x y := by rw [(cN_i hG oC).2]; rfl
    have el := cN_lt oC
    have el9 := (gok_N hG).2
    have ei : (R 0 * y + x).toInt = (cN R x y : Nat) := (cN_i hG oC).2
    show dw_ok (pr_X12_drawn K) 150 0 0 [some (.ref 404), some (.int s), some (.int x), some (.int y), some (.int l), some (.int d), some (.int ca), some (.int i), some (.int t)] [.int (R 0 * y + x), .ref 417] (n, SH1, I2, J)
    show dw_ok (pr_X12_drawn K) 150 0 0 [some (.ref 404), some (.int s), some (.int x), some (.int y), some (.int l), some (.int d), some (.int ca), some (.int i), some (.int t)] [.int (R 0 * y + x), .ref 417] (n, SH1, I2, J)
    refine q_xald rfl (Or.inl rfl) sk_417 sn_417 (by rw [ei]; omega) (by rw [ei]; omega) ?_
    show dw_ok (pr_X12_drawn K) 151 0 0 [some (.ref 404), some (.int s), some (.int x), some (.int y), some (.int l), some (.int d), some (.int ca), some (.int i), some (.int t)] [.int (I2 417 ((R 0 * y + x)).toInt.toNat)] (n, SH1, I2, J)
    rw [en]
    show dw_ok (pr_X12_drawn K) 151 0 0 [some (.ref 404), some (.int s), some (.int x), some (.int y), some (.int l), some (.int d), some (.int ca), some (.int i), some (.int t)] [.int (I2 417 (cN R x y))] (n, SH1, I2, J)
    have eww : (I2 417 (cN R x y)) = dnW R (nX R s) (cN R x y) w := hK.2.2.1.2.1 _ el
    obtain ⟨ww, hww⟩ : ∃ z, z = dnW R (nX R s) (cN R x y) w := ⟨_, rfl⟩
    rw [eww, ← hww]
    refine q_ist rfl rfl ?_
    show dw_ok (pr_X12_drawn K) 153 0 0 [some (.ref 404), some (.int s), some (.int x), some (.int y), some (.int l), some (.int d), some (.int ca), some (.int i), some (.int ww)] [] (n, SH1, I2, J)
    refine q_ild rfl rfl ?_
    refine q_ild rfl rfl ?_
    refine q_add rfl ?_
    refine q_ist rfl rfl ?_
    show dw_ok (pr_X12_drawn K) 160 0 0 [some (.ref 404), some (.int s), some (.int x), some (.int y), some (.int l), some (.int d), some (.int (ca + ww)), some (.int i), some (.int ww)] [] (n, SH1, I2, J)
    refine q_ald rfl rfl ?_
    refine q_getr rfl sk_404 sr_404_53 ?_
    refine q_ic rfl ?_
    refine q_ild rfl rfl ?_
    refine q_ald rfl rfl ?_
    refine q_getr rfl sk_404 sr_404_53 ?_
    refine q_ic rfl ?_
    refine q_xald rfl (Or.inl rfl) sk_431 sn_431 (by decide) (by decide) ?_
    refine q_icmp (c := 3) rfl (by decide) (fun y3 => ?_) (fun y3 => ?_)
    · have y3 : ((I2 431 0)).toInt ≤ (ww).toInt := y3
      refine q_ald rfl rfl ?_
      refine q_getr rfl sk_404 sr_404_53 ?_
      refine q_ic rfl ?_
      refine q_xald rfl (Or.inl rfl) sk_431 sn_431 (by decide) (by decide) ?_
      refine q_iast rfl sk_431 sn_431 (by decide) (by decide) ?_
      show dw_ok (pr_X12_drawn K) 188 0 0 [some (.ref 404), some (.int s), some (.int x), some (.int y), some (.int l), some (.int d), some (.int (ca + ww)), some (.int i), some (.int ww)] [] (n, SH1, (dw_up I2 431 0 (I2 431 0)), J)
      refine q_ald rfl rfl ?_
      refine q_getr rfl sk_404 sr_404_53 ?_
      refine q_ic rfl ?_
      refine q_ild rfl rfl ?_
      refine q_ald rfl rfl ?_
      refine q_getr rfl sk_404 sr_404_53 ?_
      refine q_ic rfl ?_
      refine q_xald rfl (Or.inl rfl) sk_431 sn_431 (by decide) (by decide) ?_
      show dw_ok (pr_X12_drawn K) 201 0 0 [some (.ref 404), some (.int s), some (.int x), some (.int y), some (.int l), some (.int d), some (.int (ca + ww)), some (.int i), some (.int ww)] [.int ((dw_up I2 431 0 (I2 431 0)) 431 1), .int ww, .int (1 : Int32), .ref 431] (n, SH1, (dw_up I2 431 0 (I2 431 0)), J)
      rw [show ((dw_up I2 431 0 (I2 431 0)) 431 1) = (I2 431 1) from (up_fld (by decide))]
      refine q_icmp (c := 5) rfl (by decide) (fun y4 => ?_) (fun y4 => ?_)
      · have y4 : (ww).toInt ≤ ((I2 431 1)).toInt := y4
        refine q_ald rfl rfl ?_
        refine q_getr rfl sk_404 sr_404_53 ?_
        refine q_ic rfl ?_
        refine q_xald rfl (Or.inl rfl) sk_431 sn_431 (by decide) (by decide) ?_
        show dw_ok (pr_X12_drawn K) 215 0 0 [some (.ref 404), some (.int s), some (.int x), some (.int y), some (.int l), some (.int d), some (.int (ca + ww)), some (.int i), some (.int ww)] [.int ((dw_up I2 431 0 (I2 431 0)) 431 1), .int (1 : Int32), .ref 431] (n, SH1, (dw_up I2 431 0 (I2 431 0)), J)
        rw [show ((dw_up I2 431 0 (I2 431 0)) 431 1) = (I2 431 1) from (up_fld (by decide))]
        refine q_iast rfl sk_431 sn_431 (by decide) (by decide) ?_
        show dw_ok (pr_X12_drawn K) 216 0 0 [some (.ref 404), some (.int s), some (.int x), some (.int y), some (.int l), some (.int d), some (.int (ca + ww)), some (.int i), some (.int ww)] [] (n, SH1, (dw_up (dw_up I2 431 0 (I2 431 0)) 431 1 (I2 431 1)), J)
        refine q_ald rfl rfl ?_
        refine q_getr rfl sk_404 sr_404_53 ?_
        refine q_ic rfl ?_
        refine q_dup2 rfl ?_
        refine q_xald rfl (Or.inl rfl) sk_431 sn_431 (by decide) (by decide) ?_
        show dw_ok (pr_X12_drawn K) 223 0 0 [some (.ref 404), some (.int s), some (.int x), some (.int y), some (.int l), some (.int d), some (.int (ca + ww)), some (.int i), some (.int ww)] [.int ((dw_up (dw_up I2 431 0 (I2 431 0)) 431 1 (I2 431 1)) 431 2), .int (2 : Int32), .ref 431] (n, SH1, (dw_up (dw_up I2 431 0 (I2 431 0)) 431 1 (I2 431 1)), J)
        rw [show ((dw_up (dw_up I2 431 0 (I2 431 0)) 431 1 (I2 431 1)) 431 2) = (I2 431 2) from ((up_fld (by decide)).trans (up_fld (by decide)))]
        refine q_ild rfl rfl ?_
        refine q_if (c := 5) rfl (by decide) (fun y5 => ?_) (fun y5 => ?_)
        · have y5 : (ww).toInt ≤ 0 := y5
          refine q_ic rfl ?_
          refine q_add rfl ?_
          refine q_iast rfl sk_431 sn_431 (by decide) (by decide) ?_
          show dw_ok (pr_X12_drawn K) 235 0 0 [some (.ref 404), some (.int s), some (.int x), some (.int y), some (.int l), some (.int d), some (.int (ca + ww)), some (.int i), some (.int ww)] [] (n, SH1, (dw_up (dw_up (dw_up I2 431 0 (I2 431 0)) 431 1 (I2 431 1)) 431 2 ((I2 431 2) + (0 : Int32))), J)
          refine q_inc rfl rfl rfl ?_
          show dw_ok (pr_X12_drawn K) 238 0 0 [some (.ref 404), some (.int s), some (.int x), some (.int y), some (.int l), some (.int d), some (.int (ca + ww)), some (.int (i + 1)), some (.int ww)] [] (n, SH1, (dw_up (dw_up (dw_up I2 431 0 (I2 431 0)) 431 1 (I2 431 1)) 431 2 ((I2 431 2) + (0 : Int32))), J)
          show dw_ok (pr_X12_drawn K) 238 0 0 [some (.ref 404), some (.int s), some (.int x), some (.int y), some (.int l), some (.int d), some (.int (ca + ww)), some (.int (i + 1)), some (.int ww)] [] (n, SH1, (dw_up (dw_up (dw_up I2 431 0 (I2 431 0)) 431 1 (I2 431 1)) 431 2 ((I2 431 2) + (0 : Int32))), J)
          obtain ⟨iz, hiz⟩ : ∃ z, z = (i + 1) := ⟨_, rfl⟩
          rw [← hiz]
          have eiz : iz.toInt = ((k + 1 : Nat) : Int) := by rw [hiz]; exact ix_1 hi (by omega)
          refine q_goto rfl ?_
          obtain ⟨tt, ht⟩ : ∃ z, z = (dnX R (nX R s) (cN R x y) d0 k) := ⟨_, rfl⟩
          have hX : (dnX R (nX R s) (cN R x y) d0 (k + 1)) = upX ww tt := by rw [ht, hww, ew]; rfl
          have v0 : I2 431 0 = tt.1 := by rw [ht]; exact (congrFun e431 0).trans h0
          have v1 : I2 431 1 = tt.2.1 := by rw [ht]; exact (congrFun e431 1).trans h1
          have v2 : I2 431 2 = tt.2.2 := by rw [ht]; exact (congrFun e431 2).trans h2
          have g0x : (dw_up (dw_up (dw_up I2 431 0 (I2 431 0)) 431 1 (I2 431 1)) 431 2 ((I2 431 2) + (0 : Int32))) 431 0 = (dnX R (nX R s) (cN R x y) d0 (k + 1)).1 := by
            rw [show (dw_up (dw_up (dw_up I2 431 0 (I2 431 0)) 431 1 (I2 431 1)) 431 2 ((I2 431 2) + (0 : Int32))) 431 0 = (I2 431 0) from (up_fld (by decide)).trans ((up_fld (by decide)).trans up_same), hX]
            exact (v0.trans (upx_0n (by rw [← v0]; exact y3)).symm)
          have g1x : (dw_up (dw_up (dw_up I2 431 0 (I2 431 0)) 431 1 (I2 431 1)) 431 2 ((I2 431 2) + (0 : Int32))) 431 1 = (dnX R (nX R s) (cN R x y) d0 (k + 1)).2.1 := by
            rw [show (dw_up (dw_up (dw_up I2 431 0 (I2 431 0)) 431 1 (I2 431 1)) 431 2 ((I2 431 2) + (0 : Int32))) 431 1 = (I2 431 1) from (up_fld (by decide)).trans up_same, hX]
            exact (v1.trans (upx_1n (by rw [← v1]; exact y4)).symm)
          have g2x : (dw_up (dw_up (dw_up I2 431 0 (I2 431 0)) 431 1 (I2 431 1)) 431 2 ((I2 431 2) + (0 : Int32))) 431 2 = (dnX R (nX R s) (cN R x y) d0 (k + 1)).2.2 := by
            rw [show (dw_up (dw_up (dw_up I2 431 0 (I2 431 0)) 431 1 (I2 431 1)) 431 2 ((I2 431 2) + (0 : Int32))) 431 2 = ((I2 431 2) + (0 : Int32)) from up_same, hX]
            exact (by rw [v2]; exact (upx_2n y5).symm)
          have g54 : (dw_up (dw_up (dw_up I2 431 0 (I2 431 0)) 431 1 (I2 431 1)) 431 2 ((I2 431 2) + (0 : Int32))) 404 54 = 1 := ((congrFun (up_row (by decide)) _).trans ((congrFun (up_row (by decide)) _).trans ((congrFun (up_row (by decide)) _).trans (e54))))
          exact ih (k + 1) (ca + ww) iz _ (dw_up (dw_up (dw_up I2 431 0 (I2 431 0)) 431 1 (I2 431 1)) 431 2 ((I2 431 2) + (0 : Int32))) (by omega) eiz ((((congrFun (up_row (by decide)) _).trans ((congrFun (up_row (by decide)) _).trans ((congrFun (up_row (by decide)) _).trans (w2))))).trans (by rw [ew]; rfl)) (by rw [hca, hww, ew]; rfl) g0x g1x g2x g54 (((up_row (by decide)).trans ((up_row (by decide)).trans ((up_row (by decide)).trans (eI2)))))
        · have y5 : 0 < (ww).toInt := y5
          refine q_ic rfl ?_
          refine q_goto rfl ?_
          refine q_add rfl ?_
          refine q_iast rfl sk_431 sn_431 (by decide) (by decide) ?_
          show dw_ok (pr_X12_drawn K) 235 0 0 [some (.ref 404), some (.int s), some (.int x), some (.int y), some (.int l), some (.int d), some (.int (ca + ww)), some (.int i), some (.int ww)] [] (n, SH1, (dw_up (dw_up (dw_up I2 431 0 (I2 431 0)) 431 1 (I2 431 1)) 431 2 ((I2 431 2) + (1 : Int32))), J)
          refine q_inc rfl rfl rfl ?_
          show dw_ok (pr_X12_drawn K) 238 0 0 [some (.ref 404), some (.int s), some (.int x), some (.int y), some (.int l), some (.int d), some (.int (ca + ww)), some (.int (i + 1)), some (.int ww)] [] (n, SH1, (dw_up (dw_up (dw_up I2 431 0 (I2 431 0)) 431 1 (I2 431 1)) 431 2 ((I2 431 2) + (1 : Int32))), J)
          show dw_ok (pr_X12_drawn K) 238 0 0 [some (.ref 404), some (.int s), some (.int x), some (.int y), some (.int l), some (.int d), some (.int (ca + ww)), some (.int (i + 1)), some (.int ww)] [] (n, SH1, (dw_up (dw_up (dw_up I2 431 0 (I2 431 0)) 431 1 (I2 431 1)) 431 2 ((I2 431 2) + (1 : Int32))), J)
          obtain ⟨iz, hiz⟩ : ∃ z, z = (i + 1) := ⟨_, rfl⟩
          rw [← hiz]
          have eiz : iz.toInt = ((k + 1 : Nat) : Int) := by rw [hiz]; exact ix_1 hi (by omega)
          refine q_goto rfl ?_
          obtain ⟨tt, ht⟩ : ∃ z, z = (dnX R (nX R s) (cN R x y) d0 k) := ⟨_, rfl⟩
          have hX : (dnX R (nX R s) (cN R x y) d0 (k + 1)) = upX ww tt := by rw [ht, hww, ew]; rfl
          have v0 : I2 431 0 = tt.1 := by rw [ht]; exact (congrFun e431 0).trans h0
          have v1 : I2 431 1 = tt.2.1 := by rw [ht]; exact (congrFun e431 1).trans h1
          have v2 : I2 431 2 = tt.2.2 := by rw [ht]; exact (congrFun e431 2).trans h2
          have g0x : (dw_up (dw_up (dw_up I2 431 0 (I2 431 0)) 431 1 (I2 431 1)) 431 2 ((I2 431 2) + (1 : Int32))) 431 0 = (dnX R (nX R s) (cN R x y) d0 (k + 1)).1 := by
            rw [show (dw_up (dw_up (dw_up I2 431 0 (I2 431 0)) 431 1 (I2 431 1)) 431 2 ((I2 431 2) + (1 : Int32))) 431 0 = (I2 431 0) from (up_fld (by decide)).trans ((up_fld (by decide)).trans up_same), hX]
            exact (v0.trans (upx_0n (by rw [← v0]; exact y3)).symm)
          have g1x : (dw_up (dw_up (dw_up I2 431 0 (I2 431 0)) 431 1 (I2 431 1)) 431 2 ((I2 431 2) + (1 : Int32))) 431 1 = (dnX R (nX R s) (cN R x y) d0 (k + 1)).2.1 := by
            rw [show (dw_up (dw_up (dw_up I2 431 0 (I2 431 0)) 431 1 (I2 431 1)) 431 2 ((I2 431 2) + (1 : Int32))) 431 1 = (I2 431 1) from (up_fld (by decide)).trans up_same, hX]
            exact (v1.trans (upx_1n (by rw [← v1]; exact y4)).symm)
          have g2x : (dw_up (dw_up (dw_up I2 431 0 (I2 431 0)) 431 1 (I2 431 1)) 431 2 ((I2 431 2) + (1 : Int32))) 431 2 = (dnX R (nX R s) (cN R x y) d0 (k + 1)).2.2 := by
            rw [show (dw_up (dw_up (dw_up I2 431 0 (I2 431 0)) 431 1 (I2 431 1)) 431 2 ((I2 431 2) + (1 : Int32))) 431 2 = ((I2 431 2) + (1 : Int32)) from up_same, hX]
            exact (by rw [v2]; exact (upx_2y y5).symm)
          have g54 : (dw_up (dw_up (dw_up I2 431 0 (I2 431 0)) 431 1 (I2 431 1)) 431 2 ((I2 431 2) + (1 : Int32))) 404 54 = 1 := ((congrFun (up_row (by decide)) _).trans ((congrFun (up_row (by decide)) _).trans ((congrFun (up_row (by decide)) _).trans (e54))))
          exact ih (k + 1) (ca + ww) iz _ (dw_up (dw_up (dw_up I2 431 0 (I2 431 0)) 431 1 (I2 431 1)) 431 2 ((I2 431 2) + (1 : Int32))) (by omega) eiz ((((congrFun (up_row (by decide)) _).trans ((congrFun (up_row (by decide)) _).trans ((congrFun (up_row (by decide)) _).trans (w2))))).trans (by rw [ew]; rfl)) (by rw [hca, hww, ew]; rfl) g0x g1x g2x g54 (((up_row (by decide)).trans ((up_row (by decide)).trans ((up_row (by decide)).trans (eI2)))))
      · have y4 : ((I2 431 1)).toInt < (ww).toInt := y4
        refine q_ild rfl rfl ?_
        refine q_goto rfl ?_
        refine q_iast rfl sk_431 sn_431 (by decide) (by decide) ?_
        show dw_ok (pr_X12_drawn K) 216 0 0 [some (.ref 404), some (.int s), some (.int x), some (.int y), some (.int l), some (.int d), some (.int (ca + ww)), some (.int i), some (.int ww)] [] (n, SH1, (dw_up (dw_up I2 431 0 (I2 431 0)) 431 1 ww), J)
        refine q_ald rfl rfl ?_
        refine q_getr rfl sk_404 sr_404_53 ?_
        refine q_ic rfl ?_
        refine q_dup2 rfl ?_
        refine q_xald rfl (Or.inl rfl) sk_431 sn_431 (by decide) (by decide) ?_
        show dw_ok (pr_X12_drawn K) 223 0 0 [some (.ref 404), some (.int s), some (.int x), some (.int y), some (.int l), some (.int d), some (.int (ca + ww)), some (.int i), some (.int ww)] [.int ((dw_up (dw_up I2 431 0 (I2 431 0)) 431 1 ww) 431 2), .int (2 : Int32), .ref 431] (n, SH1, (dw_up (dw_up I2 431 0 (I2 431 0)) 431 1 ww), J)
        rw [show ((dw_up (dw_up I2 431 0 (I2 431 0)) 431 1 ww) 431 2) = (I2 431 2) from ((up_fld (by decide)).trans (up_fld (by decide)))]
        refine q_ild rfl rfl ?_
        refine q_if (c := 5) rfl (by decide) (fun y6 => ?_) (fun y6 => ?_)
        · have y6 : (ww).toInt ≤ 0 := y6
          refine q_ic rfl ?_
          refine q_add rfl ?_
          refine q_iast rfl sk_431 sn_431 (by decide) (by decide) ?_
          show dw_ok (pr_X12_drawn K) 235 0 0 [some (.ref 404), some (.int s), some (.int x), some (.int y), some (.int l), some (.int d), some (.int (ca + ww)), some (.int i), some (.int ww)] [] (n, SH1, (dw_up (dw_up (dw_up I2 431 0 (I2 431 0)) 431 1 ww) 431 2 ((I2 431 2) + (0 : Int32))), J)
          refine q_inc rfl rfl rfl ?_
          show dw_ok (pr_X12_drawn K) 238 0 0 [some (.ref 404), some (.int s), some (.int x), some (.int y), some (.int l), some (.int d), some (.int (ca + ww)), some (.int (i + 1)), some (.int ww)] [] (n, SH1, (dw_up (dw_up (dw_up I2 431 0 (I2 431 0)) 431 1 ww) 431 2 ((I2 431 2) + (0 : Int32))), J)
          show dw_ok (pr_X12_drawn K) 238 0 0 [some (.ref 404), some (.int s), some (.int x), some (.int y), some (.int l), some (.int d), some (.int (ca + ww)), some (.int (i + 1)), some (.int ww)] [] (n, SH1, (dw_up (dw_up (dw_up I2 431 0 (I2 431 0)) 431 1 ww) 431 2 ((I2 431 2) + (0 : Int32))), J)
          obtain ⟨iz, hiz⟩ : ∃ z, z = (i + 1) := ⟨_, rfl⟩
          rw [← hiz]
          have eiz : iz.toInt = ((k + 1 : Nat) : Int) := by rw [hiz]; exact ix_1 hi (by omega)
          refine q_goto rfl ?_
          obtain ⟨tt, ht⟩ : ∃ z, z = (dnX R (nX R s) (cN R x y) d0 k) := ⟨_, rfl⟩
          have hX : (dnX R (nX R s) (cN R x y) d0 (k + 1)) = upX ww tt := by rw [ht, hww, ew]; rfl
          have v0 : I2 431 0 = tt.1 := by rw [ht]; exact (congrFun e431 0).trans h0
          have v1 : I2 431 1 = tt.2.1 := by rw [ht]; exact (congrFun e431 1).trans h1
          have v2 : I2 431 2 = tt.2.2 := by rw [ht]; exact (congrFun e431 2).trans h2
          have g0x : (dw_up (dw_up (dw_up I2 431 0 (I2 431 0)) 431 1 ww) 431 2 ((I2 431 2) + (0 : Int32))) 431 0 = (dnX R (nX R s) (cN R x y) d0 (k + 1)).1 := by
            rw [show (dw_up (dw_up (dw_up I2 431 0 (I2 431 0)) 431 1 ww) 431 2 ((I2 431 2) + (0 : Int32))) 431 0 = (I2 431 0) from (up_fld (by decide)).trans ((up_fld (by decide)).trans up_same), hX]
            exact (v0.trans (upx_0n (by rw [← v0]; exact y3)).symm)
          have g1x : (dw_up (dw_up (dw_up I2 431 0 (I2 431 0)) 431 1 ww) 431 2 ((I2 431 2) + (0 : Int32))) 431 1 = (dnX R (nX R s) (cN R x y) d0 (k + 1)).2.1 := by
            rw [show (dw_up (dw_up (dw_up I2 431 0 (I2 431 0)) 431 1 ww) 431 2 ((I2 431 2) + (0 : Int32))) 431 1 = ww from (up_fld (by decide)).trans up_same, hX]
            exact ((upx_1y (by rw [← v1]; exact y4)).symm)
          have g2x : (dw_up (dw_up (dw_up I2 431 0 (I2 431 0)) 431 1 ww) 431 2 ((I2 431 2) + (0 : Int32))) 431 2 = (dnX R (nX R s) (cN R x y) d0 (k + 1)).2.2 := by
            rw [show (dw_up (dw_up (dw_up I2 431 0 (I2 431 0)) 431 1 ww) 431 2 ((I2 431 2) + (0 : Int32))) 431 2 = ((I2 431 2) + (0 : Int32)) from up_same, hX]
            exact (by rw [v2]; exact (upx_2n y6).symm)
          have g54 : (dw_up (dw_up (dw_up I2 431 0 (I2 431 0)) 431 1 ww) 431 2 ((I2 431 2) + (0 : Int32))) 404 54 = 1 := ((congrFun (up_row (by decide)) _).trans ((congrFun (up_row (by decide)) _).trans ((congrFun (up_row (by decide)) _).trans (e54))))
          exact ih (k + 1) (ca + ww) iz _ (dw_up (dw_up (dw_up I2 431 0 (I2 431 0)) 431 1 ww) 431 2 ((I2 431 2) + (0 : Int32))) (by omega) eiz ((((congrFun (up_row (by decide)) _).trans ((congrFun (up_row (by decide)) _).trans ((congrFun (up_row (by decide)) _).trans (w2))))).trans (by rw [ew]; rfl)) (by rw [hca, hww, ew]; rfl) g0x g1x g2x g54 (((up_row (by decide)).trans ((up_row (by decide)).trans ((up_row (by decide)).trans (eI2)))))
        · have y6 : 0 < (ww).toInt := y6
          refine q_ic rfl ?_
          refine q_goto rfl ?_
          refine q_add rfl ?_
          refine q_iast rfl sk_431 sn_431 (by decide) (by decide) ?_
          show dw_ok (pr_X12_drawn K) 235 0 0 [some (.ref 404), some (.int s), some (.int x), some (.int y), some (.int l), some (.int d), some (.int (ca + ww)), some (.int i), some (.int ww)] [] (n, SH1, (dw_up (dw_up (dw_up I2 431 0 (I2 431 0)) 431 1 ww) 431 2 ((I2 431 2) + (1 : Int32))), J)
          refine q_inc rfl rfl rfl ?_
          show dw_ok (pr_X12_drawn K) 238 0 0 [some (.ref 404), some (.int s), some (.int x), some (.int y), some (.int l), some (.int d), some (.int (ca + ww)), some (.int (i + 1)), some (.int ww)] [] (n, SH1, (dw_up (dw_up (dw_up I2 431 0 (I2 431 0)) 431 1 ww) 431 2 ((I2 431 2) + (1 : Int32))), J)
          show dw_ok (pr_X12_drawn K) 238 0 0 [some (.ref 404), some (.int s), some (.int x), some (.int y), some (.int l), some (.int d), some (.int (ca + ww)), some (.int (i + 1)), some (.int ww)] [] (n, SH1, (dw_up (dw_up (dw_up I2 431 0 (I2 431 0)) 431 1 ww) 431 2 ((I2 431 2) + (1 : Int32))), J)
          obtain ⟨iz, hiz⟩ : ∃ z, z = (i + 1) := ⟨_, rfl⟩
          rw [← hiz]
          have eiz : iz.toInt = ((k + 1 : Nat) : Int) := by rw [hiz]; exact ix_1 hi (by omega)
          refine q_goto rfl ?_
          obtain ⟨tt, ht⟩ : ∃ z, z = (dnX R (nX R s) (cN R x y) d0 k) := ⟨_, rfl⟩
          have hX : (dnX R (nX R s) (cN R x y) d0 (k + 1)) = upX ww tt := by rw [ht, hww, ew]; rfl
          have v0 : I2 431 0 = tt.1 := by rw [ht]; exact (congrFun e431 0).trans h0
          have v1 : I2 431 1 = tt.2.1 := by rw [ht]; exact (congrFun e431 1).trans h1
          have v2 : I2 431 2 = tt.2.2 := by rw [ht]; exact (congrFun e431 2).trans h2
          have g0x : (dw_up (dw_up (dw_up I2 431 0 (I2 431 0)) 431 1 ww) 431 2 ((I2 431 2) + (1 : Int32))) 431 0 = (dnX R (nX R s) (cN R x y) d0 (k + 1)).1 := by
            rw [show (dw_up (dw_up (dw_up I2 431 0 (I2 431 0)) 431 1 ww) 431 2 ((I2 431 2) + (1 : Int32))) 431 0 = (I2 431 0) from (up_fld (by decide)).trans ((up_fld (by decide)).trans up_same), hX]
            exact (v0.trans (upx_0n (by rw [← v0]; exact y3)).symm)
          have g1x : (dw_up (dw_up (dw_up I2 431 0 (I2 431 0)) 431 1 ww) 431 2 ((I2 431 2) + (1 : Int32))) 431 1 = (dnX R (nX R s) (cN R x y) d0 (k + 1)).2.1 := by
            rw [show (dw_up (dw_up (dw_up I2 431 0 (I2 431 0)) 431 1 ww) 431 2 ((I2 431 2) + (1 : Int32))) 431 1 = ww from (up_fld (by decide)).trans up_same, hX]
            exact ((upx_1y (by rw [← v1]; exact y4)).symm)
          have g2x : (dw_up (dw_up (dw_up I2 431 0 (I2 431 0)) 431 1 ww) 431 2 ((I2 431 2) + (1 : Int32))) 431 2 = (dnX R (nX R s) (cN R x y) d0 (k + 1)).2.2 := by
            rw [show (dw_up (dw_up (dw_up I2 431 0 (I2 431 0)) 431 1 ww) 431 2 ((I2 431 2) + (1 : Int32))) 431 2 = ((I2 431 2) + (1 : Int32)) from up_same, hX]
            exact (by rw [v2]; exact (upx_2y y6).symm)
          have g54 : (dw_up (dw_up (dw_up I2 431 0 (I2 431 0)) 431 1 ww) 431 2 ((I2 431 2) + (1 : Int32))) 404 54 = 1 := ((congrFun (up_row (by decide)) _).trans ((congrFun (up_row (by decide)) _).trans ((congrFun (up_row (by decide)) _).trans (e54))))
          exact ih (k + 1) (ca + ww) iz _ (dw_up (dw_up (dw_up I2 431 0 (I2 431 0)) 431 1 ww) 431 2 ((I2 431 2) + (1 : Int32))) (by omega) eiz ((((congrFun (up_row (by decide)) _).trans ((congrFun (up_row (by decide)) _).trans ((congrFun (up_row (by decide)) _).trans (w2))))).trans (by rw [ew]; rfl)) (by rw [hca, hww, ew]; rfl) g0x g1x g2x g54 (((up_row (by decide)).trans ((up_row (by decide)).trans ((up_row (by decide)).trans (eI2)))))
    · have y3 : (ww).toInt < ((I2 431 0)).toInt := y3
      refine q_ild rfl rfl ?_
      refine q_goto rfl ?_
      refine q_iast rfl sk_431 sn_431 (by decide) (by decide) ?_
      show dw_ok (pr_X12_drawn K) 188 0 0 [some (.ref 404), some (.int s), some (.int x), some (.int y), some (.int l), some (.int d), some (.int (ca + ww)), some (.int i), some (.int ww)] [] (n, SH1, (dw_up I2 431 0 ww), J)
      refine q_ald rfl rfl ?_
      refine q_getr rfl sk_404 sr_404_53 ?_
      refine q_ic rfl ?_
      refine q_ild rfl rfl ?_
      refine q_ald rfl rfl ?_
      refine q_getr rfl sk_404 sr_404_53 ?_
      refine q_ic rfl ?_
      refine q_xald rfl (Or.inl rfl) sk_431 sn_431 (by decide) (by decide) ?_
      show dw_ok (pr_X12_drawn K) 201 0 0 [some (.ref 404), some (.int s), some (.int x), some (.int y), some (.int l), some (.int d), some (.int (ca + ww)), some (.int i), some (.int ww)] [.int ((dw_up I2 431 0 ww) 431 1), .int ww, .int (1 : Int32), .ref 431] (n, SH1, (dw_up I2 431 0 ww), J)
      rw [show ((dw_up I2 431 0 ww) 431 1) = (I2 431 1) from (up_fld (by decide))]
      refine q_icmp (c := 5) rfl (by decide) (fun y7 => ?_) (fun y7 => ?_)
      · have y7 : (ww).toInt ≤ ((I2 431 1)).toInt := y7
        refine q_ald rfl rfl ?_
        refine q_getr rfl sk_404 sr_404_53 ?_
        refine q_ic rfl ?_
        refine q_xald rfl (Or.inl rfl) sk_431 sn_431 (by decide) (by decide) ?_
        show dw_ok (pr_X12_drawn K) 215 0 0 [some (.ref 404), some (.int s), some (.int x), some (.int y), some (.int l), some (.int d), some (.int (ca + ww)), some (.int i), some (.int ww)] [.int ((dw_up I2 431 0 ww) 431 1), .int (1 : Int32), .ref 431] (n, SH1, (dw_up I2 431 0 ww), J)
        rw [show ((dw_up I2 431 0 ww) 431 1) = (I2 431 1) from (up_fld (by decide))]
        refine q_iast rfl sk_431 sn_431 (by decide) (by decide) ?_
        show dw_ok (pr_X12_drawn K) 216 0 0 [some (.ref 404), some (.int s), some (.int x), some (.int y), some (.int l), some (.int d), some (.int (ca + ww)), some (.int i), some (.int ww)] [] (n, SH1, (dw_up (dw_up I2 431 0 ww) 431 1 (I2 431 1)), J)
        refine q_ald rfl rfl ?_
        refine q_getr rfl sk_404 sr_404_53 ?_
        refine q_ic rfl ?_
        refine q_dup2 rfl ?_
        refine q_xald rfl (Or.inl rfl) sk_431 sn_431 (by decide) (by decide) ?_
        show dw_ok (pr_X12_drawn K) 223 0 0 [some (.ref 404), some (.int s), some (.int x), some (.int y), some (.int l), some (.int d), some (.int (ca + ww)), some (.int i), some (.int ww)] [.int ((dw_up (dw_up I2 431 0 ww) 431 1 (I2 431 1)) 431 2), .int (2 : Int32), .ref 431] (n, SH1, (dw_up (dw_up I2 431 0 ww) 431 1 (I2 431 1)), J)
        rw [show ((dw_up (dw_up I2 431 0 ww) 431 1 (I2 431 1)) 431 2) = (I2 431 2) from ((up_fld (by decide)).trans (up_fld (by decide)))]
        refine q_ild rfl rfl ?_
        refine q_if (c := 5) rfl (by decide) (fun y8 => ?_) (fun y8 => ?_)
        · have y8 : (ww).toInt ≤ 0 := y8
          refine q_ic rfl ?_
          refine q_add rfl ?_
          refine q_iast rfl sk_431 sn_431 (by decide) (by decide) ?_
          show dw_ok (pr_X12_drawn K) 235 0 0 [some (.ref 404), some (.int s), some (.int x), some (.int y), some (.int l), some (.int d), some (.int (ca + ww)), some (.int i), some (.int ww)] [] (n, SH1, (dw_up (dw_up (dw_up I2 431 0 ww) 431 1 (I2 431 1)) 431 2 ((I2 431 2) + (0 : Int32))), J)
          refine q_inc rfl rfl rfl ?_
          show dw_ok (pr_X12_drawn K) 238 0 0 [some (.ref 404), some (.int s), some (.int x), some (.int y), some (.int l), some (.int d), some (.int (ca + ww)), some (.int (i + 1)), some (.int ww)] [] (n, SH1, (dw_up (dw_up (dw_up I2 431 0 ww) 431 1 (I2 431 1)) 431 2 ((I2 431 2) + (0 : Int32))), J)
          show dw_ok (pr_X12_drawn K) 238 0 0 [some (.ref 404), some (.int s), some (.int x), some (.int y), some (.int l), some (.int d), some (.int (ca + ww)), some (.int (i + 1)), some (.int ww)] [] (n, SH1, (dw_up (dw_up (dw_up I2 431 0 ww) 431 1 (I2 431 1)) 431 2 ((I2 431 2) + (0 : Int32))), J)
          obtain ⟨iz, hiz⟩ : ∃ z, z = (i + 1) := ⟨_, rfl⟩
          rw [← hiz]
          have eiz : iz.toInt = ((k + 1 : Nat) : Int) := by rw [hiz]; exact ix_1 hi (by omega)
          refine q_goto rfl ?_
          obtain ⟨tt, ht⟩ : ∃ z, z = (dnX R (nX R s) (cN R x y) d0 k) := ⟨_, rfl⟩
          have hX : (dnX R (nX R s) (cN R x y) d0 (k + 1)) = upX ww tt := by rw [ht, hww, ew]; rfl
          have v0 : I2 431 0 = tt.1 := by rw [ht]; exact (congrFun e431 0).trans h0
          have v1 : I2 431 1 = tt.2.1 := by rw [ht]; exact (congrFun e431 1).trans h1
          have v2 : I2 431 2 = tt.2.2 := by rw [ht]; exact (congrFun e431 2).trans h2
          have g0x : (dw_up (dw_up (dw_up I2 431 0 ww) 431 1 (I2 431 1)) 431 2 ((I2 431 2) + (0 : Int32))) 431 0 = (dnX R (nX R s) (cN R x y) d0 (k + 1)).1 := by
            rw [show (dw_up (dw_up (dw_up I2 431 0 ww) 431 1 (I2 431 1)) 431 2 ((I2 431 2) + (0 : Int32))) 431 0 = ww from (up_fld (by decide)).trans ((up_fld (by decide)).trans up_same), hX]
            exact ((upx_0y (by rw [← v0]; exact y3)).symm)
          have g1x : (dw_up (dw_up (dw_up I2 431 0 ww) 431 1 (I2 431 1)) 431 2 ((I2 431 2) + (0 : Int32))) 431 1 = (dnX R (nX R s) (cN R x y) d0 (k + 1)).2.1 := by
            rw [show (dw_up (dw_up (dw_up I2 431 0 ww) 431 1 (I2 431 1)) 431 2 ((I2 431 2) + (0 : Int32))) 431 1 = (I2 431 1) from (up_fld (by decide)).trans up_same, hX]
            exact (v1.trans (upx_1n (by rw [← v1]; exact y7)).symm)
          have g2x : (dw_up (dw_up (dw_up I2 431 0 ww) 431 1 (I2 431 1)) 431 2 ((I2 431 2) + (0 : Int32))) 431 2 = (dnX R (nX R s) (cN R x y) d0 (k + 1)).2.2 := by
            rw [show (dw_up (dw_up (dw_up I2 431 0 ww) 431 1 (I2 431 1)) 431 2 ((I2 431 2) + (0 : Int32))) 431 2 = ((I2 431 2) + (0 : Int32)) from up_same, hX]
            exact (by rw [v2]; exact (upx_2n y8).symm)
          have g54 : (dw_up (dw_up (dw_up I2 431 0 ww) 431 1 (I2 431 1)) 431 2 ((I2 431 2) + (0 : Int32))) 404 54 = 1 := ((congrFun (up_row (by decide)) _).trans ((congrFun (up_row (by decide)) _).trans ((congrFun (up_row (by decide)) _).trans (e54))))
          exact ih (k + 1) (ca + ww) iz _ (dw_up (dw_up (dw_up I2 431 0 ww) 431 1 (I2 431 1)) 431 2 ((I2 431 2) + (0 : Int32))) (by omega) eiz ((((congrFun (up_row (by decide)) _).trans ((congrFun (up_row (by decide)) _).trans ((congrFun (up_row (by decide)) _).trans (w2))))).trans (by rw [ew]; rfl)) (by rw [hca, hww, ew]; rfl) g0x g1x g2x g54 (((up_row (by decide)).trans ((up_row (by decide)).trans ((up_row (by decide)).trans (eI2)))))
        · have y8 : 0 < (ww).toInt := y8
          refine q_ic rfl ?_
          refine q_goto rfl ?_
          refine q_add rfl ?_
          refine q_iast rfl sk_431 sn_431 (by decide) (by decide) ?_
          show dw_ok (pr_X12_drawn K) 235 0 0 [some (.ref 404), some (.int s), some (.int x), some (.int y), some (.int l), some (.int d), some (.int (ca + ww)), some (.int i), some (.int ww)] [] (n, SH1, (dw_up (dw_up (dw_up I2 431 0 ww) 431 1 (I2 431 1)) 431 2 ((I2 431 2) + (1 : Int32))), J)
          refine q_inc rfl rfl rfl ?_
          show dw_ok (pr_X12_drawn K) 238 0 0 [some (.ref 404), some (.int s), some (.int x), some (.int y), some (.int l), some (.int d), some (.int (ca + ww)), some (.int (i + 1)), some (.int ww)] [] (n, SH1, (dw_up (dw_up (dw_up I2 431 0 ww) 431 1 (I2 431 1)) 431 2 ((I2 431 2) + (1 : Int32))), J)
          show dw_ok (pr_X12_drawn K) 238 0 0 [some (.ref 404), some (.int s), some (.int x), some (.int y), some (.int l), some (.int d), some (.int (ca + ww)), some (.int (i + 1)), some (.int ww)] [] (n, SH1, (dw_up (dw_up (dw_up I2 431 0 ww) 431 1 (I2 431 1)) 431 2 ((I2 431 2) + (1 : Int32))), J)
          obtain ⟨iz, hiz⟩ : ∃ z, z = (i + 1) := ⟨_, rfl⟩
          rw [← hiz]
          have eiz : iz.toInt = ((k + 1 : Nat) : Int) := by rw [hiz]; exact ix_1 hi (by omega)
          refine q_goto rfl ?_
          obtain ⟨tt, ht⟩ : ∃ z, z = (dnX R (nX R s) (cN R x y) d0 k) := ⟨_, rfl⟩
          have hX : (dnX R (nX R s) (cN R x y) d0 (k + 1)) = upX ww tt := by rw [ht, hww, ew]; rfl
          have v0 : I2 431 0 = tt.1 := by rw [ht]; exact (congrFun e431 0).trans h0
          have v1 : I2 431 1 = tt.2.1 := by rw [ht]; exact (congrFun e431 1).trans h1
          have v2 : I2 431 2 = tt.2.2 := by rw [ht]; exact (congrFun e431 2).trans h2
          have g0x : (dw_up (dw_up (dw_up I2 431 0 ww) 431 1 (I2 431 1)) 431 2 ((I2 431 2) + (1 : Int32))) 431 0 = (dnX R (nX R s) (cN R x y) d0 (k + 1)).1 := by
            rw [show (dw_up (dw_up (dw_up I2 431 0 ww) 431 1 (I2 431 1)) 431 2 ((I2 431 2) + (1 : Int32))) 431 0 = ww from (up_fld (by decide)).trans ((up_fld (by decide)).trans up_same), hX]
            exact ((upx_0y (by rw [← v0]; exact y3)).symm)
          have g1x : (dw_up (dw_up (dw_up I2 431 0 ww) 431 1 (I2 431 1)) 431 2 ((I2 431 2) + (1 : Int32))) 431 1 = (dnX R (nX R s) (cN R x y) d0 (k + 1)).2.1 := by
            rw [show (dw_up (dw_up (dw_up I2 431 0 ww) 431 1 (I2 431 1)) 431 2 ((I2 431 2) + (1 : Int32))) 431 1 = (I2 431 1) from (up_fld (by decide)).trans up_same, hX]
            exact (v1.trans (upx_1n (by rw [← v1]; exact y7)).symm)
          have g2x : (dw_up (dw_up (dw_up I2 431 0 ww) 431 1 (I2 431 1)) 431 2 ((I2 431 2) + (1 : Int32))) 431 2 = (dnX R (nX R s) (cN R x y) d0 (k + 1)).2.2 := by
            rw [show (dw_up (dw_up (dw_up I2 431 0 ww) 431 1 (I2 431 1)) 431 2 ((I2 431 2) + (1 : Int32))) 431 2 = ((I2 431 2) + (1 : Int32)) from up_same, hX]
            exact (by rw [v2]; exact (upx_2y y8).symm)
          have g54 : (dw_up (dw_up (dw_up I2 431 0 ww) 431 1 (I2 431 1)) 431 2 ((I2 431 2) + (1 : Int32))) 404 54 = 1 := ((congrFun (up_row (by decide)) _).trans ((congrFun (up_row (by decide)) _).trans ((congrFun (up_row (by decide)) _).trans (e54))))
          exact ih (k + 1) (ca + ww) iz _ (dw_up (dw_up (dw_up I2 431 0 ww) 431 1 (I2 431 1)) 431 2 ((I2 431 2) + (1 : Int32))) (by omega) eiz ((((congrFun (up_row (by decide)) _).trans ((congrFun (up_row (by decide)) _).trans ((congrFun (up_row (by decide)) _).trans (w2))))).trans (by rw [ew]; rfl)) (by rw [hca, hww, ew]; rfl) g0x g1x g2x g54 (((up_row (by decide)).trans ((up_row (by decide)).trans ((up_row (by decide)).trans (eI2)))))
      · have y7 : ((I2 431 1)).toInt < (ww).toInt := y7
        refine q_ild rfl rfl ?_
        refine q_goto rfl ?_
        refine q_iast rfl sk_431 sn_431 (by decide) (by decide) ?_
        show dw_ok (pr_X12_drawn K) 216 0 0 [some (.ref 404), some (.int s), some (.int x), some (.int y), some (.int l), some (.int d), some (.int (ca + ww)), some (.int i), some (.int ww)] [] (n, SH1, (dw_up (dw_up I2 431 0 ww) 431 1 ww), J)
        refine q_ald rfl rfl ?_
        refine q_getr rfl sk_404 sr_404_53 ?_
        refine q_ic rfl ?_
        refine q_dup2 rfl ?_
        refine q_xald rfl (Or.inl rfl) sk_431 sn_431 (by decide) (by decide) ?_
        show dw_ok (pr_X12_drawn K) 223 0 0 [some (.ref 404), some (.int s), some (.int x), some (.int y), some (.int l), some (.int d), some (.int (ca + ww)), some (.int i), some (.int ww)] [.int ((dw_up (dw_up I2 431 0 ww) 431 1 ww) 431 2), .int (2 : Int32), .ref 431] (n, SH1, (dw_up (dw_up I2 431 0 ww) 431 1 ww), J)
        rw [show ((dw_up (dw_up I2 431 0 ww) 431 1 ww) 431 2) = (I2 431 2) from ((up_fld (by decide)).trans (up_fld (by decide)))]
        refine q_ild rfl rfl ?_
        refine q_if (c := 5) rfl (by decide) (fun y9 => ?_) (fun y9 => ?_)
        · have y9 : (ww).toInt ≤ 0 := y9
          refine q_ic rfl ?_
          refine q_add rfl ?_
          refine q_iast rfl sk_431 sn_431 (by decide) (by decide) ?_
          show dw_ok (pr_X12_drawn K) 235 0 0 [some (.ref 404), some (.int s), some (.int x), some (.int y), some (.int l), some (.int d), some (.int (ca + ww)), some (.int i), some (.int ww)] [] (n, SH1, (dw_up (dw_up (dw_up I2 431 0 ww) 431 1 ww) 431 2 ((I2 431 2) + (0 : Int32))), J)
          refine q_inc rfl rfl rfl ?_
          show dw_ok (pr_X12_drawn K) 238 0 0 [some (.ref 404), some (.int s), some (.int x), some (.int y), some (.int l), some (.int d), some (.int (ca + ww)), some (.int (i + 1)), some (.int ww)] [] (n, SH1, (dw_up (dw_up (dw_up I2 431 0 ww) 431 1 ww) 431 2 ((I2 431 2) + (0 : Int32))), J)
          show dw_ok (pr_X12_drawn K) 238 0 0 [some (.ref 404), some (.int s), some (.int x), some (.int y), some (.int l), some (.int d), some (.int (ca + ww)), some (.int (i + 1)), some (.int ww)] [] (n, SH1, (dw_up (dw_up (dw_up I2 431 0 ww) 431 1 ww) 431 2 ((I2 431 2) + (0 : Int32))), J)
          obtain ⟨iz, hiz⟩ : ∃ z, z = (i + 1) := ⟨_, rfl⟩
          rw [← hiz]
          have eiz : iz.toInt = ((k + 1 : Nat) : Int) := by rw [hiz]; exact ix_1 hi (by omega)
          refine q_goto rfl ?_
          obtain ⟨tt, ht⟩ : ∃ z, z = (dnX R (nX R s) (cN R x y) d0 k) := ⟨_, rfl⟩
          have hX : (dnX R (nX R s) (cN R x y) d0 (k + 1)) = upX ww tt := by rw [ht, hww, ew]; rfl
          have v0 : I2 431 0 = tt.1 := by rw [ht]; exact (congrFun e431 0).trans h0
          have v1 : I2 431 1 = tt.2.1 := by rw [ht]; exact (congrFun e431 1).trans h1
          have v2 : I2 431 2 = tt.2.2 := by rw [ht]; exact (congrFun e431 2).trans h2
          have g0x : (dw_up (dw_up (dw_up I2 431 0 ww) 431 1 ww) 431 2 ((I2 431 2) + (0 : Int32))) 431 0 = (dnX R (nX R s) (cN R x y) d0 (k + 1)).1 := by
            rw [show (dw_up (dw_up (dw_up I2 431 0 ww) 431 1 ww) 431 2 ((I2 431 2) + (0 : Int32))) 431 0 = ww from (up_fld (by decide)).trans ((up_fld (by decide)).trans up_same), hX]
            exact ((upx_0y (by rw [← v0]; exact y3)).symm)
          have g1x : (dw_up (dw_up (dw_up I2 431 0 ww) 431 1 ww) 431 2 ((I2 431 2) + (0 : Int32))) 431 1 = (dnX R (nX R s) (cN R x y) d0 (k + 1)).2.1 := by
            rw [show (dw_up (dw_up (dw_up I2 431 0 ww) 431 1 ww) 431 2 ((I2 431 2) + (0 : Int32))) 431 1 = ww from (up_fld (by decide)).trans up_same, hX]
            exact ((upx_1y (by rw [← v1]; exact y7)).symm)
          have g2x : (dw_up (dw_up (dw_up I2 431 0 ww) 431 1 ww) 431 2 ((I2 431 2) + (0 : Int32))) 431 2 = (dnX R (nX R s) (cN R x y) d0 (k + 1)).2.2 := by
            rw [show (dw_up (dw_up (dw_up I2 431 0 ww) 431 1 ww) 431 2 ((I2 431 2) + (0 : Int32))) 431 2 = ((I2 431 2) + (0 : Int32)) from up_same, hX]
            exact (by rw [v2]; exact (upx_2n y9).symm)
          have g54 : (dw_up (dw_up (dw_up I2 431 0 ww) 431 1 ww) 431 2 ((I2 431 2) + (0 : Int32))) 404 54 = 1 := ((congrFun (up_row (by decide)) _).trans ((congrFun (up_row (by decide)) _).trans ((congrFun (up_row (by decide)) _).trans (e54))))
          exact ih (k + 1) (ca + ww) iz _ (dw_up (dw_up (dw_up I2 431 0 ww) 431 1 ww) 431 2 ((I2 431 2) + (0 : Int32))) (by omega) eiz ((((congrFun (up_row (by decide)) _).trans ((congrFun (up_row (by decide)) _).trans ((congrFun (up_row (by decide)) _).trans (w2))))).trans (by rw [ew]; rfl)) (by rw [hca, hww, ew]; rfl) g0x g1x g2x g54 (((up_row (by decide)).trans ((up_row (by decide)).trans ((up_row (by decide)).trans (eI2)))))
        · have y9 : 0 < (ww).toInt := y9
          refine q_ic rfl ?_
          refine q_goto rfl ?_
          refine q_add rfl ?_
          refine q_iast rfl sk_431 sn_431 (by decide) (by decide) ?_
          show dw_ok (pr_X12_drawn K) 235 0 0 [some (.ref 404), some (.int s), some (.int x), some (.int y), some (.int l), some (.int d), some (.int (ca + ww)), some (.int i), some (.int ww)] [] (n, SH1, (dw_up (dw_up (dw_up I2 431 0 ww) 431 1 ww) 431 2 ((I2 431 2) + (1 : Int32))), J)
          refine q_inc rfl rfl rfl ?_
          show dw_ok (pr_X12_drawn K) 238 0 0 [some (.ref 404), some (.int s), some (.int x), some (.int y), some (.int l), some (.int d), some (.int (ca + ww)), some (.int (i + 1)), some (.int ww)] [] (n, SH1, (dw_up (dw_up (dw_up I2 431 0 ww) 431 1 ww) 431 2 ((I2 431 2) + (1 : Int32))), J)
          show dw_ok (pr_X12_drawn K) 238 0 0 [some (.ref 404), some (.int s), some (.int x), some (.int y), some (.int l), some (.int d), some (.int (ca + ww)), some (.int (i + 1)), some (.int ww)] [] (n, SH1, (dw_up (dw_up (dw_up I2 431 0 ww) 431 1 ww) 431 2 ((I2 431 2) + (1 : Int32))), J)
          obtain ⟨iz, hiz⟩ : ∃ z, z = (i + 1) := ⟨_, rfl⟩
          rw [← hiz]
          have eiz : iz.toInt = ((k + 1 : Nat) : Int) := by rw [hiz]; exact ix_1 hi (by omega)
          refine q_goto rfl ?_
          obtain ⟨tt, ht⟩ : ∃ z, z = (dnX R (nX R s) (cN R x y) d0 k) := ⟨_, rfl⟩
          have hX : (dnX R (nX R s) (cN R x y) d0 (k + 1)) = upX ww tt := by rw [ht, hww, ew]; rfl
          have v0 : I2 431 0 = tt.1 := by rw [ht]; exact (congrFun e431 0).trans h0
          have v1 : I2 431 1 = tt.2.1 := by rw [ht]; exact (congrFun e431 1).trans h1
          have v2 : I2 431 2 = tt.2.2 := by rw [ht]; exact (congrFun e431 2).trans h2
          have g0x : (dw_up (dw_up (dw_up I2 431 0 ww) 431 1 ww) 431 2 ((I2 431 2) + (1 : Int32))) 431 0 = (dnX R (nX R s) (cN R x y) d0 (k + 1)).1 := by
            rw [show (dw_up (dw_up (dw_up I2 431 0 ww) 431 1 ww) 431 2 ((I2 431 2) + (1 : Int32))) 431 0 = ww from (up_fld (by decide)).trans ((up_fld (by decide)).trans up_same), hX]
            exact ((upx_0y (by rw [← v0]; exact y3)).symm)
          have g1x : (dw_up (dw_up (dw_up I2 431 0 ww) 431 1 ww) 431 2 ((I2 431 2) + (1 : Int32))) 431 1 = (dnX R (nX R s) (cN R x y) d0 (k + 1)).2.1 := by
            rw [show (dw_up (dw_up (dw_up I2 431 0 ww) 431 1 ww) 431 2 ((I2 431 2) + (1 : Int32))) 431 1 = ww from (up_fld (by decide)).trans up_same, hX]
            exact ((upx_1y (by rw [← v1]; exact y7)).symm)
          have g2x : (dw_up (dw_up (dw_up I2 431 0 ww) 431 1 ww) 431 2 ((I2 431 2) + (1 : Int32))) 431 2 = (dnX R (nX R s) (cN R x y) d0 (k + 1)).2.2 := by
            rw [show (dw_up (dw_up (dw_up I2 431 0 ww) 431 1 ww) 431 2 ((I2 431 2) + (1 : Int32))) 431 2 = ((I2 431 2) + (1 : Int32)) from up_same, hX]
            exact (by rw [v2]; exact (upx_2y y9).symm)
          have g54 : (dw_up (dw_up (dw_up I2 431 0 ww) 431 1 ww) 431 2 ((I2 431 2) + (1 : Int32))) 404 54 = 1 := ((congrFun (up_row (by decide)) _).trans ((congrFun (up_row (by decide)) _).trans ((congrFun (up_row (by decide)) _).trans (e54))))
          exact ih (k + 1) (ca + ww) iz _ (dw_up (dw_up (dw_up I2 431 0 ww) 431 1 ww) 431 2 ((I2 431 2) + (1 : Int32))) (by omega) eiz ((((congrFun (up_row (by decide)) _).trans ((congrFun (up_row (by decide)) _).trans ((congrFun (up_row (by decide)) _).trans (w2))))).trans (by rw [ew]; rfl)) (by rw [hca, hww, ew]; rfl) g0x g1x g2x g54 (((up_row (by decide)).trans ((up_row (by decide)).trans ((up_row (by decide)).trans (eI2)))))
set_option maxRecDepth 8000 in
set_option maxHeartbeats 4000000 in
theorem v_mdrawn2 {n : Nat} {I : Nat → Nat → Int32} {J : Nat → Nat → Int64} {K : dw_K} {R : Nat → Int32} (hR : I 406 = R) (hG : GOK R) {a1 a2 a3 a4 a5 : Int32} (hN : okS R a1 → NOK (nX R a1)) (hk : okS R a1 ∧ okC R a2 a3 ∧ 1 ≤ a4.toInt ∧ a4.toInt ≤ 30 → ∀ (w : Int32) (I' : Nat → Nat → Int32), I' 431 0 = (dnX R (nX R a1) (cN R a2 a3) a5 a4.toInt.toNat).1 → I' 431 1 = (dnX R (nX R a1) (cN R a2 a3) a5 a4.toInt.toNat).2.1 → I' 431 2 = (dnX R (nX R a1) (cN R a2 a3) a5 a4.toInt.toNat).2.2 → I' 404 54 = 1 → K (some (.int w)) (n, SH1, I', J)) (hn : ¬ (okS R a1 ∧ okC R a2 a3 ∧ 1 ≤ a4.toInt ∧ a4.toInt ≤ 30) → ∀ (w : Int32) (I' : Nat → Nat → Int32), I' 431 = I 431 → I' 404 54 = I 404 54 → K (some (.int w)) (n, SH1, I', J)) : t_X12_drawn [.ref 404, .int a1, .int a2, .int a3, .int a4, .int a5] (n, SH1, I, J) K := by
  have cm1 : (-1 : Int32).toInt = -1 := rfl
  have k0 : (0 : Int32).toInt = 0 := rfl
  have k1 : (1 : Int32).toInt = 1 := rfl
  have k2 : (2 : Int32).toInt = 2 := rfl
  refine q_body (Nat.le_of_ble_eq_true rfl) ?_
  refine q_ald rfl rfl ?_
  refine q_ic rfl ?_
  refine q_puti rfl sk_404 ?_
  show dw_ok (pr_X12_drawn K) 5 0 0 [some (.ref 404), some (.int a1), some (.int a2), some (.int a3), some (.int a4), some (.int a5), none, none, none] [] (n, SH1, (dw_up I 404 0 (0 : Int32)), J)
  refine q_ald rfl rfl ?_
  refine q_ild rfl rfl ?_
  refine q_callV (as := [.int a1]) (rest := []) rfl rfl sk_404 rfl (Nat.le_of_ble_eq_true rfl) ?_
  obtain ⟨I1, hI1⟩ : ∃ X, X = (dw_up I 404 0 (0 : Int32)) := ⟨_, rfl⟩
  rw [← hI1]
  have eI1 : I1 406 = R := by rw [hI1]; exact ((up_row (by decide)).trans (hR))
  refine v_isNight (fun w_ oS => ?_)
  rcases oS with ⟨rfl, oS⟩ | ⟨rfl, oS⟩
  · show dw_ok (pr_X12_drawn K) 10 0 0 [some (.ref 404), some (.int a1), some (.int a2), some (.int a3), some (.int a4), some (.int a5), none, none, none] [.int (1 : Int32)] (n, SH1, I1, J)
    refine q_if (c := 0) rfl (by decide) (fun h => absurd (show (1 : Int) = 0 from h) (by decide)) (fun y2 => ?_)
    have y2 : (1 : Int) ≠ 0 := y2
    refine q_ald rfl rfl ?_
    refine q_ild rfl rfl ?_
    refine q_ild rfl rfl ?_
    refine q_callV (as := [.int a2, .int a3]) (rest := []) rfl rfl sk_404 rfl (Nat.le_of_ble_eq_true rfl) ?_
    refine v_misCell (C := Cn R) (R := Rn R) (by rw [eI1]; exact hG.1.1) (by rw [eI1]; exact hG.1.2.1) (fun w_ oC => ?_)
    rcases oC with ⟨rfl, oC⟩ | ⟨rfl, oC⟩
    · show dw_ok (pr_X12_drawn K) 19 0 0 [some (.ref 404), some (.int a1), some (.int a2), some (.int a3), some (.int a4), some (.int a5), none, none, none] [.int (1 : Int32)] (n, SH1, I1, J)
      refine q_if (c := 0) rfl (by decide) (fun h => absurd (show (1 : Int) = 0 from h) (by decide)) (fun y3 => ?_)
      have y3 : (1 : Int) ≠ 0 := y3
      refine q_ild rfl rfl ?_
      refine q_ic rfl ?_
      refine q_ic rfl ?_
      refine q_callS (as := [.int a4, .int (1 : Int32), .int (30 : Int32)]) (rest := []) rfl rfl rfl rfl ?_
      refine v_isIn (fun w_ oI => ?_)
      rcases oI with ⟨rfl, oI⟩ | ⟨rfl, oI⟩
      · have oI : (1 ≤ a4.toInt ∧ a4.toInt ≤ 30) := oI
        show dw_ok (pr_X12_drawn K) 30 0 0 [some (.ref 404), some (.int a1), some (.int a2), some (.int a3), some (.int a4), some (.int a5), none, none, none] [.int (1 : Int32)] (n, SH1, I1, J)
        refine q_if (c := 1) rfl (by decide) (fun y4 => ?_) (fun h => absurd (show (1 : Int) = 0 from h) (by decide))
        have y4 : (1 : Int) ≠ 0 := y4
        refine q_ald rfl rfl ?_
        refine q_ild rfl rfl ?_
        refine q_puti rfl sk_404 ?_
        show dw_ok (pr_X12_drawn K) 41 0 0 [some (.ref 404), some (.int a1), some (.int a2), some (.int a3), some (.int a4), some (.int a5), none, none, none] [] (n, SH1, (dw_up I1 404 52 a5), J)
        refine q_ic rfl ?_
        refine q_ist rfl rfl ?_
        show dw_ok (pr_X12_drawn K) 44 0 0 [some (.ref 404), some (.int a1), some (.int a2), some (.int a3), some (.int a4), some (.int a5), some (.int (0 : Int32)), none, none] [] (n, SH1, (dw_up I1 404 52 a5), J)
        refine q_ald rfl rfl ?_
        refine q_getr rfl sk_404 sr_404_53 ?_
        refine q_ic rfl ?_
        refine q_ic rfl ?_
        refine q_iast rfl sk_431 sn_431 (by decide) (by decide) ?_
        show dw_ok (pr_X12_drawn K) 53 0 0 [some (.ref 404), some (.int a1), some (.int a2), some (.int a3), some (.int a4), some (.int a5), some (.int (0 : Int32)), none, none] [] (n, SH1, (dw_up (dw_up I1 404 52 a5) 431 0 (1000000000 : Int32)), J)
        refine q_ald rfl rfl ?_
        refine q_getr rfl sk_404 sr_404_53 ?_
        refine q_ic rfl ?_
        refine q_ic rfl ?_
        refine q_iast rfl sk_431 sn_431 (by decide) (by decide) ?_
        show dw_ok (pr_X12_drawn K) 60 0 0 [some (.ref 404), some (.int a1), some (.int a2), some (.int a3), some (.int a4), some (.int a5), some (.int (0 : Int32)), none, none] [] (n, SH1, (dw_up (dw_up (dw_up I1 404 52 a5) 431 0 (1000000000 : Int32)) 431 1 (0 : Int32)), J)
        refine q_ald rfl rfl ?_
        refine q_getr rfl sk_404 sr_404_53 ?_
        refine q_ic rfl ?_
        refine q_ic rfl ?_
        refine q_iast rfl sk_431 sn_431 (by decide) (by decide) ?_
        show dw_ok (pr_X12_drawn K) 67 0 0 [some (.ref 404), some (.int a1), some (.int a2), some (.int a3), some (.int a4), some (.int a5), some (.int (0 : Int32)), none, none] [] (n, SH1, (dw_up (dw_up (dw_up (dw_up I1 404 52 a5) 431 0 (1000000000 : Int32)) 431 1 (0 : Int32)) 431 2 (0 : Int32)), J)
        refine q_ald rfl rfl ?_
        refine q_ic rfl ?_
        refine q_putz rfl sk_404 (Or.inr rfl) ?_
        show dw_ok (pr_X12_drawn K) 72 0 0 [some (.ref 404), some (.int a1), some (.int a2), some (.int a3), some (.int a4), some (.int a5), some (.int (0 : Int32)), none, none] [] (n, SH1, (dw_up (dw_up (dw_up (dw_up (dw_up I1 404 52 a5) 431 0 (1000000000 : Int32)) 431 1 (0 : Int32)) 431 2 (0 : Int32)) 404 54 (1 : Int32)), J)
        refine q_ic rfl ?_
        refine q_ist rfl rfl ?_
        show dw_ok (pr_X12_drawn K) 75 0 0 [some (.ref 404), some (.int a1), some (.int a2), some (.int a3), some (.int a4), some (.int a5), some (.int (0 : Int32)), some (.int (0 : Int32)), none] [] (n, SH1, (dw_up (dw_up (dw_up (dw_up (dw_up I1 404 52 a5) 431 0 (1000000000 : Int32)) 431 1 (0 : Int32)) 431 2 (0 : Int32)) 404 54 (1 : Int32)), J)
        rw [eI1] at oS
        obtain ⟨I5, hI5⟩ : ∃ X, X = (dw_up (dw_up (dw_up (dw_up (dw_up I1 404 52 a5) 431 0 (1000000000 : Int32)) 431 1 (0 : Int32)) 431 2 (0 : Int32)) 404 54 (1 : Int32)) := ⟨_, rfl⟩
        rw [← hI5]
        have e5 : I5 406 = R := by rw [hI5]; exact ((up_row (by decide)).trans ((up_row (by decide)).trans ((up_row (by decide)).trans ((up_row (by decide)).trans ((up_row (by decide)).trans (eI1))))))
        have f431 : I5 431 0 = 1000000000 ∧ I5 431 1 = 0 ∧ I5 431 2 = 0 ∧ I5 404 54 = 1 := by rw [hI5]; exact ⟨((congrFun (up_row (by decide)) _).trans ((up_fld (by decide)).trans ((up_fld (by decide)).trans (up_same)))), ((congrFun (up_row (by decide)) _).trans ((up_fld (by decide)).trans (up_same))), ((congrFun (up_row (by decide)) _).trans (up_same)), (up_same)⟩
        have w5 : I5 404 52 = a5 := by rw [hI5]; exact ((up_fld (by decide)).trans ((congrFun (up_row (by decide)) _).trans ((congrFun (up_row (by decide)) _).trans ((congrFun (up_row (by decide)) _).trans (up_same)))))
        exact mdn_loop2 (d0 := a5) (m := a4.toInt.toNat) hG oS (hN oS) oC (by omega) (by omega) (fun I' e1 e2 e3 e4 => hk ⟨oS, oC, oI⟩ _ I' e1 e2 e3 e4) a4.toInt.toNat 0 0 0 _ I5 (by omega) rfl w5 rfl f431.1 f431.2.1 f431.2.2.1 f431.2.2.2 e5
      · have oI : ¬ (1 ≤ a4.toInt ∧ a4.toInt ≤ 30) := oI
        show dw_ok (pr_X12_drawn K) 30 0 0 [some (.ref 404), some (.int a1), some (.int a2), some (.int a3), some (.int a4), some (.int a5), none, none, none] [.int (0 : Int32)] (n, SH1, I1, J)
        refine q_if (c := 1) rfl (by decide) (fun h => absurd (show (0 : Int) ≠ 0 from h) (by decide)) (fun y5 => ?_)
        have y5 : (0 : Int) = 0 := y5
        refine q_ic rfl ?_
        exact q_iret rfl (hn (fun q => oI q.2.2) _ _ (by rw [hI1]; exact up_row (by decide)) (by rw [hI1]; exact up_fld (by decide)))
    · show dw_ok (pr_X12_drawn K) 19 0 0 [some (.ref 404), some (.int a1), some (.int a2), some (.int a3), some (.int a4), some (.int a5), none, none, none] [.int (0 : Int32)] (n, SH1, I1, J)
      refine q_if (c := 0) rfl (by decide) (fun y6 => ?_) (fun h => absurd (show (0 : Int) ≠ 0 from h) (by decide))
      have y6 : (0 : Int) = 0 := y6
      refine q_ic rfl ?_
      exact q_iret rfl (hn (fun q => oC q.2.1) _ _ (by rw [hI1]; exact up_row (by decide)) (by rw [hI1]; exact up_fld (by decide)))
  · show dw_ok (pr_X12_drawn K) 10 0 0 [some (.ref 404), some (.int a1), some (.int a2), some (.int a3), some (.int a4), some (.int a5), none, none, none] [.int (0 : Int32)] (n, SH1, I1, J)
    refine q_if (c := 0) rfl (by decide) (fun y7 => ?_) (fun h => absurd (show (0 : Int) ≠ 0 from h) (by decide))
    have y7 : (0 : Int) = 0 := y7
    refine q_ic rfl ?_
    exact q_iret rfl (hn (fun q => by rw [eI1] at oS; exact oS q.1) _ _ (by rw [hI1]; exact up_row (by decide)) (by rw [hI1]; exact up_fld (by decide)))
end
