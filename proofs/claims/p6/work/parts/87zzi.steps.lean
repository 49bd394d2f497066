/-! ===== going on, of both, against one pure run ===== -/
/-- within bounds from STEP d on -/
def PUR (N : Nat) (C : Nat → Nat → rC) (T : Nat → rN) (s0 : rS) (d : Nat) : Prop := N ≤ 144 ∧ (∀ τ, d ≤ τ → τ < 144 → ∀ c, c < N → cOK (C τ c)) ∧ (∀ t, d ≤ t → t < 144 → nOK (T t)) ∧ rOK N (4000 + 9900 * d) (999 + 1296 * d) s0
set_option maxRecDepth 8000 in
theorem pur_ok {N st d : Nat} {C : Nat → Nat → rC} {T : Nat → rN} {s0 : rS} (h : PUR N C T s0 d) : ∀ k : Nat, d + k ≤ 144 → rOK N (4000 + 9900 * ((d + k : Nat) : Int)) (999 + 1296 * ((d + k : Nat) : Int)) (ruF st N C T d k s0)
  | 0, _ => h.2.2.2
  | k + 1, hk => by
    have q := pur_ok (st := st) h k (by omega)
    have hN := h.1
    obtain ⟨g1, g2, g3, g4⟩ := st_ok2 (st := st) (C := C (d + k)) (t := T (d + k)) (fun c hc => h.2.1 (d + k) (by omega) (by omega) c hc) (h.2.2.1 (d + k) (by omega) (by omega)) (by omega) (by omega) (by omega) q
    refine ⟨fun c hc => ?_, g2, g3, ?_⟩
    · have := g1 c hc
      show -(4000 + 9900 * ((d + (k + 1) : Nat) : Int)) ≤ ((seF st (C (d + k)) (T (d + k)) N (ruF st N C T d k s0)).1 c).toInt ∧ ((seF st (C (d + k)) (T (d + k)) N (ruF st N C T d k s0)).1 c).toInt ≤ 4000 + 9900 * ((d + (k + 1) : Nat) : Int)
      omega
    · show (seF st (C (d + k)) (T (d + k)) N (ruF st N C T d k s0)).2.2.1.toInt + smF (seF st (C (d + k)) (T (d + k)) N (ruF st N C T d k s0)).2.1 N ≤ 999 + 1296 * ((d + (k + 1) : Nat) : Int)
      omega
set_option maxRecDepth 8000 in
theorem sm_eq {f g : Nat → Int32} : ∀ n : Nat, (∀ c, c < n → f c = g c) → smF f n = smF g n
  | 0, _ => rfl
  | n + 1, h => by
    show smF f n + (f n).toInt = smF g n + (g n).toInt
    rw [sm_eq n (fun c hc => h c (by omega)), h n (by omega)]
set_option maxRecDepth 8000 in
theorem rok_eq {N : Nat} {B D : Int} {s s' : rS} (h : rEq N s s') (g : rOK N B D s') : rOK N B D s := by
  obtain ⟨e1, e2, e3, e4⟩ := h
  obtain ⟨g1, g2, g3, g4⟩ := g
  refine ⟨fun c hc => by rw [e1 c hc]; exact g1 c hc, fun c hc => by rw [e2 c hc]; exact g2 c hc, by rw [e3]; exact g3, ?_⟩
  rw [e3, sm_eq N e2]; exact g4
/-- the class's RUN at A is k STEPS on from STEP d -/
def CSK (I : Nat → Nat → Int32) (A N st : Nat) (C : Nat → Nat → rC) (T : Nat → rN) (s0 : rS) (d k : Nat) : Prop :=
  (∀ τ, d + k ≤ τ → τ < 144 → ∀ c, c < N → cfC I A c = C τ c) ∧ (∀ t, d + k ≤ t → t < 144 → tnC I A t = T t) ∧ rEq N (srC I A) (ruF st N C T d k s0) ∧ (I A 1).toInt = N ∧ (I A 5).toInt = st ∧ (I A 2).toInt = (d + k : Nat) ∧ ∀ c, c < N → 1 ≤ (I (A + 8) c).toInt ∧ (I (A + 8) c).toInt ≤ 1000
/-- the model is k STEPS on from STEP d -/
def MSK (I : Nat → Nat → Int32) (N st : Nat) (C : Nat → Nat → rC) (T : Nat → rN) (s0 : rS) (d k : Nat) : Prop :=
  (∀ τ, d + k ≤ τ → τ < 144 → ∀ c, c < N → cfM I τ c = C τ c) ∧ (∀ t, d + k ≤ t → t < 144 → tnM I t = T t) ∧ rEq N (srM I) (ruF st N C T d k s0) ∧ (I 406 0 * I 406 1).toInt = N ∧ (I 404 34).toInt = st ∧ ∀ c, c < N → 0 ≤ (I 419 c).toInt ∧ (I 419 c).toInt < 8
set_option maxRecDepth 8000 in
theorem v_stepR {n : Nat} {I : Nat → Nat → Int32} {J : Nat → Nat → Int64} {K : dw_K} {A N st d k : Nat} {C : Nat → Nat → rC} {T : Nat → rN} {s0 : rS} (hA : RT A) (h : CSK I A N st C T s0 d k) (h144 : d + k < 144) (hN9 : N ≤ 144)
    (hk : ∀ I' : Nat → Nat → Int32, (∀ a, a ≠ A → a ≠ A + 13 → a ≠ A + 14 → I' a = I a) → (∀ j, j ≠ 2 → j ≠ 3 → j ≠ 4 → I' A j = I A j) → CSK I' A N st C T s0 d (k + 1) → K none (n, SH1, I', J)) : t_X7_step [.ref A] (n, SH1, I, J) K := by
  obtain ⟨hc, ht, hr, h1, h5, h2, hh⟩ := h
  have k1 : (1 : Int32).toInt = 1 := rfl
  refine v_step (st := st) (N := N) hA h1 hN9 h5 hh (by omega) (by omega) (fun I' g1 g2 g3 g4 => hk I' g1 g2 ⟨fun τ q1 q2 c hcN => ?_, fun t q1 q2 => ?_, ?_, ?_, ?_, ?_, fun c hcN => ?_⟩)
  · rw [cf_eq g1]; exact hc τ (by omega) q2 c hcN
  · rw [tn_eq g1 (g2 6 (by decide) (by decide) (by decide))]; exact ht t (by omega) q2
  · rw [g4, show (I A 2).toInt.toNat = d + k by omega, ht (d + k) (Nat.le_refl _) h144]
    exact seF_eq (hc (d + k) (Nat.le_refl _) h144) hr N (Nat.le_refl N)
  · rw [g2 1 (by decide) (by decide) (by decide)]; exact h1
  · rw [g2 5 (by decide) (by decide) (by decide)]; exact h5
  · rw [g3, i_add (by omega) (by omega), k1, h2]; omega
  · rw [g1 (A + 8) (by omega) (by omega) (by omega)]; exact hh c hcN
set_option maxRecDepth 8000 in
theorem v_untilR {n : Nat} {I : Nat → Nat → Int32} {J : Nat → Nat → Int64} {K : dw_K} {A N st d k j : Nat} {s : Int32} {C : Nat → Nat → rC} {T : Nat → rN} {s0 : rS} (hA : RT A) (h : CSK I A N st C T s0 d k) (h144 : d + k + j ≤ 144) (hN9 : N ≤ 144) (hs : s.toInt = (d + k + j : Nat) ∨ (d + k + j = 144 ∧ 144 ≤ s.toInt) ∨ (j = 0 ∧ s.toInt ≤ (d + k : Nat)))
    (hk : ∀ I' : Nat → Nat → Int32, (∀ a, a ≠ A → a ≠ A + 13 → a ≠ A + 14 → I' a = I a) → (∀ j, j ≠ 2 → j ≠ 3 → j ≠ 4 → I' A j = I A j) → CSK I' A N st C T s0 d (k + j) → K none (n, SH1, I', J)) : t_X7_until [.ref A, .int s] (n, SH1, I, J) K := by
  obtain ⟨hc, ht, hr, h1, h5, h2, hh⟩ := h
  refine v_until (st := st) (N := N) (d := d + k) (e := d + k + j) hA h1 hN9 h5 hh h2 (by omega) h144 (by omega) (fun I' g1 g2 g3 g4 => hk I' g1 g2 ⟨fun τ q1 q2 c hcN => ?_, fun t q1 q2 => ?_, ?_, ?_, ?_, ?_, fun c hcN => ?_⟩)
  · rw [cf_eq g1]; exact hc τ (by omega) q2 c hcN
  · rw [tn_eq g1 (g2 6 (by decide) (by decide) (by decide))]; exact ht t (by omega) q2
  · rw [g4, show d + k + j - (d + k) = j by omega, ruF_add]
    exact ruF_eq j (fun i hi c hcN => hc (d + k + i) (by omega) (by omega) c hcN) (fun i hi => ht (d + k + i) (by omega) (by omega)) hr
  · rw [g2 1 (by decide) (by decide) (by decide)]; exact h1
  · rw [g2 5 (by decide) (by decide) (by decide)]; exact h5
  · rw [g3]; omega
  · rw [g1 (A + 8) (by omega) (by omega) (by omega)]; exact hh c hcN
set_option maxRecDepth 8000 in
theorem cfM_eq {I I' : Nat → Nat → Int32} {τ : Nat} (hA : ∀ a, a ≠ 404 → a ≠ 416 → a ≠ 417 → I' a = I a) (hF : ∀ j, j ≠ 32 → j ≠ 33 → I' 404 j = I 404 j) : cfM I' τ = cfM I τ := by
  funext c
  unfold cfM syM
  rw [hA 406 (by decide) (by decide) (by decide), hA 419 (by decide) (by decide) (by decide), hA 418 (by decide) (by decide) (by decide), hF 35 (by decide) (by decide), hF 36 (by decide) (by decide), hF 37 (by decide) (by decide)]
set_option maxRecDepth 8000 in
theorem tnM_eq {I I' : Nat → Nat → Int32} {τ : Nat} (hA : ∀ a, a ≠ 404 → a ≠ 416 → a ≠ 417 → I' a = I a) : tnM I' τ = tnM I τ := by
  unfold tnM
  rw [hA 411 (by decide) (by decide) (by decide), hA 412 (by decide) (by decide) (by decide), hA 413 (by decide) (by decide) (by decide), hA 414 (by decide) (by decide) (by decide), hA 415 (by decide) (by decide) (by decide)]
set_option maxRecDepth 8000 in
theorem v_mstepR {n : Nat} {I : Nat → Nat → Int32} {J : Nat → Nat → Int64} {K : dw_K} {N st d k : Nat} {t : Int32} {C : Nat → Nat → rC} {T : Nat → rN} {s0 : rS} (hP : PUR N C T s0 d) (h : MSK I N st C T s0 d k) (h144 : d + k < 144) (htk : t.toInt = (d + k : Nat))
    (hk : ∀ I' : Nat → Nat → Int32, (∀ a, a ≠ 404 → a ≠ 416 → a ≠ 417 → I' a = I a) → (∀ j, j ≠ 32 → j ≠ 33 → I' 404 j = I 404 j) → MSK I' N st C T s0 d (k + 1) → K none (n, SH1, I', J)) : t_X12_step [.ref 404, .int t] (n, SH1, I, J) K := by
  obtain ⟨hc, ht, hr, hN, h5, hkd⟩ := h
  have hN9 := hP.1
  have ok := rok_eq hr (pur_ok (st := st) hP k (by omega))
  have ok0 := hP.2.1 (d + k) (by omega) h144
  have nt := hP.2.2.1 (d + k) (by omega) h144
  refine v_mstep (τ := d + k) (N := N) (st := st) (B := 4000 + 9900 * ((d + k : Nat) : Int)) (D := 999 + 1296 * ((d + k : Nat) : Int)) htk h144 hN hN9 h5 hkd (fun c hcN => by rw [hc (d + k) (Nat.le_refl _) h144 c hcN]; exact ok0 c hcN) (by rw [ht (d + k) (Nat.le_refl _) h144]; exact nt) (by omega) (by omega) (by omega) ok (fun I' g1 g2 g3 => hk I' g1 g2 ⟨fun τ q1 q2 c hcN => ?_, fun t q1 q2 => ?_, ?_, ?_, ?_, fun c hcN => ?_⟩)
  · rw [cfM_eq g1 g2]; exact hc τ (by omega) q2 c hcN
  · rw [tnM_eq g1]; exact ht t (by omega) q2
  · rw [g3, ht (d + k) (Nat.le_refl _) h144]
    exact seF_eq (hc (d + k) (Nat.le_refl _) h144) hr N (Nat.le_refl N)
  · rw [g1 406 (by decide) (by decide) (by decide)]; exact hN
  · rw [g2 34 (by decide) (by decide)]; exact h5
  · rw [g1 419 (by decide) (by decide) (by decide)]; exact hkd c hcN
set_option maxRecDepth 8000 in
/-- a SLOT's NIGHT, purely -/
theorem pur_0 {R S : Nat → Int32} (hG : GOK R) (hS : NOK S) : PUR (Nn R) (fun _ => gC R) (gT S) (g0S R S) 0 :=
  ⟨(gok_N hG).2, fun _ _ _ c hc => gok_c hG hc, fun t _ ht => hS.2 t ht, g0_ok hG hS⟩
set_option maxRecDepth 8000 in
theorem cst_k {I : Nat → Nat → Int32} {A : Nat} {R S : Nat → Int32} (hG : GOK R) (h : CST I A R S) : CSK I A (Nn R) 0 (fun _ => gC R) (gT S) (g0S R S) 0 0 :=
  ⟨fun _ _ _ c hc => h.1 c hc, fun t _ ht => h.2.1 t ht, h.2.2.1, h.2.2.2.1, h.2.2.2.2.1, h.2.2.2.2.2, cst_h hG h⟩
abbrev okS (R : Nat → Int32) (x : Int32) : Prop := (0 ≤ x.toInt ∧ x.toInt ≤ 5) ∧ 0 ≤ (R (221 + 97 * x.toInt.toNat)).toInt
abbrev okC (R : Nat → Int32) (x y : Int32) : Prop := 0 ≤ x.toInt ∧ x.toInt < Cn R ∧ 0 ≤ y.toInt ∧ y.toInt < Rn R
abbrev okT (t : Int32) : Prop := 0 ≤ t.toInt ∧ t.toInt < 144
abbrev cN (R : Nat → Int32) (x y : Int32) : Nat := y.toInt.toNat * Cn R + x.toInt.toNat
abbrev nX (R : Nat → Int32) (x : Int32) : Nat → Int32 := nS R x.toInt.toNat
set_option maxRecDepth 8000 in
theorem cN_lt {R : Nat → Int32} {x y : Int32} (h : okC R x y) : cN R x y < Nn R := by
  obtain ⟨h1, h2, h3, h4⟩ := h
  have q : y.toInt.toNat + 1 ≤ Rn R := by omega
  have q2 : (y.toInt.toNat + 1) * Cn R ≤ Rn R * Cn R := Nat.mul_le_mul_right _ q
  rw [Nat.add_mul, Nat.one_mul] at q2
  have q3 : x.toInt.toNat < Cn R := by omega
  show y.toInt.toNat * Cn R + x.toInt.toNat < Cn R * Rn R
  rw [Nat.mul_comm (Cn R) (Rn R)]
  omega
set_option maxRecDepth 8000 in
theorem cN_i {R : Nat → Int32} {x y : Int32} (hG : GOK R) (h : okC R x y) : (y * R 0 + x).toInt = (cN R x y : Nat) ∧ (R 0 * y + x).toInt = (cN R x y : Nat) := by
  have hl : y.toInt.toNat * Cn R + x.toInt.toNat < Nn R := cN_lt h
  have hN := (gok_N hG).2
  obtain ⟨h1, h2, h3, h4⟩ := h
  have hC : (R 0).toInt = Cn R := hG.1.1
  have e0 : y.toInt = (y.toInt.toNat : Nat) := by omega
  have e1 : y.toInt * (R 0).toInt = ((y.toInt.toNat * Cn R : Nat) : Int) := by rw [hC, Int.natCast_mul, ← e0]
  rw [Int32.mul_comm (R 0) y]
  show (y * R 0 + x).toInt = ((y.toInt.toNat * Cn R + x.toInt.toNat : Nat) : Int) ∧ (y * R 0 + x).toInt = ((y.toInt.toNat * Cn R + x.toInt.toNat : Nat) : Int)
  generalize y.toInt.toNat * Cn R = p at hl e1 ⊢
  have e : (y * R 0).toInt = (p : Int) := by rw [i_mulB (by rw [e1]; omega) (by rw [e1]; omega), e1]
  have e2 : (y * R 0 + x).toInt = ((p + x.toInt.toNat : Nat) : Int) := by rw [i_add (by rw [e]; omega) (by rw [e]; omega), e]; omega
  exact ⟨e2, e2⟩
set_option maxRecDepth 8000 in
/-- the model's start, by its row -/
theorem v_mstartR {n : Nat} {I : Nat → Nat → Int32} {J : Nat → Nat → Int64} {K : dw_K} {x wh : Int32} {R : Nat → Int32} {st : Nat} (hR : I 406 = R) (hG : GOK R) (hx : okS R x) (hS : NOK (nX R x)) (hst : wh.toInt = st)
    (hk : ∀ I' : Nat → Nat → Int32, (∀ a, a ≠ 404 → (a < 411 ∨ 419 < a) → I' a = I a) → (∀ j, j ≠ 32 → j ≠ 33 → j ≠ 34 → j ≠ 35 → I' 404 j = I 404 j) → I' 404 35 = -1 → MSK I' (Nn R) st (fun _ => gC R) (gT (nX R x)) (g0S R (nX R x)) 0 0 → (∀ c, c < Nn R → I' 418 c = skI R c ∧ I' 419 c = R (29 + c)) → K none (n, SH1, I', J)) : t_X12_start [.ref 404, .int x, .int wh] (n, SH1, I, J) K := by
  obtain ⟨⟨x0, x5⟩, -⟩ := id hx
  refine v_mstart (sl := x.toInt.toNat) (L := nL (nX R x)) (C := Cn R) (R := Rn R) (H := Hn R) (by omega) (by omega) (by rw [hR]; exact hS.1) (by rw [hR]; exact hG.1) (fun I' g0 g1 g2 g3 g4 g5 g6 g7 => ?_)
  rw [hR] at g2 g6 g7
  have h406 : I' 406 = R := (g0 406 (by decide) (by decide)).trans hR
  have cM1 : (-1 : Int32).toInt = -1 := rfl
  have e18 : ∀ c, c < Nn R → I' 418 c = skI R c := fun c hc => skI_e hG (g7 c hc).2.2.1
  refine hk I' g0 g1 g5 ⟨fun τ _ _ c hc => ?_, fun t _ ht => ?_, ⟨fun c hc => ?_, fun c hc => ?_, ?_, ?_⟩, ?_, ?_, fun c hc => ?_⟩ (fun c hc => ⟨e18 c hc, (g7 c hc).2.2.2⟩)
  · unfold cfM gC syM
    rw [h406, (g7 c hc).2.2.2, g5, if_neg (fun q => by rw [cM1] at q; omega), e18 c hc]
  · unfold tnM gT
    rw [show I' 411 t = ndF (nU (nX R x)) 0 t from g6 0 (by decide) t ht, show I' 412 t = ndF (nU (nX R x)) 1 t from g6 1 (by decide) t ht, show I' 413 t = ndF (nU (nX R x)) 2 t from g6 2 (by decide) t ht, show I' 414 t = ndF (nU (nX R x)) 3 t from g6 3 (by decide) t ht, show I' 415 t = ndF (nU (nX R x)) 4 t from g6 4 (by decide) t ht]
  · exact (g7 c hc).1
  · exact (g7 c hc).2.1
  · exact g2
  · exact g3
  · rw [h406]; exact (gok_N hG).1
  · rw [g4]; exact hst
  · rw [(g7 c hc).2.2.2]
    obtain ⟨k1, k2, -⟩ := gok_k hG hc
    exact ⟨k1, k2⟩
