/-! ===== the two states alike ===== -/
abbrev Cn (R : Nat → Int32) : Nat := (R 0).toInt.toNat
abbrev Rn (R : Nat → Int32) : Nat := (R 1).toInt.toNat
abbrev Hn (R : Nat → Int32) : Nat := (R 3).toInt.toNat
abbrev Nn (R : Nat → Int32) : Nat := Cn R * Rn R
abbrev kdR (R : Nat → Int32) (c : Nat) : Nat := (R (29 + c)).toInt.toNat
abbrev nS (R : Nat → Int32) (s : Nat) : Nat → Int32 := fun j => R (221 + 97 * s + j)
abbrev nL (S : Nat → Int32) : Nat := (S 0).toInt.toNat
abbrev nU (S : Nat → Int32) : List (Nat × Nat × Int32) := uaF (msL S (nL S))
def gT (S : Nat → Int32) (t : Nat) : rN := (ndF (nU S) 0 t, ndF (nU S) 1 t, ndF (nU S) 2 t, ndF (nU S) 3 t, ndF (nU S) 4 t)
def skI (R : Nat → Int32) (c : Nat) : Int32 := Int32.ofInt (skM R (Cn R) (Hn R) c)
def gC (R : Nat → Int32) : Nat → rC := fun c => (R (5 + kdR R c), R (13 + kdR R c), R (21 + kdR R c), skI R c)
def g0S (R S : Nat → Int32) : rS := (fun _ => 100 * ndF (nU S) 2 0, fun _ => 0, R 4, 0)
/-- the model's GROUND is within bounds -/
def GOK (R : Nat → Int32) : Prop := mgOK R (Cn R) (Rn R) (Hn R) ∧ (0 ≤ (R 4).toInt ∧ (R 4).toInt ≤ 999) ∧ (0 ≤ (R 2).toInt ∧ (R 2).toInt ≤ 8) ∧
  (∀ q : Nat, (q : Int) < (R 2).toInt → (1 ≤ (R (5 + q)).toInt ∧ (R (5 + q)).toInt ≤ 50) ∧ (0 ≤ (R (13 + q)).toInt ∧ (R (13 + q)).toInt ≤ 99) ∧ 0 ≤ (R (21 + q)).toInt ∧ (R (21 + q)).toInt ≤ 9) ∧
  ∀ c, c < Nn R → 0 ≤ (R (29 + c)).toInt ∧ (R (29 + c)).toInt < (R 2).toInt
def NOK (S : Nat → Int32) : Prop := nsOK S (nL S) ∧ ∀ t, t < 144 → nOK (gT S t)
/-- a GROUND at G -/
def RG (I : Nat → Nat → Int32) (G : Nat) (R : Nat → Int32) : Prop := (∀ j, j < 5 → I G j = R j) ∧
  (∀ q : Nat, (q : Int) < (R 2).toInt → I (G + 1) q = R (5 + q) ∧ I (G + 2) q = R (13 + q) ∧ I (G + 3) q = R (21 + q)) ∧
  ∀ c, c < Nn R → I (G + 4) c = R (29 + c) ∧ (I (G + 5) c).toInt = skM R (Cn R) (Hn R) c
/-- a NIGHT at B -/
def RN (I : Nat → Nat → Int32) (B : Nat) (S : Nat → Int32) : Prop := (I B 0 = 0 ∧ (S 0).toInt < 0) ∨ (I B 0 = 1 ∧ NOK S ∧ ∀ w, w < 5 → ∀ t, t < 144 → I (B + 2 + w) t = ndF (nU S) w t)
/-- a PLAN at P -/
def RP (I : Nat → Nat → Int32) (P : Nat) (R : Nat → Int32) : Prop := I P 0 = R 803 ∧ (0 ≤ (R 803).toInt ∧ (R 803).toInt ≤ 30) ∧
  ∀ i : Nat, (i : Int) < (R 803).toInt → R (804 + 3 * i) = I (P + 2 + i) 0 ∧ (0 ≤ (I (P + 2 + i) 0).toInt ∧ (I (P + 2 + i) 0).toInt ≤ 3) ∧
    ((I (P + 2 + i) 0).toInt = 0 → R (805 + 3 * i) = I (P + 2 + i) 1 ∧ 1 ≤ (I (P + 2 + i) 1).toInt ∧ (I (P + 2 + i) 1).toInt ≤ 144) ∧
    ((I (P + 2 + i) 0).toInt ≠ 0 → R (805 + 3 * i) = R 0 * I (P + 2 + i) 2 + I (P + 2 + i) 1 ∧ (0 ≤ (I (P + 2 + i) 1).toInt ∧ (I (P + 2 + i) 1).toInt < Cn R) ∧ 0 ≤ (I (P + 2 + i) 2).toInt ∧ (I (P + 2 + i) 2).toInt < Rn R)
abbrev rnS (R : Nat → Int32) : Nat → Int32 := fun j => R (898 + j)
abbrev rrS (R : Nat → Int32) : rS := (fun c => R (995 + c), fun c => R (1139 + c), R 896, R 897)
/-- a RUN at A -/
def RR (I : Nat → Nat → Int32) (A : Nat) (R : Nat → Int32) : Prop := (I A 0 = 0 ∧ R 894 = 0) ∨ (I A 0 = 1 ∧ R 894 = 1 ∧ (I A 1).toInt = Nn R ∧ I A 2 = R 895 ∧ (0 ≤ (R 895).toInt ∧ (R 895).toInt ≤ 144) ∧ I A 3 = R 896 ∧ I A 4 = R 897 ∧ I A 5 = 0 ∧ I A 6 = 0 ∧
  NOK (rnS R) ∧ (∀ w, w < 5 → ∀ t, t < 144 → I (A + 1 + 2 + w) t = ndF (nU (rnS R)) w t) ∧
  (∀ c, c < Nn R → I (A + 8) c = R (5 + kdR R c) ∧ I (A + 9) c = R (13 + kdR R c) ∧ I (A + 10) c = R (21 + kdR R c) ∧ I (A + 12) c = R (1283 + c) ∧ (R (1283 + c) = 0 ∨ R (1283 + c) = 1) ∧ I (A + 11) c = (if R (1283 + c) = 1 then 0 else skI R c) ∧ I (A + 13) c = R (995 + c) ∧ I (A + 14) c = R (1139 + c)) ∧
  rOK (Nn R) (4000 + 9900 * (R 895).toInt) (999 + 1296 * (R 895).toInt) (rrS R))
/-- all that an image keeps, at S -/
def SREL (I : Nat → Nat → Int32) (S : Nat) (R : Nat → Int32) : Prop := GOK R ∧ RG I (S + 1) R ∧ (∀ s, s < 6 → RN I (S + 55 + 7 * s) (nS R s)) ∧ RP I (S + 8) R ∧ RR I (S + 40) R
set_option maxRecDepth 8000 in
theorem sk_b {R : Nat → Int32} {C R' H j : Nat} (h : mgOK R C R' H) : 0 ≤ skM R C H j ∧ skM R C H j ≤ 100 := by
  have q := mh_b (x := ((j % C : Nat) : Int)) (y := ((j / C : Nat) : Int)) h.2.2.2.2.2.2 H (Nat.le_refl H)
  show 0 ≤ max 0 (100 - mhF R ((j % C : Nat) : Int) ((j / C : Nat) : Int) H) ∧ max 0 (100 - mhF R ((j % C : Nat) : Int) ((j / C : Nat) : Int) H) ≤ 100
  omega
set_option maxRecDepth 8000 in
theorem skI_t {R : Nat → Int32} {c : Nat} (h : GOK R) : (skI R c).toInt = skM R (Cn R) (Hn R) c := by
  have q := sk_b (j := c) h.1
  exact dx_ofI (by omega) (by omega)
set_option maxRecDepth 8000 in
theorem skI_e {R : Nat → Int32} {c : Nat} {v : Int32} (h : GOK R) (hv : v.toInt = skM R (Cn R) (Hn R) c) : v = skI R c := i_eq (by rw [skI_t h]; exact hv)
set_option maxRecDepth 8000 in
theorem gok_N {R : Nat → Int32} (h : GOK R) : (R 0 * R 1).toInt = (Nn R : Nat) ∧ Nn R ≤ 144 := mg_N h.1
set_option maxRecDepth 8000 in
theorem gok_k {R : Nat → Int32} {c : Nat} (h : GOK R) (hc : c < Nn R) : 0 ≤ (R (29 + c)).toInt ∧ (R (29 + c)).toInt < 8 ∧ ((kdR R c : Nat) : Int) < (R 2).toInt := by
  obtain ⟨-, -, h2, -, h5⟩ := h
  have q := h5 c hc
  show 0 ≤ (R (29 + c)).toInt ∧ (R (29 + c)).toInt < 8 ∧ (((R (29 + c)).toInt.toNat : Nat) : Int) < (R 2).toInt
  omega
set_option maxRecDepth 8000 in
theorem gok_c {R : Nat → Int32} {c : Nat} (h : GOK R) (hc : c < Nn R) : cOK (gC R c) := by
  obtain ⟨k1, k2, k3⟩ := gok_k h hc
  obtain ⟨a, b, d⟩ := h.2.2.2.1 _ k3
  have q := sk_b (j := c) h.1
  have e := skI_t (c := c) h
  refine ⟨a, b, d, ?_, ?_⟩
  · show 0 ≤ (skI R c).toInt
    rw [e]; exact q.1
  · show (skI R c).toInt ≤ 100
    rw [e]; exact q.2
set_option maxRecDepth 8000 in
theorem hi_0 {d : Nat} : ¬ hiF 0 d := by
  rintro ⟨-, h⟩
  have e : ((0 : Int32) >>> ((Int32.ofNat d / 6) &&& 31)) = 0 := by
    apply Int32.toBitVec_inj.mp
    show BitVec.sshiftRight' (0 : BitVec 32) _ = 0
    rw [BitVec.sshiftRight']
    exact BitVec.zero_sshiftRight
  rw [e] at h
  exact absurd h (by decide)
set_option maxRecDepth 8000 in
/-- the class's RUN of a SLOT, set at A: its CELLS, its STEPS, its start -/
theorem cst_C {I I' : Nat → Nat → Int32} {A : Nat} {R : Nat → Int32} (hG : GOK R) (hR : RG I 4 R) (h : ∀ j, j < Nn R → I' (A + 8) j = I 5 (I 8 j).toInt.toNat ∧ I' (A + 9) j = I 6 (I 8 j).toInt.toNat ∧ I' (A + 10) j = I 7 (I 8 j).toInt.toNat ∧ I' (A + 11) j = I 9 j) :
    ∀ c, c < Nn R → cfC I' A c = gC R c := by
  intro c hc
  obtain ⟨h1, h2, h3, h4⟩ := h c hc
  obtain ⟨k1, k2, k3⟩ := gok_k hG hc
  obtain ⟨-, r2, r3⟩ := hR
  obtain ⟨e8, e9⟩ := r3 c hc
  have e8 : I 8 c = R (29 + c) := e8
  obtain ⟨q1, q2, q3⟩ := r2 _ k3
  unfold cfC gC
  rw [h1, h2, h3, h4, e8, show I 5 (R (29 + c)).toInt.toNat = R (5 + kdR R c) from q1, show I 6 (R (29 + c)).toInt.toNat = R (13 + kdR R c) from q2, show I 7 (R (29 + c)).toInt.toNat = R (21 + kdR R c) from q3, skI_e hG e9]
set_option maxRecDepth 8000 in
theorem cst_T {I I' : Nat → Nat → Int32} {A B : Nat} {S : Nat → Int32} (h6 : I' A 6 = 0) (hn : ∀ w, w < 5 → ∀ t, t < 144 → I' (A + 1 + 2 + w) t = I (B + 2 + w) t) (hB : ∀ w, w < 5 → ∀ t, t < 144 → I (B + 2 + w) t = ndF (nU S) w t) {t : Nat} (ht : t < 144) : tnC I' A t = gT S t := by
  unfold tnC gT
  rw [h6, if_neg hi_0, hn 0 (by decide) t ht, hn 1 (by decide) t ht, hn 2 (by decide) t ht, hn 3 (by decide) t ht, hn 4 (by decide) t ht, hB 0 (by decide) t ht, hB 1 (by decide) t ht, hB 2 (by decide) t ht, hB 3 (by decide) t ht, hB 4 (by decide) t ht]
set_option maxRecDepth 8000 in
/-- of the bounds, at the start -/
theorem g0_ok {R S : Nat → Int32} (hG : GOK R) (hS : NOK S) : rOK (Nn R) 4000 999 (g0S R S) := by
  have k100 : (100 : Int32).toInt = 100 := rfl
  have k0 : (0 : Int32).toInt = 0 := rfl
  obtain ⟨-, -, ⟨a0, a1⟩, -⟩ := hS.2 0 (by decide)
  have a0 : 0 ≤ (ndF (nU S) 2 0).toInt := a0
  have a1 : (ndF (nU S) 2 0).toInt ≤ 40 := a1
  have e : (100 * ndF (nU S) 2 0).toInt = 100 * (ndF (nU S) 2 0).toInt := by rw [i_mulB (by rw [k100]; omega) (by rw [k100]; omega), k100]
  have sm : ∀ n : Nat, smF (fun _ => (0 : Int32)) n = 0 := fun n => by
    induction n with
    | zero => rfl
    | succ n ih => show smF (fun _ => (0 : Int32)) n + (0 : Int32).toInt = 0; rw [ih]; rfl
  obtain ⟨-, ⟨s0, s1⟩, -⟩ := hG
  refine ⟨fun c _ => ?_, fun c _ => ?_, s0, ?_⟩
  · show -4000 ≤ (100 * ndF (nU S) 2 0).toInt ∧ (100 * ndF (nU S) 2 0).toInt ≤ 4000
    omega
  · show 0 ≤ (0 : Int32).toInt
    rw [k0]; exact Int.le_refl 0
  · show (R 4).toInt + smF (fun _ => (0 : Int32)) (Nn R) ≤ 999
    rw [sm]; omega
/-- a SLOT's NIGHT gone through: behind k STEPS -/
def runW (R S : Nat → Int32) (st k : Nat) : rS := ruF st (Nn R) (fun _ => gC R) (gT S) 0 k (g0S R S)
set_option maxRecDepth 8000 in
theorem run_ok {R S : Nat → Int32} {st : Nat} (hG : GOK R) (hS : NOK S) : ∀ k : Nat, k ≤ 144 → rOK (Nn R) (4000 + 9900 * k) (999 + 1296 * k) (runW R S st k)
  | 0, _ => g0_ok hG hS
  | k + 1, h => by
    have q := run_ok (st := st) hG hS k (by omega)
    have hN := (gok_N hG).2
    have g := st_ok2 (st := st) (C := gC R) (t := gT S (0 + k)) (fun c hc => gok_c hG hc) (hS.2 (0 + k) (by omega)) (by omega) (by omega) (by omega) q
    obtain ⟨g1, g2, g3, g4⟩ := g
    refine ⟨fun c hc => ?_, g2, g3, ?_⟩
    · have := g1 c hc
      show -(4000 + 9900 * ((k + 1 : Nat) : Int)) ≤ ((seF st (gC R) (gT S (0 + k)) (Nn R) (runW R S st k)).1 c).toInt ∧ ((seF st (gC R) (gT S (0 + k)) (Nn R) (runW R S st k)).1 c).toInt ≤ 4000 + 9900 * ((k + 1 : Nat) : Int)
      omega
    · show (seF st (gC R) (gT S (0 + k)) (Nn R) (runW R S st k)).2.2.1.toInt + smF (seF st (gC R) (gT S (0 + k)) (Nn R) (runW R S st k)).2.1 (Nn R) ≤ 999 + 1296 * ((k + 1 : Nat) : Int)
      omega
/-- a RUN of the class, set: by (C, T) it goes through, of N CELLS -/
def CST (I' : Nat → Nat → Int32) (A : Nat) (R S : Nat → Int32) : Prop := (∀ c, c < Nn R → cfC I' A c = gC R c) ∧ (∀ t, t < 144 → tnC I' A t = gT S t) ∧ rEq (Nn R) (srC I' A) (g0S R S) ∧ (I' A 1).toInt = Nn R ∧ (I' A 5).toInt = 0 ∧ (I' A 2).toInt = 0
set_option maxRecDepth 8000 in
theorem rg_3 {I : Nat → Nat → Int32} {R : Nat → Int32} (h : SREL I 3 R) : RG I 4 R := h.2.1
set_option maxRecDepth 8000 in
theorem rn_3 {I : Nat → Nat → Int32} {R : Nat → Int32} (h : SREL I 3 R) {s : Nat} (hs : s < 6) : RN I (58 + 7 * s) (nS R s) := by
  have q := h.2.2.1 s hs
  rw [show 3 + 55 + 7 * s = 58 + 7 * s by omega] at q
  exact q
set_option maxRecDepth 8000 in
theorem v_startR {n : Nat} {I : Nat → Nat → Int32} {J : Nat → Nat → Int64} {K : dw_K} {A : Nat} {x : Int32} {R : Nat → Int32} (hR : SREL I 3 R) (hA2 : A = 43 ∨ A = 164 ∨ A = 179)
    (h1 : ∀ s : Nat, s < 6 → x.toInt = s → NOK (nS R s) → ∀ I' : Nat → Nat → Int32, (∀ a, (a < A ∨ A + 14 < a) → I' a = I a) → I' A 0 = 1 → CST I' A R (nS R s) → I' A 6 = 0 → (∀ w, w < 5 → ∀ t, t < 144 → I' (A + 1 + 2 + w) t = ndF (nU (nS R s)) w t) → (∀ c, c < Nn R → I' (A + 12) c = 0) → K (some (.int 1)) (n, SH1, I', J))
    (h2 : (∀ s : Nat, s < 6 → x.toInt = s → (nS R s 0).toInt < 0) → K (some (.int 0)) (n, SH1, I, J)) : t_X11_start [.ref 0, .ref A, .int x] (n, SH1, I, J) K := by
  have hG := hR.1
  have hg := rg_3 hR
  obtain ⟨hN, hN9⟩ := gok_N hG
  have f0 : I 4 0 = R 0 := hg.1 0 (by decide)
  have f1 : I 4 1 = R 1 := hg.1 1 (by decide)
  have f4 : I 4 4 = R 4 := hg.1 4 (by decide)
  have hRT : RT A := by
    rcases hA2 with rfl | rfl | rfl
    · exact rt_ok (by decide)
    · exact rt_ok (by decide)
    · exact rt_ok (by decide)
  refine v_start (N := Nn R) hRT hA2 (fun s hs => ?_) (by rw [f0, f1]; exact hN) hN9 (fun j hj => ?_) (fun s hs hx e I' q0 q1 q2 q3 q4 q5 q6 q7 q8 q9 => ?_) (fun hno => h2 (fun s hs hx => ?_))
  · rcases rn_3 hR hs with ⟨e, -⟩ | ⟨e, -⟩
    · exact Or.inl e
    · exact Or.inr e
  · rw [show I 8 j = R (29 + j) from (hg.2.2 j hj).1]
    obtain ⟨k1, k2, -⟩ := gok_k hG hj
    exact ⟨k1, k2⟩
  · rcases rn_3 hR hs with ⟨e', -⟩ | ⟨-, hS, hB⟩
    · rw [e] at e'; exact absurd e' (by decide)
    · have hn : ∀ w, w < 5 → ∀ t, t < 144 → I' (A + 1 + 2 + w) t = ndF (nU (nS R s)) w t := fun w hw t ht => (q8 w hw t ht).trans (hB w hw t ht)
      refine h1 s hs hx hS I' q0 q1 ⟨cst_C hG hg (fun j hj => ?_), fun t ht => cst_T q7 q8 hB ht, ⟨fun c hc => ?_, fun c hc => ?_, ?_, ?_⟩, ?_, ?_, ?_⟩ q7 hn (fun c hc => (q9 c hc).2.2.2.2.1)
      · obtain ⟨b1, b2, b3, b4, -⟩ := q9 j hj
        exact ⟨b1, b2, b3, b4⟩
      · show I' (A + 13) c = 100 * ndF (nU (nS R s)) 2 0
        rw [(q9 c hc).2.2.2.2.2.1, hB 2 (by decide) 0 (by decide)]
      · exact (q9 c hc).2.2.2.2.2.2
      · exact q4.trans f4
      · exact q5
      · rw [q2, f0, f1]; exact hN
      · rw [q6]; rfl
      · rw [q3]; rfl
  · rcases rn_3 hR hs with ⟨-, e⟩ | ⟨e, -⟩
    · exact e
    · rw [hno s hs hx] at e; exact absurd e (by decide)
set_option maxRecDepth 8000 in
/-- what it comes to -/
theorem cst_run {I' : Nat → Nat → Int32} {A st : Nat} {R S : Nat → Int32} (h : CST I' A R S) {k : Nat} (hk : k ≤ 144) : rEq (Nn R) (ruF st (Nn R) (fun _ => cfC I' A) (tnC I' A) 0 k (srC I' A)) (runW R S st k) :=
  ruF_eq k (fun _ _ c hc => h.1 c hc) (fun i hi => h.2.1 (0 + i) (by omega)) h.2.2.1
set_option maxRecDepth 8000 in
theorem cst_h {I' : Nat → Nat → Int32} {A : Nat} {R S : Nat → Int32} (hG : GOK R) (h : CST I' A R S) : ∀ c, c < Nn R → 1 ≤ (I' (A + 8) c).toInt ∧ (I' (A + 8) c).toInt ≤ 1000 := by
  intro c hc
  have e : I' (A + 8) c = (gC R c).1 := congrArg (·.1) (h.1 c hc)
  obtain ⟨⟨a, b⟩, -⟩ := gok_c hG hc
  rw [e]
  exact ⟨a, by omega⟩
set_option maxRecDepth 8000 in
theorem v_behind {n : Nat} {I : Nat → Nat → Int32} {J : Nat → Nat → Int64} {K : dw_K} {x t : Int32} {R : Nat → Int32} (hR : SREL I 3 R)
    (h1 : ∀ s k : Nat, s < 6 → x.toInt = s → t.toInt = k → k < 144 → NOK (nS R s) → ∀ I' : Nat → Nat → Int32, (∀ a, (a < 164 ∨ 178 < a) → I' a = I a) → (I' 164 1).toInt = Nn R → rEq (Nn R) (srC I' 164) (runW R (nS R s) 0 (k + 1)) → K (some (.int 1)) (n, SH1, I', J))
    (h0 : (¬ (0 ≤ t.toInt ∧ t.toInt < 144) ∨ ∀ s : Nat, s < 6 → x.toInt = s → (nS R s 0).toInt < 0) → ∀ I' : Nat → Nat → Int32, I' = I → K (some (.int 0)) (n, SH1, I', J)) : t_X11_runBehind [.ref 0, .int x, .int t] (n, SH1, I, J) K := by
  have k1 : (1 : Int32).toInt = 1 := rfl
  refine q_body (Nat.le_of_ble_eq_true rfl) ?_
  refine q_ild rfl rfl ?_
  refine q_callS (as := [.int t]) (rest := []) rfl rfl rfl rfl ?_
  by_cases ht : 0 ≤ t.toInt ∧ t.toInt < 144
  · refine v_isStep ht.1 ht.2 ?_
    show dw_ok (pr_X11_runBehind K) 4 0 0 [some (.ref 0), some (.int x), some (.int t)] [.int 1] (n, SH1, I, J)
    refine q_if (c := 0) rfl (by decide) (fun h => absurd (show (1 : Int32).toInt = 0 from h) (by decide)) (fun _ => ?_)
    refine q_ald rfl rfl ?_
    refine q_ald rfl rfl ?_
    refine q_getr rfl sk_0 sr_0_6 ?_
    refine q_ild rfl rfl ?_
    refine q_callV (as := [.ref 164, .int x]) (rest := []) rfl rfl sk_0 rfl (Nat.le_of_ble_eq_true rfl) ?_
    refine v_startR hR (Or.inr (Or.inl rfl)) (fun s hs hx hS I1 q0 _ hC _ _ _ => ?_) (fun hno => ?_)
    · show dw_ok (pr_X11_runBehind K) 16 0 0 [some (.ref 0), some (.int x), some (.int t)] [.int 1] (n, SH1, I1, J)
      refine q_if (c := 1) rfl (by decide) (fun _ => ?_) (fun h => absurd (show (1 : Int32).toInt = 0 from h) (by decide))
      refine q_ald rfl rfl ?_
      refine q_getr rfl sk_0 sr_0_6 ?_
      refine q_ild rfl rfl ?_
      refine q_ic rfl ?_
      refine q_add rfl ?_
      refine q_callV (as := [.int (t + 1)]) (rest := []) rfl rfl sk_164 rfl (Nat.le_of_ble_eq_true rfl) ?_
      obtain ⟨k, hk⟩ : ∃ k : Nat, t.toInt = k := ⟨t.toInt.toNat, by omega⟩
      have hN9 := (gok_N hR.1).2
      refine v_until (st := 0) (N := Nn R) (d := 0) (e := k + 1) (rt_ok (by decide)) hC.2.2.2.1 hN9 hC.2.2.2.2.1 (cst_h hR.1 hC) hC.2.2.2.2.2 (by omega) (by omega) (Or.inl (by rw [i_add (by omega) (by omega), k1, hk]; omega)) (fun I2 g1 g2 g3 g4 => ?_)
      show dw_ok (pr_X11_runBehind K) 31 0 0 [some (.ref 0), some (.int x), some (.int t)] [] (n, SH1, I2, J)
      refine q_ic rfl ?_
      refine q_zret rfl (Or.inr rfl) (h1 s k hs hx hk (by omega) hS I2 (fun a ha => ?_) ?_ ?_)
      · rw [g1 a (by omega) (by omega) (by omega)]; exact q0 a (by omega)
      · rw [g2 1 (by decide) (by decide) (by decide)]; exact hC.2.2.2.1
      · rw [g4]; exact cst_run hC (by omega)
    · show dw_ok (pr_X11_runBehind K) 16 0 0 [some (.ref 0), some (.int x), some (.int t)] [.int 0] (n, SH1, I, J)
      refine q_if (c := 1) rfl (by decide) (fun h => absurd rfl h) (fun _ => ?_)
      refine q_ic rfl ?_
      exact q_zret rfl (Or.inl rfl) (h0 (Or.inr hno) I rfl)
  · refine v_noStep ht ?_
    show dw_ok (pr_X11_runBehind K) 4 0 0 [some (.ref 0), some (.int x), some (.int t)] [.int 0] (n, SH1, I, J)
    refine q_if (c := 0) rfl (by decide) (fun _ => ?_) (fun h => absurd rfl h)
    refine q_ic rfl ?_
    exact q_zret rfl (Or.inl rfl) (h0 (Or.inl ht) I rfl)
