/-! ===== the RUN now: what lies in it, purely ===== -/
/-- a CELL of the RUN now, its sky bare or covered -/
def cvG (R cv : Nat → Int32) : Nat → rC := fun c => (R (5 + kdR R c), R (13 + kdR R c), R (21 + kdR R c), if cv c = 1 then 0 else skI R c)
abbrev dR (R : Nat → Int32) : Nat := (R 895).toInt.toNat
abbrev cvR (R : Nat → Int32) : Nat → Int32 := fun c => R (1283 + c)
abbrev ruG (R cv : Nat → Int32) (d k : Nat) (s : rS) : rS := ruF 0 (Nn R) (fun _ => cvG R cv) (gT (rnS R)) d k s
/-- of the bounds -/
def GP (R cv : Nat → Int32) (s : rS) (d : Nat) : Prop := PUR (Nn R) (fun _ => cvG R cv) (gT (rnS R)) s d ∧ d ≤ 144 ∧ ∀ c, c < Nn R → cv c = 0 ∨ cv c = 1
/-- the class's RUN at A -/
def GC (I : Nat → Nat → Int32) (A : Nat) (R cv : Nat → Int32) (s : rS) (d : Nat) : Prop := CSK I A (Nn R) 0 (fun _ => cvG R cv) (gT (rnS R)) s d 0 ∧ ∀ c, c < Nn R → I (A + 12) c = cv c ∧ cfC I A c = cvG R cv c
/-- the model's -/
def GM (I : Nat → Nat → Int32) (R cv : Nat → Int32) (s : rS) (d : Nat) : Prop := I 406 = R ∧ (I 404 38).toInt = d ∧ I 404 35 = -1 ∧ MSK I (Nn R) 0 (fun _ => cvG R cv) (gT (rnS R)) s d 0 ∧ ∀ c, c < Nn R → I 420 c = cv c ∧ I 419 c = R (29 + c)
set_option maxRecDepth 8000 in
theorem csk_0 {I : Nat → Nat → Int32} {A N st d k : Nat} {C : Nat → Nat → rC} {T : Nat → rN} {s0 : rS} (h : CSK I A N st C T s0 d k) : CSK I A N st C T (ruF st N C T d k s0) (d + k) 0 := h
set_option maxRecDepth 8000 in
theorem msk_0 {I : Nat → Nat → Int32} {N st d k : Nat} {C : Nat → Nat → rC} {T : Nat → rN} {s0 : rS} (h : MSK I N st C T s0 d k) : MSK I N st C T (ruF st N C T d k s0) (d + k) 0 := h
set_option maxRecDepth 8000 in
theorem cv_ok {R cv : Nat → Int32} (hG : GOK R) {c : Nat} (hc : c < Nn R) : cOK (cvG R cv c) := by
  obtain ⟨a, b, d, e, f⟩ := gok_c hG hc
  refine ⟨a, b, d, ?_, ?_⟩
  · show 0 ≤ (if cv c = 1 then (0 : Int32) else skI R c).toInt
    split
    · decide
    · exact e
  · show (if cv c = 1 then (0 : Int32) else skI R c).toInt ≤ 100
    split
    · decide
    · exact f
set_option maxRecDepth 8000 in
theorem gp_on {R cv : Nat → Int32} {s : rS} {d k : Nat} (h : GP R cv s d) (hk : d + k ≤ 144) : GP R cv (ruG R cv d k s) (d + k) :=
  ⟨⟨h.1.1, fun τ q => h.1.2.1 τ (by omega), fun t q => h.1.2.2.1 t (by omega), pur_ok h.1 k hk⟩, hk, h.2.2⟩
def wpS (s : rS) (c : Nat) : rS := (s.1, upF s.2.1 c 0, s.2.2.1, s.2.2.2)
set_option maxRecDepth 8000 in
theorem gp_wipe {R cv : Nat → Int32} {s : rS} {d c : Nat} (h : GP R cv s d) : GP R cv (wpS s c) d := by
  obtain ⟨⟨h1, h2, h3, g1, g2, g3, g4⟩, h5, h6⟩ := h
  have k0 : (0 : Int32).toInt = 0 := rfl
  refine ⟨⟨h1, h2, h3, g1, fun j hj => ?_, g3, ?_⟩, h5, h6⟩
  · show 0 ≤ (upF s.2.1 c 0 j).toInt
    by_cases e : j = c
    · rw [e, upF_at, k0]; exact Int.le_refl 0
    · rw [upF_ne e]; exact g2 j hj
  · show s.2.2.1.toInt + smF (upF s.2.1 c 0) (Nn R) ≤ 999 + 1296 * (d : Int)
    rw [sm_up, k0]
    split
    · next hc => have := g2 c hc; omega
    · omega
set_option maxRecDepth 8000 in
theorem gp_cv {R cv : Nat → Int32} {s : rS} {d c : Nat} {v : Int32} (hG : GOK R) (hv : v = 0 ∨ v = 1) (h : GP R cv s d) : GP R (upF cv c v) s d :=
  ⟨⟨h.1.1, fun _ _ _ j hj => cv_ok hG hj, h.1.2.2.1, h.1.2.2.2⟩, h.2.1, fun j hj => by
    by_cases e : j = c
    · rw [e, upF_at]; exact hv
    · rw [upF_ne e]; exact h.2.2 j hj⟩
set_option maxRecDepth 8000 in
/-- where it starts -/
theorem rr_go {I : Nat → Nat → Int32} {A : Nat} {R : Nat → Int32} (hG : GOK R) (hR : RR I A R) (h1 : R 894 ≠ 0) : GC I A R (cvR R) (rrS R) (dR R) ∧ GP R (cvR R) (rrS R) (dR R) ∧ NOK (rnS R) ∧ I A 0 = 1 := by
  rcases hR with ⟨-, e⟩ | ⟨h0, -, hN, h2, ⟨b0, b1⟩, h3, h4, h5, h6, hS, hn, hc, hok⟩
  · exact absurd e h1
  have hd : (R 895).toInt = (dR R : Nat) := by
    show (R 895).toInt = (((R 895).toInt.toNat : Nat) : Int); omega
  have cf : ∀ c, c < Nn R → cfC I A c = cvG R (cvR R) c := fun c hcN => by
    obtain ⟨e8, e9, e10, -, -, e11, -⟩ := hc c hcN
    unfold cfC cvG
    rw [e8, e9, e10, e11]
  refine ⟨⟨⟨fun τ _ _ c hcN => cf c hcN, fun t _ ht => ?_, ⟨fun c hcN => (hc c hcN).2.2.2.2.2.2.1, fun c hcN => (hc c hcN).2.2.2.2.2.2.2, h3, h4⟩, hN, ?_, ?_, fun c hcN => ?_⟩, fun c hcN => ⟨(hc c hcN).2.2.2.1, cf c hcN⟩⟩, ⟨⟨(gok_N hG).2, fun τ _ _ c hcN => cv_ok hG hcN, fun t _ ht => hS.2 t ht, ?_⟩, ?_, fun c hcN => (hc c hcN).2.2.2.2.1⟩, hS, h0⟩
  · unfold tnC gT
    rw [h6, if_neg hi_0, hn 0 (by decide) t ht, hn 1 (by decide) t ht, hn 2 (by decide) t ht, hn 3 (by decide) t ht, hn 4 (by decide) t ht]
  · rw [h5]; rfl
  · rw [h2]; exact hd
  · obtain ⟨⟨a, b⟩, -⟩ := gok_c hG hcN
    rw [(hc c hcN).1]
    exact ⟨a, Int.le_trans b (by decide)⟩
  · have q := hok
    rw [hd] at q
    exact q
  · omega
set_option maxRecDepth 8000 in
theorem gc_cv {I I' : Nat → Nat → Int32} {A : Nat} {R cv : Nat → Int32} {s : rS} {d k : Nat} {v : Int32} (h : GC I A R cv s d) (hr : ∀ a, a ≠ A + 11 → a ≠ A + 12 → I' a = I a) (h12 : ∀ c, c ≠ k → I' (A + 12) c = I (A + 12) c) (h11 : ∀ c, c ≠ k → I' (A + 11) c = I (A + 11) c) (e12 : I' (A + 12) k = v) (e11 : I' (A + 11) k = if v = 1 then 0 else skI R k) : GC I' A R (upF cv k v) s d := by
  obtain ⟨⟨hc, ht, hs, h1, h5, h2, hh⟩, hv⟩ := h
  have rA : I' A = I A := hr A (by omega) (by omega)
  have cf : ∀ c, c < Nn R → cfC I' A c = cvG R (upF cv k v) c := fun c hcN => by
    have e := (hv c hcN).2
    have e8 : I (A + 8) c = R (5 + kdR R c) := congrArg (·.1) e
    have e9 : I (A + 9) c = R (13 + kdR R c) := congrArg (·.2.1) e
    have e10 : I (A + 10) c = R (21 + kdR R c) := congrArg (·.2.2.1) e
    have e0 : I (A + 11) c = if cv c = 1 then 0 else skI R c := congrArg (·.2.2.2) e
    unfold cfC cvG
    rw [hr (A + 8) (by omega) (by omega), hr (A + 9) (by omega) (by omega), hr (A + 10) (by omega) (by omega), e8, e9, e10]
    by_cases g : c = k
    · rw [g, upF_at, e11]
    · rw [upF_ne g, h11 c g, e0]
  refine ⟨⟨fun τ q1 q2 c hcN => cf c hcN, fun t q1 q2 => ?_, ?_, by rw [rA]; exact h1, by rw [rA]; exact h5, by rw [rA]; exact h2, fun c hcN => ?_⟩, fun c hcN => ⟨?_, cf c hcN⟩⟩
  · rw [← ht t q1 q2]
    unfold tnC
    rw [rA, hr (A + 1 + 2 + 0) (by omega) (by omega), hr (A + 1 + 2 + 1) (by omega) (by omega), hr (A + 1 + 2 + 2) (by omega) (by omega), hr (A + 1 + 2 + 3) (by omega) (by omega), hr (A + 1 + 2 + 4) (by omega) (by omega)]
  · have e : srC I' A = srC I A := by
      unfold srC
      rw [rA, hr (A + 13) (by omega) (by omega), hr (A + 14) (by omega) (by omega)]
    rw [e]; exact hs
  · rw [hr (A + 8) (by omega) (by omega)]; exact hh c hcN
  · by_cases g : c = k
    · rw [g, upF_at]; exact e12
    · rw [upF_ne g, h12 c g]; exact (hv c hcN).1
set_option maxRecDepth 8000 in
theorem gc_wipe {I I' : Nat → Nat → Int32} {A : Nat} {R cv : Nat → Int32} {s : rS} {d k : Nat} (h : GC I A R cv s d) (hr : ∀ a, a ≠ A + 14 → I' a = I a) (h14 : ∀ c, c ≠ k → I' (A + 14) c = I (A + 14) c) (e14 : I' (A + 14) k = 0) : GC I' A R cv (wpS s k) d := by
  obtain ⟨⟨hc, ht, ⟨s1, s2, s3, s4⟩, h1, h5, h2, hh⟩, hv⟩ := h
  have rA : I' A = I A := hr A (by omega)
  have cf : ∀ c, c < Nn R → cfC I' A c = cvG R cv c := fun c hcN => by
    rw [← (hv c hcN).2]
    unfold cfC
    rw [hr (A + 8) (by omega), hr (A + 9) (by omega), hr (A + 10) (by omega), hr (A + 11) (by omega)]
  refine ⟨⟨fun τ q1 q2 c hcN => cf c hcN, fun t q1 q2 => ?_, ⟨fun c hcN => ?_, fun c hcN => ?_, ?_, ?_⟩, by rw [rA]; exact h1, by rw [rA]; exact h5, by rw [rA]; exact h2, fun c hcN => ?_⟩, fun c hcN => ⟨?_, cf c hcN⟩⟩
  · rw [← ht t q1 q2]
    unfold tnC
    rw [rA, hr (A + 1 + 2 + 0) (by omega), hr (A + 1 + 2 + 1) (by omega), hr (A + 1 + 2 + 2) (by omega), hr (A + 1 + 2 + 3) (by omega), hr (A + 1 + 2 + 4) (by omega)]
  · show I' (A + 13) c = s.1 c
    rw [hr (A + 13) (by omega)]; exact s1 c hcN
  · show I' (A + 14) c = upF s.2.1 k 0 c
    by_cases g : c = k
    · rw [g, upF_at]; exact e14
    · rw [upF_ne g, h14 c g]; exact s2 c hcN
  · show I' A 3 = s.2.2.1
    rw [rA]; exact s3
  · show I' A 4 = s.2.2.2
    rw [rA]; exact s4
  · rw [hr (A + 8) (by omega)]; exact hh c hcN
  · rw [hr (A + 12) (by omega)]; exact (hv c hcN).1
set_option maxRecDepth 8000 in
/-- nothing of it changed: of two places -/
theorem gc_cp {I I' : Nat → Nat → Int32} {A A' : Nat} {R cv : Nat → Int32} {s : rS} {d : Nat} (h : GC I A R cv s d) (hN : Nn R ≤ 144) (hf : ∀ j, j < 7 → I' A' j = I A j) (hn : ∀ w, w < 5 → ∀ t, t < 144 → I' (A' + 1 + 2 + w) t = I (A + 1 + 2 + w) t) (hI : ∀ i, 8 ≤ i → i ≤ 14 → ∀ c, c < 144 → I' (A' + i) c = I (A + i) c) : GC I' A' R cv s d := by
  obtain ⟨⟨hc, ht, ⟨s1, s2, s3, s4⟩, h1, h5, h2, hh⟩, hv⟩ := h
  have cf : ∀ c, c < Nn R → cfC I' A' c = cvG R cv c := fun c hcN => by
    rw [← (hv c hcN).2]
    unfold cfC
    rw [hI 8 (by decide) (by decide) c (by omega), hI 9 (by decide) (by decide) c (by omega), hI 10 (by decide) (by decide) c (by omega), hI 11 (by decide) (by decide) c (by omega)]
  refine ⟨⟨fun τ q1 q2 c hcN => cf c hcN, fun t q1 q2 => ?_, ⟨fun c hcN => ?_, fun c hcN => ?_, ?_, ?_⟩, by rw [hf 1 (by decide)]; exact h1, by rw [hf 5 (by decide)]; exact h5, by rw [hf 2 (by decide)]; exact h2, fun c hcN => ?_⟩, fun c hcN => ⟨?_, cf c hcN⟩⟩
  · rw [← ht t q1 q2]
    unfold tnC
    rw [hf 6 (by decide), hn 0 (by decide) t q2, hn 1 (by decide) t q2, hn 2 (by decide) t q2, hn 3 (by decide) t q2, hn 4 (by decide) t q2]
  · show I' (A' + 13) c = s.1 c
    rw [hI 13 (by decide) (by decide) c (by omega)]; exact s1 c hcN
  · show I' (A' + 14) c = s.2.1 c
    rw [hI 14 (by decide) (by decide) c (by omega)]; exact s2 c hcN
  · show I' A' 3 = s.2.2.1
    rw [hf 3 (by decide)]; exact s3
  · show I' A' 4 = s.2.2.2
    rw [hf 4 (by decide)]; exact s4
  · rw [hI 8 (by decide) (by decide) c (by omega)]; exact hh c hcN
  · rw [hI 12 (by decide) (by decide) c (by omega)]; exact (hv c hcN).1
/-- the row behind going on -/
def mOn (R R' cv : Nat → Int32) (s : rS) (d : Nat) : Prop := (∀ j, j < 995 → j ≠ 896 → j ≠ 897 → j ≠ 895 → R' j = R j) ∧ (R' 895).toInt = d ∧ R' 896 = s.2.2.1 ∧ R' 897 = s.2.2.2 ∧ ∀ c, c < Nn R → R' (995 + c) = s.1 c ∧ R' (1139 + c) = s.2.1 c ∧ R' (1283 + c) = cv c
set_option maxRecDepth 8000 in
theorem srel_go {I I' : Nat → Nat → Int32} {R R' cv : Nat → Int32} {s : rS} {d : Nat} (h : SREL I 3 R) (h894 : R 894 ≠ 0) (hr : ∀ a, 3 ≤ a → a ≤ 99 → a ≠ 43 → (a < 54 ∨ 57 < a) → I' a = I a) (hf : ∀ j, j ≠ 2 → j ≠ 3 → j ≠ 4 → I' 43 j = I 43 j) (hC : GC I' 43 R cv s d) (hP : GP R cv s d) (hM : mOn R R' cv s d) : SREL I' 3 R' := by
  obtain ⟨hG, h1, h2, h3, h4⟩ := h
  obtain ⟨m0, m1, m2, m3, mc⟩ := hM
  have e221 : ∀ j, j < 221 → R' j = R j := fun j hj => m0 j (by omega) (by omega) (by omega) (by omega)
  have hN9 := (gok_N hG).2
  have hN := Nn_eq e221
  obtain ⟨-, -, hS, a0⟩ := rr_go hG h4 h894
  have e97 : ∀ j, j < 97 → rnS R' j = rnS R j := fun j hj => m0 (898 + j) (by omega) (by omega) (by omega) (by omega)
  have hS' := nok_eq e97 hS
  have hU := nU_eq e97 hS
  have h4' : (I 43 1).toInt = Nn R ∧ I 43 5 = 0 ∧ I 43 6 = 0 ∧ ∀ w, w < 5 → ∀ t, t < 144 → I (43 + 1 + 2 + w) t = ndF (nU (rnS R)) w t := by
    rcases h4 with ⟨-, e⟩ | ⟨-, -, q1, -, -, -, -, q5, q6, -, qn, -⟩
    · exact absurd e h894
    · exact ⟨q1, q5, q6, qn⟩
  obtain ⟨q1, q5, q6, qn⟩ := h4'
  obtain ⟨⟨hc, ht, ⟨s1, s2, s3, s4⟩, c1, c5, c2, hh⟩, hv⟩ := hC
  obtain ⟨⟨p1, p2, p3, p4⟩, p5, p6⟩ := hP
  refine ⟨gok_eq e221 hG, rg_eq e221 (fun j _ => by rw [hr (3 + 1) (by omega) (by omega) (by omega) (by omega)]) (fun j _ => ⟨by rw [hr (3 + 1 + 1) (by omega) (by omega) (by omega) (by omega)], by rw [hr (3 + 1 + 2) (by omega) (by omega) (by omega) (by omega)], by rw [hr (3 + 1 + 3) (by omega) (by omega) (by omega) (by omega)]⟩) (fun c _ => ⟨by rw [hr (3 + 1 + 4) (by omega) (by omega) (by omega) (by omega)], by rw [hr (3 + 1 + 5) (by omega) (by omega) (by omega) (by omega)]⟩) hG h1, fun s' hs' => ?_, rp_eq e221 (fun j q1 q2 => m0 j (by omega) (by omega) (by omega) (by omega)) (by rw [hr (3 + 8) (by omega) (by omega) (by omega) (by omega)]) (fun i hi t _ => by rw [hr (3 + 8 + 2 + i) (by omega) (by omega) (by omega) (by omega)]) h3, Or.inr ⟨?_, ?_, ?_, ?_, ?_, ?_, ?_, ?_, ?_, hS', fun w hw t ht => ?_, fun c hcN => ?_, ?_⟩⟩
  · exact rn_eq (fun j hj => m0 _ (by omega) (by omega) (by omega) (by omega)) (by rw [hr (3 + 55 + 7 * s') (by omega) (by omega) (by omega) (by omega)]) (fun w hw t _ => by rw [hr (3 + 55 + 7 * s' + 2 + w) (by omega) (by omega) (by omega) (by omega)]) (h2 s' hs')
  · show I' 43 0 = 1
    rw [hf 0 (by decide) (by decide) (by decide)]; exact a0
  · rw [m0 894 (by decide) (by decide) (by decide) (by decide)]
    rcases h4 with ⟨-, e⟩ | ⟨-, e, -⟩
    · exact absurd e h894
    · exact e
  · show (I' 43 1).toInt = Nn R'
    rw [hN]; exact c1
  · show I' 43 2 = R' 895
    exact i_eq (by rw [m1]; exact c2)
  · rw [m1]; omega
  · show I' 43 3 = R' 896
    rw [m2]; exact s3
  · show I' 43 4 = R' 897
    rw [m3]; exact s4
  · show I' 43 5 = 0
    rw [hf 5 (by decide) (by decide) (by decide)]; exact q5
  · show I' 43 6 = 0
    rw [hf 6 (by decide) (by decide) (by decide)]; exact q6
  · rw [hU]
    show I' (43 + 1 + 2 + w) t = _
    rw [hr (43 + 1 + 2 + w) (by omega) (by omega) (by omega) (by omega)]; exact qn w hw t ht
  · rw [hN] at hcN
    obtain ⟨r1, r2, r3⟩ := mc c hcN
    have hk : kdR R' c = kdR R c := kd_eq e221 (by omega)
    have hsk : skI R' c = skI R c := skI_eq e221 hG
    obtain ⟨k1, k2, -⟩ := gok_k hG hcN
    have k9 : kdR R c < 8 := by
      show (R (29 + c)).toInt.toNat < 8; omega
    have hv' := hv c hcN
    have e8 : I' (43 + 8) c = R (5 + kdR R c) := congrArg (·.1) hv'.2
    have e9 : I' (43 + 9) c = R (13 + kdR R c) := congrArg (·.2.1) hv'.2
    have e10 : I' (43 + 10) c = R (21 + kdR R c) := congrArg (·.2.2.1) hv'.2
    have e11 : I' (43 + 11) c = if cv c = 1 then 0 else skI R c := congrArg (·.2.2.2) hv'.2
    rw [hk, e221 (5 + kdR R c) (by omega), e221 (13 + kdR R c) (by omega), e221 (21 + kdR R c) (by omega), r1, r2, r3, hsk]
    exact ⟨e8, e9, e10, hv'.1, p6 c hcN, e11, s1 c hcN, s2 c hcN⟩
  · rw [hN, m1]
    exact rok_eq ⟨fun c hcN => (mc c hcN).1, fun c hcN => (mc c hcN).2.1, m2, m3⟩ p4
/-- the row behind begin -/
def mBeg (R R' : Nat → Int32) (s : Nat) : Prop := (∀ j, j < 894 → R' j = R j) ∧ R' 894 = 1 ∧ R' 895 = 0 ∧ R' 896 = R 4 ∧ R' 897 = 0 ∧ (∀ q, q < 97 → R' (898 + q) = nS R s q) ∧ ∀ c, c < Nn R → R' (995 + c) = 100 * ndF (nU (nS R s)) 2 0 ∧ R' (1139 + c) = 0 ∧ R' (1283 + c) = 0
set_option maxRecDepth 8000 in
/-- what comes of a NIGHT begun -/
theorem srel_begin {I I' : Nat → Nat → Int32} {R R' : Nat → Int32} {q : Nat} (h : SREL I 3 R) (hS : NOK (nS R q)) (hq : q < 6) (hr : ∀ a, 3 ≤ a → a ≤ 99 → (a < 43 ∨ 57 < a) → I' a = I a) (h0 : I' 43 0 = 1) (hC : CST I' 43 R (nS R q)) (h6 : I' 43 6 = 0) (hn : ∀ w, w < 5 → ∀ t, t < 144 → I' (43 + 1 + 2 + w) t = ndF (nU (nS R q)) w t) (h12 : ∀ c, c < Nn R → I' (43 + 12) c = 0) (hM : mBeg R R' q) : SREL I' 3 R' := by
  obtain ⟨hG, h1, h2, h3, h4⟩ := h
  obtain ⟨m0, m1, m2, m3, m4, m5, mc⟩ := hM
  have e221 : ∀ j, j < 221 → R' j = R j := fun j hj => m0 j (by omega)
  have hN9 := (gok_N hG).2
  have hN := Nn_eq e221
  have k0 : (0 : Int32).toInt = 0 := rfl
  have hS' := nok_eq (S := nS R q) (S' := rnS R') m5 hS
  have hU := nU_eq (S := nS R q) (S' := rnS R') m5 hS
  obtain ⟨hc, ht, ⟨s1, s2, s3, s4⟩, c1, c5, c2⟩ := hC
  refine ⟨gok_eq e221 hG, rg_eq e221 (fun j _ => by rw [hr (3 + 1) (by omega) (by omega) (by omega)]) (fun j _ => ⟨by rw [hr (3 + 1 + 1) (by omega) (by omega) (by omega)], by rw [hr (3 + 1 + 2) (by omega) (by omega) (by omega)], by rw [hr (3 + 1 + 3) (by omega) (by omega) (by omega)]⟩) (fun c _ => ⟨by rw [hr (3 + 1 + 4) (by omega) (by omega) (by omega)], by rw [hr (3 + 1 + 5) (by omega) (by omega) (by omega)]⟩) hG h1, fun s' hs' => ?_, rp_eq e221 (fun j _ _ => m0 j (by omega)) (by rw [hr (3 + 8) (by omega) (by omega) (by omega)]) (fun i hi t _ => by rw [hr (3 + 8 + 2 + i) (by omega) (by omega) (by omega)]) h3, Or.inr ⟨h0, m1, ?_, ?_, ?_, ?_, ?_, ?_, h6, hS', fun w hw t ht => ?_, fun c hcN => ?_, ?_⟩⟩
  · exact rn_eq (fun j hj => m0 _ (by omega)) (by rw [hr (3 + 55 + 7 * s') (by omega) (by omega) (by omega)]) (fun w hw t _ => by rw [hr (3 + 55 + 7 * s' + 2 + w) (by omega) (by omega) (by omega)]) (h2 s' hs')
  · show (I' 43 1).toInt = Nn R'
    rw [hN]; exact c1
  · show I' 43 2 = R' 895
    rw [m2]; exact i_eq c2
  · rw [m2, k0]; omega
  · show I' 43 3 = R' 896
    rw [m3]; exact s3
  · show I' 43 4 = R' 897
    rw [m4]; exact s4
  · exact i_eq c5
  · rw [hU]; exact hn w hw t ht
  · rw [hN] at hcN
    obtain ⟨r1, r2, r3⟩ := mc c hcN
    have hk : kdR R' c = kdR R c := kd_eq e221 (by omega)
    have hsk : skI R' c = skI R c := skI_eq e221 hG
    obtain ⟨k1, k2, -⟩ := gok_k hG hcN
    have k9 : kdR R c < 8 := by
      show (R (29 + c)).toInt.toNat < 8; omega
    have e := hc c hcN
    have e8 : I' (43 + 8) c = R (5 + kdR R c) := congrArg (·.1) e
    have e9 : I' (43 + 9) c = R (13 + kdR R c) := congrArg (·.2.1) e
    have e10 : I' (43 + 10) c = R (21 + kdR R c) := congrArg (·.2.2.1) e
    have e11 : I' (43 + 11) c = skI R c := congrArg (·.2.2.2) e
    rw [hk, e221 (5 + kdR R c) (by omega), e221 (13 + kdR R c) (by omega), e221 (21 + kdR R c) (by omega), r1, r2, r3, hsk, if_neg (by decide)]
    exact ⟨e8, e9, e10, h12 c hcN, Or.inl rfl, e11, s1 c hcN, s2 c hcN⟩
  · rw [hN, m2, k0]
    exact rok_eq ⟨fun c hcN => (mc c hcN).1, fun c hcN => (mc c hcN).2.1, m3, m4⟩ (g0_ok hG hS)
/-! ===== the LINES of a PLAN done, purely ===== -/
/-- sky covered, RUN, STEPS done -/
abbrev gL : Type := (Nat → Int32) × rS × Nat
abbrev pLA (R : Nat → Int32) (i : Nat) : Nat := (R (805 + 3 * i)).toInt.toNat
/-- a LINE done: why WRONG (0: it is not), WATER taken, what comes of it -/
def lnF (R : Nat → Int32) (i : Nat) (g : gL) : Nat × Int32 × gL :=
  if (R (804 + 3 * i)).toInt = 0 then (if 144 < g.2.2 + pLA R i then (1, 0, g) else (0, 0, (g.1, ruG R g.1 g.2.2 (pLA R i) g.2.1, g.2.2 + pLA R i)))
  else if (R (804 + 3 * i)).toInt = 1 then (if g.2.1.2.1 (pLA R i) = 0 then (2, 0, g) else (0, g.2.1.2.1 (pLA R i), (g.1, wpS g.2.1 (pLA R i), g.2.2)))
  else if (R (804 + 3 * i)).toInt = 2 then (if g.1 (pLA R i) = 1 then (3, 0, g) else (0, 0, (upF g.1 (pLA R i) 1, g.2)))
  else (if g.1 (pLA R i) = 0 then (3, 0, g) else (0, 0, (upF g.1 (pLA R i) 0, g.2)))
/-- f LINES from the i-th on: why WRONG, which, WATER taken, what comes of them -/
def goF (R : Nat → Int32) : Nat → Nat → gL → Nat × Nat × Int32 × gL
  | 0, i, g => (0, i, 0, g)
  | f + 1, i, g => if (lnF R i g).1 = 0 then ((goF R f (i + 1) (lnF R i g).2.2).1, (goF R f (i + 1) (lnF R i g).2.2).2.1, (lnF R i g).2.1 + (goF R f (i + 1) (lnF R i g).2.2).2.2.1, (goF R f (i + 1) (lnF R i g).2.2).2.2.2)
    else ((lnF R i g).1, i, (lnF R i g).2.1, (lnF R i g).2.2)
set_option maxRecDepth 8000 in
theorem gc_req {I : Nat → Nat → Int32} {A : Nat} {R cv : Nat → Int32} {s s' : rS} {d : Nat} (h : GC I A R cv s d) (g : rEq (Nn R) s s') : GC I A R cv s' d :=
  ⟨⟨h.1.1, h.1.2.1, rEq.trans h.1.2.2.1 g, h.1.2.2.2⟩, h.2⟩
set_option maxRecDepth 8000 in
theorem wp_0 {N : Nat} {s : rS} {c : Nat} (h : s.2.1 c = 0) : rEq N (wpS s c) s :=
  ⟨fun _ _ => rfl, fun j _ => by
    show upF s.2.1 c 0 j = s.2.1 j
    by_cases e : j = c
    · rw [e, upF_at, h]
    · exact upF_ne e, rfl, rfl⟩
set_option maxRecDepth 8000 in
/-- nothing of it changed but at the head -/
theorem gc_fr {I I' : Nat → Nat → Int32} {A : Nat} {R cv : Nat → Int32} {s : rS} {d : Nat} (h : GC I A R cv s d) (hN : Nn R ≤ 144) (hr : ∀ a, A ≤ a → a ≤ A + 14 → I' a = I a) : GC I' A R cv s d :=
  gc_cp h hN (fun j _ => by rw [hr A (Nat.le_refl A) (by omega)]) (fun w hw t _ => by rw [hr (A + 1 + 2 + w) (by omega) (by omega)]) (fun i i1 i2 c _ => by rw [hr (A + i) (by omega) (by omega)])
set_option maxRecDepth 8000 in
theorem gc_until {I I' : Nat → Nat → Int32} {A : Nat} {R cv : Nat → Int32} {s : rS} {d k : Nat} (h : GC I A R cv s d) (g1 : ∀ a, a ≠ A → a ≠ A + 13 → a ≠ A + 14 → I' a = I a) (g3 : CSK I' A (Nn R) 0 (fun _ => cvG R cv) (gT (rnS R)) s d k) : GC I' A R cv (ruG R cv d k s) (d + k) :=
  ⟨csk_0 g3, fun c hc => ⟨by rw [g1 (A + 12) (by omega) (by omega) (by omega)]; exact (h.2 c hc).1, by rw [cf_eq g1]; exact (h.2 c hc).2⟩⟩
/-- the LINES of a PLAN, within bounds -/
def PB (R : Nat → Int32) (i : Nat) : Prop := (0 ≤ (R (804 + 3 * i)).toInt ∧ (R (804 + 3 * i)).toInt ≤ 3) ∧ (R (805 + 3 * i)).toInt = (pLA R i : Nat) ∧ ((R (804 + 3 * i)).toInt = 0 → pLA R i ≤ 144) ∧ ((R (804 + 3 * i)).toInt ≠ 0 → pLA R i < Nn R)
set_option maxRecDepth 8000 in
theorem rp_b {I : Nat → Nat → Int32} {P : Nat} {R : Nat → Int32} (hG : GOK R) (h : RP I P R) {i : Nat} (hi : (i : Int) < (R 803).toInt) : PB R i := by
  obtain ⟨-, -, pl⟩ := h
  obtain ⟨q0, q1, q3, q4⟩ := pl i hi
  by_cases g : (I (P + 2 + i) 0).toInt = 0
  · obtain ⟨z1, z2, z3⟩ := q3 g
    have e : (R (805 + 3 * i)).toInt = (pLA R i : Nat) := by
      show (R (805 + 3 * i)).toInt = (((R (805 + 3 * i)).toInt.toNat : Nat) : Int)
      rw [z1]; omega
    refine ⟨by rw [q0]; exact q1, e, fun _ => ?_, fun q => absurd (by rw [q0]; exact g) q⟩
    rw [z1] at e; omega
  · obtain ⟨z1, ⟨z2, z3⟩, z4, z5⟩ := q4 g
    have ok : okC R (I (P + 2 + i) 1) (I (P + 2 + i) 2) := ⟨z2, z3, z4, z5⟩
    have e1 := (cN_i hG ok).2
    have hpa : pLA R i = cN R (I (P + 2 + i) 1) (I (P + 2 + i) 2) := by
      show (R (805 + 3 * i)).toInt.toNat = _
      rw [z1, e1]; exact Int.toNat_natCast _
    refine ⟨by rw [q0]; exact q1, by rw [z1, e1, hpa], fun q => absurd (by rw [← q0]; exact q) g, fun _ => ?_⟩
    rw [hpa]; exact cN_lt ok
set_option maxRecDepth 8000 in
theorem msk_eq {I I' : Nat → Nat → Int32} {N st d k : Nat} {C : Nat → Nat → rC} {T : Nat → rN} {s0 : rS} (hr : ∀ a, a = 406 ∨ (411 ≤ a ∧ a ≤ 419) → I' a = I a) (hf : ∀ j, 32 ≤ j → j ≤ 37 → I' 404 j = I 404 j) (h : MSK I N st C T s0 d k) : MSK I' N st C T s0 d k := by
  obtain ⟨hc, ht, hs, hN, h5, hkd⟩ := h
  have ec : ∀ τ, cfM I' τ = cfM I τ := fun τ => by
    funext c
    unfold cfM syM
    rw [hr 406 (Or.inl rfl), hr 419 (Or.inr ⟨by decide, by decide⟩), hr 418 (Or.inr ⟨by decide, by decide⟩), hf 35 (by decide) (by decide), hf 36 (by decide) (by decide), hf 37 (by decide) (by decide)]
  have et : ∀ t, tnM I' t = tnM I t := fun t => by
    unfold tnM
    rw [hr 411 (Or.inr ⟨by decide, by decide⟩), hr 412 (Or.inr ⟨by decide, by decide⟩), hr 413 (Or.inr ⟨by decide, by decide⟩), hr 414 (Or.inr ⟨by decide, by decide⟩), hr 415 (Or.inr ⟨by decide, by decide⟩)]
  have es : srM I' = srM I := by
    unfold srM
    rw [hr 416 (Or.inr ⟨by decide, by decide⟩), hr 417 (Or.inr ⟨by decide, by decide⟩), hf 32 (by decide) (by decide), hf 33 (by decide) (by decide)]
  refine ⟨fun τ q1 q2 c hcN => by rw [ec]; exact hc τ q1 q2 c hcN, fun t q1 q2 => by rw [et]; exact ht t q1 q2, by rw [es]; exact hs, by rw [hr 406 (Or.inl rfl)]; exact hN, by rw [hf 34 (by decide) (by decide)]; exact h5, fun c hc => ?_⟩
  rw [hr 419 (Or.inr ⟨by decide, by decide⟩)]; exact hkd c hc
set_option maxRecDepth 8000 in
theorem gm_eq {I I' : Nat → Nat → Int32} {R cv : Nat → Int32} {s : rS} {d : Nat} (hr : ∀ a, a = 406 ∨ (411 ≤ a ∧ a ≤ 419) ∨ a = 420 → I' a = I a) (hf : ∀ j, 32 ≤ j → j ≤ 38 → I' 404 j = I 404 j) (h : GM I R cv s d) : GM I' R cv s d := by
  obtain ⟨h1, h2, h3, h4, h5⟩ := h
  refine ⟨by rw [hr 406 (Or.inl rfl)]; exact h1, by rw [hf 38 (by decide) (by decide)]; exact h2, by rw [hf 35 (by decide) (by decide)]; exact h3, msk_eq (fun a ha => hr a (by omega)) (fun j q1 q2 => hf j q1 (by omega)) h4, fun c hc => ?_⟩
  rw [hr 420 (Or.inr (Or.inr rfl)), hr 419 (Or.inr (Or.inl ⟨by decide, by decide⟩))]; exact h5 c hc
set_option maxRecDepth 8000 in
theorem gm_wipe {I I' : Nat → Nat → Int32} {R cv : Nat → Int32} {s : rS} {d k : Nat} (h : GM I R cv s d) (hr : ∀ a, a = 406 ∨ (411 ≤ a ∧ a ≤ 416) ∨ (418 ≤ a ∧ a ≤ 420) → I' a = I a) (hf : ∀ j, 32 ≤ j → j ≤ 38 → I' 404 j = I 404 j) (h17 : ∀ c, c ≠ k → I' 417 c = I 417 c) (e17 : I' 417 k = 0) : GM I' R cv (wpS s k) d := by
  obtain ⟨h1, h2, h3, ⟨hc, ht, ⟨s1, s2, s3, s4⟩, hN, h6, hkd⟩, h5⟩ := h
  refine ⟨by rw [hr 406 (Or.inl rfl)]; exact h1, by rw [hf 38 (by decide) (by decide)]; exact h2, by rw [hf 35 (by decide) (by decide)]; exact h3, ⟨fun τ q1 q2 c hcN => ?_, fun t q1 q2 => ?_, ⟨fun c hcN => ?_, fun c hcN => ?_, ?_, ?_⟩, by rw [hr 406 (Or.inl rfl)]; exact hN, by rw [hf 34 (by decide) (by decide)]; exact h6, fun c hcN => ?_⟩, fun c hcN => ?_⟩
  · rw [← hc τ q1 q2 c hcN]
    unfold cfM syM
    rw [hr 406 (Or.inl rfl), hr 419 (by omega), hr 418 (by omega), hf 35 (by decide) (by decide), hf 36 (by decide) (by decide), hf 37 (by decide) (by decide)]
  · rw [← ht t q1 q2]
    unfold tnM
    rw [hr 411 (by omega), hr 412 (by omega), hr 413 (by omega), hr 414 (by omega), hr 415 (by omega)]
  · show I' 416 c = s.1 c
    rw [hr 416 (by omega)]; exact s1 c hcN
  · show I' 417 c = upF s.2.1 k 0 c
    by_cases g : c = k
    · rw [g, upF_at]; exact e17
    · rw [upF_ne g, h17 c g]; exact s2 c hcN
  · show I' 404 32 = s.2.2.1
    rw [hf 32 (by decide) (by decide)]; exact s3
  · show I' 404 33 = s.2.2.2
    rw [hf 33 (by decide) (by decide)]; exact s4
  · rw [hr 419 (by omega)]; exact hkd c hcN
  · rw [hr 420 (by omega), hr 419 (by omega)]; exact h5 c hcN
set_option maxRecDepth 8000 in
theorem gm_cv {I I' : Nat → Nat → Int32} {R cv : Nat → Int32} {s : rS} {d k : Nat} {v : Int32} (h : GM I R cv s d) (hr : ∀ a, a = 406 ∨ (411 ≤ a ∧ a ≤ 417) ∨ a = 419 → I' a = I a) (hf : ∀ j, 32 ≤ j → j ≤ 38 → I' 404 j = I 404 j) (h20 : ∀ c, c ≠ k → I' 420 c = I 420 c) (h18 : ∀ c, c ≠ k → I' 418 c = I 418 c) (e20 : I' 420 k = v) (e18 : I' 418 k = if v = 1 then 0 else skI R k) : GM I' R (upF cv k v) s d := by
  obtain ⟨h1, h2, h3, ⟨hc, ht, ⟨s1, s2, s3, s4⟩, hN, h6, hkd⟩, h5⟩ := h
  have cM1 : (-1 : Int32).toInt = -1 := rfl
  refine ⟨by rw [hr 406 (Or.inl rfl)]; exact h1, by rw [hf 38 (by decide) (by decide)]; exact h2, by rw [hf 35 (by decide) (by decide)]; exact h3, ⟨fun τ q1 q2 c hcN => ?_, fun t q1 q2 => ?_, ⟨fun c hcN => ?_, fun c hcN => ?_, ?_, ?_⟩, by rw [hr 406 (Or.inl rfl)]; exact hN, by rw [hf 34 (by decide) (by decide)]; exact h6, fun c hcN => ?_⟩, fun c hcN => ?_⟩
  · have e := hc τ q1 q2 c hcN
    have e0 : syM I τ c = if cv c = 1 then 0 else skI R c := congrArg (·.2.2.2) e
    unfold cfM cvG
    rw [hr 406 (Or.inl rfl), hr 419 (by omega), h1, (h5 c hcN).2]
    have es : syM I' τ c = if upF cv k v c = 1 then 0 else skI R c := by
      have n1 : ∀ Y : Nat → Nat → Int32, Y 404 35 = -1 → syM Y τ c = Y 418 c := fun Y hY => by
        unfold syM
        rw [hY, if_neg (fun q => by rw [cM1] at q; omega)]
      rw [n1 I h3] at e0
      rw [n1 I' (by rw [hf 35 (by decide) (by decide)]; exact h3)]
      by_cases g : c = k
      · rw [g, upF_at]; exact e18
      · rw [upF_ne g, h18 c g]; exact e0
    rw [es]
  · rw [← ht t q1 q2]
    unfold tnM
    rw [hr 411 (by omega), hr 412 (by omega), hr 413 (by omega), hr 414 (by omega), hr 415 (by omega)]
  · show I' 416 c = s.1 c
    rw [hr 416 (by omega)]; exact s1 c hcN
  · show I' 417 c = s.2.1 c
    rw [hr 417 (by omega)]; exact s2 c hcN
  · show I' 404 32 = s.2.2.1
    rw [hf 32 (by decide) (by decide)]; exact s3
  · show I' 404 33 = s.2.2.2
    rw [hf 33 (by decide) (by decide)]; exact s4
  · rw [hr 419 (by omega)]; exact hkd c hcN
  · rw [hr 419 (by omega)]
    refine ⟨?_, (h5 c hcN).2⟩
    by_cases g : c = k
    · rw [g, upF_at]; exact e20
    · rw [upF_ne g, h20 c g]; exact (h5 c hcN).1
