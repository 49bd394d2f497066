/-! ===== the states alike, from call to call ===== -/
def KP (I : Nat → Nat → Int32) : Prop := (I 433 0 ≠ 0 → SREL I 210 (I 432)) ∧ (I 433 1 ≠ 0 → SREL I 307 (fun j => I 432 (1427 + j)))
def REL (I : Nat → Nat → Int32) : Prop := SREL I 3 (I 406) ∧ KP I
def rwS (a : Nat) : Bool := Nat.ble 3 a && Nat.ble a 99
def rwK (a : Nat) : Bool := (Nat.ble 210 a && Nat.ble a 403) || (Nat.beq a 432 || Nat.beq a 433)
theorem rw_out {p : Nat → Bool} {l : List Nat} (h : l.all (fun x => !p x) = true) {a : Nat} (ha : p a = true) : a ∉ l := fun q => by
  have g := List.all_eq_true.mp h a q
  rw [ha] at g
  exact absurd g (by decide)
theorem rwS_of {a : Nat} (h1 : 3 ≤ a) (h2 : a ≤ 99) : rwS a = true := by
  unfold rwS
  rw [Nat.ble_eq_true_of_le h1, Nat.ble_eq_true_of_le h2]; rfl
def rwA (a : Nat) : Bool := Nat.ble 3 a && Nat.ble a 403
theorem rwA_of {a : Nat} (h1 : 3 ≤ a) (h2 : a ≤ 403) : rwA a = true := by
  unfold rwA
  rw [Nat.ble_eq_true_of_le h1, Nat.ble_eq_true_of_le h2]; rfl
theorem rwK_of {a : Nat} (h : (210 ≤ a ∧ a ≤ 403) ∨ a = 432 ∨ a = 433) : rwK a = true := by
  rcases h with ⟨h1, h2⟩ | rfl | rfl
  · unfold rwK
    rw [Nat.ble_eq_true_of_le h1, Nat.ble_eq_true_of_le h2]; rfl
  · rfl
  · rfl
theorem kp_fr {I I' : Nat → Nat → Int32} (h : ∀ a, (210 ≤ a ∧ a ≤ 403) ∨ a = 432 ∨ a = 433 → I' a = I a) (g : KP I) : KP I' := by
  have e2 : I' 432 = I 432 := h 432 (Or.inr (Or.inl rfl))
  have e3 : I' 433 = I 433 := h 433 (Or.inr (Or.inr rfl))
  refine ⟨fun q => ?_, fun q => ?_⟩
  · rw [e3] at q
    exact srel_fr (fun a q1 q2 => h a (Or.inl ⟨by omega, by omega⟩)) (fun j _ => by rw [e2]) (g.1 q)
  · rw [e3] at q
    exact srel_fr (fun a q1 q2 => h a (Or.inl ⟨by omega, by omega⟩)) (fun j _ => by rw [e2]) (g.2 q)
/-- a call that changes none of it -/
theorem rel_fr {I I' : Nat → Nat → Int32} (h1 : ∀ a, 3 ≤ a → a ≤ 99 → I' a = I a) (h2 : I' 406 = I 406) (h3 : ∀ a, (210 ≤ a ∧ a ≤ 403) ∨ a = 432 ∨ a = 433 → I' a = I a) (g : REL I) : REL I' :=
  ⟨srel_fr (S := 3) (fun a q1 q2 => h1 a q1 (by omega)) (fun j _ => by rw [h2]) g.1, kp_fr h3 g.2⟩
/-- where a SLOT is there its NIGHT is in order -/
theorem nok_s {I : Nat → Nat → Int32} {R : Nat → Int32} {x : Int32} (h : SREL I 3 R) (ok : okS R x) : NOK (nX R x) := by
  obtain ⟨⟨h1, h2⟩, h3⟩ := ok
  rcases rn_3 h (s := x.toInt.toNat) (by omega) with ⟨-, e⟩ | ⟨-, e, -⟩
  · have e : (R (221 + 97 * x.toInt.toNat + 0)).toInt < 0 := e
    rw [Nat.add_zero] at e; omega
  · exact e
/-! begin -/
def PCbegin (R : Nat → Int32) (I I' : Nat → Nat → Int32) (a1 w : Int32) : Prop := (okS R a1 ∧ w = 1 ∧ (∀ a, (a < 43 ∨ 57 < a) → I' a = I a) ∧ I' 43 0 = 1 ∧ CST I' 43 R (nX R a1) ∧ I' 43 6 = 0 ∧ (∀ w, w < 5 → ∀ t, t < 144 → I' (43 + 1 + 2 + w) t = ndF (nU (nX R a1)) w t) ∧ ∀ c, c < Nn R → I' (43 + 12) c = 0) ∨ (¬ okS R a1 ∧ w = 0 ∧ I' = I)
def PMbegin (R : Nat → Int32) (I' : Nat → Nat → Int32) (a1 w : Int32) : Prop := (okS R a1 ∧ w = 1 ∧ mBeg R (I' 406) a1.toInt.toNat) ∨ (¬ okS R a1 ∧ w = 0 ∧ I' 406 = R)
theorem cr_X11_begin {μ : dw_S} {K : dw_K} {a1 : Int32} (hI : INV μ) (hR : REL μ.2.2.1) (hK : ∀ (r : Option Value) (w : Int32) (μ' : dw_S), ck_X11_begin a1 μ r w μ' → PCbegin (μ.2.2.1 406) μ.2.2.1 μ'.2.2.1 a1 w → K r μ') : t_X11_begin [.ref 0, .int a1] μ K := by
  refine cj_X11_begin _ μ (fun r μ' => ∃ w, ck_X11_begin a1 μ r w μ') (fun r μ' => ∀ w, r = some (.int w) → PCbegin (μ.2.2.1 406) μ.2.2.1 μ'.2.2.1 a1 w) K (fun r μ' h q => h.elim (fun w h => hK r w μ' h (q w h.2.1))) (cl_X11_begin hI (fun r w μ' h => ⟨w, h⟩)) ?_
  obtain ⟨n, sh, I, J⟩ := μ
  obtain rfl : sh = SH1 := hI.1
  have hS : SREL I 3 (I 406) := hR.1
  refine v_cbegin hS (fun q hq hx hN I' f0 g0 gC g6 gn gc w e => ?_) (fun hno w e => ?_)
  · obtain ⟨ok, en⟩ := okS_of hq hx hN
    exact Or.inl ⟨ok, ro_eq e, f0, g0, by rw [en]; exact gC, g6, by rw [en]; exact gn, gc⟩
  · exact Or.inr ⟨okS_no hno, ro_eq e, rfl⟩
theorem cr_X12_begin {μ : dw_S} {K : dw_K} {a1 : Int32} {R : Nat → Int32} (hI : INV μ) (e6 : μ.2.2.1 406 = R) (hG : GOK R) (hN : okS R a1 → NOK (nX R a1)) (hK : ∀ (r : Option Value) (w : Int32) (μ' : dw_S), ck_X12_begin a1 μ r w μ' → PMbegin R μ'.2.2.1 a1 w → K r μ') : t_X12_begin [.ref 404, .int a1] μ K := by
  refine cj_X12_begin _ μ (fun r μ' => ∃ w, ck_X12_begin a1 μ r w μ') (fun r μ' => ∀ w, r = some (.int w) → PMbegin R μ'.2.2.1 a1 w) K (fun r μ' h q => h.elim (fun w h => hK r w μ' h (q w h.2.1))) (cl_X12_begin hI (fun r w μ' h => ⟨w, h⟩)) ?_
  obtain ⟨n, sh, I, J⟩ := μ
  obtain rfl : sh = SH1 := hI.1
  refine v_mbegin e6 hG hN (fun ok I' e w e2 => ?_) (fun ok _ I' hM w e2 => ?_)
  · exact Or.inr ⟨ok, ro_eq e2, e⟩
  · exact Or.inl ⟨ok, ro_eq e2, hM⟩
theorem rel_begin {I I1 I2 : Nat → Nat → Int32} {a1 w1 w2 : Int32} (h : REL I) (c : PCbegin (I 406) I I1 a1 w1) (m : PMbegin (I 406) I2 a1 w2) (f : ∀ a, 3 ≤ a → a ≤ 99 → I2 a = I1 a) (k : ∀ a, (210 ≤ a ∧ a ≤ 403) ∨ a = 432 ∨ a = 433 → I2 a = I a) : REL I2 ∧ w1 = w2 := by
  have hN := nok_s (x := a1) h.1
  rcases c with ⟨ok, rfl, f0, g0, gC, g6, gn, gc⟩ | ⟨no, rfl, rfl⟩
  · rcases m with ⟨-, rfl, hM⟩ | ⟨no, -⟩
    · refine ⟨⟨?_, kp_fr k h.2⟩, rfl⟩
      have q := srel_begin h.1 (hN ok) (by obtain ⟨⟨q1, q2⟩, -⟩ := ok; omega) (fun a _ _ q => f0 a q) g0 gC g6 gn gc hM
      exact srel_fr (S := 3) (fun a q1 q2 => f a q1 (by omega)) (fun _ _ => rfl) q
    · exact absurd ok no
  · rcases m with ⟨ok, -⟩ | ⟨-, rfl, e⟩
    · exact absurd ok no
    · exact ⟨rel_fr f e k h, rfl⟩
/-! on -/
def onk (R : Nat → Int32) (a1 : Int32) : Nat := min a1.toInt.toNat (144 - dR R)
abbrev ok144 (R : Nat → Int32) (a1 : Int32) : Prop := R 894 ≠ 0 ∧ 0 ≤ a1.toInt ∧ a1.toInt ≤ 144
def PCon (R : Nat → Int32) (I I' : Nat → Nat → Int32) (a1 w : Int32) : Prop := (ok144 R a1 ∧ w.toInt = onk R a1 ∧ (∀ a, a ≠ 43 → a ≠ 56 → a ≠ 57 → I' a = I a) ∧ (∀ j, j ≠ 2 → j ≠ 3 → j ≠ 4 → I' 43 j = I 43 j) ∧ GC I' 43 R (cvR R) (ruG R (cvR R) (dR R) (onk R a1) (rrS R)) (dR R + onk R a1) ∧ GP R (cvR R) (ruG R (cvR R) (dR R) (onk R a1) (rrS R)) (dR R + onk R a1)) ∨ (¬ ok144 R a1 ∧ w.toInt = -1 ∧ I' = I)
def PMon (R : Nat → Int32) (I' : Nat → Nat → Int32) (a1 w : Int32) : Prop := (ok144 R a1 ∧ w.toInt = onk R a1 ∧ mOn R (I' 406) (cvR R) (ruG R (cvR R) (dR R) (onk R a1) (rrS R)) (dR R + onk R a1)) ∨ (¬ ok144 R a1 ∧ w.toInt = -1 ∧ I' 406 = R)
theorem no144 {R : Nat → Int32} {a1 : Int32} (h : R 894 = 0 ∨ ¬ (0 ≤ a1.toInt ∧ a1.toInt ≤ 144)) : ¬ ok144 R a1 := fun q => h.elim (fun e => q.1 e) (fun e => e q.2)
theorem cr_X11_on {μ : dw_S} {K : dw_K} {a1 : Int32} (hI : INV μ) (hR : REL μ.2.2.1) (hK : ∀ (r : Option Value) (w : Int32) (μ' : dw_S), ck_X11_on a1 μ r w μ' → PCon (μ.2.2.1 406) μ.2.2.1 μ'.2.2.1 a1 w → K r μ') : t_X11_on [.ref 0, .int a1] μ K := by
  refine cj_X11_on _ μ (fun r μ' => ∃ w, ck_X11_on a1 μ r w μ') (fun r μ' => ∀ w, r = some (.int w) → PCon (μ.2.2.1 406) μ.2.2.1 μ'.2.2.1 a1 w) K (fun r μ' h q => h.elim (fun w h => hK r w μ' h (q w h.2.1))) (cl_X11_on hI (fun r w μ' h => ⟨w, h⟩)) ?_
  obtain ⟨n, sh, I, J⟩ := μ
  obtain rfl : sh = SH1 := hI.1
  have hS : SREL I 3 (I 406) := hR.1
  refine v_con hS (fun no w e => ?_) (fun h8 I' w' k ok ek ew f1 f2 gC gP w e => ?_)
  · rw [ro_eq e]; exact Or.inr ⟨no144 no, rfl, rfl⟩
  · rw [ro_eq e]; subst ek; exact Or.inl ⟨⟨h8, ok⟩, ew, f1, f2, gC, gP⟩
/-- what the model needs of the RUN now -/
theorem rr_gm {I : Nat → Nat → Int32} {R : Nat → Int32} (h : SREL I 3 R) : R 894 ≠ 0 → GP R (cvR R) (rrS R) (dR R) ∧ NOK (rnS R) ∧ (R 895).toInt = (dR R : Nat) := fun h8 => by
  have hr : RR I 43 R := h.2.2.2.2
  obtain ⟨-, gP, gN, -⟩ := rr_go h.1 hr h8
  refine ⟨gP, gN, ?_⟩
  rcases hr with ⟨-, e⟩ | ⟨-, -, -, -, ⟨b0, b1⟩, -⟩
  · exact absurd e h8
  · show (R 895).toInt = (((R 895).toInt.toNat : Nat) : Int); omega
theorem cr_X12_on {μ : dw_S} {K : dw_K} {a1 : Int32} {R : Nat → Int32} (hI : INV μ) (e6 : μ.2.2.1 406 = R) (hG : GOK R) (hgo : R 894 ≠ 0 → GP R (cvR R) (rrS R) (dR R) ∧ NOK (rnS R) ∧ (R 895).toInt = (dR R : Nat)) (hK : ∀ (r : Option Value) (w : Int32) (μ' : dw_S), ck_X12_on a1 μ r w μ' → PMon R μ'.2.2.1 a1 w → K r μ') : t_X12_on [.ref 404, .int a1] μ K := by
  refine cj_X12_on _ μ (fun r μ' => ∃ w, ck_X12_on a1 μ r w μ') (fun r μ' => ∀ w, r = some (.int w) → PMon R μ'.2.2.1 a1 w) K (fun r μ' h q => h.elim (fun w h => hK r w μ' h (q w h.2.1))) (cl_X12_on hI (fun r w μ' h => ⟨w, h⟩)) ?_
  obtain ⟨n, sh, I, J⟩ := μ
  obtain rfl : sh = SH1 := hI.1
  refine v_mon e6 hG hgo (fun no I' f1 _ _ w e => ?_) (fun h8 I' w' k ok ek ew _ _ _ hM w e => ?_)
  · rw [ro_eq e]; exact Or.inr ⟨no144 no, rfl, (f1 406 (by decide)).trans e6⟩
  · rw [ro_eq e]; subst ek; exact Or.inl ⟨⟨h8, ok⟩, ew, hM⟩
theorem rel_on {I I1 I2 : Nat → Nat → Int32} {a1 w1 w2 : Int32} (h : REL I) (c : PCon (I 406) I I1 a1 w1) (m : PMon (I 406) I2 a1 w2) (f : ∀ a, 3 ≤ a → a ≤ 99 → I2 a = I1 a) (k : ∀ a, (210 ≤ a ∧ a ≤ 403) ∨ a = 432 ∨ a = 433 → I2 a = I a) : REL I2 ∧ w1 = w2 := by
  rcases c with ⟨ok, e1, f1, f2, gC, gP⟩ | ⟨no, e1, rfl⟩
  · rcases m with ⟨-, e2, hM⟩ | ⟨no, -⟩
    · refine ⟨⟨?_, kp_fr k h.2⟩, i_eq (e1.trans e2.symm)⟩
      have q := srel_go h.1 ok.1 (fun a q1 q2 q3 q4 => f1 a q3 (by omega) (by omega)) f2 gC gP hM
      exact srel_fr (S := 3) (fun a q1 q2 => f a q1 (by omega)) (fun _ _ => rfl) q
    · exact absurd ok no
  · rcases m with ⟨ok, -⟩ | ⟨-, e2, e⟩
    · exact absurd ok no
    · exact ⟨rel_fr f e k h, i_eq (e1.trans e2.symm)⟩
