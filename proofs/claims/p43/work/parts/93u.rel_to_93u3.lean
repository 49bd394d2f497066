section
/-! ===== the states alike, from call to call ===== -/
def KP (I : Nat → Nat → Int32) : Prop := (I 433 0 ≠ 0 → SREL I 210 (I 432)) ∧ (I 433 1 ≠ 0 → SREL I 307 (fun j => I 432 (1427 + j)))
def REL (I : Nat → Nat → Int32) : Prop := SREL I 3 (I 406) ∧ KP I
def rwS (a : Nat) : Bool := Nat.ble 3 a && Nat.ble a 99
def rwK (a : Nat) : Bool := (Nat.ble 210 a && Nat.ble a 403) || (Nat.beq a 432 || Nat.beq a 433)
theorem rw_out {p : Nat → Bool} {l : List Nat} (h : l.all (fun x => !p x) = true) {a : Nat} (ha : p a = true) : a ∉ l := fun q => by
  have g := List.all_eq_true.mp h a q
  rw [ha] at g
  exact absurd g (by decide)
theorem rwS_of {a : Nat} (h1 : 3 ≤ a) (h2 : a ≤ 99) : rwS a = true := by
  unfold rwS
  rw [Nat.ble_eq_true_of_le h1, Nat.ble_eq_true_of_le h2]; rfl
def rwA (a : Nat) : Bool := Nat.ble 3 a && Nat.ble a 403
theorem rwA_of {a : Nat} (h1 : 3 ≤ a) (h2 : a ≤ 403) : rwA a = true := by
  unfold rwA
  rw [Nat.ble_eq_true_of_le h1, Nat.ble_eq_true_of_le h2]; rfl
theorem rwK_of {a : Nat} (h : (210 ≤ a ∧ a ≤ 403) ∨ a = 432 ∨ a = 433) : rwK a = true := by
  rcases h with ⟨h1, h2⟩ | rfl | rfl
  · unfold rwK
    rw [Nat.ble_eq_true_of_le h1, Nat.ble_eq_true_of_le h2]; rfl
  · rfl
  · rfl
theorem kp_fr {I I' : Nat → Nat → Int32} (h : ∀ a, (210 ≤ a ∧ a ≤ 403) ∨ a = 432 ∨ a = 433 → I' a = I a) (g : KP I) : KP I' := by
  have e2 : I' 432 = I 432 := h 432 (Or.inr (Or.inl rfl))
  have e3 : I' 433 = I 433 := h 433 (Or.inr (Or.inr rfl))
  refine ⟨fun q => ?_, fun q => ?_⟩
  · rw [e3] at q
    exact srel_fr (fun a q1 q2 => h a (Or.inl ⟨by omega, by omega⟩)) (fun j _ => by rw [e2]) (g.1 q)
  · rw [e3] at q
    exact srel_fr (fun a q1 q2 => h a (Or.inl ⟨by omega, by omega⟩)) (fun j _ => by rw [e2]) (g.2 q)
/-- a call that changes none of it -/
theorem rel_fr {I I' : Nat → Nat → Int32} (h1 : ∀ a, 3 ≤ a → a ≤ 99 → I' a = I a) (h2 : I' 406 = I 406) (h3 : ∀ a, (210 ≤ a ∧ a ≤ 403) ∨ a = 432 ∨ a = 433 → I' a = I a) (g : REL I) : REL I' :=
  ⟨srel_fr (S := 3) (fun a q1 q2 => h1 a q1 (by omega)) (fun j _ => by rw [h2]) g.1, kp_fr h3 g.2⟩
/-- where a SLOT is there its NIGHT is in order -/
theorem nok_s {I : Nat → Nat → Int32} {R : Nat → Int32} {x : Int32} (h : SREL I 3 R) (ok : okS R x) : NOK (nX R x) := by
  obtain ⟨⟨h1, h2⟩, h3⟩ := ok
  rcases rn_3 h (s := x.toInt.toNat) (by omega) with ⟨-, e⟩ | ⟨-, e, -⟩
  · have e : (R (221 + 97 * x.toInt.toNat + 0)).toInt < 0 := e
    rw [Nat.add_zero] at e; omega
  · exact e
/-! begin -/
def PCbegin (R : Nat → Int32) (I I' : Nat → Nat → Int32) (a1 w : Int32) : Prop := (okS R a1 ∧ w = 1 ∧ (∀ a, (a < 43 ∨ 57 < a) → I' a = I a) ∧ I' 43 0 = 1 ∧ CST I' 43 R (nX R a1) ∧ I' 43 6 = 0 ∧ (∀ w, w < 5 → ∀ t, t < 144 → I' (43 + 1 + 2 + w) t = ndF (nU (nX R a1)) w t) ∧ ∀ c, c < Nn R → I' (43 + 12) c = 0) ∨ (¬ okS R a1 ∧ w = 0 ∧ I' = I)
def PMbegin (R : Nat → Int32) (I' : Nat → Nat → Int32) (a1 w : Int32) : Prop := (okS R a1 ∧ w = 1 ∧ mBeg R (I' 406) a1.toInt.toNat) ∨ (¬ okS R a1 ∧ w = 0 ∧ I' 406 = R)
theorem cr_X11_begin {μ : dw_S} {K : dw_K} {a1 : Int32} (hI : INV μ) (hR : REL μ.2.2.1) (hK : ∀ (r : Option Value) (w : Int32) (μ' : dw_S), ck_X11_begin a1 μ r w μ' → PCbegin (μ.2.2.1 406) μ.2.2.1 μ'.2.2.1 a1 w → K r μ') : t_X11_begin [.ref 0, .int a1] μ K := by
  refine cj_X11_begin _ μ (fun r μ' => ∃ w, ck_X11_begin a1 μ r w μ') (fun r μ' => ∀ w, r = some (.int w) → PCbegin (μ.2.2.1 406) μ.2.2.1 μ'.2.2.1 a1 w) K (fun r μ' h q => h.elim (fun w h => hK r w μ' h (q w h.2.1))) (cl_X11_begin hI (fun r w μ' h => ⟨w, h⟩)) ?_
  obtain ⟨n, sh, I, J⟩ := μ
  obtain rfl : sh = SH1 := hI.1
  have hS : SREL I 3 (I 406) := hR.1
  refine v_cbegin hS (fun q hq hx hN I' f0 g0 gC g6 gn gc w e => ?_) (fun hno w e => ?_)
  · obtain ⟨ok, en⟩ := okS_of hq hx hN
    exact Or.inl ⟨ok, ro_eq e, f0, g0, by rw [en]; exact gC, g6, by rw [en]; exact gn, gc⟩
  · exact Or.inr ⟨okS_no hno, ro_eq e, rfl⟩
theorem cr_X12_begin {μ : dw_S} {K : dw_K} {a1 : Int32} {R : Nat → Int32} (hI : INV μ) (e6 : μ.2.2.1 406 = R) (hG : GOK R) (hN : okS R a1 → NOK (nX R a1)) (hK : ∀ (r : Option Value) (w : Int32) (μ' : dw_S), ck_X12_begin a1 μ r w μ' → PMbegin R μ'.2.2.1 a1 w → K r μ') : t_X12_begin [.ref 404, .int a1] μ K := by
  refine cj_X12_begin _ μ (fun r μ' => ∃ w, ck_X12_begin a1 μ r w μ') (fun r μ' => ∀ w, r = some (.int w) → PMbegin R μ'.2.2.1 a1 w) K (fun r μ' h q => h.elim (fun w h => hK r w μ' h (q w h.2.1))) (cl_X12_begin hI (fun r w μ' h => ⟨w, h⟩)) ?_
  obtain ⟨n, sh, I, J⟩ := μ
  obtain rfl : sh = SH1 := hI.1
  refine v_mbegin e6 hG hN (fun ok I' e w e2 => ?_) (fun ok _ I' hM w e2 => ?_)
  · exact Or.inr ⟨ok, ro_eq e2, e⟩
  · exact Or.inl ⟨ok, ro_eq e2, hM⟩
theorem rel_begin {I I1 I2 : Nat → Nat → Int32} {a1 w1 w2 : Int32} (h : REL I) (c : PCbegin (I 406) I I1 a1 w1) (m : PMbegin (I 406) I2 a1 w2) (f : ∀ a, 3 ≤ a → a ≤ 99 → I2 a = I1 a) (k : ∀ a, (210 ≤ a ∧ a ≤ 403) ∨ a = 432 ∨ a = 433 → I2 a = I a) : REL I2 ∧ w1 = w2 := by
  have hN := nok_s (x := a1) h.1
  rcases c with ⟨ok, rfl, f0, g0, gC, g6, gn, gc⟩ | ⟨no, rfl, rfl⟩
  · rcases m with ⟨-, rfl, hM⟩ | ⟨no, -⟩
    · refine ⟨⟨?_, kp_fr k h.2⟩, rfl⟩
      have q := srel_begin h.1 (hN ok) (by obtain ⟨⟨q1, q2⟩, -⟩ := ok; omega) (fun a _ _ q => f0 a q) g0 gC g6 gn gc hM
      exact srel_fr (S := 3) (fun a q1 q2 => f a q1 (by omega)) (fun _ _ => rfl) q
    · exact absurd ok no
  · rcases m with ⟨ok, -⟩ | ⟨-, rfl, e⟩
    · exact absurd ok no
    · exact ⟨rel_fr f e k h, rfl⟩
/-! on -/
def onk (R : Nat → Int32) (a1 : Int32) : Nat := min a1.toInt.toNat (144 - dR R)
abbrev ok144 (R : Nat → Int32) (a1 : Int32) : Prop := R 894 ≠ 0 ∧ 0 ≤ a1.toInt ∧ a1.toInt ≤ 144
def PCon (R : Nat → Int32) (I I' : Nat → Nat → Int32) (a1 w : Int32) : Prop := (ok144 R a1 ∧ w.toInt = onk R a1 ∧ (∀ a, a ≠ 43 → a ≠ 56 → a ≠ 57 → I' a = I a) ∧ (∀ j, j ≠ 2 → j ≠ 3 → j ≠ 4 → I' 43 j = I 43 j) ∧ GC I' 43 R (cvR R) (ruG R (cvR R) (dR R) (onk R a1) (rrS R)) (dR R + onk R a1) ∧ GP R (cvR R) (ruG R (cvR R) (dR R) (onk R a1) (rrS R)) (dR R + onk R a1)) ∨ (¬ ok144 R a1 ∧ w.toInt = -1 ∧ I' = I)
def PMon (R : Nat → Int32) (I' : Nat → Nat → Int32) (a1 w : Int32) : Prop := (ok144 R a1 ∧ w.toInt = onk R a1 ∧ mOn R (I' 406) (cvR R) (ruG R (cvR R) (dR R) (onk R a1) (rrS R)) (dR R + onk R a1)) ∨ (¬ ok144 R a1 ∧ w.toInt = -1 ∧ I' 406 = R)
theorem no144 {R : Nat → Int32} {a1 : Int32} (h : R 894 = 0 ∨ ¬ (0 ≤ a1.toInt ∧ a1.toInt ≤ 144)) : ¬ ok144 R a1 := fun q => h.elim (fun e => q.1 e) (fun e => e q.2)
theorem cr_X11_on {μ : dw_S} {K : dw_K} {a1 : Int32} (hI : INV μ) (hR : REL μ.2.2.1) (hK : ∀ (r : Option Value) (w : Int32) (μ' : dw_S), ck_X11_on a1 μ r w μ' → PCon (μ.2.2.1 406) μ.2.2.1 μ'.2.2.1 a1 w → K r μ') : t_X11_on [.ref 0, .int a1] μ K := by
  refine cj_X11_on _ μ (fun r μ' => ∃ w, ck_X11_on a1 μ r w μ') (fun r μ' => ∀ w, r = some (.int w) → PCon (μ.2.2.1 406) μ.2.2.1 μ'.2.2.1 a1 w) K (fun r μ' h q => h.elim (fun w h => hK r w μ' h (q w h.2.1))) (cl_X11_on hI (fun r w μ' h => ⟨w, h⟩)) ?_
  obtain ⟨n, sh, I, J⟩ := μ
  obtain rfl : sh = SH1 := hI.1
  have hS : SREL I 3 (I 406) := hR.1
  refine v_con hS (fun no w e => ?_) (fun h8 I' w' k ok ek ew f1 f2 gC gP w e => ?_)
  · rw [ro_eq e]; exact Or.inr ⟨no144 no, rfl, rfl⟩
  · rw [ro_eq e]; subst ek; exact Or.inl ⟨⟨h8, ok⟩, ew, f1, f2, gC, gP⟩
/-- what the model needs of the RUN now -/
theorem rr_gm {I : Nat → Nat → Int32} {R : Nat → Int32} (h : SREL I 3 R) : R 894 ≠ 0 → GP R (cvR R) (rrS R) (dR R) ∧ NOK (rnS R) ∧ (R 895).toInt = (dR R : Nat) := fun h8 => by
  have hr : RR I 43 R := h.2.2.2.2
  obtain ⟨-, gP, gN, -⟩ := rr_go h.1 hr h8
  refine ⟨gP, gN, ?_⟩
  rcases hr with ⟨-, e⟩ | ⟨-, -, -, -, ⟨b0, b1⟩, -⟩
  · exact absurd e h8
  · show (R 895).toInt = (((R 895).toInt.toNat : Nat) : Int); omega
theorem cr_X12_on {μ : dw_S} {K : dw_K} {a1 : Int32} {R : Nat → Int32} (hI : INV μ) (e6 : μ.2.2.1 406 = R) (hG : GOK R) (hgo : R 894 ≠ 0 → GP R (cvR R) (rrS R) (dR R) ∧ NOK (rnS R) ∧ (R 895).toInt = (dR R : Nat)) (hK : ∀ (r : Option Value) (w : Int32) (μ' : dw_S), ck_X12_on a1 μ r w μ' → PMon R μ'.2.2.1 a1 w → K r μ') : t_X12_on [.ref 404, .int a1] μ K := by
  refine cj_X12_on _ μ (fun r μ' => ∃ w, ck_X12_on a1 μ r w μ') (fun r μ' => ∀ w, r = some (.int w) → PMon R μ'.2.2.1 a1 w) K (fun r μ' h q => h.elim (fun w h => hK r w μ' h (q w h.2.1))) (cl_X12_on hI (fun r w μ' h => ⟨w, h⟩)) ?_
  obtain ⟨n, sh, I, J⟩ := μ
  obtain rfl : sh = SH1 := hI.1
  refine v_mon e6 hG hgo (fun no I' f1 _ _ w e => ?_) (fun h8 I' w' k ok ek ew _ _ _ hM w e => ?_)
  · rw [ro_eq e]; exact Or.inr ⟨no144 no, rfl, (f1 406 (by decide)).trans e6⟩
  · rw [ro_eq e]; subst ek; exact Or.inl ⟨⟨h8, ok⟩, ew, hM⟩
theorem rel_on {I I1 I2 : Nat → Nat → Int32} {a1 w1 w2 : Int32} (h : REL I) (c : PCon (I 406) I I1 a1 w1) (m : PMon (I 406) I2 a1 w2) (f : ∀ a, 3 ≤ a → a ≤ 99 → I2 a = I1 a) (k : ∀ a, (210 ≤ a ∧ a ≤ 403) ∨ a = 432 ∨ a = 433 → I2 a = I a) : REL I2 ∧ w1 = w2 := by
  rcases c with ⟨ok, e1, f1, f2, gC, gP⟩ | ⟨no, e1, rfl⟩
  · rcases m with ⟨-, e2, hM⟩ | ⟨no, -⟩
    · refine ⟨⟨?_, kp_fr k h.2⟩, i_eq (e1.trans e2.symm)⟩
      have q := srel_go h.1 ok.1 (fun a q1 q2 q3 q4 => f1 a q3 (by omega) (by omega)) f2 gC gP hM
      exact srel_fr (S := 3) (fun a q1 q2 => f a q1 (by omega)) (fun _ _ => rfl) q
    · exact absurd ok no
  · rcases m with ⟨ok, -⟩ | ⟨-, e2, e⟩
    · exact absurd ok no
    · exact ⟨rel_fr f e k h, i_eq (e1.trans e2.symm)⟩
end
section
/-! ===== the states alike: image, restore ===== -/
abbrev kpR (I : Nat → Nat → Int32) (s : Nat) : Nat → Int32 := fun j => I 432 (1427 * s + j)
theorem kp_iff {I : Nat → Nat → Int32} : KP I ↔ ∀ s, s < 2 → I 433 s ≠ 0 → SREL I (210 + 97 * s) (kpR I s) := by
  constructor
  · intro h s hs q
    have hs2 : s = 0 ∨ s = 1 := by omega
    rcases hs2 with rfl | rfl
    · exact srel_fr (S := 210) (fun _ _ _ => rfl) (fun j _ => by show I 432 (1427 * 0 + j) = I 432 j; rw [show 1427 * 0 + j = j by omega]) (h.1 q)
    · exact srel_fr (S := 307) (fun _ _ _ => rfl) (fun j _ => by show I 432 (1427 * 1 + j) = I 432 (1427 + j); rw [show 1427 * 1 + j = 1427 + j by omega]) (h.2 q)
  · intro h
    refine ⟨fun q => ?_, fun q => ?_⟩
    · exact srel_fr (S := 210) (R := kpR I 0) (fun _ _ _ => rfl) (fun j _ => by show I 432 j = I 432 (1427 * 0 + j); rw [show 1427 * 0 + j = j by omega]) (h 0 (by decide) q)
    · exact srel_fr (S := 307) (R := kpR I 1) (fun _ _ _ => rfl) (fun j _ => by show I 432 (1427 + j) = I 432 (1427 * 1 + j); rw [show 1427 * 1 + j = 1427 + j by omega]) (h 1 (by decide) q)
abbrev ok01 (x : Int32) : Prop := 0 ≤ x.toInt ∧ x.toInt ≤ 1
def PCimage (I I' : Nat → Nat → Int32) (x w : Int32) : Prop := (ok01 x ∧ w = 1 ∧ (∀ a, (a < 210 + 97 * x.toInt.toNat ∨ 210 + 97 * x.toInt.toNat + 96 < a) → I' a = I a) ∧ ∀ i j, rlv i j → I' (210 + 97 * x.toInt.toNat + i) j = I (3 + i) j) ∨ (¬ ok01 x ∧ w = 0 ∧ I' = I)
def PMimage (I I' : Nat → Nat → Int32) (x w : Int32) : Prop := (ok01 x ∧ w = 1 ∧ (∀ j, (j < 1427 * x.toInt.toNat ∨ 1427 * x.toInt.toNat + 1427 ≤ j) → I' 432 j = I 432 j) ∧ (∀ q, q < 1427 → I' 432 (1427 * x.toInt.toNat + q) = I 406 q) ∧ (∀ j, j ≠ x.toInt.toNat → I' 433 j = I 433 j)) ∨ (¬ ok01 x ∧ w = 0 ∧ I' 432 = I 432 ∧ I' 433 = I 433)
theorem rel_image {I I1 I2 : Nat → Nat → Int32} {x w1 w2 : Int32} (h : REL I) (c : PCimage I I1 x w1) (m : PMimage I1 I2 x w2) (e6 : I2 406 = I 406) (c1 : I1 406 = I 406) (c2 : I1 432 = I 432) (c3 : I1 433 = I 433) (f : ∀ a, 3 ≤ a → a ≤ 403 → I2 a = I1 a) : REL I2 ∧ w1 = w2 := by
  rcases c with ⟨ok, rfl, f0, fr⟩ | ⟨no, rfl, rfl⟩
  · rcases m with ⟨-, rfl, g1, g2, g3⟩ | ⟨no, -⟩
    · refine ⟨⟨?_, kp_iff.mpr (fun s hs q => ?_)⟩, rfl⟩
      · exact srel_fr (S := 3) (fun a q1 q2 => (f a q1 (by omega)).trans (f0 a (by omega))) (fun j _ => by rw [e6]) h.1
      · by_cases e : s = x.toInt.toNat
        · rw [e]
          refine srel_cp (S := 3) (R := I 406) (fun i j hij => ?_) (fun j hj => ?_) h.1
          · have hi : i ≤ 96 := by
              unfold rlv at hij
              rcases hij with ⟨h, -⟩ | ⟨-, h, -⟩ | ⟨-, h, -⟩ | ⟨h, -⟩ | ⟨-, h, -⟩ | ⟨h, -⟩ | ⟨h, -⟩ | ⟨-, h, -⟩ | ⟨s, hs, ⟨h, -⟩ | ⟨-, h, -⟩⟩ <;> omega
            rw [f _ (by omega) (by omega)]; exact fr i j hij
          · show I2 432 (1427 * x.toInt.toNat + j) = I 406 j
            rw [g2 j hj, c1]
        · have q' : I 433 s ≠ 0 := by rw [g3 s e, c3] at q; exact q
          refine srel_fr (S := 210 + 97 * s) (R := kpR I s) (fun a q1 q2 => ?_) (fun j hj => ?_) (kp_iff.mp h.2 s hs q')
          · rw [f a (by omega) (by omega)]; exact f0 a (by omega)
          · show I2 432 (1427 * s + j) = I 432 (1427 * s + j)
            rw [g1 _ (by omega), c2]
    · exact absurd ok no
  · rcases m with ⟨ok, -⟩ | ⟨-, rfl, g1, g2⟩
    · exact absurd ok no
    · exact ⟨rel_fr (fun a q1 q2 => f a q1 (by omega)) e6 (fun a ha => by
        rcases ha with ⟨q1, q2⟩ | rfl | rfl
        · exact f a (by omega) q2
        · exact g1
        · exact g2) h, rfl⟩
def PCrest (I I' : Nat → Nat → Int32) (x w : Int32) : Prop := ((ok01 x ∧ I (210 + 97 * x.toInt.toNat) 0 = 1) ∧ w = 1 ∧ (∀ a, (a ≤ 3 ∨ 99 < a) → I' a = I a) ∧ ∀ i j, rlv i j → I' (3 + i) j = I (210 + 97 * x.toInt.toNat + i) j) ∨ (¬ (ok01 x ∧ I (210 + 97 * x.toInt.toNat) 0 = 1) ∧ w = 0 ∧ I' = I)
def PMrest (I I' : Nat → Nat → Int32) (x w : Int32) : Prop := ((ok01 x ∧ I 433 x.toInt.toNat = 1) ∧ w = 1 ∧ ∀ q, q < 1427 → I' 406 q = I 432 (1427 * x.toInt.toNat + q)) ∨ (¬ (ok01 x ∧ I 433 x.toInt.toNat = 1) ∧ w = 0 ∧ I' 406 = I 406)
theorem rel_rest {I I1 I2 : Nat → Nat → Int32} {x w1 w2 : Int32} (h : REL I) (hz : (I 210 0).toInt = (I 433 0).toInt ∧ (I 307 0).toInt = (I 433 1).toInt) (c : PCrest I I1 x w1) (m : PMrest I1 I2 x w2) (c1 : I1 406 = I 406) (c2 : I1 432 = I 432) (c3 : I1 433 = I 433) (f : ∀ a, 3 ≤ a → a ≤ 403 → I2 a = I1 a) (f2 : I2 432 = I1 432) (f3 : I2 433 = I1 433) : REL I2 ∧ w1 = w2 := by
  have hz2 : ok01 x → (I (210 + 97 * x.toInt.toNat) 0 = 1 ↔ I1 433 x.toInt.toNat = 1) := fun ok => by
    have hx : x.toInt.toNat = 0 ∨ x.toInt.toNat = 1 := by omega
    rw [c3]
    rcases hx with e | e
    · rw [e, i_eq hz.1]
    · rw [e, show 210 + 97 * 1 = 307 from rfl, i_eq hz.2]
  rcases c with ⟨ok, rfl, f0, fr⟩ | ⟨no, rfl, rfl⟩
  · rcases m with ⟨-, rfl, g1⟩ | ⟨no, -⟩
    · refine ⟨⟨?_, kp_fr (fun a ha => ?_) h.2⟩, rfl⟩
      · have q : I 433 x.toInt.toNat ≠ 0 := by
          have q := (hz2 ok.1).mp ok.2
          rw [c3] at q
          rw [q]; decide
        refine srel_cp (S := 210 + 97 * x.toInt.toNat) (R := kpR I x.toInt.toNat) (fun i j hij => ?_) (fun j hj => ?_) (kp_iff.mp h.2 _ (by obtain ⟨⟨q1, q2⟩, -⟩ := ok; omega) q)
        · have hi : i ≤ 96 := by
            unfold rlv at hij
            rcases hij with ⟨h, -⟩ | ⟨-, h, -⟩ | ⟨-, h, -⟩ | ⟨h, -⟩ | ⟨-, h, -⟩ | ⟨h, -⟩ | ⟨h, -⟩ | ⟨-, h, -⟩ | ⟨s, hs, ⟨h, -⟩ | ⟨-, h, -⟩⟩ <;> omega
          rw [f _ (by omega) (by omega)]; exact fr i j hij
        · show I2 406 j = I 432 (1427 * x.toInt.toNat + j)
          rw [g1 j hj, c2]
      · rcases ha with ⟨q1, q2⟩ | rfl | rfl
        · rw [f a (by omega) q2]; exact f0 a (by omega)
        · rw [f2]; exact c2
        · rw [f3]; exact c3
    · exact absurd ⟨ok.1, (hz2 ok.1).mp ok.2⟩ no
  · rcases m with ⟨ok, -⟩ | ⟨-, rfl, g1⟩
    · exact absurd ⟨ok.1, (hz2 ok.1).mpr ok.2⟩ no
    · exact ⟨rel_fr (fun a q1 q2 => f a q1 (by omega)) g1 (fun a ha => by
        rcases ha with ⟨q1, q2⟩ | rfl | rfl
        · exact f a (by omega) q2
        · exact f2
        · exact f3) h, rfl⟩
/-! night -/
abbrev okN (b : fB) (N : Nat) (x : Int32) : Prop := (0 ≤ x.toInt ∧ x.toInt ≤ 5) ∧ (ngF b N 400 25 0 0 0 []).1 = 0
def PCnight (b : fB) (N : Nat) (I I' : Nat → Nat → Int32) (x w : Int32) : Prop := w.toInt = anF b N x ∧ (okN b N x → (∀ a, a ≠ 1 → (a < 123 ∨ 130 < a) → a ≠ 58 + 7 * x.toInt.toNat → (a < 60 + 7 * x.toInt.toNat ∨ 64 + 7 * x.toInt.toNat < a) → I' a = I a) ∧ (I' (58 + 7 * x.toInt.toNat) 0).toInt = 1 ∧ ∀ w, w < 5 → ∀ t, t < 144 → I' (60 + 7 * x.toInt.toNat + w) t = ndF (uaF (ngF b N 400 25 0 0 0 []).2.2.2) w t) ∧ (¬ okN b N x → ∀ a, 3 ≤ a → a ≤ 99 → I' a = I a)
def PMnight (b : fB) (N : Nat) (R : Nat → Int32) (I' : Nat → Nat → Int32) (x w : Int32) : Prop := w.toInt = anF b N x ∧ (okN b N x → (∀ j, j < 221 + 97 * x.toInt.toNat ∨ 221 + 97 * x.toInt.toNat + 97 ≤ j → I' 406 j = R j) ∧ mdS (nX (I' 406) x) (ngF b N 400 25 0 0 0 []).2.2.2 ∧ (nX (I' 406) x 0).toInt = (ngF b N 400 25 0 0 0 []).2.2.2.length ∧ (ngF b N 400 25 0 0 0 []).2.2.2.length ≤ 24) ∧ (¬ okN b N x → I' 406 = R)
theorem md_cp {I : Nat → Nat → Int32} {S : Nat → Int32} : ∀ (L : List fL), (∀ j, j ≤ 4 * L.length → S j = I 408 j) → mdF I L → mdS S L
  | [], _, _ => trivial
  | l :: r, h, g => by
    have hl : (l :: r).length = r.length + 1 := rfl
    obtain ⟨g1, g2, g3, g4, g5⟩ := g
    exact ⟨(h _ (by omega)).trans g1, (h _ (by omega)).trans g2, (h _ (by omega)).trans g3, (h _ (by omega)).trans g4, md_cp r (fun j hj => h j (by omega)) g5⟩
theorem cr_X11_night {μ : dw_S} {K : dw_K} {a1 : Int32} (hI : INV μ) (hK : ∀ (r : Option Value) (w : Int32) (μ' : dw_S), ck_X11_night a1 μ r w μ' → PCnight (tbC μ.2.2.1) (μ.2.2.1 1 1).toInt.toNat μ.2.2.1 μ'.2.2.1 a1 w → K r μ') : t_X11_night [.ref 0, .int a1] μ K := by
  refine cj_X11_night _ μ (fun r μ' => ∃ w, ck_X11_night a1 μ r w μ') (fun r μ' => ∀ w, r = some (.int w) → PCnight (tbC μ.2.2.1) (μ.2.2.1 1 1).toInt.toNat μ.2.2.1 μ'.2.2.1 a1 w) K (fun r μ' h q => h.elim (fun w h => hK r w μ' h (q w h.2.1))) (cl_X11_night hI (fun r w μ' h => ⟨w, h⟩)) ?_
  have hb := hb_1 hI
  obtain ⟨n, sh, I, J⟩ := μ
  obtain rfl : sh = SH1 := hI.1
  have hN : (I 1 1).toInt = ((I 1 1).toInt.toNat : Nat) := n_of hb.1
  have h9 : (I 1 1).toInt.toNat ≤ 940 := by
    have e : (I 1 1).toInt ≤ 940 := hb.2
    omega
  show t_X11_night [.ref 0, .int a1] (n, SH1, I, J) (fun r μ' => ∀ w, r = some (.int w) → PCnight (tbC I) (I 1 1).toInt.toNat I μ'.2.2.1 a1 w)
  generalize (I 1 1).toInt.toNat = N at hN h9 ⊢
  have cm : (-1001 : Int32).toInt = -1001 := rfl
  have hp : (ngF (tbC I) N 400 25 0 0 0 []).2.1 ≤ 940 := Nat.le_trans (pl_ng 25 0 0 0 [] (Nat.zero_le _)) h9
  refine v_cnight hN h9 rfl (fun g I' f0 _ w e => ?_) (fun s hs g g2 I' w' f0 _ _ f1 f2 hw w e => ?_) (fun s hs g g2 I' w' f0 _ hw w e => ?_) hp
  · refine ⟨?_, fun ok => absurd ok.1 g, fun _ a q1 q2 => f0 a (by omega)⟩
    rw [ro_eq e, cm]; unfold anF; rw [if_neg g]
  · have es : a1.toInt.toNat = s := by omega
    refine ⟨?_, fun _ => ?_, fun no => absurd ⟨⟨by omega, by omega⟩, g2⟩ no⟩
    · rw [ro_eq e]; unfold anF; rw [if_pos (by omega), if_pos g2]; exact hw
    · rw [es]; exact ⟨f0, f1, f2⟩
  · refine ⟨?_, fun ok => absurd ok.2 g2, fun _ a q1 q2 => f0 a (by omega) (by omega)⟩
    rw [ro_eq e]; unfold anF; rw [if_pos (by omega), if_neg g2]; exact hw
theorem cr_X12_night {μ : dw_S} {K : dw_K} {a1 : Int32} (hI : INV μ) (hK : ∀ (r : Option Value) (w : Int32) (μ' : dw_S), ck_X12_night a1 μ r w μ' → PMnight (tbL μ.2.2.1) (μ.2.2.1 404 2).toInt.toNat (μ.2.2.1 406) μ'.2.2.1 a1 w → K r μ') : t_X12_night [.ref 404, .int a1] μ K := by
  refine cj_X12_night _ μ (fun r μ' => ∃ w, ck_X12_night a1 μ r w μ') (fun r μ' => ∀ w, r = some (.int w) → PMnight (tbL μ.2.2.1) (μ.2.2.1 404 2).toInt.toNat (μ.2.2.1 406) μ'.2.2.1 a1 w) K (fun r μ' h q => h.elim (fun w h => hK r w μ' h (q w h.2.1))) (cl_X12_night hI (fun r w μ' h => ⟨w, h⟩)) ?_
  have hb := hb_404 hI
  obtain ⟨n, sh, I, J⟩ := μ
  obtain rfl : sh = SH1 := hI.1
  have hN : (I 404 2).toInt = ((I 404 2).toInt.toNat : Nat) := n_of hb.1
  have h9 : (I 404 2).toInt.toNat ≤ 940 := by
    have e : (I 404 2).toInt ≤ 940 := hb.2
    omega
  show t_X12_night [.ref 404, .int a1] (n, SH1, I, J) (fun r μ' => ∀ w, r = some (.int w) → PMnight (tbL I) (I 404 2).toInt.toNat (I 406) μ'.2.2.1 a1 w)
  generalize (I 404 2).toInt.toNat = N at hN h9 ⊢
  have cm : (-1001 : Int32).toInt = -1001 := rfl
  refine v_mnight hN h9 rfl (fun g I' f0 _ _ w e => ?_) (fun s hs g g2 I' J' w' _ _ _ _ f1 _ f3 f4 f5 hw f6 f7 w e => ?_) (fun s hs g g2 I' J' w' f0 _ _ _ hw w e => ?_)
  · refine ⟨?_, fun ok => absurd ok.1 g, fun _ => f0 406 (by decide)⟩
    rw [ro_eq e, cm]; unfold anF; rw [if_neg g]
  · have es : a1.toInt.toNat = s := by omega
    refine ⟨?_, fun _ => ?_, fun no => absurd ⟨⟨by omega, by omega⟩, g2⟩ no⟩
    · rw [ro_eq e]; unfold anF; rw [if_pos (by omega), if_pos g2]; exact hw
    · show (∀ j, j < 221 + 97 * a1.toInt.toNat ∨ 221 + 97 * a1.toInt.toNat + 97 ≤ j → I' 406 j = I 406 j) ∧ mdS (nS (I' 406) a1.toInt.toNat) _ ∧ (nS (I' 406) a1.toInt.toNat 0).toInt = _ ∧ _
      rw [es]
      refine ⟨f1, md_cp _ (fun j hj => f5 j (by omega)) f3, ?_, by omega⟩
      have q := f5 0 (Nat.zero_le _)
      have q : nS (I' 406) s 0 = I' 408 0 := q
      rw [q, f4, hw, f6]
  · refine ⟨?_, fun ok => absurd ok.2 g2, fun _ => f0 406 (by decide) (by decide)⟩
    rw [ro_eq e]; unfold anF; rw [if_pos (by omega), if_neg g2]; exact hw
theorem rel_night {b : fB} {N : Nat} {I I1 I2 : Nat → Nat → Int32} {a1 w1 w2 : Int32} (h : REL I) (c : PCnight b N I I1 a1 w1) (m : PMnight b N (I 406) I2 a1 w2) (f : ∀ a, 3 ≤ a → a ≤ 99 → I2 a = I1 a) (k : ∀ a, (210 ≤ a ∧ a ≤ 403) ∨ a = 432 ∨ a = 433 → I2 a = I a) : REL I2 ∧ w1 = w2 := by
  obtain ⟨e1, c1, c2⟩ := c
  obtain ⟨e2, m1, m2⟩ := m
  refine ⟨⟨?_, kp_fr k h.2⟩, i_eq (e1.trans e2.symm)⟩
  by_cases ok : okN b N a1
  · obtain ⟨f0, f1, f2⟩ := c1 ok
    obtain ⟨g0, g1, g2, g3⟩ := m1 ok
    have hL := ng_ok 25 0 0 0 [] (show (0 : Int) ≤ 0 by decide) (show (0 : Int) ≤ 143 by decide) trivial ok.2
    exact srel_night (s := a1.toInt.toNat) (by omega) (fun a q1 q2 q3 q4 => (f a q1 q2).trans (f0 a (by omega) (by omega) q3 q4)) (fun j q1 _ => g0 j q1) (by rw [f _ (by omega) (by omega)]; exact f1) (fun w hw t ht => by rw [f _ (by omega) (by omega)]; exact f2 w hw t ht) hL g1 g2 g3 h.1
  · exact srel_fr (S := 3) (fun a q1 q2 => (f a q1 (by omega)).trans (c2 ok a q1 (by omega))) (fun j _ => by rw [m2 ok]) h.1
/-! flags of the state and of what is kept -/
def fl_l : List Nat := [3, 210, 307].flatMap (fun S => [S, S + 40, S + 41] ++ (List.range 6).map (fun s => S + 55 + 7 * s))
theorem fl_d : (fl_l.all (fun a => decide (dx_seg (dx_ce a).iv 0 = (0, 1))) && [0, 1].all (fun j => decide (dx_seg (dx_ce 433).iv j = (0, 1)))) = true := by decide +kernel
theorem fl_01 {μ : dw_S} (hI : INV μ) {a j : Nat} (h : dx_seg (dx_ce a).iv j = (0, 1)) : μ.2.2.1 a j = 0 ∨ μ.2.2.1 a j = 1 := by
  have q := hI.2.1 a j
  rw [h] at q
  have q : 0 ≤ (μ.2.2.1 a j).toInt ∧ (μ.2.2.1 a j).toInt ≤ 1 := q
  exact fi_z1 (by omega)
theorem fl_of {μ : dw_S} (hI : INV μ) {a : Nat} (h : a ∈ fl_l) : μ.2.2.1 a 0 = 0 ∨ μ.2.2.1 a 0 = 1 := by
  have q := fl_d
  rw [Bool.and_eq_true] at q
  exact fl_01 hI (of_decide_eq_true (List.all_eq_true.mp q.1 a h))
theorem fz_of {μ : dw_S} (hI : INV μ) {S : Nat} (hS : S = 3 ∨ S = 210 ∨ S = 307) : fz μ.2.2.1 S := by
  refine ⟨fl_of hI ?_, fl_of hI ?_, fun s hs => fl_of hI ?_⟩
  · rcases hS with rfl | rfl | rfl <;> decide
  · rcases hS with rfl | rfl | rfl <;> decide
  · have h6 : s = 0 ∨ s = 1 ∨ s = 2 ∨ s = 3 ∨ s = 4 ∨ s = 5 := by omega
    rcases hS with rfl | rfl | rfl <;> rcases h6 with rfl | rfl | rfl | rfl | rfl | rfl <;> decide
theorem cr_X11_image {μ : dw_S} {K : dw_K} {a1 : Int32} (hI : INV μ) (hK : ∀ (r : Option Value) (w : Int32) (μ' : dw_S), ck_X11_image a1 μ r w μ' → PCimage μ.2.2.1 μ'.2.2.1 a1 w → K r μ') : t_X11_image [.ref 0, .int a1] μ K := by
  refine cj_X11_image _ μ (fun r μ' => ∃ w, ck_X11_image a1 μ r w μ') (fun r μ' => ∀ w, r = some (.int w) → PCimage μ.2.2.1 μ'.2.2.1 a1 w) K (fun r μ' h q => h.elim (fun w h => hK r w μ' h (q w h.2.1))) (cl_X11_image hI (fun r w μ' h => ⟨w, h⟩)) ?_
  have hf := fz_of hI (Or.inl rfl)
  obtain ⟨n, sh, I, J⟩ := μ
  obtain rfl : sh = SH1 := hI.1
  refine v_cimage hf (fun no w e => ?_) (fun s hs hx I' f0 _ f1 w e => ?_)
  · rw [ro_eq e]; exact Or.inr ⟨no, rfl, rfl⟩
  · have es : a1.toInt.toNat = s := by omega
    rw [ro_eq e]
    refine Or.inl ⟨⟨by omega, by omega⟩, rfl, ?_, ?_⟩
    · rw [es]; exact f0
    · rw [es]; exact f1
theorem cr_X12_image {μ : dw_S} {K : dw_K} {a1 : Int32} (hI : INV μ) (hK : ∀ (r : Option Value) (w : Int32) (μ' : dw_S), ck_X12_image a1 μ r w μ' → PMimage μ.2.2.1 μ'.2.2.1 a1 w → K r μ') : t_X12_image [.ref 404, .int a1] μ K := by
  refine cj_X12_image _ μ (fun r μ' => ∃ w, ck_X12_image a1 μ r w μ') (fun r μ' => ∀ w, r = some (.int w) → PMimage μ.2.2.1 μ'.2.2.1 a1 w) K (fun r μ' h q => h.elim (fun w h => hK r w μ' h (q w h.2.1))) (cl_X12_image hI (fun r w μ' h => ⟨w, h⟩)) ?_
  obtain ⟨n, sh, I, J⟩ := μ
  obtain rfl : sh = SH1 := hI.1
  refine v_mimage (fun no I' f0 w e => ?_) (fun s hs hx I' f0 f1 f2 _ f3 w e => ?_)
  · rw [ro_eq e]; exact Or.inr ⟨no, rfl, f0 432 (by decide), f0 433 (by decide)⟩
  · have es : a1.toInt.toNat = s := by omega
    rw [ro_eq e]
    refine Or.inl ⟨⟨by omega, by omega⟩, rfl, ?_, ?_, ?_⟩
    · rw [es]; exact f1
    · rw [es]; exact f2
    · rw [es]; exact f3
theorem cr_X11_restore {μ : dw_S} {K : dw_K} {a1 : Int32} (hI : INV μ) (hK : ∀ (r : Option Value) (w : Int32) (μ' : dw_S), ck_X11_restore a1 μ r w μ' → PCrest μ.2.2.1 μ'.2.2.1 a1 w → K r μ') : t_X11_restore [.ref 0, .int a1] μ K := by
  refine cj_X11_restore _ μ (fun r μ' => ∃ w, ck_X11_restore a1 μ r w μ') (fun r μ' => ∀ w, r = some (.int w) → PCrest μ.2.2.1 μ'.2.2.1 a1 w) K (fun r μ' h q => h.elim (fun w h => hK r w μ' h (q w h.2.1))) (cl_X11_restore hI (fun r w μ' h => ⟨w, h⟩)) ?_
  have hf : ∀ s, s < 2 → fz μ.2.2.1 (210 + 97 * s) := fun s hs => fz_of hI (by omega)
  have hb : ∀ s, s < 2 → μ.2.2.1 (210 + 97 * s) 0 = 0 ∨ μ.2.2.1 (210 + 97 * s) 0 = 1 := fun s hs => by
    have h2 : s = 0 ∨ s = 1 := by omega
    rcases h2 with rfl | rfl
    · exact fl_of hI (by decide)
    · exact fl_of hI (by decide)
  obtain ⟨n, sh, I, J⟩ := μ
  obtain rfl : sh = SH1 := hI.1
  refine v_crestore hf hb (fun no w e => ?_) (fun s hs hx g I' f0 f1 w e => ?_)
  · rw [ro_eq e]
    refine Or.inr ⟨fun q => ?_, rfl, rfl⟩
    have z := no a1.toInt.toNat (by obtain ⟨⟨q1, q2⟩, -⟩ := q; omega) (by obtain ⟨⟨q1, q2⟩, -⟩ := q; omega)
    have q2 : I (210 + 97 * a1.toInt.toNat) 0 = 1 := q.2
    rw [z] at q2
    exact absurd q2 (by decide)
  · have es : a1.toInt.toNat = s := by omega
    rw [ro_eq e]
    refine Or.inl ⟨⟨⟨by omega, by omega⟩, ?_⟩, rfl, f0, ?_⟩
    · rw [es]; exact g
    · rw [es]; exact f1
theorem cr_X12_restore {μ : dw_S} {K : dw_K} {a1 : Int32} (hI : INV μ) (hK : ∀ (r : Option Value) (w : Int32) (μ' : dw_S), ck_X12_restore a1 μ r w μ' → PMrest μ.2.2.1 μ'.2.2.1 a1 w → K r μ') : t_X12_restore [.ref 404, .int a1] μ K := by
  refine cj_X12_restore _ μ (fun r μ' => ∃ w, ck_X12_restore a1 μ r w μ') (fun r μ' => ∀ w, r = some (.int w) → PMrest μ.2.2.1 μ'.2.2.1 a1 w) K (fun r μ' h q => h.elim (fun w h => hK r w μ' h (q w h.2.1))) (cl_X12_restore hI (fun r w μ' h => ⟨w, h⟩)) ?_
  have hb : ∀ s, s < 2 → μ.2.2.1 433 s = 0 ∨ μ.2.2.1 433 s = 1 := fun s hs => by
    have q := fl_d
    rw [Bool.and_eq_true] at q
    have h2 : s = 0 ∨ s = 1 := by omega
    exact fl_01 hI (of_decide_eq_true (List.all_eq_true.mp q.2 s (by rcases h2 with rfl | rfl <;> decide)))
  obtain ⟨n, sh, I, J⟩ := μ
  obtain rfl : sh = SH1 := hI.1
  refine v_mrestore hb (fun no I' f0 w e => ?_) (fun s hs hx g I' f0 f1 w e => ?_)
  · rw [ro_eq e]
    refine Or.inr ⟨fun q => ?_, rfl, f0 406 (by decide)⟩
    have z := no a1.toInt.toNat (by obtain ⟨⟨q1, q2⟩, -⟩ := q; omega) (by obtain ⟨⟨q1, q2⟩, -⟩ := q; omega)
    have q2 : I 433 a1.toInt.toNat = 1 := q.2
    rw [z] at q2
    exact absurd q2 (by decide)
  · have es : a1.toInt.toNat = s := by omega
    rw [ro_eq e]
    refine Or.inl ⟨⟨⟨by omega, by omega⟩, ?_⟩, rfl, ?_⟩
    · rw [es]; exact g
    · rw [es]; exact f1
end
section
/-! ===== the states alike: plan, ground, go ===== -/
abbrev pgG (b : fB) (N : Nat) (R : Nat → Int32) : Nat × Nat × Nat × List pL := pgF b N 300 (Cn R) (Rn R) 31 0 0 []
noncomputable def apF (b : fB) (N : Nat) (R : Nat → Int32) : Int := if (pgG b N R).1 = 0 then ((pgG b N R).2.2.1 : Int) else -1 - ((pgG b N R).2.1 : Int)
def PCplan (b : fB) (N : Nat) (R : Nat → Int32) (I I' : Nat → Nat → Int32) (w : Int32) : Prop := w.toInt = apF b N R ∧ ((pgG b N R).1 = 0 → (∀ a, a ≠ 1 → (a < 132 ∨ 163 < a) → a ≠ 11 → (a < 13 ∨ 42 < a) → I' a = I a) ∧ I' 11 0 = w ∧ (∀ i, i < (pgG b N R).2.2.2.length → (I' (13 + i) 0).toInt = (atF p0 (pgG b N R).2.2.2 i).1 ∧ I' (13 + i) 1 = (atF p0 (pgG b N R).2.2.2 i).2.1 ∧ ((atF p0 (pgG b N R).2.2.2 i).1 ≠ 0 → I' (13 + i) 2 = (atF p0 (pgG b N R).2.2.2 i).2.2)) ∧ w.toInt = (pgG b N R).2.2.2.length ∧ (pgG b N R).2.2.2.length ≤ 30) ∧ ((pgG b N R).1 ≠ 0 → ∀ a, 3 ≤ a → a ≤ 99 → I' a = I a)
def PMplan (b : fB) (N : Nat) (R : Nat → Int32) (I' : Nat → Nat → Int32) (w : Int32) : Prop := w.toInt = apF b N R ∧ ((pgG b N R).1 = 0 → (∀ j, j < 803 ∨ 894 ≤ j → I' 406 j = R j) ∧ I' 406 803 = w ∧ mpF (fun j => I' 406 (803 + j)) (R 0) (pgG b N R).2.2.2) ∧ ((pgG b N R).1 ≠ 0 → I' 406 = R)
theorem gok_cr {R : Nat → Int32} (h : GOK R) : ((R 0).toInt = (Cn R : Nat) ∧ (R 1).toInt = (Rn R : Nat)) ∧ Cn R ≤ 144 ∧ Rn R ≤ 144 := by
  obtain ⟨⟨h1, h2, -, h4, h5, -⟩, -⟩ := h
  refine ⟨⟨h1, h2⟩, ?_, ?_⟩ <;> omega
theorem cr_X11_plan {μ : dw_S} {K : dw_K} {R : Nat → Int32} (hI : INV μ) (hR : SREL μ.2.2.1 3 R) (hK : ∀ (r : Option Value) (w : Int32) (μ' : dw_S), ck_X11_plan μ r w μ' → PCplan (tbC μ.2.2.1) (μ.2.2.1 1 1).toInt.toNat R μ.2.2.1 μ'.2.2.1 w → K r μ') : t_X11_plan [.ref 0] μ K := by
  refine cj_X11_plan _ μ (fun r μ' => ∃ w, ck_X11_plan μ r w μ') (fun r μ' => ∀ w, r = some (.int w) → PCplan (tbC μ.2.2.1) (μ.2.2.1 1 1).toInt.toNat R μ.2.2.1 μ'.2.2.1 w) K (fun r μ' h q => h.elim (fun w h => hK r w μ' h (q w h.2.1))) (cl_X11_plan hI (fun r w μ' h => ⟨w, h⟩)) ?_
  have hb := hb_1 hI
  obtain ⟨n, sh, I, J⟩ := μ
  obtain rfl : sh = SH1 := hI.1
  have hN : (I 1 1).toInt = ((I 1 1).toInt.toNat : Nat) := n_of hb.1
  have h9 : (I 1 1).toInt.toNat ≤ 940 := by
    have e : (I 1 1).toInt ≤ 940 := hb.2
    omega
  have hR : SREL I 3 R := hR
  obtain ⟨⟨c0, c1⟩, c2, c3⟩ := gok_cr hR.1
  have d0 : (I 4 0).toInt = (Cn R : Nat) := by rw [(rg_3 hR).1 0 (by decide)]; exact c0
  have d1 : (I 4 1).toInt = (Rn R : Nat) := by rw [(rg_3 hR).1 1 (by decide)]; exact c1
  show t_X11_plan [.ref 0] (n, SH1, I, J) (fun r μ' => ∀ w, r = some (.int w) → PCplan (tbC I) (I 1 1).toInt.toNat R I μ'.2.2.1 w)
  generalize (I 1 1).toInt.toNat = N at hN h9 ⊢
  have hp : (pgG (tbC I) N R).2.1 ≤ 940 := Nat.le_trans (pp_pg 31 0 0 [] (Nat.zero_le _)) h9
  refine v_cplan hN h9 d0 (by omega) (by omega) d1 (by omega) (by omega) rfl hp (fun g I' w' f0 _ f1 f2 hw f3 f4 w e => ?_) (fun g I' w' f0 _ hw w e => ?_)
  · refine ⟨?_, fun _ => ⟨f0, ?_, f2, ?_, ?_⟩, fun no => absurd g no⟩
    · rw [ro_eq e]; unfold apF; rw [if_pos g]; exact hw
    · rw [ro_eq e]; exact f1
    · rw [ro_eq e, hw, f3]
    · rw [← f3]; omega
  · refine ⟨?_, fun ok => absurd ok g, fun _ a q1 q2 => f0 a (by omega) (by omega)⟩
    rw [ro_eq e]; unfold apF; rw [if_neg g]; exact hw
theorem cr_X12_plan {μ : dw_S} {K : dw_K} (hI : INV μ) (hG : GOK (μ.2.2.1 406)) (hK : ∀ (r : Option Value) (w : Int32) (μ' : dw_S), ck_X12_plan μ r w μ' → PMplan (tbL μ.2.2.1) (μ.2.2.1 404 2).toInt.toNat (μ.2.2.1 406) μ'.2.2.1 w → K r μ') : t_X12_plan [.ref 404] μ K := by
  refine cj_X12_plan _ μ (fun r μ' => ∃ w, ck_X12_plan μ r w μ') (fun r μ' => ∀ w, r = some (.int w) → PMplan (tbL μ.2.2.1) (μ.2.2.1 404 2).toInt.toNat (μ.2.2.1 406) μ'.2.2.1 w) K (fun r μ' h q => h.elim (fun w h => hK r w μ' h (q w h.2.1))) (cl_X12_plan hI (fun r w μ' h => ⟨w, h⟩)) ?_
  have hb := hb_404 hI
  obtain ⟨n, sh, I, J⟩ := μ
  obtain rfl : sh = SH1 := hI.1
  have hN : (I 404 2).toInt = ((I 404 2).toInt.toNat : Nat) := n_of hb.1
  have h9 : (I 404 2).toInt.toNat ≤ 940 := by
    have e : (I 404 2).toInt ≤ 940 := hb.2
    omega
  have hG : GOK (I 406) := hG
  obtain ⟨⟨c0, c1⟩, c2, c3⟩ := gok_cr hG
  show t_X12_plan [.ref 404] (n, SH1, I, J) (fun r μ' => ∀ w, r = some (.int w) → PMplan (tbL I) (I 404 2).toInt.toNat (I 406) μ'.2.2.1 w)
  generalize (I 404 2).toInt.toNat = N at hN h9 ⊢
  refine v_mplan hN h9 c0 (by omega) (by omega) c1 (by omega) (by omega) rfl (fun g I' J' w' _ _ _ _ f1 f2 f3 hw _ _ w e => ?_) (fun g I' J' w' f0 _ _ _ hw w e => ?_)
  · refine ⟨?_, fun _ => ⟨f1, ?_, f3⟩, fun no => absurd g no⟩
    · rw [ro_eq e]; unfold apF; rw [if_pos g]; exact hw
    · rw [ro_eq e]; exact f2
  · refine ⟨?_, fun ok => absurd ok g, fun _ => f0 406 (by decide) (by decide)⟩
    rw [ro_eq e]; unfold apF; rw [if_neg g]; exact hw
theorem rel_plan {b : fB} {N : Nat} {I I1 I2 : Nat → Nat → Int32} {w1 w2 : Int32} (h : REL I) (c : PCplan b N (I 406) I I1 w1) (m : PMplan b N (I 406) I2 w2) (f : ∀ a, 3 ≤ a → a ≤ 99 → I2 a = I1 a) (k : ∀ a, (210 ≤ a ∧ a ≤ 403) ∨ a = 432 ∨ a = 433 → I2 a = I a) : REL I2 ∧ w1 = w2 := by
  obtain ⟨e1, c1, c2⟩ := c
  obtain ⟨e2, m1, m2⟩ := m
  have ew : w1 = w2 := i_eq (e1.trans e2.symm)
  refine ⟨⟨?_, kp_fr k h.2⟩, ew⟩
  by_cases ok : (pgG b N (I 406)).1 = 0
  · obtain ⟨f0, f1, f2, f3, f4⟩ := c1 ok
    obtain ⟨g0, g1, g2⟩ := m1 ok
    exact srel_plan (w := w1) h.1 (fun a q1 q2 q3 q4 => (f a q1 q2).trans (f0 a (by omega) (by omega) q3 q4)) g0 (pg_b 31 0 0 [] (fun l hl => absurd hl List.not_mem_nil) ok) f4 f3 (by rw [f 11 (by decide) (by decide)]; exact f1) (fun i hi => by
      have hi : i < (pgG b N (I 406)).2.2.2.length := hi
      rw [f (13 + i) (by omega) (by omega)]; exact f2 i hi) (by rw [ew]; exact g1) g2
  · exact srel_fr (S := 3) (fun a q1 q2 => (f a q1 (by omega)).trans (c2 ok a q1 (by omega))) (fun j _ => by rw [m2 ok]) h.1
/-! ground -/
noncomputable abbrev ggG (b : fB) (N : Nat) : Nat × Nat × Nat × gS := ggF b N 900 941 0 0 g0
def PCgnd (b : fB) (N : Nat) (I I' : Nat → Nat → Int32) (w : Int32) : Prop := w.toInt = agF b N ∧ ((ggG b N).1 = 0 → GCp I' b (ggG b N).2.2.2 ∧ gOK N (ggG b N).2.2.2 ∧ I' 11 0 = 0 ∧ I' 43 0 = 0 ∧ ∀ s, s < 6 → I' (58 + 7 * s) 0 = 0) ∧ ((ggG b N).1 ≠ 0 → ∀ a, 3 ≤ a → a ≤ 99 → I' a = I a)
def PMgnd (b : fB) (N : Nat) (R : Nat → Int32) (I' : Nat → Nat → Int32) (w : Int32) : Prop := w.toInt = agF b N ∧ ((ggG b N).1 = 0 → hGk b (ggG b N).2.2.2 (I' 406) ∧ (∀ j, 221 ≤ j → j < 1427 → (∀ k, k < 6 → j ≠ 221 + 97 * k) → I' 406 j = 0) ∧ ∀ k, k < 6 → I' 406 (221 + 97 * k) = -1) ∧ ((ggG b N).1 ≠ 0 → I' 406 = R)
theorem cr_X11_ground {μ : dw_S} {K : dw_K} (hI : INV μ) (hK : ∀ (r : Option Value) (w : Int32) (μ' : dw_S), ck_X11_ground μ r w μ' → PCgnd (tbC μ.2.2.1) (μ.2.2.1 1 1).toInt.toNat μ.2.2.1 μ'.2.2.1 w → K r μ') : t_X11_ground [.ref 0] μ K := by
  refine cj_X11_ground _ μ (fun r μ' => ∃ w, ck_X11_ground μ r w μ') (fun r μ' => ∀ w, r = some (.int w) → PCgnd (tbC μ.2.2.1) (μ.2.2.1 1 1).toInt.toNat μ.2.2.1 μ'.2.2.1 w) K (fun r μ' h q => h.elim (fun w h => hK r w μ' h (q w h.2.1))) (cl_X11_ground hI (fun r w μ' h => ⟨w, h⟩)) ?_
  have hb := hb_1 hI
  obtain ⟨n, sh, I, J⟩ := μ
  obtain rfl : sh = SH1 := hI.1
  have hN : (I 1 1).toInt = ((I 1 1).toInt.toNat : Nat) := n_of hb.1
  have h9 : (I 1 1).toInt.toNat ≤ 940 := by
    have e : (I 1 1).toInt ≤ 940 := hb.2
    omega
  show t_X11_ground [.ref 0] (n, SH1, I, J) (fun r μ' => ∀ w, r = some (.int w) → PCgnd (tbC I) (I 1 1).toInt.toNat I μ'.2.2.1 w)
  generalize (I 1 1).toInt.toNat = N at hN h9 ⊢
  have hp : (ggF (tbC I) N 900 941 0 0 g0).2.1 ≤ 940 := Nat.le_trans (pl_gg 941 0 0 g0 (Nat.zero_le _)) h9
  refine v_cground hN h9 rfl hp (fun g I' w' _ _ f1 f2 f3 _ f4 _ f5 hw w e => ?_) (fun g I' w' f0 _ hw w e => ?_)
  · refine ⟨?_, fun _ => ⟨f1, f2, f3, f4, fun s hs => (f5 s hs).1⟩, fun no => absurd g no⟩
    rw [ro_eq e]; unfold agF; rw [if_pos g]; exact hw
  · refine ⟨?_, fun ok => absurd ok g, fun _ a q1 q2 => f0 a (by omega) (by omega)⟩
    rw [ro_eq e]; unfold agF; rw [if_neg g]; exact hw
theorem hGk_of {b : fB} {I0 I : Nat → Nat → Int32} {J0 J : Nat → Nat → Int64} {s : gS} {N : Nat} {R : Nat → Int32} (h : GMp I0 J0 I J s) (hb : tbM I0 = b) (hO : gOK N s) (hR : ∀ j, j < 221 → R j = I 407 j) : hGk b s R := by
  obtain ⟨-, ⟨h0, h1, h2, h3, h4⟩, -, hk, -, hr, hs⟩ := h
  obtain ⟨o1, o2, o3, o4, -⟩ := hO
  have at' : ∀ j, j < 221 → R j = I 407 j := hR
  refine ⟨⟨?_, ?_, ?_, ?_, ?_⟩, fun i hi => ?_, fun y hy x hx => ?_, fun i hi => ?_⟩
  · rw [at' 0 (by decide)]; exact h0
  · rw [at' 1 (by decide)]; exact h1
  · rw [at' 2 (by decide)]; exact h2
  · rw [at' 3 (by decide)]; exact h3
  · rw [at' 4 (by decide)]; exact h4
  · rw [at' (5 + i) (by omega), at' (13 + i) (by omega), at' (21 + i) (by omega)]; exact hk i hi
  · have q1 : y * s.2.1 ≤ 11 * s.2.1 := Nat.mul_le_mul_right _ (by omega)
    have q2 : 11 * s.2.1 + x < 144 := by omega
    rw [at' (29 + (y * s.2.1 + x)) (by omega), ← hb]; exact hr y hy x hx
  · rw [at' (173 + 4 * i) (by omega), at' (173 + 4 * i + 1) (by omega), at' (173 + 4 * i + 2) (by omega), at' (173 + 4 * i + 3) (by omega)]; exact hs i hi
theorem cr_X12_ground {μ : dw_S} {K : dw_K} (hI : INV μ) (hJ : mRes μ.2.2.2) (hK : ∀ (r : Option Value) (w : Int32) (μ' : dw_S), ck_X12_ground μ r w μ' → PMgnd (tbL μ.2.2.1) (μ.2.2.1 404 2).toInt.toNat (μ.2.2.1 406) μ'.2.2.1 w → K r μ') : t_X12_ground [.ref 404] μ K := by
  refine cj_X12_ground _ μ (fun r μ' => ∃ w, ck_X12_ground μ r w μ') (fun r μ' => ∀ w, r = some (.int w) → PMgnd (tbL μ.2.2.1) (μ.2.2.1 404 2).toInt.toNat (μ.2.2.1 406) μ'.2.2.1 w) K (fun r μ' h q => h.elim (fun w h => hK r w μ' h (q w h.2.1))) (cl_X12_ground hI (fun r w μ' h => ⟨w, h⟩)) ?_
  have hb := hb_404 hI
  obtain ⟨n, sh, I, J⟩ := μ
  obtain rfl : sh = SH1 := hI.1
  have hN : (I 404 2).toInt = ((I 404 2).toInt.toNat : Nat) := n_of hb.1
  have h9 : (I 404 2).toInt.toNat ≤ 940 := by
    have e : (I 404 2).toInt ≤ 940 := hb.2
    omega
  show t_X12_ground [.ref 404] (n, SH1, I, J) (fun r μ' => ∀ w, r = some (.int w) → PMgnd (tbL I) (I 404 2).toInt.toNat (I 406) μ'.2.2.1 w)
  generalize (I 404 2).toInt.toNat = N at hN h9 ⊢
  refine v_mground hJ hN h9 rfl (fun g I3 I' J' w' hM ht hO hT _ _ _ _ hw w e => ?_) (fun g I' J' w' f0 _ _ _ hw w e => ?_)
  · refine ⟨?_, fun _ => ⟨hGk_of hM ht hO (fun j hj => hT.2.1 j hj), hT.2.2.1, hT.2.2.2⟩, fun no => absurd g no⟩
    rw [ro_eq e]; unfold agF; rw [if_pos g]; exact hw
  · refine ⟨?_, fun ok => absurd ok g, fun _ => f0 406 (by decide) (by decide)⟩
    rw [ro_eq e]; unfold agF; rw [if_neg g]; exact hw
theorem gcp_eq {I I' : Nat → Nat → Int32} {b : fB} {s : gS} (h : ∀ a, 4 ≤ a → a ≤ 9 → I' a = I a) (g : GCp I b s) : GCp I' b s := by
  obtain ⟨g1, g2, g3⟩ := g
  refine ⟨by rw [h 4 (by decide) (by decide)]; exact g1, fun i hi => ?_, fun y hy x hx => ?_⟩
  · rw [h 5 (by decide) (by decide), h 6 (by decide) (by decide), h 7 (by decide) (by decide)]; exact g2 i hi
  · rw [h 8 (by decide) (by decide), h 9 (by decide) (by decide)]; exact g3 y hy x hx
theorem rel_gnd {b : fB} {N : Nat} {I I1 I2 : Nat → Nat → Int32} {w1 w2 : Int32} (h : REL I) (c : PCgnd b N I I1 w1) (m : PMgnd b N (I 406) I2 w2) (f : ∀ a, 3 ≤ a → a ≤ 99 → I2 a = I1 a) (k : ∀ a, (210 ≤ a ∧ a ≤ 403) ∨ a = 432 ∨ a = 433 → I2 a = I a) : REL I2 ∧ w1 = w2 := by
  obtain ⟨e1, c1, c2⟩ := c
  obtain ⟨e2, m1, m2⟩ := m
  refine ⟨⟨?_, kp_fr k h.2⟩, i_eq (e1.trans e2.symm)⟩
  by_cases ok : (ggG b N).1 = 0
  · obtain ⟨f1, f2, f3, f4, f5⟩ := c1 ok
    obtain ⟨g1, g2, g3⟩ := m1 ok
    exact srel_ground g1 f2 (gg_g 941 0 0 g0 (Nat.zero_le _) gBd_0 ok) (gcp_eq (fun a q1 q2 => f a (by omega) (by omega)) f1) (fun q hq => by rw [f (58 + 7 * q) (by omega) (by omega)]; exact f5 q hq) (by rw [f 11 (by decide) (by decide)]; exact f3) (by rw [f 43 (by decide) (by decide)]; exact f4) g2 g3
  · exact srel_fr (S := 3) (fun a q1 q2 => (f a q1 (by omega)).trans (c2 ok a q1 (by omega))) (fun j _ => by rw [m2 ok]) h.1
/-! go -/
abbrev goR (R : Nat → Int32) : Nat × Nat × Int32 × gL := goF R (R 803).toInt.toNat 0 (cvR R, rrS R, dR R)
abbrev okG (R : Nat → Int32) (a1 : Int32) : Prop := R 894 ≠ 0 ∧ 0 ≤ a1.toInt ∧ a1.toInt ≤ 1
def agA (R : Nat → Int32) : Int := if (goR R).1 = 0 then -1 else ((goR R).2.1 : Int)
def outE (O : Nat → Int32) (R : Nat → Int32) : Prop := (O 0).toInt = (goR R).1 ∧ (O 1).toInt = ((goR R).2.2.2.2.2 : Int) - dR R ∧ O 2 = (goR R).2.2.1 ∧ (O 3).toInt = wcF (goR R).2.2.2.2.1.2.1 1 (Nn R) ∧ O 4 = suF (goR R).2.2.2.1 (Nn R)
def PCgo (R : Nat → Int32) (I I' : Nat → Nat → Int32) (a1 w : Int32) : Prop := (okG R a1 ∧ w.toInt = agA R ∧ outE (I' 208) R ∧ I' 0 13 = 1 ∧ (a1.toInt = 0 → ∀ a, 3 ≤ a → a ≤ 99 → I' a = I a) ∧ (a1.toInt = 1 → (∀ a, 3 ≤ a → a ≤ 99 → a ≠ 43 → (a < 54 ∨ 57 < a) → I' a = I a) ∧ (∀ j, j ≠ 2 → j ≠ 3 → j ≠ 4 → I' 43 j = I 43 j) ∧ GC I' 43 R (goR R).2.2.2.1 (goR R).2.2.2.2.1 (goR R).2.2.2.2.2 ∧ GP R (goR R).2.2.2.1 (goR R).2.2.2.2.1 (goR R).2.2.2.2.2)) ∨ (¬ okG R a1 ∧ w = -2 ∧ I' = I)
def PMgo (R : Nat → Int32) (I' : Nat → Nat → Int32) (a1 w : Int32) : Prop := (okG R a1 ∧ w.toInt = agA R ∧ outE (I' 421) R ∧ I' 404 41 = 1 ∧ (a1.toInt = 0 → I' 406 = R) ∧ (a1.toInt = 1 → mOn R (I' 406) (goR R).2.2.2.1 (goR R).2.2.2.2.1 (goR R).2.2.2.2.2)) ∨ (¬ okG R a1 ∧ w = -2 ∧ I' 406 = R)
theorem no01 {R : Nat → Int32} {a1 : Int32} (h : R 894 = 0 ∨ ¬ (0 ≤ a1.toInt ∧ a1.toInt ≤ 1)) : ¬ okG R a1 := fun q => h.elim (fun e => q.1 e) (fun e => e q.2)
theorem cr_X11_go {μ : dw_S} {K : dw_K} {a1 : Int32} (hI : INV μ) (hR : REL μ.2.2.1) (hK : ∀ (r : Option Value) (w : Int32) (μ' : dw_S), ck_X11_go a1 μ r w μ' → PCgo (μ.2.2.1 406) μ.2.2.1 μ'.2.2.1 a1 w → K r μ') : t_X11_go [.ref 0, .int a1] μ K := by
  refine cj_X11_go _ μ (fun r μ' => ∃ w, ck_X11_go a1 μ r w μ') (fun r μ' => ∀ w, r = some (.int w) → PCgo (μ.2.2.1 406) μ.2.2.1 μ'.2.2.1 a1 w) K (fun r μ' h q => h.elim (fun w h => hK r w μ' h (q w h.2.1))) (cl_X11_go hI (fun r w μ' h => ⟨w, h⟩)) ?_
  have hz : (μ.2.2.1 44 0) = 0 ∨ (μ.2.2.1 44 0) = 1 := by
    have h := hI.2.1 44 0
    rw [show dx_seg (dx_ce 44).iv 0 = (0, 1) from by decide +kernel] at h
    have h : 0 ≤ (μ.2.2.1 44 0).toInt ∧ (μ.2.2.1 44 0).toInt ≤ 1 := h
    exact fi_z1 (by omega)
  obtain ⟨n, sh, I, J⟩ := μ
  obtain rfl : sh = SH1 := hI.1
  have hS : SREL I 3 (I 406) := hR.1
  refine v_cgo hS hz (fun no w e => ?_) (fun h8 ok I' wr r er ew o0 o1 o2 o3 o4 f3 _ g0 g1 gP w e => ?_)
  · rw [ro_eq e]; exact Or.inr ⟨no01 no, rfl, rfl⟩
  · rw [ro_eq e]
    subst er
    refine Or.inl ⟨⟨h8, ok⟩, ew, ⟨o0, o1, o2, o3, o4⟩, f3, fun q a q1 q2 => g0 q a (by omega) (by omega) (by omega), fun q => ?_⟩
    obtain ⟨g2, g3, g4⟩ := g1 q
    exact ⟨fun a q1 q2 q3 q4 => g2 a (by omega) q3 q4 (by omega), g3, g4, gP⟩
theorem cr_X12_go {μ : dw_S} {K : dw_K} {a1 : Int32} {R : Nat → Int32} (hI : INV μ) (e6 : μ.2.2.1 406 = R) (hG : GOK R) (hgo : R 894 ≠ 0 → GP R (cvR R) (rrS R) (dR R) ∧ NOK (rnS R) ∧ (R 895).toInt = (dR R : Nat)) (hB : ∀ i : Nat, (i : Int) < (R 803).toInt → PB R i) (hp : 0 ≤ (R 803).toInt ∧ (R 803).toInt ≤ 30) (hK : ∀ (r : Option Value) (w : Int32) (μ' : dw_S), ck_X12_go a1 μ r w μ' → PMgo R μ'.2.2.1 a1 w → K r μ') : t_X12_go [.ref 404, .int a1] μ K := by
  refine cj_X12_go _ μ (fun r μ' => ∃ w, ck_X12_go a1 μ r w μ') (fun r μ' => ∀ w, r = some (.int w) → PMgo R μ'.2.2.1 a1 w) K (fun r μ' h q => h.elim (fun w h => hK r w μ' h (q w h.2.1))) (cl_X12_go hI (fun r w μ' h => ⟨w, h⟩)) ?_
  obtain ⟨n, sh, I, J⟩ := μ
  obtain rfl : sh = SH1 := hI.1
  refine v_mgo e6 hG hgo hB hp (fun no I' f1 _ _ w e => ?_) (fun h8 ok I' wr r er ew o0 o1 o2 o3 o4 f4 _ _ _ g0 g1 w e => ?_)
  · rw [ro_eq e]; exact Or.inr ⟨no01 no, rfl, (f1 406 (by decide)).trans e6⟩
  · rw [ro_eq e]
    subst er
    exact Or.inl ⟨⟨h8, ok⟩, ew, ⟨o0, o1, o2, o3, o4⟩, f4, g0, g1⟩
theorem rel_go {I I1 I2 : Nat → Nat → Int32} {a1 w1 w2 : Int32} (h : REL I) (c : PCgo (I 406) I I1 a1 w1) (m : PMgo (I 406) I2 a1 w2) (f : ∀ a, 3 ≤ a → a ≤ 99 → I2 a = I1 a) (k : ∀ a, (210 ≤ a ∧ a ≤ 403) ∨ a = 432 ∨ a = 433 → I2 a = I a) : REL I2 ∧ w1 = w2 := by
  rcases c with ⟨ok, e1, -, -, c0, c1⟩ | ⟨no, rfl, rfl⟩
  · rcases m with ⟨-, e2, -, -, m0, m1⟩ | ⟨no, -⟩
    · refine ⟨⟨?_, kp_fr k h.2⟩, i_eq (e1.trans e2.symm)⟩
      have hx : a1.toInt = 0 ∨ a1.toInt = 1 := by obtain ⟨-, q1, q2⟩ := ok; omega
      rcases hx with q | q
      · exact srel_fr (S := 3) (fun a q1 q2 => (f a q1 (by omega)).trans (c0 q a q1 (by omega))) (fun j _ => by rw [m0 q]) h.1
      · obtain ⟨f1, f2, gC, gP⟩ := c1 q
        exact srel_fr (S := 3) (fun a q1 q2 => f a q1 (by omega)) (fun _ _ => rfl) (srel_go h.1 ok.1 f1 f2 gC gP (m1 q))
    · exact absurd ok no
  · rcases m with ⟨ok, -⟩ | ⟨-, rfl, e⟩
    · exact absurd ok no
    · exact ⟨rel_fr f e k h, rfl⟩
end
section
/-! ===== questions, wholly ===== -/
theorem cr_X11_count {μ : dw_S} {K : dw_K} {a1 : Int32} {R : Nat → Int32} (hI : INV μ) (hR : SREL μ.2.2.1 3 R) (hK : ∀ (r : Option Value) (w : Int32) (μ' : dw_S), ck_X11_count a1 μ r w μ' → w.toInt = aCount R (μ.2.2.1 1 1).toInt a1.toInt → K r μ') : t_X11_count [.ref 0, .int a1] μ K := by
  refine cj_X11_count _ μ (fun r μ' => ∃ w, ck_X11_count a1 μ r w μ') (fun r μ' => ∀ w, r = some (.int w) → w.toInt = aCount R (μ.2.2.1 1 1).toInt a1.toInt) K (fun r μ' h q => h.elim (fun w h => hK r w μ' h (q w h.2.1))) (cl_X11_count hI (fun r w μ' h => ⟨w, h⟩)) ?_
  obtain ⟨n, sh, I, J⟩ := μ
  obtain rfl : sh = SH1 := hI.1
  refine v_ccount hR (fun w e v q => ?_)
  rw [ro_eq q]; exact e
theorem cr_X12_count {μ : dw_S} {K : dw_K} {a1 : Int32} {R : Nat → Int32} (hI : INV μ) (e6 : μ.2.2.1 406 = R) (hG : GOK R) (hN : ∀ {x : Int32}, okS R x → NOK (nX R x)) (hK : ∀ (r : Option Value) (w : Int32) (μ' : dw_S), ck_X12_count a1 μ r w μ' → w.toInt = aCount R (μ.2.2.1 404 2).toInt a1.toInt → K r μ') : t_X12_count [.ref 404, .int a1] μ K := by
  refine cj_X12_count _ μ (fun r μ' => ∃ w, ck_X12_count a1 μ r w μ') (fun r μ' => ∀ w, r = some (.int w) → w.toInt = aCount R (μ.2.2.1 404 2).toInt a1.toInt) K (fun r μ' h q => h.elim (fun w h => hK r w μ' h (q w h.2.1))) (cl_X12_count hI (fun r w μ' h => ⟨w, h⟩)) ?_
  obtain ⟨n, sh, I, J⟩ := μ
  obtain rfl : sh = SH1 := hI.1
  refine v_mcount e6 (fun _ w e v q => ?_)
  rw [ro_eq q]; exact e
end
