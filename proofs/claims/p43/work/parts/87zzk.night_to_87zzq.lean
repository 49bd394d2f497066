section
/-! ===== a NIGHT told: in order, within bounds ===== -/
def lOK (l : fL) : Prop := l.1 ≤ 3 ∧ (0 ≤ l.2.1.toInt ∧ l.2.1.toInt ≤ 143) ∧ (l.1 = 0 → 0 ≤ l.2.2.1.toInt ∧ l.2.2.1.toInt ≤ 100) ∧ (l.1 = 1 → 0 ≤ l.2.2.1.toInt ∧ l.2.2.1.toInt ≤ 9) ∧ (l.1 = 2 → (0 ≤ l.2.2.1.toInt ∧ l.2.2.1.toInt ≤ 40) ∧ 0 ≤ l.2.2.2.toInt ∧ l.2.2.2.toInt ≤ 40)
def LOK : Int → List fL → Prop
  | _, [] => True
  | top, l :: r => lOK l ∧ l.2.1.toInt ≤ top ∧ LOK l.2.1.toInt r
set_option maxRecDepth 8000 in
theorem LOK_mono : ∀ {L : List fL} {a b : Int}, LOK a L → a ≤ b → LOK b L
  | [], _, _, _, _ => trivial
  | l :: r, a, b, h, hab => ⟨h.1, Int.le_trans h.2.1 hab, h.2.2⟩
set_option maxRecDepth 8000 in
theorem nbK_0 {t : fT} {lo hi : Int} {k : Int32 → Nat → fR} (h : (nbK t lo hi k).1 = 0) : nbK t lo hi k = k t.2.2.2 t.2.2.1 := by
  have b := nb_K h
  unfold nbK
  exact if_pos b
set_option maxRecDepth 8000 in
theorem nl_ok {b : fB} {N m ln : Nat} {lat : Int32} {T : fT} (h0 : 0 ≤ lat.toInt) (h : (nlF b N m ln lat T).1 = 0) : lOK (nlF b N m ln lat T).2.2.2 ∧ lat.toInt ≤ (nlF b N m ln lat T).2.2.2.2.1.toInt := by
  unfold nlF at h ⊢
  by_cases g1 : wkF b T = 9
  · rw [if_pos g1] at h; exact absurd h (nn rfl)
  rw [if_neg g1] at h ⊢
  by_cases g2 : 24 ≤ ln
  · rw [if_pos g2] at h; exact absurd h (nn rfl)
  rw [if_neg g2] at h ⊢
  have b1 := nb_K h
  have r1 := nb_r b1
  have eb1 := nbK_0 h
  rw [eb1] at h ⊢
  by_cases g3 : wkF b T = 3
  · rw [if_pos g3] at h ⊢
    unfold stK at h ⊢
    split at h
    · next e =>
      rw [if_pos e]
      exact ⟨⟨Nat.le_refl 3, ⟨Int.le_trans h0 r1.1, r1.2⟩, fun q => absurd (show (3 : Nat) = 0 from q) (by decide), fun q => absurd (show (3 : Nat) = 1 from q) (by decide), fun q => absurd (show (3 : Nat) = 2 from q) (by decide)⟩, r1.1⟩
    · exact absurd h (nn rfl)
  rw [if_neg g3] at h ⊢
  have b2 := nb_K h
  have r2 := nb_r b2
  have eb2 := nbK_0 h
  rw [eb2] at h ⊢
  by_cases g4 : wkF b T = 2
  · rw [if_pos g4] at h ⊢
    have b3 := nb_K h
    have r3 := nb_r b3
    have eb3 := nbK_0 h
    rw [eb3] at h ⊢
    unfold stK at h ⊢
    have m2 : moF (wkF b T) = 40 := by rw [g4]; rfl
    rw [m2] at r2
    split at h
    · next e =>
      rw [if_pos e]
      exact ⟨⟨(by decide : 2 ≤ 3), ⟨Int.le_trans h0 r1.1, r1.2⟩, fun q => absurd (show (2 : Nat) = 0 from q) (by decide), fun q => absurd (show (2 : Nat) = 1 from q) (by decide), fun _ => ⟨r2, r3⟩⟩, r1.1⟩
    · exact absurd h (nn rfl)
  rw [if_neg g4] at h ⊢
  unfold stK at h ⊢
  have hk : wkF b T = 0 ∨ wkF b T = 1 := by
    rcases wk_cases b T with q | q | q | q | q
    · exact Or.inl q
    · exact Or.inr q
    · exact absurd q g4
    · exact absurd q g3
    · exact absurd q g1
  split at h
  · next e =>
    rw [if_pos e]
    refine ⟨⟨by show wkF b T ≤ 3; omega, ⟨Int.le_trans h0 r1.1, r1.2⟩, fun q => ?_, fun q => ?_, fun q => ?_⟩, r1.1⟩
    · have q : wkF b T = 0 := q
      rw [q] at r2; exact r2
    · have q : wkF b T = 1 := q
      rw [q] at r2; exact r2
    · have q : wkF b T = 2 := q
      exact absurd q g4
  · exact absurd h (nn rfl)
set_option maxRecDepth 8000 in
theorem ng_ok {b : fB} {N m : Nat} : ∀ (f ln : Nat) (lat : Int32) (p : Nat) (L : List fL), 0 ≤ lat.toInt → lat.toInt ≤ 143 → LOK lat.toInt L → (ngF b N m f ln lat p L).1 = 0 → LOK 143 (ngF b N m f ln lat p L).2.2.2
  | 0, _, _, _, _, _, _, _, h => absurd h (nn rfl)
  | f + 1, ln, lat, p, L, h0, h1, hL, h => by
    unfold ngF at h ⊢
    by_cases g : (tkF b N m p).1 = 0
    · rw [if_pos g]; exact LOK_mono hL h1
    rw [if_neg g] at h ⊢
    by_cases g2 : (nlF b N m ln lat (tkF b N m p)).1 = 0
    · rw [if_pos g2] at h ⊢
      obtain ⟨q1, q2⟩ := nl_ok h0 g2
      exact ng_ok f _ _ _ _ (by omega) q1.2.1.2 ⟨q1, Int.le_refl _, LOK_mono hL q2⟩ h
    · rw [if_neg g2] at h; exact absurd h g2
/-- the model's row of lines -/
def mdS (S : Nat → Int32) : List fL → Prop
  | [] => True
  | l :: r => S (1 + 4 * r.length) = Int32.ofNat l.1 ∧ S (2 + 4 * r.length) = l.2.1 ∧ S (3 + 4 * r.length) = l.2.2.1 ∧ S (4 + 4 * r.length) = l.2.2.2 ∧ mdS S r
set_option maxRecDepth 8000 in
theorem ms_md {S : Nat → Int32} : ∀ (L : List fL) (top : Int), LOK top L → mdS S L → msL S L.length = L
  | [], _, _, _ => rfl
  | l :: r, top, h, g => by
    obtain ⟨g1, g2, g3, g4, g5⟩ := g
    show lnM S r.length :: msL S r.length = l :: r
    rw [ms_md r _ h.2.2 g5]
    have k := h.1.1
    have e : (Int32.ofNat l.1).toInt.toNat = l.1 := by rw [oN (by omega)]; omega
    unfold lnM
    rw [g1, g2, g3, g4, e]
set_option maxRecDepth 8000 in
theorem ns_of {S : Nat → Int32} : ∀ (L : List fL) (top : Int), LOK top L → mdS S L → (∀ i, i < L.length → (0 ≤ (S (1 + 4 * i)).toInt ∧ (S (1 + 4 * i)).toInt ≤ 3 ∧ 0 ≤ (S (2 + 4 * i)).toInt ∧ (S (2 + 4 * i)).toInt ≤ 143) ∧ (S (2 + 4 * i)).toInt ≤ top) ∧ ∀ i j, i ≤ j → j < L.length → (S (2 + 4 * i)).toInt ≤ (S (2 + 4 * j)).toInt
  | [], _, _, _ => ⟨fun i hi => absurd hi (Nat.not_lt_zero i), fun i j _ hj => absurd hj (Nat.not_lt_zero j)⟩
  | l :: r, top, h, g => by
    obtain ⟨g1, g2, -, -, g5⟩ := g
    obtain ⟨k1, k2⟩ := ns_of r _ h.2.2 g5
    have k := h.1.1
    have t := h.1.2.1
    have tt := h.2.1
    have e1 : (S (1 + 4 * r.length)).toInt = l.1 := by rw [g1]; exact oN (by omega)
    have e2 : (S (2 + 4 * r.length)).toInt = l.2.1.toInt := by rw [g2]
    have hl : (l :: r).length = r.length + 1 := rfl
    refine ⟨fun i hi => ?_, fun i j hij hj => ?_⟩
    · by_cases e : i = r.length
      · subst e; omega
      · obtain ⟨q1, q2⟩ := k1 i (by omega)
        exact ⟨q1, by omega⟩
    · by_cases e : j = r.length
      · subst e
        by_cases e3 : i = r.length
        · rw [e3]; exact Int.le_refl _
        · have q := (k1 i (by omega)).2
          omega
      · exact k2 i j hij (by omega)
def bdF (w : Nat) : Int := if w = 0 then 100 else if w = 1 then 9 else if w = 4 then 1 else 40
set_option maxRecDepth 8000 in
theorem nd_b {t : Nat} : ∀ (L : List fL) (top : Int), LOK top L → ∀ w, w < 5 → 0 ≤ (ndF (uaF L) w t).toInt ∧ (ndF (uaF L) w t).toInt ≤ bdF w
  | [], _, _, w, hw => by
    have b0 : ndF (uaF []) 0 t = 0 := by simp [uaF, ndF]
    have b1 : ndF (uaF []) 1 t = 0 := by simp [uaF, ndF]
    have b2 : ndF (uaF []) 2 t = 10 := by simp [uaF, ndF]
    have b3 : ndF (uaF []) 3 t = 8 := by simp [uaF, ndF]
    have b4 : ndF (uaF []) 4 t = 0 := by simp [uaF, ndF]
    match w, hw with
    | 0, _ => rw [b0]; decide
    | 1, _ => rw [b1]; decide
    | 2, _ => rw [b2]; decide
    | 3, _ => rw [b3]; decide
    | 4, _ => rw [b4]; decide
    | k + 5, h => exact absurd h (by omega)
  | l :: r, top, h, w, hw => by
    have ih := nd_b (t := t) r _ h.2.2 w hw
    obtain ⟨k, -, k0, k1, k2⟩ := h.1
    show 0 ≤ (ndF (udF l ++ uaF r) w t).toInt ∧ (ndF (udF l ++ uaF r) w t).toInt ≤ bdF w
    by_cases e3 : l.1 = 3
    · rw [ud_3 e3, nd_1]
      by_cases c : w = 4 ∧ l.2.1.toInt.toNat ≤ t
      · rw [if_pos c, c.1]; decide
      · rw [if_neg c]; exact ih
    by_cases e2 : l.1 = 2
    · rw [ud_2 e2, nd_2]
      by_cases c : w = 3 ∧ l.2.1.toInt.toNat ≤ t
      · rw [if_pos c, c.1]; exact (k2 e2).2
      rw [if_neg c]
      by_cases c2 : w = 2 ∧ l.2.1.toInt.toNat ≤ t
      · rw [if_pos c2, c2.1]; exact (k2 e2).1
      · rw [if_neg c2]; exact ih
    · rw [ud_0 (by omega), nd_1]
      by_cases c : w = l.1 ∧ l.2.1.toInt.toNat ≤ t
      · rw [if_pos c, c.1]
        by_cases e0 : l.1 = 0
        · rw [e0]; exact k0 e0
        · have e1 : l.1 = 1 := by omega
          rw [e1]; exact k1 e1
      · rw [if_neg c]; exact ih
set_option maxRecDepth 8000 in
/-- a NIGHT told is in order -/
theorem nok_told {S : Nat → Int32} {L : List fL} (h0 : (S 0).toInt = L.length) (h24 : L.length ≤ 24) (hL : LOK 143 L) (hm : mdS S L) : NOK S ∧ nU S = uaF L := by
  have e : nL S = L.length := by show (S 0).toInt.toNat = L.length; omega
  have em := ms_md L 143 hL hm
  obtain ⟨q1, q2⟩ := ns_of L 143 hL hm
  have eU : nU S = uaF L := by show uaF (msL S (nL S)) = uaF L; rw [e, em]
  refine ⟨⟨⟨by rw [e]; exact h0, by omega, fun i hi => (q1 i (by omega)).1, fun i j hij hj => q2 i j hij (by omega)⟩, fun t _ => ?_⟩, eU⟩
  unfold gT
  rw [eU]
  exact ⟨nd_b L 143 hL 0 (by decide), nd_b L 143 hL 1 (by decide), nd_b L 143 hL 2 (by decide), nd_b L 143 hL 3 (by decide), nd_b L 143 hL 4 (by decide)⟩
/-! ===== what depends on what ===== -/
set_option maxRecDepth 8000 in
theorem mh_eq {R R' : Nat → Int32} {x y : Int} (h : ∀ j, j < 221 → R' j = R j) : ∀ i : Nat, i ≤ 12 → mhF R' x y i = mhF R x y i
  | 0, _ => rfl
  | i + 1, hi => by
    show mhF R' x y i + shF (shM R' i) x y = mhF R x y i + shF (shM R i) x y
    have e : shM R' i = shM R i := by
      unfold shM
      rw [h (173 + 4 * i) (by omega), h (174 + 4 * i) (by omega), h (175 + 4 * i) (by omega), h (176 + 4 * i) (by omega)]
    rw [mh_eq h i (by omega), e]
set_option maxRecDepth 8000 in
theorem Cn_eq {R R' : Nat → Int32} (h : ∀ j, j < 221 → R' j = R j) : Cn R' = Cn R ∧ Rn R' = Rn R ∧ Hn R' = Hn R := by
  refine ⟨?_, ?_, ?_⟩
  · show (R' 0).toInt.toNat = (R 0).toInt.toNat; rw [h 0 (by decide)]
  · show (R' 1).toInt.toNat = (R 1).toInt.toNat; rw [h 1 (by decide)]
  · show (R' 3).toInt.toNat = (R 3).toInt.toNat; rw [h 3 (by decide)]
set_option maxRecDepth 8000 in
theorem sk_eq {R R' : Nat → Int32} (h : ∀ j, j < 221 → R' j = R j) (hH : Hn R ≤ 12) {c : Nat} : skM R' (Cn R') (Hn R') c = skM R (Cn R) (Hn R) c := by
  obtain ⟨e1, -, e3⟩ := Cn_eq h
  rw [e1, e3]
  show max 0 (100 - mhF R' _ _ (Hn R)) = max 0 (100 - mhF R _ _ (Hn R))
  rw [mh_eq h (Hn R) hH]
set_option maxRecDepth 8000 in
theorem gok_eq {R R' : Nat → Int32} (h : ∀ j, j < 221 → R' j = R j) (hG : GOK R) : GOK R' := by
  obtain ⟨e1, e2, e3⟩ := Cn_eq h
  obtain ⟨⟨m0, m1, m3, c12, r12, h12, mb⟩, ⟨s0, s1⟩, ⟨k0, k1⟩, kq, kc⟩ := hG
  have hN : Cn R * Rn R ≤ 12 * 12 := Nat.mul_le_mul c12 r12
  refine ⟨⟨?_, ?_, ?_, by rw [e1]; exact c12, by rw [e2]; exact r12, by rw [e3]; exact h12, fun j q1 q2 => ?_⟩, ?_, ?_, fun q hq => ?_, fun c hc => ?_⟩
  · rw [h 0 (by decide), e1]; exact m0
  · rw [h 1 (by decide), e2]; exact m1
  · rw [h 3 (by decide), e3]; exact m3
  · rw [e3] at q2
    rw [h j (by omega)]; exact mb j q1 q2
  · rw [h 4 (by decide)]; exact ⟨s0, s1⟩
  · rw [h 2 (by decide)]; exact ⟨k0, k1⟩
  · rw [h 2 (by decide)] at hq
    rw [h (5 + q) (by omega), h (13 + q) (by omega), h (21 + q) (by omega)]; exact kq q hq
  · have hc' : c < Nn R := by
      have e : Nn R' = Nn R := by show Cn R' * Rn R' = Cn R * Rn R; rw [e1, e2]
      omega
    have hc2 : c < Cn R * Rn R := hc'
    rw [h (29 + c) (by omega), h 2 (by decide)]; exact kc c hc'
set_option maxRecDepth 8000 in
theorem Nn_eq {R R' : Nat → Int32} (h : ∀ j, j < 221 → R' j = R j) : Nn R' = Nn R := by
  obtain ⟨e1, e2, -⟩ := Cn_eq h
  show Cn R' * Rn R' = Cn R * Rn R
  rw [e1, e2]
set_option maxRecDepth 8000 in
theorem kd_eq {R R' : Nat → Int32} (h : ∀ j, j < 221 → R' j = R j) {c : Nat} (hc : c < 192) : kdR R' c = kdR R c := by
  show (R' (29 + c)).toInt.toNat = (R (29 + c)).toInt.toNat
  rw [h (29 + c) (by omega)]
set_option maxRecDepth 8000 in
theorem skI_eq {R R' : Nat → Int32} (h : ∀ j, j < 221 → R' j = R j) (hG : GOK R) {c : Nat} : skI R' c = skI R c := by
  unfold skI
  rw [sk_eq h hG.1.2.2.2.2.2.1]
set_option maxRecDepth 8000 in
theorem rg_eq {I I' : Nat → Nat → Int32} {G G' : Nat} {R R' : Nat → Int32} (h : ∀ j, j < 221 → R' j = R j) (h0 : ∀ j, j < 5 → I' G' j = I G j) (h1 : ∀ j, j < 8 → I' (G' + 1) j = I (G + 1) j ∧ I' (G' + 2) j = I (G + 2) j ∧ I' (G' + 3) j = I (G + 3) j) (h2 : ∀ c, c < 144 → I' (G' + 4) c = I (G + 4) c ∧ I' (G' + 5) c = I (G + 5) c) (hG : GOK R) (hR : RG I G R) : RG I' G' R' := by
  obtain ⟨r1, r2, r3⟩ := hR
  have hN := (gok_N hG).2
  have k8 := hG.2.2.1.2
  refine ⟨fun j hj => ?_, fun q hq => ?_, fun c hc => ?_⟩
  · rw [h0 j hj, h j (by omega)]; exact r1 j hj
  · rw [h 2 (by decide)] at hq
    obtain ⟨a1, a2, a3⟩ := h1 q (by omega)
    rw [a1, a2, a3, h (5 + q) (by omega), h (13 + q) (by omega), h (21 + q) (by omega)]; exact r2 q hq
  · rw [Nn_eq h] at hc
    obtain ⟨a1, a2⟩ := h2 c (by omega)
    rw [a1, a2, h (29 + c) (by omega), sk_eq h hG.1.2.2.2.2.2.1]; exact r3 c hc
set_option maxRecDepth 8000 in
theorem lnM_eq {S S' : Nat → Int32} {i : Nat} (h : ∀ j, j < 97 → S' j = S j) (hi : i < 24) : lnM S' i = lnM S i := by
  unfold lnM
  rw [h (1 + 4 * i) (by omega), h (2 + 4 * i) (by omega), h (3 + 4 * i) (by omega), h (4 + 4 * i) (by omega)]
set_option maxRecDepth 8000 in
theorem msL_eq {S S' : Nat → Int32} (h : ∀ j, j < 97 → S' j = S j) : ∀ k : Nat, k ≤ 24 → msL S' k = msL S k
  | 0, _ => rfl
  | k + 1, hk => by
    show lnM S' k :: msL S' k = lnM S k :: msL S k
    rw [lnM_eq h (by omega), msL_eq h k (by omega)]
set_option maxRecDepth 8000 in
theorem nU_eq {S S' : Nat → Int32} (h : ∀ j, j < 97 → S' j = S j) (hS : NOK S) : nU S' = nU S := by
  have e : nL S' = nL S := by show (S' 0).toInt.toNat = (S 0).toInt.toNat; rw [h 0 (by decide)]
  show uaF (msL S' (nL S')) = uaF (msL S (nL S))
  rw [e, msL_eq h (nL S) hS.1.2.1]
set_option maxRecDepth 8000 in
theorem gT_eq {S S' : Nat → Int32} (h : ∀ j, j < 97 → S' j = S j) (hS : NOK S) {t : Nat} : gT S' t = gT S t := by
  unfold gT
  rw [nU_eq h hS]
set_option maxRecDepth 8000 in
theorem nok_eq {S S' : Nat → Int32} (h : ∀ j, j < 97 → S' j = S j) (hS : NOK S) : NOK S' := by
  have e : nL S' = nL S := by show (S' 0).toInt.toNat = (S 0).toInt.toNat; rw [h 0 (by decide)]
  obtain ⟨⟨s0, s1, s2, s3⟩, sT⟩ := id hS
  refine ⟨⟨?_, by rw [e]; exact s1, fun i hi => ?_, fun i j hij hj => ?_⟩, fun t ht => ?_⟩
  · rw [h 0 (by decide), e]; exact s0
  · rw [e] at hi
    rw [h (1 + 4 * i) (by omega), h (2 + 4 * i) (by omega)]; exact s2 i hi
  · rw [e] at hj
    rw [h (2 + 4 * i) (by omega), h (2 + 4 * j) (by omega)]; exact s3 i j hij hj
  · rw [gT_eq h hS]; exact sT t ht
set_option maxRecDepth 8000 in
theorem rn_eq {I I' : Nat → Nat → Int32} {B B' : Nat} {S S' : Nat → Int32} (h : ∀ j, j < 97 → S' j = S j) (h0 : I' B' 0 = I B 0) (hI : ∀ w, w < 5 → ∀ t, t < 144 → I' (B' + 2 + w) t = I (B + 2 + w) t) (hR : RN I B S) : RN I' B' S' := by
  rcases hR with ⟨r1, r2⟩ | ⟨r1, r2, r3⟩
  · exact Or.inl ⟨h0.trans r1, by rw [h 0 (by decide)]; exact r2⟩
  · exact Or.inr ⟨h0.trans r1, nok_eq h r2, fun w hw t ht => by rw [hI w hw t ht, nU_eq h r2]; exact r3 w hw t ht⟩
set_option maxRecDepth 8000 in
theorem rp_eq {I I' : Nat → Nat → Int32} {P P' : Nat} {R R' : Nat → Int32} (h : ∀ j, j < 221 → R' j = R j) (hp : ∀ j, 803 ≤ j → j < 894 → R' j = R j) (h0 : I' P' 0 = I P 0) (hI : ∀ i, i < 30 → ∀ t, t < 3 → I' (P' + 2 + i) t = I (P + 2 + i) t) (hR : RP I P R) : RP I' P' R' := by
  obtain ⟨e1, e2, -⟩ := Cn_eq h
  obtain ⟨r1, ⟨r2, r3⟩, r4⟩ := hR
  refine ⟨by rw [h0, hp 803 (by omega) (by omega)]; exact r1, by rw [hp 803 (by omega) (by omega)]; exact ⟨r2, r3⟩, fun i hi => ?_⟩
  rw [hp 803 (by omega) (by omega)] at hi
  rw [hI i (by omega) 0 (by decide), hI i (by omega) 1 (by decide), hI i (by omega) 2 (by decide), hp (804 + 3 * i) (by omega) (by omega), hp (805 + 3 * i) (by omega) (by omega), h 0 (by decide), e1, e2]
  exact r4 i hi
set_option maxRecDepth 8000 in
theorem rr_eq {I I' : Nat → Nat → Int32} {A A' : Nat} {R R' : Nat → Int32} (h : ∀ j, j < 221 → R' j = R j) (hr : ∀ j, 894 ≤ j → j < 1427 → R' j = R j) (hf : ∀ j, j < 7 → I' A' j = I A j) (hn : ∀ w, w < 5 → ∀ t, t < 144 → I' (A' + 1 + 2 + w) t = I (A + 1 + 2 + w) t) (hI : ∀ i, 8 ≤ i → i ≤ 14 → ∀ c, c < 144 → I' (A' + i) c = I (A + i) c) (hG : GOK R) (hR : RR I A R) : RR I' A' R' := by
  have hN := (gok_N hG).2
  have eN := Nn_eq h
  rcases hR with ⟨r1, r2⟩ | ⟨r1, r2, r3, r4, r5, r6, r7, r8, r9, r10, r11, r12, r13⟩
  · exact Or.inl ⟨(hf 0 (by decide)).trans r1, (hr 894 (by omega) (by omega)).trans r2⟩
  · have hS : ∀ j, j < 97 → rnS R' j = rnS R j := fun j hj => hr (898 + j) (by omega) (by omega)
    refine Or.inr ⟨(hf 0 (by decide)).trans r1, (hr 894 (by omega) (by omega)).trans r2, by rw [hf 1 (by decide), eN]; exact r3, by rw [hf 2 (by decide), hr 895 (by omega) (by omega)]; exact r4, by rw [hr 895 (by omega) (by omega)]; exact r5, by rw [hf 3 (by decide), hr 896 (by omega) (by omega)]; exact r6, by rw [hf 4 (by decide), hr 897 (by omega) (by omega)]; exact r7, (hf 5 (by decide)).trans r8, (hf 6 (by decide)).trans r9, nok_eq hS r10, fun w hw t ht => by rw [hn w hw t ht, nU_eq hS r10]; exact r11 w hw t ht, fun c hc => ?_, ?_⟩
    · rw [eN] at hc
      rw [hI 8 (by omega) (by omega) c (by omega), hI 9 (by omega) (by omega) c (by omega), hI 10 (by omega) (by omega) c (by omega), hI 11 (by omega) (by omega) c (by omega), hI 12 (by omega) (by omega) c (by omega), hI 13 (by omega) (by omega) c (by omega), hI 14 (by omega) (by omega) c (by omega), hr (1283 + c) (by omega) (by omega), hr (995 + c) (by omega) (by omega), hr (1139 + c) (by omega) (by omega), kd_eq h (show c < 192 by omega), skI_eq h hG]
      have k := (gok_k hG hc).2.1
      have kk : kdR R c < 8 := by
        have k0 := (gok_k hG hc).1
        show (R (29 + c)).toInt.toNat < 8
        omega
      rw [h (5 + kdR R c) (by omega), h (13 + kdR R c) (by omega), h (21 + kdR R c) (by omega)]
      exact r12 c hc
    · rw [eN, hr 895 (by omega) (by omega)]
      refine rok_eq ⟨fun c hc => ?_, fun c hc => ?_, ?_, ?_⟩ r13
      · exact hr (995 + c) (by omega) (by omega)
      · exact hr (1139 + c) (by omega) (by omega)
      · exact hr 896 (by omega) (by omega)
      · exact hr 897 (by omega) (by omega)
set_option maxRecDepth 8000 in
/-- a whole state copied, its row copied -/
theorem srel_cp {I I' : Nat → Nat → Int32} {S S' : Nat} {R R' : Nat → Int32} (hc : ∀ i j, rlv i j → I' (S' + i) j = I (S + i) j) (hR : ∀ j, j < 1427 → R' j = R j) (h : SREL I S R) : SREL I' S' R' := by
  obtain ⟨hG, h1, h2, h3, h4⟩ := h
  have e221 : ∀ j, j < 221 → R' j = R j := fun j hj => hR j (by omega)
  refine ⟨gok_eq e221 hG, rg_eq e221 (fun j hj => hc 1 j (Or.inl ⟨rfl, hj⟩)) (fun j hj => ⟨?_, ?_, ?_⟩) (fun c hc2 => ⟨?_, ?_⟩) hG h1, fun s hs => rn_eq (fun j hj => hR _ (by omega)) ?_ (fun w hw t ht => ?_) (h2 s hs), rp_eq e221 (fun j _ hj => hR j (by omega)) ?_ (fun i hi t ht => ?_) h3, rr_eq e221 (fun j _ hj => hR j hj) (fun j hj => ?_) (fun w hw t ht => ?_) (fun i i1 i2 c hc2 => ?_) hG h4⟩
  · exact hc 2 j (by unfold rlv; omega)
  · exact hc 3 j (by unfold rlv; omega)
  · exact hc 4 j (by unfold rlv; omega)
  · exact hc 5 c (by unfold rlv; omega)
  · exact hc 6 c (by unfold rlv; omega)
  · have q := hc (55 + 7 * s) 0 (Or.inr (Or.inr (Or.inr (Or.inr (Or.inr (Or.inr (Or.inr (Or.inr ⟨s, hs, Or.inl ⟨rfl, rfl⟩⟩))))))))
    rw [show S' + (55 + 7 * s) = S' + 55 + 7 * s by omega, show S + (55 + 7 * s) = S + 55 + 7 * s by omega] at q
    exact q
  · have q := hc (57 + 7 * s + w) t (Or.inr (Or.inr (Or.inr (Or.inr (Or.inr (Or.inr (Or.inr (Or.inr ⟨s, hs, Or.inr ⟨by omega, by omega, ht⟩⟩))))))))
    rw [show S' + (57 + 7 * s + w) = S' + 55 + 7 * s + 2 + w by omega, show S + (57 + 7 * s + w) = S + 55 + 7 * s + 2 + w by omega] at q
    exact q
  · exact hc 8 0 (by unfold rlv; omega)
  · have q := hc (10 + i) t (Or.inr (Or.inr (Or.inr (Or.inr (Or.inl ⟨by omega, by omega, ht⟩)))))
    rw [show S' + (10 + i) = S' + 8 + 2 + i by omega, show S + (10 + i) = S + 8 + 2 + i by omega] at q
    exact q
  · exact hc 40 j (Or.inr (Or.inr (Or.inr (Or.inr (Or.inr (Or.inl ⟨rfl, hj⟩))))))
  · have q := hc (43 + w) t (Or.inr (Or.inr (Or.inr (Or.inr (Or.inr (Or.inr (Or.inr (Or.inl ⟨by omega, by omega, ht⟩))))))))
    rw [show S' + (43 + w) = S' + 40 + 1 + 2 + w by omega, show S + (43 + w) = S + 40 + 1 + 2 + w by omega] at q
    exact q
  · have q := hc (40 + i) c (Or.inr (Or.inr (Or.inr (Or.inr (Or.inr (Or.inr (Or.inr (Or.inl ⟨by omega, by omega, hc2⟩))))))))
    rw [show S' + (40 + i) = S' + 40 + i by omega, show S + (40 + i) = S + 40 + i by omega] at q
    exact q
set_option maxRecDepth 8000 in
/-- nothing of it changed -/
theorem srel_fr {I I' : Nat → Nat → Int32} {S : Nat} {R R' : Nat → Int32} (hc : ∀ a, S ≤ a → a ≤ S + 96 → I' a = I a) (hR : ∀ j, j < 1427 → R' j = R j) (h : SREL I S R) : SREL I' S R' := by
  refine srel_cp (fun i j hij => ?_) hR h
  have hi : i ≤ 96 := by
    unfold rlv at hij
    rcases hij with ⟨h, -⟩ | ⟨-, h, -⟩ | ⟨-, h, -⟩ | ⟨h, -⟩ | ⟨-, h, -⟩ | ⟨h, -⟩ | ⟨h, -⟩ | ⟨-, h, -⟩ | ⟨s, hs, ⟨h, -⟩ | ⟨-, h, -⟩⟩ <;> omega
  rw [hc (S + i) (by omega) (by omega)]
set_option maxRecDepth 8000 in
/-- a NIGHT told -/
theorem srel_night {I I' : Nat → Nat → Int32} {s : Nat} {R R' : Nat → Int32} {L : List fL} (hs : s < 6) (hc : ∀ a, 3 ≤ a → a ≤ 99 → a ≠ 58 + 7 * s → (a < 60 + 7 * s ∨ 64 + 7 * s < a) → I' a = I a) (hR : ∀ j, j < 221 + 97 * s ∨ 221 + 97 * s + 97 ≤ j → j < 1427 → R' j = R j)
    (hz : (I' (58 + 7 * s) 0).toInt = 1) (hn : ∀ w, w < 5 → ∀ t, t < 144 → I' (60 + 7 * s + w) t = ndF (uaF L) w t) (hL : LOK 143 L) (hm : mdS (nS R' s) L) (h0 : (nS R' s 0).toInt = L.length) (h24 : L.length ≤ 24) (h : SREL I 3 R) : SREL I' 3 R' := by
  obtain ⟨hG, h1, h2, h3, h4⟩ := h
  have e221 : ∀ j, j < 221 → R' j = R j := fun j hj => hR j (by omega) (by omega)
  obtain ⟨k1, k2⟩ := nok_told h0 h24 hL hm
  refine ⟨gok_eq e221 hG, rg_eq e221 (fun j _ => by rw [hc (3 + 1) (by omega) (by omega) (by omega) (by omega)]) (fun j _ => ⟨by rw [hc (3 + 1 + 1) (by omega) (by omega) (by omega) (by omega)], by rw [hc (3 + 1 + 2) (by omega) (by omega) (by omega) (by omega)], by rw [hc (3 + 1 + 3) (by omega) (by omega) (by omega) (by omega)]⟩) (fun c _ => ⟨by rw [hc (3 + 1 + 4) (by omega) (by omega) (by omega) (by omega)], by rw [hc (3 + 1 + 5) (by omega) (by omega) (by omega) (by omega)]⟩) hG h1, fun s' hs' => ?_, rp_eq e221 (fun j q1 q2 => hR j (by omega) (by omega)) (by rw [hc (3 + 8) (by omega) (by omega) (by omega) (by omega)]) (fun i hi t _ => by rw [hc (3 + 8 + 2 + i) (by omega) (by omega) (by omega) (by omega)]) h3, rr_eq e221 (fun j q1 q2 => hR j (by omega) q2) (fun j _ => by rw [hc (3 + 40) (by omega) (by omega) (by omega) (by omega)]) (fun w hw t _ => by rw [hc (3 + 40 + 1 + 2 + w) (by omega) (by omega) (by omega) (by omega)]) (fun i i1 i2 c _ => by rw [hc (3 + 40 + i) (by omega) (by omega) (by omega) (by omega)]) hG h4⟩
  by_cases e : s' = s
  · subst e
    rw [show 3 + 55 + 7 * s' = 58 + 7 * s' by omega]
    refine Or.inr ⟨i_eq hz, k1, fun w hw t ht => ?_⟩
    rw [k2, show 58 + 7 * s' + 2 + w = 60 + 7 * s' + w by omega]; exact hn w hw t ht
  · refine rn_eq (fun j hj => hR _ (by omega) (by omega)) (by rw [hc (3 + 55 + 7 * s') (by omega) (by omega) (by omega) (by omega)]) (fun w hw t _ => by rw [hc (3 + 55 + 7 * s' + 2 + w) (by omega) (by omega) (by omega) (by omega)]) (h2 s' hs')
end
section
/-! ===== a GROUND told: within bounds ===== -/
def gBd (b : fB) (s : gS) : Prop := (∀ x, x ∈ s.1 → (1 ≤ x.2.2.1.toInt ∧ x.2.2.1.toInt ≤ 50) ∧ (0 ≤ x.2.2.2.1.toInt ∧ x.2.2.2.1.toInt ≤ 99) ∧ 0 ≤ x.2.2.2.2.toInt ∧ x.2.2.2.2.toInt ≤ 9) ∧
  (∀ v, s.2.2.2.2 = some v → 0 ≤ v.toInt ∧ v.toInt ≤ 999) ∧
  ∀ q, q ∈ s.2.2.1 → ∀ i, i < s.2.1 → f_sm (b (q + i)) ∧ (b (q + i)).toInt < 97 + s.1.length
set_option maxRecDepth 8000 in
theorem nbG_0 {t : fT} {lo hi : Int} {k : Int32 → Nat → gR} (h : (nbG t lo hi k).1 = 0) : nbF t lo hi = 0 ∧ nbG t lo hi k = k t.2.2.2 t.2.2.1 := by
  unfold nbG at h ⊢
  by_cases g : nbF t lo hi = 0
  · exact ⟨g, if_pos g⟩
  · rw [if_neg g] at h; exact absurd h g
set_option maxRecDepth 8000 in
theorem stG_0 {t : fT} {k : Nat → gR} (h : (stG t k).1 = 0) : t.1 = 3 ∧ stG t k = k t.2.2.1 := by
  unfold stG at h ⊢
  by_cases g : t.1 = 3
  · exact ⟨g, if_pos g⟩
  · rw [if_neg g] at h; exact absurd h (nn rfl)
set_option maxRecDepth 8000 in
theorem gkA_g {b : fB} {N m : Nat} {T : fT} {s : gS} (hs : gBd b s) (h : (gkA b N m T s).1 = 0) : gBd b (gkA b N m T s).2.2.2 := by
  unfold gkA at h ⊢
  by_cases g1 : 0 < s.2.2.1.length
  · rw [if_pos g1] at h; exact absurd h (nn rfl)
  rw [if_neg g1] at h ⊢
  by_cases g2 : 8 ≤ s.1.length
  · rw [if_pos g2] at h; exact absurd h (nn rfl)
  rw [if_neg g2] at h ⊢
  by_cases g3 : (tkF b N m T.2.2.1).1 ≠ 1
  · rw [if_pos g3] at h; exact absurd h (nn rfl)
  rw [if_neg g3] at h ⊢
  by_cases g4 : tdF b (tkF b N m T.2.2.1)
  · rw [if_pos g4] at h; exact absurd h (nn rfl)
  rw [if_neg g4] at h ⊢
  by_cases g5 : nmF b (tkF b N m T.2.2.1) s.1
  · rw [if_pos g5] at h; exact absurd h (nn rfl)
  rw [if_neg g5] at h ⊢
  obtain ⟨b1, e1⟩ := nbG_0 h
  have r1 := nb_r b1
  rw [e1] at h ⊢
  obtain ⟨b2, e2⟩ := nbG_0 h
  have r2 := nb_r b2
  rw [e2] at h ⊢
  have e0 : s.2.2.1 = [] := List.eq_nil_of_length_eq_zero (by omega)
  have rows : ∀ q, q ∈ s.2.2.1 → False := fun q hq => by rw [e0] at hq; exact absurd hq List.not_mem_nil
  by_cases g6 : sayF b (tkF b N m (tkF b N m (tkF b N m (tkF b N m T.2.2.1).2.2.1).2.2.1).2.2.1) (dw_sb 14)
  · rw [if_pos g6] at h ⊢
    obtain ⟨b3, e3⟩ := nbG_0 h
    have r3 := nb_r b3
    rw [e3] at h ⊢
    obtain ⟨-, e4⟩ := stG_0 h
    rw [e4]
    refine ⟨fun x hx => ?_, hs.2.1, fun q hq => (rows q hq).elim⟩
    rcases List.mem_cons.mp hx with rfl | hx
    · exact ⟨r1, r2, Int.le_trans (show (0 : Int) ≤ 1 by decide) r3.1, r3.2⟩
    · exact hs.1 x hx
  · rw [if_neg g6] at h ⊢
    obtain ⟨-, e4⟩ := stG_0 h
    rw [e4]
    refine ⟨fun x hx => ?_, hs.2.1, fun q hq => (rows q hq).elim⟩
    rcases List.mem_cons.mp hx with rfl | hx
    · exact ⟨r1, r2, (show (0 : Int) ≤ 0 by decide), (show (0 : Int) ≤ 9 by decide)⟩
    · exact hs.1 x hx
set_option maxRecDepth 8000 in
theorem gkR_g {b : fB} {N m : Nat} {T : fT} {s : gS} (hs : gBd b s) (hT : T.2.2.1 ≤ N) (h : (gkR b N m T s).1 = 0) : gBd b (gkR b N m T s).2.2.2 := by
  unfold gkR at h ⊢
  by_cases g1 : 12 ≤ s.2.2.1.length
  · rw [if_pos g1] at h; exact absurd h (nn rfl)
  rw [if_neg g1] at h ⊢
  by_cases g3 : (tkF b N m T.2.2.1).1 ≠ 1
  · rw [if_pos g3] at h; exact absurd h (nn rfl)
  rw [if_neg g3] at h ⊢
  by_cases g4 : 0 < s.2.2.1.length ∧ (tkF b N m T.2.2.1).2.2.1 ≠ (tkF b N m T.2.2.1).2.1 + s.2.1
  · rw [if_pos g4] at h; exact absurd h (nn rfl)
  rw [if_neg g4] at h ⊢
  by_cases g5 : ¬ lrF b (tkF b N m T.2.2.1).2.1 ((tkF b N m T.2.2.1).2.2.1 - (tkF b N m T.2.2.1).2.1) s.1.length
  · rw [if_pos g5] at h; exact absurd h (nn rfl)
  rw [if_neg g5] at h ⊢
  obtain ⟨-, e4⟩ := stG_0 h
  rw [e4]
  obtain ⟨w1, w2, w3⟩ := tk_word (b := b) (n := N) (m := m) (p := T.2.2.1) (by omega) hT
  have g5' : lrF b (tkF b N m T.2.2.1).2.1 ((tkF b N m T.2.2.1).2.2.1 - (tkF b N m T.2.2.1).2.1) s.1.length := Classical.not_not.mp g5
  refine ⟨hs.1, hs.2.1, fun q hq i hi => ?_⟩
  have hi : i < (tkF b N m T.2.2.1).2.2.1 - (tkF b N m T.2.2.1).2.1 := hi
  rcases List.mem_cons.mp hq with rfl | hq
  · exact ⟨w3 i hi, g5' i hi⟩
  · have hl : 0 < s.2.2.1.length := List.length_pos_of_mem hq
    exact hs.2.2 q hq i (by omega)
set_option maxRecDepth 8000 in
theorem gkS_g {b : fB} {N m : Nat} {T : fT} {s : gS} (hs : gBd b s) (h : (gkS b N m T s).1 = 0) : gBd b (gkS b N m T s).2.2.2 := by
  unfold gkS at h ⊢
  by_cases g1 : 12 ≤ s.2.2.2.1.length
  · rw [if_pos g1] at h; exact absurd h (nn rfl)
  rw [if_neg g1] at h ⊢
  obtain ⟨b1, e1⟩ := nbG_0 h
  rw [e1] at h ⊢
  obtain ⟨b2, e2⟩ := nbG_0 h
  rw [e2] at h ⊢
  obtain ⟨b3, e3⟩ := nbG_0 h
  rw [e3] at h ⊢
  obtain ⟨b4, e4⟩ := nbG_0 h
  rw [e4] at h ⊢
  obtain ⟨-, e5⟩ := stG_0 h
  rw [e5]
  exact ⟨hs.1, hs.2.1, hs.2.2⟩
set_option maxRecDepth 8000 in
theorem gkW_g {b : fB} {N m : Nat} {T : fT} {s : gS} (hs : gBd b s) (h : (gkW b N m T s).1 = 0) : gBd b (gkW b N m T s).2.2.2 := by
  unfold gkW at h ⊢
  by_cases g1 : s.2.2.2.2 ≠ none
  · rw [if_pos g1] at h; exact absurd h (nn rfl)
  rw [if_neg g1] at h ⊢
  obtain ⟨b1, e1⟩ := nbG_0 h
  have r1 := nb_r b1
  rw [e1] at h ⊢
  obtain ⟨-, e5⟩ := stG_0 h
  rw [e5]
  refine ⟨hs.1, fun v hv => ?_, hs.2.2⟩
  have hv : some (tkF b N m T.2.2.1).2.2.2 = some v := hv
  rw [← Option.some.inj hv]
  exact r1
set_option maxRecDepth 8000 in
theorem gkF_g {b : fB} {N m : Nat} {T : fT} {s : gS} (hs : gBd b s) (hT : T.2.2.1 ≤ N) (h : (gkF b N m T s).1 = 0) : gBd b (gkF b N m T s).2.2.2 := by
  unfold gkF at h ⊢
  by_cases s0 : sayF b T (dw_sb 0)
  · rw [if_pos s0] at h ⊢; exact gkA_g hs h
  rw [if_neg s0] at h ⊢
  by_cases s15 : sayF b T (dw_sb 15)
  · rw [if_pos s15] at h ⊢; exact gkR_g hs hT h
  rw [if_neg s15] at h ⊢
  by_cases s16 : sayF b T (dw_sb 16)
  · rw [if_pos s16] at h ⊢; exact gkS_g hs h
  rw [if_neg s16] at h ⊢
  by_cases s17 : sayF b T (dw_sb 17)
  · rw [if_pos s17] at h ⊢; exact gkW_g hs h
  rw [if_neg s17] at h
  exact absurd h (nn rfl)
set_option maxRecDepth 8000 in
theorem gg_g {b : fB} {N m : Nat} : ∀ (f ln p : Nat) (s : gS), p ≤ N → gBd b s → (ggF b N m f ln p s).1 = 0 → gBd b (ggF b N m f ln p s).2.2.2
  | 0, _, _, _, _, _, h => absurd h (nn rfl)
  | f + 1, ln, p, s, hp, hs, h => by
    have a := tkF_in (b := b) (n := N) (m := m) (p := p) hp
    unfold ggF at h ⊢
    by_cases g : (tkF b N m p).1 = 0
    · rw [if_pos g]; exact hs
    rw [if_neg g] at h ⊢
    by_cases g2 : (gkF b N m (tkF b N m p) s).1 = 0
    · rw [if_pos g2] at h ⊢
      exact gg_g f _ _ _ (gkF_b (s := s) a.1 a.2.2.1).2 (gkF_g hs a.2.2.1 g2) h
    · rw [if_neg g2] at h; exact absurd h g2
set_option maxRecDepth 8000 in
theorem gBd_0 {b : fB} : gBd b g0 := ⟨fun x hx => absurd hx List.not_mem_nil, fun v hv => (by cases hv), fun q hq => absurd hq List.not_mem_nil⟩
/-- what the model keeps of a GROUND told -/
def hGk (b : fB) (s : gS) (R : Nat → Int32) : Prop := ((R 0).toInt = s.2.1 ∧ (R 1).toInt = s.2.2.1.length ∧ (R 2).toInt = s.1.length ∧ (R 3).toInt = s.2.2.2.1.length ∧ R 4 = s.2.2.2.2.getD 500) ∧
  (∀ i, i < s.1.length → R (5 + i) = (atF (0, 0, 0, 0, 0) s.1 i).2.2.1 ∧ R (13 + i) = (atF (0, 0, 0, 0, 0) s.1 i).2.2.2.1 ∧ R (21 + i) = (atF (0, 0, 0, 0, 0) s.1 i).2.2.2.2) ∧
  (∀ y, y < s.2.2.1.length → ∀ x, x < s.2.1 → (R (29 + (y * s.2.1 + x))).toInt = (b (atF 0 s.2.2.1 y + x)).toInt - 97) ∧
  (∀ i, i < s.2.2.2.1.length → R (173 + 4 * i) = (atF (0, 0, 0, 0) s.2.2.2.1 i).1 ∧ R (173 + 4 * i + 1) = (atF (0, 0, 0, 0) s.2.2.2.1 i).2.1 ∧ R (173 + 4 * i + 2) = (atF (0, 0, 0, 0) s.2.2.2.1 i).2.2.1 ∧ R (173 + 4 * i + 3) = (atF (0, 0, 0, 0) s.2.2.2.1 i).2.2.2)
set_option maxRecDepth 8000 in
theorem hG_dims {b : fB} {s : gS} {R : Nat → Int32} (h : hGk b s R) : Cn R = s.2.1 ∧ Rn R = s.2.2.1.length ∧ Hn R = s.2.2.2.1.length := by
  obtain ⟨⟨h0, h1, -, h3, -⟩, -⟩ := h
  refine ⟨?_, ?_, ?_⟩
  · show (R 0).toInt.toNat = _; omega
  · show (R 1).toInt.toNat = _; omega
  · show (R 3).toInt.toNat = _; omega
set_option maxRecDepth 8000 in
theorem hG_cell {C c N' : Nat} (h : c < C * N') : c / C < N' ∧ c % C < C ∧ c / C * C + c % C = c := by
  have hC : 0 < C := by
    rcases Nat.eq_zero_or_pos C with e | e
    · rw [e, Nat.zero_mul] at h; omega
    · exact e
  refine ⟨Nat.div_lt_of_lt_mul h, Nat.mod_lt _ hC, ?_⟩
  rw [Nat.mul_comm]; exact Nat.div_add_mod c C
set_option maxRecDepth 8000 in
theorem hG_gok {b : fB} {N : Nat} {s : gS} {R : Nat → Int32} (h : hGk b s R) (hO : gOK N s) (hB : gBd b s) : GOK R := by
  obtain ⟨d0, d1, d3⟩ := hG_dims h
  obtain ⟨⟨h0, h1, h2, h3, h4⟩, hk, hr, hs⟩ := h
  obtain ⟨o1, o2, o3, o4, -, o6⟩ := hO
  refine ⟨⟨by omega, by omega, by omega, by omega, by omega, by omega, fun j q1 q2 => ?_⟩, ?_, by omega, fun q hq => ?_, fun c hc => ?_⟩
  · rw [d3] at q2
    obtain ⟨i, r, e, hr4⟩ : ∃ i r : Nat, j = 173 + 4 * i + r ∧ r < 4 := ⟨(j - 173) / 4, (j - 173) % 4, by omega, by omega⟩
    have hi : i < s.2.2.2.1.length := by omega
    obtain ⟨s0, s1, s2, s3⟩ := hs i hi
    obtain ⟨v0, v1, v2, v3⟩ := o6 _ (at_mem (d := (0, 0, 0, 0)) hi)
    have er : r = 0 ∨ r = 1 ∨ r = 2 ∨ r = 3 := by omega
    rcases er with rfl | rfl | rfl | rfl
    · rw [e, Nat.add_zero, s0]; omega
    · rw [e, s1]; omega
    · rw [e, s2]; omega
    · rw [e, s3]; omega
  · rw [h4]
    match hst : s.2.2.2.2 with
    | none => exact ⟨by decide, by decide⟩
    | some v => exact hB.2.1 v hst
  · obtain ⟨k0, k1, k2⟩ := hk q (by omega)
    obtain ⟨v0, v1, v2⟩ := hB.1 _ (at_mem (d := (0, 0, 0, 0, 0)) (show q < s.1.length by omega))
    rw [k0, k1, k2]
    exact ⟨v0, v1, v2⟩
  · have hc2 : c < s.2.1 * s.2.2.1.length := by
      have q : c < Cn R * Rn R := hc
      rw [d0, d1] at q; exact q
    obtain ⟨c1, c2, c3⟩ := hG_cell hc2
    have q := hr _ c1 _ c2
    rw [c3] at q
    obtain ⟨w1, w2⟩ := hB.2.2 _ (at_mem (d := 0) c1) _ c2
    rw [q]; omega
set_option maxRecDepth 8000 in
theorem hG_sky {b : fB} {s : gS} {R : Nat → Int32} (h : hGk b s R) {x y : Int} : ∀ i : Nat, i ≤ s.2.2.2.1.length → mhF R x y i = hdF s.2.2.2.1 x y i
  | 0, _ => rfl
  | i + 1, hi => by
    show mhF R x y i + shF (shM R i) x y = hdF s.2.2.2.1 x y i + shF (atF (0, 0, 0, 0) s.2.2.2.1 i) x y
    obtain ⟨s0, s1, s2, s3⟩ := h.2.2.2 i (by omega)
    have e : shM R i = atF (0, 0, 0, 0) s.2.2.2.1 i := by
      unfold shM
      rw [show 174 + 4 * i = 173 + 4 * i + 1 by omega, show 175 + 4 * i = 173 + 4 * i + 2 by omega, show 176 + 4 * i = 173 + 4 * i + 3 by omega, s0, s1, s2, s3]
    rw [hG_sky h i (by omega), e]
set_option maxRecDepth 8000 in
/-- a GROUND told: both states -/
theorem srel_ground {I' : Nat → Nat → Int32} {b : fB} {N : Nat} {s : gS} {R' : Nat → Int32} (h : hGk b s R') (hO : gOK N s) (hB : gBd b s) (hC : GCp I' b s) (hn : ∀ q, q < 6 → I' (58 + 7 * q) 0 = 0) (hp : I' 11 0 = 0) (hr : I' 43 0 = 0)
    (h0 : ∀ j, 221 ≤ j → j < 1427 → (∀ k, k < 6 → j ≠ 221 + 97 * k) → R' j = 0) (h1 : ∀ k, k < 6 → R' (221 + 97 * k) = -1) : SREL I' 3 R' := by
  have hG := hG_gok h hO hB
  obtain ⟨d0, d1, d3⟩ := hG_dims h
  have k0 : (0 : Int32).toInt = 0 := rfl
  have km : (-1 : Int32).toInt = -1 := rfl
  have z803 : R' 803 = 0 := h0 803 (by decide) (by decide) (fun k hk => by omega)
  have z894 : R' 894 = 0 := h0 894 (by decide) (by decide) (fun k hk => by omega)
  obtain ⟨⟨a0, a1, a2, a3, a4⟩, ak, ac⟩ := hC
  obtain ⟨⟨b0, b1, b2, b3, b4⟩, bk, bc, -⟩ := id h
  refine ⟨hG, ⟨fun j hj => ?_, fun q hq => ?_, fun c hc => ?_⟩, fun q hq => Or.inl ⟨?_, ?_⟩, ⟨?_, ?_, fun i hi => ?_⟩, Or.inl ⟨hr, z894⟩⟩
  · match j, hj with
    | 0, _ => exact i_eq (a0.trans b0.symm)
    | 1, _ => exact i_eq (a1.trans b1.symm)
    | 2, _ => exact i_eq (a2.trans b2.symm)
    | 3, _ => exact i_eq (a3.trans b3.symm)
    | 4, _ => exact a4.trans b4.symm
    | k + 5, h => exact absurd h (by omega)
  · obtain ⟨p0, p1, p2⟩ := ak q (by omega)
    obtain ⟨q0, q1, q2⟩ := bk q (by omega)
    exact ⟨p0.trans q0.symm, p1.trans q1.symm, p2.trans q2.symm⟩
  · have hc2 : c < s.2.1 * s.2.2.1.length := by
      have q : c < Cn R' * Rn R' := hc
      rw [d0, d1] at q; exact q
    obtain ⟨c1, c2, c3⟩ := hG_cell hc2
    have p := ac _ c1 _ c2
    have q := bc _ c1 _ c2
    rw [c3] at p q
    refine ⟨i_eq (p.1.trans q.symm), ?_⟩
    have e : (I' 9 c).toInt = skyF s (c % s.2.1) (c / s.2.1) := p.2
    show (I' 9 c).toInt = max 0 (100 - mhF R' ((c % Cn R' : Nat) : Int) ((c / Cn R' : Nat) : Int) (Hn R'))
    rw [e, d0, d3, hG_sky h _ (Nat.le_refl _)]
    rfl
  · rw [show 3 + 55 + 7 * q = 58 + 7 * q by omega]; exact hn q hq
  · show (R' (221 + 97 * q + 0)).toInt < 0
    rw [Nat.add_zero, h1 q hq, km]; decide
  · rw [z803]; exact hp
  · rw [z803, k0]; decide
  · rw [z803, k0] at hi; omega
end
section
/-! ===== the RUN now: what lies in it, purely ===== -/
/-- a CELL of the RUN now, its sky bare or covered -/
def cvG (R cv : Nat → Int32) : Nat → rC := fun c => (R (5 + kdR R c), R (13 + kdR R c), R (21 + kdR R c), if cv c = 1 then 0 else skI R c)
abbrev dR (R : Nat → Int32) : Nat := (R 895).toInt.toNat
abbrev cvR (R : Nat → Int32) : Nat → Int32 := fun c => R (1283 + c)
abbrev ruG (R cv : Nat → Int32) (d k : Nat) (s : rS) : rS := ruF 0 (Nn R) (fun _ => cvG R cv) (gT (rnS R)) d k s
/-- of the bounds -/
def GP (R cv : Nat → Int32) (s : rS) (d : Nat) : Prop := PUR (Nn R) (fun _ => cvG R cv) (gT (rnS R)) s d ∧ d ≤ 144 ∧ ∀ c, c < Nn R → cv c = 0 ∨ cv c = 1
/-- the class's RUN at A -/
def GC (I : Nat → Nat → Int32) (A : Nat) (R cv : Nat → Int32) (s : rS) (d : Nat) : Prop := CSK I A (Nn R) 0 (fun _ => cvG R cv) (gT (rnS R)) s d 0 ∧ ∀ c, c < Nn R → I (A + 12) c = cv c ∧ cfC I A c = cvG R cv c
/-- the model's -/
def GM (I : Nat → Nat → Int32) (R cv : Nat → Int32) (s : rS) (d : Nat) : Prop := I 406 = R ∧ (I 404 38).toInt = d ∧ I 404 35 = -1 ∧ MSK I (Nn R) 0 (fun _ => cvG R cv) (gT (rnS R)) s d 0 ∧ ∀ c, c < Nn R → I 420 c = cv c ∧ I 419 c = R (29 + c)
set_option maxRecDepth 8000 in
theorem csk_0 {I : Nat → Nat → Int32} {A N st d k : Nat} {C : Nat → Nat → rC} {T : Nat → rN} {s0 : rS} (h : CSK I A N st C T s0 d k) : CSK I A N st C T (ruF st N C T d k s0) (d + k) 0 := h
set_option maxRecDepth 8000 in
theorem msk_0 {I : Nat → Nat → Int32} {N st d k : Nat} {C : Nat → Nat → rC} {T : Nat → rN} {s0 : rS} (h : MSK I N st C T s0 d k) : MSK I N st C T (ruF st N C T d k s0) (d + k) 0 := h
set_option maxRecDepth 8000 in
theorem cv_ok {R cv : Nat → Int32} (hG : GOK R) {c : Nat} (hc : c < Nn R) : cOK (cvG R cv c) := by
  obtain ⟨a, b, d, e, f⟩ := gok_c hG hc
  refine ⟨a, b, d, ?_, ?_⟩
  · show 0 ≤ (if cv c = 1 then (0 : Int32) else skI R c).toInt
    split
    · decide
    · exact e
  · show (if cv c = 1 then (0 : Int32) else skI R c).toInt ≤ 100
    split
    · decide
    · exact f
set_option maxRecDepth 8000 in
theorem gp_on {R cv : Nat → Int32} {s : rS} {d k : Nat} (h : GP R cv s d) (hk : d + k ≤ 144) : GP R cv (ruG R cv d k s) (d + k) :=
  ⟨⟨h.1.1, fun τ q => h.1.2.1 τ (by omega), fun t q => h.1.2.2.1 t (by omega), pur_ok h.1 k hk⟩, hk, h.2.2⟩
def wpS (s : rS) (c : Nat) : rS := (s.1, upF s.2.1 c 0, s.2.2.1, s.2.2.2)
set_option maxRecDepth 8000 in
theorem gp_wipe {R cv : Nat → Int32} {s : rS} {d c : Nat} (h : GP R cv s d) : GP R cv (wpS s c) d := by
  obtain ⟨⟨h1, h2, h3, g1, g2, g3, g4⟩, h5, h6⟩ := h
  have k0 : (0 : Int32).toInt = 0 := rfl
  refine ⟨⟨h1, h2, h3, g1, fun j hj => ?_, g3, ?_⟩, h5, h6⟩
  · show 0 ≤ (upF s.2.1 c 0 j).toInt
    by_cases e : j = c
    · rw [e, upF_at, k0]; exact Int.le_refl 0
    · rw [upF_ne e]; exact g2 j hj
  · show s.2.2.1.toInt + smF (upF s.2.1 c 0) (Nn R) ≤ 999 + 1296 * (d : Int)
    rw [sm_up, k0]
    split
    · next hc => have := g2 c hc; omega
    · omega
set_option maxRecDepth 8000 in
theorem gp_cv {R cv : Nat → Int32} {s : rS} {d c : Nat} {v : Int32} (hG : GOK R) (hv : v = 0 ∨ v = 1) (h : GP R cv s d) : GP R (upF cv c v) s d :=
  ⟨⟨h.1.1, fun _ _ _ j hj => cv_ok hG hj, h.1.2.2.1, h.1.2.2.2⟩, h.2.1, fun j hj => by
    by_cases e : j = c
    · rw [e, upF_at]; exact hv
    · rw [upF_ne e]; exact h.2.2 j hj⟩
set_option maxRecDepth 8000 in
/-- where it starts -/
theorem rr_go {I : Nat → Nat → Int32} {A : Nat} {R : Nat → Int32} (hG : GOK R) (hR : RR I A R) (h1 : R 894 ≠ 0) : GC I A R (cvR R) (rrS R) (dR R) ∧ GP R (cvR R) (rrS R) (dR R) ∧ NOK (rnS R) ∧ I A 0 = 1 := by
  rcases hR with ⟨-, e⟩ | ⟨h0, -, hN, h2, ⟨b0, b1⟩, h3, h4, h5, h6, hS, hn, hc, hok⟩
  · exact absurd e h1
  have hd : (R 895).toInt = (dR R : Nat) := by
    show (R 895).toInt = (((R 895).toInt.toNat : Nat) : Int); omega
  have cf : ∀ c, c < Nn R → cfC I A c = cvG R (cvR R) c := fun c hcN => by
    obtain ⟨e8, e9, e10, -, -, e11, -⟩ := hc c hcN
    unfold cfC cvG
    rw [e8, e9, e10, e11]
  refine ⟨⟨⟨fun τ _ _ c hcN => cf c hcN, fun t _ ht => ?_, ⟨fun c hcN => (hc c hcN).2.2.2.2.2.2.1, fun c hcN => (hc c hcN).2.2.2.2.2.2.2, h3, h4⟩, hN, ?_, ?_, fun c hcN => ?_⟩, fun c hcN => ⟨(hc c hcN).2.2.2.1, cf c hcN⟩⟩, ⟨⟨(gok_N hG).2, fun τ _ _ c hcN => cv_ok hG hcN, fun t _ ht => hS.2 t ht, ?_⟩, ?_, fun c hcN => (hc c hcN).2.2.2.2.1⟩, hS, h0⟩
  · unfold tnC gT
    rw [h6, if_neg hi_0, hn 0 (by decide) t ht, hn 1 (by decide) t ht, hn 2 (by decide) t ht, hn 3 (by decide) t ht, hn 4 (by decide) t ht]
  · rw [h5]; rfl
  · rw [h2]; exact hd
  · obtain ⟨⟨a, b⟩, -⟩ := gok_c hG hcN
    rw [(hc c hcN).1]
    exact ⟨a, Int.le_trans b (by decide)⟩
  · have q := hok
    rw [hd] at q
    exact q
  · omega
set_option maxRecDepth 8000 in
theorem gc_cv {I I' : Nat → Nat → Int32} {A : Nat} {R cv : Nat → Int32} {s : rS} {d k : Nat} {v : Int32} (h : GC I A R cv s d) (hr : ∀ a, a ≠ A + 11 → a ≠ A + 12 → I' a = I a) (h12 : ∀ c, c ≠ k → I' (A + 12) c = I (A + 12) c) (h11 : ∀ c, c ≠ k → I' (A + 11) c = I (A + 11) c) (e12 : I' (A + 12) k = v) (e11 : I' (A + 11) k = if v = 1 then 0 else skI R k) : GC I' A R (upF cv k v) s d := by
  obtain ⟨⟨hc, ht, hs, h1, h5, h2, hh⟩, hv⟩ := h
  have rA : I' A = I A := hr A (by omega) (by omega)
  have cf : ∀ c, c < Nn R → cfC I' A c = cvG R (upF cv k v) c := fun c hcN => by
    have e := (hv c hcN).2
    have e8 : I (A + 8) c = R (5 + kdR R c) := congrArg (·.1) e
    have e9 : I (A + 9) c = R (13 + kdR R c) := congrArg (·.2.1) e
    have e10 : I (A + 10) c = R (21 + kdR R c) := congrArg (·.2.2.1) e
    have e0 : I (A + 11) c = if cv c = 1 then 0 else skI R c := congrArg (·.2.2.2) e
    unfold cfC cvG
    rw [hr (A + 8) (by omega) (by omega), hr (A + 9) (by omega) (by omega), hr (A + 10) (by omega) (by omega), e8, e9, e10]
    by_cases g : c = k
    · rw [g, upF_at, e11]
    · rw [upF_ne g, h11 c g, e0]
  refine ⟨⟨fun τ q1 q2 c hcN => cf c hcN, fun t q1 q2 => ?_, ?_, by rw [rA]; exact h1, by rw [rA]; exact h5, by rw [rA]; exact h2, fun c hcN => ?_⟩, fun c hcN => ⟨?_, cf c hcN⟩⟩
  · rw [← ht t q1 q2]
    unfold tnC
    rw [rA, hr (A + 1 + 2 + 0) (by omega) (by omega), hr (A + 1 + 2 + 1) (by omega) (by omega), hr (A + 1 + 2 + 2) (by omega) (by omega), hr (A + 1 + 2 + 3) (by omega) (by omega), hr (A + 1 + 2 + 4) (by omega) (by omega)]
  · have e : srC I' A = srC I A := by
      unfold srC
      rw [rA, hr (A + 13) (by omega) (by omega), hr (A + 14) (by omega) (by omega)]
    rw [e]; exact hs
  · rw [hr (A + 8) (by omega) (by omega)]; exact hh c hcN
  · by_cases g : c = k
    · rw [g, upF_at]; exact e12
    · rw [upF_ne g, h12 c g]; exact (hv c hcN).1
set_option maxRecDepth 8000 in
theorem gc_wipe {I I' : Nat → Nat → Int32} {A : Nat} {R cv : Nat → Int32} {s : rS} {d k : Nat} (h : GC I A R cv s d) (hr : ∀ a, a ≠ A + 14 → I' a = I a) (h14 : ∀ c, c ≠ k → I' (A + 14) c = I (A + 14) c) (e14 : I' (A + 14) k = 0) : GC I' A R cv (wpS s k) d := by
  obtain ⟨⟨hc, ht, ⟨s1, s2, s3, s4⟩, h1, h5, h2, hh⟩, hv⟩ := h
  have rA : I' A = I A := hr A (by omega)
  have cf : ∀ c, c < Nn R → cfC I' A c = cvG R cv c := fun c hcN => by
    rw [← (hv c hcN).2]
    unfold cfC
    rw [hr (A + 8) (by omega), hr (A + 9) (by omega), hr (A + 10) (by omega), hr (A + 11) (by omega)]
  refine ⟨⟨fun τ q1 q2 c hcN => cf c hcN, fun t q1 q2 => ?_, ⟨fun c hcN => ?_, fun c hcN => ?_, ?_, ?_⟩, by rw [rA]; exact h1, by rw [rA]; exact h5, by rw [rA]; exact h2, fun c hcN => ?_⟩, fun c hcN => ⟨?_, cf c hcN⟩⟩
  · rw [← ht t q1 q2]
    unfold tnC
    rw [rA, hr (A + 1 + 2 + 0) (by omega), hr (A + 1 + 2 + 1) (by omega), hr (A + 1 + 2 + 2) (by omega), hr (A + 1 + 2 + 3) (by omega), hr (A + 1 + 2 + 4) (by omega)]
  · show I' (A + 13) c = s.1 c
    rw [hr (A + 13) (by omega)]; exact s1 c hcN
  · show I' (A + 14) c = upF s.2.1 k 0 c
    by_cases g : c = k
    · rw [g, upF_at]; exact e14
    · rw [upF_ne g, h14 c g]; exact s2 c hcN
  · show I' A 3 = s.2.2.1
    rw [rA]; exact s3
  · show I' A 4 = s.2.2.2
    rw [rA]; exact s4
  · rw [hr (A + 8) (by omega)]; exact hh c hcN
  · rw [hr (A + 12) (by omega)]; exact (hv c hcN).1
set_option maxRecDepth 8000 in
/-- nothing of it changed: of two places -/
theorem gc_cp {I I' : Nat → Nat → Int32} {A A' : Nat} {R cv : Nat → Int32} {s : rS} {d : Nat} (h : GC I A R cv s d) (hN : Nn R ≤ 144) (hf : ∀ j, j < 7 → I' A' j = I A j) (hn : ∀ w, w < 5 → ∀ t, t < 144 → I' (A' + 1 + 2 + w) t = I (A + 1 + 2 + w) t) (hI : ∀ i, 8 ≤ i → i ≤ 14 → ∀ c, c < 144 → I' (A' + i) c = I (A + i) c) : GC I' A' R cv s d := by
  obtain ⟨⟨hc, ht, ⟨s1, s2, s3, s4⟩, h1, h5, h2, hh⟩, hv⟩ := h
  have cf : ∀ c, c < Nn R → cfC I' A' c = cvG R cv c := fun c hcN => by
    rw [← (hv c hcN).2]
    unfold cfC
    rw [hI 8 (by decide) (by decide) c (by omega), hI 9 (by decide) (by decide) c (by omega), hI 10 (by decide) (by decide) c (by omega), hI 11 (by decide) (by decide) c (by omega)]
  refine ⟨⟨fun τ q1 q2 c hcN => cf c hcN, fun t q1 q2 => ?_, ⟨fun c hcN => ?_, fun c hcN => ?_, ?_, ?_⟩, by rw [hf 1 (by decide)]; exact h1, by rw [hf 5 (by decide)]; exact h5, by rw [hf 2 (by decide)]; exact h2, fun c hcN => ?_⟩, fun c hcN => ⟨?_, cf c hcN⟩⟩
  · rw [← ht t q1 q2]
    unfold tnC
    rw [hf 6 (by decide), hn 0 (by decide) t q2, hn 1 (by decide) t q2, hn 2 (by decide) t q2, hn 3 (by decide) t q2, hn 4 (by decide) t q2]
  · show I' (A' + 13) c = s.1 c
    rw [hI 13 (by decide) (by decide) c (by omega)]; exact s1 c hcN
  · show I' (A' + 14) c = s.2.1 c
    rw [hI 14 (by decide) (by decide) c (by omega)]; exact s2 c hcN
  · show I' A' 3 = s.2.2.1
    rw [hf 3 (by decide)]; exact s3
  · show I' A' 4 = s.2.2.2
    rw [hf 4 (by decide)]; exact s4
  · rw [hI 8 (by decide) (by decide) c (by omega)]; exact hh c hcN
  · rw [hI 12 (by decide) (by decide) c (by omega)]; exact (hv c hcN).1
/-- the row behind going on -/
def mOn (R R' cv : Nat → Int32) (s : rS) (d : Nat) : Prop := (∀ j, j < 995 → j ≠ 896 → j ≠ 897 → j ≠ 895 → R' j = R j) ∧ (R' 895).toInt = d ∧ R' 896 = s.2.2.1 ∧ R' 897 = s.2.2.2 ∧ ∀ c, c < Nn R → R' (995 + c) = s.1 c ∧ R' (1139 + c) = s.2.1 c ∧ R' (1283 + c) = cv c
set_option maxRecDepth 8000 in
theorem srel_go {I I' : Nat → Nat → Int32} {R R' cv : Nat → Int32} {s : rS} {d : Nat} (h : SREL I 3 R) (h894 : R 894 ≠ 0) (hr : ∀ a, 3 ≤ a → a ≤ 99 → a ≠ 43 → (a < 54 ∨ 57 < a) → I' a = I a) (hf : ∀ j, j ≠ 2 → j ≠ 3 → j ≠ 4 → I' 43 j = I 43 j) (hC : GC I' 43 R cv s d) (hP : GP R cv s d) (hM : mOn R R' cv s d) : SREL I' 3 R' := by
  obtain ⟨hG, h1, h2, h3, h4⟩ := h
  obtain ⟨m0, m1, m2, m3, mc⟩ := hM
  have e221 : ∀ j, j < 221 → R' j = R j := fun j hj => m0 j (by omega) (by omega) (by omega) (by omega)
  have hN9 := (gok_N hG).2
  have hN := Nn_eq e221
  obtain ⟨-, -, hS, a0⟩ := rr_go hG h4 h894
  have e97 : ∀ j, j < 97 → rnS R' j = rnS R j := fun j hj => m0 (898 + j) (by omega) (by omega) (by omega) (by omega)
  have hS' := nok_eq e97 hS
  have hU := nU_eq e97 hS
  have h4' : (I 43 1).toInt = Nn R ∧ I 43 5 = 0 ∧ I 43 6 = 0 ∧ ∀ w, w < 5 → ∀ t, t < 144 → I (43 + 1 + 2 + w) t = ndF (nU (rnS R)) w t := by
    rcases h4 with ⟨-, e⟩ | ⟨-, -, q1, -, -, -, -, q5, q6, -, qn, -⟩
    · exact absurd e h894
    · exact ⟨q1, q5, q6, qn⟩
  obtain ⟨q1, q5, q6, qn⟩ := h4'
  obtain ⟨⟨hc, ht, ⟨s1, s2, s3, s4⟩, c1, c5, c2, hh⟩, hv⟩ := hC
  obtain ⟨⟨p1, p2, p3, p4⟩, p5, p6⟩ := hP
  refine ⟨gok_eq e221 hG, rg_eq e221 (fun j _ => by rw [hr (3 + 1) (by omega) (by omega) (by omega) (by omega)]) (fun j _ => ⟨by rw [hr (3 + 1 + 1) (by omega) (by omega) (by omega) (by omega)], by rw [hr (3 + 1 + 2) (by omega) (by omega) (by omega) (by omega)], by rw [hr (3 + 1 + 3) (by omega) (by omega) (by omega) (by omega)]⟩) (fun c _ => ⟨by rw [hr (3 + 1 + 4) (by omega) (by omega) (by omega) (by omega)], by rw [hr (3 + 1 + 5) (by omega) (by omega) (by omega) (by omega)]⟩) hG h1, fun s' hs' => ?_, rp_eq e221 (fun j q1 q2 => m0 j (by omega) (by omega) (by omega) (by omega)) (by rw [hr (3 + 8) (by omega) (by omega) (by omega) (by omega)]) (fun i hi t _ => by rw [hr (3 + 8 + 2 + i) (by omega) (by omega) (by omega) (by omega)]) h3, Or.inr ⟨?_, ?_, ?_, ?_, ?_, ?_, ?_, ?_, ?_, hS', fun w hw t ht => ?_, fun c hcN => ?_, ?_⟩⟩
  · exact rn_eq (fun j hj => m0 _ (by omega) (by omega) (by omega) (by omega)) (by rw [hr (3 + 55 + 7 * s') (by omega) (by omega) (by omega) (by omega)]) (fun w hw t _ => by rw [hr (3 + 55 + 7 * s' + 2 + w) (by omega) (by omega) (by omega) (by omega)]) (h2 s' hs')
  · show I' 43 0 = 1
    rw [hf 0 (by decide) (by decide) (by decide)]; exact a0
  · rw [m0 894 (by decide) (by decide) (by decide) (by decide)]
    rcases h4 with ⟨-, e⟩ | ⟨-, e, -⟩
    · exact absurd e h894
    · exact e
  · show (I' 43 1).toInt = Nn R'
    rw [hN]; exact c1
  · show I' 43 2 = R' 895
    exact i_eq (by rw [m1]; exact c2)
  · rw [m1]; omega
  · show I' 43 3 = R' 896
    rw [m2]; exact s3
  · show I' 43 4 = R' 897
    rw [m3]; exact s4
  · show I' 43 5 = 0
    rw [hf 5 (by decide) (by decide) (by decide)]; exact q5
  · show I' 43 6 = 0
    rw [hf 6 (by decide) (by decide) (by decide)]; exact q6
  · rw [hU]
    show I' (43 + 1 + 2 + w) t = _
    rw [hr (43 + 1 + 2 + w) (by omega) (by omega) (by omega) (by omega)]; exact qn w hw t ht
  · rw [hN] at hcN
    obtain ⟨r1, r2, r3⟩ := mc c hcN
    have hk : kdR R' c = kdR R c := kd_eq e221 (by omega)
    have hsk : skI R' c = skI R c := skI_eq e221 hG
    obtain ⟨k1, k2, -⟩ := gok_k hG hcN
    have k9 : kdR R c < 8 := by
      show (R (29 + c)).toInt.toNat < 8; omega
    have hv' := hv c hcN
    have e8 : I' (43 + 8) c = R (5 + kdR R c) := congrArg (·.1) hv'.2
    have e9 : I' (43 + 9) c = R (13 + kdR R c) := congrArg (·.2.1) hv'.2
    have e10 : I' (43 + 10) c = R (21 + kdR R c) := congrArg (·.2.2.1) hv'.2
    have e11 : I' (43 + 11) c = if cv c = 1 then 0 else skI R c := congrArg (·.2.2.2) hv'.2
    rw [hk, e221 (5 + kdR R c) (by omega), e221 (13 + kdR R c) (by omega), e221 (21 + kdR R c) (by omega), r1, r2, r3, hsk]
    exact ⟨e8, e9, e10, hv'.1, p6 c hcN, e11, s1 c hcN, s2 c hcN⟩
  · rw [hN, m1]
    exact rok_eq ⟨fun c hcN => (mc c hcN).1, fun c hcN => (mc c hcN).2.1, m2, m3⟩ p4
/-- the row behind begin -/
def mBeg (R R' : Nat → Int32) (s : Nat) : Prop := (∀ j, j < 894 → R' j = R j) ∧ R' 894 = 1 ∧ R' 895 = 0 ∧ R' 896 = R 4 ∧ R' 897 = 0 ∧ (∀ q, q < 97 → R' (898 + q) = nS R s q) ∧ ∀ c, c < Nn R → R' (995 + c) = 100 * ndF (nU (nS R s)) 2 0 ∧ R' (1139 + c) = 0 ∧ R' (1283 + c) = 0
set_option maxRecDepth 8000 in
/-- what comes of a NIGHT begun -/
theorem srel_begin {I I' : Nat → Nat → Int32} {R R' : Nat → Int32} {q : Nat} (h : SREL I 3 R) (hS : NOK (nS R q)) (hq : q < 6) (hr : ∀ a, 3 ≤ a → a ≤ 99 → (a < 43 ∨ 57 < a) → I' a = I a) (h0 : I' 43 0 = 1) (hC : CST I' 43 R (nS R q)) (h6 : I' 43 6 = 0) (hn : ∀ w, w < 5 → ∀ t, t < 144 → I' (43 + 1 + 2 + w) t = ndF (nU (nS R q)) w t) (h12 : ∀ c, c < Nn R → I' (43 + 12) c = 0) (hM : mBeg R R' q) : SREL I' 3 R' := by
  obtain ⟨hG, h1, h2, h3, h4⟩ := h
  obtain ⟨m0, m1, m2, m3, m4, m5, mc⟩ := hM
  have e221 : ∀ j, j < 221 → R' j = R j := fun j hj => m0 j (by omega)
  have hN9 := (gok_N hG).2
  have hN := Nn_eq e221
  have k0 : (0 : Int32).toInt = 0 := rfl
  have hS' := nok_eq (S := nS R q) (S' := rnS R') m5 hS
  have hU := nU_eq (S := nS R q) (S' := rnS R') m5 hS
  obtain ⟨hc, ht, ⟨s1, s2, s3, s4⟩, c1, c5, c2⟩ := hC
  refine ⟨gok_eq e221 hG, rg_eq e221 (fun j _ => by rw [hr (3 + 1) (by omega) (by omega) (by omega)]) (fun j _ => ⟨by rw [hr (3 + 1 + 1) (by omega) (by omega) (by omega)], by rw [hr (3 + 1 + 2) (by omega) (by omega) (by omega)], by rw [hr (3 + 1 + 3) (by omega) (by omega) (by omega)]⟩) (fun c _ => ⟨by rw [hr (3 + 1 + 4) (by omega) (by omega) (by omega)], by rw [hr (3 + 1 + 5) (by omega) (by omega) (by omega)]⟩) hG h1, fun s' hs' => ?_, rp_eq e221 (fun j _ _ => m0 j (by omega)) (by rw [hr (3 + 8) (by omega) (by omega) (by omega)]) (fun i hi t _ => by rw [hr (3 + 8 + 2 + i) (by omega) (by omega) (by omega)]) h3, Or.inr ⟨h0, m1, ?_, ?_, ?_, ?_, ?_, ?_, h6, hS', fun w hw t ht => ?_, fun c hcN => ?_, ?_⟩⟩
  · exact rn_eq (fun j hj => m0 _ (by omega)) (by rw [hr (3 + 55 + 7 * s') (by omega) (by omega) (by omega)]) (fun w hw t _ => by rw [hr (3 + 55 + 7 * s' + 2 + w) (by omega) (by omega) (by omega)]) (h2 s' hs')
  · show (I' 43 1).toInt = Nn R'
    rw [hN]; exact c1
  · show I' 43 2 = R' 895
    rw [m2]; exact i_eq c2
  · rw [m2, k0]; omega
  · show I' 43 3 = R' 896
    rw [m3]; exact s3
  · show I' 43 4 = R' 897
    rw [m4]; exact s4
  · exact i_eq c5
  · rw [hU]; exact hn w hw t ht
  · rw [hN] at hcN
    obtain ⟨r1, r2, r3⟩ := mc c hcN
    have hk : kdR R' c = kdR R c := kd_eq e221 (by omega)
    have hsk : skI R' c = skI R c := skI_eq e221 hG
    obtain ⟨k1, k2, -⟩ := gok_k hG hcN
    have k9 : kdR R c < 8 := by
      show (R (29 + c)).toInt.toNat < 8; omega
    have e := hc c hcN
    have e8 : I' (43 + 8) c = R (5 + kdR R c) := congrArg (·.1) e
    have e9 : I' (43 + 9) c = R (13 + kdR R c) := congrArg (·.2.1) e
    have e10 : I' (43 + 10) c = R (21 + kdR R c) := congrArg (·.2.2.1) e
    have e11 : I' (43 + 11) c = skI R c := congrArg (·.2.2.2) e
    rw [hk, e221 (5 + kdR R c) (by omega), e221 (13 + kdR R c) (by omega), e221 (21 + kdR R c) (by omega), r1, r2, r3, hsk, if_neg (by decide)]
    exact ⟨e8, e9, e10, h12 c hcN, Or.inl rfl, e11, s1 c hcN, s2 c hcN⟩
  · rw [hN, m2, k0]
    exact rok_eq ⟨fun c hcN => (mc c hcN).1, fun c hcN => (mc c hcN).2.1, m3, m4⟩ (g0_ok hG hS)
/-! ===== the LINES of a PLAN done, purely ===== -/
/-- sky covered, RUN, STEPS done -/
abbrev gL : Type := (Nat → Int32) × rS × Nat
abbrev pLA (R : Nat → Int32) (i : Nat) : Nat := (R (805 + 3 * i)).toInt.toNat
/-- a LINE done: why WRONG (0: it is not), WATER taken, what comes of it -/
def lnF (R : Nat → Int32) (i : Nat) (g : gL) : Nat × Int32 × gL :=
  if (R (804 + 3 * i)).toInt = 0 then (if 144 < g.2.2 + pLA R i then (1, 0, g) else (0, 0, (g.1, ruG R g.1 g.2.2 (pLA R i) g.2.1, g.2.2 + pLA R i)))
  else if (R (804 + 3 * i)).toInt = 1 then (if g.2.1.2.1 (pLA R i) = 0 then (2, 0, g) else (0, g.2.1.2.1 (pLA R i), (g.1, wpS g.2.1 (pLA R i), g.2.2)))
  else if (R (804 + 3 * i)).toInt = 2 then (if g.1 (pLA R i) = 1 then (3, 0, g) else (0, 0, (upF g.1 (pLA R i) 1, g.2)))
  else (if g.1 (pLA R i) = 0 then (3, 0, g) else (0, 0, (upF g.1 (pLA R i) 0, g.2)))
/-- f LINES from the i-th on: why WRONG, which, WATER taken, what comes of them -/
def goF (R : Nat → Int32) : Nat → Nat → gL → Nat × Nat × Int32 × gL
  | 0, i, g => (0, i, 0, g)
  | f + 1, i, g => if (lnF R i g).1 = 0 then ((goF R f (i + 1) (lnF R i g).2.2).1, (goF R f (i + 1) (lnF R i g).2.2).2.1, (lnF R i g).2.1 + (goF R f (i + 1) (lnF R i g).2.2).2.2.1, (goF R f (i + 1) (lnF R i g).2.2).2.2.2)
    else ((lnF R i g).1, i, (lnF R i g).2.1, (lnF R i g).2.2)
set_option maxRecDepth 8000 in
theorem gc_req {I : Nat → Nat → Int32} {A : Nat} {R cv : Nat → Int32} {s s' : rS} {d : Nat} (h : GC I A R cv s d) (g : rEq (Nn R) s s') : GC I A R cv s' d :=
  ⟨⟨h.1.1, h.1.2.1, rEq.trans h.1.2.2.1 g, h.1.2.2.2⟩, h.2⟩
set_option maxRecDepth 8000 in
theorem wp_0 {N : Nat} {s : rS} {c : Nat} (h : s.2.1 c = 0) : rEq N (wpS s c) s :=
  ⟨fun _ _ => rfl, fun j _ => by
    show upF s.2.1 c 0 j = s.2.1 j
    by_cases e : j = c
    · rw [e, upF_at, h]
    · exact upF_ne e, rfl, rfl⟩
set_option maxRecDepth 8000 in
/-- nothing of it changed but at the head -/
theorem gc_fr {I I' : Nat → Nat → Int32} {A : Nat} {R cv : Nat → Int32} {s : rS} {d : Nat} (h : GC I A R cv s d) (hN : Nn R ≤ 144) (hr : ∀ a, A ≤ a → a ≤ A + 14 → I' a = I a) : GC I' A R cv s d :=
  gc_cp h hN (fun j _ => by rw [hr A (Nat.le_refl A) (by omega)]) (fun w hw t _ => by rw [hr (A + 1 + 2 + w) (by omega) (by omega)]) (fun i i1 i2 c _ => by rw [hr (A + i) (by omega) (by omega)])
set_option maxRecDepth 8000 in
theorem gc_until {I I' : Nat → Nat → Int32} {A : Nat} {R cv : Nat → Int32} {s : rS} {d k : Nat} (h : GC I A R cv s d) (g1 : ∀ a, a ≠ A → a ≠ A + 13 → a ≠ A + 14 → I' a = I a) (g3 : CSK I' A (Nn R) 0 (fun _ => cvG R cv) (gT (rnS R)) s d k) : GC I' A R cv (ruG R cv d k s) (d + k) :=
  ⟨csk_0 g3, fun c hc => ⟨by rw [g1 (A + 12) (by omega) (by omega) (by omega)]; exact (h.2 c hc).1, by rw [cf_eq g1]; exact (h.2 c hc).2⟩⟩
/-- the LINES of a PLAN, within bounds -/
def PB (R : Nat → Int32) (i : Nat) : Prop := (0 ≤ (R (804 + 3 * i)).toInt ∧ (R (804 + 3 * i)).toInt ≤ 3) ∧ (R (805 + 3 * i)).toInt = (pLA R i : Nat) ∧ ((R (804 + 3 * i)).toInt = 0 → pLA R i ≤ 144) ∧ ((R (804 + 3 * i)).toInt ≠ 0 → pLA R i < Nn R)
set_option maxRecDepth 8000 in
theorem rp_b {I : Nat → Nat → Int32} {P : Nat} {R : Nat → Int32} (hG : GOK R) (h : RP I P R) {i : Nat} (hi : (i : Int) < (R 803).toInt) : PB R i := by
  obtain ⟨-, -, pl⟩ := h
  obtain ⟨q0, q1, q3, q4⟩ := pl i hi
  by_cases g : (I (P + 2 + i) 0).toInt = 0
  · obtain ⟨z1, z2, z3⟩ := q3 g
    have e : (R (805 + 3 * i)).toInt = (pLA R i : Nat) := by
      show (R (805 + 3 * i)).toInt = (((R (805 + 3 * i)).toInt.toNat : Nat) : Int)
      rw [z1]; omega
    refine ⟨by rw [q0]; exact q1, e, fun _ => ?_, fun q => absurd (by rw [q0]; exact g) q⟩
    rw [z1] at e; omega
  · obtain ⟨z1, ⟨z2, z3⟩, z4, z5⟩ := q4 g
    have ok : okC R (I (P + 2 + i) 1) (I (P + 2 + i) 2) := ⟨z2, z3, z4, z5⟩
    have e1 := (cN_i hG ok).2
    have hpa : pLA R i = cN R (I (P + 2 + i) 1) (I (P + 2 + i) 2) := by
      show (R (805 + 3 * i)).toInt.toNat = _
      rw [z1, e1]; exact Int.toNat_natCast _
    refine ⟨by rw [q0]; exact q1, by rw [z1, e1, hpa], fun q => absurd (by rw [← q0]; exact q) g, fun _ => ?_⟩
    rw [hpa]; exact cN_lt ok
set_option maxRecDepth 8000 in
theorem msk_eq {I I' : Nat → Nat → Int32} {N st d k : Nat} {C : Nat → Nat → rC} {T : Nat → rN} {s0 : rS} (hr : ∀ a, a = 406 ∨ (411 ≤ a ∧ a ≤ 419) → I' a = I a) (hf : ∀ j, 32 ≤ j → j ≤ 37 → I' 404 j = I 404 j) (h : MSK I N st C T s0 d k) : MSK I' N st C T s0 d k := by
  obtain ⟨hc, ht, hs, hN, h5, hkd⟩ := h
  have ec : ∀ τ, cfM I' τ = cfM I τ := fun τ => by
    funext c
    unfold cfM syM
    rw [hr 406 (Or.inl rfl), hr 419 (Or.inr ⟨by decide, by decide⟩), hr 418 (Or.inr ⟨by decide, by decide⟩), hf 35 (by decide) (by decide), hf 36 (by decide) (by decide), hf 37 (by decide) (by decide)]
  have et : ∀ t, tnM I' t = tnM I t := fun t => by
    unfold tnM
    rw [hr 411 (Or.inr ⟨by decide, by decide⟩), hr 412 (Or.inr ⟨by decide, by decide⟩), hr 413 (Or.inr ⟨by decide, by decide⟩), hr 414 (Or.inr ⟨by decide, by decide⟩), hr 415 (Or.inr ⟨by decide, by decide⟩)]
  have es : srM I' = srM I := by
    unfold srM
    rw [hr 416 (Or.inr ⟨by decide, by decide⟩), hr 417 (Or.inr ⟨by decide, by decide⟩), hf 32 (by decide) (by decide), hf 33 (by decide) (by decide)]
  refine ⟨fun τ q1 q2 c hcN => by rw [ec]; exact hc τ q1 q2 c hcN, fun t q1 q2 => by rw [et]; exact ht t q1 q2, by rw [es]; exact hs, by rw [hr 406 (Or.inl rfl)]; exact hN, by rw [hf 34 (by decide) (by decide)]; exact h5, fun c hc => ?_⟩
  rw [hr 419 (Or.inr ⟨by decide, by decide⟩)]; exact hkd c hc
set_option maxRecDepth 8000 in
theorem gm_eq {I I' : Nat → Nat → Int32} {R cv : Nat → Int32} {s : rS} {d : Nat} (hr : ∀ a, a = 406 ∨ (411 ≤ a ∧ a ≤ 419) ∨ a = 420 → I' a = I a) (hf : ∀ j, 32 ≤ j → j ≤ 38 → I' 404 j = I 404 j) (h : GM I R cv s d) : GM I' R cv s d := by
  obtain ⟨h1, h2, h3, h4, h5⟩ := h
  refine ⟨by rw [hr 406 (Or.inl rfl)]; exact h1, by rw [hf 38 (by decide) (by decide)]; exact h2, by rw [hf 35 (by decide) (by decide)]; exact h3, msk_eq (fun a ha => hr a (by omega)) (fun j q1 q2 => hf j q1 (by omega)) h4, fun c hc => ?_⟩
  rw [hr 420 (Or.inr (Or.inr rfl)), hr 419 (Or.inr (Or.inl ⟨by decide, by decide⟩))]; exact h5 c hc
set_option maxRecDepth 8000 in
theorem gm_wipe {I I' : Nat → Nat → Int32} {R cv : Nat → Int32} {s : rS} {d k : Nat} (h : GM I R cv s d) (hr : ∀ a, a = 406 ∨ (411 ≤ a ∧ a ≤ 416) ∨ (418 ≤ a ∧ a ≤ 420) → I' a = I a) (hf : ∀ j, 32 ≤ j → j ≤ 38 → I' 404 j = I 404 j) (h17 : ∀ c, c ≠ k → I' 417 c = I 417 c) (e17 : I' 417 k = 0) : GM I' R cv (wpS s k) d := by
  obtain ⟨h1, h2, h3, ⟨hc, ht, ⟨s1, s2, s3, s4⟩, hN, h6, hkd⟩, h5⟩ := h
  refine ⟨by rw [hr 406 (Or.inl rfl)]; exact h1, by rw [hf 38 (by decide) (by decide)]; exact h2, by rw [hf 35 (by decide) (by decide)]; exact h3, ⟨fun τ q1 q2 c hcN => ?_, fun t q1 q2 => ?_, ⟨fun c hcN => ?_, fun c hcN => ?_, ?_, ?_⟩, by rw [hr 406 (Or.inl rfl)]; exact hN, by rw [hf 34 (by decide) (by decide)]; exact h6, fun c hcN => ?_⟩, fun c hcN => ?_⟩
  · rw [← hc τ q1 q2 c hcN]
    unfold cfM syM
    rw [hr 406 (Or.inl rfl), hr 419 (by omega), hr 418 (by omega), hf 35 (by decide) (by decide), hf 36 (by decide) (by decide), hf 37 (by decide) (by decide)]
  · rw [← ht t q1 q2]
    unfold tnM
    rw [hr 411 (by omega), hr 412 (by omega), hr 413 (by omega), hr 414 (by omega), hr 415 (by omega)]
  · show I' 416 c = s.1 c
    rw [hr 416 (by omega)]; exact s1 c hcN
  · show I' 417 c = upF s.2.1 k 0 c
    by_cases g : c = k
    · rw [g, upF_at]; exact e17
    · rw [upF_ne g, h17 c g]; exact s2 c hcN
  · show I' 404 32 = s.2.2.1
    rw [hf 32 (by decide) (by decide)]; exact s3
  · show I' 404 33 = s.2.2.2
    rw [hf 33 (by decide) (by decide)]; exact s4
  · rw [hr 419 (by omega)]; exact hkd c hcN
  · rw [hr 420 (by omega), hr 419 (by omega)]; exact h5 c hcN
set_option maxRecDepth 8000 in
theorem gm_cv {I I' : Nat → Nat → Int32} {R cv : Nat → Int32} {s : rS} {d k : Nat} {v : Int32} (h : GM I R cv s d) (hr : ∀ a, a = 406 ∨ (411 ≤ a ∧ a ≤ 417) ∨ a = 419 → I' a = I a) (hf : ∀ j, 32 ≤ j → j ≤ 38 → I' 404 j = I 404 j) (h20 : ∀ c, c ≠ k → I' 420 c = I 420 c) (h18 : ∀ c, c ≠ k → I' 418 c = I 418 c) (e20 : I' 420 k = v) (e18 : I' 418 k = if v = 1 then 0 else skI R k) : GM I' R (upF cv k v) s d := by
  obtain ⟨h1, h2, h3, ⟨hc, ht, ⟨s1, s2, s3, s4⟩, hN, h6, hkd⟩, h5⟩ := h
  have cM1 : (-1 : Int32).toInt = -1 := rfl
  refine ⟨by rw [hr 406 (Or.inl rfl)]; exact h1, by rw [hf 38 (by decide) (by decide)]; exact h2, by rw [hf 35 (by decide) (by decide)]; exact h3, ⟨fun τ q1 q2 c hcN => ?_, fun t q1 q2 => ?_, ⟨fun c hcN => ?_, fun c hcN => ?_, ?_, ?_⟩, by rw [hr 406 (Or.inl rfl)]; exact hN, by rw [hf 34 (by decide) (by decide)]; exact h6, fun c hcN => ?_⟩, fun c hcN => ?_⟩
  · have e := hc τ q1 q2 c hcN
    have e0 : syM I τ c = if cv c = 1 then 0 else skI R c := congrArg (·.2.2.2) e
    unfold cfM cvG
    rw [hr 406 (Or.inl rfl), hr 419 (by omega), h1, (h5 c hcN).2]
    have es : syM I' τ c = if upF cv k v c = 1 then 0 else skI R c := by
      have n1 : ∀ Y : Nat → Nat → Int32, Y 404 35 = -1 → syM Y τ c = Y 418 c := fun Y hY => by
        unfold syM
        rw [hY, if_neg (fun q => by rw [cM1] at q; omega)]
      rw [n1 I h3] at e0
      rw [n1 I' (by rw [hf 35 (by decide) (by decide)]; exact h3)]
      by_cases g : c = k
      · rw [g, upF_at]; exact e18
      · rw [upF_ne g, h18 c g]; exact e0
    rw [es]
  · rw [← ht t q1 q2]
    unfold tnM
    rw [hr 411 (by omega), hr 412 (by omega), hr 413 (by omega), hr 414 (by omega), hr 415 (by omega)]
  · show I' 416 c = s.1 c
    rw [hr 416 (by omega)]; exact s1 c hcN
  · show I' 417 c = s.2.1 c
    rw [hr 417 (by omega)]; exact s2 c hcN
  · show I' 404 32 = s.2.2.1
    rw [hf 32 (by decide) (by decide)]; exact s3
  · show I' 404 33 = s.2.2.2
    rw [hf 33 (by decide) (by decide)]; exact s4
  · rw [hr 419 (by omega)]; exact hkd c hcN
  · rw [hr 419 (by omega)]
    refine ⟨?_, (h5 c hcN).2⟩
    by_cases g : c = k
    · rw [g, upF_at]; exact e20
    · rw [upF_ne g, h20 c g]; exact (h5 c hcN).1
end
section
/-! ===== the RUN now, of the model ===== -/
set_option maxRecDepth 8000 in
set_option maxHeartbeats 4000000 in
theorem mb_l1 {n : Nat} {J : Nat → Nat → Int64} {K : dw_K} {x : Int32} {sl : Nat} {I0 : Nat → Nat → Int32} (hx : x.toInt = sl) (hsl : sl < 6)
    (hk : ∀ (I' : Nat → Nat → Int32) (y : Int32), (∀ a, a ≠ 406 → I' a = I0 a) → (∀ j, j < 898 ∨ 995 ≤ j → I' 406 j = I0 406 j) → (∀ q, q < 97 → I' 406 (898 + q) = I0 406 (221 + 97 * sl + q)) → dw_ok (pr_X12_begin K) 96 0 0 [some (.ref 404), some (.int x), some (.int y)] [] (n, SH1, I', J)) :
    ∀ (f k : Nat) (y : Int32) (I : Nat → Nat → Int32), k + f = 97 → y.toInt = k → (∀ a, a ≠ 406 → I a = I0 a) → (∀ j, j < 898 ∨ 995 ≤ j → I 406 j = I0 406 j) → (∀ q, q < k → I 406 (898 + q) = I0 406 (221 + 97 * sl + q)) → dw_ok (pr_X12_begin K) 62 0 0 [some (.ref 404), some (.int x), some (.int y)] [] (n, SH1, I, J) := by
  intro f
  induction f with
  | zero =>
    intro k y I hf hy hA hB hC
    refine q_ild rfl rfl ?_
    refine q_ic rfl ?_
    refine q_icmp (c := 3) rfl (by decide) (fun y1 => ?_) (fun h => absurd (show (y).toInt < (97 : Int) from h) (by omega))
    have y1 : (97 : Int) ≤ (y).toInt := y1
    exact hk I y hA hB (fun q hq => hC q (by omega))
  | succ f ih =>
    intro k y I hf hy hA hB hC
    refine q_ild rfl rfl ?_
    refine q_ic rfl ?_
    refine q_icmp (c := 3) rfl (by decide) (fun h => absurd (show (97 : Int) ≤ (y).toInt from h) (by omega)) (fun y2 => ?_)
    have y2 : (y).toInt < (97 : Int) := y2
    refine q_ald rfl rfl ?_
    refine q_getr rfl sk_404 sr_404_6 ?_
    refine q_ic rfl ?_
    refine q_ild rfl rfl ?_
    refine q_add rfl ?_
    show dw_ok (pr_X12_begin K) 77 0 0 [some (.ref 404), some (.int x), some (.int y)] [.int ((898 : Int32) + y), .ref 406] (n, SH1, I, J)
    obtain ⟨z1, hz1⟩ : ∃ z, z = ((898 : Int32) + y) := ⟨_, rfl⟩
    rw [← hz1]
    have ez1 : z1.toInt = ((898 + k : Nat) : Int) := by rw [hz1]; exact (ix_a (x := 898) (a := 898) rfl hy (by omega))
    refine q_ald rfl rfl ?_
    refine q_getr rfl sk_404 sr_404_6 ?_
    refine q_ald rfl rfl ?_
    refine q_ild rfl rfl ?_
    refine q_callV (as := [.int x]) (rest := [.ref 406, .int z1, .ref 406]) rfl rfl sk_404 rfl (Nat.le_of_ble_eq_true rfl) ?_
    refine v_nightAt ?_
    show dw_ok (pr_X12_begin K) 86 0 0 [some (.ref 404), some (.int x), some (.int y)] [.int (221 + 97 * x), .ref 406, .int z1, .ref 406] (n, SH1, I, J)
    obtain ⟨b, hb⟩ : ∃ z, z = 221 + 97 * x := ⟨_, rfl⟩
    rw [← hb]
    have eb : b.toInt = ((221 + 97 * sl : Nat) : Int) := by rw [hb]; exact ix_a (x := 221) (a := 221) rfl (ix_m (m := 97) hx rfl (by omega)) (by omega)
    show dw_ok (pr_X12_begin K) 86 0 0 [some (.ref 404), some (.int x), some (.int y)] [.int b, .ref 406, .int z1, .ref 406] (n, SH1, I, J)
    refine q_ild rfl rfl ?_
    refine q_add rfl ?_
    show dw_ok (pr_X12_begin K) 88 0 0 [some (.ref 404), some (.int x), some (.int y)] [.int (b + y), .ref 406, .int z1, .ref 406] (n, SH1, I, J)
    obtain ⟨z2, hz2⟩ : ∃ z, z = (b + y) := ⟨_, rfl⟩
    rw [← hz2]
    have ez2 : z2.toInt = ((221 + 97 * sl + k : Nat) : Int) := by rw [hz2]; exact (ix_a eb hy (by omega))
    refine q_xald rfl (Or.inl rfl) sk_406 sn_406 (by omega) (by omega) ?_
    show dw_ok (pr_X12_begin K) 89 0 0 [some (.ref 404), some (.int x), some (.int y)] [.int (I 406 (z2).toInt.toNat), .int z1, .ref 406] (n, SH1, I, J)
    rw [(nat_of ez2)]
    refine q_iast rfl sk_406 sn_406 (by omega) (by omega) ?_
    show dw_ok (pr_X12_begin K) 90 0 0 [some (.ref 404), some (.int x), some (.int y)] [] (n, SH1, (dw_up I 406 (z1).toInt.toNat (I 406 (221 + 97 * sl + k))), J)
    rw [(nat_of ez1)]
    refine q_inc rfl rfl rfl ?_
    show dw_ok (pr_X12_begin K) 93 0 0 [some (.ref 404), some (.int x), some (.int (y + 1))] [] (n, SH1, (dw_up I 406 (898 + k) (I 406 (221 + 97 * sl + k))), J)
    show dw_ok (pr_X12_begin K) 93 0 0 [some (.ref 404), some (.int x), some (.int (y + 1))] [] (n, SH1, (dw_up I 406 (898 + k) (I 406 (221 + 97 * sl + k))), J)
    obtain ⟨y1v, hy1v⟩ : ∃ z, z = (y + 1) := ⟨_, rfl⟩
    rw [← hy1v]
    have ey1v : y1v.toInt = ((k + 1 : Nat) : Int) := by rw [hy1v]; exact ix_1 hy (by omega)
    refine q_goto rfl ?_
    refine ih (k + 1) y1v (dw_up I 406 (898 + k) (I 406 (221 + 97 * sl + k))) (by omega) ey1v (fun a ha => (up_row ha).trans (hA a ha)) (fun j hj => (up_fld (by omega)).trans (hB j hj)) (fun q hq => ?_)
    by_cases e : q = k
    · rw [e, up_same]; exact hB _ (by omega)
    · rw [up_fld (by omega)]; exact hC q (by omega)
set_option maxRecDepth 8000 in
set_option maxHeartbeats 4000000 in
theorem mb_l2 {n : Nat} {J : Nat → Nat → Int64} {K : dw_K} {x : Int32} {N : Nat} {I0 : Nat → Nat → Int32} (hN : (I0 406 0 * I0 406 1).toInt = N) (hN9 : N ≤ 144)
    (hk : ∀ I' : Nat → Nat → Int32, (∀ a, a ≠ 406 → I' a = I0 a) → (∀ j, j < 995 → I' 406 j = I0 406 j) → (∀ q, q < 144 → (q < N → I' 406 (995 + q) = I0 416 q) ∧ I' 406 (1139 + q) = 0 ∧ I' 406 (1283 + q) = 0) → K (some (.int 1)) (n, SH1, I', J)) :
    ∀ (f k : Nat) (y : Int32) (I : Nat → Nat → Int32), k + f = 144 → y.toInt = k → (∀ a, a ≠ 406 → I a = I0 a) → (∀ j, j < 995 → I 406 j = I0 406 j) → (∀ q, q < k → (q < N → I 406 (995 + q) = I0 416 q) ∧ I 406 (1139 + q) = 0 ∧ I 406 (1283 + q) = 0) → dw_ok (pr_X12_begin K) 98 0 0 [some (.ref 404), some (.int x), some (.int y)] [] (n, SH1, I, J) := by
  intro f
  induction f with
  | zero =>
    intro k y I hf hy hA hB hC
    refine q_ild rfl rfl ?_
    refine q_ic rfl ?_
    refine q_icmp (c := 3) rfl (by decide) (fun y1 => ?_) (fun h => absurd (show (y).toInt < (144 : Int) from h) (by omega))
    have y1 : (144 : Int) ≤ (y).toInt := y1
    refine q_ic rfl ?_
    exact q_zret rfl (Or.inr rfl) (hk I hA hB (fun q hq => hC q (by omega)))
  | succ f ih =>
    intro k y I hf hy hA hB hC
    have h0 : I 406 0 = I0 406 0 := hB 0 (by omega)
    have h1 : I 406 1 = I0 406 1 := hB 1 (by omega)
    have h416 : I 416 = I0 416 := hA 416 (by decide)
    refine q_ild rfl rfl ?_
    refine q_ic rfl ?_
    refine q_icmp (c := 3) rfl (by decide) (fun h => absurd (show (144 : Int) ≤ (y).toInt from h) (by omega)) (fun y2 => ?_)
    have y2 : (y).toInt < (144 : Int) := y2
    refine q_ald rfl rfl ?_
    refine q_getr rfl sk_404 sr_404_6 ?_
    refine q_ic rfl ?_
    refine q_ild rfl rfl ?_
    refine q_add rfl ?_
    show dw_ok (pr_X12_begin K) 114 0 0 [some (.ref 404), some (.int x), some (.int y)] [.int ((995 : Int32) + y), .ref 406] (n, SH1, I, J)
    obtain ⟨z1, hz1⟩ : ∃ z, z = ((995 : Int32) + y) := ⟨_, rfl⟩
    rw [← hz1]
    have ez1 : z1.toInt = ((995 + k : Nat) : Int) := by rw [hz1]; exact (ix_a (x := 995) (a := 995) rfl hy (by omega))
    refine q_ild rfl rfl ?_
    refine q_ald rfl rfl ?_
    refine q_callV (as := []) (rest := [.int y, .int z1, .ref 406]) rfl rfl sk_404 rfl (Nat.le_of_ble_eq_true rfl) ?_
    refine v_mcells ?_
    show dw_ok (pr_X12_begin K) 119 0 0 [some (.ref 404), some (.int x), some (.int y)] [.int (I 406 0 * I 406 1), .int y, .int z1, .ref 406] (n, SH1, I, J)
    rw [h0, h1]
    obtain ⟨nv, hnv⟩ : ∃ z, z = I0 406 0 * I0 406 1 := ⟨_, rfl⟩
    rw [← hnv]
    have env : nv.toInt = N := by rw [hnv]; exact hN
    show dw_ok (pr_X12_begin K) 119 0 0 [some (.ref 404), some (.int x), some (.int y)] [.int nv, .int y, .int z1, .ref 406] (n, SH1, I, J)
    refine q_icmp (c := 3) rfl (by decide) (fun y3 => ?_) (fun y3 => ?_)
    · have y3 : (nv).toInt ≤ (y).toInt := y3
      refine q_ic rfl ?_
      refine q_iast rfl sk_406 sn_406 (by omega) (by omega) ?_
      show dw_ok (pr_X12_begin K) 133 0 0 [some (.ref 404), some (.int x), some (.int y)] [] (n, SH1, (dw_up I 406 (z1).toInt.toNat (0 : Int32)), J)
      rw [(nat_of ez1)]
      refine q_ald rfl rfl ?_
      refine q_getr rfl sk_404 sr_404_6 ?_
      refine q_ic rfl ?_
      refine q_ild rfl rfl ?_
      refine q_add rfl ?_
      show dw_ok (pr_X12_begin K) 142 0 0 [some (.ref 404), some (.int x), some (.int y)] [.int ((1139 : Int32) + y), .ref 406] (n, SH1, (dw_up I 406 (995 + k) (0 : Int32)), J)
      obtain ⟨z2, hz2⟩ : ∃ z, z = ((1139 : Int32) + y) := ⟨_, rfl⟩
      rw [← hz2]
      have ez2 : z2.toInt = ((1139 + k : Nat) : Int) := by rw [hz2]; exact (ix_a (x := 1139) (a := 1139) rfl hy (by omega))
      refine q_ic rfl ?_
      refine q_iast rfl sk_406 sn_406 (by omega) (by omega) ?_
      show dw_ok (pr_X12_begin K) 144 0 0 [some (.ref 404), some (.int x), some (.int y)] [] (n, SH1, (dw_up (dw_up I 406 (995 + k) (0 : Int32)) 406 (z2).toInt.toNat (0 : Int32)), J)
      rw [(nat_of ez2)]
      refine q_ald rfl rfl ?_
      refine q_getr rfl sk_404 sr_404_6 ?_
      refine q_ic rfl ?_
      refine q_ild rfl rfl ?_
      refine q_add rfl ?_
      show dw_ok (pr_X12_begin K) 153 0 0 [some (.ref 404), some (.int x), some (.int y)] [.int ((1283 : Int32) + y), .ref 406] (n, SH1, (dw_up (dw_up I 406 (995 + k) (0 : Int32)) 406 (1139 + k) (0 : Int32)), J)
      obtain ⟨z3, hz3⟩ : ∃ z, z = ((1283 : Int32) + y) := ⟨_, rfl⟩
      rw [← hz3]
      have ez3 : z3.toInt = ((1283 + k : Nat) : Int) := by rw [hz3]; exact (ix_a (x := 1283) (a := 1283) rfl hy (by omega))
      refine q_ic rfl ?_
      refine q_iast rfl sk_406 sn_406 (by omega) (by omega) ?_
      show dw_ok (pr_X12_begin K) 155 0 0 [some (.ref 404), some (.int x), some (.int y)] [] (n, SH1, (dw_up (dw_up (dw_up I 406 (995 + k) (0 : Int32)) 406 (1139 + k) (0 : Int32)) 406 (z3).toInt.toNat (0 : Int32)), J)
      rw [(nat_of ez3)]
      refine q_inc rfl rfl rfl ?_
      show dw_ok (pr_X12_begin K) 158 0 0 [some (.ref 404), some (.int x), some (.int (y + 1))] [] (n, SH1, (dw_up (dw_up (dw_up I 406 (995 + k) (0 : Int32)) 406 (1139 + k) (0 : Int32)) 406 (1283 + k) (0 : Int32)), J)
      show dw_ok (pr_X12_begin K) 158 0 0 [some (.ref 404), some (.int x), some (.int (y + 1))] [] (n, SH1, (dw_up (dw_up (dw_up I 406 (995 + k) (0 : Int32)) 406 (1139 + k) (0 : Int32)) 406 (1283 + k) (0 : Int32)), J)
      obtain ⟨y1v, hy1v⟩ : ∃ z, z = (y + 1) := ⟨_, rfl⟩
      rw [← hy1v]
      have ey1v : y1v.toInt = ((k + 1 : Nat) : Int) := by rw [hy1v]; exact ix_1 hy (by omega)
      refine q_goto rfl ?_
      refine ih (k + 1) y1v (dw_up (dw_up (dw_up I 406 (995 + k) (0 : Int32)) 406 (1139 + k) (0 : Int32)) 406 (1283 + k) (0 : Int32)) (by omega) ey1v (fun a ha => ((up_row ha).trans ((up_row ha).trans ((up_row ha).trans (hA a ha))))) (fun j hj => ((up_fld (by omega)).trans ((up_fld (by omega)).trans ((up_fld (by omega)).trans (hB j hj))))) (fun q hq => ?_)
      by_cases e : q = k
      · subst e
        refine ⟨fun hqN => ?_, ?_, ?_⟩
        · omega
        · exact ((up_fld (by omega)).trans (up_same))
        · exact up_same
      · obtain ⟨c1, c2, c3⟩ := hC q (by omega)
        refine ⟨fun hqN => ((up_fld (by omega)).trans ((up_fld (by omega)).trans ((up_fld (by omega)).trans (c1 hqN)))), ((up_fld (by omega)).trans ((up_fld (by omega)).trans ((up_fld (by omega)).trans (c2)))), ((up_fld (by omega)).trans ((up_fld (by omega)).trans ((up_fld (by omega)).trans (c3))))⟩
    · have y3 : (y).toInt < (nv).toInt := y3
      refine q_ald rfl rfl ?_
      refine q_getr rfl sk_404 sr_404_28 ?_
      refine q_ild rfl rfl ?_
      refine q_xald rfl (Or.inl rfl) sk_416 sn_416 (by omega) (by omega) ?_
      show dw_ok (pr_X12_begin K) 128 0 0 [some (.ref 404), some (.int x), some (.int y)] [.int (I 416 (y).toInt.toNat), .int z1, .ref 406] (n, SH1, I, J)
      rw [(nat_of hy)]
      refine q_goto rfl ?_
      refine q_iast rfl sk_406 sn_406 (by omega) (by omega) ?_
      show dw_ok (pr_X12_begin K) 133 0 0 [some (.ref 404), some (.int x), some (.int y)] [] (n, SH1, (dw_up I 406 (z1).toInt.toNat (I 416 k)), J)
      rw [(nat_of ez1)]
      refine q_ald rfl rfl ?_
      refine q_getr rfl sk_404 sr_404_6 ?_
      refine q_ic rfl ?_
      refine q_ild rfl rfl ?_
      refine q_add rfl ?_
      show dw_ok (pr_X12_begin K) 142 0 0 [some (.ref 404), some (.int x), some (.int y)] [.int ((1139 : Int32) + y), .ref 406] (n, SH1, (dw_up I 406 (995 + k) (I 416 k)), J)
      obtain ⟨z2, hz2⟩ : ∃ z, z = ((1139 : Int32) + y) := ⟨_, rfl⟩
      rw [← hz2]
      have ez2 : z2.toInt = ((1139 + k : Nat) : Int) := by rw [hz2]; exact (ix_a (x := 1139) (a := 1139) rfl hy (by omega))
      refine q_ic rfl ?_
      refine q_iast rfl sk_406 sn_406 (by omega) (by omega) ?_
      show dw_ok (pr_X12_begin K) 144 0 0 [some (.ref 404), some (.int x), some (.int y)] [] (n, SH1, (dw_up (dw_up I 406 (995 + k) (I 416 k)) 406 (z2).toInt.toNat (0 : Int32)), J)
      rw [(nat_of ez2)]
      refine q_ald rfl rfl ?_
      refine q_getr rfl sk_404 sr_404_6 ?_
      refine q_ic rfl ?_
      refine q_ild rfl rfl ?_
      refine q_add rfl ?_
      show dw_ok (pr_X12_begin K) 153 0 0 [some (.ref 404), some (.int x), some (.int y)] [.int ((1283 : Int32) + y), .ref 406] (n, SH1, (dw_up (dw_up I 406 (995 + k) (I 416 k)) 406 (1139 + k) (0 : Int32)), J)
      obtain ⟨z3, hz3⟩ : ∃ z, z = ((1283 : Int32) + y) := ⟨_, rfl⟩
      rw [← hz3]
      have ez3 : z3.toInt = ((1283 + k : Nat) : Int) := by rw [hz3]; exact (ix_a (x := 1283) (a := 1283) rfl hy (by omega))
      refine q_ic rfl ?_
      refine q_iast rfl sk_406 sn_406 (by omega) (by omega) ?_
      show dw_ok (pr_X12_begin K) 155 0 0 [some (.ref 404), some (.int x), some (.int y)] [] (n, SH1, (dw_up (dw_up (dw_up I 406 (995 + k) (I 416 k)) 406 (1139 + k) (0 : Int32)) 406 (z3).toInt.toNat (0 : Int32)), J)
      rw [(nat_of ez3)]
      refine q_inc rfl rfl rfl ?_
      show dw_ok (pr_X12_begin K) 158 0 0 [some (.ref 404), some (.int x), some (.int (y + 1))] [] (n, SH1, (dw_up (dw_up (dw_up I 406 (995 + k) (I 416 k)) 406 (1139 + k) (0 : Int32)) 406 (1283 + k) (0 : Int32)), J)
      show dw_ok (pr_X12_begin K) 158 0 0 [some (.ref 404), some (.int x), some (.int (y + 1))] [] (n, SH1, (dw_up (dw_up (dw_up I 406 (995 + k) (I 416 k)) 406 (1139 + k) (0 : Int32)) 406 (1283 + k) (0 : Int32)), J)
      obtain ⟨y1v, hy1v⟩ : ∃ z, z = (y + 1) := ⟨_, rfl⟩
      rw [← hy1v]
      have ey1v : y1v.toInt = ((k + 1 : Nat) : Int) := by rw [hy1v]; exact ix_1 hy (by omega)
      refine q_goto rfl ?_
      refine ih (k + 1) y1v (dw_up (dw_up (dw_up I 406 (995 + k) (I 416 k)) 406 (1139 + k) (0 : Int32)) 406 (1283 + k) (0 : Int32)) (by omega) ey1v (fun a ha => ((up_row ha).trans ((up_row ha).trans ((up_row ha).trans (hA a ha))))) (fun j hj => ((up_fld (by omega)).trans ((up_fld (by omega)).trans ((up_fld (by omega)).trans (hB j hj))))) (fun q hq => ?_)
      by_cases e : q = k
      · subst e
        refine ⟨fun hqN => ?_, ?_, ?_⟩
        · exact ((up_fld (by omega)).trans ((up_fld (by omega)).trans ((up_same).trans (congrFun h416 q))))
        · exact ((up_fld (by omega)).trans (up_same))
        · exact up_same
      · obtain ⟨c1, c2, c3⟩ := hC q (by omega)
        refine ⟨fun hqN => ((up_fld (by omega)).trans ((up_fld (by omega)).trans ((up_fld (by omega)).trans (c1 hqN)))), ((up_fld (by omega)).trans ((up_fld (by omega)).trans ((up_fld (by omega)).trans (c2)))), ((up_fld (by omega)).trans ((up_fld (by omega)).trans ((up_fld (by omega)).trans (c3))))⟩
set_option maxRecDepth 8000 in
set_option maxHeartbeats 4000000 in
theorem v_mbegin {n : Nat} {I : Nat → Nat → Int32} {J : Nat → Nat → Int64} {K : dw_K} {a1 : Int32} {R : Nat → Int32} (hR : I 406 = R) (hG : GOK R) (hN : okS R a1 → NOK (nX R a1)) (h0 : ¬ okS R a1 → ∀ I' : Nat → Nat → Int32, I' 406 = R → K (some (.int 0)) (n, SH1, I', J)) (h1 : okS R a1 → NOK (nX R a1) → ∀ I' : Nat → Nat → Int32, mBeg R (I' 406) a1.toInt.toNat → K (some (.int 1)) (n, SH1, I', J)) : t_X12_begin [.ref 404, .int a1] (n, SH1, I, J) K := by
  refine q_body (Nat.le_of_ble_eq_true rfl) ?_
  refine q_ald rfl rfl ?_
  refine q_ic rfl ?_
  refine q_puti rfl sk_404 ?_
  show dw_ok (pr_X12_begin K) 5 0 0 [some (.ref 404), some (.int a1), none] [] (n, SH1, (dw_up I 404 0 (0 : Int32)), J)
  refine q_ald rfl rfl ?_
  refine q_ild rfl rfl ?_
  refine q_callV (as := [.int a1]) (rest := []) rfl rfl sk_404 rfl (Nat.le_of_ble_eq_true rfl) ?_
  obtain ⟨I1, hI1⟩ : ∃ X, X = (dw_up I 404 0 (0 : Int32)) := ⟨_, rfl⟩
  rw [← hI1]
  have r1 : ∀ a, a ≠ 404 → I1 a = I a := fun a ha => by rw [hI1]; exact up_row ha
  have e1 : I1 406 = R := (r1 406 (by decide)).trans hR
  refine v_isNight (fun w_ oS => ?_)
  rcases oS with ⟨rfl, oS⟩ | ⟨rfl, oS⟩
  · show dw_ok (pr_X12_begin K) 10 0 0 [some (.ref 404), some (.int a1), none] [.int (1 : Int32)] (n, SH1, I1, J)
    refine q_if (c := 1) rfl (by decide) (fun y1 => ?_) (fun h => absurd (show (1 : Int) = 0 from h) (by decide))
    have y1 : (1 : Int) ≠ 0 := y1
    refine q_ald rfl rfl ?_
    refine q_ild rfl rfl ?_
    refine q_ic rfl ?_
    refine q_callV (as := [.int a1, .int (0 : Int32)]) (rest := []) rfl rfl sk_404 rfl (Nat.le_of_ble_eq_true rfl) ?_
    rw [e1] at oS
    obtain ⟨⟨x0, x5⟩, -⟩ := id oS
    have hS := hN oS
    refine v_mstartR (st := 0) e1 hG oS hS rfl (fun I2 g0 g1 _ g3 _ => ?_)
    have e2 : I2 406 = R := (g0 406 (by decide) (by decide)).trans e1
    obtain ⟨-, -, ⟨w1, w2, w3, w4⟩, -⟩ := g3
    have w3 : I2 404 32 = R 4 := w3
    show dw_ok (pr_X12_begin K) 21 0 0 [some (.ref 404), some (.int a1), none] [] (n, SH1, I2, J)
    refine q_ald rfl rfl ?_
    refine q_getr rfl sk_404 sr_404_6 ?_
    refine q_ic rfl ?_
    refine q_ic rfl ?_
    refine q_iast rfl sk_406 sn_406 (by decide) (by decide) ?_
    show dw_ok (pr_X12_begin K) 30 0 0 [some (.ref 404), some (.int a1), none] [] (n, SH1, (dw_up I2 406 894 (1 : Int32)), J)
    refine q_ald rfl rfl ?_
    refine q_getr rfl sk_404 sr_404_6 ?_
    refine q_ic rfl ?_
    refine q_ic rfl ?_
    refine q_iast rfl sk_406 sn_406 (by decide) (by decide) ?_
    show dw_ok (pr_X12_begin K) 39 0 0 [some (.ref 404), some (.int a1), none] [] (n, SH1, (dw_up (dw_up I2 406 894 (1 : Int32)) 406 895 (0 : Int32)), J)
    refine q_ald rfl rfl ?_
    refine q_getr rfl sk_404 sr_404_6 ?_
    refine q_ic rfl ?_
    refine q_ald rfl rfl ?_
    refine q_geti rfl sk_404 ?_
    show dw_ok (pr_X12_begin K) 50 0 0 [some (.ref 404), some (.int a1), none] [.int ((dw_up (dw_up I2 406 894 (1 : Int32)) 406 895 (0 : Int32)) 404 32), .int (896 : Int32), .ref 406] (n, SH1, (dw_up (dw_up I2 406 894 (1 : Int32)) 406 895 (0 : Int32)), J)
    rw [show ((dw_up (dw_up I2 406 894 (1 : Int32)) 406 895 (0 : Int32)) 404 32) = (I2 404 32) from ((up_ne (Or.inl (by decide))).trans (up_ne (Or.inl (by decide))))]
    refine q_iast rfl sk_406 sn_406 (by decide) (by decide) ?_
    show dw_ok (pr_X12_begin K) 51 0 0 [some (.ref 404), some (.int a1), none] [] (n, SH1, (dw_up (dw_up (dw_up I2 406 894 (1 : Int32)) 406 895 (0 : Int32)) 406 896 (I2 404 32)), J)
    refine q_ald rfl rfl ?_
    refine q_getr rfl sk_404 sr_404_6 ?_
    refine q_ic rfl ?_
    refine q_ic rfl ?_
    refine q_iast rfl sk_406 sn_406 (by decide) (by decide) ?_
    show dw_ok (pr_X12_begin K) 60 0 0 [some (.ref 404), some (.int a1), none] [] (n, SH1, (dw_up (dw_up (dw_up (dw_up I2 406 894 (1 : Int32)) 406 895 (0 : Int32)) 406 896 (I2 404 32)) 406 897 (0 : Int32)), J)
    refine q_ic rfl ?_
    refine q_ist rfl rfl ?_
    show dw_ok (pr_X12_begin K) 62 0 0 [some (.ref 404), some (.int a1), some (.int (0 : Int32))] [] (n, SH1, (dw_up (dw_up (dw_up (dw_up I2 406 894 (1 : Int32)) 406 895 (0 : Int32)) 406 896 (I2 404 32)) 406 897 (0 : Int32)), J)
    obtain ⟨I3, hI3⟩ : ∃ X, X = (dw_up (dw_up (dw_up (dw_up I2 406 894 (1 : Int32)) 406 895 (0 : Int32)) 406 896 (I2 404 32)) 406 897 (0 : Int32)) := ⟨_, rfl⟩
    show dw_ok (pr_X12_begin K) 62 0 0 [some (.ref 404), some (.int a1), some (.int (0 : Int32))] [] (n, SH1, (dw_up (dw_up (dw_up (dw_up I2 406 894 (1 : Int32)) 406 895 (0 : Int32)) 406 896 (I2 404 32)) 406 897 (0 : Int32)), J)
    rw [← hI3]
    have r3 : ∀ a, a ≠ 406 → I3 a = I2 a := fun a ha => by rw [hI3]; exact ((up_row ha).trans ((up_row ha).trans ((up_row ha).trans (up_row ha))))
    have f3 : ∀ j, j < 894 ∨ 898 ≤ j → I3 406 j = R j := fun j hj => by rw [hI3]; exact ((up_fld (by omega)).trans ((up_fld (by omega)).trans ((up_fld (by omega)).trans ((up_fld (by omega)).trans (congrFun e2 j)))))
    have s894 : I3 406 894 = (1 : Int32) := by rw [hI3]; exact ((up_fld (by decide)).trans ((up_fld (by decide)).trans ((up_fld (by decide)).trans (up_same))))
    have s895 : I3 406 895 = (0 : Int32) := by rw [hI3]; exact ((up_fld (by decide)).trans ((up_fld (by decide)).trans (up_same)))
    have s896 : I3 406 896 = (I2 404 32) := by rw [hI3]; exact ((up_fld (by decide)).trans (up_same))
    have s897 : I3 406 897 = (0 : Int32) := by rw [hI3]; exact (up_same)
    refine mb_l1 (I0 := I3) (sl := a1.toInt.toNat) (by omega) (by omega) (fun I4 y hA hB hC => ?_) 97 0 0 I3 rfl rfl (fun _ _ => rfl) (fun _ _ => rfl) (fun q hq => absurd hq (Nat.not_lt_zero q))
    refine q_ic rfl ?_
    refine q_ist rfl rfl ?_
    show dw_ok (pr_X12_begin K) 98 0 0 [some (.ref 404), some (.int a1), some (.int 0)] [] (n, SH1, I4, J)
    have d0 : I4 406 0 = R 0 := (hB 0 (by omega)).trans (f3 0 (by omega))
    have d1 : I4 406 1 = R 1 := (hB 1 (by omega)).trans (f3 1 (by omega))
    have hN9 := gok_N hG
    refine mb_l2 (I0 := I4) (N := Nn R) (by rw [d0, d1]; exact hN9.1) hN9.2 (fun I5 hA5 hB5 hC5 => ?_) 144 0 0 I4 rfl rfl (fun _ _ => rfl) (fun _ _ => rfl) (fun q hq => absurd hq (Nat.not_lt_zero q))
    refine h1 oS hS I5 ⟨fun j hj => ?_, ?_, ?_, ?_, ?_, fun q hq => ?_, fun c hc => ⟨?_, ?_, ?_⟩⟩
    · rw [hB5 j (by omega), hB j (by omega)]; exact f3 j (by omega)
    · rw [hB5 894 (by omega), hB 894 (by omega)]; exact s894
    · rw [hB5 895 (by omega), hB 895 (by omega)]; exact s895
    · rw [hB5 896 (by omega), hB 896 (by omega), s896]; exact w3
    · rw [hB5 897 (by omega), hB 897 (by omega)]; exact s897
    · rw [hB5 (898 + q) (by omega), hC q hq]; exact f3 _ (by omega)
    · rw [(hC5 c (by omega)).1 hc, hA 416 (by decide), r3 416 (by decide)]; exact w1 c hc
    · exact (hC5 c (by omega)).2.1
    · exact (hC5 c (by omega)).2.2
  · show dw_ok (pr_X12_begin K) 10 0 0 [some (.ref 404), some (.int a1), none] [.int (0 : Int32)] (n, SH1, I1, J)
    refine q_if (c := 1) rfl (by decide) (fun h => absurd (show (0 : Int) ≠ 0 from h) (by decide)) (fun y2 => ?_)
    have y2 : (0 : Int) = 0 := y2
    refine q_ic rfl ?_
    rw [e1] at oS
    exact q_zret rfl (Or.inl rfl) (h0 oS _ e1)
set_option maxRecDepth 8000 in
set_option maxHeartbeats 8000000 in
theorem ml_loop {n : Nat} {J : Nat → Nat → Int64} {K : dw_K} {R : Nat → Int32} {I0 : Nat → Nat → Int32} (hR : I0 406 = R) (hG : GOK R)
    (hk : ∀ I' : Nat → Nat → Int32, (∀ a, a ≠ 416 → a ≠ 417 → a ≠ 418 → a ≠ 419 → a ≠ 420 → I' a = I0 a) → (∀ c, c < Nn R → I' 416 c = R (995 + c) ∧ I' 417 c = R (1139 + c) ∧ I' 420 c = R (1283 + c) ∧ I' 418 c = (if R (1283 + c) = 1 then 0 else skI R c) ∧ I' 419 c = R (29 + c)) → K none (n, SH1, I', J)) :
    ∀ (f k : Nat) (c : Int32) (I : Nat → Nat → Int32), k + f = Nn R → c.toInt = k → (∀ a, a ≠ 416 → a ≠ 417 → a ≠ 418 → a ≠ 419 → a ≠ 420 → I a = I0 a) → (∀ c, c < k → I 416 c = R (995 + c) ∧ I 417 c = R (1139 + c) ∧ I 420 c = R (1283 + c) ∧ I 418 c = (if R (1283 + c) = 1 then 0 else skI R c) ∧ I 419 c = R (29 + c)) → dw_ok (pr_X12_loads K) 55 0 0 [some (.ref 404), some (.int c)] [] (n, SH1, I, J) := by
  obtain ⟨hN, hN9⟩ := gok_N hG
  intro f
  induction f with
  | zero =>
    intro k c I hf hc hA hB
    have h406 : I 406 = R := (hA 406 (by decide) (by decide) (by decide) (by decide) (by decide)).trans hR
    refine q_ild rfl rfl ?_
    refine q_ald rfl rfl ?_
    refine q_callV (as := []) (rest := [.int c]) rfl rfl sk_404 rfl (Nat.le_of_ble_eq_true rfl) ?_
    refine v_mcells ?_
    show dw_ok (pr_X12_loads K) 60 0 0 [some (.ref 404), some (.int c)] [.int (I 406 0 * I 406 1), .int c] (n, SH1, I, J)
    rw [show I 406 = R from h406]
    obtain ⟨nv, hnv⟩ : ∃ z, z = R 0 * R 1 := ⟨_, rfl⟩
    rw [← hnv]
    have env : nv.toInt = Nn R := by rw [hnv]; exact hN
    show dw_ok (pr_X12_loads K) 60 0 0 [some (.ref 404), some (.int c)] [.int nv, .int c] (n, SH1, I, J)
    refine q_icmp (c := 3) rfl (by decide) (fun y1 => ?_) (fun h => absurd (show (c).toInt < (nv).toInt from h) (by omega))
    have y1 : (nv).toInt ≤ (c).toInt := y1
    exact q_vret rfl (hk I hA (fun j hj => hB j (by omega)))
  | succ f ih =>
    intro k c I hf hc hA hB
    have h406 : I 406 = R := (hA 406 (by decide) (by decide) (by decide) (by decide) (by decide)).trans hR
    have hkN : k < Cn R * Rn R := by
      have q : k < Nn R := by omega
      exact q
    have hC0 : 0 < Cn R := by
      rcases Nat.eq_zero_or_pos (Cn R) with e | e
      · rw [e, Nat.zero_mul] at hkN; omega
      · exact e
    refine q_ild rfl rfl ?_
    refine q_ald rfl rfl ?_
    refine q_callV (as := []) (rest := [.int c]) rfl rfl sk_404 rfl (Nat.le_of_ble_eq_true rfl) ?_
    refine v_mcells ?_
    show dw_ok (pr_X12_loads K) 60 0 0 [some (.ref 404), some (.int c)] [.int (I 406 0 * I 406 1), .int c] (n, SH1, I, J)
    rw [show I 406 = R from h406]
    obtain ⟨nv, hnv⟩ : ∃ z, z = R 0 * R 1 := ⟨_, rfl⟩
    rw [← hnv]
    have env : nv.toInt = Nn R := by rw [hnv]; exact hN
    show dw_ok (pr_X12_loads K) 60 0 0 [some (.ref 404), some (.int c)] [.int nv, .int c] (n, SH1, I, J)
    refine q_icmp (c := 3) rfl (by decide) (fun h => absurd (show (nv).toInt ≤ (c).toInt from h) (by omega)) (fun y2 => ?_)
    have y2 : (c).toInt < (nv).toInt := y2
    refine q_ald rfl rfl ?_
    refine q_getr rfl sk_404 sr_404_28 ?_
    refine q_ild rfl rfl ?_
    refine q_ald rfl rfl ?_
    refine q_getr rfl sk_404 sr_404_6 ?_
    refine q_ic rfl ?_
    refine q_ild rfl rfl ?_
    refine q_add rfl ?_
    show dw_ok (pr_X12_loads K) 77 0 0 [some (.ref 404), some (.int c)] [.int ((995 : Int32) + c), .ref 406, .int c, .ref 416] (n, SH1, I, J)
    obtain ⟨z995, hz995⟩ : ∃ z, z = ((995 : Int32) + c) := ⟨_, rfl⟩
    rw [← hz995]
    have ez995 : z995.toInt = ((995 + k : Nat) : Int) := by rw [hz995]; exact (ix_a (x := 995) (a := 995) rfl hc (by omega))
    refine q_xald rfl (Or.inl rfl) sk_406 sn_406 (by omega) (by omega) ?_
    show dw_ok (pr_X12_loads K) 78 0 0 [some (.ref 404), some (.int c)] [.int (I 406 (z995).toInt.toNat), .int c, .ref 416] (n, SH1, I, J)
    rw [(nat_of ez995)]
    refine q_iast rfl sk_416 sn_416 (by omega) (by omega) ?_
    show dw_ok (pr_X12_loads K) 79 0 0 [some (.ref 404), some (.int c)] [] (n, SH1, (dw_up I 416 (c).toInt.toNat (I 406 (995 + k))), J)
    rw [(nat_of hc)]
    refine q_ald rfl rfl ?_
    refine q_getr rfl sk_404 sr_404_29 ?_
    refine q_ild rfl rfl ?_
    refine q_ald rfl rfl ?_
    refine q_getr rfl sk_404 sr_404_6 ?_
    refine q_ic rfl ?_
    refine q_ild rfl rfl ?_
    refine q_add rfl ?_
    show dw_ok (pr_X12_loads K) 93 0 0 [some (.ref 404), some (.int c)] [.int ((1139 : Int32) + c), .ref 406, .int c, .ref 417] (n, SH1, (dw_up I 416 k (I 406 (995 + k))), J)
    obtain ⟨z1139, hz1139⟩ : ∃ z, z = ((1139 : Int32) + c) := ⟨_, rfl⟩
    rw [← hz1139]
    have ez1139 : z1139.toInt = ((1139 + k : Nat) : Int) := by rw [hz1139]; exact (ix_a (x := 1139) (a := 1139) rfl hc (by omega))
    refine q_xald rfl (Or.inl rfl) sk_406 sn_406 (by omega) (by omega) ?_
    show dw_ok (pr_X12_loads K) 94 0 0 [some (.ref 404), some (.int c)] [.int ((dw_up I 416 k (I 406 (995 + k))) 406 (z1139).toInt.toNat), .int c, .ref 417] (n, SH1, (dw_up I 416 k (I 406 (995 + k))), J)
    rw [(nat_of ez1139)]
    show dw_ok (pr_X12_loads K) 94 0 0 [some (.ref 404), some (.int c)] [.int ((dw_up I 416 k (I 406 (995 + k))) 406 (1139 + k)), .int c, .ref 417] (n, SH1, (dw_up I 416 k (I 406 (995 + k))), J)
    rw [show ((dw_up I 416 k (I 406 (995 + k))) 406 (1139 + k)) = (I 406 (1139 + k)) from (up_ne (Or.inl (by decide)))]
    refine q_iast rfl sk_417 sn_417 (by omega) (by omega) ?_
    show dw_ok (pr_X12_loads K) 95 0 0 [some (.ref 404), some (.int c)] [] (n, SH1, (dw_up (dw_up I 416 k (I 406 (995 + k))) 417 (c).toInt.toNat (I 406 (1139 + k))), J)
    rw [(nat_of hc)]
    refine q_ald rfl rfl ?_
    refine q_getr rfl sk_404 sr_404_39 ?_
    refine q_ild rfl rfl ?_
    refine q_ald rfl rfl ?_
    refine q_getr rfl sk_404 sr_404_6 ?_
    refine q_ic rfl ?_
    refine q_ild rfl rfl ?_
    refine q_add rfl ?_
    show dw_ok (pr_X12_loads K) 109 0 0 [some (.ref 404), some (.int c)] [.int ((1283 : Int32) + c), .ref 406, .int c, .ref 420] (n, SH1, (dw_up (dw_up I 416 k (I 406 (995 + k))) 417 k (I 406 (1139 + k))), J)
    obtain ⟨z1283, hz1283⟩ : ∃ z, z = ((1283 : Int32) + c) := ⟨_, rfl⟩
    rw [← hz1283]
    have ez1283 : z1283.toInt = ((1283 + k : Nat) : Int) := by rw [hz1283]; exact (ix_a (x := 1283) (a := 1283) rfl hc (by omega))
    refine q_xald rfl (Or.inl rfl) sk_406 sn_406 (by omega) (by omega) ?_
    show dw_ok (pr_X12_loads K) 110 0 0 [some (.ref 404), some (.int c)] [.int ((dw_up (dw_up I 416 k (I 406 (995 + k))) 417 k (I 406 (1139 + k))) 406 (z1283).toInt.toNat), .int c, .ref 420] (n, SH1, (dw_up (dw_up I 416 k (I 406 (995 + k))) 417 k (I 406 (1139 + k))), J)
    rw [(nat_of ez1283)]
    show dw_ok (pr_X12_loads K) 110 0 0 [some (.ref 404), some (.int c)] [.int ((dw_up (dw_up I 416 k (I 406 (995 + k))) 417 k (I 406 (1139 + k))) 406 (1283 + k)), .int c, .ref 420] (n, SH1, (dw_up (dw_up I 416 k (I 406 (995 + k))) 417 k (I 406 (1139 + k))), J)
    rw [show ((dw_up (dw_up I 416 k (I 406 (995 + k))) 417 k (I 406 (1139 + k))) 406 (1283 + k)) = (I 406 (1283 + k)) from ((up_ne (Or.inl (by decide))).trans (up_ne (Or.inl (by decide))))]
    refine q_iast rfl sk_420 sn_420 (by omega) (by omega) ?_
    show dw_ok (pr_X12_loads K) 111 0 0 [some (.ref 404), some (.int c)] [] (n, SH1, (dw_up (dw_up (dw_up I 416 k (I 406 (995 + k))) 417 k (I 406 (1139 + k))) 420 (c).toInt.toNat (I 406 (1283 + k))), J)
    rw [(nat_of hc)]
    obtain ⟨I2, hI2⟩ : ∃ X, X = (dw_up (dw_up (dw_up I 416 k (I 406 (995 + k))) 417 k (I 406 (1139 + k))) 420 k (I 406 (1283 + k))) := ⟨_, rfl⟩
    show dw_ok (pr_X12_loads K) 111 0 0 [some (.ref 404), some (.int c)] [] (n, SH1, (dw_up (dw_up (dw_up I 416 k (I 406 (995 + k))) 417 k (I 406 (1139 + k))) 420 k (I 406 (1283 + k))), J)
    rw [← hI2]
    have rI2 : ∀ a, a ≠ 416 → a ≠ 417 → a ≠ 420 → I2 a = I a := fun a q0 q1 q2 => by rw [hI2]; exact ((up_row q2).trans ((up_row q1).trans (up_row q0)))
    have fI2_0 : ∀ j, j ≠ k → I2 416 j = I 416 j := fun j p0 => by rw [hI2]; exact ((up_ne (Or.inl (by decide))).trans ((up_ne (Or.inl (by decide))).trans (up_fld p0)))
    have sI2_0_0 : I2 416 k = (I 406 (995 + k)) := by rw [hI2]; exact ((up_ne (Or.inl (by decide))).trans ((up_ne (Or.inl (by decide))).trans (up_same)))
    have fI2_1 : ∀ j, j ≠ k → I2 417 j = I 417 j := fun j p0 => by rw [hI2]; exact ((up_ne (Or.inl (by decide))).trans ((up_fld p0).trans (up_ne (Or.inl (by decide)))))
    have sI2_1_0 : I2 417 k = (I 406 (1139 + k)) := by rw [hI2]; exact ((up_ne (Or.inl (by decide))).trans (up_same))
    have fI2_2 : ∀ j, j ≠ k → I2 420 j = I 420 j := fun j p0 => by rw [hI2]; exact ((up_fld p0).trans ((up_ne (Or.inl (by decide))).trans (up_ne (Or.inl (by decide)))))
    have sI2_2_0 : I2 420 k = (I 406 (1283 + k)) := by rw [hI2]; exact (up_same)
    have g406 : I2 406 = R := (rI2 406 (by decide) (by decide) (by decide)).trans h406
    have v0 : I2 416 k = R (995 + k) := sI2_0_0.trans (congrFun h406 _)
    have v1 : I2 417 k = R (1139 + k) := sI2_1_0.trans (congrFun h406 _)
    have v2 : I2 420 k = R (1283 + k) := sI2_2_0.trans (congrFun h406 _)
    refine q_ald rfl rfl ?_
    refine q_getr rfl sk_404 sr_404_30 ?_
    refine q_ild rfl rfl ?_
    refine q_ald rfl rfl ?_
    refine q_getr rfl sk_404 sr_404_39 ?_
    refine q_ild rfl rfl ?_
    refine q_xald rfl (Or.inl rfl) sk_420 sn_420 (by omega) (by omega) ?_
    show dw_ok (pr_X12_loads K) 122 0 0 [some (.ref 404), some (.int c)] [.int (I2 420 (c).toInt.toNat), .int c, .ref 418] (n, SH1, I2, J)
    rw [(nat_of hc)]
    refine q_ic rfl ?_
    refine q_icmp (c := 1) rfl (by decide) (fun y3 => ?_) (fun y3 => ?_)
    · have y3 : ((I2 420 k)).toInt ≠ (1 : Int) := y3
      refine q_ald rfl rfl ?_
      refine q_ild rfl rfl ?_
      refine q_callV (as := [.int c]) (rest := [.int c, .ref 418]) rfl rfl sk_404 rfl (Nat.le_of_ble_eq_true rfl) ?_
      refine v_skyOf (k := k) (C := Cn R) (H := Hn R) hc (by omega) (by rw [g406]; exact hG.1.1) hC0 (by rw [g406]; exact hG.1.2.2.1) hG.1.2.2.2.2.2.1 (by rw [g406]; exact hG.1.2.2.2.2.2.2) (fun w hw => ?_)
      rw [g406] at hw
      show dw_ok (pr_X12_loads K) 135 0 0 [some (.ref 404), some (.int c)] [.int w, .int c, .ref 418] (n, SH1, I2, J)
      refine q_iast rfl sk_418 sn_418 (by omega) (by omega) ?_
      show dw_ok (pr_X12_loads K) 136 0 0 [some (.ref 404), some (.int c)] [] (n, SH1, (dw_up I2 418 (c).toInt.toNat w), J)
      rw [(nat_of hc)]
      refine q_ald rfl rfl ?_
      refine q_getr rfl sk_404 sr_404_31 ?_
      refine q_ild rfl rfl ?_
      refine q_ald rfl rfl ?_
      refine q_getr rfl sk_404 sr_404_6 ?_
      refine q_ic rfl ?_
      refine q_ild rfl rfl ?_
      refine q_add rfl ?_
      show dw_ok (pr_X12_loads K) 149 0 0 [some (.ref 404), some (.int c)] [.int ((29 : Int32) + c), .ref 406, .int c, .ref 419] (n, SH1, (dw_up I2 418 k w), J)
      obtain ⟨z29, hz29⟩ : ∃ z, z = ((29 : Int32) + c) := ⟨_, rfl⟩
      rw [← hz29]
      have ez29 : z29.toInt = ((29 + k : Nat) : Int) := by rw [hz29]; exact (ix_a (x := 29) (a := 29) rfl hc (by omega))
      refine q_xald rfl (Or.inl rfl) sk_406 sn_406 (by omega) (by omega) ?_
      show dw_ok (pr_X12_loads K) 150 0 0 [some (.ref 404), some (.int c)] [.int ((dw_up I2 418 k w) 406 (z29).toInt.toNat), .int c, .ref 419] (n, SH1, (dw_up I2 418 k w), J)
      rw [(nat_of ez29)]
      show dw_ok (pr_X12_loads K) 150 0 0 [some (.ref 404), some (.int c)] [.int ((dw_up I2 418 k w) 406 (29 + k)), .int c, .ref 419] (n, SH1, (dw_up I2 418 k w), J)
      rw [show ((dw_up I2 418 k w) 406 (29 + k)) = (I2 406 (29 + k)) from (up_ne (Or.inl (by decide)))]
      refine q_iast rfl sk_419 sn_419 (by omega) (by omega) ?_
      show dw_ok (pr_X12_loads K) 151 0 0 [some (.ref 404), some (.int c)] [] (n, SH1, (dw_up (dw_up I2 418 k w) 419 (c).toInt.toNat (I2 406 (29 + k))), J)
      rw [(nat_of hc)]
      refine q_inc rfl rfl rfl ?_
      show dw_ok (pr_X12_loads K) 154 0 0 [some (.ref 404), some (.int (c + 1))] [] (n, SH1, (dw_up (dw_up I2 418 k w) 419 k (I2 406 (29 + k))), J)
      show dw_ok (pr_X12_loads K) 154 0 0 [some (.ref 404), some (.int (c + 1))] [] (n, SH1, (dw_up (dw_up I2 418 k w) 419 k (I2 406 (29 + k))), J)
      obtain ⟨cx, hcx⟩ : ∃ z, z = (c + 1) := ⟨_, rfl⟩
      rw [← hcx]
      have ecx : cx.toInt = ((k + 1 : Nat) : Int) := by rw [hcx]; exact ix_1 hc (by omega)
      refine q_goto rfl ?_
      refine ih (k + 1) cx (dw_up (dw_up I2 418 k w) 419 k (I2 406 (29 + k))) (by omega) ecx (fun a g1 g2 g3 g4 g5 => ((up_row g4).trans ((up_row g3).trans ((rI2 a g1 g2 g5).trans (hA a g1 g2 g3 g4 g5))))) (fun j hj => ?_)
      by_cases e : j = k
      · rw [e]
        refine ⟨((up_ne (Or.inl (by decide))).trans ((up_ne (Or.inl (by decide))).trans (v0))), ((up_ne (Or.inl (by decide))).trans ((up_ne (Or.inl (by decide))).trans (v1))), ((up_ne (Or.inl (by decide))).trans ((up_ne (Or.inl (by decide))).trans (v2))), ?_, ((up_same).trans (congrFun g406 _))⟩
        rw [show (dw_up (dw_up I2 418 k w) 419 k (I2 406 (29 + k))) 418 k = w from ((up_ne (Or.inl (by decide))).trans (up_same))]
        rw [if_neg (fun q => by rw [v2, q] at y3; exact absurd rfl y3)]
        exact skI_e hG hw
      · obtain ⟨b1, b2, b3, b4, b5⟩ := hB j (by omega)
        exact ⟨((up_ne (Or.inl (by decide))).trans ((up_ne (Or.inl (by decide))).trans ((fI2_0 j e).trans (b1)))), ((up_ne (Or.inl (by decide))).trans ((up_ne (Or.inl (by decide))).trans ((fI2_1 j e).trans (b2)))), ((up_ne (Or.inl (by decide))).trans ((up_ne (Or.inl (by decide))).trans ((fI2_2 j e).trans (b3)))), ((up_ne (Or.inl (by decide))).trans ((up_fld e).trans ((congrFun (rI2 418 (by decide) (by decide) (by decide)) j).trans (b4)))), ((up_fld e).trans ((up_ne (Or.inl (by decide))).trans ((congrFun (rI2 419 (by decide) (by decide) (by decide)) j).trans (b5))))⟩
    · have y3 : ((I2 420 k)).toInt = (1 : Int) := y3
      refine q_ic rfl ?_
      refine q_goto rfl ?_
      refine q_iast rfl sk_418 sn_418 (by omega) (by omega) ?_
      show dw_ok (pr_X12_loads K) 136 0 0 [some (.ref 404), some (.int c)] [] (n, SH1, (dw_up I2 418 (c).toInt.toNat (0 : Int32)), J)
      rw [(nat_of hc)]
      refine q_ald rfl rfl ?_
      refine q_getr rfl sk_404 sr_404_31 ?_
      refine q_ild rfl rfl ?_
      refine q_ald rfl rfl ?_
      refine q_getr rfl sk_404 sr_404_6 ?_
      refine q_ic rfl ?_
      refine q_ild rfl rfl ?_
      refine q_add rfl ?_
      show dw_ok (pr_X12_loads K) 149 0 0 [some (.ref 404), some (.int c)] [.int ((29 : Int32) + c), .ref 406, .int c, .ref 419] (n, SH1, (dw_up I2 418 k (0 : Int32)), J)
      obtain ⟨z29, hz29⟩ : ∃ z, z = ((29 : Int32) + c) := ⟨_, rfl⟩
      rw [← hz29]
      have ez29 : z29.toInt = ((29 + k : Nat) : Int) := by rw [hz29]; exact (ix_a (x := 29) (a := 29) rfl hc (by omega))
      refine q_xald rfl (Or.inl rfl) sk_406 sn_406 (by omega) (by omega) ?_
      show dw_ok (pr_X12_loads K) 150 0 0 [some (.ref 404), some (.int c)] [.int ((dw_up I2 418 k (0 : Int32)) 406 (z29).toInt.toNat), .int c, .ref 419] (n, SH1, (dw_up I2 418 k (0 : Int32)), J)
      rw [(nat_of ez29)]
      show dw_ok (pr_X12_loads K) 150 0 0 [some (.ref 404), some (.int c)] [.int ((dw_up I2 418 k (0 : Int32)) 406 (29 + k)), .int c, .ref 419] (n, SH1, (dw_up I2 418 k (0 : Int32)), J)
      rw [show ((dw_up I2 418 k (0 : Int32)) 406 (29 + k)) = (I2 406 (29 + k)) from (up_ne (Or.inl (by decide)))]
      refine q_iast rfl sk_419 sn_419 (by omega) (by omega) ?_
      show dw_ok (pr_X12_loads K) 151 0 0 [some (.ref 404), some (.int c)] [] (n, SH1, (dw_up (dw_up I2 418 k (0 : Int32)) 419 (c).toInt.toNat (I2 406 (29 + k))), J)
      rw [(nat_of hc)]
      refine q_inc rfl rfl rfl ?_
      show dw_ok (pr_X12_loads K) 154 0 0 [some (.ref 404), some (.int (c + 1))] [] (n, SH1, (dw_up (dw_up I2 418 k (0 : Int32)) 419 k (I2 406 (29 + k))), J)
      show dw_ok (pr_X12_loads K) 154 0 0 [some (.ref 404), some (.int (c + 1))] [] (n, SH1, (dw_up (dw_up I2 418 k (0 : Int32)) 419 k (I2 406 (29 + k))), J)
      obtain ⟨cx, hcx⟩ : ∃ z, z = (c + 1) := ⟨_, rfl⟩
      rw [← hcx]
      have ecx : cx.toInt = ((k + 1 : Nat) : Int) := by rw [hcx]; exact ix_1 hc (by omega)
      refine q_goto rfl ?_
      refine ih (k + 1) cx (dw_up (dw_up I2 418 k (0 : Int32)) 419 k (I2 406 (29 + k))) (by omega) ecx (fun a g1 g2 g3 g4 g5 => ((up_row g4).trans ((up_row g3).trans ((rI2 a g1 g2 g5).trans (hA a g1 g2 g3 g4 g5))))) (fun j hj => ?_)
      by_cases e : j = k
      · rw [e]
        refine ⟨((up_ne (Or.inl (by decide))).trans ((up_ne (Or.inl (by decide))).trans (v0))), ((up_ne (Or.inl (by decide))).trans ((up_ne (Or.inl (by decide))).trans (v1))), ((up_ne (Or.inl (by decide))).trans ((up_ne (Or.inl (by decide))).trans (v2))), ?_, ((up_same).trans (congrFun g406 _))⟩
        rw [show (dw_up (dw_up I2 418 k (0 : Int32)) 419 k (I2 406 (29 + k))) 418 k = 0 from ((up_ne (Or.inl (by decide))).trans (up_same))]
        rw [if_pos (by rw [← v2]; exact i_eq y3)]
      · obtain ⟨b1, b2, b3, b4, b5⟩ := hB j (by omega)
        exact ⟨((up_ne (Or.inl (by decide))).trans ((up_ne (Or.inl (by decide))).trans ((fI2_0 j e).trans (b1)))), ((up_ne (Or.inl (by decide))).trans ((up_ne (Or.inl (by decide))).trans ((fI2_1 j e).trans (b2)))), ((up_ne (Or.inl (by decide))).trans ((up_ne (Or.inl (by decide))).trans ((fI2_2 j e).trans (b3)))), ((up_ne (Or.inl (by decide))).trans ((up_fld e).trans ((congrFun (rI2 418 (by decide) (by decide) (by decide)) j).trans (b4)))), ((up_fld e).trans ((up_ne (Or.inl (by decide))).trans ((congrFun (rI2 419 (by decide) (by decide) (by decide)) j).trans (b5))))⟩
set_option maxRecDepth 8000 in
set_option maxHeartbeats 8000000 in
theorem v_mloads {n : Nat} {I : Nat → Nat → Int32} {J : Nat → Nat → Int64} {K : dw_K} {R : Nat → Int32} (hR : I 406 = R) (hG : GOK R) (hS : NOK (rnS R)) (hd : (R 895).toInt = (dR R : Nat)) (hk : ∀ I' : Nat → Nat → Int32, (∀ a, a ≠ 404 → (a < 411 ∨ 419 < a) → a ≠ 420 → I' a = I a) → (∀ j, j ≠ 32 → j ≠ 33 → j ≠ 34 → j ≠ 35 → j ≠ 38 → I' 404 j = I 404 j) → GM I' R (cvR R) (rrS R) (dR R) → K none (n, SH1, I', J)) : t_X12_loads [.ref 404] (n, SH1, I, J) K := by
  refine q_body (Nat.le_of_ble_eq_true rfl) ?_
  refine q_ald rfl rfl ?_
  refine q_ic rfl ?_
  refine q_callV (as := [.int (898 : Int32)]) (rest := []) rfl rfl sk_404 rfl (Nat.le_of_ble_eq_true rfl) ?_
  refine v_sees (F := 898) (L := nL (rnS R)) rfl (by decide) (by rw [hR]; exact hS.1) (fun I1 hA1 hB1 => ?_)
  rw [hR] at hB1
  have i6 : I1 406 = R := (hA1 406 (by decide)).trans hR
  show dw_ok (pr_X12_loads K) 7 0 0 [some (.ref 404), none] [] (n, SH1, I1, J)
  refine q_ald rfl rfl ?_
  refine q_ald rfl rfl ?_
  refine q_getr rfl sk_404 sr_404_6 ?_
  refine q_ic rfl ?_
  refine q_xald rfl (Or.inl rfl) sk_406 sn_406 (by decide) (by decide) ?_
  refine q_puti rfl sk_404 ?_
  show dw_ok (pr_X12_loads K) 19 0 0 [some (.ref 404), none] [] (n, SH1, (dw_up I1 404 32 (I1 406 896)), J)
  refine q_ald rfl rfl ?_
  refine q_ald rfl rfl ?_
  refine q_getr rfl sk_404 sr_404_6 ?_
  refine q_ic rfl ?_
  refine q_xald rfl (Or.inl rfl) sk_406 sn_406 (by decide) (by decide) ?_
  show dw_ok (pr_X12_loads K) 28 0 0 [some (.ref 404), none] [.int ((dw_up I1 404 32 (I1 406 896)) 406 897), .ref 404] (n, SH1, (dw_up I1 404 32 (I1 406 896)), J)
  rw [show ((dw_up I1 404 32 (I1 406 896)) 406 897) = (I1 406 897) from (up_ne (Or.inl (by decide)))]
  refine q_puti rfl sk_404 ?_
  show dw_ok (pr_X12_loads K) 31 0 0 [some (.ref 404), none] [] (n, SH1, (dw_up (dw_up I1 404 32 (I1 406 896)) 404 33 (I1 406 897)), J)
  refine q_ald rfl rfl ?_
  refine q_ic rfl ?_
  refine q_puti rfl sk_404 ?_
  show dw_ok (pr_X12_loads K) 36 0 0 [some (.ref 404), none] [] (n, SH1, (dw_up (dw_up (dw_up I1 404 32 (I1 406 896)) 404 33 (I1 406 897)) 404 34 (0 : Int32)), J)
  refine q_ald rfl rfl ?_
  refine q_ic rfl ?_
  refine q_puti rfl sk_404 ?_
  show dw_ok (pr_X12_loads K) 41 0 0 [some (.ref 404), none] [] (n, SH1, (dw_up (dw_up (dw_up (dw_up I1 404 32 (I1 406 896)) 404 33 (I1 406 897)) 404 34 (0 : Int32)) 404 35 (-1 : Int32)), J)
  refine q_ald rfl rfl ?_
  refine q_ald rfl rfl ?_
  refine q_getr rfl sk_404 sr_404_6 ?_
  refine q_ic rfl ?_
  refine q_xald rfl (Or.inl rfl) sk_406 sn_406 (by decide) (by decide) ?_
  show dw_ok (pr_X12_loads K) 50 0 0 [some (.ref 404), none] [.int ((dw_up (dw_up (dw_up (dw_up I1 404 32 (I1 406 896)) 404 33 (I1 406 897)) 404 34 (0 : Int32)) 404 35 (-1 : Int32)) 406 895), .ref 404] (n, SH1, (dw_up (dw_up (dw_up (dw_up I1 404 32 (I1 406 896)) 404 33 (I1 406 897)) 404 34 (0 : Int32)) 404 35 (-1 : Int32)), J)
  rw [show ((dw_up (dw_up (dw_up (dw_up I1 404 32 (I1 406 896)) 404 33 (I1 406 897)) 404 34 (0 : Int32)) 404 35 (-1 : Int32)) 406 895) = (I1 406 895) from ((up_ne (Or.inl (by decide))).trans ((up_ne (Or.inl (by decide))).trans ((up_ne (Or.inl (by decide))).trans (up_ne (Or.inl (by decide))))))]
  refine q_puti rfl sk_404 ?_
  show dw_ok (pr_X12_loads K) 53 0 0 [some (.ref 404), none] [] (n, SH1, (dw_up (dw_up (dw_up (dw_up (dw_up I1 404 32 (I1 406 896)) 404 33 (I1 406 897)) 404 34 (0 : Int32)) 404 35 (-1 : Int32)) 404 38 (I1 406 895)), J)
  obtain ⟨I2, hI2⟩ : ∃ X, X = (dw_up (dw_up (dw_up (dw_up (dw_up I1 404 32 (I1 406 896)) 404 33 (I1 406 897)) 404 34 (0 : Int32)) 404 35 (-1 : Int32)) 404 38 (I1 406 895)) := ⟨_, rfl⟩
  show dw_ok (pr_X12_loads K) 53 0 0 [some (.ref 404), none] [] (n, SH1, (dw_up (dw_up (dw_up (dw_up (dw_up I1 404 32 (I1 406 896)) 404 33 (I1 406 897)) 404 34 (0 : Int32)) 404 35 (-1 : Int32)) 404 38 (I1 406 895)), J)
  rw [← hI2]
  have rI2 : ∀ a, a ≠ 404 → I2 a = I1 a := fun a q0 => by rw [hI2]; exact ((up_row q0).trans ((up_row q0).trans ((up_row q0).trans ((up_row q0).trans (up_row q0)))))
  have fI2_0 : ∀ j, j ≠ 32 → j ≠ 33 → j ≠ 34 → j ≠ 35 → j ≠ 38 → I2 404 j = I1 404 j := fun j p0 p1 p2 p3 p4 => by rw [hI2]; exact ((up_fld p4).trans ((up_fld p3).trans ((up_fld p2).trans ((up_fld p1).trans (up_fld p0)))))
  have sI2_0_0 : I2 404 32 = (I1 406 896) := by rw [hI2]; exact ((up_fld (by decide)).trans ((up_fld (by decide)).trans ((up_fld (by decide)).trans ((up_fld (by decide)).trans (up_same)))))
  have sI2_0_1 : I2 404 33 = (I1 406 897) := by rw [hI2]; exact ((up_fld (by decide)).trans ((up_fld (by decide)).trans ((up_fld (by decide)).trans (up_same))))
  have sI2_0_2 : I2 404 34 = (0 : Int32) := by rw [hI2]; exact ((up_fld (by decide)).trans ((up_fld (by decide)).trans (up_same)))
  have sI2_0_3 : I2 404 35 = (-1 : Int32) := by rw [hI2]; exact ((up_fld (by decide)).trans (up_same))
  have sI2_0_4 : I2 404 38 = (I1 406 895) := by rw [hI2]; exact (up_same)
  have g406 : I2 406 = R := (rI2 406 (by decide)).trans i6
  refine q_ic rfl ?_
  refine q_ist rfl rfl ?_
  show dw_ok (pr_X12_loads K) 55 0 0 [some (.ref 404), some (.int (0 : Int32))] [] (n, SH1, I2, J)
  refine ml_loop (I0 := I2) g406 hG (fun I' hA' hB' => ?_) (Nn R) 0 0 I2 (by omega) rfl (fun _ _ _ _ _ _ => rfl) (fun j hj => absurd hj (Nat.not_lt_zero j))
  have r404 : I' 404 = I2 404 := hA' 404 (by decide) (by decide) (by decide) (by decide) (by decide)
  have e406 : I' 406 = R := (hA' 406 (by decide) (by decide) (by decide) (by decide) (by decide)).trans g406
  have cM1 : (-1 : Int32).toInt = -1 := rfl
  have e35 : I' 404 35 = -1 := (congrFun r404 35).trans sI2_0_3
  have nn' : ∀ w, w < 5 → ∀ t, t < 144 → I' (411 + w) t = ndF (nU (rnS R)) w t := fun w hw t ht => by
    rw [hA' (411 + w) (by omega) (by omega) (by omega) (by omega) (by omega), rI2 (411 + w) (by omega)]; exact hB1 w hw t ht
  refine hk I' (fun a g1 g2 g3 => ?_) (fun j p0 p1 p2 p3 p4 => ?_) ⟨e406, ?_, e35, ⟨fun τ _ _ c hc => ?_, fun t _ ht => ?_, ⟨fun c hc => (hB' c hc).1, fun c hc => (hB' c hc).2.1, ?_, ?_⟩, ?_, ?_, fun c hc => ?_⟩, fun c hc => ⟨(hB' c hc).2.2.1, (hB' c hc).2.2.2.2⟩⟩
  · rw [hA' a (by omega) (by omega) (by omega) (by omega) g3, rI2 a g1]; exact hA1 a (by omega)
  · rw [r404, fI2_0 j p0 p1 p2 p3 p4]; exact congrFun (hA1 404 (by decide)) j
  · rw [r404, sI2_0_4, congrFun i6 895]; exact hd
  · unfold cfM cvG syM
    rw [e406, (hB' c hc).2.2.2.2, e35, if_neg (fun q => by rw [cM1] at q; omega), (hB' c hc).2.2.2.1]
  · unfold tnM gT
    rw [show I' 411 t = ndF (nU (rnS R)) 0 t from nn' 0 (by decide) t ht, show I' 412 t = ndF (nU (rnS R)) 1 t from nn' 1 (by decide) t ht, show I' 413 t = ndF (nU (rnS R)) 2 t from nn' 2 (by decide) t ht, show I' 414 t = ndF (nU (rnS R)) 3 t from nn' 3 (by decide) t ht, show I' 415 t = ndF (nU (rnS R)) 4 t from nn' 4 (by decide) t ht]
  · show I' 404 32 = R 896
    rw [r404, sI2_0_0]; exact congrFun i6 896
  · show I' 404 33 = R 897
    rw [r404, sI2_0_1]; exact congrFun i6 897
  · rw [e406]; exact (gok_N hG).1
  · rw [r404, sI2_0_2]; rfl
  · rw [(hB' c hc).2.2.2.2]
    obtain ⟨k1, k2, -⟩ := gok_k hG hc
    exact ⟨k1, k2⟩
set_option maxRecDepth 8000 in
set_option maxHeartbeats 4000000 in
theorem mk2_loop {n : Nat} {J : Nat → Nat → Int64} {K : dw_K} {N : Nat} {I0 : Nat → Nat → Int32} (hN : (I0 406 0 * I0 406 1).toInt = N) (hN9 : N ≤ 144)
    (hk : ∀ I' : Nat → Nat → Int32, (∀ a, a ≠ 406 → I' a = I0 a) → (∀ j, j < 995 → I' 406 j = I0 406 j) → (∀ c, c < N → I' 406 (995 + c) = I0 416 c ∧ I' 406 (1139 + c) = I0 417 c ∧ I' 406 (1283 + c) = I0 420 c) → K none (n, SH1, I', J)) :
    ∀ (f k : Nat) (c : Int32) (I : Nat → Nat → Int32), k + f = N → c.toInt = k → (∀ a, a ≠ 406 → I a = I0 a) → (∀ j, j < 995 → I 406 j = I0 406 j) → (∀ c, c < k → I 406 (995 + c) = I0 416 c ∧ I 406 (1139 + c) = I0 417 c ∧ I 406 (1283 + c) = I0 420 c) → dw_ok (pr_X12_keeps K) 38 0 0 [some (.ref 404), some (.int c)] [] (n, SH1, I, J) := by
  intro f
  induction f with
  | zero =>
    intro k c I hf hc hA hB hC
    have h0 : I 406 0 = I0 406 0 := hB 0 (by omega)
    have h1 : I 406 1 = I0 406 1 := hB 1 (by omega)
    refine q_ild rfl rfl ?_
    refine q_ald rfl rfl ?_
    refine q_callV (as := []) (rest := [.int c]) rfl rfl sk_404 rfl (Nat.le_of_ble_eq_true rfl) ?_
    refine v_mcells ?_
    show dw_ok (pr_X12_keeps K) 43 0 0 [some (.ref 404), some (.int c)] [.int (I 406 0 * I 406 1), .int c] (n, SH1, I, J)
    rw [h0, h1]
    obtain ⟨nv, hnv⟩ : ∃ z, z = I0 406 0 * I0 406 1 := ⟨_, rfl⟩
    rw [← hnv]
    have env : nv.toInt = N := by rw [hnv]; exact hN
    show dw_ok (pr_X12_keeps K) 43 0 0 [some (.ref 404), some (.int c)] [.int nv, .int c] (n, SH1, I, J)
    refine q_icmp (c := 3) rfl (by decide) (fun y1 => ?_) (fun h => absurd (show (c).toInt < (nv).toInt from h) (by omega))
    have y1 : (nv).toInt ≤ (c).toInt := y1
    exact q_vret rfl (hk I hA hB (fun j hj => hC j (by omega)))
  | succ f ih =>
    intro k c I hf hc hA hB hC
    have h0 : I 406 0 = I0 406 0 := hB 0 (by omega)
    have h1 : I 406 1 = I0 406 1 := hB 1 (by omega)
    refine q_ild rfl rfl ?_
    refine q_ald rfl rfl ?_
    refine q_callV (as := []) (rest := [.int c]) rfl rfl sk_404 rfl (Nat.le_of_ble_eq_true rfl) ?_
    refine v_mcells ?_
    show dw_ok (pr_X12_keeps K) 43 0 0 [some (.ref 404), some (.int c)] [.int (I 406 0 * I 406 1), .int c] (n, SH1, I, J)
    rw [h0, h1]
    obtain ⟨nv, hnv⟩ : ∃ z, z = I0 406 0 * I0 406 1 := ⟨_, rfl⟩
    rw [← hnv]
    have env : nv.toInt = N := by rw [hnv]; exact hN
    show dw_ok (pr_X12_keeps K) 43 0 0 [some (.ref 404), some (.int c)] [.int nv, .int c] (n, SH1, I, J)
    refine q_icmp (c := 3) rfl (by decide) (fun h => absurd (show (nv).toInt ≤ (c).toInt from h) (by omega)) (fun y2 => ?_)
    have y2 : (c).toInt < (nv).toInt := y2
    refine q_ald rfl rfl ?_
    refine q_getr rfl sk_404 sr_404_6 ?_
    refine q_ic rfl ?_
    refine q_ild rfl rfl ?_
    refine q_add rfl ?_
    show dw_ok (pr_X12_keeps K) 55 0 0 [some (.ref 404), some (.int c)] [.int ((995 : Int32) + c), .ref 406] (n, SH1, I, J)
    obtain ⟨z995, hz995⟩ : ∃ z, z = ((995 : Int32) + c) := ⟨_, rfl⟩
    rw [← hz995]
    have ez995 : z995.toInt = ((995 + k : Nat) : Int) := by rw [hz995]; exact (ix_a (x := 995) (a := 995) rfl hc (by omega))
    refine q_ald rfl rfl ?_
    refine q_getr rfl sk_404 sr_404_28 ?_
    refine q_ild rfl rfl ?_
    refine q_xald rfl (Or.inl rfl) sk_416 sn_416 (by omega) (by omega) ?_
    show dw_ok (pr_X12_keeps K) 61 0 0 [some (.ref 404), some (.int c)] [.int (I 416 (c).toInt.toNat), .int z995, .ref 406] (n, SH1, I, J)
    rw [(nat_of hc)]
    refine q_iast rfl sk_406 sn_406 (by omega) (by omega) ?_
    show dw_ok (pr_X12_keeps K) 62 0 0 [some (.ref 404), some (.int c)] [] (n, SH1, (dw_up I 406 (z995).toInt.toNat (I 416 k)), J)
    rw [(nat_of ez995)]
    refine q_ald rfl rfl ?_
    refine q_getr rfl sk_404 sr_404_6 ?_
    refine q_ic rfl ?_
    refine q_ild rfl rfl ?_
    refine q_add rfl ?_
    show dw_ok (pr_X12_keeps K) 71 0 0 [some (.ref 404), some (.int c)] [.int ((1139 : Int32) + c), .ref 406] (n, SH1, (dw_up I 406 (995 + k) (I 416 k)), J)
    obtain ⟨z1139, hz1139⟩ : ∃ z, z = ((1139 : Int32) + c) := ⟨_, rfl⟩
    rw [← hz1139]
    have ez1139 : z1139.toInt = ((1139 + k : Nat) : Int) := by rw [hz1139]; exact (ix_a (x := 1139) (a := 1139) rfl hc (by omega))
    refine q_ald rfl rfl ?_
    refine q_getr rfl sk_404 sr_404_29 ?_
    refine q_ild rfl rfl ?_
    refine q_xald rfl (Or.inl rfl) sk_417 sn_417 (by omega) (by omega) ?_
    show dw_ok (pr_X12_keeps K) 77 0 0 [some (.ref 404), some (.int c)] [.int ((dw_up I 406 (995 + k) (I 416 k)) 417 (c).toInt.toNat), .int z1139, .ref 406] (n, SH1, (dw_up I 406 (995 + k) (I 416 k)), J)
    rw [(nat_of hc)]
    show dw_ok (pr_X12_keeps K) 77 0 0 [some (.ref 404), some (.int c)] [.int ((dw_up I 406 (995 + k) (I 416 k)) 417 k), .int z1139, .ref 406] (n, SH1, (dw_up I 406 (995 + k) (I 416 k)), J)
    rw [show ((dw_up I 406 (995 + k) (I 416 k)) 417 k) = (I 417 k) from (up_ne (Or.inl (by decide)))]
    refine q_iast rfl sk_406 sn_406 (by omega) (by omega) ?_
    show dw_ok (pr_X12_keeps K) 78 0 0 [some (.ref 404), some (.int c)] [] (n, SH1, (dw_up (dw_up I 406 (995 + k) (I 416 k)) 406 (z1139).toInt.toNat (I 417 k)), J)
    rw [(nat_of ez1139)]
    refine q_ald rfl rfl ?_
    refine q_getr rfl sk_404 sr_404_6 ?_
    refine q_ic rfl ?_
    refine q_ild rfl rfl ?_
    refine q_add rfl ?_
    show dw_ok (pr_X12_keeps K) 87 0 0 [some (.ref 404), some (.int c)] [.int ((1283 : Int32) + c), .ref 406] (n, SH1, (dw_up (dw_up I 406 (995 + k) (I 416 k)) 406 (1139 + k) (I 417 k)), J)
    obtain ⟨z1283, hz1283⟩ : ∃ z, z = ((1283 : Int32) + c) := ⟨_, rfl⟩
    rw [← hz1283]
    have ez1283 : z1283.toInt = ((1283 + k : Nat) : Int) := by rw [hz1283]; exact (ix_a (x := 1283) (a := 1283) rfl hc (by omega))
    refine q_ald rfl rfl ?_
    refine q_getr rfl sk_404 sr_404_39 ?_
    refine q_ild rfl rfl ?_
    refine q_xald rfl (Or.inl rfl) sk_420 sn_420 (by omega) (by omega) ?_
    show dw_ok (pr_X12_keeps K) 93 0 0 [some (.ref 404), some (.int c)] [.int ((dw_up (dw_up I 406 (995 + k) (I 416 k)) 406 (1139 + k) (I 417 k)) 420 (c).toInt.toNat), .int z1283, .ref 406] (n, SH1, (dw_up (dw_up I 406 (995 + k) (I 416 k)) 406 (1139 + k) (I 417 k)), J)
    rw [(nat_of hc)]
    show dw_ok (pr_X12_keeps K) 93 0 0 [some (.ref 404), some (.int c)] [.int ((dw_up (dw_up I 406 (995 + k) (I 416 k)) 406 (1139 + k) (I 417 k)) 420 k), .int z1283, .ref 406] (n, SH1, (dw_up (dw_up I 406 (995 + k) (I 416 k)) 406 (1139 + k) (I 417 k)), J)
    rw [show ((dw_up (dw_up I 406 (995 + k) (I 416 k)) 406 (1139 + k) (I 417 k)) 420 k) = (I 420 k) from ((up_ne (Or.inl (by decide))).trans (up_ne (Or.inl (by decide))))]
    refine q_iast rfl sk_406 sn_406 (by omega) (by omega) ?_
    show dw_ok (pr_X12_keeps K) 94 0 0 [some (.ref 404), some (.int c)] [] (n, SH1, (dw_up (dw_up (dw_up I 406 (995 + k) (I 416 k)) 406 (1139 + k) (I 417 k)) 406 (z1283).toInt.toNat (I 420 k)), J)
    rw [(nat_of ez1283)]
    refine q_inc rfl rfl rfl ?_
    show dw_ok (pr_X12_keeps K) 97 0 0 [some (.ref 404), some (.int (c + 1))] [] (n, SH1, (dw_up (dw_up (dw_up I 406 (995 + k) (I 416 k)) 406 (1139 + k) (I 417 k)) 406 (1283 + k) (I 420 k)), J)
    show dw_ok (pr_X12_keeps K) 97 0 0 [some (.ref 404), some (.int (c + 1))] [] (n, SH1, (dw_up (dw_up (dw_up I 406 (995 + k) (I 416 k)) 406 (1139 + k) (I 417 k)) 406 (1283 + k) (I 420 k)), J)
    obtain ⟨cx, hcx⟩ : ∃ z, z = (c + 1) := ⟨_, rfl⟩
    rw [← hcx]
    have ecx : cx.toInt = ((k + 1 : Nat) : Int) := by rw [hcx]; exact ix_1 hc (by omega)
    refine q_goto rfl ?_
    refine ih (k + 1) cx (dw_up (dw_up (dw_up I 406 (995 + k) (I 416 k)) 406 (1139 + k) (I 417 k)) 406 (1283 + k) (I 420 k)) (by omega) ecx (fun a ha => ((up_row ha).trans ((up_row ha).trans ((up_row ha).trans (hA a ha))))) (fun j hj => ((up_fld (by omega)).trans ((up_fld (by omega)).trans ((up_fld (by omega)).trans (hB j hj))))) (fun j hj => ?_)
    by_cases e : j = k
    · subst e
      exact ⟨((up_fld (by omega)).trans ((up_fld (by omega)).trans ((up_same).trans (congrFun (hA 416 (by decide)) j)))), ((up_fld (by omega)).trans ((up_same).trans (congrFun (hA 417 (by decide)) j))), ((up_same).trans (congrFun (hA 420 (by decide)) j))⟩
    · obtain ⟨b1, b2, b3⟩ := hC j (by omega)
      exact ⟨((up_fld (by omega)).trans ((up_fld (by omega)).trans ((up_fld (by omega)).trans (b1)))), ((up_fld (by omega)).trans ((up_fld (by omega)).trans ((up_fld (by omega)).trans (b2)))), ((up_fld (by omega)).trans ((up_fld (by omega)).trans ((up_fld (by omega)).trans (b3))))⟩
set_option maxRecDepth 8000 in
theorem v_mkeeps {n : Nat} {I : Nat → Nat → Int32} {J : Nat → Nat → Int64} {K : dw_K} {N : Nat} (hN : (I 406 0 * I 406 1).toInt = N) (hN9 : N ≤ 144) (hk : ∀ I' : Nat → Nat → Int32, (∀ a, a ≠ 406 → I' a = I a) → (∀ j, j < 995 → j ≠ 896 → j ≠ 897 → j ≠ 895 → I' 406 j = I 406 j) → I' 406 896 = I 404 32 → I' 406 897 = I 404 33 → I' 406 895 = I 404 38 → (∀ c, c < N → I' 406 (995 + c) = I 416 c ∧ I' 406 (1139 + c) = I 417 c ∧ I' 406 (1283 + c) = I 420 c) → K none (n, SH1, I', J)) : t_X12_keeps [.ref 404] (n, SH1, I, J) K := by
  refine q_body (Nat.le_of_ble_eq_true rfl) ?_
  refine q_ald rfl rfl ?_
  refine q_getr rfl sk_404 sr_404_6 ?_
  refine q_ic rfl ?_
  refine q_ald rfl rfl ?_
  refine q_geti rfl sk_404 ?_
  refine q_iast rfl sk_406 sn_406 (by decide) (by decide) ?_
  show dw_ok (pr_X12_keeps K) 12 0 0 [some (.ref 404), none] [] (n, SH1, (dw_up I 406 896 (I 404 32)), J)
  refine q_ald rfl rfl ?_
  refine q_getr rfl sk_404 sr_404_6 ?_
  refine q_ic rfl ?_
  refine q_ald rfl rfl ?_
  refine q_geti rfl sk_404 ?_
  show dw_ok (pr_X12_keeps K) 23 0 0 [some (.ref 404), none] [.int ((dw_up I 406 896 (I 404 32)) 404 33), .int (897 : Int32), .ref 406] (n, SH1, (dw_up I 406 896 (I 404 32)), J)
  rw [show ((dw_up I 406 896 (I 404 32)) 404 33) = (I 404 33) from (up_ne (Or.inl (by decide)))]
  refine q_iast rfl sk_406 sn_406 (by decide) (by decide) ?_
  show dw_ok (pr_X12_keeps K) 24 0 0 [some (.ref 404), none] [] (n, SH1, (dw_up (dw_up I 406 896 (I 404 32)) 406 897 (I 404 33)), J)
  refine q_ald rfl rfl ?_
  refine q_getr rfl sk_404 sr_404_6 ?_
  refine q_ic rfl ?_
  refine q_ald rfl rfl ?_
  refine q_geti rfl sk_404 ?_
  show dw_ok (pr_X12_keeps K) 35 0 0 [some (.ref 404), none] [.int ((dw_up (dw_up I 406 896 (I 404 32)) 406 897 (I 404 33)) 404 38), .int (895 : Int32), .ref 406] (n, SH1, (dw_up (dw_up I 406 896 (I 404 32)) 406 897 (I 404 33)), J)
  rw [show ((dw_up (dw_up I 406 896 (I 404 32)) 406 897 (I 404 33)) 404 38) = (I 404 38) from ((up_ne (Or.inl (by decide))).trans (up_ne (Or.inl (by decide))))]
  refine q_iast rfl sk_406 sn_406 (by decide) (by decide) ?_
  show dw_ok (pr_X12_keeps K) 36 0 0 [some (.ref 404), none] [] (n, SH1, (dw_up (dw_up (dw_up I 406 896 (I 404 32)) 406 897 (I 404 33)) 406 895 (I 404 38)), J)
  refine q_ic rfl ?_
  refine q_ist rfl rfl ?_
  show dw_ok (pr_X12_keeps K) 38 0 0 [some (.ref 404), some (.int (0 : Int32))] [] (n, SH1, (dw_up (dw_up (dw_up I 406 896 (I 404 32)) 406 897 (I 404 33)) 406 895 (I 404 38)), J)
  obtain ⟨I2, hI2⟩ : ∃ X, X = (dw_up (dw_up (dw_up I 406 896 (I 404 32)) 406 897 (I 404 33)) 406 895 (I 404 38)) := ⟨_, rfl⟩
  show dw_ok (pr_X12_keeps K) 38 0 0 [some (.ref 404), some (.int (0 : Int32))] [] (n, SH1, (dw_up (dw_up (dw_up I 406 896 (I 404 32)) 406 897 (I 404 33)) 406 895 (I 404 38)), J)
  rw [← hI2]
  have rI2 : ∀ a, a ≠ 406 → I2 a = I a := fun a q0 => by rw [hI2]; exact ((up_row q0).trans ((up_row q0).trans (up_row q0)))
  have fI2_0 : ∀ j, j ≠ 896 → j ≠ 897 → j ≠ 895 → I2 406 j = I 406 j := fun j p0 p1 p2 => by rw [hI2]; exact ((up_fld p2).trans ((up_fld p1).trans (up_fld p0)))
  have sI2_0_0 : I2 406 896 = (I 404 32) := by rw [hI2]; exact ((up_fld (by decide)).trans ((up_fld (by decide)).trans (up_same)))
  have sI2_0_1 : I2 406 897 = (I 404 33) := by rw [hI2]; exact ((up_fld (by decide)).trans (up_same))
  have sI2_0_2 : I2 406 895 = (I 404 38) := by rw [hI2]; exact (up_same)
  have d0 : I2 406 0 = I 406 0 := fI2_0 0 (by decide) (by decide) (by decide)
  have d1 : I2 406 1 = I 406 1 := fI2_0 1 (by decide) (by decide) (by decide)
  refine mk2_loop (I0 := I2) (N := N) (by rw [d0, d1]; exact hN) hN9 (fun I' hA hB hC => ?_) N 0 0 I2 (by omega) rfl (fun _ _ => rfl) (fun _ _ => rfl) (fun j hj => absurd hj (Nat.not_lt_zero j))
  refine hk I' (fun a ha => (hA a ha).trans (rI2 a ha)) (fun j q0 q1 q2 q3 => ?_) ?_ ?_ ?_ (fun c hc => ?_)
  · rw [hB j q0]; exact fI2_0 j q1 q2 q3
  · rw [hB 896 (by omega)]; exact sI2_0_0
  · rw [hB 897 (by omega)]; exact sI2_0_1
  · rw [hB 895 (by omega)]; exact sI2_0_2
  · obtain ⟨c1, c2, c3⟩ := hC c hc
    rw [c1, c2, c3]
    exact ⟨congrFun (rI2 416 (by decide)) c, congrFun (rI2 417 (by decide)) c, congrFun (rI2 420 (by decide)) c⟩
end
section
/-! ===== the RUN now, of the class ===== -/
set_option maxRecDepth 8000 in
theorem v_goByR {n : Nat} {I : Nat → Nat → Int32} {J : Nat → Nat → Int64} {K : dw_K} {A N st d m : Nat} {s : Int32} {C : Nat → Nat → rC} {T : Nat → rN} {s0 : rS} (hA : RT A) (h : CSK I A N st C T s0 d 0) (hd9 : d ≤ 144) (hN9 : N ≤ 144) (hm : s.toInt = m) (hm9 : m ≤ 144) (hk0 : 144 < d + m → K (some (.int 0)) (n, SH1, I, J)) (hk1 : d + m ≤ 144 → ∀ I' : Nat → Nat → Int32, (∀ a, a ≠ A → a ≠ A + 13 → a ≠ A + 14 → I' a = I a) → (∀ j, j ≠ 2 → j ≠ 3 → j ≠ 4 → I' A j = I A j) → CSK I' A N st C T s0 d m → K (some (.int 1)) (n, SH1, I', J)) : t_X7_goBy [.ref A, .int s] (n, SH1, I, J) K := by
  have c144 : (144 : Int32).toInt = 144 := rfl
  have hd : (I A 2).toInt = (d : Nat) := h.2.2.2.2.2.1
  have e1 : (144 - I A 2).toInt = 144 - d := by rw [i_sub (by omega) (by omega), c144, hd]
  refine q_body (Nat.le_of_ble_eq_true rfl) ?_
  refine q_ild rfl rfl ?_
  refine q_ic rfl ?_
  refine q_ald rfl rfl ?_
  refine q_geti rfl hA.1 ?_
  refine q_sub rfl ?_
  refine q_icmp (c := 5) rfl (by decide) (fun y1 => ?_) (fun y1 => ?_)
  · have y1 : (s).toInt ≤ (((144 : Int32) - (I A 2))).toInt := y1
    refine q_ald rfl rfl ?_
    refine q_ald rfl rfl ?_
    refine q_geti rfl hA.1 ?_
    refine q_ild rfl rfl ?_
    refine q_add rfl ?_
    refine q_callV (as := [.int ((I A 2) + s)]) (rest := []) rfl rfl hA.1 rfl (Nat.le_of_ble_eq_true rfl) ?_
    refine v_untilR (j := m) hA h (by omega) hN9 (Or.inl (by rw [i_add (by omega) (by omega), hd, hm]; omega)) (fun I' g1 g2 g3 => ?_)
    rw [Nat.zero_add] at g3
    show dw_ok (pr_X7_goBy K) 24 0 0 [some (.ref A), some (.int s)] [] (n, SH1, I', J)
    refine q_ic rfl ?_
    exact q_zret rfl (Or.inr rfl) (hk1 (by omega) I' g1 g2 g3)
  · have y1 : (((144 : Int32) - (I A 2))).toInt < (s).toInt := y1
    refine q_ic rfl ?_
    exact q_zret rfl (Or.inl rfl) (hk0 (by omega))
set_option maxRecDepth 8000 in
theorem v_gtellS {n : Nat} {I : Nat → Nat → Int32} {J : Nat → Nat → Int64} {K : dw_K} {k : Nat} {c : Int32} (hc : c.toInt = k) (h1 : k < 144) (hk : K (some (.int (I 9 k))) (n, SH1, I, J)) : t_X0_tell [.ref 4, .int c, .int (1 : Int32)] (n, SH1, I, J) K := by
  have hcn : c.toInt.toNat = k := by omega
  have c144 : (144 : Int32).toInt = 144 := rfl
  refine q_body (Nat.le_of_ble_eq_true rfl) ?_
  refine q_ild rfl rfl ?_
  refine q_if (c := 2) rfl (by decide) (fun h => absurd (show (c).toInt < 0 from h) (by omega)) (fun y1 => ?_)
  have y1 : 0 ≤ (c).toInt := y1
  refine q_ild rfl rfl ?_
  refine q_ic rfl ?_
  refine q_icmp (c := 2) rfl (by decide) (fun y2 => ?_) (fun h => absurd (show (144 : Int) ≤ (c).toInt from h) (by omega))
  have y2 : (c).toInt < (144 : Int) := y2
  refine q_ild rfl rfl ?_
  refine q_tab rfl (fun h3 => absurd h3 (by decide)) (fun _ => ⟨51, rfl, ?_⟩)
  show dw_ok (pr_X0_tell K) 51 0 0 [some (.ref 4), some (.int c), some (.int (1 : Int32))] [] (n, SH1, I, J)
  refine q_ald rfl rfl ?_
  refine q_getr rfl sk_4 sr_4_9 ?_
  refine q_ild rfl rfl ?_
  refine q_xald rfl (Or.inl rfl) sk_9 sn_9 (by omega) (by omega) ?_
  show dw_ok (pr_X0_tell K) 57 0 0 [some (.ref 4), some (.int c), some (.int (1 : Int32))] [.int (I 9 (c).toInt.toNat)] (n, SH1, I, J)
  rw [hcn]
  exact q_iret rfl hk
set_option maxRecDepth 8000 in
set_option maxHeartbeats 4000000 in
theorem v_doLine {n : Nat} {I : Nat → Nat → Int32} {J : Nat → Nat → Int64} {K : dw_K} {A i : Nat} {ln : Int32} {R cv : Nat → Int32} {s : rS} {d : Nat} (hA2 : A = 43 ∨ A = 164) (hG : GOK R) (hRG : RG I 4 R) (hRP : RP I 11 R) (hGP : GP R cv s d) (hGC : GC I A R cv s d) (hln : ln.toInt = i) (hi : (i : Int) < (R 803).toInt) (hk : ∀ (I' : Nat → Nat → Int32) (w : Int32) (L : Nat × Int32 × gL), lnF R i (cv, s, d) = L → w.toInt = L.1 → (∀ a, a ≠ A → (a < A + 11 ∨ A + 14 < a) → a ≠ 208 → I' a = I a) → (∀ j, j ≠ 2 → j ≠ 3 → j ≠ 4 → I' A j = I A j) → (∀ j, j ≠ 2 → I' 208 j = I 208 j) → I' 208 2 = I 208 2 + L.2.1 → GC I' A R L.2.2.1 L.2.2.2.1 L.2.2.2.2 → GP R L.2.2.1 L.2.2.2.1 L.2.2.2.2 → K (some (.int w)) (n, SH1, I', J)) : t_X11_doLine [.ref 0, .ref A, .int ln] (n, SH1, I, J) K := by
  have hA : RT A := by
    rcases hA2 with rfl | rfl
    · exact rt_ok (by decide)
    · exact rt_ok (by decide)
  have hA9 : 43 ≤ A ∧ A ≤ 164 := by omega
  clear hA2
  have hN9 := (gok_N hG).2
  obtain ⟨p0, ⟨pb0, pb1⟩, pl⟩ := id hRP
  have hi30 : i < 30 := by omega
  obtain ⟨q0, ⟨q1, q2⟩, q3, q4⟩ := pl i hi
  obtain ⟨kd, hkd⟩ : ∃ z, z = I (11 + 2 + i) 0 := ⟨_, rfl⟩
  obtain ⟨va, hva⟩ : ∃ z, z = I (11 + 2 + i) 1 := ⟨_, rfl⟩
  obtain ⟨vb, hvb⟩ : ∃ z, z = I (11 + 2 + i) 2 := ⟨_, rfl⟩
  rw [← hkd] at q0 q1 q2 q3 q4
  rw [← hva] at q3 q4
  rw [← hvb] at q4
  refine q_body (Nat.le_of_ble_eq_true rfl) ?_
  refine q_ald rfl rfl ?_
  refine q_getr rfl sk_0 sr_0_1 ?_
  refine q_getr rfl sk_3 sr_3_3 ?_
  refine q_ild rfl rfl ?_
  refine q_ic rfl ?_
  refine q_callV (as := [.int ln, .int (0 : Int32)]) (rest := []) rfl rfl sk_11 rfl (Nat.le_of_ble_eq_true rfl) ?_
  refine v_ptell (A := 11) (i := i) (w := 0) (y := 0) (pt_ok (by decide)) hln hi30 rfl (by decide) ?_
  show dw_ok (pr_X11_doLine K) 12 0 0 [some (.ref 0), some (.ref A), some (.int ln), none, none, none, none] [.int (I (11 + 2 + i) 0)] (n, SH1, I, J)
  rw [← hkd]
  show dw_ok (pr_X11_doLine K) 12 0 0 [some (.ref 0), some (.ref A), some (.int ln), none, none, none, none] [.int kd] (n, SH1, I, J)
  refine q_ist rfl rfl ?_
  show dw_ok (pr_X11_doLine K) 13 0 0 [some (.ref 0), some (.ref A), some (.int ln), some (.int kd), none, none, none] [] (n, SH1, I, J)
  refine q_ald rfl rfl ?_
  refine q_getr rfl sk_0 sr_0_1 ?_
  refine q_getr rfl sk_3 sr_3_3 ?_
  refine q_ild rfl rfl ?_
  refine q_ic rfl ?_
  refine q_callV (as := [.int ln, .int (1 : Int32)]) (rest := []) rfl rfl sk_11 rfl (Nat.le_of_ble_eq_true rfl) ?_
  refine v_ptell (A := 11) (i := i) (w := 1) (y := 1) (pt_ok (by decide)) hln hi30 rfl (by decide) ?_
  show dw_ok (pr_X11_doLine K) 25 0 0 [some (.ref 0), some (.ref A), some (.int ln), some (.int kd), none, none, none] [.int (I (11 + 2 + i) 1)] (n, SH1, I, J)
  rw [← hva]
  show dw_ok (pr_X11_doLine K) 25 0 0 [some (.ref 0), some (.ref A), some (.int ln), some (.int kd), none, none, none] [.int va] (n, SH1, I, J)
  refine q_ist rfl rfl ?_
  show dw_ok (pr_X11_doLine K) 27 0 0 [some (.ref 0), some (.ref A), some (.int ln), some (.int kd), some (.int va), none, none] [] (n, SH1, I, J)
  refine q_ild rfl rfl ?_
  refine q_if (c := 1) rfl (by decide) (fun y1 => ?_) (fun y1 => ?_)
  · have y1 : (kd).toInt ≠ 0 := y1
    refine q_ald rfl rfl ?_
    refine q_getr rfl sk_0 sr_0_1 ?_
    refine q_getr rfl sk_3 sr_3_1 ?_
    refine q_ild rfl rfl ?_
    refine q_ald rfl rfl ?_
    refine q_getr rfl sk_0 sr_0_1 ?_
    refine q_getr rfl sk_3 sr_3_3 ?_
    refine q_ild rfl rfl ?_
    refine q_ic rfl ?_
    refine q_callV (as := [.int ln, .int (2 : Int32)]) (rest := [.int va, .ref 4]) rfl rfl sk_11 rfl (Nat.le_of_ble_eq_true rfl) ?_
    refine v_ptell (A := 11) (i := i) (w := 2) (y := 2) (pt_ok (by decide)) hln hi30 rfl (by decide) ?_
    show dw_ok (pr_X11_doLine K) 67 0 0 [some (.ref 0), some (.ref A), some (.int ln), some (.int kd), some (.int va), none, none] [.int (I (11 + 2 + i) 2), .int va, .ref 4] (n, SH1, I, J)
    rw [← hvb]
    show dw_ok (pr_X11_doLine K) 67 0 0 [some (.ref 0), some (.ref A), some (.int ln), some (.int kd), some (.int va), none, none] [.int vb, .int va, .ref 4] (n, SH1, I, J)
    refine q_callV (as := [.int va, .int vb]) (rest := []) rfl rfl sk_4 rfl (Nat.le_of_ble_eq_true rfl) ?_
    obtain ⟨z1, ⟨z2, z3⟩, z4, z5⟩ := q4 y1
    have ok : okC R va vb := ⟨z2, z3, z4, z5⟩
    have hpa : pLA R i = cN R va vb := by
      show (R (805 + 3 * i)).toInt.toNat = cN R va vb
      rw [z1, (cN_i hG ok).2]; exact Int.toNat_natCast _
    refine v_cellAt2 (R := R) hG (hRG.1 0 (by decide)) (hRG.1 1 (by decide)) (fun _ cc hcc => ?_) (fun no => absurd ok no)
    rw [← hpa] at hcc
    have hcN : pLA R i < Nn R := by rw [hpa]; exact cN_lt ok
    have h1A : (I A 1).toInt = Nn R := hGC.1.2.2.2.1
    show dw_ok (pr_X11_doLine K) 70 0 0 [some (.ref 0), some (.ref A), some (.int ln), some (.int kd), some (.int va), none, none] [.int cc] (n, SH1, I, J)
    refine q_ist rfl rfl ?_
    show dw_ok (pr_X11_doLine K) 72 0 0 [some (.ref 0), some (.ref A), some (.int ln), some (.int kd), some (.int va), some (.int cc), none] [] (n, SH1, I, J)
    refine q_ild rfl rfl ?_
    refine q_ic rfl ?_
    refine q_icmp (c := 1) rfl (by decide) (fun y2 => ?_) (fun y2 => ?_)
    · have y2 : (kd).toInt ≠ (1 : Int) := y2
      refine q_ild rfl rfl ?_
      refine q_ic rfl ?_
      refine q_icmp (c := 1) rfl (by decide) (fun y3 => ?_) (fun y3 => ?_)
      · have y3 : (kd).toInt ≠ (2 : Int) := y3
        refine q_ald rfl rfl ?_
        refine q_ild rfl rfl ?_
        refine q_ald rfl rfl ?_
        refine q_getr rfl sk_0 sr_0_1 ?_
        refine q_getr rfl sk_3 sr_3_1 ?_
        refine q_ild rfl rfl ?_
        refine q_ic rfl ?_
        refine q_callV (as := [.int cc, .int (1 : Int32)]) (rest := [.int cc, .ref A]) rfl rfl sk_4 rfl (Nat.le_of_ble_eq_true rfl) ?_
        refine v_gtellS hcc (by omega) ?_
        rw [show I 9 (pLA R i) = skI R (pLA R i) from skI_e hG (hRG.2.2 _ hcN).2]
        show dw_ok (pr_X11_doLine K) 137 0 0 [some (.ref 0), some (.ref A), some (.int ln), some (.int kd), some (.int va), some (.int cc), none] [.int (skI R (pLA R i)), .int cc, .ref A] (n, SH1, I, J)
        refine q_callV (as := [.int cc, .int (skI R (pLA R i))]) (rest := []) rfl rfl hA.1 rfl (Nat.le_of_ble_eq_true rfl) ?_
        have hcv := (hGC.2 _ hcN).1
        refine v_bare hA hcc h1A hN9 hcN (fun g => ?_) (fun g => ?_)
        · rw [hcv] at g
          show dw_ok (pr_X11_doLine K) 140 0 0 [some (.ref 0), some (.ref A), some (.int ln), some (.int kd), some (.int va), some (.int cc), none] [.int (0 : Int32)] (n, SH1, I, J)
          refine q_ist rfl rfl ?_
          show dw_ok (pr_X11_doLine K) 142 0 0 [some (.ref 0), some (.ref A), some (.int ln), some (.int kd), some (.int va), some (.int cc), some (.int (0 : Int32))] [] (n, SH1, I, J)
          refine q_ild rfl rfl ?_
          refine q_if (c := 0) rfl (by decide) (fun y4 => ?_) (fun h => absurd (show (0 : Int) ≠ 0 from h) (by decide))
          have y4 : (0 : Int) = 0 := y4
          refine q_ic rfl ?_
          have e : lnF R i (cv, s, d) = (3, 0, (cv, s, d)) := by
            unfold lnF
            rw [q0, if_neg y1, if_neg y2, if_neg y3, if_pos (show cv (pLA R i) = 0 from i_eq g)]
          exact q_iret rfl (hk I 3 (3, 0, (cv, s, d)) e rfl (fun _ _ _ _ => rfl) (fun _ _ _ _ => rfl) (fun _ _ => rfl) (by show I 208 2 = I 208 2 + 0; rw [Int32.add_zero]) hGC hGP)
        · rw [hcv] at g
          obtain ⟨I1, hI1⟩ : ∃ X, X = dw_up (dw_up I (A + 12) (pLA R i) 0) (A + 11) (pLA R i) (skI R (pLA R i)) := ⟨_, rfl⟩
          rw [← hI1]
          have r1 : ∀ a, a ≠ A + 11 → a ≠ A + 12 → I1 a = I a := fun a h1 h2 => by rw [hI1]; exact (up_row h1).trans (up_row h2)
          have gc1 : GC I1 A R (upF cv (pLA R i) 0) s d := gc_cv hGC r1 (fun c hc => by rw [hI1]; exact (up_ne (Or.inl (by omega))).trans (up_fld hc)) (fun c hc => by rw [hI1]; exact (up_fld hc).trans (up_ne (Or.inl (by omega)))) (by rw [hI1]; exact (up_ne (Or.inl (by omega))).trans up_same) (by rw [hI1, if_neg (show ¬ (0 : Int32) = 1 by decide)]; exact up_same)
          show dw_ok (pr_X11_doLine K) 140 0 0 [some (.ref 0), some (.ref A), some (.int ln), some (.int kd), some (.int va), some (.int cc), none] [.int (1 : Int32)] (n, SH1, I1, J)
          refine q_ist rfl rfl ?_
          show dw_ok (pr_X11_doLine K) 142 0 0 [some (.ref 0), some (.ref A), some (.int ln), some (.int kd), some (.int va), some (.int cc), some (.int (1 : Int32))] [] (n, SH1, I1, J)
          refine q_ild rfl rfl ?_
          refine q_if (c := 0) rfl (by decide) (fun h => absurd (show (1 : Int) = 0 from h) (by decide)) (fun y5 => ?_)
          have y5 : (1 : Int) ≠ 0 := y5
          refine q_ic rfl ?_
          refine q_goto rfl ?_
          have e : lnF R i (cv, s, d) = (0, 0, (upF cv (pLA R i) 0, s, d)) := by
            unfold lnF
            rw [q0, if_neg y1, if_neg y2, if_neg y3, if_neg (show ¬ cv (pLA R i) = 0 from fun q => g (by rw [q]; rfl))]
          exact q_iret rfl (hk I1 0 (0, 0, (upF cv (pLA R i) 0, s, d)) e rfl (fun a h1 h2 h3 => r1 a (by omega) (by omega)) (fun j _ _ _ => congrFun (r1 A (by omega) (by omega)) j) (fun j _ => congrFun (r1 208 (by omega) (by omega)) j) (by show I1 208 2 = I 208 2 + 0; rw [r1 208 (by omega) (by omega), Int32.add_zero]) gc1 (gp_cv hG (Or.inl rfl) hGP))
      · have y3 : (kd).toInt = (2 : Int) := y3
        refine q_ald rfl rfl ?_
        refine q_ild rfl rfl ?_
        refine q_callV (as := [.int cc]) (rest := []) rfl rfl hA.1 rfl (Nat.le_of_ble_eq_true rfl) ?_
        have hcv := (hGC.2 _ hcN).1
        refine v_cover hA hcc h1A hN9 hcN (fun g => ?_) (fun g => ?_)
        · rw [hcv] at g
          show dw_ok (pr_X11_doLine K) 118 0 0 [some (.ref 0), some (.ref A), some (.int ln), some (.int kd), some (.int va), some (.int cc), none] [.int (0 : Int32)] (n, SH1, I, J)
          refine q_goto rfl ?_
          refine q_ist rfl rfl ?_
          show dw_ok (pr_X11_doLine K) 142 0 0 [some (.ref 0), some (.ref A), some (.int ln), some (.int kd), some (.int va), some (.int cc), some (.int (0 : Int32))] [] (n, SH1, I, J)
          refine q_ild rfl rfl ?_
          refine q_if (c := 0) rfl (by decide) (fun y6 => ?_) (fun h => absurd (show (0 : Int) ≠ 0 from h) (by decide))
          have y6 : (0 : Int) = 0 := y6
          refine q_ic rfl ?_
          have e : lnF R i (cv, s, d) = (3, 0, (cv, s, d)) := by
            unfold lnF
            rw [q0, if_neg y1, if_neg y2, if_pos y3, if_pos (show cv (pLA R i) = 1 from i_eq g)]
          exact q_iret rfl (hk I 3 (3, 0, (cv, s, d)) e rfl (fun _ _ _ _ => rfl) (fun _ _ _ _ => rfl) (fun _ _ => rfl) (by show I 208 2 = I 208 2 + 0; rw [Int32.add_zero]) hGC hGP)
        · rw [hcv] at g
          obtain ⟨I1, hI1⟩ : ∃ X, X = dw_up (dw_up I (A + 12) (pLA R i) 1) (A + 11) (pLA R i) 0 := ⟨_, rfl⟩
          rw [← hI1]
          have r1 : ∀ a, a ≠ A + 11 → a ≠ A + 12 → I1 a = I a := fun a h1 h2 => by rw [hI1]; exact (up_row h1).trans (up_row h2)
          have gc1 : GC I1 A R (upF cv (pLA R i) 1) s d := gc_cv hGC r1 (fun c hc => by rw [hI1]; exact (up_ne (Or.inl (by omega))).trans (up_fld hc)) (fun c hc => by rw [hI1]; exact (up_fld hc).trans (up_ne (Or.inl (by omega)))) (by rw [hI1]; exact (up_ne (Or.inl (by omega))).trans up_same) (by rw [hI1, if_pos (show (1 : Int32) = 1 from rfl)]; exact up_same)
          show dw_ok (pr_X11_doLine K) 118 0 0 [some (.ref 0), some (.ref A), some (.int ln), some (.int kd), some (.int va), some (.int cc), none] [.int (1 : Int32)] (n, SH1, I1, J)
          refine q_goto rfl ?_
          refine q_ist rfl rfl ?_
          show dw_ok (pr_X11_doLine K) 142 0 0 [some (.ref 0), some (.ref A), some (.int ln), some (.int kd), some (.int va), some (.int cc), some (.int (1 : Int32))] [] (n, SH1, I1, J)
          refine q_ild rfl rfl ?_
          refine q_if (c := 0) rfl (by decide) (fun h => absurd (show (1 : Int) = 0 from h) (by decide)) (fun y7 => ?_)
          have y7 : (1 : Int) ≠ 0 := y7
          refine q_ic rfl ?_
          refine q_goto rfl ?_
          have e : lnF R i (cv, s, d) = (0, 0, (upF cv (pLA R i) 1, s, d)) := by
            unfold lnF
            rw [q0, if_neg y1, if_neg y2, if_pos y3, if_neg (show ¬ cv (pLA R i) = 1 from fun q => g (by rw [q]; rfl))]
          exact q_iret rfl (hk I1 0 (0, 0, (upF cv (pLA R i) 1, s, d)) e rfl (fun a h1 h2 h3 => r1 a (by omega) (by omega)) (fun j _ _ _ => congrFun (r1 A (by omega) (by omega)) j) (fun j _ => congrFun (r1 208 (by omega) (by omega)) j) (by show I1 208 2 = I 208 2 + 0; rw [r1 208 (by omega) (by omega), Int32.add_zero]) gc1 (gp_cv hG (Or.inr rfl) hGP))
    · have y2 : (kd).toInt = (1 : Int) := y2
      refine q_ald rfl rfl ?_
      refine q_ild rfl rfl ?_
      refine q_callV (as := [.int cc]) (rest := []) rfl rfl hA.1 rfl (Nat.le_of_ble_eq_true rfl) ?_
      have hw : I (A + 14) (pLA R i) = s.2.1 (pLA R i) := hGC.1.2.2.1.2.1 _ hcN
      have w0 : 0 ≤ (s.2.1 (pLA R i)).toInt := hGP.1.2.2.2.2.1 _ hcN
      refine v_wipe hA hcc h1A hN9 hcN ?_
      rw [hw]
      obtain ⟨wt, hwt⟩ : ∃ z, z = s.2.1 (pLA R i) := ⟨_, rfl⟩
      rw [← hwt] at w0
      rw [← hwt]
      obtain ⟨I1, hI1⟩ : ∃ X, X = dw_up I (A + 14) (pLA R i) 0 := ⟨_, rfl⟩
      rw [← hI1]
      have r1 : ∀ a, a ≠ A + 14 → I1 a = I a := fun a ha => by rw [hI1]; exact up_row ha
      have gc1 : GC I1 A R cv (wpS s (pLA R i)) d := gc_wipe hGC r1 (fun c hc => by rw [hI1]; exact up_fld hc) (by rw [hI1]; exact up_same)
      show dw_ok (pr_X11_doLine K) 83 0 0 [some (.ref 0), some (.ref A), some (.int ln), some (.int kd), some (.int va), some (.int cc), none] [.int wt] (n, SH1, I1, J)
      refine q_ist rfl rfl ?_
      show dw_ok (pr_X11_doLine K) 85 0 0 [some (.ref 0), some (.ref A), some (.int ln), some (.int kd), some (.int va), some (.int cc), some (.int wt)] [] (n, SH1, I1, J)
      refine q_ald rfl rfl ?_
      refine q_getr rfl sk_0 sr_0_12 ?_
      refine q_ic rfl ?_
      refine q_dup2 rfl ?_
      refine q_xald rfl (Or.inl rfl) sk_208 sn_208 (by decide) (by decide) ?_
      refine q_ild rfl rfl ?_
      refine q_add rfl ?_
      refine q_iast rfl sk_208 sn_208 (by decide) (by decide) ?_
      show dw_ok (pr_X11_doLine K) 96 0 0 [some (.ref 0), some (.ref A), some (.int ln), some (.int kd), some (.int va), some (.int cc), some (.int wt)] [] (n, SH1, (dw_up I1 208 2 ((I1 208 2) + wt)), J)
      refine q_ild rfl rfl ?_
      refine q_if (c := 5) rfl (by decide) (fun y8 => ?_) (fun y8 => ?_)
      · have y8 : (wt).toInt ≤ 0 := y8
        refine q_ic rfl ?_
        have wz : wt = 0 := i_eq (by rw [show (0 : Int32).toInt = 0 from rfl]; have q : wt.toInt ≤ 0 := y8; omega)
        have e : lnF R i (cv, s, d) = (2, 0, (cv, s, d)) := by
          unfold lnF
          rw [q0, if_neg y1, if_pos y2, if_pos (show s.2.1 (pLA R i) = 0 by rw [← hwt]; exact wz)]
        exact q_iret rfl (hk (dw_up I1 208 2 ((I1 208 2) + wt)) 2 (2, 0, (cv, s, d)) e rfl (fun a h1 h2 h3 => (up_row h3).trans (r1 a (by omega))) (fun j _ _ _ => (up_ne (Or.inl (by omega))).trans (congrFun (r1 A (by omega)) j)) (fun j hj => (up_fld hj).trans (congrFun (r1 208 (by omega)) j)) (up_same.trans (by rw [wz, r1 208 (by omega)])) (gc_fr (gc_req gc1 (wp_0 (by rw [← hwt]; exact wz))) hN9 (fun a h1 h2 => up_row (by omega))) hGP)
      · have y8 : 0 < (wt).toInt := y8
        refine q_ic rfl ?_
        refine q_goto rfl ?_
        have wz : ¬ s.2.1 (pLA R i) = 0 := fun q => by rw [← hwt] at q; rw [q] at y8; exact absurd y8 (by decide)
        have e : lnF R i (cv, s, d) = (0, wt, (cv, wpS s (pLA R i), d)) := by
          unfold lnF
          rw [q0, if_neg y1, if_pos y2, if_neg wz, ← hwt]
        exact q_iret rfl (hk (dw_up I1 208 2 ((I1 208 2) + wt)) 0 (0, wt, (cv, wpS s (pLA R i), d)) e rfl (fun a h1 h2 h3 => (up_row h3).trans (r1 a (by omega))) (fun j _ _ _ => (up_ne (Or.inl (by omega))).trans (congrFun (r1 A (by omega)) j)) (fun j hj => (up_fld hj).trans (congrFun (r1 208 (by omega)) j)) (up_same.trans (by rw [r1 208 (by omega)])) (gc_fr gc1 hN9 (fun a h1 h2 => up_row (by omega))) (gp_wipe hGP))
  · have y1 : (kd).toInt = 0 := y1
    refine q_ald rfl rfl ?_
    refine q_ild rfl rfl ?_
    refine q_callV (as := [.int va]) (rest := []) rfl rfl hA.1 rfl (Nat.le_of_ble_eq_true rfl) ?_
    obtain ⟨z1, z2, z3⟩ := q3 y1
    have hm : va.toInt = (pLA R i : Nat) := by show va.toInt = (((R (805 + 3 * i)).toInt.toNat : Nat) : Int); rw [z1]; omega
    have hm9 : pLA R i ≤ 144 := by show (R (805 + 3 * i)).toInt.toNat ≤ 144; rw [z1]; omega
    refine v_goByR (m := pLA R i) hA hGC.1 hGP.2.1 hN9 hm hm9 (fun g => ?_) (fun g I1 f1 f2 f3 => ?_)
    · show dw_ok (pr_X11_doLine K) 37 0 0 [some (.ref 0), some (.ref A), some (.int ln), some (.int kd), some (.int va), none, none] [.int (0 : Int32)] (n, SH1, I, J)
      refine q_if (c := 0) rfl (by decide) (fun y9 => ?_) (fun h => absurd (show (0 : Int) ≠ 0 from h) (by decide))
      have y9 : (0 : Int) = 0 := y9
      refine q_ic rfl ?_
      have e : lnF R i (cv, s, d) = (1, 0, (cv, s, d)) := by
        unfold lnF
        rw [q0, if_pos y1, if_pos g]
      exact q_iret rfl (hk I 1 (1, 0, (cv, s, d)) e rfl (fun _ _ _ _ => rfl) (fun _ _ _ _ => rfl) (fun _ _ => rfl) (by show I 208 2 = I 208 2 + 0; rw [Int32.add_zero]) hGC hGP)
    · show dw_ok (pr_X11_doLine K) 37 0 0 [some (.ref 0), some (.ref A), some (.int ln), some (.int kd), some (.int va), none, none] [.int (1 : Int32)] (n, SH1, I1, J)
      refine q_if (c := 0) rfl (by decide) (fun h => absurd (show (1 : Int) = 0 from h) (by decide)) (fun y10 => ?_)
      have y10 : (1 : Int) ≠ 0 := y10
      refine q_ic rfl ?_
      refine q_goto rfl ?_
      have e : lnF R i (cv, s, d) = (0, 0, (cv, ruG R cv d (pLA R i) s, d + pLA R i)) := by
        unfold lnF
        rw [q0, if_pos y1, if_neg (Nat.not_lt.mpr g)]
      exact q_iret rfl (hk I1 0 (0, 0, (cv, ruG R cv d (pLA R i) s, d + pLA R i)) e rfl (fun a h1 h2 h3 => f1 a h1 (by omega) (by omega)) f2 (fun j _ => by rw [f1 208 (by omega) (by omega) (by omega)]) (by show I1 208 2 = I 208 2 + 0; rw [f1 208 (by omega) (by omega) (by omega), Int32.add_zero]) (gc_until hGC f1 f3) (gp_on hGP g))
set_option maxRecDepth 8000 in
theorem rgp_fr {I I' : Nat → Nat → Int32} {R : Nat → Int32} (hG : GOK R) (h : ∀ a, a < 43 → I' a = I a) (g : RG I 4 R) (p : RP I 11 R) : RG I' 4 R ∧ RP I' 11 R :=
  ⟨rg_eq (fun _ _ => rfl) (fun j _ => by rw [h 4 (by decide)]) (fun j _ => ⟨by rw [h (4 + 1) (by decide)], by rw [h (4 + 2) (by decide)], by rw [h (4 + 3) (by decide)]⟩) (fun c _ => ⟨by rw [h (4 + 4) (by decide)], by rw [h (4 + 5) (by decide)]⟩) hG g,
   rp_eq (fun _ _ => rfl) (fun _ _ _ => rfl) (by rw [h 11 (by decide)]) (fun i hi t _ => by rw [h (11 + 2 + i) (by omega)]) p⟩
set_option maxRecDepth 8000 in
theorem wcF_eq {f g : Nat → Int32} {l : Int32} : ∀ N : Nat, (∀ c, c < N → f c = g c) → wcF f l N = wcF g l N
  | 0, _ => rfl
  | N + 1, h => by
    show wcF f l N + (if l.toInt ≤ (f N).toInt then 1 else 0) = wcF g l N + (if l.toInt ≤ (g N).toInt then 1 else 0)
    rw [wcF_eq N (fun c hc => h c (by omega)), h N (by omega)]
set_option maxRecDepth 8000 in
theorem suF_eq {f g : Nat → Int32} : ∀ N : Nat, (∀ c, c < N → f c = g c) → suF f N = suF g N
  | 0, _ => rfl
  | N + 1, h => by
    show suF f N + f N = suF g N + g N
    rw [suF_eq N (fun c hc => h c (by omega)), h N (by omega)]
set_option maxRecDepth 8000 in
set_option maxHeartbeats 4000000 in
theorem go_loop {n : Nat} {J : Nat → Nat → Int64} {K : dw_K} {A L : Nat} {a1 ah : Int32} {R : Nat → Int32} {I0 : Nat → Nat → Int32} (hA2 : A = 43 ∨ A = 164) (hG : GOK R) (hRG : RG I0 4 R) (hRP : RP I0 11 R) (hL : (R 803).toInt = L) :
    ∀ (f i : Nat) (ln : Int32) (I : Nat → Nat → Int32) (cv : Nat → Int32) (s : rS) (d : Nat), i + f = L → ln.toInt = i → (∀ a, a ≠ A → (a < A + 11 ∨ A + 14 < a) → a ≠ 208 → I a = I0 a) → (∀ j, j ≠ 2 → j ≠ 3 → j ≠ 4 → I A j = I0 A j) → I 208 0 = 0 → GP R cv s d → GC I A R cv s d → (∀ (I' : Nat → Nat → Int32) (wr lx : Int32) (r : Nat × Nat × Int32 × gL), goF R f i (cv, s, d) = r → (∀ a, a ≠ A → (a < A + 11 ∨ A + 14 < a) → a ≠ 208 → I' a = I0 a) → (∀ j, j ≠ 2 → j ≠ 3 → j ≠ 4 → I' A j = I0 A j) → wr.toInt = (if r.1 = 0 then -1 else (r.2.1 : Int)) → (I' 208 0).toInt = r.1 → I' 208 2 = I 208 2 + r.2.2.1 → GC I' A R r.2.2.2.1 r.2.2.2.2.1 r.2.2.2.2.2 → GP R r.2.2.2.1 r.2.2.2.2.1 r.2.2.2.2.2 → dw_ok (pr_X11_go K) 145 0 0 [some (.ref 0), some (.int a1), some (.ref A), some (.int ah), some (.int wr), some (.int lx)] [] (n, SH1, I', J)) → dw_ok (pr_X11_go K) 88 0 0 [some (.ref 0), some (.int a1), some (.ref A), some (.int ah), some (.int (-1)), some (.int ln)] [] (n, SH1, I, J) := by
  have hA : RT A := by
    rcases hA2 with rfl | rfl
    · exact rt_ok (by decide)
    · exact rt_ok (by decide)
  have hA9 : 43 ≤ A ∧ A ≤ 164 := by omega
  have pb : (R 803).toInt ≤ 30 := hRP.2.1.2
  have hN9 := (gok_N hG).2
  intro f
  induction f with
  | zero =>
    intro i ln I cv s d hf hln hF hFA h0 hGP hGC hk
    obtain ⟨hRG1, hRP1⟩ := rgp_fr hG (fun a ha => hF a (by omega) (by omega) (by omega)) hRG hRP
    have h11 : I 11 0 = R 803 := hRP1.1
    have k1 : (1 : Int32).toInt = 1 := rfl
    have km : (-1 : Int32).toInt = -1 := rfl
    refine q_ild rfl rfl ?_
    refine q_ald rfl rfl ?_
    refine q_getr rfl sk_0 sr_0_1 ?_
    refine q_getr rfl sk_3 sr_3_3 ?_
    refine q_geti rfl sk_11 ?_
    refine q_icmp (c := 3) rfl (by decide) (fun y1 => ?_) (fun h => absurd (show (ln).toInt < ((I 11 0)).toInt from h) (by rw [h11]; omega))
    have y1 : ((I 11 0)).toInt ≤ (ln).toInt := y1
    exact hk I (-1) ln (0, i, 0, cv, s, d) rfl hF hFA rfl (by rw [h0]; rfl) (by show I 208 2 = I 208 2 + 0; rw [Int32.add_zero]) hGC hGP
  | succ f ih =>
    intro i ln I cv s d hf hln hF hFA h0 hGP hGC hk
    obtain ⟨hRG1, hRP1⟩ := rgp_fr hG (fun a ha => hF a (by omega) (by omega) (by omega)) hRG hRP
    have h11 : I 11 0 = R 803 := hRP1.1
    have k1 : (1 : Int32).toInt = 1 := rfl
    have km : (-1 : Int32).toInt = -1 := rfl
    refine q_ild rfl rfl ?_
    refine q_ald rfl rfl ?_
    refine q_getr rfl sk_0 sr_0_1 ?_
    refine q_getr rfl sk_3 sr_3_3 ?_
    refine q_geti rfl sk_11 ?_
    refine q_icmp (c := 3) rfl (by decide) (fun h => absurd (show ((I 11 0)).toInt ≤ (ln).toInt from h) (by rw [h11]; omega)) (fun y2 => ?_)
    have y2 : (ln).toInt < ((I 11 0)).toInt := y2
    refine q_ild rfl rfl ?_
    refine q_ic rfl ?_
    refine q_icmp (c := 1) rfl (by decide) (fun h => absurd (show (-1 : Int) ≠ (-1 : Int) from h) (by decide)) (fun y3 => ?_)
    have y3 : (-1 : Int) = (-1 : Int) := y3
    refine q_ald rfl rfl ?_
    refine q_getr rfl sk_0 sr_0_12 ?_
    refine q_ic rfl ?_
    refine q_ald rfl rfl ?_
    refine q_ald rfl rfl ?_
    refine q_ild rfl rfl ?_
    refine q_callV (as := [.ref A, .int ln]) (rest := [.int (0 : Int32), .ref 208]) rfl rfl sk_0 rfl (Nat.le_of_ble_eq_true rfl) ?_
    refine v_doLine hA2 hG hRG1 hRP1 hGP hGC hln (by omega) (fun I1 w L e ew g1 g2 g3 g4 gC gP => ?_)
    obtain ⟨lc, lt, lcv, ls, ld⟩ := L
    have ew : w.toInt = (lc : Nat) := ew
    have g4 : I1 208 2 = I 208 2 + lt := g4
    have gC : GC I1 A R lcv ls ld := gC
    have gP : GP R lcv ls ld := gP
    show dw_ok (pr_X11_go K) 121 0 0 [some (.ref 0), some (.int a1), some (.ref A), some (.int ah), some (.int (-1 : Int32)), some (.int ln)] [.int w, .int (0 : Int32), .ref 208] (n, SH1, I1, J)
    refine q_iast rfl sk_208 sn_208 (by decide) (by decide) ?_
    show dw_ok (pr_X11_go K) 122 0 0 [some (.ref 0), some (.int a1), some (.ref A), some (.int ah), some (.int (-1 : Int32)), some (.int ln)] [] (n, SH1, (dw_up I1 208 0 w), J)
    refine q_ald rfl rfl ?_
    refine q_getr rfl sk_0 sr_0_12 ?_
    refine q_ic rfl ?_
    refine q_xald rfl (Or.inl rfl) sk_208 sn_208 (by decide) (by decide) ?_
    show dw_ok (pr_X11_go K) 128 0 0 [some (.ref 0), some (.int a1), some (.ref A), some (.int ah), some (.int (-1 : Int32)), some (.int ln)] [.int ((dw_up I1 208 0 w) 208 0)] (n, SH1, (dw_up I1 208 0 w), J)
    rw [show ((dw_up I1 208 0 w) 208 0) = w from up_same]
    refine q_if (c := 1) rfl (by decide) (fun y4 => ?_) (fun y4 => ?_)
    · have y4 : (w).toInt ≠ 0 := y4
      refine q_ild rfl rfl ?_
      refine q_ist rfl rfl ?_
      show dw_ok (pr_X11_go K) 139 0 0 [some (.ref 0), some (.int a1), some (.ref A), some (.int ah), some (.int ln), some (.int ln)] [] (n, SH1, (dw_up I1 208 0 w), J)
      refine q_inc rfl rfl rfl ?_
      show dw_ok (pr_X11_go K) 142 0 0 [some (.ref 0), some (.int a1), some (.ref A), some (.int ah), some (.int ln), some (.int (ln + 1))] [] (n, SH1, (dw_up I1 208 0 w), J)
      show dw_ok (pr_X11_go K) 142 0 0 [some (.ref 0), some (.int a1), some (.ref A), some (.int ah), some (.int ln), some (.int (ln + 1))] [] (n, SH1, (dw_up I1 208 0 w), J)
      obtain ⟨lx, hlx⟩ : ∃ z, z = (ln + 1) := ⟨_, rfl⟩
      rw [← hlx]
      have elx : lx.toInt = ((i + 1 : Nat) : Int) := by rw [hlx]; exact ix_1 hln (by omega)
      refine q_goto rfl ?_
      show dw_ok (pr_X11_go K) 88 0 0 [some (.ref 0), some (.int a1), some (.ref A), some (.int ah), some (.int ln), some (.int lx)] [] (n, SH1, (dw_up I1 208 0 w), J)
      obtain ⟨I2, hI2⟩ : ∃ X, X = (dw_up I1 208 0 w) := ⟨_, rfl⟩
      rw [← hI2]
      have r2 : ∀ a, a ≠ 208 → I2 a = I1 a := fun a ha => by rw [hI2]; exact up_row ha
      have f2 : ∀ j, j ≠ 0 → I2 208 j = I1 208 j := fun j hj => by rw [hI2]; exact up_fld hj
      have s2 : I2 208 0 = w := by rw [hI2]; exact up_same
      have F2 : ∀ a, a ≠ A → (a < A + 11 ∨ A + 14 < a) → a ≠ 208 → I2 a = I0 a := fun a h1 h2 h3 => ((r2 a h3).trans (g1 a h1 h2 h3)).trans (hF a h1 h2 h3)
      have FA2 : ∀ j, j ≠ 2 → j ≠ 3 → j ≠ 4 → I2 A j = I0 A j := fun j h1 h2 h3 => ((congrFun (r2 A (by omega)) j).trans (g2 j h1 h2 h3)).trans (hFA j h1 h2 h3)
      have C2 : GC I2 A R lcv ls ld := gc_fr gC hN9 (fun a h1 h2 => r2 a (by omega))
      have t2 : I2 208 2 = I 208 2 + lt := (f2 2 (by decide)).trans g4
      have lz : ¬ lc = 0 := fun q => by omega
      have eg : goF R (f + 1) i (cv, s, d) = (lc, i, lt, lcv, ls, ld) := by
        show (if (lnF R i (cv, s, d)).1 = 0 then _ else _) = _
        rw [e]
        exact if_neg lz
      show dw_ok (pr_X11_go K) 88 0 0 [some (.ref 0), some (.int a1), some (.ref A), some (.int ah), some (.int ln), some (.int lx)] [] (n, SH1, I2, J)
      refine q_ild rfl rfl ?_
      refine q_ald rfl rfl ?_
      refine q_getr rfl sk_0 sr_0_1 ?_
      refine q_getr rfl sk_3 sr_3_3 ?_
      refine q_geti rfl sk_11 ?_
      refine q_icmp (c := 3) rfl (by decide) (fun y5 => ?_) (fun y5 => ?_)
      · have y5 : ((I2 11 0)).toInt ≤ (lx).toInt := y5
        exact hk I2 ln lx _ eg F2 FA2 (by rw [if_neg lz]; exact hln) (by rw [s2]; exact ew) t2 C2 gP
      · have y5 : (lx).toInt < ((I2 11 0)).toInt := y5
        refine q_ild rfl rfl ?_
        refine q_ic rfl ?_
        refine q_icmp (c := 1) rfl (by decide) (fun y6 => ?_) (fun h => absurd (show (ln).toInt = (-1 : Int) from h) (by omega))
        have y6 : (ln).toInt ≠ (-1 : Int) := y6
        exact hk I2 ln lx _ eg F2 FA2 (by rw [if_neg lz]; exact hln) (by rw [s2]; exact ew) t2 C2 gP
    · have y4 : (w).toInt = 0 := y4
      refine q_ic rfl ?_
      refine q_goto rfl ?_
      refine q_ist rfl rfl ?_
      show dw_ok (pr_X11_go K) 139 0 0 [some (.ref 0), some (.int a1), some (.ref A), some (.int ah), some (.int (-1 : Int32)), some (.int ln)] [] (n, SH1, (dw_up I1 208 0 w), J)
      refine q_inc rfl rfl rfl ?_
      show dw_ok (pr_X11_go K) 142 0 0 [some (.ref 0), some (.int a1), some (.ref A), some (.int ah), some (.int (-1 : Int32)), some (.int (ln + 1))] [] (n, SH1, (dw_up I1 208 0 w), J)
      show dw_ok (pr_X11_go K) 142 0 0 [some (.ref 0), some (.int a1), some (.ref A), some (.int ah), some (.int (-1 : Int32)), some (.int (ln + 1))] [] (n, SH1, (dw_up I1 208 0 w), J)
      obtain ⟨lx, hlx⟩ : ∃ z, z = (ln + 1) := ⟨_, rfl⟩
      rw [← hlx]
      have elx : lx.toInt = ((i + 1 : Nat) : Int) := by rw [hlx]; exact ix_1 hln (by omega)
      refine q_goto rfl ?_
      show dw_ok (pr_X11_go K) 88 0 0 [some (.ref 0), some (.int a1), some (.ref A), some (.int ah), some (.int (-1 : Int32)), some (.int lx)] [] (n, SH1, (dw_up I1 208 0 w), J)
      obtain ⟨I2, hI2⟩ : ∃ X, X = (dw_up I1 208 0 w) := ⟨_, rfl⟩
      rw [← hI2]
      have r2 : ∀ a, a ≠ 208 → I2 a = I1 a := fun a ha => by rw [hI2]; exact up_row ha
      have f2 : ∀ j, j ≠ 0 → I2 208 j = I1 208 j := fun j hj => by rw [hI2]; exact up_fld hj
      have s2 : I2 208 0 = w := by rw [hI2]; exact up_same
      have F2 : ∀ a, a ≠ A → (a < A + 11 ∨ A + 14 < a) → a ≠ 208 → I2 a = I0 a := fun a h1 h2 h3 => ((r2 a h3).trans (g1 a h1 h2 h3)).trans (hF a h1 h2 h3)
      have FA2 : ∀ j, j ≠ 2 → j ≠ 3 → j ≠ 4 → I2 A j = I0 A j := fun j h1 h2 h3 => ((congrFun (r2 A (by omega)) j).trans (g2 j h1 h2 h3)).trans (hFA j h1 h2 h3)
      have C2 : GC I2 A R lcv ls ld := gc_fr gC hN9 (fun a h1 h2 => r2 a (by omega))
      have t2 : I2 208 2 = I 208 2 + lt := (f2 2 (by decide)).trans g4
      have lz : lc = 0 := by omega
      have wz : w = 0 := i_eq (by rw [show (0 : Int32).toInt = 0 from rfl]; omega)
      have eg : goF R (f + 1) i (cv, s, d) = ((goF R f (i + 1) (lcv, ls, ld)).1, (goF R f (i + 1) (lcv, ls, ld)).2.1, lt + (goF R f (i + 1) (lcv, ls, ld)).2.2.1, (goF R f (i + 1) (lcv, ls, ld)).2.2.2) := by
        show (if (lnF R i (cv, s, d)).1 = 0 then _ else _) = _
        rw [e]
        exact if_pos lz
      refine ih (i + 1) lx I2 lcv ls ld (by omega) elx F2 FA2 (s2.trans wz) gP C2 (fun I' wr lx' r er h1 h2 h3 h4 h5 h6 h7 => ?_)
      rw [er] at eg
      exact hk I' wr lx' _ eg h1 h2 h3 h4 (by show I' 208 2 = I 208 2 + (lt + r.2.2.1); rw [h5, t2, Int32.add_assoc]) h6 h7
set_option maxRecDepth 8000 in
set_option maxHeartbeats 4000000 in
theorem go_tail {n : Nat} {I : Nat → Nat → Int32} {J : Nat → Nat → Int64} {K : dw_K} {A : Nat} {a1 : Int32} {R cv : Nat → Int32} {s : rS} {d : Nat} (hA2 : A = 43 ∨ A = 164) (hG : GOK R) (hRG : RG I 4 R) (hRP : RP I 11 R) (hGP : GP R cv s d) (hGC : GC I A R cv s d)
    (hk : (∀ (I' : Nat → Nat → Int32) (wr : Int32) (r : Nat × Nat × Int32 × gL), goF R (R 803).toInt.toNat 0 (cv, s, d) = r → (∀ a, a ≠ 0 → a ≠ A → (a < A + 11 ∨ A + 14 < a) → a ≠ 208 → I' a = I a) → (∀ j, j ≠ 13 → I' 0 j = I 0 j) → I' 0 13 = 1 → (∀ j, j ≠ 2 → j ≠ 3 → j ≠ 4 → I' A j = I A j) → wr.toInt = (if r.1 = 0 then -1 else (r.2.1 : Int)) → (I' 208 0).toInt = r.1 → (I' 208 1).toInt = (r.2.2.2.2.2 : Int) - d → I' 208 2 = r.2.2.1 → (I' 208 3).toInt = wcF r.2.2.2.2.1.2.1 1 (Nn R) → I' 208 4 = suF r.2.2.2.1 (Nn R) → GC I' A R r.2.2.2.1 r.2.2.2.2.1 r.2.2.2.2.2 → GP R r.2.2.2.1 r.2.2.2.2.1 r.2.2.2.2.2 → K (some (.int wr)) (n, SH1, I', J))) : dw_ok (pr_X11_go K) 63 0 0 [some (.ref 0), some (.int a1), some (.ref A), none, none, none] [] (n, SH1, I, J) := by
  have hA : RT A := by
    rcases hA2 with rfl | rfl
    · exact rt_ok (by decide)
    · exact rt_ok (by decide)
  have hA9 : 43 ≤ A ∧ A ≤ 164 := by omega
  have hN9 := (gok_N hG).2
  have pb := hRP.2.1
  have hd : (I A 2).toInt = (d : Nat) := hGC.1.2.2.2.2.2.1
  refine q_ald rfl rfl ?_
  refine q_geti rfl hA.1 ?_
  refine q_ist rfl rfl ?_
  show dw_ok (pr_X11_go K) 68 0 0 [some (.ref 0), some (.int a1), some (.ref A), some (.int (I A 2)), none, none] [] (n, SH1, I, J)
  refine q_ald rfl rfl ?_
  refine q_getr rfl sk_0 sr_0_12 ?_
  refine q_ic rfl ?_
  refine q_ic rfl ?_
  refine q_iast rfl sk_208 sn_208 (by decide) (by decide) ?_
  show dw_ok (pr_X11_go K) 75 0 0 [some (.ref 0), some (.int a1), some (.ref A), some (.int (I A 2)), none, none] [] (n, SH1, (dw_up I 208 0 (0 : Int32)), J)
  refine q_ald rfl rfl ?_
  refine q_getr rfl sk_0 sr_0_12 ?_
  refine q_ic rfl ?_
  refine q_ic rfl ?_
  refine q_iast rfl sk_208 sn_208 (by decide) (by decide) ?_
  show dw_ok (pr_X11_go K) 82 0 0 [some (.ref 0), some (.int a1), some (.ref A), some (.int (I A 2)), none, none] [] (n, SH1, (dw_up (dw_up I 208 0 (0 : Int32)) 208 2 (0 : Int32)), J)
  refine q_ic rfl ?_
  refine q_ist rfl rfl ?_
  show dw_ok (pr_X11_go K) 85 0 0 [some (.ref 0), some (.int a1), some (.ref A), some (.int (I A 2)), some (.int (-1 : Int32)), none] [] (n, SH1, (dw_up (dw_up I 208 0 (0 : Int32)) 208 2 (0 : Int32)), J)
  refine q_ic rfl ?_
  refine q_ist rfl rfl ?_
  show dw_ok (pr_X11_go K) 88 0 0 [some (.ref 0), some (.int a1), some (.ref A), some (.int (I A 2)), some (.int (-1 : Int32)), some (.int (0 : Int32))] [] (n, SH1, (dw_up (dw_up I 208 0 (0 : Int32)) 208 2 (0 : Int32)), J)
  obtain ⟨I1, hI1⟩ : ∃ X, X = (dw_up (dw_up I 208 0 (0 : Int32)) 208 2 (0 : Int32)) := ⟨_, rfl⟩
  show dw_ok (pr_X11_go K) 88 0 0 [some (.ref 0), some (.int a1), some (.ref A), some (.int (I A 2)), some (.int (-1 : Int32)), some (.int (0 : Int32))] [] (n, SH1, (dw_up (dw_up I 208 0 (0 : Int32)) 208 2 (0 : Int32)), J)
  rw [← hI1]
  have rI1 : ∀ a, a ≠ 208 → I1 a = I a := fun a q0 => by rw [hI1]; exact ((up_row q0).trans (up_row q0))
  have fI1_0 : ∀ j, j ≠ 0 → j ≠ 2 → I1 208 j = I 208 j := fun j p0 p1 => by rw [hI1]; exact ((up_fld p1).trans (up_fld p0))
  have sI1_0_0 : I1 208 0 = (0 : Int32) := by rw [hI1]; exact ((up_fld (by decide)).trans (up_same))
  have sI1_0_1 : I1 208 2 = (0 : Int32) := by rw [hI1]; exact (up_same)
  have C1 : GC I1 A R cv s d := gc_fr hGC hN9 (fun a h1 h2 => rI1 a (by omega))
  obtain ⟨hRG1, hRP1⟩ := rgp_fr hG (fun a ha => rI1 a (by omega)) hRG hRP
  refine go_loop (I0 := I1) (L := (R 803).toInt.toNat) hA2 hG hRG1 hRP1 (by omega) (R 803).toInt.toNat 0 0 I1 cv s d (by omega) rfl (fun _ _ _ _ => rfl) (fun _ _ _ _ => rfl) sI1_0_0 hGP C1 (fun I2 wr lx r er F2 FA2 ewr h0 h2 C2 P2 => ?_)
  obtain ⟨rc, rl, rt, rcv, rs, rd⟩ := r
  have C2 : GC I2 A R rcv rs rd := C2
  have P2 : GP R rcv rs rd := P2
  have h2 : I2 208 2 = rt := h2.trans (by rw [sI1_0_1, Int32.zero_add])
  have d2 : (I2 A 2).toInt = (rd : Nat) := C2.1.2.2.2.2.2.1
  have n2 : (I2 A 1).toInt = Nn R := C2.1.2.2.2.1
  have rd9 : rd ≤ 144 := P2.2.1
  have d9 : d ≤ 144 := hGP.2.1
  show dw_ok (pr_X11_go K) 145 0 0 [some (.ref 0), some (.int a1), some (.ref A), some (.int (I A 2)), some (.int wr), some (.int lx)] [] (n, SH1, I2, J)
  refine q_ald rfl rfl ?_
  refine q_getr rfl sk_0 sr_0_12 ?_
  refine q_ic rfl ?_
  refine q_ald rfl rfl ?_
  refine q_geti rfl hA.1 ?_
  refine q_ild rfl rfl ?_
  refine q_sub rfl ?_
  refine q_iast rfl sk_208 sn_208 (by decide) (by decide) ?_
  show dw_ok (pr_X11_go K) 157 0 0 [some (.ref 0), some (.int a1), some (.ref A), some (.int (I A 2)), some (.int wr), some (.int lx)] [] (n, SH1, (dw_up I2 208 1 ((I2 A 2) - (I A 2))), J)
  refine q_ald rfl rfl ?_
  refine q_getr rfl sk_0 sr_0_12 ?_
  refine q_ic rfl ?_
  refine q_ald rfl rfl ?_
  refine q_ic rfl ?_
  refine q_callV (as := [.int (1 : Int32)]) (rest := [.int (3 : Int32), .ref 208]) rfl rfl hA.1 rfl (Nat.le_of_ble_eq_true rfl) ?_
  obtain ⟨I3, hI3⟩ : ∃ X, X = (dw_up I2 208 1 ((I2 A 2) - (I A 2))) := ⟨_, rfl⟩
  rw [← hI3]
  have rI3 : ∀ a, a ≠ 208 → I3 a = I2 a := fun a q0 => by rw [hI3]; exact (up_row q0)
  have fI3_0 : ∀ j, j ≠ 1 → I3 208 j = I2 208 j := fun j p0 => by rw [hI3]; exact (up_fld p0)
  have sI3_0_0 : I3 208 1 = ((I2 A 2) - (I A 2)) := by rw [hI3]; exact (up_same)
  refine v_wetCells hA (by rw [rI3 A (by omega)]; exact n2) hN9 (fun wc hwc => ?_)
  rw [rI3 (A + 14) (by omega)] at hwc
  show dw_ok (pr_X11_go K) 167 0 0 [some (.ref 0), some (.int a1), some (.ref A), some (.int (I A 2)), some (.int wr), some (.int lx)] [.int wc, .int (3 : Int32), .ref 208] (n, SH1, I3, J)
  refine q_iast rfl sk_208 sn_208 (by decide) (by decide) ?_
  show dw_ok (pr_X11_go K) 168 0 0 [some (.ref 0), some (.int a1), some (.ref A), some (.int (I A 2)), some (.int wr), some (.int lx)] [] (n, SH1, (dw_up I3 208 3 wc), J)
  refine q_ald rfl rfl ?_
  refine q_getr rfl sk_0 sr_0_12 ?_
  refine q_ic rfl ?_
  refine q_ald rfl rfl ?_
  refine q_callV (as := []) (rest := [.int (4 : Int32), .ref 208]) rfl rfl hA.1 rfl (Nat.le_of_ble_eq_true rfl) ?_
  obtain ⟨I4, hI4⟩ : ∃ X, X = (dw_up I3 208 3 wc) := ⟨_, rfl⟩
  rw [← hI4]
  have rI4 : ∀ a, a ≠ 208 → I4 a = I3 a := fun a q0 => by rw [hI4]; exact (up_row q0)
  have fI4_0 : ∀ j, j ≠ 3 → I4 208 j = I3 208 j := fun j p0 => by rw [hI4]; exact (up_fld p0)
  have sI4_0_0 : I4 208 3 = wc := by rw [hI4]; exact (up_same)
  refine v_csum hA (by rw [rI4 A (by omega), rI3 A (by omega)]; exact n2) hN9 ?_
  rw [rI4 (A + 12) (by omega), rI3 (A + 12) (by omega)]
  obtain ⟨cs, hcs⟩ : ∃ z, z = suF (I2 (A + 12)) (Nn R) := ⟨_, rfl⟩
  rw [← hcs]
  show dw_ok (pr_X11_go K) 177 0 0 [some (.ref 0), some (.int a1), some (.ref A), some (.int (I A 2)), some (.int wr), some (.int lx)] [.int cs, .int (4 : Int32), .ref 208] (n, SH1, I4, J)
  refine q_iast rfl sk_208 sn_208 (by decide) (by decide) ?_
  show dw_ok (pr_X11_go K) 178 0 0 [some (.ref 0), some (.int a1), some (.ref A), some (.int (I A 2)), some (.int wr), some (.int lx)] [] (n, SH1, (dw_up I4 208 4 cs), J)
  refine q_ald rfl rfl ?_
  refine q_ic rfl ?_
  refine q_putz rfl sk_0 (Or.inr rfl) ?_
  show dw_ok (pr_X11_go K) 183 0 0 [some (.ref 0), some (.int a1), some (.ref A), some (.int (I A 2)), some (.int wr), some (.int lx)] [] (n, SH1, (dw_up (dw_up I4 208 4 cs) 0 13 (1 : Int32)), J)
  refine q_ild rfl rfl ?_
  obtain ⟨I5, hI5⟩ : ∃ X, X = (dw_up (dw_up I4 208 4 cs) 0 13 (1 : Int32)) := ⟨_, rfl⟩
  show dw_ok (pr_X11_go K) 185 0 0 [some (.ref 0), some (.int a1), some (.ref A), some (.int (I A 2)), some (.int wr), some (.int lx)] [.int wr] (n, SH1, (dw_up (dw_up I4 208 4 cs) 0 13 (1 : Int32)), J)
  rw [← hI5]
  have rI5 : ∀ a, a ≠ 208 → a ≠ 0 → I5 a = I4 a := fun a q0 q1 => by rw [hI5]; exact ((up_row q1).trans (up_row q0))
  have fI5_0 : ∀ j, j ≠ 4 → I5 208 j = I4 208 j := fun j p0 => by rw [hI5]; exact ((up_ne (Or.inl (by decide))).trans (up_fld p0))
  have sI5_0_0 : I5 208 4 = cs := by rw [hI5]; exact ((up_ne (Or.inl (by decide))).trans (up_same))
  have fI5_1 : ∀ j, j ≠ 13 → I5 0 j = I4 0 j := fun j p0 => by rw [hI5]; exact ((up_fld p0).trans (up_ne (Or.inl (by decide))))
  have sI5_1_0 : I5 0 13 = (1 : Int32) := by rw [hI5]; exact (up_same)
  have b : ∀ a, a ≠ 0 → a ≠ 208 → I5 a = I2 a := fun a h1 h2 => ((rI5 a h2 h1).trans (rI4 a h2)).trans (rI3 a h2)
  have w1 : (I5 208 1).toInt = (rd : Int) - d := by
    rw [fI5_0 1 (by decide), fI4_0 1 (by decide), sI3_0_0, i_sub (by omega) (by omega), d2, hd]
  have hwc2 : wcF (I2 (A + 14)) 1 (Nn R) = wcF rs.2.1 1 (Nn R) := wcF_eq _ (fun c hc => C2.1.2.2.1.2.1 c hc)
  have hcs2 : suF (I2 (A + 12)) (Nn R) = suF rcv (Nn R) := suF_eq _ (fun c hc => (C2.2 c hc).1)
  exact q_iret rfl (hk I5 wr (rc, rl, rt, rcv, rs, rd) er (fun a h1 h2 h3 h4 => ((b a h1 h4).trans (F2 a h2 h3 h4)).trans (rI1 a h4)) (fun j hj => ((fI5_1 j hj).trans (congrFun (rI4 0 (by decide)) j)).trans ((congrFun (rI3 0 (by decide)) j).trans ((congrFun (F2 0 (by omega) (by omega) (by decide)) j).trans (congrFun (rI1 0 (by decide)) j)))) sI5_1_0 (fun j h1 h2 h3 => ((congrFun (b A (by omega) (by omega)) j).trans (FA2 j h1 h2 h3)).trans (congrFun (rI1 A (by omega)) j)) ewr (by rw [fI5_0 0 (by decide), fI4_0 0 (by decide), fI3_0 0 (by decide)]; exact h0) w1 (by rw [fI5_0 2 (by decide), fI4_0 2 (by decide), fI3_0 2 (by decide)]; exact h2) (by rw [fI5_0 3 (by decide), sI4_0_0, hwc, hwc2]) (by rw [sI5_0_0, hcs, hcs2]) (gc_fr C2 hN9 (fun a h1 h2 => b a (by omega) (by omega))) P2)
set_option maxRecDepth 8000 in
set_option maxHeartbeats 4000000 in
theorem v_cgo {n : Nat} {I : Nat → Nat → Int32} {J : Nat → Nat → Int64} {K : dw_K} {a1 : Int32} {R : Nat → Int32} (hR : SREL I 3 R) (hz : I 44 0 = 0 ∨ I 44 0 = 1)
    (h0 : (R 894 = 0 ∨ ¬ (0 ≤ a1.toInt ∧ a1.toInt ≤ 1)) → K (some (.int (-2))) (n, SH1, I, J))
    (h1 : R 894 ≠ 0 → (0 ≤ a1.toInt ∧ a1.toInt ≤ 1) → ∀ (I' : Nat → Nat → Int32) (wr : Int32) (r : Nat × Nat × Int32 × gL), goF R (R 803).toInt.toNat 0 (cvR R, rrS R, dR R) = r → wr.toInt = (if r.1 = 0 then -1 else (r.2.1 : Int)) → (I' 208 0).toInt = r.1 → (I' 208 1).toInt = (r.2.2.2.2.2 : Int) - dR R → I' 208 2 = r.2.2.1 → (I' 208 3).toInt = wcF r.2.2.2.2.1.2.1 1 (Nn R) → I' 208 4 = suF r.2.2.2.1 (Nn R) → I' 0 13 = 1 → (∀ j, j ≠ 13 → I' 0 j = I 0 j) →
      (a1.toInt = 0 → ∀ a, a ≠ 0 → (a < 164 ∨ 178 < a) → a ≠ 208 → I' a = I a) → (a1.toInt = 1 → (∀ a, a ≠ 0 → a ≠ 43 → (a < 54 ∨ 57 < a) → a ≠ 208 → I' a = I a) ∧ (∀ j, j ≠ 2 → j ≠ 3 → j ≠ 4 → I' 43 j = I 43 j) ∧ GC I' 43 R r.2.2.2.1 r.2.2.2.2.1 r.2.2.2.2.2) → GP R r.2.2.2.1 r.2.2.2.2.1 r.2.2.2.2.2 → K (some (.int wr)) (n, SH1, I', J)) : t_X11_go [.ref 0, .int a1] (n, SH1, I, J) K := by
  obtain ⟨hG, hg, -, hp, hr⟩ := id hR
  have hg : RG I 4 R := hg
  have hp : RP I 11 R := hp
  have hr : RR I 43 R := hr
  have hN9 := (gok_N hG).2
  have k1 : (1 : Int32).toInt = 1 := rfl
  have e0 : I 43 0 = 0 ∧ R 894 = 0 ∨ I 43 0 = 1 ∧ R 894 = 1 := by
    rcases hr with ⟨a, b⟩ | ⟨a, b, -⟩
    · exact Or.inl ⟨a, b⟩
    · exact Or.inr ⟨a, b⟩
  refine q_body (Nat.le_of_ble_eq_true rfl) ?_
  refine q_ald rfl rfl ?_
  refine q_getr rfl sk_0 sr_0_1 ?_
  refine q_getr rfl sk_3 sr_3_4 ?_
  refine q_getz rfl sk_43 ?_
  refine q_if (c := 0) rfl (by decide) (fun y1 => ?_) (fun y1 => ?_)
  · have y1 : ((I 43 0)).toInt = 0 := y1
    refine q_ic rfl ?_
    refine q_iret rfl (h0 (Or.inl ?_))
    rcases e0 with ⟨-, e⟩ | ⟨e, -⟩
    · exact e
    · rw [e] at y1; exact absurd y1 (by decide)
  · have y1 : ((I 43 0)).toInt ≠ 0 := y1
    refine q_ild rfl rfl ?_
    refine q_if (c := 2) rfl (by decide) (fun y2 => ?_) (fun y2 => ?_)
    · have y2 : (a1).toInt < 0 := y2
      refine q_ic rfl ?_
      exact q_iret rfl (h0 (Or.inr (fun q => by omega)))
    · have y2 : 0 ≤ (a1).toInt := y2
      refine q_ild rfl rfl ?_
      refine q_ic rfl ?_
      refine q_icmp (c := 5) rfl (by decide) (fun y3 => ?_) (fun y3 => ?_)
      · have y3 : (a1).toInt ≤ (1 : Int) := y3
        refine q_ild rfl rfl ?_
        refine q_ic rfl ?_
        refine q_icmp (c := 1) rfl (by decide) (fun y4 => ?_) (fun y4 => ?_)
        · have y4 : (a1).toInt ≠ (1 : Int) := y4
          refine q_ald rfl rfl ?_
          refine q_getr rfl sk_0 sr_0_6 ?_
          refine q_ast rfl rfl ?_
          show dw_ok (pr_X11_go K) 45 0 0 [some (.ref 0), some (.int a1), some (.ref 164), none, none, none] [] (n, SH1, I, J)
          refine q_ild rfl rfl ?_
          refine q_if (c := 1) rfl (by decide) (fun h => absurd (show (a1).toInt ≠ 0 from h) (by omega)) (fun y5 => ?_)
          have y5 : (a1).toInt = 0 := y5
          refine q_ald rfl rfl ?_
          refine q_getr rfl sk_0 sr_0_6 ?_
          refine q_ald rfl rfl ?_
          refine q_getr rfl sk_0 sr_0_1 ?_
          refine q_getr rfl sk_3 sr_3_4 ?_
          refine q_callV (as := [.ref 43]) (rest := []) rfl rfl sk_164 rfl (Nat.le_of_ble_eq_true rfl) ?_
          refine v_rcopy (rt_ok (by decide)) (rt_ok (by decide)) (by decide) (by rcases e0 with ⟨e, -⟩ | ⟨e, -⟩; exact Or.inl e; exact Or.inr e) hz (fun I1 c1 c2 c3 c4 c5 => ?_)
          show dw_ok (pr_X11_go K) 63 0 0 [some (.ref 0), some (.int a1), some (.ref 164), none, none, none] [] (n, SH1, I1, J)
          have r894 : R 894 ≠ 0 := by
            rcases e0 with ⟨e, -⟩ | ⟨-, e⟩
            · rw [e] at y1; exact absurd rfl y1
            · rw [e]; decide
          obtain ⟨gC, gP, -, -⟩ := rr_go hG hr r894
          have C1 : GC I1 164 R (cvR R) (rrS R) (dR R) := gc_cp gC hN9 c2 (fun w hw t ht => by rw [show 164 + 1 + 2 + w = 164 + 3 + w by omega, show 43 + 1 + 2 + w = 43 + 3 + w by omega]; exact c4 w hw t ht) c5
          obtain ⟨hg1, hp1⟩ := rgp_fr hG (fun a ha => c1 a (by omega)) hg hp
          refine go_tail (Or.inr rfl) hG hg1 hp1 gP C1 (fun I' wr r er f1 f2 f3 f4 q1 q2 q3 q4 q5 q6 C2 P2 => ?_)
          exact h1 r894 ⟨by omega, by omega⟩ I' wr r er q1 q2 q3 q4 q5 q6 f3 (fun j hj => (f2 j hj).trans (congrFun (c1 0 (by decide)) j)) (fun _ a g1 g2 g3 => (f1 a g1 (by omega) (by omega) g3).trans (c1 a (by omega))) (fun q => absurd q (by omega)) P2
        · have y4 : (a1).toInt = (1 : Int) := y4
          refine q_ald rfl rfl ?_
          refine q_getr rfl sk_0 sr_0_1 ?_
          refine q_getr rfl sk_3 sr_3_4 ?_
          refine q_goto rfl ?_
          refine q_ast rfl rfl ?_
          show dw_ok (pr_X11_go K) 45 0 0 [some (.ref 0), some (.int a1), some (.ref 43), none, none, none] [] (n, SH1, I, J)
          refine q_ild rfl rfl ?_
          refine q_if (c := 1) rfl (by decide) (fun y6 => ?_) (fun h => absurd (show (a1).toInt = 0 from h) (by omega))
          have y6 : (a1).toInt ≠ 0 := y6
          have r894 : R 894 ≠ 0 := by
            rcases e0 with ⟨e, -⟩ | ⟨-, e⟩
            · rw [e] at y1; exact absurd rfl y1
            · rw [e]; decide
          obtain ⟨gC, gP, -, -⟩ := rr_go hG hr r894
          refine go_tail (Or.inl rfl) hG hg hp gP gC (fun I' wr r er f1 f2 f3 f4 q1 q2 q3 q4 q5 q6 C2 P2 => ?_)
          exact h1 r894 ⟨by omega, by omega⟩ I' wr r er q1 q2 q3 q4 q5 q6 f3 f2 (fun q => absurd q (by omega)) (fun _ => ⟨fun a g1 g2 g3 g4 => f1 a g1 g2 (by omega) g4, f4, C2⟩) P2
      · have y3 : (1 : Int) < (a1).toInt := y3
        refine q_ic rfl ?_
        exact q_iret rfl (h0 (Or.inr (fun q => by omega)))
set_option maxRecDepth 8000 in
theorem v_con {n : Nat} {I : Nat → Nat → Int32} {J : Nat → Nat → Int64} {K : dw_K} {a1 : Int32} {R : Nat → Int32} (hR : SREL I 3 R)
    (h0 : (R 894 = 0 ∨ ¬ (0 ≤ a1.toInt ∧ a1.toInt ≤ 144)) → K (some (.int (-1))) (n, SH1, I, J))
    (h1 : R 894 ≠ 0 → ∀ (I' : Nat → Nat → Int32) (w : Int32) (k : Nat), (0 ≤ a1.toInt ∧ a1.toInt ≤ 144) → k = min a1.toInt.toNat (144 - dR R) → w.toInt = k → (∀ a, a ≠ 43 → a ≠ 56 → a ≠ 57 → I' a = I a) → (∀ j, j ≠ 2 → j ≠ 3 → j ≠ 4 → I' 43 j = I 43 j) → GC I' 43 R (cvR R) (ruG R (cvR R) (dR R) k (rrS R)) (dR R + k) → GP R (cvR R) (ruG R (cvR R) (dR R) k (rrS R)) (dR R + k) → K (some (.int w)) (n, SH1, I', J)) : t_X11_on [.ref 0, .int a1] (n, SH1, I, J) K := by
  obtain ⟨hG, -, -, -, hr⟩ := id hR
  have hr : RR I 43 R := hr
  have hN9 := (gok_N hG).2
  have k144 : (144 : Int32).toInt = 144 := rfl
  have e0 : I 43 0 = 0 ∧ R 894 = 0 ∨ I 43 0 = 1 ∧ R 894 = 1 := by
    rcases hr with ⟨a, b⟩ | ⟨a, b, -⟩
    · exact Or.inl ⟨a, b⟩
    · exact Or.inr ⟨a, b⟩
  refine q_body (Nat.le_of_ble_eq_true rfl) ?_
  refine q_ald rfl rfl ?_
  refine q_getr rfl sk_0 sr_0_1 ?_
  refine q_getr rfl sk_3 sr_3_4 ?_
  refine q_getz rfl sk_43 ?_
  refine q_if (c := 0) rfl (by decide) (fun y1 => ?_) (fun y1 => ?_)
  · have y1 : ((I 43 0)).toInt = 0 := y1
    refine q_ic rfl ?_
    refine q_iret rfl (h0 (Or.inl ?_))
    rcases e0 with ⟨-, e⟩ | ⟨e, -⟩
    · exact e
    · rw [e] at y1; exact absurd y1 (by decide)
  · have y1 : ((I 43 0)).toInt ≠ 0 := y1
    refine q_ild rfl rfl ?_
    refine q_if (c := 2) rfl (by decide) (fun y2 => ?_) (fun y2 => ?_)
    · have y2 : (a1).toInt < 0 := y2
      refine q_ic rfl ?_
      exact q_iret rfl (h0 (Or.inr (fun q => by omega)))
    · have y2 : 0 ≤ (a1).toInt := y2
      refine q_ild rfl rfl ?_
      refine q_ic rfl ?_
      refine q_icmp (c := 5) rfl (by decide) (fun y3 => ?_) (fun y3 => ?_)
      · have y3 : (a1).toInt ≤ (144 : Int) := y3
        refine q_ald rfl rfl ?_
        refine q_getr rfl sk_0 sr_0_1 ?_
        refine q_getr rfl sk_3 sr_3_4 ?_
        refine q_geti rfl sk_43 ?_
        refine q_ist rfl rfl ?_
        show dw_ok (pr_X11_on K) 37 0 0 [some (.ref 0), some (.int a1), some (.int (I 43 2))] [] (n, SH1, I, J)
        refine q_ald rfl rfl ?_
        refine q_getr rfl sk_0 sr_0_1 ?_
        refine q_getr rfl sk_3 sr_3_4 ?_
        refine q_ild rfl rfl ?_
        refine q_ild rfl rfl ?_
        refine q_add rfl ?_
        refine q_callV (as := [.int ((I 43 2) + a1)]) (rest := []) rfl rfl sk_43 rfl (Nat.le_of_ble_eq_true rfl) ?_
        have r894 : R 894 ≠ 0 := by
          rcases e0 with ⟨e, -⟩ | ⟨-, e⟩
          · rw [e] at y1; exact absurd rfl y1
          · rw [e]; decide
        obtain ⟨gC, gP, -, -⟩ := rr_go hG hr r894
        have hd : (I 43 2).toInt = (dR R : Nat) := gC.1.2.2.2.2.2.1
        have d9 : dR R ≤ 144 := gP.2.1
        obtain ⟨k, hk⟩ : ∃ k : Nat, k = min a1.toInt.toNat (144 - dR R) := ⟨_, rfl⟩
        obtain ⟨sx, hsx⟩ : ∃ z, z = I 43 2 + a1 := ⟨_, rfl⟩
        have esx : sx.toInt = (dR R : Int) + a1.toInt := by rw [hsx, i_add (by omega) (by omega), hd]
        rw [← hsx]
        refine v_untilR (A := 43) (j := k) (rt_ok (by decide)) gC.1 (by omega) hN9 (by omega) (fun I1 g1 g2 g3 => ?_)
        rw [Nat.zero_add] at g3
        have d1 : (I1 43 2).toInt = (dR R + k : Nat) := g3.2.2.2.2.2.1
        show dw_ok (pr_X11_on K) 50 0 0 [some (.ref 0), some (.int a1), some (.int (I 43 2))] [] (n, SH1, I1, J)
        refine q_ald rfl rfl ?_
        refine q_getr rfl sk_0 sr_0_1 ?_
        refine q_getr rfl sk_3 sr_3_4 ?_
        refine q_geti rfl sk_43 ?_
        refine q_ild rfl rfl ?_
        refine q_sub rfl ?_
        exact q_iret rfl (h1 r894 I1 (I1 43 2 - I 43 2) k ⟨by omega, by omega⟩ hk (by rw [i_sub (by omega) (by omega), d1, hd]; omega) g1 g2 (gc_until gC g1 g3) (gp_on gP (by omega)))
      · have y3 : (144 : Int) < (a1).toInt := y3
        refine q_ic rfl ?_
        exact q_iret rfl (h0 (Or.inr (fun q => by omega)))
set_option maxRecDepth 8000 in
theorem v_cbegin {n : Nat} {I : Nat → Nat → Int32} {J : Nat → Nat → Int64} {K : dw_K} {a1 : Int32} {R : Nat → Int32} (hR : SREL I 3 R)
    (h1 : ∀ q : Nat, q < 6 → a1.toInt = q → NOK (nS R q) → ∀ I' : Nat → Nat → Int32, (∀ a, (a < 43 ∨ 57 < a) → I' a = I a) → I' 43 0 = 1 → CST I' 43 R (nS R q) → I' 43 6 = 0 → (∀ w, w < 5 → ∀ t, t < 144 → I' (43 + 1 + 2 + w) t = ndF (nU (nS R q)) w t) → (∀ c, c < Nn R → I' (43 + 12) c = 0) → K (some (.int 1)) (n, SH1, I', J))
    (h2 : (∀ s : Nat, s < 6 → a1.toInt = s → (nS R s 0).toInt < 0) → K (some (.int 0)) (n, SH1, I, J)) : t_X11_begin [.ref 0, .int a1] (n, SH1, I, J) K := by
  refine q_body (Nat.le_of_ble_eq_true rfl) ?_
  refine q_ald rfl rfl ?_
  refine q_ald rfl rfl ?_
  refine q_getr rfl sk_0 sr_0_1 ?_
  refine q_getr rfl sk_3 sr_3_4 ?_
  refine q_ild rfl rfl ?_
  refine q_callV (as := [.ref 43, .int a1]) (rest := []) rfl rfl sk_0 rfl (Nat.le_of_ble_eq_true rfl) ?_
  refine v_startR (A := 43) hR (Or.inl rfl) (fun q hq hx hS I' g0 g1 g2 g3 g4 g5 => ?_) (fun h => ?_)
  · exact q_zret rfl (Or.inr rfl) (h1 q hq hx hS I' (fun a ha => g0 a (by omega)) g1 g2 g3 g4 g5)
  · exact q_zret rfl (Or.inl rfl) (h2 h)
end
section
/-! ===== going on, of the model ===== -/
set_option maxRecDepth 8000 in
set_option maxHeartbeats 4000000 in
theorem mo_loop {n : Nat} {J : Nat → Nat → Int64} {K : dw_K} {a1 : Int32} {R cv : Nat → Int32} {s : rS} {d m : Nat} {I0 : Nat → Nat → Int32} (hP : GP R cv s d) (hm : m = min a1.toInt.toNat (144 - d)) (ha : 0 ≤ a1.toInt)
    (hk : ∀ (I' : Nat → Nat → Int32) (y : Int32), (∀ a, a ≠ 404 → a ≠ 416 → a ≠ 417 → I' a = I0 a) → (∀ j, j ≠ 32 → j ≠ 33 → j ≠ 38 → I' 404 j = I0 404 j) → (I' 404 38).toInt = (d + m : Nat) → MSK I' (Nn R) 0 (fun _ => cvG R cv) (gT (rnS R)) s d m → y.toInt = m → dw_ok (pr_X12_on K) 74 0 0 [some (.ref 404), some (.int a1), some (.int y)] [] (n, SH1, I', J)) :
    ∀ (f i : Nat) (x : Int32) (I : Nat → Nat → Int32), i + f = m → x.toInt = i → (∀ a, a ≠ 404 → a ≠ 416 → a ≠ 417 → I a = I0 a) → (∀ j, j ≠ 32 → j ≠ 33 → j ≠ 38 → I 404 j = I0 404 j) → (I 404 38).toInt = (d + i : Nat) → MSK I (Nn R) 0 (fun _ => cvG R cv) (gT (rnS R)) s d i → dw_ok (pr_X12_on K) 35 0 0 [some (.ref 404), some (.int a1), some (.int x)] [] (n, SH1, I, J) := by
  have c144 : (144 : Int32).toInt = 144 := rfl
  have d9 := hP.2.1
  intro f
  induction f with
  | zero =>
    intro i x I hi hx hA hF h38 hM
    have im : i = m := by omega
    subst im
    refine q_ild rfl rfl ?_
    refine q_ild rfl rfl ?_
    refine q_icmp (c := 3) rfl (by decide) (fun y1 => ?_) (fun y1 => ?_)
    · have y1 : (a1).toInt ≤ (x).toInt := y1
      exact hk I x hA hF h38 hM hx
    · have y1 : (x).toInt < (a1).toInt := y1
      refine q_ald rfl rfl ?_
      refine q_geti rfl sk_404 ?_
      refine q_ic rfl ?_
      refine q_icmp (c := 3) rfl (by decide) (fun y2 => ?_) (fun h => absurd (show ((I 404 38)).toInt < (144 : Int) from h) (by omega))
      have y2 : (144 : Int) ≤ ((I 404 38)).toInt := y2
      exact hk I x hA hF h38 hM hx
  | succ f ih =>
    intro i x I hi hx hA hF h38 hM
    refine q_ild rfl rfl ?_
    refine q_ild rfl rfl ?_
    refine q_icmp (c := 3) rfl (by decide) (fun h => absurd (show (a1).toInt ≤ (x).toInt from h) (by omega)) (fun y3 => ?_)
    have y3 : (x).toInt < (a1).toInt := y3
    refine q_ald rfl rfl ?_
    refine q_geti rfl sk_404 ?_
    refine q_ic rfl ?_
    refine q_icmp (c := 3) rfl (by decide) (fun h => absurd (show (144 : Int) ≤ ((I 404 38)).toInt from h) (by omega)) (fun y4 => ?_)
    have y4 : ((I 404 38)).toInt < (144 : Int) := y4
    refine q_ald rfl rfl ?_
    refine q_ald rfl rfl ?_
    refine q_geti rfl sk_404 ?_
    refine q_callV (as := [.int (I 404 38)]) (rest := []) rfl rfl sk_404 rfl (Nat.le_of_ble_eq_true rfl) ?_
    refine v_mstepR hP.1 hM (by omega) h38 (fun I1 g1 g2 g3 => ?_)
    show dw_ok (pr_X12_on K) 58 0 0 [some (.ref 404), some (.int a1), some (.int x)] [] (n, SH1, I1, J)
    refine q_ald rfl rfl ?_
    refine q_dup rfl ?_
    refine q_geti rfl sk_404 ?_
    refine q_ic rfl ?_
    refine q_add rfl ?_
    refine q_puti rfl sk_404 ?_
    show dw_ok (pr_X12_on K) 68 0 0 [some (.ref 404), some (.int a1), some (.int x)] [] (n, SH1, (dw_up I1 404 38 ((I1 404 38) + (1 : Int32))), J)
    refine q_inc rfl rfl rfl ?_
    show dw_ok (pr_X12_on K) 71 0 0 [some (.ref 404), some (.int a1), some (.int (x + 1))] [] (n, SH1, (dw_up I1 404 38 ((I1 404 38) + (1 : Int32))), J)
    show dw_ok (pr_X12_on K) 71 0 0 [some (.ref 404), some (.int a1), some (.int (x + 1))] [] (n, SH1, (dw_up I1 404 38 ((I1 404 38) + (1 : Int32))), J)
    obtain ⟨x1, hx1⟩ : ∃ z, z = (x + 1) := ⟨_, rfl⟩
    rw [← hx1]
    have ex1 : x1.toInt = ((i + 1 : Nat) : Int) := by rw [hx1]; exact ix_1 hx (by omega)
    refine q_goto rfl ?_
    have e38 : I1 404 38 = I 404 38 := g2 38 (by decide) (by decide)
    refine ih (i + 1) x1 (dw_up I1 404 38 ((I1 404 38) + (1 : Int32))) (by omega) ex1 (fun a q1 q2 q3 => ((up_row q1).trans (g1 a q1 q2 q3)).trans (hA a q1 q2 q3)) (fun j q1 q2 q3 => ((up_fld q3).trans (g2 j q1 q2)).trans (hF j q1 q2 q3)) ?_ (msk_eq (fun a ha => up_row (by omega)) (fun j q1 q2 => up_fld (by omega)) g3)
    rw [up_same, e38, i_add (by rw [h38, show (1 : Int32).toInt = 1 from rfl]; omega) (by rw [h38, show (1 : Int32).toInt = 1 from rfl]; omega), h38, show (1 : Int32).toInt = 1 from rfl]
    omega
set_option maxRecDepth 8000 in
set_option maxHeartbeats 4000000 in
theorem md_loop {n : Nat} {J : Nat → Nat → Int64} {K : dw_K} {a1 a2 : Int32} {R cv : Nat → Int32} {s : rS} {d m : Nat} {I0 : Nat → Nat → Int32} (hP : GP R cv s d) (hm : a2.toInt = m) (hm9 : d + m ≤ 144)
    (hk : ∀ (I' : Nat → Nat → Int32) (y : Int32), (∀ a, a ≠ 404 → a ≠ 416 → a ≠ 417 → I' a = I0 a) → (∀ j, j ≠ 32 → j ≠ 33 → j ≠ 38 → I' 404 j = I0 404 j) → (I' 404 38).toInt = (d + m : Nat) → MSK I' (Nn R) 0 (fun _ => cvG R cv) (gT (rnS R)) s d m → y.toInt = m → dw_ok (pr_X12_does K) 49 0 0 [some (.ref 404), some (.int a1), some (.int a2), some (.int y)] [] (n, SH1, I', J)) :
    ∀ (f i : Nat) (x : Int32) (I : Nat → Nat → Int32), i + f = m → x.toInt = i → (∀ a, a ≠ 404 → a ≠ 416 → a ≠ 417 → I a = I0 a) → (∀ j, j ≠ 32 → j ≠ 33 → j ≠ 38 → I 404 j = I0 404 j) → (I 404 38).toInt = (d + i : Nat) → MSK I (Nn R) 0 (fun _ => cvG R cv) (gT (rnS R)) s d i → dw_ok (pr_X12_does K) 20 0 0 [some (.ref 404), some (.int a1), some (.int a2), some (.int x)] [] (n, SH1, I, J) := by
  have c144 : (144 : Int32).toInt = 144 := rfl
  have d9 := hP.2.1
  intro f
  induction f with
  | zero =>
    intro i x I hi hx hA hF h38 hM
    have im : i = m := by omega
    subst im
    refine q_ild rfl rfl ?_
    refine q_ild rfl rfl ?_
    refine q_icmp (c := 3) rfl (by decide) (fun y1 => ?_) (fun h => absurd (show (x).toInt < (a2).toInt from h) (by omega))
    have y1 : (a2).toInt ≤ (x).toInt := y1
    exact hk I x hA hF h38 hM hx
  | succ f ih =>
    intro i x I hi hx hA hF h38 hM
    refine q_ild rfl rfl ?_
    refine q_ild rfl rfl ?_
    refine q_icmp (c := 3) rfl (by decide) (fun h => absurd (show (a2).toInt ≤ (x).toInt from h) (by omega)) (fun y2 => ?_)
    have y2 : (x).toInt < (a2).toInt := y2
    refine q_ald rfl rfl ?_
    refine q_ald rfl rfl ?_
    refine q_geti rfl sk_404 ?_
    refine q_callV (as := [.int (I 404 38)]) (rest := []) rfl rfl sk_404 rfl (Nat.le_of_ble_eq_true rfl) ?_
    refine v_mstepR hP.1 hM (by omega) h38 (fun I1 g1 g2 g3 => ?_)
    show dw_ok (pr_X12_does K) 33 0 0 [some (.ref 404), some (.int a1), some (.int a2), some (.int x)] [] (n, SH1, I1, J)
    refine q_ald rfl rfl ?_
    refine q_dup rfl ?_
    refine q_geti rfl sk_404 ?_
    refine q_ic rfl ?_
    refine q_add rfl ?_
    refine q_puti rfl sk_404 ?_
    show dw_ok (pr_X12_does K) 43 0 0 [some (.ref 404), some (.int a1), some (.int a2), some (.int x)] [] (n, SH1, (dw_up I1 404 38 ((I1 404 38) + (1 : Int32))), J)
    refine q_inc rfl rfl rfl ?_
    show dw_ok (pr_X12_does K) 46 0 0 [some (.ref 404), some (.int a1), some (.int a2), some (.int (x + 1))] [] (n, SH1, (dw_up I1 404 38 ((I1 404 38) + (1 : Int32))), J)
    show dw_ok (pr_X12_does K) 46 0 0 [some (.ref 404), some (.int a1), some (.int a2), some (.int (x + 1))] [] (n, SH1, (dw_up I1 404 38 ((I1 404 38) + (1 : Int32))), J)
    obtain ⟨x1, hx1⟩ : ∃ z, z = (x + 1) := ⟨_, rfl⟩
    rw [← hx1]
    have ex1 : x1.toInt = ((i + 1 : Nat) : Int) := by rw [hx1]; exact ix_1 hx (by omega)
    refine q_goto rfl ?_
    have e38 : I1 404 38 = I 404 38 := g2 38 (by decide) (by decide)
    refine ih (i + 1) x1 (dw_up I1 404 38 ((I1 404 38) + (1 : Int32))) (by omega) ex1 (fun a q1 q2 q3 => ((up_row q1).trans (g1 a q1 q2 q3)).trans (hA a q1 q2 q3)) (fun j q1 q2 q3 => ((up_fld q3).trans (g2 j q1 q2)).trans (hF j q1 q2 q3)) ?_ (msk_eq (fun a ha => up_row (by omega)) (fun j q1 q2 => up_fld (by omega)) g3)
    rw [up_same, e38, i_add (by rw [h38, show (1 : Int32).toInt = 1 from rfl]; omega) (by rw [h38, show (1 : Int32).toInt = 1 from rfl]; omega), h38, show (1 : Int32).toInt = 1 from rfl]
    omega
set_option maxRecDepth 8000 in
set_option maxHeartbeats 4000000 in
theorem v_mon {n : Nat} {I : Nat → Nat → Int32} {J : Nat → Nat → Int64} {K : dw_K} {R : Nat → Int32} {a1 : Int32} (hR : I 406 = R) (hG : GOK R) (hgo : R 894 ≠ 0 → GP R (cvR R) (rrS R) (dR R) ∧ NOK (rnS R) ∧ (R 895).toInt = (dR R : Nat))
    (h0 : (R 894 = 0 ∨ ¬ (0 ≤ a1.toInt ∧ a1.toInt ≤ 144)) → ∀ I' : Nat → Nat → Int32, (∀ a, a ≠ 404 → I' a = I a) → (∀ j, j ≠ 0 → I' 404 j = I 404 j) → I' 404 0 = 0 → K (some (.int (-1))) (n, SH1, I', J))
    (h1 : R 894 ≠ 0 → ∀ (I' : Nat → Nat → Int32) (w : Int32) (k : Nat), (0 ≤ a1.toInt ∧ a1.toInt ≤ 144) → k = min a1.toInt.toNat (144 - dR R) → w.toInt = k → (∀ a, a ≠ 404 → a ≠ 406 → (a < 411 ∨ 420 < a) → I' a = I a) → (∀ j, j ≠ 0 → (j < 32 ∨ 38 < j) → I' 404 j = I 404 j) → I' 404 0 = 0 → mOn R (I' 406) (cvR R) (ruG R (cvR R) (dR R) k (rrS R)) (dR R + k) → K (some (.int w)) (n, SH1, I', J)) : t_X12_on [.ref 404, .int a1] (n, SH1, I, J) K := by
  refine q_body (Nat.le_of_ble_eq_true rfl) ?_
  refine q_ald rfl rfl ?_
  refine q_ic rfl ?_
  refine q_puti rfl sk_404 ?_
  show dw_ok (pr_X12_on K) 5 0 0 [some (.ref 404), some (.int a1), none] [] (n, SH1, (dw_up I 404 0 (0 : Int32)), J)
  obtain ⟨I1, hI1⟩ : ∃ X, X = (dw_up I 404 0 (0 : Int32)) := ⟨_, rfl⟩
  show dw_ok (pr_X12_on K) 5 0 0 [some (.ref 404), some (.int a1), none] [] (n, SH1, (dw_up I 404 0 (0 : Int32)), J)
  rw [← hI1]
  have r1 : ∀ a, a ≠ 404 → I1 a = I a := fun a ha => by rw [hI1]; exact up_row ha
  have f1 : ∀ j, j ≠ 0 → I1 404 j = I 404 j := fun j hj => by rw [hI1]; exact up_fld hj
  have s1 : I1 404 0 = 0 := by rw [hI1]; exact up_same
  have e1 : I1 406 = R := (r1 406 (by decide)).trans hR
  refine q_ald rfl rfl ?_
  refine q_getr rfl sk_404 sr_404_6 ?_
  refine q_ic rfl ?_
  refine q_xald rfl (Or.inl rfl) sk_406 sn_406 (by decide) (by decide) ?_
  refine q_if (c := 0) rfl (by decide) (fun y1 => ?_) (fun y1 => ?_)
  · have y1 : ((I1 406 894)).toInt = 0 := y1
    refine q_ic rfl ?_
    have z : I1 406 894 = R 894 := congrFun e1 894
    exact q_iret rfl (h0 (Or.inl (i_eq (by rw [← z]; exact y1))) I1 r1 f1 s1)
  · have y1 : ((I1 406 894)).toInt ≠ 0 := y1
    refine q_ild rfl rfl ?_
    refine q_ic rfl ?_
    refine q_ic rfl ?_
    refine q_callS (as := [.int a1, .int (0 : Int32), .int (144 : Int32)]) (rest := []) rfl rfl rfl rfl ?_
    refine v_isIn (fun w_ oS => ?_)
    rcases oS with ⟨rfl, oS⟩ | ⟨rfl, oS⟩
    · show dw_ok (pr_X12_on K) 24 0 0 [some (.ref 404), some (.int a1), none] [.int (1 : Int32)] (n, SH1, I1, J)
      refine q_if (c := 1) rfl (by decide) (fun y2 => ?_) (fun h => absurd (show (1 : Int) = 0 from h) (by decide))
      have y2 : (1 : Int) ≠ 0 := y2
      refine q_ald rfl rfl ?_
      refine q_callV (as := []) (rest := []) rfl rfl sk_404 rfl (Nat.le_of_ble_eq_true rfl) ?_
      have r894 : R 894 ≠ 0 := by
        intro q
        have z : I1 406 894 = R 894 := congrFun e1 894
        rw [z, q] at y1
        exact absurd rfl y1
      obtain ⟨gP, hS, hd⟩ := hgo r894
      have d9 := gP.2.1
      refine v_mloads e1 hG hS hd (fun I2 m1 m2 gM => ?_)
      obtain ⟨g406, g38, g35, gK, g20⟩ := id gM
      show dw_ok (pr_X12_on K) 33 0 0 [some (.ref 404), some (.int a1), none] [] (n, SH1, I2, J)
      refine q_ic rfl ?_
      refine q_ist rfl rfl ?_
      show dw_ok (pr_X12_on K) 35 0 0 [some (.ref 404), some (.int a1), some (.int (0 : Int32))] [] (n, SH1, I2, J)
      obtain ⟨ok0, ok1⟩ := oS
      have ok0 : 0 ≤ a1.toInt := ok0
      have ok1 : a1.toInt ≤ 144 := ok1
      obtain ⟨k, hk⟩ : ∃ k : Nat, k = min a1.toInt.toNat (144 - dR R) := ⟨_, rfl⟩
      refine mo_loop (I0 := I2) gP hk ok0 (fun I3 y p1 p2 p3 p4 p5 => ?_) k 0 0 I2 (by omega) rfl (fun _ _ _ _ => rfl) (fun _ _ _ _ => rfl) g38 gK
      have i6 : I3 406 = R := (p1 406 (by decide) (by decide) (by decide)).trans g406
      obtain ⟨-, -, ⟨t1, t2, t3, t4⟩, -⟩ := id p4
      show dw_ok (pr_X12_on K) 74 0 0 [some (.ref 404), some (.int a1), some (.int y)] [] (n, SH1, I3, J)
      refine q_ald rfl rfl ?_
      refine q_callV (as := []) (rest := []) rfl rfl sk_404 rfl (Nat.le_of_ble_eq_true rfl) ?_
      refine v_mkeeps (N := Nn R) (by rw [i6]; exact (gok_N hG).1) (gok_N hG).2 (fun I4 k1 k2 k3 k4 k5 k6 => ?_)
      refine q_ild rfl rfl ?_
      refine q_iret rfl (h1 r894 I4 y k ⟨ok0, ok1⟩ hk p5 (fun a q1 q2 q3 => ?_) (fun j q1 q2 => ?_) ?_ ⟨fun j q1 q2 q3 q4 => ?_, ?_, ?_, ?_, fun c hc => ?_⟩)
      · rw [k1 a q2, p1 a q1 (by omega) (by omega), m1 a q1 (by omega) (by omega)]; exact r1 a q1
      · rw [k1 404 (by decide), p2 j (by omega) (by omega) (by omega), m2 j (by omega) (by omega) (by omega) (by omega) (by omega)]; exact f1 j q1
      · rw [k1 404 (by decide), p2 0 (by decide) (by decide) (by decide), m2 0 (by decide) (by decide) (by decide) (by decide) (by decide)]; exact s1
      · rw [k2 j q1 q2 q3 q4]; exact congrFun i6 j
      · rw [k5]; exact p3
      · rw [k3]; exact t3
      · rw [k4]; exact t4
      · obtain ⟨c1, c2, c3⟩ := k6 c hc
        rw [c1, c2, c3, p1 420 (by decide) (by decide) (by decide)]
        exact ⟨t1 c hc, t2 c hc, (g20 c hc).1⟩
    · show dw_ok (pr_X12_on K) 24 0 0 [some (.ref 404), some (.int a1), none] [.int (0 : Int32)] (n, SH1, I1, J)
      refine q_if (c := 1) rfl (by decide) (fun h => absurd (show (0 : Int) ≠ 0 from h) (by decide)) (fun y3 => ?_)
      have y3 : (0 : Int) = 0 := y3
      refine q_ic rfl ?_
      exact q_iret rfl (h0 (Or.inr (fun q => oS ⟨q.1, q.2⟩)) I1 r1 f1 s1)
set_option maxRecDepth 8000 in
set_option maxHeartbeats 4000000 in
theorem v_mdoes {n : Nat} {I : Nat → Nat → Int32} {J : Nat → Nat → Int64} {K : dw_K} {i : Nat} {a1 a2 : Int32} {R cv : Nat → Int32} {s : rS} {d : Nat} (hG : GOK R) (hB : PB R i) (hGP : GP R cv s d) (hGM : GM I R cv s d) (hkd : R (804 + 3 * i) = a1) (ha2 : R (805 + 3 * i) = a2)
    (hk : ∀ (I' : Nat → Nat → Int32) (w : Int32) (L : Nat × Int32 × gL), lnF R i (cv, s, d) = L → w.toInt = L.1 → (∀ a, a ≠ 404 → (a < 416 ∨ 418 < a) → a ≠ 420 → a ≠ 421 → I' a = I a) → (∀ j, j ≠ 32 → j ≠ 33 → j ≠ 38 → I' 404 j = I 404 j) → (∀ j, j ≠ 1 → j ≠ 2 → I' 421 j = I 421 j) → (∃ b : Int32, I' 421 1 = I 421 1 + b ∧ b.toInt = (L.2.2.2.2 : Int) - d) → I' 421 2 = I 421 2 + L.2.1 → GM I' R L.2.2.1 L.2.2.2.1 L.2.2.2.2 → GP R L.2.2.1 L.2.2.2.1 L.2.2.2.2 → K (some (.int w)) (n, SH1, I', J)) : t_X12_does [.ref 404, .int a1, .int a2] (n, SH1, I, J) K := by
  obtain ⟨g406, g38, g35, gK, g20⟩ := id hGM
  obtain ⟨⟨b0, b3⟩, hm, b144, bN⟩ := id hB
  rw [hkd] at b0 b3 b144 bN
  rw [ha2] at hm
  have hN9 := (gok_N hG).2
  have d9 := hGP.2.1
  have c144 : (144 : Int32).toInt = 144 := rfl
  refine q_body (Nat.le_of_ble_eq_true rfl) ?_
  refine q_ild rfl rfl ?_
  refine q_if (c := 1) rfl (by decide) (fun y1 => ?_) (fun y1 => ?_)
  · have y1 : (a1).toInt ≠ 0 := y1
    refine q_ild rfl rfl ?_
    refine q_ic rfl ?_
    refine q_icmp (c := 1) rfl (by decide) (fun y2 => ?_) (fun y2 => ?_)
    · have y2 : (a1).toInt ≠ (1 : Int) := y2
      refine q_ild rfl rfl ?_
      refine q_ic rfl ?_
      refine q_icmp (c := 1) rfl (by decide) (fun y3 => ?_) (fun y3 => ?_)
      · have y3 : (a1).toInt ≠ (2 : Int) := y3
        refine q_ic rfl ?_
        refine q_ist rfl rfl ?_
        show dw_ok (pr_X12_does K) 112 0 0 [some (.ref 404), some (.int a1), some (.int a2), some (.int (0 : Int32))] [] (n, SH1, I, J)
        have hcN := bN y1
        have hcn : a2.toInt.toNat = pLA R i := by omega
        have hcv : I 420 (pLA R i) = cv (pLA R i) := (g20 _ hcN).1
        refine q_ald rfl rfl ?_
        refine q_getr rfl sk_404 sr_404_39 ?_
        refine q_ild rfl rfl ?_
        refine q_xald rfl (Or.inl rfl) sk_420 sn_420 (by omega) (by omega) ?_
        show dw_ok (pr_X12_does K) 118 0 0 [some (.ref 404), some (.int a1), some (.int a2), some (.int (0 : Int32))] [.int (I 420 (a2).toInt.toNat)] (n, SH1, I, J)
        rw [hcn]
        refine q_ild rfl rfl ?_
        refine q_icmp (c := 1) rfl (by decide) (fun y4 => ?_) (fun y4 => ?_)
        · have y4 : ((I 420 (pLA R i))).toInt ≠ (0 : Int) := y4
          refine q_ald rfl rfl ?_
          refine q_getr rfl sk_404 sr_404_39 ?_
          refine q_ild rfl rfl ?_
          refine q_ild rfl rfl ?_
          refine q_iast rfl sk_420 sn_420 (by omega) (by omega) ?_
          show dw_ok (pr_X12_does K) 131 0 0 [some (.ref 404), some (.int a1), some (.int a2), some (.int (0 : Int32))] [] (n, SH1, (dw_up I 420 (a2).toInt.toNat (0 : Int32)), J)
          rw [hcn]
          refine q_ald rfl rfl ?_
          refine q_getr rfl sk_404 sr_404_30 ?_
          refine q_ild rfl rfl ?_
          refine q_ild rfl rfl ?_
          refine q_ic rfl ?_
          refine q_icmp (c := 1) rfl (by decide) (fun y5 => ?_) (fun h => absurd (show (0 : Int) = (1 : Int) from h) (by decide))
          have y5 : (0 : Int) ≠ (1 : Int) := y5
          refine q_ald rfl rfl ?_
          refine q_ild rfl rfl ?_
          refine q_callV (as := [.int a2]) (rest := [.int a2, .ref 418]) rfl rfl sk_404 rfl (Nat.le_of_ble_eq_true rfl) ?_
          obtain ⟨I1, hI1⟩ : ∃ X, X = (dw_up I 420 (pLA R i) (0 : Int32)) := ⟨_, rfl⟩
          rw [← hI1]
          have rI1 : ∀ a, a ≠ 420 → I1 a = I a := fun a q0 => by rw [hI1]; exact (up_row q0)
          have fI1_0 : ∀ j, j ≠ (pLA R i) → I1 420 j = I 420 j := fun j p0 => by rw [hI1]; exact (up_fld p0)
          have sI1_0_0 : I1 420 (pLA R i) = (0 : Int32) := by rw [hI1]; exact (up_same)
          have i6 : I1 406 = R := (rI1 406 (by decide)).trans g406
          have hcN2 : pLA R i < Cn R * Rn R := hcN
          have hC0 : 0 < Cn R := by
            rcases Nat.eq_zero_or_pos (Cn R) with z | z
            · rw [z, Nat.zero_mul] at hcN2; omega
            · exact z
          refine v_skyOf (k := pLA R i) (C := Cn R) (H := Hn R) hm (by omega) (by rw [i6]; exact hG.1.1) hC0 (by rw [i6]; exact hG.1.2.2.1) hG.1.2.2.2.2.2.1 (by rw [i6]; exact hG.1.2.2.2.2.2.2) (fun w hw => ?_)
          rw [i6] at hw
          have hw : w = skI R (pLA R i) := skI_e hG hw
          subst hw
          show dw_ok (pr_X12_does K) 150 0 0 [some (.ref 404), some (.int a1), some (.int a2), some (.int (0 : Int32))] [.int (skI R (pLA R i)), .int a2, .ref 418] (n, SH1, I1, J)
          refine q_iast rfl sk_418 sn_418 (by omega) (by omega) ?_
          show dw_ok (pr_X12_does K) 151 0 0 [some (.ref 404), some (.int a1), some (.int a2), some (.int (0 : Int32))] [] (n, SH1, (dw_up I1 418 (a2).toInt.toNat (skI R (pLA R i))), J)
          rw [hcn]
          refine q_ic rfl ?_
          have e : lnF R i (cv, s, d) = (0, 0, (upF cv (pLA R i) 0, s, d)) := by
            unfold lnF
            rw [hkd, if_neg y1, if_neg y2, if_neg y3, if_neg (show ¬ cv (pLA R i) = 0 from fun q => y4 (by rw [hcv, q]; rfl))]
          exact q_iret rfl (hk (dw_up I1 418 (pLA R i) (skI R (pLA R i))) 0 (0, 0, (upF cv (pLA R i) 0, s, d)) e rfl (fun a h1 h2 h3 h4 => (up_row (by omega)).trans (rI1 a h3)) (fun j _ _ _ => (up_ne (Or.inl (by decide))).trans (congrFun (rI1 404 (by decide)) j)) (fun j _ _ => (up_ne (Or.inl (by decide))).trans (congrFun (rI1 421 (by decide)) j)) ⟨0, by rw [Int32.add_zero]; exact (up_ne (Or.inl (by decide))).trans (congrFun (rI1 421 (by decide)) 1), by show (0 : Int32).toInt = (d : Int) - d; rw [show (0 : Int32).toInt = 0 from rfl]; omega⟩ (by show (dw_up I1 418 (pLA R i) (skI R (pLA R i))) 421 2 = I 421 2 + 0; rw [Int32.add_zero]; exact (up_ne (Or.inl (by decide))).trans (congrFun (rI1 421 (by decide)) 2)) (gm_cv hGM (fun a ha => (up_row (by omega)).trans (rI1 a (by omega))) (fun j _ _ => (up_ne (Or.inl (by decide))).trans (congrFun (rI1 404 (by decide)) j)) (fun c hc => (up_ne (Or.inl (by decide))).trans (fI1_0 c hc)) (fun c hc => (up_fld hc).trans (congrFun (rI1 418 (by decide)) c)) ((up_ne (Or.inl (by decide))).trans sI1_0_0) (up_same.trans (if_neg (show ¬ (0 : Int32) = 1 by decide)).symm)) (gp_cv hG (Or.inl rfl) hGP))
        · have y4 : ((I 420 (pLA R i))).toInt = (0 : Int) := y4
          refine q_ic rfl ?_
          have e : lnF R i (cv, s, d) = (3, 0, (cv, s, d)) := by
            unfold lnF
            rw [hkd, if_neg y1, if_neg y2, if_neg y3, if_pos (show cv (pLA R i) = 0 from i_eq (by rw [← hcv]; exact y4))]
          exact q_iret rfl (hk I 3 (3, 0, (cv, s, d)) e rfl (fun _ _ _ _ _ => rfl) (fun _ _ _ _ => rfl) (fun _ _ _ => rfl) ⟨0, by rw [Int32.add_zero], by show (0 : Int32).toInt = (d : Int) - d; rw [show (0 : Int32).toInt = 0 from rfl]; omega⟩ (by show I 421 2 = I 421 2 + 0; rw [Int32.add_zero]) hGM hGP)
      · have y3 : (a1).toInt = (2 : Int) := y3
        refine q_ic rfl ?_
        refine q_goto rfl ?_
        refine q_ist rfl rfl ?_
        show dw_ok (pr_X12_does K) 112 0 0 [some (.ref 404), some (.int a1), some (.int a2), some (.int (1 : Int32))] [] (n, SH1, I, J)
        have hcN := bN y1
        have hcn : a2.toInt.toNat = pLA R i := by omega
        have hcv : I 420 (pLA R i) = cv (pLA R i) := (g20 _ hcN).1
        refine q_ald rfl rfl ?_
        refine q_getr rfl sk_404 sr_404_39 ?_
        refine q_ild rfl rfl ?_
        refine q_xald rfl (Or.inl rfl) sk_420 sn_420 (by omega) (by omega) ?_
        show dw_ok (pr_X12_does K) 118 0 0 [some (.ref 404), some (.int a1), some (.int a2), some (.int (1 : Int32))] [.int (I 420 (a2).toInt.toNat)] (n, SH1, I, J)
        rw [hcn]
        refine q_ild rfl rfl ?_
        refine q_icmp (c := 1) rfl (by decide) (fun y6 => ?_) (fun y6 => ?_)
        · have y6 : ((I 420 (pLA R i))).toInt ≠ (1 : Int) := y6
          refine q_ald rfl rfl ?_
          refine q_getr rfl sk_404 sr_404_39 ?_
          refine q_ild rfl rfl ?_
          refine q_ild rfl rfl ?_
          refine q_iast rfl sk_420 sn_420 (by omega) (by omega) ?_
          show dw_ok (pr_X12_does K) 131 0 0 [some (.ref 404), some (.int a1), some (.int a2), some (.int (1 : Int32))] [] (n, SH1, (dw_up I 420 (a2).toInt.toNat (1 : Int32)), J)
          rw [hcn]
          refine q_ald rfl rfl ?_
          refine q_getr rfl sk_404 sr_404_30 ?_
          refine q_ild rfl rfl ?_
          refine q_ild rfl rfl ?_
          refine q_ic rfl ?_
          refine q_icmp (c := 1) rfl (by decide) (fun h => absurd (show (1 : Int) ≠ (1 : Int) from h) (by decide)) (fun y7 => ?_)
          have y7 : (1 : Int) = (1 : Int) := y7
          refine q_ic rfl ?_
          refine q_goto rfl ?_
          refine q_iast rfl sk_418 sn_418 (by omega) (by omega) ?_
          show dw_ok (pr_X12_does K) 151 0 0 [some (.ref 404), some (.int a1), some (.int a2), some (.int (1 : Int32))] [] (n, SH1, (dw_up (dw_up I 420 (pLA R i) (1 : Int32)) 418 (a2).toInt.toNat (0 : Int32)), J)
          rw [hcn]
          refine q_ic rfl ?_
          have e : lnF R i (cv, s, d) = (0, 0, (upF cv (pLA R i) 1, s, d)) := by
            unfold lnF
            rw [hkd, if_neg y1, if_neg y2, if_pos y3, if_neg (show ¬ cv (pLA R i) = 1 from fun q => y6 (by rw [hcv, q]; rfl))]
          exact q_iret rfl (hk (dw_up (dw_up I 420 (pLA R i) (1 : Int32)) 418 (pLA R i) (0 : Int32)) 0 (0, 0, (upF cv (pLA R i) 1, s, d)) e rfl (fun a h1 h2 h3 h4 => (up_row (by omega)).trans (up_row h3)) (fun j _ _ _ => (up_ne (Or.inl (by decide))).trans (up_ne (Or.inl (by decide)))) (fun j _ _ => (up_ne (Or.inl (by decide))).trans (up_ne (Or.inl (by decide)))) ⟨0, by rw [Int32.add_zero]; exact (up_ne (Or.inl (by decide))).trans (up_ne (Or.inl (by decide))), by show (0 : Int32).toInt = (d : Int) - d; rw [show (0 : Int32).toInt = 0 from rfl]; omega⟩ (by show (dw_up (dw_up I 420 (pLA R i) (1 : Int32)) 418 (pLA R i) (0 : Int32)) 421 2 = I 421 2 + 0; rw [Int32.add_zero]; exact (up_ne (Or.inl (by decide))).trans (up_ne (Or.inl (by decide)))) (gm_cv hGM (fun a ha => (up_row (by omega)).trans (up_row (by omega))) (fun j _ _ => (up_ne (Or.inl (by decide))).trans (up_ne (Or.inl (by decide)))) (fun c hc => (up_ne (Or.inl (by decide))).trans (up_fld hc)) (fun c hc => (up_fld hc).trans (up_ne (Or.inl (by decide)))) ((up_ne (Or.inl (by decide))).trans up_same) (up_same.trans (if_pos rfl).symm)) (gp_cv hG (Or.inr rfl) hGP))
        · have y6 : ((I 420 (pLA R i))).toInt = (1 : Int) := y6
          refine q_ic rfl ?_
          have e : lnF R i (cv, s, d) = (3, 0, (cv, s, d)) := by
            unfold lnF
            rw [hkd, if_neg y1, if_neg y2, if_pos y3, if_pos (show cv (pLA R i) = 1 from i_eq (by rw [← hcv]; exact y6))]
          exact q_iret rfl (hk I 3 (3, 0, (cv, s, d)) e rfl (fun _ _ _ _ _ => rfl) (fun _ _ _ _ => rfl) (fun _ _ _ => rfl) ⟨0, by rw [Int32.add_zero], by show (0 : Int32).toInt = (d : Int) - d; rw [show (0 : Int32).toInt = 0 from rfl]; omega⟩ (by show I 421 2 = I 421 2 + 0; rw [Int32.add_zero]) hGM hGP)
    · have y2 : (a1).toInt = (1 : Int) := y2
      have hcN := bN y1
      have hcn : a2.toInt.toNat = pLA R i := by omega
      have hw0 : I 417 (pLA R i) = s.2.1 (pLA R i) := gK.2.2.1.2.1 _ hcN
      refine q_ald rfl rfl ?_
      refine q_getr rfl sk_404 sr_404_29 ?_
      refine q_ild rfl rfl ?_
      refine q_xald rfl (Or.inl rfl) sk_417 sn_417 (by omega) (by omega) ?_
      show dw_ok (pr_X12_does K) 72 0 0 [some (.ref 404), some (.int a1), some (.int a2), none] [.int (I 417 (a2).toInt.toNat)] (n, SH1, I, J)
      rw [hcn]
      refine q_if (c := 1) rfl (by decide) (fun y8 => ?_) (fun y8 => ?_)
      · have y8 : ((I 417 (pLA R i))).toInt ≠ 0 := y8
        refine q_ald rfl rfl ?_
        refine q_getr rfl sk_404 sr_404_40 ?_
        refine q_ic rfl ?_
        refine q_dup2 rfl ?_
        refine q_xald rfl (Or.inl rfl) sk_421 sn_421 (by decide) (by decide) ?_
        refine q_ald rfl rfl ?_
        refine q_getr rfl sk_404 sr_404_29 ?_
        refine q_ild rfl rfl ?_
        refine q_xald rfl (Or.inl rfl) sk_417 sn_417 (by omega) (by omega) ?_
        show dw_ok (pr_X12_does K) 90 0 0 [some (.ref 404), some (.int a1), some (.int a2), none] [.int (I 417 (a2).toInt.toNat), .int (I 421 2), .int (2 : Int32), .ref 421] (n, SH1, I, J)
        rw [hcn]
        refine q_add rfl ?_
        refine q_iast rfl sk_421 sn_421 (by decide) (by decide) ?_
        show dw_ok (pr_X12_does K) 92 0 0 [some (.ref 404), some (.int a1), some (.int a2), none] [] (n, SH1, (dw_up I 421 2 ((I 421 2) + (I 417 (pLA R i)))), J)
        refine q_ald rfl rfl ?_
        refine q_getr rfl sk_404 sr_404_29 ?_
        refine q_ild rfl rfl ?_
        refine q_ic rfl ?_
        refine q_iast rfl sk_417 sn_417 (by omega) (by omega) ?_
        show dw_ok (pr_X12_does K) 99 0 0 [some (.ref 404), some (.int a1), some (.int a2), none] [] (n, SH1, (dw_up (dw_up I 421 2 ((I 421 2) + (I 417 (pLA R i)))) 417 (a2).toInt.toNat (0 : Int32)), J)
        rw [hcn]
        refine q_ic rfl ?_
        have wz : ¬ s.2.1 (pLA R i) = 0 := fun q => by rw [hw0, q] at y8; exact absurd rfl y8
        have e : lnF R i (cv, s, d) = (0, s.2.1 (pLA R i), (cv, wpS s (pLA R i), d)) := by
          unfold lnF
          rw [hkd, if_neg y1, if_pos y2, if_neg wz]
        exact q_iret rfl (hk (dw_up (dw_up I 421 2 ((I 421 2) + (I 417 (pLA R i)))) 417 (pLA R i) (0 : Int32)) 0 (0, s.2.1 (pLA R i), (cv, wpS s (pLA R i), d)) e rfl (fun a h1 h2 h3 h4 => (up_row (by omega)).trans (up_row h4)) (fun j _ _ _ => (up_ne (Or.inl (by decide))).trans (up_ne (Or.inl (by decide)))) (fun j q1 q2 => (up_ne (Or.inl (by decide))).trans (up_fld q2)) ⟨0, by rw [Int32.add_zero]; exact (up_ne (Or.inl (by decide))).trans (up_fld (by decide)), by show (0 : Int32).toInt = (d : Int) - d; rw [show (0 : Int32).toInt = 0 from rfl]; omega⟩ ((up_ne (Or.inl (by decide))).trans (up_same.trans (by rw [hw0]))) (gm_wipe hGM (fun a ha => (up_row (by omega)).trans (up_row (by omega))) (fun j _ _ => (up_ne (Or.inl (by decide))).trans (up_ne (Or.inl (by decide)))) (fun c hc => (up_fld hc).trans (up_ne (Or.inl (by decide)))) up_same) (gp_wipe hGP))
      · have y8 : ((I 417 (pLA R i))).toInt = 0 := y8
        refine q_ic rfl ?_
        have wz : s.2.1 (pLA R i) = 0 := i_eq (by rw [← hw0]; exact y8)
        have e : lnF R i (cv, s, d) = (2, 0, (cv, s, d)) := by
          unfold lnF
          rw [hkd, if_neg y1, if_pos y2, if_pos wz]
        exact q_iret rfl (hk I 2 (2, 0, (cv, s, d)) e rfl (fun _ _ _ _ _ => rfl) (fun _ _ _ _ => rfl) (fun _ _ _ => rfl) ⟨0, by rw [Int32.add_zero], by show (0 : Int32).toInt = (d : Int) - d; rw [show (0 : Int32).toInt = 0 from rfl]; omega⟩ (by show I 421 2 = I 421 2 + 0; rw [Int32.add_zero]) hGM hGP)
  · have y1 : (a1).toInt = 0 := y1
    have m9 : pLA R i ≤ 144 := b144 y1
    refine q_ald rfl rfl ?_
    refine q_geti rfl sk_404 ?_
    refine q_ild rfl rfl ?_
    refine q_add rfl ?_
    show dw_ok (pr_X12_does K) 10 0 0 [some (.ref 404), some (.int a1), some (.int a2), none] [.int ((I 404 38) + a2)] (n, SH1, I, J)
    obtain ⟨sx, hsx⟩ : ∃ z, z = ((I 404 38) + a2) := ⟨_, rfl⟩
    rw [← hsx]
    have esx : sx.toInt = (d : Int) + (pLA R i : Nat) := by rw [hsx]; exact (by rw [i_add (by omega) (by omega)]; omega)
    refine q_ic rfl ?_
    refine q_icmp (c := 5) rfl (by decide) (fun y9 => ?_) (fun y9 => ?_)
    · have y9 : (sx).toInt ≤ (144 : Int) := y9
      refine q_ic rfl ?_
      refine q_ist rfl rfl ?_
      show dw_ok (pr_X12_does K) 20 0 0 [some (.ref 404), some (.int a1), some (.int a2), some (.int (0 : Int32))] [] (n, SH1, I, J)
      have g : d + pLA R i ≤ 144 := by omega
      refine md_loop (I0 := I) (m := pLA R i) hGP hm g (fun I1 yz p1 p2 p3 p4 p5 => ?_) (pLA R i) 0 0 I (by omega) rfl (fun _ _ _ _ => rfl) (fun _ _ _ _ => rfl) g38 gK
      show dw_ok (pr_X12_does K) 49 0 0 [some (.ref 404), some (.int a1), some (.int a2), some (.int yz)] [] (n, SH1, I1, J)
      refine q_ald rfl rfl ?_
      refine q_getr rfl sk_404 sr_404_40 ?_
      refine q_ic rfl ?_
      refine q_dup2 rfl ?_
      refine q_xald rfl (Or.inl rfl) sk_421 sn_421 (by decide) (by decide) ?_
      refine q_ild rfl rfl ?_
      refine q_add rfl ?_
      refine q_iast rfl sk_421 sn_421 (by decide) (by decide) ?_
      show dw_ok (pr_X12_does K) 59 0 0 [some (.ref 404), some (.int a1), some (.int a2), some (.int yz)] [] (n, SH1, (dw_up I1 421 1 ((I1 421 1) + a2)), J)
      refine q_ic rfl ?_
      have e : lnF R i (cv, s, d) = (0, 0, (cv, ruG R cv d (pLA R i) s, d + pLA R i)) := by
        unfold lnF
        rw [hkd, if_pos y1, if_neg (Nat.not_lt.mpr g)]
      exact q_iret rfl (hk (dw_up I1 421 1 ((I1 421 1) + a2)) 0 (0, 0, (cv, ruG R cv d (pLA R i) s, d + pLA R i)) e rfl (fun a h1 h2 h3 h4 => (up_row h4).trans (p1 a h1 (by omega) (by omega))) (fun j q1 q2 q3 => (up_ne (Or.inl (by decide))).trans (p2 j q1 q2 q3)) (fun j q1 q2 => (up_fld q1).trans (congrFun (p1 421 (by decide) (by decide) (by decide)) j)) ⟨a2, up_same.trans (by rw [p1 421 (by decide) (by decide) (by decide)]), by show a2.toInt = ((d + pLA R i : Nat) : Int) - d; omega⟩ ((up_fld (by decide)).trans (by rw [p1 421 (by decide) (by decide) (by decide), Int32.add_zero])) (gm_eq (fun a ha => up_row (by omega)) (fun j q1 q2 => up_ne (Or.inl (by decide))) (⟨(p1 406 (by decide) (by decide) (by decide)).trans g406, p3, (p2 35 (by decide) (by decide) (by decide)).trans g35, msk_0 p4, fun c hc => by rw [p1 420 (by decide) (by decide) (by decide), p1 419 (by decide) (by decide) (by decide)]; exact g20 c hc⟩ : GM I1 R cv (ruG R cv d (pLA R i) s) (d + pLA R i))) (gp_on hGP g))
    · have y9 : (144 : Int) < (sx).toInt := y9
      refine q_ic rfl ?_
      have g : 144 < d + pLA R i := by omega
      have e : lnF R i (cv, s, d) = (1, 0, (cv, s, d)) := by
        unfold lnF
        rw [hkd, if_pos y1, if_pos g]
      exact q_iret rfl (hk I 1 (1, 0, (cv, s, d)) e rfl (fun _ _ _ _ _ => rfl) (fun _ _ _ _ => rfl) (fun _ _ _ => rfl) ⟨0, by rw [Int32.add_zero], by show (0 : Int32).toInt = (d : Int) - d; rw [show (0 : Int32).toInt = 0 from rfl]; omega⟩ (by show I 421 2 = I 421 2 + 0; rw [Int32.add_zero]) hGM hGP)
set_option maxRecDepth 8000 in
theorem mg_l0 {n : Nat} {J : Nat → Nat → Int64} {K : dw_K} {a1 : Int32} {I0 : Nat → Nat → Int32}
    (hk : ∀ (I' : Nat → Nat → Int32) (y : Int32), (∀ a, a ≠ 421 → I' a = I0 a) → (∀ j, j < 5 → I' 421 j = 0) → dw_ok (pr_X12_go K) 52 0 0 [some (.ref 404), some (.int a1), some (.int y), none] [] (n, SH1, I', J)) :
    ∀ (f k : Nat) (x : Int32) (I : Nat → Nat → Int32), k + f = 5 → x.toInt = k → (∀ a, a ≠ 421 → I a = I0 a) → (∀ j, j < k → I 421 j = 0) → dw_ok (pr_X12_go K) 34 0 0 [some (.ref 404), some (.int a1), some (.int x), none] [] (n, SH1, I, J) := by
  have c5 : (5 : Int32).toInt = 5 := rfl
  intro f
  induction f with
  | zero =>
    intro k x I hf hx hA hB
    refine q_ild rfl rfl ?_
    refine q_ic rfl ?_
    refine q_icmp (c := 3) rfl (by decide) (fun y1 => ?_) (fun h => absurd (show (x).toInt < (5 : Int) from h) (by omega))
    have y1 : (5 : Int) ≤ (x).toInt := y1
    exact hk I x hA (fun j hj => hB j (by omega))
  | succ f ih =>
    intro k x I hf hx hA hB
    have hxn : x.toInt.toNat = k := by omega
    refine q_ild rfl rfl ?_
    refine q_ic rfl ?_
    refine q_icmp (c := 3) rfl (by decide) (fun h => absurd (show (5 : Int) ≤ (x).toInt from h) (by omega)) (fun y2 => ?_)
    have y2 : (x).toInt < (5 : Int) := y2
    refine q_ald rfl rfl ?_
    refine q_getr rfl sk_404 sr_404_40 ?_
    refine q_ild rfl rfl ?_
    refine q_ic rfl ?_
    refine q_iast rfl sk_421 sn_421 (by omega) (by omega) ?_
    show dw_ok (pr_X12_go K) 46 0 0 [some (.ref 404), some (.int a1), some (.int x), none] [] (n, SH1, (dw_up I 421 (x).toInt.toNat (0 : Int32)), J)
    rw [hxn]
    refine q_inc rfl rfl rfl ?_
    show dw_ok (pr_X12_go K) 49 0 0 [some (.ref 404), some (.int a1), some (.int (x + 1)), none] [] (n, SH1, (dw_up I 421 k (0 : Int32)), J)
    show dw_ok (pr_X12_go K) 49 0 0 [some (.ref 404), some (.int a1), some (.int (x + 1)), none] [] (n, SH1, (dw_up I 421 k (0 : Int32)), J)
    obtain ⟨x1, hx1⟩ : ∃ z, z = (x + 1) := ⟨_, rfl⟩
    rw [← hx1]
    have ex1 : x1.toInt = ((k + 1 : Nat) : Int) := by rw [hx1]; exact ix_1 hx (by omega)
    refine q_goto rfl ?_
    refine ih (k + 1) x1 (dw_up I 421 k (0 : Int32)) (by omega) ex1 (fun a ha => (up_row ha).trans (hA a ha)) (fun j hj => ?_)
    by_cases e : j = k
    · rw [e, up_same]
    · rw [up_fld e]; exact hB j (by omega)
set_option maxRecDepth 8000 in
set_option maxHeartbeats 4000000 in
theorem mgo_loop {n : Nat} {J : Nat → Nat → Int64} {K : dw_K} {L d0 : Nat} {a1 : Int32} {R : Nat → Int32} {I0 : Nat → Nat → Int32} (hG : GOK R) (hB : ∀ i : Nat, i < L → PB R i) (hL : (R 803).toInt = L) (hL30 : L ≤ 30) (hd0 : d0 ≤ 144) :
    ∀ (f i : Nat) (ln : Int32) (I : Nat → Nat → Int32) (cv : Nat → Int32) (s : rS) (d : Nat), i + f = L → ln.toInt = i → (∀ a, a ≠ 404 → (a < 416 ∨ 418 < a) → a ≠ 420 → a ≠ 421 → I a = I0 a) → (∀ j, j ≠ 32 → j ≠ 33 → j ≠ 38 → I 404 j = I0 404 j) → (∀ j, 3 ≤ j → I 421 j = I0 421 j) → I 421 0 = 0 → (I 421 1).toInt = (d : Int) - d0 → GP R cv s d → GM I R cv s d → (∀ (I' : Nat → Nat → Int32) (wr lx : Int32) (r : Nat × Nat × Int32 × gL), goF R f i (cv, s, d) = r → (∀ a, a ≠ 404 → (a < 416 ∨ 418 < a) → a ≠ 420 → a ≠ 421 → I' a = I0 a) → (∀ j, j ≠ 32 → j ≠ 33 → j ≠ 38 → I' 404 j = I0 404 j) → (∀ j, 3 ≤ j → I' 421 j = I0 421 j) → wr.toInt = (if r.1 = 0 then -1 else (r.2.1 : Int)) → (I' 421 0).toInt = r.1 → (I' 421 1).toInt = (r.2.2.2.2.2 : Int) - d0 → I' 421 2 = I 421 2 + r.2.2.1 → GM I' R r.2.2.2.1 r.2.2.2.2.1 r.2.2.2.2.2 → GP R r.2.2.2.1 r.2.2.2.2.1 r.2.2.2.2.2 → dw_ok (pr_X12_go K) 123 0 0 [some (.ref 404), some (.int a1), some (.int wr), some (.int lx)] [] (n, SH1, I', J)) → dw_ok (pr_X12_go K) 56 0 0 [some (.ref 404), some (.int a1), some (.int (-1)), some (.int ln)] [] (n, SH1, I, J) := by
  intro f
  induction f with
  | zero =>
    intro i ln I cv s d hf hln hF hFA hF3 h0 h1 hGP hGM hk
    have h803 : I 406 803 = R 803 := congrFun hGM.1 803
    have k0 : (0 : Int32).toInt = 0 := rfl
    refine q_ild rfl rfl ?_
    refine q_ald rfl rfl ?_
    refine q_getr rfl sk_404 sr_404_6 ?_
    refine q_ic rfl ?_
    refine q_xald rfl (Or.inl rfl) sk_406 sn_406 (by decide) (by decide) ?_
    refine q_icmp (c := 3) rfl (by decide) (fun y1 => ?_) (fun h => absurd (show (ln).toInt < ((I 406 803)).toInt from h) (by rw [h803]; omega))
    have y1 : ((I 406 803)).toInt ≤ (ln).toInt := y1
    exact hk I (-1) ln (0, i, 0, cv, s, d) rfl hF hFA hF3 rfl (by rw [h0]; rfl) h1 (by show I 421 2 = I 421 2 + 0; rw [Int32.add_zero]) hGM hGP
  | succ f ih =>
    intro i ln I cv s d hf hln hF hFA hF3 h0 h1 hGP hGM hk
    have h803 : I 406 803 = R 803 := congrFun hGM.1 803
    have k0 : (0 : Int32).toInt = 0 := rfl
    refine q_ild rfl rfl ?_
    refine q_ald rfl rfl ?_
    refine q_getr rfl sk_404 sr_404_6 ?_
    refine q_ic rfl ?_
    refine q_xald rfl (Or.inl rfl) sk_406 sn_406 (by decide) (by decide) ?_
    refine q_icmp (c := 3) rfl (by decide) (fun h => absurd (show ((I 406 803)).toInt ≤ (ln).toInt from h) (by rw [h803]; omega)) (fun y2 => ?_)
    have y2 : (ln).toInt < ((I 406 803)).toInt := y2
    refine q_ild rfl rfl ?_
    refine q_if (c := 3) rfl (by decide) (fun h => absurd (show 0 ≤ (-1 : Int) from h) (by decide)) (fun y3 => ?_)
    have y3 : (-1 : Int) < 0 := y3
    refine q_ald rfl rfl ?_
    refine q_getr rfl sk_404 sr_404_40 ?_
    refine q_ic rfl ?_
    refine q_ald rfl rfl ?_
    refine q_ald rfl rfl ?_
    refine q_getr rfl sk_404 sr_404_6 ?_
    refine q_ic rfl ?_
    refine q_ic rfl ?_
    refine q_ild rfl rfl ?_
    refine q_mul rfl ?_
    show dw_ok (pr_X12_go K) 88 0 0 [some (.ref 404), some (.int a1), some (.int (-1 : Int32)), some (.int ln)] [.int ((3 : Int32) * ln), .int (804 : Int32), .ref 406, .ref 404, .int (0 : Int32), .ref 421] (n, SH1, I, J)
    obtain ⟨t3, ht3⟩ : ∃ z, z = ((3 : Int32) * ln) := ⟨_, rfl⟩
    rw [← ht3]
    have et3 : t3.toInt = ((3 * i : Nat) : Int) := by rw [ht3]; exact (ix_m (m := 3) hln rfl (by omega))
    refine q_add rfl ?_
    show dw_ok (pr_X12_go K) 89 0 0 [some (.ref 404), some (.int a1), some (.int (-1 : Int32)), some (.int ln)] [.int ((804 : Int32) + t3), .ref 406, .ref 404, .int (0 : Int32), .ref 421] (n, SH1, I, J)
    obtain ⟨z4, hz4⟩ : ∃ z, z = ((804 : Int32) + t3) := ⟨_, rfl⟩
    rw [← hz4]
    have ez4 : z4.toInt = ((804 + 3 * i : Nat) : Int) := by rw [hz4]; exact (ix_a (x := 804) (a := 804) rfl et3 (by omega))
    refine q_xald rfl (Or.inl rfl) sk_406 sn_406 (by omega) (by omega) ?_
    show dw_ok (pr_X12_go K) 90 0 0 [some (.ref 404), some (.int a1), some (.int (-1 : Int32)), some (.int ln)] [.int (I 406 (z4).toInt.toNat), .ref 404, .int (0 : Int32), .ref 421] (n, SH1, I, J)
    rw [(nat_of ez4)]
    refine q_ald rfl rfl ?_
    refine q_getr rfl sk_404 sr_404_6 ?_
    refine q_ic rfl ?_
    refine q_ic rfl ?_
    refine q_ild rfl rfl ?_
    refine q_mul rfl ?_
    show dw_ok (pr_X12_go K) 100 0 0 [some (.ref 404), some (.int a1), some (.int (-1 : Int32)), some (.int ln)] [.int ((3 : Int32) * ln), .int (805 : Int32), .ref 406, .int (I 406 (804 + 3 * i)), .ref 404, .int (0 : Int32), .ref 421] (n, SH1, I, J)
    obtain ⟨t3, ht3⟩ : ∃ z, z = ((3 : Int32) * ln) := ⟨_, rfl⟩
    rw [← ht3]
    have et3 : t3.toInt = ((3 * i : Nat) : Int) := by rw [ht3]; exact (ix_m (m := 3) hln rfl (by omega))
    refine q_add rfl ?_
    show dw_ok (pr_X12_go K) 101 0 0 [some (.ref 404), some (.int a1), some (.int (-1 : Int32)), some (.int ln)] [.int ((805 : Int32) + t3), .ref 406, .int (I 406 (804 + 3 * i)), .ref 404, .int (0 : Int32), .ref 421] (n, SH1, I, J)
    obtain ⟨z5, hz5⟩ : ∃ z, z = ((805 : Int32) + t3) := ⟨_, rfl⟩
    rw [← hz5]
    have ez5 : z5.toInt = ((805 + 3 * i : Nat) : Int) := by rw [hz5]; exact (ix_a (x := 805) (a := 805) rfl et3 (by omega))
    refine q_xald rfl (Or.inl rfl) sk_406 sn_406 (by omega) (by omega) ?_
    show dw_ok (pr_X12_go K) 102 0 0 [some (.ref 404), some (.int a1), some (.int (-1 : Int32)), some (.int ln)] [.int (I 406 (z5).toInt.toNat), .int (I 406 (804 + 3 * i)), .ref 404, .int (0 : Int32), .ref 421] (n, SH1, I, J)
    rw [(nat_of ez5)]
    refine q_callV (as := [.int (I 406 (804 + 3 * i)), .int (I 406 (805 + 3 * i))]) (rest := [.int (0 : Int32), .ref 421]) rfl rfl sk_404 rfl (Nat.le_of_ble_eq_true rfl) ?_
    rw [show (I 406 (804 + 3 * i)) = R (804 + 3 * i) from congrFun hGM.1 _, show (I 406 (805 + 3 * i)) = R (805 + 3 * i) from congrFun hGM.1 _]
    refine v_mdoes hG (hB i (by omega)) hGP hGM rfl rfl (fun I1 w L e ew g1 g2 g3 g4 g5 gM gP => ?_)
    obtain ⟨lc, lt, lcv, ls, ld⟩ := L
    obtain ⟨bb, g4, eb⟩ := g4
    have ew : w.toInt = (lc : Nat) := ew
    have g5 : I1 421 2 = I 421 2 + lt := g5
    have eb : bb.toInt = (ld : Int) - d := eb
    have gM : GM I1 R lcv ls ld := gM
    have gP : GP R lcv ls ld := gP
    have dl := gP.2.1
    have dl2 := hGP.2.1
    show dw_ok (pr_X12_go K) 105 0 0 [some (.ref 404), some (.int a1), some (.int (-1 : Int32)), some (.int ln)] [.int w, .int (0 : Int32), .ref 421] (n, SH1, I1, J)
    refine q_iast rfl sk_421 sn_421 (by decide) (by decide) ?_
    show dw_ok (pr_X12_go K) 106 0 0 [some (.ref 404), some (.int a1), some (.int (-1 : Int32)), some (.int ln)] [] (n, SH1, (dw_up I1 421 0 w), J)
    refine q_ald rfl rfl ?_
    refine q_getr rfl sk_404 sr_404_40 ?_
    refine q_ic rfl ?_
    refine q_xald rfl (Or.inl rfl) sk_421 sn_421 (by decide) (by decide) ?_
    show dw_ok (pr_X12_go K) 112 0 0 [some (.ref 404), some (.int a1), some (.int (-1 : Int32)), some (.int ln)] [.int ((dw_up I1 421 0 w) 421 0)] (n, SH1, (dw_up I1 421 0 w), J)
    rw [show ((dw_up I1 421 0 w) 421 0) = w from up_same]
    refine q_if (c := 5) rfl (by decide) (fun y4 => ?_) (fun y4 => ?_)
    · have y4 : (w).toInt ≤ 0 := y4
      refine q_inc rfl rfl rfl ?_
      show dw_ok (pr_X12_go K) 120 0 0 [some (.ref 404), some (.int a1), some (.int (-1 : Int32)), some (.int (ln + 1))] [] (n, SH1, (dw_up I1 421 0 w), J)
      show dw_ok (pr_X12_go K) 120 0 0 [some (.ref 404), some (.int a1), some (.int (-1 : Int32)), some (.int (ln + 1))] [] (n, SH1, (dw_up I1 421 0 w), J)
      obtain ⟨lx, hlx⟩ : ∃ z, z = (ln + 1) := ⟨_, rfl⟩
      rw [← hlx]
      have elx : lx.toInt = ((i + 1 : Nat) : Int) := by rw [hlx]; exact ix_1 hln (by omega)
      refine q_goto rfl ?_
      show dw_ok (pr_X12_go K) 56 0 0 [some (.ref 404), some (.int a1), some (.int (-1 : Int32)), some (.int lx)] [] (n, SH1, (dw_up I1 421 0 w), J)
      obtain ⟨I2, hI2⟩ : ∃ X, X = (dw_up I1 421 0 w) := ⟨_, rfl⟩
      rw [← hI2]
      have r2 : ∀ a, a ≠ 421 → I2 a = I1 a := fun a ha => by rw [hI2]; exact up_row ha
      have f2 : ∀ j, j ≠ 0 → I2 421 j = I1 421 j := fun j hj => by rw [hI2]; exact up_fld hj
      have s2 : I2 421 0 = w := by rw [hI2]; exact up_same
      have F2 : ∀ a, a ≠ 404 → (a < 416 ∨ 418 < a) → a ≠ 420 → a ≠ 421 → I2 a = I0 a := fun a h1 h2 h3 h4 => ((r2 a h4).trans (g1 a h1 h2 h3 h4)).trans (hF a h1 h2 h3 h4)
      have FA2 : ∀ j, j ≠ 32 → j ≠ 33 → j ≠ 38 → I2 404 j = I0 404 j := fun j h1 h2 h3 => ((congrFun (r2 404 (by decide)) j).trans (g2 j h1 h2 h3)).trans (hFA j h1 h2 h3)
      have F32 : ∀ j, 3 ≤ j → I2 421 j = I0 421 j := fun j hj => ((f2 j (by omega)).trans (g3 j (by omega) (by omega))).trans (hF3 j hj)
      have C2 : GM I2 R lcv ls ld := gm_eq (fun a ha => r2 a (by omega)) (fun j _ _ => congrFun (r2 404 (by decide)) j) gM
      have t1 : (I2 421 1).toInt = (ld : Int) - d0 := by
        rw [f2 1 (by decide), g4, i_add (by omega) (by omega), h1, eb]; omega
      have t2 : I2 421 2 = I 421 2 + lt := (f2 2 (by decide)).trans g5
      have lz : lc = 0 := by omega
      have wz : w = 0 := i_eq (by rw [k0]; omega)
      have eg : goF R (f + 1) i (cv, s, d) = ((goF R f (i + 1) (lcv, ls, ld)).1, (goF R f (i + 1) (lcv, ls, ld)).2.1, lt + (goF R f (i + 1) (lcv, ls, ld)).2.2.1, (goF R f (i + 1) (lcv, ls, ld)).2.2.2) := by
        show (if (lnF R i (cv, s, d)).1 = 0 then _ else _) = _
        rw [e]
        exact if_pos lz
      refine ih (i + 1) lx I2 lcv ls ld (by omega) elx F2 FA2 F32 (s2.trans wz) t1 gP C2 (fun I' wr lx' r er q1 q2 q3 q4 q5 q6 q7 q8 q9 => ?_)
      rw [er] at eg
      exact hk I' wr lx' _ eg q1 q2 q3 q4 q5 q6 (by show I' 421 2 = I 421 2 + (lt + r.2.2.1); rw [q7, t2, Int32.add_assoc]) q8 q9
    · have y4 : 0 < (w).toInt := y4
      refine q_ild rfl rfl ?_
      refine q_ist rfl rfl ?_
      show dw_ok (pr_X12_go K) 117 0 0 [some (.ref 404), some (.int a1), some (.int ln), some (.int ln)] [] (n, SH1, (dw_up I1 421 0 w), J)
      refine q_inc rfl rfl rfl ?_
      show dw_ok (pr_X12_go K) 120 0 0 [some (.ref 404), some (.int a1), some (.int ln), some (.int (ln + 1))] [] (n, SH1, (dw_up I1 421 0 w), J)
      show dw_ok (pr_X12_go K) 120 0 0 [some (.ref 404), some (.int a1), some (.int ln), some (.int (ln + 1))] [] (n, SH1, (dw_up I1 421 0 w), J)
      obtain ⟨lx, hlx⟩ : ∃ z, z = (ln + 1) := ⟨_, rfl⟩
      rw [← hlx]
      have elx : lx.toInt = ((i + 1 : Nat) : Int) := by rw [hlx]; exact ix_1 hln (by omega)
      refine q_goto rfl ?_
      show dw_ok (pr_X12_go K) 56 0 0 [some (.ref 404), some (.int a1), some (.int ln), some (.int lx)] [] (n, SH1, (dw_up I1 421 0 w), J)
      obtain ⟨I2, hI2⟩ : ∃ X, X = (dw_up I1 421 0 w) := ⟨_, rfl⟩
      rw [← hI2]
      have r2 : ∀ a, a ≠ 421 → I2 a = I1 a := fun a ha => by rw [hI2]; exact up_row ha
      have f2 : ∀ j, j ≠ 0 → I2 421 j = I1 421 j := fun j hj => by rw [hI2]; exact up_fld hj
      have s2 : I2 421 0 = w := by rw [hI2]; exact up_same
      have F2 : ∀ a, a ≠ 404 → (a < 416 ∨ 418 < a) → a ≠ 420 → a ≠ 421 → I2 a = I0 a := fun a h1 h2 h3 h4 => ((r2 a h4).trans (g1 a h1 h2 h3 h4)).trans (hF a h1 h2 h3 h4)
      have FA2 : ∀ j, j ≠ 32 → j ≠ 33 → j ≠ 38 → I2 404 j = I0 404 j := fun j h1 h2 h3 => ((congrFun (r2 404 (by decide)) j).trans (g2 j h1 h2 h3)).trans (hFA j h1 h2 h3)
      have F32 : ∀ j, 3 ≤ j → I2 421 j = I0 421 j := fun j hj => ((f2 j (by omega)).trans (g3 j (by omega) (by omega))).trans (hF3 j hj)
      have C2 : GM I2 R lcv ls ld := gm_eq (fun a ha => r2 a (by omega)) (fun j _ _ => congrFun (r2 404 (by decide)) j) gM
      have t1 : (I2 421 1).toInt = (ld : Int) - d0 := by
        rw [f2 1 (by decide), g4, i_add (by omega) (by omega), h1, eb]; omega
      have t2 : I2 421 2 = I 421 2 + lt := (f2 2 (by decide)).trans g5
      have lz : ¬ lc = 0 := fun q => by omega
      have eg : goF R (f + 1) i (cv, s, d) = (lc, i, lt, lcv, ls, ld) := by
        show (if (lnF R i (cv, s, d)).1 = 0 then _ else _) = _
        rw [e]
        exact if_neg lz
      show dw_ok (pr_X12_go K) 56 0 0 [some (.ref 404), some (.int a1), some (.int ln), some (.int lx)] [] (n, SH1, I2, J)
      refine q_ild rfl rfl ?_
      refine q_ald rfl rfl ?_
      refine q_getr rfl sk_404 sr_404_6 ?_
      refine q_ic rfl ?_
      refine q_xald rfl (Or.inl rfl) sk_406 sn_406 (by decide) (by decide) ?_
      refine q_icmp (c := 3) rfl (by decide) (fun y5 => ?_) (fun y5 => ?_)
      · have y5 : ((I2 406 803)).toInt ≤ (lx).toInt := y5
        exact hk I2 ln lx _ eg F2 FA2 F32 (by rw [if_neg lz]; exact hln) (by rw [s2]; exact ew) t1 t2 C2 gP
      · have y5 : (lx).toInt < ((I2 406 803)).toInt := y5
        refine q_ild rfl rfl ?_
        refine q_if (c := 3) rfl (by decide) (fun y6 => ?_) (fun h => absurd (show (ln).toInt < 0 from h) (by omega))
        have y6 : 0 ≤ (ln).toInt := y6
        exact hk I2 ln lx _ eg F2 FA2 F32 (by rw [if_neg lz]; exact hln) (by rw [s2]; exact ew) t1 t2 C2 gP
set_option maxRecDepth 8000 in
set_option maxHeartbeats 4000000 in
theorem mgs_loop {n : Nat} {J : Nat → Nat → Int64} {K : dw_K} {a1 wr : Int32} {N : Nat} {I0 : Nat → Nat → Int32} (hN : (I0 406 0 * I0 406 1).toInt = N) (hN9 : N ≤ 144)
    (hk : ∀ (I' : Nat → Nat → Int32) (y : Int32), (∀ a, a ≠ 421 → I' a = I0 a) → (∀ j, j ≠ 3 → j ≠ 4 → I' 421 j = I0 421 j) → (I' 421 3).toInt = wcF (I0 417) 1 N → I' 421 4 = suF (I0 420) N → dw_ok (pr_X12_go K) 177 0 0 [some (.ref 404), some (.int a1), some (.int wr), some (.int y)] [] (n, SH1, I', J)) :
    ∀ (f k : Nat) (c : Int32) (I : Nat → Nat → Int32), k + f = N → c.toInt = k → (∀ a, a ≠ 421 → I a = I0 a) → (∀ j, j ≠ 3 → j ≠ 4 → I 421 j = I0 421 j) → (I 421 3).toInt = wcF (I0 417) 1 k → I 421 4 = suF (I0 420) k → dw_ok (pr_X12_go K) 125 0 0 [some (.ref 404), some (.int a1), some (.int wr), some (.int c)] [] (n, SH1, I, J) := by
  have k1 : (1 : Int32).toInt = 1 := rfl
  have k0 : (0 : Int32).toInt = 0 := rfl
  intro f
  induction f with
  | zero =>
    intro k c I hf hc hA hB h3 h4
    have h406 : I 406 = I0 406 := hA 406 (by decide)
    have h417 : I 417 = I0 417 := hA 417 (by decide)
    have h420 : I 420 = I0 420 := hA 420 (by decide)
    refine q_ild rfl rfl ?_
    refine q_ald rfl rfl ?_
    refine q_callV (as := []) (rest := [.int c]) rfl rfl sk_404 rfl (Nat.le_of_ble_eq_true rfl) ?_
    refine v_mcells ?_
    show dw_ok (pr_X12_go K) 130 0 0 [some (.ref 404), some (.int a1), some (.int wr), some (.int c)] [.int (I 406 0 * I 406 1), .int c] (n, SH1, I, J)
    rw [show I 406 = I0 406 from h406]
    obtain ⟨nv, hnv⟩ : ∃ z, z = I0 406 0 * I0 406 1 := ⟨_, rfl⟩
    rw [← hnv]
    have env : nv.toInt = N := by rw [hnv]; exact hN
    show dw_ok (pr_X12_go K) 130 0 0 [some (.ref 404), some (.int a1), some (.int wr), some (.int c)] [.int nv, .int c] (n, SH1, I, J)
    refine q_icmp (c := 3) rfl (by decide) (fun y1 => ?_) (fun h => absurd (show (c).toInt < (nv).toInt from h) (by omega))
    have y1 : (nv).toInt ≤ (c).toInt := y1
    have kN : k = N := by omega
    subst kN
    exact hk I c hA hB h3 h4
  | succ f ih =>
    intro k c I hf hc hA hB h3 h4
    have h406 : I 406 = I0 406 := hA 406 (by decide)
    have h417 : I 417 = I0 417 := hA 417 (by decide)
    have h420 : I 420 = I0 420 := hA 420 (by decide)
    have hcn : c.toInt.toNat = k := by omega
    have wl := wc_le (W := I0 417) (l := 1) k
    refine q_ild rfl rfl ?_
    refine q_ald rfl rfl ?_
    refine q_callV (as := []) (rest := [.int c]) rfl rfl sk_404 rfl (Nat.le_of_ble_eq_true rfl) ?_
    refine v_mcells ?_
    show dw_ok (pr_X12_go K) 130 0 0 [some (.ref 404), some (.int a1), some (.int wr), some (.int c)] [.int (I 406 0 * I 406 1), .int c] (n, SH1, I, J)
    rw [show I 406 = I0 406 from h406]
    obtain ⟨nv, hnv⟩ : ∃ z, z = I0 406 0 * I0 406 1 := ⟨_, rfl⟩
    rw [← hnv]
    have env : nv.toInt = N := by rw [hnv]; exact hN
    show dw_ok (pr_X12_go K) 130 0 0 [some (.ref 404), some (.int a1), some (.int wr), some (.int c)] [.int nv, .int c] (n, SH1, I, J)
    refine q_icmp (c := 3) rfl (by decide) (fun h => absurd (show (nv).toInt ≤ (c).toInt from h) (by omega)) (fun y2 => ?_)
    have y2 : (c).toInt < (nv).toInt := y2
    refine q_ald rfl rfl ?_
    refine q_getr rfl sk_404 sr_404_40 ?_
    refine q_ic rfl ?_
    refine q_dup2 rfl ?_
    refine q_xald rfl (Or.inl rfl) sk_421 sn_421 (by decide) (by decide) ?_
    refine q_ald rfl rfl ?_
    refine q_getr rfl sk_404 sr_404_29 ?_
    refine q_ild rfl rfl ?_
    refine q_xald rfl (Or.inl rfl) sk_417 sn_417 (by omega) (by omega) ?_
    show dw_ok (pr_X12_go K) 146 0 0 [some (.ref 404), some (.int a1), some (.int wr), some (.int c)] [.int (I 417 (c).toInt.toNat), .int (I 421 3), .int (3 : Int32), .ref 421] (n, SH1, I, J)
    rw [hcn]
    refine q_if (c := 5) rfl (by decide) (fun y3 => ?_) (fun y3 => ?_)
    · have y3 : ((I 417 k)).toInt ≤ 0 := y3
      refine q_ic rfl ?_
      refine q_add rfl ?_
      refine q_iast rfl sk_421 sn_421 (by decide) (by decide) ?_
      show dw_ok (pr_X12_go K) 156 0 0 [some (.ref 404), some (.int a1), some (.int wr), some (.int c)] [] (n, SH1, (dw_up I 421 3 ((I 421 3) + (0 : Int32))), J)
      refine q_ald rfl rfl ?_
      refine q_getr rfl sk_404 sr_404_40 ?_
      refine q_ic rfl ?_
      refine q_dup2 rfl ?_
      refine q_xald rfl (Or.inl rfl) sk_421 sn_421 (by decide) (by decide) ?_
      show dw_ok (pr_X12_go K) 163 0 0 [some (.ref 404), some (.int a1), some (.int wr), some (.int c)] [.int ((dw_up I 421 3 ((I 421 3) + (0 : Int32))) 421 4), .int (4 : Int32), .ref 421] (n, SH1, (dw_up I 421 3 ((I 421 3) + (0 : Int32))), J)
      rw [show ((dw_up I 421 3 ((I 421 3) + (0 : Int32))) 421 4) = (I 421 4) from (up_fld (by decide))]
      refine q_ald rfl rfl ?_
      refine q_getr rfl sk_404 sr_404_39 ?_
      refine q_ild rfl rfl ?_
      refine q_xald rfl (Or.inl rfl) sk_420 sn_420 (by omega) (by omega) ?_
      show dw_ok (pr_X12_go K) 169 0 0 [some (.ref 404), some (.int a1), some (.int wr), some (.int c)] [.int ((dw_up I 421 3 ((I 421 3) + (0 : Int32))) 420 (c).toInt.toNat), .int (I 421 4), .int (4 : Int32), .ref 421] (n, SH1, (dw_up I 421 3 ((I 421 3) + (0 : Int32))), J)
      rw [hcn]
      show dw_ok (pr_X12_go K) 169 0 0 [some (.ref 404), some (.int a1), some (.int wr), some (.int c)] [.int ((dw_up I 421 3 ((I 421 3) + (0 : Int32))) 420 k), .int (I 421 4), .int (4 : Int32), .ref 421] (n, SH1, (dw_up I 421 3 ((I 421 3) + (0 : Int32))), J)
      rw [show ((dw_up I 421 3 ((I 421 3) + (0 : Int32))) 420 k) = (I 420 k) from (up_ne (Or.inl (by decide)))]
      refine q_add rfl ?_
      refine q_iast rfl sk_421 sn_421 (by decide) (by decide) ?_
      show dw_ok (pr_X12_go K) 171 0 0 [some (.ref 404), some (.int a1), some (.int wr), some (.int c)] [] (n, SH1, (dw_up (dw_up I 421 3 ((I 421 3) + (0 : Int32))) 421 4 ((I 421 4) + (I 420 k))), J)
      refine q_inc rfl rfl rfl ?_
      show dw_ok (pr_X12_go K) 174 0 0 [some (.ref 404), some (.int a1), some (.int wr), some (.int (c + 1))] [] (n, SH1, (dw_up (dw_up I 421 3 ((I 421 3) + (0 : Int32))) 421 4 ((I 421 4) + (I 420 k))), J)
      show dw_ok (pr_X12_go K) 174 0 0 [some (.ref 404), some (.int a1), some (.int wr), some (.int (c + 1))] [] (n, SH1, (dw_up (dw_up I 421 3 ((I 421 3) + (0 : Int32))) 421 4 ((I 421 4) + (I 420 k))), J)
      obtain ⟨cx, hcx⟩ : ∃ z, z = (c + 1) := ⟨_, rfl⟩
      rw [← hcx]
      have ecx : cx.toInt = ((k + 1 : Nat) : Int) := by rw [hcx]; exact ix_1 hc (by omega)
      refine q_goto rfl ?_
      have y417 : (I0 417 k).toInt = (I 417 k).toInt := by rw [h417]
      refine ih (k + 1) cx (dw_up (dw_up I 421 3 ((I 421 3) + (0 : Int32))) 421 4 ((I 421 4) + (I 420 k))) (by omega) ecx (fun a ha => ((up_row ha).trans (up_row ha)).trans (hA a ha)) (fun j q1 q2 => ((up_fld q2).trans (up_fld q1)).trans (hB j q1 q2)) ?_ ?_
      · rw [up_fld (by decide), up_same, i_add (by rw [h3, k0]; omega) (by rw [h3, k0]; omega), h3, k0]
        show _ = ((wcF (I0 417) 1 k + (if (1 : Int32).toInt ≤ (I0 417 k).toInt then 1 else 0) : Nat) : Int)
        rw [if_neg (by rw [k1]; omega)]
        omega
      · rw [up_same, h4, h420]
        rfl
    · have y3 : 0 < ((I 417 k)).toInt := y3
      refine q_ic rfl ?_
      refine q_goto rfl ?_
      refine q_add rfl ?_
      refine q_iast rfl sk_421 sn_421 (by decide) (by decide) ?_
      show dw_ok (pr_X12_go K) 156 0 0 [some (.ref 404), some (.int a1), some (.int wr), some (.int c)] [] (n, SH1, (dw_up I 421 3 ((I 421 3) + (1 : Int32))), J)
      refine q_ald rfl rfl ?_
      refine q_getr rfl sk_404 sr_404_40 ?_
      refine q_ic rfl ?_
      refine q_dup2 rfl ?_
      refine q_xald rfl (Or.inl rfl) sk_421 sn_421 (by decide) (by decide) ?_
      show dw_ok (pr_X12_go K) 163 0 0 [some (.ref 404), some (.int a1), some (.int wr), some (.int c)] [.int ((dw_up I 421 3 ((I 421 3) + (1 : Int32))) 421 4), .int (4 : Int32), .ref 421] (n, SH1, (dw_up I 421 3 ((I 421 3) + (1 : Int32))), J)
      rw [show ((dw_up I 421 3 ((I 421 3) + (1 : Int32))) 421 4) = (I 421 4) from (up_fld (by decide))]
      refine q_ald rfl rfl ?_
      refine q_getr rfl sk_404 sr_404_39 ?_
      refine q_ild rfl rfl ?_
      refine q_xald rfl (Or.inl rfl) sk_420 sn_420 (by omega) (by omega) ?_
      show dw_ok (pr_X12_go K) 169 0 0 [some (.ref 404), some (.int a1), some (.int wr), some (.int c)] [.int ((dw_up I 421 3 ((I 421 3) + (1 : Int32))) 420 (c).toInt.toNat), .int (I 421 4), .int (4 : Int32), .ref 421] (n, SH1, (dw_up I 421 3 ((I 421 3) + (1 : Int32))), J)
      rw [hcn]
      show dw_ok (pr_X12_go K) 169 0 0 [some (.ref 404), some (.int a1), some (.int wr), some (.int c)] [.int ((dw_up I 421 3 ((I 421 3) + (1 : Int32))) 420 k), .int (I 421 4), .int (4 : Int32), .ref 421] (n, SH1, (dw_up I 421 3 ((I 421 3) + (1 : Int32))), J)
      rw [show ((dw_up I 421 3 ((I 421 3) + (1 : Int32))) 420 k) = (I 420 k) from (up_ne (Or.inl (by decide)))]
      refine q_add rfl ?_
      refine q_iast rfl sk_421 sn_421 (by decide) (by decide) ?_
      show dw_ok (pr_X12_go K) 171 0 0 [some (.ref 404), some (.int a1), some (.int wr), some (.int c)] [] (n, SH1, (dw_up (dw_up I 421 3 ((I 421 3) + (1 : Int32))) 421 4 ((I 421 4) + (I 420 k))), J)
      refine q_inc rfl rfl rfl ?_
      show dw_ok (pr_X12_go K) 174 0 0 [some (.ref 404), some (.int a1), some (.int wr), some (.int (c + 1))] [] (n, SH1, (dw_up (dw_up I 421 3 ((I 421 3) + (1 : Int32))) 421 4 ((I 421 4) + (I 420 k))), J)
      show dw_ok (pr_X12_go K) 174 0 0 [some (.ref 404), some (.int a1), some (.int wr), some (.int (c + 1))] [] (n, SH1, (dw_up (dw_up I 421 3 ((I 421 3) + (1 : Int32))) 421 4 ((I 421 4) + (I 420 k))), J)
      obtain ⟨cx, hcx⟩ : ∃ z, z = (c + 1) := ⟨_, rfl⟩
      rw [← hcx]
      have ecx : cx.toInt = ((k + 1 : Nat) : Int) := by rw [hcx]; exact ix_1 hc (by omega)
      refine q_goto rfl ?_
      have y417 : (I0 417 k).toInt = (I 417 k).toInt := by rw [h417]
      refine ih (k + 1) cx (dw_up (dw_up I 421 3 ((I 421 3) + (1 : Int32))) 421 4 ((I 421 4) + (I 420 k))) (by omega) ecx (fun a ha => ((up_row ha).trans (up_row ha)).trans (hA a ha)) (fun j q1 q2 => ((up_fld q2).trans (up_fld q1)).trans (hB j q1 q2)) ?_ ?_
      · rw [up_fld (by decide), up_same, i_add (by rw [h3, k1]; omega) (by rw [h3, k1]; omega), h3, k1]
        show _ = ((wcF (I0 417) 1 k + (if (1 : Int32).toInt ≤ (I0 417 k).toInt then 1 else 0) : Nat) : Int)
        rw [if_pos (by rw [k1]; omega)]
        omega
      · rw [up_same, h4, h420]
        rfl
set_option maxRecDepth 8000 in
set_option maxHeartbeats 4000000 in
theorem v_mgo {n : Nat} {I : Nat → Nat → Int32} {J : Nat → Nat → Int64} {K : dw_K} {R : Nat → Int32} {a1 : Int32} (hR : I 406 = R) (hG : GOK R) (hgo : R 894 ≠ 0 → GP R (cvR R) (rrS R) (dR R) ∧ NOK (rnS R) ∧ (R 895).toInt = (dR R : Nat)) (hB : ∀ i : Nat, (i : Int) < (R 803).toInt → PB R i) (hp : 0 ≤ (R 803).toInt ∧ (R 803).toInt ≤ 30)
    (h0 : (R 894 = 0 ∨ ¬ (0 ≤ a1.toInt ∧ a1.toInt ≤ 1)) → ∀ I' : Nat → Nat → Int32, (∀ a, a ≠ 404 → I' a = I a) → (∀ j, j ≠ 0 → I' 404 j = I 404 j) → I' 404 0 = 0 → K (some (.int (-2))) (n, SH1, I', J))
    (h1 : R 894 ≠ 0 → (0 ≤ a1.toInt ∧ a1.toInt ≤ 1) → ∀ (I' : Nat → Nat → Int32) (wr : Int32) (r : Nat × Nat × Int32 × gL), goF R (R 803).toInt.toNat 0 (cvR R, rrS R, dR R) = r → wr.toInt = (if r.1 = 0 then -1 else (r.2.1 : Int)) → (I' 421 0).toInt = r.1 → (I' 421 1).toInt = (r.2.2.2.2.2 : Int) - dR R → I' 421 2 = r.2.2.1 → (I' 421 3).toInt = wcF r.2.2.2.2.1.2.1 1 (Nn R) → I' 421 4 = suF r.2.2.2.1 (Nn R) → I' 404 41 = 1 → (∀ a, a ≠ 404 → a ≠ 406 → (a < 411 ∨ 421 < a) → I' a = I a) → (∀ j, j ≠ 0 → j ≠ 41 → (j < 32 ∨ 38 < j) → I' 404 j = I 404 j) → I' 404 0 = 0 → (a1.toInt = 0 → I' 406 = R) → (a1.toInt = 1 → mOn R (I' 406) r.2.2.2.1 r.2.2.2.2.1 r.2.2.2.2.2) → K (some (.int wr)) (n, SH1, I', J)) : t_X12_go [.ref 404, .int a1] (n, SH1, I, J) K := by
  have k1 : (1 : Int32).toInt = 1 := rfl
  refine q_body (Nat.le_of_ble_eq_true rfl) ?_
  refine q_ald rfl rfl ?_
  refine q_ic rfl ?_
  refine q_puti rfl sk_404 ?_
  show dw_ok (pr_X12_go K) 5 0 0 [some (.ref 404), some (.int a1), none, none] [] (n, SH1, (dw_up I 404 0 (0 : Int32)), J)
  obtain ⟨I1, hI1⟩ : ∃ X, X = (dw_up I 404 0 (0 : Int32)) := ⟨_, rfl⟩
  show dw_ok (pr_X12_go K) 5 0 0 [some (.ref 404), some (.int a1), none, none] [] (n, SH1, (dw_up I 404 0 (0 : Int32)), J)
  rw [← hI1]
  have r1 : ∀ a, a ≠ 404 → I1 a = I a := fun a ha => by rw [hI1]; exact up_row ha
  have f1 : ∀ j, j ≠ 0 → I1 404 j = I 404 j := fun j hj => by rw [hI1]; exact up_fld hj
  have s1 : I1 404 0 = 0 := by rw [hI1]; exact up_same
  have e1 : I1 406 = R := (r1 406 (by decide)).trans hR
  refine q_ald rfl rfl ?_
  refine q_getr rfl sk_404 sr_404_6 ?_
  refine q_ic rfl ?_
  refine q_xald rfl (Or.inl rfl) sk_406 sn_406 (by decide) (by decide) ?_
  refine q_if (c := 0) rfl (by decide) (fun y1 => ?_) (fun y1 => ?_)
  · have y1 : ((I1 406 894)).toInt = 0 := y1
    refine q_ic rfl ?_
    have z : I1 406 894 = R 894 := congrFun e1 894
    exact q_iret rfl (h0 (Or.inl (i_eq (by rw [← z]; exact y1))) I1 r1 f1 s1)
  · have y1 : ((I1 406 894)).toInt ≠ 0 := y1
    refine q_ild rfl rfl ?_
    refine q_ic rfl ?_
    refine q_ic rfl ?_
    refine q_callS (as := [.int a1, .int (0 : Int32), .int (1 : Int32)]) (rest := []) rfl rfl rfl rfl ?_
    refine v_isIn (fun w_ oS => ?_)
    rcases oS with ⟨rfl, oS⟩ | ⟨rfl, oS⟩
    · show dw_ok (pr_X12_go K) 22 0 0 [some (.ref 404), some (.int a1), none, none] [.int (1 : Int32)] (n, SH1, I1, J)
      refine q_if (c := 1) rfl (by decide) (fun y2 => ?_) (fun h => absurd (show (1 : Int) = 0 from h) (by decide))
      have y2 : (1 : Int) ≠ 0 := y2
      refine q_ald rfl rfl ?_
      refine q_callV (as := []) (rest := []) rfl rfl sk_404 rfl (Nat.le_of_ble_eq_true rfl) ?_
      have r894 : R 894 ≠ 0 := by
        intro q
        have z : I1 406 894 = R 894 := congrFun e1 894
        rw [z, q] at y1
        exact absurd rfl y1
      obtain ⟨gP, hS, hd⟩ := hgo r894
      have d9 := gP.2.1
      refine v_mloads e1 hG hS hd (fun I2 m1 m2 gM => ?_)
      obtain ⟨g406, g38, g35, gK, g20⟩ := id gM
      show dw_ok (pr_X12_go K) 32 0 0 [some (.ref 404), some (.int a1), none, none] [] (n, SH1, I2, J)
      refine q_ic rfl ?_
      refine q_ist rfl rfl ?_
      show dw_ok (pr_X12_go K) 34 0 0 [some (.ref 404), some (.int a1), some (.int (0 : Int32)), none] [] (n, SH1, I2, J)
      obtain ⟨ok0, ok1⟩ := oS
      have ok0 : 0 ≤ a1.toInt := ok0
      have ok1 : a1.toInt ≤ 1 := ok1
      refine mg_l0 (I0 := I2) (fun I3 y0 p1 p2 => ?_) 5 0 0 I2 rfl rfl (fun _ _ => rfl) (fun j hj => absurd hj (Nat.not_lt_zero j))
      have M3 : GM I3 R (cvR R) (rrS R) (dR R) := gm_eq (fun a ha => p1 a (by omega)) (fun j _ _ => congrFun (p1 404 (by decide)) j) gM
      show dw_ok (pr_X12_go K) 52 0 0 [some (.ref 404), some (.int a1), some (.int y0), none] [] (n, SH1, I3, J)
      refine q_ic rfl ?_
      refine q_ist rfl rfl ?_
      show dw_ok (pr_X12_go K) 54 0 0 [some (.ref 404), some (.int a1), some (.int (-1 : Int32)), none] [] (n, SH1, I3, J)
      refine q_ic rfl ?_
      refine q_ist rfl rfl ?_
      show dw_ok (pr_X12_go K) 56 0 0 [some (.ref 404), some (.int a1), some (.int (-1 : Int32)), some (.int (0 : Int32))] [] (n, SH1, I3, J)
      refine mgo_loop (I0 := I3) (L := (R 803).toInt.toNat) (d0 := dR R) hG (fun i hi => hB i (by omega)) (by omega) (by omega) d9 (R 803).toInt.toNat 0 0 I3 (cvR R) (rrS R) (dR R) (by omega) rfl (fun _ _ _ _ _ => rfl) (fun _ _ _ _ => rfl) (fun _ _ => rfl) (p2 0 (by decide)) (by rw [p2 1 (by decide), show (0 : Int32).toInt = 0 from rfl]; omega) gP M3 (fun I4 wr lx r er F4 FA4 F34 ewr t0 t1 t2 M4 P4 => ?_)
      obtain ⟨rc, rl, rt, rcv, rs, rd⟩ := r
      have M4 : GM I4 R rcv rs rd := M4
      have P4 : GP R rcv rs rd := P4
      have t2 : I4 421 2 = rt := t2.trans (by rw [p2 2 (by decide), Int32.zero_add])
      have i6 : I4 406 = R := M4.1
      show dw_ok (pr_X12_go K) 123 0 0 [some (.ref 404), some (.int a1), some (.int wr), some (.int lx)] [] (n, SH1, I4, J)
      refine q_ic rfl ?_
      refine q_ist rfl rfl ?_
      show dw_ok (pr_X12_go K) 125 0 0 [some (.ref 404), some (.int a1), some (.int wr), some (.int (0 : Int32))] [] (n, SH1, I4, J)
      refine mgs_loop (I0 := I4) (N := Nn R) (by rw [i6]; exact (gok_N hG).1) (gok_N hG).2 (fun I5 y5 v1 v2 v3 v4 => ?_) (Nn R) 0 0 I4 (by omega) rfl (fun _ _ => rfl) (fun _ _ _ => rfl) (by rw [F34 3 (by decide), p2 3 (by decide)]; rfl) (by rw [F34 4 (by decide), p2 4 (by decide)]; rfl)
      have M5 : GM I5 R rcv rs rd := gm_eq (fun a ha => v1 a (by omega)) (fun j _ _ => congrFun (v1 404 (by decide)) j) M4
      show dw_ok (pr_X12_go K) 177 0 0 [some (.ref 404), some (.int a1), some (.int wr), some (.int y5)] [] (n, SH1, I5, J)
      refine q_ald rfl rfl ?_
      refine q_ic rfl ?_
      refine q_putz rfl sk_404 (Or.inr rfl) ?_
      show dw_ok (pr_X12_go K) 182 0 0 [some (.ref 404), some (.int a1), some (.int wr), some (.int y5)] [] (n, SH1, (dw_up I5 404 41 (1 : Int32)), J)
      refine q_ild rfl rfl ?_
      refine q_ic rfl ?_
      refine q_icmp (c := 1) rfl (by decide) (fun y3 => ?_) (fun y3 => ?_)
      · have y3 : (a1).toInt ≠ (1 : Int) := y3
        refine q_ild rfl rfl ?_
        obtain ⟨I6, hI6⟩ : ∃ X, X = (dw_up I5 404 41 (1 : Int32)) := ⟨_, rfl⟩
        show dw_ok (pr_X12_go K) 192 0 0 [some (.ref 404), some (.int a1), some (.int wr), some (.int y5)] [.int wr] (n, SH1, (dw_up I5 404 41 (1 : Int32)), J)
        rw [← hI6]
        have rI6 : ∀ a, a ≠ 404 → I6 a = I5 a := fun a q0 => by rw [hI6]; exact (up_row q0)
        have fI6_0 : ∀ j, j ≠ 41 → I6 404 j = I5 404 j := fun j p0 => by rw [hI6]; exact (up_fld p0)
        have sI6_0_0 : I6 404 41 = (1 : Int32) := by rw [hI6]; exact (up_same)
        refine q_iret rfl ?_
        have w3 : wcF (I4 417) 1 (Nn R) = wcF rs.2.1 1 (Nn R) := wcF_eq _ (fun c hc => M4.2.2.2.1.2.2.1.2.1 c hc)
        have w4 : suF (I4 420) (Nn R) = suF rcv (Nn R) := suF_eq _ (fun c hc => (M4.2.2.2.2 c hc).1)
        have z421 : I6 421 = I5 421 := rI6 421 (by decide)
        have z5 : ∀ a, a ≠ 404 → a ≠ 406 → (a < 411 ∨ 421 < a) → I6 a = I a := fun a q1 q2 q3 => by
          rw [rI6 a q1, v1 a (by omega), F4 a q1 (by omega) (by omega) (by omega), p1 a (by omega), m1 a q1 (by omega) (by omega)]; exact r1 a q1
        have z4 : ∀ j, (j < 32 ∨ 38 < j) → j ≠ 41 → I6 404 j = I1 404 j := fun j q1 q2 => by
          rw [fI6_0 j q2, congrFun (v1 404 (by decide)) j, FA4 j (by omega) (by omega) (by omega), congrFun (p1 404 (by decide)) j]; exact m2 j (by omega) (by omega) (by omega) (by omega) (by omega)
        refine h1 r894 ⟨ok0, ok1⟩ I6 wr (rc, rl, rt, rcv, rs, rd) er ewr ?_ ?_ ?_ ?_ ?_ ?_ z5 (fun j q0 q1 q2 => (z4 j q2 q1).trans (f1 j q0)) ((z4 0 (by decide) (by decide)).trans s1) ?_ ?_
        · rw [z421, v2 0 (by decide) (by decide)]; exact t0
        · rw [z421, v2 1 (by decide) (by decide)]; exact t1
        · rw [z421, v2 2 (by decide) (by decide)]; exact t2
        · rw [z421, v3, w3]
        · rw [z421, v4]; exact w4
        · exact sI6_0_0
        · intro _
          rw [rI6 406 (by decide), v1 406 (by decide)]; exact i6
        · intro q
          have q2 : a1.toInt ≠ (1 : Int) := y3
          exact absurd q q2
      · have y3 : (a1).toInt = (1 : Int) := y3
        refine q_ald rfl rfl ?_
        refine q_callV (as := []) (rest := []) rfl rfl sk_404 rfl (Nat.le_of_ble_eq_true rfl) ?_
        obtain ⟨I6, hI6⟩ : ∃ X, X = (dw_up I5 404 41 (1 : Int32)) := ⟨_, rfl⟩
        rw [← hI6]
        have rI6 : ∀ a, a ≠ 404 → I6 a = I5 a := fun a q0 => by rw [hI6]; exact (up_row q0)
        have fI6_0 : ∀ j, j ≠ 41 → I6 404 j = I5 404 j := fun j p0 => by rw [hI6]; exact (up_fld p0)
        have sI6_0_0 : I6 404 41 = (1 : Int32) := by rw [hI6]; exact (up_same)
        have M6 : GM I6 R rcv rs rd := gm_eq (fun a ha => rI6 a (by omega)) (fun j _ _ => fI6_0 j (by omega)) M5
        refine v_mkeeps (N := Nn R) (by rw [M6.1]; exact (gok_N hG).1) (gok_N hG).2 (fun I7 k1 k2 k3 k4 k5 k6 => ?_)
        refine q_ild rfl rfl ?_
        have b7 : ∀ a, a ≠ 404 → a ≠ 406 → I7 a = I5 a := fun a q1 q2 => (k1 a q2).trans (rI6 a q1)
        refine q_iret rfl ?_
        have b7' : ∀ a, (a ≠ 404 ∧ a ≠ 406) → I7 a = I5 a := fun a q => b7 a q.1 q.2
        have w3 : wcF (I4 417) 1 (Nn R) = wcF rs.2.1 1 (Nn R) := wcF_eq _ (fun c hc => M4.2.2.2.1.2.2.1.2.1 c hc)
        have w4 : suF (I4 420) (Nn R) = suF rcv (Nn R) := suF_eq _ (fun c hc => (M4.2.2.2.2 c hc).1)
        have z421 : I7 421 = I5 421 := b7' 421 (by decide)
        have z5 : ∀ a, a ≠ 404 → a ≠ 406 → (a < 411 ∨ 421 < a) → I7 a = I a := fun a q1 q2 q3 => by
          rw [b7' a ⟨q1, q2⟩, v1 a (by omega), F4 a q1 (by omega) (by omega) (by omega), p1 a (by omega), m1 a q1 (by omega) (by omega)]; exact r1 a q1
        have z4 : ∀ j, (j < 32 ∨ 38 < j) → j ≠ 41 → I7 404 j = I1 404 j := fun j q1 q2 => by
          rw [k1 404 (by decide), fI6_0 j q2, congrFun (v1 404 (by decide)) j, FA4 j (by omega) (by omega) (by omega), congrFun (p1 404 (by decide)) j]; exact m2 j (by omega) (by omega) (by omega) (by omega) (by omega)
        refine h1 r894 ⟨ok0, ok1⟩ I7 wr (rc, rl, rt, rcv, rs, rd) er ewr ?_ ?_ ?_ ?_ ?_ ?_ z5 (fun j q0 q1 q2 => (z4 j q2 q1).trans (f1 j q0)) ((z4 0 (by decide) (by decide)).trans s1) ?_ ?_
        · rw [z421, v2 0 (by decide) (by decide)]; exact t0
        · rw [z421, v2 1 (by decide) (by decide)]; exact t1
        · rw [z421, v2 2 (by decide) (by decide)]; exact t2
        · rw [z421, v3, w3]
        · rw [z421, v4]; exact w4
        · rw [k1 404 (by decide)]; exact sI6_0_0
        · intro q; omega
        · intro _
          obtain ⟨t6, t38, -, ⟨-, -, ⟨s1', s2', s3', s4'⟩, -⟩, g20'⟩ := M6
          refine ⟨fun j q1 q2 q3 q4 => (k2 j q1 q2 q3 q4).trans (congrFun t6 j), by rw [k5]; exact t38, by rw [k3]; exact s3', by rw [k4]; exact s4', fun c hc => ?_⟩
          obtain ⟨c1, c2, c3⟩ := k6 c hc
          rw [c1, c2, c3]
          exact ⟨s1' c hc, s2' c hc, (g20' c hc).1⟩
    · show dw_ok (pr_X12_go K) 22 0 0 [some (.ref 404), some (.int a1), none, none] [.int (0 : Int32)] (n, SH1, I1, J)
      refine q_if (c := 1) rfl (by decide) (fun h => absurd (show (0 : Int) ≠ 0 from h) (by decide)) (fun y4 => ?_)
      have y4 : (0 : Int) = 0 := y4
      refine q_ic rfl ?_
      exact q_iret rfl (h0 (Or.inr (fun q => oS ⟨q.1, q.2⟩)) I1 r1 f1 s1)
end
section
/-! ===== a PLAN told: both states ===== -/
def lB (C R : Int) (l : pL) : Prop := l.1 ≤ 3 ∧ (l.1 = 0 → 1 ≤ l.2.1.toInt ∧ l.2.1.toInt ≤ 144) ∧ (l.1 ≠ 0 → (0 ≤ l.2.1.toInt ∧ l.2.1.toInt < C) ∧ 0 ≤ l.2.2.toInt ∧ l.2.2.toInt < R)
set_option maxRecDepth 8000 in
theorem nbP_0 {t : fT} {lo hi : Int} {k : Int32 → Nat → pR} (h : (nbP t lo hi k).1 = 0) : nbF t lo hi = 0 ∧ nbP t lo hi k = k t.2.2.2 t.2.2.1 := by
  unfold nbP at h ⊢
  by_cases g : nbF t lo hi = 0
  · exact ⟨g, if_pos g⟩
  · rw [if_neg g] at h; exact absurd h g
set_option maxRecDepth 8000 in
theorem stP_0 {t : fT} {k : Nat → pR} (h : (stP t k).1 = 0) : stP t k = k t.2.2.1 := by
  unfold stP at h ⊢
  by_cases g : t.1 = 3
  · exact if_pos g
  · rw [if_neg g] at h; exact absurd h (nn rfl)
set_option maxRecDepth 8000 in
theorem pl_b {b : fB} {N m ln : Nat} {C R : Int} {T : fT} (h : (plF b N m ln C R T).1 = 0) : lB C R (plF b N m ln C R T).2.2.2 := by
  unfold plF at h ⊢
  by_cases g1 : wpF b T = 9
  · rw [if_pos g1] at h; exact absurd h (nn rfl)
  rw [if_neg g1] at h ⊢
  by_cases g2 : 30 ≤ ln
  · rw [if_pos g2] at h; exact absurd h (nn rfl)
  rw [if_neg g2] at h ⊢
  by_cases g3 : wpF b T = 0
  · rw [if_pos g3] at h ⊢
    obtain ⟨b1, e1⟩ := nbP_0 h
    have r1 := nb_r b1
    rw [e1] at h ⊢
    rw [stP_0 h]
    exact ⟨Nat.zero_le 3, fun _ => r1, fun q => absurd rfl q⟩
  · rw [if_neg g3] at h ⊢
    obtain ⟨b1, e1⟩ := nbP_0 h
    have r1 := nb_r b1
    rw [e1] at h ⊢
    obtain ⟨b2, e2⟩ := nbP_0 h
    have r2 := nb_r b2
    rw [e2] at h ⊢
    rw [stP_0 h]
    have w3 : wpF b T ≤ 3 := by
      rcases wp_cases b T with q | q | q | q | q <;> omega
    have x1 : (tkF b N m T.2.2.1).2.2.2.toInt < C := by omega
    have x2 : (tkF b N m (tkF b N m T.2.2.1).2.2.1).2.2.2.toInt < R := by omega
    exact ⟨w3, fun q => absurd q g3, fun _ => ⟨⟨r1.1, x1⟩, r2.1, x2⟩⟩
set_option maxRecDepth 8000 in
theorem pg_b {b : fB} {N m : Nat} {C R : Int} : ∀ (f ln p : Nat) (L : List pL), (∀ l, l ∈ L → lB C R l) → (pgF b N m C R f ln p L).1 = 0 → ∀ l, l ∈ (pgF b N m C R f ln p L).2.2.2 → lB C R l
  | 0, _, _, _, _, h, _, _ => absurd h (nn rfl)
  | f + 1, ln, p, L, hL, h, l, hl => by
    unfold pgF at h hl
    by_cases g1 : (tkF b N m p).1 = 0
    · rw [if_pos g1] at hl; exact hL l hl
    rw [if_neg g1] at h hl
    by_cases g2 : (plF b N m ln C R (tkF b N m p)).1 = 0
    · rw [if_pos g2] at h hl
      refine pg_b f _ _ _ (fun l' hl' => ?_) h l hl
      rcases List.mem_cons.mp hl' with rfl | q
      · exact pl_b g2
      · exact hL l' q
    · rw [if_neg g2] at h; exact absurd h g2
set_option maxRecDepth 8000 in
theorem mp_at {R : Nat → Int32} {W : Int32} : ∀ {L : List pL} {i : Nat}, mpF R W L → i < L.length → R (1 + 3 * i) = Int32.ofNat (atF p0 L i).1 ∧ R (2 + 3 * i) = (if (atF p0 L i).1 = 0 then (atF p0 L i).2.1 else W * (atF p0 L i).2.2 + (atF p0 L i).2.1)
  | [], i, _, h => absurd h (Nat.not_lt_zero i)
  | l :: r, i, h, hi => by
    have hl : (l :: r).length = r.length + 1 := rfl
    obtain ⟨h1, h2, h3⟩ := h
    by_cases e : i = r.length
    · rw [e, at_hd]; exact ⟨h1, h2⟩
    · rw [at_tl e]; exact mp_at h3 (by omega)
set_option maxRecDepth 8000 in
theorem srel_plan {I I' : Nat → Nat → Int32} {R R' : Nat → Int32} {L : List pL} {w : Int32} (h : SREL I 3 R) (hc : ∀ a, 3 ≤ a → a ≤ 99 → a ≠ 11 → (a < 13 ∨ 42 < a) → I' a = I a) (hR : ∀ j, j < 803 ∨ 894 ≤ j → R' j = R j)
    (hL : ∀ l, l ∈ L → lB (Cn R) (Rn R) l) (h30 : L.length ≤ 30) (hw : w.toInt = L.length) (h0 : I' 11 0 = w) (hp : ∀ i, i < L.length → (I' (13 + i) 0).toInt = (atF p0 L i).1 ∧ I' (13 + i) 1 = (atF p0 L i).2.1 ∧ ((atF p0 L i).1 ≠ 0 → I' (13 + i) 2 = (atF p0 L i).2.2))
    (r803 : R' 803 = w) (hm : mpF (fun j => R' (803 + j)) (R 0) L) : SREL I' 3 R' := by
  obtain ⟨hG, h1, h2, h3, h4⟩ := h
  have e221 : ∀ j, j < 221 → R' j = R j := fun j hj => hR j (by omega)
  obtain ⟨ec, er, -⟩ := Cn_eq e221
  refine ⟨gok_eq e221 hG, rg_eq e221 (fun j _ => by rw [hc (3 + 1) (by omega) (by omega) (by omega) (by omega)]) (fun j _ => ⟨by rw [hc (3 + 1 + 1) (by omega) (by omega) (by omega) (by omega)], by rw [hc (3 + 1 + 2) (by omega) (by omega) (by omega) (by omega)], by rw [hc (3 + 1 + 3) (by omega) (by omega) (by omega) (by omega)]⟩) (fun c _ => ⟨by rw [hc (3 + 1 + 4) (by omega) (by omega) (by omega) (by omega)], by rw [hc (3 + 1 + 5) (by omega) (by omega) (by omega) (by omega)]⟩) hG h1, fun s' hs' => ?_, ⟨?_, ?_, fun i hi => ?_⟩, rr_eq e221 (fun j q1 q2 => hR j (by omega)) (fun j _ => by rw [hc (3 + 40) (by omega) (by omega) (by omega) (by omega)]) (fun w hw t _ => by rw [hc (3 + 40 + 1 + 2 + w) (by omega) (by omega) (by omega) (by omega)]) (fun i i1 i2 c _ => by rw [hc (3 + 40 + i) (by omega) (by omega) (by omega) (by omega)]) hG h4⟩
  · exact rn_eq (fun j hj => hR _ (by omega)) (by rw [hc (3 + 55 + 7 * s') (by omega) (by omega) (by omega) (by omega)]) (fun w hw t _ => by rw [hc (3 + 55 + 7 * s' + 2 + w) (by omega) (by omega) (by omega) (by omega)]) (h2 s' hs')
  · show I' 11 0 = R' 803
    rw [h0, r803]
  · rw [r803, hw]; omega
  · rw [r803, hw] at hi
    have hiL : i < L.length := by omega
    obtain ⟨p1, p2, p3⟩ := hp i hiL
    obtain ⟨m1, m2⟩ := mp_at hm hiL
    obtain ⟨b1, b2, b3⟩ := hL _ (at_mem (d := p0) hiL)
    have a13 : (3 : Nat) + 8 + 2 + i = 13 + i := by omega
    have m1 : R' (804 + 3 * i) = Int32.ofNat (atF p0 L i).1 := by
      rw [show 804 + 3 * i = 803 + (1 + 3 * i) by omega]; exact m1
    have m2 : R' (805 + 3 * i) = (if (atF p0 L i).1 = 0 then (atF p0 L i).2.1 else R 0 * (atF p0 L i).2.2 + (atF p0 L i).2.1) := by
      rw [show 805 + 3 * i = 803 + (2 + 3 * i) by omega]; exact m2
    rw [a13, m1, m2, p2, ec, er, e221 0 (by decide)]
    obtain ⟨⟨k, v1, v2⟩, hk⟩ : ∃ z, z = atF p0 L i := ⟨_, rfl⟩
    rw [← hk] at p1 p2 p3 b1 b2 b3 ⊢
    have p1 : (I' (13 + i) 0).toInt = (k : Nat) := p1
    have b1 : k ≤ 3 := b1
    have ok : (Int32.ofNat k).toInt = k := Int32.toInt_ofNat_of_lt (by omega)
    refine ⟨i_eq (by rw [p1]; exact ok), ⟨by omega, by omega⟩, fun q => ?_, fun q => ?_⟩
    · have kz : k = 0 := by omega
      exact ⟨if_pos kz, b2 kz⟩
    · have kz : k ≠ 0 := by omega
      have p3 : I' (13 + i) 2 = v2 := p3 kz
      rw [p3]
      exact ⟨if_neg kz, (b3 kz).1, (b3 kz).2⟩
end
