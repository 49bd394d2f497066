/-! ===== a NIGHT told: in order, within bounds ===== -/
def lOK (l : fL) : Prop := l.1 ≤ 3 ∧ (0 ≤ l.2.1.toInt ∧ l.2.1.toInt ≤ 143) ∧ (l.1 = 0 → 0 ≤ l.2.2.1.toInt ∧ l.2.2.1.toInt ≤ 100) ∧ (l.1 = 1 → 0 ≤ l.2.2.1.toInt ∧ l.2.2.1.toInt ≤ 9) ∧ (l.1 = 2 → (0 ≤ l.2.2.1.toInt ∧ l.2.2.1.toInt ≤ 40) ∧ 0 ≤ l.2.2.2.toInt ∧ l.2.2.2.toInt ≤ 40)
def LOK : Int → List fL → Prop
  | _, [] => True
  | top, l :: r => lOK l ∧ l.2.1.toInt ≤ top ∧ LOK l.2.1.toInt r
set_option maxRecDepth 8000 in
theorem LOK_mono : ∀ {L : List fL} {a b : Int}, LOK a L → a ≤ b → LOK b L
  | [], _, _, _, _ => trivial
  | l :: r, a, b, h, hab => ⟨h.1, Int.le_trans h.2.1 hab, h.2.2⟩
set_option maxRecDepth 8000 in
theorem nbK_0 {t : fT} {lo hi : Int} {k : Int32 → Nat → fR} (h : (nbK t lo hi k).1 = 0) : nbK t lo hi k = k t.2.2.2 t.2.2.1 := by
  have b := nb_K h
  unfold nbK
  exact if_pos b
set_option maxRecDepth 8000 in
theorem nl_ok {b : fB} {N m ln : Nat} {lat : Int32} {T : fT} (h0 : 0 ≤ lat.toInt) (h : (nlF b N m ln lat T).1 = 0) : lOK (nlF b N m ln lat T).2.2.2 ∧ lat.toInt ≤ (nlF b N m ln lat T).2.2.2.2.1.toInt := by
  unfold nlF at h ⊢
  by_cases g1 : wkF b T = 9
  · rw [if_pos g1] at h; exact absurd h (nn rfl)
  rw [if_neg g1] at h ⊢
  by_cases g2 : 24 ≤ ln
  · rw [if_pos g2] at h; exact absurd h (nn rfl)
  rw [if_neg g2] at h ⊢
  have b1 := nb_K h
  have r1 := nb_r b1
  have eb1 := nbK_0 h
  rw [eb1] at h ⊢
  by_cases g3 : wkF b T = 3
  · rw [if_pos g3] at h ⊢
    unfold stK at h ⊢
    split at h
    · next e =>
      rw [if_pos e]
      exact ⟨⟨Nat.le_refl 3, ⟨Int.le_trans h0 r1.1, r1.2⟩, fun q => absurd (show (3 : Nat) = 0 from q) (by decide), fun q => absurd (show (3 : Nat) = 1 from q) (by decide), fun q => absurd (show (3 : Nat) = 2 from q) (by decide)⟩, r1.1⟩
    · exact absurd h (nn rfl)
  rw [if_neg g3] at h ⊢
  have b2 := nb_K h
  have r2 := nb_r b2
  have eb2 := nbK_0 h
  rw [eb2] at h ⊢
  by_cases g4 : wkF b T = 2
  · rw [if_pos g4] at h ⊢
    have b3 := nb_K h
    have r3 := nb_r b3
    have eb3 := nbK_0 h
    rw [eb3] at h ⊢
    unfold stK at h ⊢
    have m2 : moF (wkF b T) = 40 := by rw [g4]; rfl
    rw [m2] at r2
    split at h
    · next e =>
      rw [if_pos e]
      exact ⟨⟨(by decide : 2 ≤ 3), ⟨Int.le_trans h0 r1.1, r1.2⟩, fun q => absurd (show (2 : Nat) = 0 from q) (by decide), fun q => absurd (show (2 : Nat) = 1 from q) (by decide), fun _ => ⟨r2, r3⟩⟩, r1.1⟩
    · exact absurd h (nn rfl)
  rw [if_neg g4] at h ⊢
  unfold stK at h ⊢
  have hk : wkF b T = 0 ∨ wkF b T = 1 := by
    rcases wk_cases b T with q | q | q | q | q
    · exact Or.inl q
    · exact Or.inr q
    · exact absurd q g4
    · exact absurd q g3
    · exact absurd q g1
  split at h
  · next e =>
    rw [if_pos e]
    refine ⟨⟨by show wkF b T ≤ 3; omega, ⟨Int.le_trans h0 r1.1, r1.2⟩, fun q => ?_, fun q => ?_, fun q => ?_⟩, r1.1⟩
    · have q : wkF b T = 0 := q
      rw [q] at r2; exact r2
    · have q : wkF b T = 1 := q
      rw [q] at r2; exact r2
    · have q : wkF b T = 2 := q
      exact absurd q g4
  · exact absurd h (nn rfl)
set_option maxRecDepth 8000 in
theorem ng_ok {b : fB} {N m : Nat} : ∀ (f ln : Nat) (lat : Int32) (p : Nat) (L : List fL), 0 ≤ lat.toInt → lat.toInt ≤ 143 → LOK lat.toInt L → (ngF b N m f ln lat p L).1 = 0 → LOK 143 (ngF b N m f ln lat p L).2.2.2
  | 0, _, _, _, _, _, _, _, h => absurd h (nn rfl)
  | f + 1, ln, lat, p, L, h0, h1, hL, h => by
    unfold ngF at h ⊢
    by_cases g : (tkF b N m p).1 = 0
    · rw [if_pos g]; exact LOK_mono hL h1
    rw [if_neg g] at h ⊢
    by_cases g2 : (nlF b N m ln lat (tkF b N m p)).1 = 0
    · rw [if_pos g2] at h ⊢
      obtain ⟨q1, q2⟩ := nl_ok h0 g2
      exact ng_ok f _ _ _ _ (by omega) q1.2.1.2 ⟨q1, Int.le_refl _, LOK_mono hL q2⟩ h
    · rw [if_neg g2] at h; exact absurd h g2
/-- the model's row of lines -/
def mdS (S : Nat → Int32) : List fL → Prop
  | [] => True
  | l :: r => S (1 + 4 * r.length) = Int32.ofNat l.1 ∧ S (2 + 4 * r.length) = l.2.1 ∧ S (3 + 4 * r.length) = l.2.2.1 ∧ S (4 + 4 * r.length) = l.2.2.2 ∧ mdS S r
set_option maxRecDepth 8000 in
theorem ms_md {S : Nat → Int32} : ∀ (L : List fL) (top : Int), LOK top L → mdS S L → msL S L.length = L
  | [], _, _, _ => rfl
  | l :: r, top, h, g => by
    obtain ⟨g1, g2, g3, g4, g5⟩ := g
    show lnM S r.length :: msL S r.length = l :: r
    rw [ms_md r _ h.2.2 g5]
    have k := h.1.1
    have e : (Int32.ofNat l.1).toInt.toNat = l.1 := by rw [oN (by omega)]; omega
    unfold lnM
    rw [g1, g2, g3, g4, e]
set_option maxRecDepth 8000 in
theorem ns_of {S : Nat → Int32} : ∀ (L : List fL) (top : Int), LOK top L → mdS S L → (∀ i, i < L.length → (0 ≤ (S (1 + 4 * i)).toInt ∧ (S (1 + 4 * i)).toInt ≤ 3 ∧ 0 ≤ (S (2 + 4 * i)).toInt ∧ (S (2 + 4 * i)).toInt ≤ 143) ∧ (S (2 + 4 * i)).toInt ≤ top) ∧ ∀ i j, i ≤ j → j < L.length → (S (2 + 4 * i)).toInt ≤ (S (2 + 4 * j)).toInt
  | [], _, _, _ => ⟨fun i hi => absurd hi (Nat.not_lt_zero i), fun i j _ hj => absurd hj (Nat.not_lt_zero j)⟩
  | l :: r, top, h, g => by
    obtain ⟨g1, g2, -, -, g5⟩ := g
    obtain ⟨k1, k2⟩ := ns_of r _ h.2.2 g5
    have k := h.1.1
    have t := h.1.2.1
    have tt := h.2.1
    have e1 : (S (1 + 4 * r.length)).toInt = l.1 := by rw [g1]; exact oN (by omega)
    have e2 : (S (2 + 4 * r.length)).toInt = l.2.1.toInt := by rw [g2]
    have hl : (l :: r).length = r.length + 1 := rfl
    refine ⟨fun i hi => ?_, fun i j hij hj => ?_⟩
    · by_cases e : i = r.length
      · subst e; omega
      · obtain ⟨q1, q2⟩ := k1 i (by omega)
        exact ⟨q1, by omega⟩
    · by_cases e : j = r.length
      · subst e
        by_cases e3 : i = r.length
        · rw [e3]; exact Int.le_refl _
        · have q := (k1 i (by omega)).2
          omega
      · exact k2 i j hij (by omega)
def bdF (w : Nat) : Int := if w = 0 then 100 else if w = 1 then 9 else if w = 4 then 1 else 40
set_option maxRecDepth 8000 in
theorem nd_b {t : Nat} : ∀ (L : List fL) (top : Int), LOK top L → ∀ w, w < 5 → 0 ≤ (ndF (uaF L) w t).toInt ∧ (ndF (uaF L) w t).toInt ≤ bdF w
  | [], _, _, w, hw => by
    have b0 : ndF (uaF []) 0 t = 0 := by simp [uaF, ndF]
    have b1 : ndF (uaF []) 1 t = 0 := by simp [uaF, ndF]
    have b2 : ndF (uaF []) 2 t = 10 := by simp [uaF, ndF]
    have b3 : ndF (uaF []) 3 t = 8 := by simp [uaF, ndF]
    have b4 : ndF (uaF []) 4 t = 0 := by simp [uaF, ndF]
    match w, hw with
    | 0, _ => rw [b0]; decide
    | 1, _ => rw [b1]; decide
    | 2, _ => rw [b2]; decide
    | 3, _ => rw [b3]; decide
    | 4, _ => rw [b4]; decide
    | k + 5, h => exact absurd h (by omega)
  | l :: r, top, h, w, hw => by
    have ih := nd_b (t := t) r _ h.2.2 w hw
    obtain ⟨k, -, k0, k1, k2⟩ := h.1
    show 0 ≤ (ndF (udF l ++ uaF r) w t).toInt ∧ (ndF (udF l ++ uaF r) w t).toInt ≤ bdF w
    by_cases e3 : l.1 = 3
    · rw [ud_3 e3, nd_1]
      by_cases c : w = 4 ∧ l.2.1.toInt.toNat ≤ t
      · rw [if_pos c, c.1]; decide
      · rw [if_neg c]; exact ih
    by_cases e2 : l.1 = 2
    · rw [ud_2 e2, nd_2]
      by_cases c : w = 3 ∧ l.2.1.toInt.toNat ≤ t
      · rw [if_pos c, c.1]; exact (k2 e2).2
      rw [if_neg c]
      by_cases c2 : w = 2 ∧ l.2.1.toInt.toNat ≤ t
      · rw [if_pos c2, c2.1]; exact (k2 e2).1
      · rw [if_neg c2]; exact ih
    · rw [ud_0 (by omega), nd_1]
      by_cases c : w = l.1 ∧ l.2.1.toInt.toNat ≤ t
      · rw [if_pos c, c.1]
        by_cases e0 : l.1 = 0
        · rw [e0]; exact k0 e0
        · have e1 : l.1 = 1 := by omega
          rw [e1]; exact k1 e1
      · rw [if_neg c]; exact ih
set_option maxRecDepth 8000 in
/-- a NIGHT told is in order -/
theorem nok_told {S : Nat → Int32} {L : List fL} (h0 : (S 0).toInt = L.length) (h24 : L.length ≤ 24) (hL : LOK 143 L) (hm : mdS S L) : NOK S ∧ nU S = uaF L := by
  have e : nL S = L.length := by show (S 0).toInt.toNat = L.length; omega
  have em := ms_md L 143 hL hm
  obtain ⟨q1, q2⟩ := ns_of L 143 hL hm
  have eU : nU S = uaF L := by show uaF (msL S (nL S)) = uaF L; rw [e, em]
  refine ⟨⟨⟨by rw [e]; exact h0, by omega, fun i hi => (q1 i (by omega)).1, fun i j hij hj => q2 i j hij (by omega)⟩, fun t _ => ?_⟩, eU⟩
  unfold gT
  rw [eU]
  exact ⟨nd_b L 143 hL 0 (by decide), nd_b L 143 hL 1 (by decide), nd_b L 143 hL 2 (by decide), nd_b L 143 hL 3 (by decide), nd_b L 143 hL 4 (by decide)⟩
/-! ===== what depends on what ===== -/
set_option maxRecDepth 8000 in
theorem mh_eq {R R' : Nat → Int32} {x y : Int} (h : ∀ j, j < 221 → R' j = R j) : ∀ i : Nat, i ≤ 12 → mhF R' x y i = mhF R x y i
  | 0, _ => rfl
  | i + 1, hi => by
    show mhF R' x y i + shF (shM R' i) x y = mhF R x y i + shF (shM R i) x y
    have e : shM R' i = shM R i := by
      unfold shM
      rw [h (173 + 4 * i) (by omega), h (174 + 4 * i) (by omega), h (175 + 4 * i) (by omega), h (176 + 4 * i) (by omega)]
    rw [mh_eq h i (by omega), e]
set_option maxRecDepth 8000 in
theorem Cn_eq {R R' : Nat → Int32} (h : ∀ j, j < 221 → R' j = R j) : Cn R' = Cn R ∧ Rn R' = Rn R ∧ Hn R' = Hn R := by
  refine ⟨?_, ?_, ?_⟩
  · show (R' 0).toInt.toNat = (R 0).toInt.toNat; rw [h 0 (by decide)]
  · show (R' 1).toInt.toNat = (R 1).toInt.toNat; rw [h 1 (by decide)]
  · show (R' 3).toInt.toNat = (R 3).toInt.toNat; rw [h 3 (by decide)]
set_option maxRecDepth 8000 in
theorem sk_eq {R R' : Nat → Int32} (h : ∀ j, j < 221 → R' j = R j) (hH : Hn R ≤ 12) {c : Nat} : skM R' (Cn R') (Hn R') c = skM R (Cn R) (Hn R) c := by
  obtain ⟨e1, -, e3⟩ := Cn_eq h
  rw [e1, e3]
  show max 0 (100 - mhF R' _ _ (Hn R)) = max 0 (100 - mhF R _ _ (Hn R))
  rw [mh_eq h (Hn R) hH]
set_option maxRecDepth 8000 in
theorem gok_eq {R R' : Nat → Int32} (h : ∀ j, j < 221 → R' j = R j) (hG : GOK R) : GOK R' := by
  obtain ⟨e1, e2, e3⟩ := Cn_eq h
  obtain ⟨⟨m0, m1, m3, c12, r12, h12, mb⟩, ⟨s0, s1⟩, ⟨k0, k1⟩, kq, kc⟩ := hG
  have hN : Cn R * Rn R ≤ 12 * 12 := Nat.mul_le_mul c12 r12
  refine ⟨⟨?_, ?_, ?_, by rw [e1]; exact c12, by rw [e2]; exact r12, by rw [e3]; exact h12, fun j q1 q2 => ?_⟩, ?_, ?_, fun q hq => ?_, fun c hc => ?_⟩
  · rw [h 0 (by decide), e1]; exact m0
  · rw [h 1 (by decide), e2]; exact m1
  · rw [h 3 (by decide), e3]; exact m3
  · rw [e3] at q2
    rw [h j (by omega)]; exact mb j q1 q2
  · rw [h 4 (by decide)]; exact ⟨s0, s1⟩
  · rw [h 2 (by decide)]; exact ⟨k0, k1⟩
  · rw [h 2 (by decide)] at hq
    rw [h (5 + q) (by omega), h (13 + q) (by omega), h (21 + q) (by omega)]; exact kq q hq
  · have hc' : c < Nn R := by
      have e : Nn R' = Nn R := by show Cn R' * Rn R' = Cn R * Rn R; rw [e1, e2]
      omega
    have hc2 : c < Cn R * Rn R := hc'
    rw [h (29 + c) (by omega), h 2 (by decide)]; exact kc c hc'
set_option maxRecDepth 8000 in
theorem Nn_eq {R R' : Nat → Int32} (h : ∀ j, j < 221 → R' j = R j) : Nn R' = Nn R := by
  obtain ⟨e1, e2, -⟩ := Cn_eq h
  show Cn R' * Rn R' = Cn R * Rn R
  rw [e1, e2]
set_option maxRecDepth 8000 in
theorem kd_eq {R R' : Nat → Int32} (h : ∀ j, j < 221 → R' j = R j) {c : Nat} (hc : c < 192) : kdR R' c = kdR R c := by
  show (R' (29 + c)).toInt.toNat = (R (29 + c)).toInt.toNat
  rw [h (29 + c) (by omega)]
set_option maxRecDepth 8000 in
theorem skI_eq {R R' : Nat → Int32} (h : ∀ j, j < 221 → R' j = R j) (hG : GOK R) {c : Nat} : skI R' c = skI R c := by
  unfold skI
  rw [sk_eq h hG.1.2.2.2.2.2.1]
set_option maxRecDepth 8000 in
theorem rg_eq {I I' : Nat → Nat → Int32} {G G' : Nat} {R R' : Nat → Int32} (h : ∀ j, j < 221 → R' j = R j) (h0 : ∀ j, j < 5 → I' G' j = I G j) (h1 : ∀ j, j < 8 → I' (G' + 1) j = I (G + 1) j ∧ I' (G' + 2) j = I (G + 2) j ∧ I' (G' + 3) j = I (G + 3) j) (h2 : ∀ c, c < 144 → I' (G' + 4) c = I (G + 4) c ∧ I' (G' + 5) c = I (G + 5) c) (hG : GOK R) (hR : RG I G R) : RG I' G' R' := by
  obtain ⟨r1, r2, r3⟩ := hR
  have hN := (gok_N hG).2
  have k8 := hG.2.2.1.2
  refine ⟨fun j hj => ?_, fun q hq => ?_, fun c hc => ?_⟩
  · rw [h0 j hj, h j (by omega)]; exact r1 j hj
  · rw [h 2 (by decide)] at hq
    obtain ⟨a1, a2, a3⟩ := h1 q (by omega)
    rw [a1, a2, a3, h (5 + q) (by omega), h (13 + q) (by omega), h (21 + q) (by omega)]; exact r2 q hq
  · rw [Nn_eq h] at hc
    obtain ⟨a1, a2⟩ := h2 c (by omega)
    rw [a1, a2, h (29 + c) (by omega), sk_eq h hG.1.2.2.2.2.2.1]; exact r3 c hc
set_option maxRecDepth 8000 in
theorem lnM_eq {S S' : Nat → Int32} {i : Nat} (h : ∀ j, j < 97 → S' j = S j) (hi : i < 24) : lnM S' i = lnM S i := by
  unfold lnM
  rw [h (1 + 4 * i) (by omega), h (2 + 4 * i) (by omega), h (3 + 4 * i) (by omega), h (4 + 4 * i) (by omega)]
set_option maxRecDepth 8000 in
theorem msL_eq {S S' : Nat → Int32} (h : ∀ j, j < 97 → S' j = S j) : ∀ k : Nat, k ≤ 24 → msL S' k = msL S k
  | 0, _ => rfl
  | k + 1, hk => by
    show lnM S' k :: msL S' k = lnM S k :: msL S k
    rw [lnM_eq h (by omega), msL_eq h k (by omega)]
set_option maxRecDepth 8000 in
theorem nU_eq {S S' : Nat → Int32} (h : ∀ j, j < 97 → S' j = S j) (hS : NOK S) : nU S' = nU S := by
  have e : nL S' = nL S := by show (S' 0).toInt.toNat = (S 0).toInt.toNat; rw [h 0 (by decide)]
  show uaF (msL S' (nL S')) = uaF (msL S (nL S))
  rw [e, msL_eq h (nL S) hS.1.2.1]
set_option maxRecDepth 8000 in
theorem gT_eq {S S' : Nat → Int32} (h : ∀ j, j < 97 → S' j = S j) (hS : NOK S) {t : Nat} : gT S' t = gT S t := by
  unfold gT
  rw [nU_eq h hS]
set_option maxRecDepth 8000 in
theorem nok_eq {S S' : Nat → Int32} (h : ∀ j, j < 97 → S' j = S j) (hS : NOK S) : NOK S' := by
  have e : nL S' = nL S := by show (S' 0).toInt.toNat = (S 0).toInt.toNat; rw [h 0 (by decide)]
  obtain ⟨⟨s0, s1, s2, s3⟩, sT⟩ := id hS
  refine ⟨⟨?_, by rw [e]; exact s1, fun i hi => ?_, fun i j hij hj => ?_⟩, fun t ht => ?_⟩
  · rw [h 0 (by decide), e]; exact s0
  · rw [e] at hi
    rw [h (1 + 4 * i) (by omega), h (2 + 4 * i) (by omega)]; exact s2 i hi
  · rw [e] at hj
    rw [h (2 + 4 * i) (by omega), h (2 + 4 * j) (by omega)]; exact s3 i j hij hj
  · rw [gT_eq h hS]; exact sT t ht
set_option maxRecDepth 8000 in
theorem rn_eq {I I' : Nat → Nat → Int32} {B B' : Nat} {S S' : Nat → Int32} (h : ∀ j, j < 97 → S' j = S j) (h0 : I' B' 0 = I B 0) (hI : ∀ w, w < 5 → ∀ t, t < 144 → I' (B' + 2 + w) t = I (B + 2 + w) t) (hR : RN I B S) : RN I' B' S' := by
  rcases hR with ⟨r1, r2⟩ | ⟨r1, r2, r3⟩
  · exact Or.inl ⟨h0.trans r1, by rw [h 0 (by decide)]; exact r2⟩
  · exact Or.inr ⟨h0.trans r1, nok_eq h r2, fun w hw t ht => by rw [hI w hw t ht, nU_eq h r2]; exact r3 w hw t ht⟩
set_option maxRecDepth 8000 in
theorem rp_eq {I I' : Nat → Nat → Int32} {P P' : Nat} {R R' : Nat → Int32} (h : ∀ j, j < 221 → R' j = R j) (hp : ∀ j, 803 ≤ j → j < 894 → R' j = R j) (h0 : I' P' 0 = I P 0) (hI : ∀ i, i < 30 → ∀ t, t < 3 → I' (P' + 2 + i) t = I (P + 2 + i) t) (hR : RP I P R) : RP I' P' R' := by
  obtain ⟨e1, e2, -⟩ := Cn_eq h
  obtain ⟨r1, ⟨r2, r3⟩, r4⟩ := hR
  refine ⟨by rw [h0, hp 803 (by omega) (by omega)]; exact r1, by rw [hp 803 (by omega) (by omega)]; exact ⟨r2, r3⟩, fun i hi => ?_⟩
  rw [hp 803 (by omega) (by omega)] at hi
  rw [hI i (by omega) 0 (by decide), hI i (by omega) 1 (by decide), hI i (by omega) 2 (by decide), hp (804 + 3 * i) (by omega) (by omega), hp (805 + 3 * i) (by omega) (by omega), h 0 (by decide), e1, e2]
  exact r4 i hi
set_option maxRecDepth 8000 in
theorem rr_eq {I I' : Nat → Nat → Int32} {A A' : Nat} {R R' : Nat → Int32} (h : ∀ j, j < 221 → R' j = R j) (hr : ∀ j, 894 ≤ j → j < 1427 → R' j = R j) (hf : ∀ j, j < 7 → I' A' j = I A j) (hn : ∀ w, w < 5 → ∀ t, t < 144 → I' (A' + 1 + 2 + w) t = I (A + 1 + 2 + w) t) (hI : ∀ i, 8 ≤ i → i ≤ 14 → ∀ c, c < 144 → I' (A' + i) c = I (A + i) c) (hG : GOK R) (hR : RR I A R) : RR I' A' R' := by
  have hN := (gok_N hG).2
  have eN := Nn_eq h
  rcases hR with ⟨r1, r2⟩ | ⟨r1, r2, r3, r4, r5, r6, r7, r8, r9, r10, r11, r12, r13⟩
  · exact Or.inl ⟨(hf 0 (by decide)).trans r1, (hr 894 (by omega) (by omega)).trans r2⟩
  · have hS : ∀ j, j < 97 → rnS R' j = rnS R j := fun j hj => hr (898 + j) (by omega) (by omega)
    refine Or.inr ⟨(hf 0 (by decide)).trans r1, (hr 894 (by omega) (by omega)).trans r2, by rw [hf 1 (by decide), eN]; exact r3, by rw [hf 2 (by decide), hr 895 (by omega) (by omega)]; exact r4, by rw [hr 895 (by omega) (by omega)]; exact r5, by rw [hf 3 (by decide), hr 896 (by omega) (by omega)]; exact r6, by rw [hf 4 (by decide), hr 897 (by omega) (by omega)]; exact r7, (hf 5 (by decide)).trans r8, (hf 6 (by decide)).trans r9, nok_eq hS r10, fun w hw t ht => by rw [hn w hw t ht, nU_eq hS r10]; exact r11 w hw t ht, fun c hc => ?_, ?_⟩
    · rw [eN] at hc
      rw [hI 8 (by omega) (by omega) c (by omega), hI 9 (by omega) (by omega) c (by omega), hI 10 (by omega) (by omega) c (by omega), hI 11 (by omega) (by omega) c (by omega), hI 12 (by omega) (by omega) c (by omega), hI 13 (by omega) (by omega) c (by omega), hI 14 (by omega) (by omega) c (by omega), hr (1283 + c) (by omega) (by omega), hr (995 + c) (by omega) (by omega), hr (1139 + c) (by omega) (by omega), kd_eq h (show c < 192 by omega), skI_eq h hG]
      have k := (gok_k hG hc).2.1
      have kk : kdR R c < 8 := by
        have k0 := (gok_k hG hc).1
        show (R (29 + c)).toInt.toNat < 8
        omega
      rw [h (5 + kdR R c) (by omega), h (13 + kdR R c) (by omega), h (21 + kdR R c) (by omega)]
      exact r12 c hc
    · rw [eN, hr 895 (by omega) (by omega)]
      refine rok_eq ⟨fun c hc => ?_, fun c hc => ?_, ?_, ?_⟩ r13
      · exact hr (995 + c) (by omega) (by omega)
      · exact hr (1139 + c) (by omega) (by omega)
      · exact hr 896 (by omega) (by omega)
      · exact hr 897 (by omega) (by omega)
set_option maxRecDepth 8000 in
/-- a whole state copied, its row copied -/
theorem srel_cp {I I' : Nat → Nat → Int32} {S S' : Nat} {R R' : Nat → Int32} (hc : ∀ i j, rlv i j → I' (S' + i) j = I (S + i) j) (hR : ∀ j, j < 1427 → R' j = R j) (h : SREL I S R) : SREL I' S' R' := by
  obtain ⟨hG, h1, h2, h3, h4⟩ := h
  have e221 : ∀ j, j < 221 → R' j = R j := fun j hj => hR j (by omega)
  refine ⟨gok_eq e221 hG, rg_eq e221 (fun j hj => hc 1 j (Or.inl ⟨rfl, hj⟩)) (fun j hj => ⟨?_, ?_, ?_⟩) (fun c hc2 => ⟨?_, ?_⟩) hG h1, fun s hs => rn_eq (fun j hj => hR _ (by omega)) ?_ (fun w hw t ht => ?_) (h2 s hs), rp_eq e221 (fun j _ hj => hR j (by omega)) ?_ (fun i hi t ht => ?_) h3, rr_eq e221 (fun j _ hj => hR j hj) (fun j hj => ?_) (fun w hw t ht => ?_) (fun i i1 i2 c hc2 => ?_) hG h4⟩
  · exact hc 2 j (by unfold rlv; omega)
  · exact hc 3 j (by unfold rlv; omega)
  · exact hc 4 j (by unfold rlv; omega)
  · exact hc 5 c (by unfold rlv; omega)
  · exact hc 6 c (by unfold rlv; omega)
  · have q := hc (55 + 7 * s) 0 (Or.inr (Or.inr (Or.inr (Or.inr (Or.inr (Or.inr (Or.inr (Or.inr ⟨s, hs, Or.inl ⟨rfl, rfl⟩⟩))))))))
    rw [show S' + (55 + 7 * s) = S' + 55 + 7 * s by omega, show S + (55 + 7 * s) = S + 55 + 7 * s by omega] at q
    exact q
  · have q := hc (57 + 7 * s + w) t (Or.inr (Or.inr (Or.inr (Or.inr (Or.inr (Or.inr (Or.inr (Or.inr ⟨s, hs, Or.inr ⟨by omega, by omega, ht⟩⟩))))))))
    rw [show S' + (57 + 7 * s + w) = S' + 55 + 7 * s + 2 + w by omega, show S + (57 + 7 * s + w) = S + 55 + 7 * s + 2 + w by omega] at q
    exact q
  · exact hc 8 0 (by unfold rlv; omega)
  · have q := hc (10 + i) t (Or.inr (Or.inr (Or.inr (Or.inr (Or.inl ⟨by omega, by omega, ht⟩)))))
    rw [show S' + (10 + i) = S' + 8 + 2 + i by omega, show S + (10 + i) = S + 8 + 2 + i by omega] at q
    exact q
  · exact hc 40 j (Or.inr (Or.inr (Or.inr (Or.inr (Or.inr (Or.inl ⟨rfl, hj⟩))))))
  · have q := hc (43 + w) t (Or.inr (Or.inr (Or.inr (Or.inr (Or.inr (Or.inr (Or.inr (Or.inl ⟨by omega, by omega, ht⟩))))))))
    rw [show S' + (43 + w) = S' + 40 + 1 + 2 + w by omega, show S + (43 + w) = S + 40 + 1 + 2 + w by omega] at q
    exact q
  · have q := hc (40 + i) c (Or.inr (Or.inr (Or.inr (Or.inr (Or.inr (Or.inr (Or.inr (Or.inl ⟨by omega, by omega, hc2⟩))))))))
    rw [show S' + (40 + i) = S' + 40 + i by omega, show S + (40 + i) = S + 40 + i by omega] at q
    exact q
set_option maxRecDepth 8000 in
/-- nothing of it changed -/
theorem srel_fr {I I' : Nat → Nat → Int32} {S : Nat} {R R' : Nat → Int32} (hc : ∀ a, S ≤ a → a ≤ S + 96 → I' a = I a) (hR : ∀ j, j < 1427 → R' j = R j) (h : SREL I S R) : SREL I' S R' := by
  refine srel_cp (fun i j hij => ?_) hR h
  have hi : i ≤ 96 := by
    unfold rlv at hij
    rcases hij with ⟨h, -⟩ | ⟨-, h, -⟩ | ⟨-, h, -⟩ | ⟨h, -⟩ | ⟨-, h, -⟩ | ⟨h, -⟩ | ⟨h, -⟩ | ⟨-, h, -⟩ | ⟨s, hs, ⟨h, -⟩ | ⟨-, h, -⟩⟩ <;> omega
  rw [hc (S + i) (by omega) (by omega)]
set_option maxRecDepth 8000 in
/-- a NIGHT told -/
theorem srel_night {I I' : Nat → Nat → Int32} {s : Nat} {R R' : Nat → Int32} {L : List fL} (hs : s < 6) (hc : ∀ a, 3 ≤ a → a ≤ 99 → a ≠ 58 + 7 * s → (a < 60 + 7 * s ∨ 64 + 7 * s < a) → I' a = I a) (hR : ∀ j, j < 221 + 97 * s ∨ 221 + 97 * s + 97 ≤ j → j < 1427 → R' j = R j)
    (hz : (I' (58 + 7 * s) 0).toInt = 1) (hn : ∀ w, w < 5 → ∀ t, t < 144 → I' (60 + 7 * s + w) t = ndF (uaF L) w t) (hL : LOK 143 L) (hm : mdS (nS R' s) L) (h0 : (nS R' s 0).toInt = L.length) (h24 : L.length ≤ 24) (h : SREL I 3 R) : SREL I' 3 R' := by
  obtain ⟨hG, h1, h2, h3, h4⟩ := h
  have e221 : ∀ j, j < 221 → R' j = R j := fun j hj => hR j (by omega) (by omega)
  obtain ⟨k1, k2⟩ := nok_told h0 h24 hL hm
  refine ⟨gok_eq e221 hG, rg_eq e221 (fun j _ => by rw [hc (3 + 1) (by omega) (by omega) (by omega) (by omega)]) (fun j _ => ⟨by rw [hc (3 + 1 + 1) (by omega) (by omega) (by omega) (by omega)], by rw [hc (3 + 1 + 2) (by omega) (by omega) (by omega) (by omega)], by rw [hc (3 + 1 + 3) (by omega) (by omega) (by omega) (by omega)]⟩) (fun c _ => ⟨by rw [hc (3 + 1 + 4) (by omega) (by omega) (by omega) (by omega)], by rw [hc (3 + 1 + 5) (by omega) (by omega) (by omega) (by omega)]⟩) hG h1, fun s' hs' => ?_, rp_eq e221 (fun j q1 q2 => hR j (by omega) (by omega)) (by rw [hc (3 + 8) (by omega) (by omega) (by omega) (by omega)]) (fun i hi t _ => by rw [hc (3 + 8 + 2 + i) (by omega) (by omega) (by omega) (by omega)]) h3, rr_eq e221 (fun j q1 q2 => hR j (by omega) q2) (fun j _ => by rw [hc (3 + 40) (by omega) (by omega) (by omega) (by omega)]) (fun w hw t _ => by rw [hc (3 + 40 + 1 + 2 + w) (by omega) (by omega) (by omega) (by omega)]) (fun i i1 i2 c _ => by rw [hc (3 + 40 + i) (by omega) (by omega) (by omega) (by omega)]) hG h4⟩
  by_cases e : s' = s
  · subst e
    rw [show 3 + 55 + 7 * s' = 58 + 7 * s' by omega]
    refine Or.inr ⟨i_eq hz, k1, fun w hw t ht => ?_⟩
    rw [k2, show 58 + 7 * s' + 2 + w = 60 + 7 * s' + w by omega]; exact hn w hw t ht
  · refine rn_eq (fun j hj => hR _ (by omega) (by omega)) (by rw [hc (3 + 55 + 7 * s') (by omega) (by omega) (by omega) (by omega)]) (fun w hw t _ => by rw [hc (3 + 55 + 7 * s' + 2 + w) (by omega) (by omega) (by omega) (by omega)]) (h2 s' hs')
