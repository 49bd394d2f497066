/-! ===== a GROUND told: within bounds ===== -/
def gBd (b : fB) (s : gS) : Prop := (∀ x, x ∈ s.1 → (1 ≤ x.2.2.1.toInt ∧ x.2.2.1.toInt ≤ 50) ∧ (0 ≤ x.2.2.2.1.toInt ∧ x.2.2.2.1.toInt ≤ 99) ∧ 0 ≤ x.2.2.2.2.toInt ∧ x.2.2.2.2.toInt ≤ 9) ∧
  (∀ v, s.2.2.2.2 = some v → 0 ≤ v.toInt ∧ v.toInt ≤ 999) ∧
  ∀ q, q ∈ s.2.2.1 → ∀ i, i < s.2.1 → f_sm (b (q + i)) ∧ (b (q + i)).toInt < 97 + s.1.length
set_option maxRecDepth 8000 in
theorem nbG_0 {t : fT} {lo hi : Int} {k : Int32 → Nat → gR} (h : (nbG t lo hi k).1 = 0) : nbF t lo hi = 0 ∧ nbG t lo hi k = k t.2.2.2 t.2.2.1 := by
  unfold nbG at h ⊢
  by_cases g : nbF t lo hi = 0
  · exact ⟨g, if_pos g⟩
  · rw [if_neg g] at h; exact absurd h g
set_option maxRecDepth 8000 in
theorem stG_0 {t : fT} {k : Nat → gR} (h : (stG t k).1 = 0) : t.1 = 3 ∧ stG t k = k t.2.2.1 := by
  unfold stG at h ⊢
  by_cases g : t.1 = 3
  · exact ⟨g, if_pos g⟩
  · rw [if_neg g] at h; exact absurd h (nn rfl)
set_option maxRecDepth 8000 in
theorem gkA_g {b : fB} {N m : Nat} {T : fT} {s : gS} (hs : gBd b s) (h : (gkA b N m T s).1 = 0) : gBd b (gkA b N m T s).2.2.2 := by
  unfold gkA at h ⊢
  by_cases g1 : 0 < s.2.2.1.length
  · rw [if_pos g1] at h; exact absurd h (nn rfl)
  rw [if_neg g1] at h ⊢
  by_cases g2 : 8 ≤ s.1.length
  · rw [if_pos g2] at h; exact absurd h (nn rfl)
  rw [if_neg g2] at h ⊢
  by_cases g3 : (tkF b N m T.2.2.1).1 ≠ 1
  · rw [if_pos g3] at h; exact absurd h (nn rfl)
  rw [if_neg g3] at h ⊢
  by_cases g4 : tdF b (tkF b N m T.2.2.1)
  · rw [if_pos g4] at h; exact absurd h (nn rfl)
  rw [if_neg g4] at h ⊢
  by_cases g5 : nmF b (tkF b N m T.2.2.1) s.1
  · rw [if_pos g5] at h; exact absurd h (nn rfl)
  rw [if_neg g5] at h ⊢
  obtain ⟨b1, e1⟩ := nbG_0 h
  have r1 := nb_r b1
  rw [e1] at h ⊢
  obtain ⟨b2, e2⟩ := nbG_0 h
  have r2 := nb_r b2
  rw [e2] at h ⊢
  have e0 : s.2.2.1 = [] := List.eq_nil_of_length_eq_zero (by omega)
  have rows : ∀ q, q ∈ s.2.2.1 → False := fun q hq => by rw [e0] at hq; exact absurd hq List.not_mem_nil
  by_cases g6 : sayF b (tkF b N m (tkF b N m (tkF b N m (tkF b N m T.2.2.1).2.2.1).2.2.1).2.2.1) (dw_sb 14)
  · rw [if_pos g6] at h ⊢
    obtain ⟨b3, e3⟩ := nbG_0 h
    have r3 := nb_r b3
    rw [e3] at h ⊢
    obtain ⟨-, e4⟩ := stG_0 h
    rw [e4]
    refine ⟨fun x hx => ?_, hs.2.1, fun q hq => (rows q hq).elim⟩
    rcases List.mem_cons.mp hx with rfl | hx
    · exact ⟨r1, r2, Int.le_trans (show (0 : Int) ≤ 1 by decide) r3.1, r3.2⟩
    · exact hs.1 x hx
  · rw [if_neg g6] at h ⊢
    obtain ⟨-, e4⟩ := stG_0 h
    rw [e4]
    refine ⟨fun x hx => ?_, hs.2.1, fun q hq => (rows q hq).elim⟩
    rcases List.mem_cons.mp hx with rfl | hx
    · exact ⟨r1, r2, (show (0 : Int) ≤ 0 by decide), (show (0 : Int) ≤ 9 by decide)⟩
    · exact hs.1 x hx
set_option maxRecDepth 8000 in
theorem gkR_g {b : fB} {N m : Nat} {T : fT} {s : gS} (hs : gBd b s) (hT : T.2.2.1 ≤ N) (h : (gkR b N m T s).1 = 0) : gBd b (gkR b N m T s).2.2.2 := by
  unfold gkR at h ⊢
  by_cases g1 : 12 ≤ s.2.2.1.length
  · rw [if_pos g1] at h; exact absurd h (nn rfl)
  rw [if_neg g1] at h ⊢
  by_cases g3 : (tkF b N m T.2.2.1).1 ≠ 1
  · rw [if_pos g3] at h; exact absurd h (nn rfl)
  rw [if_neg g3] at h ⊢
  by_cases g4 : 0 < s.2.2.1.length ∧ (tkF b N m T.2.2.1).2.2.1 ≠ (tkF b N m T.2.2.1).2.1 + s.2.1
  · rw [if_pos g4] at h; exact absurd h (nn rfl)
  rw [if_neg g4] at h ⊢
  by_cases g5 : ¬ lrF b (tkF b N m T.2.2.1).2.1 ((tkF b N m T.2.2.1).2.2.1 - (tkF b N m T.2.2.1).2.1) s.1.length
  · rw [if_pos g5] at h; exact absurd h (nn rfl)
  rw [if_neg g5] at h ⊢
  obtain ⟨-, e4⟩ := stG_0 h
  rw [e4]
  obtain ⟨w1, w2, w3⟩ := tk_word (b := b) (n := N) (m := m) (p := T.2.2.1) (by omega) hT
  have g5' : lrF b (tkF b N m T.2.2.1).2.1 ((tkF b N m T.2.2.1).2.2.1 - (tkF b N m T.2.2.1).2.1) s.1.length := Classical.not_not.mp g5
  refine ⟨hs.1, hs.2.1, fun q hq i hi => ?_⟩
  have hi : i < (tkF b N m T.2.2.1).2.2.1 - (tkF b N m T.2.2.1).2.1 := hi
  rcases List.mem_cons.mp hq with rfl | hq
  · exact ⟨w3 i hi, g5' i hi⟩
  · have hl : 0 < s.2.2.1.length := List.length_pos_of_mem hq
    exact hs.2.2 q hq i (by omega)
set_option maxRecDepth 8000 in
theorem gkS_g {b : fB} {N m : Nat} {T : fT} {s : gS} (hs : gBd b s) (h : (gkS b N m T s).1 = 0) : gBd b (gkS b N m T s).2.2.2 := by
  unfold gkS at h ⊢
  by_cases g1 : 12 ≤ s.2.2.2.1.length
  · rw [if_pos g1] at h; exact absurd h (nn rfl)
  rw [if_neg g1] at h ⊢
  obtain ⟨b1, e1⟩ := nbG_0 h
  rw [e1] at h ⊢
  obtain ⟨b2, e2⟩ := nbG_0 h
  rw [e2] at h ⊢
  obtain ⟨b3, e3⟩ := nbG_0 h
  rw [e3] at h ⊢
  obtain ⟨b4, e4⟩ := nbG_0 h
  rw [e4] at h ⊢
  obtain ⟨-, e5⟩ := stG_0 h
  rw [e5]
  exact ⟨hs.1, hs.2.1, hs.2.2⟩
set_option maxRecDepth 8000 in
theorem gkW_g {b : fB} {N m : Nat} {T : fT} {s : gS} (hs : gBd b s) (h : (gkW b N m T s).1 = 0) : gBd b (gkW b N m T s).2.2.2 := by
  unfold gkW at h ⊢
  by_cases g1 : s.2.2.2.2 ≠ none
  · rw [if_pos g1] at h; exact absurd h (nn rfl)
  rw [if_neg g1] at h ⊢
  obtain ⟨b1, e1⟩ := nbG_0 h
  have r1 := nb_r b1
  rw [e1] at h ⊢
  obtain ⟨-, e5⟩ := stG_0 h
  rw [e5]
  refine ⟨hs.1, fun v hv => ?_, hs.2.2⟩
  have hv : some (tkF b N m T.2.2.1).2.2.2 = some v := hv
  rw [← Option.some.inj hv]
  exact r1
set_option maxRecDepth 8000 in
theorem gkF_g {b : fB} {N m : Nat} {T : fT} {s : gS} (hs : gBd b s) (hT : T.2.2.1 ≤ N) (h : (gkF b N m T s).1 = 0) : gBd b (gkF b N m T s).2.2.2 := by
  unfold gkF at h ⊢
  by_cases s0 : sayF b T (dw_sb 0)
  · rw [if_pos s0] at h ⊢; exact gkA_g hs h
  rw [if_neg s0] at h ⊢
  by_cases s15 : sayF b T (dw_sb 15)
  · rw [if_pos s15] at h ⊢; exact gkR_g hs hT h
  rw [if_neg s15] at h ⊢
  by_cases s16 : sayF b T (dw_sb 16)
  · rw [if_pos s16] at h ⊢; exact gkS_g hs h
  rw [if_neg s16] at h ⊢
  by_cases s17 : sayF b T (dw_sb 17)
  · rw [if_pos s17] at h ⊢; exact gkW_g hs h
  rw [if_neg s17] at h
  exact absurd h (nn rfl)
set_option maxRecDepth 8000 in
theorem gg_g {b : fB} {N m : Nat} : ∀ (f ln p : Nat) (s : gS), p ≤ N → gBd b s → (ggF b N m f ln p s).1 = 0 → gBd b (ggF b N m f ln p s).2.2.2
  | 0, _, _, _, _, _, h => absurd h (nn rfl)
  | f + 1, ln, p, s, hp, hs, h => by
    have a := tkF_in (b := b) (n := N) (m := m) (p := p) hp
    unfold ggF at h ⊢
    by_cases g : (tkF b N m p).1 = 0
    · rw [if_pos g]; exact hs
    rw [if_neg g] at h ⊢
    by_cases g2 : (gkF b N m (tkF b N m p) s).1 = 0
    · rw [if_pos g2] at h ⊢
      exact gg_g f _ _ _ (gkF_b (s := s) a.1 a.2.2.1).2 (gkF_g hs a.2.2.1 g2) h
    · rw [if_neg g2] at h; exact absurd h g2
set_option maxRecDepth 8000 in
theorem gBd_0 {b : fB} : gBd b g0 := ⟨fun x hx => absurd hx List.not_mem_nil, fun v hv => (by cases hv), fun q hq => absurd hq List.not_mem_nil⟩
/-- what the model keeps of a GROUND told -/
def hGk (b : fB) (s : gS) (R : Nat → Int32) : Prop := ((R 0).toInt = s.2.1 ∧ (R 1).toInt = s.2.2.1.length ∧ (R 2).toInt = s.1.length ∧ (R 3).toInt = s.2.2.2.1.length ∧ R 4 = s.2.2.2.2.getD 500) ∧
  (∀ i, i < s.1.length → R (5 + i) = (atF (0, 0, 0, 0, 0) s.1 i).2.2.1 ∧ R (13 + i) = (atF (0, 0, 0, 0, 0) s.1 i).2.2.2.1 ∧ R (21 + i) = (atF (0, 0, 0, 0, 0) s.1 i).2.2.2.2) ∧
  (∀ y, y < s.2.2.1.length → ∀ x, x < s.2.1 → (R (29 + (y * s.2.1 + x))).toInt = (b (atF 0 s.2.2.1 y + x)).toInt - 97) ∧
  (∀ i, i < s.2.2.2.1.length → R (173 + 4 * i) = (atF (0, 0, 0, 0) s.2.2.2.1 i).1 ∧ R (173 + 4 * i + 1) = (atF (0, 0, 0, 0) s.2.2.2.1 i).2.1 ∧ R (173 + 4 * i + 2) = (atF (0, 0, 0, 0) s.2.2.2.1 i).2.2.1 ∧ R (173 + 4 * i + 3) = (atF (0, 0, 0, 0) s.2.2.2.1 i).2.2.2)
set_option maxRecDepth 8000 in
theorem hG_dims {b : fB} {s : gS} {R : Nat → Int32} (h : hGk b s R) : Cn R = s.2.1 ∧ Rn R = s.2.2.1.length ∧ Hn R = s.2.2.2.1.length := by
  obtain ⟨⟨h0, h1, -, h3, -⟩, -⟩ := h
  refine ⟨?_, ?_, ?_⟩
  · show (R 0).toInt.toNat = _; omega
  · show (R 1).toInt.toNat = _; omega
  · show (R 3).toInt.toNat = _; omega
set_option maxRecDepth 8000 in
theorem hG_cell {C c N' : Nat} (h : c < C * N') : c / C < N' ∧ c % C < C ∧ c / C * C + c % C = c := by
  have hC : 0 < C := by
    rcases Nat.eq_zero_or_pos C with e | e
    · rw [e, Nat.zero_mul] at h; omega
    · exact e
  refine ⟨Nat.div_lt_of_lt_mul h, Nat.mod_lt _ hC, ?_⟩
  rw [Nat.mul_comm]; exact Nat.div_add_mod c C
set_option maxRecDepth 8000 in
theorem hG_gok {b : fB} {N : Nat} {s : gS} {R : Nat → Int32} (h : hGk b s R) (hO : gOK N s) (hB : gBd b s) : GOK R := by
  obtain ⟨d0, d1, d3⟩ := hG_dims h
  obtain ⟨⟨h0, h1, h2, h3, h4⟩, hk, hr, hs⟩ := h
  obtain ⟨o1, o2, o3, o4, -, o6⟩ := hO
  refine ⟨⟨by omega, by omega, by omega, by omega, by omega, by omega, fun j q1 q2 => ?_⟩, ?_, by omega, fun q hq => ?_, fun c hc => ?_⟩
  · rw [d3] at q2
    obtain ⟨i, r, e, hr4⟩ : ∃ i r : Nat, j = 173 + 4 * i + r ∧ r < 4 := ⟨(j - 173) / 4, (j - 173) % 4, by omega, by omega⟩
    have hi : i < s.2.2.2.1.length := by omega
    obtain ⟨s0, s1, s2, s3⟩ := hs i hi
    obtain ⟨v0, v1, v2, v3⟩ := o6 _ (at_mem (d := (0, 0, 0, 0)) hi)
    have er : r = 0 ∨ r = 1 ∨ r = 2 ∨ r = 3 := by omega
    rcases er with rfl | rfl | rfl | rfl
    · rw [e, Nat.add_zero, s0]; omega
    · rw [e, s1]; omega
    · rw [e, s2]; omega
    · rw [e, s3]; omega
  · rw [h4]
    match hst : s.2.2.2.2 with
    | none => exact ⟨by decide, by decide⟩
    | some v => exact hB.2.1 v hst
  · obtain ⟨k0, k1, k2⟩ := hk q (by omega)
    obtain ⟨v0, v1, v2⟩ := hB.1 _ (at_mem (d := (0, 0, 0, 0, 0)) (show q < s.1.length by omega))
    rw [k0, k1, k2]
    exact ⟨v0, v1, v2⟩
  · have hc2 : c < s.2.1 * s.2.2.1.length := by
      have q : c < Cn R * Rn R := hc
      rw [d0, d1] at q; exact q
    obtain ⟨c1, c2, c3⟩ := hG_cell hc2
    have q := hr _ c1 _ c2
    rw [c3] at q
    obtain ⟨w1, w2⟩ := hB.2.2 _ (at_mem (d := 0) c1) _ c2
    rw [q]; omega
set_option maxRecDepth 8000 in
theorem hG_sky {b : fB} {s : gS} {R : Nat → Int32} (h : hGk b s R) {x y : Int} : ∀ i : Nat, i ≤ s.2.2.2.1.length → mhF R x y i = hdF s.2.2.2.1 x y i
  | 0, _ => rfl
  | i + 1, hi => by
    show mhF R x y i + shF (shM R i) x y = hdF s.2.2.2.1 x y i + shF (atF (0, 0, 0, 0) s.2.2.2.1 i) x y
    obtain ⟨s0, s1, s2, s3⟩ := h.2.2.2 i (by omega)
    have e : shM R i = atF (0, 0, 0, 0) s.2.2.2.1 i := by
      unfold shM
      rw [show 174 + 4 * i = 173 + 4 * i + 1 by omega, show 175 + 4 * i = 173 + 4 * i + 2 by omega, show 176 + 4 * i = 173 + 4 * i + 3 by omega, s0, s1, s2, s3]
    rw [hG_sky h i (by omega), e]
set_option maxRecDepth 8000 in
/-- a GROUND told: both states -/
theorem srel_ground {I' : Nat → Nat → Int32} {b : fB} {N : Nat} {s : gS} {R' : Nat → Int32} (h : hGk b s R') (hO : gOK N s) (hB : gBd b s) (hC : GCp I' b s) (hn : ∀ q, q < 6 → I' (58 + 7 * q) 0 = 0) (hp : I' 11 0 = 0) (hr : I' 43 0 = 0)
    (h0 : ∀ j, 221 ≤ j → j < 1427 → (∀ k, k < 6 → j ≠ 221 + 97 * k) → R' j = 0) (h1 : ∀ k, k < 6 → R' (221 + 97 * k) = -1) : SREL I' 3 R' := by
  have hG := hG_gok h hO hB
  obtain ⟨d0, d1, d3⟩ := hG_dims h
  have k0 : (0 : Int32).toInt = 0 := rfl
  have km : (-1 : Int32).toInt = -1 := rfl
  have z803 : R' 803 = 0 := h0 803 (by decide) (by decide) (fun k hk => by omega)
  have z894 : R' 894 = 0 := h0 894 (by decide) (by decide) (fun k hk => by omega)
  obtain ⟨⟨a0, a1, a2, a3, a4⟩, ak, ac⟩ := hC
  obtain ⟨⟨b0, b1, b2, b3, b4⟩, bk, bc, -⟩ := id h
  refine ⟨hG, ⟨fun j hj => ?_, fun q hq => ?_, fun c hc => ?_⟩, fun q hq => Or.inl ⟨?_, ?_⟩, ⟨?_, ?_, fun i hi => ?_⟩, Or.inl ⟨hr, z894⟩⟩
  · match j, hj with
    | 0, _ => exact i_eq (a0.trans b0.symm)
    | 1, _ => exact i_eq (a1.trans b1.symm)
    | 2, _ => exact i_eq (a2.trans b2.symm)
    | 3, _ => exact i_eq (a3.trans b3.symm)
    | 4, _ => exact a4.trans b4.symm
    | k + 5, h => exact absurd h (by omega)
  · obtain ⟨p0, p1, p2⟩ := ak q (by omega)
    obtain ⟨q0, q1, q2⟩ := bk q (by omega)
    exact ⟨p0.trans q0.symm, p1.trans q1.symm, p2.trans q2.symm⟩
  · have hc2 : c < s.2.1 * s.2.2.1.length := by
      have q : c < Cn R' * Rn R' := hc
      rw [d0, d1] at q; exact q
    obtain ⟨c1, c2, c3⟩ := hG_cell hc2
    have p := ac _ c1 _ c2
    have q := bc _ c1 _ c2
    rw [c3] at p q
    refine ⟨i_eq (p.1.trans q.symm), ?_⟩
    have e : (I' 9 c).toInt = skyF s (c % s.2.1) (c / s.2.1) := p.2
    show (I' 9 c).toInt = max 0 (100 - mhF R' ((c % Cn R' : Nat) : Int) ((c / Cn R' : Nat) : Int) (Hn R'))
    rw [e, d0, d3, hG_sky h _ (Nat.le_refl _)]
    rfl
  · rw [show 3 + 55 + 7 * q = 58 + 7 * q by omega]; exact hn q hq
  · show (R' (221 + 97 * q + 0)).toInt < 0
    rw [Nat.add_zero, h1 q hq, km]; decide
  · rw [z803]; exact hp
  · rw [z803, k0]; decide
  · rw [z803, k0] at hi; omega
