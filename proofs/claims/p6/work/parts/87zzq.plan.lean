/-! ===== a PLAN told: both states ===== -/
def lB (C R : Int) (l : pL) : Prop := l.1 ≤ 3 ∧ (l.1 = 0 → 1 ≤ l.2.1.toInt ∧ l.2.1.toInt ≤ 144) ∧ (l.1 ≠ 0 → (0 ≤ l.2.1.toInt ∧ l.2.1.toInt < C) ∧ 0 ≤ l.2.2.toInt ∧ l.2.2.toInt < R)
set_option maxRecDepth 8000 in
theorem nbP_0 {t : fT} {lo hi : Int} {k : Int32 → Nat → pR} (h : (nbP t lo hi k).1 = 0) : nbF t lo hi = 0 ∧ nbP t lo hi k = k t.2.2.2 t.2.2.1 := by
  unfold nbP at h ⊢
  by_cases g : nbF t lo hi = 0
  · exact ⟨g, if_pos g⟩
  · rw [if_neg g] at h; exact absurd h g
set_option maxRecDepth 8000 in
theorem stP_0 {t : fT} {k : Nat → pR} (h : (stP t k).1 = 0) : stP t k = k t.2.2.1 := by
  unfold stP at h ⊢
  by_cases g : t.1 = 3
  · exact if_pos g
  · rw [if_neg g] at h; exact absurd h (nn rfl)
set_option maxRecDepth 8000 in
theorem pl_b {b : fB} {N m ln : Nat} {C R : Int} {T : fT} (h : (plF b N m ln C R T).1 = 0) : lB C R (plF b N m ln C R T).2.2.2 := by
  unfold plF at h ⊢
  by_cases g1 : wpF b T = 9
  · rw [if_pos g1] at h; exact absurd h (nn rfl)
  rw [if_neg g1] at h ⊢
  by_cases g2 : 30 ≤ ln
  · rw [if_pos g2] at h; exact absurd h (nn rfl)
  rw [if_neg g2] at h ⊢
  by_cases g3 : wpF b T = 0
  · rw [if_pos g3] at h ⊢
    obtain ⟨b1, e1⟩ := nbP_0 h
    have r1 := nb_r b1
    rw [e1] at h ⊢
    rw [stP_0 h]
    exact ⟨Nat.zero_le 3, fun _ => r1, fun q => absurd rfl q⟩
  · rw [if_neg g3] at h ⊢
    obtain ⟨b1, e1⟩ := nbP_0 h
    have r1 := nb_r b1
    rw [e1] at h ⊢
    obtain ⟨b2, e2⟩ := nbP_0 h
    have r2 := nb_r b2
    rw [e2] at h ⊢
    rw [stP_0 h]
    have w3 : wpF b T ≤ 3 := by
      rcases wp_cases b T with q | q | q | q | q <;> omega
    have x1 : (tkF b N m T.2.2.1).2.2.2.toInt < C := by omega
    have x2 : (tkF b N m (tkF b N m T.2.2.1).2.2.1).2.2.2.toInt < R := by omega
    exact ⟨w3, fun q => absurd q g3, fun _ => ⟨⟨r1.1, x1⟩, r2.1, x2⟩⟩
set_option maxRecDepth 8000 in
theorem pg_b {b : fB} {N m : Nat} {C R : Int} : ∀ (f ln p : Nat) (L : List pL), (∀ l, l ∈ L → lB C R l) → (pgF b N m C R f ln p L).1 = 0 → ∀ l, l ∈ (pgF b N m C R f ln p L).2.2.2 → lB C R l
  | 0, _, _, _, _, h, _, _ => absurd h (nn rfl)
  | f + 1, ln, p, L, hL, h, l, hl => by
    unfold pgF at h hl
    by_cases g1 : (tkF b N m p).1 = 0
    · rw [if_pos g1] at hl; exact hL l hl
    rw [if_neg g1] at h hl
    by_cases g2 : (plF b N m ln C R (tkF b N m p)).1 = 0
    · rw [if_pos g2] at h hl
      refine pg_b f _ _ _ (fun l' hl' => ?_) h l hl
      rcases List.mem_cons.mp hl' with rfl | q
      · exact pl_b g2
      · exact hL l' q
    · rw [if_neg g2] at h; exact absurd h g2
set_option maxRecDepth 8000 in
theorem mp_at {R : Nat → Int32} {W : Int32} : ∀ {L : List pL} {i : Nat}, mpF R W L → i < L.length → R (1 + 3 * i) = Int32.ofNat (atF p0 L i).1 ∧ R (2 + 3 * i) = (if (atF p0 L i).1 = 0 then (atF p0 L i).2.1 else W * (atF p0 L i).2.2 + (atF p0 L i).2.1)
  | [], i, _, h => absurd h (Nat.not_lt_zero i)
  | l :: r, i, h, hi => by
    have hl : (l :: r).length = r.length + 1 := rfl
    obtain ⟨h1, h2, h3⟩ := h
    by_cases e : i = r.length
    · rw [e, at_hd]; exact ⟨h1, h2⟩
    · rw [at_tl e]; exact mp_at h3 (by omega)
set_option maxRecDepth 8000 in
theorem srel_plan {I I' : Nat → Nat → Int32} {R R' : Nat → Int32} {L : List pL} {w : Int32} (h : SREL I 3 R) (hc : ∀ a, 3 ≤ a → a ≤ 99 → a ≠ 11 → (a < 13 ∨ 42 < a) → I' a = I a) (hR : ∀ j, j < 803 ∨ 894 ≤ j → R' j = R j)
    (hL : ∀ l, l ∈ L → lB (Cn R) (Rn R) l) (h30 : L.length ≤ 30) (hw : w.toInt = L.length) (h0 : I' 11 0 = w) (hp : ∀ i, i < L.length → (I' (13 + i) 0).toInt = (atF p0 L i).1 ∧ I' (13 + i) 1 = (atF p0 L i).2.1 ∧ ((atF p0 L i).1 ≠ 0 → I' (13 + i) 2 = (atF p0 L i).2.2))
    (r803 : R' 803 = w) (hm : mpF (fun j => R' (803 + j)) (R 0) L) : SREL I' 3 R' := by
  obtain ⟨hG, h1, h2, h3, h4⟩ := h
  have e221 : ∀ j, j < 221 → R' j = R j := fun j hj => hR j (by omega)
  obtain ⟨ec, er, -⟩ := Cn_eq e221
  refine ⟨gok_eq e221 hG, rg_eq e221 (fun j _ => by rw [hc (3 + 1) (by omega) (by omega) (by omega) (by omega)]) (fun j _ => ⟨by rw [hc (3 + 1 + 1) (by omega) (by omega) (by omega) (by omega)], by rw [hc (3 + 1 + 2) (by omega) (by omega) (by omega) (by omega)], by rw [hc (3 + 1 + 3) (by omega) (by omega) (by omega) (by omega)]⟩) (fun c _ => ⟨by rw [hc (3 + 1 + 4) (by omega) (by omega) (by omega) (by omega)], by rw [hc (3 + 1 + 5) (by omega) (by omega) (by omega) (by omega)]⟩) hG h1, fun s' hs' => ?_, ⟨?_, ?_, fun i hi => ?_⟩, rr_eq e221 (fun j q1 q2 => hR j (by omega)) (fun j _ => by rw [hc (3 + 40) (by omega) (by omega) (by omega) (by omega)]) (fun w hw t _ => by rw [hc (3 + 40 + 1 + 2 + w) (by omega) (by omega) (by omega) (by omega)]) (fun i i1 i2 c _ => by rw [hc (3 + 40 + i) (by omega) (by omega) (by omega) (by omega)]) hG h4⟩
  · exact rn_eq (fun j hj => hR _ (by omega)) (by rw [hc (3 + 55 + 7 * s') (by omega) (by omega) (by omega) (by omega)]) (fun w hw t _ => by rw [hc (3 + 55 + 7 * s' + 2 + w) (by omega) (by omega) (by omega) (by omega)]) (h2 s' hs')
  · show I' 11 0 = R' 803
    rw [h0, r803]
  · rw [r803, hw]; omega
  · rw [r803, hw] at hi
    have hiL : i < L.length := by omega
    obtain ⟨p1, p2, p3⟩ := hp i hiL
    obtain ⟨m1, m2⟩ := mp_at hm hiL
    obtain ⟨b1, b2, b3⟩ := hL _ (at_mem (d := p0) hiL)
    have a13 : (3 : Nat) + 8 + 2 + i = 13 + i := by omega
    have m1 : R' (804 + 3 * i) = Int32.ofNat (atF p0 L i).1 := by
      rw [show 804 + 3 * i = 803 + (1 + 3 * i) by omega]; exact m1
    have m2 : R' (805 + 3 * i) = (if (atF p0 L i).1 = 0 then (atF p0 L i).2.1 else R 0 * (atF p0 L i).2.2 + (atF p0 L i).2.1) := by
      rw [show 805 + 3 * i = 803 + (2 + 3 * i) by omega]; exact m2
    rw [a13, m1, m2, p2, ec, er, e221 0 (by decide)]
    obtain ⟨⟨k, v1, v2⟩, hk⟩ : ∃ z, z = atF p0 L i := ⟨_, rfl⟩
    rw [← hk] at p1 p2 p3 b1 b2 b3 ⊢
    have p1 : (I' (13 + i) 0).toInt = (k : Nat) := p1
    have b1 : k ≤ 3 := b1
    have ok : (Int32.ofNat k).toInt = k := Int32.toInt_ofNat_of_lt (by omega)
    refine ⟨i_eq (by rw [p1]; exact ok), ⟨by omega, by omega⟩, fun q => ?_, fun q => ?_⟩
    · have kz : k = 0 := by omega
      exact ⟨if_pos kz, b2 kz⟩
    · have kz : k ≠ 0 := by omega
      have p3 : I' (13 + i) 2 = v2 := p3 kz
      rw [p3]
      exact ⟨if_neg kz, (b3 kz).1, (b3 kz).2⟩
