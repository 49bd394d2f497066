/-! ===== the states alike: image, restore ===== -/
abbrev kpR (I : Nat → Nat → Int32) (s : Nat) : Nat → Int32 := fun j => I 432 (1427 * s + j)
theorem kp_iff {I : Nat → Nat → Int32} : KP I ↔ ∀ s, s < 2 → I 433 s ≠ 0 → SREL I (210 + 97 * s) (kpR I s) := by
  constructor
  · intro h s hs q
    have hs2 : s = 0 ∨ s = 1 := by omega
    rcases hs2 with rfl | rfl
    · exact srel_fr (S := 210) (fun _ _ _ => rfl) (fun j _ => by show I 432 (1427 * 0 + j) = I 432 j; rw [show 1427 * 0 + j = j by omega]) (h.1 q)
    · exact srel_fr (S := 307) (fun _ _ _ => rfl) (fun j _ => by show I 432 (1427 * 1 + j) = I 432 (1427 + j); rw [show 1427 * 1 + j = 1427 + j by omega]) (h.2 q)
  · intro h
    refine ⟨fun q => ?_, fun q => ?_⟩
    · exact srel_fr (S := 210) (R := kpR I 0) (fun _ _ _ => rfl) (fun j _ => by show I 432 j = I 432 (1427 * 0 + j); rw [show 1427 * 0 + j = j by omega]) (h 0 (by decide) q)
    · exact srel_fr (S := 307) (R := kpR I 1) (fun _ _ _ => rfl) (fun j _ => by show I 432 (1427 + j) = I 432 (1427 * 1 + j); rw [show 1427 * 1 + j = 1427 + j by omega]) (h 1 (by decide) q)
abbrev ok01 (x : Int32) : Prop := 0 ≤ x.toInt ∧ x.toInt ≤ 1
def PCimage (I I' : Nat → Nat → Int32) (x w : Int32) : Prop := (ok01 x ∧ w = 1 ∧ (∀ a, (a < 210 + 97 * x.toInt.toNat ∨ 210 + 97 * x.toInt.toNat + 96 < a) → I' a = I a) ∧ ∀ i j, rlv i j → I' (210 + 97 * x.toInt.toNat + i) j = I (3 + i) j) ∨ (¬ ok01 x ∧ w = 0 ∧ I' = I)
def PMimage (I I' : Nat → Nat → Int32) (x w : Int32) : Prop := (ok01 x ∧ w = 1 ∧ (∀ j, (j < 1427 * x.toInt.toNat ∨ 1427 * x.toInt.toNat + 1427 ≤ j) → I' 432 j = I 432 j) ∧ (∀ q, q < 1427 → I' 432 (1427 * x.toInt.toNat + q) = I 406 q) ∧ (∀ j, j ≠ x.toInt.toNat → I' 433 j = I 433 j)) ∨ (¬ ok01 x ∧ w = 0 ∧ I' 432 = I 432 ∧ I' 433 = I 433)
theorem rel_image {I I1 I2 : Nat → Nat → Int32} {x w1 w2 : Int32} (h : REL I) (c : PCimage I I1 x w1) (m : PMimage I1 I2 x w2) (e6 : I2 406 = I 406) (c1 : I1 406 = I 406) (c2 : I1 432 = I 432) (c3 : I1 433 = I 433) (f : ∀ a, 3 ≤ a → a ≤ 403 → I2 a = I1 a) : REL I2 ∧ w1 = w2 := by
  rcases c with ⟨ok, rfl, f0, fr⟩ | ⟨no, rfl, rfl⟩
  · rcases m with ⟨-, rfl, g1, g2, g3⟩ | ⟨no, -⟩
    · refine ⟨⟨?_, kp_iff.mpr (fun s hs q => ?_)⟩, rfl⟩
      · exact srel_fr (S := 3) (fun a q1 q2 => (f a q1 (by omega)).trans (f0 a (by omega))) (fun j _ => by rw [e6]) h.1
      · by_cases e : s = x.toInt.toNat
        · rw [e]
          refine srel_cp (S := 3) (R := I 406) (fun i j hij => ?_) (fun j hj => ?_) h.1
          · have hi : i ≤ 96 := by
              unfold rlv at hij
              rcases hij with ⟨h, -⟩ | ⟨-, h, -⟩ | ⟨-, h, -⟩ | ⟨h, -⟩ | ⟨-, h, -⟩ | ⟨h, -⟩ | ⟨h, -⟩ | ⟨-, h, -⟩ | ⟨s, hs, ⟨h, -⟩ | ⟨-, h, -⟩⟩ <;> omega
            rw [f _ (by omega) (by omega)]; exact fr i j hij
          · show I2 432 (1427 * x.toInt.toNat + j) = I 406 j
            rw [g2 j hj, c1]
        · have q' : I 433 s ≠ 0 := by rw [g3 s e, c3] at q; exact q
          refine srel_fr (S := 210 + 97 * s) (R := kpR I s) (fun a q1 q2 => ?_) (fun j hj => ?_) (kp_iff.mp h.2 s hs q')
          · rw [f a (by omega) (by omega)]; exact f0 a (by omega)
          · show I2 432 (1427 * s + j) = I 432 (1427 * s + j)
            rw [g1 _ (by omega), c2]
    · exact absurd ok no
  · rcases m with ⟨ok, -⟩ | ⟨-, rfl, g1, g2⟩
    · exact absurd ok no
    · exact ⟨rel_fr (fun a q1 q2 => f a q1 (by omega)) e6 (fun a ha => by
        rcases ha with ⟨q1, q2⟩ | rfl | rfl
        · exact f a (by omega) q2
        · exact g1
        · exact g2) h, rfl⟩
def PCrest (I I' : Nat → Nat → Int32) (x w : Int32) : Prop := ((ok01 x ∧ I (210 + 97 * x.toInt.toNat) 0 = 1) ∧ w = 1 ∧ (∀ a, (a ≤ 3 ∨ 99 < a) → I' a = I a) ∧ ∀ i j, rlv i j → I' (3 + i) j = I (210 + 97 * x.toInt.toNat + i) j) ∨ (¬ (ok01 x ∧ I (210 + 97 * x.toInt.toNat) 0 = 1) ∧ w = 0 ∧ I' = I)
def PMrest (I I' : Nat → Nat → Int32) (x w : Int32) : Prop := ((ok01 x ∧ I 433 x.toInt.toNat = 1) ∧ w = 1 ∧ ∀ q, q < 1427 → I' 406 q = I 432 (1427 * x.toInt.toNat + q)) ∨ (¬ (ok01 x ∧ I 433 x.toInt.toNat = 1) ∧ w = 0 ∧ I' 406 = I 406)
theorem rel_rest {I I1 I2 : Nat → Nat → Int32} {x w1 w2 : Int32} (h : REL I) (hz : (I 210 0).toInt = (I 433 0).toInt ∧ (I 307 0).toInt = (I 433 1).toInt) (c : PCrest I I1 x w1) (m : PMrest I1 I2 x w2) (c1 : I1 406 = I 406) (c2 : I1 432 = I 432) (c3 : I1 433 = I 433) (f : ∀ a, 3 ≤ a → a ≤ 403 → I2 a = I1 a) (f2 : I2 432 = I1 432) (f3 : I2 433 = I1 433) : REL I2 ∧ w1 = w2 := by
  have hz2 : ok01 x → (I (210 + 97 * x.toInt.toNat) 0 = 1 ↔ I1 433 x.toInt.toNat = 1) := fun ok => by
    have hx : x.toInt.toNat = 0 ∨ x.toInt.toNat = 1 := by omega
    rw [c3]
    rcases hx with e | e
    · rw [e, i_eq hz.1]
    · rw [e, show 210 + 97 * 1 = 307 from rfl, i_eq hz.2]
  rcases c with ⟨ok, rfl, f0, fr⟩ | ⟨no, rfl, rfl⟩
  · rcases m with ⟨-, rfl, g1⟩ | ⟨no, -⟩
    · refine ⟨⟨?_, kp_fr (fun a ha => ?_) h.2⟩, rfl⟩
      · have q : I 433 x.toInt.toNat ≠ 0 := by
          have q := (hz2 ok.1).mp ok.2
          rw [c3] at q
          rw [q]; decide
        refine srel_cp (S := 210 + 97 * x.toInt.toNat) (R := kpR I x.toInt.toNat) (fun i j hij => ?_) (fun j hj => ?_) (kp_iff.mp h.2 _ (by obtain ⟨⟨q1, q2⟩, -⟩ := ok; omega) q)
        · have hi : i ≤ 96 := by
            unfold rlv at hij
            rcases hij with ⟨h, -⟩ | ⟨-, h, -⟩ | ⟨-, h, -⟩ | ⟨h, -⟩ | ⟨-, h, -⟩ | ⟨h, -⟩ | ⟨h, -⟩ | ⟨-, h, -⟩ | ⟨s, hs, ⟨h, -⟩ | ⟨-, h, -⟩⟩ <;> omega
          rw [f _ (by omega) (by omega)]; exact fr i j hij
        · show I2 406 j = I 432 (1427 * x.toInt.toNat + j)
          rw [g1 j hj, c2]
      · rcases ha with ⟨q1, q2⟩ | rfl | rfl
        · rw [f a (by omega) q2]; exact f0 a (by omega)
        · rw [f2]; exact c2
        · rw [f3]; exact c3
    · exact absurd ⟨ok.1, (hz2 ok.1).mp ok.2⟩ no
  · rcases m with ⟨ok, -⟩ | ⟨-, rfl, g1⟩
    · exact absurd ⟨ok.1, (hz2 ok.1).mpr ok.2⟩ no
    · exact ⟨rel_fr (fun a q1 q2 => f a q1 (by omega)) g1 (fun a ha => by
        rcases ha with ⟨q1, q2⟩ | rfl | rfl
        · exact f a (by omega) q2
        · exact f2
        · exact f3) h, rfl⟩
/-! night -/
abbrev okN (b : fB) (N : Nat) (x : Int32) : Prop := (0 ≤ x.toInt ∧ x.toInt ≤ 5) ∧ (ngF b N 400 25 0 0 0 []).1 = 0
def PCnight (b : fB) (N : Nat) (I I' : Nat → Nat → Int32) (x w : Int32) : Prop := w.toInt = anF b N x ∧ (okN b N x → (∀ a, a ≠ 1 → (a < 123 ∨ 130 < a) → a ≠ 58 + 7 * x.toInt.toNat → (a < 60 + 7 * x.toInt.toNat ∨ 64 + 7 * x.toInt.toNat < a) → I' a = I a) ∧ (I' (58 + 7 * x.toInt.toNat) 0).toInt = 1 ∧ ∀ w, w < 5 → ∀ t, t < 144 → I' (60 + 7 * x.toInt.toNat + w) t = ndF (uaF (ngF b N 400 25 0 0 0 []).2.2.2) w t) ∧ (¬ okN b N x → ∀ a, 3 ≤ a → a ≤ 99 → I' a = I a)
def PMnight (b : fB) (N : Nat) (R : Nat → Int32) (I' : Nat → Nat → Int32) (x w : Int32) : Prop := w.toInt = anF b N x ∧ (okN b N x → (∀ j, j < 221 + 97 * x.toInt.toNat ∨ 221 + 97 * x.toInt.toNat + 97 ≤ j → I' 406 j = R j) ∧ mdS (nX (I' 406) x) (ngF b N 400 25 0 0 0 []).2.2.2 ∧ (nX (I' 406) x 0).toInt = (ngF b N 400 25 0 0 0 []).2.2.2.length ∧ (ngF b N 400 25 0 0 0 []).2.2.2.length ≤ 24) ∧ (¬ okN b N x → I' 406 = R)
theorem md_cp {I : Nat → Nat → Int32} {S : Nat → Int32} : ∀ (L : List fL), (∀ j, j ≤ 4 * L.length → S j = I 408 j) → mdF I L → mdS S L
  | [], _, _ => trivial
  | l :: r, h, g => by
    have hl : (l :: r).length = r.length + 1 := rfl
    obtain ⟨g1, g2, g3, g4, g5⟩ := g
    exact ⟨(h _ (by omega)).trans g1, (h _ (by omega)).trans g2, (h _ (by omega)).trans g3, (h _ (by omega)).trans g4, md_cp r (fun j hj => h j (by omega)) g5⟩
theorem cr_X11_night {μ : dw_S} {K : dw_K} {a1 : Int32} (hI : INV μ) (hK : ∀ (r : Option Value) (w : Int32) (μ' : dw_S), ck_X11_night a1 μ r w μ' → PCnight (tbC μ.2.2.1) (μ.2.2.1 1 1).toInt.toNat μ.2.2.1 μ'.2.2.1 a1 w → K r μ') : t_X11_night [.ref 0, .int a1] μ K := by
  refine cj_X11_night _ μ (fun r μ' => ∃ w, ck_X11_night a1 μ r w μ') (fun r μ' => ∀ w, r = some (.int w) → PCnight (tbC μ.2.2.1) (μ.2.2.1 1 1).toInt.toNat μ.2.2.1 μ'.2.2.1 a1 w) K (fun r μ' h q => h.elim (fun w h => hK r w μ' h (q w h.2.1))) (cl_X11_night hI (fun r w μ' h => ⟨w, h⟩)) ?_
  have hb := hb_1 hI
  obtain ⟨n, sh, I, J⟩ := μ
  obtain rfl : sh = SH1 := hI.1
  have hN : (I 1 1).toInt = ((I 1 1).toInt.toNat : Nat) := n_of hb.1
  have h9 : (I 1 1).toInt.toNat ≤ 940 := by
    have e : (I 1 1).toInt ≤ 940 := hb.2
    omega
  show t_X11_night [.ref 0, .int a1] (n, SH1, I, J) (fun r μ' => ∀ w, r = some (.int w) → PCnight (tbC I) (I 1 1).toInt.toNat I μ'.2.2.1 a1 w)
  generalize (I 1 1).toInt.toNat = N at hN h9 ⊢
  have cm : (-1001 : Int32).toInt = -1001 := rfl
  have hp : (ngF (tbC I) N 400 25 0 0 0 []).2.1 ≤ 940 := Nat.le_trans (pl_ng 25 0 0 0 [] (Nat.zero_le _)) h9
  refine v_cnight hN h9 rfl (fun g I' f0 _ w e => ?_) (fun s hs g g2 I' w' f0 _ _ f1 f2 hw w e => ?_) (fun s hs g g2 I' w' f0 _ hw w e => ?_) hp
  · refine ⟨?_, fun ok => absurd ok.1 g, fun _ a q1 q2 => f0 a (by omega)⟩
    rw [ro_eq e, cm]; unfold anF; rw [if_neg g]
  · have es : a1.toInt.toNat = s := by omega
    refine ⟨?_, fun _ => ?_, fun no => absurd ⟨⟨by omega, by omega⟩, g2⟩ no⟩
    · rw [ro_eq e]; unfold anF; rw [if_pos (by omega), if_pos g2]; exact hw
    · rw [es]; exact ⟨f0, f1, f2⟩
  · refine ⟨?_, fun ok => absurd ok.2 g2, fun _ a q1 q2 => f0 a (by omega) (by omega)⟩
    rw [ro_eq e]; unfold anF; rw [if_pos (by omega), if_neg g2]; exact hw
theorem cr_X12_night {μ : dw_S} {K : dw_K} {a1 : Int32} (hI : INV μ) (hK : ∀ (r : Option Value) (w : Int32) (μ' : dw_S), ck_X12_night a1 μ r w μ' → PMnight (tbL μ.2.2.1) (μ.2.2.1 404 2).toInt.toNat (μ.2.2.1 406) μ'.2.2.1 a1 w → K r μ') : t_X12_night [.ref 404, .int a1] μ K := by
  refine cj_X12_night _ μ (fun r μ' => ∃ w, ck_X12_night a1 μ r w μ') (fun r μ' => ∀ w, r = some (.int w) → PMnight (tbL μ.2.2.1) (μ.2.2.1 404 2).toInt.toNat (μ.2.2.1 406) μ'.2.2.1 a1 w) K (fun r μ' h q => h.elim (fun w h => hK r w μ' h (q w h.2.1))) (cl_X12_night hI (fun r w μ' h => ⟨w, h⟩)) ?_
  have hb := hb_404 hI
  obtain ⟨n, sh, I, J⟩ := μ
  obtain rfl : sh = SH1 := hI.1
  have hN : (I 404 2).toInt = ((I 404 2).toInt.toNat : Nat) := n_of hb.1
  have h9 : (I 404 2).toInt.toNat ≤ 940 := by
    have e : (I 404 2).toInt ≤ 940 := hb.2
    omega
  show t_X12_night [.ref 404, .int a1] (n, SH1, I, J) (fun r μ' => ∀ w, r = some (.int w) → PMnight (tbL I) (I 404 2).toInt.toNat (I 406) μ'.2.2.1 a1 w)
  generalize (I 404 2).toInt.toNat = N at hN h9 ⊢
  have cm : (-1001 : Int32).toInt = -1001 := rfl
  refine v_mnight hN h9 rfl (fun g I' f0 _ _ w e => ?_) (fun s hs g g2 I' J' w' _ _ _ _ f1 _ f3 f4 f5 hw f6 f7 w e => ?_) (fun s hs g g2 I' J' w' f0 _ _ _ hw w e => ?_)
  · refine ⟨?_, fun ok => absurd ok.1 g, fun _ => f0 406 (by decide)⟩
    rw [ro_eq e, cm]; unfold anF; rw [if_neg g]
  · have es : a1.toInt.toNat = s := by omega
    refine ⟨?_, fun _ => ?_, fun no => absurd ⟨⟨by omega, by omega⟩, g2⟩ no⟩
    · rw [ro_eq e]; unfold anF; rw [if_pos (by omega), if_pos g2]; exact hw
    · show (∀ j, j < 221 + 97 * a1.toInt.toNat ∨ 221 + 97 * a1.toInt.toNat + 97 ≤ j → I' 406 j = I 406 j) ∧ mdS (nS (I' 406) a1.toInt.toNat) _ ∧ (nS (I' 406) a1.toInt.toNat 0).toInt = _ ∧ _
      rw [es]
      refine ⟨f1, md_cp _ (fun j hj => f5 j (by omega)) f3, ?_, by omega⟩
      have q := f5 0 (Nat.zero_le _)
      have q : nS (I' 406) s 0 = I' 408 0 := q
      rw [q, f4, hw, f6]
  · refine ⟨?_, fun ok => absurd ok.2 g2, fun _ => f0 406 (by decide) (by decide)⟩
    rw [ro_eq e]; unfold anF; rw [if_pos (by omega), if_neg g2]; exact hw
theorem rel_night {b : fB} {N : Nat} {I I1 I2 : Nat → Nat → Int32} {a1 w1 w2 : Int32} (h : REL I) (c : PCnight b N I I1 a1 w1) (m : PMnight b N (I 406) I2 a1 w2) (f : ∀ a, 3 ≤ a → a ≤ 99 → I2 a = I1 a) (k : ∀ a, (210 ≤ a ∧ a ≤ 403) ∨ a = 432 ∨ a = 433 → I2 a = I a) : REL I2 ∧ w1 = w2 := by
  obtain ⟨e1, c1, c2⟩ := c
  obtain ⟨e2, m1, m2⟩ := m
  refine ⟨⟨?_, kp_fr k h.2⟩, i_eq (e1.trans e2.symm)⟩
  by_cases ok : okN b N a1
  · obtain ⟨f0, f1, f2⟩ := c1 ok
    obtain ⟨g0, g1, g2, g3⟩ := m1 ok
    have hL := ng_ok 25 0 0 0 [] (show (0 : Int) ≤ 0 by decide) (show (0 : Int) ≤ 143 by decide) trivial ok.2
    exact srel_night (s := a1.toInt.toNat) (by omega) (fun a q1 q2 q3 q4 => (f a q1 q2).trans (f0 a (by omega) (by omega) q3 q4)) (fun j q1 _ => g0 j q1) (by rw [f _ (by omega) (by omega)]; exact f1) (fun w hw t ht => by rw [f _ (by omega) (by omega)]; exact f2 w hw t ht) hL g1 g2 g3 h.1
  · exact srel_fr (S := 3) (fun a q1 q2 => (f a q1 (by omega)).trans (c2 ok a q1 (by omega))) (fun j _ => by rw [m2 ok]) h.1
/-! flags of the state and of what is kept -/
def fl_l : List Nat := [3, 210, 307].flatMap (fun S => [S, S + 40, S + 41] ++ (List.range 6).map (fun s => S + 55 + 7 * s))
theorem fl_d : (fl_l.all (fun a => decide (dx_seg (dx_ce a).iv 0 = (0, 1))) && [0, 1].all (fun j => decide (dx_seg (dx_ce 433).iv j = (0, 1)))) = true := by decide +kernel
theorem fl_01 {μ : dw_S} (hI : INV μ) {a j : Nat} (h : dx_seg (dx_ce a).iv j = (0, 1)) : μ.2.2.1 a j = 0 ∨ μ.2.2.1 a j = 1 := by
  have q := hI.2.1 a j
  rw [h] at q
  have q : 0 ≤ (μ.2.2.1 a j).toInt ∧ (μ.2.2.1 a j).toInt ≤ 1 := q
  exact fi_z1 (by omega)
theorem fl_of {μ : dw_S} (hI : INV μ) {a : Nat} (h : a ∈ fl_l) : μ.2.2.1 a 0 = 0 ∨ μ.2.2.1 a 0 = 1 := by
  have q := fl_d
  rw [Bool.and_eq_true] at q
  exact fl_01 hI (of_decide_eq_true (List.all_eq_true.mp q.1 a h))
theorem fz_of {μ : dw_S} (hI : INV μ) {S : Nat} (hS : S = 3 ∨ S = 210 ∨ S = 307) : fz μ.2.2.1 S := by
  refine ⟨fl_of hI ?_, fl_of hI ?_, fun s hs => fl_of hI ?_⟩
  · rcases hS with rfl | rfl | rfl <;> decide
  · rcases hS with rfl | rfl | rfl <;> decide
  · have h6 : s = 0 ∨ s = 1 ∨ s = 2 ∨ s = 3 ∨ s = 4 ∨ s = 5 := by omega
    rcases hS with rfl | rfl | rfl <;> rcases h6 with rfl | rfl | rfl | rfl | rfl | rfl <;> decide
theorem cr_X11_image {μ : dw_S} {K : dw_K} {a1 : Int32} (hI : INV μ) (hK : ∀ (r : Option Value) (w : Int32) (μ' : dw_S), ck_X11_image a1 μ r w μ' → PCimage μ.2.2.1 μ'.2.2.1 a1 w → K r μ') : t_X11_image [.ref 0, .int a1] μ K := by
  refine cj_X11_image _ μ (fun r μ' => ∃ w, ck_X11_image a1 μ r w μ') (fun r μ' => ∀ w, r = some (.int w) → PCimage μ.2.2.1 μ'.2.2.1 a1 w) K (fun r μ' h q => h.elim (fun w h => hK r w μ' h (q w h.2.1))) (cl_X11_image hI (fun r w μ' h => ⟨w, h⟩)) ?_
  have hf := fz_of hI (Or.inl rfl)
  obtain ⟨n, sh, I, J⟩ := μ
  obtain rfl : sh = SH1 := hI.1
  refine v_cimage hf (fun no w e => ?_) (fun s hs hx I' f0 _ f1 w e => ?_)
  · rw [ro_eq e]; exact Or.inr ⟨no, rfl, rfl⟩
  · have es : a1.toInt.toNat = s := by omega
    rw [ro_eq e]
    refine Or.inl ⟨⟨by omega, by omega⟩, rfl, ?_, ?_⟩
    · rw [es]; exact f0
    · rw [es]; exact f1
theorem cr_X12_image {μ : dw_S} {K : dw_K} {a1 : Int32} (hI : INV μ) (hK : ∀ (r : Option Value) (w : Int32) (μ' : dw_S), ck_X12_image a1 μ r w μ' → PMimage μ.2.2.1 μ'.2.2.1 a1 w → K r μ') : t_X12_image [.ref 404, .int a1] μ K := by
  refine cj_X12_image _ μ (fun r μ' => ∃ w, ck_X12_image a1 μ r w μ') (fun r μ' => ∀ w, r = some (.int w) → PMimage μ.2.2.1 μ'.2.2.1 a1 w) K (fun r μ' h q => h.elim (fun w h => hK r w μ' h (q w h.2.1))) (cl_X12_image hI (fun r w μ' h => ⟨w, h⟩)) ?_
  obtain ⟨n, sh, I, J⟩ := μ
  obtain rfl : sh = SH1 := hI.1
  refine v_mimage (fun no I' f0 w e => ?_) (fun s hs hx I' f0 f1 f2 _ f3 w e => ?_)
  · rw [ro_eq e]; exact Or.inr ⟨no, rfl, f0 432 (by decide), f0 433 (by decide)⟩
  · have es : a1.toInt.toNat = s := by omega
    rw [ro_eq e]
    refine Or.inl ⟨⟨by omega, by omega⟩, rfl, ?_, ?_, ?_⟩
    · rw [es]; exact f1
    · rw [es]; exact f2
    · rw [es]; exact f3
theorem cr_X11_restore {μ : dw_S} {K : dw_K} {a1 : Int32} (hI : INV μ) (hK : ∀ (r : Option Value) (w : Int32) (μ' : dw_S), ck_X11_restore a1 μ r w μ' → PCrest μ.2.2.1 μ'.2.2.1 a1 w → K r μ') : t_X11_restore [.ref 0, .int a1] μ K := by
  refine cj_X11_restore _ μ (fun r μ' => ∃ w, ck_X11_restore a1 μ r w μ') (fun r μ' => ∀ w, r = some (.int w) → PCrest μ.2.2.1 μ'.2.2.1 a1 w) K (fun r μ' h q => h.elim (fun w h => hK r w μ' h (q w h.2.1))) (cl_X11_restore hI (fun r w μ' h => ⟨w, h⟩)) ?_
  have hf : ∀ s, s < 2 → fz μ.2.2.1 (210 + 97 * s) := fun s hs => fz_of hI (by omega)
  have hb : ∀ s, s < 2 → μ.2.2.1 (210 + 97 * s) 0 = 0 ∨ μ.2.2.1 (210 + 97 * s) 0 = 1 := fun s hs => by
    have h2 : s = 0 ∨ s = 1 := by omega
    rcases h2 with rfl | rfl
    · exact fl_of hI (by decide)
    · exact fl_of hI (by decide)
  obtain ⟨n, sh, I, J⟩ := μ
  obtain rfl : sh = SH1 := hI.1
  refine v_crestore hf hb (fun no w e => ?_) (fun s hs hx g I' f0 f1 w e => ?_)
  · rw [ro_eq e]
    refine Or.inr ⟨fun q => ?_, rfl, rfl⟩
    have z := no a1.toInt.toNat (by obtain ⟨⟨q1, q2⟩, -⟩ := q; omega) (by obtain ⟨⟨q1, q2⟩, -⟩ := q; omega)
    have q2 : I (210 + 97 * a1.toInt.toNat) 0 = 1 := q.2
    rw [z] at q2
    exact absurd q2 (by decide)
  · have es : a1.toInt.toNat = s := by omega
    rw [ro_eq e]
    refine Or.inl ⟨⟨⟨by omega, by omega⟩, ?_⟩, rfl, f0, ?_⟩
    · rw [es]; exact g
    · rw [es]; exact f1
theorem cr_X12_restore {μ : dw_S} {K : dw_K} {a1 : Int32} (hI : INV μ) (hK : ∀ (r : Option Value) (w : Int32) (μ' : dw_S), ck_X12_restore a1 μ r w μ' → PMrest μ.2.2.1 μ'.2.2.1 a1 w → K r μ') : t_X12_restore [.ref 404, .int a1] μ K := by
  refine cj_X12_restore _ μ (fun r μ' => ∃ w, ck_X12_restore a1 μ r w μ') (fun r μ' => ∀ w, r = some (.int w) → PMrest μ.2.2.1 μ'.2.2.1 a1 w) K (fun r μ' h q => h.elim (fun w h => hK r w μ' h (q w h.2.1))) (cl_X12_restore hI (fun r w μ' h => ⟨w, h⟩)) ?_
  have hb : ∀ s, s < 2 → μ.2.2.1 433 s = 0 ∨ μ.2.2.1 433 s = 1 := fun s hs => by
    have q := fl_d
    rw [Bool.and_eq_true] at q
    have h2 : s = 0 ∨ s = 1 := by omega
    exact fl_01 hI (of_decide_eq_true (List.all_eq_true.mp q.2 s (by rcases h2 with rfl | rfl <;> decide)))
  obtain ⟨n, sh, I, J⟩ := μ
  obtain rfl : sh = SH1 := hI.1
  refine v_mrestore hb (fun no I' f0 w e => ?_) (fun s hs hx g I' f0 f1 w e => ?_)
  · rw [ro_eq e]
    refine Or.inr ⟨fun q => ?_, rfl, f0 406 (by decide)⟩
    have z := no a1.toInt.toNat (by obtain ⟨⟨q1, q2⟩, -⟩ := q; omega) (by obtain ⟨⟨q1, q2⟩, -⟩ := q; omega)
    have q2 : I 433 a1.toInt.toNat = 1 := q.2
    rw [z] at q2
    exact absurd q2 (by decide)
  · have es : a1.toInt.toNat = s := by omega
    rw [ro_eq e]
    refine Or.inl ⟨⟨⟨by omega, by omega⟩, ?_⟩, rfl, ?_⟩
    · rw [es]; exact g
    · rw [es]; exact f1
