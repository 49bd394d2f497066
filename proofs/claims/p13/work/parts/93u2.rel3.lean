/-! ===== the states alike: plan, ground, go ===== -/
abbrev pgG (b : fB) (N : Nat) (R : Nat → Int32) : Nat × Nat × Nat × List pL := pgF b N 300 (Cn R) (Rn R) 31 0 0 []
noncomputable def apF (b : fB) (N : Nat) (R : Nat → Int32) : Int := if (pgG b N R).1 = 0 then ((pgG b N R).2.2.1 : Int) else -1 - ((pgG b N R).2.1 : Int)
def PCplan (b : fB) (N : Nat) (R : Nat → Int32) (I I' : Nat → Nat → Int32) (w : Int32) : Prop := w.toInt = apF b N R ∧ ((pgG b N R).1 = 0 → (∀ a, a ≠ 1 → (a < 132 ∨ 163 < a) → a ≠ 11 → (a < 13 ∨ 42 < a) → I' a = I a) ∧ I' 11 0 = w ∧ (∀ i, i < (pgG b N R).2.2.2.length → (I' (13 + i) 0).toInt = (atF p0 (pgG b N R).2.2.2 i).1 ∧ I' (13 + i) 1 = (atF p0 (pgG b N R).2.2.2 i).2.1 ∧ ((atF p0 (pgG b N R).2.2.2 i).1 ≠ 0 → I' (13 + i) 2 = (atF p0 (pgG b N R).2.2.2 i).2.2)) ∧ w.toInt = (pgG b N R).2.2.2.length ∧ (pgG b N R).2.2.2.length ≤ 30) ∧ ((pgG b N R).1 ≠ 0 → ∀ a, 3 ≤ a → a ≤ 99 → I' a = I a)
def PMplan (b : fB) (N : Nat) (R : Nat → Int32) (I' : Nat → Nat → Int32) (w : Int32) : Prop := w.toInt = apF b N R ∧ ((pgG b N R).1 = 0 → (∀ j, j < 803 ∨ 894 ≤ j → I' 406 j = R j) ∧ I' 406 803 = w ∧ mpF (fun j => I' 406 (803 + j)) (R 0) (pgG b N R).2.2.2) ∧ ((pgG b N R).1 ≠ 0 → I' 406 = R)
theorem gok_cr {R : Nat → Int32} (h : GOK R) : ((R 0).toInt = (Cn R : Nat) ∧ (R 1).toInt = (Rn R : Nat)) ∧ Cn R ≤ 144 ∧ Rn R ≤ 144 := by
  obtain ⟨⟨h1, h2, -, h4, h5, -⟩, -⟩ := h
  refine ⟨⟨h1, h2⟩, ?_, ?_⟩ <;> omega
theorem cr_X11_plan {μ : dw_S} {K : dw_K} {R : Nat → Int32} (hI : INV μ) (hR : SREL μ.2.2.1 3 R) (hK : ∀ (r : Option Value) (w : Int32) (μ' : dw_S), ck_X11_plan μ r w μ' → PCplan (tbC μ.2.2.1) (μ.2.2.1 1 1).toInt.toNat R μ.2.2.1 μ'.2.2.1 w → K r μ') : t_X11_plan [.ref 0] μ K := by
  refine cj_X11_plan _ μ (fun r μ' => ∃ w, ck_X11_plan μ r w μ') (fun r μ' => ∀ w, r = some (.int w) → PCplan (tbC μ.2.2.1) (μ.2.2.1 1 1).toInt.toNat R μ.2.2.1 μ'.2.2.1 w) K (fun r μ' h q => h.elim (fun w h => hK r w μ' h (q w h.2.1))) (cl_X11_plan hI (fun r w μ' h => ⟨w, h⟩)) ?_
  have hb := hb_1 hI
  obtain ⟨n, sh, I, J⟩ := μ
  obtain rfl : sh = SH1 := hI.1
  have hN : (I 1 1).toInt = ((I 1 1).toInt.toNat : Nat) := n_of hb.1
  have h9 : (I 1 1).toInt.toNat ≤ 940 := by
    have e : (I 1 1).toInt ≤ 940 := hb.2
    omega
  have hR : SREL I 3 R := hR
  obtain ⟨⟨c0, c1⟩, c2, c3⟩ := gok_cr hR.1
  have d0 : (I 4 0).toInt = (Cn R : Nat) := by rw [(rg_3 hR).1 0 (by decide)]; exact c0
  have d1 : (I 4 1).toInt = (Rn R : Nat) := by rw [(rg_3 hR).1 1 (by decide)]; exact c1
  show t_X11_plan [.ref 0] (n, SH1, I, J) (fun r μ' => ∀ w, r = some (.int w) → PCplan (tbC I) (I 1 1).toInt.toNat R I μ'.2.2.1 w)
  generalize (I 1 1).toInt.toNat = N at hN h9 ⊢
  have hp : (pgG (tbC I) N R).2.1 ≤ 940 := Nat.le_trans (pp_pg 31 0 0 [] (Nat.zero_le _)) h9
  refine v_cplan hN h9 d0 (by omega) (by omega) d1 (by omega) (by omega) rfl hp (fun g I' w' f0 _ f1 f2 hw f3 f4 w e => ?_) (fun g I' w' f0 _ hw w e => ?_)
  · refine ⟨?_, fun _ => ⟨f0, ?_, f2, ?_, ?_⟩, fun no => absurd g no⟩
    · rw [ro_eq e]; unfold apF; rw [if_pos g]; exact hw
    · rw [ro_eq e]; exact f1
    · rw [ro_eq e, hw, f3]
    · rw [← f3]; omega
  · refine ⟨?_, fun ok => absurd ok g, fun _ a q1 q2 => f0 a (by omega) (by omega)⟩
    rw [ro_eq e]; unfold apF; rw [if_neg g]; exact hw
theorem cr_X12_plan {μ : dw_S} {K : dw_K} (hI : INV μ) (hG : GOK (μ.2.2.1 406)) (hK : ∀ (r : Option Value) (w : Int32) (μ' : dw_S), ck_X12_plan μ r w μ' → PMplan (tbL μ.2.2.1) (μ.2.2.1 404 2).toInt.toNat (μ.2.2.1 406) μ'.2.2.1 w → K r μ') : t_X12_plan [.ref 404] μ K := by
  refine cj_X12_plan _ μ (fun r μ' => ∃ w, ck_X12_plan μ r w μ') (fun r μ' => ∀ w, r = some (.int w) → PMplan (tbL μ.2.2.1) (μ.2.2.1 404 2).toInt.toNat (μ.2.2.1 406) μ'.2.2.1 w) K (fun r μ' h q => h.elim (fun w h => hK r w μ' h (q w h.2.1))) (cl_X12_plan hI (fun r w μ' h => ⟨w, h⟩)) ?_
  have hb := hb_404 hI
  obtain ⟨n, sh, I, J⟩ := μ
  obtain rfl : sh = SH1 := hI.1
  have hN : (I 404 2).toInt = ((I 404 2).toInt.toNat : Nat) := n_of hb.1
  have h9 : (I 404 2).toInt.toNat ≤ 940 := by
    have e : (I 404 2).toInt ≤ 940 := hb.2
    omega
  have hG : GOK (I 406) := hG
  obtain ⟨⟨c0, c1⟩, c2, c3⟩ := gok_cr hG
  show t_X12_plan [.ref 404] (n, SH1, I, J) (fun r μ' => ∀ w, r = some (.int w) → PMplan (tbL I) (I 404 2).toInt.toNat (I 406) μ'.2.2.1 w)
  generalize (I 404 2).toInt.toNat = N at hN h9 ⊢
  refine v_mplan hN h9 c0 (by omega) (by omega) c1 (by omega) (by omega) rfl (fun g I' J' w' _ _ _ _ f1 f2 f3 hw _ _ w e => ?_) (fun g I' J' w' f0 _ _ _ hw w e => ?_)
  · refine ⟨?_, fun _ => ⟨f1, ?_, f3⟩, fun no => absurd g no⟩
    · rw [ro_eq e]; unfold apF; rw [if_pos g]; exact hw
    · rw [ro_eq e]; exact f2
  · refine ⟨?_, fun ok => absurd ok g, fun _ => f0 406 (by decide) (by decide)⟩
    rw [ro_eq e]; unfold apF; rw [if_neg g]; exact hw
theorem rel_plan {b : fB} {N : Nat} {I I1 I2 : Nat → Nat → Int32} {w1 w2 : Int32} (h : REL I) (c : PCplan b N (I 406) I I1 w1) (m : PMplan b N (I 406) I2 w2) (f : ∀ a, 3 ≤ a → a ≤ 99 → I2 a = I1 a) (k : ∀ a, (210 ≤ a ∧ a ≤ 403) ∨ a = 432 ∨ a = 433 → I2 a = I a) : REL I2 ∧ w1 = w2 := by
  obtain ⟨e1, c1, c2⟩ := c
  obtain ⟨e2, m1, m2⟩ := m
  have ew : w1 = w2 := i_eq (e1.trans e2.symm)
  refine ⟨⟨?_, kp_fr k h.2⟩, ew⟩
  by_cases ok : (pgG b N (I 406)).1 = 0
  · obtain ⟨f0, f1, f2, f3, f4⟩ := c1 ok
    obtain ⟨g0, g1, g2⟩ := m1 ok
    exact srel_plan (w := w1) h.1 (fun a q1 q2 q3 q4 => (f a q1 q2).trans (f0 a (by omega) (by omega) q3 q4)) g0 (pg_b 31 0 0 [] (fun l hl => absurd hl List.not_mem_nil) ok) f4 f3 (by rw [f 11 (by decide) (by decide)]; exact f1) (fun i hi => by
      have hi : i < (pgG b N (I 406)).2.2.2.length := hi
      rw [f (13 + i) (by omega) (by omega)]; exact f2 i hi) (by rw [ew]; exact g1) g2
  · exact srel_fr (S := 3) (fun a q1 q2 => (f a q1 (by omega)).trans (c2 ok a q1 (by omega))) (fun j _ => by rw [m2 ok]) h.1
/-! ground -/
noncomputable abbrev ggG (b : fB) (N : Nat) : Nat × Nat × Nat × gS := ggF b N 900 941 0 0 g0
def PCgnd (b : fB) (N : Nat) (I I' : Nat → Nat → Int32) (w : Int32) : Prop := w.toInt = agF b N ∧ ((ggG b N).1 = 0 → GCp I' b (ggG b N).2.2.2 ∧ gOK N (ggG b N).2.2.2 ∧ I' 11 0 = 0 ∧ I' 43 0 = 0 ∧ ∀ s, s < 6 → I' (58 + 7 * s) 0 = 0) ∧ ((ggG b N).1 ≠ 0 → ∀ a, 3 ≤ a → a ≤ 99 → I' a = I a)
def PMgnd (b : fB) (N : Nat) (R : Nat → Int32) (I' : Nat → Nat → Int32) (w : Int32) : Prop := w.toInt = agF b N ∧ ((ggG b N).1 = 0 → hGk b (ggG b N).2.2.2 (I' 406) ∧ (∀ j, 221 ≤ j → j < 1427 → (∀ k, k < 6 → j ≠ 221 + 97 * k) → I' 406 j = 0) ∧ ∀ k, k < 6 → I' 406 (221 + 97 * k) = -1) ∧ ((ggG b N).1 ≠ 0 → I' 406 = R)
theorem cr_X11_ground {μ : dw_S} {K : dw_K} (hI : INV μ) (hK : ∀ (r : Option Value) (w : Int32) (μ' : dw_S), ck_X11_ground μ r w μ' → PCgnd (tbC μ.2.2.1) (μ.2.2.1 1 1).toInt.toNat μ.2.2.1 μ'.2.2.1 w → K r μ') : t_X11_ground [.ref 0] μ K := by
  refine cj_X11_ground _ μ (fun r μ' => ∃ w, ck_X11_ground μ r w μ') (fun r μ' => ∀ w, r = some (.int w) → PCgnd (tbC μ.2.2.1) (μ.2.2.1 1 1).toInt.toNat μ.2.2.1 μ'.2.2.1 w) K (fun r μ' h q => h.elim (fun w h => hK r w μ' h (q w h.2.1))) (cl_X11_ground hI (fun r w μ' h => ⟨w, h⟩)) ?_
  have hb := hb_1 hI
  obtain ⟨n, sh, I, J⟩ := μ
  obtain rfl : sh = SH1 := hI.1
  have hN : (I 1 1).toInt = ((I 1 1).toInt.toNat : Nat) := n_of hb.1
  have h9 : (I 1 1).toInt.toNat ≤ 940 := by
    have e : (I 1 1).toInt ≤ 940 := hb.2
    omega
  show t_X11_ground [.ref 0] (n, SH1, I, J) (fun r μ' => ∀ w, r = some (.int w) → PCgnd (tbC I) (I 1 1).toInt.toNat I μ'.2.2.1 w)
  generalize (I 1 1).toInt.toNat = N at hN h9 ⊢
  have hp : (ggF (tbC I) N 900 941 0 0 g0).2.1 ≤ 940 := Nat.le_trans (pl_gg 941 0 0 g0 (Nat.zero_le _)) h9
  refine v_cground hN h9 rfl hp (fun g I' w' _ _ f1 f2 f3 _ f4 _ f5 hw w e => ?_) (fun g I' w' f0 _ hw w e => ?_)
  · refine ⟨?_, fun _ => ⟨f1, f2, f3, f4, fun s hs => (f5 s hs).1⟩, fun no => absurd g no⟩
    rw [ro_eq e]; unfold agF; rw [if_pos g]; exact hw
  · refine ⟨?_, fun ok => absurd ok g, fun _ a q1 q2 => f0 a (by omega) (by omega)⟩
    rw [ro_eq e]; unfold agF; rw [if_neg g]; exact hw
theorem hGk_of {b : fB} {I0 I : Nat → Nat → Int32} {J0 J : Nat → Nat → Int64} {s : gS} {N : Nat} {R : Nat → Int32} (h : GMp I0 J0 I J s) (hb : tbM I0 = b) (hO : gOK N s) (hR : ∀ j, j < 221 → R j = I 407 j) : hGk b s R := by
  obtain ⟨-, ⟨h0, h1, h2, h3, h4⟩, -, hk, -, hr, hs⟩ := h
  obtain ⟨o1, o2, o3, o4, -⟩ := hO
  have at' : ∀ j, j < 221 → R j = I 407 j := hR
  refine ⟨⟨?_, ?_, ?_, ?_, ?_⟩, fun i hi => ?_, fun y hy x hx => ?_, fun i hi => ?_⟩
  · rw [at' 0 (by decide)]; exact h0
  · rw [at' 1 (by decide)]; exact h1
  · rw [at' 2 (by decide)]; exact h2
  · rw [at' 3 (by decide)]; exact h3
  · rw [at' 4 (by decide)]; exact h4
  · rw [at' (5 + i) (by omega), at' (13 + i) (by omega), at' (21 + i) (by omega)]; exact hk i hi
  · have q1 : y * s.2.1 ≤ 11 * s.2.1 := Nat.mul_le_mul_right _ (by omega)
    have q2 : 11 * s.2.1 + x < 144 := by omega
    rw [at' (29 + (y * s.2.1 + x)) (by omega), ← hb]; exact hr y hy x hx
  · rw [at' (173 + 4 * i) (by omega), at' (173 + 4 * i + 1) (by omega), at' (173 + 4 * i + 2) (by omega), at' (173 + 4 * i + 3) (by omega)]; exact hs i hi
theorem cr_X12_ground {μ : dw_S} {K : dw_K} (hI : INV μ) (hJ : mRes μ.2.2.2) (hK : ∀ (r : Option Value) (w : Int32) (μ' : dw_S), ck_X12_ground μ r w μ' → PMgnd (tbL μ.2.2.1) (μ.2.2.1 404 2).toInt.toNat (μ.2.2.1 406) μ'.2.2.1 w → K r μ') : t_X12_ground [.ref 404] μ K := by
  refine cj_X12_ground _ μ (fun r μ' => ∃ w, ck_X12_ground μ r w μ') (fun r μ' => ∀ w, r = some (.int w) → PMgnd (tbL μ.2.2.1) (μ.2.2.1 404 2).toInt.toNat (μ.2.2.1 406) μ'.2.2.1 w) K (fun r μ' h q => h.elim (fun w h => hK r w μ' h (q w h.2.1))) (cl_X12_ground hI (fun r w μ' h => ⟨w, h⟩)) ?_
  have hb := hb_404 hI
  obtain ⟨n, sh, I, J⟩ := μ
  obtain rfl : sh = SH1 := hI.1
  have hN : (I 404 2).toInt = ((I 404 2).toInt.toNat : Nat) := n_of hb.1
  have h9 : (I 404 2).toInt.toNat ≤ 940 := by
    have e : (I 404 2).toInt ≤ 940 := hb.2
    omega
  show t_X12_ground [.ref 404] (n, SH1, I, J) (fun r μ' => ∀ w, r = some (.int w) → PMgnd (tbL I) (I 404 2).toInt.toNat (I 406) μ'.2.2.1 w)
  generalize (I 404 2).toInt.toNat = N at hN h9 ⊢
  refine v_mground hJ hN h9 rfl (fun g I3 I' J' w' hM ht hO hT _ _ _ _ hw w e => ?_) (fun g I' J' w' f0 _ _ _ hw w e => ?_)
  · refine ⟨?_, fun _ => ⟨hGk_of hM ht hO (fun j hj => hT.2.1 j hj), hT.2.2.1, hT.2.2.2⟩, fun no => absurd g no⟩
    rw [ro_eq e]; unfold agF; rw [if_pos g]; exact hw
  · refine ⟨?_, fun ok => absurd ok g, fun _ => f0 406 (by decide) (by decide)⟩
    rw [ro_eq e]; unfold agF; rw [if_neg g]; exact hw
theorem gcp_eq {I I' : Nat → Nat → Int32} {b : fB} {s : gS} (h : ∀ a, 4 ≤ a → a ≤ 9 → I' a = I a) (g : GCp I b s) : GCp I' b s := by
  obtain ⟨g1, g2, g3⟩ := g
  refine ⟨by rw [h 4 (by decide) (by decide)]; exact g1, fun i hi => ?_, fun y hy x hx => ?_⟩
  · rw [h 5 (by decide) (by decide), h 6 (by decide) (by decide), h 7 (by decide) (by decide)]; exact g2 i hi
  · rw [h 8 (by decide) (by decide), h 9 (by decide) (by decide)]; exact g3 y hy x hx
theorem rel_gnd {b : fB} {N : Nat} {I I1 I2 : Nat → Nat → Int32} {w1 w2 : Int32} (h : REL I) (c : PCgnd b N I I1 w1) (m : PMgnd b N (I 406) I2 w2) (f : ∀ a, 3 ≤ a → a ≤ 99 → I2 a = I1 a) (k : ∀ a, (210 ≤ a ∧ a ≤ 403) ∨ a = 432 ∨ a = 433 → I2 a = I a) : REL I2 ∧ w1 = w2 := by
  obtain ⟨e1, c1, c2⟩ := c
  obtain ⟨e2, m1, m2⟩ := m
  refine ⟨⟨?_, kp_fr k h.2⟩, i_eq (e1.trans e2.symm)⟩
  by_cases ok : (ggG b N).1 = 0
  · obtain ⟨f1, f2, f3, f4, f5⟩ := c1 ok
    obtain ⟨g1, g2, g3⟩ := m1 ok
    exact srel_ground g1 f2 (gg_g 941 0 0 g0 (Nat.zero_le _) gBd_0 ok) (gcp_eq (fun a q1 q2 => f a (by omega) (by omega)) f1) (fun q hq => by rw [f (58 + 7 * q) (by omega) (by omega)]; exact f5 q hq) (by rw [f 11 (by decide) (by decide)]; exact f3) (by rw [f 43 (by decide) (by decide)]; exact f4) g2 g3
  · exact srel_fr (S := 3) (fun a q1 q2 => (f a q1 (by omega)).trans (c2 ok a q1 (by omega))) (fun j _ => by rw [m2 ok]) h.1
/-! go -/
abbrev goR (R : Nat → Int32) : Nat × Nat × Int32 × gL := goF R (R 803).toInt.toNat 0 (cvR R, rrS R, dR R)
abbrev okG (R : Nat → Int32) (a1 : Int32) : Prop := R 894 ≠ 0 ∧ 0 ≤ a1.toInt ∧ a1.toInt ≤ 1
def agA (R : Nat → Int32) : Int := if (goR R).1 = 0 then -1 else ((goR R).2.1 : Int)
def outE (O : Nat → Int32) (R : Nat → Int32) : Prop := (O 0).toInt = (goR R).1 ∧ (O 1).toInt = ((goR R).2.2.2.2.2 : Int) - dR R ∧ O 2 = (goR R).2.2.1 ∧ (O 3).toInt = wcF (goR R).2.2.2.2.1.2.1 1 (Nn R) ∧ O 4 = suF (goR R).2.2.2.1 (Nn R)
def PCgo (R : Nat → Int32) (I I' : Nat → Nat → Int32) (a1 w : Int32) : Prop := (okG R a1 ∧ w.toInt = agA R ∧ outE (I' 208) R ∧ I' 0 13 = 1 ∧ (a1.toInt = 0 → ∀ a, 3 ≤ a → a ≤ 99 → I' a = I a) ∧ (a1.toInt = 1 → (∀ a, 3 ≤ a → a ≤ 99 → a ≠ 43 → (a < 54 ∨ 57 < a) → I' a = I a) ∧ (∀ j, j ≠ 2 → j ≠ 3 → j ≠ 4 → I' 43 j = I 43 j) ∧ GC I' 43 R (goR R).2.2.2.1 (goR R).2.2.2.2.1 (goR R).2.2.2.2.2 ∧ GP R (goR R).2.2.2.1 (goR R).2.2.2.2.1 (goR R).2.2.2.2.2)) ∨ (¬ okG R a1 ∧ w = -2 ∧ I' = I)
def PMgo (R : Nat → Int32) (I' : Nat → Nat → Int32) (a1 w : Int32) : Prop := (okG R a1 ∧ w.toInt = agA R ∧ outE (I' 421) R ∧ I' 404 41 = 1 ∧ (a1.toInt = 0 → I' 406 = R) ∧ (a1.toInt = 1 → mOn R (I' 406) (goR R).2.2.2.1 (goR R).2.2.2.2.1 (goR R).2.2.2.2.2)) ∨ (¬ okG R a1 ∧ w = -2 ∧ I' 406 = R)
theorem no01 {R : Nat → Int32} {a1 : Int32} (h : R 894 = 0 ∨ ¬ (0 ≤ a1.toInt ∧ a1.toInt ≤ 1)) : ¬ okG R a1 := fun q => h.elim (fun e => q.1 e) (fun e => e q.2)
theorem cr_X11_go {μ : dw_S} {K : dw_K} {a1 : Int32} (hI : INV μ) (hR : REL μ.2.2.1) (hK : ∀ (r : Option Value) (w : Int32) (μ' : dw_S), ck_X11_go a1 μ r w μ' → PCgo (μ.2.2.1 406) μ.2.2.1 μ'.2.2.1 a1 w → K r μ') : t_X11_go [.ref 0, .int a1] μ K := by
  refine cj_X11_go _ μ (fun r μ' => ∃ w, ck_X11_go a1 μ r w μ') (fun r μ' => ∀ w, r = some (.int w) → PCgo (μ.2.2.1 406) μ.2.2.1 μ'.2.2.1 a1 w) K (fun r μ' h q => h.elim (fun w h => hK r w μ' h (q w h.2.1))) (cl_X11_go hI (fun r w μ' h => ⟨w, h⟩)) ?_
  have hz : (μ.2.2.1 44 0) = 0 ∨ (μ.2.2.1 44 0) = 1 := by
    have h := hI.2.1 44 0
    rw [show dx_seg (dx_ce 44).iv 0 = (0, 1) from by decide +kernel] at h
    have h : 0 ≤ (μ.2.2.1 44 0).toInt ∧ (μ.2.2.1 44 0).toInt ≤ 1 := h
    exact fi_z1 (by omega)
  obtain ⟨n, sh, I, J⟩ := μ
  obtain rfl : sh = SH1 := hI.1
  have hS : SREL I 3 (I 406) := hR.1
  refine v_cgo hS hz (fun no w e => ?_) (fun h8 ok I' wr r er ew o0 o1 o2 o3 o4 f3 _ g0 g1 gP w e => ?_)
  · rw [ro_eq e]; exact Or.inr ⟨no01 no, rfl, rfl⟩
  · rw [ro_eq e]
    subst er
    refine Or.inl ⟨⟨h8, ok⟩, ew, ⟨o0, o1, o2, o3, o4⟩, f3, fun q a q1 q2 => g0 q a (by omega) (by omega) (by omega), fun q => ?_⟩
    obtain ⟨g2, g3, g4⟩ := g1 q
    exact ⟨fun a q1 q2 q3 q4 => g2 a (by omega) q3 q4 (by omega), g3, g4, gP⟩
theorem cr_X12_go {μ : dw_S} {K : dw_K} {a1 : Int32} {R : Nat → Int32} (hI : INV μ) (e6 : μ.2.2.1 406 = R) (hG : GOK R) (hgo : R 894 ≠ 0 → GP R (cvR R) (rrS R) (dR R) ∧ NOK (rnS R) ∧ (R 895).toInt = (dR R : Nat)) (hB : ∀ i : Nat, (i : Int) < (R 803).toInt → PB R i) (hp : 0 ≤ (R 803).toInt ∧ (R 803).toInt ≤ 30) (hK : ∀ (r : Option Value) (w : Int32) (μ' : dw_S), ck_X12_go a1 μ r w μ' → PMgo R μ'.2.2.1 a1 w → K r μ') : t_X12_go [.ref 404, .int a1] μ K := by
  refine cj_X12_go _ μ (fun r μ' => ∃ w, ck_X12_go a1 μ r w μ') (fun r μ' => ∀ w, r = some (.int w) → PMgo R μ'.2.2.1 a1 w) K (fun r μ' h q => h.elim (fun w h => hK r w μ' h (q w h.2.1))) (cl_X12_go hI (fun r w μ' h => ⟨w, h⟩)) ?_
  obtain ⟨n, sh, I, J⟩ := μ
  obtain rfl : sh = SH1 := hI.1
  refine v_mgo e6 hG hgo hB hp (fun no I' f1 _ _ w e => ?_) (fun h8 ok I' wr r er ew o0 o1 o2 o3 o4 f4 _ _ _ g0 g1 w e => ?_)
  · rw [ro_eq e]; exact Or.inr ⟨no01 no, rfl, (f1 406 (by decide)).trans e6⟩
  · rw [ro_eq e]
    subst er
    exact Or.inl ⟨⟨h8, ok⟩, ew, ⟨o0, o1, o2, o3, o4⟩, f4, g0, g1⟩
theorem rel_go {I I1 I2 : Nat → Nat → Int32} {a1 w1 w2 : Int32} (h : REL I) (c : PCgo (I 406) I I1 a1 w1) (m : PMgo (I 406) I2 a1 w2) (f : ∀ a, 3 ≤ a → a ≤ 99 → I2 a = I1 a) (k : ∀ a, (210 ≤ a ∧ a ≤ 403) ∨ a = 432 ∨ a = 433 → I2 a = I a) : REL I2 ∧ w1 = w2 := by
  rcases c with ⟨ok, e1, -, -, c0, c1⟩ | ⟨no, rfl, rfl⟩
  · rcases m with ⟨-, e2, -, -, m0, m1⟩ | ⟨no, -⟩
    · refine ⟨⟨?_, kp_fr k h.2⟩, i_eq (e1.trans e2.symm)⟩
      have hx : a1.toInt = 0 ∨ a1.toInt = 1 := by obtain ⟨-, q1, q2⟩ := ok; omega
      rcases hx with q | q
      · exact srel_fr (S := 3) (fun a q1 q2 => (f a q1 (by omega)).trans (c0 q a q1 (by omega))) (fun j _ => by rw [m0 q]) h.1
      · obtain ⟨f1, f2, gC, gP⟩ := c1 q
        exact srel_fr (S := 3) (fun a q1 q2 => f a q1 (by omega)) (fun _ _ => rfl) (srel_go h.1 ok.1 f1 f2 gC gP (m1 q))
    · exact absurd ok no
  · rcases m with ⟨ok, -⟩ | ⟨-, rfl, e⟩
    · exact absurd ok no
    · exact ⟨rel_fr f e k h, rfl⟩
