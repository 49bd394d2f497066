/-! ===== the tapes alike; feed and night, wholly ===== -/
def fdF (b : fB) (N : Nat) (v1 v2 v3 v4 v5 : Int32) : fB := fun k =>
  if k < N then b k
  else if k < N + 4 then byF v1 (k - (N + 0))
  else if k < N + 8 then byF v2 (k - (N + 4))
  else if k < N + 12 then byF v3 (k - (N + 8))
  else if k < N + 16 then byF v4 (k - (N + 12))
  else if k < N + 20 then byF v5 (k - (N + 16))
  else 0
def fdN (b : fB) (N : Nat) (v1 v2 v3 v4 v5 : Int32) : fB := if N ≤ 920 then fdF b N v1 v2 v3 v4 v5 else b
theorem fd_out {b : fB} {N k : Nat} {v1 v2 v3 v4 v5 : Int32} (h : N + 20 ≤ k) : fdF b N v1 v2 v3 v4 v5 k = 0 := by
  unfold fdF
  rw [if_neg (by omega), if_neg (by omega), if_neg (by omega), if_neg (by omega), if_neg (by omega), if_neg (by omega)]
theorem fd_row {R : Nat → Int32} {b : fB} {N : Nat} {v1 v2 v3 v4 v5 : Int32} (h0 : ∀ k, k < N → R k = b k)
    (h1 : ∀ j, j < 4 → R (N + 0 + j) = byF v1 j) (h2 : ∀ j, j < 4 → R (N + 4 + j) = byF v2 j) (h3 : ∀ j, j < 4 → R (N + 8 + j) = byF v3 j)
    (h4 : ∀ j, j < 4 → R (N + 12 + j) = byF v4 j) (h5 : ∀ j, j < 4 → R (N + 16 + j) = byF v5 j) {k : Nat} (hk : k < N + 20) : R k = fdF b N v1 v2 v3 v4 v5 k := by
  have pt : ∀ (s : Nat) (v : Int32), (∀ j, j < 4 → R (N + s + j) = byF v j) → N + s ≤ k → k < N + s + 4 → R k = byF v (k - (N + s)) := by
    intro s v h g1 g2
    have q := h (k - (N + s)) (by omega)
    rw [show N + s + (k - (N + s)) = k by omega] at q
    exact q
  unfold fdF
  by_cases c0 : k < N
  · rw [if_pos c0]; exact h0 k c0
  rw [if_neg c0]
  by_cases c1 : k < N + 4
  · rw [if_pos c1]; exact pt 0 v1 h1 (by omega) (by omega)
  rw [if_neg c1]
  by_cases c2 : k < N + 8
  · rw [if_pos c2]; exact pt 4 v2 h2 (by omega) (by omega)
  rw [if_neg c2]
  by_cases c3 : k < N + 12
  · rw [if_pos c3]; exact pt 8 v3 h3 (by omega) (by omega)
  rw [if_neg c3]
  by_cases c4 : k < N + 16
  · rw [if_pos c4]; exact pt 12 v4 h4 (by omega) (by omega)
  rw [if_neg c4, if_pos hk]
  exact pt 16 v5 h5 (by omega) (by omega)
theorem tbL_in {I : Nat → Nat → Int32} {k : Nat} (h : (k : Int) < (I 404 2).toInt) : tbL I k = I 405 k &&& 255 := if_pos h
theorem tbL_eq {I I' : Nat → Nat → Int32} (h1 : (I' 404 2).toInt = (I 404 2).toInt) (h2 : I' 405 = I 405) : tbL I' = tbL I := by
  funext k
  unfold tbL
  rw [h1, h2]
theorem tbC_eq2 {I I' : Nat → Nat → Int32} (h1 : (I' 1 1).toInt = (I 1 1).toInt) (h2 : I' 2 = I 2) : tbC I' = tbC I := by
  funext k
  unfold tbC
  rw [h1, h2]
/-- both tapes cut alike stay alike -/
theorem tr_keep {I I' : Nat → Nat → Int32} (hT : tbC I = tbL I) (h2 : I' 2 = I 2) (h405 : I' 405 = I 405) (hz : (I 1 1).toInt = (I 404 2).toInt) (hz' : (I' 1 1).toInt = (I' 404 2).toInt) (hle : (I' 1 1).toInt ≤ (I 1 1).toInt) : tbC I' = tbL I' := by
  funext k
  by_cases c : (k : Int) < (I' 1 1).toInt
  · rw [tbC_in c, tbL_in (by omega), h2, h405]
    have q := congrFun hT k
    rw [tbC_in (by omega), tbL_in (by omega)] at q
    exact q
  · unfold tbC tbL
    rw [if_neg c, if_neg (by omega)]
theorem ro_eq {w w' : Int32} (h : some (Value.int w) = some (Value.int w')) : w' = w := by
  injection h with h
  injection h with h
  exact h.symm
theorem n_of {x : Int} (h : 0 ≤ x) : x = (x.toNat : Nat) := by omega
theorem hb_1 {μ : dw_S} (hI : INV μ) : 0 ≤ (μ.2.2.1 1 1).toInt ∧ (μ.2.2.1 1 1).toInt ≤ 940 := by
  have h := hI.2.1 1 1
  rw [show dx_seg (dx_ce 1).iv 1 = (0, 940) from by decide +kernel] at h
  exact h
theorem hb_404 {μ : dw_S} (hI : INV μ) : 0 ≤ (μ.2.2.1 404 2).toInt ∧ (μ.2.2.1 404 2).toInt ≤ 940 := by
  have h := hI.2.1 404 2
  rw [show dx_seg (dx_ce 404).iv 2 = (0, 940) from by decide +kernel] at h
  exact h
theorem cf_X11_feed {μ : dw_S} {K : dw_K} {a1 a2 a3 a4 a5 : Int32} (hI : INV μ) (hK : ∀ (r : Option Value) (w : Int32) (μ' : dw_S), ck_X11_feed a1 a2 a3 a4 a5 μ r w μ' → tbC μ'.2.2.1 = fdN (tbC μ.2.2.1) (μ.2.2.1 1 1).toInt.toNat a1 a2 a3 a4 a5 → K r μ') : t_X11_feed [.ref 0, .int a1, .int a2, .int a3, .int a4, .int a5] μ K := by
  refine cj_X11_feed _ μ (fun r μ' => ∃ w, ck_X11_feed a1 a2 a3 a4 a5 μ r w μ') (fun r μ' => tbC μ'.2.2.1 = fdN (tbC μ.2.2.1) (μ.2.2.1 1 1).toInt.toNat a1 a2 a3 a4 a5) K (fun r μ' h q => h.elim (fun w h => hK r w μ' h q)) (cl_X11_feed hI (fun r w μ' h => ⟨w, h⟩)) ?_
  have hb := hb_1 hI
  obtain ⟨n, sh, I, J⟩ := μ
  obtain rfl : sh = SH1 := hI.1
  have hN : (I 1 1).toInt = ((I 1 1).toInt.toNat : Nat) := n_of hb.1
  have h9 : (I 1 1).toInt.toNat ≤ 940 := by
    have := hb.2
    have e : (I 1 1).toInt ≤ 940 := this
    omega
  show t_X11_feed [.ref 0, .int a1, .int a2, .int a3, .int a4, .int a5] (n, SH1, I, J) (fun r μ' => tbC μ'.2.2.1 = fdN (tbC I) (I 1 1).toInt.toNat a1 a2 a3 a4 a5)
  generalize (I 1 1).toInt.toNat = N at hN h9 ⊢
  refine v_cfeed hN h9 (fun g I' hA _ => ?_) (fun g I' w hA hF h1 _ h0 C1 C2 C3 C4 C5 => ?_)
  · show tbC I' = fdN (tbC I) N a1 a2 a3 a4 a5
    unfold fdN
    rw [if_neg (by omega)]
    exact tbC_eq (congrFun (hA 1 (by decide)) 1) (hA 2 (by decide))
  · show tbC I' = fdN (tbC I) N a1 a2 a3 a4 a5
    unfold fdN
    rw [if_pos g]
    funext k
    by_cases c : k < N + 20
    · rw [tbC_in (by omega)]
      exact fd_row (R := I' 2) (fun k hk => (h0 k hk).trans (tbC_in (by omega)).symm) C1 C2 C3 C4 C5 c
    · rw [fd_out (by omega)]
      unfold tbC
      rw [if_neg (by omega)]
theorem cf_X12_feed {μ : dw_S} {K : dw_K} {a1 a2 a3 a4 a5 : Int32} (hI : INV μ) (hK : ∀ (r : Option Value) (w : Int32) (μ' : dw_S), ck_X12_feed a1 a2 a3 a4 a5 μ r w μ' → tbL μ'.2.2.1 = fdN (tbL μ.2.2.1) (μ.2.2.1 404 2).toInt.toNat a1 a2 a3 a4 a5 → K r μ') : t_X12_feed [.ref 404, .int a1, .int a2, .int a3, .int a4, .int a5] μ K := by
  refine cj_X12_feed _ μ (fun r μ' => ∃ w, ck_X12_feed a1 a2 a3 a4 a5 μ r w μ') (fun r μ' => tbL μ'.2.2.1 = fdN (tbL μ.2.2.1) (μ.2.2.1 404 2).toInt.toNat a1 a2 a3 a4 a5) K (fun r μ' h q => h.elim (fun w h => hK r w μ' h q)) (cl_X12_feed hI (fun r w μ' h => ⟨w, h⟩)) ?_
  have hb := hb_404 hI
  obtain ⟨n, sh, I, J⟩ := μ
  obtain rfl : sh = SH1 := hI.1
  have hN : (I 404 2).toInt = ((I 404 2).toInt.toNat : Nat) := n_of hb.1
  have h9 : (I 404 2).toInt.toNat ≤ 940 := by
    have := hb.2
    have e : (I 404 2).toInt ≤ 940 := this
    omega
  show t_X12_feed [.ref 404, .int a1, .int a2, .int a3, .int a4, .int a5] (n, SH1, I, J) (fun r μ' => tbL μ'.2.2.1 = fdN (tbL I) (I 404 2).toInt.toNat a1 a2 a3 a4 a5)
  generalize (I 404 2).toInt.toNat = N at hN h9 ⊢
  refine v_mfeed hN h9 (fun g I' hA hF => ?_) (fun g I' w hA hF h1 _ h0 C1 C2 C3 C4 C5 => ?_)
  · show tbL I' = fdN (tbL I) N a1 a2 a3 a4 a5
    unfold fdN
    rw [if_neg (by omega)]
    exact tbL_eq (congrArg Int32.toInt (hF 2 (by decide))) (hA 405 (by decide))
  · show tbL I' = fdN (tbL I) N a1 a2 a3 a4 a5
    unfold fdN
    rw [if_pos g]
    funext k
    by_cases c : k < N + 20
    · rw [tbL_in (by omega)]
      exact fd_row (R := fun k => I' 405 k &&& 255) (fun k hk => by rw [tbL_in (by omega)]; exact congrArg (· &&& 255) (h0 k hk)) C1 C2 C3 C4 C5 c
    · rw [fd_out (by omega)]
      unfold tbL
      rw [if_neg (by omega)]
/-- night's answer -/
def anF (b : fB) (N : Nat) (x : Int32) : Int :=
  if 0 ≤ x.toInt ∧ x.toInt ≤ 5 then (if (ngF b N 400 25 0 0 0 []).1 = 0 then ((ngF b N 400 25 0 0 0 []).2.2.1 : Int) else -1 - ((ngF b N 400 25 0 0 0 []).2.1 : Int)) else -1001
theorem cf_X11_night {μ : dw_S} {K : dw_K} {a1 : Int32} (hI : INV μ) (hK : ∀ (r : Option Value) (w : Int32) (μ' : dw_S), ck_X11_night a1 μ r w μ' → w.toInt = anF (tbC μ.2.2.1) (μ.2.2.1 1 1).toInt.toNat a1 → K r μ') : t_X11_night [.ref 0, .int a1] μ K := by
  refine cj_X11_night _ μ (fun r μ' => ∃ w, ck_X11_night a1 μ r w μ') (fun r μ' => ∀ w, r = some (.int w) → w.toInt = anF (tbC μ.2.2.1) (μ.2.2.1 1 1).toInt.toNat a1) K (fun r μ' h q => h.elim (fun w h => hK r w μ' h (q w h.2.1))) (cl_X11_night hI (fun r w μ' h => ⟨w, h⟩)) ?_
  have hb := hb_1 hI
  obtain ⟨n, sh, I, J⟩ := μ
  obtain rfl : sh = SH1 := hI.1
  have hN : (I 1 1).toInt = ((I 1 1).toInt.toNat : Nat) := n_of hb.1
  have h9 : (I 1 1).toInt.toNat ≤ 940 := by
    have e : (I 1 1).toInt ≤ 940 := hb.2
    omega
  show t_X11_night [.ref 0, .int a1] (n, SH1, I, J) (fun r μ' => ∀ w, r = some (.int w) → w.toInt = anF (tbC I) (I 1 1).toInt.toNat a1)
  generalize (I 1 1).toInt.toNat = N at hN h9 ⊢
  have cm : (-1001 : Int32).toInt = -1001 := rfl
  have hp : (ngF (tbC I) N 400 25 0 0 0 []).2.1 ≤ 940 := Nat.le_trans (pl_ng 25 0 0 0 [] (Nat.zero_le _)) h9
  refine v_cnight hN h9 rfl (fun g I' _ _ w e => ?_) (fun s hs g g2 I' w' _ _ _ _ _ hw w e => ?_) (fun s hs g g2 I' w' _ _ hw w e => ?_) hp
  · rw [ro_eq e, cm]; unfold anF; rw [if_neg g]
  · rw [ro_eq e]; unfold anF; rw [if_pos (by omega), if_pos g2]; exact hw
  · rw [ro_eq e]; unfold anF; rw [if_pos (by omega), if_neg g2]; exact hw
theorem cf_X12_night {μ : dw_S} {K : dw_K} {a1 : Int32} (hI : INV μ) (hK : ∀ (r : Option Value) (w : Int32) (μ' : dw_S), ck_X12_night a1 μ r w μ' → w.toInt = anF (tbL μ.2.2.1) (μ.2.2.1 404 2).toInt.toNat a1 → K r μ') : t_X12_night [.ref 404, .int a1] μ K := by
  refine cj_X12_night _ μ (fun r μ' => ∃ w, ck_X12_night a1 μ r w μ') (fun r μ' => ∀ w, r = some (.int w) → w.toInt = anF (tbL μ.2.2.1) (μ.2.2.1 404 2).toInt.toNat a1) K (fun r μ' h q => h.elim (fun w h => hK r w μ' h (q w h.2.1))) (cl_X12_night hI (fun r w μ' h => ⟨w, h⟩)) ?_
  have hb := hb_404 hI
  obtain ⟨n, sh, I, J⟩ := μ
  obtain rfl : sh = SH1 := hI.1
  have hN : (I 404 2).toInt = ((I 404 2).toInt.toNat : Nat) := n_of hb.1
  have h9 : (I 404 2).toInt.toNat ≤ 940 := by
    have e : (I 404 2).toInt ≤ 940 := hb.2
    omega
  show t_X12_night [.ref 404, .int a1] (n, SH1, I, J) (fun r μ' => ∀ w, r = some (.int w) → w.toInt = anF (tbL I) (I 404 2).toInt.toNat a1)
  generalize (I 404 2).toInt.toNat = N at hN h9 ⊢
  have cm : (-1001 : Int32).toInt = -1001 := rfl
  refine v_mnight hN h9 rfl (fun g I' _ _ _ w e => ?_) (fun s hs g g2 I' J' w' _ _ _ _ _ _ _ _ _ hw _ _ w e => ?_) (fun s hs g g2 I' J' w' _ _ _ _ hw w e => ?_)
  · rw [ro_eq e, cm]; unfold anF; rw [if_neg g]
  · rw [ro_eq e]; unfold anF; rw [if_pos (by omega), if_pos g2]; exact hw
  · rw [ro_eq e]; unfold anF; rw [if_pos (by omega), if_neg g2]; exact hw
