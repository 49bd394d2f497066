/-! ===== ground, wholly ===== -/
noncomputable def agF (b : fB) (N : Nat) : Int := if (ggF b N 900 941 0 0 g0).1 = 0 then ((ggF b N 900 941 0 0 g0).2.2.1 : Int) else -1 - ((ggF b N 900 941 0 0 g0).2.1 : Int)
theorem cf_X11_ground {μ : dw_S} {K : dw_K} (hI : INV μ) (hK : ∀ (r : Option Value) (w : Int32) (μ' : dw_S), ck_X11_ground μ r w μ' → w.toInt = agF (tbC μ.2.2.1) (μ.2.2.1 1 1).toInt.toNat → K r μ') : t_X11_ground [.ref 0] μ K := by
  refine cj_X11_ground _ μ (fun r μ' => ∃ w, ck_X11_ground μ r w μ') (fun r μ' => ∀ w, r = some (.int w) → w.toInt = agF (tbC μ.2.2.1) (μ.2.2.1 1 1).toInt.toNat) K (fun r μ' h q => h.elim (fun w h => hK r w μ' h (q w h.2.1))) (cl_X11_ground hI (fun r w μ' h => ⟨w, h⟩)) ?_
  have hb := hb_1 hI
  obtain ⟨n, sh, I, J⟩ := μ
  obtain rfl : sh = SH1 := hI.1
  have hN : (I 1 1).toInt = ((I 1 1).toInt.toNat : Nat) := n_of hb.1
  have h9 : (I 1 1).toInt.toNat ≤ 940 := by
    have e : (I 1 1).toInt ≤ 940 := hb.2
    omega
  show t_X11_ground [.ref 0] (n, SH1, I, J) (fun r μ' => ∀ w, r = some (.int w) → w.toInt = agF (tbC I) (I 1 1).toInt.toNat)
  generalize (I 1 1).toInt.toNat = N at hN h9 ⊢
  have hp : (ggF (tbC I) N 900 941 0 0 g0).2.1 ≤ 940 := Nat.le_trans (pl_gg 941 0 0 g0 (Nat.zero_le _)) h9
  refine v_cground hN h9 rfl hp (fun g I' w' _ _ _ _ _ _ _ _ _ hw w e => ?_) (fun g I' w' _ _ hw w e => ?_)
  · rw [ro_eq e]; unfold agF; rw [if_pos g]; exact hw
  · rw [ro_eq e]; unfold agF; rw [if_neg g]; exact hw
theorem cf_X12_ground {μ : dw_S} {K : dw_K} (hI : INV μ) (hJ : mRes μ.2.2.2) (hK : ∀ (r : Option Value) (w : Int32) (μ' : dw_S), ck_X12_ground μ r w μ' → w.toInt = agF (tbL μ.2.2.1) (μ.2.2.1 404 2).toInt.toNat → K r μ') : t_X12_ground [.ref 404] μ K := by
  refine cj_X12_ground _ μ (fun r μ' => ∃ w, ck_X12_ground μ r w μ') (fun r μ' => ∀ w, r = some (.int w) → w.toInt = agF (tbL μ.2.2.1) (μ.2.2.1 404 2).toInt.toNat) K (fun r μ' h q => h.elim (fun w h => hK r w μ' h (q w h.2.1))) (cl_X12_ground hI (fun r w μ' h => ⟨w, h⟩)) ?_
  have hb := hb_404 hI
  obtain ⟨n, sh, I, J⟩ := μ
  obtain rfl : sh = SH1 := hI.1
  have hN : (I 404 2).toInt = ((I 404 2).toInt.toNat : Nat) := n_of hb.1
  have h9 : (I 404 2).toInt.toNat ≤ 940 := by
    have e : (I 404 2).toInt ≤ 940 := hb.2
    omega
  show t_X12_ground [.ref 404] (n, SH1, I, J) (fun r μ' => ∀ w, r = some (.int w) → w.toInt = agF (tbL I) (I 404 2).toInt.toNat)
  generalize (I 404 2).toInt.toNat = N at hN h9 ⊢
  refine v_mground hJ hN h9 rfl (fun g I3 I' J' w' _ _ _ _ _ _ _ _ hw w e => ?_) (fun g I' J' w' _ _ _ _ hw w e => ?_)
  · rw [ro_eq e]; unfold agF; rw [if_pos g]; exact hw
  · rw [ro_eq e]; unfold agF; rw [if_neg g]; exact hw
