theorem lw_0 {L : Nat} {xs : Nat → Int32} {i : Int32} {u v : Option Value} {bc bs : Nat} {μ : dw_S} (hI : INV μ) (hz : (μ.2.2.1 1 1).toInt = (μ.2.2.1 404 2).toInt ∧ (μ.2.2.1 210 0).toInt = (μ.2.2.1 433 0).toInt ∧ (μ.2.2.1 307 0).toInt = (μ.2.2.1 433 1).toInt) (hT : tbC μ.2.2.1 = tbL μ.2.2.1 ∧ mRes μ.2.2.2 ∧ REL μ.2.2.1) (h0 : 0 ≤ i.toInt) (h6 : i.toInt + 6 ≤ L) (hL : L ≤ 3072) (hc : 1 ≤ bc) (hs : 6 ≤ bs)
    (hk : ∀ (u v : Option Value) (bc' bs' : Nat) (μ' : dw_S), bc ≤ bc' + 1 → bs ≤ bs' + 6 → INV μ' → ((μ'.2.2.1 1 1).toInt = (μ'.2.2.1 404 2).toInt ∧ (μ'.2.2.1 210 0).toInt = (μ'.2.2.1 433 0).toInt ∧ (μ'.2.2.1 307 0).toInt = (μ'.2.2.1 433 1).toInt) → (tbC μ'.2.2.1 = tbL μ'.2.2.1 ∧ mRes μ'.2.2.2 ∧ REL μ'.2.2.1) → dw_ok (pr_law L xs) 1932 bc' bs' (dw_l1 i u v) [] μ') : dw_ok (pr_law L xs) 224 bc bs (dw_l1 i u v) [] μ := by
  have e1 : (i + 1).toInt = i.toInt + 1 := by
    have c : (1 : Int32).toInt = 1 := rfl
    rw [i_add (by omega) (by omega), c]
  have e2 : (i + 2).toInt = i.toInt + 2 := by
    have c : (2 : Int32).toInt = 2 := rfl
    rw [i_add (by omega) (by omega), c]
  have e3 : (i + 3).toInt = i.toInt + 3 := by
    have c : (3 : Int32).toInt = 3 := rfl
    rw [i_add (by omega) (by omega), c]
  have e4 : (i + 4).toInt = i.toInt + 4 := by
    have c : (4 : Int32).toInt = 4 := rfl
    rw [i_add (by omega) (by omega), c]
  have e5 : (i + 5).toInt = i.toInt + 5 := by
    have c : (5 : Int32).toInt = 5 := rfl
    rw [i_add (by omega) (by omega), c]
  have hb1 := hb_1 hI
  refine q_ald rfl rfl ?_
  refine q_ald rfl rfl ?_
  refine q_ild rfl rfl ?_
  refine q_ic rfl ?_
  refine q_add rfl ?_
  refine q_sald rfl (by omega) (by omega) ?_
  refine q_ald rfl rfl ?_
  refine q_ild rfl rfl ?_
  refine q_ic rfl ?_
  refine q_add rfl ?_
  refine q_sald rfl (by omega) (by omega) ?_
  refine q_ald rfl rfl ?_
  refine q_ild rfl rfl ?_
  refine q_ic rfl ?_
  refine q_add rfl ?_
  refine q_sald rfl (by omega) (by omega) ?_
  refine q_ald rfl rfl ?_
  refine q_ild rfl rfl ?_
  refine q_ic rfl ?_
  refine q_add rfl ?_
  refine q_sald rfl (by omega) (by omega) ?_
  refine q_ald rfl rfl ?_
  refine q_ild rfl rfl ?_
  refine q_ic rfl ?_
  refine q_add rfl ?_
  refine q_sald rfl (by omega) (by omega) ?_
  refine q_callV (as := [.int (xs (i + 1).toInt.toNat), .int (xs (i + 2).toInt.toNat), .int (xs (i + 3).toInt.toNat), .int (xs (i + 4).toInt.toNat), .int (xs (i + 5).toInt.toNat)]) (rest := []) rfl rfl (k_0 hI) rfl (Nat.le_of_ble_eq_true rfl) (cf_X11_feed hI (fun r1 w1 μ1 hc1 hq1 => ?_))
  obtain ⟨hI1, hr1, hy1, ho1, hf1⟩ := hc1
  subst hr1
  show dw_ok (pr_law L xs) 258 bc bs (dw_l1 i u v) [.int w1] μ1
  refine q_pop rfl ?_
  refine q_ald rfl rfl ?_
  refine q_ald rfl rfl ?_
  refine q_ild rfl rfl ?_
  refine q_ic rfl ?_
  refine q_add rfl ?_
  refine q_sald rfl (by omega) (by omega) ?_
  refine q_ald rfl rfl ?_
  refine q_ild rfl rfl ?_
  refine q_ic rfl ?_
  refine q_add rfl ?_
  refine q_sald rfl (by omega) (by omega) ?_
  refine q_ald rfl rfl ?_
  refine q_ild rfl rfl ?_
  refine q_ic rfl ?_
  refine q_add rfl ?_
  refine q_sald rfl (by omega) (by omega) ?_
  refine q_ald rfl rfl ?_
  refine q_ild rfl rfl ?_
  refine q_ic rfl ?_
  refine q_add rfl ?_
  refine q_sald rfl (by omega) (by omega) ?_
  refine q_ald rfl rfl ?_
  refine q_ild rfl rfl ?_
  refine q_ic rfl ?_
  refine q_add rfl ?_
  refine q_sald rfl (by omega) (by omega) ?_
  refine q_callV (as := [.int (xs (i + 1).toInt.toNat), .int (xs (i + 2).toInt.toNat), .int (xs (i + 3).toInt.toNat), .int (xs (i + 4).toInt.toNat), .int (xs (i + 5).toInt.toNat)]) (rest := []) rfl rfl (k_404 hI1) rfl (Nat.le_of_ble_eq_true rfl) (cf_X12_feed hI1 (fun r2 w2 μ2 hc2 hq2 => ?_))
  obtain ⟨hI2, hr2, hy2, ho2, hf2⟩ := hc2
  subst hr2
  show dw_ok (pr_law L xs) 293 bc bs (dw_l1 i u v) [.int w2] μ2
  refine q_pop rfl ?_
  refine q_goto rfl ?_
  exact hk _ _ _ _ _ (by omega) (by omega) hI2 ⟨by omega, by omega, by omega⟩ ⟨(tbC_eq2 ho2.1 (hf2 2 (by decide)).1).trans (hq1.trans (by rw [hq2, tbL_eq ho1.1 (hf1 405 (by decide)).1, ← hT.1, show (μ1.2.2.1 404 2).toInt.toNat = (μ.2.2.1 1 1).toInt.toNat by omega])), mRes_eq hT.2.1 ((hf2 410 (by decide)).2.trans (hf1 410 (by decide)).2), rel_fr (fun a q1 q2 => (hf2 a (rw_out (p := rwS) rfl (rwS_of q1 q2))).1.trans (hf1 a (rw_out (p := rwS) rfl (rwS_of q1 q2))).1) ((hf2 406 (by decide)).1.trans (hf1 406 (by decide)).1) (fun a q => (hf2 a (rw_out (p := rwK) rfl (rwK_of q))).1.trans (hf1 a (rw_out (p := rwK) rfl (rwK_of q))).1) hT.2.2⟩
theorem lw_1 {L : Nat} {xs : Nat → Int32} {i : Int32} {u v : Option Value} {bc bs : Nat} {μ : dw_S} (hI : INV μ) (hz : (μ.2.2.1 1 1).toInt = (μ.2.2.1 404 2).toInt ∧ (μ.2.2.1 210 0).toInt = (μ.2.2.1 433 0).toInt ∧ (μ.2.2.1 307 0).toInt = (μ.2.2.1 433 1).toInt) (hT : tbC μ.2.2.1 = tbL μ.2.2.1 ∧ mRes μ.2.2.2 ∧ REL μ.2.2.1) (h0 : 0 ≤ i.toInt) (h6 : i.toInt + 6 ≤ L) (hL : L ≤ 3072) (hc : 1 ≤ bc) (hs : 6 ≤ bs)
    (hk : ∀ (u v : Option Value) (bc' bs' : Nat) (μ' : dw_S), bc ≤ bc' + 1 → bs ≤ bs' + 6 → INV μ' → ((μ'.2.2.1 1 1).toInt = (μ'.2.2.1 404 2).toInt ∧ (μ'.2.2.1 210 0).toInt = (μ'.2.2.1 433 0).toInt ∧ (μ'.2.2.1 307 0).toInt = (μ'.2.2.1 433 1).toInt) → (tbC μ'.2.2.1 = tbL μ'.2.2.1 ∧ mRes μ'.2.2.2 ∧ REL μ'.2.2.1) → dw_ok (pr_law L xs) 1932 bc' bs' (dw_l1 i u v) [] μ') : dw_ok (pr_law L xs) 297 bc bs (dw_l1 i u v) [] μ := by
  have e1 : (i + 1).toInt = i.toInt + 1 := by
    have c : (1 : Int32).toInt = 1 := rfl
    rw [i_add (by omega) (by omega), c]
  have e2 : (i + 2).toInt = i.toInt + 2 := by
    have c : (2 : Int32).toInt = 2 := rfl
    rw [i_add (by omega) (by omega), c]
  have e3 : (i + 3).toInt = i.toInt + 3 := by
    have c : (3 : Int32).toInt = 3 := rfl
    rw [i_add (by omega) (by omega), c]
  have e4 : (i + 4).toInt = i.toInt + 4 := by
    have c : (4 : Int32).toInt = 4 := rfl
    rw [i_add (by omega) (by omega), c]
  have e5 : (i + 5).toInt = i.toInt + 5 := by
    have c : (5 : Int32).toInt = 5 := rfl
    rw [i_add (by omega) (by omega), c]
  have hb1 := hb_1 hI
  refine q_ald rfl rfl ?_
  refine q_ald rfl rfl ?_
  refine q_ild rfl rfl ?_
  refine q_ic rfl ?_
  refine q_add rfl ?_
  refine q_sald rfl (by omega) (by omega) ?_
  refine q_callV (as := [.int (xs (i + 1).toInt.toNat)]) (rest := []) rfl rfl (k_0 hI) rfl (Nat.le_of_ble_eq_true rfl) (cl_X11_end hI (fun r1 w1 μ1 hc1 => ?_))
  obtain ⟨hI1, hr1, hy1, ho1, hf1⟩ := hc1
  subst hr1
  show dw_ok (pr_law L xs) 307 bc bs (dw_l1 i u v) [.int w1] μ1
  refine q_pop rfl ?_
  refine q_ald rfl rfl ?_
  refine q_ald rfl rfl ?_
  refine q_ild rfl rfl ?_
  refine q_ic rfl ?_
  refine q_add rfl ?_
  refine q_sald rfl (by omega) (by omega) ?_
  refine q_callV (as := [.int (xs (i + 1).toInt.toNat)]) (rest := []) rfl rfl (k_404 hI1) rfl (Nat.le_of_ble_eq_true rfl) (cl_X12_end hI1 (fun r2 w2 μ2 hc2 => ?_))
  obtain ⟨hI2, hr2, hy2, ho2, hf2⟩ := hc2
  subst hr2
  show dw_ok (pr_law L xs) 318 bc bs (dw_l1 i u v) [.int w2] μ2
  refine q_pop rfl ?_
  refine q_goto rfl ?_
  exact hk _ _ _ _ _ (by omega) (by omega) hI2 ⟨by omega, by omega, by omega⟩ ⟨tr_keep hT.1 ((hf2 2 (by decide)).1.trans (hf1 2 (by decide)).1) ((hf2 405 (by decide)).1.trans (hf1 405 (by decide)).1) hz.1 (by omega) (by omega), mRes_eq hT.2.1 ((hf2 410 (by decide)).2.trans (hf1 410 (by decide)).2), rel_fr (fun a q1 q2 => (hf2 a (rw_out (p := rwS) rfl (rwS_of q1 q2))).1.trans (hf1 a (rw_out (p := rwS) rfl (rwS_of q1 q2))).1) ((hf2 406 (by decide)).1.trans (hf1 406 (by decide)).1) (fun a q => (hf2 a (rw_out (p := rwK) rfl (rwK_of q))).1.trans (hf1 a (rw_out (p := rwK) rfl (rwK_of q))).1) hT.2.2⟩
theorem lw_2 {L : Nat} {xs : Nat → Int32} {i : Int32} {u v : Option Value} {bc bs : Nat} {μ : dw_S} (hI : INV μ) (hz : (μ.2.2.1 1 1).toInt = (μ.2.2.1 404 2).toInt ∧ (μ.2.2.1 210 0).toInt = (μ.2.2.1 433 0).toInt ∧ (μ.2.2.1 307 0).toInt = (μ.2.2.1 433 1).toInt) (hT : tbC μ.2.2.1 = tbL μ.2.2.1 ∧ mRes μ.2.2.2 ∧ REL μ.2.2.1) (h0 : 0 ≤ i.toInt) (h6 : i.toInt + 6 ≤ L) (hL : L ≤ 3072) (hc : 1 ≤ bc) (hs : 6 ≤ bs)
    (hk : ∀ (u v : Option Value) (bc' bs' : Nat) (μ' : dw_S), bc ≤ bc' + 1 → bs ≤ bs' + 6 → INV μ' → ((μ'.2.2.1 1 1).toInt = (μ'.2.2.1 404 2).toInt ∧ (μ'.2.2.1 210 0).toInt = (μ'.2.2.1 433 0).toInt ∧ (μ'.2.2.1 307 0).toInt = (μ'.2.2.1 433 1).toInt) → (tbC μ'.2.2.1 = tbL μ'.2.2.1 ∧ mRes μ'.2.2.2 ∧ REL μ'.2.2.1) → dw_ok (pr_law L xs) 1932 bc' bs' (dw_l1 i u v) [] μ') : dw_ok (pr_law L xs) 322 bc bs (dw_l1 i u v) [] μ := by
  have e1 : (i + 1).toInt = i.toInt + 1 := by
    have c : (1 : Int32).toInt = 1 := rfl
    rw [i_add (by omega) (by omega), c]
  have e2 : (i + 2).toInt = i.toInt + 2 := by
    have c : (2 : Int32).toInt = 2 := rfl
    rw [i_add (by omega) (by omega), c]
  have e3 : (i + 3).toInt = i.toInt + 3 := by
    have c : (3 : Int32).toInt = 3 := rfl
    rw [i_add (by omega) (by omega), c]
  have e4 : (i + 4).toInt = i.toInt + 4 := by
    have c : (4 : Int32).toInt = 4 := rfl
    rw [i_add (by omega) (by omega), c]
  have e5 : (i + 5).toInt = i.toInt + 5 := by
    have c : (5 : Int32).toInt = 5 := rfl
    rw [i_add (by omega) (by omega), c]
  have hb1 := hb_1 hI
  refine q_ald rfl rfl ?_
  refine q_callV (as := []) (rest := []) rfl rfl (k_0 hI) rfl (Nat.le_of_ble_eq_true rfl) (cr_X11_ground hI (fun r1 w1 μ1 hc1 hq1 => ?_))
  obtain ⟨hI1, hr1, hy1, ho1, hf1⟩ := hc1
  subst hr1
  show dw_ok (pr_law L xs) 326 bc bs (dw_l1 i u v) [.int w1] μ1
  refine q_pop rfl ?_
  refine q_ald rfl rfl ?_
  refine q_callV (as := []) (rest := []) rfl rfl (k_404 hI1) rfl (Nat.le_of_ble_eq_true rfl) (cr_X12_ground hI1 (mRes_eq hT.2.1 (hf1 410 (by decide)).2) (fun r2 w2 μ2 hc2 hq2 => ?_))
  obtain ⟨hI2, hr2, hy2, ho2, hf2⟩ := hc2
  have et : tbL μ1.2.2.1 = tbC μ.2.2.1 := (tbL_eq ho1.1 (hf1 405 (by decide)).1).trans hT.1.symm
  have eN : (μ1.2.2.1 404 2).toInt.toNat = (μ.2.2.1 1 1).toInt.toNat := by omega
  have e6 : μ1.2.2.1 406 = μ.2.2.1 406 := (hf1 406 (by decide)).1
  rw [et, eN, e6] at hq2
  obtain ⟨hre, hew⟩ := rel_gnd hT.2.2 hq1 hq2 (fun a q1 q2 => (hf2 a (rw_out (p := rwS) rfl (rwS_of q1 q2))).1) (fun a q => (hf2 a (rw_out (p := rwK) rfl (rwK_of q))).1.trans (hf1 a (rw_out (p := rwK) rfl (rwK_of q))).1)
  subst hr2
  show dw_ok (pr_law L xs) 331 bc bs (dw_l1 i u v) [.int w2] μ2
  refine q_pop rfl ?_
  refine q_goto rfl ?_
  exact hk _ _ _ _ _ (by omega) (by omega) hI2 ⟨by omega, by omega, by omega⟩ ⟨tr_keep hT.1 ((hf2 2 (by decide)).1.trans (hf1 2 (by decide)).1) ((hf2 405 (by decide)).1.trans (hf1 405 (by decide)).1) hz.1 (by omega) (by omega), mRes_eq hT.2.1 ((hf2 410 (by decide)).2.trans (hf1 410 (by decide)).2), hre⟩
theorem lw_3 {L : Nat} {xs : Nat → Int32} {i : Int32} {u v : Option Value} {bc bs : Nat} {μ : dw_S} (hI : INV μ) (hz : (μ.2.2.1 1 1).toInt = (μ.2.2.1 404 2).toInt ∧ (μ.2.2.1 210 0).toInt = (μ.2.2.1 433 0).toInt ∧ (μ.2.2.1 307 0).toInt = (μ.2.2.1 433 1).toInt) (hT : tbC μ.2.2.1 = tbL μ.2.2.1 ∧ mRes μ.2.2.2 ∧ REL μ.2.2.1) (h0 : 0 ≤ i.toInt) (h6 : i.toInt + 6 ≤ L) (hL : L ≤ 3072) (hc : 1 ≤ bc) (hs : 6 ≤ bs)
    (hk : ∀ (u v : Option Value) (bc' bs' : Nat) (μ' : dw_S), bc ≤ bc' + 1 → bs ≤ bs' + 6 → INV μ' → ((μ'.2.2.1 1 1).toInt = (μ'.2.2.1 404 2).toInt ∧ (μ'.2.2.1 210 0).toInt = (μ'.2.2.1 433 0).toInt ∧ (μ'.2.2.1 307 0).toInt = (μ'.2.2.1 433 1).toInt) → (tbC μ'.2.2.1 = tbL μ'.2.2.1 ∧ mRes μ'.2.2.2 ∧ REL μ'.2.2.1) → dw_ok (pr_law L xs) 1932 bc' bs' (dw_l1 i u v) [] μ') : dw_ok (pr_law L xs) 335 bc bs (dw_l1 i u v) [] μ := by
  have e1 : (i + 1).toInt = i.toInt + 1 := by
    have c : (1 : Int32).toInt = 1 := rfl
    rw [i_add (by omega) (by omega), c]
  have e2 : (i + 2).toInt = i.toInt + 2 := by
    have c : (2 : Int32).toInt = 2 := rfl
    rw [i_add (by omega) (by omega), c]
  have e3 : (i + 3).toInt = i.toInt + 3 := by
    have c : (3 : Int32).toInt = 3 := rfl
    rw [i_add (by omega) (by omega), c]
  have e4 : (i + 4).toInt = i.toInt + 4 := by
    have c : (4 : Int32).toInt = 4 := rfl
    rw [i_add (by omega) (by omega), c]
  have e5 : (i + 5).toInt = i.toInt + 5 := by
    have c : (5 : Int32).toInt = 5 := rfl
    rw [i_add (by omega) (by omega), c]
  have hb1 := hb_1 hI
  refine q_ald rfl rfl ?_
  refine q_callV (as := []) (rest := []) rfl rfl (k_0 hI) rfl (Nat.le_of_ble_eq_true rfl) (cl_X11_fault hI (fun r1 w1 μ1 hc1 => ?_))
  obtain ⟨hI1, hr1, hy1, ho1, hf1⟩ := hc1
  subst hr1
  show dw_ok (pr_law L xs) 339 bc bs (dw_l1 i u v) [.int w1] μ1
  refine q_pop rfl ?_
  refine q_ald rfl rfl ?_
  refine q_callV (as := []) (rest := []) rfl rfl (k_404 hI1) rfl (Nat.le_of_ble_eq_true rfl) (cl_X12_fault hI1 (fun r2 w2 μ2 hc2 => ?_))
  obtain ⟨hI2, hr2, hy2, ho2, hf2⟩ := hc2
  subst hr2
  show dw_ok (pr_law L xs) 344 bc bs (dw_l1 i u v) [.int w2] μ2
  refine q_pop rfl ?_
  refine q_goto rfl ?_
  exact hk _ _ _ _ _ (by omega) (by omega) hI2 ⟨by omega, by omega, by omega⟩ ⟨tr_keep hT.1 ((hf2 2 (by decide)).1.trans (hf1 2 (by decide)).1) ((hf2 405 (by decide)).1.trans (hf1 405 (by decide)).1) hz.1 (by omega) (by omega), mRes_eq hT.2.1 ((hf2 410 (by decide)).2.trans (hf1 410 (by decide)).2), rel_fr (fun a q1 q2 => (hf2 a (rw_out (p := rwS) rfl (rwS_of q1 q2))).1.trans (hf1 a (rw_out (p := rwS) rfl (rwS_of q1 q2))).1) ((hf2 406 (by decide)).1.trans (hf1 406 (by decide)).1) (fun a q => (hf2 a (rw_out (p := rwK) rfl (rwK_of q))).1.trans (hf1 a (rw_out (p := rwK) rfl (rwK_of q))).1) hT.2.2⟩
theorem lw_4 {L : Nat} {xs : Nat → Int32} {i : Int32} {u v : Option Value} {bc bs : Nat} {μ : dw_S} (hI : INV μ) (hz : (μ.2.2.1 1 1).toInt = (μ.2.2.1 404 2).toInt ∧ (μ.2.2.1 210 0).toInt = (μ.2.2.1 433 0).toInt ∧ (μ.2.2.1 307 0).toInt = (μ.2.2.1 433 1).toInt) (hT : tbC μ.2.2.1 = tbL μ.2.2.1 ∧ mRes μ.2.2.2 ∧ REL μ.2.2.1) (h0 : 0 ≤ i.toInt) (h6 : i.toInt + 6 ≤ L) (hL : L ≤ 3072) (hc : 1 ≤ bc) (hs : 6 ≤ bs)
    (hk : ∀ (u v : Option Value) (bc' bs' : Nat) (μ' : dw_S), bc ≤ bc' + 1 → bs ≤ bs' + 6 → INV μ' → ((μ'.2.2.1 1 1).toInt = (μ'.2.2.1 404 2).toInt ∧ (μ'.2.2.1 210 0).toInt = (μ'.2.2.1 433 0).toInt ∧ (μ'.2.2.1 307 0).toInt = (μ'.2.2.1 433 1).toInt) → (tbC μ'.2.2.1 = tbL μ'.2.2.1 ∧ mRes μ'.2.2.2 ∧ REL μ'.2.2.1) → dw_ok (pr_law L xs) 1932 bc' bs' (dw_l1 i u v) [] μ') : dw_ok (pr_law L xs) 348 bc bs (dw_l1 i u v) [] μ := by
  have e1 : (i + 1).toInt = i.toInt + 1 := by
    have c : (1 : Int32).toInt = 1 := rfl
    rw [i_add (by omega) (by omega), c]
  have e2 : (i + 2).toInt = i.toInt + 2 := by
    have c : (2 : Int32).toInt = 2 := rfl
    rw [i_add (by omega) (by omega), c]
  have e3 : (i + 3).toInt = i.toInt + 3 := by
    have c : (3 : Int32).toInt = 3 := rfl
    rw [i_add (by omega) (by omega), c]
  have e4 : (i + 4).toInt = i.toInt + 4 := by
    have c : (4 : Int32).toInt = 4 := rfl
    rw [i_add (by omega) (by omega), c]
  have e5 : (i + 5).toInt = i.toInt + 5 := by
    have c : (5 : Int32).toInt = 5 := rfl
    rw [i_add (by omega) (by omega), c]
  have hb1 := hb_1 hI
  refine q_ald rfl rfl ?_
  refine q_ald rfl rfl ?_
  refine q_ild rfl rfl ?_
  refine q_ic rfl ?_
  refine q_add rfl ?_
  refine q_sald rfl (by omega) (by omega) ?_
  refine q_ald rfl rfl ?_
  refine q_ild rfl rfl ?_
  refine q_ic rfl ?_
  refine q_add rfl ?_
  refine q_sald rfl (by omega) (by omega) ?_
  refine q_ald rfl rfl ?_
  refine q_ild rfl rfl ?_
  refine q_ic rfl ?_
  refine q_add rfl ?_
  refine q_sald rfl (by omega) (by omega) ?_
  refine q_ald rfl rfl ?_
  refine q_callS16 (as := [.ref 0, .int (xs (i + 1).toInt.toNat), .int (xs (i + 2).toInt.toNat), .int (xs (i + 3).toInt.toNat), .ref 434]) (rest := []) rfl rfl rfl (Nat.le_of_ble_eq_true rfl) hc hs (cf_L_cell hI (fun r1 w1 μ1 hc1 => ?_))
  obtain ⟨hI1, hr1, hy1, ho1, hf1⟩ := hc1
  subst hr1
  show dw_ok (pr_law L xs) 371 (bc - 1) (bs - 6) (dw_l1 i u v) [.int w1] μ1
  refine q_ist rfl rfl ?_
  show dw_ok (pr_law L xs) 373 (bc - 1) (bs - 6) (dw_l1 i (some (.int w1)) v) [] μ1
  refine q_ald rfl rfl ?_
  refine q_ald rfl rfl ?_
  refine q_ild rfl rfl ?_
  refine q_ic rfl ?_
  refine q_add rfl ?_
  refine q_sald rfl (by omega) (by omega) ?_
  refine q_ald rfl rfl ?_
  refine q_ild rfl rfl ?_
  refine q_ic rfl ?_
  refine q_add rfl ?_
  refine q_sald rfl (by omega) (by omega) ?_
  refine q_ald rfl rfl ?_
  refine q_ild rfl rfl ?_
  refine q_ic rfl ?_
  refine q_add rfl ?_
  refine q_sald rfl (by omega) (by omega) ?_
  refine q_callV (as := [.int (xs (i + 1).toInt.toNat), .int (xs (i + 2).toInt.toNat), .int (xs (i + 3).toInt.toNat)]) (rest := []) rfl rfl (k_404 hI1) rfl (Nat.le_of_ble_eq_true rfl) (cl_X12_cell hI1 (fun r2 w2 μ2 hc2 => ?_))
  obtain ⟨hI2, hr2, hy2, ho2, hf2⟩ := hc2
  subst hr2
  show dw_ok (pr_law L xs) 395 (bc - 1) (bs - 6) (dw_l1 i (some (.int w1)) v) [.int w2] μ2
  refine q_ist rfl rfl ?_
  show dw_ok (pr_law L xs) 397 (bc - 1) (bs - 6) (dw_l1 i (some (.int w1)) (some (.int w2))) [] μ2
  refine q_goto rfl ?_
  exact hk _ _ _ _ _ (by omega) (by omega) hI2 ⟨by omega, by omega, by omega⟩ ⟨tr_keep hT.1 ((hf2 2 (by decide)).1.trans (hf1 2 (by decide)).1) ((hf2 405 (by decide)).1.trans (hf1 405 (by decide)).1) hz.1 (by omega) (by omega), mRes_eq hT.2.1 ((hf2 410 (by decide)).2.trans (hf1 410 (by decide)).2), rel_fr (fun a q1 q2 => (hf2 a (rw_out (p := rwS) rfl (rwS_of q1 q2))).1.trans (hf1 a (rw_out (p := rwS) rfl (rwS_of q1 q2))).1) ((hf2 406 (by decide)).1.trans (hf1 406 (by decide)).1) (fun a q => (hf2 a (rw_out (p := rwK) rfl (rwK_of q))).1.trans (hf1 a (rw_out (p := rwK) rfl (rwK_of q))).1) hT.2.2⟩
theorem lw_5 {L : Nat} {xs : Nat → Int32} {i : Int32} {u v : Option Value} {bc bs : Nat} {μ : dw_S} (hI : INV μ) (hz : (μ.2.2.1 1 1).toInt = (μ.2.2.1 404 2).toInt ∧ (μ.2.2.1 210 0).toInt = (μ.2.2.1 433 0).toInt ∧ (μ.2.2.1 307 0).toInt = (μ.2.2.1 433 1).toInt) (hT : tbC μ.2.2.1 = tbL μ.2.2.1 ∧ mRes μ.2.2.2 ∧ REL μ.2.2.1) (h0 : 0 ≤ i.toInt) (h6 : i.toInt + 6 ≤ L) (hL : L ≤ 3072) (hc : 1 ≤ bc) (hs : 6 ≤ bs)
    (hk : ∀ (u v : Option Value) (bc' bs' : Nat) (μ' : dw_S), bc ≤ bc' + 1 → bs ≤ bs' + 6 → INV μ' → ((μ'.2.2.1 1 1).toInt = (μ'.2.2.1 404 2).toInt ∧ (μ'.2.2.1 210 0).toInt = (μ'.2.2.1 433 0).toInt ∧ (μ'.2.2.1 307 0).toInt = (μ'.2.2.1 433 1).toInt) → (tbC μ'.2.2.1 = tbL μ'.2.2.1 ∧ mRes μ'.2.2.2 ∧ REL μ'.2.2.1) → dw_ok (pr_law L xs) 1932 bc' bs' (dw_l1 i u v) [] μ') : dw_ok (pr_law L xs) 400 bc bs (dw_l1 i u v) [] μ := by
  have e1 : (i + 1).toInt = i.toInt + 1 := by
    have c : (1 : Int32).toInt = 1 := rfl
    rw [i_add (by omega) (by omega), c]
  have e2 : (i + 2).toInt = i.toInt + 2 := by
    have c : (2 : Int32).toInt = 2 := rfl
    rw [i_add (by omega) (by omega), c]
  have e3 : (i + 3).toInt = i.toInt + 3 := by
    have c : (3 : Int32).toInt = 3 := rfl
    rw [i_add (by omega) (by omega), c]
  have e4 : (i + 4).toInt = i.toInt + 4 := by
    have c : (4 : Int32).toInt = 4 := rfl
    rw [i_add (by omega) (by omega), c]
  have e5 : (i + 5).toInt = i.toInt + 5 := by
    have c : (5 : Int32).toInt = 5 := rfl
    rw [i_add (by omega) (by omega), c]
  have hb1 := hb_1 hI
  refine q_ald rfl rfl ?_
  refine q_ald rfl rfl ?_
  refine q_ild rfl rfl ?_
  refine q_ic rfl ?_
  refine q_add rfl ?_
  refine q_sald rfl (by omega) (by omega) ?_
  refine q_callV (as := [.int (xs (i + 1).toInt.toNat)]) (rest := []) rfl rfl (k_0 hI) rfl (Nat.le_of_ble_eq_true rfl) (cr_X11_night hI (fun r1 w1 μ1 hc1 hq1 => ?_))
  obtain ⟨hI1, hr1, hy1, ho1, hf1⟩ := hc1
  subst hr1
  show dw_ok (pr_law L xs) 410 bc bs (dw_l1 i u v) [.int w1] μ1
  refine q_pop rfl ?_
  refine q_ald rfl rfl ?_
  refine q_ald rfl rfl ?_
  refine q_ild rfl rfl ?_
  refine q_ic rfl ?_
  refine q_add rfl ?_
  refine q_sald rfl (by omega) (by omega) ?_
  refine q_callV (as := [.int (xs (i + 1).toInt.toNat)]) (rest := []) rfl rfl (k_404 hI1) rfl (Nat.le_of_ble_eq_true rfl) (cr_X12_night hI1 (fun r2 w2 μ2 hc2 hq2 => ?_))
  obtain ⟨hI2, hr2, hy2, ho2, hf2⟩ := hc2
  have et : tbL μ1.2.2.1 = tbC μ.2.2.1 := (tbL_eq ho1.1 (hf1 405 (by decide)).1).trans hT.1.symm
  have eN : (μ1.2.2.1 404 2).toInt.toNat = (μ.2.2.1 1 1).toInt.toNat := by omega
  have e6 : μ1.2.2.1 406 = μ.2.2.1 406 := (hf1 406 (by decide)).1
  rw [et, eN, e6] at hq2
  obtain ⟨hre, hew⟩ := rel_night hT.2.2 hq1 hq2 (fun a q1 q2 => (hf2 a (rw_out (p := rwS) rfl (rwS_of q1 q2))).1) (fun a q => (hf2 a (rw_out (p := rwK) rfl (rwK_of q))).1.trans (hf1 a (rw_out (p := rwK) rfl (rwK_of q))).1)
  subst hr2
  show dw_ok (pr_law L xs) 421 bc bs (dw_l1 i u v) [.int w2] μ2
  refine q_pop rfl ?_
  refine q_goto rfl ?_
  exact hk _ _ _ _ _ (by omega) (by omega) hI2 ⟨by omega, by omega, by omega⟩ ⟨tr_keep hT.1 ((hf2 2 (by decide)).1.trans (hf1 2 (by decide)).1) ((hf2 405 (by decide)).1.trans (hf1 405 (by decide)).1) hz.1 (by omega) (by omega), mRes_eq hT.2.1 ((hf2 410 (by decide)).2.trans (hf1 410 (by decide)).2), hre⟩
theorem lw_6 {L : Nat} {xs : Nat → Int32} {i : Int32} {u v : Option Value} {bc bs : Nat} {μ : dw_S} (hI : INV μ) (hz : (μ.2.2.1 1 1).toInt = (μ.2.2.1 404 2).toInt ∧ (μ.2.2.1 210 0).toInt = (μ.2.2.1 433 0).toInt ∧ (μ.2.2.1 307 0).toInt = (μ.2.2.1 433 1).toInt) (hT : tbC μ.2.2.1 = tbL μ.2.2.1 ∧ mRes μ.2.2.2 ∧ REL μ.2.2.1) (h0 : 0 ≤ i.toInt) (h6 : i.toInt + 6 ≤ L) (hL : L ≤ 3072) (hc : 1 ≤ bc) (hs : 6 ≤ bs)
    (hk : ∀ (u v : Option Value) (bc' bs' : Nat) (μ' : dw_S), bc ≤ bc' + 1 → bs ≤ bs' + 6 → INV μ' → ((μ'.2.2.1 1 1).toInt = (μ'.2.2.1 404 2).toInt ∧ (μ'.2.2.1 210 0).toInt = (μ'.2.2.1 433 0).toInt ∧ (μ'.2.2.1 307 0).toInt = (μ'.2.2.1 433 1).toInt) → (tbC μ'.2.2.1 = tbL μ'.2.2.1 ∧ mRes μ'.2.2.2 ∧ REL μ'.2.2.1) → dw_ok (pr_law L xs) 1932 bc' bs' (dw_l1 i u v) [] μ') : dw_ok (pr_law L xs) 425 bc bs (dw_l1 i u v) [] μ := by
  have e1 : (i + 1).toInt = i.toInt + 1 := by
    have c : (1 : Int32).toInt = 1 := rfl
    rw [i_add (by omega) (by omega), c]
  have e2 : (i + 2).toInt = i.toInt + 2 := by
    have c : (2 : Int32).toInt = 2 := rfl
    rw [i_add (by omega) (by omega), c]
  have e3 : (i + 3).toInt = i.toInt + 3 := by
    have c : (3 : Int32).toInt = 3 := rfl
    rw [i_add (by omega) (by omega), c]
  have e4 : (i + 4).toInt = i.toInt + 4 := by
    have c : (4 : Int32).toInt = 4 := rfl
    rw [i_add (by omega) (by omega), c]
  have e5 : (i + 5).toInt = i.toInt + 5 := by
    have c : (5 : Int32).toInt = 5 := rfl
    rw [i_add (by omega) (by omega), c]
  have hb1 := hb_1 hI
  refine q_ald rfl rfl ?_
  refine q_ald rfl rfl ?_
  refine q_ild rfl rfl ?_
  refine q_ic rfl ?_
  refine q_add rfl ?_
  refine q_sald rfl (by omega) (by omega) ?_
  refine q_ald rfl rfl ?_
  refine q_ild rfl rfl ?_
  refine q_ic rfl ?_
  refine q_add rfl ?_
  refine q_sald rfl (by omega) (by omega) ?_
  refine q_ald rfl rfl ?_
  refine q_ild rfl rfl ?_
  refine q_ic rfl ?_
  refine q_add rfl ?_
  refine q_sald rfl (by omega) (by omega) ?_
  refine q_callV (as := [.int (xs (i + 1).toInt.toNat), .int (xs (i + 2).toInt.toNat), .int (xs (i + 3).toInt.toNat)]) (rest := []) rfl rfl (k_0 hI) rfl (Nat.le_of_ble_eq_true rfl) (cl_X11_sky hI (fun r1 w1 μ1 hc1 => ?_))
  obtain ⟨hI1, hr1, hy1, ho1, hf1⟩ := hc1
  subst hr1
  show dw_ok (pr_law L xs) 447 bc bs (dw_l1 i u v) [.int w1] μ1
  refine q_pop rfl ?_
  refine q_ald rfl rfl ?_
  refine q_ald rfl rfl ?_
  refine q_ild rfl rfl ?_
  refine q_ic rfl ?_
  refine q_add rfl ?_
  refine q_sald rfl (by omega) (by omega) ?_
  refine q_ald rfl rfl ?_
  refine q_ild rfl rfl ?_
  refine q_ic rfl ?_
  refine q_add rfl ?_
  refine q_sald rfl (by omega) (by omega) ?_
  refine q_ald rfl rfl ?_
  refine q_ild rfl rfl ?_
  refine q_ic rfl ?_
  refine q_add rfl ?_
  refine q_sald rfl (by omega) (by omega) ?_
  refine q_callV (as := [.int (xs (i + 1).toInt.toNat), .int (xs (i + 2).toInt.toNat), .int (xs (i + 3).toInt.toNat)]) (rest := []) rfl rfl (k_404 hI1) rfl (Nat.le_of_ble_eq_true rfl) (cl_X12_sky hI1 (fun r2 w2 μ2 hc2 => ?_))
  obtain ⟨hI2, hr2, hy2, ho2, hf2⟩ := hc2
  subst hr2
  show dw_ok (pr_law L xs) 470 bc bs (dw_l1 i u v) [.int w2] μ2
  refine q_pop rfl ?_
  refine q_goto rfl ?_
  exact hk _ _ _ _ _ (by omega) (by omega) hI2 ⟨by omega, by omega, by omega⟩ ⟨tr_keep hT.1 ((hf2 2 (by decide)).1.trans (hf1 2 (by decide)).1) ((hf2 405 (by decide)).1.trans (hf1 405 (by decide)).1) hz.1 (by omega) (by omega), mRes_eq hT.2.1 ((hf2 410 (by decide)).2.trans (hf1 410 (by decide)).2), rel_fr (fun a q1 q2 => (hf2 a (rw_out (p := rwS) rfl (rwS_of q1 q2))).1.trans (hf1 a (rw_out (p := rwS) rfl (rwS_of q1 q2))).1) ((hf2 406 (by decide)).1.trans (hf1 406 (by decide)).1) (fun a q => (hf2 a (rw_out (p := rwK) rfl (rwK_of q))).1.trans (hf1 a (rw_out (p := rwK) rfl (rwK_of q))).1) hT.2.2⟩
theorem lw_7 {L : Nat} {xs : Nat → Int32} {i : Int32} {u v : Option Value} {bc bs : Nat} {μ : dw_S} (hI : INV μ) (hz : (μ.2.2.1 1 1).toInt = (μ.2.2.1 404 2).toInt ∧ (μ.2.2.1 210 0).toInt = (μ.2.2.1 433 0).toInt ∧ (μ.2.2.1 307 0).toInt = (μ.2.2.1 433 1).toInt) (hT : tbC μ.2.2.1 = tbL μ.2.2.1 ∧ mRes μ.2.2.2 ∧ REL μ.2.2.1) (h0 : 0 ≤ i.toInt) (h6 : i.toInt + 6 ≤ L) (hL : L ≤ 3072) (hc : 1 ≤ bc) (hs : 6 ≤ bs)
    (hk : ∀ (u v : Option Value) (bc' bs' : Nat) (μ' : dw_S), bc ≤ bc' + 1 → bs ≤ bs' + 6 → INV μ' → ((μ'.2.2.1 1 1).toInt = (μ'.2.2.1 404 2).toInt ∧ (μ'.2.2.1 210 0).toInt = (μ'.2.2.1 433 0).toInt ∧ (μ'.2.2.1 307 0).toInt = (μ'.2.2.1 433 1).toInt) → (tbC μ'.2.2.1 = tbL μ'.2.2.1 ∧ mRes μ'.2.2.2 ∧ REL μ'.2.2.1) → dw_ok (pr_law L xs) 1932 bc' bs' (dw_l1 i u v) [] μ') : dw_ok (pr_law L xs) 474 bc bs (dw_l1 i u v) [] μ := by
  have e1 : (i + 1).toInt = i.toInt + 1 := by
    have c : (1 : Int32).toInt = 1 := rfl
    rw [i_add (by omega) (by omega), c]
  have e2 : (i + 2).toInt = i.toInt + 2 := by
    have c : (2 : Int32).toInt = 2 := rfl
    rw [i_add (by omega) (by omega), c]
  have e3 : (i + 3).toInt = i.toInt + 3 := by
    have c : (3 : Int32).toInt = 3 := rfl
    rw [i_add (by omega) (by omega), c]
  have e4 : (i + 4).toInt = i.toInt + 4 := by
    have c : (4 : Int32).toInt = 4 := rfl
    rw [i_add (by omega) (by omega), c]
  have e5 : (i + 5).toInt = i.toInt + 5 := by
    have c : (5 : Int32).toInt = 5 := rfl
    rw [i_add (by omega) (by omega), c]
  have hb1 := hb_1 hI
  refine q_ald rfl rfl ?_
  refine q_ald rfl rfl ?_
  refine q_ild rfl rfl ?_
  refine q_ic rfl ?_
  refine q_add rfl ?_
  refine q_sald rfl (by omega) (by omega) ?_
  refine q_callV (as := [.int (xs (i + 1).toInt.toNat)]) (rest := []) rfl rfl (k_0 hI) rfl (Nat.le_of_ble_eq_true rfl) (cr_X11_begin hI hT.2.2 (fun r1 w1 μ1 hc1 hq1 => ?_))
  obtain ⟨hI1, hr1, hy1, ho1, hf1⟩ := hc1
  subst hr1
  show dw_ok (pr_law L xs) 484 bc bs (dw_l1 i u v) [.int w1] μ1
  refine q_pop rfl ?_
  refine q_ald rfl rfl ?_
  refine q_ald rfl rfl ?_
  refine q_ild rfl rfl ?_
  refine q_ic rfl ?_
  refine q_add rfl ?_
  refine q_sald rfl (by omega) (by omega) ?_
  refine q_callV (as := [.int (xs (i + 1).toInt.toNat)]) (rest := []) rfl rfl (k_404 hI1) rfl (Nat.le_of_ble_eq_true rfl) (cr_X12_begin hI1 (hf1 406 (by decide)).1 hT.2.2.1.1 (nok_s hT.2.2.1) (fun r2 w2 μ2 hc2 hq2 => ?_))
  obtain ⟨hI2, hr2, hy2, ho2, hf2⟩ := hc2
  obtain ⟨hre, hew⟩ := rel_begin hT.2.2 hq1 hq2 (fun a q1 q2 => (hf2 a (rw_out (p := rwS) rfl (rwS_of q1 q2))).1) (fun a q => (hf2 a (rw_out (p := rwK) rfl (rwK_of q))).1.trans (hf1 a (rw_out (p := rwK) rfl (rwK_of q))).1)
  subst hr2
  show dw_ok (pr_law L xs) 495 bc bs (dw_l1 i u v) [.int w2] μ2
  refine q_pop rfl ?_
  refine q_goto rfl ?_
  exact hk _ _ _ _ _ (by omega) (by omega) hI2 ⟨by omega, by omega, by omega⟩ ⟨tr_keep hT.1 ((hf2 2 (by decide)).1.trans (hf1 2 (by decide)).1) ((hf2 405 (by decide)).1.trans (hf1 405 (by decide)).1) hz.1 (by omega) (by omega), mRes_eq hT.2.1 ((hf2 410 (by decide)).2.trans (hf1 410 (by decide)).2), hre⟩
theorem lw_8 {L : Nat} {xs : Nat → Int32} {i : Int32} {u v : Option Value} {bc bs : Nat} {μ : dw_S} (hI : INV μ) (hz : (μ.2.2.1 1 1).toInt = (μ.2.2.1 404 2).toInt ∧ (μ.2.2.1 210 0).toInt = (μ.2.2.1 433 0).toInt ∧ (μ.2.2.1 307 0).toInt = (μ.2.2.1 433 1).toInt) (hT : tbC μ.2.2.1 = tbL μ.2.2.1 ∧ mRes μ.2.2.2 ∧ REL μ.2.2.1) (h0 : 0 ≤ i.toInt) (h6 : i.toInt + 6 ≤ L) (hL : L ≤ 3072) (hc : 1 ≤ bc) (hs : 6 ≤ bs)
    (hk : ∀ (u v : Option Value) (bc' bs' : Nat) (μ' : dw_S), bc ≤ bc' + 1 → bs ≤ bs' + 6 → INV μ' → ((μ'.2.2.1 1 1).toInt = (μ'.2.2.1 404 2).toInt ∧ (μ'.2.2.1 210 0).toInt = (μ'.2.2.1 433 0).toInt ∧ (μ'.2.2.1 307 0).toInt = (μ'.2.2.1 433 1).toInt) → (tbC μ'.2.2.1 = tbL μ'.2.2.1 ∧ mRes μ'.2.2.2 ∧ REL μ'.2.2.1) → dw_ok (pr_law L xs) 1932 bc' bs' (dw_l1 i u v) [] μ') : dw_ok (pr_law L xs) 499 bc bs (dw_l1 i u v) [] μ := by
  have e1 : (i + 1).toInt = i.toInt + 1 := by
    have c : (1 : Int32).toInt = 1 := rfl
    rw [i_add (by omega) (by omega), c]
  have e2 : (i + 2).toInt = i.toInt + 2 := by
    have c : (2 : Int32).toInt = 2 := rfl
    rw [i_add (by omega) (by omega), c]
  have e3 : (i + 3).toInt = i.toInt + 3 := by
    have c : (3 : Int32).toInt = 3 := rfl
    rw [i_add (by omega) (by omega), c]
  have e4 : (i + 4).toInt = i.toInt + 4 := by
    have c : (4 : Int32).toInt = 4 := rfl
    rw [i_add (by omega) (by omega), c]
  have e5 : (i + 5).toInt = i.toInt + 5 := by
    have c : (5 : Int32).toInt = 5 := rfl
    rw [i_add (by omega) (by omega), c]
  have hb1 := hb_1 hI
  refine q_ald rfl rfl ?_
  refine q_ald rfl rfl ?_
  refine q_ild rfl rfl ?_
  refine q_ic rfl ?_
  refine q_add rfl ?_
  refine q_sald rfl (by omega) (by omega) ?_
  refine q_callV (as := [.int (xs (i + 1).toInt.toNat)]) (rest := []) rfl rfl (k_0 hI) rfl (Nat.le_of_ble_eq_true rfl) (cr_X11_on hI hT.2.2 (fun r1 w1 μ1 hc1 hq1 => ?_))
  obtain ⟨hI1, hr1, hy1, ho1, hf1⟩ := hc1
  subst hr1
  show dw_ok (pr_law L xs) 509 bc bs (dw_l1 i u v) [.int w1] μ1
  refine q_pop rfl ?_
  refine q_ald rfl rfl ?_
  refine q_ald rfl rfl ?_
  refine q_ild rfl rfl ?_
  refine q_ic rfl ?_
  refine q_add rfl ?_
  refine q_sald rfl (by omega) (by omega) ?_
  refine q_callV (as := [.int (xs (i + 1).toInt.toNat)]) (rest := []) rfl rfl (k_404 hI1) rfl (Nat.le_of_ble_eq_true rfl) (cr_X12_on hI1 (hf1 406 (by decide)).1 hT.2.2.1.1 (rr_gm hT.2.2.1) (fun r2 w2 μ2 hc2 hq2 => ?_))
  obtain ⟨hI2, hr2, hy2, ho2, hf2⟩ := hc2
  obtain ⟨hre, hew⟩ := rel_on hT.2.2 hq1 hq2 (fun a q1 q2 => (hf2 a (rw_out (p := rwS) rfl (rwS_of q1 q2))).1) (fun a q => (hf2 a (rw_out (p := rwK) rfl (rwK_of q))).1.trans (hf1 a (rw_out (p := rwK) rfl (rwK_of q))).1)
  subst hr2
  show dw_ok (pr_law L xs) 520 bc bs (dw_l1 i u v) [.int w2] μ2
  refine q_pop rfl ?_
  refine q_goto rfl ?_
  exact hk _ _ _ _ _ (by omega) (by omega) hI2 ⟨by omega, by omega, by omega⟩ ⟨tr_keep hT.1 ((hf2 2 (by decide)).1.trans (hf1 2 (by decide)).1) ((hf2 405 (by decide)).1.trans (hf1 405 (by decide)).1) hz.1 (by omega) (by omega), mRes_eq hT.2.1 ((hf2 410 (by decide)).2.trans (hf1 410 (by decide)).2), hre⟩
theorem lw_9 {L : Nat} {xs : Nat → Int32} {i : Int32} {u v : Option Value} {bc bs : Nat} {μ : dw_S} (hI : INV μ) (hz : (μ.2.2.1 1 1).toInt = (μ.2.2.1 404 2).toInt ∧ (μ.2.2.1 210 0).toInt = (μ.2.2.1 433 0).toInt ∧ (μ.2.2.1 307 0).toInt = (μ.2.2.1 433 1).toInt) (hT : tbC μ.2.2.1 = tbL μ.2.2.1 ∧ mRes μ.2.2.2 ∧ REL μ.2.2.1) (h0 : 0 ≤ i.toInt) (h6 : i.toInt + 6 ≤ L) (hL : L ≤ 3072) (hc : 1 ≤ bc) (hs : 6 ≤ bs)
    (hk : ∀ (u v : Option Value) (bc' bs' : Nat) (μ' : dw_S), bc ≤ bc' + 1 → bs ≤ bs' + 6 → INV μ' → ((μ'.2.2.1 1 1).toInt = (μ'.2.2.1 404 2).toInt ∧ (μ'.2.2.1 210 0).toInt = (μ'.2.2.1 433 0).toInt ∧ (μ'.2.2.1 307 0).toInt = (μ'.2.2.1 433 1).toInt) → (tbC μ'.2.2.1 = tbL μ'.2.2.1 ∧ mRes μ'.2.2.2 ∧ REL μ'.2.2.1) → dw_ok (pr_law L xs) 1932 bc' bs' (dw_l1 i u v) [] μ') : dw_ok (pr_law L xs) 524 bc bs (dw_l1 i u v) [] μ := by
  have e1 : (i + 1).toInt = i.toInt + 1 := by
    have c : (1 : Int32).toInt = 1 := rfl
    rw [i_add (by omega) (by omega), c]
  have e2 : (i + 2).toInt = i.toInt + 2 := by
    have c : (2 : Int32).toInt = 2 := rfl
    rw [i_add (by omega) (by omega), c]
  have e3 : (i + 3).toInt = i.toInt + 3 := by
    have c : (3 : Int32).toInt = 3 := rfl
    rw [i_add (by omega) (by omega), c]
  have e4 : (i + 4).toInt = i.toInt + 4 := by
    have c : (4 : Int32).toInt = 4 := rfl
    rw [i_add (by omega) (by omega), c]
  have e5 : (i + 5).toInt = i.toInt + 5 := by
    have c : (5 : Int32).toInt = 5 := rfl
    rw [i_add (by omega) (by omega), c]
  have hb1 := hb_1 hI
  refine q_ald rfl rfl ?_
  refine q_ald rfl rfl ?_
  refine q_ild rfl rfl ?_
  refine q_ic rfl ?_
  refine q_add rfl ?_
  refine q_sald rfl (by omega) (by omega) ?_
  refine q_ald rfl rfl ?_
  refine q_ild rfl rfl ?_
  refine q_ic rfl ?_
  refine q_add rfl ?_
  refine q_sald rfl (by omega) (by omega) ?_
  refine q_ald rfl rfl ?_
  refine q_ild rfl rfl ?_
  refine q_ic rfl ?_
  refine q_add rfl ?_
  refine q_sald rfl (by omega) (by omega) ?_
  refine q_ald rfl rfl ?_
  refine q_callS16 (as := [.ref 0, .int (xs (i + 1).toInt.toNat), .int (xs (i + 2).toInt.toNat), .int (xs (i + 3).toInt.toNat), .ref 434]) (rest := []) rfl rfl rfl (Nat.le_of_ble_eq_true rfl) hc hs (cr_L_is hI hT.2.2.1 (fun r1 w1 μ1 hc1 hq1 => ?_))
  obtain ⟨hI1, hr1, hy1, ho1, hf1⟩ := hc1
  subst hr1
  show dw_ok (pr_law L xs) 547 (bc - 1) (bs - 6) (dw_l1 i u v) [.int w1] μ1
  refine q_ist rfl rfl ?_
  show dw_ok (pr_law L xs) 549 (bc - 1) (bs - 6) (dw_l1 i (some (.int w1)) v) [] μ1
  refine q_ald rfl rfl ?_
  refine q_ald rfl rfl ?_
  refine q_ild rfl rfl ?_
  refine q_ic rfl ?_
  refine q_add rfl ?_
  refine q_sald rfl (by omega) (by omega) ?_
  refine q_ald rfl rfl ?_
  refine q_ild rfl rfl ?_
  refine q_ic rfl ?_
  refine q_add rfl ?_
  refine q_sald rfl (by omega) (by omega) ?_
  refine q_ald rfl rfl ?_
  refine q_ild rfl rfl ?_
  refine q_ic rfl ?_
  refine q_add rfl ?_
  refine q_sald rfl (by omega) (by omega) ?_
  refine q_callV (as := [.int (xs (i + 1).toInt.toNat), .int (xs (i + 2).toInt.toNat), .int (xs (i + 3).toInt.toNat)]) (rest := []) rfl rfl (k_404 hI1) rfl (Nat.le_of_ble_eq_true rfl) (cr_X12_is hI1 (hf1 406 (by decide)).1 hT.2.2.1.1 (fun r2 w2 μ2 hc2 hq2 => ?_))
  obtain ⟨hI2, hr2, hy2, ho2, hf2⟩ := hc2
  subst hr2
  show dw_ok (pr_law L xs) 571 (bc - 1) (bs - 6) (dw_l1 i (some (.int w1)) v) [.int w2] μ2
  refine q_ist rfl rfl ?_
  show dw_ok (pr_law L xs) 573 (bc - 1) (bs - 6) (dw_l1 i (some (.int w1)) (some (.int w2))) [] μ2
  refine q_ald rfl rfl ?_
  refine q_callV (as := []) (rest := []) rfl rfl (k_404 hI2) rfl (Nat.le_of_ble_eq_true rfl) (q_mthrown hI2 ?_)
  show dw_ok (pr_law L xs) 577 (bc - 1) (bs - 6) (dw_l1 i (some (.int w1)) (some (.int w2))) [.int (μ2.2.2.1 404 0)] μ2
  refine q_ild rfl rfl ?_
  have ew : (μ2.2.2.1 404 0).toInt = w1.toInt := by
    rcases hq1 with ⟨o, e, -⟩ | ⟨o, e⟩
    · rcases hq2 with ⟨-, f, -⟩ | ⟨o2, -⟩
      · rw [e, f]
      · exact absurd o o2
    · rcases hq2 with ⟨o2, -, -⟩ | ⟨-, f⟩
      · exact absurd o2 o
      · rw [e, f]
  refine q_icmp (c := 0) rfl (by decide) (fun _ => ?_) (fun hne => absurd ew hne)
  have fin : dw_ok (pr_law L xs) 601 (bc - 1) (bs - 6) (dw_l1 i (some (.int w1)) (some (.int w2))) [] μ2 := by
    refine q_goto rfl ?_
    exact hk _ _ _ _ _ (by omega) (by omega) hI2 ⟨by omega, by omega, by omega⟩ ⟨tr_keep hT.1 ((hf2 2 (by decide)).1.trans (hf1 2 (by decide)).1) ((hf2 405 (by decide)).1.trans (hf1 405 (by decide)).1) hz.1 (by omega) (by omega), mRes_eq hT.2.1 ((hf2 410 (by decide)).2.trans (hf1 410 (by decide)).2), rel_fr (fun a q1 q2 => (hf2 a (rw_out (p := rwS) rfl (rwS_of q1 q2))).1.trans (hf1 a (rw_out (p := rwS) rfl (rwS_of q1 q2))).1) ((hf2 406 (by decide)).1.trans (hf1 406 (by decide)).1) (fun a q => (hf2 a (rw_out (p := rwK) rfl (rwK_of q))).1.trans (hf1 a (rw_out (p := rwK) rfl (rwK_of q))).1) hT.2.2⟩
  refine q_ild rfl rfl ?_
  refine q_if (c := 1) rfl (by decide) (fun _ => fin) (fun h1 => ?_)
  have h1 : w1.toInt = 0 := h1
  refine q_ald rfl rfl ?_
  refine q_ic rfl ?_
  refine q_xaldl (n := 1) rfl (by rw [hI2.1]; exact (shE 434).1) (by rw [hI2.1]; exact (shE 434).2.1) (by decide) (by decide) ?_
  refine q_ild rfl rfl ?_
  refine q_i2l rfl ?_
  refine q_lcmp rfl ?_
  have el : μ2.2.2.2 434 0 = w2.toInt64 := by
    rcases hq1 with ⟨o, e, vv, ev, hv⟩ | ⟨o, e⟩
    · rcases hq2 with ⟨-, -, f⟩ | ⟨o2, -⟩
      · rw [(hf2 434 (by decide)).2, ev, show vv = w2 from hv.trans f.symm]
      · exact absurd o o2
    · exact absurd h1 (by rw [e]; decide)
  exact q_if (c := 0) rfl (by decide) (fun _ => fin) (fun hne => absurd (show (lg_cmp (μ2.2.2.2 434 0) w2.toInt64).toInt = 0 from cmp_e el) hne)
theorem lw_10 {L : Nat} {xs : Nat → Int32} {i : Int32} {u v : Option Value} {bc bs : Nat} {μ : dw_S} (hI : INV μ) (hz : (μ.2.2.1 1 1).toInt = (μ.2.2.1 404 2).toInt ∧ (μ.2.2.1 210 0).toInt = (μ.2.2.1 433 0).toInt ∧ (μ.2.2.1 307 0).toInt = (μ.2.2.1 433 1).toInt) (hT : tbC μ.2.2.1 = tbL μ.2.2.1 ∧ mRes μ.2.2.2 ∧ REL μ.2.2.1) (h0 : 0 ≤ i.toInt) (h6 : i.toInt + 6 ≤ L) (hL : L ≤ 3072) (hc : 1 ≤ bc) (hs : 6 ≤ bs)
    (hk : ∀ (u v : Option Value) (bc' bs' : Nat) (μ' : dw_S), bc ≤ bc' + 1 → bs ≤ bs' + 6 → INV μ' → ((μ'.2.2.1 1 1).toInt = (μ'.2.2.1 404 2).toInt ∧ (μ'.2.2.1 210 0).toInt = (μ'.2.2.1 433 0).toInt ∧ (μ'.2.2.1 307 0).toInt = (μ'.2.2.1 433 1).toInt) → (tbC μ'.2.2.1 = tbL μ'.2.2.1 ∧ mRes μ'.2.2.2 ∧ REL μ'.2.2.1) → dw_ok (pr_law L xs) 1932 bc' bs' (dw_l1 i u v) [] μ') : dw_ok (pr_law L xs) 604 bc bs (dw_l1 i u v) [] μ := by
  have e1 : (i + 1).toInt = i.toInt + 1 := by
    have c : (1 : Int32).toInt = 1 := rfl
    rw [i_add (by omega) (by omega), c]
  have e2 : (i + 2).toInt = i.toInt + 2 := by
    have c : (2 : Int32).toInt = 2 := rfl
    rw [i_add (by omega) (by omega), c]
  have e3 : (i + 3).toInt = i.toInt + 3 := by
    have c : (3 : Int32).toInt = 3 := rfl
    rw [i_add (by omega) (by omega), c]
  have e4 : (i + 4).toInt = i.toInt + 4 := by
    have c : (4 : Int32).toInt = 4 := rfl
    rw [i_add (by omega) (by omega), c]
  have e5 : (i + 5).toInt = i.toInt + 5 := by
    have c : (5 : Int32).toInt = 5 := rfl
    rw [i_add (by omega) (by omega), c]
  have hb1 := hb_1 hI
  refine q_ald rfl rfl ?_
  refine q_ald rfl rfl ?_
  refine q_ild rfl rfl ?_
  refine q_ic rfl ?_
  refine q_add rfl ?_
  refine q_sald rfl (by omega) (by omega) ?_
  refine q_callV (as := [.int (xs (i + 1).toInt.toNat)]) (rest := []) rfl rfl (k_0 hI) rfl (Nat.le_of_ble_eq_true rfl) (cl_X11_now hI (fun r1 w1 μ1 hc1 => ?_))
  obtain ⟨hI1, hr1, hy1, ho1, hf1⟩ := hc1
  subst hr1
  show dw_ok (pr_law L xs) 614 bc bs (dw_l1 i u v) [.int w1] μ1
  refine q_pop rfl ?_
  refine q_ald rfl rfl ?_
  refine q_ald rfl rfl ?_
  refine q_ild rfl rfl ?_
  refine q_ic rfl ?_
  refine q_add rfl ?_
  refine q_sald rfl (by omega) (by omega) ?_
  refine q_callV (as := [.int (xs (i + 1).toInt.toNat)]) (rest := []) rfl rfl (k_404 hI1) rfl (Nat.le_of_ble_eq_true rfl) (cl_X12_now hI1 (fun r2 w2 μ2 hc2 => ?_))
  obtain ⟨hI2, hr2, hy2, ho2, hf2⟩ := hc2
  subst hr2
  show dw_ok (pr_law L xs) 625 bc bs (dw_l1 i u v) [.int w2] μ2
  refine q_pop rfl ?_
  refine q_goto rfl ?_
  exact hk _ _ _ _ _ (by omega) (by omega) hI2 ⟨by omega, by omega, by omega⟩ ⟨tr_keep hT.1 ((hf2 2 (by decide)).1.trans (hf1 2 (by decide)).1) ((hf2 405 (by decide)).1.trans (hf1 405 (by decide)).1) hz.1 (by omega) (by omega), mRes_eq hT.2.1 ((hf2 410 (by decide)).2.trans (hf1 410 (by decide)).2), rel_fr (fun a q1 q2 => (hf2 a (rw_out (p := rwS) rfl (rwS_of q1 q2))).1.trans (hf1 a (rw_out (p := rwS) rfl (rwS_of q1 q2))).1) ((hf2 406 (by decide)).1.trans (hf1 406 (by decide)).1) (fun a q => (hf2 a (rw_out (p := rwK) rfl (rwK_of q))).1.trans (hf1 a (rw_out (p := rwK) rfl (rwK_of q))).1) hT.2.2⟩
theorem lw_11 {L : Nat} {xs : Nat → Int32} {i : Int32} {u v : Option Value} {bc bs : Nat} {μ : dw_S} (hI : INV μ) (hz : (μ.2.2.1 1 1).toInt = (μ.2.2.1 404 2).toInt ∧ (μ.2.2.1 210 0).toInt = (μ.2.2.1 433 0).toInt ∧ (μ.2.2.1 307 0).toInt = (μ.2.2.1 433 1).toInt) (hT : tbC μ.2.2.1 = tbL μ.2.2.1 ∧ mRes μ.2.2.2 ∧ REL μ.2.2.1) (h0 : 0 ≤ i.toInt) (h6 : i.toInt + 6 ≤ L) (hL : L ≤ 3072) (hc : 1 ≤ bc) (hs : 6 ≤ bs)
    (hk : ∀ (u v : Option Value) (bc' bs' : Nat) (μ' : dw_S), bc ≤ bc' + 1 → bs ≤ bs' + 6 → INV μ' → ((μ'.2.2.1 1 1).toInt = (μ'.2.2.1 404 2).toInt ∧ (μ'.2.2.1 210 0).toInt = (μ'.2.2.1 433 0).toInt ∧ (μ'.2.2.1 307 0).toInt = (μ'.2.2.1 433 1).toInt) → (tbC μ'.2.2.1 = tbL μ'.2.2.1 ∧ mRes μ'.2.2.2 ∧ REL μ'.2.2.1) → dw_ok (pr_law L xs) 1932 bc' bs' (dw_l1 i u v) [] μ') : dw_ok (pr_law L xs) 629 bc bs (dw_l1 i u v) [] μ := by
  have e1 : (i + 1).toInt = i.toInt + 1 := by
    have c : (1 : Int32).toInt = 1 := rfl
    rw [i_add (by omega) (by omega), c]
  have e2 : (i + 2).toInt = i.toInt + 2 := by
    have c : (2 : Int32).toInt = 2 := rfl
    rw [i_add (by omega) (by omega), c]
  have e3 : (i + 3).toInt = i.toInt + 3 := by
    have c : (3 : Int32).toInt = 3 := rfl
    rw [i_add (by omega) (by omega), c]
  have e4 : (i + 4).toInt = i.toInt + 4 := by
    have c : (4 : Int32).toInt = 4 := rfl
    rw [i_add (by omega) (by omega), c]
  have e5 : (i + 5).toInt = i.toInt + 5 := by
    have c : (5 : Int32).toInt = 5 := rfl
    rw [i_add (by omega) (by omega), c]
  have hb1 := hb_1 hI
  refine q_ald rfl rfl ?_
  refine q_callV (as := []) (rest := []) rfl rfl (k_0 hI) rfl (Nat.le_of_ble_eq_true rfl) (cr_X11_plan hI hT.2.2.1 (fun r1 w1 μ1 hc1 hq1 => ?_))
  obtain ⟨hI1, hr1, hy1, ho1, hf1⟩ := hc1
  subst hr1
  show dw_ok (pr_law L xs) 633 bc bs (dw_l1 i u v) [.int w1] μ1
  refine q_pop rfl ?_
  refine q_ald rfl rfl ?_
  refine q_callV (as := []) (rest := []) rfl rfl (k_404 hI1) rfl (Nat.le_of_ble_eq_true rfl) (cr_X12_plan hI1 (by rw [(hf1 406 (by decide)).1]; exact hT.2.2.1.1) (fun r2 w2 μ2 hc2 hq2 => ?_))
  obtain ⟨hI2, hr2, hy2, ho2, hf2⟩ := hc2
  have et : tbL μ1.2.2.1 = tbC μ.2.2.1 := (tbL_eq ho1.1 (hf1 405 (by decide)).1).trans hT.1.symm
  have eN : (μ1.2.2.1 404 2).toInt.toNat = (μ.2.2.1 1 1).toInt.toNat := by omega
  have e6 : μ1.2.2.1 406 = μ.2.2.1 406 := (hf1 406 (by decide)).1
  rw [et, eN, e6] at hq2
  obtain ⟨hre, hew⟩ := rel_plan hT.2.2 hq1 hq2 (fun a q1 q2 => (hf2 a (rw_out (p := rwS) rfl (rwS_of q1 q2))).1) (fun a q => (hf2 a (rw_out (p := rwK) rfl (rwK_of q))).1.trans (hf1 a (rw_out (p := rwK) rfl (rwK_of q))).1)
  subst hr2
  show dw_ok (pr_law L xs) 638 bc bs (dw_l1 i u v) [.int w2] μ2
  refine q_pop rfl ?_
  refine q_goto rfl ?_
  exact hk _ _ _ _ _ (by omega) (by omega) hI2 ⟨by omega, by omega, by omega⟩ ⟨tr_keep hT.1 ((hf2 2 (by decide)).1.trans (hf1 2 (by decide)).1) ((hf2 405 (by decide)).1.trans (hf1 405 (by decide)).1) hz.1 (by omega) (by omega), mRes_eq hT.2.1 ((hf2 410 (by decide)).2.trans (hf1 410 (by decide)).2), hre⟩
theorem lw_12 {L : Nat} {xs : Nat → Int32} {i : Int32} {u v : Option Value} {bc bs : Nat} {μ : dw_S} (hI : INV μ) (hz : (μ.2.2.1 1 1).toInt = (μ.2.2.1 404 2).toInt ∧ (μ.2.2.1 210 0).toInt = (μ.2.2.1 433 0).toInt ∧ (μ.2.2.1 307 0).toInt = (μ.2.2.1 433 1).toInt) (hT : tbC μ.2.2.1 = tbL μ.2.2.1 ∧ mRes μ.2.2.2 ∧ REL μ.2.2.1) (h0 : 0 ≤ i.toInt) (h6 : i.toInt + 6 ≤ L) (hL : L ≤ 3072) (hc : 1 ≤ bc) (hs : 6 ≤ bs)
    (hk : ∀ (u v : Option Value) (bc' bs' : Nat) (μ' : dw_S), bc ≤ bc' + 1 → bs ≤ bs' + 6 → INV μ' → ((μ'.2.2.1 1 1).toInt = (μ'.2.2.1 404 2).toInt ∧ (μ'.2.2.1 210 0).toInt = (μ'.2.2.1 433 0).toInt ∧ (μ'.2.2.1 307 0).toInt = (μ'.2.2.1 433 1).toInt) → (tbC μ'.2.2.1 = tbL μ'.2.2.1 ∧ mRes μ'.2.2.2 ∧ REL μ'.2.2.1) → dw_ok (pr_law L xs) 1932 bc' bs' (dw_l1 i u v) [] μ') : dw_ok (pr_law L xs) 642 bc bs (dw_l1 i u v) [] μ := by
  have e1 : (i + 1).toInt = i.toInt + 1 := by
    have c : (1 : Int32).toInt = 1 := rfl
    rw [i_add (by omega) (by omega), c]
  have e2 : (i + 2).toInt = i.toInt + 2 := by
    have c : (2 : Int32).toInt = 2 := rfl
    rw [i_add (by omega) (by omega), c]
  have e3 : (i + 3).toInt = i.toInt + 3 := by
    have c : (3 : Int32).toInt = 3 := rfl
    rw [i_add (by omega) (by omega), c]
  have e4 : (i + 4).toInt = i.toInt + 4 := by
    have c : (4 : Int32).toInt = 4 := rfl
    rw [i_add (by omega) (by omega), c]
  have e5 : (i + 5).toInt = i.toInt + 5 := by
    have c : (5 : Int32).toInt = 5 := rfl
    rw [i_add (by omega) (by omega), c]
  have hb1 := hb_1 hI
  refine q_ald rfl rfl ?_
  refine q_ald rfl rfl ?_
  refine q_ild rfl rfl ?_
  refine q_ic rfl ?_
  refine q_add rfl ?_
  refine q_sald rfl (by omega) (by omega) ?_
  refine q_callV (as := [.int (xs (i + 1).toInt.toNat)]) (rest := []) rfl rfl (k_0 hI) rfl (Nat.le_of_ble_eq_true rfl) (cr_X11_go hI hT.2.2 (fun r1 w1 μ1 hc1 hq1 => ?_))
  obtain ⟨hI1, hr1, hy1, ho1, hf1⟩ := hc1
  subst hr1
  show dw_ok (pr_law L xs) 652 bc bs (dw_l1 i u v) [.int w1] μ1
  refine q_pop rfl ?_
  refine q_ald rfl rfl ?_
  refine q_ald rfl rfl ?_
  refine q_ild rfl rfl ?_
  refine q_ic rfl ?_
  refine q_add rfl ?_
  refine q_sald rfl (by omega) (by omega) ?_
  refine q_callV (as := [.int (xs (i + 1).toInt.toNat)]) (rest := []) rfl rfl (k_404 hI1) rfl (Nat.le_of_ble_eq_true rfl) (cr_X12_go hI1 (hf1 406 (by decide)).1 hT.2.2.1.1 (rr_gm hT.2.2.1) (fun i hi => rp_b hT.2.2.1.1 hT.2.2.1.2.2.2.1 hi) hT.2.2.1.2.2.2.1.2.1 (fun r2 w2 μ2 hc2 hq2 => ?_))
  obtain ⟨hI2, hr2, hy2, ho2, hf2⟩ := hc2
  obtain ⟨hre, hew⟩ := rel_go hT.2.2 hq1 hq2 (fun a q1 q2 => (hf2 a (rw_out (p := rwS) rfl (rwS_of q1 q2))).1) (fun a q => (hf2 a (rw_out (p := rwK) rfl (rwK_of q))).1.trans (hf1 a (rw_out (p := rwK) rfl (rwK_of q))).1)
  subst hr2
  show dw_ok (pr_law L xs) 663 bc bs (dw_l1 i u v) [.int w2] μ2
  refine q_pop rfl ?_
  refine q_goto rfl ?_
  exact hk _ _ _ _ _ (by omega) (by omega) hI2 ⟨by omega, by omega, by omega⟩ ⟨tr_keep hT.1 ((hf2 2 (by decide)).1.trans (hf1 2 (by decide)).1) ((hf2 405 (by decide)).1.trans (hf1 405 (by decide)).1) hz.1 (by omega) (by omega), mRes_eq hT.2.1 ((hf2 410 (by decide)).2.trans (hf1 410 (by decide)).2), hre⟩
theorem lw_13 {L : Nat} {xs : Nat → Int32} {i : Int32} {u v : Option Value} {bc bs : Nat} {μ : dw_S} (hI : INV μ) (hz : (μ.2.2.1 1 1).toInt = (μ.2.2.1 404 2).toInt ∧ (μ.2.2.1 210 0).toInt = (μ.2.2.1 433 0).toInt ∧ (μ.2.2.1 307 0).toInt = (μ.2.2.1 433 1).toInt) (hT : tbC μ.2.2.1 = tbL μ.2.2.1 ∧ mRes μ.2.2.2 ∧ REL μ.2.2.1) (h0 : 0 ≤ i.toInt) (h6 : i.toInt + 6 ≤ L) (hL : L ≤ 3072) (hc : 1 ≤ bc) (hs : 6 ≤ bs)
    (hk : ∀ (u v : Option Value) (bc' bs' : Nat) (μ' : dw_S), bc ≤ bc' + 1 → bs ≤ bs' + 6 → INV μ' → ((μ'.2.2.1 1 1).toInt = (μ'.2.2.1 404 2).toInt ∧ (μ'.2.2.1 210 0).toInt = (μ'.2.2.1 433 0).toInt ∧ (μ'.2.2.1 307 0).toInt = (μ'.2.2.1 433 1).toInt) → (tbC μ'.2.2.1 = tbL μ'.2.2.1 ∧ mRes μ'.2.2.2 ∧ REL μ'.2.2.1) → dw_ok (pr_law L xs) 1932 bc' bs' (dw_l1 i u v) [] μ') : dw_ok (pr_law L xs) 667 bc bs (dw_l1 i u v) [] μ := by
  have e1 : (i + 1).toInt = i.toInt + 1 := by
    have c : (1 : Int32).toInt = 1 := rfl
    rw [i_add (by omega) (by omega), c]
  have e2 : (i + 2).toInt = i.toInt + 2 := by
    have c : (2 : Int32).toInt = 2 := rfl
    rw [i_add (by omega) (by omega), c]
  have e3 : (i + 3).toInt = i.toInt + 3 := by
    have c : (3 : Int32).toInt = 3 := rfl
    rw [i_add (by omega) (by omega), c]
  have e4 : (i + 4).toInt = i.toInt + 4 := by
    have c : (4 : Int32).toInt = 4 := rfl
    rw [i_add (by omega) (by omega), c]
  have e5 : (i + 5).toInt = i.toInt + 5 := by
    have c : (5 : Int32).toInt = 5 := rfl
    rw [i_add (by omega) (by omega), c]
  have hb1 := hb_1 hI
  refine q_ald rfl rfl ?_
  refine q_ald rfl rfl ?_
  refine q_ild rfl rfl ?_
  refine q_ic rfl ?_
  refine q_add rfl ?_
  refine q_sald rfl (by omega) (by omega) ?_
  refine q_callV (as := [.int (xs (i + 1).toInt.toNat)]) (rest := []) rfl rfl (k_0 hI) rfl (Nat.le_of_ble_eq_true rfl) (cl_X11_went hI (fun r1 w1 μ1 hc1 => ?_))
  obtain ⟨hI1, hr1, hy1, ho1, hf1⟩ := hc1
  subst hr1
  show dw_ok (pr_law L xs) 677 bc bs (dw_l1 i u v) [.int w1] μ1
  refine q_pop rfl ?_
  refine q_ald rfl rfl ?_
  refine q_ald rfl rfl ?_
  refine q_ild rfl rfl ?_
  refine q_ic rfl ?_
  refine q_add rfl ?_
  refine q_sald rfl (by omega) (by omega) ?_
  refine q_callV (as := [.int (xs (i + 1).toInt.toNat)]) (rest := []) rfl rfl (k_404 hI1) rfl (Nat.le_of_ble_eq_true rfl) (cl_X12_went hI1 (fun r2 w2 μ2 hc2 => ?_))
  obtain ⟨hI2, hr2, hy2, ho2, hf2⟩ := hc2
  subst hr2
  show dw_ok (pr_law L xs) 688 bc bs (dw_l1 i u v) [.int w2] μ2
  refine q_pop rfl ?_
  refine q_goto rfl ?_
  exact hk _ _ _ _ _ (by omega) (by omega) hI2 ⟨by omega, by omega, by omega⟩ ⟨tr_keep hT.1 ((hf2 2 (by decide)).1.trans (hf1 2 (by decide)).1) ((hf2 405 (by decide)).1.trans (hf1 405 (by decide)).1) hz.1 (by omega) (by omega), mRes_eq hT.2.1 ((hf2 410 (by decide)).2.trans (hf1 410 (by decide)).2), rel_fr (fun a q1 q2 => (hf2 a (rw_out (p := rwS) rfl (rwS_of q1 q2))).1.trans (hf1 a (rw_out (p := rwS) rfl (rwS_of q1 q2))).1) ((hf2 406 (by decide)).1.trans (hf1 406 (by decide)).1) (fun a q => (hf2 a (rw_out (p := rwK) rfl (rwK_of q))).1.trans (hf1 a (rw_out (p := rwK) rfl (rwK_of q))).1) hT.2.2⟩
theorem lw_14 {L : Nat} {xs : Nat → Int32} {i : Int32} {u v : Option Value} {bc bs : Nat} {μ : dw_S} (hI : INV μ) (hz : (μ.2.2.1 1 1).toInt = (μ.2.2.1 404 2).toInt ∧ (μ.2.2.1 210 0).toInt = (μ.2.2.1 433 0).toInt ∧ (μ.2.2.1 307 0).toInt = (μ.2.2.1 433 1).toInt) (hT : tbC μ.2.2.1 = tbL μ.2.2.1 ∧ mRes μ.2.2.2 ∧ REL μ.2.2.1) (h0 : 0 ≤ i.toInt) (h6 : i.toInt + 6 ≤ L) (hL : L ≤ 3072) (hc : 1 ≤ bc) (hs : 6 ≤ bs)
    (hk : ∀ (u v : Option Value) (bc' bs' : Nat) (μ' : dw_S), bc ≤ bc' + 1 → bs ≤ bs' + 6 → INV μ' → ((μ'.2.2.1 1 1).toInt = (μ'.2.2.1 404 2).toInt ∧ (μ'.2.2.1 210 0).toInt = (μ'.2.2.1 433 0).toInt ∧ (μ'.2.2.1 307 0).toInt = (μ'.2.2.1 433 1).toInt) → (tbC μ'.2.2.1 = tbL μ'.2.2.1 ∧ mRes μ'.2.2.2 ∧ REL μ'.2.2.1) → dw_ok (pr_law L xs) 1932 bc' bs' (dw_l1 i u v) [] μ') : dw_ok (pr_law L xs) 692 bc bs (dw_l1 i u v) [] μ := by
  have e1 : (i + 1).toInt = i.toInt + 1 := by
    have c : (1 : Int32).toInt = 1 := rfl
    rw [i_add (by omega) (by omega), c]
  have e2 : (i + 2).toInt = i.toInt + 2 := by
    have c : (2 : Int32).toInt = 2 := rfl
    rw [i_add (by omega) (by omega), c]
  have e3 : (i + 3).toInt = i.toInt + 3 := by
    have c : (3 : Int32).toInt = 3 := rfl
    rw [i_add (by omega) (by omega), c]
  have e4 : (i + 4).toInt = i.toInt + 4 := by
    have c : (4 : Int32).toInt = 4 := rfl
    rw [i_add (by omega) (by omega), c]
  have e5 : (i + 5).toInt = i.toInt + 5 := by
    have c : (5 : Int32).toInt = 5 := rfl
    rw [i_add (by omega) (by omega), c]
  have hb1 := hb_1 hI
  refine q_ald rfl rfl ?_
  refine q_ald rfl rfl ?_
  refine q_ild rfl rfl ?_
  refine q_ic rfl ?_
  refine q_add rfl ?_
  refine q_sald rfl (by omega) (by omega) ?_
  refine q_ald rfl rfl ?_
  refine q_ild rfl rfl ?_
  refine q_ic rfl ?_
  refine q_add rfl ?_
  refine q_sald rfl (by omega) (by omega) ?_
  refine q_ald rfl rfl ?_
  refine q_ild rfl rfl ?_
  refine q_ic rfl ?_
  refine q_add rfl ?_
  refine q_sald rfl (by omega) (by omega) ?_
  refine q_ald rfl rfl ?_
  refine q_ild rfl rfl ?_
  refine q_ic rfl ?_
  refine q_add rfl ?_
  refine q_sald rfl (by omega) (by omega) ?_
  refine q_callV (as := [.int (xs (i + 1).toInt.toNat), .int (xs (i + 2).toInt.toNat), .int (xs (i + 3).toInt.toNat), .int (xs (i + 4).toInt.toNat)]) (rest := []) rfl rfl (k_0 hI) rfl (Nat.le_of_ble_eq_true rfl) (cl_X11_much hI (fun r1 w1 μ1 hc1 => ?_))
  obtain ⟨hI1, hr1, hy1, ho1, hf1⟩ := hc1
  subst hr1
  show dw_ok (pr_law L xs) 720 bc bs (dw_l1 i u v) [.int w1] μ1
  refine q_pop rfl ?_
  refine q_ald rfl rfl ?_
  refine q_ald rfl rfl ?_
  refine q_ild rfl rfl ?_
  refine q_ic rfl ?_
  refine q_add rfl ?_
  refine q_sald rfl (by omega) (by omega) ?_
  refine q_ald rfl rfl ?_
  refine q_ild rfl rfl ?_
  refine q_ic rfl ?_
  refine q_add rfl ?_
  refine q_sald rfl (by omega) (by omega) ?_
  refine q_ald rfl rfl ?_
  refine q_ild rfl rfl ?_
  refine q_ic rfl ?_
  refine q_add rfl ?_
  refine q_sald rfl (by omega) (by omega) ?_
  refine q_ald rfl rfl ?_
  refine q_ild rfl rfl ?_
  refine q_ic rfl ?_
  refine q_add rfl ?_
  refine q_sald rfl (by omega) (by omega) ?_
  refine q_callV (as := [.int (xs (i + 1).toInt.toNat), .int (xs (i + 2).toInt.toNat), .int (xs (i + 3).toInt.toNat), .int (xs (i + 4).toInt.toNat)]) (rest := []) rfl rfl (k_404 hI1) rfl (Nat.le_of_ble_eq_true rfl) (cl_X12_much hI1 (fun r2 w2 μ2 hc2 => ?_))
  obtain ⟨hI2, hr2, hy2, ho2, hf2⟩ := hc2
  subst hr2
  show dw_ok (pr_law L xs) 749 bc bs (dw_l1 i u v) [.int w2] μ2
  refine q_pop rfl ?_
  refine q_goto rfl ?_
  exact hk _ _ _ _ _ (by omega) (by omega) hI2 ⟨by omega, by omega, by omega⟩ ⟨tr_keep hT.1 ((hf2 2 (by decide)).1.trans (hf1 2 (by decide)).1) ((hf2 405 (by decide)).1.trans (hf1 405 (by decide)).1) hz.1 (by omega) (by omega), mRes_eq hT.2.1 ((hf2 410 (by decide)).2.trans (hf1 410 (by decide)).2), rel_fr (fun a q1 q2 => (hf2 a (rw_out (p := rwS) rfl (rwS_of q1 q2))).1.trans (hf1 a (rw_out (p := rwS) rfl (rwS_of q1 q2))).1) ((hf2 406 (by decide)).1.trans (hf1 406 (by decide)).1) (fun a q => (hf2 a (rw_out (p := rwK) rfl (rwK_of q))).1.trans (hf1 a (rw_out (p := rwK) rfl (rwK_of q))).1) hT.2.2⟩
theorem lw_15 {L : Nat} {xs : Nat → Int32} {i : Int32} {u v : Option Value} {bc bs : Nat} {μ : dw_S} (hI : INV μ) (hz : (μ.2.2.1 1 1).toInt = (μ.2.2.1 404 2).toInt ∧ (μ.2.2.1 210 0).toInt = (μ.2.2.1 433 0).toInt ∧ (μ.2.2.1 307 0).toInt = (μ.2.2.1 433 1).toInt) (hT : tbC μ.2.2.1 = tbL μ.2.2.1 ∧ mRes μ.2.2.2 ∧ REL μ.2.2.1) (h0 : 0 ≤ i.toInt) (h6 : i.toInt + 6 ≤ L) (hL : L ≤ 3072) (hc : 1 ≤ bc) (hs : 6 ≤ bs)
    (hk : ∀ (u v : Option Value) (bc' bs' : Nat) (μ' : dw_S), bc ≤ bc' + 1 → bs ≤ bs' + 6 → INV μ' → ((μ'.2.2.1 1 1).toInt = (μ'.2.2.1 404 2).toInt ∧ (μ'.2.2.1 210 0).toInt = (μ'.2.2.1 433 0).toInt ∧ (μ'.2.2.1 307 0).toInt = (μ'.2.2.1 433 1).toInt) → (tbC μ'.2.2.1 = tbL μ'.2.2.1 ∧ mRes μ'.2.2.2 ∧ REL μ'.2.2.1) → dw_ok (pr_law L xs) 1932 bc' bs' (dw_l1 i u v) [] μ') : dw_ok (pr_law L xs) 753 bc bs (dw_l1 i u v) [] μ := by
  have e1 : (i + 1).toInt = i.toInt + 1 := by
    have c : (1 : Int32).toInt = 1 := rfl
    rw [i_add (by omega) (by omega), c]
  have e2 : (i + 2).toInt = i.toInt + 2 := by
    have c : (2 : Int32).toInt = 2 := rfl
    rw [i_add (by omega) (by omega), c]
  have e3 : (i + 3).toInt = i.toInt + 3 := by
    have c : (3 : Int32).toInt = 3 := rfl
    rw [i_add (by omega) (by omega), c]
  have e4 : (i + 4).toInt = i.toInt + 4 := by
    have c : (4 : Int32).toInt = 4 := rfl
    rw [i_add (by omega) (by omega), c]
  have e5 : (i + 5).toInt = i.toInt + 5 := by
    have c : (5 : Int32).toInt = 5 := rfl
    rw [i_add (by omega) (by omega), c]
  have hb1 := hb_1 hI
  refine q_ald rfl rfl ?_
  refine q_ald rfl rfl ?_
  refine q_ild rfl rfl ?_
  refine q_ic rfl ?_
  refine q_add rfl ?_
  refine q_sald rfl (by omega) (by omega) ?_
  refine q_ald rfl rfl ?_
  refine q_ild rfl rfl ?_
  refine q_ic rfl ?_
  refine q_add rfl ?_
  refine q_sald rfl (by omega) (by omega) ?_
  refine q_ald rfl rfl ?_
  refine q_ild rfl rfl ?_
  refine q_ic rfl ?_
  refine q_add rfl ?_
  refine q_sald rfl (by omega) (by omega) ?_
  refine q_callV (as := [.int (xs (i + 1).toInt.toNat), .int (xs (i + 2).toInt.toNat), .int (xs (i + 3).toInt.toNat)]) (rest := []) rfl rfl (k_0 hI) rfl (Nat.le_of_ble_eq_true rfl) (cl_X11_where hI (fun r1 w1 μ1 hc1 => ?_))
  obtain ⟨hI1, hr1, hy1, ho1, hf1⟩ := hc1
  subst hr1
  show dw_ok (pr_law L xs) 775 bc bs (dw_l1 i u v) [.int w1] μ1
  refine q_pop rfl ?_
  refine q_ald rfl rfl ?_
  refine q_ald rfl rfl ?_
  refine q_ild rfl rfl ?_
  refine q_ic rfl ?_
  refine q_add rfl ?_
  refine q_sald rfl (by omega) (by omega) ?_
  refine q_ald rfl rfl ?_
  refine q_ild rfl rfl ?_
  refine q_ic rfl ?_
  refine q_add rfl ?_
  refine q_sald rfl (by omega) (by omega) ?_
  refine q_ald rfl rfl ?_
  refine q_ild rfl rfl ?_
  refine q_ic rfl ?_
  refine q_add rfl ?_
  refine q_sald rfl (by omega) (by omega) ?_
  refine q_callV (as := [.int (xs (i + 1).toInt.toNat), .int (xs (i + 2).toInt.toNat), .int (xs (i + 3).toInt.toNat)]) (rest := []) rfl rfl (k_404 hI1) rfl (Nat.le_of_ble_eq_true rfl) (cl_X12_where hI1 (fun r2 w2 μ2 hc2 => ?_))
  obtain ⟨hI2, hr2, hy2, ho2, hf2⟩ := hc2
  subst hr2
  show dw_ok (pr_law L xs) 798 bc bs (dw_l1 i u v) [.int w2] μ2
  refine q_pop rfl ?_
  refine q_goto rfl ?_
  exact hk _ _ _ _ _ (by omega) (by omega) hI2 ⟨by omega, by omega, by omega⟩ ⟨tr_keep hT.1 ((hf2 2 (by decide)).1.trans (hf1 2 (by decide)).1) ((hf2 405 (by decide)).1.trans (hf1 405 (by decide)).1) hz.1 (by omega) (by omega), mRes_eq hT.2.1 ((hf2 410 (by decide)).2.trans (hf1 410 (by decide)).2), rel_fr (fun a q1 q2 => (hf2 a (rw_out (p := rwS) rfl (rwS_of q1 q2))).1.trans (hf1 a (rw_out (p := rwS) rfl (rwS_of q1 q2))).1) ((hf2 406 (by decide)).1.trans (hf1 406 (by decide)).1) (fun a q => (hf2 a (rw_out (p := rwK) rfl (rwK_of q))).1.trans (hf1 a (rw_out (p := rwK) rfl (rwK_of q))).1) hT.2.2⟩
theorem lw_16 {L : Nat} {xs : Nat → Int32} {i : Int32} {u v : Option Value} {bc bs : Nat} {μ : dw_S} (hI : INV μ) (hz : (μ.2.2.1 1 1).toInt = (μ.2.2.1 404 2).toInt ∧ (μ.2.2.1 210 0).toInt = (μ.2.2.1 433 0).toInt ∧ (μ.2.2.1 307 0).toInt = (μ.2.2.1 433 1).toInt) (hT : tbC μ.2.2.1 = tbL μ.2.2.1 ∧ mRes μ.2.2.2 ∧ REL μ.2.2.1) (h0 : 0 ≤ i.toInt) (h6 : i.toInt + 6 ≤ L) (hL : L ≤ 3072) (hc : 1 ≤ bc) (hs : 6 ≤ bs)
    (hk : ∀ (u v : Option Value) (bc' bs' : Nat) (μ' : dw_S), bc ≤ bc' + 1 → bs ≤ bs' + 6 → INV μ' → ((μ'.2.2.1 1 1).toInt = (μ'.2.2.1 404 2).toInt ∧ (μ'.2.2.1 210 0).toInt = (μ'.2.2.1 433 0).toInt ∧ (μ'.2.2.1 307 0).toInt = (μ'.2.2.1 433 1).toInt) → (tbC μ'.2.2.1 = tbL μ'.2.2.1 ∧ mRes μ'.2.2.2 ∧ REL μ'.2.2.1) → dw_ok (pr_law L xs) 1932 bc' bs' (dw_l1 i u v) [] μ') : dw_ok (pr_law L xs) 802 bc bs (dw_l1 i u v) [] μ := by
  have e1 : (i + 1).toInt = i.toInt + 1 := by
    have c : (1 : Int32).toInt = 1 := rfl
    rw [i_add (by omega) (by omega), c]
  have e2 : (i + 2).toInt = i.toInt + 2 := by
    have c : (2 : Int32).toInt = 2 := rfl
    rw [i_add (by omega) (by omega), c]
  have e3 : (i + 3).toInt = i.toInt + 3 := by
    have c : (3 : Int32).toInt = 3 := rfl
    rw [i_add (by omega) (by omega), c]
  have e4 : (i + 4).toInt = i.toInt + 4 := by
    have c : (4 : Int32).toInt = 4 := rfl
    rw [i_add (by omega) (by omega), c]
  have e5 : (i + 5).toInt = i.toInt + 5 := by
    have c : (5 : Int32).toInt = 5 := rfl
    rw [i_add (by omega) (by omega), c]
  have hb1 := hb_1 hI
  refine q_ald rfl rfl ?_
  refine q_ald rfl rfl ?_
  refine q_ild rfl rfl ?_
  refine q_ic rfl ?_
  refine q_add rfl ?_
  refine q_sald rfl (by omega) (by omega) ?_
  refine q_ald rfl rfl ?_
  refine q_ild rfl rfl ?_
  refine q_ic rfl ?_
  refine q_add rfl ?_
  refine q_sald rfl (by omega) (by omega) ?_
  refine q_ald rfl rfl ?_
  refine q_ild rfl rfl ?_
  refine q_ic rfl ?_
  refine q_add rfl ?_
  refine q_sald rfl (by omega) (by omega) ?_
  refine q_callV (as := [.int (xs (i + 1).toInt.toNat), .int (xs (i + 2).toInt.toNat), .int (xs (i + 3).toInt.toNat)]) (rest := []) rfl rfl (k_0 hI) rfl (Nat.le_of_ble_eq_true rfl) (cl_X11_begins hI (fun r1 w1 μ1 hc1 => ?_))
  obtain ⟨hI1, hr1, hy1, ho1, hf1⟩ := hc1
  subst hr1
  show dw_ok (pr_law L xs) 824 bc bs (dw_l1 i u v) [.int w1] μ1
  refine q_pop rfl ?_
  refine q_ald rfl rfl ?_
  refine q_ald rfl rfl ?_
  refine q_ild rfl rfl ?_
  refine q_ic rfl ?_
  refine q_add rfl ?_
  refine q_sald rfl (by omega) (by omega) ?_
  refine q_ald rfl rfl ?_
  refine q_ild rfl rfl ?_
  refine q_ic rfl ?_
  refine q_add rfl ?_
  refine q_sald rfl (by omega) (by omega) ?_
  refine q_ald rfl rfl ?_
  refine q_ild rfl rfl ?_
  refine q_ic rfl ?_
  refine q_add rfl ?_
  refine q_sald rfl (by omega) (by omega) ?_
  refine q_callV (as := [.int (xs (i + 1).toInt.toNat), .int (xs (i + 2).toInt.toNat), .int (xs (i + 3).toInt.toNat)]) (rest := []) rfl rfl (k_404 hI1) rfl (Nat.le_of_ble_eq_true rfl) (cl_X12_begins hI1 (fun r2 w2 μ2 hc2 => ?_))
  obtain ⟨hI2, hr2, hy2, ho2, hf2⟩ := hc2
  subst hr2
  show dw_ok (pr_law L xs) 847 bc bs (dw_l1 i u v) [.int w2] μ2
  refine q_pop rfl ?_
  refine q_goto rfl ?_
  exact hk _ _ _ _ _ (by omega) (by omega) hI2 ⟨by omega, by omega, by omega⟩ ⟨tr_keep hT.1 ((hf2 2 (by decide)).1.trans (hf1 2 (by decide)).1) ((hf2 405 (by decide)).1.trans (hf1 405 (by decide)).1) hz.1 (by omega) (by omega), mRes_eq hT.2.1 ((hf2 410 (by decide)).2.trans (hf1 410 (by decide)).2), rel_fr (fun a q1 q2 => (hf2 a (rw_out (p := rwS) rfl (rwS_of q1 q2))).1.trans (hf1 a (rw_out (p := rwS) rfl (rwS_of q1 q2))).1) ((hf2 406 (by decide)).1.trans (hf1 406 (by decide)).1) (fun a q => (hf2 a (rw_out (p := rwK) rfl (rwK_of q))).1.trans (hf1 a (rw_out (p := rwK) rfl (rwK_of q))).1) hT.2.2⟩
theorem lw_17 {L : Nat} {xs : Nat → Int32} {i : Int32} {u v : Option Value} {bc bs : Nat} {μ : dw_S} (hI : INV μ) (hz : (μ.2.2.1 1 1).toInt = (μ.2.2.1 404 2).toInt ∧ (μ.2.2.1 210 0).toInt = (μ.2.2.1 433 0).toInt ∧ (μ.2.2.1 307 0).toInt = (μ.2.2.1 433 1).toInt) (hT : tbC μ.2.2.1 = tbL μ.2.2.1 ∧ mRes μ.2.2.2 ∧ REL μ.2.2.1) (h0 : 0 ≤ i.toInt) (h6 : i.toInt + 6 ≤ L) (hL : L ≤ 3072) (hc : 1 ≤ bc) (hs : 6 ≤ bs)
    (hk : ∀ (u v : Option Value) (bc' bs' : Nat) (μ' : dw_S), bc ≤ bc' + 1 → bs ≤ bs' + 6 → INV μ' → ((μ'.2.2.1 1 1).toInt = (μ'.2.2.1 404 2).toInt ∧ (μ'.2.2.1 210 0).toInt = (μ'.2.2.1 433 0).toInt ∧ (μ'.2.2.1 307 0).toInt = (μ'.2.2.1 433 1).toInt) → (tbC μ'.2.2.1 = tbL μ'.2.2.1 ∧ mRes μ'.2.2.2 ∧ REL μ'.2.2.1) → dw_ok (pr_law L xs) 1932 bc' bs' (dw_l1 i u v) [] μ') : dw_ok (pr_law L xs) 851 bc bs (dw_l1 i u v) [] μ := by
  have e1 : (i + 1).toInt = i.toInt + 1 := by
    have c : (1 : Int32).toInt = 1 := rfl
    rw [i_add (by omega) (by omega), c]
  have e2 : (i + 2).toInt = i.toInt + 2 := by
    have c : (2 : Int32).toInt = 2 := rfl
    rw [i_add (by omega) (by omega), c]
  have e3 : (i + 3).toInt = i.toInt + 3 := by
    have c : (3 : Int32).toInt = 3 := rfl
    rw [i_add (by omega) (by omega), c]
  have e4 : (i + 4).toInt = i.toInt + 4 := by
    have c : (4 : Int32).toInt = 4 := rfl
    rw [i_add (by omega) (by omega), c]
  have e5 : (i + 5).toInt = i.toInt + 5 := by
    have c : (5 : Int32).toInt = 5 := rfl
    rw [i_add (by omega) (by omega), c]
  have hb1 := hb_1 hI
  refine q_ald rfl rfl ?_
  refine q_ald rfl rfl ?_
  refine q_ild rfl rfl ?_
  refine q_ic rfl ?_
  refine q_add rfl ?_
  refine q_sald rfl (by omega) (by omega) ?_
  refine q_ald rfl rfl ?_
  refine q_ild rfl rfl ?_
  refine q_ic rfl ?_
  refine q_add rfl ?_
  refine q_sald rfl (by omega) (by omega) ?_
  refine q_ald rfl rfl ?_
  refine q_ild rfl rfl ?_
  refine q_ic rfl ?_
  refine q_add rfl ?_
  refine q_sald rfl (by omega) (by omega) ?_
  refine q_callV (as := [.int (xs (i + 1).toInt.toNat), .int (xs (i + 2).toInt.toNat), .int (xs (i + 3).toInt.toNat)]) (rest := []) rfl rfl (k_0 hI) rfl (Nat.le_of_ble_eq_true rfl) (cl_X11_gone hI (fun r1 w1 μ1 hc1 => ?_))
  obtain ⟨hI1, hr1, hy1, ho1, hf1⟩ := hc1
  subst hr1
  show dw_ok (pr_law L xs) 873 bc bs (dw_l1 i u v) [.int w1] μ1
  refine q_pop rfl ?_
  refine q_ald rfl rfl ?_
  refine q_ald rfl rfl ?_
  refine q_ild rfl rfl ?_
  refine q_ic rfl ?_
  refine q_add rfl ?_
  refine q_sald rfl (by omega) (by omega) ?_
  refine q_ald rfl rfl ?_
  refine q_ild rfl rfl ?_
  refine q_ic rfl ?_
  refine q_add rfl ?_
  refine q_sald rfl (by omega) (by omega) ?_
  refine q_ald rfl rfl ?_
  refine q_ild rfl rfl ?_
  refine q_ic rfl ?_
  refine q_add rfl ?_
  refine q_sald rfl (by omega) (by omega) ?_
  refine q_callV (as := [.int (xs (i + 1).toInt.toNat), .int (xs (i + 2).toInt.toNat), .int (xs (i + 3).toInt.toNat)]) (rest := []) rfl rfl (k_404 hI1) rfl (Nat.le_of_ble_eq_true rfl) (cl_X12_gone hI1 (fun r2 w2 μ2 hc2 => ?_))
  obtain ⟨hI2, hr2, hy2, ho2, hf2⟩ := hc2
  subst hr2
  show dw_ok (pr_law L xs) 896 bc bs (dw_l1 i u v) [.int w2] μ2
  refine q_pop rfl ?_
  refine q_goto rfl ?_
  exact hk _ _ _ _ _ (by omega) (by omega) hI2 ⟨by omega, by omega, by omega⟩ ⟨tr_keep hT.1 ((hf2 2 (by decide)).1.trans (hf1 2 (by decide)).1) ((hf2 405 (by decide)).1.trans (hf1 405 (by decide)).1) hz.1 (by omega) (by omega), mRes_eq hT.2.1 ((hf2 410 (by decide)).2.trans (hf1 410 (by decide)).2), rel_fr (fun a q1 q2 => (hf2 a (rw_out (p := rwS) rfl (rwS_of q1 q2))).1.trans (hf1 a (rw_out (p := rwS) rfl (rwS_of q1 q2))).1) ((hf2 406 (by decide)).1.trans (hf1 406 (by decide)).1) (fun a q => (hf2 a (rw_out (p := rwK) rfl (rwK_of q))).1.trans (hf1 a (rw_out (p := rwK) rfl (rwK_of q))).1) hT.2.2⟩
theorem lw_18 {L : Nat} {xs : Nat → Int32} {i : Int32} {u v : Option Value} {bc bs : Nat} {μ : dw_S} (hI : INV μ) (hz : (μ.2.2.1 1 1).toInt = (μ.2.2.1 404 2).toInt ∧ (μ.2.2.1 210 0).toInt = (μ.2.2.1 433 0).toInt ∧ (μ.2.2.1 307 0).toInt = (μ.2.2.1 433 1).toInt) (hT : tbC μ.2.2.1 = tbL μ.2.2.1 ∧ mRes μ.2.2.2 ∧ REL μ.2.2.1) (h0 : 0 ≤ i.toInt) (h6 : i.toInt + 6 ≤ L) (hL : L ≤ 3072) (hc : 1 ≤ bc) (hs : 6 ≤ bs)
    (hk : ∀ (u v : Option Value) (bc' bs' : Nat) (μ' : dw_S), bc ≤ bc' + 1 → bs ≤ bs' + 6 → INV μ' → ((μ'.2.2.1 1 1).toInt = (μ'.2.2.1 404 2).toInt ∧ (μ'.2.2.1 210 0).toInt = (μ'.2.2.1 433 0).toInt ∧ (μ'.2.2.1 307 0).toInt = (μ'.2.2.1 433 1).toInt) → (tbC μ'.2.2.1 = tbL μ'.2.2.1 ∧ mRes μ'.2.2.2 ∧ REL μ'.2.2.1) → dw_ok (pr_law L xs) 1932 bc' bs' (dw_l1 i u v) [] μ') : dw_ok (pr_law L xs) 900 bc bs (dw_l1 i u v) [] μ := by
  have e1 : (i + 1).toInt = i.toInt + 1 := by
    have c : (1 : Int32).toInt = 1 := rfl
    rw [i_add (by omega) (by omega), c]
  have e2 : (i + 2).toInt = i.toInt + 2 := by
    have c : (2 : Int32).toInt = 2 := rfl
    rw [i_add (by omega) (by omega), c]
  have e3 : (i + 3).toInt = i.toInt + 3 := by
    have c : (3 : Int32).toInt = 3 := rfl
    rw [i_add (by omega) (by omega), c]
  have e4 : (i + 4).toInt = i.toInt + 4 := by
    have c : (4 : Int32).toInt = 4 := rfl
    rw [i_add (by omega) (by omega), c]
  have e5 : (i + 5).toInt = i.toInt + 5 := by
    have c : (5 : Int32).toInt = 5 := rfl
    rw [i_add (by omega) (by omega), c]
  have hb1 := hb_1 hI
  refine q_ald rfl rfl ?_
  refine q_ald rfl rfl ?_
  refine q_ild rfl rfl ?_
  refine q_ic rfl ?_
  refine q_add rfl ?_
  refine q_sald rfl (by omega) (by omega) ?_
  refine q_ald rfl rfl ?_
  refine q_ild rfl rfl ?_
  refine q_ic rfl ?_
  refine q_add rfl ?_
  refine q_sald rfl (by omega) (by omega) ?_
  refine q_ald rfl rfl ?_
  refine q_ild rfl rfl ?_
  refine q_ic rfl ?_
  refine q_add rfl ?_
  refine q_sald rfl (by omega) (by omega) ?_
  refine q_callV (as := [.int (xs (i + 1).toInt.toNat), .int (xs (i + 2).toInt.toNat), .int (xs (i + 3).toInt.toNat)]) (rest := []) rfl rfl (k_0 hI) rfl (Nat.le_of_ble_eq_true rfl) (cl_X11_wet hI (fun r1 w1 μ1 hc1 => ?_))
  obtain ⟨hI1, hr1, hy1, ho1, hf1⟩ := hc1
  subst hr1
  show dw_ok (pr_law L xs) 922 bc bs (dw_l1 i u v) [.int w1] μ1
  refine q_pop rfl ?_
  refine q_ald rfl rfl ?_
  refine q_ald rfl rfl ?_
  refine q_ild rfl rfl ?_
  refine q_ic rfl ?_
  refine q_add rfl ?_
  refine q_sald rfl (by omega) (by omega) ?_
  refine q_ald rfl rfl ?_
  refine q_ild rfl rfl ?_
  refine q_ic rfl ?_
  refine q_add rfl ?_
  refine q_sald rfl (by omega) (by omega) ?_
  refine q_ald rfl rfl ?_
  refine q_ild rfl rfl ?_
  refine q_ic rfl ?_
  refine q_add rfl ?_
  refine q_sald rfl (by omega) (by omega) ?_
  refine q_callV (as := [.int (xs (i + 1).toInt.toNat), .int (xs (i + 2).toInt.toNat), .int (xs (i + 3).toInt.toNat)]) (rest := []) rfl rfl (k_404 hI1) rfl (Nat.le_of_ble_eq_true rfl) (cl_X12_wet hI1 (fun r2 w2 μ2 hc2 => ?_))
  obtain ⟨hI2, hr2, hy2, ho2, hf2⟩ := hc2
  subst hr2
  show dw_ok (pr_law L xs) 945 bc bs (dw_l1 i u v) [.int w2] μ2
  refine q_pop rfl ?_
  refine q_goto rfl ?_
  exact hk _ _ _ _ _ (by omega) (by omega) hI2 ⟨by omega, by omega, by omega⟩ ⟨tr_keep hT.1 ((hf2 2 (by decide)).1.trans (hf1 2 (by decide)).1) ((hf2 405 (by decide)).1.trans (hf1 405 (by decide)).1) hz.1 (by omega) (by omega), mRes_eq hT.2.1 ((hf2 410 (by decide)).2.trans (hf1 410 (by decide)).2), rel_fr (fun a q1 q2 => (hf2 a (rw_out (p := rwS) rfl (rwS_of q1 q2))).1.trans (hf1 a (rw_out (p := rwS) rfl (rwS_of q1 q2))).1) ((hf2 406 (by decide)).1.trans (hf1 406 (by decide)).1) (fun a q => (hf2 a (rw_out (p := rwK) rfl (rwK_of q))).1.trans (hf1 a (rw_out (p := rwK) rfl (rwK_of q))).1) hT.2.2⟩
theorem lw_19 {L : Nat} {xs : Nat → Int32} {i : Int32} {u v : Option Value} {bc bs : Nat} {μ : dw_S} (hI : INV μ) (hz : (μ.2.2.1 1 1).toInt = (μ.2.2.1 404 2).toInt ∧ (μ.2.2.1 210 0).toInt = (μ.2.2.1 433 0).toInt ∧ (μ.2.2.1 307 0).toInt = (μ.2.2.1 433 1).toInt) (hT : tbC μ.2.2.1 = tbL μ.2.2.1 ∧ mRes μ.2.2.2 ∧ REL μ.2.2.1) (h0 : 0 ≤ i.toInt) (h6 : i.toInt + 6 ≤ L) (hL : L ≤ 3072) (hc : 1 ≤ bc) (hs : 6 ≤ bs)
    (hk : ∀ (u v : Option Value) (bc' bs' : Nat) (μ' : dw_S), bc ≤ bc' + 1 → bs ≤ bs' + 6 → INV μ' → ((μ'.2.2.1 1 1).toInt = (μ'.2.2.1 404 2).toInt ∧ (μ'.2.2.1 210 0).toInt = (μ'.2.2.1 433 0).toInt ∧ (μ'.2.2.1 307 0).toInt = (μ'.2.2.1 433 1).toInt) → (tbC μ'.2.2.1 = tbL μ'.2.2.1 ∧ mRes μ'.2.2.2 ∧ REL μ'.2.2.1) → dw_ok (pr_law L xs) 1932 bc' bs' (dw_l1 i u v) [] μ') : dw_ok (pr_law L xs) 949 bc bs (dw_l1 i u v) [] μ := by
  have e1 : (i + 1).toInt = i.toInt + 1 := by
    have c : (1 : Int32).toInt = 1 := rfl
    rw [i_add (by omega) (by omega), c]
  have e2 : (i + 2).toInt = i.toInt + 2 := by
    have c : (2 : Int32).toInt = 2 := rfl
    rw [i_add (by omega) (by omega), c]
  have e3 : (i + 3).toInt = i.toInt + 3 := by
    have c : (3 : Int32).toInt = 3 := rfl
    rw [i_add (by omega) (by omega), c]
  have e4 : (i + 4).toInt = i.toInt + 4 := by
    have c : (4 : Int32).toInt = 4 := rfl
    rw [i_add (by omega) (by omega), c]
  have e5 : (i + 5).toInt = i.toInt + 5 := by
    have c : (5 : Int32).toInt = 5 := rfl
    rw [i_add (by omega) (by omega), c]
  have hb1 := hb_1 hI
  refine q_ald rfl rfl ?_
  refine q_ald rfl rfl ?_
  refine q_ild rfl rfl ?_
  refine q_ic rfl ?_
  refine q_add rfl ?_
  refine q_sald rfl (by omega) (by omega) ?_
  refine q_ald rfl rfl ?_
  refine q_ild rfl rfl ?_
  refine q_ic rfl ?_
  refine q_add rfl ?_
  refine q_sald rfl (by omega) (by omega) ?_
  refine q_ald rfl rfl ?_
  refine q_ild rfl rfl ?_
  refine q_ic rfl ?_
  refine q_add rfl ?_
  refine q_sald rfl (by omega) (by omega) ?_
  refine q_callV (as := [.int (xs (i + 1).toInt.toNat), .int (xs (i + 2).toInt.toNat), .int (xs (i + 3).toInt.toNat)]) (rest := []) rfl rfl (k_0 hI) rfl (Nat.le_of_ble_eq_true rfl) (cl_X11_spell hI (fun r1 w1 μ1 hc1 => ?_))
  obtain ⟨hI1, hr1, hy1, ho1, hf1⟩ := hc1
  subst hr1
  show dw_ok (pr_law L xs) 971 bc bs (dw_l1 i u v) [.int w1] μ1
  refine q_pop rfl ?_
  refine q_ald rfl rfl ?_
  refine q_ald rfl rfl ?_
  refine q_ild rfl rfl ?_
  refine q_ic rfl ?_
  refine q_add rfl ?_
  refine q_sald rfl (by omega) (by omega) ?_
  refine q_ald rfl rfl ?_
  refine q_ild rfl rfl ?_
  refine q_ic rfl ?_
  refine q_add rfl ?_
  refine q_sald rfl (by omega) (by omega) ?_
  refine q_ald rfl rfl ?_
  refine q_ild rfl rfl ?_
  refine q_ic rfl ?_
  refine q_add rfl ?_
  refine q_sald rfl (by omega) (by omega) ?_
  refine q_callV (as := [.int (xs (i + 1).toInt.toNat), .int (xs (i + 2).toInt.toNat), .int (xs (i + 3).toInt.toNat)]) (rest := []) rfl rfl (k_404 hI1) rfl (Nat.le_of_ble_eq_true rfl) (cl_X12_spell hI1 (fun r2 w2 μ2 hc2 => ?_))
  obtain ⟨hI2, hr2, hy2, ho2, hf2⟩ := hc2
  subst hr2
  show dw_ok (pr_law L xs) 994 bc bs (dw_l1 i u v) [.int w2] μ2
  refine q_pop rfl ?_
  refine q_goto rfl ?_
  exact hk _ _ _ _ _ (by omega) (by omega) hI2 ⟨by omega, by omega, by omega⟩ ⟨tr_keep hT.1 ((hf2 2 (by decide)).1.trans (hf1 2 (by decide)).1) ((hf2 405 (by decide)).1.trans (hf1 405 (by decide)).1) hz.1 (by omega) (by omega), mRes_eq hT.2.1 ((hf2 410 (by decide)).2.trans (hf1 410 (by decide)).2), rel_fr (fun a q1 q2 => (hf2 a (rw_out (p := rwS) rfl (rwS_of q1 q2))).1.trans (hf1 a (rw_out (p := rwS) rfl (rwS_of q1 q2))).1) ((hf2 406 (by decide)).1.trans (hf1 406 (by decide)).1) (fun a q => (hf2 a (rw_out (p := rwK) rfl (rwK_of q))).1.trans (hf1 a (rw_out (p := rwK) rfl (rwK_of q))).1) hT.2.2⟩
theorem lw_20 {L : Nat} {xs : Nat → Int32} {i : Int32} {u v : Option Value} {bc bs : Nat} {μ : dw_S} (hI : INV μ) (hz : (μ.2.2.1 1 1).toInt = (μ.2.2.1 404 2).toInt ∧ (μ.2.2.1 210 0).toInt = (μ.2.2.1 433 0).toInt ∧ (μ.2.2.1 307 0).toInt = (μ.2.2.1 433 1).toInt) (hT : tbC μ.2.2.1 = tbL μ.2.2.1 ∧ mRes μ.2.2.2 ∧ REL μ.2.2.1) (h0 : 0 ≤ i.toInt) (h6 : i.toInt + 6 ≤ L) (hL : L ≤ 3072) (hc : 1 ≤ bc) (hs : 6 ≤ bs)
    (hk : ∀ (u v : Option Value) (bc' bs' : Nat) (μ' : dw_S), bc ≤ bc' + 1 → bs ≤ bs' + 6 → INV μ' → ((μ'.2.2.1 1 1).toInt = (μ'.2.2.1 404 2).toInt ∧ (μ'.2.2.1 210 0).toInt = (μ'.2.2.1 433 0).toInt ∧ (μ'.2.2.1 307 0).toInt = (μ'.2.2.1 433 1).toInt) → (tbC μ'.2.2.1 = tbL μ'.2.2.1 ∧ mRes μ'.2.2.2 ∧ REL μ'.2.2.1) → dw_ok (pr_law L xs) 1932 bc' bs' (dw_l1 i u v) [] μ') : dw_ok (pr_law L xs) 998 bc bs (dw_l1 i u v) [] μ := by
  have e1 : (i + 1).toInt = i.toInt + 1 := by
    have c : (1 : Int32).toInt = 1 := rfl
    rw [i_add (by omega) (by omega), c]
  have e2 : (i + 2).toInt = i.toInt + 2 := by
    have c : (2 : Int32).toInt = 2 := rfl
    rw [i_add (by omega) (by omega), c]
  have e3 : (i + 3).toInt = i.toInt + 3 := by
    have c : (3 : Int32).toInt = 3 := rfl
    rw [i_add (by omega) (by omega), c]
  have e4 : (i + 4).toInt = i.toInt + 4 := by
    have c : (4 : Int32).toInt = 4 := rfl
    rw [i_add (by omega) (by omega), c]
  have e5 : (i + 5).toInt = i.toInt + 5 := by
    have c : (5 : Int32).toInt = 5 := rfl
    rw [i_add (by omega) (by omega), c]
  have hb1 := hb_1 hI
  refine q_ald rfl rfl ?_
  refine q_ald rfl rfl ?_
  refine q_ild rfl rfl ?_
  refine q_ic rfl ?_
  refine q_add rfl ?_
  refine q_sald rfl (by omega) (by omega) ?_
  refine q_ald rfl rfl ?_
  refine q_ild rfl rfl ?_
  refine q_ic rfl ?_
  refine q_add rfl ?_
  refine q_sald rfl (by omega) (by omega) ?_
  refine q_callV (as := [.int (xs (i + 1).toInt.toNat), .int (xs (i + 2).toInt.toNat)]) (rest := []) rfl rfl (k_0 hI) rfl (Nat.le_of_ble_eq_true rfl) (cl_X11_sick hI (fun r1 w1 μ1 hc1 => ?_))
  obtain ⟨hI1, hr1, hy1, ho1, hf1⟩ := hc1
  subst hr1
  show dw_ok (pr_law L xs) 1014 bc bs (dw_l1 i u v) [.int w1] μ1
  refine q_pop rfl ?_
  refine q_ald rfl rfl ?_
  refine q_ald rfl rfl ?_
  refine q_ild rfl rfl ?_
  refine q_ic rfl ?_
  refine q_add rfl ?_
  refine q_sald rfl (by omega) (by omega) ?_
  refine q_ald rfl rfl ?_
  refine q_ild rfl rfl ?_
  refine q_ic rfl ?_
  refine q_add rfl ?_
  refine q_sald rfl (by omega) (by omega) ?_
  refine q_callV (as := [.int (xs (i + 1).toInt.toNat), .int (xs (i + 2).toInt.toNat)]) (rest := []) rfl rfl (k_404 hI1) rfl (Nat.le_of_ble_eq_true rfl) (cl_X12_sick hI1 (fun r2 w2 μ2 hc2 => ?_))
  obtain ⟨hI2, hr2, hy2, ho2, hf2⟩ := hc2
  subst hr2
  show dw_ok (pr_law L xs) 1031 bc bs (dw_l1 i u v) [.int w2] μ2
  refine q_pop rfl ?_
  refine q_goto rfl ?_
  exact hk _ _ _ _ _ (by omega) (by omega) hI2 ⟨by omega, by omega, by omega⟩ ⟨tr_keep hT.1 ((hf2 2 (by decide)).1.trans (hf1 2 (by decide)).1) ((hf2 405 (by decide)).1.trans (hf1 405 (by decide)).1) hz.1 (by omega) (by omega), mRes_eq hT.2.1 ((hf2 410 (by decide)).2.trans (hf1 410 (by decide)).2), rel_fr (fun a q1 q2 => (hf2 a (rw_out (p := rwS) rfl (rwS_of q1 q2))).1.trans (hf1 a (rw_out (p := rwS) rfl (rwS_of q1 q2))).1) ((hf2 406 (by decide)).1.trans (hf1 406 (by decide)).1) (fun a q => (hf2 a (rw_out (p := rwK) rfl (rwK_of q))).1.trans (hf1 a (rw_out (p := rwK) rfl (rwK_of q))).1) hT.2.2⟩
theorem lw_21 {L : Nat} {xs : Nat → Int32} {i : Int32} {u v : Option Value} {bc bs : Nat} {μ : dw_S} (hI : INV μ) (hz : (μ.2.2.1 1 1).toInt = (μ.2.2.1 404 2).toInt ∧ (μ.2.2.1 210 0).toInt = (μ.2.2.1 433 0).toInt ∧ (μ.2.2.1 307 0).toInt = (μ.2.2.1 433 1).toInt) (hT : tbC μ.2.2.1 = tbL μ.2.2.1 ∧ mRes μ.2.2.2 ∧ REL μ.2.2.1) (h0 : 0 ≤ i.toInt) (h6 : i.toInt + 6 ≤ L) (hL : L ≤ 3072) (hc : 1 ≤ bc) (hs : 6 ≤ bs)
    (hk : ∀ (u v : Option Value) (bc' bs' : Nat) (μ' : dw_S), bc ≤ bc' + 1 → bs ≤ bs' + 6 → INV μ' → ((μ'.2.2.1 1 1).toInt = (μ'.2.2.1 404 2).toInt ∧ (μ'.2.2.1 210 0).toInt = (μ'.2.2.1 433 0).toInt ∧ (μ'.2.2.1 307 0).toInt = (μ'.2.2.1 433 1).toInt) → (tbC μ'.2.2.1 = tbL μ'.2.2.1 ∧ mRes μ'.2.2.2 ∧ REL μ'.2.2.1) → dw_ok (pr_law L xs) 1932 bc' bs' (dw_l1 i u v) [] μ') : dw_ok (pr_law L xs) 1035 bc bs (dw_l1 i u v) [] μ := by
  have e1 : (i + 1).toInt = i.toInt + 1 := by
    have c : (1 : Int32).toInt = 1 := rfl
    rw [i_add (by omega) (by omega), c]
  have e2 : (i + 2).toInt = i.toInt + 2 := by
    have c : (2 : Int32).toInt = 2 := rfl
    rw [i_add (by omega) (by omega), c]
  have e3 : (i + 3).toInt = i.toInt + 3 := by
    have c : (3 : Int32).toInt = 3 := rfl
    rw [i_add (by omega) (by omega), c]
  have e4 : (i + 4).toInt = i.toInt + 4 := by
    have c : (4 : Int32).toInt = 4 := rfl
    rw [i_add (by omega) (by omega), c]
  have e5 : (i + 5).toInt = i.toInt + 5 := by
    have c : (5 : Int32).toInt = 5 := rfl
    rw [i_add (by omega) (by omega), c]
  have hb1 := hb_1 hI
  refine q_ald rfl rfl ?_
  refine q_ald rfl rfl ?_
  refine q_ild rfl rfl ?_
  refine q_ic rfl ?_
  refine q_add rfl ?_
  refine q_sald rfl (by omega) (by omega) ?_
  refine q_ald rfl rfl ?_
  refine q_ild rfl rfl ?_
  refine q_ic rfl ?_
  refine q_add rfl ?_
  refine q_sald rfl (by omega) (by omega) ?_
  refine q_ald rfl rfl ?_
  refine q_ild rfl rfl ?_
  refine q_ic rfl ?_
  refine q_add rfl ?_
  refine q_sald rfl (by omega) (by omega) ?_
  refine q_callV (as := [.int (xs (i + 1).toInt.toNat), .int (xs (i + 2).toInt.toNat), .int (xs (i + 3).toInt.toNat)]) (rest := []) rfl rfl (k_0 hI) rfl (Nat.le_of_ble_eq_true rfl) (cl_X11_frost hI (fun r1 w1 μ1 hc1 => ?_))
  obtain ⟨hI1, hr1, hy1, ho1, hf1⟩ := hc1
  subst hr1
  show dw_ok (pr_law L xs) 1057 bc bs (dw_l1 i u v) [.int w1] μ1
  refine q_pop rfl ?_
  refine q_ald rfl rfl ?_
  refine q_ald rfl rfl ?_
  refine q_ild rfl rfl ?_
  refine q_ic rfl ?_
  refine q_add rfl ?_
  refine q_sald rfl (by omega) (by omega) ?_
  refine q_ald rfl rfl ?_
  refine q_ild rfl rfl ?_
  refine q_ic rfl ?_
  refine q_add rfl ?_
  refine q_sald rfl (by omega) (by omega) ?_
  refine q_ald rfl rfl ?_
  refine q_ild rfl rfl ?_
  refine q_ic rfl ?_
  refine q_add rfl ?_
  refine q_sald rfl (by omega) (by omega) ?_
  refine q_callV (as := [.int (xs (i + 1).toInt.toNat), .int (xs (i + 2).toInt.toNat), .int (xs (i + 3).toInt.toNat)]) (rest := []) rfl rfl (k_404 hI1) rfl (Nat.le_of_ble_eq_true rfl) (cl_X12_frost hI1 (fun r2 w2 μ2 hc2 => ?_))
  obtain ⟨hI2, hr2, hy2, ho2, hf2⟩ := hc2
  subst hr2
  show dw_ok (pr_law L xs) 1080 bc bs (dw_l1 i u v) [.int w2] μ2
  refine q_pop rfl ?_
  refine q_goto rfl ?_
  exact hk _ _ _ _ _ (by omega) (by omega) hI2 ⟨by omega, by omega, by omega⟩ ⟨tr_keep hT.1 ((hf2 2 (by decide)).1.trans (hf1 2 (by decide)).1) ((hf2 405 (by decide)).1.trans (hf1 405 (by decide)).1) hz.1 (by omega) (by omega), mRes_eq hT.2.1 ((hf2 410 (by decide)).2.trans (hf1 410 (by decide)).2), rel_fr (fun a q1 q2 => (hf2 a (rw_out (p := rwS) rfl (rwS_of q1 q2))).1.trans (hf1 a (rw_out (p := rwS) rfl (rwS_of q1 q2))).1) ((hf2 406 (by decide)).1.trans (hf1 406 (by decide)).1) (fun a q => (hf2 a (rw_out (p := rwK) rfl (rwK_of q))).1.trans (hf1 a (rw_out (p := rwK) rfl (rwK_of q))).1) hT.2.2⟩
theorem lw_22 {L : Nat} {xs : Nat → Int32} {i : Int32} {u v : Option Value} {bc bs : Nat} {μ : dw_S} (hI : INV μ) (hz : (μ.2.2.1 1 1).toInt = (μ.2.2.1 404 2).toInt ∧ (μ.2.2.1 210 0).toInt = (μ.2.2.1 433 0).toInt ∧ (μ.2.2.1 307 0).toInt = (μ.2.2.1 433 1).toInt) (hT : tbC μ.2.2.1 = tbL μ.2.2.1 ∧ mRes μ.2.2.2 ∧ REL μ.2.2.1) (h0 : 0 ≤ i.toInt) (h6 : i.toInt + 6 ≤ L) (hL : L ≤ 3072) (hc : 1 ≤ bc) (hs : 6 ≤ bs)
    (hk : ∀ (u v : Option Value) (bc' bs' : Nat) (μ' : dw_S), bc ≤ bc' + 1 → bs ≤ bs' + 6 → INV μ' → ((μ'.2.2.1 1 1).toInt = (μ'.2.2.1 404 2).toInt ∧ (μ'.2.2.1 210 0).toInt = (μ'.2.2.1 433 0).toInt ∧ (μ'.2.2.1 307 0).toInt = (μ'.2.2.1 433 1).toInt) → (tbC μ'.2.2.1 = tbL μ'.2.2.1 ∧ mRes μ'.2.2.2 ∧ REL μ'.2.2.1) → dw_ok (pr_law L xs) 1932 bc' bs' (dw_l1 i u v) [] μ') : dw_ok (pr_law L xs) 1084 bc bs (dw_l1 i u v) [] μ := by
  have e1 : (i + 1).toInt = i.toInt + 1 := by
    have c : (1 : Int32).toInt = 1 := rfl
    rw [i_add (by omega) (by omega), c]
  have e2 : (i + 2).toInt = i.toInt + 2 := by
    have c : (2 : Int32).toInt = 2 := rfl
    rw [i_add (by omega) (by omega), c]
  have e3 : (i + 3).toInt = i.toInt + 3 := by
    have c : (3 : Int32).toInt = 3 := rfl
    rw [i_add (by omega) (by omega), c]
  have e4 : (i + 4).toInt = i.toInt + 4 := by
    have c : (4 : Int32).toInt = 4 := rfl
    rw [i_add (by omega) (by omega), c]
  have e5 : (i + 5).toInt = i.toInt + 5 := by
    have c : (5 : Int32).toInt = 5 := rfl
    rw [i_add (by omega) (by omega), c]
  have hb1 := hb_1 hI
  refine q_ald rfl rfl ?_
  refine q_ald rfl rfl ?_
  refine q_ild rfl rfl ?_
  refine q_ic rfl ?_
  refine q_add rfl ?_
  refine q_sald rfl (by omega) (by omega) ?_
  refine q_ald rfl rfl ?_
  refine q_ild rfl rfl ?_
  refine q_ic rfl ?_
  refine q_add rfl ?_
  refine q_sald rfl (by omega) (by omega) ?_
  refine q_ald rfl rfl ?_
  refine q_ild rfl rfl ?_
  refine q_ic rfl ?_
  refine q_add rfl ?_
  refine q_sald rfl (by omega) (by omega) ?_
  refine q_ald rfl rfl ?_
  refine q_ild rfl rfl ?_
  refine q_ic rfl ?_
  refine q_add rfl ?_
  refine q_sald rfl (by omega) (by omega) ?_
  refine q_callV (as := [.int (xs (i + 1).toInt.toNat), .int (xs (i + 2).toInt.toNat), .int (xs (i + 3).toInt.toNat), .int (xs (i + 4).toInt.toNat)]) (rest := []) rfl rfl (k_0 hI) rfl (Nat.le_of_ble_eq_true rfl) (cl_X11_slugs hI (fun r1 w1 μ1 hc1 => ?_))
  obtain ⟨hI1, hr1, hy1, ho1, hf1⟩ := hc1
  subst hr1
  show dw_ok (pr_law L xs) 1112 bc bs (dw_l1 i u v) [.int w1] μ1
  refine q_pop rfl ?_
  refine q_ald rfl rfl ?_
  refine q_ald rfl rfl ?_
  refine q_ild rfl rfl ?_
  refine q_ic rfl ?_
  refine q_add rfl ?_
  refine q_sald rfl (by omega) (by omega) ?_
  refine q_ald rfl rfl ?_
  refine q_ild rfl rfl ?_
  refine q_ic rfl ?_
  refine q_add rfl ?_
  refine q_sald rfl (by omega) (by omega) ?_
  refine q_ald rfl rfl ?_
  refine q_ild rfl rfl ?_
  refine q_ic rfl ?_
  refine q_add rfl ?_
  refine q_sald rfl (by omega) (by omega) ?_
  refine q_ald rfl rfl ?_
  refine q_ild rfl rfl ?_
  refine q_ic rfl ?_
  refine q_add rfl ?_
  refine q_sald rfl (by omega) (by omega) ?_
  refine q_callV (as := [.int (xs (i + 1).toInt.toNat), .int (xs (i + 2).toInt.toNat), .int (xs (i + 3).toInt.toNat), .int (xs (i + 4).toInt.toNat)]) (rest := []) rfl rfl (k_404 hI1) rfl (Nat.le_of_ble_eq_true rfl) (cl_X12_slugs hI1 (fun r2 w2 μ2 hc2 => ?_))
  obtain ⟨hI2, hr2, hy2, ho2, hf2⟩ := hc2
  subst hr2
  show dw_ok (pr_law L xs) 1141 bc bs (dw_l1 i u v) [.int w2] μ2
  refine q_pop rfl ?_
  refine q_goto rfl ?_
  exact hk _ _ _ _ _ (by omega) (by omega) hI2 ⟨by omega, by omega, by omega⟩ ⟨tr_keep hT.1 ((hf2 2 (by decide)).1.trans (hf1 2 (by decide)).1) ((hf2 405 (by decide)).1.trans (hf1 405 (by decide)).1) hz.1 (by omega) (by omega), mRes_eq hT.2.1 ((hf2 410 (by decide)).2.trans (hf1 410 (by decide)).2), rel_fr (fun a q1 q2 => (hf2 a (rw_out (p := rwS) rfl (rwS_of q1 q2))).1.trans (hf1 a (rw_out (p := rwS) rfl (rwS_of q1 q2))).1) ((hf2 406 (by decide)).1.trans (hf1 406 (by decide)).1) (fun a q => (hf2 a (rw_out (p := rwK) rfl (rwK_of q))).1.trans (hf1 a (rw_out (p := rwK) rfl (rwK_of q))).1) hT.2.2⟩
theorem lw_23 {L : Nat} {xs : Nat → Int32} {i : Int32} {u v : Option Value} {bc bs : Nat} {μ : dw_S} (hI : INV μ) (hz : (μ.2.2.1 1 1).toInt = (μ.2.2.1 404 2).toInt ∧ (μ.2.2.1 210 0).toInt = (μ.2.2.1 433 0).toInt ∧ (μ.2.2.1 307 0).toInt = (μ.2.2.1 433 1).toInt) (hT : tbC μ.2.2.1 = tbL μ.2.2.1 ∧ mRes μ.2.2.2 ∧ REL μ.2.2.1) (h0 : 0 ≤ i.toInt) (h6 : i.toInt + 6 ≤ L) (hL : L ≤ 3072) (hc : 1 ≤ bc) (hs : 6 ≤ bs)
    (hk : ∀ (u v : Option Value) (bc' bs' : Nat) (μ' : dw_S), bc ≤ bc' + 1 → bs ≤ bs' + 6 → INV μ' → ((μ'.2.2.1 1 1).toInt = (μ'.2.2.1 404 2).toInt ∧ (μ'.2.2.1 210 0).toInt = (μ'.2.2.1 433 0).toInt ∧ (μ'.2.2.1 307 0).toInt = (μ'.2.2.1 433 1).toInt) → (tbC μ'.2.2.1 = tbL μ'.2.2.1 ∧ mRes μ'.2.2.2 ∧ REL μ'.2.2.1) → dw_ok (pr_law L xs) 1932 bc' bs' (dw_l1 i u v) [] μ') : dw_ok (pr_law L xs) 1145 bc bs (dw_l1 i u v) [] μ := by
  have e1 : (i + 1).toInt = i.toInt + 1 := by
    have c : (1 : Int32).toInt = 1 := rfl
    rw [i_add (by omega) (by omega), c]
  have e2 : (i + 2).toInt = i.toInt + 2 := by
    have c : (2 : Int32).toInt = 2 := rfl
    rw [i_add (by omega) (by omega), c]
  have e3 : (i + 3).toInt = i.toInt + 3 := by
    have c : (3 : Int32).toInt = 3 := rfl
    rw [i_add (by omega) (by omega), c]
  have e4 : (i + 4).toInt = i.toInt + 4 := by
    have c : (4 : Int32).toInt = 4 := rfl
    rw [i_add (by omega) (by omega), c]
  have e5 : (i + 5).toInt = i.toInt + 5 := by
    have c : (5 : Int32).toInt = 5 := rfl
    rw [i_add (by omega) (by omega), c]
  have hb1 := hb_1 hI
  refine q_ald rfl rfl ?_
  refine q_ald rfl rfl ?_
  refine q_ild rfl rfl ?_
  refine q_ic rfl ?_
  refine q_add rfl ?_
  refine q_sald rfl (by omega) (by omega) ?_
  refine q_ald rfl rfl ?_
  refine q_ild rfl rfl ?_
  refine q_ic rfl ?_
  refine q_add rfl ?_
  refine q_sald rfl (by omega) (by omega) ?_
  refine q_ald rfl rfl ?_
  refine q_ild rfl rfl ?_
  refine q_ic rfl ?_
  refine q_add rfl ?_
  refine q_sald rfl (by omega) (by omega) ?_
  refine q_ald rfl rfl ?_
  refine q_ild rfl rfl ?_
  refine q_ic rfl ?_
  refine q_add rfl ?_
  refine q_sald rfl (by omega) (by omega) ?_
  refine q_callV (as := [.int (xs (i + 1).toInt.toNat), .int (xs (i + 2).toInt.toNat), .int (xs (i + 3).toInt.toNat), .int (xs (i + 4).toInt.toNat)]) (rest := []) rfl rfl (k_0 hI) rfl (Nat.le_of_ble_eq_true rfl) (cl_X11_walk hI (fun r1 w1 μ1 hc1 => ?_))
  obtain ⟨hI1, hr1, hy1, ho1, hf1⟩ := hc1
  subst hr1
  show dw_ok (pr_law L xs) 1173 bc bs (dw_l1 i u v) [.int w1] μ1
  refine q_pop rfl ?_
  refine q_ald rfl rfl ?_
  refine q_ald rfl rfl ?_
  refine q_ild rfl rfl ?_
  refine q_ic rfl ?_
  refine q_add rfl ?_
  refine q_sald rfl (by omega) (by omega) ?_
  refine q_ald rfl rfl ?_
  refine q_ild rfl rfl ?_
  refine q_ic rfl ?_
  refine q_add rfl ?_
  refine q_sald rfl (by omega) (by omega) ?_
  refine q_ald rfl rfl ?_
  refine q_ild rfl rfl ?_
  refine q_ic rfl ?_
  refine q_add rfl ?_
  refine q_sald rfl (by omega) (by omega) ?_
  refine q_ald rfl rfl ?_
  refine q_ild rfl rfl ?_
  refine q_ic rfl ?_
  refine q_add rfl ?_
  refine q_sald rfl (by omega) (by omega) ?_
  refine q_callV (as := [.int (xs (i + 1).toInt.toNat), .int (xs (i + 2).toInt.toNat), .int (xs (i + 3).toInt.toNat), .int (xs (i + 4).toInt.toNat)]) (rest := []) rfl rfl (k_404 hI1) rfl (Nat.le_of_ble_eq_true rfl) (cl_X12_walk hI1 (fun r2 w2 μ2 hc2 => ?_))
  obtain ⟨hI2, hr2, hy2, ho2, hf2⟩ := hc2
  subst hr2
  show dw_ok (pr_law L xs) 1202 bc bs (dw_l1 i u v) [.int w2] μ2
  refine q_pop rfl ?_
  refine q_goto rfl ?_
  exact hk _ _ _ _ _ (by omega) (by omega) hI2 ⟨by omega, by omega, by omega⟩ ⟨tr_keep hT.1 ((hf2 2 (by decide)).1.trans (hf1 2 (by decide)).1) ((hf2 405 (by decide)).1.trans (hf1 405 (by decide)).1) hz.1 (by omega) (by omega), mRes_eq hT.2.1 ((hf2 410 (by decide)).2.trans (hf1 410 (by decide)).2), rel_fr (fun a q1 q2 => (hf2 a (rw_out (p := rwS) rfl (rwS_of q1 q2))).1.trans (hf1 a (rw_out (p := rwS) rfl (rwS_of q1 q2))).1) ((hf2 406 (by decide)).1.trans (hf1 406 (by decide)).1) (fun a q => (hf2 a (rw_out (p := rwK) rfl (rwK_of q))).1.trans (hf1 a (rw_out (p := rwK) rfl (rwK_of q))).1) hT.2.2⟩
theorem lw_24 {L : Nat} {xs : Nat → Int32} {i : Int32} {u v : Option Value} {bc bs : Nat} {μ : dw_S} (hI : INV μ) (hz : (μ.2.2.1 1 1).toInt = (μ.2.2.1 404 2).toInt ∧ (μ.2.2.1 210 0).toInt = (μ.2.2.1 433 0).toInt ∧ (μ.2.2.1 307 0).toInt = (μ.2.2.1 433 1).toInt) (hT : tbC μ.2.2.1 = tbL μ.2.2.1 ∧ mRes μ.2.2.2 ∧ REL μ.2.2.1) (h0 : 0 ≤ i.toInt) (h6 : i.toInt + 6 ≤ L) (hL : L ≤ 3072) (hc : 1 ≤ bc) (hs : 6 ≤ bs)
    (hk : ∀ (u v : Option Value) (bc' bs' : Nat) (μ' : dw_S), bc ≤ bc' + 1 → bs ≤ bs' + 6 → INV μ' → ((μ'.2.2.1 1 1).toInt = (μ'.2.2.1 404 2).toInt ∧ (μ'.2.2.1 210 0).toInt = (μ'.2.2.1 433 0).toInt ∧ (μ'.2.2.1 307 0).toInt = (μ'.2.2.1 433 1).toInt) → (tbC μ'.2.2.1 = tbL μ'.2.2.1 ∧ mRes μ'.2.2.2 ∧ REL μ'.2.2.1) → dw_ok (pr_law L xs) 1932 bc' bs' (dw_l1 i u v) [] μ') : dw_ok (pr_law L xs) 1206 bc bs (dw_l1 i u v) [] μ := by
  have e1 : (i + 1).toInt = i.toInt + 1 := by
    have c : (1 : Int32).toInt = 1 := rfl
    rw [i_add (by omega) (by omega), c]
  have e2 : (i + 2).toInt = i.toInt + 2 := by
    have c : (2 : Int32).toInt = 2 := rfl
    rw [i_add (by omega) (by omega), c]
  have e3 : (i + 3).toInt = i.toInt + 3 := by
    have c : (3 : Int32).toInt = 3 := rfl
    rw [i_add (by omega) (by omega), c]
  have e4 : (i + 4).toInt = i.toInt + 4 := by
    have c : (4 : Int32).toInt = 4 := rfl
    rw [i_add (by omega) (by omega), c]
  have e5 : (i + 5).toInt = i.toInt + 5 := by
    have c : (5 : Int32).toInt = 5 := rfl
    rw [i_add (by omega) (by omega), c]
  have hb1 := hb_1 hI
  refine q_ald rfl rfl ?_
  refine q_ald rfl rfl ?_
  refine q_ild rfl rfl ?_
  refine q_ic rfl ?_
  refine q_add rfl ?_
  refine q_sald rfl (by omega) (by omega) ?_
  refine q_ald rfl rfl ?_
  refine q_ild rfl rfl ?_
  refine q_ic rfl ?_
  refine q_add rfl ?_
  refine q_sald rfl (by omega) (by omega) ?_
  refine q_callV (as := [.int (xs (i + 1).toInt.toNat), .int (xs (i + 2).toInt.toNat)]) (rest := []) rfl rfl (k_0 hI) rfl (Nat.le_of_ble_eq_true rfl) (cl_X11_unlike hI (fun r1 w1 μ1 hc1 => ?_))
  obtain ⟨hI1, hr1, hy1, ho1, hf1⟩ := hc1
  subst hr1
  show dw_ok (pr_law L xs) 1222 bc bs (dw_l1 i u v) [.int w1] μ1
  refine q_pop rfl ?_
  refine q_ald rfl rfl ?_
  refine q_ald rfl rfl ?_
  refine q_ild rfl rfl ?_
  refine q_ic rfl ?_
  refine q_add rfl ?_
  refine q_sald rfl (by omega) (by omega) ?_
  refine q_ald rfl rfl ?_
  refine q_ild rfl rfl ?_
  refine q_ic rfl ?_
  refine q_add rfl ?_
  refine q_sald rfl (by omega) (by omega) ?_
  refine q_callV (as := [.int (xs (i + 1).toInt.toNat), .int (xs (i + 2).toInt.toNat)]) (rest := []) rfl rfl (k_404 hI1) rfl (Nat.le_of_ble_eq_true rfl) (cl_X12_unlike hI1 (fun r2 w2 μ2 hc2 => ?_))
  obtain ⟨hI2, hr2, hy2, ho2, hf2⟩ := hc2
  subst hr2
  show dw_ok (pr_law L xs) 1239 bc bs (dw_l1 i u v) [.int w2] μ2
  refine q_pop rfl ?_
  refine q_goto rfl ?_
  exact hk _ _ _ _ _ (by omega) (by omega) hI2 ⟨by omega, by omega, by omega⟩ ⟨tr_keep hT.1 ((hf2 2 (by decide)).1.trans (hf1 2 (by decide)).1) ((hf2 405 (by decide)).1.trans (hf1 405 (by decide)).1) hz.1 (by omega) (by omega), mRes_eq hT.2.1 ((hf2 410 (by decide)).2.trans (hf1 410 (by decide)).2), rel_fr (fun a q1 q2 => (hf2 a (rw_out (p := rwS) rfl (rwS_of q1 q2))).1.trans (hf1 a (rw_out (p := rwS) rfl (rwS_of q1 q2))).1) ((hf2 406 (by decide)).1.trans (hf1 406 (by decide)).1) (fun a q => (hf2 a (rw_out (p := rwK) rfl (rwK_of q))).1.trans (hf1 a (rw_out (p := rwK) rfl (rwK_of q))).1) hT.2.2⟩
theorem lw_25 {L : Nat} {xs : Nat → Int32} {i : Int32} {u v : Option Value} {bc bs : Nat} {μ : dw_S} (hI : INV μ) (hz : (μ.2.2.1 1 1).toInt = (μ.2.2.1 404 2).toInt ∧ (μ.2.2.1 210 0).toInt = (μ.2.2.1 433 0).toInt ∧ (μ.2.2.1 307 0).toInt = (μ.2.2.1 433 1).toInt) (hT : tbC μ.2.2.1 = tbL μ.2.2.1 ∧ mRes μ.2.2.2 ∧ REL μ.2.2.1) (h0 : 0 ≤ i.toInt) (h6 : i.toInt + 6 ≤ L) (hL : L ≤ 3072) (hc : 1 ≤ bc) (hs : 6 ≤ bs)
    (hk : ∀ (u v : Option Value) (bc' bs' : Nat) (μ' : dw_S), bc ≤ bc' + 1 → bs ≤ bs' + 6 → INV μ' → ((μ'.2.2.1 1 1).toInt = (μ'.2.2.1 404 2).toInt ∧ (μ'.2.2.1 210 0).toInt = (μ'.2.2.1 433 0).toInt ∧ (μ'.2.2.1 307 0).toInt = (μ'.2.2.1 433 1).toInt) → (tbC μ'.2.2.1 = tbL μ'.2.2.1 ∧ mRes μ'.2.2.2 ∧ REL μ'.2.2.1) → dw_ok (pr_law L xs) 1932 bc' bs' (dw_l1 i u v) [] μ') : dw_ok (pr_law L xs) 1243 bc bs (dw_l1 i u v) [] μ := by
  have e1 : (i + 1).toInt = i.toInt + 1 := by
    have c : (1 : Int32).toInt = 1 := rfl
    rw [i_add (by omega) (by omega), c]
  have e2 : (i + 2).toInt = i.toInt + 2 := by
    have c : (2 : Int32).toInt = 2 := rfl
    rw [i_add (by omega) (by omega), c]
  have e3 : (i + 3).toInt = i.toInt + 3 := by
    have c : (3 : Int32).toInt = 3 := rfl
    rw [i_add (by omega) (by omega), c]
  have e4 : (i + 4).toInt = i.toInt + 4 := by
    have c : (4 : Int32).toInt = 4 := rfl
    rw [i_add (by omega) (by omega), c]
  have e5 : (i + 5).toInt = i.toInt + 5 := by
    have c : (5 : Int32).toInt = 5 := rfl
    rw [i_add (by omega) (by omega), c]
  have hb1 := hb_1 hI
  refine q_ald rfl rfl ?_
  refine q_ald rfl rfl ?_
  refine q_ild rfl rfl ?_
  refine q_ic rfl ?_
  refine q_add rfl ?_
  refine q_sald rfl (by omega) (by omega) ?_
  refine q_ald rfl rfl ?_
  refine q_ild rfl rfl ?_
  refine q_ic rfl ?_
  refine q_add rfl ?_
  refine q_sald rfl (by omega) (by omega) ?_
  refine q_callV (as := [.int (xs (i + 1).toInt.toNat), .int (xs (i + 2).toInt.toNat)]) (rest := []) rfl rfl (k_0 hI) rfl (Nat.le_of_ble_eq_true rfl) (cl_X11_bench hI (fun r1 w1 μ1 hc1 => ?_))
  obtain ⟨hI1, hr1, hy1, ho1, hf1⟩ := hc1
  subst hr1
  show dw_ok (pr_law L xs) 1259 bc bs (dw_l1 i u v) [.int w1] μ1
  refine q_pop rfl ?_
  refine q_ald rfl rfl ?_
  refine q_ald rfl rfl ?_
  refine q_ild rfl rfl ?_
  refine q_ic rfl ?_
  refine q_add rfl ?_
  refine q_sald rfl (by omega) (by omega) ?_
  refine q_ald rfl rfl ?_
  refine q_ild rfl rfl ?_
  refine q_ic rfl ?_
  refine q_add rfl ?_
  refine q_sald rfl (by omega) (by omega) ?_
  refine q_callV (as := [.int (xs (i + 1).toInt.toNat), .int (xs (i + 2).toInt.toNat)]) (rest := []) rfl rfl (k_404 hI1) rfl (Nat.le_of_ble_eq_true rfl) (cl_X12_bench hI1 (fun r2 w2 μ2 hc2 => ?_))
  obtain ⟨hI2, hr2, hy2, ho2, hf2⟩ := hc2
  subst hr2
  show dw_ok (pr_law L xs) 1276 bc bs (dw_l1 i u v) [.int w2] μ2
  refine q_pop rfl ?_
  refine q_goto rfl ?_
  exact hk _ _ _ _ _ (by omega) (by omega) hI2 ⟨by omega, by omega, by omega⟩ ⟨tr_keep hT.1 ((hf2 2 (by decide)).1.trans (hf1 2 (by decide)).1) ((hf2 405 (by decide)).1.trans (hf1 405 (by decide)).1) hz.1 (by omega) (by omega), mRes_eq hT.2.1 ((hf2 410 (by decide)).2.trans (hf1 410 (by decide)).2), rel_fr (fun a q1 q2 => (hf2 a (rw_out (p := rwS) rfl (rwS_of q1 q2))).1.trans (hf1 a (rw_out (p := rwS) rfl (rwS_of q1 q2))).1) ((hf2 406 (by decide)).1.trans (hf1 406 (by decide)).1) (fun a q => (hf2 a (rw_out (p := rwK) rfl (rwK_of q))).1.trans (hf1 a (rw_out (p := rwK) rfl (rwK_of q))).1) hT.2.2⟩
theorem lw_26 {L : Nat} {xs : Nat → Int32} {i : Int32} {u v : Option Value} {bc bs : Nat} {μ : dw_S} (hI : INV μ) (hz : (μ.2.2.1 1 1).toInt = (μ.2.2.1 404 2).toInt ∧ (μ.2.2.1 210 0).toInt = (μ.2.2.1 433 0).toInt ∧ (μ.2.2.1 307 0).toInt = (μ.2.2.1 433 1).toInt) (hT : tbC μ.2.2.1 = tbL μ.2.2.1 ∧ mRes μ.2.2.2 ∧ REL μ.2.2.1) (h0 : 0 ≤ i.toInt) (h6 : i.toInt + 6 ≤ L) (hL : L ≤ 3072) (hc : 1 ≤ bc) (hs : 6 ≤ bs)
    (hk : ∀ (u v : Option Value) (bc' bs' : Nat) (μ' : dw_S), bc ≤ bc' + 1 → bs ≤ bs' + 6 → INV μ' → ((μ'.2.2.1 1 1).toInt = (μ'.2.2.1 404 2).toInt ∧ (μ'.2.2.1 210 0).toInt = (μ'.2.2.1 433 0).toInt ∧ (μ'.2.2.1 307 0).toInt = (μ'.2.2.1 433 1).toInt) → (tbC μ'.2.2.1 = tbL μ'.2.2.1 ∧ mRes μ'.2.2.2 ∧ REL μ'.2.2.1) → dw_ok (pr_law L xs) 1932 bc' bs' (dw_l1 i u v) [] μ') : dw_ok (pr_law L xs) 1280 bc bs (dw_l1 i u v) [] μ := by
  have e1 : (i + 1).toInt = i.toInt + 1 := by
    have c : (1 : Int32).toInt = 1 := rfl
    rw [i_add (by omega) (by omega), c]
  have e2 : (i + 2).toInt = i.toInt + 2 := by
    have c : (2 : Int32).toInt = 2 := rfl
    rw [i_add (by omega) (by omega), c]
  have e3 : (i + 3).toInt = i.toInt + 3 := by
    have c : (3 : Int32).toInt = 3 := rfl
    rw [i_add (by omega) (by omega), c]
  have e4 : (i + 4).toInt = i.toInt + 4 := by
    have c : (4 : Int32).toInt = 4 := rfl
    rw [i_add (by omega) (by omega), c]
  have e5 : (i + 5).toInt = i.toInt + 5 := by
    have c : (5 : Int32).toInt = 5 := rfl
    rw [i_add (by omega) (by omega), c]
  have hb1 := hb_1 hI
  refine q_ald rfl rfl ?_
  refine q_callV (as := []) (rest := []) rfl rfl (k_0 hI) rfl (Nat.le_of_ble_eq_true rfl) (cl_X11_lawn hI (fun r1 w1 μ1 hc1 => ?_))
  obtain ⟨hI1, hr1, hy1, ho1, hf1⟩ := hc1
  subst hr1
  show dw_ok (pr_law L xs) 1284 bc bs (dw_l1 i u v) [.int w1] μ1
  refine q_pop rfl ?_
  refine q_ald rfl rfl ?_
  refine q_callV (as := []) (rest := []) rfl rfl (k_404 hI1) rfl (Nat.le_of_ble_eq_true rfl) (cl_X12_lawn hI1 (fun r2 w2 μ2 hc2 => ?_))
  obtain ⟨hI2, hr2, hy2, ho2, hf2⟩ := hc2
  subst hr2
  show dw_ok (pr_law L xs) 1289 bc bs (dw_l1 i u v) [.int w2] μ2
  refine q_pop rfl ?_
  refine q_goto rfl ?_
  exact hk _ _ _ _ _ (by omega) (by omega) hI2 ⟨by omega, by omega, by omega⟩ ⟨tr_keep hT.1 ((hf2 2 (by decide)).1.trans (hf1 2 (by decide)).1) ((hf2 405 (by decide)).1.trans (hf1 405 (by decide)).1) hz.1 (by omega) (by omega), mRes_eq hT.2.1 ((hf2 410 (by decide)).2.trans (hf1 410 (by decide)).2), rel_fr (fun a q1 q2 => (hf2 a (rw_out (p := rwS) rfl (rwS_of q1 q2))).1.trans (hf1 a (rw_out (p := rwS) rfl (rwS_of q1 q2))).1) ((hf2 406 (by decide)).1.trans (hf1 406 (by decide)).1) (fun a q => (hf2 a (rw_out (p := rwK) rfl (rwK_of q))).1.trans (hf1 a (rw_out (p := rwK) rfl (rwK_of q))).1) hT.2.2⟩
theorem lw_27 {L : Nat} {xs : Nat → Int32} {i : Int32} {u v : Option Value} {bc bs : Nat} {μ : dw_S} (hI : INV μ) (hz : (μ.2.2.1 1 1).toInt = (μ.2.2.1 404 2).toInt ∧ (μ.2.2.1 210 0).toInt = (μ.2.2.1 433 0).toInt ∧ (μ.2.2.1 307 0).toInt = (μ.2.2.1 433 1).toInt) (hT : tbC μ.2.2.1 = tbL μ.2.2.1 ∧ mRes μ.2.2.2 ∧ REL μ.2.2.1) (h0 : 0 ≤ i.toInt) (h6 : i.toInt + 6 ≤ L) (hL : L ≤ 3072) (hc : 1 ≤ bc) (hs : 6 ≤ bs)
    (hk : ∀ (u v : Option Value) (bc' bs' : Nat) (μ' : dw_S), bc ≤ bc' + 1 → bs ≤ bs' + 6 → INV μ' → ((μ'.2.2.1 1 1).toInt = (μ'.2.2.1 404 2).toInt ∧ (μ'.2.2.1 210 0).toInt = (μ'.2.2.1 433 0).toInt ∧ (μ'.2.2.1 307 0).toInt = (μ'.2.2.1 433 1).toInt) → (tbC μ'.2.2.1 = tbL μ'.2.2.1 ∧ mRes μ'.2.2.2 ∧ REL μ'.2.2.1) → dw_ok (pr_law L xs) 1932 bc' bs' (dw_l1 i u v) [] μ') : dw_ok (pr_law L xs) 1293 bc bs (dw_l1 i u v) [] μ := by
  have e1 : (i + 1).toInt = i.toInt + 1 := by
    have c : (1 : Int32).toInt = 1 := rfl
    rw [i_add (by omega) (by omega), c]
  have e2 : (i + 2).toInt = i.toInt + 2 := by
    have c : (2 : Int32).toInt = 2 := rfl
    rw [i_add (by omega) (by omega), c]
  have e3 : (i + 3).toInt = i.toInt + 3 := by
    have c : (3 : Int32).toInt = 3 := rfl
    rw [i_add (by omega) (by omega), c]
  have e4 : (i + 4).toInt = i.toInt + 4 := by
    have c : (4 : Int32).toInt = 4 := rfl
    rw [i_add (by omega) (by omega), c]
  have e5 : (i + 5).toInt = i.toInt + 5 := by
    have c : (5 : Int32).toInt = 5 := rfl
    rw [i_add (by omega) (by omega), c]
  have hb1 := hb_1 hI
  refine q_ald rfl rfl ?_
  refine q_ald rfl rfl ?_
  refine q_ild rfl rfl ?_
  refine q_ic rfl ?_
  refine q_add rfl ?_
  refine q_sald rfl (by omega) (by omega) ?_
  refine q_callV (as := [.int (xs (i + 1).toInt.toNat)]) (rest := []) rfl rfl (k_0 hI) rfl (Nat.le_of_ble_eq_true rfl) (cl_X11_clouded hI (fun r1 w1 μ1 hc1 => ?_))
  obtain ⟨hI1, hr1, hy1, ho1, hf1⟩ := hc1
  subst hr1
  show dw_ok (pr_law L xs) 1303 bc bs (dw_l1 i u v) [.int w1] μ1
  refine q_pop rfl ?_
  refine q_ald rfl rfl ?_
  refine q_ald rfl rfl ?_
  refine q_ild rfl rfl ?_
  refine q_ic rfl ?_
  refine q_add rfl ?_
  refine q_sald rfl (by omega) (by omega) ?_
  refine q_callV (as := [.int (xs (i + 1).toInt.toNat)]) (rest := []) rfl rfl (k_404 hI1) rfl (Nat.le_of_ble_eq_true rfl) (cl_X12_clouded hI1 (fun r2 w2 μ2 hc2 => ?_))
  obtain ⟨hI2, hr2, hy2, ho2, hf2⟩ := hc2
  subst hr2
  show dw_ok (pr_law L xs) 1314 bc bs (dw_l1 i u v) [.int w2] μ2
  refine q_pop rfl ?_
  refine q_goto rfl ?_
  exact hk _ _ _ _ _ (by omega) (by omega) hI2 ⟨by omega, by omega, by omega⟩ ⟨tr_keep hT.1 ((hf2 2 (by decide)).1.trans (hf1 2 (by decide)).1) ((hf2 405 (by decide)).1.trans (hf1 405 (by decide)).1) hz.1 (by omega) (by omega), mRes_eq hT.2.1 ((hf2 410 (by decide)).2.trans (hf1 410 (by decide)).2), rel_fr (fun a q1 q2 => (hf2 a (rw_out (p := rwS) rfl (rwS_of q1 q2))).1.trans (hf1 a (rw_out (p := rwS) rfl (rwS_of q1 q2))).1) ((hf2 406 (by decide)).1.trans (hf1 406 (by decide)).1) (fun a q => (hf2 a (rw_out (p := rwK) rfl (rwK_of q))).1.trans (hf1 a (rw_out (p := rwK) rfl (rwK_of q))).1) hT.2.2⟩
theorem lw_28 {L : Nat} {xs : Nat → Int32} {i : Int32} {u v : Option Value} {bc bs : Nat} {μ : dw_S} (hI : INV μ) (hz : (μ.2.2.1 1 1).toInt = (μ.2.2.1 404 2).toInt ∧ (μ.2.2.1 210 0).toInt = (μ.2.2.1 433 0).toInt ∧ (μ.2.2.1 307 0).toInt = (μ.2.2.1 433 1).toInt) (hT : tbC μ.2.2.1 = tbL μ.2.2.1 ∧ mRes μ.2.2.2 ∧ REL μ.2.2.1) (h0 : 0 ≤ i.toInt) (h6 : i.toInt + 6 ≤ L) (hL : L ≤ 3072) (hc : 1 ≤ bc) (hs : 6 ≤ bs)
    (hk : ∀ (u v : Option Value) (bc' bs' : Nat) (μ' : dw_S), bc ≤ bc' + 1 → bs ≤ bs' + 6 → INV μ' → ((μ'.2.2.1 1 1).toInt = (μ'.2.2.1 404 2).toInt ∧ (μ'.2.2.1 210 0).toInt = (μ'.2.2.1 433 0).toInt ∧ (μ'.2.2.1 307 0).toInt = (μ'.2.2.1 433 1).toInt) → (tbC μ'.2.2.1 = tbL μ'.2.2.1 ∧ mRes μ'.2.2.2 ∧ REL μ'.2.2.1) → dw_ok (pr_law L xs) 1932 bc' bs' (dw_l1 i u v) [] μ') : dw_ok (pr_law L xs) 1318 bc bs (dw_l1 i u v) [] μ := by
  have e1 : (i + 1).toInt = i.toInt + 1 := by
    have c : (1 : Int32).toInt = 1 := rfl
    rw [i_add (by omega) (by omega), c]
  have e2 : (i + 2).toInt = i.toInt + 2 := by
    have c : (2 : Int32).toInt = 2 := rfl
    rw [i_add (by omega) (by omega), c]
  have e3 : (i + 3).toInt = i.toInt + 3 := by
    have c : (3 : Int32).toInt = 3 := rfl
    rw [i_add (by omega) (by omega), c]
  have e4 : (i + 4).toInt = i.toInt + 4 := by
    have c : (4 : Int32).toInt = 4 := rfl
    rw [i_add (by omega) (by omega), c]
  have e5 : (i + 5).toInt = i.toInt + 5 := by
    have c : (5 : Int32).toInt = 5 := rfl
    rw [i_add (by omega) (by omega), c]
  have hb1 := hb_1 hI
  refine q_ald rfl rfl ?_
  refine q_ald rfl rfl ?_
  refine q_ild rfl rfl ?_
  refine q_ic rfl ?_
  refine q_add rfl ?_
  refine q_sald rfl (by omega) (by omega) ?_
  refine q_ald rfl rfl ?_
  refine q_ild rfl rfl ?_
  refine q_ic rfl ?_
  refine q_add rfl ?_
  refine q_sald rfl (by omega) (by omega) ?_
  refine q_ald rfl rfl ?_
  refine q_ild rfl rfl ?_
  refine q_ic rfl ?_
  refine q_add rfl ?_
  refine q_sald rfl (by omega) (by omega) ?_
  refine q_ald rfl rfl ?_
  refine q_ild rfl rfl ?_
  refine q_ic rfl ?_
  refine q_add rfl ?_
  refine q_sald rfl (by omega) (by omega) ?_
  refine q_callV (as := [.int (xs (i + 1).toInt.toNat), .int (xs (i + 2).toInt.toNat), .int (xs (i + 3).toInt.toNat), .int (xs (i + 4).toInt.toNat)]) (rest := []) rfl rfl (k_0 hI) rfl (Nat.le_of_ble_eq_true rfl) (cl_X11_came hI (fun r1 w1 μ1 hc1 => ?_))
  obtain ⟨hI1, hr1, hy1, ho1, hf1⟩ := hc1
  subst hr1
  show dw_ok (pr_law L xs) 1346 bc bs (dw_l1 i u v) [.int w1] μ1
  refine q_pop rfl ?_
  refine q_ald rfl rfl ?_
  refine q_ald rfl rfl ?_
  refine q_ild rfl rfl ?_
  refine q_ic rfl ?_
  refine q_add rfl ?_
  refine q_sald rfl (by omega) (by omega) ?_
  refine q_ald rfl rfl ?_
  refine q_ild rfl rfl ?_
  refine q_ic rfl ?_
  refine q_add rfl ?_
  refine q_sald rfl (by omega) (by omega) ?_
  refine q_ald rfl rfl ?_
  refine q_ild rfl rfl ?_
  refine q_ic rfl ?_
  refine q_add rfl ?_
  refine q_sald rfl (by omega) (by omega) ?_
  refine q_ald rfl rfl ?_
  refine q_ild rfl rfl ?_
  refine q_ic rfl ?_
  refine q_add rfl ?_
  refine q_sald rfl (by omega) (by omega) ?_
  refine q_callV (as := [.int (xs (i + 1).toInt.toNat), .int (xs (i + 2).toInt.toNat), .int (xs (i + 3).toInt.toNat), .int (xs (i + 4).toInt.toNat)]) (rest := []) rfl rfl (k_404 hI1) rfl (Nat.le_of_ble_eq_true rfl) (cl_X12_came hI1 (fun r2 w2 μ2 hc2 => ?_))
  obtain ⟨hI2, hr2, hy2, ho2, hf2⟩ := hc2
  subst hr2
  show dw_ok (pr_law L xs) 1375 bc bs (dw_l1 i u v) [.int w2] μ2
  refine q_pop rfl ?_
  refine q_goto rfl ?_
  exact hk _ _ _ _ _ (by omega) (by omega) hI2 ⟨by omega, by omega, by omega⟩ ⟨tr_keep hT.1 ((hf2 2 (by decide)).1.trans (hf1 2 (by decide)).1) ((hf2 405 (by decide)).1.trans (hf1 405 (by decide)).1) hz.1 (by omega) (by omega), mRes_eq hT.2.1 ((hf2 410 (by decide)).2.trans (hf1 410 (by decide)).2), rel_fr (fun a q1 q2 => (hf2 a (rw_out (p := rwS) rfl (rwS_of q1 q2))).1.trans (hf1 a (rw_out (p := rwS) rfl (rwS_of q1 q2))).1) ((hf2 406 (by decide)).1.trans (hf1 406 (by decide)).1) (fun a q => (hf2 a (rw_out (p := rwK) rfl (rwK_of q))).1.trans (hf1 a (rw_out (p := rwK) rfl (rwK_of q))).1) hT.2.2⟩
theorem lw_29 {L : Nat} {xs : Nat → Int32} {i : Int32} {u v : Option Value} {bc bs : Nat} {μ : dw_S} (hI : INV μ) (hz : (μ.2.2.1 1 1).toInt = (μ.2.2.1 404 2).toInt ∧ (μ.2.2.1 210 0).toInt = (μ.2.2.1 433 0).toInt ∧ (μ.2.2.1 307 0).toInt = (μ.2.2.1 433 1).toInt) (hT : tbC μ.2.2.1 = tbL μ.2.2.1 ∧ mRes μ.2.2.2 ∧ REL μ.2.2.1) (h0 : 0 ≤ i.toInt) (h6 : i.toInt + 6 ≤ L) (hL : L ≤ 3072) (hc : 1 ≤ bc) (hs : 6 ≤ bs)
    (hk : ∀ (u v : Option Value) (bc' bs' : Nat) (μ' : dw_S), bc ≤ bc' + 1 → bs ≤ bs' + 6 → INV μ' → ((μ'.2.2.1 1 1).toInt = (μ'.2.2.1 404 2).toInt ∧ (μ'.2.2.1 210 0).toInt = (μ'.2.2.1 433 0).toInt ∧ (μ'.2.2.1 307 0).toInt = (μ'.2.2.1 433 1).toInt) → (tbC μ'.2.2.1 = tbL μ'.2.2.1 ∧ mRes μ'.2.2.2 ∧ REL μ'.2.2.1) → dw_ok (pr_law L xs) 1932 bc' bs' (dw_l1 i u v) [] μ') : dw_ok (pr_law L xs) 1379 bc bs (dw_l1 i u v) [] μ := by
  have e1 : (i + 1).toInt = i.toInt + 1 := by
    have c : (1 : Int32).toInt = 1 := rfl
    rw [i_add (by omega) (by omega), c]
  have e2 : (i + 2).toInt = i.toInt + 2 := by
    have c : (2 : Int32).toInt = 2 := rfl
    rw [i_add (by omega) (by omega), c]
  have e3 : (i + 3).toInt = i.toInt + 3 := by
    have c : (3 : Int32).toInt = 3 := rfl
    rw [i_add (by omega) (by omega), c]
  have e4 : (i + 4).toInt = i.toInt + 4 := by
    have c : (4 : Int32).toInt = 4 := rfl
    rw [i_add (by omega) (by omega), c]
  have e5 : (i + 5).toInt = i.toInt + 5 := by
    have c : (5 : Int32).toInt = 5 := rfl
    rw [i_add (by omega) (by omega), c]
  have hb1 := hb_1 hI
  refine q_ald rfl rfl ?_
  refine q_ald rfl rfl ?_
  refine q_ild rfl rfl ?_
  refine q_ic rfl ?_
  refine q_add rfl ?_
  refine q_sald rfl (by omega) (by omega) ?_
  refine q_callV (as := [.int (xs (i + 1).toInt.toNat)]) (rest := []) rfl rfl (k_0 hI) rfl (Nat.le_of_ble_eq_true rfl) (cl_X11_cameAt hI (fun r1 w1 μ1 hc1 => ?_))
  obtain ⟨hI1, hr1, hy1, ho1, hf1⟩ := hc1
  subst hr1
  show dw_ok (pr_law L xs) 1389 bc bs (dw_l1 i u v) [.int w1] μ1
  refine q_pop rfl ?_
  refine q_ald rfl rfl ?_
  refine q_ald rfl rfl ?_
  refine q_ild rfl rfl ?_
  refine q_ic rfl ?_
  refine q_add rfl ?_
  refine q_sald rfl (by omega) (by omega) ?_
  refine q_callV (as := [.int (xs (i + 1).toInt.toNat)]) (rest := []) rfl rfl (k_404 hI1) rfl (Nat.le_of_ble_eq_true rfl) (cl_X12_cameAt hI1 (fun r2 w2 μ2 hc2 => ?_))
  obtain ⟨hI2, hr2, hy2, ho2, hf2⟩ := hc2
  subst hr2
  show dw_ok (pr_law L xs) 1400 bc bs (dw_l1 i u v) [.int w2] μ2
  refine q_pop rfl ?_
  refine q_goto rfl ?_
  exact hk _ _ _ _ _ (by omega) (by omega) hI2 ⟨by omega, by omega, by omega⟩ ⟨tr_keep hT.1 ((hf2 2 (by decide)).1.trans (hf1 2 (by decide)).1) ((hf2 405 (by decide)).1.trans (hf1 405 (by decide)).1) hz.1 (by omega) (by omega), mRes_eq hT.2.1 ((hf2 410 (by decide)).2.trans (hf1 410 (by decide)).2), rel_fr (fun a q1 q2 => (hf2 a (rw_out (p := rwS) rfl (rwS_of q1 q2))).1.trans (hf1 a (rw_out (p := rwS) rfl (rwS_of q1 q2))).1) ((hf2 406 (by decide)).1.trans (hf1 406 (by decide)).1) (fun a q => (hf2 a (rw_out (p := rwK) rfl (rwK_of q))).1.trans (hf1 a (rw_out (p := rwK) rfl (rwK_of q))).1) hT.2.2⟩
theorem lw_30 {L : Nat} {xs : Nat → Int32} {i : Int32} {u v : Option Value} {bc bs : Nat} {μ : dw_S} (hI : INV μ) (hz : (μ.2.2.1 1 1).toInt = (μ.2.2.1 404 2).toInt ∧ (μ.2.2.1 210 0).toInt = (μ.2.2.1 433 0).toInt ∧ (μ.2.2.1 307 0).toInt = (μ.2.2.1 433 1).toInt) (hT : tbC μ.2.2.1 = tbL μ.2.2.1 ∧ mRes μ.2.2.2 ∧ REL μ.2.2.1) (h0 : 0 ≤ i.toInt) (h6 : i.toInt + 6 ≤ L) (hL : L ≤ 3072) (hc : 1 ≤ bc) (hs : 6 ≤ bs)
    (hk : ∀ (u v : Option Value) (bc' bs' : Nat) (μ' : dw_S), bc ≤ bc' + 1 → bs ≤ bs' + 6 → INV μ' → ((μ'.2.2.1 1 1).toInt = (μ'.2.2.1 404 2).toInt ∧ (μ'.2.2.1 210 0).toInt = (μ'.2.2.1 433 0).toInt ∧ (μ'.2.2.1 307 0).toInt = (μ'.2.2.1 433 1).toInt) → (tbC μ'.2.2.1 = tbL μ'.2.2.1 ∧ mRes μ'.2.2.2 ∧ REL μ'.2.2.1) → dw_ok (pr_law L xs) 1932 bc' bs' (dw_l1 i u v) [] μ') : dw_ok (pr_law L xs) 1404 bc bs (dw_l1 i u v) [] μ := by
  have e1 : (i + 1).toInt = i.toInt + 1 := by
    have c : (1 : Int32).toInt = 1 := rfl
    rw [i_add (by omega) (by omega), c]
  have e2 : (i + 2).toInt = i.toInt + 2 := by
    have c : (2 : Int32).toInt = 2 := rfl
    rw [i_add (by omega) (by omega), c]
  have e3 : (i + 3).toInt = i.toInt + 3 := by
    have c : (3 : Int32).toInt = 3 := rfl
    rw [i_add (by omega) (by omega), c]
  have e4 : (i + 4).toInt = i.toInt + 4 := by
    have c : (4 : Int32).toInt = 4 := rfl
    rw [i_add (by omega) (by omega), c]
  have e5 : (i + 5).toInt = i.toInt + 5 := by
    have c : (5 : Int32).toInt = 5 := rfl
    rw [i_add (by omega) (by omega), c]
  have hb1 := hb_1 hI
  refine q_ald rfl rfl ?_
  refine q_ald rfl rfl ?_
  refine q_ild rfl rfl ?_
  refine q_ic rfl ?_
  refine q_add rfl ?_
  refine q_sald rfl (by omega) (by omega) ?_
  refine q_ald rfl rfl ?_
  refine q_ild rfl rfl ?_
  refine q_ic rfl ?_
  refine q_add rfl ?_
  refine q_sald rfl (by omega) (by omega) ?_
  refine q_ald rfl rfl ?_
  refine q_ild rfl rfl ?_
  refine q_ic rfl ?_
  refine q_add rfl ?_
  refine q_sald rfl (by omega) (by omega) ?_
  refine q_callV (as := [.int (xs (i + 1).toInt.toNat), .int (xs (i + 2).toInt.toNat), .int (xs (i + 3).toInt.toNat)]) (rest := []) rfl rfl (k_0 hI) rfl (Nat.le_of_ble_eq_true rfl) (cl_X11_roof hI (fun r1 w1 μ1 hc1 => ?_))
  obtain ⟨hI1, hr1, hy1, ho1, hf1⟩ := hc1
  subst hr1
  show dw_ok (pr_law L xs) 1426 bc bs (dw_l1 i u v) [.int w1] μ1
  refine q_pop rfl ?_
  refine q_ald rfl rfl ?_
  refine q_ald rfl rfl ?_
  refine q_ild rfl rfl ?_
  refine q_ic rfl ?_
  refine q_add rfl ?_
  refine q_sald rfl (by omega) (by omega) ?_
  refine q_ald rfl rfl ?_
  refine q_ild rfl rfl ?_
  refine q_ic rfl ?_
  refine q_add rfl ?_
  refine q_sald rfl (by omega) (by omega) ?_
  refine q_ald rfl rfl ?_
  refine q_ild rfl rfl ?_
  refine q_ic rfl ?_
  refine q_add rfl ?_
  refine q_sald rfl (by omega) (by omega) ?_
  refine q_callV (as := [.int (xs (i + 1).toInt.toNat), .int (xs (i + 2).toInt.toNat), .int (xs (i + 3).toInt.toNat)]) (rest := []) rfl rfl (k_404 hI1) rfl (Nat.le_of_ble_eq_true rfl) (cl_X12_roof hI1 (fun r2 w2 μ2 hc2 => ?_))
  obtain ⟨hI2, hr2, hy2, ho2, hf2⟩ := hc2
  subst hr2
  show dw_ok (pr_law L xs) 1449 bc bs (dw_l1 i u v) [.int w2] μ2
  refine q_pop rfl ?_
  refine q_goto rfl ?_
  exact hk _ _ _ _ _ (by omega) (by omega) hI2 ⟨by omega, by omega, by omega⟩ ⟨tr_keep hT.1 ((hf2 2 (by decide)).1.trans (hf1 2 (by decide)).1) ((hf2 405 (by decide)).1.trans (hf1 405 (by decide)).1) hz.1 (by omega) (by omega), mRes_eq hT.2.1 ((hf2 410 (by decide)).2.trans (hf1 410 (by decide)).2), rel_fr (fun a q1 q2 => (hf2 a (rw_out (p := rwS) rfl (rwS_of q1 q2))).1.trans (hf1 a (rw_out (p := rwS) rfl (rwS_of q1 q2))).1) ((hf2 406 (by decide)).1.trans (hf1 406 (by decide)).1) (fun a q => (hf2 a (rw_out (p := rwK) rfl (rwK_of q))).1.trans (hf1 a (rw_out (p := rwK) rfl (rwK_of q))).1) hT.2.2⟩
theorem lw_31 {L : Nat} {xs : Nat → Int32} {i : Int32} {u v : Option Value} {bc bs : Nat} {μ : dw_S} (hI : INV μ) (hz : (μ.2.2.1 1 1).toInt = (μ.2.2.1 404 2).toInt ∧ (μ.2.2.1 210 0).toInt = (μ.2.2.1 433 0).toInt ∧ (μ.2.2.1 307 0).toInt = (μ.2.2.1 433 1).toInt) (hT : tbC μ.2.2.1 = tbL μ.2.2.1 ∧ mRes μ.2.2.2 ∧ REL μ.2.2.1) (h0 : 0 ≤ i.toInt) (h6 : i.toInt + 6 ≤ L) (hL : L ≤ 3072) (hc : 1 ≤ bc) (hs : 6 ≤ bs)
    (hk : ∀ (u v : Option Value) (bc' bs' : Nat) (μ' : dw_S), bc ≤ bc' + 1 → bs ≤ bs' + 6 → INV μ' → ((μ'.2.2.1 1 1).toInt = (μ'.2.2.1 404 2).toInt ∧ (μ'.2.2.1 210 0).toInt = (μ'.2.2.1 433 0).toInt ∧ (μ'.2.2.1 307 0).toInt = (μ'.2.2.1 433 1).toInt) → (tbC μ'.2.2.1 = tbL μ'.2.2.1 ∧ mRes μ'.2.2.2 ∧ REL μ'.2.2.1) → dw_ok (pr_law L xs) 1932 bc' bs' (dw_l1 i u v) [] μ') : dw_ok (pr_law L xs) 1453 bc bs (dw_l1 i u v) [] μ := by
  have e1 : (i + 1).toInt = i.toInt + 1 := by
    have c : (1 : Int32).toInt = 1 := rfl
    rw [i_add (by omega) (by omega), c]
  have e2 : (i + 2).toInt = i.toInt + 2 := by
    have c : (2 : Int32).toInt = 2 := rfl
    rw [i_add (by omega) (by omega), c]
  have e3 : (i + 3).toInt = i.toInt + 3 := by
    have c : (3 : Int32).toInt = 3 := rfl
    rw [i_add (by omega) (by omega), c]
  have e4 : (i + 4).toInt = i.toInt + 4 := by
    have c : (4 : Int32).toInt = 4 := rfl
    rw [i_add (by omega) (by omega), c]
  have e5 : (i + 5).toInt = i.toInt + 5 := by
    have c : (5 : Int32).toInt = 5 := rfl
    rw [i_add (by omega) (by omega), c]
  have hb1 := hb_1 hI
  refine q_ald rfl rfl ?_
  refine q_ald rfl rfl ?_
  refine q_ild rfl rfl ?_
  refine q_ic rfl ?_
  refine q_add rfl ?_
  refine q_sald rfl (by omega) (by omega) ?_
  refine q_ald rfl rfl ?_
  refine q_ild rfl rfl ?_
  refine q_ic rfl ?_
  refine q_add rfl ?_
  refine q_sald rfl (by omega) (by omega) ?_
  refine q_callV (as := [.int (xs (i + 1).toInt.toNat), .int (xs (i + 2).toInt.toNat)]) (rest := []) rfl rfl (k_0 hI) rfl (Nat.le_of_ble_eq_true rfl) (cl_X11_driest hI (fun r1 w1 μ1 hc1 => ?_))
  obtain ⟨hI1, hr1, hy1, ho1, hf1⟩ := hc1
  subst hr1
  show dw_ok (pr_law L xs) 1469 bc bs (dw_l1 i u v) [.int w1] μ1
  refine q_pop rfl ?_
  refine q_ald rfl rfl ?_
  refine q_ald rfl rfl ?_
  refine q_ild rfl rfl ?_
  refine q_ic rfl ?_
  refine q_add rfl ?_
  refine q_sald rfl (by omega) (by omega) ?_
  refine q_ald rfl rfl ?_
  refine q_ild rfl rfl ?_
  refine q_ic rfl ?_
  refine q_add rfl ?_
  refine q_sald rfl (by omega) (by omega) ?_
  refine q_callV (as := [.int (xs (i + 1).toInt.toNat), .int (xs (i + 2).toInt.toNat)]) (rest := []) rfl rfl (k_404 hI1) rfl (Nat.le_of_ble_eq_true rfl) (cl_X12_driest hI1 (fun r2 w2 μ2 hc2 => ?_))
  obtain ⟨hI2, hr2, hy2, ho2, hf2⟩ := hc2
  subst hr2
  show dw_ok (pr_law L xs) 1486 bc bs (dw_l1 i u v) [.int w2] μ2
  refine q_pop rfl ?_
  refine q_goto rfl ?_
  exact hk _ _ _ _ _ (by omega) (by omega) hI2 ⟨by omega, by omega, by omega⟩ ⟨tr_keep hT.1 ((hf2 2 (by decide)).1.trans (hf1 2 (by decide)).1) ((hf2 405 (by decide)).1.trans (hf1 405 (by decide)).1) hz.1 (by omega) (by omega), mRes_eq hT.2.1 ((hf2 410 (by decide)).2.trans (hf1 410 (by decide)).2), rel_fr (fun a q1 q2 => (hf2 a (rw_out (p := rwS) rfl (rwS_of q1 q2))).1.trans (hf1 a (rw_out (p := rwS) rfl (rwS_of q1 q2))).1) ((hf2 406 (by decide)).1.trans (hf1 406 (by decide)).1) (fun a q => (hf2 a (rw_out (p := rwK) rfl (rwK_of q))).1.trans (hf1 a (rw_out (p := rwK) rfl (rwK_of q))).1) hT.2.2⟩
theorem lw_32 {L : Nat} {xs : Nat → Int32} {i : Int32} {u v : Option Value} {bc bs : Nat} {μ : dw_S} (hI : INV μ) (hz : (μ.2.2.1 1 1).toInt = (μ.2.2.1 404 2).toInt ∧ (μ.2.2.1 210 0).toInt = (μ.2.2.1 433 0).toInt ∧ (μ.2.2.1 307 0).toInt = (μ.2.2.1 433 1).toInt) (hT : tbC μ.2.2.1 = tbL μ.2.2.1 ∧ mRes μ.2.2.2 ∧ REL μ.2.2.1) (h0 : 0 ≤ i.toInt) (h6 : i.toInt + 6 ≤ L) (hL : L ≤ 3072) (hc : 1 ≤ bc) (hs : 6 ≤ bs)
    (hk : ∀ (u v : Option Value) (bc' bs' : Nat) (μ' : dw_S), bc ≤ bc' + 1 → bs ≤ bs' + 6 → INV μ' → ((μ'.2.2.1 1 1).toInt = (μ'.2.2.1 404 2).toInt ∧ (μ'.2.2.1 210 0).toInt = (μ'.2.2.1 433 0).toInt ∧ (μ'.2.2.1 307 0).toInt = (μ'.2.2.1 433 1).toInt) → (tbC μ'.2.2.1 = tbL μ'.2.2.1 ∧ mRes μ'.2.2.2 ∧ REL μ'.2.2.1) → dw_ok (pr_law L xs) 1932 bc' bs' (dw_l1 i u v) [] μ') : dw_ok (pr_law L xs) 1490 bc bs (dw_l1 i u v) [] μ := by
  have e1 : (i + 1).toInt = i.toInt + 1 := by
    have c : (1 : Int32).toInt = 1 := rfl
    rw [i_add (by omega) (by omega), c]
  have e2 : (i + 2).toInt = i.toInt + 2 := by
    have c : (2 : Int32).toInt = 2 := rfl
    rw [i_add (by omega) (by omega), c]
  have e3 : (i + 3).toInt = i.toInt + 3 := by
    have c : (3 : Int32).toInt = 3 := rfl
    rw [i_add (by omega) (by omega), c]
  have e4 : (i + 4).toInt = i.toInt + 4 := by
    have c : (4 : Int32).toInt = 4 := rfl
    rw [i_add (by omega) (by omega), c]
  have e5 : (i + 5).toInt = i.toInt + 5 := by
    have c : (5 : Int32).toInt = 5 := rfl
    rw [i_add (by omega) (by omega), c]
  have hb1 := hb_1 hI
  refine q_ald rfl rfl ?_
  refine q_ald rfl rfl ?_
  refine q_ild rfl rfl ?_
  refine q_ic rfl ?_
  refine q_add rfl ?_
  refine q_sald rfl (by omega) (by omega) ?_
  refine q_ald rfl rfl ?_
  refine q_ild rfl rfl ?_
  refine q_ic rfl ?_
  refine q_add rfl ?_
  refine q_sald rfl (by omega) (by omega) ?_
  refine q_ald rfl rfl ?_
  refine q_ild rfl rfl ?_
  refine q_ic rfl ?_
  refine q_add rfl ?_
  refine q_sald rfl (by omega) (by omega) ?_
  refine q_callV (as := [.int (xs (i + 1).toInt.toNat), .int (xs (i + 2).toInt.toNat), .int (xs (i + 3).toInt.toNat)]) (rest := []) rfl rfl (k_0 hI) rfl (Nat.le_of_ble_eq_true rfl) (cl_X11_catcher hI (fun r1 w1 μ1 hc1 => ?_))
  obtain ⟨hI1, hr1, hy1, ho1, hf1⟩ := hc1
  subst hr1
  show dw_ok (pr_law L xs) 1512 bc bs (dw_l1 i u v) [.int w1] μ1
  refine q_pop rfl ?_
  refine q_ald rfl rfl ?_
  refine q_ald rfl rfl ?_
  refine q_ild rfl rfl ?_
  refine q_ic rfl ?_
  refine q_add rfl ?_
  refine q_sald rfl (by omega) (by omega) ?_
  refine q_ald rfl rfl ?_
  refine q_ild rfl rfl ?_
  refine q_ic rfl ?_
  refine q_add rfl ?_
  refine q_sald rfl (by omega) (by omega) ?_
  refine q_ald rfl rfl ?_
  refine q_ild rfl rfl ?_
  refine q_ic rfl ?_
  refine q_add rfl ?_
  refine q_sald rfl (by omega) (by omega) ?_
  refine q_callV (as := [.int (xs (i + 1).toInt.toNat), .int (xs (i + 2).toInt.toNat), .int (xs (i + 3).toInt.toNat)]) (rest := []) rfl rfl (k_404 hI1) rfl (Nat.le_of_ble_eq_true rfl) (cl_X12_catcher hI1 (fun r2 w2 μ2 hc2 => ?_))
  obtain ⟨hI2, hr2, hy2, ho2, hf2⟩ := hc2
  subst hr2
  show dw_ok (pr_law L xs) 1535 bc bs (dw_l1 i u v) [.int w2] μ2
  refine q_pop rfl ?_
  refine q_goto rfl ?_
  exact hk _ _ _ _ _ (by omega) (by omega) hI2 ⟨by omega, by omega, by omega⟩ ⟨tr_keep hT.1 ((hf2 2 (by decide)).1.trans (hf1 2 (by decide)).1) ((hf2 405 (by decide)).1.trans (hf1 405 (by decide)).1) hz.1 (by omega) (by omega), mRes_eq hT.2.1 ((hf2 410 (by decide)).2.trans (hf1 410 (by decide)).2), rel_fr (fun a q1 q2 => (hf2 a (rw_out (p := rwS) rfl (rwS_of q1 q2))).1.trans (hf1 a (rw_out (p := rwS) rfl (rwS_of q1 q2))).1) ((hf2 406 (by decide)).1.trans (hf1 406 (by decide)).1) (fun a q => (hf2 a (rw_out (p := rwK) rfl (rwK_of q))).1.trans (hf1 a (rw_out (p := rwK) rfl (rwK_of q))).1) hT.2.2⟩
theorem lw_33 {L : Nat} {xs : Nat → Int32} {i : Int32} {u v : Option Value} {bc bs : Nat} {μ : dw_S} (hI : INV μ) (hz : (μ.2.2.1 1 1).toInt = (μ.2.2.1 404 2).toInt ∧ (μ.2.2.1 210 0).toInt = (μ.2.2.1 433 0).toInt ∧ (μ.2.2.1 307 0).toInt = (μ.2.2.1 433 1).toInt) (hT : tbC μ.2.2.1 = tbL μ.2.2.1 ∧ mRes μ.2.2.2 ∧ REL μ.2.2.1) (h0 : 0 ≤ i.toInt) (h6 : i.toInt + 6 ≤ L) (hL : L ≤ 3072) (hc : 1 ≤ bc) (hs : 6 ≤ bs)
    (hk : ∀ (u v : Option Value) (bc' bs' : Nat) (μ' : dw_S), bc ≤ bc' + 1 → bs ≤ bs' + 6 → INV μ' → ((μ'.2.2.1 1 1).toInt = (μ'.2.2.1 404 2).toInt ∧ (μ'.2.2.1 210 0).toInt = (μ'.2.2.1 433 0).toInt ∧ (μ'.2.2.1 307 0).toInt = (μ'.2.2.1 433 1).toInt) → (tbC μ'.2.2.1 = tbL μ'.2.2.1 ∧ mRes μ'.2.2.2 ∧ REL μ'.2.2.1) → dw_ok (pr_law L xs) 1932 bc' bs' (dw_l1 i u v) [] μ') : dw_ok (pr_law L xs) 1539 bc bs (dw_l1 i u v) [] μ := by
  have e1 : (i + 1).toInt = i.toInt + 1 := by
    have c : (1 : Int32).toInt = 1 := rfl
    rw [i_add (by omega) (by omega), c]
  have e2 : (i + 2).toInt = i.toInt + 2 := by
    have c : (2 : Int32).toInt = 2 := rfl
    rw [i_add (by omega) (by omega), c]
  have e3 : (i + 3).toInt = i.toInt + 3 := by
    have c : (3 : Int32).toInt = 3 := rfl
    rw [i_add (by omega) (by omega), c]
  have e4 : (i + 4).toInt = i.toInt + 4 := by
    have c : (4 : Int32).toInt = 4 := rfl
    rw [i_add (by omega) (by omega), c]
  have e5 : (i + 5).toInt = i.toInt + 5 := by
    have c : (5 : Int32).toInt = 5 := rfl
    rw [i_add (by omega) (by omega), c]
  have hb1 := hb_1 hI
  refine q_ald rfl rfl ?_
  refine q_ald rfl rfl ?_
  refine q_ild rfl rfl ?_
  refine q_ic rfl ?_
  refine q_add rfl ?_
  refine q_sald rfl (by omega) (by omega) ?_
  refine q_ald rfl rfl ?_
  refine q_ild rfl rfl ?_
  refine q_ic rfl ?_
  refine q_add rfl ?_
  refine q_sald rfl (by omega) (by omega) ?_
  refine q_ald rfl rfl ?_
  refine q_ild rfl rfl ?_
  refine q_ic rfl ?_
  refine q_add rfl ?_
  refine q_sald rfl (by omega) (by omega) ?_
  refine q_ald rfl rfl ?_
  refine q_ild rfl rfl ?_
  refine q_ic rfl ?_
  refine q_add rfl ?_
  refine q_sald rfl (by omega) (by omega) ?_
  refine q_ald rfl rfl ?_
  refine q_ild rfl rfl ?_
  refine q_ic rfl ?_
  refine q_add rfl ?_
  refine q_sald rfl (by omega) (by omega) ?_
  refine q_callV (as := [.int (xs (i + 1).toInt.toNat), .int (xs (i + 2).toInt.toNat), .int (xs (i + 3).toInt.toNat), .int (xs (i + 4).toInt.toNat), .int (xs (i + 5).toInt.toNat)]) (rest := []) rfl rfl (k_0 hI) rfl (Nat.le_of_ble_eq_true rfl) (cl_X11_story hI (fun r1 w1 μ1 hc1 => ?_))
  obtain ⟨hI1, hr1, hy1, ho1, hf1⟩ := hc1
  subst hr1
  show dw_ok (pr_law L xs) 1573 bc bs (dw_l1 i u v) [.int w1] μ1
  refine q_pop rfl ?_
  refine q_ald rfl rfl ?_
  refine q_ald rfl rfl ?_
  refine q_ild rfl rfl ?_
  refine q_ic rfl ?_
  refine q_add rfl ?_
  refine q_sald rfl (by omega) (by omega) ?_
  refine q_ald rfl rfl ?_
  refine q_ild rfl rfl ?_
  refine q_ic rfl ?_
  refine q_add rfl ?_
  refine q_sald rfl (by omega) (by omega) ?_
  refine q_ald rfl rfl ?_
  refine q_ild rfl rfl ?_
  refine q_ic rfl ?_
  refine q_add rfl ?_
  refine q_sald rfl (by omega) (by omega) ?_
  refine q_ald rfl rfl ?_
  refine q_ild rfl rfl ?_
  refine q_ic rfl ?_
  refine q_add rfl ?_
  refine q_sald rfl (by omega) (by omega) ?_
  refine q_ald rfl rfl ?_
  refine q_ild rfl rfl ?_
  refine q_ic rfl ?_
  refine q_add rfl ?_
  refine q_sald rfl (by omega) (by omega) ?_
  refine q_callV (as := [.int (xs (i + 1).toInt.toNat), .int (xs (i + 2).toInt.toNat), .int (xs (i + 3).toInt.toNat), .int (xs (i + 4).toInt.toNat), .int (xs (i + 5).toInt.toNat)]) (rest := []) rfl rfl (k_404 hI1) rfl (Nat.le_of_ble_eq_true rfl) (cl_X12_story hI1 (fun r2 w2 μ2 hc2 => ?_))
  obtain ⟨hI2, hr2, hy2, ho2, hf2⟩ := hc2
  subst hr2
  show dw_ok (pr_law L xs) 1608 bc bs (dw_l1 i u v) [.int w2] μ2
  refine q_pop rfl ?_
  refine q_goto rfl ?_
  exact hk _ _ _ _ _ (by omega) (by omega) hI2 ⟨by omega, by omega, by omega⟩ ⟨tr_keep hT.1 ((hf2 2 (by decide)).1.trans (hf1 2 (by decide)).1) ((hf2 405 (by decide)).1.trans (hf1 405 (by decide)).1) hz.1 (by omega) (by omega), mRes_eq hT.2.1 ((hf2 410 (by decide)).2.trans (hf1 410 (by decide)).2), rel_fr (fun a q1 q2 => (hf2 a (rw_out (p := rwS) rfl (rwS_of q1 q2))).1.trans (hf1 a (rw_out (p := rwS) rfl (rwS_of q1 q2))).1) ((hf2 406 (by decide)).1.trans (hf1 406 (by decide)).1) (fun a q => (hf2 a (rw_out (p := rwK) rfl (rwK_of q))).1.trans (hf1 a (rw_out (p := rwK) rfl (rwK_of q))).1) hT.2.2⟩
theorem lw_34 {L : Nat} {xs : Nat → Int32} {i : Int32} {u v : Option Value} {bc bs : Nat} {μ : dw_S} (hI : INV μ) (hz : (μ.2.2.1 1 1).toInt = (μ.2.2.1 404 2).toInt ∧ (μ.2.2.1 210 0).toInt = (μ.2.2.1 433 0).toInt ∧ (μ.2.2.1 307 0).toInt = (μ.2.2.1 433 1).toInt) (hT : tbC μ.2.2.1 = tbL μ.2.2.1 ∧ mRes μ.2.2.2 ∧ REL μ.2.2.1) (h0 : 0 ≤ i.toInt) (h6 : i.toInt + 6 ≤ L) (hL : L ≤ 3072) (hc : 1 ≤ bc) (hs : 6 ≤ bs)
    (hk : ∀ (u v : Option Value) (bc' bs' : Nat) (μ' : dw_S), bc ≤ bc' + 1 → bs ≤ bs' + 6 → INV μ' → ((μ'.2.2.1 1 1).toInt = (μ'.2.2.1 404 2).toInt ∧ (μ'.2.2.1 210 0).toInt = (μ'.2.2.1 433 0).toInt ∧ (μ'.2.2.1 307 0).toInt = (μ'.2.2.1 433 1).toInt) → (tbC μ'.2.2.1 = tbL μ'.2.2.1 ∧ mRes μ'.2.2.2 ∧ REL μ'.2.2.1) → dw_ok (pr_law L xs) 1932 bc' bs' (dw_l1 i u v) [] μ') : dw_ok (pr_law L xs) 1612 bc bs (dw_l1 i u v) [] μ := by
  have e1 : (i + 1).toInt = i.toInt + 1 := by
    have c : (1 : Int32).toInt = 1 := rfl
    rw [i_add (by omega) (by omega), c]
  have e2 : (i + 2).toInt = i.toInt + 2 := by
    have c : (2 : Int32).toInt = 2 := rfl
    rw [i_add (by omega) (by omega), c]
  have e3 : (i + 3).toInt = i.toInt + 3 := by
    have c : (3 : Int32).toInt = 3 := rfl
    rw [i_add (by omega) (by omega), c]
  have e4 : (i + 4).toInt = i.toInt + 4 := by
    have c : (4 : Int32).toInt = 4 := rfl
    rw [i_add (by omega) (by omega), c]
  have e5 : (i + 5).toInt = i.toInt + 5 := by
    have c : (5 : Int32).toInt = 5 := rfl
    rw [i_add (by omega) (by omega), c]
  have hb1 := hb_1 hI
  refine q_ald rfl rfl ?_
  refine q_ald rfl rfl ?_
  refine q_ild rfl rfl ?_
  refine q_ic rfl ?_
  refine q_add rfl ?_
  refine q_sald rfl (by omega) (by omega) ?_
  refine q_ald rfl rfl ?_
  refine q_ild rfl rfl ?_
  refine q_ic rfl ?_
  refine q_add rfl ?_
  refine q_sald rfl (by omega) (by omega) ?_
  refine q_ald rfl rfl ?_
  refine q_ild rfl rfl ?_
  refine q_ic rfl ?_
  refine q_add rfl ?_
  refine q_sald rfl (by omega) (by omega) ?_
  refine q_ald rfl rfl ?_
  refine q_ild rfl rfl ?_
  refine q_ic rfl ?_
  refine q_add rfl ?_
  refine q_sald rfl (by omega) (by omega) ?_
  refine q_ald rfl rfl ?_
  refine q_ild rfl rfl ?_
  refine q_ic rfl ?_
  refine q_add rfl ?_
  refine q_sald rfl (by omega) (by omega) ?_
  refine q_callV (as := [.int (xs (i + 1).toInt.toNat), .int (xs (i + 2).toInt.toNat), .int (xs (i + 3).toInt.toNat), .int (xs (i + 4).toInt.toNat), .int (xs (i + 5).toInt.toNat)]) (rest := []) rfl rfl (k_0 hI) rfl (Nat.le_of_ble_eq_true rfl) (cl_X11_part hI (fun r1 w1 μ1 hc1 => ?_))
  obtain ⟨hI1, hr1, hy1, ho1, hf1⟩ := hc1
  subst hr1
  show dw_ok (pr_law L xs) 1646 bc bs (dw_l1 i u v) [.int w1] μ1
  refine q_pop rfl ?_
  refine q_ald rfl rfl ?_
  refine q_ald rfl rfl ?_
  refine q_ild rfl rfl ?_
  refine q_ic rfl ?_
  refine q_add rfl ?_
  refine q_sald rfl (by omega) (by omega) ?_
  refine q_ald rfl rfl ?_
  refine q_ild rfl rfl ?_
  refine q_ic rfl ?_
  refine q_add rfl ?_
  refine q_sald rfl (by omega) (by omega) ?_
  refine q_ald rfl rfl ?_
  refine q_ild rfl rfl ?_
  refine q_ic rfl ?_
  refine q_add rfl ?_
  refine q_sald rfl (by omega) (by omega) ?_
  refine q_ald rfl rfl ?_
  refine q_ild rfl rfl ?_
  refine q_ic rfl ?_
  refine q_add rfl ?_
  refine q_sald rfl (by omega) (by omega) ?_
  refine q_ald rfl rfl ?_
  refine q_ild rfl rfl ?_
  refine q_ic rfl ?_
  refine q_add rfl ?_
  refine q_sald rfl (by omega) (by omega) ?_
  refine q_callV (as := [.int (xs (i + 1).toInt.toNat), .int (xs (i + 2).toInt.toNat), .int (xs (i + 3).toInt.toNat), .int (xs (i + 4).toInt.toNat), .int (xs (i + 5).toInt.toNat)]) (rest := []) rfl rfl (k_404 hI1) rfl (Nat.le_of_ble_eq_true rfl) (cl_X12_part hI1 (fun r2 w2 μ2 hc2 => ?_))
  obtain ⟨hI2, hr2, hy2, ho2, hf2⟩ := hc2
  subst hr2
  show dw_ok (pr_law L xs) 1681 bc bs (dw_l1 i u v) [.int w2] μ2
  refine q_pop rfl ?_
  refine q_goto rfl ?_
  exact hk _ _ _ _ _ (by omega) (by omega) hI2 ⟨by omega, by omega, by omega⟩ ⟨tr_keep hT.1 ((hf2 2 (by decide)).1.trans (hf1 2 (by decide)).1) ((hf2 405 (by decide)).1.trans (hf1 405 (by decide)).1) hz.1 (by omega) (by omega), mRes_eq hT.2.1 ((hf2 410 (by decide)).2.trans (hf1 410 (by decide)).2), rel_fr (fun a q1 q2 => (hf2 a (rw_out (p := rwS) rfl (rwS_of q1 q2))).1.trans (hf1 a (rw_out (p := rwS) rfl (rwS_of q1 q2))).1) ((hf2 406 (by decide)).1.trans (hf1 406 (by decide)).1) (fun a q => (hf2 a (rw_out (p := rwK) rfl (rwK_of q))).1.trans (hf1 a (rw_out (p := rwK) rfl (rwK_of q))).1) hT.2.2⟩
theorem lw_35 {L : Nat} {xs : Nat → Int32} {i : Int32} {u v : Option Value} {bc bs : Nat} {μ : dw_S} (hI : INV μ) (hz : (μ.2.2.1 1 1).toInt = (μ.2.2.1 404 2).toInt ∧ (μ.2.2.1 210 0).toInt = (μ.2.2.1 433 0).toInt ∧ (μ.2.2.1 307 0).toInt = (μ.2.2.1 433 1).toInt) (hT : tbC μ.2.2.1 = tbL μ.2.2.1 ∧ mRes μ.2.2.2 ∧ REL μ.2.2.1) (h0 : 0 ≤ i.toInt) (h6 : i.toInt + 6 ≤ L) (hL : L ≤ 3072) (hc : 1 ≤ bc) (hs : 6 ≤ bs)
    (hk : ∀ (u v : Option Value) (bc' bs' : Nat) (μ' : dw_S), bc ≤ bc' + 1 → bs ≤ bs' + 6 → INV μ' → ((μ'.2.2.1 1 1).toInt = (μ'.2.2.1 404 2).toInt ∧ (μ'.2.2.1 210 0).toInt = (μ'.2.2.1 433 0).toInt ∧ (μ'.2.2.1 307 0).toInt = (μ'.2.2.1 433 1).toInt) → (tbC μ'.2.2.1 = tbL μ'.2.2.1 ∧ mRes μ'.2.2.2 ∧ REL μ'.2.2.1) → dw_ok (pr_law L xs) 1932 bc' bs' (dw_l1 i u v) [] μ') : dw_ok (pr_law L xs) 1685 bc bs (dw_l1 i u v) [] μ := by
  have e1 : (i + 1).toInt = i.toInt + 1 := by
    have c : (1 : Int32).toInt = 1 := rfl
    rw [i_add (by omega) (by omega), c]
  have e2 : (i + 2).toInt = i.toInt + 2 := by
    have c : (2 : Int32).toInt = 2 := rfl
    rw [i_add (by omega) (by omega), c]
  have e3 : (i + 3).toInt = i.toInt + 3 := by
    have c : (3 : Int32).toInt = 3 := rfl
    rw [i_add (by omega) (by omega), c]
  have e4 : (i + 4).toInt = i.toInt + 4 := by
    have c : (4 : Int32).toInt = 4 := rfl
    rw [i_add (by omega) (by omega), c]
  have e5 : (i + 5).toInt = i.toInt + 5 := by
    have c : (5 : Int32).toInt = 5 := rfl
    rw [i_add (by omega) (by omega), c]
  have hb1 := hb_1 hI
  refine q_ald rfl rfl ?_
  refine q_ald rfl rfl ?_
  refine q_ild rfl rfl ?_
  refine q_ic rfl ?_
  refine q_add rfl ?_
  refine q_sald rfl (by omega) (by omega) ?_
  refine q_ald rfl rfl ?_
  refine q_ild rfl rfl ?_
  refine q_ic rfl ?_
  refine q_add rfl ?_
  refine q_sald rfl (by omega) (by omega) ?_
  refine q_callV (as := [.int (xs (i + 1).toInt.toNat), .int (xs (i + 2).toInt.toNat)]) (rest := []) rfl rfl (k_0 hI) rfl (Nat.le_of_ble_eq_true rfl) (cl_X11_tries hI (fun r1 w1 μ1 hc1 => ?_))
  obtain ⟨hI1, hr1, hy1, ho1, hf1⟩ := hc1
  subst hr1
  show dw_ok (pr_law L xs) 1701 bc bs (dw_l1 i u v) [.int w1] μ1
  refine q_pop rfl ?_
  refine q_ald rfl rfl ?_
  refine q_ald rfl rfl ?_
  refine q_ild rfl rfl ?_
  refine q_ic rfl ?_
  refine q_add rfl ?_
  refine q_sald rfl (by omega) (by omega) ?_
  refine q_ald rfl rfl ?_
  refine q_ild rfl rfl ?_
  refine q_ic rfl ?_
  refine q_add rfl ?_
  refine q_sald rfl (by omega) (by omega) ?_
  refine q_callV (as := [.int (xs (i + 1).toInt.toNat), .int (xs (i + 2).toInt.toNat)]) (rest := []) rfl rfl (k_404 hI1) rfl (Nat.le_of_ble_eq_true rfl) (cl_X12_tries hI1 (fun r2 w2 μ2 hc2 => ?_))
  obtain ⟨hI2, hr2, hy2, ho2, hf2⟩ := hc2
  subst hr2
  show dw_ok (pr_law L xs) 1718 bc bs (dw_l1 i u v) [.int w2] μ2
  refine q_pop rfl ?_
  refine q_goto rfl ?_
  exact hk _ _ _ _ _ (by omega) (by omega) hI2 ⟨by omega, by omega, by omega⟩ ⟨tr_keep hT.1 ((hf2 2 (by decide)).1.trans (hf1 2 (by decide)).1) ((hf2 405 (by decide)).1.trans (hf1 405 (by decide)).1) hz.1 (by omega) (by omega), mRes_eq hT.2.1 ((hf2 410 (by decide)).2.trans (hf1 410 (by decide)).2), rel_fr (fun a q1 q2 => (hf2 a (rw_out (p := rwS) rfl (rwS_of q1 q2))).1.trans (hf1 a (rw_out (p := rwS) rfl (rwS_of q1 q2))).1) ((hf2 406 (by decide)).1.trans (hf1 406 (by decide)).1) (fun a q => (hf2 a (rw_out (p := rwK) rfl (rwK_of q))).1.trans (hf1 a (rw_out (p := rwK) rfl (rwK_of q))).1) hT.2.2⟩
theorem lw_36 {L : Nat} {xs : Nat → Int32} {i : Int32} {u v : Option Value} {bc bs : Nat} {μ : dw_S} (hI : INV μ) (hz : (μ.2.2.1 1 1).toInt = (μ.2.2.1 404 2).toInt ∧ (μ.2.2.1 210 0).toInt = (μ.2.2.1 433 0).toInt ∧ (μ.2.2.1 307 0).toInt = (μ.2.2.1 433 1).toInt) (hT : tbC μ.2.2.1 = tbL μ.2.2.1 ∧ mRes μ.2.2.2 ∧ REL μ.2.2.1) (h0 : 0 ≤ i.toInt) (h6 : i.toInt + 6 ≤ L) (hL : L ≤ 3072) (hc : 1 ≤ bc) (hs : 6 ≤ bs)
    (hk : ∀ (u v : Option Value) (bc' bs' : Nat) (μ' : dw_S), bc ≤ bc' + 1 → bs ≤ bs' + 6 → INV μ' → ((μ'.2.2.1 1 1).toInt = (μ'.2.2.1 404 2).toInt ∧ (μ'.2.2.1 210 0).toInt = (μ'.2.2.1 433 0).toInt ∧ (μ'.2.2.1 307 0).toInt = (μ'.2.2.1 433 1).toInt) → (tbC μ'.2.2.1 = tbL μ'.2.2.1 ∧ mRes μ'.2.2.2 ∧ REL μ'.2.2.1) → dw_ok (pr_law L xs) 1932 bc' bs' (dw_l1 i u v) [] μ') : dw_ok (pr_law L xs) 1722 bc bs (dw_l1 i u v) [] μ := by
  have e1 : (i + 1).toInt = i.toInt + 1 := by
    have c : (1 : Int32).toInt = 1 := rfl
    rw [i_add (by omega) (by omega), c]
  have e2 : (i + 2).toInt = i.toInt + 2 := by
    have c : (2 : Int32).toInt = 2 := rfl
    rw [i_add (by omega) (by omega), c]
  have e3 : (i + 3).toInt = i.toInt + 3 := by
    have c : (3 : Int32).toInt = 3 := rfl
    rw [i_add (by omega) (by omega), c]
  have e4 : (i + 4).toInt = i.toInt + 4 := by
    have c : (4 : Int32).toInt = 4 := rfl
    rw [i_add (by omega) (by omega), c]
  have e5 : (i + 5).toInt = i.toInt + 5 := by
    have c : (5 : Int32).toInt = 5 := rfl
    rw [i_add (by omega) (by omega), c]
  have hb1 := hb_1 hI
  refine q_ald rfl rfl ?_
  refine q_ald rfl rfl ?_
  refine q_ild rfl rfl ?_
  refine q_ic rfl ?_
  refine q_add rfl ?_
  refine q_sald rfl (by omega) (by omega) ?_
  refine q_ald rfl rfl ?_
  refine q_ild rfl rfl ?_
  refine q_ic rfl ?_
  refine q_add rfl ?_
  refine q_sald rfl (by omega) (by omega) ?_
  refine q_callV (as := [.int (xs (i + 1).toInt.toNat), .int (xs (i + 2).toInt.toNat)]) (rest := []) rfl rfl (k_0 hI) rfl (Nat.le_of_ble_eq_true rfl) (cl_X11_hay hI (fun r1 w1 μ1 hc1 => ?_))
  obtain ⟨hI1, hr1, hy1, ho1, hf1⟩ := hc1
  subst hr1
  show dw_ok (pr_law L xs) 1738 bc bs (dw_l1 i u v) [.int w1] μ1
  refine q_pop rfl ?_
  refine q_ald rfl rfl ?_
  refine q_ald rfl rfl ?_
  refine q_ild rfl rfl ?_
  refine q_ic rfl ?_
  refine q_add rfl ?_
  refine q_sald rfl (by omega) (by omega) ?_
  refine q_ald rfl rfl ?_
  refine q_ild rfl rfl ?_
  refine q_ic rfl ?_
  refine q_add rfl ?_
  refine q_sald rfl (by omega) (by omega) ?_
  refine q_callV (as := [.int (xs (i + 1).toInt.toNat), .int (xs (i + 2).toInt.toNat)]) (rest := []) rfl rfl (k_404 hI1) rfl (Nat.le_of_ble_eq_true rfl) (cl_X12_hay hI1 (fun r2 w2 μ2 hc2 => ?_))
  obtain ⟨hI2, hr2, hy2, ho2, hf2⟩ := hc2
  subst hr2
  show dw_ok (pr_law L xs) 1755 bc bs (dw_l1 i u v) [.int w2] μ2
  refine q_pop rfl ?_
  refine q_goto rfl ?_
  exact hk _ _ _ _ _ (by omega) (by omega) hI2 ⟨by omega, by omega, by omega⟩ ⟨tr_keep hT.1 ((hf2 2 (by decide)).1.trans (hf1 2 (by decide)).1) ((hf2 405 (by decide)).1.trans (hf1 405 (by decide)).1) hz.1 (by omega) (by omega), mRes_eq hT.2.1 ((hf2 410 (by decide)).2.trans (hf1 410 (by decide)).2), rel_fr (fun a q1 q2 => (hf2 a (rw_out (p := rwS) rfl (rwS_of q1 q2))).1.trans (hf1 a (rw_out (p := rwS) rfl (rwS_of q1 q2))).1) ((hf2 406 (by decide)).1.trans (hf1 406 (by decide)).1) (fun a q => (hf2 a (rw_out (p := rwK) rfl (rwK_of q))).1.trans (hf1 a (rw_out (p := rwK) rfl (rwK_of q))).1) hT.2.2⟩
theorem lw_37 {L : Nat} {xs : Nat → Int32} {i : Int32} {u v : Option Value} {bc bs : Nat} {μ : dw_S} (hI : INV μ) (hz : (μ.2.2.1 1 1).toInt = (μ.2.2.1 404 2).toInt ∧ (μ.2.2.1 210 0).toInt = (μ.2.2.1 433 0).toInt ∧ (μ.2.2.1 307 0).toInt = (μ.2.2.1 433 1).toInt) (hT : tbC μ.2.2.1 = tbL μ.2.2.1 ∧ mRes μ.2.2.2 ∧ REL μ.2.2.1) (h0 : 0 ≤ i.toInt) (h6 : i.toInt + 6 ≤ L) (hL : L ≤ 3072) (hc : 1 ≤ bc) (hs : 6 ≤ bs)
    (hk : ∀ (u v : Option Value) (bc' bs' : Nat) (μ' : dw_S), bc ≤ bc' + 1 → bs ≤ bs' + 6 → INV μ' → ((μ'.2.2.1 1 1).toInt = (μ'.2.2.1 404 2).toInt ∧ (μ'.2.2.1 210 0).toInt = (μ'.2.2.1 433 0).toInt ∧ (μ'.2.2.1 307 0).toInt = (μ'.2.2.1 433 1).toInt) → (tbC μ'.2.2.1 = tbL μ'.2.2.1 ∧ mRes μ'.2.2.2 ∧ REL μ'.2.2.1) → dw_ok (pr_law L xs) 1932 bc' bs' (dw_l1 i u v) [] μ') : dw_ok (pr_law L xs) 1759 bc bs (dw_l1 i u v) [] μ := by
  have e1 : (i + 1).toInt = i.toInt + 1 := by
    have c : (1 : Int32).toInt = 1 := rfl
    rw [i_add (by omega) (by omega), c]
  have e2 : (i + 2).toInt = i.toInt + 2 := by
    have c : (2 : Int32).toInt = 2 := rfl
    rw [i_add (by omega) (by omega), c]
  have e3 : (i + 3).toInt = i.toInt + 3 := by
    have c : (3 : Int32).toInt = 3 := rfl
    rw [i_add (by omega) (by omega), c]
  have e4 : (i + 4).toInt = i.toInt + 4 := by
    have c : (4 : Int32).toInt = 4 := rfl
    rw [i_add (by omega) (by omega), c]
  have e5 : (i + 5).toInt = i.toInt + 5 := by
    have c : (5 : Int32).toInt = 5 := rfl
    rw [i_add (by omega) (by omega), c]
  have hb1 := hb_1 hI
  refine q_ald rfl rfl ?_
  refine q_ald rfl rfl ?_
  refine q_ild rfl rfl ?_
  refine q_ic rfl ?_
  refine q_add rfl ?_
  refine q_sald rfl (by omega) (by omega) ?_
  refine q_ald rfl rfl ?_
  refine q_ild rfl rfl ?_
  refine q_ic rfl ?_
  refine q_add rfl ?_
  refine q_sald rfl (by omega) (by omega) ?_
  refine q_ald rfl rfl ?_
  refine q_ild rfl rfl ?_
  refine q_ic rfl ?_
  refine q_add rfl ?_
  refine q_sald rfl (by omega) (by omega) ?_
  refine q_ald rfl rfl ?_
  refine q_ild rfl rfl ?_
  refine q_ic rfl ?_
  refine q_add rfl ?_
  refine q_sald rfl (by omega) (by omega) ?_
  refine q_ald rfl rfl ?_
  refine q_ild rfl rfl ?_
  refine q_ic rfl ?_
  refine q_add rfl ?_
  refine q_sald rfl (by omega) (by omega) ?_
  refine q_callV (as := [.int (xs (i + 1).toInt.toNat), .int (xs (i + 2).toInt.toNat), .int (xs (i + 3).toInt.toNat), .int (xs (i + 4).toInt.toNat), .int (xs (i + 5).toInt.toNat)]) (rest := []) rfl rfl (k_0 hI) rfl (Nat.le_of_ble_eq_true rfl) (cl_X11_drawn hI (fun r1 w1 μ1 hc1 => ?_))
  obtain ⟨hI1, hr1, hy1, ho1, hf1⟩ := hc1
  subst hr1
  show dw_ok (pr_law L xs) 1793 bc bs (dw_l1 i u v) [.int w1] μ1
  refine q_pop rfl ?_
  refine q_ald rfl rfl ?_
  refine q_ald rfl rfl ?_
  refine q_ild rfl rfl ?_
  refine q_ic rfl ?_
  refine q_add rfl ?_
  refine q_sald rfl (by omega) (by omega) ?_
  refine q_ald rfl rfl ?_
  refine q_ild rfl rfl ?_
  refine q_ic rfl ?_
  refine q_add rfl ?_
  refine q_sald rfl (by omega) (by omega) ?_
  refine q_ald rfl rfl ?_
  refine q_ild rfl rfl ?_
  refine q_ic rfl ?_
  refine q_add rfl ?_
  refine q_sald rfl (by omega) (by omega) ?_
  refine q_ald rfl rfl ?_
  refine q_ild rfl rfl ?_
  refine q_ic rfl ?_
  refine q_add rfl ?_
  refine q_sald rfl (by omega) (by omega) ?_
  refine q_ald rfl rfl ?_
  refine q_ild rfl rfl ?_
  refine q_ic rfl ?_
  refine q_add rfl ?_
  refine q_sald rfl (by omega) (by omega) ?_
  refine q_callV (as := [.int (xs (i + 1).toInt.toNat), .int (xs (i + 2).toInt.toNat), .int (xs (i + 3).toInt.toNat), .int (xs (i + 4).toInt.toNat), .int (xs (i + 5).toInt.toNat)]) (rest := []) rfl rfl (k_404 hI1) rfl (Nat.le_of_ble_eq_true rfl) (cl_X12_drawn hI1 (fun r2 w2 μ2 hc2 => ?_))
  obtain ⟨hI2, hr2, hy2, ho2, hf2⟩ := hc2
  subst hr2
  show dw_ok (pr_law L xs) 1828 bc bs (dw_l1 i u v) [.int w2] μ2
  refine q_pop rfl ?_
  refine q_goto rfl ?_
  exact hk _ _ _ _ _ (by omega) (by omega) hI2 ⟨by omega, by omega, by omega⟩ ⟨tr_keep hT.1 ((hf2 2 (by decide)).1.trans (hf1 2 (by decide)).1) ((hf2 405 (by decide)).1.trans (hf1 405 (by decide)).1) hz.1 (by omega) (by omega), mRes_eq hT.2.1 ((hf2 410 (by decide)).2.trans (hf1 410 (by decide)).2), rel_fr (fun a q1 q2 => (hf2 a (rw_out (p := rwS) rfl (rwS_of q1 q2))).1.trans (hf1 a (rw_out (p := rwS) rfl (rwS_of q1 q2))).1) ((hf2 406 (by decide)).1.trans (hf1 406 (by decide)).1) (fun a q => (hf2 a (rw_out (p := rwK) rfl (rwK_of q))).1.trans (hf1 a (rw_out (p := rwK) rfl (rwK_of q))).1) hT.2.2⟩
theorem lw_38 {L : Nat} {xs : Nat → Int32} {i : Int32} {u v : Option Value} {bc bs : Nat} {μ : dw_S} (hI : INV μ) (hz : (μ.2.2.1 1 1).toInt = (μ.2.2.1 404 2).toInt ∧ (μ.2.2.1 210 0).toInt = (μ.2.2.1 433 0).toInt ∧ (μ.2.2.1 307 0).toInt = (μ.2.2.1 433 1).toInt) (hT : tbC μ.2.2.1 = tbL μ.2.2.1 ∧ mRes μ.2.2.2 ∧ REL μ.2.2.1) (h0 : 0 ≤ i.toInt) (h6 : i.toInt + 6 ≤ L) (hL : L ≤ 3072) (hc : 1 ≤ bc) (hs : 6 ≤ bs)
    (hk : ∀ (u v : Option Value) (bc' bs' : Nat) (μ' : dw_S), bc ≤ bc' + 1 → bs ≤ bs' + 6 → INV μ' → ((μ'.2.2.1 1 1).toInt = (μ'.2.2.1 404 2).toInt ∧ (μ'.2.2.1 210 0).toInt = (μ'.2.2.1 433 0).toInt ∧ (μ'.2.2.1 307 0).toInt = (μ'.2.2.1 433 1).toInt) → (tbC μ'.2.2.1 = tbL μ'.2.2.1 ∧ mRes μ'.2.2.2 ∧ REL μ'.2.2.1) → dw_ok (pr_law L xs) 1932 bc' bs' (dw_l1 i u v) [] μ') : dw_ok (pr_law L xs) 1832 bc bs (dw_l1 i u v) [] μ := by
  have e1 : (i + 1).toInt = i.toInt + 1 := by
    have c : (1 : Int32).toInt = 1 := rfl
    rw [i_add (by omega) (by omega), c]
  have e2 : (i + 2).toInt = i.toInt + 2 := by
    have c : (2 : Int32).toInt = 2 := rfl
    rw [i_add (by omega) (by omega), c]
  have e3 : (i + 3).toInt = i.toInt + 3 := by
    have c : (3 : Int32).toInt = 3 := rfl
    rw [i_add (by omega) (by omega), c]
  have e4 : (i + 4).toInt = i.toInt + 4 := by
    have c : (4 : Int32).toInt = 4 := rfl
    rw [i_add (by omega) (by omega), c]
  have e5 : (i + 5).toInt = i.toInt + 5 := by
    have c : (5 : Int32).toInt = 5 := rfl
    rw [i_add (by omega) (by omega), c]
  have hb1 := hb_1 hI
  refine q_ald rfl rfl ?_
  refine q_ald rfl rfl ?_
  refine q_ild rfl rfl ?_
  refine q_ic rfl ?_
  refine q_add rfl ?_
  refine q_sald rfl (by omega) (by omega) ?_
  refine q_callV (as := [.int (xs (i + 1).toInt.toNat)]) (rest := []) rfl rfl (k_0 hI) rfl (Nat.le_of_ble_eq_true rfl) (cl_X11_drawnBy hI (fun r1 w1 μ1 hc1 => ?_))
  obtain ⟨hI1, hr1, hy1, ho1, hf1⟩ := hc1
  subst hr1
  show dw_ok (pr_law L xs) 1842 bc bs (dw_l1 i u v) [.int w1] μ1
  refine q_pop rfl ?_
  refine q_ald rfl rfl ?_
  refine q_ald rfl rfl ?_
  refine q_ild rfl rfl ?_
  refine q_ic rfl ?_
  refine q_add rfl ?_
  refine q_sald rfl (by omega) (by omega) ?_
  refine q_callV (as := [.int (xs (i + 1).toInt.toNat)]) (rest := []) rfl rfl (k_404 hI1) rfl (Nat.le_of_ble_eq_true rfl) (cl_X12_drawnBy hI1 (fun r2 w2 μ2 hc2 => ?_))
  obtain ⟨hI2, hr2, hy2, ho2, hf2⟩ := hc2
  subst hr2
  show dw_ok (pr_law L xs) 1853 bc bs (dw_l1 i u v) [.int w2] μ2
  refine q_pop rfl ?_
  refine q_goto rfl ?_
  exact hk _ _ _ _ _ (by omega) (by omega) hI2 ⟨by omega, by omega, by omega⟩ ⟨tr_keep hT.1 ((hf2 2 (by decide)).1.trans (hf1 2 (by decide)).1) ((hf2 405 (by decide)).1.trans (hf1 405 (by decide)).1) hz.1 (by omega) (by omega), mRes_eq hT.2.1 ((hf2 410 (by decide)).2.trans (hf1 410 (by decide)).2), rel_fr (fun a q1 q2 => (hf2 a (rw_out (p := rwS) rfl (rwS_of q1 q2))).1.trans (hf1 a (rw_out (p := rwS) rfl (rwS_of q1 q2))).1) ((hf2 406 (by decide)).1.trans (hf1 406 (by decide)).1) (fun a q => (hf2 a (rw_out (p := rwK) rfl (rwK_of q))).1.trans (hf1 a (rw_out (p := rwK) rfl (rwK_of q))).1) hT.2.2⟩
theorem lw_39 {L : Nat} {xs : Nat → Int32} {i : Int32} {u v : Option Value} {bc bs : Nat} {μ : dw_S} (hI : INV μ) (hz : (μ.2.2.1 1 1).toInt = (μ.2.2.1 404 2).toInt ∧ (μ.2.2.1 210 0).toInt = (μ.2.2.1 433 0).toInt ∧ (μ.2.2.1 307 0).toInt = (μ.2.2.1 433 1).toInt) (hT : tbC μ.2.2.1 = tbL μ.2.2.1 ∧ mRes μ.2.2.2 ∧ REL μ.2.2.1) (h0 : 0 ≤ i.toInt) (h6 : i.toInt + 6 ≤ L) (hL : L ≤ 3072) (hc : 1 ≤ bc) (hs : 6 ≤ bs)
    (hk : ∀ (u v : Option Value) (bc' bs' : Nat) (μ' : dw_S), bc ≤ bc' + 1 → bs ≤ bs' + 6 → INV μ' → ((μ'.2.2.1 1 1).toInt = (μ'.2.2.1 404 2).toInt ∧ (μ'.2.2.1 210 0).toInt = (μ'.2.2.1 433 0).toInt ∧ (μ'.2.2.1 307 0).toInt = (μ'.2.2.1 433 1).toInt) → (tbC μ'.2.2.1 = tbL μ'.2.2.1 ∧ mRes μ'.2.2.2 ∧ REL μ'.2.2.1) → dw_ok (pr_law L xs) 1932 bc' bs' (dw_l1 i u v) [] μ') : dw_ok (pr_law L xs) 1857 bc bs (dw_l1 i u v) [] μ := by
  have e1 : (i + 1).toInt = i.toInt + 1 := by
    have c : (1 : Int32).toInt = 1 := rfl
    rw [i_add (by omega) (by omega), c]
  have e2 : (i + 2).toInt = i.toInt + 2 := by
    have c : (2 : Int32).toInt = 2 := rfl
    rw [i_add (by omega) (by omega), c]
  have e3 : (i + 3).toInt = i.toInt + 3 := by
    have c : (3 : Int32).toInt = 3 := rfl
    rw [i_add (by omega) (by omega), c]
  have e4 : (i + 4).toInt = i.toInt + 4 := by
    have c : (4 : Int32).toInt = 4 := rfl
    rw [i_add (by omega) (by omega), c]
  have e5 : (i + 5).toInt = i.toInt + 5 := by
    have c : (5 : Int32).toInt = 5 := rfl
    rw [i_add (by omega) (by omega), c]
  have hb1 := hb_1 hI
  refine q_ald rfl rfl ?_
  refine q_ald rfl rfl ?_
  refine q_ild rfl rfl ?_
  refine q_ic rfl ?_
  refine q_add rfl ?_
  refine q_sald rfl (by omega) (by omega) ?_
  refine q_callV (as := [.int (xs (i + 1).toInt.toNat)]) (rest := []) rfl rfl (k_0 hI) rfl (Nat.le_of_ble_eq_true rfl) (cr_X11_image hI (fun r1 w1 μ1 hc1 hq1 => ?_))
  obtain ⟨hI1, hr1, hy1, ho1, hf1⟩ := hc1
  subst hr1
  show dw_ok (pr_law L xs) 1867 bc bs (dw_l1 i u v) [.int w1] μ1
  refine q_pop rfl ?_
  refine q_ald rfl rfl ?_
  refine q_ald rfl rfl ?_
  refine q_ild rfl rfl ?_
  refine q_ic rfl ?_
  refine q_add rfl ?_
  refine q_sald rfl (by omega) (by omega) ?_
  refine q_callV (as := [.int (xs (i + 1).toInt.toNat)]) (rest := []) rfl rfl (k_404 hI1) rfl (Nat.le_of_ble_eq_true rfl) (cr_X12_image hI1 (fun r2 w2 μ2 hc2 hq2 => ?_))
  obtain ⟨hI2, hr2, hy2, ho2, hf2⟩ := hc2
  obtain ⟨hre, hew⟩ := rel_image hT.2.2 hq1 hq2 ((hf2 406 (by decide)).1.trans (hf1 406 (by decide)).1) (hf1 406 (by decide)).1 (hf1 432 (by decide)).1 (hf1 433 (by decide)).1 (fun a q1 q2 => (hf2 a (rw_out (p := rwA) rfl (rwA_of q1 q2))).1)
  subst hr2
  show dw_ok (pr_law L xs) 1878 bc bs (dw_l1 i u v) [.int w2] μ2
  refine q_pop rfl ?_
  refine q_goto rfl ?_
  exact hk _ _ _ _ _ (by omega) (by omega) hI2 ⟨by omega, by omega, by omega⟩ ⟨tr_keep hT.1 ((hf2 2 (by decide)).1.trans (hf1 2 (by decide)).1) ((hf2 405 (by decide)).1.trans (hf1 405 (by decide)).1) hz.1 (by omega) (by omega), mRes_eq hT.2.1 ((hf2 410 (by decide)).2.trans (hf1 410 (by decide)).2), hre⟩
theorem lw_40 {L : Nat} {xs : Nat → Int32} {i : Int32} {u v : Option Value} {bc bs : Nat} {μ : dw_S} (hI : INV μ) (hz : (μ.2.2.1 1 1).toInt = (μ.2.2.1 404 2).toInt ∧ (μ.2.2.1 210 0).toInt = (μ.2.2.1 433 0).toInt ∧ (μ.2.2.1 307 0).toInt = (μ.2.2.1 433 1).toInt) (hT : tbC μ.2.2.1 = tbL μ.2.2.1 ∧ mRes μ.2.2.2 ∧ REL μ.2.2.1) (h0 : 0 ≤ i.toInt) (h6 : i.toInt + 6 ≤ L) (hL : L ≤ 3072) (hc : 1 ≤ bc) (hs : 6 ≤ bs)
    (hk : ∀ (u v : Option Value) (bc' bs' : Nat) (μ' : dw_S), bc ≤ bc' + 1 → bs ≤ bs' + 6 → INV μ' → ((μ'.2.2.1 1 1).toInt = (μ'.2.2.1 404 2).toInt ∧ (μ'.2.2.1 210 0).toInt = (μ'.2.2.1 433 0).toInt ∧ (μ'.2.2.1 307 0).toInt = (μ'.2.2.1 433 1).toInt) → (tbC μ'.2.2.1 = tbL μ'.2.2.1 ∧ mRes μ'.2.2.2 ∧ REL μ'.2.2.1) → dw_ok (pr_law L xs) 1932 bc' bs' (dw_l1 i u v) [] μ') : dw_ok (pr_law L xs) 1882 bc bs (dw_l1 i u v) [] μ := by
  have e1 : (i + 1).toInt = i.toInt + 1 := by
    have c : (1 : Int32).toInt = 1 := rfl
    rw [i_add (by omega) (by omega), c]
  have e2 : (i + 2).toInt = i.toInt + 2 := by
    have c : (2 : Int32).toInt = 2 := rfl
    rw [i_add (by omega) (by omega), c]
  have e3 : (i + 3).toInt = i.toInt + 3 := by
    have c : (3 : Int32).toInt = 3 := rfl
    rw [i_add (by omega) (by omega), c]
  have e4 : (i + 4).toInt = i.toInt + 4 := by
    have c : (4 : Int32).toInt = 4 := rfl
    rw [i_add (by omega) (by omega), c]
  have e5 : (i + 5).toInt = i.toInt + 5 := by
    have c : (5 : Int32).toInt = 5 := rfl
    rw [i_add (by omega) (by omega), c]
  have hb1 := hb_1 hI
  refine q_ald rfl rfl ?_
  refine q_ald rfl rfl ?_
  refine q_ild rfl rfl ?_
  refine q_ic rfl ?_
  refine q_add rfl ?_
  refine q_sald rfl (by omega) (by omega) ?_
  refine q_callV (as := [.int (xs (i + 1).toInt.toNat)]) (rest := []) rfl rfl (k_0 hI) rfl (Nat.le_of_ble_eq_true rfl) (cr_X11_restore hI (fun r1 w1 μ1 hc1 hq1 => ?_))
  obtain ⟨hI1, hr1, hy1, ho1, hf1⟩ := hc1
  subst hr1
  show dw_ok (pr_law L xs) 1892 bc bs (dw_l1 i u v) [.int w1] μ1
  refine q_pop rfl ?_
  refine q_ald rfl rfl ?_
  refine q_ald rfl rfl ?_
  refine q_ild rfl rfl ?_
  refine q_ic rfl ?_
  refine q_add rfl ?_
  refine q_sald rfl (by omega) (by omega) ?_
  refine q_callV (as := [.int (xs (i + 1).toInt.toNat)]) (rest := []) rfl rfl (k_404 hI1) rfl (Nat.le_of_ble_eq_true rfl) (cr_X12_restore hI1 (fun r2 w2 μ2 hc2 hq2 => ?_))
  obtain ⟨hI2, hr2, hy2, ho2, hf2⟩ := hc2
  obtain ⟨hre, hew⟩ := rel_rest hT.2.2 hz.2 hq1 hq2 (hf1 406 (by decide)).1 (hf1 432 (by decide)).1 (hf1 433 (by decide)).1 (fun a q1 q2 => (hf2 a (rw_out (p := rwA) rfl (rwA_of q1 q2))).1) (hf2 432 (by decide)).1 (hf2 433 (by decide)).1
  subst hr2
  show dw_ok (pr_law L xs) 1903 bc bs (dw_l1 i u v) [.int w2] μ2
  refine q_pop rfl ?_
  refine q_goto rfl ?_
  exact hk _ _ _ _ _ (by omega) (by omega) hI2 ⟨by omega, by omega, by omega⟩ ⟨tr_keep hT.1 ((hf2 2 (by decide)).1.trans (hf1 2 (by decide)).1) ((hf2 405 (by decide)).1.trans (hf1 405 (by decide)).1) hz.1 (by omega) (by omega), mRes_eq hT.2.1 ((hf2 410 (by decide)).2.trans (hf1 410 (by decide)).2), hre⟩
theorem lw_41 {L : Nat} {xs : Nat → Int32} {i : Int32} {u v : Option Value} {bc bs : Nat} {μ : dw_S} (hI : INV μ) (hz : (μ.2.2.1 1 1).toInt = (μ.2.2.1 404 2).toInt ∧ (μ.2.2.1 210 0).toInt = (μ.2.2.1 433 0).toInt ∧ (μ.2.2.1 307 0).toInt = (μ.2.2.1 433 1).toInt) (hT : tbC μ.2.2.1 = tbL μ.2.2.1 ∧ mRes μ.2.2.2 ∧ REL μ.2.2.1) (h0 : 0 ≤ i.toInt) (h6 : i.toInt + 6 ≤ L) (hL : L ≤ 3072) (hc : 1 ≤ bc) (hs : 6 ≤ bs)
    (hk : ∀ (u v : Option Value) (bc' bs' : Nat) (μ' : dw_S), bc ≤ bc' + 1 → bs ≤ bs' + 6 → INV μ' → ((μ'.2.2.1 1 1).toInt = (μ'.2.2.1 404 2).toInt ∧ (μ'.2.2.1 210 0).toInt = (μ'.2.2.1 433 0).toInt ∧ (μ'.2.2.1 307 0).toInt = (μ'.2.2.1 433 1).toInt) → (tbC μ'.2.2.1 = tbL μ'.2.2.1 ∧ mRes μ'.2.2.2 ∧ REL μ'.2.2.1) → dw_ok (pr_law L xs) 1932 bc' bs' (dw_l1 i u v) [] μ') : dw_ok (pr_law L xs) 1907 bc bs (dw_l1 i u v) [] μ := by
  have e1 : (i + 1).toInt = i.toInt + 1 := by
    have c : (1 : Int32).toInt = 1 := rfl
    rw [i_add (by omega) (by omega), c]
  have e2 : (i + 2).toInt = i.toInt + 2 := by
    have c : (2 : Int32).toInt = 2 := rfl
    rw [i_add (by omega) (by omega), c]
  have e3 : (i + 3).toInt = i.toInt + 3 := by
    have c : (3 : Int32).toInt = 3 := rfl
    rw [i_add (by omega) (by omega), c]
  have e4 : (i + 4).toInt = i.toInt + 4 := by
    have c : (4 : Int32).toInt = 4 := rfl
    rw [i_add (by omega) (by omega), c]
  have e5 : (i + 5).toInt = i.toInt + 5 := by
    have c : (5 : Int32).toInt = 5 := rfl
    rw [i_add (by omega) (by omega), c]
  have hb1 := hb_1 hI
  refine q_ald rfl rfl ?_
  refine q_ald rfl rfl ?_
  refine q_ild rfl rfl ?_
  refine q_ic rfl ?_
  refine q_add rfl ?_
  refine q_sald rfl (by omega) (by omega) ?_
  refine q_callV (as := [.int (xs (i + 1).toInt.toNat)]) (rest := []) rfl rfl (k_0 hI) rfl (Nat.le_of_ble_eq_true rfl) (cl_X11_count hI (fun r1 w1 μ1 hc1 => ?_))
  obtain ⟨hI1, hr1, hy1, ho1, hf1⟩ := hc1
  subst hr1
  show dw_ok (pr_law L xs) 1917 bc bs (dw_l1 i u v) [.int w1] μ1
  refine q_pop rfl ?_
  refine q_ald rfl rfl ?_
  refine q_ald rfl rfl ?_
  refine q_ild rfl rfl ?_
  refine q_ic rfl ?_
  refine q_add rfl ?_
  refine q_sald rfl (by omega) (by omega) ?_
  refine q_callV (as := [.int (xs (i + 1).toInt.toNat)]) (rest := []) rfl rfl (k_404 hI1) rfl (Nat.le_of_ble_eq_true rfl) (cl_X12_count hI1 (fun r2 w2 μ2 hc2 => ?_))
  obtain ⟨hI2, hr2, hy2, ho2, hf2⟩ := hc2
  subst hr2
  show dw_ok (pr_law L xs) 1928 bc bs (dw_l1 i u v) [.int w2] μ2
  refine q_pop rfl ?_
  refine q_goto rfl ?_
  exact hk _ _ _ _ _ (by omega) (by omega) hI2 ⟨by omega, by omega, by omega⟩ ⟨tr_keep hT.1 ((hf2 2 (by decide)).1.trans (hf1 2 (by decide)).1) ((hf2 405 (by decide)).1.trans (hf1 405 (by decide)).1) hz.1 (by omega) (by omega), mRes_eq hT.2.1 ((hf2 410 (by decide)).2.trans (hf1 410 (by decide)).2), rel_fr (fun a q1 q2 => (hf2 a (rw_out (p := rwS) rfl (rwS_of q1 q2))).1.trans (hf1 a (rw_out (p := rwS) rfl (rwS_of q1 q2))).1) ((hf2 406 (by decide)).1.trans (hf1 406 (by decide)).1) (fun a q => (hf2 a (rw_out (p := rwK) rfl (rwK_of q))).1.trans (hf1 a (rw_out (p := rwK) rfl (rwK_of q))).1) hT.2.2⟩
theorem law_loop {L : Nat} {xs : Nat → Int32} (hL : L ≤ 3072) : ∀ (n : Nat) (i : Int32) (u v : Option Value) (bc bs : Nat) (μ : dw_S), INV μ → ((μ.2.2.1 1 1).toInt = (μ.2.2.1 404 2).toInt ∧ (μ.2.2.1 210 0).toInt = (μ.2.2.1 433 0).toInt ∧ (μ.2.2.1 307 0).toInt = (μ.2.2.1 433 1).toInt) → (tbC μ.2.2.1 = tbL μ.2.2.1 ∧ mRes μ.2.2.2 ∧ REL μ.2.2.1) → 0 ≤ i.toInt → (L : Int) - i.toInt ≤ 6 * (n : Int) + 5 → n ≤ bc → 6 * n ≤ bs → dw_ok (pr_law L xs) 23 bc bs (dw_l1 i u v) [] μ := by
  have cL : (Int32.ofNat L).toInt = L := Int32.toInt_ofNat_of_lt (by omega)
  have c6 : (6 : Int32).toInt = 6 := rfl
  have eL : (Int32.ofNat L - 6).toInt = (L : Int) - 6 := by rw [i_sub (by omega) (by omega), cL, c6]
  intro n
  induction n with
  | zero =>
    intro i u v bc bs μ hI hz hT h0 h1 _ _
    refine q_ild rfl rfl ?_
    refine q_ald rfl rfl ?_
    refine q_slen rfl ?_
    refine q_ic rfl ?_
    refine q_sub rfl ?_
    refine q_icmp (c := 4) rfl (by decide) (fun _ => ?_) (fun h => absurd (show i.toInt ≤ (Int32.ofNat L - 6).toInt from h) (by omega))
    refine q_ic rfl ?_
    exact q_lret rfl
  | succ n ih =>
    intro i u v bc bs μ hI hz hT h0 h1 hbc hbs
    refine q_ild rfl rfl ?_
    refine q_ald rfl rfl ?_
    refine q_slen rfl ?_
    refine q_ic rfl ?_
    refine q_sub rfl ?_
    refine q_icmp (c := 4) rfl (by decide) (fun _ => ?_) (fun h => ?_)
    · refine q_ic rfl ?_
      exact q_lret rfl
    have h6 : i.toInt ≤ (Int32.ofNat L - 6).toInt := h
    have h6' : i.toInt + 6 ≤ L := by omega
    have ei : (i + 6).toInt = i.toInt + 6 := by rw [i_add (by omega) (by omega), c6]
    have hk : ∀ (u v : Option Value) (bc' bs' : Nat) (μ' : dw_S), bc ≤ bc' + 1 → bs ≤ bs' + 6 → INV μ' → ((μ'.2.2.1 1 1).toInt = (μ'.2.2.1 404 2).toInt ∧ (μ'.2.2.1 210 0).toInt = (μ'.2.2.1 433 0).toInt ∧ (μ'.2.2.1 307 0).toInt = (μ'.2.2.1 433 1).toInt) → (tbC μ'.2.2.1 = tbL μ'.2.2.1 ∧ mRes μ'.2.2.2 ∧ REL μ'.2.2.1) → dw_ok (pr_law L xs) 1932 bc' bs' (dw_l1 i u v) [] μ' := by
      intro u v bc' bs' μ' q1 q2 q3 q4 q5
      refine q_inc rfl rfl rfl ?_
      refine q_goto rfl ?_
      exact ih (i + 6) u v bc' bs' μ' q3 q4 q5 (by omega) (by omega) (by omega) (by omega)
    have b1 : 1 ≤ bc := by omega
    have b6 : 6 ≤ bs := by omega
    refine q_ald rfl rfl ?_
    refine q_ild rfl rfl ?_
    refine q_sald rfl h0 (by omega) ?_
    refine q_ic rfl ?_
    refine q_and rfl ?_
    refine q_tab rfl (fun _ => hk u v bc bs μ (by omega) (by omega) hI hz hT) (fun hr => ?_)
    obtain ⟨k, hk2⟩ : ∃ k, ((xs i.toInt.toNat &&& 63).toInt - 0).toNat = k := ⟨_, rfl⟩
    rw [hk2]
    have hk3 : k < 42 := by omega
    match k, hk3 with
    | 0, _ => exact ⟨224, rfl, lw_0 hI hz hT h0 h6' hL b1 b6 hk⟩
    | 1, _ => exact ⟨297, rfl, lw_1 hI hz hT h0 h6' hL b1 b6 hk⟩
    | 2, _ => exact ⟨322, rfl, lw_2 hI hz hT h0 h6' hL b1 b6 hk⟩
    | 3, _ => exact ⟨335, rfl, lw_3 hI hz hT h0 h6' hL b1 b6 hk⟩
    | 4, _ => exact ⟨348, rfl, lw_4 hI hz hT h0 h6' hL b1 b6 hk⟩
    | 5, _ => exact ⟨400, rfl, lw_5 hI hz hT h0 h6' hL b1 b6 hk⟩
    | 6, _ => exact ⟨425, rfl, lw_6 hI hz hT h0 h6' hL b1 b6 hk⟩
    | 7, _ => exact ⟨474, rfl, lw_7 hI hz hT h0 h6' hL b1 b6 hk⟩
    | 8, _ => exact ⟨499, rfl, lw_8 hI hz hT h0 h6' hL b1 b6 hk⟩
    | 9, _ => exact ⟨524, rfl, lw_9 hI hz hT h0 h6' hL b1 b6 hk⟩
    | 10, _ => exact ⟨604, rfl, lw_10 hI hz hT h0 h6' hL b1 b6 hk⟩
    | 11, _ => exact ⟨629, rfl, lw_11 hI hz hT h0 h6' hL b1 b6 hk⟩
    | 12, _ => exact ⟨642, rfl, lw_12 hI hz hT h0 h6' hL b1 b6 hk⟩
    | 13, _ => exact ⟨667, rfl, lw_13 hI hz hT h0 h6' hL b1 b6 hk⟩
    | 14, _ => exact ⟨692, rfl, lw_14 hI hz hT h0 h6' hL b1 b6 hk⟩
    | 15, _ => exact ⟨753, rfl, lw_15 hI hz hT h0 h6' hL b1 b6 hk⟩
    | 16, _ => exact ⟨802, rfl, lw_16 hI hz hT h0 h6' hL b1 b6 hk⟩
    | 17, _ => exact ⟨851, rfl, lw_17 hI hz hT h0 h6' hL b1 b6 hk⟩
    | 18, _ => exact ⟨900, rfl, lw_18 hI hz hT h0 h6' hL b1 b6 hk⟩
    | 19, _ => exact ⟨949, rfl, lw_19 hI hz hT h0 h6' hL b1 b6 hk⟩
    | 20, _ => exact ⟨998, rfl, lw_20 hI hz hT h0 h6' hL b1 b6 hk⟩
    | 21, _ => exact ⟨1035, rfl, lw_21 hI hz hT h0 h6' hL b1 b6 hk⟩
    | 22, _ => exact ⟨1084, rfl, lw_22 hI hz hT h0 h6' hL b1 b6 hk⟩
    | 23, _ => exact ⟨1145, rfl, lw_23 hI hz hT h0 h6' hL b1 b6 hk⟩
    | 24, _ => exact ⟨1206, rfl, lw_24 hI hz hT h0 h6' hL b1 b6 hk⟩
    | 25, _ => exact ⟨1243, rfl, lw_25 hI hz hT h0 h6' hL b1 b6 hk⟩
    | 26, _ => exact ⟨1280, rfl, lw_26 hI hz hT h0 h6' hL b1 b6 hk⟩
    | 27, _ => exact ⟨1293, rfl, lw_27 hI hz hT h0 h6' hL b1 b6 hk⟩
    | 28, _ => exact ⟨1318, rfl, lw_28 hI hz hT h0 h6' hL b1 b6 hk⟩
    | 29, _ => exact ⟨1379, rfl, lw_29 hI hz hT h0 h6' hL b1 b6 hk⟩
    | 30, _ => exact ⟨1404, rfl, lw_30 hI hz hT h0 h6' hL b1 b6 hk⟩
    | 31, _ => exact ⟨1453, rfl, lw_31 hI hz hT h0 h6' hL b1 b6 hk⟩
    | 32, _ => exact ⟨1490, rfl, lw_32 hI hz hT h0 h6' hL b1 b6 hk⟩
    | 33, _ => exact ⟨1539, rfl, lw_33 hI hz hT h0 h6' hL b1 b6 hk⟩
    | 34, _ => exact ⟨1612, rfl, lw_34 hI hz hT h0 h6' hL b1 b6 hk⟩
    | 35, _ => exact ⟨1685, rfl, lw_35 hI hz hT h0 h6' hL b1 b6 hk⟩
    | 36, _ => exact ⟨1722, rfl, lw_36 hI hz hT h0 h6' hL b1 b6 hk⟩
    | 37, _ => exact ⟨1759, rfl, lw_37 hI hz hT h0 h6' hL b1 b6 hk⟩
    | 38, _ => exact ⟨1832, rfl, lw_38 hI hz hT h0 h6' hL b1 b6 hk⟩
    | 39, _ => exact ⟨1857, rfl, lw_39 hI hz hT h0 h6' hL b1 b6 hk⟩
    | 40, _ => exact ⟨1882, rfl, lw_40 hI hz hT h0 h6' hL b1 b6 hk⟩
    | 41, _ => exact ⟨1907, rfl, lw_41 hI hz hT h0 h6' hL b1 b6 hk⟩
    | n + 42, h => exact absurd h (by omega)
