theorem lw_0 {L : Nat} {xs : Nat → Int32} {i : Int32} {u v : Option Value} {bc bs : Nat} {μ : dw_S} (hI : INV μ) (hz : (μ.2.2.1 1 1).toInt = (μ.2.2.1 404 2).toInt ∧ (μ.2.2.1 210 0).toInt = (μ.2.2.1 433 0).toInt ∧ (μ.2.2.1 307 0).toInt = (μ.2.2.1 433 1).toInt) (hT : tbC μ.2.2.1 = tbL μ.2.2.1 ∧ mRes μ.2.2.2 ∧ REL μ.2.2.1) (h0 : 0 ≤ i.toInt) (h6 : i.toInt + 6 ≤ L) (hL : L ≤ 3072) (hc : 1 ≤ bc) (hs : 6 ≤ bs)
    (hk : ∀ (u v : Option Value) (bc' bs' : Nat) (μ' : dw_S), bc ≤ bc' + 1 → bs ≤ bs' + 6 → INV μ' → ((μ'.2.2.1 1 1).toInt = (μ'.2.2.1 404 2).toInt ∧ (μ'.2.2.1 210 0).toInt = (μ'.2.2.1 433 0).toInt ∧ (μ'.2.2.1 307 0).toInt = (μ'.2.2.1 433 1).toInt) → (tbC μ'.2.2.1 = tbL μ'.2.2.1 ∧ mRes μ'.2.2.2 ∧ REL μ'.2.2.1) → dw_ok (pr_law L xs) 1904 bc' bs' (dw_l1 i u v) [] μ') : dw_ok (pr_law L xs) 224 bc bs (dw_l1 i u v) [] μ := by
  have e1 : (i + 1).toInt = i.toInt + 1 := by
    have c : (1 : Int32).toInt = 1 := rfl
    rw [i_add (by omega) (by omega), c]
  have e2 : (i + 2).toInt = i.toInt + 2 := by
    have c : (2 : Int32).toInt = 2 := rfl
    rw [i_add (by omega) (by omega), c]
  have e3 : (i + 3).toInt = i.toInt + 3 := by
    have c : (3 : Int32).toInt = 3 := rfl
    rw [i_add (by omega) (by omega), c]
  have e4 : (i + 4).toInt = i.toInt + 4 := by
    have c : (4 : Int32).toInt = 4 := rfl
    rw [i_add (by omega) (by omega), c]
  have e5 : (i + 5).toInt = i.toInt + 5 := by
    have c : (5 : Int32).toInt = 5 := rfl
    rw [i_add (by omega) (by omega), c]
  have hb1 := hb_1 hI
  refine q_ald rfl rfl ?_
  refine q_ald rfl rfl ?_
  refine q_ild rfl rfl ?_
  refine q_ic rfl ?_
  refine q_add rfl ?_
  refine q_sald rfl (by omega) (by omega) ?_
  refine q_ald rfl rfl ?_
  refine q_ild rfl rfl ?_
  refine q_ic rfl ?_
  refine q_add rfl ?_
  refine q_sald rfl (by omega) (by omega) ?_
  refine q_ald rfl rfl ?_
  refine q_ild rfl rfl ?_
  refine q_ic rfl ?_
  refine q_add rfl ?_
  refine q_sald rfl (by omega) (by omega) ?_
  refine q_ald rfl rfl ?_
  refine q_ild rfl rfl ?_
  refine q_ic rfl ?_
  refine q_add rfl ?_
  refine q_sald rfl (by omega) (by omega) ?_
  refine q_ald rfl rfl ?_
  refine q_ild rfl rfl ?_
  refine q_ic rfl ?_
  refine q_add rfl ?_
  refine q_sald rfl (by omega) (by omega) ?_
  refine q_callV (as := [.int (xs (i + 1).toInt.toNat), .int (xs (i + 2).toInt.toNat), .int (xs (i + 3).toInt.toNat), .int (xs (i + 4).toInt.toNat), .int (xs (i + 5).toInt.toNat)]) (rest := []) rfl rfl (k_0 hI) rfl (Nat.le_of_ble_eq_true rfl) (cf_X11_feed hI (fun r1 w1 μ1 hc1 hq1 => ?_))
  obtain ⟨hI1, hr1, hy1, ho1, hf1⟩ := hc1
  subst hr1
  show dw_ok (pr_law L xs) 258 bc bs (dw_l1 i u v) [.int w1] μ1
  refine q_pop rfl ?_
  refine q_ald rfl rfl ?_
  refine q_ald rfl rfl ?_
  refine q_ild rfl rfl ?_
  refine q_ic rfl ?_
  refine q_add rfl ?_
  refine q_sald rfl (by omega) (by omega) ?_
  refine q_ald rfl rfl ?_
  refine q_ild rfl rfl ?_
  refine q_ic rfl ?_
  refine q_add rfl ?_
  refine q_sald rfl (by omega) (by omega) ?_
  refine q_ald rfl rfl ?_
  refine q_ild rfl rfl ?_
  refine q_ic rfl ?_
  refine q_add rfl ?_
  refine q_sald rfl (by omega) (by omega) ?_
  refine q_ald rfl rfl ?_
  refine q_ild rfl rfl ?_
  refine q_ic rfl ?_
  refine q_add rfl ?_
  refine q_sald rfl (by omega) (by omega) ?_
  refine q_ald rfl rfl ?_
  refine q_ild rfl rfl ?_
  refine q_ic rfl ?_
  refine q_add rfl ?_
  refine q_sald rfl (by omega) (by omega) ?_
  refine q_callV (as := [.int (xs (i + 1).toInt.toNat), .int (xs (i + 2).toInt.toNat), .int (xs (i + 3).toInt.toNat), .int (xs (i + 4).toInt.toNat), .int (xs (i + 5).toInt.toNat)]) (rest := []) rfl rfl (k_404 hI1) rfl (Nat.le_of_ble_eq_true rfl) (cf_X12_feed hI1 (fun r2 w2 μ2 hc2 hq2 => ?_))
  obtain ⟨hI2, hr2, hy2, ho2, hf2⟩ := hc2
  subst hr2
  show dw_ok (pr_law L xs) 293 bc bs (dw_l1 i u v) [.int w2] μ2
  refine q_pop rfl ?_
  refine q_goto rfl ?_
  exact hk _ _ _ _ _ (by omega) (by omega) hI2 ⟨by omega, by omega, by omega⟩ ⟨(tbC_eq2 ho2.1 (hf2 2 (by decide)).1).trans (hq1.trans (by rw [hq2, tbL_eq ho1.1 (hf1 405 (by decide)).1, ← hT.1, show (μ1.2.2.1 404 2).toInt.toNat = (μ.2.2.1 1 1).toInt.toNat by omega])), mRes_eq hT.2.1 ((hf2 410 (by decide)).2.trans (hf1 410 (by decide)).2), rel_fr (fun a q1 q2 => (hf2 a (rw_out (p := rwS) rfl (rwS_of q1 q2))).1.trans (hf1 a (rw_out (p := rwS) rfl (rwS_of q1 q2))).1) ((hf2 406 (by decide)).1.trans (hf1 406 (by decide)).1) (fun a q => (hf2 a (rw_out (p := rwK) rfl (rwK_of q))).1.trans (hf1 a (rw_out (p := rwK) rfl (rwK_of q))).1) hT.2.2⟩
theorem lw_1 {L : Nat} {xs : Nat → Int32} {i : Int32} {u v : Option Value} {bc bs : Nat} {μ : dw_S} (hI : INV μ) (hz : (μ.2.2.1 1 1).toInt = (μ.2.2.1 404 2).toInt ∧ (μ.2.2.1 210 0).toInt = (μ.2.2.1 433 0).toInt ∧ (μ.2.2.1 307 0).toInt = (μ.2.2.1 433 1).toInt) (hT : tbC μ.2.2.1 = tbL μ.2.2.1 ∧ mRes μ.2.2.2 ∧ REL μ.2.2.1) (h0 : 0 ≤ i.toInt) (h6 : i.toInt + 6 ≤ L) (hL : L ≤ 3072) (hc : 1 ≤ bc) (hs : 6 ≤ bs)
    (hk : ∀ (u v : Option Value) (bc' bs' : Nat) (μ' : dw_S), bc ≤ bc' + 1 → bs ≤ bs' + 6 → INV μ' → ((μ'.2.2.1 1 1).toInt = (μ'.2.2.1 404 2).toInt ∧ (μ'.2.2.1 210 0).toInt = (μ'.2.2.1 433 0).toInt ∧ (μ'.2.2.1 307 0).toInt = (μ'.2.2.1 433 1).toInt) → (tbC μ'.2.2.1 = tbL μ'.2.2.1 ∧ mRes μ'.2.2.2 ∧ REL μ'.2.2.1) → dw_ok (pr_law L xs) 1904 bc' bs' (dw_l1 i u v) [] μ') : dw_ok (pr_law L xs) 297 bc bs (dw_l1 i u v) [] μ := by
  have e1 : (i + 1).toInt = i.toInt + 1 := by
    have c : (1 : Int32).toInt = 1 := rfl
    rw [i_add (by omega) (by omega), c]
  have e2 : (i + 2).toInt = i.toInt + 2 := by
    have c : (2 : Int32).toInt = 2 := rfl
    rw [i_add (by omega) (by omega), c]
  have e3 : (i + 3).toInt = i.toInt + 3 := by
    have c : (3 : Int32).toInt = 3 := rfl
    rw [i_add (by omega) (by omega), c]
  have e4 : (i + 4).toInt = i.toInt + 4 := by
    have c : (4 : Int32).toInt = 4 := rfl
    rw [i_add (by omega) (by omega), c]
  have e5 : (i + 5).toInt = i.toInt + 5 := by
    have c : (5 : Int32).toInt = 5 := rfl
    rw [i_add (by omega) (by omega), c]
  have hb1 := hb_1 hI
  refine q_ald rfl rfl ?_
  refine q_ald rfl rfl ?_
  refine q_ild rfl rfl ?_
  refine q_ic rfl ?_
  refine q_add rfl ?_
  refine q_sald rfl (by omega) (by omega) ?_
  refine q_callV (as := [.int (xs (i + 1).toInt.toNat)]) (rest := []) rfl rfl (k_0 hI) rfl (Nat.le_of_ble_eq_true rfl) (cl_X11_end hI (fun r1 w1 μ1 hc1 => ?_))
  obtain ⟨hI1, hr1, hy1, ho1, hf1⟩ := hc1
  subst hr1
  show dw_ok (pr_law L xs) 307 bc bs (dw_l1 i u v) [.int w1] μ1
  refine q_pop rfl ?_
  refine q_ald rfl rfl ?_
  refine q_ald rfl rfl ?_
  refine q_ild rfl rfl ?_
  refine q_ic rfl ?_
  refine q_add rfl ?_
  refine q_sald rfl (by omega) (by omega) ?_
  refine q_callV (as := [.int (xs (i + 1).toInt.toNat)]) (rest := []) rfl rfl (k_404 hI1) rfl (Nat.le_of_ble_eq_true rfl) (cl_X12_end hI1 (fun r2 w2 μ2 hc2 => ?_))
  obtain ⟨hI2, hr2, hy2, ho2, hf2⟩ := hc2
  subst hr2
  show dw_ok (pr_law L xs) 318 bc bs (dw_l1 i u v) [.int w2] μ2
  refine q_pop rfl ?_
  refine q_goto rfl ?_
  exact hk _ _ _ _ _ (by omega) (by omega) hI2 ⟨by omega, by omega, by omega⟩ ⟨tr_keep hT.1 ((hf2 2 (by decide)).1.trans (hf1 2 (by decide)).1) ((hf2 405 (by decide)).1.trans (hf1 405 (by decide)).1) hz.1 (by omega) (by omega), mRes_eq hT.2.1 ((hf2 410 (by decide)).2.trans (hf1 410 (by decide)).2), rel_fr (fun a q1 q2 => (hf2 a (rw_out (p := rwS) rfl (rwS_of q1 q2))).1.trans (hf1 a (rw_out (p := rwS) rfl (rwS_of q1 q2))).1) ((hf2 406 (by decide)).1.trans (hf1 406 (by decide)).1) (fun a q => (hf2 a (rw_out (p := rwK) rfl (rwK_of q))).1.trans (hf1 a (rw_out (p := rwK) rfl (rwK_of q))).1) hT.2.2⟩
theorem lw_2 {L : Nat} {xs : Nat → Int32} {i : Int32} {u v : Option Value} {bc bs : Nat} {μ : dw_S} (hI : INV μ) (hz : (μ.2.2.1 1 1).toInt = (μ.2.2.1 404 2).toInt ∧ (μ.2.2.1 210 0).toInt = (μ.2.2.1 433 0).toInt ∧ (μ.2.2.1 307 0).toInt = (μ.2.2.1 433 1).toInt) (hT : tbC μ.2.2.1 = tbL μ.2.2.1 ∧ mRes μ.2.2.2 ∧ REL μ.2.2.1) (h0 : 0 ≤ i.toInt) (h6 : i.toInt + 6 ≤ L) (hL : L ≤ 3072) (hc : 1 ≤ bc) (hs : 6 ≤ bs)
    (hk : ∀ (u v : Option Value) (bc' bs' : Nat) (μ' : dw_S), bc ≤ bc' + 1 → bs ≤ bs' + 6 → INV μ' → ((μ'.2.2.1 1 1).toInt = (μ'.2.2.1 404 2).toInt ∧ (μ'.2.2.1 210 0).toInt = (μ'.2.2.1 433 0).toInt ∧ (μ'.2.2.1 307 0).toInt = (μ'.2.2.1 433 1).toInt) → (tbC μ'.2.2.1 = tbL μ'.2.2.1 ∧ mRes μ'.2.2.2 ∧ REL μ'.2.2.1) → dw_ok (pr_law L xs) 1904 bc' bs' (dw_l1 i u v) [] μ') : dw_ok (pr_law L xs) 322 bc bs (dw_l1 i u v) [] μ := by
  have e1 : (i + 1).toInt = i.toInt + 1 := by
    have c : (1 : Int32).toInt = 1 := rfl
    rw [i_add (by omega) (by omega), c]
  have e2 : (i + 2).toInt = i.toInt + 2 := by
    have c : (2 : Int32).toInt = 2 := rfl
    rw [i_add (by omega) (by omega), c]
  have e3 : (i + 3).toInt = i.toInt + 3 := by
    have c : (3 : Int32).toInt = 3 := rfl
    rw [i_add (by omega) (by omega), c]
  have e4 : (i + 4).toInt = i.toInt + 4 := by
    have c : (4 : Int32).toInt = 4 := rfl
    rw [i_add (by omega) (by omega), c]
  have e5 : (i + 5).toInt = i.toInt + 5 := by
    have c : (5 : Int32).toInt = 5 := rfl
    rw [i_add (by omega) (by omega), c]
  have hb1 := hb_1 hI
  refine q_ald rfl rfl ?_
  refine q_callV (as := []) (rest := []) rfl rfl (k_0 hI) rfl (Nat.le_of_ble_eq_true rfl) (cr_X11_ground hI (fun r1 w1 μ1 hc1 hq1 => ?_))
  obtain ⟨hI1, hr1, hy1, ho1, hf1⟩ := hc1
  subst hr1
  show dw_ok (pr_law L xs) 326 bc bs (dw_l1 i u v) [.int w1] μ1
  refine q_pop rfl ?_
  refine q_ald rfl rfl ?_
  refine q_callV (as := []) (rest := []) rfl rfl (k_404 hI1) rfl (Nat.le_of_ble_eq_true rfl) (cr_X12_ground hI1 (mRes_eq hT.2.1 (hf1 410 (by decide)).2) (fun r2 w2 μ2 hc2 hq2 => ?_))
  obtain ⟨hI2, hr2, hy2, ho2, hf2⟩ := hc2
  have et : tbL μ1.2.2.1 = tbC μ.2.2.1 := (tbL_eq ho1.1 (hf1 405 (by decide)).1).trans hT.1.symm
  have eN : (μ1.2.2.1 404 2).toInt.toNat = (μ.2.2.1 1 1).toInt.toNat := by omega
  have e6 : μ1.2.2.1 406 = μ.2.2.1 406 := (hf1 406 (by decide)).1
  rw [et, eN, e6] at hq2
  obtain ⟨hre, hew⟩ := rel_gnd hT.2.2 hq1 hq2 (fun a q1 q2 => (hf2 a (rw_out (p := rwS) rfl (rwS_of q1 q2))).1) (fun a q => (hf2 a (rw_out (p := rwK) rfl (rwK_of q))).1.trans (hf1 a (rw_out (p := rwK) rfl (rwK_of q))).1)
  subst hr2
  show dw_ok (pr_law L xs) 331 bc bs (dw_l1 i u v) [.int w2] μ2
  refine q_pop rfl ?_
  refine q_goto rfl ?_
  exact hk _ _ _ _ _ (by omega) (by omega) hI2 ⟨by omega, by omega, by omega⟩ ⟨tr_keep hT.1 ((hf2 2 (by decide)).1.trans (hf1 2 (by decide)).1) ((hf2 405 (by decide)).1.trans (hf1 405 (by decide)).1) hz.1 (by omega) (by omega), mRes_eq hT.2.1 ((hf2 410 (by decide)).2.trans (hf1 410 (by decide)).2), hre⟩
theorem lw_3 {L : Nat} {xs : Nat → Int32} {i : Int32} {u v : Option Value} {bc bs : Nat} {μ : dw_S} (hI : INV μ) (hz : (μ.2.2.1 1 1).toInt = (μ.2.2.1 404 2).toInt ∧ (μ.2.2.1 210 0).toInt = (μ.2.2.1 433 0).toInt ∧ (μ.2.2.1 307 0).toInt = (μ.2.2.1 433 1).toInt) (hT : tbC μ.2.2.1 = tbL μ.2.2.1 ∧ mRes μ.2.2.2 ∧ REL μ.2.2.1) (h0 : 0 ≤ i.toInt) (h6 : i.toInt + 6 ≤ L) (hL : L ≤ 3072) (hc : 1 ≤ bc) (hs : 6 ≤ bs)
    (hk : ∀ (u v : Option Value) (bc' bs' : Nat) (μ' : dw_S), bc ≤ bc' + 1 → bs ≤ bs' + 6 → INV μ' → ((μ'.2.2.1 1 1).toInt = (μ'.2.2.1 404 2).toInt ∧ (μ'.2.2.1 210 0).toInt = (μ'.2.2.1 433 0).toInt ∧ (μ'.2.2.1 307 0).toInt = (μ'.2.2.1 433 1).toInt) → (tbC μ'.2.2.1 = tbL μ'.2.2.1 ∧ mRes μ'.2.2.2 ∧ REL μ'.2.2.1) → dw_ok (pr_law L xs) 1904 bc' bs' (dw_l1 i u v) [] μ') : dw_ok (pr_law L xs) 335 bc bs (dw_l1 i u v) [] μ := by
  have e1 : (i + 1).toInt = i.toInt + 1 := by
    have c : (1 : Int32).toInt = 1 := rfl
    rw [i_add (by omega) (by omega), c]
  have e2 : (i + 2).toInt = i.toInt + 2 := by
    have c : (2 : Int32).toInt = 2 := rfl
    rw [i_add (by omega) (by omega), c]
  have e3 : (i + 3).toInt = i.toInt + 3 := by
    have c : (3 : Int32).toInt = 3 := rfl
    rw [i_add (by omega) (by omega), c]
  have e4 : (i + 4).toInt = i.toInt + 4 := by
    have c : (4 : Int32).toInt = 4 := rfl
    rw [i_add (by omega) (by omega), c]
  have e5 : (i + 5).toInt = i.toInt + 5 := by
    have c : (5 : Int32).toInt = 5 := rfl
    rw [i_add (by omega) (by omega), c]
  have hb1 := hb_1 hI
  refine q_ald rfl rfl ?_
  refine q_callV (as := []) (rest := []) rfl rfl (k_0 hI) rfl (Nat.le_of_ble_eq_true rfl) (cl_X11_fault hI (fun r1 w1 μ1 hc1 => ?_))
  obtain ⟨hI1, hr1, hy1, ho1, hf1⟩ := hc1
  subst hr1
  show dw_ok (pr_law L xs) 339 bc bs (dw_l1 i u v) [.int w1] μ1
  refine q_pop rfl ?_
  refine q_ald rfl rfl ?_
  refine q_callV (as := []) (rest := []) rfl rfl (k_404 hI1) rfl (Nat.le_of_ble_eq_true rfl) (cl_X12_fault hI1 (fun r2 w2 μ2 hc2 => ?_))
  obtain ⟨hI2, hr2, hy2, ho2, hf2⟩ := hc2
  subst hr2
  show dw_ok (pr_law L xs) 344 bc bs (dw_l1 i u v) [.int w2] μ2
  refine q_pop rfl ?_
  refine q_goto rfl ?_
  exact hk _ _ _ _ _ (by omega) (by omega) hI2 ⟨by omega, by omega, by omega⟩ ⟨tr_keep hT.1 ((hf2 2 (by decide)).1.trans (hf1 2 (by decide)).1) ((hf2 405 (by decide)).1.trans (hf1 405 (by decide)).1) hz.1 (by omega) (by omega), mRes_eq hT.2.1 ((hf2 410 (by decide)).2.trans (hf1 410 (by decide)).2), rel_fr (fun a q1 q2 => (hf2 a (rw_out (p := rwS) rfl (rwS_of q1 q2))).1.trans (hf1 a (rw_out (p := rwS) rfl (rwS_of q1 q2))).1) ((hf2 406 (by decide)).1.trans (hf1 406 (by decide)).1) (fun a q => (hf2 a (rw_out (p := rwK) rfl (rwK_of q))).1.trans (hf1 a (rw_out (p := rwK) rfl (rwK_of q))).1) hT.2.2⟩
theorem lw_4 {L : Nat} {xs : Nat → Int32} {i : Int32} {u v : Option Value} {bc bs : Nat} {μ : dw_S} (hI : INV μ) (hz : (μ.2.2.1 1 1).toInt = (μ.2.2.1 404 2).toInt ∧ (μ.2.2.1 210 0).toInt = (μ.2.2.1 433 0).toInt ∧ (μ.2.2.1 307 0).toInt = (μ.2.2.1 433 1).toInt) (hT : tbC μ.2.2.1 = tbL μ.2.2.1 ∧ mRes μ.2.2.2 ∧ REL μ.2.2.1) (h0 : 0 ≤ i.toInt) (h6 : i.toInt + 6 ≤ L) (hL : L ≤ 3072) (hc : 1 ≤ bc) (hs : 6 ≤ bs)
    (hk : ∀ (u v : Option Value) (bc' bs' : Nat) (μ' : dw_S), bc ≤ bc' + 1 → bs ≤ bs' + 6 → INV μ' → ((μ'.2.2.1 1 1).toInt = (μ'.2.2.1 404 2).toInt ∧ (μ'.2.2.1 210 0).toInt = (μ'.2.2.1 433 0).toInt ∧ (μ'.2.2.1 307 0).toInt = (μ'.2.2.1 433 1).toInt) → (tbC μ'.2.2.1 = tbL μ'.2.2.1 ∧ mRes μ'.2.2.2 ∧ REL μ'.2.2.1) → dw_ok (pr_law L xs) 1904 bc' bs' (dw_l1 i u v) [] μ') : dw_ok (pr_law L xs) 348 bc bs (dw_l1 i u v) [] μ := by
  have e1 : (i + 1).toInt = i.toInt + 1 := by
    have c : (1 : Int32).toInt = 1 := rfl
    rw [i_add (by omega) (by omega), c]
  have e2 : (i + 2).toInt = i.toInt + 2 := by
    have c : (2 : Int32).toInt = 2 := rfl
    rw [i_add (by omega) (by omega), c]
  have e3 : (i + 3).toInt = i.toInt + 3 := by
    have c : (3 : Int32).toInt = 3 := rfl
    rw [i_add (by omega) (by omega), c]
  have e4 : (i + 4).toInt = i.toInt + 4 := by
    have c : (4 : Int32).toInt = 4 := rfl
    rw [i_add (by omega) (by omega), c]
  have e5 : (i + 5).toInt = i.toInt + 5 := by
    have c : (5 : Int32).toInt = 5 := rfl
    rw [i_add (by omega) (by omega), c]
  have hb1 := hb_1 hI
  refine q_ald rfl rfl ?_
  refine q_ald rfl rfl ?_
  refine q_ild rfl rfl ?_
  refine q_ic rfl ?_
  refine q_add rfl ?_
  refine q_sald rfl (by omega) (by omega) ?_
  refine q_ald rfl rfl ?_
  refine q_ild rfl rfl ?_
  refine q_ic rfl ?_
  refine q_add rfl ?_
  refine q_sald rfl (by omega) (by omega) ?_
  refine q_ald rfl rfl ?_
  refine q_ild rfl rfl ?_
  refine q_ic rfl ?_
  refine q_add rfl ?_
  refine q_sald rfl (by omega) (by omega) ?_
  refine q_ald rfl rfl ?_
  refine q_callS16 (as := [.ref 0, .int (xs (i + 1).toInt.toNat), .int (xs (i + 2).toInt.toNat), .int (xs (i + 3).toInt.toNat), .ref 434]) (rest := []) rfl rfl rfl (Nat.le_of_ble_eq_true rfl) hc hs (cf_L_cell hI (fun r1 w1 μ1 hc1 => ?_))
  obtain ⟨hI1, hr1, hy1, ho1, hf1⟩ := hc1
  subst hr1
  show dw_ok (pr_law L xs) 371 (bc - 1) (bs - 6) (dw_l1 i u v) [.int w1] μ1
  refine q_ist rfl rfl ?_
  show dw_ok (pr_law L xs) 373 (bc - 1) (bs - 6) (dw_l1 i (some (.int w1)) v) [] μ1
  refine q_ald rfl rfl ?_
  refine q_ald rfl rfl ?_
  refine q_ild rfl rfl ?_
  refine q_ic rfl ?_
  refine q_add rfl ?_
  refine q_sald rfl (by omega) (by omega) ?_
  refine q_ald rfl rfl ?_
  refine q_ild rfl rfl ?_
  refine q_ic rfl ?_
  refine q_add rfl ?_
  refine q_sald rfl (by omega) (by omega) ?_
  refine q_ald rfl rfl ?_
  refine q_ild rfl rfl ?_
  refine q_ic rfl ?_
  refine q_add rfl ?_
  refine q_sald rfl (by omega) (by omega) ?_
  refine q_callV (as := [.int (xs (i + 1).toInt.toNat), .int (xs (i + 2).toInt.toNat), .int (xs (i + 3).toInt.toNat)]) (rest := []) rfl rfl (k_404 hI1) rfl (Nat.le_of_ble_eq_true rfl) (cl_X12_cell hI1 (fun r2 w2 μ2 hc2 => ?_))
  obtain ⟨hI2, hr2, hy2, ho2, hf2⟩ := hc2
  subst hr2
  show dw_ok (pr_law L xs) 395 (bc - 1) (bs - 6) (dw_l1 i (some (.int w1)) v) [.int w2] μ2
  refine q_ist rfl rfl ?_
  show dw_ok (pr_law L xs) 397 (bc - 1) (bs - 6) (dw_l1 i (some (.int w1)) (some (.int w2))) [] μ2
  refine q_goto rfl ?_
  exact hk _ _ _ _ _ (by omega) (by omega) hI2 ⟨by omega, by omega, by omega⟩ ⟨tr_keep hT.1 ((hf2 2 (by decide)).1.trans (hf1 2 (by decide)).1) ((hf2 405 (by decide)).1.trans (hf1 405 (by decide)).1) hz.1 (by omega) (by omega), mRes_eq hT.2.1 ((hf2 410 (by decide)).2.trans (hf1 410 (by decide)).2), rel_fr (fun a q1 q2 => (hf2 a (rw_out (p := rwS) rfl (rwS_of q1 q2))).1.trans (hf1 a (rw_out (p := rwS) rfl (rwS_of q1 q2))).1) ((hf2 406 (by decide)).1.trans (hf1 406 (by decide)).1) (fun a q => (hf2 a (rw_out (p := rwK) rfl (rwK_of q))).1.trans (hf1 a (rw_out (p := rwK) rfl (rwK_of q))).1) hT.2.2⟩
theorem lw_5 {L : Nat} {xs : Nat → Int32} {i : Int32} {u v : Option Value} {bc bs : Nat} {μ : dw_S} (hI : INV μ) (hz : (μ.2.2.1 1 1).toInt = (μ.2.2.1 404 2).toInt ∧ (μ.2.2.1 210 0).toInt = (μ.2.2.1 433 0).toInt ∧ (μ.2.2.1 307 0).toInt = (μ.2.2.1 433 1).toInt) (hT : tbC μ.2.2.1 = tbL μ.2.2.1 ∧ mRes μ.2.2.2 ∧ REL μ.2.2.1) (h0 : 0 ≤ i.toInt) (h6 : i.toInt + 6 ≤ L) (hL : L ≤ 3072) (hc : 1 ≤ bc) (hs : 6 ≤ bs)
    (hk : ∀ (u v : Option Value) (bc' bs' : Nat) (μ' : dw_S), bc ≤ bc' + 1 → bs ≤ bs' + 6 → INV μ' → ((μ'.2.2.1 1 1).toInt = (μ'.2.2.1 404 2).toInt ∧ (μ'.2.2.1 210 0).toInt = (μ'.2.2.1 433 0).toInt ∧ (μ'.2.2.1 307 0).toInt = (μ'.2.2.1 433 1).toInt) → (tbC μ'.2.2.1 = tbL μ'.2.2.1 ∧ mRes μ'.2.2.2 ∧ REL μ'.2.2.1) → dw_ok (pr_law L xs) 1904 bc' bs' (dw_l1 i u v) [] μ') : dw_ok (pr_law L xs) 400 bc bs (dw_l1 i u v) [] μ := by
  have e1 : (i + 1).toInt = i.toInt + 1 := by
    have c : (1 : Int32).toInt = 1 := rfl
    rw [i_add (by omega) (by omega), c]
  have e2 : (i + 2).toInt = i.toInt + 2 := by
    have c : (2 : Int32).toInt = 2 := rfl
    rw [i_add (by omega) (by omega), c]
  have e3 : (i + 3).toInt = i.toInt + 3 := by
    have c : (3 : Int32).toInt = 3 := rfl
    rw [i_add (by omega) (by omega), c]
  have e4 : (i + 4).toInt = i.toInt + 4 := by
    have c : (4 : Int32).toInt = 4 := rfl
    rw [i_add (by omega) (by omega), c]
  have e5 : (i + 5).toInt = i.toInt + 5 := by
    have c : (5 : Int32).toInt = 5 := rfl
    rw [i_add (by omega) (by omega), c]
  have hb1 := hb_1 hI
  refine q_ald rfl rfl ?_
  refine q_ald rfl rfl ?_
  refine q_ild rfl rfl ?_
  refine q_ic rfl ?_
  refine q_add rfl ?_
  refine q_sald rfl (by omega) (by omega) ?_
  refine q_callV (as := [.int (xs (i + 1).toInt.toNat)]) (rest := []) rfl rfl (k_0 hI) rfl (Nat.le_of_ble_eq_true rfl) (cr_X11_night hI (fun r1 w1 μ1 hc1 hq1 => ?_))
  obtain ⟨hI1, hr1, hy1, ho1, hf1⟩ := hc1
  subst hr1
  show dw_ok (pr_law L xs) 410 bc bs (dw_l1 i u v) [.int w1] μ1
  refine q_pop rfl ?_
  refine q_ald rfl rfl ?_
  refine q_ald rfl rfl ?_
  refine q_ild rfl rfl ?_
  refine q_ic rfl ?_
  refine q_add rfl ?_
  refine q_sald rfl (by omega) (by omega) ?_
  refine q_callV (as := [.int (xs (i + 1).toInt.toNat)]) (rest := []) rfl rfl (k_404 hI1) rfl (Nat.le_of_ble_eq_true rfl) (cr_X12_night hI1 (fun r2 w2 μ2 hc2 hq2 => ?_))
  obtain ⟨hI2, hr2, hy2, ho2, hf2⟩ := hc2
  have et : tbL μ1.2.2.1 = tbC μ.2.2.1 := (tbL_eq ho1.1 (hf1 405 (by decide)).1).trans hT.1.symm
  have eN : (μ1.2.2.1 404 2).toInt.toNat = (μ.2.2.1 1 1).toInt.toNat := by omega
  have e6 : μ1.2.2.1 406 = μ.2.2.1 406 := (hf1 406 (by decide)).1
  rw [et, eN, e6] at hq2
  obtain ⟨hre, hew⟩ := rel_night hT.2.2 hq1 hq2 (fun a q1 q2 => (hf2 a (rw_out (p := rwS) rfl (rwS_of q1 q2))).1) (fun a q => (hf2 a (rw_out (p := rwK) rfl (rwK_of q))).1.trans (hf1 a (rw_out (p := rwK) rfl (rwK_of q))).1)
  subst hr2
  show dw_ok (pr_law L xs) 421 bc bs (dw_l1 i u v) [.int w2] μ2
  refine q_pop rfl ?_
  refine q_goto rfl ?_
  exact hk _ _ _ _ _ (by omega) (by omega) hI2 ⟨by omega, by omega, by omega⟩ ⟨tr_keep hT.1 ((hf2 2 (by decide)).1.trans (hf1 2 (by decide)).1) ((hf2 405 (by decide)).1.trans (hf1 405 (by decide)).1) hz.1 (by omega) (by omega), mRes_eq hT.2.1 ((hf2 410 (by decide)).2.trans (hf1 410 (by decide)).2), hre⟩
theorem lw_6 {L : Nat} {xs : Nat → Int32} {i : Int32} {u v : Option Value} {bc bs : Nat} {μ : dw_S} (hI : INV μ) (hz : (μ.2.2.1 1 1).toInt = (μ.2.2.1 404 2).toInt ∧ (μ.2.2.1 210 0).toInt = (μ.2.2.1 433 0).toInt ∧ (μ.2.2.1 307 0).toInt = (μ.2.2.1 433 1).toInt) (hT : tbC μ.2.2.1 = tbL μ.2.2.1 ∧ mRes μ.2.2.2 ∧ REL μ.2.2.1) (h0 : 0 ≤ i.toInt) (h6 : i.toInt + 6 ≤ L) (hL : L ≤ 3072) (hc : 1 ≤ bc) (hs : 6 ≤ bs)
    (hk : ∀ (u v : Option Value) (bc' bs' : Nat) (μ' : dw_S), bc ≤ bc' + 1 → bs ≤ bs' + 6 → INV μ' → ((μ'.2.2.1 1 1).toInt = (μ'.2.2.1 404 2).toInt ∧ (μ'.2.2.1 210 0).toInt = (μ'.2.2.1 433 0).toInt ∧ (μ'.2.2.1 307 0).toInt = (μ'.2.2.1 433 1).toInt) → (tbC μ'.2.2.1 = tbL μ'.2.2.1 ∧ mRes μ'.2.2.2 ∧ REL μ'.2.2.1) → dw_ok (pr_law L xs) 1904 bc' bs' (dw_l1 i u v) [] μ') : dw_ok (pr_law L xs) 425 bc bs (dw_l1 i u v) [] μ := by
  have e1 : (i + 1).toInt = i.toInt + 1 := by
    have c : (1 : Int32).toInt = 1 := rfl
    rw [i_add (by omega) (by omega), c]
  have e2 : (i + 2).toInt = i.toInt + 2 := by
    have c : (2 : Int32).toInt = 2 := rfl
    rw [i_add (by omega) (by omega), c]
  have e3 : (i + 3).toInt = i.toInt + 3 := by
    have c : (3 : Int32).toInt = 3 := rfl
    rw [i_add (by omega) (by omega), c]
  have e4 : (i + 4).toInt = i.toInt + 4 := by
    have c : (4 : Int32).toInt = 4 := rfl
    rw [i_add (by omega) (by omega), c]
  have e5 : (i + 5).toInt = i.toInt + 5 := by
    have c : (5 : Int32).toInt = 5 := rfl
    rw [i_add (by omega) (by omega), c]
  have hb1 := hb_1 hI
  refine q_ald rfl rfl ?_
  refine q_ald rfl rfl ?_
  refine q_ild rfl rfl ?_
  refine q_ic rfl ?_
  refine q_add rfl ?_
  refine q_sald rfl (by omega) (by omega) ?_
  refine q_ald rfl rfl ?_
  refine q_ild rfl rfl ?_
  refine q_ic rfl ?_
  refine q_add rfl ?_
  refine q_sald rfl (by omega) (by omega) ?_
  refine q_ald rfl rfl ?_
  refine q_ild rfl rfl ?_
  refine q_ic rfl ?_
  refine q_add rfl ?_
  refine q_sald rfl (by omega) (by omega) ?_
  refine q_callV (as := [.int (xs (i + 1).toInt.toNat), .int (xs (i + 2).toInt.toNat), .int (xs (i + 3).toInt.toNat)]) (rest := []) rfl rfl (k_0 hI) rfl (Nat.le_of_ble_eq_true rfl) (cl_X11_sky hI (fun r1 w1 μ1 hc1 => ?_))
  obtain ⟨hI1, hr1, hy1, ho1, hf1⟩ := hc1
  subst hr1
  show dw_ok (pr_law L xs) 447 bc bs (dw_l1 i u v) [.int w1] μ1
  refine q_pop rfl ?_
  refine q_ald rfl rfl ?_
  refine q_ald rfl rfl ?_
  refine q_ild rfl rfl ?_
  refine q_ic rfl ?_
  refine q_add rfl ?_
  refine q_sald rfl (by omega) (by omega) ?_
  refine q_ald rfl rfl ?_
  refine q_ild rfl rfl ?_
  refine q_ic rfl ?_
  refine q_add rfl ?_
  refine q_sald rfl (by omega) (by omega) ?_
  refine q_ald rfl rfl ?_
  refine q_ild rfl rfl ?_
  refine q_ic rfl ?_
  refine q_add rfl ?_
  refine q_sald rfl (by omega) (by omega) ?_
  refine q_callV (as := [.int (xs (i + 1).toInt.toNat), .int (xs (i + 2).toInt.toNat), .int (xs (i + 3).toInt.toNat)]) (rest := []) rfl rfl (k_404 hI1) rfl (Nat.le_of_ble_eq_true rfl) (cl_X12_sky hI1 (fun r2 w2 μ2 hc2 => ?_))
  obtain ⟨hI2, hr2, hy2, ho2, hf2⟩ := hc2
  subst hr2
  show dw_ok (pr_law L xs) 470 bc bs (dw_l1 i u v) [.int w2] μ2
  refine q_pop rfl ?_
  refine q_goto rfl ?_
  exact hk _ _ _ _ _ (by omega) (by omega) hI2 ⟨by omega, by omega, by omega⟩ ⟨tr_keep hT.1 ((hf2 2 (by decide)).1.trans (hf1 2 (by decide)).1) ((hf2 405 (by decide)).1.trans (hf1 405 (by decide)).1) hz.1 (by omega) (by omega), mRes_eq hT.2.1 ((hf2 410 (by decide)).2.trans (hf1 410 (by decide)).2), rel_fr (fun a q1 q2 => (hf2 a (rw_out (p := rwS) rfl (rwS_of q1 q2))).1.trans (hf1 a (rw_out (p := rwS) rfl (rwS_of q1 q2))).1) ((hf2 406 (by decide)).1.trans (hf1 406 (by decide)).1) (fun a q => (hf2 a (rw_out (p := rwK) rfl (rwK_of q))).1.trans (hf1 a (rw_out (p := rwK) rfl (rwK_of q))).1) hT.2.2⟩
theorem lw_7 {L : Nat} {xs : Nat → Int32} {i : Int32} {u v : Option Value} {bc bs : Nat} {μ : dw_S} (hI : INV μ) (hz : (μ.2.2.1 1 1).toInt = (μ.2.2.1 404 2).toInt ∧ (μ.2.2.1 210 0).toInt = (μ.2.2.1 433 0).toInt ∧ (μ.2.2.1 307 0).toInt = (μ.2.2.1 433 1).toInt) (hT : tbC μ.2.2.1 = tbL μ.2.2.1 ∧ mRes μ.2.2.2 ∧ REL μ.2.2.1) (h0 : 0 ≤ i.toInt) (h6 : i.toInt + 6 ≤ L) (hL : L ≤ 3072) (hc : 1 ≤ bc) (hs : 6 ≤ bs)
    (hk : ∀ (u v : Option Value) (bc' bs' : Nat) (μ' : dw_S), bc ≤ bc' + 1 → bs ≤ bs' + 6 → INV μ' → ((μ'.2.2.1 1 1).toInt = (μ'.2.2.1 404 2).toInt ∧ (μ'.2.2.1 210 0).toInt = (μ'.2.2.1 433 0).toInt ∧ (μ'.2.2.1 307 0).toInt = (μ'.2.2.1 433 1).toInt) → (tbC μ'.2.2.1 = tbL μ'.2.2.1 ∧ mRes μ'.2.2.2 ∧ REL μ'.2.2.1) → dw_ok (pr_law L xs) 1904 bc' bs' (dw_l1 i u v) [] μ') : dw_ok (pr_law L xs) 474 bc bs (dw_l1 i u v) [] μ := by
  have e1 : (i + 1).toInt = i.toInt + 1 := by
    have c : (1 : Int32).toInt = 1 := rfl
    rw [i_add (by omega) (by omega), c]
  have e2 : (i + 2).toInt = i.toInt + 2 := by
    have c : (2 : Int32).toInt = 2 := rfl
    rw [i_add (by omega) (by omega), c]
  have e3 : (i + 3).toInt = i.toInt + 3 := by
    have c : (3 : Int32).toInt = 3 := rfl
    rw [i_add (by omega) (by omega), c]
  have e4 : (i + 4).toInt = i.toInt + 4 := by
    have c : (4 : Int32).toInt = 4 := rfl
    rw [i_add (by omega) (by omega), c]
  have e5 : (i + 5).toInt = i.toInt + 5 := by
    have c : (5 : Int32).toInt = 5 := rfl
    rw [i_add (by omega) (by omega), c]
  have hb1 := hb_1 hI
  refine q_ald rfl rfl ?_
  refine q_ald rfl rfl ?_
  refine q_ild rfl rfl ?_
  refine q_ic rfl ?_
  refine q_add rfl ?_
  refine q_sald rfl (by omega) (by omega) ?_
  refine q_callV (as := [.int (xs (i + 1).toInt.toNat)]) (rest := []) rfl rfl (k_0 hI) rfl (Nat.le_of_ble_eq_true rfl) (cr_X11_begin hI hT.2.2 (fun r1 w1 μ1 hc1 hq1 => ?_))
  obtain ⟨hI1, hr1, hy1, ho1, hf1⟩ := hc1
  subst hr1
  show dw_ok (pr_law L xs) 484 bc bs (dw_l1 i u v) [.int w1] μ1
  refine q_pop rfl ?_
  refine q_ald rfl rfl ?_
  refine q_ald rfl rfl ?_
  refine q_ild rfl rfl ?_
  refine q_ic rfl ?_
  refine q_add rfl ?_
  refine q_sald rfl (by omega) (by omega) ?_
  refine q_callV (as := [.int (xs (i + 1).toInt.toNat)]) (rest := []) rfl rfl (k_404 hI1) rfl (Nat.le_of_ble_eq_true rfl) (cr_X12_begin hI1 (hf1 406 (by decide)).1 hT.2.2.1.1 (nok_s hT.2.2.1) (fun r2 w2 μ2 hc2 hq2 => ?_))
  obtain ⟨hI2, hr2, hy2, ho2, hf2⟩ := hc2
  obtain ⟨hre, hew⟩ := rel_begin hT.2.2 hq1 hq2 (fun a q1 q2 => (hf2 a (rw_out (p := rwS) rfl (rwS_of q1 q2))).1) (fun a q => (hf2 a (rw_out (p := rwK) rfl (rwK_of q))).1.trans (hf1 a (rw_out (p := rwK) rfl (rwK_of q))).1)
  subst hr2
  show dw_ok (pr_law L xs) 495 bc bs (dw_l1 i u v) [.int w2] μ2
  refine q_pop rfl ?_
  refine q_goto rfl ?_
  exact hk _ _ _ _ _ (by omega) (by omega) hI2 ⟨by omega, by omega, by omega⟩ ⟨tr_keep hT.1 ((hf2 2 (by decide)).1.trans (hf1 2 (by decide)).1) ((hf2 405 (by decide)).1.trans (hf1 405 (by decide)).1) hz.1 (by omega) (by omega), mRes_eq hT.2.1 ((hf2 410 (by decide)).2.trans (hf1 410 (by decide)).2), hre⟩
theorem lw_8 {L : Nat} {xs : Nat → Int32} {i : Int32} {u v : Option Value} {bc bs : Nat} {μ : dw_S} (hI : INV μ) (hz : (μ.2.2.1 1 1).toInt = (μ.2.2.1 404 2).toInt ∧ (μ.2.2.1 210 0).toInt = (μ.2.2.1 433 0).toInt ∧ (μ.2.2.1 307 0).toInt = (μ.2.2.1 433 1).toInt) (hT : tbC μ.2.2.1 = tbL μ.2.2.1 ∧ mRes μ.2.2.2 ∧ REL μ.2.2.1) (h0 : 0 ≤ i.toInt) (h6 : i.toInt + 6 ≤ L) (hL : L ≤ 3072) (hc : 1 ≤ bc) (hs : 6 ≤ bs)
    (hk : ∀ (u v : Option Value) (bc' bs' : Nat) (μ' : dw_S), bc ≤ bc' + 1 → bs ≤ bs' + 6 → INV μ' → ((μ'.2.2.1 1 1).toInt = (μ'.2.2.1 404 2).toInt ∧ (μ'.2.2.1 210 0).toInt = (μ'.2.2.1 433 0).toInt ∧ (μ'.2.2.1 307 0).toInt = (μ'.2.2.1 433 1).toInt) → (tbC μ'.2.2.1 = tbL μ'.2.2.1 ∧ mRes μ'.2.2.2 ∧ REL μ'.2.2.1) → dw_ok (pr_law L xs) 1904 bc' bs' (dw_l1 i u v) [] μ') : dw_ok (pr_law L xs) 499 bc bs (dw_l1 i u v) [] μ := by
  have e1 : (i + 1).toInt = i.toInt + 1 := by
    have c : (1 : Int32).toInt = 1 := rfl
    rw [i_add (by omega) (by omega), c]
  have e2 : (i + 2).toInt = i.toInt + 2 := by
    have c : (2 : Int32).toInt = 2 := rfl
    rw [i_add (by omega) (by omega), c]
  have e3 : (i + 3).toInt = i.toInt + 3 := by
    have c : (3 : Int32).toInt = 3 := rfl
    rw [i_add (by omega) (by omega), c]
  have e4 : (i + 4).toInt = i.toInt + 4 := by
    have c : (4 : Int32).toInt = 4 := rfl
    rw [i_add (by omega) (by omega), c]
  have e5 : (i + 5).toInt = i.toInt + 5 := by
    have c : (5 : Int32).toInt = 5 := rfl
    rw [i_add (by omega) (by omega), c]
  have hb1 := hb_1 hI
  refine q_ald rfl rfl ?_
  refine q_ald rfl rfl ?_
  refine q_ild rfl rfl ?_
  refine q_ic rfl ?_
  refine q_add rfl ?_
  refine q_sald rfl (by omega) (by omega) ?_
  refine q_callV (as := [.int (xs (i + 1).toInt.toNat)]) (rest := []) rfl rfl (k_0 hI) rfl (Nat.le_of_ble_eq_true rfl) (cr_X11_on hI hT.2.2 (fun r1 w1 μ1 hc1 hq1 => ?_))
  obtain ⟨hI1, hr1, hy1, ho1, hf1⟩ := hc1
  subst hr1
  show dw_ok (pr_law L xs) 509 bc bs (dw_l1 i u v) [.int w1] μ1
  refine q_pop rfl ?_
  refine q_ald rfl rfl ?_
  refine q_ald rfl rfl ?_
  refine q_ild rfl rfl ?_
  refine q_ic rfl ?_
  refine q_add rfl ?_
  refine q_sald rfl (by omega) (by omega) ?_
  refine q_callV (as := [.int (xs (i + 1).toInt.toNat)]) (rest := []) rfl rfl (k_404 hI1) rfl (Nat.le_of_ble_eq_true rfl) (cr_X12_on hI1 (hf1 406 (by decide)).1 hT.2.2.1.1 (rr_gm hT.2.2.1) (fun r2 w2 μ2 hc2 hq2 => ?_))
  obtain ⟨hI2, hr2, hy2, ho2, hf2⟩ := hc2
  obtain ⟨hre, hew⟩ := rel_on hT.2.2 hq1 hq2 (fun a q1 q2 => (hf2 a (rw_out (p := rwS) rfl (rwS_of q1 q2))).1) (fun a q => (hf2 a (rw_out (p := rwK) rfl (rwK_of q))).1.trans (hf1 a (rw_out (p := rwK) rfl (rwK_of q))).1)
  subst hr2
  show dw_ok (pr_law L xs) 520 bc bs (dw_l1 i u v) [.int w2] μ2
  refine q_pop rfl ?_
  refine q_goto rfl ?_
  exact hk _ _ _ _ _ (by omega) (by omega) hI2 ⟨by omega, by omega, by omega⟩ ⟨tr_keep hT.1 ((hf2 2 (by decide)).1.trans (hf1 2 (by decide)).1) ((hf2 405 (by decide)).1.trans (hf1 405 (by decide)).1) hz.1 (by omega) (by omega), mRes_eq hT.2.1 ((hf2 410 (by decide)).2.trans (hf1 410 (by decide)).2), hre⟩
theorem lw_9 {L : Nat} {xs : Nat → Int32} {i : Int32} {u v : Option Value} {bc bs : Nat} {μ : dw_S} (hI : INV μ) (hz : (μ.2.2.1 1 1).toInt = (μ.2.2.1 404 2).toInt ∧ (μ.2.2.1 210 0).toInt = (μ.2.2.1 433 0).toInt ∧ (μ.2.2.1 307 0).toInt = (μ.2.2.1 433 1).toInt) (hT : tbC μ.2.2.1 = tbL μ.2.2.1 ∧ mRes μ.2.2.2 ∧ REL μ.2.2.1) (h0 : 0 ≤ i.toInt) (h6 : i.toInt + 6 ≤ L) (hL : L ≤ 3072) (hc : 1 ≤ bc) (hs : 6 ≤ bs)
    (hk : ∀ (u v : Option Value) (bc' bs' : Nat) (μ' : dw_S), bc ≤ bc' + 1 → bs ≤ bs' + 6 → INV μ' → ((μ'.2.2.1 1 1).toInt = (μ'.2.2.1 404 2).toInt ∧ (μ'.2.2.1 210 0).toInt = (μ'.2.2.1 433 0).toInt ∧ (μ'.2.2.1 307 0).toInt = (μ'.2.2.1 433 1).toInt) → (tbC μ'.2.2.1 = tbL μ'.2.2.1 ∧ mRes μ'.2.2.2 ∧ REL μ'.2.2.1) → dw_ok (pr_law L xs) 1904 bc' bs' (dw_l1 i u v) [] μ') : dw_ok (pr_law L xs) 524 bc bs (dw_l1 i u v) [] μ := by
  have e1 : (i + 1).toInt = i.toInt + 1 := by
    have c : (1 : Int32).toInt = 1 := rfl
    rw [i_add (by omega) (by omega), c]
  have e2 : (i + 2).toInt = i.toInt + 2 := by
    have c : (2 : Int32).toInt = 2 := rfl
    rw [i_add (by omega) (by omega), c]
  have e3 : (i + 3).toInt = i.toInt + 3 := by
    have c : (3 : Int32).toInt = 3 := rfl
    rw [i_add (by omega) (by omega), c]
  have e4 : (i + 4).toInt = i.toInt + 4 := by
    have c : (4 : Int32).toInt = 4 := rfl
    rw [i_add (by omega) (by omega), c]
  have e5 : (i + 5).toInt = i.toInt + 5 := by
    have c : (5 : Int32).toInt = 5 := rfl
    rw [i_add (by omega) (by omega), c]
  have hb1 := hb_1 hI
  refine q_ald rfl rfl ?_
  refine q_ald rfl rfl ?_
  refine q_ild rfl rfl ?_
  refine q_ic rfl ?_
  refine q_add rfl ?_
  refine q_sald rfl (by omega) (by omega) ?_
  refine q_ald rfl rfl ?_
  refine q_ild rfl rfl ?_
  refine q_ic rfl ?_
  refine q_add rfl ?_
  refine q_sald rfl (by omega) (by omega) ?_
  refine q_ald rfl rfl ?_
  refine q_ild rfl rfl ?_
  refine q_ic rfl ?_
  refine q_add rfl ?_
  refine q_sald rfl (by omega) (by omega) ?_
  refine q_ald rfl rfl ?_
  refine q_callS16 (as := [.ref 0, .int (xs (i + 1).toInt.toNat), .int (xs (i + 2).toInt.toNat), .int (xs (i + 3).toInt.toNat), .ref 434]) (rest := []) rfl rfl rfl (Nat.le_of_ble_eq_true rfl) hc hs (cf_L_is hI (fun r1 w1 μ1 hc1 => ?_))
  obtain ⟨hI1, hr1, hy1, ho1, hf1⟩ := hc1
  subst hr1
  show dw_ok (pr_law L xs) 547 (bc - 1) (bs - 6) (dw_l1 i u v) [.int w1] μ1
  refine q_ist rfl rfl ?_
  show dw_ok (pr_law L xs) 549 (bc - 1) (bs - 6) (dw_l1 i (some (.int w1)) v) [] μ1
  refine q_ald rfl rfl ?_
  refine q_ald rfl rfl ?_
  refine q_ild rfl rfl ?_
  refine q_ic rfl ?_
  refine q_add rfl ?_
  refine q_sald rfl (by omega) (by omega) ?_
  refine q_ald rfl rfl ?_
  refine q_ild rfl rfl ?_
  refine q_ic rfl ?_
  refine q_add rfl ?_
  refine q_sald rfl (by omega) (by omega) ?_
  refine q_ald rfl rfl ?_
  refine q_ild rfl rfl ?_
  refine q_ic rfl ?_
  refine q_add rfl ?_
  refine q_sald rfl (by omega) (by omega) ?_
  refine q_callV (as := [.int (xs (i + 1).toInt.toNat), .int (xs (i + 2).toInt.toNat), .int (xs (i + 3).toInt.toNat)]) (rest := []) rfl rfl (k_404 hI1) rfl (Nat.le_of_ble_eq_true rfl) (cl_X12_is hI1 (fun r2 w2 μ2 hc2 => ?_))
  obtain ⟨hI2, hr2, hy2, ho2, hf2⟩ := hc2
  subst hr2
  show dw_ok (pr_law L xs) 571 (bc - 1) (bs - 6) (dw_l1 i (some (.int w1)) v) [.int w2] μ2
  refine q_ist rfl rfl ?_
  show dw_ok (pr_law L xs) 573 (bc - 1) (bs - 6) (dw_l1 i (some (.int w1)) (some (.int w2))) [] μ2
  refine q_goto rfl ?_
  exact hk _ _ _ _ _ (by omega) (by omega) hI2 ⟨by omega, by omega, by omega⟩ ⟨tr_keep hT.1 ((hf2 2 (by decide)).1.trans (hf1 2 (by decide)).1) ((hf2 405 (by decide)).1.trans (hf1 405 (by decide)).1) hz.1 (by omega) (by omega), mRes_eq hT.2.1 ((hf2 410 (by decide)).2.trans (hf1 410 (by decide)).2), rel_fr (fun a q1 q2 => (hf2 a (rw_out (p := rwS) rfl (rwS_of q1 q2))).1.trans (hf1 a (rw_out (p := rwS) rfl (rwS_of q1 q2))).1) ((hf2 406 (by decide)).1.trans (hf1 406 (by decide)).1) (fun a q => (hf2 a (rw_out (p := rwK) rfl (rwK_of q))).1.trans (hf1 a (rw_out (p := rwK) rfl (rwK_of q))).1) hT.2.2⟩
theorem lw_10 {L : Nat} {xs : Nat → Int32} {i : Int32} {u v : Option Value} {bc bs : Nat} {μ : dw_S} (hI : INV μ) (hz : (μ.2.2.1 1 1).toInt = (μ.2.2.1 404 2).toInt ∧ (μ.2.2.1 210 0).toInt = (μ.2.2.1 433 0).toInt ∧ (μ.2.2.1 307 0).toInt = (μ.2.2.1 433 1).toInt) (hT : tbC μ.2.2.1 = tbL μ.2.2.1 ∧ mRes μ.2.2.2 ∧ REL μ.2.2.1) (h0 : 0 ≤ i.toInt) (h6 : i.toInt + 6 ≤ L) (hL : L ≤ 3072) (hc : 1 ≤ bc) (hs : 6 ≤ bs)
    (hk : ∀ (u v : Option Value) (bc' bs' : Nat) (μ' : dw_S), bc ≤ bc' + 1 → bs ≤ bs' + 6 → INV μ' → ((μ'.2.2.1 1 1).toInt = (μ'.2.2.1 404 2).toInt ∧ (μ'.2.2.1 210 0).toInt = (μ'.2.2.1 433 0).toInt ∧ (μ'.2.2.1 307 0).toInt = (μ'.2.2.1 433 1).toInt) → (tbC μ'.2.2.1 = tbL μ'.2.2.1 ∧ mRes μ'.2.2.2 ∧ REL μ'.2.2.1) → dw_ok (pr_law L xs) 1904 bc' bs' (dw_l1 i u v) [] μ') : dw_ok (pr_law L xs) 576 bc bs (dw_l1 i u v) [] μ := by
  have e1 : (i + 1).toInt = i.toInt + 1 := by
    have c : (1 : Int32).toInt = 1 := rfl
    rw [i_add (by omega) (by omega), c]
  have e2 : (i + 2).toInt = i.toInt + 2 := by
    have c : (2 : Int32).toInt = 2 := rfl
    rw [i_add (by omega) (by omega), c]
  have e3 : (i + 3).toInt = i.toInt + 3 := by
    have c : (3 : Int32).toInt = 3 := rfl
    rw [i_add (by omega) (by omega), c]
  have e4 : (i + 4).toInt = i.toInt + 4 := by
    have c : (4 : Int32).toInt = 4 := rfl
    rw [i_add (by omega) (by omega), c]
  have e5 : (i + 5).toInt = i.toInt + 5 := by
    have c : (5 : Int32).toInt = 5 := rfl
    rw [i_add (by omega) (by omega), c]
  have hb1 := hb_1 hI
  refine q_ald rfl rfl ?_
  refine q_ald rfl rfl ?_
  refine q_ild rfl rfl ?_
  refine q_ic rfl ?_
  refine q_add rfl ?_
  refine q_sald rfl (by omega) (by omega) ?_
  refine q_callV (as := [.int (xs (i + 1).toInt.toNat)]) (rest := []) rfl rfl (k_0 hI) rfl (Nat.le_of_ble_eq_true rfl) (cl_X11_now hI (fun r1 w1 μ1 hc1 => ?_))
  obtain ⟨hI1, hr1, hy1, ho1, hf1⟩ := hc1
  subst hr1
  show dw_ok (pr_law L xs) 586 bc bs (dw_l1 i u v) [.int w1] μ1
  refine q_pop rfl ?_
  refine q_ald rfl rfl ?_
  refine q_ald rfl rfl ?_
  refine q_ild rfl rfl ?_
  refine q_ic rfl ?_
  refine q_add rfl ?_
  refine q_sald rfl (by omega) (by omega) ?_
  refine q_callV (as := [.int (xs (i + 1).toInt.toNat)]) (rest := []) rfl rfl (k_404 hI1) rfl (Nat.le_of_ble_eq_true rfl) (cl_X12_now hI1 (fun r2 w2 μ2 hc2 => ?_))
  obtain ⟨hI2, hr2, hy2, ho2, hf2⟩ := hc2
  subst hr2
  show dw_ok (pr_law L xs) 597 bc bs (dw_l1 i u v) [.int w2] μ2
  refine q_pop rfl ?_
  refine q_goto rfl ?_
  exact hk _ _ _ _ _ (by omega) (by omega) hI2 ⟨by omega, by omega, by omega⟩ ⟨tr_keep hT.1 ((hf2 2 (by decide)).1.trans (hf1 2 (by decide)).1) ((hf2 405 (by decide)).1.trans (hf1 405 (by decide)).1) hz.1 (by omega) (by omega), mRes_eq hT.2.1 ((hf2 410 (by decide)).2.trans (hf1 410 (by decide)).2), rel_fr (fun a q1 q2 => (hf2 a (rw_out (p := rwS) rfl (rwS_of q1 q2))).1.trans (hf1 a (rw_out (p := rwS) rfl (rwS_of q1 q2))).1) ((hf2 406 (by decide)).1.trans (hf1 406 (by decide)).1) (fun a q => (hf2 a (rw_out (p := rwK) rfl (rwK_of q))).1.trans (hf1 a (rw_out (p := rwK) rfl (rwK_of q))).1) hT.2.2⟩
theorem lw_11 {L : Nat} {xs : Nat → Int32} {i : Int32} {u v : Option Value} {bc bs : Nat} {μ : dw_S} (hI : INV μ) (hz : (μ.2.2.1 1 1).toInt = (μ.2.2.1 404 2).toInt ∧ (μ.2.2.1 210 0).toInt = (μ.2.2.1 433 0).toInt ∧ (μ.2.2.1 307 0).toInt = (μ.2.2.1 433 1).toInt) (hT : tbC μ.2.2.1 = tbL μ.2.2.1 ∧ mRes μ.2.2.2 ∧ REL μ.2.2.1) (h0 : 0 ≤ i.toInt) (h6 : i.toInt + 6 ≤ L) (hL : L ≤ 3072) (hc : 1 ≤ bc) (hs : 6 ≤ bs)
    (hk : ∀ (u v : Option Value) (bc' bs' : Nat) (μ' : dw_S), bc ≤ bc' + 1 → bs ≤ bs' + 6 → INV μ' → ((μ'.2.2.1 1 1).toInt = (μ'.2.2.1 404 2).toInt ∧ (μ'.2.2.1 210 0).toInt = (μ'.2.2.1 433 0).toInt ∧ (μ'.2.2.1 307 0).toInt = (μ'.2.2.1 433 1).toInt) → (tbC μ'.2.2.1 = tbL μ'.2.2.1 ∧ mRes μ'.2.2.2 ∧ REL μ'.2.2.1) → dw_ok (pr_law L xs) 1904 bc' bs' (dw_l1 i u v) [] μ') : dw_ok (pr_law L xs) 601 bc bs (dw_l1 i u v) [] μ := by
  have e1 : (i + 1).toInt = i.toInt + 1 := by
    have c : (1 : Int32).toInt = 1 := rfl
    rw [i_add (by omega) (by omega), c]
  have e2 : (i + 2).toInt = i.toInt + 2 := by
    have c : (2 : Int32).toInt = 2 := rfl
    rw [i_add (by omega) (by omega), c]
  have e3 : (i + 3).toInt = i.toInt + 3 := by
    have c : (3 : Int32).toInt = 3 := rfl
    rw [i_add (by omega) (by omega), c]
  have e4 : (i + 4).toInt = i.toInt + 4 := by
    have c : (4 : Int32).toInt = 4 := rfl
    rw [i_add (by omega) (by omega), c]
  have e5 : (i + 5).toInt = i.toInt + 5 := by
    have c : (5 : Int32).toInt = 5 := rfl
    rw [i_add (by omega) (by omega), c]
  have hb1 := hb_1 hI
  refine q_ald rfl rfl ?_
  refine q_callV (as := []) (rest := []) rfl rfl (k_0 hI) rfl (Nat.le_of_ble_eq_true rfl) (cr_X11_plan hI hT.2.2.1 (fun r1 w1 μ1 hc1 hq1 => ?_))
  obtain ⟨hI1, hr1, hy1, ho1, hf1⟩ := hc1
  subst hr1
  show dw_ok (pr_law L xs) 605 bc bs (dw_l1 i u v) [.int w1] μ1
  refine q_pop rfl ?_
  refine q_ald rfl rfl ?_
  refine q_callV (as := []) (rest := []) rfl rfl (k_404 hI1) rfl (Nat.le_of_ble_eq_true rfl) (cr_X12_plan hI1 (by rw [(hf1 406 (by decide)).1]; exact hT.2.2.1.1) (fun r2 w2 μ2 hc2 hq2 => ?_))
  obtain ⟨hI2, hr2, hy2, ho2, hf2⟩ := hc2
  have et : tbL μ1.2.2.1 = tbC μ.2.2.1 := (tbL_eq ho1.1 (hf1 405 (by decide)).1).trans hT.1.symm
  have eN : (μ1.2.2.1 404 2).toInt.toNat = (μ.2.2.1 1 1).toInt.toNat := by omega
  have e6 : μ1.2.2.1 406 = μ.2.2.1 406 := (hf1 406 (by decide)).1
  rw [et, eN, e6] at hq2
  obtain ⟨hre, hew⟩ := rel_plan hT.2.2 hq1 hq2 (fun a q1 q2 => (hf2 a (rw_out (p := rwS) rfl (rwS_of q1 q2))).1) (fun a q => (hf2 a (rw_out (p := rwK) rfl (rwK_of q))).1.trans (hf1 a (rw_out (p := rwK) rfl (rwK_of q))).1)
  subst hr2
  show dw_ok (pr_law L xs) 610 bc bs (dw_l1 i u v) [.int w2] μ2
  refine q_pop rfl ?_
  refine q_goto rfl ?_
  exact hk _ _ _ _ _ (by omega) (by omega) hI2 ⟨by omega, by omega, by omega⟩ ⟨tr_keep hT.1 ((hf2 2 (by decide)).1.trans (hf1 2 (by decide)).1) ((hf2 405 (by decide)).1.trans (hf1 405 (by decide)).1) hz.1 (by omega) (by omega), mRes_eq hT.2.1 ((hf2 410 (by decide)).2.trans (hf1 410 (by decide)).2), hre⟩
theorem lw_12 {L : Nat} {xs : Nat → Int32} {i : Int32} {u v : Option Value} {bc bs : Nat} {μ : dw_S} (hI : INV μ) (hz : (μ.2.2.1 1 1).toInt = (μ.2.2.1 404 2).toInt ∧ (μ.2.2.1 210 0).toInt = (μ.2.2.1 433 0).toInt ∧ (μ.2.2.1 307 0).toInt = (μ.2.2.1 433 1).toInt) (hT : tbC μ.2.2.1 = tbL μ.2.2.1 ∧ mRes μ.2.2.2 ∧ REL μ.2.2.1) (h0 : 0 ≤ i.toInt) (h6 : i.toInt + 6 ≤ L) (hL : L ≤ 3072) (hc : 1 ≤ bc) (hs : 6 ≤ bs)
    (hk : ∀ (u v : Option Value) (bc' bs' : Nat) (μ' : dw_S), bc ≤ bc' + 1 → bs ≤ bs' + 6 → INV μ' → ((μ'.2.2.1 1 1).toInt = (μ'.2.2.1 404 2).toInt ∧ (μ'.2.2.1 210 0).toInt = (μ'.2.2.1 433 0).toInt ∧ (μ'.2.2.1 307 0).toInt = (μ'.2.2.1 433 1).toInt) → (tbC μ'.2.2.1 = tbL μ'.2.2.1 ∧ mRes μ'.2.2.2 ∧ REL μ'.2.2.1) → dw_ok (pr_law L xs) 1904 bc' bs' (dw_l1 i u v) [] μ') : dw_ok (pr_law L xs) 614 bc bs (dw_l1 i u v) [] μ := by
  have e1 : (i + 1).toInt = i.toInt + 1 := by
    have c : (1 : Int32).toInt = 1 := rfl
    rw [i_add (by omega) (by omega), c]
  have e2 : (i + 2).toInt = i.toInt + 2 := by
    have c : (2 : Int32).toInt = 2 := rfl
    rw [i_add (by omega) (by omega), c]
  have e3 : (i + 3).toInt = i.toInt + 3 := by
    have c : (3 : Int32).toInt = 3 := rfl
    rw [i_add (by omega) (by omega), c]
  have e4 : (i + 4).toInt = i.toInt + 4 := by
    have c : (4 : Int32).toInt = 4 := rfl
    rw [i_add (by omega) (by omega), c]
  have e5 : (i + 5).toInt = i.toInt + 5 := by
    have c : (5 : Int32).toInt = 5 := rfl
    rw [i_add (by omega) (by omega), c]
  have hb1 := hb_1 hI
  refine q_ald rfl rfl ?_
  refine q_ald rfl rfl ?_
  refine q_ild rfl rfl ?_
  refine q_ic rfl ?_
  refine q_add rfl ?_
  refine q_sald rfl (by omega) (by omega) ?_
  refine q_callV (as := [.int (xs (i + 1).toInt.toNat)]) (rest := []) rfl rfl (k_0 hI) rfl (Nat.le_of_ble_eq_true rfl) (cr_X11_go hI hT.2.2 (fun r1 w1 μ1 hc1 hq1 => ?_))
  obtain ⟨hI1, hr1, hy1, ho1, hf1⟩ := hc1
  subst hr1
  show dw_ok (pr_law L xs) 624 bc bs (dw_l1 i u v) [.int w1] μ1
  refine q_pop rfl ?_
  refine q_ald rfl rfl ?_
  refine q_ald rfl rfl ?_
  refine q_ild rfl rfl ?_
  refine q_ic rfl ?_
  refine q_add rfl ?_
  refine q_sald rfl (by omega) (by omega) ?_
  refine q_callV (as := [.int (xs (i + 1).toInt.toNat)]) (rest := []) rfl rfl (k_404 hI1) rfl (Nat.le_of_ble_eq_true rfl) (cr_X12_go hI1 (hf1 406 (by decide)).1 hT.2.2.1.1 (rr_gm hT.2.2.1) (fun i hi => rp_b hT.2.2.1.1 hT.2.2.1.2.2.2.1 hi) hT.2.2.1.2.2.2.1.2.1 (fun r2 w2 μ2 hc2 hq2 => ?_))
  obtain ⟨hI2, hr2, hy2, ho2, hf2⟩ := hc2
  obtain ⟨hre, hew⟩ := rel_go hT.2.2 hq1 hq2 (fun a q1 q2 => (hf2 a (rw_out (p := rwS) rfl (rwS_of q1 q2))).1) (fun a q => (hf2 a (rw_out (p := rwK) rfl (rwK_of q))).1.trans (hf1 a (rw_out (p := rwK) rfl (rwK_of q))).1)
  subst hr2
  show dw_ok (pr_law L xs) 635 bc bs (dw_l1 i u v) [.int w2] μ2
  refine q_pop rfl ?_
  refine q_goto rfl ?_
  exact hk _ _ _ _ _ (by omega) (by omega) hI2 ⟨by omega, by omega, by omega⟩ ⟨tr_keep hT.1 ((hf2 2 (by decide)).1.trans (hf1 2 (by decide)).1) ((hf2 405 (by decide)).1.trans (hf1 405 (by decide)).1) hz.1 (by omega) (by omega), mRes_eq hT.2.1 ((hf2 410 (by decide)).2.trans (hf1 410 (by decide)).2), hre⟩
theorem lw_13 {L : Nat} {xs : Nat → Int32} {i : Int32} {u v : Option Value} {bc bs : Nat} {μ : dw_S} (hI : INV μ) (hz : (μ.2.2.1 1 1).toInt = (μ.2.2.1 404 2).toInt ∧ (μ.2.2.1 210 0).toInt = (μ.2.2.1 433 0).toInt ∧ (μ.2.2.1 307 0).toInt = (μ.2.2.1 433 1).toInt) (hT : tbC μ.2.2.1 = tbL μ.2.2.1 ∧ mRes μ.2.2.2 ∧ REL μ.2.2.1) (h0 : 0 ≤ i.toInt) (h6 : i.toInt + 6 ≤ L) (hL : L ≤ 3072) (hc : 1 ≤ bc) (hs : 6 ≤ bs)
    (hk : ∀ (u v : Option Value) (bc' bs' : Nat) (μ' : dw_S), bc ≤ bc' + 1 → bs ≤ bs' + 6 → INV μ' → ((μ'.2.2.1 1 1).toInt = (μ'.2.2.1 404 2).toInt ∧ (μ'.2.2.1 210 0).toInt = (μ'.2.2.1 433 0).toInt ∧ (μ'.2.2.1 307 0).toInt = (μ'.2.2.1 433 1).toInt) → (tbC μ'.2.2.1 = tbL μ'.2.2.1 ∧ mRes μ'.2.2.2 ∧ REL μ'.2.2.1) → dw_ok (pr_law L xs) 1904 bc' bs' (dw_l1 i u v) [] μ') : dw_ok (pr_law L xs) 639 bc bs (dw_l1 i u v) [] μ := by
  have e1 : (i + 1).toInt = i.toInt + 1 := by
    have c : (1 : Int32).toInt = 1 := rfl
    rw [i_add (by omega) (by omega), c]
  have e2 : (i + 2).toInt = i.toInt + 2 := by
    have c : (2 : Int32).toInt = 2 := rfl
    rw [i_add (by omega) (by omega), c]
  have e3 : (i + 3).toInt = i.toInt + 3 := by
    have c : (3 : Int32).toInt = 3 := rfl
    rw [i_add (by omega) (by omega), c]
  have e4 : (i + 4).toInt = i.toInt + 4 := by
    have c : (4 : Int32).toInt = 4 := rfl
    rw [i_add (by omega) (by omega), c]
  have e5 : (i + 5).toInt = i.toInt + 5 := by
    have c : (5 : Int32).toInt = 5 := rfl
    rw [i_add (by omega) (by omega), c]
  have hb1 := hb_1 hI
  refine q_ald rfl rfl ?_
  refine q_ald rfl rfl ?_
  refine q_ild rfl rfl ?_
  refine q_ic rfl ?_
  refine q_add rfl ?_
  refine q_sald rfl (by omega) (by omega) ?_
  refine q_callV (as := [.int (xs (i + 1).toInt.toNat)]) (rest := []) rfl rfl (k_0 hI) rfl (Nat.le_of_ble_eq_true rfl) (cl_X11_went hI (fun r1 w1 μ1 hc1 => ?_))
  obtain ⟨hI1, hr1, hy1, ho1, hf1⟩ := hc1
  subst hr1
  show dw_ok (pr_law L xs) 649 bc bs (dw_l1 i u v) [.int w1] μ1
  refine q_pop rfl ?_
  refine q_ald rfl rfl ?_
  refine q_ald rfl rfl ?_
  refine q_ild rfl rfl ?_
  refine q_ic rfl ?_
  refine q_add rfl ?_
  refine q_sald rfl (by omega) (by omega) ?_
  refine q_callV (as := [.int (xs (i + 1).toInt.toNat)]) (rest := []) rfl rfl (k_404 hI1) rfl (Nat.le_of_ble_eq_true rfl) (cl_X12_went hI1 (fun r2 w2 μ2 hc2 => ?_))
  obtain ⟨hI2, hr2, hy2, ho2, hf2⟩ := hc2
  subst hr2
  show dw_ok (pr_law L xs) 660 bc bs (dw_l1 i u v) [.int w2] μ2
  refine q_pop rfl ?_
  refine q_goto rfl ?_
  exact hk _ _ _ _ _ (by omega) (by omega) hI2 ⟨by omega, by omega, by omega⟩ ⟨tr_keep hT.1 ((hf2 2 (by decide)).1.trans (hf1 2 (by decide)).1) ((hf2 405 (by decide)).1.trans (hf1 405 (by decide)).1) hz.1 (by omega) (by omega), mRes_eq hT.2.1 ((hf2 410 (by decide)).2.trans (hf1 410 (by decide)).2), rel_fr (fun a q1 q2 => (hf2 a (rw_out (p := rwS) rfl (rwS_of q1 q2))).1.trans (hf1 a (rw_out (p := rwS) rfl (rwS_of q1 q2))).1) ((hf2 406 (by decide)).1.trans (hf1 406 (by decide)).1) (fun a q => (hf2 a (rw_out (p := rwK) rfl (rwK_of q))).1.trans (hf1 a (rw_out (p := rwK) rfl (rwK_of q))).1) hT.2.2⟩
theorem lw_14 {L : Nat} {xs : Nat → Int32} {i : Int32} {u v : Option Value} {bc bs : Nat} {μ : dw_S} (hI : INV μ) (hz : (μ.2.2.1 1 1).toInt = (μ.2.2.1 404 2).toInt ∧ (μ.2.2.1 210 0).toInt = (μ.2.2.1 433 0).toInt ∧ (μ.2.2.1 307 0).toInt = (μ.2.2.1 433 1).toInt) (hT : tbC μ.2.2.1 = tbL μ.2.2.1 ∧ mRes μ.2.2.2 ∧ REL μ.2.2.1) (h0 : 0 ≤ i.toInt) (h6 : i.toInt + 6 ≤ L) (hL : L ≤ 3072) (hc : 1 ≤ bc) (hs : 6 ≤ bs)
    (hk : ∀ (u v : Option Value) (bc' bs' : Nat) (μ' : dw_S), bc ≤ bc' + 1 → bs ≤ bs' + 6 → INV μ' → ((μ'.2.2.1 1 1).toInt = (μ'.2.2.1 404 2).toInt ∧ (μ'.2.2.1 210 0).toInt = (μ'.2.2.1 433 0).toInt ∧ (μ'.2.2.1 307 0).toInt = (μ'.2.2.1 433 1).toInt) → (tbC μ'.2.2.1 = tbL μ'.2.2.1 ∧ mRes μ'.2.2.2 ∧ REL μ'.2.2.1) → dw_ok (pr_law L xs) 1904 bc' bs' (dw_l1 i u v) [] μ') : dw_ok (pr_law L xs) 664 bc bs (dw_l1 i u v) [] μ := by
  have e1 : (i + 1).toInt = i.toInt + 1 := by
    have c : (1 : Int32).toInt = 1 := rfl
    rw [i_add (by omega) (by omega), c]
  have e2 : (i + 2).toInt = i.toInt + 2 := by
    have c : (2 : Int32).toInt = 2 := rfl
    rw [i_add (by omega) (by omega), c]
  have e3 : (i + 3).toInt = i.toInt + 3 := by
    have c : (3 : Int32).toInt = 3 := rfl
    rw [i_add (by omega) (by omega), c]
  have e4 : (i + 4).toInt = i.toInt + 4 := by
    have c : (4 : Int32).toInt = 4 := rfl
    rw [i_add (by omega) (by omega), c]
  have e5 : (i + 5).toInt = i.toInt + 5 := by
    have c : (5 : Int32).toInt = 5 := rfl
    rw [i_add (by omega) (by omega), c]
  have hb1 := hb_1 hI
  refine q_ald rfl rfl ?_
  refine q_ald rfl rfl ?_
  refine q_ild rfl rfl ?_
  refine q_ic rfl ?_
  refine q_add rfl ?_
  refine q_sald rfl (by omega) (by omega) ?_
  refine q_ald rfl rfl ?_
  refine q_ild rfl rfl ?_
  refine q_ic rfl ?_
  refine q_add rfl ?_
  refine q_sald rfl (by omega) (by omega) ?_
  refine q_ald rfl rfl ?_
  refine q_ild rfl rfl ?_
  refine q_ic rfl ?_
  refine q_add rfl ?_
  refine q_sald rfl (by omega) (by omega) ?_
  refine q_ald rfl rfl ?_
  refine q_ild rfl rfl ?_
  refine q_ic rfl ?_
  refine q_add rfl ?_
  refine q_sald rfl (by omega) (by omega) ?_
  refine q_callV (as := [.int (xs (i + 1).toInt.toNat), .int (xs (i + 2).toInt.toNat), .int (xs (i + 3).toInt.toNat), .int (xs (i + 4).toInt.toNat)]) (rest := []) rfl rfl (k_0 hI) rfl (Nat.le_of_ble_eq_true rfl) (cl_X11_much hI (fun r1 w1 μ1 hc1 => ?_))
  obtain ⟨hI1, hr1, hy1, ho1, hf1⟩ := hc1
  subst hr1
  show dw_ok (pr_law L xs) 692 bc bs (dw_l1 i u v) [.int w1] μ1
  refine q_pop rfl ?_
  refine q_ald rfl rfl ?_
  refine q_ald rfl rfl ?_
  refine q_ild rfl rfl ?_
  refine q_ic rfl ?_
  refine q_add rfl ?_
  refine q_sald rfl (by omega) (by omega) ?_
  refine q_ald rfl rfl ?_
  refine q_ild rfl rfl ?_
  refine q_ic rfl ?_
  refine q_add rfl ?_
  refine q_sald rfl (by omega) (by omega) ?_
  refine q_ald rfl rfl ?_
  refine q_ild rfl rfl ?_
  refine q_ic rfl ?_
  refine q_add rfl ?_
  refine q_sald rfl (by omega) (by omega) ?_
  refine q_ald rfl rfl ?_
  refine q_ild rfl rfl ?_
  refine q_ic rfl ?_
  refine q_add rfl ?_
  refine q_sald rfl (by omega) (by omega) ?_
  refine q_callV (as := [.int (xs (i + 1).toInt.toNat), .int (xs (i + 2).toInt.toNat), .int (xs (i + 3).toInt.toNat), .int (xs (i + 4).toInt.toNat)]) (rest := []) rfl rfl (k_404 hI1) rfl (Nat.le_of_ble_eq_true rfl) (cl_X12_much hI1 (fun r2 w2 μ2 hc2 => ?_))
  obtain ⟨hI2, hr2, hy2, ho2, hf2⟩ := hc2
  subst hr2
  show dw_ok (pr_law L xs) 721 bc bs (dw_l1 i u v) [.int w2] μ2
  refine q_pop rfl ?_
  refine q_goto rfl ?_
  exact hk _ _ _ _ _ (by omega) (by omega) hI2 ⟨by omega, by omega, by omega⟩ ⟨tr_keep hT.1 ((hf2 2 (by decide)).1.trans (hf1 2 (by decide)).1) ((hf2 405 (by decide)).1.trans (hf1 405 (by decide)).1) hz.1 (by omega) (by omega), mRes_eq hT.2.1 ((hf2 410 (by decide)).2.trans (hf1 410 (by decide)).2), rel_fr (fun a q1 q2 => (hf2 a (rw_out (p := rwS) rfl (rwS_of q1 q2))).1.trans (hf1 a (rw_out (p := rwS) rfl (rwS_of q1 q2))).1) ((hf2 406 (by decide)).1.trans (hf1 406 (by decide)).1) (fun a q => (hf2 a (rw_out (p := rwK) rfl (rwK_of q))).1.trans (hf1 a (rw_out (p := rwK) rfl (rwK_of q))).1) hT.2.2⟩
theorem lw_15 {L : Nat} {xs : Nat → Int32} {i : Int32} {u v : Option Value} {bc bs : Nat} {μ : dw_S} (hI : INV μ) (hz : (μ.2.2.1 1 1).toInt = (μ.2.2.1 404 2).toInt ∧ (μ.2.2.1 210 0).toInt = (μ.2.2.1 433 0).toInt ∧ (μ.2.2.1 307 0).toInt = (μ.2.2.1 433 1).toInt) (hT : tbC μ.2.2.1 = tbL μ.2.2.1 ∧ mRes μ.2.2.2 ∧ REL μ.2.2.1) (h0 : 0 ≤ i.toInt) (h6 : i.toInt + 6 ≤ L) (hL : L ≤ 3072) (hc : 1 ≤ bc) (hs : 6 ≤ bs)
    (hk : ∀ (u v : Option Value) (bc' bs' : Nat) (μ' : dw_S), bc ≤ bc' + 1 → bs ≤ bs' + 6 → INV μ' → ((μ'.2.2.1 1 1).toInt = (μ'.2.2.1 404 2).toInt ∧ (μ'.2.2.1 210 0).toInt = (μ'.2.2.1 433 0).toInt ∧ (μ'.2.2.1 307 0).toInt = (μ'.2.2.1 433 1).toInt) → (tbC μ'.2.2.1 = tbL μ'.2.2.1 ∧ mRes μ'.2.2.2 ∧ REL μ'.2.2.1) → dw_ok (pr_law L xs) 1904 bc' bs' (dw_l1 i u v) [] μ') : dw_ok (pr_law L xs) 725 bc bs (dw_l1 i u v) [] μ := by
  have e1 : (i + 1).toInt = i.toInt + 1 := by
    have c : (1 : Int32).toInt = 1 := rfl
    rw [i_add (by omega) (by omega), c]
  have e2 : (i + 2).toInt = i.toInt + 2 := by
    have c : (2 : Int32).toInt = 2 := rfl
    rw [i_add (by omega) (by omega), c]
  have e3 : (i + 3).toInt = i.toInt + 3 := by
    have c : (3 : Int32).toInt = 3 := rfl
    rw [i_add (by omega) (by omega), c]
  have e4 : (i + 4).toInt = i.toInt + 4 := by
    have c : (4 : Int32).toInt = 4 := rfl
    rw [i_add (by omega) (by omega), c]
  have e5 : (i + 5).toInt = i.toInt + 5 := by
    have c : (5 : Int32).toInt = 5 := rfl
    rw [i_add (by omega) (by omega), c]
  have hb1 := hb_1 hI
  refine q_ald rfl rfl ?_
  refine q_ald rfl rfl ?_
  refine q_ild rfl rfl ?_
  refine q_ic rfl ?_
  refine q_add rfl ?_
  refine q_sald rfl (by omega) (by omega) ?_
  refine q_ald rfl rfl ?_
  refine q_ild rfl rfl ?_
  refine q_ic rfl ?_
  refine q_add rfl ?_
  refine q_sald rfl (by omega) (by omega) ?_
  refine q_ald rfl rfl ?_
  refine q_ild rfl rfl ?_
  refine q_ic rfl ?_
  refine q_add rfl ?_
  refine q_sald rfl (by omega) (by omega) ?_
  refine q_callV (as := [.int (xs (i + 1).toInt.toNat), .int (xs (i + 2).toInt.toNat), .int (xs (i + 3).toInt.toNat)]) (rest := []) rfl rfl (k_0 hI) rfl (Nat.le_of_ble_eq_true rfl) (cl_X11_where hI (fun r1 w1 μ1 hc1 => ?_))
  obtain ⟨hI1, hr1, hy1, ho1, hf1⟩ := hc1
  subst hr1
  show dw_ok (pr_law L xs) 747 bc bs (dw_l1 i u v) [.int w1] μ1
  refine q_pop rfl ?_
  refine q_ald rfl rfl ?_
  refine q_ald rfl rfl ?_
  refine q_ild rfl rfl ?_
  refine q_ic rfl ?_
  refine q_add rfl ?_
  refine q_sald rfl (by omega) (by omega) ?_
  refine q_ald rfl rfl ?_
  refine q_ild rfl rfl ?_
  refine q_ic rfl ?_
  refine q_add rfl ?_
  refine q_sald rfl (by omega) (by omega) ?_
  refine q_ald rfl rfl ?_
  refine q_ild rfl rfl ?_
  refine q_ic rfl ?_
  refine q_add rfl ?_
  refine q_sald rfl (by omega) (by omega) ?_
  refine q_callV (as := [.int (xs (i + 1).toInt.toNat), .int (xs (i + 2).toInt.toNat), .int (xs (i + 3).toInt.toNat)]) (rest := []) rfl rfl (k_404 hI1) rfl (Nat.le_of_ble_eq_true rfl) (cl_X12_where hI1 (fun r2 w2 μ2 hc2 => ?_))
  obtain ⟨hI2, hr2, hy2, ho2, hf2⟩ := hc2
  subst hr2
  show dw_ok (pr_law L xs) 770 bc bs (dw_l1 i u v) [.int w2] μ2
  refine q_pop rfl ?_
  refine q_goto rfl ?_
  exact hk _ _ _ _ _ (by omega) (by omega) hI2 ⟨by omega, by omega, by omega⟩ ⟨tr_keep hT.1 ((hf2 2 (by decide)).1.trans (hf1 2 (by decide)).1) ((hf2 405 (by decide)).1.trans (hf1 405 (by decide)).1) hz.1 (by omega) (by omega), mRes_eq hT.2.1 ((hf2 410 (by decide)).2.trans (hf1 410 (by decide)).2), rel_fr (fun a q1 q2 => (hf2 a (rw_out (p := rwS) rfl (rwS_of q1 q2))).1.trans (hf1 a (rw_out (p := rwS) rfl (rwS_of q1 q2))).1) ((hf2 406 (by decide)).1.trans (hf1 406 (by decide)).1) (fun a q => (hf2 a (rw_out (p := rwK) rfl (rwK_of q))).1.trans (hf1 a (rw_out (p := rwK) rfl (rwK_of q))).1) hT.2.2⟩
theorem lw_16 {L : Nat} {xs : Nat → Int32} {i : Int32} {u v : Option Value} {bc bs : Nat} {μ : dw_S} (hI : INV μ) (hz : (μ.2.2.1 1 1).toInt = (μ.2.2.1 404 2).toInt ∧ (μ.2.2.1 210 0).toInt = (μ.2.2.1 433 0).toInt ∧ (μ.2.2.1 307 0).toInt = (μ.2.2.1 433 1).toInt) (hT : tbC μ.2.2.1 = tbL μ.2.2.1 ∧ mRes μ.2.2.2 ∧ REL μ.2.2.1) (h0 : 0 ≤ i.toInt) (h6 : i.toInt + 6 ≤ L) (hL : L ≤ 3072) (hc : 1 ≤ bc) (hs : 6 ≤ bs)
    (hk : ∀ (u v : Option Value) (bc' bs' : Nat) (μ' : dw_S), bc ≤ bc' + 1 → bs ≤ bs' + 6 → INV μ' → ((μ'.2.2.1 1 1).toInt = (μ'.2.2.1 404 2).toInt ∧ (μ'.2.2.1 210 0).toInt = (μ'.2.2.1 433 0).toInt ∧ (μ'.2.2.1 307 0).toInt = (μ'.2.2.1 433 1).toInt) → (tbC μ'.2.2.1 = tbL μ'.2.2.1 ∧ mRes μ'.2.2.2 ∧ REL μ'.2.2.1) → dw_ok (pr_law L xs) 1904 bc' bs' (dw_l1 i u v) [] μ') : dw_ok (pr_law L xs) 774 bc bs (dw_l1 i u v) [] μ := by
  have e1 : (i + 1).toInt = i.toInt + 1 := by
    have c : (1 : Int32).toInt = 1 := rfl
    rw [i_add (by omega) (by omega), c]
  have e2 : (i + 2).toInt = i.toInt + 2 := by
    have c : (2 : Int32).toInt = 2 := rfl
    rw [i_add (by omega) (by omega), c]
  have e3 : (i + 3).toInt = i.toInt + 3 := by
    have c : (3 : Int32).toInt = 3 := rfl
    rw [i_add (by omega) (by omega), c]
  have e4 : (i + 4).toInt = i.toInt + 4 := by
    have c : (4 : Int32).toInt = 4 := rfl
    rw [i_add (by omega) (by omega), c]
  have e5 : (i + 5).toInt = i.toInt + 5 := by
    have c : (5 : Int32).toInt = 5 := rfl
    rw [i_add (by omega) (by omega), c]
  have hb1 := hb_1 hI
  refine q_ald rfl rfl ?_
  refine q_ald rfl rfl ?_
  refine q_ild rfl rfl ?_
  refine q_ic rfl ?_
  refine q_add rfl ?_
  refine q_sald rfl (by omega) (by omega) ?_
  refine q_ald rfl rfl ?_
  refine q_ild rfl rfl ?_
  refine q_ic rfl ?_
  refine q_add rfl ?_
  refine q_sald rfl (by omega) (by omega) ?_
  refine q_ald rfl rfl ?_
  refine q_ild rfl rfl ?_
  refine q_ic rfl ?_
  refine q_add rfl ?_
  refine q_sald rfl (by omega) (by omega) ?_
  refine q_callV (as := [.int (xs (i + 1).toInt.toNat), .int (xs (i + 2).toInt.toNat), .int (xs (i + 3).toInt.toNat)]) (rest := []) rfl rfl (k_0 hI) rfl (Nat.le_of_ble_eq_true rfl) (cl_X11_begins hI (fun r1 w1 μ1 hc1 => ?_))
  obtain ⟨hI1, hr1, hy1, ho1, hf1⟩ := hc1
  subst hr1
  show dw_ok (pr_law L xs) 796 bc bs (dw_l1 i u v) [.int w1] μ1
  refine q_pop rfl ?_
  refine q_ald rfl rfl ?_
  refine q_ald rfl rfl ?_
  refine q_ild rfl rfl ?_
  refine q_ic rfl ?_
  refine q_add rfl ?_
  refine q_sald rfl (by omega) (by omega) ?_
  refine q_ald rfl rfl ?_
  refine q_ild rfl rfl ?_
  refine q_ic rfl ?_
  refine q_add rfl ?_
  refine q_sald rfl (by omega) (by omega) ?_
  refine q_ald rfl rfl ?_
  refine q_ild rfl rfl ?_
  refine q_ic rfl ?_
  refine q_add rfl ?_
  refine q_sald rfl (by omega) (by omega) ?_
  refine q_callV (as := [.int (xs (i + 1).toInt.toNat), .int (xs (i + 2).toInt.toNat), .int (xs (i + 3).toInt.toNat)]) (rest := []) rfl rfl (k_404 hI1) rfl (Nat.le_of_ble_eq_true rfl) (cl_X12_begins hI1 (fun r2 w2 μ2 hc2 => ?_))
  obtain ⟨hI2, hr2, hy2, ho2, hf2⟩ := hc2
  subst hr2
  show dw_ok (pr_law L xs) 819 bc bs (dw_l1 i u v) [.int w2] μ2
  refine q_pop rfl ?_
  refine q_goto rfl ?_
  exact hk _ _ _ _ _ (by omega) (by omega) hI2 ⟨by omega, by omega, by omega⟩ ⟨tr_keep hT.1 ((hf2 2 (by decide)).1.trans (hf1 2 (by decide)).1) ((hf2 405 (by decide)).1.trans (hf1 405 (by decide)).1) hz.1 (by omega) (by omega), mRes_eq hT.2.1 ((hf2 410 (by decide)).2.trans (hf1 410 (by decide)).2), rel_fr (fun a q1 q2 => (hf2 a (rw_out (p := rwS) rfl (rwS_of q1 q2))).1.trans (hf1 a (rw_out (p := rwS) rfl (rwS_of q1 q2))).1) ((hf2 406 (by decide)).1.trans (hf1 406 (by decide)).1) (fun a q => (hf2 a (rw_out (p := rwK) rfl (rwK_of q))).1.trans (hf1 a (rw_out (p := rwK) rfl (rwK_of q))).1) hT.2.2⟩
theorem lw_17 {L : Nat} {xs : Nat → Int32} {i : Int32} {u v : Option Value} {bc bs : Nat} {μ : dw_S} (hI : INV μ) (hz : (μ.2.2.1 1 1).toInt = (μ.2.2.1 404 2).toInt ∧ (μ.2.2.1 210 0).toInt = (μ.2.2.1 433 0).toInt ∧ (μ.2.2.1 307 0).toInt = (μ.2.2.1 433 1).toInt) (hT : tbC μ.2.2.1 = tbL μ.2.2.1 ∧ mRes μ.2.2.2 ∧ REL μ.2.2.1) (h0 : 0 ≤ i.toInt) (h6 : i.toInt + 6 ≤ L) (hL : L ≤ 3072) (hc : 1 ≤ bc) (hs : 6 ≤ bs)
    (hk : ∀ (u v : Option Value) (bc' bs' : Nat) (μ' : dw_S), bc ≤ bc' + 1 → bs ≤ bs' + 6 → INV μ' → ((μ'.2.2.1 1 1).toInt = (μ'.2.2.1 404 2).toInt ∧ (μ'.2.2.1 210 0).toInt = (μ'.2.2.1 433 0).toInt ∧ (μ'.2.2.1 307 0).toInt = (μ'.2.2.1 433 1).toInt) → (tbC μ'.2.2.1 = tbL μ'.2.2.1 ∧ mRes μ'.2.2.2 ∧ REL μ'.2.2.1) → dw_ok (pr_law L xs) 1904 bc' bs' (dw_l1 i u v) [] μ') : dw_ok (pr_law L xs) 823 bc bs (dw_l1 i u v) [] μ := by
  have e1 : (i + 1).toInt = i.toInt + 1 := by
    have c : (1 : Int32).toInt = 1 := rfl
    rw [i_add (by omega) (by omega), c]
  have e2 : (i + 2).toInt = i.toInt + 2 := by
    have c : (2 : Int32).toInt = 2 := rfl
    rw [i_add (by omega) (by omega), c]
  have e3 : (i + 3).toInt = i.toInt + 3 := by
    have c : (3 : Int32).toInt = 3 := rfl
    rw [i_add (by omega) (by omega), c]
  have e4 : (i + 4).toInt = i.toInt + 4 := by
    have c : (4 : Int32).toInt = 4 := rfl
    rw [i_add (by omega) (by omega), c]
  have e5 : (i + 5).toInt = i.toInt + 5 := by
    have c : (5 : Int32).toInt = 5 := rfl
    rw [i_add (by omega) (by omega), c]
  have hb1 := hb_1 hI
  refine q_ald rfl rfl ?_
  refine q_ald rfl rfl ?_
  refine q_ild rfl rfl ?_
  refine q_ic rfl ?_
  refine q_add rfl ?_
  refine q_sald rfl (by omega) (by omega) ?_
  refine q_ald rfl rfl ?_
  refine q_ild rfl rfl ?_
  refine q_ic rfl ?_
  refine q_add rfl ?_
  refine q_sald rfl (by omega) (by omega) ?_
  refine q_ald rfl rfl ?_
  refine q_ild rfl rfl ?_
  refine q_ic rfl ?_
  refine q_add rfl ?_
  refine q_sald rfl (by omega) (by omega) ?_
  refine q_callV (as := [.int (xs (i + 1).toInt.toNat), .int (xs (i + 2).toInt.toNat), .int (xs (i + 3).toInt.toNat)]) (rest := []) rfl rfl (k_0 hI) rfl (Nat.le_of_ble_eq_true rfl) (cl_X11_gone hI (fun r1 w1 μ1 hc1 => ?_))
  obtain ⟨hI1, hr1, hy1, ho1, hf1⟩ := hc1
  subst hr1
  show dw_ok (pr_law L xs) 845 bc bs (dw_l1 i u v) [.int w1] μ1
  refine q_pop rfl ?_
  refine q_ald rfl rfl ?_
  refine q_ald rfl rfl ?_
  refine q_ild rfl rfl ?_
  refine q_ic rfl ?_
  refine q_add rfl ?_
  refine q_sald rfl (by omega) (by omega) ?_
  refine q_ald rfl rfl ?_
  refine q_ild rfl rfl ?_
  refine q_ic rfl ?_
  refine q_add rfl ?_
  refine q_sald rfl (by omega) (by omega) ?_
  refine q_ald rfl rfl ?_
  refine q_ild rfl rfl ?_
  refine q_ic rfl ?_
  refine q_add rfl ?_
  refine q_sald rfl (by omega) (by omega) ?_
  refine q_callV (as := [.int (xs (i + 1).toInt.toNat), .int (xs (i + 2).toInt.toNat), .int (xs (i + 3).toInt.toNat)]) (rest := []) rfl rfl (k_404 hI1) rfl (Nat.le_of_ble_eq_true rfl) (cl_X12_gone hI1 (fun r2 w2 μ2 hc2 => ?_))
  obtain ⟨hI2, hr2, hy2, ho2, hf2⟩ := hc2
  subst hr2
  show dw_ok (pr_law L xs) 868 bc bs (dw_l1 i u v) [.int w2] μ2
  refine q_pop rfl ?_
  refine q_goto rfl ?_
  exact hk _ _ _ _ _ (by omega) (by omega) hI2 ⟨by omega, by omega, by omega⟩ ⟨tr_keep hT.1 ((hf2 2 (by decide)).1.trans (hf1 2 (by decide)).1) ((hf2 405 (by decide)).1.trans (hf1 405 (by decide)).1) hz.1 (by omega) (by omega), mRes_eq hT.2.1 ((hf2 410 (by decide)).2.trans (hf1 410 (by decide)).2), rel_fr (fun a q1 q2 => (hf2 a (rw_out (p := rwS) rfl (rwS_of q1 q2))).1.trans (hf1 a (rw_out (p := rwS) rfl (rwS_of q1 q2))).1) ((hf2 406 (by decide)).1.trans (hf1 406 (by decide)).1) (fun a q => (hf2 a (rw_out (p := rwK) rfl (rwK_of q))).1.trans (hf1 a (rw_out (p := rwK) rfl (rwK_of q))).1) hT.2.2⟩
theorem lw_18 {L : Nat} {xs : Nat → Int32} {i : Int32} {u v : Option Value} {bc bs : Nat} {μ : dw_S} (hI : INV μ) (hz : (μ.2.2.1 1 1).toInt = (μ.2.2.1 404 2).toInt ∧ (μ.2.2.1 210 0).toInt = (μ.2.2.1 433 0).toInt ∧ (μ.2.2.1 307 0).toInt = (μ.2.2.1 433 1).toInt) (hT : tbC μ.2.2.1 = tbL μ.2.2.1 ∧ mRes μ.2.2.2 ∧ REL μ.2.2.1) (h0 : 0 ≤ i.toInt) (h6 : i.toInt + 6 ≤ L) (hL : L ≤ 3072) (hc : 1 ≤ bc) (hs : 6 ≤ bs)
    (hk : ∀ (u v : Option Value) (bc' bs' : Nat) (μ' : dw_S), bc ≤ bc' + 1 → bs ≤ bs' + 6 → INV μ' → ((μ'.2.2.1 1 1).toInt = (μ'.2.2.1 404 2).toInt ∧ (μ'.2.2.1 210 0).toInt = (μ'.2.2.1 433 0).toInt ∧ (μ'.2.2.1 307 0).toInt = (μ'.2.2.1 433 1).toInt) → (tbC μ'.2.2.1 = tbL μ'.2.2.1 ∧ mRes μ'.2.2.2 ∧ REL μ'.2.2.1) → dw_ok (pr_law L xs) 1904 bc' bs' (dw_l1 i u v) [] μ') : dw_ok (pr_law L xs) 872 bc bs (dw_l1 i u v) [] μ := by
  have e1 : (i + 1).toInt = i.toInt + 1 := by
    have c : (1 : Int32).toInt = 1 := rfl
    rw [i_add (by omega) (by omega), c]
  have e2 : (i + 2).toInt = i.toInt + 2 := by
    have c : (2 : Int32).toInt = 2 := rfl
    rw [i_add (by omega) (by omega), c]
  have e3 : (i + 3).toInt = i.toInt + 3 := by
    have c : (3 : Int32).toInt = 3 := rfl
    rw [i_add (by omega) (by omega), c]
  have e4 : (i + 4).toInt = i.toInt + 4 := by
    have c : (4 : Int32).toInt = 4 := rfl
    rw [i_add (by omega) (by omega), c]
  have e5 : (i + 5).toInt = i.toInt + 5 := by
    have c : (5 : Int32).toInt = 5 := rfl
    rw [i_add (by omega) (by omega), c]
  have hb1 := hb_1 hI
  refine q_ald rfl rfl ?_
  refine q_ald rfl rfl ?_
  refine q_ild rfl rfl ?_
  refine q_ic rfl ?_
  refine q_add rfl ?_
  refine q_sald rfl (by omega) (by omega) ?_
  refine q_ald rfl rfl ?_
  refine q_ild rfl rfl ?_
  refine q_ic rfl ?_
  refine q_add rfl ?_
  refine q_sald rfl (by omega) (by omega) ?_
  refine q_ald rfl rfl ?_
  refine q_ild rfl rfl ?_
  refine q_ic rfl ?_
  refine q_add rfl ?_
  refine q_sald rfl (by omega) (by omega) ?_
  refine q_callV (as := [.int (xs (i + 1).toInt.toNat), .int (xs (i + 2).toInt.toNat), .int (xs (i + 3).toInt.toNat)]) (rest := []) rfl rfl (k_0 hI) rfl (Nat.le_of_ble_eq_true rfl) (cl_X11_wet hI (fun r1 w1 μ1 hc1 => ?_))
  obtain ⟨hI1, hr1, hy1, ho1, hf1⟩ := hc1
  subst hr1
  show dw_ok (pr_law L xs) 894 bc bs (dw_l1 i u v) [.int w1] μ1
  refine q_pop rfl ?_
  refine q_ald rfl rfl ?_
  refine q_ald rfl rfl ?_
  refine q_ild rfl rfl ?_
  refine q_ic rfl ?_
  refine q_add rfl ?_
  refine q_sald rfl (by omega) (by omega) ?_
  refine q_ald rfl rfl ?_
  refine q_ild rfl rfl ?_
  refine q_ic rfl ?_
  refine q_add rfl ?_
  refine q_sald rfl (by omega) (by omega) ?_
  refine q_ald rfl rfl ?_
  refine q_ild rfl rfl ?_
  refine q_ic rfl ?_
  refine q_add rfl ?_
  refine q_sald rfl (by omega) (by omega) ?_
  refine q_callV (as := [.int (xs (i + 1).toInt.toNat), .int (xs (i + 2).toInt.toNat), .int (xs (i + 3).toInt.toNat)]) (rest := []) rfl rfl (k_404 hI1) rfl (Nat.le_of_ble_eq_true rfl) (cl_X12_wet hI1 (fun r2 w2 μ2 hc2 => ?_))
  obtain ⟨hI2, hr2, hy2, ho2, hf2⟩ := hc2
  subst hr2
  show dw_ok (pr_law L xs) 917 bc bs (dw_l1 i u v) [.int w2] μ2
  refine q_pop rfl ?_
  refine q_goto rfl ?_
  exact hk _ _ _ _ _ (by omega) (by omega) hI2 ⟨by omega, by omega, by omega⟩ ⟨tr_keep hT.1 ((hf2 2 (by decide)).1.trans (hf1 2 (by decide)).1) ((hf2 405 (by decide)).1.trans (hf1 405 (by decide)).1) hz.1 (by omega) (by omega), mRes_eq hT.2.1 ((hf2 410 (by decide)).2.trans (hf1 410 (by decide)).2), rel_fr (fun a q1 q2 => (hf2 a (rw_out (p := rwS) rfl (rwS_of q1 q2))).1.trans (hf1 a (rw_out (p := rwS) rfl (rwS_of q1 q2))).1) ((hf2 406 (by decide)).1.trans (hf1 406 (by decide)).1) (fun a q => (hf2 a (rw_out (p := rwK) rfl (rwK_of q))).1.trans (hf1 a (rw_out (p := rwK) rfl (rwK_of q))).1) hT.2.2⟩
theorem lw_19 {L : Nat} {xs : Nat → Int32} {i : Int32} {u v : Option Value} {bc bs : Nat} {μ : dw_S} (hI : INV μ) (hz : (μ.2.2.1 1 1).toInt = (μ.2.2.1 404 2).toInt ∧ (μ.2.2.1 210 0).toInt = (μ.2.2.1 433 0).toInt ∧ (μ.2.2.1 307 0).toInt = (μ.2.2.1 433 1).toInt) (hT : tbC μ.2.2.1 = tbL μ.2.2.1 ∧ mRes μ.2.2.2 ∧ REL μ.2.2.1) (h0 : 0 ≤ i.toInt) (h6 : i.toInt + 6 ≤ L) (hL : L ≤ 3072) (hc : 1 ≤ bc) (hs : 6 ≤ bs)
    (hk : ∀ (u v : Option Value) (bc' bs' : Nat) (μ' : dw_S), bc ≤ bc' + 1 → bs ≤ bs' + 6 → INV μ' → ((μ'.2.2.1 1 1).toInt = (μ'.2.2.1 404 2).toInt ∧ (μ'.2.2.1 210 0).toInt = (μ'.2.2.1 433 0).toInt ∧ (μ'.2.2.1 307 0).toInt = (μ'.2.2.1 433 1).toInt) → (tbC μ'.2.2.1 = tbL μ'.2.2.1 ∧ mRes μ'.2.2.2 ∧ REL μ'.2.2.1) → dw_ok (pr_law L xs) 1904 bc' bs' (dw_l1 i u v) [] μ') : dw_ok (pr_law L xs) 921 bc bs (dw_l1 i u v) [] μ := by
  have e1 : (i + 1).toInt = i.toInt + 1 := by
    have c : (1 : Int32).toInt = 1 := rfl
    rw [i_add (by omega) (by omega), c]
  have e2 : (i + 2).toInt = i.toInt + 2 := by
    have c : (2 : Int32).toInt = 2 := rfl
    rw [i_add (by omega) (by omega), c]
  have e3 : (i + 3).toInt = i.toInt + 3 := by
    have c : (3 : Int32).toInt = 3 := rfl
    rw [i_add (by omega) (by omega), c]
  have e4 : (i + 4).toInt = i.toInt + 4 := by
    have c : (4 : Int32).toInt = 4 := rfl
    rw [i_add (by omega) (by omega), c]
  have e5 : (i + 5).toInt = i.toInt + 5 := by
    have c : (5 : Int32).toInt = 5 := rfl
    rw [i_add (by omega) (by omega), c]
  have hb1 := hb_1 hI
  refine q_ald rfl rfl ?_
  refine q_ald rfl rfl ?_
  refine q_ild rfl rfl ?_
  refine q_ic rfl ?_
  refine q_add rfl ?_
  refine q_sald rfl (by omega) (by omega) ?_
  refine q_ald rfl rfl ?_
  refine q_ild rfl rfl ?_
  refine q_ic rfl ?_
  refine q_add rfl ?_
  refine q_sald rfl (by omega) (by omega) ?_
  refine q_ald rfl rfl ?_
  refine q_ild rfl rfl ?_
  refine q_ic rfl ?_
  refine q_add rfl ?_
  refine q_sald rfl (by omega) (by omega) ?_
  refine q_callV (as := [.int (xs (i + 1).toInt.toNat), .int (xs (i + 2).toInt.toNat), .int (xs (i + 3).toInt.toNat)]) (rest := []) rfl rfl (k_0 hI) rfl (Nat.le_of_ble_eq_true rfl) (cl_X11_spell hI (fun r1 w1 μ1 hc1 => ?_))
  obtain ⟨hI1, hr1, hy1, ho1, hf1⟩ := hc1
  subst hr1
  show dw_ok (pr_law L xs) 943 bc bs (dw_l1 i u v) [.int w1] μ1
  refine q_pop rfl ?_
  refine q_ald rfl rfl ?_
  refine q_ald rfl rfl ?_
  refine q_ild rfl rfl ?_
  refine q_ic rfl ?_
  refine q_add rfl ?_
  refine q_sald rfl (by omega) (by omega) ?_
  refine q_ald rfl rfl ?_
  refine q_ild rfl rfl ?_
  refine q_ic rfl ?_
  refine q_add rfl ?_
  refine q_sald rfl (by omega) (by omega) ?_
  refine q_ald rfl rfl ?_
  refine q_ild rfl rfl ?_
  refine q_ic rfl ?_
  refine q_add rfl ?_
  refine q_sald rfl (by omega) (by omega) ?_
  refine q_callV (as := [.int (xs (i + 1).toInt.toNat), .int (xs (i + 2).toInt.toNat), .int (xs (i + 3).toInt.toNat)]) (rest := []) rfl rfl (k_404 hI1) rfl (Nat.le_of_ble_eq_true rfl) (cl_X12_spell hI1 (fun r2 w2 μ2 hc2 => ?_))
  obtain ⟨hI2, hr2, hy2, ho2, hf2⟩ := hc2
  subst hr2
  show dw_ok (pr_law L xs) 966 bc bs (dw_l1 i u v) [.int w2] μ2
  refine q_pop rfl ?_
  refine q_goto rfl ?_
  exact hk _ _ _ _ _ (by omega) (by omega) hI2 ⟨by omega, by omega, by omega⟩ ⟨tr_keep hT.1 ((hf2 2 (by decide)).1.trans (hf1 2 (by decide)).1) ((hf2 405 (by decide)).1.trans (hf1 405 (by decide)).1) hz.1 (by omega) (by omega), mRes_eq hT.2.1 ((hf2 410 (by decide)).2.trans (hf1 410 (by decide)).2), rel_fr (fun a q1 q2 => (hf2 a (rw_out (p := rwS) rfl (rwS_of q1 q2))).1.trans (hf1 a (rw_out (p := rwS) rfl (rwS_of q1 q2))).1) ((hf2 406 (by decide)).1.trans (hf1 406 (by decide)).1) (fun a q => (hf2 a (rw_out (p := rwK) rfl (rwK_of q))).1.trans (hf1 a (rw_out (p := rwK) rfl (rwK_of q))).1) hT.2.2⟩
theorem lw_20 {L : Nat} {xs : Nat → Int32} {i : Int32} {u v : Option Value} {bc bs : Nat} {μ : dw_S} (hI : INV μ) (hz : (μ.2.2.1 1 1).toInt = (μ.2.2.1 404 2).toInt ∧ (μ.2.2.1 210 0).toInt = (μ.2.2.1 433 0).toInt ∧ (μ.2.2.1 307 0).toInt = (μ.2.2.1 433 1).toInt) (hT : tbC μ.2.2.1 = tbL μ.2.2.1 ∧ mRes μ.2.2.2 ∧ REL μ.2.2.1) (h0 : 0 ≤ i.toInt) (h6 : i.toInt + 6 ≤ L) (hL : L ≤ 3072) (hc : 1 ≤ bc) (hs : 6 ≤ bs)
    (hk : ∀ (u v : Option Value) (bc' bs' : Nat) (μ' : dw_S), bc ≤ bc' + 1 → bs ≤ bs' + 6 → INV μ' → ((μ'.2.2.1 1 1).toInt = (μ'.2.2.1 404 2).toInt ∧ (μ'.2.2.1 210 0).toInt = (μ'.2.2.1 433 0).toInt ∧ (μ'.2.2.1 307 0).toInt = (μ'.2.2.1 433 1).toInt) → (tbC μ'.2.2.1 = tbL μ'.2.2.1 ∧ mRes μ'.2.2.2 ∧ REL μ'.2.2.1) → dw_ok (pr_law L xs) 1904 bc' bs' (dw_l1 i u v) [] μ') : dw_ok (pr_law L xs) 970 bc bs (dw_l1 i u v) [] μ := by
  have e1 : (i + 1).toInt = i.toInt + 1 := by
    have c : (1 : Int32).toInt = 1 := rfl
    rw [i_add (by omega) (by omega), c]
  have e2 : (i + 2).toInt = i.toInt + 2 := by
    have c : (2 : Int32).toInt = 2 := rfl
    rw [i_add (by omega) (by omega), c]
  have e3 : (i + 3).toInt = i.toInt + 3 := by
    have c : (3 : Int32).toInt = 3 := rfl
    rw [i_add (by omega) (by omega), c]
  have e4 : (i + 4).toInt = i.toInt + 4 := by
    have c : (4 : Int32).toInt = 4 := rfl
    rw [i_add (by omega) (by omega), c]
  have e5 : (i + 5).toInt = i.toInt + 5 := by
    have c : (5 : Int32).toInt = 5 := rfl
    rw [i_add (by omega) (by omega), c]
  have hb1 := hb_1 hI
  refine q_ald rfl rfl ?_
  refine q_ald rfl rfl ?_
  refine q_ild rfl rfl ?_
  refine q_ic rfl ?_
  refine q_add rfl ?_
  refine q_sald rfl (by omega) (by omega) ?_
  refine q_ald rfl rfl ?_
  refine q_ild rfl rfl ?_
  refine q_ic rfl ?_
  refine q_add rfl ?_
  refine q_sald rfl (by omega) (by omega) ?_
  refine q_callV (as := [.int (xs (i + 1).toInt.toNat), .int (xs (i + 2).toInt.toNat)]) (rest := []) rfl rfl (k_0 hI) rfl (Nat.le_of_ble_eq_true rfl) (cl_X11_sick hI (fun r1 w1 μ1 hc1 => ?_))
  obtain ⟨hI1, hr1, hy1, ho1, hf1⟩ := hc1
  subst hr1
  show dw_ok (pr_law L xs) 986 bc bs (dw_l1 i u v) [.int w1] μ1
  refine q_pop rfl ?_
  refine q_ald rfl rfl ?_
  refine q_ald rfl rfl ?_
  refine q_ild rfl rfl ?_
  refine q_ic rfl ?_
  refine q_add rfl ?_
  refine q_sald rfl (by omega) (by omega) ?_
  refine q_ald rfl rfl ?_
  refine q_ild rfl rfl ?_
  refine q_ic rfl ?_
  refine q_add rfl ?_
  refine q_sald rfl (by omega) (by omega) ?_
  refine q_callV (as := [.int (xs (i + 1).toInt.toNat), .int (xs (i + 2).toInt.toNat)]) (rest := []) rfl rfl (k_404 hI1) rfl (Nat.le_of_ble_eq_true rfl) (cl_X12_sick hI1 (fun r2 w2 μ2 hc2 => ?_))
  obtain ⟨hI2, hr2, hy2, ho2, hf2⟩ := hc2
  subst hr2
  show dw_ok (pr_law L xs) 1003 bc bs (dw_l1 i u v) [.int w2] μ2
  refine q_pop rfl ?_
  refine q_goto rfl ?_
  exact hk _ _ _ _ _ (by omega) (by omega) hI2 ⟨by omega, by omega, by omega⟩ ⟨tr_keep hT.1 ((hf2 2 (by decide)).1.trans (hf1 2 (by decide)).1) ((hf2 405 (by decide)).1.trans (hf1 405 (by decide)).1) hz.1 (by omega) (by omega), mRes_eq hT.2.1 ((hf2 410 (by decide)).2.trans (hf1 410 (by decide)).2), rel_fr (fun a q1 q2 => (hf2 a (rw_out (p := rwS) rfl (rwS_of q1 q2))).1.trans (hf1 a (rw_out (p := rwS) rfl (rwS_of q1 q2))).1) ((hf2 406 (by decide)).1.trans (hf1 406 (by decide)).1) (fun a q => (hf2 a (rw_out (p := rwK) rfl (rwK_of q))).1.trans (hf1 a (rw_out (p := rwK) rfl (rwK_of q))).1) hT.2.2⟩
theorem lw_21 {L : Nat} {xs : Nat → Int32} {i : Int32} {u v : Option Value} {bc bs : Nat} {μ : dw_S} (hI : INV μ) (hz : (μ.2.2.1 1 1).toInt = (μ.2.2.1 404 2).toInt ∧ (μ.2.2.1 210 0).toInt = (μ.2.2.1 433 0).toInt ∧ (μ.2.2.1 307 0).toInt = (μ.2.2.1 433 1).toInt) (hT : tbC μ.2.2.1 = tbL μ.2.2.1 ∧ mRes μ.2.2.2 ∧ REL μ.2.2.1) (h0 : 0 ≤ i.toInt) (h6 : i.toInt + 6 ≤ L) (hL : L ≤ 3072) (hc : 1 ≤ bc) (hs : 6 ≤ bs)
    (hk : ∀ (u v : Option Value) (bc' bs' : Nat) (μ' : dw_S), bc ≤ bc' + 1 → bs ≤ bs' + 6 → INV μ' → ((μ'.2.2.1 1 1).toInt = (μ'.2.2.1 404 2).toInt ∧ (μ'.2.2.1 210 0).toInt = (μ'.2.2.1 433 0).toInt ∧ (μ'.2.2.1 307 0).toInt = (μ'.2.2.1 433 1).toInt) → (tbC μ'.2.2.1 = tbL μ'.2.2.1 ∧ mRes μ'.2.2.2 ∧ REL μ'.2.2.1) → dw_ok (pr_law L xs) 1904 bc' bs' (dw_l1 i u v) [] μ') : dw_ok (pr_law L xs) 1007 bc bs (dw_l1 i u v) [] μ := by
  have e1 : (i + 1).toInt = i.toInt + 1 := by
    have c : (1 : Int32).toInt = 1 := rfl
    rw [i_add (by omega) (by omega), c]
  have e2 : (i + 2).toInt = i.toInt + 2 := by
    have c : (2 : Int32).toInt = 2 := rfl
    rw [i_add (by omega) (by omega), c]
  have e3 : (i + 3).toInt = i.toInt + 3 := by
    have c : (3 : Int32).toInt = 3 := rfl
    rw [i_add (by omega) (by omega), c]
  have e4 : (i + 4).toInt = i.toInt + 4 := by
    have c : (4 : Int32).toInt = 4 := rfl
    rw [i_add (by omega) (by omega), c]
  have e5 : (i + 5).toInt = i.toInt + 5 := by
    have c : (5 : Int32).toInt = 5 := rfl
    rw [i_add (by omega) (by omega), c]
  have hb1 := hb_1 hI
  refine q_ald rfl rfl ?_
  refine q_ald rfl rfl ?_
  refine q_ild rfl rfl ?_
  refine q_ic rfl ?_
  refine q_add rfl ?_
  refine q_sald rfl (by omega) (by omega) ?_
  refine q_ald rfl rfl ?_
  refine q_ild rfl rfl ?_
  refine q_ic rfl ?_
  refine q_add rfl ?_
  refine q_sald rfl (by omega) (by omega) ?_
  refine q_ald rfl rfl ?_
  refine q_ild rfl rfl ?_
  refine q_ic rfl ?_
  refine q_add rfl ?_
  refine q_sald rfl (by omega) (by omega) ?_
  refine q_callV (as := [.int (xs (i + 1).toInt.toNat), .int (xs (i + 2).toInt.toNat), .int (xs (i + 3).toInt.toNat)]) (rest := []) rfl rfl (k_0 hI) rfl (Nat.le_of_ble_eq_true rfl) (cl_X11_frost hI (fun r1 w1 μ1 hc1 => ?_))
  obtain ⟨hI1, hr1, hy1, ho1, hf1⟩ := hc1
  subst hr1
  show dw_ok (pr_law L xs) 1029 bc bs (dw_l1 i u v) [.int w1] μ1
  refine q_pop rfl ?_
  refine q_ald rfl rfl ?_
  refine q_ald rfl rfl ?_
  refine q_ild rfl rfl ?_
  refine q_ic rfl ?_
  refine q_add rfl ?_
  refine q_sald rfl (by omega) (by omega) ?_
  refine q_ald rfl rfl ?_
  refine q_ild rfl rfl ?_
  refine q_ic rfl ?_
  refine q_add rfl ?_
  refine q_sald rfl (by omega) (by omega) ?_
  refine q_ald rfl rfl ?_
  refine q_ild rfl rfl ?_
  refine q_ic rfl ?_
  refine q_add rfl ?_
  refine q_sald rfl (by omega) (by omega) ?_
  refine q_callV (as := [.int (xs (i + 1).toInt.toNat), .int (xs (i + 2).toInt.toNat), .int (xs (i + 3).toInt.toNat)]) (rest := []) rfl rfl (k_404 hI1) rfl (Nat.le_of_ble_eq_true rfl) (cl_X12_frost hI1 (fun r2 w2 μ2 hc2 => ?_))
  obtain ⟨hI2, hr2, hy2, ho2, hf2⟩ := hc2
  subst hr2
  show dw_ok (pr_law L xs) 1052 bc bs (dw_l1 i u v) [.int w2] μ2
  refine q_pop rfl ?_
  refine q_goto rfl ?_
  exact hk _ _ _ _ _ (by omega) (by omega) hI2 ⟨by omega, by omega, by omega⟩ ⟨tr_keep hT.1 ((hf2 2 (by decide)).1.trans (hf1 2 (by decide)).1) ((hf2 405 (by decide)).1.trans (hf1 405 (by decide)).1) hz.1 (by omega) (by omega), mRes_eq hT.2.1 ((hf2 410 (by decide)).2.trans (hf1 410 (by decide)).2), rel_fr (fun a q1 q2 => (hf2 a (rw_out (p := rwS) rfl (rwS_of q1 q2))).1.trans (hf1 a (rw_out (p := rwS) rfl (rwS_of q1 q2))).1) ((hf2 406 (by decide)).1.trans (hf1 406 (by decide)).1) (fun a q => (hf2 a (rw_out (p := rwK) rfl (rwK_of q))).1.trans (hf1 a (rw_out (p := rwK) rfl (rwK_of q))).1) hT.2.2⟩
theorem lw_22 {L : Nat} {xs : Nat → Int32} {i : Int32} {u v : Option Value} {bc bs : Nat} {μ : dw_S} (hI : INV μ) (hz : (μ.2.2.1 1 1).toInt = (μ.2.2.1 404 2).toInt ∧ (μ.2.2.1 210 0).toInt = (μ.2.2.1 433 0).toInt ∧ (μ.2.2.1 307 0).toInt = (μ.2.2.1 433 1).toInt) (hT : tbC μ.2.2.1 = tbL μ.2.2.1 ∧ mRes μ.2.2.2 ∧ REL μ.2.2.1) (h0 : 0 ≤ i.toInt) (h6 : i.toInt + 6 ≤ L) (hL : L ≤ 3072) (hc : 1 ≤ bc) (hs : 6 ≤ bs)
    (hk : ∀ (u v : Option Value) (bc' bs' : Nat) (μ' : dw_S), bc ≤ bc' + 1 → bs ≤ bs' + 6 → INV μ' → ((μ'.2.2.1 1 1).toInt = (μ'.2.2.1 404 2).toInt ∧ (μ'.2.2.1 210 0).toInt = (μ'.2.2.1 433 0).toInt ∧ (μ'.2.2.1 307 0).toInt = (μ'.2.2.1 433 1).toInt) → (tbC μ'.2.2.1 = tbL μ'.2.2.1 ∧ mRes μ'.2.2.2 ∧ REL μ'.2.2.1) → dw_ok (pr_law L xs) 1904 bc' bs' (dw_l1 i u v) [] μ') : dw_ok (pr_law L xs) 1056 bc bs (dw_l1 i u v) [] μ := by
  have e1 : (i + 1).toInt = i.toInt + 1 := by
    have c : (1 : Int32).toInt = 1 := rfl
    rw [i_add (by omega) (by omega), c]
  have e2 : (i + 2).toInt = i.toInt + 2 := by
    have c : (2 : Int32).toInt = 2 := rfl
    rw [i_add (by omega) (by omega), c]
  have e3 : (i + 3).toInt = i.toInt + 3 := by
    have c : (3 : Int32).toInt = 3 := rfl
    rw [i_add (by omega) (by omega), c]
  have e4 : (i + 4).toInt = i.toInt + 4 := by
    have c : (4 : Int32).toInt = 4 := rfl
    rw [i_add (by omega) (by omega), c]
  have e5 : (i + 5).toInt = i.toInt + 5 := by
    have c : (5 : Int32).toInt = 5 := rfl
    rw [i_add (by omega) (by omega), c]
  have hb1 := hb_1 hI
  refine q_ald rfl rfl ?_
  refine q_ald rfl rfl ?_
  refine q_ild rfl rfl ?_
  refine q_ic rfl ?_
  refine q_add rfl ?_
  refine q_sald rfl (by omega) (by omega) ?_
  refine q_ald rfl rfl ?_
  refine q_ild rfl rfl ?_
  refine q_ic rfl ?_
  refine q_add rfl ?_
  refine q_sald rfl (by omega) (by omega) ?_
  refine q_ald rfl rfl ?_
  refine q_ild rfl rfl ?_
  refine q_ic rfl ?_
  refine q_add rfl ?_
  refine q_sald rfl (by omega) (by omega) ?_
  refine q_ald rfl rfl ?_
  refine q_ild rfl rfl ?_
  refine q_ic rfl ?_
  refine q_add rfl ?_
  refine q_sald rfl (by omega) (by omega) ?_
  refine q_callV (as := [.int (xs (i + 1).toInt.toNat), .int (xs (i + 2).toInt.toNat), .int (xs (i + 3).toInt.toNat), .int (xs (i + 4).toInt.toNat)]) (rest := []) rfl rfl (k_0 hI) rfl (Nat.le_of_ble_eq_true rfl) (cl_X11_slugs hI (fun r1 w1 μ1 hc1 => ?_))
  obtain ⟨hI1, hr1, hy1, ho1, hf1⟩ := hc1
  subst hr1
  show dw_ok (pr_law L xs) 1084 bc bs (dw_l1 i u v) [.int w1] μ1
  refine q_pop rfl ?_
  refine q_ald rfl rfl ?_
  refine q_ald rfl rfl ?_
  refine q_ild rfl rfl ?_
  refine q_ic rfl ?_
  refine q_add rfl ?_
  refine q_sald rfl (by omega) (by omega) ?_
  refine q_ald rfl rfl ?_
  refine q_ild rfl rfl ?_
  refine q_ic rfl ?_
  refine q_add rfl ?_
  refine q_sald rfl (by omega) (by omega) ?_
  refine q_ald rfl rfl ?_
  refine q_ild rfl rfl ?_
  refine q_ic rfl ?_
  refine q_add rfl ?_
  refine q_sald rfl (by omega) (by omega) ?_
  refine q_ald rfl rfl ?_
  refine q_ild rfl rfl ?_
  refine q_ic rfl ?_
  refine q_add rfl ?_
  refine q_sald rfl (by omega) (by omega) ?_
  refine q_callV (as := [.int (xs (i + 1).toInt.toNat), .int (xs (i + 2).toInt.toNat), .int (xs (i + 3).toInt.toNat), .int (xs (i + 4).toInt.toNat)]) (rest := []) rfl rfl (k_404 hI1) rfl (Nat.le_of_ble_eq_true rfl) (cl_X12_slugs hI1 (fun r2 w2 μ2 hc2 => ?_))
  obtain ⟨hI2, hr2, hy2, ho2, hf2⟩ := hc2
  subst hr2
  show dw_ok (pr_law L xs) 1113 bc bs (dw_l1 i u v) [.int w2] μ2
  refine q_pop rfl ?_
  refine q_goto rfl ?_
  exact hk _ _ _ _ _ (by omega) (by omega) hI2 ⟨by omega, by omega, by omega⟩ ⟨tr_keep hT.1 ((hf2 2 (by decide)).1.trans (hf1 2 (by decide)).1) ((hf2 405 (by decide)).1.trans (hf1 405 (by decide)).1) hz.1 (by omega) (by omega), mRes_eq hT.2.1 ((hf2 410 (by decide)).2.trans (hf1 410 (by decide)).2), rel_fr (fun a q1 q2 => (hf2 a (rw_out (p := rwS) rfl (rwS_of q1 q2))).1.trans (hf1 a (rw_out (p := rwS) rfl (rwS_of q1 q2))).1) ((hf2 406 (by decide)).1.trans (hf1 406 (by decide)).1) (fun a q => (hf2 a (rw_out (p := rwK) rfl (rwK_of q))).1.trans (hf1 a (rw_out (p := rwK) rfl (rwK_of q))).1) hT.2.2⟩
theorem lw_23 {L : Nat} {xs : Nat → Int32} {i : Int32} {u v : Option Value} {bc bs : Nat} {μ : dw_S} (hI : INV μ) (hz : (μ.2.2.1 1 1).toInt = (μ.2.2.1 404 2).toInt ∧ (μ.2.2.1 210 0).toInt = (μ.2.2.1 433 0).toInt ∧ (μ.2.2.1 307 0).toInt = (μ.2.2.1 433 1).toInt) (hT : tbC μ.2.2.1 = tbL μ.2.2.1 ∧ mRes μ.2.2.2 ∧ REL μ.2.2.1) (h0 : 0 ≤ i.toInt) (h6 : i.toInt + 6 ≤ L) (hL : L ≤ 3072) (hc : 1 ≤ bc) (hs : 6 ≤ bs)
    (hk : ∀ (u v : Option Value) (bc' bs' : Nat) (μ' : dw_S), bc ≤ bc' + 1 → bs ≤ bs' + 6 → INV μ' → ((μ'.2.2.1 1 1).toInt = (μ'.2.2.1 404 2).toInt ∧ (μ'.2.2.1 210 0).toInt = (μ'.2.2.1 433 0).toInt ∧ (μ'.2.2.1 307 0).toInt = (μ'.2.2.1 433 1).toInt) → (tbC μ'.2.2.1 = tbL μ'.2.2.1 ∧ mRes μ'.2.2.2 ∧ REL μ'.2.2.1) → dw_ok (pr_law L xs) 1904 bc' bs' (dw_l1 i u v) [] μ') : dw_ok (pr_law L xs) 1117 bc bs (dw_l1 i u v) [] μ := by
  have e1 : (i + 1).toInt = i.toInt + 1 := by
    have c : (1 : Int32).toInt = 1 := rfl
    rw [i_add (by omega) (by omega), c]
  have e2 : (i + 2).toInt = i.toInt + 2 := by
    have c : (2 : Int32).toInt = 2 := rfl
    rw [i_add (by omega) (by omega), c]
  have e3 : (i + 3).toInt = i.toInt + 3 := by
    have c : (3 : Int32).toInt = 3 := rfl
    rw [i_add (by omega) (by omega), c]
  have e4 : (i + 4).toInt = i.toInt + 4 := by
    have c : (4 : Int32).toInt = 4 := rfl
    rw [i_add (by omega) (by omega), c]
  have e5 : (i + 5).toInt = i.toInt + 5 := by
    have c : (5 : Int32).toInt = 5 := rfl
    rw [i_add (by omega) (by omega), c]
  have hb1 := hb_1 hI
  refine q_ald rfl rfl ?_
  refine q_ald rfl rfl ?_
  refine q_ild rfl rfl ?_
  refine q_ic rfl ?_
  refine q_add rfl ?_
  refine q_sald rfl (by omega) (by omega) ?_
  refine q_ald rfl rfl ?_
  refine q_ild rfl rfl ?_
  refine q_ic rfl ?_
  refine q_add rfl ?_
  refine q_sald rfl (by omega) (by omega) ?_
  refine q_ald rfl rfl ?_
  refine q_ild rfl rfl ?_
  refine q_ic rfl ?_
  refine q_add rfl ?_
  refine q_sald rfl (by omega) (by omega) ?_
  refine q_ald rfl rfl ?_
  refine q_ild rfl rfl ?_
  refine q_ic rfl ?_
  refine q_add rfl ?_
  refine q_sald rfl (by omega) (by omega) ?_
  refine q_callV (as := [.int (xs (i + 1).toInt.toNat), .int (xs (i + 2).toInt.toNat), .int (xs (i + 3).toInt.toNat), .int (xs (i + 4).toInt.toNat)]) (rest := []) rfl rfl (k_0 hI) rfl (Nat.le_of_ble_eq_true rfl) (cl_X11_walk hI (fun r1 w1 μ1 hc1 => ?_))
  obtain ⟨hI1, hr1, hy1, ho1, hf1⟩ := hc1
  subst hr1
  show dw_ok (pr_law L xs) 1145 bc bs (dw_l1 i u v) [.int w1] μ1
  refine q_pop rfl ?_
  refine q_ald rfl rfl ?_
  refine q_ald rfl rfl ?_
  refine q_ild rfl rfl ?_
  refine q_ic rfl ?_
  refine q_add rfl ?_
  refine q_sald rfl (by omega) (by omega) ?_
  refine q_ald rfl rfl ?_
  refine q_ild rfl rfl ?_
  refine q_ic rfl ?_
  refine q_add rfl ?_
  refine q_sald rfl (by omega) (by omega) ?_
  refine q_ald rfl rfl ?_
  refine q_ild rfl rfl ?_
  refine q_ic rfl ?_
  refine q_add rfl ?_
  refine q_sald rfl (by omega) (by omega) ?_
  refine q_ald rfl rfl ?_
  refine q_ild rfl rfl ?_
  refine q_ic rfl ?_
  refine q_add rfl ?_
  refine q_sald rfl (by omega) (by omega) ?_
  refine q_callV (as := [.int (xs (i + 1).toInt.toNat), .int (xs (i + 2).toInt.toNat), .int (xs (i + 3).toInt.toNat), .int (xs (i + 4).toInt.toNat)]) (rest := []) rfl rfl (k_404 hI1) rfl (Nat.le_of_ble_eq_true rfl) (cl_X12_walk hI1 (fun r2 w2 μ2 hc2 => ?_))
  obtain ⟨hI2, hr2, hy2, ho2, hf2⟩ := hc2
  subst hr2
  show dw_ok (pr_law L xs) 1174 bc bs (dw_l1 i u v) [.int w2] μ2
  refine q_pop rfl ?_
  refine q_goto rfl ?_
  exact hk _ _ _ _ _ (by omega) (by omega) hI2 ⟨by omega, by omega, by omega⟩ ⟨tr_keep hT.1 ((hf2 2 (by decide)).1.trans (hf1 2 (by decide)).1) ((hf2 405 (by decide)).1.trans (hf1 405 (by decide)).1) hz.1 (by omega) (by omega), mRes_eq hT.2.1 ((hf2 410 (by decide)).2.trans (hf1 410 (by decide)).2), rel_fr (fun a q1 q2 => (hf2 a (rw_out (p := rwS) rfl (rwS_of q1 q2))).1.trans (hf1 a (rw_out (p := rwS) rfl (rwS_of q1 q2))).1) ((hf2 406 (by decide)).1.trans (hf1 406 (by decide)).1) (fun a q => (hf2 a (rw_out (p := rwK) rfl (rwK_of q))).1.trans (hf1 a (rw_out (p := rwK) rfl (rwK_of q))).1) hT.2.2⟩
theorem lw_24 {L : Nat} {xs : Nat → Int32} {i : Int32} {u v : Option Value} {bc bs : Nat} {μ : dw_S} (hI : INV μ) (hz : (μ.2.2.1 1 1).toInt = (μ.2.2.1 404 2).toInt ∧ (μ.2.2.1 210 0).toInt = (μ.2.2.1 433 0).toInt ∧ (μ.2.2.1 307 0).toInt = (μ.2.2.1 433 1).toInt) (hT : tbC μ.2.2.1 = tbL μ.2.2.1 ∧ mRes μ.2.2.2 ∧ REL μ.2.2.1) (h0 : 0 ≤ i.toInt) (h6 : i.toInt + 6 ≤ L) (hL : L ≤ 3072) (hc : 1 ≤ bc) (hs : 6 ≤ bs)
    (hk : ∀ (u v : Option Value) (bc' bs' : Nat) (μ' : dw_S), bc ≤ bc' + 1 → bs ≤ bs' + 6 → INV μ' → ((μ'.2.2.1 1 1).toInt = (μ'.2.2.1 404 2).toInt ∧ (μ'.2.2.1 210 0).toInt = (μ'.2.2.1 433 0).toInt ∧ (μ'.2.2.1 307 0).toInt = (μ'.2.2.1 433 1).toInt) → (tbC μ'.2.2.1 = tbL μ'.2.2.1 ∧ mRes μ'.2.2.2 ∧ REL μ'.2.2.1) → dw_ok (pr_law L xs) 1904 bc' bs' (dw_l1 i u v) [] μ') : dw_ok (pr_law L xs) 1178 bc bs (dw_l1 i u v) [] μ := by
  have e1 : (i + 1).toInt = i.toInt + 1 := by
    have c : (1 : Int32).toInt = 1 := rfl
    rw [i_add (by omega) (by omega), c]
  have e2 : (i + 2).toInt = i.toInt + 2 := by
    have c : (2 : Int32).toInt = 2 := rfl
    rw [i_add (by omega) (by omega), c]
  have e3 : (i + 3).toInt = i.toInt + 3 := by
    have c : (3 : Int32).toInt = 3 := rfl
    rw [i_add (by omega) (by omega), c]
  have e4 : (i + 4).toInt = i.toInt + 4 := by
    have c : (4 : Int32).toInt = 4 := rfl
    rw [i_add (by omega) (by omega), c]
  have e5 : (i + 5).toInt = i.toInt + 5 := by
    have c : (5 : Int32).toInt = 5 := rfl
    rw [i_add (by omega) (by omega), c]
  have hb1 := hb_1 hI
  refine q_ald rfl rfl ?_
  refine q_ald rfl rfl ?_
  refine q_ild rfl rfl ?_
  refine q_ic rfl ?_
  refine q_add rfl ?_
  refine q_sald rfl (by omega) (by omega) ?_
  refine q_ald rfl rfl ?_
  refine q_ild rfl rfl ?_
  refine q_ic rfl ?_
  refine q_add rfl ?_
  refine q_sald rfl (by omega) (by omega) ?_
  refine q_callV (as := [.int (xs (i + 1).toInt.toNat), .int (xs (i + 2).toInt.toNat)]) (rest := []) rfl rfl (k_0 hI) rfl (Nat.le_of_ble_eq_true rfl) (cl_X11_unlike hI (fun r1 w1 μ1 hc1 => ?_))
  obtain ⟨hI1, hr1, hy1, ho1, hf1⟩ := hc1
  subst hr1
  show dw_ok (pr_law L xs) 1194 bc bs (dw_l1 i u v) [.int w1] μ1
  refine q_pop rfl ?_
  refine q_ald rfl rfl ?_
  refine q_ald rfl rfl ?_
  refine q_ild rfl rfl ?_
  refine q_ic rfl ?_
  refine q_add rfl ?_
  refine q_sald rfl (by omega) (by omega) ?_
  refine q_ald rfl rfl ?_
  refine q_ild rfl rfl ?_
  refine q_ic rfl ?_
  refine q_add rfl ?_
  refine q_sald rfl (by omega) (by omega) ?_
  refine q_callV (as := [.int (xs (i + 1).toInt.toNat), .int (xs (i + 2).toInt.toNat)]) (rest := []) rfl rfl (k_404 hI1) rfl (Nat.le_of_ble_eq_true rfl) (cl_X12_unlike hI1 (fun r2 w2 μ2 hc2 => ?_))
  obtain ⟨hI2, hr2, hy2, ho2, hf2⟩ := hc2
  subst hr2
  show dw_ok (pr_law L xs) 1211 bc bs (dw_l1 i u v) [.int w2] μ2
  refine q_pop rfl ?_
  refine q_goto rfl ?_
  exact hk _ _ _ _ _ (by omega) (by omega) hI2 ⟨by omega, by omega, by omega⟩ ⟨tr_keep hT.1 ((hf2 2 (by decide)).1.trans (hf1 2 (by decide)).1) ((hf2 405 (by decide)).1.trans (hf1 405 (by decide)).1) hz.1 (by omega) (by omega), mRes_eq hT.2.1 ((hf2 410 (by decide)).2.trans (hf1 410 (by decide)).2), rel_fr (fun a q1 q2 => (hf2 a (rw_out (p := rwS) rfl (rwS_of q1 q2))).1.trans (hf1 a (rw_out (p := rwS) rfl (rwS_of q1 q2))).1) ((hf2 406 (by decide)).1.trans (hf1 406 (by decide)).1) (fun a q => (hf2 a (rw_out (p := rwK) rfl (rwK_of q))).1.trans (hf1 a (rw_out (p := rwK) rfl (rwK_of q))).1) hT.2.2⟩
theorem lw_25 {L : Nat} {xs : Nat → Int32} {i : Int32} {u v : Option Value} {bc bs : Nat} {μ : dw_S} (hI : INV μ) (hz : (μ.2.2.1 1 1).toInt = (μ.2.2.1 404 2).toInt ∧ (μ.2.2.1 210 0).toInt = (μ.2.2.1 433 0).toInt ∧ (μ.2.2.1 307 0).toInt = (μ.2.2.1 433 1).toInt) (hT : tbC μ.2.2.1 = tbL μ.2.2.1 ∧ mRes μ.2.2.2 ∧ REL μ.2.2.1) (h0 : 0 ≤ i.toInt) (h6 : i.toInt + 6 ≤ L) (hL : L ≤ 3072) (hc : 1 ≤ bc) (hs : 6 ≤ bs)
    (hk : ∀ (u v : Option Value) (bc' bs' : Nat) (μ' : dw_S), bc ≤ bc' + 1 → bs ≤ bs' + 6 → INV μ' → ((μ'.2.2.1 1 1).toInt = (μ'.2.2.1 404 2).toInt ∧ (μ'.2.2.1 210 0).toInt = (μ'.2.2.1 433 0).toInt ∧ (μ'.2.2.1 307 0).toInt = (μ'.2.2.1 433 1).toInt) → (tbC μ'.2.2.1 = tbL μ'.2.2.1 ∧ mRes μ'.2.2.2 ∧ REL μ'.2.2.1) → dw_ok (pr_law L xs) 1904 bc' bs' (dw_l1 i u v) [] μ') : dw_ok (pr_law L xs) 1215 bc bs (dw_l1 i u v) [] μ := by
  have e1 : (i + 1).toInt = i.toInt + 1 := by
    have c : (1 : Int32).toInt = 1 := rfl
    rw [i_add (by omega) (by omega), c]
  have e2 : (i + 2).toInt = i.toInt + 2 := by
    have c : (2 : Int32).toInt = 2 := rfl
    rw [i_add (by omega) (by omega), c]
  have e3 : (i + 3).toInt = i.toInt + 3 := by
    have c : (3 : Int32).toInt = 3 := rfl
    rw [i_add (by omega) (by omega), c]
  have e4 : (i + 4).toInt = i.toInt + 4 := by
    have c : (4 : Int32).toInt = 4 := rfl
    rw [i_add (by omega) (by omega), c]
  have e5 : (i + 5).toInt = i.toInt + 5 := by
    have c : (5 : Int32).toInt = 5 := rfl
    rw [i_add (by omega) (by omega), c]
  have hb1 := hb_1 hI
  refine q_ald rfl rfl ?_
  refine q_ald rfl rfl ?_
  refine q_ild rfl rfl ?_
  refine q_ic rfl ?_
  refine q_add rfl ?_
  refine q_sald rfl (by omega) (by omega) ?_
  refine q_ald rfl rfl ?_
  refine q_ild rfl rfl ?_
  refine q_ic rfl ?_
  refine q_add rfl ?_
  refine q_sald rfl (by omega) (by omega) ?_
  refine q_callV (as := [.int (xs (i + 1).toInt.toNat), .int (xs (i + 2).toInt.toNat)]) (rest := []) rfl rfl (k_0 hI) rfl (Nat.le_of_ble_eq_true rfl) (cl_X11_bench hI (fun r1 w1 μ1 hc1 => ?_))
  obtain ⟨hI1, hr1, hy1, ho1, hf1⟩ := hc1
  subst hr1
  show dw_ok (pr_law L xs) 1231 bc bs (dw_l1 i u v) [.int w1] μ1
  refine q_pop rfl ?_
  refine q_ald rfl rfl ?_
  refine q_ald rfl rfl ?_
  refine q_ild rfl rfl ?_
  refine q_ic rfl ?_
  refine q_add rfl ?_
  refine q_sald rfl (by omega) (by omega) ?_
  refine q_ald rfl rfl ?_
  refine q_ild rfl rfl ?_
  refine q_ic rfl ?_
  refine q_add rfl ?_
  refine q_sald rfl (by omega) (by omega) ?_
  refine q_callV (as := [.int (xs (i + 1).toInt.toNat), .int (xs (i + 2).toInt.toNat)]) (rest := []) rfl rfl (k_404 hI1) rfl (Nat.le_of_ble_eq_true rfl) (cl_X12_bench hI1 (fun r2 w2 μ2 hc2 => ?_))
  obtain ⟨hI2, hr2, hy2, ho2, hf2⟩ := hc2
  subst hr2
  show dw_ok (pr_law L xs) 1248 bc bs (dw_l1 i u v) [.int w2] μ2
  refine q_pop rfl ?_
  refine q_goto rfl ?_
  exact hk _ _ _ _ _ (by omega) (by omega) hI2 ⟨by omega, by omega, by omega⟩ ⟨tr_keep hT.1 ((hf2 2 (by decide)).1.trans (hf1 2 (by decide)).1) ((hf2 405 (by decide)).1.trans (hf1 405 (by decide)).1) hz.1 (by omega) (by omega), mRes_eq hT.2.1 ((hf2 410 (by decide)).2.trans (hf1 410 (by decide)).2), rel_fr (fun a q1 q2 => (hf2 a (rw_out (p := rwS) rfl (rwS_of q1 q2))).1.trans (hf1 a (rw_out (p := rwS) rfl (rwS_of q1 q2))).1) ((hf2 406 (by decide)).1.trans (hf1 406 (by decide)).1) (fun a q => (hf2 a (rw_out (p := rwK) rfl (rwK_of q))).1.trans (hf1 a (rw_out (p := rwK) rfl (rwK_of q))).1) hT.2.2⟩
theorem lw_26 {L : Nat} {xs : Nat → Int32} {i : Int32} {u v : Option Value} {bc bs : Nat} {μ : dw_S} (hI : INV μ) (hz : (μ.2.2.1 1 1).toInt = (μ.2.2.1 404 2).toInt ∧ (μ.2.2.1 210 0).toInt = (μ.2.2.1 433 0).toInt ∧ (μ.2.2.1 307 0).toInt = (μ.2.2.1 433 1).toInt) (hT : tbC μ.2.2.1 = tbL μ.2.2.1 ∧ mRes μ.2.2.2 ∧ REL μ.2.2.1) (h0 : 0 ≤ i.toInt) (h6 : i.toInt + 6 ≤ L) (hL : L ≤ 3072) (hc : 1 ≤ bc) (hs : 6 ≤ bs)
    (hk : ∀ (u v : Option Value) (bc' bs' : Nat) (μ' : dw_S), bc ≤ bc' + 1 → bs ≤ bs' + 6 → INV μ' → ((μ'.2.2.1 1 1).toInt = (μ'.2.2.1 404 2).toInt ∧ (μ'.2.2.1 210 0).toInt = (μ'.2.2.1 433 0).toInt ∧ (μ'.2.2.1 307 0).toInt = (μ'.2.2.1 433 1).toInt) → (tbC μ'.2.2.1 = tbL μ'.2.2.1 ∧ mRes μ'.2.2.2 ∧ REL μ'.2.2.1) → dw_ok (pr_law L xs) 1904 bc' bs' (dw_l1 i u v) [] μ') : dw_ok (pr_law L xs) 1252 bc bs (dw_l1 i u v) [] μ := by
  have e1 : (i + 1).toInt = i.toInt + 1 := by
    have c : (1 : Int32).toInt = 1 := rfl
    rw [i_add (by omega) (by omega), c]
  have e2 : (i + 2).toInt = i.toInt + 2 := by
    have c : (2 : Int32).toInt = 2 := rfl
    rw [i_add (by omega) (by omega), c]
  have e3 : (i + 3).toInt = i.toInt + 3 := by
    have c : (3 : Int32).toInt = 3 := rfl
    rw [i_add (by omega) (by omega), c]
  have e4 : (i + 4).toInt = i.toInt + 4 := by
    have c : (4 : Int32).toInt = 4 := rfl
    rw [i_add (by omega) (by omega), c]
  have e5 : (i + 5).toInt = i.toInt + 5 := by
    have c : (5 : Int32).toInt = 5 := rfl
    rw [i_add (by omega) (by omega), c]
  have hb1 := hb_1 hI
  refine q_ald rfl rfl ?_
  refine q_callV (as := []) (rest := []) rfl rfl (k_0 hI) rfl (Nat.le_of_ble_eq_true rfl) (cl_X11_lawn hI (fun r1 w1 μ1 hc1 => ?_))
  obtain ⟨hI1, hr1, hy1, ho1, hf1⟩ := hc1
  subst hr1
  show dw_ok (pr_law L xs) 1256 bc bs (dw_l1 i u v) [.int w1] μ1
  refine q_pop rfl ?_
  refine q_ald rfl rfl ?_
  refine q_callV (as := []) (rest := []) rfl rfl (k_404 hI1) rfl (Nat.le_of_ble_eq_true rfl) (cl_X12_lawn hI1 (fun r2 w2 μ2 hc2 => ?_))
  obtain ⟨hI2, hr2, hy2, ho2, hf2⟩ := hc2
  subst hr2
  show dw_ok (pr_law L xs) 1261 bc bs (dw_l1 i u v) [.int w2] μ2
  refine q_pop rfl ?_
  refine q_goto rfl ?_
  exact hk _ _ _ _ _ (by omega) (by omega) hI2 ⟨by omega, by omega, by omega⟩ ⟨tr_keep hT.1 ((hf2 2 (by decide)).1.trans (hf1 2 (by decide)).1) ((hf2 405 (by decide)).1.trans (hf1 405 (by decide)).1) hz.1 (by omega) (by omega), mRes_eq hT.2.1 ((hf2 410 (by decide)).2.trans (hf1 410 (by decide)).2), rel_fr (fun a q1 q2 => (hf2 a (rw_out (p := rwS) rfl (rwS_of q1 q2))).1.trans (hf1 a (rw_out (p := rwS) rfl (rwS_of q1 q2))).1) ((hf2 406 (by decide)).1.trans (hf1 406 (by decide)).1) (fun a q => (hf2 a (rw_out (p := rwK) rfl (rwK_of q))).1.trans (hf1 a (rw_out (p := rwK) rfl (rwK_of q))).1) hT.2.2⟩
theorem lw_27 {L : Nat} {xs : Nat → Int32} {i : Int32} {u v : Option Value} {bc bs : Nat} {μ : dw_S} (hI : INV μ) (hz : (μ.2.2.1 1 1).toInt = (μ.2.2.1 404 2).toInt ∧ (μ.2.2.1 210 0).toInt = (μ.2.2.1 433 0).toInt ∧ (μ.2.2.1 307 0).toInt = (μ.2.2.1 433 1).toInt) (hT : tbC μ.2.2.1 = tbL μ.2.2.1 ∧ mRes μ.2.2.2 ∧ REL μ.2.2.1) (h0 : 0 ≤ i.toInt) (h6 : i.toInt + 6 ≤ L) (hL : L ≤ 3072) (hc : 1 ≤ bc) (hs : 6 ≤ bs)
    (hk : ∀ (u v : Option Value) (bc' bs' : Nat) (μ' : dw_S), bc ≤ bc' + 1 → bs ≤ bs' + 6 → INV μ' → ((μ'.2.2.1 1 1).toInt = (μ'.2.2.1 404 2).toInt ∧ (μ'.2.2.1 210 0).toInt = (μ'.2.2.1 433 0).toInt ∧ (μ'.2.2.1 307 0).toInt = (μ'.2.2.1 433 1).toInt) → (tbC μ'.2.2.1 = tbL μ'.2.2.1 ∧ mRes μ'.2.2.2 ∧ REL μ'.2.2.1) → dw_ok (pr_law L xs) 1904 bc' bs' (dw_l1 i u v) [] μ') : dw_ok (pr_law L xs) 1265 bc bs (dw_l1 i u v) [] μ := by
  have e1 : (i + 1).toInt = i.toInt + 1 := by
    have c : (1 : Int32).toInt = 1 := rfl
    rw [i_add (by omega) (by omega), c]
  have e2 : (i + 2).toInt = i.toInt + 2 := by
    have c : (2 : Int32).toInt = 2 := rfl
    rw [i_add (by omega) (by omega), c]
  have e3 : (i + 3).toInt = i.toInt + 3 := by
    have c : (3 : Int32).toInt = 3 := rfl
    rw [i_add (by omega) (by omega), c]
  have e4 : (i + 4).toInt = i.toInt + 4 := by
    have c : (4 : Int32).toInt = 4 := rfl
    rw [i_add (by omega) (by omega), c]
  have e5 : (i + 5).toInt = i.toInt + 5 := by
    have c : (5 : Int32).toInt = 5 := rfl
    rw [i_add (by omega) (by omega), c]
  have hb1 := hb_1 hI
  refine q_ald rfl rfl ?_
  refine q_ald rfl rfl ?_
  refine q_ild rfl rfl ?_
  refine q_ic rfl ?_
  refine q_add rfl ?_
  refine q_sald rfl (by omega) (by omega) ?_
  refine q_callV (as := [.int (xs (i + 1).toInt.toNat)]) (rest := []) rfl rfl (k_0 hI) rfl (Nat.le_of_ble_eq_true rfl) (cl_X11_clouded hI (fun r1 w1 μ1 hc1 => ?_))
  obtain ⟨hI1, hr1, hy1, ho1, hf1⟩ := hc1
  subst hr1
  show dw_ok (pr_law L xs) 1275 bc bs (dw_l1 i u v) [.int w1] μ1
  refine q_pop rfl ?_
  refine q_ald rfl rfl ?_
  refine q_ald rfl rfl ?_
  refine q_ild rfl rfl ?_
  refine q_ic rfl ?_
  refine q_add rfl ?_
  refine q_sald rfl (by omega) (by omega) ?_
  refine q_callV (as := [.int (xs (i + 1).toInt.toNat)]) (rest := []) rfl rfl (k_404 hI1) rfl (Nat.le_of_ble_eq_true rfl) (cl_X12_clouded hI1 (fun r2 w2 μ2 hc2 => ?_))
  obtain ⟨hI2, hr2, hy2, ho2, hf2⟩ := hc2
  subst hr2
  show dw_ok (pr_law L xs) 1286 bc bs (dw_l1 i u v) [.int w2] μ2
  refine q_pop rfl ?_
  refine q_goto rfl ?_
  exact hk _ _ _ _ _ (by omega) (by omega) hI2 ⟨by omega, by omega, by omega⟩ ⟨tr_keep hT.1 ((hf2 2 (by decide)).1.trans (hf1 2 (by decide)).1) ((hf2 405 (by decide)).1.trans (hf1 405 (by decide)).1) hz.1 (by omega) (by omega), mRes_eq hT.2.1 ((hf2 410 (by decide)).2.trans (hf1 410 (by decide)).2), rel_fr (fun a q1 q2 => (hf2 a (rw_out (p := rwS) rfl (rwS_of q1 q2))).1.trans (hf1 a (rw_out (p := rwS) rfl (rwS_of q1 q2))).1) ((hf2 406 (by decide)).1.trans (hf1 406 (by decide)).1) (fun a q => (hf2 a (rw_out (p := rwK) rfl (rwK_of q))).1.trans (hf1 a (rw_out (p := rwK) rfl (rwK_of q))).1) hT.2.2⟩
theorem lw_28 {L : Nat} {xs : Nat → Int32} {i : Int32} {u v : Option Value} {bc bs : Nat} {μ : dw_S} (hI : INV μ) (hz : (μ.2.2.1 1 1).toInt = (μ.2.2.1 404 2).toInt ∧ (μ.2.2.1 210 0).toInt = (μ.2.2.1 433 0).toInt ∧ (μ.2.2.1 307 0).toInt = (μ.2.2.1 433 1).toInt) (hT : tbC μ.2.2.1 = tbL μ.2.2.1 ∧ mRes μ.2.2.2 ∧ REL μ.2.2.1) (h0 : 0 ≤ i.toInt) (h6 : i.toInt + 6 ≤ L) (hL : L ≤ 3072) (hc : 1 ≤ bc) (hs : 6 ≤ bs)
    (hk : ∀ (u v : Option Value) (bc' bs' : Nat) (μ' : dw_S), bc ≤ bc' + 1 → bs ≤ bs' + 6 → INV μ' → ((μ'.2.2.1 1 1).toInt = (μ'.2.2.1 404 2).toInt ∧ (μ'.2.2.1 210 0).toInt = (μ'.2.2.1 433 0).toInt ∧ (μ'.2.2.1 307 0).toInt = (μ'.2.2.1 433 1).toInt) → (tbC μ'.2.2.1 = tbL μ'.2.2.1 ∧ mRes μ'.2.2.2 ∧ REL μ'.2.2.1) → dw_ok (pr_law L xs) 1904 bc' bs' (dw_l1 i u v) [] μ') : dw_ok (pr_law L xs) 1290 bc bs (dw_l1 i u v) [] μ := by
  have e1 : (i + 1).toInt = i.toInt + 1 := by
    have c : (1 : Int32).toInt = 1 := rfl
    rw [i_add (by omega) (by omega), c]
  have e2 : (i + 2).toInt = i.toInt + 2 := by
    have c : (2 : Int32).toInt = 2 := rfl
    rw [i_add (by omega) (by omega), c]
  have e3 : (i + 3).toInt = i.toInt + 3 := by
    have c : (3 : Int32).toInt = 3 := rfl
    rw [i_add (by omega) (by omega), c]
  have e4 : (i + 4).toInt = i.toInt + 4 := by
    have c : (4 : Int32).toInt = 4 := rfl
    rw [i_add (by omega) (by omega), c]
  have e5 : (i + 5).toInt = i.toInt + 5 := by
    have c : (5 : Int32).toInt = 5 := rfl
    rw [i_add (by omega) (by omega), c]
  have hb1 := hb_1 hI
  refine q_ald rfl rfl ?_
  refine q_ald rfl rfl ?_
  refine q_ild rfl rfl ?_
  refine q_ic rfl ?_
  refine q_add rfl ?_
  refine q_sald rfl (by omega) (by omega) ?_
  refine q_ald rfl rfl ?_
  refine q_ild rfl rfl ?_
  refine q_ic rfl ?_
  refine q_add rfl ?_
  refine q_sald rfl (by omega) (by omega) ?_
  refine q_ald rfl rfl ?_
  refine q_ild rfl rfl ?_
  refine q_ic rfl ?_
  refine q_add rfl ?_
  refine q_sald rfl (by omega) (by omega) ?_
  refine q_ald rfl rfl ?_
  refine q_ild rfl rfl ?_
  refine q_ic rfl ?_
  refine q_add rfl ?_
  refine q_sald rfl (by omega) (by omega) ?_
  refine q_callV (as := [.int (xs (i + 1).toInt.toNat), .int (xs (i + 2).toInt.toNat), .int (xs (i + 3).toInt.toNat), .int (xs (i + 4).toInt.toNat)]) (rest := []) rfl rfl (k_0 hI) rfl (Nat.le_of_ble_eq_true rfl) (cl_X11_came hI (fun r1 w1 μ1 hc1 => ?_))
  obtain ⟨hI1, hr1, hy1, ho1, hf1⟩ := hc1
  subst hr1
  show dw_ok (pr_law L xs) 1318 bc bs (dw_l1 i u v) [.int w1] μ1
  refine q_pop rfl ?_
  refine q_ald rfl rfl ?_
  refine q_ald rfl rfl ?_
  refine q_ild rfl rfl ?_
  refine q_ic rfl ?_
  refine q_add rfl ?_
  refine q_sald rfl (by omega) (by omega) ?_
  refine q_ald rfl rfl ?_
  refine q_ild rfl rfl ?_
  refine q_ic rfl ?_
  refine q_add rfl ?_
  refine q_sald rfl (by omega) (by omega) ?_
  refine q_ald rfl rfl ?_
  refine q_ild rfl rfl ?_
  refine q_ic rfl ?_
  refine q_add rfl ?_
  refine q_sald rfl (by omega) (by omega) ?_
  refine q_ald rfl rfl ?_
  refine q_ild rfl rfl ?_
  refine q_ic rfl ?_
  refine q_add rfl ?_
  refine q_sald rfl (by omega) (by omega) ?_
  refine q_callV (as := [.int (xs (i + 1).toInt.toNat), .int (xs (i + 2).toInt.toNat), .int (xs (i + 3).toInt.toNat), .int (xs (i + 4).toInt.toNat)]) (rest := []) rfl rfl (k_404 hI1) rfl (Nat.le_of_ble_eq_true rfl) (cl_X12_came hI1 (fun r2 w2 μ2 hc2 => ?_))
  obtain ⟨hI2, hr2, hy2, ho2, hf2⟩ := hc2
  subst hr2
  show dw_ok (pr_law L xs) 1347 bc bs (dw_l1 i u v) [.int w2] μ2
  refine q_pop rfl ?_
  refine q_goto rfl ?_
  exact hk _ _ _ _ _ (by omega) (by omega) hI2 ⟨by omega, by omega, by omega⟩ ⟨tr_keep hT.1 ((hf2 2 (by decide)).1.trans (hf1 2 (by decide)).1) ((hf2 405 (by decide)).1.trans (hf1 405 (by decide)).1) hz.1 (by omega) (by omega), mRes_eq hT.2.1 ((hf2 410 (by decide)).2.trans (hf1 410 (by decide)).2), rel_fr (fun a q1 q2 => (hf2 a (rw_out (p := rwS) rfl (rwS_of q1 q2))).1.trans (hf1 a (rw_out (p := rwS) rfl (rwS_of q1 q2))).1) ((hf2 406 (by decide)).1.trans (hf1 406 (by decide)).1) (fun a q => (hf2 a (rw_out (p := rwK) rfl (rwK_of q))).1.trans (hf1 a (rw_out (p := rwK) rfl (rwK_of q))).1) hT.2.2⟩
theorem lw_29 {L : Nat} {xs : Nat → Int32} {i : Int32} {u v : Option Value} {bc bs : Nat} {μ : dw_S} (hI : INV μ) (hz : (μ.2.2.1 1 1).toInt = (μ.2.2.1 404 2).toInt ∧ (μ.2.2.1 210 0).toInt = (μ.2.2.1 433 0).toInt ∧ (μ.2.2.1 307 0).toInt = (μ.2.2.1 433 1).toInt) (hT : tbC μ.2.2.1 = tbL μ.2.2.1 ∧ mRes μ.2.2.2 ∧ REL μ.2.2.1) (h0 : 0 ≤ i.toInt) (h6 : i.toInt + 6 ≤ L) (hL : L ≤ 3072) (hc : 1 ≤ bc) (hs : 6 ≤ bs)
    (hk : ∀ (u v : Option Value) (bc' bs' : Nat) (μ' : dw_S), bc ≤ bc' + 1 → bs ≤ bs' + 6 → INV μ' → ((μ'.2.2.1 1 1).toInt = (μ'.2.2.1 404 2).toInt ∧ (μ'.2.2.1 210 0).toInt = (μ'.2.2.1 433 0).toInt ∧ (μ'.2.2.1 307 0).toInt = (μ'.2.2.1 433 1).toInt) → (tbC μ'.2.2.1 = tbL μ'.2.2.1 ∧ mRes μ'.2.2.2 ∧ REL μ'.2.2.1) → dw_ok (pr_law L xs) 1904 bc' bs' (dw_l1 i u v) [] μ') : dw_ok (pr_law L xs) 1351 bc bs (dw_l1 i u v) [] μ := by
  have e1 : (i + 1).toInt = i.toInt + 1 := by
    have c : (1 : Int32).toInt = 1 := rfl
    rw [i_add (by omega) (by omega), c]
  have e2 : (i + 2).toInt = i.toInt + 2 := by
    have c : (2 : Int32).toInt = 2 := rfl
    rw [i_add (by omega) (by omega), c]
  have e3 : (i + 3).toInt = i.toInt + 3 := by
    have c : (3 : Int32).toInt = 3 := rfl
    rw [i_add (by omega) (by omega), c]
  have e4 : (i + 4).toInt = i.toInt + 4 := by
    have c : (4 : Int32).toInt = 4 := rfl
    rw [i_add (by omega) (by omega), c]
  have e5 : (i + 5).toInt = i.toInt + 5 := by
    have c : (5 : Int32).toInt = 5 := rfl
    rw [i_add (by omega) (by omega), c]
  have hb1 := hb_1 hI
  refine q_ald rfl rfl ?_
  refine q_ald rfl rfl ?_
  refine q_ild rfl rfl ?_
  refine q_ic rfl ?_
  refine q_add rfl ?_
  refine q_sald rfl (by omega) (by omega) ?_
  refine q_callV (as := [.int (xs (i + 1).toInt.toNat)]) (rest := []) rfl rfl (k_0 hI) rfl (Nat.le_of_ble_eq_true rfl) (cl_X11_cameAt hI (fun r1 w1 μ1 hc1 => ?_))
  obtain ⟨hI1, hr1, hy1, ho1, hf1⟩ := hc1
  subst hr1
  show dw_ok (pr_law L xs) 1361 bc bs (dw_l1 i u v) [.int w1] μ1
  refine q_pop rfl ?_
  refine q_ald rfl rfl ?_
  refine q_ald rfl rfl ?_
  refine q_ild rfl rfl ?_
  refine q_ic rfl ?_
  refine q_add rfl ?_
  refine q_sald rfl (by omega) (by omega) ?_
  refine q_callV (as := [.int (xs (i + 1).toInt.toNat)]) (rest := []) rfl rfl (k_404 hI1) rfl (Nat.le_of_ble_eq_true rfl) (cl_X12_cameAt hI1 (fun r2 w2 μ2 hc2 => ?_))
  obtain ⟨hI2, hr2, hy2, ho2, hf2⟩ := hc2
  subst hr2
  show dw_ok (pr_law L xs) 1372 bc bs (dw_l1 i u v) [.int w2] μ2
  refine q_pop rfl ?_
  refine q_goto rfl ?_
  exact hk _ _ _ _ _ (by omega) (by omega) hI2 ⟨by omega, by omega, by omega⟩ ⟨tr_keep hT.1 ((hf2 2 (by decide)).1.trans (hf1 2 (by decide)).1) ((hf2 405 (by decide)).1.trans (hf1 405 (by decide)).1) hz.1 (by omega) (by omega), mRes_eq hT.2.1 ((hf2 410 (by decide)).2.trans (hf1 410 (by decide)).2), rel_fr (fun a q1 q2 => (hf2 a (rw_out (p := rwS) rfl (rwS_of q1 q2))).1.trans (hf1 a (rw_out (p := rwS) rfl (rwS_of q1 q2))).1) ((hf2 406 (by decide)).1.trans (hf1 406 (by decide)).1) (fun a q => (hf2 a (rw_out (p := rwK) rfl (rwK_of q))).1.trans (hf1 a (rw_out (p := rwK) rfl (rwK_of q))).1) hT.2.2⟩
theorem lw_30 {L : Nat} {xs : Nat → Int32} {i : Int32} {u v : Option Value} {bc bs : Nat} {μ : dw_S} (hI : INV μ) (hz : (μ.2.2.1 1 1).toInt = (μ.2.2.1 404 2).toInt ∧ (μ.2.2.1 210 0).toInt = (μ.2.2.1 433 0).toInt ∧ (μ.2.2.1 307 0).toInt = (μ.2.2.1 433 1).toInt) (hT : tbC μ.2.2.1 = tbL μ.2.2.1 ∧ mRes μ.2.2.2 ∧ REL μ.2.2.1) (h0 : 0 ≤ i.toInt) (h6 : i.toInt + 6 ≤ L) (hL : L ≤ 3072) (hc : 1 ≤ bc) (hs : 6 ≤ bs)
    (hk : ∀ (u v : Option Value) (bc' bs' : Nat) (μ' : dw_S), bc ≤ bc' + 1 → bs ≤ bs' + 6 → INV μ' → ((μ'.2.2.1 1 1).toInt = (μ'.2.2.1 404 2).toInt ∧ (μ'.2.2.1 210 0).toInt = (μ'.2.2.1 433 0).toInt ∧ (μ'.2.2.1 307 0).toInt = (μ'.2.2.1 433 1).toInt) → (tbC μ'.2.2.1 = tbL μ'.2.2.1 ∧ mRes μ'.2.2.2 ∧ REL μ'.2.2.1) → dw_ok (pr_law L xs) 1904 bc' bs' (dw_l1 i u v) [] μ') : dw_ok (pr_law L xs) 1376 bc bs (dw_l1 i u v) [] μ := by
  have e1 : (i + 1).toInt = i.toInt + 1 := by
    have c : (1 : Int32).toInt = 1 := rfl
    rw [i_add (by omega) (by omega), c]
  have e2 : (i + 2).toInt = i.toInt + 2 := by
    have c : (2 : Int32).toInt = 2 := rfl
    rw [i_add (by omega) (by omega), c]
  have e3 : (i + 3).toInt = i.toInt + 3 := by
    have c : (3 : Int32).toInt = 3 := rfl
    rw [i_add (by omega) (by omega), c]
  have e4 : (i + 4).toInt = i.toInt + 4 := by
    have c : (4 : Int32).toInt = 4 := rfl
    rw [i_add (by omega) (by omega), c]
  have e5 : (i + 5).toInt = i.toInt + 5 := by
    have c : (5 : Int32).toInt = 5 := rfl
    rw [i_add (by omega) (by omega), c]
  have hb1 := hb_1 hI
  refine q_ald rfl rfl ?_
  refine q_ald rfl rfl ?_
  refine q_ild rfl rfl ?_
  refine q_ic rfl ?_
  refine q_add rfl ?_
  refine q_sald rfl (by omega) (by omega) ?_
  refine q_ald rfl rfl ?_
  refine q_ild rfl rfl ?_
  refine q_ic rfl ?_
  refine q_add rfl ?_
  refine q_sald rfl (by omega) (by omega) ?_
  refine q_ald rfl rfl ?_
  refine q_ild rfl rfl ?_
  refine q_ic rfl ?_
  refine q_add rfl ?_
  refine q_sald rfl (by omega) (by omega) ?_
  refine q_callV (as := [.int (xs (i + 1).toInt.toNat), .int (xs (i + 2).toInt.toNat), .int (xs (i + 3).toInt.toNat)]) (rest := []) rfl rfl (k_0 hI) rfl (Nat.le_of_ble_eq_true rfl) (cl_X11_roof hI (fun r1 w1 μ1 hc1 => ?_))
  obtain ⟨hI1, hr1, hy1, ho1, hf1⟩ := hc1
  subst hr1
  show dw_ok (pr_law L xs) 1398 bc bs (dw_l1 i u v) [.int w1] μ1
  refine q_pop rfl ?_
  refine q_ald rfl rfl ?_
  refine q_ald rfl rfl ?_
  refine q_ild rfl rfl ?_
  refine q_ic rfl ?_
  refine q_add rfl ?_
  refine q_sald rfl (by omega) (by omega) ?_
  refine q_ald rfl rfl ?_
  refine q_ild rfl rfl ?_
  refine q_ic rfl ?_
  refine q_add rfl ?_
  refine q_sald rfl (by omega) (by omega) ?_
  refine q_ald rfl rfl ?_
  refine q_ild rfl rfl ?_
  refine q_ic rfl ?_
  refine q_add rfl ?_
  refine q_sald rfl (by omega) (by omega) ?_
  refine q_callV (as := [.int (xs (i + 1).toInt.toNat), .int (xs (i + 2).toInt.toNat), .int (xs (i + 3).toInt.toNat)]) (rest := []) rfl rfl (k_404 hI1) rfl (Nat.le_of_ble_eq_true rfl) (cl_X12_roof hI1 (fun r2 w2 μ2 hc2 => ?_))
  obtain ⟨hI2, hr2, hy2, ho2, hf2⟩ := hc2
  subst hr2
  show dw_ok (pr_law L xs) 1421 bc bs (dw_l1 i u v) [.int w2] μ2
  refine q_pop rfl ?_
  refine q_goto rfl ?_
  exact hk _ _ _ _ _ (by omega) (by omega) hI2 ⟨by omega, by omega, by omega⟩ ⟨tr_keep hT.1 ((hf2 2 (by decide)).1.trans (hf1 2 (by decide)).1) ((hf2 405 (by decide)).1.trans (hf1 405 (by decide)).1) hz.1 (by omega) (by omega), mRes_eq hT.2.1 ((hf2 410 (by decide)).2.trans (hf1 410 (by decide)).2), rel_fr (fun a q1 q2 => (hf2 a (rw_out (p := rwS) rfl (rwS_of q1 q2))).1.trans (hf1 a (rw_out (p := rwS) rfl (rwS_of q1 q2))).1) ((hf2 406 (by decide)).1.trans (hf1 406 (by decide)).1) (fun a q => (hf2 a (rw_out (p := rwK) rfl (rwK_of q))).1.trans (hf1 a (rw_out (p := rwK) rfl (rwK_of q))).1) hT.2.2⟩
theorem lw_31 {L : Nat} {xs : Nat → Int32} {i : Int32} {u v : Option Value} {bc bs : Nat} {μ : dw_S} (hI : INV μ) (hz : (μ.2.2.1 1 1).toInt = (μ.2.2.1 404 2).toInt ∧ (μ.2.2.1 210 0).toInt = (μ.2.2.1 433 0).toInt ∧ (μ.2.2.1 307 0).toInt = (μ.2.2.1 433 1).toInt) (hT : tbC μ.2.2.1 = tbL μ.2.2.1 ∧ mRes μ.2.2.2 ∧ REL μ.2.2.1) (h0 : 0 ≤ i.toInt) (h6 : i.toInt + 6 ≤ L) (hL : L ≤ 3072) (hc : 1 ≤ bc) (hs : 6 ≤ bs)
    (hk : ∀ (u v : Option Value) (bc' bs' : Nat) (μ' : dw_S), bc ≤ bc' + 1 → bs ≤ bs' + 6 → INV μ' → ((μ'.2.2.1 1 1).toInt = (μ'.2.2.1 404 2).toInt ∧ (μ'.2.2.1 210 0).toInt = (μ'.2.2.1 433 0).toInt ∧ (μ'.2.2.1 307 0).toInt = (μ'.2.2.1 433 1).toInt) → (tbC μ'.2.2.1 = tbL μ'.2.2.1 ∧ mRes μ'.2.2.2 ∧ REL μ'.2.2.1) → dw_ok (pr_law L xs) 1904 bc' bs' (dw_l1 i u v) [] μ') : dw_ok (pr_law L xs) 1425 bc bs (dw_l1 i u v) [] μ := by
  have e1 : (i + 1).toInt = i.toInt + 1 := by
    have c : (1 : Int32).toInt = 1 := rfl
    rw [i_add (by omega) (by omega), c]
  have e2 : (i + 2).toInt = i.toInt + 2 := by
    have c : (2 : Int32).toInt = 2 := rfl
    rw [i_add (by omega) (by omega), c]
  have e3 : (i + 3).toInt = i.toInt + 3 := by
    have c : (3 : Int32).toInt = 3 := rfl
    rw [i_add (by omega) (by omega), c]
  have e4 : (i + 4).toInt = i.toInt + 4 := by
    have c : (4 : Int32).toInt = 4 := rfl
    rw [i_add (by omega) (by omega), c]
  have e5 : (i + 5).toInt = i.toInt + 5 := by
    have c : (5 : Int32).toInt = 5 := rfl
    rw [i_add (by omega) (by omega), c]
  have hb1 := hb_1 hI
  refine q_ald rfl rfl ?_
  refine q_ald rfl rfl ?_
  refine q_ild rfl rfl ?_
  refine q_ic rfl ?_
  refine q_add rfl ?_
  refine q_sald rfl (by omega) (by omega) ?_
  refine q_ald rfl rfl ?_
  refine q_ild rfl rfl ?_
  refine q_ic rfl ?_
  refine q_add rfl ?_
  refine q_sald rfl (by omega) (by omega) ?_
  refine q_callV (as := [.int (xs (i + 1).toInt.toNat), .int (xs (i + 2).toInt.toNat)]) (rest := []) rfl rfl (k_0 hI) rfl (Nat.le_of_ble_eq_true rfl) (cl_X11_driest hI (fun r1 w1 μ1 hc1 => ?_))
  obtain ⟨hI1, hr1, hy1, ho1, hf1⟩ := hc1
  subst hr1
  show dw_ok (pr_law L xs) 1441 bc bs (dw_l1 i u v) [.int w1] μ1
  refine q_pop rfl ?_
  refine q_ald rfl rfl ?_
  refine q_ald rfl rfl ?_
  refine q_ild rfl rfl ?_
  refine q_ic rfl ?_
  refine q_add rfl ?_
  refine q_sald rfl (by omega) (by omega) ?_
  refine q_ald rfl rfl ?_
  refine q_ild rfl rfl ?_
  refine q_ic rfl ?_
  refine q_add rfl ?_
  refine q_sald rfl (by omega) (by omega) ?_
  refine q_callV (as := [.int (xs (i + 1).toInt.toNat), .int (xs (i + 2).toInt.toNat)]) (rest := []) rfl rfl (k_404 hI1) rfl (Nat.le_of_ble_eq_true rfl) (cl_X12_driest hI1 (fun r2 w2 μ2 hc2 => ?_))
  obtain ⟨hI2, hr2, hy2, ho2, hf2⟩ := hc2
  subst hr2
  show dw_ok (pr_law L xs) 1458 bc bs (dw_l1 i u v) [.int w2] μ2
  refine q_pop rfl ?_
  refine q_goto rfl ?_
  exact hk _ _ _ _ _ (by omega) (by omega) hI2 ⟨by omega, by omega, by omega⟩ ⟨tr_keep hT.1 ((hf2 2 (by decide)).1.trans (hf1 2 (by decide)).1) ((hf2 405 (by decide)).1.trans (hf1 405 (by decide)).1) hz.1 (by omega) (by omega), mRes_eq hT.2.1 ((hf2 410 (by decide)).2.trans (hf1 410 (by decide)).2), rel_fr (fun a q1 q2 => (hf2 a (rw_out (p := rwS) rfl (rwS_of q1 q2))).1.trans (hf1 a (rw_out (p := rwS) rfl (rwS_of q1 q2))).1) ((hf2 406 (by decide)).1.trans (hf1 406 (by decide)).1) (fun a q => (hf2 a (rw_out (p := rwK) rfl (rwK_of q))).1.trans (hf1 a (rw_out (p := rwK) rfl (rwK_of q))).1) hT.2.2⟩
theorem lw_32 {L : Nat} {xs : Nat → Int32} {i : Int32} {u v : Option Value} {bc bs : Nat} {μ : dw_S} (hI : INV μ) (hz : (μ.2.2.1 1 1).toInt = (μ.2.2.1 404 2).toInt ∧ (μ.2.2.1 210 0).toInt = (μ.2.2.1 433 0).toInt ∧ (μ.2.2.1 307 0).toInt = (μ.2.2.1 433 1).toInt) (hT : tbC μ.2.2.1 = tbL μ.2.2.1 ∧ mRes μ.2.2.2 ∧ REL μ.2.2.1) (h0 : 0 ≤ i.toInt) (h6 : i.toInt + 6 ≤ L) (hL : L ≤ 3072) (hc : 1 ≤ bc) (hs : 6 ≤ bs)
    (hk : ∀ (u v : Option Value) (bc' bs' : Nat) (μ' : dw_S), bc ≤ bc' + 1 → bs ≤ bs' + 6 → INV μ' → ((μ'.2.2.1 1 1).toInt = (μ'.2.2.1 404 2).toInt ∧ (μ'.2.2.1 210 0).toInt = (μ'.2.2.1 433 0).toInt ∧ (μ'.2.2.1 307 0).toInt = (μ'.2.2.1 433 1).toInt) → (tbC μ'.2.2.1 = tbL μ'.2.2.1 ∧ mRes μ'.2.2.2 ∧ REL μ'.2.2.1) → dw_ok (pr_law L xs) 1904 bc' bs' (dw_l1 i u v) [] μ') : dw_ok (pr_law L xs) 1462 bc bs (dw_l1 i u v) [] μ := by
  have e1 : (i + 1).toInt = i.toInt + 1 := by
    have c : (1 : Int32).toInt = 1 := rfl
    rw [i_add (by omega) (by omega), c]
  have e2 : (i + 2).toInt = i.toInt + 2 := by
    have c : (2 : Int32).toInt = 2 := rfl
    rw [i_add (by omega) (by omega), c]
  have e3 : (i + 3).toInt = i.toInt + 3 := by
    have c : (3 : Int32).toInt = 3 := rfl
    rw [i_add (by omega) (by omega), c]
  have e4 : (i + 4).toInt = i.toInt + 4 := by
    have c : (4 : Int32).toInt = 4 := rfl
    rw [i_add (by omega) (by omega), c]
  have e5 : (i + 5).toInt = i.toInt + 5 := by
    have c : (5 : Int32).toInt = 5 := rfl
    rw [i_add (by omega) (by omega), c]
  have hb1 := hb_1 hI
  refine q_ald rfl rfl ?_
  refine q_ald rfl rfl ?_
  refine q_ild rfl rfl ?_
  refine q_ic rfl ?_
  refine q_add rfl ?_
  refine q_sald rfl (by omega) (by omega) ?_
  refine q_ald rfl rfl ?_
  refine q_ild rfl rfl ?_
  refine q_ic rfl ?_
  refine q_add rfl ?_
  refine q_sald rfl (by omega) (by omega) ?_
  refine q_ald rfl rfl ?_
  refine q_ild rfl rfl ?_
  refine q_ic rfl ?_
  refine q_add rfl ?_
  refine q_sald rfl (by omega) (by omega) ?_
  refine q_callV (as := [.int (xs (i + 1).toInt.toNat), .int (xs (i + 2).toInt.toNat), .int (xs (i + 3).toInt.toNat)]) (rest := []) rfl rfl (k_0 hI) rfl (Nat.le_of_ble_eq_true rfl) (cl_X11_catcher hI (fun r1 w1 μ1 hc1 => ?_))
  obtain ⟨hI1, hr1, hy1, ho1, hf1⟩ := hc1
  subst hr1
  show dw_ok (pr_law L xs) 1484 bc bs (dw_l1 i u v) [.int w1] μ1
  refine q_pop rfl ?_
  refine q_ald rfl rfl ?_
  refine q_ald rfl rfl ?_
  refine q_ild rfl rfl ?_
  refine q_ic rfl ?_
  refine q_add rfl ?_
  refine q_sald rfl (by omega) (by omega) ?_
  refine q_ald rfl rfl ?_
  refine q_ild rfl rfl ?_
  refine q_ic rfl ?_
  refine q_add rfl ?_
  refine q_sald rfl (by omega) (by omega) ?_
  refine q_ald rfl rfl ?_
  refine q_ild rfl rfl ?_
  refine q_ic rfl ?_
  refine q_add rfl ?_
  refine q_sald rfl (by omega) (by omega) ?_
  refine q_callV (as := [.int (xs (i + 1).toInt.toNat), .int (xs (i + 2).toInt.toNat), .int (xs (i + 3).toInt.toNat)]) (rest := []) rfl rfl (k_404 hI1) rfl (Nat.le_of_ble_eq_true rfl) (cl_X12_catcher hI1 (fun r2 w2 μ2 hc2 => ?_))
  obtain ⟨hI2, hr2, hy2, ho2, hf2⟩ := hc2
  subst hr2
  show dw_ok (pr_law L xs) 1507 bc bs (dw_l1 i u v) [.int w2] μ2
  refine q_pop rfl ?_
  refine q_goto rfl ?_
  exact hk _ _ _ _ _ (by omega) (by omega) hI2 ⟨by omega, by omega, by omega⟩ ⟨tr_keep hT.1 ((hf2 2 (by decide)).1.trans (hf1 2 (by decide)).1) ((hf2 405 (by decide)).1.trans (hf1 405 (by decide)).1) hz.1 (by omega) (by omega), mRes_eq hT.2.1 ((hf2 410 (by decide)).2.trans (hf1 410 (by decide)).2), rel_fr (fun a q1 q2 => (hf2 a (rw_out (p := rwS) rfl (rwS_of q1 q2))).1.trans (hf1 a (rw_out (p := rwS) rfl (rwS_of q1 q2))).1) ((hf2 406 (by decide)).1.trans (hf1 406 (by decide)).1) (fun a q => (hf2 a (rw_out (p := rwK) rfl (rwK_of q))).1.trans (hf1 a (rw_out (p := rwK) rfl (rwK_of q))).1) hT.2.2⟩
theorem lw_33 {L : Nat} {xs : Nat → Int32} {i : Int32} {u v : Option Value} {bc bs : Nat} {μ : dw_S} (hI : INV μ) (hz : (μ.2.2.1 1 1).toInt = (μ.2.2.1 404 2).toInt ∧ (μ.2.2.1 210 0).toInt = (μ.2.2.1 433 0).toInt ∧ (μ.2.2.1 307 0).toInt = (μ.2.2.1 433 1).toInt) (hT : tbC μ.2.2.1 = tbL μ.2.2.1 ∧ mRes μ.2.2.2 ∧ REL μ.2.2.1) (h0 : 0 ≤ i.toInt) (h6 : i.toInt + 6 ≤ L) (hL : L ≤ 3072) (hc : 1 ≤ bc) (hs : 6 ≤ bs)
    (hk : ∀ (u v : Option Value) (bc' bs' : Nat) (μ' : dw_S), bc ≤ bc' + 1 → bs ≤ bs' + 6 → INV μ' → ((μ'.2.2.1 1 1).toInt = (μ'.2.2.1 404 2).toInt ∧ (μ'.2.2.1 210 0).toInt = (μ'.2.2.1 433 0).toInt ∧ (μ'.2.2.1 307 0).toInt = (μ'.2.2.1 433 1).toInt) → (tbC μ'.2.2.1 = tbL μ'.2.2.1 ∧ mRes μ'.2.2.2 ∧ REL μ'.2.2.1) → dw_ok (pr_law L xs) 1904 bc' bs' (dw_l1 i u v) [] μ') : dw_ok (pr_law L xs) 1511 bc bs (dw_l1 i u v) [] μ := by
  have e1 : (i + 1).toInt = i.toInt + 1 := by
    have c : (1 : Int32).toInt = 1 := rfl
    rw [i_add (by omega) (by omega), c]
  have e2 : (i + 2).toInt = i.toInt + 2 := by
    have c : (2 : Int32).toInt = 2 := rfl
    rw [i_add (by omega) (by omega), c]
  have e3 : (i + 3).toInt = i.toInt + 3 := by
    have c : (3 : Int32).toInt = 3 := rfl
    rw [i_add (by omega) (by omega), c]
  have e4 : (i + 4).toInt = i.toInt + 4 := by
    have c : (4 : Int32).toInt = 4 := rfl
    rw [i_add (by omega) (by omega), c]
  have e5 : (i + 5).toInt = i.toInt + 5 := by
    have c : (5 : Int32).toInt = 5 := rfl
    rw [i_add (by omega) (by omega), c]
  have hb1 := hb_1 hI
  refine q_ald rfl rfl ?_
  refine q_ald rfl rfl ?_
  refine q_ild rfl rfl ?_
  refine q_ic rfl ?_
  refine q_add rfl ?_
  refine q_sald rfl (by omega) (by omega) ?_
  refine q_ald rfl rfl ?_
  refine q_ild rfl rfl ?_
  refine q_ic rfl ?_
  refine q_add rfl ?_
  refine q_sald rfl (by omega) (by omega) ?_
  refine q_ald rfl rfl ?_
  refine q_ild rfl rfl ?_
  refine q_ic rfl ?_
  refine q_add rfl ?_
  refine q_sald rfl (by omega) (by omega) ?_
  refine q_ald rfl rfl ?_
  refine q_ild rfl rfl ?_
  refine q_ic rfl ?_
  refine q_add rfl ?_
  refine q_sald rfl (by omega) (by omega) ?_
  refine q_ald rfl rfl ?_
  refine q_ild rfl rfl ?_
  refine q_ic rfl ?_
  refine q_add rfl ?_
  refine q_sald rfl (by omega) (by omega) ?_
  refine q_callV (as := [.int (xs (i + 1).toInt.toNat), .int (xs (i + 2).toInt.toNat), .int (xs (i + 3).toInt.toNat), .int (xs (i + 4).toInt.toNat), .int (xs (i + 5).toInt.toNat)]) (rest := []) rfl rfl (k_0 hI) rfl (Nat.le_of_ble_eq_true rfl) (cl_X11_story hI (fun r1 w1 μ1 hc1 => ?_))
  obtain ⟨hI1, hr1, hy1, ho1, hf1⟩ := hc1
  subst hr1
  show dw_ok (pr_law L xs) 1545 bc bs (dw_l1 i u v) [.int w1] μ1
  refine q_pop rfl ?_
  refine q_ald rfl rfl ?_
  refine q_ald rfl rfl ?_
  refine q_ild rfl rfl ?_
  refine q_ic rfl ?_
  refine q_add rfl ?_
  refine q_sald rfl (by omega) (by omega) ?_
  refine q_ald rfl rfl ?_
  refine q_ild rfl rfl ?_
  refine q_ic rfl ?_
  refine q_add rfl ?_
  refine q_sald rfl (by omega) (by omega) ?_
  refine q_ald rfl rfl ?_
  refine q_ild rfl rfl ?_
  refine q_ic rfl ?_
  refine q_add rfl ?_
  refine q_sald rfl (by omega) (by omega) ?_
  refine q_ald rfl rfl ?_
  refine q_ild rfl rfl ?_
  refine q_ic rfl ?_
  refine q_add rfl ?_
  refine q_sald rfl (by omega) (by omega) ?_
  refine q_ald rfl rfl ?_
  refine q_ild rfl rfl ?_
  refine q_ic rfl ?_
  refine q_add rfl ?_
  refine q_sald rfl (by omega) (by omega) ?_
  refine q_callV (as := [.int (xs (i + 1).toInt.toNat), .int (xs (i + 2).toInt.toNat), .int (xs (i + 3).toInt.toNat), .int (xs (i + 4).toInt.toNat), .int (xs (i + 5).toInt.toNat)]) (rest := []) rfl rfl (k_404 hI1) rfl (Nat.le_of_ble_eq_true rfl) (cl_X12_story hI1 (fun r2 w2 μ2 hc2 => ?_))
  obtain ⟨hI2, hr2, hy2, ho2, hf2⟩ := hc2
  subst hr2
  show dw_ok (pr_law L xs) 1580 bc bs (dw_l1 i u v) [.int w2] μ2
  refine q_pop rfl ?_
  refine q_goto rfl ?_
  exact hk _ _ _ _ _ (by omega) (by omega) hI2 ⟨by omega, by omega, by omega⟩ ⟨tr_keep hT.1 ((hf2 2 (by decide)).1.trans (hf1 2 (by decide)).1) ((hf2 405 (by decide)).1.trans (hf1 405 (by decide)).1) hz.1 (by omega) (by omega), mRes_eq hT.2.1 ((hf2 410 (by decide)).2.trans (hf1 410 (by decide)).2), rel_fr (fun a q1 q2 => (hf2 a (rw_out (p := rwS) rfl (rwS_of q1 q2))).1.trans (hf1 a (rw_out (p := rwS) rfl (rwS_of q1 q2))).1) ((hf2 406 (by decide)).1.trans (hf1 406 (by decide)).1) (fun a q => (hf2 a (rw_out (p := rwK) rfl (rwK_of q))).1.trans (hf1 a (rw_out (p := rwK) rfl (rwK_of q))).1) hT.2.2⟩
theorem lw_34 {L : Nat} {xs : Nat → Int32} {i : Int32} {u v : Option Value} {bc bs : Nat} {μ : dw_S} (hI : INV μ) (hz : (μ.2.2.1 1 1).toInt = (μ.2.2.1 404 2).toInt ∧ (μ.2.2.1 210 0).toInt = (μ.2.2.1 433 0).toInt ∧ (μ.2.2.1 307 0).toInt = (μ.2.2.1 433 1).toInt) (hT : tbC μ.2.2.1 = tbL μ.2.2.1 ∧ mRes μ.2.2.2 ∧ REL μ.2.2.1) (h0 : 0 ≤ i.toInt) (h6 : i.toInt + 6 ≤ L) (hL : L ≤ 3072) (hc : 1 ≤ bc) (hs : 6 ≤ bs)
    (hk : ∀ (u v : Option Value) (bc' bs' : Nat) (μ' : dw_S), bc ≤ bc' + 1 → bs ≤ bs' + 6 → INV μ' → ((μ'.2.2.1 1 1).toInt = (μ'.2.2.1 404 2).toInt ∧ (μ'.2.2.1 210 0).toInt = (μ'.2.2.1 433 0).toInt ∧ (μ'.2.2.1 307 0).toInt = (μ'.2.2.1 433 1).toInt) → (tbC μ'.2.2.1 = tbL μ'.2.2.1 ∧ mRes μ'.2.2.2 ∧ REL μ'.2.2.1) → dw_ok (pr_law L xs) 1904 bc' bs' (dw_l1 i u v) [] μ') : dw_ok (pr_law L xs) 1584 bc bs (dw_l1 i u v) [] μ := by
  have e1 : (i + 1).toInt = i.toInt + 1 := by
    have c : (1 : Int32).toInt = 1 := rfl
    rw [i_add (by omega) (by omega), c]
  have e2 : (i + 2).toInt = i.toInt + 2 := by
    have c : (2 : Int32).toInt = 2 := rfl
    rw [i_add (by omega) (by omega), c]
  have e3 : (i + 3).toInt = i.toInt + 3 := by
    have c : (3 : Int32).toInt = 3 := rfl
    rw [i_add (by omega) (by omega), c]
  have e4 : (i + 4).toInt = i.toInt + 4 := by
    have c : (4 : Int32).toInt = 4 := rfl
    rw [i_add (by omega) (by omega), c]
  have e5 : (i + 5).toInt = i.toInt + 5 := by
    have c : (5 : Int32).toInt = 5 := rfl
    rw [i_add (by omega) (by omega), c]
  have hb1 := hb_1 hI
  refine q_ald rfl rfl ?_
  refine q_ald rfl rfl ?_
  refine q_ild rfl rfl ?_
  refine q_ic rfl ?_
  refine q_add rfl ?_
  refine q_sald rfl (by omega) (by omega) ?_
  refine q_ald rfl rfl ?_
  refine q_ild rfl rfl ?_
  refine q_ic rfl ?_
  refine q_add rfl ?_
  refine q_sald rfl (by omega) (by omega) ?_
  refine q_ald rfl rfl ?_
  refine q_ild rfl rfl ?_
  refine q_ic rfl ?_
  refine q_add rfl ?_
  refine q_sald rfl (by omega) (by omega) ?_
  refine q_ald rfl rfl ?_
  refine q_ild rfl rfl ?_
  refine q_ic rfl ?_
  refine q_add rfl ?_
  refine q_sald rfl (by omega) (by omega) ?_
  refine q_ald rfl rfl ?_
  refine q_ild rfl rfl ?_
  refine q_ic rfl ?_
  refine q_add rfl ?_
  refine q_sald rfl (by omega) (by omega) ?_
  refine q_callV (as := [.int (xs (i + 1).toInt.toNat), .int (xs (i + 2).toInt.toNat), .int (xs (i + 3).toInt.toNat), .int (xs (i + 4).toInt.toNat), .int (xs (i + 5).toInt.toNat)]) (rest := []) rfl rfl (k_0 hI) rfl (Nat.le_of_ble_eq_true rfl) (cl_X11_part hI (fun r1 w1 μ1 hc1 => ?_))
  obtain ⟨hI1, hr1, hy1, ho1, hf1⟩ := hc1
  subst hr1
  show dw_ok (pr_law L xs) 1618 bc bs (dw_l1 i u v) [.int w1] μ1
  refine q_pop rfl ?_
  refine q_ald rfl rfl ?_
  refine q_ald rfl rfl ?_
  refine q_ild rfl rfl ?_
  refine q_ic rfl ?_
  refine q_add rfl ?_
  refine q_sald rfl (by omega) (by omega) ?_
  refine q_ald rfl rfl ?_
  refine q_ild rfl rfl ?_
  refine q_ic rfl ?_
  refine q_add rfl ?_
  refine q_sald rfl (by omega) (by omega) ?_
  refine q_ald rfl rfl ?_
  refine q_ild rfl rfl ?_
  refine q_ic rfl ?_
  refine q_add rfl ?_
  refine q_sald rfl (by omega) (by omega) ?_
  refine q_ald rfl rfl ?_
  refine q_ild rfl rfl ?_
  refine q_ic rfl ?_
  refine q_add rfl ?_
  refine q_sald rfl (by omega) (by omega) ?_
  refine q_ald rfl rfl ?_
  refine q_ild rfl rfl ?_
  refine q_ic rfl ?_
  refine q_add rfl ?_
  refine q_sald rfl (by omega) (by omega) ?_
  refine q_callV (as := [.int (xs (i + 1).toInt.toNat), .int (xs (i + 2).toInt.toNat), .int (xs (i + 3).toInt.toNat), .int (xs (i + 4).toInt.toNat), .int (xs (i + 5).toInt.toNat)]) (rest := []) rfl rfl (k_404 hI1) rfl (Nat.le_of_ble_eq_true rfl) (cl_X12_part hI1 (fun r2 w2 μ2 hc2 => ?_))
  obtain ⟨hI2, hr2, hy2, ho2, hf2⟩ := hc2
  subst hr2
  show dw_ok (pr_law L xs) 1653 bc bs (dw_l1 i u v) [.int w2] μ2
  refine q_pop rfl ?_
  refine q_goto rfl ?_
  exact hk _ _ _ _ _ (by omega) (by omega) hI2 ⟨by omega, by omega, by omega⟩ ⟨tr_keep hT.1 ((hf2 2 (by decide)).1.trans (hf1 2 (by decide)).1) ((hf2 405 (by decide)).1.trans (hf1 405 (by decide)).1) hz.1 (by omega) (by omega), mRes_eq hT.2.1 ((hf2 410 (by decide)).2.trans (hf1 410 (by decide)).2), rel_fr (fun a q1 q2 => (hf2 a (rw_out (p := rwS) rfl (rwS_of q1 q2))).1.trans (hf1 a (rw_out (p := rwS) rfl (rwS_of q1 q2))).1) ((hf2 406 (by decide)).1.trans (hf1 406 (by decide)).1) (fun a q => (hf2 a (rw_out (p := rwK) rfl (rwK_of q))).1.trans (hf1 a (rw_out (p := rwK) rfl (rwK_of q))).1) hT.2.2⟩
theorem lw_35 {L : Nat} {xs : Nat → Int32} {i : Int32} {u v : Option Value} {bc bs : Nat} {μ : dw_S} (hI : INV μ) (hz : (μ.2.2.1 1 1).toInt = (μ.2.2.1 404 2).toInt ∧ (μ.2.2.1 210 0).toInt = (μ.2.2.1 433 0).toInt ∧ (μ.2.2.1 307 0).toInt = (μ.2.2.1 433 1).toInt) (hT : tbC μ.2.2.1 = tbL μ.2.2.1 ∧ mRes μ.2.2.2 ∧ REL μ.2.2.1) (h0 : 0 ≤ i.toInt) (h6 : i.toInt + 6 ≤ L) (hL : L ≤ 3072) (hc : 1 ≤ bc) (hs : 6 ≤ bs)
    (hk : ∀ (u v : Option Value) (bc' bs' : Nat) (μ' : dw_S), bc ≤ bc' + 1 → bs ≤ bs' + 6 → INV μ' → ((μ'.2.2.1 1 1).toInt = (μ'.2.2.1 404 2).toInt ∧ (μ'.2.2.1 210 0).toInt = (μ'.2.2.1 433 0).toInt ∧ (μ'.2.2.1 307 0).toInt = (μ'.2.2.1 433 1).toInt) → (tbC μ'.2.2.1 = tbL μ'.2.2.1 ∧ mRes μ'.2.2.2 ∧ REL μ'.2.2.1) → dw_ok (pr_law L xs) 1904 bc' bs' (dw_l1 i u v) [] μ') : dw_ok (pr_law L xs) 1657 bc bs (dw_l1 i u v) [] μ := by
  have e1 : (i + 1).toInt = i.toInt + 1 := by
    have c : (1 : Int32).toInt = 1 := rfl
    rw [i_add (by omega) (by omega), c]
  have e2 : (i + 2).toInt = i.toInt + 2 := by
    have c : (2 : Int32).toInt = 2 := rfl
    rw [i_add (by omega) (by omega), c]
  have e3 : (i + 3).toInt = i.toInt + 3 := by
    have c : (3 : Int32).toInt = 3 := rfl
    rw [i_add (by omega) (by omega), c]
  have e4 : (i + 4).toInt = i.toInt + 4 := by
    have c : (4 : Int32).toInt = 4 := rfl
    rw [i_add (by omega) (by omega), c]
  have e5 : (i + 5).toInt = i.toInt + 5 := by
    have c : (5 : Int32).toInt = 5 := rfl
    rw [i_add (by omega) (by omega), c]
  have hb1 := hb_1 hI
  refine q_ald rfl rfl ?_
  refine q_ald rfl rfl ?_
  refine q_ild rfl rfl ?_
  refine q_ic rfl ?_
  refine q_add rfl ?_
  refine q_sald rfl (by omega) (by omega) ?_
  refine q_ald rfl rfl ?_
  refine q_ild rfl rfl ?_
  refine q_ic rfl ?_
  refine q_add rfl ?_
  refine q_sald rfl (by omega) (by omega) ?_
  refine q_callV (as := [.int (xs (i + 1).toInt.toNat), .int (xs (i + 2).toInt.toNat)]) (rest := []) rfl rfl (k_0 hI) rfl (Nat.le_of_ble_eq_true rfl) (cl_X11_tries hI (fun r1 w1 μ1 hc1 => ?_))
  obtain ⟨hI1, hr1, hy1, ho1, hf1⟩ := hc1
  subst hr1
  show dw_ok (pr_law L xs) 1673 bc bs (dw_l1 i u v) [.int w1] μ1
  refine q_pop rfl ?_
  refine q_ald rfl rfl ?_
  refine q_ald rfl rfl ?_
  refine q_ild rfl rfl ?_
  refine q_ic rfl ?_
  refine q_add rfl ?_
  refine q_sald rfl (by omega) (by omega) ?_
  refine q_ald rfl rfl ?_
  refine q_ild rfl rfl ?_
  refine q_ic rfl ?_
  refine q_add rfl ?_
  refine q_sald rfl (by omega) (by omega) ?_
  refine q_callV (as := [.int (xs (i + 1).toInt.toNat), .int (xs (i + 2).toInt.toNat)]) (rest := []) rfl rfl (k_404 hI1) rfl (Nat.le_of_ble_eq_true rfl) (cl_X12_tries hI1 (fun r2 w2 μ2 hc2 => ?_))
  obtain ⟨hI2, hr2, hy2, ho2, hf2⟩ := hc2
  subst hr2
  show dw_ok (pr_law L xs) 1690 bc bs (dw_l1 i u v) [.int w2] μ2
  refine q_pop rfl ?_
  refine q_goto rfl ?_
  exact hk _ _ _ _ _ (by omega) (by omega) hI2 ⟨by omega, by omega, by omega⟩ ⟨tr_keep hT.1 ((hf2 2 (by decide)).1.trans (hf1 2 (by decide)).1) ((hf2 405 (by decide)).1.trans (hf1 405 (by decide)).1) hz.1 (by omega) (by omega), mRes_eq hT.2.1 ((hf2 410 (by decide)).2.trans (hf1 410 (by decide)).2), rel_fr (fun a q1 q2 => (hf2 a (rw_out (p := rwS) rfl (rwS_of q1 q2))).1.trans (hf1 a (rw_out (p := rwS) rfl (rwS_of q1 q2))).1) ((hf2 406 (by decide)).1.trans (hf1 406 (by decide)).1) (fun a q => (hf2 a (rw_out (p := rwK) rfl (rwK_of q))).1.trans (hf1 a (rw_out (p := rwK) rfl (rwK_of q))).1) hT.2.2⟩
theorem lw_36 {L : Nat} {xs : Nat → Int32} {i : Int32} {u v : Option Value} {bc bs : Nat} {μ : dw_S} (hI : INV μ) (hz : (μ.2.2.1 1 1).toInt = (μ.2.2.1 404 2).toInt ∧ (μ.2.2.1 210 0).toInt = (μ.2.2.1 433 0).toInt ∧ (μ.2.2.1 307 0).toInt = (μ.2.2.1 433 1).toInt) (hT : tbC μ.2.2.1 = tbL μ.2.2.1 ∧ mRes μ.2.2.2 ∧ REL μ.2.2.1) (h0 : 0 ≤ i.toInt) (h6 : i.toInt + 6 ≤ L) (hL : L ≤ 3072) (hc : 1 ≤ bc) (hs : 6 ≤ bs)
    (hk : ∀ (u v : Option Value) (bc' bs' : Nat) (μ' : dw_S), bc ≤ bc' + 1 → bs ≤ bs' + 6 → INV μ' → ((μ'.2.2.1 1 1).toInt = (μ'.2.2.1 404 2).toInt ∧ (μ'.2.2.1 210 0).toInt = (μ'.2.2.1 433 0).toInt ∧ (μ'.2.2.1 307 0).toInt = (μ'.2.2.1 433 1).toInt) → (tbC μ'.2.2.1 = tbL μ'.2.2.1 ∧ mRes μ'.2.2.2 ∧ REL μ'.2.2.1) → dw_ok (pr_law L xs) 1904 bc' bs' (dw_l1 i u v) [] μ') : dw_ok (pr_law L xs) 1694 bc bs (dw_l1 i u v) [] μ := by
  have e1 : (i + 1).toInt = i.toInt + 1 := by
    have c : (1 : Int32).toInt = 1 := rfl
    rw [i_add (by omega) (by omega), c]
  have e2 : (i + 2).toInt = i.toInt + 2 := by
    have c : (2 : Int32).toInt = 2 := rfl
    rw [i_add (by omega) (by omega), c]
  have e3 : (i + 3).toInt = i.toInt + 3 := by
    have c : (3 : Int32).toInt = 3 := rfl
    rw [i_add (by omega) (by omega), c]
  have e4 : (i + 4).toInt = i.toInt + 4 := by
    have c : (4 : Int32).toInt = 4 := rfl
    rw [i_add (by omega) (by omega), c]
  have e5 : (i + 5).toInt = i.toInt + 5 := by
    have c : (5 : Int32).toInt = 5 := rfl
    rw [i_add (by omega) (by omega), c]
  have hb1 := hb_1 hI
  refine q_ald rfl rfl ?_
  refine q_ald rfl rfl ?_
  refine q_ild rfl rfl ?_
  refine q_ic rfl ?_
  refine q_add rfl ?_
  refine q_sald rfl (by omega) (by omega) ?_
  refine q_ald rfl rfl ?_
  refine q_ild rfl rfl ?_
  refine q_ic rfl ?_
  refine q_add rfl ?_
  refine q_sald rfl (by omega) (by omega) ?_
  refine q_callV (as := [.int (xs (i + 1).toInt.toNat), .int (xs (i + 2).toInt.toNat)]) (rest := []) rfl rfl (k_0 hI) rfl (Nat.le_of_ble_eq_true rfl) (cl_X11_hay hI (fun r1 w1 μ1 hc1 => ?_))
  obtain ⟨hI1, hr1, hy1, ho1, hf1⟩ := hc1
  subst hr1
  show dw_ok (pr_law L xs) 1710 bc bs (dw_l1 i u v) [.int w1] μ1
  refine q_pop rfl ?_
  refine q_ald rfl rfl ?_
  refine q_ald rfl rfl ?_
  refine q_ild rfl rfl ?_
  refine q_ic rfl ?_
  refine q_add rfl ?_
  refine q_sald rfl (by omega) (by omega) ?_
  refine q_ald rfl rfl ?_
  refine q_ild rfl rfl ?_
  refine q_ic rfl ?_
  refine q_add rfl ?_
  refine q_sald rfl (by omega) (by omega) ?_
  refine q_callV (as := [.int (xs (i + 1).toInt.toNat), .int (xs (i + 2).toInt.toNat)]) (rest := []) rfl rfl (k_404 hI1) rfl (Nat.le_of_ble_eq_true rfl) (cl_X12_hay hI1 (fun r2 w2 μ2 hc2 => ?_))
  obtain ⟨hI2, hr2, hy2, ho2, hf2⟩ := hc2
  subst hr2
  show dw_ok (pr_law L xs) 1727 bc bs (dw_l1 i u v) [.int w2] μ2
  refine q_pop rfl ?_
  refine q_goto rfl ?_
  exact hk _ _ _ _ _ (by omega) (by omega) hI2 ⟨by omega, by omega, by omega⟩ ⟨tr_keep hT.1 ((hf2 2 (by decide)).1.trans (hf1 2 (by decide)).1) ((hf2 405 (by decide)).1.trans (hf1 405 (by decide)).1) hz.1 (by omega) (by omega), mRes_eq hT.2.1 ((hf2 410 (by decide)).2.trans (hf1 410 (by decide)).2), rel_fr (fun a q1 q2 => (hf2 a (rw_out (p := rwS) rfl (rwS_of q1 q2))).1.trans (hf1 a (rw_out (p := rwS) rfl (rwS_of q1 q2))).1) ((hf2 406 (by decide)).1.trans (hf1 406 (by decide)).1) (fun a q => (hf2 a (rw_out (p := rwK) rfl (rwK_of q))).1.trans (hf1 a (rw_out (p := rwK) rfl (rwK_of q))).1) hT.2.2⟩
theorem lw_37 {L : Nat} {xs : Nat → Int32} {i : Int32} {u v : Option Value} {bc bs : Nat} {μ : dw_S} (hI : INV μ) (hz : (μ.2.2.1 1 1).toInt = (μ.2.2.1 404 2).toInt ∧ (μ.2.2.1 210 0).toInt = (μ.2.2.1 433 0).toInt ∧ (μ.2.2.1 307 0).toInt = (μ.2.2.1 433 1).toInt) (hT : tbC μ.2.2.1 = tbL μ.2.2.1 ∧ mRes μ.2.2.2 ∧ REL μ.2.2.1) (h0 : 0 ≤ i.toInt) (h6 : i.toInt + 6 ≤ L) (hL : L ≤ 3072) (hc : 1 ≤ bc) (hs : 6 ≤ bs)
    (hk : ∀ (u v : Option Value) (bc' bs' : Nat) (μ' : dw_S), bc ≤ bc' + 1 → bs ≤ bs' + 6 → INV μ' → ((μ'.2.2.1 1 1).toInt = (μ'.2.2.1 404 2).toInt ∧ (μ'.2.2.1 210 0).toInt = (μ'.2.2.1 433 0).toInt ∧ (μ'.2.2.1 307 0).toInt = (μ'.2.2.1 433 1).toInt) → (tbC μ'.2.2.1 = tbL μ'.2.2.1 ∧ mRes μ'.2.2.2 ∧ REL μ'.2.2.1) → dw_ok (pr_law L xs) 1904 bc' bs' (dw_l1 i u v) [] μ') : dw_ok (pr_law L xs) 1731 bc bs (dw_l1 i u v) [] μ := by
  have e1 : (i + 1).toInt = i.toInt + 1 := by
    have c : (1 : Int32).toInt = 1 := rfl
    rw [i_add (by omega) (by omega), c]
  have e2 : (i + 2).toInt = i.toInt + 2 := by
    have c : (2 : Int32).toInt = 2 := rfl
    rw [i_add (by omega) (by omega), c]
  have e3 : (i + 3).toInt = i.toInt + 3 := by
    have c : (3 : Int32).toInt = 3 := rfl
    rw [i_add (by omega) (by omega), c]
  have e4 : (i + 4).toInt = i.toInt + 4 := by
    have c : (4 : Int32).toInt = 4 := rfl
    rw [i_add (by omega) (by omega), c]
  have e5 : (i + 5).toInt = i.toInt + 5 := by
    have c : (5 : Int32).toInt = 5 := rfl
    rw [i_add (by omega) (by omega), c]
  have hb1 := hb_1 hI
  refine q_ald rfl rfl ?_
  refine q_ald rfl rfl ?_
  refine q_ild rfl rfl ?_
  refine q_ic rfl ?_
  refine q_add rfl ?_
  refine q_sald rfl (by omega) (by omega) ?_
  refine q_ald rfl rfl ?_
  refine q_ild rfl rfl ?_
  refine q_ic rfl ?_
  refine q_add rfl ?_
  refine q_sald rfl (by omega) (by omega) ?_
  refine q_ald rfl rfl ?_
  refine q_ild rfl rfl ?_
  refine q_ic rfl ?_
  refine q_add rfl ?_
  refine q_sald rfl (by omega) (by omega) ?_
  refine q_ald rfl rfl ?_
  refine q_ild rfl rfl ?_
  refine q_ic rfl ?_
  refine q_add rfl ?_
  refine q_sald rfl (by omega) (by omega) ?_
  refine q_ald rfl rfl ?_
  refine q_ild rfl rfl ?_
  refine q_ic rfl ?_
  refine q_add rfl ?_
  refine q_sald rfl (by omega) (by omega) ?_
  refine q_callV (as := [.int (xs (i + 1).toInt.toNat), .int (xs (i + 2).toInt.toNat), .int (xs (i + 3).toInt.toNat), .int (xs (i + 4).toInt.toNat), .int (xs (i + 5).toInt.toNat)]) (rest := []) rfl rfl (k_0 hI) rfl (Nat.le_of_ble_eq_true rfl) (cl_X11_drawn hI (fun r1 w1 μ1 hc1 => ?_))
  obtain ⟨hI1, hr1, hy1, ho1, hf1⟩ := hc1
  subst hr1
  show dw_ok (pr_law L xs) 1765 bc bs (dw_l1 i u v) [.int w1] μ1
  refine q_pop rfl ?_
  refine q_ald rfl rfl ?_
  refine q_ald rfl rfl ?_
  refine q_ild rfl rfl ?_
  refine q_ic rfl ?_
  refine q_add rfl ?_
  refine q_sald rfl (by omega) (by omega) ?_
  refine q_ald rfl rfl ?_
  refine q_ild rfl rfl ?_
  refine q_ic rfl ?_
  refine q_add rfl ?_
  refine q_sald rfl (by omega) (by omega) ?_
  refine q_ald rfl rfl ?_
  refine q_ild rfl rfl ?_
  refine q_ic rfl ?_
  refine q_add rfl ?_
  refine q_sald rfl (by omega) (by omega) ?_
  refine q_ald rfl rfl ?_
  refine q_ild rfl rfl ?_
  refine q_ic rfl ?_
  refine q_add rfl ?_
  refine q_sald rfl (by omega) (by omega) ?_
  refine q_ald rfl rfl ?_
  refine q_ild rfl rfl ?_
  refine q_ic rfl ?_
  refine q_add rfl ?_
  refine q_sald rfl (by omega) (by omega) ?_
  refine q_callV (as := [.int (xs (i + 1).toInt.toNat), .int (xs (i + 2).toInt.toNat), .int (xs (i + 3).toInt.toNat), .int (xs (i + 4).toInt.toNat), .int (xs (i + 5).toInt.toNat)]) (rest := []) rfl rfl (k_404 hI1) rfl (Nat.le_of_ble_eq_true rfl) (cl_X12_drawn hI1 (fun r2 w2 μ2 hc2 => ?_))
  obtain ⟨hI2, hr2, hy2, ho2, hf2⟩ := hc2
  subst hr2
  show dw_ok (pr_law L xs) 1800 bc bs (dw_l1 i u v) [.int w2] μ2
  refine q_pop rfl ?_
  refine q_goto rfl ?_
  exact hk _ _ _ _ _ (by omega) (by omega) hI2 ⟨by omega, by omega, by omega⟩ ⟨tr_keep hT.1 ((hf2 2 (by decide)).1.trans (hf1 2 (by decide)).1) ((hf2 405 (by decide)).1.trans (hf1 405 (by decide)).1) hz.1 (by omega) (by omega), mRes_eq hT.2.1 ((hf2 410 (by decide)).2.trans (hf1 410 (by decide)).2), rel_fr (fun a q1 q2 => (hf2 a (rw_out (p := rwS) rfl (rwS_of q1 q2))).1.trans (hf1 a (rw_out (p := rwS) rfl (rwS_of q1 q2))).1) ((hf2 406 (by decide)).1.trans (hf1 406 (by decide)).1) (fun a q => (hf2 a (rw_out (p := rwK) rfl (rwK_of q))).1.trans (hf1 a (rw_out (p := rwK) rfl (rwK_of q))).1) hT.2.2⟩
theorem lw_38 {L : Nat} {xs : Nat → Int32} {i : Int32} {u v : Option Value} {bc bs : Nat} {μ : dw_S} (hI : INV μ) (hz : (μ.2.2.1 1 1).toInt = (μ.2.2.1 404 2).toInt ∧ (μ.2.2.1 210 0).toInt = (μ.2.2.1 433 0).toInt ∧ (μ.2.2.1 307 0).toInt = (μ.2.2.1 433 1).toInt) (hT : tbC μ.2.2.1 = tbL μ.2.2.1 ∧ mRes μ.2.2.2 ∧ REL μ.2.2.1) (h0 : 0 ≤ i.toInt) (h6 : i.toInt + 6 ≤ L) (hL : L ≤ 3072) (hc : 1 ≤ bc) (hs : 6 ≤ bs)
    (hk : ∀ (u v : Option Value) (bc' bs' : Nat) (μ' : dw_S), bc ≤ bc' + 1 → bs ≤ bs' + 6 → INV μ' → ((μ'.2.2.1 1 1).toInt = (μ'.2.2.1 404 2).toInt ∧ (μ'.2.2.1 210 0).toInt = (μ'.2.2.1 433 0).toInt ∧ (μ'.2.2.1 307 0).toInt = (μ'.2.2.1 433 1).toInt) → (tbC μ'.2.2.1 = tbL μ'.2.2.1 ∧ mRes μ'.2.2.2 ∧ REL μ'.2.2.1) → dw_ok (pr_law L xs) 1904 bc' bs' (dw_l1 i u v) [] μ') : dw_ok (pr_law L xs) 1804 bc bs (dw_l1 i u v) [] μ := by
  have e1 : (i + 1).toInt = i.toInt + 1 := by
    have c : (1 : Int32).toInt = 1 := rfl
    rw [i_add (by omega) (by omega), c]
  have e2 : (i + 2).toInt = i.toInt + 2 := by
    have c : (2 : Int32).toInt = 2 := rfl
    rw [i_add (by omega) (by omega), c]
  have e3 : (i + 3).toInt = i.toInt + 3 := by
    have c : (3 : Int32).toInt = 3 := rfl
    rw [i_add (by omega) (by omega), c]
  have e4 : (i + 4).toInt = i.toInt + 4 := by
    have c : (4 : Int32).toInt = 4 := rfl
    rw [i_add (by omega) (by omega), c]
  have e5 : (i + 5).toInt = i.toInt + 5 := by
    have c : (5 : Int32).toInt = 5 := rfl
    rw [i_add (by omega) (by omega), c]
  have hb1 := hb_1 hI
  refine q_ald rfl rfl ?_
  refine q_ald rfl rfl ?_
  refine q_ild rfl rfl ?_
  refine q_ic rfl ?_
  refine q_add rfl ?_
  refine q_sald rfl (by omega) (by omega) ?_
  refine q_callV (as := [.int (xs (i + 1).toInt.toNat)]) (rest := []) rfl rfl (k_0 hI) rfl (Nat.le_of_ble_eq_true rfl) (cl_X11_drawnBy hI (fun r1 w1 μ1 hc1 => ?_))
  obtain ⟨hI1, hr1, hy1, ho1, hf1⟩ := hc1
  subst hr1
  show dw_ok (pr_law L xs) 1814 bc bs (dw_l1 i u v) [.int w1] μ1
  refine q_pop rfl ?_
  refine q_ald rfl rfl ?_
  refine q_ald rfl rfl ?_
  refine q_ild rfl rfl ?_
  refine q_ic rfl ?_
  refine q_add rfl ?_
  refine q_sald rfl (by omega) (by omega) ?_
  refine q_callV (as := [.int (xs (i + 1).toInt.toNat)]) (rest := []) rfl rfl (k_404 hI1) rfl (Nat.le_of_ble_eq_true rfl) (cl_X12_drawnBy hI1 (fun r2 w2 μ2 hc2 => ?_))
  obtain ⟨hI2, hr2, hy2, ho2, hf2⟩ := hc2
  subst hr2
  show dw_ok (pr_law L xs) 1825 bc bs (dw_l1 i u v) [.int w2] μ2
  refine q_pop rfl ?_
  refine q_goto rfl ?_
  exact hk _ _ _ _ _ (by omega) (by omega) hI2 ⟨by omega, by omega, by omega⟩ ⟨tr_keep hT.1 ((hf2 2 (by decide)).1.trans (hf1 2 (by decide)).1) ((hf2 405 (by decide)).1.trans (hf1 405 (by decide)).1) hz.1 (by omega) (by omega), mRes_eq hT.2.1 ((hf2 410 (by decide)).2.trans (hf1 410 (by decide)).2), rel_fr (fun a q1 q2 => (hf2 a (rw_out (p := rwS) rfl (rwS_of q1 q2))).1.trans (hf1 a (rw_out (p := rwS) rfl (rwS_of q1 q2))).1) ((hf2 406 (by decide)).1.trans (hf1 406 (by decide)).1) (fun a q => (hf2 a (rw_out (p := rwK) rfl (rwK_of q))).1.trans (hf1 a (rw_out (p := rwK) rfl (rwK_of q))).1) hT.2.2⟩
theorem lw_39 {L : Nat} {xs : Nat → Int32} {i : Int32} {u v : Option Value} {bc bs : Nat} {μ : dw_S} (hI : INV μ) (hz : (μ.2.2.1 1 1).toInt = (μ.2.2.1 404 2).toInt ∧ (μ.2.2.1 210 0).toInt = (μ.2.2.1 433 0).toInt ∧ (μ.2.2.1 307 0).toInt = (μ.2.2.1 433 1).toInt) (hT : tbC μ.2.2.1 = tbL μ.2.2.1 ∧ mRes μ.2.2.2 ∧ REL μ.2.2.1) (h0 : 0 ≤ i.toInt) (h6 : i.toInt + 6 ≤ L) (hL : L ≤ 3072) (hc : 1 ≤ bc) (hs : 6 ≤ bs)
    (hk : ∀ (u v : Option Value) (bc' bs' : Nat) (μ' : dw_S), bc ≤ bc' + 1 → bs ≤ bs' + 6 → INV μ' → ((μ'.2.2.1 1 1).toInt = (μ'.2.2.1 404 2).toInt ∧ (μ'.2.2.1 210 0).toInt = (μ'.2.2.1 433 0).toInt ∧ (μ'.2.2.1 307 0).toInt = (μ'.2.2.1 433 1).toInt) → (tbC μ'.2.2.1 = tbL μ'.2.2.1 ∧ mRes μ'.2.2.2 ∧ REL μ'.2.2.1) → dw_ok (pr_law L xs) 1904 bc' bs' (dw_l1 i u v) [] μ') : dw_ok (pr_law L xs) 1829 bc bs (dw_l1 i u v) [] μ := by
  have e1 : (i + 1).toInt = i.toInt + 1 := by
    have c : (1 : Int32).toInt = 1 := rfl
    rw [i_add (by omega) (by omega), c]
  have e2 : (i + 2).toInt = i.toInt + 2 := by
    have c : (2 : Int32).toInt = 2 := rfl
    rw [i_add (by omega) (by omega), c]
  have e3 : (i + 3).toInt = i.toInt + 3 := by
    have c : (3 : Int32).toInt = 3 := rfl
    rw [i_add (by omega) (by omega), c]
  have e4 : (i + 4).toInt = i.toInt + 4 := by
    have c : (4 : Int32).toInt = 4 := rfl
    rw [i_add (by omega) (by omega), c]
  have e5 : (i + 5).toInt = i.toInt + 5 := by
    have c : (5 : Int32).toInt = 5 := rfl
    rw [i_add (by omega) (by omega), c]
  have hb1 := hb_1 hI
  refine q_ald rfl rfl ?_
  refine q_ald rfl rfl ?_
  refine q_ild rfl rfl ?_
  refine q_ic rfl ?_
  refine q_add rfl ?_
  refine q_sald rfl (by omega) (by omega) ?_
  refine q_callV (as := [.int (xs (i + 1).toInt.toNat)]) (rest := []) rfl rfl (k_0 hI) rfl (Nat.le_of_ble_eq_true rfl) (cr_X11_image hI (fun r1 w1 μ1 hc1 hq1 => ?_))
  obtain ⟨hI1, hr1, hy1, ho1, hf1⟩ := hc1
  subst hr1
  show dw_ok (pr_law L xs) 1839 bc bs (dw_l1 i u v) [.int w1] μ1
  refine q_pop rfl ?_
  refine q_ald rfl rfl ?_
  refine q_ald rfl rfl ?_
  refine q_ild rfl rfl ?_
  refine q_ic rfl ?_
  refine q_add rfl ?_
  refine q_sald rfl (by omega) (by omega) ?_
  refine q_callV (as := [.int (xs (i + 1).toInt.toNat)]) (rest := []) rfl rfl (k_404 hI1) rfl (Nat.le_of_ble_eq_true rfl) (cr_X12_image hI1 (fun r2 w2 μ2 hc2 hq2 => ?_))
  obtain ⟨hI2, hr2, hy2, ho2, hf2⟩ := hc2
  obtain ⟨hre, hew⟩ := rel_image hT.2.2 hq1 hq2 ((hf2 406 (by decide)).1.trans (hf1 406 (by decide)).1) (hf1 406 (by decide)).1 (hf1 432 (by decide)).1 (hf1 433 (by decide)).1 (fun a q1 q2 => (hf2 a (rw_out (p := rwA) rfl (rwA_of q1 q2))).1)
  subst hr2
  show dw_ok (pr_law L xs) 1850 bc bs (dw_l1 i u v) [.int w2] μ2
  refine q_pop rfl ?_
  refine q_goto rfl ?_
  exact hk _ _ _ _ _ (by omega) (by omega) hI2 ⟨by omega, by omega, by omega⟩ ⟨tr_keep hT.1 ((hf2 2 (by decide)).1.trans (hf1 2 (by decide)).1) ((hf2 405 (by decide)).1.trans (hf1 405 (by decide)).1) hz.1 (by omega) (by omega), mRes_eq hT.2.1 ((hf2 410 (by decide)).2.trans (hf1 410 (by decide)).2), hre⟩
theorem lw_40 {L : Nat} {xs : Nat → Int32} {i : Int32} {u v : Option Value} {bc bs : Nat} {μ : dw_S} (hI : INV μ) (hz : (μ.2.2.1 1 1).toInt = (μ.2.2.1 404 2).toInt ∧ (μ.2.2.1 210 0).toInt = (μ.2.2.1 433 0).toInt ∧ (μ.2.2.1 307 0).toInt = (μ.2.2.1 433 1).toInt) (hT : tbC μ.2.2.1 = tbL μ.2.2.1 ∧ mRes μ.2.2.2 ∧ REL μ.2.2.1) (h0 : 0 ≤ i.toInt) (h6 : i.toInt + 6 ≤ L) (hL : L ≤ 3072) (hc : 1 ≤ bc) (hs : 6 ≤ bs)
    (hk : ∀ (u v : Option Value) (bc' bs' : Nat) (μ' : dw_S), bc ≤ bc' + 1 → bs ≤ bs' + 6 → INV μ' → ((μ'.2.2.1 1 1).toInt = (μ'.2.2.1 404 2).toInt ∧ (μ'.2.2.1 210 0).toInt = (μ'.2.2.1 433 0).toInt ∧ (μ'.2.2.1 307 0).toInt = (μ'.2.2.1 433 1).toInt) → (tbC μ'.2.2.1 = tbL μ'.2.2.1 ∧ mRes μ'.2.2.2 ∧ REL μ'.2.2.1) → dw_ok (pr_law L xs) 1904 bc' bs' (dw_l1 i u v) [] μ') : dw_ok (pr_law L xs) 1854 bc bs (dw_l1 i u v) [] μ := by
  have e1 : (i + 1).toInt = i.toInt + 1 := by
    have c : (1 : Int32).toInt = 1 := rfl
    rw [i_add (by omega) (by omega), c]
  have e2 : (i + 2).toInt = i.toInt + 2 := by
    have c : (2 : Int32).toInt = 2 := rfl
    rw [i_add (by omega) (by omega), c]
  have e3 : (i + 3).toInt = i.toInt + 3 := by
    have c : (3 : Int32).toInt = 3 := rfl
    rw [i_add (by omega) (by omega), c]
  have e4 : (i + 4).toInt = i.toInt + 4 := by
    have c : (4 : Int32).toInt = 4 := rfl
    rw [i_add (by omega) (by omega), c]
  have e5 : (i + 5).toInt = i.toInt + 5 := by
    have c : (5 : Int32).toInt = 5 := rfl
    rw [i_add (by omega) (by omega), c]
  have hb1 := hb_1 hI
  refine q_ald rfl rfl ?_
  refine q_ald rfl rfl ?_
  refine q_ild rfl rfl ?_
  refine q_ic rfl ?_
  refine q_add rfl ?_
  refine q_sald rfl (by omega) (by omega) ?_
  refine q_callV (as := [.int (xs (i + 1).toInt.toNat)]) (rest := []) rfl rfl (k_0 hI) rfl (Nat.le_of_ble_eq_true rfl) (cr_X11_restore hI (fun r1 w1 μ1 hc1 hq1 => ?_))
  obtain ⟨hI1, hr1, hy1, ho1, hf1⟩ := hc1
  subst hr1
  show dw_ok (pr_law L xs) 1864 bc bs (dw_l1 i u v) [.int w1] μ1
  refine q_pop rfl ?_
  refine q_ald rfl rfl ?_
  refine q_ald rfl rfl ?_
  refine q_ild rfl rfl ?_
  refine q_ic rfl ?_
  refine q_add rfl ?_
  refine q_sald rfl (by omega) (by omega) ?_
  refine q_callV (as := [.int (xs (i + 1).toInt.toNat)]) (rest := []) rfl rfl (k_404 hI1) rfl (Nat.le_of_ble_eq_true rfl) (cr_X12_restore hI1 (fun r2 w2 μ2 hc2 hq2 => ?_))
  obtain ⟨hI2, hr2, hy2, ho2, hf2⟩ := hc2
  obtain ⟨hre, hew⟩ := rel_rest hT.2.2 hz.2 hq1 hq2 (hf1 406 (by decide)).1 (hf1 432 (by decide)).1 (hf1 433 (by decide)).1 (fun a q1 q2 => (hf2 a (rw_out (p := rwA) rfl (rwA_of q1 q2))).1) (hf2 432 (by decide)).1 (hf2 433 (by decide)).1
  subst hr2
  show dw_ok (pr_law L xs) 1875 bc bs (dw_l1 i u v) [.int w2] μ2
  refine q_pop rfl ?_
  refine q_goto rfl ?_
  exact hk _ _ _ _ _ (by omega) (by omega) hI2 ⟨by omega, by omega, by omega⟩ ⟨tr_keep hT.1 ((hf2 2 (by decide)).1.trans (hf1 2 (by decide)).1) ((hf2 405 (by decide)).1.trans (hf1 405 (by decide)).1) hz.1 (by omega) (by omega), mRes_eq hT.2.1 ((hf2 410 (by decide)).2.trans (hf1 410 (by decide)).2), hre⟩
theorem lw_41 {L : Nat} {xs : Nat → Int32} {i : Int32} {u v : Option Value} {bc bs : Nat} {μ : dw_S} (hI : INV μ) (hz : (μ.2.2.1 1 1).toInt = (μ.2.2.1 404 2).toInt ∧ (μ.2.2.1 210 0).toInt = (μ.2.2.1 433 0).toInt ∧ (μ.2.2.1 307 0).toInt = (μ.2.2.1 433 1).toInt) (hT : tbC μ.2.2.1 = tbL μ.2.2.1 ∧ mRes μ.2.2.2 ∧ REL μ.2.2.1) (h0 : 0 ≤ i.toInt) (h6 : i.toInt + 6 ≤ L) (hL : L ≤ 3072) (hc : 1 ≤ bc) (hs : 6 ≤ bs)
    (hk : ∀ (u v : Option Value) (bc' bs' : Nat) (μ' : dw_S), bc ≤ bc' + 1 → bs ≤ bs' + 6 → INV μ' → ((μ'.2.2.1 1 1).toInt = (μ'.2.2.1 404 2).toInt ∧ (μ'.2.2.1 210 0).toInt = (μ'.2.2.1 433 0).toInt ∧ (μ'.2.2.1 307 0).toInt = (μ'.2.2.1 433 1).toInt) → (tbC μ'.2.2.1 = tbL μ'.2.2.1 ∧ mRes μ'.2.2.2 ∧ REL μ'.2.2.1) → dw_ok (pr_law L xs) 1904 bc' bs' (dw_l1 i u v) [] μ') : dw_ok (pr_law L xs) 1879 bc bs (dw_l1 i u v) [] μ := by
  have e1 : (i + 1).toInt = i.toInt + 1 := by
    have c : (1 : Int32).toInt = 1 := rfl
    rw [i_add (by omega) (by omega), c]
  have e2 : (i + 2).toInt = i.toInt + 2 := by
    have c : (2 : Int32).toInt = 2 := rfl
    rw [i_add (by omega) (by omega), c]
  have e3 : (i + 3).toInt = i.toInt + 3 := by
    have c : (3 : Int32).toInt = 3 := rfl
    rw [i_add (by omega) (by omega), c]
  have e4 : (i + 4).toInt = i.toInt + 4 := by
    have c : (4 : Int32).toInt = 4 := rfl
    rw [i_add (by omega) (by omega), c]
  have e5 : (i + 5).toInt = i.toInt + 5 := by
    have c : (5 : Int32).toInt = 5 := rfl
    rw [i_add (by omega) (by omega), c]
  have hb1 := hb_1 hI
  refine q_ald rfl rfl ?_
  refine q_ald rfl rfl ?_
  refine q_ild rfl rfl ?_
  refine q_ic rfl ?_
  refine q_add rfl ?_
  refine q_sald rfl (by omega) (by omega) ?_
  refine q_callV (as := [.int (xs (i + 1).toInt.toNat)]) (rest := []) rfl rfl (k_0 hI) rfl (Nat.le_of_ble_eq_true rfl) (cr_X11_count hI hT.2.2.1 (fun r1 w1 μ1 hc1 hq1 => ?_))
  obtain ⟨hI1, hr1, hy1, ho1, hf1⟩ := hc1
  subst hr1
  show dw_ok (pr_law L xs) 1889 bc bs (dw_l1 i u v) [.int w1] μ1
  refine q_ald rfl rfl ?_
  refine q_ald rfl rfl ?_
  refine q_ild rfl rfl ?_
  refine q_ic rfl ?_
  refine q_add rfl ?_
  refine q_sald rfl (by omega) (by omega) ?_
  refine q_callV (as := [.int (xs (i + 1).toInt.toNat)]) (rest := [.int w1]) rfl rfl (k_404 hI1) rfl (Nat.le_of_ble_eq_true rfl) (cr_X12_count hI1 (hf1 406 (by decide)).1 hT.2.2.1.1 (nok_s hT.2.2.1) (fun r2 w2 μ2 hc2 hq2 => ?_))
  obtain ⟨hI2, hr2, hy2, ho2, hf2⟩ := hc2
  subst hr2
  show dw_ok (pr_law L xs) 1899 bc bs (dw_l1 i u v) [.int w2, .int w1] μ2
  have ew : w1.toInt = w2.toInt := by rw [hq1, hq2, show (μ1.2.2.1 404 2).toInt = (μ.2.2.1 1 1).toInt by omega]
  refine q_icmp (c := 0) rfl (by decide) (fun _ => ?_) (fun hne => absurd (show w1.toInt = w2.toInt by omega) hne)
  exact hk _ _ _ _ _ (by omega) (by omega) hI2 ⟨by omega, by omega, by omega⟩ ⟨tr_keep hT.1 ((hf2 2 (by decide)).1.trans (hf1 2 (by decide)).1) ((hf2 405 (by decide)).1.trans (hf1 405 (by decide)).1) hz.1 (by omega) (by omega), mRes_eq hT.2.1 ((hf2 410 (by decide)).2.trans (hf1 410 (by decide)).2), rel_fr (fun a q1 q2 => (hf2 a (rw_out (p := rwS) rfl (rwS_of q1 q2))).1.trans (hf1 a (rw_out (p := rwS) rfl (rwS_of q1 q2))).1) ((hf2 406 (by decide)).1.trans (hf1 406 (by decide)).1) (fun a q => (hf2 a (rw_out (p := rwK) rfl (rwK_of q))).1.trans (hf1 a (rw_out (p := rwK) rfl (rwK_of q))).1) hT.2.2⟩
theorem law_loop {L : Nat} {xs : Nat → Int32} (hL : L ≤ 3072) : ∀ (n : Nat) (i : Int32) (u v : Option Value) (bc bs : Nat) (μ : dw_S), INV μ → ((μ.2.2.1 1 1).toInt = (μ.2.2.1 404 2).toInt ∧ (μ.2.2.1 210 0).toInt = (μ.2.2.1 433 0).toInt ∧ (μ.2.2.1 307 0).toInt = (μ.2.2.1 433 1).toInt) → (tbC μ.2.2.1 = tbL μ.2.2.1 ∧ mRes μ.2.2.2 ∧ REL μ.2.2.1) → 0 ≤ i.toInt → (L : Int) - i.toInt ≤ 6 * (n : Int) + 5 → n ≤ bc → 6 * n ≤ bs → dw_ok (pr_law L xs) 23 bc bs (dw_l1 i u v) [] μ := by
  have cL : (Int32.ofNat L).toInt = L := Int32.toInt_ofNat_of_lt (by omega)
  have c6 : (6 : Int32).toInt = 6 := rfl
  have eL : (Int32.ofNat L - 6).toInt = (L : Int) - 6 := by rw [i_sub (by omega) (by omega), cL, c6]
  intro n
  induction n with
  | zero =>
    intro i u v bc bs μ hI hz hT h0 h1 _ _
    refine q_ild rfl rfl ?_
    refine q_ald rfl rfl ?_
    refine q_slen rfl ?_
    refine q_ic rfl ?_
    refine q_sub rfl ?_
    refine q_icmp (c := 4) rfl (by decide) (fun _ => ?_) (fun h => absurd (show i.toInt ≤ (Int32.ofNat L - 6).toInt from h) (by omega))
    refine q_ic rfl ?_
    exact q_lret rfl
  | succ n ih =>
    intro i u v bc bs μ hI hz hT h0 h1 hbc hbs
    refine q_ild rfl rfl ?_
    refine q_ald rfl rfl ?_
    refine q_slen rfl ?_
    refine q_ic rfl ?_
    refine q_sub rfl ?_
    refine q_icmp (c := 4) rfl (by decide) (fun _ => ?_) (fun h => ?_)
    · refine q_ic rfl ?_
      exact q_lret rfl
    have h6 : i.toInt ≤ (Int32.ofNat L - 6).toInt := h
    have h6' : i.toInt + 6 ≤ L := by omega
    have ei : (i + 6).toInt = i.toInt + 6 := by rw [i_add (by omega) (by omega), c6]
    have hk : ∀ (u v : Option Value) (bc' bs' : Nat) (μ' : dw_S), bc ≤ bc' + 1 → bs ≤ bs' + 6 → INV μ' → ((μ'.2.2.1 1 1).toInt = (μ'.2.2.1 404 2).toInt ∧ (μ'.2.2.1 210 0).toInt = (μ'.2.2.1 433 0).toInt ∧ (μ'.2.2.1 307 0).toInt = (μ'.2.2.1 433 1).toInt) → (tbC μ'.2.2.1 = tbL μ'.2.2.1 ∧ mRes μ'.2.2.2 ∧ REL μ'.2.2.1) → dw_ok (pr_law L xs) 1904 bc' bs' (dw_l1 i u v) [] μ' := by
      intro u v bc' bs' μ' q1 q2 q3 q4 q5
      refine q_inc rfl rfl rfl ?_
      refine q_goto rfl ?_
      exact ih (i + 6) u v bc' bs' μ' q3 q4 q5 (by omega) (by omega) (by omega) (by omega)
    have b1 : 1 ≤ bc := by omega
    have b6 : 6 ≤ bs := by omega
    refine q_ald rfl rfl ?_
    refine q_ild rfl rfl ?_
    refine q_sald rfl h0 (by omega) ?_
    refine q_ic rfl ?_
    refine q_and rfl ?_
    refine q_tab rfl (fun _ => hk u v bc bs μ (by omega) (by omega) hI hz hT) (fun hr => ?_)
    obtain ⟨k, hk2⟩ : ∃ k, ((xs i.toInt.toNat &&& 63).toInt - 0).toNat = k := ⟨_, rfl⟩
    rw [hk2]
    have hk3 : k < 42 := by omega
    match k, hk3 with
    | 0, _ => exact ⟨224, rfl, lw_0 hI hz hT h0 h6' hL b1 b6 hk⟩
    | 1, _ => exact ⟨297, rfl, lw_1 hI hz hT h0 h6' hL b1 b6 hk⟩
    | 2, _ => exact ⟨322, rfl, lw_2 hI hz hT h0 h6' hL b1 b6 hk⟩
    | 3, _ => exact ⟨335, rfl, lw_3 hI hz hT h0 h6' hL b1 b6 hk⟩
    | 4, _ => exact ⟨348, rfl, lw_4 hI hz hT h0 h6' hL b1 b6 hk⟩
    | 5, _ => exact ⟨400, rfl, lw_5 hI hz hT h0 h6' hL b1 b6 hk⟩
    | 6, _ => exact ⟨425, rfl, lw_6 hI hz hT h0 h6' hL b1 b6 hk⟩
    | 7, _ => exact ⟨474, rfl, lw_7 hI hz hT h0 h6' hL b1 b6 hk⟩
    | 8, _ => exact ⟨499, rfl, lw_8 hI hz hT h0 h6' hL b1 b6 hk⟩
    | 9, _ => exact ⟨524, rfl, lw_9 hI hz hT h0 h6' hL b1 b6 hk⟩
    | 10, _ => exact ⟨576, rfl, lw_10 hI hz hT h0 h6' hL b1 b6 hk⟩
    | 11, _ => exact ⟨601, rfl, lw_11 hI hz hT h0 h6' hL b1 b6 hk⟩
    | 12, _ => exact ⟨614, rfl, lw_12 hI hz hT h0 h6' hL b1 b6 hk⟩
    | 13, _ => exact ⟨639, rfl, lw_13 hI hz hT h0 h6' hL b1 b6 hk⟩
    | 14, _ => exact ⟨664, rfl, lw_14 hI hz hT h0 h6' hL b1 b6 hk⟩
    | 15, _ => exact ⟨725, rfl, lw_15 hI hz hT h0 h6' hL b1 b6 hk⟩
    | 16, _ => exact ⟨774, rfl, lw_16 hI hz hT h0 h6' hL b1 b6 hk⟩
    | 17, _ => exact ⟨823, rfl, lw_17 hI hz hT h0 h6' hL b1 b6 hk⟩
    | 18, _ => exact ⟨872, rfl, lw_18 hI hz hT h0 h6' hL b1 b6 hk⟩
    | 19, _ => exact ⟨921, rfl, lw_19 hI hz hT h0 h6' hL b1 b6 hk⟩
    | 20, _ => exact ⟨970, rfl, lw_20 hI hz hT h0 h6' hL b1 b6 hk⟩
    | 21, _ => exact ⟨1007, rfl, lw_21 hI hz hT h0 h6' hL b1 b6 hk⟩
    | 22, _ => exact ⟨1056, rfl, lw_22 hI hz hT h0 h6' hL b1 b6 hk⟩
    | 23, _ => exact ⟨1117, rfl, lw_23 hI hz hT h0 h6' hL b1 b6 hk⟩
    | 24, _ => exact ⟨1178, rfl, lw_24 hI hz hT h0 h6' hL b1 b6 hk⟩
    | 25, _ => exact ⟨1215, rfl, lw_25 hI hz hT h0 h6' hL b1 b6 hk⟩
    | 26, _ => exact ⟨1252, rfl, lw_26 hI hz hT h0 h6' hL b1 b6 hk⟩
    | 27, _ => exact ⟨1265, rfl, lw_27 hI hz hT h0 h6' hL b1 b6 hk⟩
    | 28, _ => exact ⟨1290, rfl, lw_28 hI hz hT h0 h6' hL b1 b6 hk⟩
    | 29, _ => exact ⟨1351, rfl, lw_29 hI hz hT h0 h6' hL b1 b6 hk⟩
    | 30, _ => exact ⟨1376, rfl, lw_30 hI hz hT h0 h6' hL b1 b6 hk⟩
    | 31, _ => exact ⟨1425, rfl, lw_31 hI hz hT h0 h6' hL b1 b6 hk⟩
    | 32, _ => exact ⟨1462, rfl, lw_32 hI hz hT h0 h6' hL b1 b6 hk⟩
    | 33, _ => exact ⟨1511, rfl, lw_33 hI hz hT h0 h6' hL b1 b6 hk⟩
    | 34, _ => exact ⟨1584, rfl, lw_34 hI hz hT h0 h6' hL b1 b6 hk⟩
    | 35, _ => exact ⟨1657, rfl, lw_35 hI hz hT h0 h6' hL b1 b6 hk⟩
    | 36, _ => exact ⟨1694, rfl, lw_36 hI hz hT h0 h6' hL b1 b6 hk⟩
    | 37, _ => exact ⟨1731, rfl, lw_37 hI hz hT h0 h6' hL b1 b6 hk⟩
    | 38, _ => exact ⟨1804, rfl, lw_38 hI hz hT h0 h6' hL b1 b6 hk⟩
    | 39, _ => exact ⟨1829, rfl, lw_39 hI hz hT h0 h6' hL b1 b6 hk⟩
    | 40, _ => exact ⟨1854, rfl, lw_40 hI hz hT h0 h6' hL b1 b6 hk⟩
    | 41, _ => exact ⟨1879, rfl, lw_41 hI hz hT h0 h6' hL b1 b6 hk⟩
    | n + 42, h => exact absurd h (by omega)
