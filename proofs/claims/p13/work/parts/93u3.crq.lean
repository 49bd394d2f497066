/-! ===== questions, wholly ===== -/
theorem cr_X11_now {μ : dw_S} {K : dw_K} {a1 : Int32} {R : Nat → Int32} (hI : INV μ) (hR : SREL μ.2.2.1 3 R) (hK : ∀ (r : Option Value) (w : Int32) (μ' : dw_S), ck_X11_now a1 μ r w μ' → w.toInt = aNow R a1.toInt → K r μ') : t_X11_now [.ref 0, .int a1] μ K := by
  refine cj_X11_now _ μ (fun r μ' => ∃ w, ck_X11_now a1 μ r w μ') (fun r μ' => ∀ w, r = some (.int w) → w.toInt = aNow R a1.toInt) K (fun r μ' h q => h.elim (fun w h => hK r w μ' h (q w h.2.1))) (cl_X11_now hI (fun r w μ' h => ⟨w, h⟩)) ?_
  obtain ⟨n, sh, I, J⟩ := μ
  obtain rfl : sh = SH1 := hI.1
  refine v_cnow hR (fun w e v q => ?_)
  rw [ro_eq q]; exact e
theorem cr_X12_now {μ : dw_S} {K : dw_K} {a1 : Int32} {R : Nat → Int32} (hI : INV μ) (e6 : μ.2.2.1 406 = R) (hG : GOK R) (hN : ∀ {x : Int32}, okS R x → NOK (nX R x)) (hK : ∀ (r : Option Value) (w : Int32) (μ' : dw_S), ck_X12_now a1 μ r w μ' → w.toInt = aNow R a1.toInt → K r μ') : t_X12_now [.ref 404, .int a1] μ K := by
  refine cj_X12_now _ μ (fun r μ' => ∃ w, ck_X12_now a1 μ r w μ') (fun r μ' => ∀ w, r = some (.int w) → w.toInt = aNow R a1.toInt) K (fun r μ' h q => h.elim (fun w h => hK r w μ' h (q w h.2.1))) (cl_X12_now hI (fun r w μ' h => ⟨w, h⟩)) ?_
  obtain ⟨n, sh, I, J⟩ := μ
  obtain rfl : sh = SH1 := hI.1
  refine v_mnow e6 hG (fun _ w e v q => ?_)
  rw [ro_eq q]; exact e
theorem cr_X11_sky {μ : dw_S} {K : dw_K} {a1 a2 a3 : Int32} {R : Nat → Int32} (hI : INV μ) (hR : SREL μ.2.2.1 3 R) (hK : ∀ (r : Option Value) (w : Int32) (μ' : dw_S), ck_X11_sky a1 a2 a3 μ r w μ' → w.toInt = aSky R a1 a2 a3 → K r μ') : t_X11_sky [.ref 0, .int a1, .int a2, .int a3] μ K := by
  refine cj_X11_sky _ μ (fun r μ' => ∃ w, ck_X11_sky a1 a2 a3 μ r w μ') (fun r μ' => ∀ w, r = some (.int w) → w.toInt = aSky R a1 a2 a3) K (fun r μ' h q => h.elim (fun w h => hK r w μ' h (q w h.2.1))) (cl_X11_sky hI (fun r w μ' h => ⟨w, h⟩)) ?_
  obtain ⟨n, sh, I, J⟩ := μ
  obtain rfl : sh = SH1 := hI.1
  refine v_csky hR (fun w e v q => ?_)
  rw [ro_eq q]; exact e
theorem cr_X12_sky {μ : dw_S} {K : dw_K} {a1 a2 a3 : Int32} {R : Nat → Int32} (hI : INV μ) (e6 : μ.2.2.1 406 = R) (hG : GOK R) (hN : ∀ {x : Int32}, okS R x → NOK (nX R x)) (hK : ∀ (r : Option Value) (w : Int32) (μ' : dw_S), ck_X12_sky a1 a2 a3 μ r w μ' → w.toInt = aSky R a1 a2 a3 → K r μ') : t_X12_sky [.ref 404, .int a1, .int a2, .int a3] μ K := by
  refine cj_X12_sky _ μ (fun r μ' => ∃ w, ck_X12_sky a1 a2 a3 μ r w μ') (fun r μ' => ∀ w, r = some (.int w) → w.toInt = aSky R a1 a2 a3) K (fun r μ' h q => h.elim (fun w h => hK r w μ' h (q w h.2.1))) (cl_X12_sky hI (fun r w μ' h => ⟨w, h⟩)) ?_
  obtain ⟨n, sh, I, J⟩ := μ
  obtain rfl : sh = SH1 := hI.1
  refine v_msky e6 hN (fun _ w e v q => ?_)
  rw [ro_eq q]; exact e
theorem cr_X11_much {μ : dw_S} {K : dw_K} {a1 a2 a3 a4 : Int32} {R : Nat → Int32} (hI : INV μ) (hR : SREL μ.2.2.1 3 R) (hK : ∀ (r : Option Value) (w : Int32) (μ' : dw_S), ck_X11_much a1 a2 a3 a4 μ r w μ' → w.toInt = aMuch R a1 a2 a3 a4 → K r μ') : t_X11_much [.ref 0, .int a1, .int a2, .int a3, .int a4] μ K := by
  refine cj_X11_much _ μ (fun r μ' => ∃ w, ck_X11_much a1 a2 a3 a4 μ r w μ') (fun r μ' => ∀ w, r = some (.int w) → w.toInt = aMuch R a1 a2 a3 a4) K (fun r μ' h q => h.elim (fun w h => hK r w μ' h (q w h.2.1))) (cl_X11_much hI (fun r w μ' h => ⟨w, h⟩)) ?_
  obtain ⟨n, sh, I, J⟩ := μ
  obtain rfl : sh = SH1 := hI.1
  refine v_cmuch hR (fun w _ e v q => ?_)
  rw [ro_eq q]; exact e
theorem cr_X12_much {μ : dw_S} {K : dw_K} {a1 a2 a3 a4 : Int32} {R : Nat → Int32} (hI : INV μ) (e6 : μ.2.2.1 406 = R) (hG : GOK R) (hN : ∀ {x : Int32}, okS R x → NOK (nX R x)) (hK : ∀ (r : Option Value) (w : Int32) (μ' : dw_S), ck_X12_much a1 a2 a3 a4 μ r w μ' → w.toInt = aMuch R a1 a2 a3 a4 → K r μ') : t_X12_much [.ref 404, .int a1, .int a2, .int a3, .int a4] μ K := by
  refine cj_X12_much _ μ (fun r μ' => ∃ w, ck_X12_much a1 a2 a3 a4 μ r w μ') (fun r μ' => ∀ w, r = some (.int w) → w.toInt = aMuch R a1 a2 a3 a4) K (fun r μ' h q => h.elim (fun w h => hK r w μ' h (q w h.2.1))) (cl_X12_much hI (fun r w μ' h => ⟨w, h⟩)) ?_
  obtain ⟨n, sh, I, J⟩ := μ
  obtain rfl : sh = SH1 := hI.1
  refine v_mmuch e6 hG hN (fun w _ e v q => ?_)
  rw [ro_eq q]; exact e
theorem cr_X11_where {μ : dw_S} {K : dw_K} {a1 a2 a3 : Int32} {R : Nat → Int32} (hI : INV μ) (hR : SREL μ.2.2.1 3 R) (hK : ∀ (r : Option Value) (w : Int32) (μ' : dw_S), ck_X11_where a1 a2 a3 μ r w μ' → w.toInt = aWhere R a1 a2 a3 → K r μ') : t_X11_where [.ref 0, .int a1, .int a2, .int a3] μ K := by
  refine cj_X11_where _ μ (fun r μ' => ∃ w, ck_X11_where a1 a2 a3 μ r w μ') (fun r μ' => ∀ w, r = some (.int w) → w.toInt = aWhere R a1 a2 a3) K (fun r μ' h q => h.elim (fun w h => hK r w μ' h (q w h.2.1))) (cl_X11_where hI (fun r w μ' h => ⟨w, h⟩)) ?_
  obtain ⟨n, sh, I, J⟩ := μ
  obtain rfl : sh = SH1 := hI.1
  refine v_cwhere hR (fun w _ e v q => ?_)
  rw [ro_eq q]; exact e
theorem cr_X12_where {μ : dw_S} {K : dw_K} {a1 a2 a3 : Int32} {R : Nat → Int32} (hI : INV μ) (e6 : μ.2.2.1 406 = R) (hG : GOK R) (hN : ∀ {x : Int32}, okS R x → NOK (nX R x)) (hK : ∀ (r : Option Value) (w : Int32) (μ' : dw_S), ck_X12_where a1 a2 a3 μ r w μ' → w.toInt = aWhere R a1 a2 a3 → K r μ') : t_X12_where [.ref 404, .int a1, .int a2, .int a3] μ K := by
  refine cj_X12_where _ μ (fun r μ' => ∃ w, ck_X12_where a1 a2 a3 μ r w μ') (fun r μ' => ∀ w, r = some (.int w) → w.toInt = aWhere R a1 a2 a3) K (fun r μ' h q => h.elim (fun w h => hK r w μ' h (q w h.2.1))) (cl_X12_where hI (fun r w μ' h => ⟨w, h⟩)) ?_
  obtain ⟨n, sh, I, J⟩ := μ
  obtain rfl : sh = SH1 := hI.1
  refine v_mwhere e6 hG hN (fun w _ e v q => ?_)
  rw [ro_eq q]; exact e
