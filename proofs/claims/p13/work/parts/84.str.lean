/-! ===== strings: length and charAt ===== -/
section
variable {pr : Nat → dw_Op} {pc bc bs nx : Nat} {ls : dw_L} {st : List Value} {μ : dw_S}
theorem q_if0 {tg : Nat} {x : Int32} (ho : pr pc = o_if_eq tg nx) (h : x ≠ 0) (k : dw_ok pr nx bc bs ls st μ) : dw_ok pr pc bc bs ls (.int x :: st) μ := dw_ok.step (by rw [ho]; unfold o_if_eq; simp only []; rw [if_neg h]; exact k)
theorem q_ifn {tg : Nat} (ho : pr pc = o_if_ne tg nx) (k : dw_ok pr nx bc bs ls st μ) : dw_ok pr pc bc bs ls (.int 0 :: st) μ := dw_ok.step (by rw [ho]; show (if (0 : Int32) = 0 then dw_ok pr nx bc bs ls st μ else dw_ok pr tg bc bs ls st μ); rw [if_pos rfl]; exact k)
theorem q_gsi (ho : pr pc = o_gsi nx) (k : dw_ok pr nx bc bs ls (.int 1 :: st) μ) : dw_ok pr pc bc bs ls st μ := dw_ok.step (by rw [ho]; exact k)
theorem q_gsr (ho : pr pc = o_gsr nx) (k1 : dw_ok pr nx bc bs ls (.null :: st) μ) (k2 : dw_ok pr nx bc bs ls (.ref 1000100 :: st) μ) : dw_ok pr pc bc bs ls st μ := dw_ok.step (by rw [ho]; exact ⟨k1, k2⟩)
theorem q_xgv {a : Nat} (ho : pr pc = o_xgv nx) (h : dw_isS a) (k : dw_ok pr nx bc bs ls (.ref (a + 100) :: st) μ) : dw_ok pr pc bc bs ls (.ref a :: st) μ := dw_ok.step (by rw [ho]; unfold o_xgv; simp only []; rw [if_pos h]; exact k)
theorem q_xgc {a : Nat} (ho : pr pc = o_xgc nx) (h : dw_isS a) (k : dw_ok pr nx bc bs ls (.int 0 :: st) μ) : dw_ok pr pc bc bs ls (.ref a :: st) μ := dw_ok.step (by rw [ho]; unfold o_xgc; simp only []; rw [if_pos h]; exact k)
theorem q_xal {a : Nat} (ho : pr pc = o_xal nx) (h : dw_isS a) (k : dw_ok pr nx bc bs ls (.int (Int32.ofNat (dw_sb (dw_sx a)).length) :: st) μ) : dw_ok pr pc bc bs ls (.ref (a + 100) :: st) μ :=
  dw_ok.step (by rw [ho]; unfold o_xal; simp only []; rw [if_pos (show 100 ≤ a + 100 ∧ dw_isS (a + 100 - 100) from ⟨Nat.le_add_left _ _, by rw [Nat.add_sub_cancel]; exact h⟩), Nat.add_sub_cancel]; exact k)
theorem q_xbl {a : Nat} {j : Int32} (ho : pr pc = o_xbl nx) (h : dw_isS a) (h0 : 0 ≤ j.toInt) (h1 : j.toInt < (dw_sb (dw_sx a)).length) (k : ∀ w : Int32, dw_ok pr nx bc bs ls (.int w :: st) μ) : dw_ok pr pc bc bs ls (.int j :: .ref (a + 100) :: st) μ :=
  dw_ok.step (by rw [ho]; unfold o_xbl; simp only []; rw [if_pos (show 100 ≤ a + 100 ∧ dw_isS (a + 100 - 100) from ⟨Nat.le_add_left _ _, by rw [Nat.add_sub_cancel]; exact h⟩), Nat.add_sub_cancel, if_pos ⟨dx_nlt h0, by rw [dx_tn]; omega⟩]; exact k _)
theorem q_i2c {x : Int32} (ho : pr pc = o_i2c nx) (k : dw_ok pr nx bc bs ls (.int ((x.toUInt32 % 65536).toInt32) :: st) μ) : dw_ok pr pc bc bs ls (.int x :: st) μ := dw_ok.step (by rw [ho]; exact k)
theorem q_nret {ty : FieldType} {K : dw_K} {x : Int32} (ho : pr pc = o_nret ty K) (h : narrow ty (.int x) = .int x) (k : K (some (.int x)) μ) : dw_ok pr pc bc bs ls [.int x] μ := dw_ok.step (by rw [ho]; exact ⟨h, k⟩)
theorem q_iret {K : dw_K} {x : Int32} (ho : pr pc = o_iret K) (k : K (some (.int x)) μ) : dw_ok pr pc bc bs ls [.int x] μ := dw_ok.step (by rw [ho]; exact k)
theorem q_zret {K : dw_K} {x : Int32} (ho : pr pc = o_zret K) (h : x = 0 ∨ x = 1) (k : K (some (.int x)) μ) : dw_ok pr pc bc bs ls [.int x] μ := dw_ok.step (by rw [ho]; unfold o_zret; simp only []; rw [if_pos h]; exact k)
theorem q_vret {K : dw_K} (ho : pr pc = o_vret K) (k : K none μ) : dw_ok pr pc bc bs ls [] μ := dw_ok.step (by rw [ho]; exact k)
theorem q_pop {x : Int32} (ho : pr pc = o_pop nx) (k : dw_ok pr nx bc bs ls st μ) : dw_ok pr pc bc bs ls (.int x :: st) μ := dw_ok.step (by rw [ho]; exact k)
theorem q_ishr0 {x : Int32} (ho : pr pc = o_ishr nx) (k : dw_ok pr nx bc bs ls (.int x :: st) μ) : dw_ok pr pc bc bs ls (.int 0 :: .int x :: st) μ := dw_ok.step (by rw [ho]; show dw_ok pr nx bc bs ls (.int (x >>> ((0 : Int32) &&& 31)) :: st) μ; rw [show x >>> ((0 : Int32) &&& 31) = x from by simp]; exact k)
theorem q_callT1 {a : Nat} {T : dw_T} (ho : pr pc = o_callT 1 0 0 T nx) (h : dw_isS a) (hc : dw_cats st ≤ 8) (k : T [.ref a] μ (fun r μ' => dw_ok pr nx bc bs ls (r.toList ++ st) μ')) : dw_ok pr pc bc bs ls (.ref a :: st) μ :=
  dw_ok.step (by
    rw [ho]
    show (if dw_isS a ∧ [].length + 1 = 1 ∧ dw_cats st ≤ 8 ∧ 0 ≤ bc ∧ 0 ≤ bs then T [.ref a] μ (fun r μ' => dw_ok pr nx (bc - 0) (bs - 0) ls (r.toList ++ st) μ') else False)
    rw [if_pos ⟨h, rfl, hc, Nat.zero_le _, Nat.zero_le _⟩]
    exact k)
theorem q_callT2 {a : Nat} {x : Int32} {T : dw_T} (ho : pr pc = o_callT 2 0 0 T nx) (h : dw_isS a) (hc : dw_cats st ≤ 8) (k : T [.ref a, .int x] μ (fun r μ' => dw_ok pr nx bc bs ls (r.toList ++ st) μ')) : dw_ok pr pc bc bs ls (.int x :: .ref a :: st) μ :=
  dw_ok.step (by
    rw [ho]
    show (if dw_isS a ∧ [Value.int x].length + 1 = 2 ∧ dw_cats st ≤ 8 ∧ 0 ≤ bc ∧ 0 ≤ bs then T [.ref a, .int x] μ (fun r μ' => dw_ok pr nx (bc - 0) (bs - 0) ls (r.toList ++ st) μ') else False)
    rw [if_pos ⟨h, rfl, hc, Nat.zero_le _, Nat.zero_le _⟩]
    exact k)
theorem q_callS2 {u v : Value} {T : dw_T} (ho : pr pc = o_callS 2 0 0 T nx) (hc : dw_cats st ≤ 8) (k : T [u, v] μ (fun r μ' => dw_ok pr nx bc bs ls (r.toList ++ st) μ')) : dw_ok pr pc bc bs ls (v :: u :: st) μ :=
  dw_ok.step (by
    rw [ho]
    show (if [u, v].length = 2 ∧ dw_cats st ≤ 8 ∧ 0 ≤ bc ∧ 0 ≤ bs then T [u, v] μ (fun r μ' => dw_ok pr nx (bc - 0) (bs - 0) ls (r.toList ++ st) μ') else False)
    rw [if_pos ⟨rfl, hc, Nat.zero_le _, Nat.zero_le _⟩]
    exact k)
theorem q_callS3 {u v w : Value} {T : dw_T} (ho : pr pc = o_callS 3 0 0 T nx) (hc : dw_cats st ≤ 8) (k : T [u, v, w] μ (fun r μ' => dw_ok pr nx bc bs ls (r.toList ++ st) μ')) : dw_ok pr pc bc bs ls (w :: v :: u :: st) μ :=
  dw_ok.step (by
    rw [ho]
    show (if [u, v, w].length = 3 ∧ dw_cats st ≤ 8 ∧ 0 ≤ bc ∧ 0 ≤ bs then T [u, v, w] μ (fun r μ' => dw_ok pr nx (bc - 0) (bs - 0) ls (r.toList ++ st) μ') else False)
    rw [if_pos ⟨rfl, hc, Nat.zero_le _, Nat.zero_le _⟩]
    exact k)
theorem q_body {nL mc ms : Nat} {p : dw_K → Nat → dw_Op} {as : List Value} {K : dw_K} (h : (dw_inl as).length ≤ nL) (k : dw_ok (p K) 0 mc ms (dw_pad nL (dw_inl as)) [] μ) : dw_body nL mc ms p as μ K := by
  unfold dw_body
  rw [if_pos h]
  exact k
end
theorem t_coder {a : Nat} {μ : dw_S} {K : dw_K} (h : dw_isS a) (k : K (some (.int 0)) μ) : t_J0_coder_7d493 [.ref a] μ K := by
  refine q_body (Nat.le_refl 1) ?_
  refine q_gsi rfl ?_
  refine q_if0 rfl (by decide) ?_
  refine q_ald rfl rfl ?_
  refine q_xgc rfl h ?_
  refine q_goto rfl ?_
  exact q_nret rfl (by decide) k
theorem t_latin {a : Nat} {μ : dw_S} {K : dw_K} (h : dw_isS a) (k : K (some (.int 1)) μ) : t_J0_isLatin1_aae02 [.ref a] μ K := by
  refine q_body (Nat.le_refl 1) ?_
  refine q_gsi rfl ?_
  refine q_if0 rfl (by decide) ?_
  refine q_ald rfl rfl ?_
  refine q_xgc rfl h ?_
  refine q_ifn rfl ?_
  refine q_ic rfl ?_
  refine q_goto rfl ?_
  exact q_zret rfl (Or.inr rfl) k
theorem t_length {a : Nat} {μ : dw_S} {K : dw_K} (h : dw_isS a) (k : K (some (.int (Int32.ofNat (dw_sb (dw_sx a)).length))) μ) : t_J0_length_8abf5 [.ref a] μ K := by
  refine q_body (Nat.le_refl 1) ?_
  refine q_ald rfl rfl ?_
  refine q_xgv rfl h ?_
  refine q_xal rfl h ?_
  refine q_ald rfl rfl ?_
  refine q_callT1 rfl h (show 1 + 0 ≤ 8 by decide) (t_coder h ?_)
  refine q_ishr0 rfl ?_
  exact q_iret rfl k
theorem t_chk3 {x n : Int32} {v : Value} {μ : dw_S} {K : dw_K} (hv : v = .null ∨ v = .ref 1000100) (h0 : 0 ≤ x.toInt) (h1 : x.toInt < n.toInt) (k : K (some (.int x)) μ) : t_J3_checkIndex_8e157 [.int x, .int n, v] μ K := by
  have z : (0 : Int32).toInt = 0 := rfl
  rcases hv with rfl | rfl
  all_goals
    refine q_body (Nat.le_refl 3) ?_
    refine q_ild rfl rfl ?_
    refine q_if (c := 2) rfl (by decide) (fun hc => absurd hc (by show ¬ x.toInt < 0; omega)) (fun _ => ?_)
    refine q_ild rfl rfl ?_
    refine q_ild rfl rfl ?_
    refine q_icmp (c := 2) rfl (by decide) (fun _ => ?_) (fun hc => absurd hc (by show ¬ n.toInt ≤ x.toInt; omega))
    refine q_ild rfl rfl ?_
    exact q_iret rfl k
theorem t_chk {x n : Int32} {μ : dw_S} {K : dw_K} (h0 : 0 ≤ x.toInt) (h1 : x.toInt < n.toInt) (k : K none μ) : t_J0_checkIndex_df160 [.int x, .int n] μ K := by
  refine q_body (Nat.le_refl 2) ?_
  refine q_ild rfl rfl ?_
  refine q_ild rfl rfl ?_
  refine q_gsr rfl ?_ ?_
  · refine q_callS3 rfl (show 0 ≤ 8 by decide) (t_chk3 (Or.inl rfl) h0 h1 ?_)
    refine q_pop rfl ?_
    exact q_vret rfl k
  · refine q_callS3 rfl (show 0 ≤ 8 by decide) (t_chk3 (Or.inr rfl) h0 h1 ?_)
    refine q_pop rfl ?_
    exact q_vret rfl k
theorem chr_n (w : Int32) : (w &&& 255).toUInt32.toNat ≤ 255 := by
  show (w.toBitVec &&& (255 : Int32).toBitVec).toNat ≤ 255
  rw [BitVec.toNat_and]
  exact Nat.and_le_right
theorem chr_m (w : Int32) : ((w &&& 255).toUInt32 % 65536).toInt32 = w &&& 255 := by
  have h := chr_n w
  have e : (w &&& 255).toUInt32 % 65536 = (w &&& 255).toUInt32 := by
    apply UInt32.toNat_inj.mp
    rw [UInt32.toNat_mod]
    exact Nat.mod_eq_of_lt (Nat.lt_of_le_of_lt h (by decide))
  rw [e]
  rfl
theorem chr_nar (w : Int32) : narrow .char (.int (((w &&& 255).toUInt32 % 65536).toInt32)) = .int (((w &&& 255).toUInt32 % 65536).toInt32) := by
  rw [chr_m]
  show Value.int ((w &&& 255).toUInt32.toUInt16.toUInt32.toInt32) = _
  have h := chr_n w
  have e : (w &&& 255).toUInt32.toUInt16.toUInt32 = (w &&& 255).toUInt32 := by
    apply UInt32.toNat_inj.mp
    rw [UInt16.toNat_toUInt32, UInt32.toNat_toUInt16]
    exact Nat.mod_eq_of_lt (Nat.lt_of_le_of_lt h (by decide))
  rw [e]
  rfl
theorem t_chr1 {a : Nat} {j : Int32} {μ : dw_S} {K : dw_K} (h : dw_isS a) (h0 : 0 ≤ j.toInt) (h1 : j.toInt < (dw_sb (dw_sx a)).length) (hl : (Int32.ofNat (dw_sb (dw_sx a)).length).toInt = (dw_sb (dw_sx a)).length) (k : ∀ w : Int32, K (some (.int (((w &&& 255).toUInt32 % 65536).toInt32))) μ) : t_J1_charAt_3b067 [.ref (a + 100), .int j] μ K := by
  refine q_body (Nat.le_refl 2) ?_
  refine q_ild rfl rfl ?_
  refine q_ald rfl rfl ?_
  refine q_xal rfl h ?_
  refine q_callS2 rfl (show 0 ≤ 8 by decide) (t_chk h0 (by omega) ?_)
  refine q_ald rfl rfl ?_
  refine q_ild rfl rfl ?_
  refine q_xbl rfl h h0 h1 (fun w => ?_)
  refine q_ic rfl ?_
  refine q_and rfl ?_
  refine q_i2c rfl ?_
  exact q_nret rfl (chr_nar w) (k w)
theorem t_charAt {a : Nat} {j : Int32} {μ : dw_S} {K : dw_K} (h : dw_isS a) (h0 : 0 ≤ j.toInt) (h1 : j.toInt < (dw_sb (dw_sx a)).length) (hl : (Int32.ofNat (dw_sb (dw_sx a)).length).toInt = (dw_sb (dw_sx a)).length) (k : ∀ w : Int32, 0 ≤ w.toInt → w.toInt ≤ 65535 → K (some (.int w)) μ) : t_J0_charAt_5068e [.ref a, .int j] μ K := by
  refine q_body (Nat.le_refl 2) ?_
  refine q_ald rfl rfl ?_
  refine q_callT1 rfl h (show 0 ≤ 8 by decide) (t_latin h ?_)
  refine q_if0 rfl (by decide) ?_
  refine q_ald rfl rfl ?_
  refine q_xgv rfl h ?_
  refine q_ild rfl rfl ?_
  refine q_callS2 rfl (show 0 ≤ 8 by decide) (t_chr1 h h0 h1 hl (fun w => ?_))
  refine q_nret rfl (chr_nar w) (k _ ?_ ?_)
  all_goals
    rw [chr_m]
    have h2 : (0 : Int) ≤ (255 : Int32).toInt := by decide
    have h3 := dx_and (x := w) (y := 255) h2
    have e : (255 : Int32).toInt = 255 := rfl
    omega
