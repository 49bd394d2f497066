section
/-! ===== what the pieces need more ===== -/
theorem up_fr2 {μ : dw_S} {a j j2 : Nat} {x x2 : Int32} {md : List Nat} (hm : a ∈ md) : ∀ a', a' ∉ md → (dw_si (dw_si μ a j x) a j2 x2).2.2.1 a' = μ.2.2.1 a' ∧ (dw_si (dw_si μ a j x) a j2 x2).2.2.2 a' = μ.2.2.2 a' :=
  fun a' hn => ⟨(up_fr (μ := dw_si μ a j x) (j := j2) (x := x2) hm a' hn).1.trans (up_fr (μ := μ) (j := j) (x := x) hm a' hn).1, rfl⟩
theorem up_keep {f a j : Nat} {x : Int} {v : Int32} {I : Nat → Nat → Int32} (lo hi : Nat) (h1 : lo ≤ j) (h2 : j ≤ hi) (hc : (fl_s f).all (fun q => q.1 != a || decide (hi < q.2.1) || decide (q.2.2 < lo)) = true) (h : fl_P f x I) : fl_P f x (dw_up I a j v) := by
  refine fl_fp (fun q hq i hi1 hi2 => up_ne ?_) h
  have := List.all_eq_true.mp hc q hq
  rw [Bool.or_eq_true, Bool.or_eq_true, decide_eq_true_eq, decide_eq_true_eq, bne_iff_ne] at this
  rcases this with (e | e) | e
  · exact Or.inl e
  · exact Or.inr (by omega)
  · exact Or.inr (by omega)
theorem fl_rp {c : Nat} (hc : c ≤ 30) {x : Int} {I : Nat → Nat → Int32} : fl_P (100 + c) x I ↔ ∀ i : Nat, i < c → (I 408 (1 + 3 * i)).toInt ≠ 0 → (I 408 (2 + 3 * i)).toInt ≤ 143 ∧ 1 ≤ (I 406 0).toInt := by
  unfold fl_P
  split
  case h_23 => rw [if_pos ⟨by omega, by omega⟩, Nat.add_sub_cancel_left]
  all_goals (exfalso; omega)
theorem fl_oc2 {j : Nat} (hj : j ≤ 15) {x : Int} {I : Nat → Nat → Int32} : fl_P (200 + j) x I ↔ x = fl_oc I j := by
  unfold fl_P
  split
  case h_23 => rw [if_neg (by omega), if_pos ⟨by omega, by omega⟩, Nat.add_sub_cancel_left]
  all_goals (exfalso; omega)
theorem pl_end {c : Nat} (hc : c ≤ 30) {x y : Int} {I : Nat → Nat → Int32} (h0 : (I 408 0).toInt = c) (hx : x = 3 * c + 1) (hp : fl_P 23 x I) (hr : fl_P (100 + c) y I) : fl_pl 406 0 I := by
  rw [fl_rp hc] at hr
  have hp' : ∀ j : Nat, j < 91 → (j : Int) < x → I 406 (803 + j) = I 408 j := hp
  intro i hi h1 h2
  rw [Nat.zero_add] at h1 h2 ⊢
  have e0 := hp' 0 (by omega) (by omega)
  rw [show 803 = 803 + 0 from rfl, e0, h0] at h1
  have e1 := hp' (1 + 3 * i) (by omega) (by omega)
  have e2 := hp' (2 + 3 * i) (by omega) (by omega)
  rw [show 804 + 3 * i = 803 + (1 + 3 * i) by omega, e1] at h2
  rw [show 805 + 3 * i = 803 + (2 + 3 * i) by omega, e2]
  exact hr i (by omega) h2
theorem rp_on {c : Nat} (hc : c + 1 ≤ 30) {x y : Int} {I : Nat → Nat → Int32} (h : fl_P (100 + c) x I) (h0 : (I 408 (1 + 3 * c)).toInt = 0) : fl_P (100 + (c + 1)) y I := by
  rw [fl_rp (by omega)] at h
  rw [fl_rp hc]
  intro i hi h1
  by_cases e : i = c
  · rw [e] at h1; exact absurd h0 h1
  · exact h i (by omega) h1
theorem rp_off {c : Nat} (hc : c + 1 ≤ 30) {x y : Int} {I : Nat → Nat → Int32} (h : fl_P (100 + c) x I) (h0 : (I 408 (2 + 3 * c)).toInt ≤ 143) (h2 : 1 ≤ (I 406 0).toInt) : fl_P (100 + (c + 1)) y I := by
  rw [fl_rp (by omega)] at h
  rw [fl_rp hc]
  intro i hi h1
  by_cases e : i = c
  · rw [e]; exact ⟨h0, h2⟩
  · exact h i (by omega) h1
theorem pq_in {c : Nat} (hc : c ≤ 30) {x y : Int} {I : Nat → Nat → Int32} (hx : x = c) (h : fl_P 25 x I) : fl_P (100 + c) y I := by
  have h' : ∀ i : Nat, (i : Int) < x → i < 30 → (I 408 (1 + 3 * i)).toInt ≠ 0 → (I 408 (2 + 3 * i)).toInt ≤ 143 ∧ 1 ≤ (I 406 0).toInt := h
  rw [fl_rp hc]
  exact fun i hi => h' i (by omega) (by omega)
theorem pq_of {c : Nat} (hc : c ≤ 30) {x y : Int} {I : Nat → Nat → Int32} (hx : x = c) (h : fl_P (100 + c) y I) : fl_P 25 x I := by
  rw [fl_rp hc] at h
  exact (fun i hi _ => h i (by omega) : ∀ i : Nat, (i : Int) < x → i < 30 → (I 408 (1 + 3 * i)).toInt ≠ 0 → (I 408 (2 + 3 * i)).toInt ≤ 143 ∧ 1 ≤ (I 406 0).toInt)
theorem wk_copy {a o a' o' : Nat} {I I' : Nat → Nat → Int32} (h : ∀ j : Nat, j < 894 → I' a' (o' + j) = I a (o + j)) (g : fl_wk a o I) : fl_wk a' o' I' := by
  obtain ⟨g1, g2, g3⟩ := g
  refine ⟨fun k hk hx => ?_, fun c hc => ?_, fun hr => ?_⟩
  · rw [h 2 (by omega)] at hx
    rw [Nat.add_assoc, h (5 + k) (by omega), ← Nat.add_assoc]
    exact g1 k hk hx
  · rw [Nat.add_assoc, h (29 + c) (by omega), h 2 (by omega), ← Nat.add_assoc]
    exact g2 c hc
  · rw [h 1 (by omega)] at hr
    rw [h 2 (by omega)]
    exact g3 hr
theorem pl_copy {a o a' o' : Nat} {I I' : Nat → Nat → Int32} (h : ∀ j : Nat, j < 894 → I' a' (o' + j) = I a (o + j)) (g : fl_pl a o I) : fl_pl a' o' I' := by
  intro i hi h1 h2
  rw [h 803 (by omega)] at h1
  rw [Nat.add_assoc, h (804 + 3 * i) (by omega), ← Nat.add_assoc] at h2
  rw [Nat.add_assoc, h (805 + 3 * i) (by omega), ← Nat.add_assoc, show o' = o' + 0 from rfl, h 0 (by omega)]
  exact g i hi h1 h2
theorem hi803 : dx_seg (dx_ce 406).iv 803 = (0, 30) := by decide +kernel
theorem hz408 : (List.range 91).all (fun j => decide (dx_seg (dx_ce 408).iv j = (0, 144))) = true := by decide +kernel
theorem hi408 (j : Nat) (h : j < 91) : dx_seg (dx_ce 408).iv j = (0, 144) := by
  have := List.all_eq_true.mp hz408 j (List.mem_range.mpr h)
  rw [decide_eq_true_eq] at this
  exact this
theorem hz425 : (List.range 144).all (fun j => decide (dx_seg (dx_ce 425).iv j = (-2147483648, 2147483647))) = true := by decide +kernel
theorem hi425 (j : Nat) (h : j < 144) (x : Int32) : dx_in (dx_seg (dx_ce 425).iv j) x.toInt := by
  have := List.all_eq_true.mp hz425 j (List.mem_range.mpr h)
  rw [decide_eq_true_eq] at this
  rw [this]
  exact ⟨dx_b1 x, dx_b2 x⟩
end
section
/-! ===== strings: length and charAt ===== -/
section
variable {pr : Nat → dw_Op} {pc bc bs nx : Nat} {ls : dw_L} {st : List Value} {μ : dw_S}
theorem q_if0 {tg : Nat} {x : Int32} (ho : pr pc = o_if_eq tg nx) (h : x ≠ 0) (k : dw_ok pr nx bc bs ls st μ) : dw_ok pr pc bc bs ls (.int x :: st) μ := dw_ok.step (by rw [ho]; unfold o_if_eq; simp only []; rw [if_neg h]; exact k)
theorem q_ifn {tg : Nat} (ho : pr pc = o_if_ne tg nx) (k : dw_ok pr nx bc bs ls st μ) : dw_ok pr pc bc bs ls (.int 0 :: st) μ := dw_ok.step (by rw [ho]; show (if (0 : Int32) = 0 then dw_ok pr nx bc bs ls st μ else dw_ok pr tg bc bs ls st μ); rw [if_pos rfl]; exact k)
theorem q_gsi (ho : pr pc = o_gsi nx) (k : dw_ok pr nx bc bs ls (.int 1 :: st) μ) : dw_ok pr pc bc bs ls st μ := dw_ok.step (by rw [ho]; exact k)
theorem q_gsr (ho : pr pc = o_gsr nx) (k1 : dw_ok pr nx bc bs ls (.null :: st) μ) (k2 : dw_ok pr nx bc bs ls (.ref 1000100 :: st) μ) : dw_ok pr pc bc bs ls st μ := dw_ok.step (by rw [ho]; exact ⟨k1, k2⟩)
theorem q_xgv {a : Nat} (ho : pr pc = o_xgv nx) (h : dw_isS a) (k : dw_ok pr nx bc bs ls (.ref (a + 100) :: st) μ) : dw_ok pr pc bc bs ls (.ref a :: st) μ := dw_ok.step (by rw [ho]; unfold o_xgv; simp only []; rw [if_pos h]; exact k)
theorem q_xgc {a : Nat} (ho : pr pc = o_xgc nx) (h : dw_isS a) (k : dw_ok pr nx bc bs ls (.int 0 :: st) μ) : dw_ok pr pc bc bs ls (.ref a :: st) μ := dw_ok.step (by rw [ho]; unfold o_xgc; simp only []; rw [if_pos h]; exact k)
theorem q_xal {a : Nat} (ho : pr pc = o_xal nx) (h : dw_isS a) (k : dw_ok pr nx bc bs ls (.int (Int32.ofNat (dw_sb (dw_sx a)).length) :: st) μ) : dw_ok pr pc bc bs ls (.ref (a + 100) :: st) μ :=
  dw_ok.step (by rw [ho]; unfold o_xal; simp only []; rw [if_pos (show 100 ≤ a + 100 ∧ dw_isS (a + 100 - 100) from ⟨Nat.le_add_left _ _, by rw [Nat.add_sub_cancel]; exact h⟩), Nat.add_sub_cancel]; exact k)
theorem q_xbl {a : Nat} {j : Int32} (ho : pr pc = o_xbl nx) (h : dw_isS a) (h0 : 0 ≤ j.toInt) (h1 : j.toInt < (dw_sb (dw_sx a)).length) (k : ∀ w : Int32, dw_ok pr nx bc bs ls (.int w :: st) μ) : dw_ok pr pc bc bs ls (.int j :: .ref (a + 100) :: st) μ :=
  dw_ok.step (by rw [ho]; unfold o_xbl; simp only []; rw [if_pos (show 100 ≤ a + 100 ∧ dw_isS (a + 100 - 100) from ⟨Nat.le_add_left _ _, by rw [Nat.add_sub_cancel]; exact h⟩), Nat.add_sub_cancel, if_pos ⟨dx_nlt h0, by rw [dx_tn]; omega⟩]; exact k _)
theorem q_i2c {x : Int32} (ho : pr pc = o_i2c nx) (k : dw_ok pr nx bc bs ls (.int ((x.toUInt32 % 65536).toInt32) :: st) μ) : dw_ok pr pc bc bs ls (.int x :: st) μ := dw_ok.step (by rw [ho]; exact k)
theorem q_nret {ty : FieldType} {K : dw_K} {x : Int32} (ho : pr pc = o_nret ty K) (h : narrow ty (.int x) = .int x) (k : K (some (.int x)) μ) : dw_ok pr pc bc bs ls [.int x] μ := dw_ok.step (by rw [ho]; exact ⟨h, k⟩)
theorem q_iret {K : dw_K} {x : Int32} (ho : pr pc = o_iret K) (k : K (some (.int x)) μ) : dw_ok pr pc bc bs ls [.int x] μ := dw_ok.step (by rw [ho]; exact k)
theorem q_zret {K : dw_K} {x : Int32} (ho : pr pc = o_zret K) (h : x = 0 ∨ x = 1) (k : K (some (.int x)) μ) : dw_ok pr pc bc bs ls [.int x] μ := dw_ok.step (by rw [ho]; unfold o_zret; simp only []; rw [if_pos h]; exact k)
theorem q_vret {K : dw_K} (ho : pr pc = o_vret K) (k : K none μ) : dw_ok pr pc bc bs ls [] μ := dw_ok.step (by rw [ho]; exact k)
theorem q_pop {x : Int32} (ho : pr pc = o_pop nx) (k : dw_ok pr nx bc bs ls st μ) : dw_ok pr pc bc bs ls (.int x :: st) μ := dw_ok.step (by rw [ho]; exact k)
theorem q_ishr0 {x : Int32} (ho : pr pc = o_ishr nx) (k : dw_ok pr nx bc bs ls (.int x :: st) μ) : dw_ok pr pc bc bs ls (.int 0 :: .int x :: st) μ := dw_ok.step (by rw [ho]; show dw_ok pr nx bc bs ls (.int (x >>> ((0 : Int32) &&& 31)) :: st) μ; rw [show x >>> ((0 : Int32) &&& 31) = x from by simp]; exact k)
theorem q_callT1 {a : Nat} {T : dw_T} (ho : pr pc = o_callT 1 0 0 T nx) (h : dw_isS a) (hc : dw_cats st ≤ 8) (k : T [.ref a] μ (fun r μ' => dw_ok pr nx bc bs ls (r.toList ++ st) μ')) : dw_ok pr pc bc bs ls (.ref a :: st) μ :=
  dw_ok.step (by
    rw [ho]
    show (if dw_isS a ∧ [].length + 1 = 1 ∧ dw_cats st ≤ 8 ∧ 0 ≤ bc ∧ 0 ≤ bs then T [.ref a] μ (fun r μ' => dw_ok pr nx (bc - 0) (bs - 0) ls (r.toList ++ st) μ') else False)
    rw [if_pos ⟨h, rfl, hc, Nat.zero_le _, Nat.zero_le _⟩]
    exact k)
theorem q_callT2 {a : Nat} {x : Int32} {T : dw_T} (ho : pr pc = o_callT 2 0 0 T nx) (h : dw_isS a) (hc : dw_cats st ≤ 8) (k : T [.ref a, .int x] μ (fun r μ' => dw_ok pr nx bc bs ls (r.toList ++ st) μ')) : dw_ok pr pc bc bs ls (.int x :: .ref a :: st) μ :=
  dw_ok.step (by
    rw [ho]
    show (if dw_isS a ∧ [Value.int x].length + 1 = 2 ∧ dw_cats st ≤ 8 ∧ 0 ≤ bc ∧ 0 ≤ bs then T [.ref a, .int x] μ (fun r μ' => dw_ok pr nx (bc - 0) (bs - 0) ls (r.toList ++ st) μ') else False)
    rw [if_pos ⟨h, rfl, hc, Nat.zero_le _, Nat.zero_le _⟩]
    exact k)
theorem q_callS2 {u v : Value} {T : dw_T} (ho : pr pc = o_callS 2 0 0 T nx) (hc : dw_cats st ≤ 8) (k : T [u, v] μ (fun r μ' => dw_ok pr nx bc bs ls (r.toList ++ st) μ')) : dw_ok pr pc bc bs ls (v :: u :: st) μ :=
  dw_ok.step (by
    rw [ho]
    show (if [u, v].length = 2 ∧ dw_cats st ≤ 8 ∧ 0 ≤ bc ∧ 0 ≤ bs then T [u, v] μ (fun r μ' => dw_ok pr nx (bc - 0) (bs - 0) ls (r.toList ++ st) μ') else False)
    rw [if_pos ⟨rfl, hc, Nat.zero_le _, Nat.zero_le _⟩]
    exact k)
theorem q_callS3 {u v w : Value} {T : dw_T} (ho : pr pc = o_callS 3 0 0 T nx) (hc : dw_cats st ≤ 8) (k : T [u, v, w] μ (fun r μ' => dw_ok pr nx bc bs ls (r.toList ++ st) μ')) : dw_ok pr pc bc bs ls (w :: v :: u :: st) μ :=
  dw_ok.step (by
    rw [ho]
    show (if [u, v, w].length = 3 ∧ dw_cats st ≤ 8 ∧ 0 ≤ bc ∧ 0 ≤ bs then T [u, v, w] μ (fun r μ' => dw_ok pr nx (bc - 0) (bs - 0) ls (r.toList ++ st) μ') else False)
    rw [if_pos ⟨rfl, hc, Nat.zero_le _, Nat.zero_le _⟩]
    exact k)
theorem q_body {nL mc ms : Nat} {p : dw_K → Nat → dw_Op} {as : List Value} {K : dw_K} (h : (dw_inl as).length ≤ nL) (k : dw_ok (p K) 0 mc ms (dw_pad nL (dw_inl as)) [] μ) : dw_body nL mc ms p as μ K := by
  unfold dw_body
  rw [if_pos h]
  exact k
end
theorem t_coder {a : Nat} {μ : dw_S} {K : dw_K} (h : dw_isS a) (k : K (some (.int 0)) μ) : t_J0_coder_7d493 [.ref a] μ K := by
  refine q_body (Nat.le_refl 1) ?_
  refine q_gsi rfl ?_
  refine q_if0 rfl (by decide) ?_
  refine q_ald rfl rfl ?_
  refine q_xgc rfl h ?_
  refine q_goto rfl ?_
  exact q_nret rfl (by decide) k
theorem t_latin {a : Nat} {μ : dw_S} {K : dw_K} (h : dw_isS a) (k : K (some (.int 1)) μ) : t_J0_isLatin1_aae02 [.ref a] μ K := by
  refine q_body (Nat.le_refl 1) ?_
  refine q_gsi rfl ?_
  refine q_if0 rfl (by decide) ?_
  refine q_ald rfl rfl ?_
  refine q_xgc rfl h ?_
  refine q_ifn rfl ?_
  refine q_ic rfl ?_
  refine q_goto rfl ?_
  exact q_zret rfl (Or.inr rfl) k
theorem t_length {a : Nat} {μ : dw_S} {K : dw_K} (h : dw_isS a) (k : K (some (.int (Int32.ofNat (dw_sb (dw_sx a)).length))) μ) : t_J0_length_8abf5 [.ref a] μ K := by
  refine q_body (Nat.le_refl 1) ?_
  refine q_ald rfl rfl ?_
  refine q_xgv rfl h ?_
  refine q_xal rfl h ?_
  refine q_ald rfl rfl ?_
  refine q_callT1 rfl h (show 1 + 0 ≤ 8 by decide) (t_coder h ?_)
  refine q_ishr0 rfl ?_
  exact q_iret rfl k
theorem t_chk3 {x n : Int32} {v : Value} {μ : dw_S} {K : dw_K} (hv : v = .null ∨ v = .ref 1000100) (h0 : 0 ≤ x.toInt) (h1 : x.toInt < n.toInt) (k : K (some (.int x)) μ) : t_J3_checkIndex_8e157 [.int x, .int n, v] μ K := by
  have z : (0 : Int32).toInt = 0 := rfl
  rcases hv with rfl | rfl
  all_goals
    refine q_body (Nat.le_refl 3) ?_
    refine q_ild rfl rfl ?_
    refine q_if (c := 2) rfl (by decide) (fun hc => absurd hc (by show ¬ x.toInt < 0; omega)) (fun _ => ?_)
    refine q_ild rfl rfl ?_
    refine q_ild rfl rfl ?_
    refine q_icmp (c := 2) rfl (by decide) (fun _ => ?_) (fun hc => absurd hc (by show ¬ n.toInt ≤ x.toInt; omega))
    refine q_ild rfl rfl ?_
    exact q_iret rfl k
theorem t_chk {x n : Int32} {μ : dw_S} {K : dw_K} (h0 : 0 ≤ x.toInt) (h1 : x.toInt < n.toInt) (k : K none μ) : t_J0_checkIndex_df160 [.int x, .int n] μ K := by
  refine q_body (Nat.le_refl 2) ?_
  refine q_ild rfl rfl ?_
  refine q_ild rfl rfl ?_
  refine q_gsr rfl ?_ ?_
  · refine q_callS3 rfl (show 0 ≤ 8 by decide) (t_chk3 (Or.inl rfl) h0 h1 ?_)
    refine q_pop rfl ?_
    exact q_vret rfl k
  · refine q_callS3 rfl (show 0 ≤ 8 by decide) (t_chk3 (Or.inr rfl) h0 h1 ?_)
    refine q_pop rfl ?_
    exact q_vret rfl k
theorem chr_n (w : Int32) : (w &&& 255).toUInt32.toNat ≤ 255 := by
  show (w.toBitVec &&& (255 : Int32).toBitVec).toNat ≤ 255
  rw [BitVec.toNat_and]
  exact Nat.and_le_right
theorem chr_m (w : Int32) : ((w &&& 255).toUInt32 % 65536).toInt32 = w &&& 255 := by
  have h := chr_n w
  have e : (w &&& 255).toUInt32 % 65536 = (w &&& 255).toUInt32 := by
    apply UInt32.toNat_inj.mp
    rw [UInt32.toNat_mod]
    exact Nat.mod_eq_of_lt (Nat.lt_of_le_of_lt h (by decide))
  rw [e]
  rfl
theorem chr_nar (w : Int32) : narrow .char (.int (((w &&& 255).toUInt32 % 65536).toInt32)) = .int (((w &&& 255).toUInt32 % 65536).toInt32) := by
  rw [chr_m]
  show Value.int ((w &&& 255).toUInt32.toUInt16.toUInt32.toInt32) = _
  have h := chr_n w
  have e : (w &&& 255).toUInt32.toUInt16.toUInt32 = (w &&& 255).toUInt32 := by
    apply UInt32.toNat_inj.mp
    rw [UInt16.toNat_toUInt32, UInt32.toNat_toUInt16]
    exact Nat.mod_eq_of_lt (Nat.lt_of_le_of_lt h (by decide))
  rw [e]
  rfl
theorem t_chr1 {a : Nat} {j : Int32} {μ : dw_S} {K : dw_K} (h : dw_isS a) (h0 : 0 ≤ j.toInt) (h1 : j.toInt < (dw_sb (dw_sx a)).length) (hl : (Int32.ofNat (dw_sb (dw_sx a)).length).toInt = (dw_sb (dw_sx a)).length) (k : ∀ w : Int32, K (some (.int (((w &&& 255).toUInt32 % 65536).toInt32))) μ) : t_J1_charAt_3b067 [.ref (a + 100), .int j] μ K := by
  refine q_body (Nat.le_refl 2) ?_
  refine q_ild rfl rfl ?_
  refine q_ald rfl rfl ?_
  refine q_xal rfl h ?_
  refine q_callS2 rfl (show 0 ≤ 8 by decide) (t_chk h0 (by omega) ?_)
  refine q_ald rfl rfl ?_
  refine q_ild rfl rfl ?_
  refine q_xbl rfl h h0 h1 (fun w => ?_)
  refine q_ic rfl ?_
  refine q_and rfl ?_
  refine q_i2c rfl ?_
  exact q_nret rfl (chr_nar w) (k w)
theorem t_charAt {a : Nat} {j : Int32} {μ : dw_S} {K : dw_K} (h : dw_isS a) (h0 : 0 ≤ j.toInt) (h1 : j.toInt < (dw_sb (dw_sx a)).length) (hl : (Int32.ofNat (dw_sb (dw_sx a)).length).toInt = (dw_sb (dw_sx a)).length) (k : ∀ w : Int32, 0 ≤ w.toInt → w.toInt ≤ 65535 → K (some (.int w)) μ) : t_J0_charAt_5068e [.ref a, .int j] μ K := by
  refine q_body (Nat.le_refl 2) ?_
  refine q_ald rfl rfl ?_
  refine q_callT1 rfl h (show 0 ≤ 8 by decide) (t_latin h ?_)
  refine q_if0 rfl (by decide) ?_
  refine q_ald rfl rfl ?_
  refine q_xgv rfl h ?_
  refine q_ild rfl rfl ?_
  refine q_callS2 rfl (show 0 ≤ 8 by decide) (t_chr1 h h0 h1 hl (fun w => ?_))
  refine q_nret rfl (chr_nar w) (k _ ?_ ?_)
  all_goals
    rw [chr_m]
    have h2 : (0 : Int) ≤ (255 : Int32).toInt := by decide
    have h3 := dx_and (x := w) (y := 255) h2
    have e : (255 : Int32).toInt = 255 := rfl
    omega
end
section
/-! ===== contracts by hand: octet, peek, cells ===== -/
theorem ar1 {as : List Value} (h : as.length = 1) : ∃ x, as = [x] := by
  match as, h with
  | [x], _ => exact ⟨x, rfl⟩
theorem g_as1 {E : dx_Env} {md : List Nat} {n : Nat} {ν : Nat → Int} {μ : dw_S} {pre : dx_S} {as : List Value} {a : Nat} (g : dx_g E md n ν μ ν pre (as.map some) [] μ) (h : pre.ls = [(.inr (.inl [a]))]) : as = [.ref a] := by
  have gl := g.gl
  rw [h] at gl
  match as, gl with
  | [x], gl => rw [Option.some.inj (gV_th gl.1)]
theorem g_as2 {E : dx_Env} {md : List Nat} {n : Nat} {ν : Nat → Int} {μ : dw_S} {pre : dx_S} {as : List Value} {a s : Nat} {o : Int} (g : dx_g E md n ν μ ν pre (as.map some) [] μ) (h : pre.ls = [(.inr (.inl [a])), (.inl (s, o))]) : ∃ w : Int32, as = [.ref a, .int w] ∧ w.toInt = ν s + o := by
  have gl := g.gl
  rw [h] at gl
  match as, gl with
  | [x, y], gl =>
    obtain ⟨-, w, h1, h2⟩ := gl.2.1
    exact ⟨w, by rw [Option.some.inj (gV_th gl.1), Option.some.inj h1], h2⟩
theorem t_octet {μ : dw_S} {K : dw_K} {x : Int32} (k1 : (μ.2.1 404).1 = 12) (r1 : (μ.2.1 404).2.2 1 = some 405) (k2 : (μ.2.1 405).1 = 18) (n2 : (μ.2.1 405).2.1 = 940) (h0 : 0 ≤ x.toInt) (h1 : x.toInt < 940) (k : K (some (.int (μ.2.2.1 405 x.toInt.toNat &&& 255))) μ) : t_X12_octet [.ref 404, .int x] μ K := by
  refine q_body (Nat.le_refl 2) ?_
  refine q_ald rfl rfl ?_
  refine q_getr rfl k1 r1 ?_
  refine q_ild rfl rfl ?_
  refine q_xald rfl (Or.inr (Or.inr rfl)) k2 n2 h0 h1 ?_
  refine q_ic rfl ?_
  refine q_and rfl ?_
  exact q_iret rfl k
theorem t_cells {μ : dw_S} {K : dw_K} (k1 : (μ.2.1 404).1 = 12) (r1 : (μ.2.1 404).2.2 6 = some 406) (k2 : (μ.2.1 406).1 = 16) (n2 : (μ.2.1 406).2.1 = 1427) (k : K (some (.int (μ.2.2.1 406 0 * μ.2.2.1 406 1))) μ) : t_X12_cells [.ref 404] μ K := by
  refine q_body (Nat.le_refl 1) ?_
  refine q_ald rfl rfl ?_
  refine q_getr rfl k1 r1 ?_
  refine q_ic rfl ?_
  refine q_xald rfl (Or.inl rfl) k2 n2 (by decide) (by decide) ?_
  refine q_ald rfl rfl ?_
  refine q_getr rfl k1 r1 ?_
  refine q_ic rfl ?_
  refine q_xald rfl (Or.inl rfl) k2 n2 (by decide) (by decide) ?_
  refine q_mul rfl ?_
  exact q_iret rfl k
theorem t_peek {μ : dw_S} {K : dw_K} (k1 : (μ.2.1 404).1 = 12) (r1 : (μ.2.1 404).2.2 1 = some 405) (k2 : (μ.2.1 405).1 = 18) (n2 : (μ.2.1 405).2.1 = 940) (h0 : 0 ≤ (μ.2.2.1 404 4).toInt) (h1 : (μ.2.2.1 404 3).toInt ≤ 940)
    (ka : (μ.2.2.1 404 4).toInt < (μ.2.2.1 404 3).toInt → K (some (.int (μ.2.2.1 405 (μ.2.2.1 404 4).toInt.toNat &&& 255))) μ) (kb : ¬ (μ.2.2.1 404 4).toInt < (μ.2.2.1 404 3).toInt → K (some (.int (-1))) μ) : t_X12_peek [.ref 404] μ K := by
  refine q_body (Nat.le_refl 1) ?_
  refine q_ald rfl rfl ?_
  refine q_geti rfl k1 ?_
  refine q_ald rfl rfl ?_
  refine q_geti rfl k1 ?_
  refine q_icmp (c := 3) rfl (by decide) (fun hc => ?_) (fun hc => ?_)
  · have hc' : (μ.2.2.1 404 3).toInt ≤ (μ.2.2.1 404 4).toInt := hc
    refine q_ic rfl ?_
    exact q_iret rfl (kb (by omega))
  · have hc' : (μ.2.2.1 404 4).toInt < (μ.2.2.1 404 3).toInt := hc
    refine q_ald rfl rfl ?_
    refine q_getr rfl k1 r1 ?_
    refine q_ald rfl rfl ?_
    refine q_geti rfl k1 ?_
    refine q_xald rfl (Or.inr (Or.inr rfl)) k2 n2 h0 (by omega) ?_
    refine q_ic rfl ?_
    refine q_and rfl ?_
    refine q_goto rfl ?_
    exact q_iret rfl (ka hc')
section
variable {SH : dw_Sh} {TT : Nat → dw_T}
theorem e_404 (hE : (EE SH TT).ok) : (SH 404).1 = 12 ∧ (SH 404).2.2 1 = some 405 ∧ (SH 404).2.2 6 = some 406 ∧ (SH 405).1 = 18 ∧ (SH 405).2.1 = 940 ∧ (SH 406).1 = 16 ∧ (SH 406).2.1 = 1427 :=
  ⟨(hE.sh 404).1, (hE.sh 404).2.2 1, (hE.sh 404).2.2 6, (hE.sh 405).1, (hE.sh 405).2.1, (hE.sh 406).1, (hE.sh 406).2.1⟩
def oA (m j : Nat) : dx_Inst := ⟨m, ⟨[(0, 0), (-2147483648, 2147483647)], [], [(.inr (.inl [404])), (.inl (0, (j : Int)))], [], [], [(200 + j, 1, 0)]⟩, [⟨[(0, 0), (0, 255)], [], [(.inl (1, 0))], [], [], [(200 + j, 1, 0)]⟩], [], [], [], []⟩
def oB (m j : Nat) : dx_Inst := ⟨m, ⟨[(0, 0)], [], [(.inr (.inl [404])), (.inl (0, (j : Int)))], [], [], []⟩, [⟨[(0, 0), (0, 255)], [], [(.inl (1, 0))], [], [], [(200 + j, 1, 0)]⟩], [], [], [], []⟩
theorem ok_oA {m j : Nat} (hE : (EE SH TT).ok) (hT : TT m = t_X12_octet) (hj : j ≤ 15) : dx_OK (EE SH TT) (oA m j) := by
  intro ν as μ K g hK
  obtain ⟨w, rfl, hw⟩ := g_as2 g rfl
  have z0 := g.z
  have hw' : w.toInt = ν 0 + j := hw
  show TT m _ μ K
  rw [hT]
  obtain ⟨c1, c2, c3, c4, c5, c6, c7⟩ := e_404 hE
  have hs : μ.2.1 = SH := g.sh
  have p0 : fl_P (200 + j) (ν 1 + 0) μ.2.2.1 := (g.fl _ (List.Mem.head _)).2
  have p1 := (fl_oc2 hj).mp p0
  have ho := oc_rng μ.2.2.1 j
  refine t_octet (by rw [hs]; exact c1) (by rw [hs]; exact c2) (by rw [hs]; exact c4) (by rw [hs]; exact c5) (by omega) (by omega) ?_
  rw [show w.toInt.toNat = j by omega]
  refine hK (some (.int _)) μ ν _ (List.Mem.head _) (post_mk g rfl g.hi (fun _ _ => ⟨rfl, rfl⟩) (Nat.le_of_ble_eq_true rfl) (Nat.le_of_ble_eq_true rfl) (fun _ _ => rfl) ⟨(show (0 : Int) ≤ ν 0 ∧ ν 0 ≤ 0 from ⟨by omega, by omega⟩), (show (0 : Int) ≤ ν 1 ∧ ν 1 ≤ 255 from ⟨by omega, by omega⟩), trivial⟩ trivial ⟨⟨Nat.lt_succ_self 1, _, rfl, (show fl_oc μ.2.2.1 j = ν 1 + 0 by omega)⟩, trivial⟩ rfl trivial ⟨⟨Nat.lt_succ_self 1, p0⟩, trivial⟩)
theorem ok_oB {m j : Nat} (hE : (EE SH TT).ok) (hT : TT m = t_X12_octet) (hj : j ≤ 15) : dx_OK (EE SH TT) (oB m j) := by
  intro ν as μ K g hK
  obtain ⟨w, rfl, hw⟩ := g_as2 g rfl
  have z0 := g.z
  have hw' : w.toInt = ν 0 + j := hw
  show TT m _ μ K
  rw [hT]
  obtain ⟨c1, c2, c3, c4, c5, c6, c7⟩ := e_404 hE
  have hs : μ.2.1 = SH := g.sh
  have ho := oc_rng μ.2.2.1 j
  refine t_octet (by rw [hs]; exact c1) (by rw [hs]; exact c2) (by rw [hs]; exact c4) (by rw [hs]; exact c5) (by omega) (by omega) ?_
  rw [show w.toInt.toNat = j by omega]
  obtain ⟨ν', hag, hn⟩ := nu1 ν 1 (fl_oc μ.2.2.1 j)
  have a0 := hag 0 (by decide)
  refine hK (some (.int _)) μ ν' _ (List.Mem.head _) (post_mk g rfl g.hi (fun _ _ => ⟨rfl, rfl⟩) (Nat.le_of_ble_eq_true rfl) (Nat.le_of_ble_eq_true rfl) hag ⟨(show (0 : Int) ≤ ν' 0 ∧ ν' 0 ≤ 0 from ⟨by omega, by omega⟩), (show (0 : Int) ≤ ν' 1 ∧ ν' 1 ≤ 255 from ⟨by omega, by omega⟩), trivial⟩ trivial ⟨⟨Nat.lt_succ_self 1, _, rfl, (show fl_oc μ.2.2.1 j = ν' 1 + 0 by omega)⟩, trivial⟩ rfl trivial ⟨⟨Nat.lt_succ_self 1, (show fl_P (200 + j) (ν' 1 + 0) μ.2.2.1 from (fl_oc2 hj).mpr (by omega))⟩, trivial⟩)
def pA (m : Nat) : dx_Inst := ⟨m, ⟨[(0, 0), (-2147483648, 2147483647)], [], [(.inr (.inl [404]))], [], [], [(21, 1, 0)]⟩, [⟨[(0, 0), (-1, 255)], [], [(.inl (1, 0))], [], [], [(21, 1, 0)]⟩], [], [], [], []⟩
def pB (m : Nat) : dx_Inst := ⟨m, ⟨[(0, 0), (0, 940), (0, 940)], [], [(.inr (.inl [404]))], [], [(404, 4, 1, 0), (404, 3, 2, 0)], []⟩, [⟨[(0, 0), (0, 940), (0, 940)], [(2, 1, 0)], [(.inl (0, (-1)))], [], [], [(21, 0, -1)]⟩, ⟨[(0, 0), (0, 939), (0, 940), (0, 255)], [(1, 2, -1)], [(.inl (3, 0))], [], [], [(21, 3, 0)]⟩], [], [], [], []⟩
theorem hi_404_34 : dx_seg (dx_ce 404).iv 4 = (0, 940) ∧ dx_seg (dx_ce 404).iv 3 = (0, 940) := by constructor <;> decide +kernel
theorem ok_pA {m : Nat} (hE : (EE SH TT).ok) (hT : TT m = t_X12_peek) : dx_OK (EE SH TT) (pA m) := by
  intro ν as μ K g hK
  obtain rfl := g_as1 g rfl
  have z0 := g.z
  show TT m _ μ K
  rw [hT]
  obtain ⟨c1, c2, c3, c4, c5, c6, c7⟩ := e_404 hE
  have hs : μ.2.1 = SH := g.sh
  have h4 : dx_in (dx_seg (dx_ce 404).iv 4) (μ.2.2.1 404 4).toInt := g.hi 404 4
  have h3 : dx_in (dx_seg (dx_ce 404).iv 3) (μ.2.2.1 404 3).toInt := g.hi 404 3
  rw [hi_404_34.1] at h4
  rw [hi_404_34.2] at h3
  have h41 : (0 : Int) ≤ (μ.2.2.1 404 4).toInt := h4.1
  have h32 : (μ.2.2.1 404 3).toInt ≤ (940 : Int) := h3.2
  have p0 : fl_P 21 (ν 1 + 0) μ.2.2.1 := (g.fl _ (List.Mem.head _)).2
  have p1 : ((μ.2.2.1 404 4).toInt < (μ.2.2.1 404 3).toInt → (μ.2.2.1 404 4).toInt.toNat < 940 → ν 1 + 0 = fl_oc μ.2.2.1 (μ.2.2.1 404 4).toInt.toNat) ∧ (¬ (μ.2.2.1 404 4).toInt < (μ.2.2.1 404 3).toInt → ν 1 + 0 = -1) := p0
  refine t_peek (by rw [hs]; exact c1) (by rw [hs]; exact c2) (by rw [hs]; exact c4) (by rw [hs]; exact c5) h41 h32 (fun hl => ?_) (fun hl => ?_)
  · have ho := oc_rng μ.2.2.1 (μ.2.2.1 404 4).toInt.toNat
    have e := p1.1 hl (by omega)
    exact hK (some (.int _)) μ ν _ (List.Mem.head _) (post_mk g rfl g.hi (fun _ _ => ⟨rfl, rfl⟩) (Nat.le_of_ble_eq_true rfl) (Nat.le_of_ble_eq_true rfl) (fun _ _ => rfl) ⟨(show (0 : Int) ≤ ν 0 ∧ ν 0 ≤ 0 from ⟨by omega, by omega⟩), (show (-1 : Int) ≤ ν 1 ∧ ν 1 ≤ 255 from ⟨by omega, by omega⟩), trivial⟩ trivial ⟨⟨Nat.lt_succ_self 1, _, rfl, (show fl_oc μ.2.2.1 (μ.2.2.1 404 4).toInt.toNat = ν 1 + 0 by omega)⟩, trivial⟩ rfl trivial ⟨⟨Nat.lt_succ_self 1, p0⟩, trivial⟩)
  · have e := p1.2 hl
    exact hK (some (.int _)) μ ν _ (List.Mem.head _) (post_mk g rfl g.hi (fun _ _ => ⟨rfl, rfl⟩) (Nat.le_of_ble_eq_true rfl) (Nat.le_of_ble_eq_true rfl) (fun _ _ => rfl) ⟨(show (0 : Int) ≤ ν 0 ∧ ν 0 ≤ 0 from ⟨by omega, by omega⟩), (show (-1 : Int) ≤ ν 1 ∧ ν 1 ≤ 255 from ⟨by omega, by omega⟩), trivial⟩ trivial ⟨⟨Nat.lt_succ_self 1, _, rfl, (show (-1 : Int32).toInt = ν 1 + 0 by rw [e]; rfl)⟩, trivial⟩ rfl trivial ⟨⟨Nat.lt_succ_self 1, p0⟩, trivial⟩)
theorem ok_pB {m : Nat} (hE : (EE SH TT).ok) (hT : TT m = t_X12_peek) : dx_OK (EE SH TT) (pB m) := by
  intro ν as μ K g hK
  obtain rfl := g_as1 g rfl
  have z0 := g.z
  show TT m _ μ K
  rw [hT]
  obtain ⟨c1, c2, c3, c4, c5, c6, c7⟩ := e_404 hE
  have hs : μ.2.1 = SH := g.sh
  have f4 : (μ.2.2.1 404 4).toInt = ν 1 + 0 := (g.fa _ (List.Mem.head _)).2
  have f3 : (μ.2.2.1 404 3).toInt = ν 2 + 0 := (g.fa _ (List.Mem.tail _ (List.Mem.head _))).2
  have b1 : (0 : Int) ≤ ν 1 ∧ ν 1 ≤ 940 := g.iv 1 (Nat.le_of_ble_eq_true rfl)
  have b2 : (0 : Int) ≤ ν 2 ∧ ν 2 ≤ 940 := g.iv 2 (Nat.le_of_ble_eq_true rfl)
  refine t_peek (by rw [hs]; exact c1) (by rw [hs]; exact c2) (by rw [hs]; exact c4) (by rw [hs]; exact c5) (by omega) (by omega) (fun hl => ?_) (fun hl => ?_)
  · have ho := oc_rng μ.2.2.1 (μ.2.2.1 404 4).toInt.toNat
    obtain ⟨ν', hag, hn⟩ := nu1 ν 3 (fl_oc μ.2.2.1 (μ.2.2.1 404 4).toInt.toNat)
    have a0 := hag 0 (by decide)
    have a1 := hag 1 (by decide)
    have a2 := hag 2 (by decide)
    exact hK (some (.int _)) μ ν' _ (List.Mem.tail _ (List.Mem.head _)) (post_mk g rfl g.hi (fun _ _ => ⟨rfl, rfl⟩) (Nat.le_of_ble_eq_true rfl) (Nat.le_of_ble_eq_true rfl) hag ⟨(show (0 : Int) ≤ ν' 0 ∧ ν' 0 ≤ 0 from ⟨by omega, by omega⟩), (show (0 : Int) ≤ ν' 1 ∧ ν' 1 ≤ 939 from ⟨by omega, by omega⟩), (show (0 : Int) ≤ ν' 2 ∧ ν' 2 ≤ 940 from ⟨by omega, by omega⟩), (show (0 : Int) ≤ ν' 3 ∧ ν' 3 ≤ 255 from ⟨by omega, by omega⟩), trivial⟩ ⟨⟨by decide, by decide, (show ν' 1 - ν' 2 ≤ -1 by omega)⟩, trivial⟩ ⟨⟨by decide, _, rfl, (show fl_oc μ.2.2.1 (μ.2.2.1 404 4).toInt.toNat = ν' 3 + 0 by omega)⟩, trivial⟩ rfl trivial ⟨⟨by decide, (⟨fun _ _ => by show ν' 3 + 0 = _; omega, fun q => absurd hl q⟩ : fl_P 21 (ν' 3 + 0) μ.2.2.1)⟩, trivial⟩)
  · exact hK (some (.int _)) μ ν _ (List.Mem.head _) (post_mk g rfl g.hi (fun _ _ => ⟨rfl, rfl⟩) (Nat.le_of_ble_eq_true rfl) (Nat.le_of_ble_eq_true rfl) (fun _ _ => rfl) ⟨(show (0 : Int) ≤ ν 0 ∧ ν 0 ≤ 0 from ⟨by omega, by omega⟩), b1, b2, trivial⟩ ⟨⟨by decide, by decide, (show ν 2 - ν 1 ≤ 0 by omega)⟩, trivial⟩ ⟨⟨by decide, _, rfl, (show (-1 : Int32).toInt = ν 0 + -1 by rw [z0]; rfl)⟩, trivial⟩ rfl trivial ⟨⟨by decide, (⟨fun q => absurd q hl, fun _ => by show ν 0 + -1 = -1; omega⟩ : fl_P 21 (ν 0 + -1) μ.2.2.1)⟩, trivial⟩)
def cA (m : Nat) : dx_Inst := ⟨m, ⟨[(0, 0), (-2147483648, 2147483647)], [], [(.inr (.inl [404]))], [], [], [(5, 1, 0)]⟩, [⟨[(0, 0), (0, 144)], [], [(.inl (1, 0))], [], [], [(5, 1, 0)]⟩], [], [], [], []⟩
def cB (m : Nat) : dx_Inst := ⟨m, ⟨[(0, 0), (1, 12), (0, 12)], [], [(.inr (.inl [404]))], [], [(406, 0, 1, 0), (406, 1, 2, 0)], []⟩, [⟨[(0, 0), (1, 12), (0, 12), (0, 144)], [], [(.inl (3, 0))], [], [(406, 0, 1, 0), (406, 1, 2, 0)], [(5, 3, 0)]⟩], [], [], [], []⟩
theorem hi_406_01 : dx_seg (dx_ce 406).iv 0 = (0, 12) ∧ dx_seg (dx_ce 406).iv 1 = (0, 12) := by constructor <;> decide +kernel
theorem pr_144 {x y : Int32} (h1 : 0 ≤ x.toInt ∧ x.toInt ≤ 12) (h2 : 0 ≤ y.toInt ∧ y.toInt ≤ 12) : (x * y).toInt = x.toInt * y.toInt ∧ 0 ≤ x.toInt * y.toInt ∧ x.toInt * y.toInt ≤ 144 := by
  have m1 := Int.mul_nonneg h1.1 h2.1
  have m2 := Int.mul_le_mul h1.2 h2.2 h2.1 (by omega : (0 : Int) ≤ 12)
  exact ⟨i_mul rfl (by omega) (by omega), m1, by omega⟩
theorem ok_cA {m : Nat} (hE : (EE SH TT).ok) (hT : TT m = t_X12_cells) : dx_OK (EE SH TT) (cA m) := by
  intro ν as μ K g hK
  obtain rfl := g_as1 g rfl
  have z0 := g.z
  show TT m _ μ K
  rw [hT]
  obtain ⟨c1, c2, c3, c4, c5, c6, c7⟩ := e_404 hE
  have hs : μ.2.1 = SH := g.sh
  have h0 : dx_in (dx_seg (dx_ce 406).iv 0) (μ.2.2.1 406 0).toInt := g.hi 406 0
  have h1 : dx_in (dx_seg (dx_ce 406).iv 1) (μ.2.2.1 406 1).toInt := g.hi 406 1
  rw [hi_406_01.1] at h0
  rw [hi_406_01.2] at h1
  obtain ⟨e1, e2, e3⟩ := pr_144 h0 h1
  have p0 : fl_P 5 (ν 1 + 0) μ.2.2.1 := (g.fl _ (List.Mem.head _)).2
  have p1 : ν 1 + 0 = (μ.2.2.1 406 0).toInt * (μ.2.2.1 406 1).toInt := p0
  refine t_cells (by rw [hs]; exact c1) (by rw [hs]; exact c3) (by rw [hs]; exact c6) (by rw [hs]; exact c7) ?_
  exact hK (some (.int _)) μ ν _ (List.Mem.head _) (post_mk g rfl g.hi (fun _ _ => ⟨rfl, rfl⟩) (Nat.le_of_ble_eq_true rfl) (Nat.le_of_ble_eq_true rfl) (fun _ _ => rfl) ⟨(show (0 : Int) ≤ ν 0 ∧ ν 0 ≤ 0 from ⟨by omega, by omega⟩), (show (0 : Int) ≤ ν 1 ∧ ν 1 ≤ 144 from ⟨by omega, by omega⟩), trivial⟩ trivial ⟨⟨Nat.lt_succ_self 1, _, rfl, (by rw [e1]; omega)⟩, trivial⟩ rfl trivial ⟨⟨Nat.lt_succ_self 1, p0⟩, trivial⟩)
theorem ok_cB {m : Nat} (hE : (EE SH TT).ok) (hT : TT m = t_X12_cells) : dx_OK (EE SH TT) (cB m) := by
  intro ν as μ K g hK
  obtain rfl := g_as1 g rfl
  have z0 := g.z
  show TT m _ μ K
  rw [hT]
  obtain ⟨c1, c2, c3, c4, c5, c6, c7⟩ := e_404 hE
  have hs : μ.2.1 = SH := g.sh
  have f0 : (μ.2.2.1 406 0).toInt = ν 1 + 0 := (g.fa _ (List.Mem.head _)).2
  have f1 : (μ.2.2.1 406 1).toInt = ν 2 + 0 := (g.fa _ (List.Mem.tail _ (List.Mem.head _))).2
  have b1 : (1 : Int) ≤ ν 1 ∧ ν 1 ≤ 12 := g.iv 1 (Nat.le_of_ble_eq_true rfl)
  have b2 : (0 : Int) ≤ ν 2 ∧ ν 2 ≤ 12 := g.iv 2 (Nat.le_of_ble_eq_true rfl)
  obtain ⟨e1, e2, e3⟩ := pr_144 (x := μ.2.2.1 406 0) (y := μ.2.2.1 406 1) ⟨by omega, by omega⟩ ⟨by omega, by omega⟩
  obtain ⟨ν', hag, hn⟩ := nu1 ν 3 ((μ.2.2.1 406 0).toInt * (μ.2.2.1 406 1).toInt)
  have a0 := hag 0 (by decide)
  have a1 := hag 1 (by decide)
  have a2 := hag 2 (by decide)
  refine t_cells (by rw [hs]; exact c1) (by rw [hs]; exact c3) (by rw [hs]; exact c6) (by rw [hs]; exact c7) ?_
  exact hK (some (.int _)) μ ν' _ (List.Mem.head _) (post_mk g rfl g.hi (fun _ _ => ⟨rfl, rfl⟩) (Nat.le_of_ble_eq_true rfl) (Nat.le_of_ble_eq_true rfl) hag ⟨(show (0 : Int) ≤ ν' 0 ∧ ν' 0 ≤ 0 from ⟨by omega, by omega⟩), (show (1 : Int) ≤ ν' 1 ∧ ν' 1 ≤ 12 from ⟨by omega, by omega⟩), (show (0 : Int) ≤ ν' 2 ∧ ν' 2 ≤ 12 from ⟨by omega, by omega⟩), (show (0 : Int) ≤ ν' 3 ∧ ν' 3 ≤ 144 from ⟨by omega, by omega⟩), trivial⟩ trivial ⟨⟨by decide, _, rfl, (by rw [e1]; omega)⟩, trivial⟩ rfl ⟨⟨by decide, (show (μ.2.2.1 406 0).toInt = ν' 1 + 0 by omega)⟩, ⟨by decide, (show (μ.2.2.1 406 1).toInt = ν' 2 + 0 by omega)⟩, trivial⟩ ⟨⟨by decide, (show ν' 3 + 0 = (μ.2.2.1 406 0).toInt * (μ.2.2.1 406 1).toInt by omega)⟩, trivial⟩)
end
theorem isS_len : dw_strs.length = 28 := by decide +kernel
theorem isS (i : Nat) (h : i < 26) : dw_isS (1000001 + i) := ⟨Nat.le_add_right _ _, by rw [isS_len]; omega⟩
end
section
/-! ===== does: the loop over the steps, by hand ===== -/
section
variable {pr : Nat → dw_Op} {pc bc bs nx : Nat} {ls : dw_L} {st : List Value} {μ : dw_S}
theorem q_ist {i : Nat} {x : Int32} (ho : pr pc = o_ist i nx) (hf : dw_free ls i = true) (k : dw_ok pr nx bc bs (ls.set i (some (.int x))) st μ) : dw_ok pr pc bc bs ls (.int x :: st) μ := dw_ok.step (by rw [ho]; unfold o_ist; simp only []; rw [hf]; exact k)
theorem q_inc {i : Nat} {n x : Int32} (ho : pr pc = o_inc i n nx) (hl : ls[i]? = some (some (.int x))) (hf : dw_free ls i = true) (k : dw_ok pr nx bc bs (ls.set i (some (.int (x + n)))) st μ) : dw_ok pr pc bc bs ls st μ := dw_ok.step (by rw [ho]; unfold o_inc; rw [hl]; simp only []; rw [hf]; exact k)
theorem q_callV2 {ci a : Nat} {v : Value} {T : dw_T} (ho : pr pc = o_callV ci 2 0 0 T nx) (hk : (μ.2.1 a).1 = ci) (hc : dw_cats st ≤ 8) (k : T [.ref a, v] μ (fun r μ' => dw_ok pr nx bc bs ls (r.toList ++ st) μ')) : dw_ok pr pc bc bs ls (v :: .ref a :: st) μ :=
  dw_ok.step (by
    rw [ho]
    show (if (μ.2.1 a).1 = ci ∧ [v].length + 1 = 2 ∧ dw_cats st ≤ 8 ∧ 0 ≤ bc ∧ 0 ≤ bs then T [.ref a, v] μ (fun r μ' => dw_ok pr nx (bc - 0) (bs - 0) ls (r.toList ++ st) μ') else False)
    rw [if_pos ⟨hk, rfl, hc, Nat.zero_le _, Nat.zero_le _⟩]
    exact k)
end
def iStep (m : Nat) : dx_Inst := ⟨m, ⟨[(0, 0), (0, 143), (0, 12), (0, 12), (0, 8), (0, 12), (0, 144), (0, 940), (0, 144)], [], [(.inr (.inl [404])), (.inl (1, 0))], [], [(406, 0, 2, 0), (406, 1, 3, 0), (406, 2, 4, 0), (406, 3, 5, 0), (404, 38, 6, 0), (404, 2, 7, 0)], [(4, 8, 0), (5, 8, 0)]⟩,
  [⟨[(0, 0), (0, 143), (0, 12), (0, 12), (0, 8), (0, 12), (0, 144), (0, 940), (0, 144)], [], [], [], [(404, 38, 6, 0), (404, 2, 7, 0)], [(5, 8, 0), (4, 8, 0)]⟩], [404, 416, 417], [], [], []⟩
def dnν (a b c d e f g h : Int) : Nat → Int
  | 1 => a
  | 2 => b
  | 3 => c
  | 4 => d
  | 5 => e
  | 6 => f
  | 7 => g
  | 8 => h
  | _ => 0
theorem hi_406_4 : dx_seg (dx_ce 406).iv 0 = (0, 12) ∧ dx_seg (dx_ce 406).iv 1 = (0, 12) ∧ dx_seg (dx_ce 406).iv 2 = (0, 8) ∧ dx_seg (dx_ce 406).iv 3 = (0, 12) ∧ dx_seg (dx_ce 404).iv 38 = (0, 144) ∧ dx_seg (dx_ce 404).iv 2 = (0, 940) := by
  refine ⟨?_, ?_, ?_, ?_, ?_, ?_⟩ <;> decide +kernel
theorem does_step {SH : dw_Sh} {TT : Nat → dw_T} {m : Nat} (hT : TT m = t_X12_step) (hS : dx_OK (EE SH TT) (iStep m)) {μ : dw_S} {K : dw_K} {k : Int32} {x : Int} (hsh : μ.2.1 = SH) (hhi : ∀ a j, dx_in (dx_seg (dx_ce a).iv j) (μ.2.2.1 a j).toInt) (hk0 : 0 ≤ k.toInt) (hk1 : k.toInt ≤ 143)
    (hx : 0 ≤ x ∧ x ≤ 144) (f4 : fl_P 4 x μ.2.2.1) (f5 : fl_P 5 x μ.2.2.1)
    (hK : ∀ μ' : dw_S, μ'.2.1 = SH → (∀ a j, dx_in (dx_seg (dx_ce a).iv j) (μ'.2.2.1 a j).toInt) → (∀ a, a ∉ [404, 416, 417] → μ'.2.2.1 a = μ.2.2.1 a ∧ μ'.2.2.2 a = μ.2.2.2 a) → (μ'.2.2.1 404 38).toInt = (μ.2.2.1 404 38).toInt → (μ'.2.2.1 404 2).toInt = (μ.2.2.1 404 2).toInt → fl_P 4 x μ'.2.2.1 → fl_P 5 x μ'.2.2.1 → K none μ') : t_X12_step [.ref 404, .int k] μ K := by
  rw [← hT]
  obtain ⟨e0, e1, e2, e3, e38, e42⟩ := hi_406_4
  have i0 := hhi 406 0; rw [e0] at i0
  have i1 := hhi 406 1; rw [e1] at i1
  have i2 := hhi 406 2; rw [e2] at i2
  have i3 := hhi 406 3; rw [e3] at i3
  have i4 := hhi 404 38; rw [e38] at i4
  have i5 := hhi 404 2; rw [e42] at i5
  refine hS (dnν k.toInt (μ.2.2.1 406 0).toInt (μ.2.2.1 406 1).toInt (μ.2.2.1 406 2).toInt (μ.2.2.1 406 3).toInt (μ.2.2.1 404 38).toInt (μ.2.2.1 404 2).toInt x) [.ref 404, .int k] μ K ⟨hsh, hhi, fun _ _ => ⟨rfl, rfl⟩, rfl, Nat.le_refl _, Nat.le_of_ble_eq_true rfl, fun _ _ => rfl, ?_, fun q hq => absurd hq List.not_mem_nil, ?_, trivial, ?_, ?_⟩ ?_
  · intro s hs
    have hs8 : s < 9 := hs
    match s, hs8 with
    | 0, _ => exact ⟨Int.le_refl 0, Int.le_refl 0⟩
    | 1, _ => exact ⟨hk0, hk1⟩
    | 2, _ => exact i0
    | 3, _ => exact i1
    | 4, _ => exact i2
    | 5, _ => exact i3
    | 6, _ => exact i4
    | 7, _ => exact i5
    | 8, _ => exact hx
  · exact ⟨⟨404, List.Mem.head _, rfl⟩, ⟨Nat.le_of_ble_eq_true rfl, k, rfl, by show k.toInt = k.toInt + 0; omega⟩, trivial⟩
  · refine dx_aL.all (P := fun q => q.2.2.1 < 9 ∧ (μ.2.2.1 q.1 q.2.1).toInt = dnν k.toInt (μ.2.2.1 406 0).toInt (μ.2.2.1 406 1).toInt (μ.2.2.1 406 2).toInt (μ.2.2.1 406 3).toInt (μ.2.2.1 404 38).toInt (μ.2.2.1 404 2).toInt x q.2.2.1 + q.2.2.2) (l := [(406, 0, 2, 0), (406, 1, 3, 0), (406, 2, 4, 0), (406, 3, 5, 0), (404, 38, 6, 0), (404, 2, 7, 0)]) ?_
    refine ⟨⟨by decide, ?_⟩, ⟨by decide, ?_⟩, ⟨by decide, ?_⟩, ⟨by decide, ?_⟩, ⟨by decide, ?_⟩, ⟨by decide, ?_⟩, trivial⟩ <;> exact (Int.add_zero _).symm
  · refine dx_aL.all (P := fun q => q.2.1 < 9 ∧ fl_P q.1 (dnν k.toInt (μ.2.2.1 406 0).toInt (μ.2.2.1 406 1).toInt (μ.2.2.1 406 2).toInt (μ.2.2.1 406 3).toInt (μ.2.2.1 404 38).toInt (μ.2.2.1 404 2).toInt x q.2.1 + q.2.2) μ.2.2.1) (l := [(4, 8, 0), (5, 8, 0)]) ?_
    refine ⟨⟨by decide, ?_⟩, ⟨by decide, ?_⟩, trivial⟩
    · show fl_P 4 (x + 0) μ.2.2.1; rw [Int.add_zero]; exact f4
    · show fl_P 5 (x + 0) μ.2.2.1; rw [Int.add_zero]; exact f5
  · intro r μ' ν' P hP g'
    obtain rfl := List.mem_singleton.mp hP
    have hr : r = none := by
      have gl := g'.gl
      match r, gl with
      | none, _ => rfl
      | some _, gl => exact gl.elim
    subst hr
    have a6 : ν' 6 = (μ.2.2.1 404 38).toInt := g'.ag 6 (Nat.le_of_ble_eq_true rfl)
    have a7 : ν' 8 = x := g'.ag 8 (Nat.le_of_ble_eq_true rfl)
    have a8 : ν' 7 = (μ.2.2.1 404 2).toInt := g'.ag 7 (Nat.le_of_ble_eq_true rfl)
    have b2 : (μ'.2.2.1 404 2).toInt = ν' 7 + 0 := (g'.fa _ (List.Mem.tail _ (List.Mem.head _))).2
    have b38 : (μ'.2.2.1 404 38).toInt = ν' 6 + 0 := (g'.fa _ (List.Mem.head _)).2
    have b5 : fl_P 5 (ν' 8 + 0) μ'.2.2.1 := (g'.fl _ (List.Mem.head _)).2
    have b4 : fl_P 4 (ν' 8 + 0) μ'.2.2.1 := (g'.fl _ (List.Mem.tail _ (List.Mem.head _))).2
    rw [a7, Int.add_zero] at b4 b5
    exact hK μ' g'.sh g'.hi g'.fr (by omega) (by omega) b4 b5
theorem does_loop {SH : dw_Sh} {TT : Nat → dw_T} {K : dw_K} {m : Nat} (hT : TT m = t_X12_step) (hS : dx_OK (EE SH TT) (iStep m)) (k404 : (SH 404).1 = 12) {ls : dw_L} {rest : List Value} {n : Int32} {x : Int} {bc bs : Nat} (e0 : ls[0]? = some (some (.ref 404))) (e2 : ls[2]? = some (some (.int n))) (hl : 3 < ls.length) (hn : n.toInt ≤ 144) (hcat : dw_cats rest ≤ 4) (hx : 0 ≤ x ∧ x ≤ 144) (μ : dw_S)
    (hk : ∀ (i : Int32) (μ' : dw_S), μ'.2.1 = SH → (∀ a j, dx_in (dx_seg (dx_ce a).iv j) (μ'.2.2.1 a j).toInt) → (∀ a, a ∉ [404, 416, 417] → μ'.2.2.1 a = μ.2.2.1 a ∧ μ'.2.2.2 a = μ.2.2.2 a) → (μ'.2.2.1 404 2).toInt = (μ.2.2.1 404 2).toInt → dw_ok (pr_X12_does K) 49 bc bs (ls.set 3 (some (.int i))) rest μ') :
    ∀ (r : Nat) (i : Int32) (μ' : dw_S), (n.toInt - i.toInt).toNat ≤ r → 0 ≤ i.toInt → (i.toInt ≤ n.toInt ∨ i.toInt = 0) → (μ'.2.2.1 404 38).toInt + (n.toInt - i.toInt) ≤ 144 → fl_P 4 x μ'.2.2.1 → fl_P 5 x μ'.2.2.1 → μ'.2.1 = SH → (∀ a j, dx_in (dx_seg (dx_ce a).iv j) (μ'.2.2.1 a j).toInt) → (∀ a, a ∉ [404, 416, 417] → μ'.2.2.1 a = μ.2.2.1 a ∧ μ'.2.2.2 a = μ.2.2.2 a) → (μ'.2.2.1 404 2).toInt = (μ.2.2.1 404 2).toInt → dw_ok (pr_X12_does K) 20 bc bs (ls.set 3 (some (.int i))) rest μ' := by
  intro r
  induction r with
  | zero =>
    intro i μ' hr hi0 hi1 h38 f4 f5 hsh hhi hfr hz2
    refine q_ild rfl (by rw [List.getElem?_set_self hl]) ?_
    refine q_ild rfl (by rw [List.getElem?_set_ne (by decide)]; exact e2) ?_
    refine q_icmp (c := 3) rfl (by decide) (fun _ => hk i μ' hsh hhi hfr hz2) (fun hc => ?_)
    have hc' : i.toInt < n.toInt := hc
    omega
  | succ r ih =>
    intro i μ' hr hi0 hi1 h38 f4 f5 hsh hhi hfr hz2
    have fr2 : dw_free (ls.set 3 (some (.int i))) 3 = true := by
      show (match (ls.set 3 (some (.int i)))[2]? with | some (some v) => v.category == 1 | _ => true) = true
      rw [List.getElem?_set_ne (by decide), e2]; rfl
    refine q_ild rfl (by rw [List.getElem?_set_self hl]) ?_
    refine q_ild rfl (by rw [List.getElem?_set_ne (by decide)]; exact e2) ?_
    refine q_icmp (c := 3) rfl (by decide) (fun _ => hk i μ' hsh hhi hfr hz2) (fun hc => ?_)
    have hc' : i.toInt < n.toInt := hc
    have e0' : (ls.set 3 (some (.int i)))[0]? = some (some (.ref 404)) := by rw [List.getElem?_set_ne (by decide)]; exact e0
    have i38 := hhi 404 38
    rw [hi_406_4.2.2.2.2.1] at i38
    have i381 : (0 : Int) ≤ (μ'.2.2.1 404 38).toInt := i38.1
    refine q_ald rfl e0' ?_
    refine q_ald rfl e0' ?_
    refine q_geti rfl (by rw [hsh]; exact k404) ?_
    refine q_callV2 rfl (by rw [hsh]; exact k404) (by omega) ?_
    refine does_step hT hS hsh hhi i381 (by omega) hx f4 f5 (fun μ2 s2 hi2 fr2' e38 e42 f42 f52 => ?_)
    refine q_ald rfl e0' ?_
    refine q_dup rfl ?_
    refine q_geti rfl (by rw [s2]; exact k404) ?_
    refine q_ic rfl ?_
    refine q_add rfl ?_
    have c1 : (1 : Int32).toInt = 1 := rfl
    have t1 : (μ2.2.2.1 404 38 + 1).toInt = (μ2.2.2.1 404 38).toInt + 1 := by rw [i_add (by omega) (by omega)]; omega
    have t2 : (i + 1).toInt = i.toInt + 1 := by rw [i_add (by omega) (by omega)]; omega
    refine q_puti rfl (by rw [s2]; exact k404) ?_
    refine q_inc rfl (by rw [List.getElem?_set_self hl]) fr2 ?_
    rw [List.set_set]
    refine q_goto rfl ?_
    refine ih (i + 1) (dw_si μ2 404 38 (μ2.2.2.1 404 38 + 1)) (by omega) (by omega) (by omega) ?_ (up_keep 38 38 (Nat.le_refl _) (Nat.le_refl _) (by decide) f42) (up_keep 38 38 (Nat.le_refl _) (Nat.le_refl _) (by decide) f52) s2 ?_ ?_ ?_
    · show (dw_up μ2.2.2.1 404 38 (μ2.2.2.1 404 38 + 1) 404 38).toInt + _ ≤ 144
      rw [up_at]; omega
    · exact up_hi (E := EE SH TT) (μ := μ2) hi2 (by show dx_in (dx_seg (dx_ce 404).iv 38) _; rw [hi_406_4.2.2.2.2.1]; exact ⟨by show (0 : Int) ≤ _; omega, by show _ ≤ (144 : Int); omega⟩)
    · intro a ha
      have u1 := up_fr (μ := μ2) (a := 404) (j := 38) (x := μ2.2.2.1 404 38 + 1) (md := [404, 416, 417]) (List.Mem.head _) a ha
      have u2 := fr2' a ha
      have u3 := hfr a ha
      exact ⟨u1.1.trans (u2.1.trans u3.1), u1.2.trans (u2.2.trans u3.2)⟩
    · show (dw_up μ2.2.2.1 404 38 (μ2.2.2.1 404 38 + 1) 404 2).toInt = _
      rw [up_ne (Or.inr (by decide))]; omega
theorem sp_doesOn {SH : dw_Sh} {TT : Nat → dw_T} {K : dw_K} {m : Nat} (hE : (EE SH TT).ok) (hT : TT m = t_X12_step) (hS : dx_OK (EE SH TT) (iStep m)) : dx_SOKc (EE SH TT) (pr_X12_does K) 18 sg_doesOn := by
  intro ν ls vs args rest μ bc bs hvs hargs hcat g hk
  obtain ⟨v0, v1, v2, rfl, e0, e1, e3⟩ := vs3 (f := fun i => ls[i]?) (a := 0) (b := 2) (c := 3) hvs
  obtain rfl := ar0 hargs
  obtain ⟨g0, g1, -, -⟩ := g.gl
  rw [show v0 = some (.ref 404) from gV_th g0] at e0
  obtain ⟨-, w1, h1, q1⟩ := g1
  rw [h1] at e1
  have b1 : (0 : Int) ≤ ν 1 ∧ ν 1 ≤ 144 := g.iv 1 (by decide)
  have b7 : (0 : Int) ≤ ν 8 ∧ ν 8 ≤ 144 := g.iv 8 (by decide)
  have f2 : (μ.2.2.1 404 2).toInt = ν 7 + 0 := (g.fa _ (List.Mem.tail _ (List.Mem.tail _ (List.Mem.tail _ (List.Mem.tail _ (List.Mem.tail _ (List.Mem.head _))))))).2
  have p0 : fl_P 24 (ν 1 + 0) μ.2.2.1 := (g.fl _ (List.Mem.head _)).2
  have p1 : (μ.2.2.1 404 38).toInt + (ν 1 + 0) ≤ 144 := p0
  have p5 : fl_P 5 (ν 8 + 0) μ.2.2.1 := (g.fl _ (List.Mem.tail _ (List.Mem.head _))).2
  have p4 : fl_P 4 (ν 8 + 0) μ.2.2.1 := (g.fl _ (List.Mem.tail _ (List.Mem.tail _ (List.Mem.head _)))).2
  have z0 : ν 0 = 0 := g.z
  have hsh : μ.2.1 = SH := g.sh
  have k404 : (SH 404).1 = 12 := (hE.sh 404).1
  have c0 : (0 : Int32).toInt = 0 := rfl
  have fr : dw_free ls 3 = true := by
    show (match ls[2]? with | some (some v) => v.category == 1 | _ => true) = true
    rw [show ls[2]? = some (some (.int w1)) from e1]; rfl
  show dw_ok (pr_X12_does K) 18 bc bs ls rest μ
  refine q_ic rfl ?_
  refine q_ist rfl fr ?_
  have fin : ∀ (i : Int32) (μ' : dw_S), μ'.2.1 = SH → (∀ a j, dx_in (dx_seg (dx_ce a).iv j) (μ'.2.2.1 a j).toInt) → (∀ a, a ∉ [404, 416, 417] → μ'.2.2.1 a = μ.2.2.1 a ∧ μ'.2.2.2 a = μ.2.2.2 a) → (μ'.2.2.1 404 2).toInt = (μ.2.2.1 404 2).toInt → dw_ok (pr_X12_does K) 49 bc bs (ls.set 3 (some (.int i))) rest μ' := by
    intro i μ' s2 hi2 fr2 hz2
    have i38 := hi2 404 38
    rw [hi_406_4.2.2.2.2.1] at i38
    obtain ⟨ν', hag, hn⟩ := nu1 ν 9 (μ'.2.2.1 404 38).toInt
    refine hk 49 _ ν' [] [(3, i)] μ' rfl (List.Mem.head _) (post_mk g (s2.trans hsh.symm) hi2 fr2 (by decide) (by decide) hag ⟨?_, ?_, ?_, ?_, ?_, ?_, ?_, ?_, ?_, ?_, trivial⟩ trivial trivial rfl ⟨⟨by decide, ?_⟩, ⟨by decide, ?_⟩, trivial⟩ trivial)
    · rw [hag 0 (by decide)]; exact g.iv 0 (by decide)
    · rw [hag 1 (by decide)]; exact g.iv 1 (by decide)
    · rw [hag 2 (by decide)]; exact g.iv 2 (by decide)
    · rw [hag 3 (by decide)]; exact g.iv 3 (by decide)
    · rw [hag 4 (by decide)]; exact g.iv 4 (by decide)
    · rw [hag 5 (by decide)]; exact g.iv 5 (by decide)
    · rw [hag 6 (by decide)]; exact g.iv 6 (by decide)
    · rw [hag 7 (by decide)]; exact g.iv 7 (by decide)
    · rw [hag 8 (by decide)]; exact g.iv 8 (by decide)
    · rw [hn]; exact i38
    · rw [hn]; exact (Int.add_zero _).symm
    · rw [hag 7 (by decide), hz2]; exact f2
  rw [Int.add_zero] at p4 p5
  have hlen : 3 < ls.length := by
    have e3' : ls[3]? = some v2 := e3
    rw [List.getElem?_eq_some_iff] at e3'
    exact e3'.1
  exact does_loop hT hS k404 e0 e1 hlen (by omega) hcat b7 μ fin (w1.toInt).toNat 0 μ (by omega) (by omega) (Or.inr c0) (by omega) p4 p5 hsh g.hi (fun _ _ => ⟨rfl, rfl⟩) rfl
end
