/-! ===== more ops at a place ===== -/
def fi_max (x y : Int32) : Int32 := if x < y then y else x
def fi_min (x y : Int32) : Int32 := if y < x then y else x
def fi_abs (x : Int32) : Int32 := if 0 ≤ x then x else 0 - x
set_option maxRecDepth 8000 in
theorem fi_lt {x y : Int32} : x < y ↔ x.toInt < y.toInt := Int32.lt_iff_toInt_lt
set_option maxRecDepth 8000 in
theorem fi_le {x y : Int32} : x ≤ y ↔ x.toInt ≤ y.toInt := Int32.le_iff_toInt_le
set_option maxRecDepth 8000 in
theorem fi_max_i (x y : Int32) : (fi_max x y).toInt = max x.toInt y.toInt := by
  unfold fi_max
  by_cases h : x < y
  · rw [if_pos h]; rw [fi_lt] at h; omega
  · rw [if_neg h]; rw [fi_lt] at h; omega
set_option maxRecDepth 8000 in
theorem fi_min_i (x y : Int32) : (fi_min x y).toInt = min x.toInt y.toInt := by
  unfold fi_min
  by_cases h : y < x
  · rw [if_pos h]; rw [fi_lt] at h; omega
  · rw [if_neg h]; rw [fi_lt] at h; omega
set_option maxRecDepth 8000 in
theorem fi_nz {y : Int32} (h : y.toInt ≠ 0) : y ≠ 0 := fun e => h (by rw [e]; rfl)
set_option maxRecDepth 8000 in
theorem fi_z1 {y : Int32} (h : y.toInt = 0 ∨ y.toInt = 1) : y = 0 ∨ y = 1 := h.imp (fun e => dx_eqI.mpr e) (fun e => dx_eqI.mpr e)
set_option maxRecDepth 8000 in
theorem fi_b8 (x : Int32) : x.toInt8.toInt32.toInt8.toInt32 = x.toInt8.toInt32 := by
  rw [Int8.toInt8_toInt32]
section
variable {pr : Nat → dw_Op} {pc bc bs nx : Nat} {ls : dw_L} {st : List Value} {μ : dw_S}
set_option maxRecDepth 8000 in
theorem q_dupi {x : Int32} (ho : pr pc = o_dup nx) (k : dw_ok pr nx bc bs ls (.int x :: .int x :: st) μ) : dw_ok pr pc bc bs ls (.int x :: st) μ := dw_ok.step (by rw [ho]; exact k)
set_option maxRecDepth 8000 in
theorem q_ast {i a : Nat} (ho : pr pc = o_ast i nx) (hf : dw_free ls i = true) (k : dw_ok pr nx bc bs (ls.set i (some (.ref a))) st μ) : dw_ok pr pc bc bs ls (.ref a :: st) μ := dw_ok.step (by rw [ho]; unfold o_ast; simp only []; rw [hf]; exact k)
set_option maxRecDepth 8000 in
theorem q_astn {i : Nat} (ho : pr pc = o_ast i nx) (hf : dw_free ls i = true) (k : dw_ok pr nx bc bs (ls.set i (some .null)) st μ) : dw_ok pr pc bc bs ls (.null :: st) μ := dw_ok.step (by rw [ho]; unfold o_ast; simp only []; rw [hf]; exact k)
set_option maxRecDepth 8000 in
theorem q_aldn {i : Nat} (ho : pr pc = o_ald i nx) (hl : ls[i]? = some (some .null)) (k : dw_ok pr nx bc bs ls (.null :: st) μ) : dw_ok pr pc bc bs ls st μ := dw_ok.step (by rw [ho]; unfold o_ald; rw [hl]; exact k)
set_option maxRecDepth 8000 in
theorem q_lld {i : Nat} {x : Int64} (ho : pr pc = o_lld i nx) (hl : ls[i]? = some (some (.long x))) (k : dw_ok pr nx bc bs ls (.long x :: st) μ) : dw_ok pr pc bc bs ls st μ := dw_ok.step (by rw [ho]; unfold o_lld; rw [hl]; exact k)
set_option maxRecDepth 8000 in
theorem q_lc {v : Int64} (ho : pr pc = o_lc v nx) (k : dw_ok pr nx bc bs ls (.long v :: st) μ) : dw_ok pr pc bc bs ls st μ := dw_ok.step (by rw [ho]; exact k)
set_option maxRecDepth 8000 in
theorem q_nul (ho : pr pc = o_nul nx) (k : dw_ok pr nx bc bs ls (.null :: st) μ) : dw_ok pr pc bc bs ls st μ := dw_ok.step (by rw [ho]; exact k)
set_option maxRecDepth 8000 in
theorem q_str {i : Nat} (ho : pr pc = o_str i nx) (k : dw_ok pr nx bc bs ls (.ref (1000001 + i) :: st) μ) : dw_ok pr pc bc bs ls st μ := dw_ok.step (by rw [ho]; exact k)
set_option maxRecDepth 8000 in
theorem q_ifnn_r {a tg : Nat} (ho : pr pc = o_ifnn tg nx) (k : dw_ok pr tg bc bs ls st μ) : dw_ok pr pc bc bs ls (.ref a :: st) μ := dw_ok.step (by rw [ho]; exact k)
set_option maxRecDepth 8000 in
theorem q_ifnn_n {tg : Nat} (ho : pr pc = o_ifnn tg nx) (k : dw_ok pr nx bc bs ls st μ) : dw_ok pr pc bc bs ls (.null :: st) μ := dw_ok.step (by rw [ho]; exact k)
set_option maxRecDepth 8000 in
theorem q_ifnull_r {a tg : Nat} (ho : pr pc = o_ifnull tg nx) (k : dw_ok pr nx bc bs ls st μ) : dw_ok pr pc bc bs ls (.ref a :: st) μ := dw_ok.step (by rw [ho]; exact k)
set_option maxRecDepth 8000 in
theorem q_ifnull_n {tg : Nat} (ho : pr pc = o_ifnull tg nx) (k : dw_ok pr tg bc bs ls st μ) : dw_ok pr pc bc bs ls (.null :: st) μ := dw_ok.step (by rw [ho]; exact k)
set_option maxRecDepth 8000 in
theorem q_aret {K : dw_K} {a : Nat} (ho : pr pc = o_aret K) (k : K (some (.ref a)) μ) : dw_ok pr pc bc bs ls [.ref a] μ := dw_ok.step (by rw [ho]; exact k)
set_option maxRecDepth 8000 in
theorem q_aretn {K : dw_K} (ho : pr pc = o_aret K) (k : K (some .null) μ) : dw_ok pr pc bc bs ls [.null] μ := dw_ok.step (by rw [ho]; exact k)
set_option maxRecDepth 8000 in
theorem q_ior {x y : Int32} (ho : pr pc = o_ior nx) (k : dw_ok pr nx bc bs ls (.int (x ||| y) :: st) μ) : dw_ok pr pc bc bs ls (.int y :: .int x :: st) μ := dw_ok.step (by rw [ho]; exact k)
set_option maxRecDepth 8000 in
theorem q_ishl {x y : Int32} (ho : pr pc = o_ishl nx) (k : dw_ok pr nx bc bs ls (.int (x <<< (y &&& 31)) :: st) μ) : dw_ok pr pc bc bs ls (.int y :: .int x :: st) μ := dw_ok.step (by rw [ho]; exact k)
set_option maxRecDepth 8000 in
theorem q_ishr {x y : Int32} (ho : pr pc = o_ishr nx) (k : dw_ok pr nx bc bs ls (.int (x >>> (y &&& 31)) :: st) μ) : dw_ok pr pc bc bs ls (.int y :: .int x :: st) μ := dw_ok.step (by rw [ho]; exact k)
set_option maxRecDepth 8000 in
theorem q_iushr {x y : Int32} (ho : pr pc = o_iushr nx) (k : dw_ok pr nx bc bs ls (.int ((x.toUInt32 >>> (y.toUInt32 &&& Int32.toUInt32 31)).toInt32) :: st) μ) : dw_ok pr pc bc bs ls (.int y :: .int x :: st) μ := dw_ok.step (by rw [ho]; exact k)
set_option maxRecDepth 8000 in
theorem q_div {x y : Int32} (ho : pr pc = o_idiv nx) (h : y ≠ 0) (k : dw_ok pr nx bc bs ls (.int (x / y) :: st) μ) : dw_ok pr pc bc bs ls (.int y :: .int x :: st) μ := dw_ok.step (by rw [ho]; unfold o_idiv; simp only []; rw [if_neg h]; exact k)
set_option maxRecDepth 8000 in
theorem q_rem {x y : Int32} (ho : pr pc = o_irem nx) (h : y ≠ 0) (k : dw_ok pr nx bc bs ls (.int (x - x / y * y) :: st) μ) : dw_ok pr pc bc bs ls (.int y :: .int x :: st) μ := dw_ok.step (by rw [ho]; unfold o_irem; simp only []; rw [if_neg h]; exact k)
set_option maxRecDepth 8000 in
theorem q_neg {x : Int32} (ho : pr pc = o_ineg nx) (k : dw_ok pr nx bc bs ls (.int (-x) :: st) μ) : dw_ok pr pc bc bs ls (.int x :: st) μ := dw_ok.step (by rw [ho]; exact k)
set_option maxRecDepth 8000 in
theorem q_i2b {x : Int32} (ho : pr pc = o_i2b nx) (k : dw_ok pr nx bc bs ls (.int (x.toInt8.toInt32) :: st) μ) : dw_ok pr pc bc bs ls (.int x :: st) μ := dw_ok.step (by rw [ho]; exact k)
set_option maxRecDepth 8000 in
theorem q_lor {x y : Int64} (ho : pr pc = o_lor nx) (k : dw_ok pr nx bc bs ls (.long (x ||| y) :: st) μ) : dw_ok pr pc bc bs ls (.long y :: .long x :: st) μ := dw_ok.step (by rw [ho]; exact k)
set_option maxRecDepth 8000 in
theorem q_lshl {x : Int64} {y : Int32} (ho : pr pc = o_lshl nx) (k : dw_ok pr nx bc bs ls (.long (x <<< (y.toInt64 &&& 63)) :: st) μ) : dw_ok pr pc bc bs ls (.int y :: .long x :: st) μ := dw_ok.step (by rw [ho]; exact k)
set_option maxRecDepth 8000 in
theorem q_lcmp {x y : Int64} (ho : pr pc = o_lcmp nx) (k : dw_ok pr nx bc bs ls (.int (lg_cmp x y) :: st) μ) : dw_ok pr pc bc bs ls (.long y :: .long x :: st) μ := dw_ok.step (by rw [ho]; exact k)
set_option maxRecDepth 8000 in
theorem q_max {x y : Int32} (ho : pr pc = o_max nx) (h : Nat.ble (dw_cats st) 8 = true) (k : dw_ok pr nx bc bs ls (.int (fi_max x y) :: st) μ) : dw_ok pr pc bc bs ls (.int y :: .int x :: st) μ := dw_ok.step (by rw [ho]; unfold o_max; simp only []; rw [if_pos (Nat.le_of_ble_eq_true h)]; exact k)
set_option maxRecDepth 8000 in
theorem q_min {x y : Int32} (ho : pr pc = o_min nx) (h : Nat.ble (dw_cats st) 8 = true) (k : dw_ok pr nx bc bs ls (.int (fi_min x y) :: st) μ) : dw_ok pr pc bc bs ls (.int y :: .int x :: st) μ := dw_ok.step (by rw [ho]; unfold o_min; simp only []; rw [if_pos (Nat.le_of_ble_eq_true h)]; exact k)
set_option maxRecDepth 8000 in
theorem q_abs {x : Int32} (ho : pr pc = o_abs nx) (h : Nat.ble (dw_cats st) 8 = true) (k : dw_ok pr nx bc bs ls (.int (fi_abs x) :: st) μ) : dw_ok pr pc bc bs ls (.int x :: st) μ := dw_ok.step (by rw [ho]; unfold o_abs; simp only []; rw [if_pos (Nat.le_of_ble_eq_true h)]; exact k)
set_option maxRecDepth 8000 in
theorem q_getl {ci j a : Nat} (ho : pr pc = o_getf ci j 1 nx) (hk : (μ.2.1 a).1 = ci) (k : dw_ok pr nx bc bs ls (.long (μ.2.2.2 a j) :: st) μ) : dw_ok pr pc bc bs ls (.ref a :: st) μ :=
  dw_ok.step (by
    rw [ho]
    show (if (μ.2.1 a).1 = ci then dw_fitI 1 (μ.2.2.1 a j) (dw_ok pr nx bc bs ls (.long (μ.2.2.2 a j) :: st) μ) else False)
    rw [if_pos hk]
    exact k)
set_option maxRecDepth 8000 in
theorem q_putz {ci j a : Nat} {x : Int32} (ho : pr pc = o_puti ci j 3 nx) (hk : (μ.2.1 a).1 = ci) (hx : x = 0 ∨ x = 1) (k : dw_ok pr nx bc bs ls st (dw_si μ a j x)) : dw_ok pr pc bc bs ls (.int x :: .ref a :: st) μ :=
  dw_ok.step (by
    rw [ho]
    show (if (μ.2.1 a).1 = ci then dw_fitC 3 x (dw_ok pr nx bc bs ls st (dw_si μ a j x)) else False)
    rw [if_pos hk]
    show (if x = 0 ∨ x = 1 then _ else False)
    rw [if_pos hx]
    exact k)
set_option maxRecDepth 8000 in
theorem q_putl {ci j a : Nat} {x : Int64} (ho : pr pc = o_putl ci j nx) (hk : (μ.2.1 a).1 = ci) (k : dw_ok pr nx bc bs ls st (dw_sl μ a j x)) : dw_ok pr pc bc bs ls (.long x :: .ref a :: st) μ :=
  dw_ok.step (by
    rw [ho]
    show (if (μ.2.1 a).1 = ci then dw_ok pr nx bc bs ls st (dw_sl μ a j x) else False)
    rw [if_pos hk]
    exact k)
set_option maxRecDepth 8000 in
theorem q_xaldr {kd a b n : Nat} {x : Int32} (ho : pr pc = o_xald kd 2 nx) (hk : (μ.2.1 a).1 = kd) (hn : (μ.2.1 a).2.1 = n) (h0 : 0 ≤ x.toInt) (h1 : x.toInt < n) (hr : (μ.2.1 a).2.2 x.toInt.toNat = some b) (k : dw_ok pr nx bc bs ls (.ref b :: st) μ) : dw_ok pr pc bc bs ls (.int x :: .ref a :: st) μ :=
  dw_ok.step (by
    rw [ho]
    show (if (μ.2.1 a).1 = kd then (if ¬ x < 0 ∧ x.toNatClampNeg < (μ.2.1 a).2.1 then dw_fitI 2 (μ.2.2.1 a x.toNatClampNeg) (dw_ok pr nx bc bs ls (dw_rv ((μ.2.1 a).2.2 x.toNatClampNeg) :: st) μ) else False) else False)
    rw [if_pos hk, if_pos ⟨dx_nlt h0, by rw [hn, dx_tn]; omega⟩, dx_tn, hr]
    exact k)
set_option maxRecDepth 8000 in
theorem q_xaldl {a n : Nat} {x : Int32} (ho : pr pc = o_xald 17 1 nx) (hk : (μ.2.1 a).1 = 17) (hn : (μ.2.1 a).2.1 = n) (h0 : 0 ≤ x.toInt) (h1 : x.toInt < n) (k : dw_ok pr nx bc bs ls (.long (μ.2.2.2 a x.toInt.toNat) :: st) μ) : dw_ok pr pc bc bs ls (.int x :: .ref a :: st) μ :=
  dw_ok.step (by
    rw [ho]
    show (if (μ.2.1 a).1 = 17 then (if ¬ x < 0 ∧ x.toNatClampNeg < (μ.2.1 a).2.1 then dw_fitI 1 (μ.2.2.1 a x.toNatClampNeg) (dw_ok pr nx bc bs ls (.long (μ.2.2.2 a x.toNatClampNeg) :: st) μ) else False) else False)
    rw [if_pos hk, if_pos ⟨dx_nlt h0, by rw [hn, dx_tn]; omega⟩]
    exact k)
set_option maxRecDepth 8000 in
theorem q_iastb {kd a n : Nat} {x v : Int32} (ho : pr pc = o_iast kd 4 nx) (hk : (μ.2.1 a).1 = kd) (hn : (μ.2.1 a).2.1 = n) (h0 : 0 ≤ x.toInt) (h1 : x.toInt < n) (hv : v.toInt8.toInt32 = v) (k : dw_ok pr nx bc bs ls st (dw_si μ a x.toInt.toNat v)) : dw_ok pr pc bc bs ls (.int v :: .int x :: .ref a :: st) μ :=
  dw_ok.step (by
    rw [ho]
    show (if (μ.2.1 a).1 = kd then (if ¬ x < 0 ∧ x.toNatClampNeg < (μ.2.1 a).2.1 then dw_fitC 4 v (dw_ok pr nx bc bs ls st (dw_si μ a x.toNatClampNeg v)) else False) else False)
    rw [if_pos hk, if_pos ⟨dx_nlt h0, by rw [hn, dx_tn]; omega⟩]
    show (if v.toInt8.toInt32 = v then _ else False)
    rw [if_pos hv]
    exact k)
set_option maxRecDepth 8000 in
theorem q_alen2 {a kd N : Nat} (ho : pr pc = o_alen nx) (hk : (μ.2.1 a).1 = kd) (hn : (μ.2.1 a).2.1 = N) (h1 : ¬ kd = 999) (h2 : ¬ kd < 16) (k : dw_ok pr nx bc bs ls (.int (Int32.ofNat N) :: st) μ) : dw_ok pr pc bc bs ls (.ref a :: st) μ := by
  subst hk hn
  exact q_alen ho h1 h2 k
set_option maxRecDepth 8000 in
theorem q_callS {k : Nat} {T : dw_T} {as rest : List Value} (ho : pr pc = o_callS k 0 0 T nx) (h : dw_sp k st [] = (as, rest)) (h2 : as.length = k) (h3 : Nat.ble (dw_cats rest) 8 = true) (hT : T as μ (fun r μ' => dw_ok pr nx bc bs ls (r.toList ++ rest) μ')) : dw_ok pr pc bc bs ls st μ :=
  dw_ok.step (by
    rw [ho]
    unfold o_callS
    rw [h]
    show (if as.length = k ∧ dw_cats rest ≤ 8 ∧ 0 ≤ bc ∧ 0 ≤ bs then T as μ (fun r μ' => dw_ok pr nx (bc - 0) (bs - 0) ls (r.toList ++ rest) μ') else False)
    rw [if_pos ⟨h2, Nat.le_of_ble_eq_true h3, Nat.zero_le _, Nat.zero_le _⟩]
    exact hT)
set_option maxRecDepth 8000 in
theorem q_callW {ci k a : Nat} {T : dw_T} {as rest : List Value} (ho : pr pc = o_callV ci k 0 0 T nx) (h : dw_sp k st [] = (.ref a :: as, rest)) (h1 : (μ.2.1 a).1 = ci) (h2 : as.length + 1 = k) (h3 : Nat.ble (dw_cats rest) 8 = true) (hT : T (.ref a :: as) μ (fun r μ' => dw_ok pr nx bc bs ls (r.toList ++ rest) μ')) : dw_ok pr pc bc bs ls st μ :=
  q_callV ho h h1 h2 (Nat.le_of_ble_eq_true h3) hT
end
