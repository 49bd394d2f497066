theorem dw_sr_eq2 {n : Nat} {sh : dw_Sh} {I : Nat → Nat → Int32} {J : Nat → Nat → Int64} {a j j2 : Nat} {x : Option Nat} (h : j = j2) : dw_sr (n, sh, I, J) a j x = (n, sh_sr sh a j2 x, I, J) := by
  subst h
  rfl
theorem dw_si_eq2 {n : Nat} {sh : dw_Sh} {I : Nat → Nat → Int32} {J : Nat → Nat → Int64} {a j j2 : Nat} {x : Int32} (h : j = j2) : dw_si (n, sh, I, J) a j x = (n, sh, dw_up I a j2 x, J) := by
  subst h
  rfl
theorem dw_sl_eq2 {n : Nat} {sh : dw_Sh} {I : Nat → Nat → Int32} {J : Nat → Nat → Int64} {a j j2 : Nat} {x : Int64} (h : j = j2) : dw_sl (n, sh, I, J) a j x = (n, sh, I, dw_up J a j2 x) := by
  subst h
  rfl
theorem dw_nw_eq2 {n m N2 : Nat} {sh : dw_Sh} {I : Nat → Nat → Int32} {J : Nat → Nat → Int64} {kd N : Nat} (h : dw_Z n I J) (hm : n + 1 = m) (hN : N = N2) : dw_nw (n, sh, I, J) kd N = (m, sh_nw n sh kd N2, I, J) := by
  subst hN
  exact dw_nw_eq h hm
theorem dw_nm_eq2 {n0 m n2 k2 : Nat} {sh : dw_Sh} {I : Nat → Nat → Int32} {J : Nat → Nat → Int64} {n k : Nat} (h : dw_Z n0 I J) (hm : n0 + (1 + n) = m) (hn : n = n2) (hk : k = k2) : dw_nm (n0, sh, I, J) n k = (m, sh_nm n0 sh n2 k2, I, J) := by
  subst hn
  subst hk
  exact dw_nm_eq h hm
theorem dw_vt_eq {n a j x : Nat} {sh : dw_Sh} {I : Nat → Nat → Int32} {J : Nat → Nat → Int64} (h : (sh a).2.2 j = some x) : dw_vt 2 (n, sh, I, J) a j = .ref x := by
  show dw_rv ((sh a).2.2 j) = .ref x
  rw [h]
  rfl
theorem sh_sr_rat {sh : dw_Sh} {a j : Nat} {x : Option Nat} : ((sh_sr sh a j x) a).2.2 j = x := by
  unfold sh_sr
  rw [if_pos rfl]
  show (if j = j then x else _) = x
  rw [if_pos rfl]
theorem sh_sr_rj {sh : dw_Sh} {a j i : Nat} {x : Option Nat} (h : i ≠ j) : ((sh_sr sh a j x) a).2.2 i = (sh a).2.2 i := by
  unfold sh_sr
  rw [if_pos rfl]
  show (if i = j then x else _) = _
  rw [if_neg h]
theorem sh_sr_ra {sh : dw_Sh} {a b j i : Nat} {x : Option Nat} (h : b ≠ a) : ((sh_sr sh a j x) b).2.2 i = (sh b).2.2 i := by
  unfold sh_sr
  rw [if_neg h]
theorem sh_nw_r {sh : dw_Sh} {a n kd N i : Nat} (h : a < n) : ((sh_nw n sh kd N) a).2.2 i = (sh a).2.2 i := by rw [sh_nw_lt h]
theorem sh_nm_r {sh : dw_Sh} {a n0 n k i : Nat} (h : a < n0) : ((sh_nm n0 sh n k) a).2.2 i = (sh a).2.2 i := by rw [sh_nm_lt h]
theorem dw_Z.si {n a j : Nat} {x : Int32} {I : Nat → Nat → Int32} {J : Nat → Nat → Int64} (h : dw_Z n I J) (ha : a < n) : dw_Z n (dw_up I a j x) J := fun b hb i => ⟨by rw [dw_up_ne (by omega)]; exact (h b hb i).1, (h b hb i).2⟩
theorem dw_Z.sl {n a j : Nat} {x : Int64} {I : Nat → Nat → Int32} {J : Nat → Nat → Int64} (h : dw_Z n I J) (ha : a < n) : dw_Z n I (dw_up J a j x) := fun b hb i => ⟨(h b hb i).1, by rw [dw_up_ne (by omega)]; exact (h b hb i).2⟩
theorem sh_nw_k {sh : dw_Sh} {a n kd N : Nat} (h : a < n) : ((sh_nw n sh kd N) a).1 = (sh a).1 := by rw [sh_nw_lt h]
theorem sh_nm_k {sh : dw_Sh} {a n0 n k : Nat} (h : a < n0) : ((sh_nm n0 sh n k) a).1 = (sh a).1 := by rw [sh_nm_lt h]
theorem sh_nw_l {sh : dw_Sh} {a n kd N : Nat} (h : a < n) : ((sh_nw n sh kd N) a).2.1 = (sh a).2.1 := by rw [sh_nw_lt h]
theorem sh_nm_l {sh : dw_Sh} {a n0 n k : Nat} (h : a < n0) : ((sh_nm n0 sh n k) a).2.1 = (sh a).2.1 := by rw [sh_nm_lt h]
theorem sh_sr_l {sh : dw_Sh} {a b j : Nat} {x : Option Nat} : ((sh_sr sh b j x) a).2.1 = (sh a).2.1 := by
  unfold sh_sr
  by_cases h : a = b <;> simp [h]
theorem sh_nw_la {sh : dw_Sh} {n kd N : Nat} : ((sh_nw n sh kd N) n).2.1 = N := by
  unfold sh_nw
  rw [if_pos rfl]
theorem sh_nm_at {sh : dw_Sh} {n0 n k : Nat} : ((sh_nm n0 sh n k) n0).1 = 20 := by
  unfold sh_nm
  rw [if_pos rfl]
section
variable {pr : Nat → dw_Op} {pc bc bs nx bc' bs' : Nat} {ls : dw_L} {st : List Value} {n m : Nat} {sh : dw_Sh} {I : Nat → Nat → Int32} {J : Nat → Nat → Int64} {μ : dw_S}
theorem qi_ald {i a : Nat} (ho : pr pc = o_ald i nx) (hl : ls[i]? = some (some (.ref a))) (k : dw_ok pr nx bc bs ls (.ref a :: st) μ) : dw_ok pr pc bc bs ls st μ := dw_ok.step (by rw [ho]; unfold o_ald; rw [hl]; exact k)
theorem qi_ild {i : Nat} {x : Int32} (ho : pr pc = o_ild i nx) (hl : ls[i]? = some (some (.int x))) (k : dw_ok pr nx bc bs ls (.int x :: st) μ) : dw_ok pr pc bc bs ls st μ := dw_ok.step (by rw [ho]; unfold o_ild; rw [hl]; exact k)
theorem qi_ic {v : Int32} (ho : pr pc = o_ic v nx) (k : dw_ok pr nx bc bs ls (.int v :: st) μ) : dw_ok pr pc bc bs ls st μ := dw_ok.step (by rw [ho]; exact k)
theorem qi_lc {v : Int64} (ho : pr pc = o_lc v nx) (k : dw_ok pr nx bc bs ls (.long v :: st) μ) : dw_ok pr pc bc bs ls st μ := dw_ok.step (by rw [ho]; exact k)
theorem qi_goto (ho : pr pc = o_goto nx) (k : dw_ok pr nx bc bs ls st μ) : dw_ok pr pc bc bs ls st μ := dw_ok.step (by rw [ho]; exact k)
theorem qi_dup {a : Nat} (ho : pr pc = o_dup nx) (k : dw_ok pr nx bc bs ls (.ref a :: .ref a :: st) μ) : dw_ok pr pc bc bs ls (.ref a :: st) μ := dw_ok.step (by rw [ho]; exact k)
theorem qi_add {x y z : Int32} (ho : pr pc = o_iadd nx) (hv : x + y = z) (k : dw_ok pr nx bc bs ls (.int z :: st) μ) : dw_ok pr pc bc bs ls (.int y :: .int x :: st) μ := dw_ok.step (by rw [ho]; subst hv; exact k)
theorem qi_mul {x y z : Int32} (ho : pr pc = o_imul nx) (hv : x * y = z) (k : dw_ok pr nx bc bs ls (.int z :: st) μ) : dw_ok pr pc bc bs ls (.int y :: .int x :: st) μ := dw_ok.step (by rw [ho]; subst hv; exact k)
theorem qi_ist {i : Nat} {x : Int32} (ho : pr pc = o_ist i nx) (hf : dw_free ls i = true) (k : dw_ok pr nx bc bs (ls.set i (some (.int x))) st μ) : dw_ok pr pc bc bs ls (.int x :: st) μ := dw_ok.step (by rw [ho]; unfold o_ist; simp only []; rw [hf]; exact k)
theorem qi_inc {i : Nat} {v x y : Int32} (ho : pr pc = o_inc i v nx) (hl : ls[i]? = some (some (.int x))) (hf : dw_free ls i = true) (hv : x + v = y) (k : dw_ok pr nx bc bs (ls.set i (some (.int y))) st μ) : dw_ok pr pc bc bs ls st μ := dw_ok.step (by rw [ho]; subst hv; unfold o_inc; rw [hl]; simp only []; rw [hf]; exact k)
theorem qi_ge_y {x y : Int32} {tg : Nat} (ho : pr pc = o_icmp_ge tg nx) (h : y ≤ x) (k : dw_ok pr tg bc bs ls st μ) : dw_ok pr pc bc bs ls (.int y :: .int x :: st) μ := dw_ok.step (by rw [ho]; show (if y ≤ x then dw_ok pr tg bc bs ls st μ else dw_ok pr nx bc bs ls st μ); rw [if_pos h]; exact k)
theorem qi_ge_n {x y : Int32} {tg : Nat} (ho : pr pc = o_icmp_ge tg nx) (h : ¬ y ≤ x) (k : dw_ok pr nx bc bs ls st μ) : dw_ok pr pc bc bs ls (.int y :: .int x :: st) μ := dw_ok.step (by rw [ho]; show (if y ≤ x then dw_ok pr tg bc bs ls st μ else dw_ok pr nx bc bs ls st μ); rw [if_neg h]; exact k)
theorem qi_oinit {a : Nat} (ho : pr pc = o_oinit nx) (h : Nat.ble (dw_cats st) 8 = true) (k : dw_ok pr nx bc bs ls st μ) : dw_ok pr pc bc bs ls (.ref a :: st) μ := dw_ok.step (by rw [ho]; show (if dw_cats st ≤ 8 then dw_ok pr nx bc bs ls st μ else False); rw [if_pos (Nat.le_of_ble_eq_true h)]; exact k)
theorem qi_vret {K : dw_K} (ho : pr pc = o_vret K) (k : K none μ) : dw_ok pr pc bc bs ls [] μ := dw_ok.step (by rw [ho]; exact k)
theorem qi_new {ci N : Nat} (ho : pr pc = o_new ci N nx) (hz : dw_Z n I J) (hb : bc = bc' + 1) (hs : bs = bs' + N) (hn : n < 1000000) (hm : n + 1 = m) (k : ∀ sh' : dw_Sh, sh' = sh_nw n sh ci N → dw_ok pr nx bc' bs' ls (.ref n :: st) (m, sh', I, J)) : dw_ok pr pc bc bs ls st (n, sh, I, J) := by
  subst hm hb hs
  refine dw_ok.step ?_
  rw [ho]
  show (if 1 ≤ bc' + 1 ∧ N ≤ bs' + N ∧ n < 1000000 then dw_ok pr nx (bc' + 1 - 1) (bs' + N - N) ls (.ref n :: st) (dw_nw (n, sh, I, J) ci N) else False)
  rw [if_pos ⟨by omega, by omega, hn⟩, Nat.add_sub_cancel, Nat.add_sub_cancel, dw_nw_eq hz rfl]
  exact k _ rfl
theorem qi_newa {kd N : Nat} {x : Int32} (ho : pr pc = o_newa kd nx) (hz : dw_Z n I J) (h0 : ¬ x < 0) (hx : x.toNatClampNeg = N) (hb : bc = bc' + 1) (hs : bs = bs' + N) (hn : n < 1000000) (hN : Nat.ble N 50000000 = true) (hm : n + 1 = m) (k : ∀ sh' : dw_Sh, sh' = sh_nw n sh kd N → dw_ok pr nx bc' bs' ls (.ref n :: st) (m, sh', I, J)) : dw_ok pr pc bc bs ls (.int x :: st) (n, sh, I, J) := by
  subst hm hb hs hx
  refine dw_ok.step ?_
  rw [ho]
  show (if ¬ x < 0 ∧ 1 ≤ bc' + 1 ∧ x.toNatClampNeg ≤ bs' + x.toNatClampNeg ∧ n < 1000000 ∧ x.toNatClampNeg ≤ 50000000 then dw_ok pr nx (bc' + 1 - 1) (bs' + x.toNatClampNeg - x.toNatClampNeg) ls (.ref n :: st) (dw_nw (n, sh, I, J) kd x.toNatClampNeg) else False)
  rw [if_pos ⟨h0, by omega, by omega, hn, Nat.le_of_ble_eq_true hN⟩, Nat.add_sub_cancel, Nat.add_sub_cancel, dw_nw_eq hz rfl]
  exact k _ rfl
theorem qi_mna {N Kk : Nat} {x y : Int32} (ho : pr pc = o_mna nx) (hz : dw_Z n I J) (h0 : ¬ y < 0) (h1 : ¬ x < 0) (hy : y.toNatClampNeg = N) (hx : x.toNatClampNeg = Kk) (hb : bc = bc' + (1 + N)) (hs : bs = bs' + (N + N * Kk)) (hn : n + (1 + N) ≤ 1000000) (hN : Nat.ble N 50000000 = true) (hK : Nat.ble Kk 50000000 = true) (hm : n + (1 + N) = m) (k : ∀ sh' : dw_Sh, sh' = sh_nm n sh N Kk → dw_ok pr nx bc' bs' ls (.ref n :: st) (m, sh', I, J)) : dw_ok pr pc bc bs ls (.int x :: .int y :: st) (n, sh, I, J) := by
  subst hm hb hs hx hy
  refine dw_ok.step ?_
  rw [ho]
  show (if (¬ y < 0 ∧ ¬ x < 0) ∧ (1 + y.toNatClampNeg ≤ bc' + (1 + y.toNatClampNeg) ∧ y.toNatClampNeg + y.toNatClampNeg * x.toNatClampNeg ≤ bs' + (y.toNatClampNeg + y.toNatClampNeg * x.toNatClampNeg)) ∧ n + (1 + y.toNatClampNeg) ≤ 1000000 ∧ y.toNatClampNeg ≤ 50000000 ∧ x.toNatClampNeg ≤ 50000000 then dw_ok pr nx (bc' + (1 + y.toNatClampNeg) - (1 + y.toNatClampNeg)) (bs' + (y.toNatClampNeg + y.toNatClampNeg * x.toNatClampNeg) - (y.toNatClampNeg + y.toNatClampNeg * x.toNatClampNeg)) ls (.ref n :: st) (dw_nm (n, sh, I, J) y.toNatClampNeg x.toNatClampNeg) else False)
  rw [if_pos ⟨⟨h0, h1⟩, ⟨Nat.le_add_left _ _, Nat.le_add_left _ _⟩, hn, Nat.le_of_ble_eq_true hN, Nat.le_of_ble_eq_true hK⟩, Nat.add_sub_cancel, Nat.add_sub_cancel, dw_nm_eq hz rfl]
  exact k _ rfl
theorem qi_putr {ci j a x : Nat} (ho : pr pc = o_putr ci j nx) (hk : (sh a).1 = ci) (k : ∀ sh' : dw_Sh, sh' = sh_sr sh a j (some x) → dw_ok pr nx bc bs ls st (n, sh', I, J)) : dw_ok pr pc bc bs ls (.ref x :: .ref a :: st) (n, sh, I, J) := by
  refine dw_ok.step ?_
  rw [ho]
  show (if (sh a).1 = ci then dw_ok pr nx bc bs ls st (dw_sr (n, sh, I, J) a j (some x)) else False)
  rw [if_pos hk]
  exact k _ rfl
theorem qi_puti {ci j a : Nat} {x : Int32} (ho : pr pc = o_puti ci j 0 nx) (hk : (sh a).1 = ci) (k : ∀ I' : Nat → Nat → Int32, I' = dw_up I a j x → dw_ok pr nx bc bs ls st (n, sh, I', J)) : dw_ok pr pc bc bs ls (.int x :: .ref a :: st) (n, sh, I, J) := by
  refine dw_ok.step ?_
  rw [ho]
  show (if (sh a).1 = ci then dw_fitC 0 x (dw_ok pr nx bc bs ls st (dw_si (n, sh, I, J) a j x)) else False)
  rw [if_pos hk]
  exact k _ rfl
theorem qi_getr {ci j a b : Nat} (ho : pr pc = o_getf ci j 2 nx) (hk : (sh a).1 = ci) (hr : (sh a).2.2 j = some b) (k : dw_ok pr nx bc bs ls (.ref b :: st) (n, sh, I, J)) : dw_ok pr pc bc bs ls (.ref a :: st) (n, sh, I, J) := by
  refine dw_ok.step ?_
  rw [ho]
  show (if (sh a).1 = ci then dw_fitI 2 (I a j) (dw_ok pr nx bc bs ls (dw_rv ((sh a).2.2 j) :: st) (n, sh, I, J)) else False)
  rw [if_pos hk, hr]
  exact k
theorem qi_iast {kd a j N : Nat} {x v : Int32} (ho : pr pc = o_iast kd 0 nx) (hk : (sh a).1 = kd) (hn : (sh a).2.1 = N) (h0 : ¬ x < 0) (hj : x.toNatClampNeg = j) (hl : Nat.blt j N = true) (k : ∀ I' : Nat → Nat → Int32, I' = dw_up I a j v → dw_ok pr nx bc bs ls st (n, sh, I', J)) : dw_ok pr pc bc bs ls (.int v :: .int x :: .ref a :: st) (n, sh, I, J) := by
  refine dw_ok.step ?_
  rw [ho]
  show (if (sh a).1 = kd then (if ¬ x < 0 ∧ x.toNatClampNeg < (sh a).2.1 then dw_fitC 0 v (dw_ok pr nx bc bs ls st (dw_si (n, sh, I, J) a x.toNatClampNeg v)) else False) else False)
  rw [if_pos hk, if_pos ⟨h0, by rw [hj, hn]; exact Nat.le_of_ble_eq_true hl⟩, hj]
  exact k _ rfl
theorem qi_last {a j N : Nat} {x : Int32} {v : Int64} (ho : pr pc = o_last nx) (hk : (sh a).1 = 17) (hn : (sh a).2.1 = N) (h0 : ¬ x < 0) (hj : x.toNatClampNeg = j) (hl : Nat.blt j N = true) (k : ∀ J' : Nat → Nat → Int64, J' = dw_up J a j v → dw_ok pr nx bc bs ls st (n, sh, I, J')) : dw_ok pr pc bc bs ls (.long v :: .int x :: .ref a :: st) (n, sh, I, J) := by
  refine dw_ok.step ?_
  rw [ho]
  show (if (sh a).1 = 17 then (if ¬ x < 0 ∧ x.toNatClampNeg < (sh a).2.1 then dw_ok pr nx bc bs ls st (dw_sl (n, sh, I, J) a x.toNatClampNeg v) else False) else False)
  rw [if_pos hk, if_pos ⟨h0, by rw [hj, hn]; exact Nat.le_of_ble_eq_true hl⟩, hj]
  exact k _ rfl
theorem qi_aast {kd ci a b j N : Nat} {x : Int32} (ho : pr pc = o_aast kd ci nx) (hk : (sh a).1 = kd) (hb : (sh b).1 = ci) (hn : (sh a).2.1 = N) (h0 : ¬ x < 0) (hj : x.toNatClampNeg = j) (hl : Nat.blt j N = true) (k : ∀ sh' : dw_Sh, sh' = sh_sr sh a j (some b) → dw_ok pr nx bc bs ls st (n, sh', I, J)) : dw_ok pr pc bc bs ls (.ref b :: .int x :: .ref a :: st) (n, sh, I, J) := by
  refine dw_ok.step ?_
  rw [ho]
  show (if (sh a).1 = kd ∧ (sh b).1 = ci then (if ¬ x < 0 ∧ x.toNatClampNeg < (sh a).2.1 then dw_ok pr nx bc bs ls st (dw_sr (n, sh, I, J) a x.toNatClampNeg (some b)) else False) else False)
  rw [if_pos ⟨hk, hb⟩, if_pos ⟨h0, by rw [hj, hn]; exact Nat.le_of_ble_eq_true hl⟩, hj]
  exact k _ rfl
theorem qi_call {ci mc ms a : Nat} {T : dw_T} (ho : pr pc = o_callV ci 1 mc ms T nx) (hk : (sh a).1 = ci) (hc : Nat.ble (dw_cats st) 8 = true) (hb : bc = bc' + mc) (hs : bs = bs' + ms) (k : T [.ref a] (n, sh, I, J) (fun r μ' => dw_ok pr nx bc' bs' ls (r.toList ++ st) μ')) : dw_ok pr pc bc bs ls (.ref a :: st) (n, sh, I, J) := by
  subst hb hs
  refine dw_ok.step ?_
  rw [ho]
  show (if (sh a).1 = ci ∧ (([] : List Value).length + 1 = 1) ∧ dw_cats st ≤ 8 ∧ mc ≤ bc' + mc ∧ ms ≤ bs' + ms then T [.ref a] (n, sh, I, J) (fun r μ' => dw_ok pr nx (bc' + mc - mc) (bs' + ms - ms) ls (r.toList ++ st) μ') else False)
  rw [if_pos ⟨hk, rfl, Nat.le_of_ble_eq_true hc, Nat.le_add_left _ _, Nat.le_add_left _ _⟩, Nat.add_sub_cancel, Nat.add_sub_cancel]
  exact k
end
def f_X0_init (n : Nat) (sh : dw_Sh) (a : Nat) : dw_Sh := (sh_sr (sh_nw (n + 4) (sh_sr (sh_nw (n + 3) (sh_sr (sh_nw (n + 2) (sh_sr (sh_nw (n + 1) (sh_sr (sh_nw (n) sh 16 8) (a) 5 (some (n))) 16 8) (a) 6 (some (n + 1))) 16 8) (a) 7 (some (n + 2))) 16 144) (a) 8 (some (n + 3))) 16 144) (a) 9 (some (n + 4)))
def g_X0_init (n : Nat) (I : Nat → Nat → Int32) (a : Nat) : Nat → Nat → Int32 := (dw_up I (a) 4 500)
theorem f_X0_init_k {n a b : Nat} {sh : dw_Sh} (hb : b < n) : ((f_X0_init n sh a) b).1 = (sh b).1 := by
  unfold f_X0_init
  repeat (first | rw [sh_sr_k] | rw [sh_nw_k (by omega)] | rw [sh_nm_k (by omega)])
theorem f_X0_init_l {n a b : Nat} {sh : dw_Sh} (hb : b < n) : ((f_X0_init n sh a) b).2.1 = (sh b).2.1 := by
  unfold f_X0_init
  repeat (first | rw [sh_sr_l] | rw [sh_nw_l (by omega)] | rw [sh_nm_l (by omega)])
theorem f_X0_init_r {n a b j : Nat} {sh : dw_Sh} (hb : b < n) (hne : b ≠ a) : ((f_X0_init n sh a) b).2.2 j = (sh b).2.2 j := by
  unfold f_X0_init
  repeat (first | rfl | rw [sh_sr_ra hne] | rw [sh_sr_ra (by omega)] | rw [sh_nw_r (by omega)] | rw [sh_nm_r (by omega)])
theorem z_X0_init {n m a : Nat} {I : Nat → Nat → Int32} {J : Nat → Nat → Int64} (hz : dw_Z n I J) (hm : n + 5 = m) (ha : a < n) : dw_Z m (g_X0_init n I a) (J) := by
  subst hm
  exact (dw_Z.up (m := n + 5) (dw_Z.up (m := n + 4) (dw_Z.up (m := n + 3) (dw_Z.up (m := n + 2) (dw_Z.up (m := n + 1) (dw_Z.si (n := n) (a := a) hz ha) (by omega)) (by omega)) (by omega)) (by omega)) (by omega))
set_option maxHeartbeats 4000000 in
set_option maxRecDepth 20000 in
theorem e_X0_init {K : dw_K} {n m : Nat} {sh : dw_Sh} {I : Nat → Nat → Int32} {J : Nat → Nat → Int64} {a : Nat} (hz : dw_Z n I J) (hm : n + 5 = m) (hn : n + 5 ≤ 1000000) (ha : a < n) (hk : (sh a).1 = 0) (hK : K none (m, f_X0_init n sh a, g_X0_init n I a, J)) : t_X0_init [.ref a] (n, sh, I, J) K := by
  subst hm
  refine dw_enter rfl ?_
  show dw_ok (pr_X0_init K) 0 5 312 [some (.ref (a))] [] (n, sh, I, J)
  refine qi_ald rfl rfl ?_
  refine qi_oinit rfl rfl ?_
  refine qi_ald rfl rfl ?_
  refine qi_ic rfl ?_
  refine qi_puti rfl hk (fun I1 hI1 => ?_)
  have hz2 : dw_Z (n) I1 J := by rw [hI1]; exact dw_Z.si hz ha
  refine qi_ald rfl rfl ?_
  refine qi_ic rfl ?_
  refine qi_newa (m := n + 1) (N := 8) (bc' := 4) (bs' := 304) rfl hz2 (by decide) (by decide) rfl rfl (by omega) rfl rfl (fun s1 hs1 => ?_)
  have y3 : (s1 (n)).1 = 16 := by rw [hs1]; exact sh_nw_at
  have y4 : (s1 (n)).2.1 = 8 := by rw [hs1]; exact sh_nw_la
  have hz5 : dw_Z (n + 1) I1 J := dw_Z.up hz2 (by omega)
  have y6 : (s1 (a)).1 = 0 := by rw [hs1]; exact Eq.trans (sh_nw_k ha) hk
  refine qi_putr rfl y6 (fun s2 hs2 => ?_)
  have y7 : (s2 (a)).2.2 5 = some (n) := by rw [hs2]; exact sh_sr_rat
  refine qi_ald rfl rfl ?_
  refine qi_ic rfl ?_
  refine qi_newa (m := n + 2) (N := 8) (bc' := 3) (bs' := 296) rfl hz5 (by decide) (by decide) rfl rfl (by omega) rfl rfl (fun s3 hs3 => ?_)
  have y8 : (s3 (n + 1)).1 = 16 := by rw [hs3]; exact sh_nw_at
  have y9 : (s3 (n + 1)).2.1 = 8 := by rw [hs3]; exact sh_nw_la
  have hz10 : dw_Z (n + 2) I1 J := dw_Z.up hz5 (by omega)
  have y11 : (s2 (a)).1 = 0 := by rw [hs2]; exact Eq.trans sh_sr_k y6
  have y12 : (s3 (a)).1 = 0 := by rw [hs3]; exact Eq.trans (sh_nw_k (Nat.lt_add_right 1 ha)) y11
  refine qi_putr rfl y12 (fun s4 hs4 => ?_)
  have y13 : (s4 (a)).2.2 6 = some (n + 1) := by rw [hs4]; exact sh_sr_rat
  refine qi_ald rfl rfl ?_
  refine qi_ic rfl ?_
  refine qi_newa (m := n + 3) (N := 8) (bc' := 2) (bs' := 288) rfl hz10 (by decide) (by decide) rfl rfl (by omega) rfl rfl (fun s5 hs5 => ?_)
  have y14 : (s5 (n + 2)).1 = 16 := by rw [hs5]; exact sh_nw_at
  have y15 : (s5 (n + 2)).2.1 = 8 := by rw [hs5]; exact sh_nw_la
  have hz16 : dw_Z (n + 3) I1 J := dw_Z.up hz10 (by omega)
  have y17 : (s4 (a)).1 = 0 := by rw [hs4]; exact Eq.trans sh_sr_k y12
  have y18 : (s5 (a)).1 = 0 := by rw [hs5]; exact Eq.trans (sh_nw_k (Nat.lt_add_right 2 ha)) y17
  refine qi_putr rfl y18 (fun s6 hs6 => ?_)
  have y19 : (s6 (a)).2.2 7 = some (n + 2) := by rw [hs6]; exact sh_sr_rat
  refine qi_ald rfl rfl ?_
  refine qi_ic rfl ?_
  refine qi_newa (m := n + 4) (N := 144) (bc' := 1) (bs' := 144) rfl hz16 (by decide) (by decide) rfl rfl (by omega) rfl rfl (fun s7 hs7 => ?_)
  have y20 : (s7 (n + 3)).1 = 16 := by rw [hs7]; exact sh_nw_at
  have y21 : (s7 (n + 3)).2.1 = 144 := by rw [hs7]; exact sh_nw_la
  have hz22 : dw_Z (n + 4) I1 J := dw_Z.up hz16 (by omega)
  have y23 : (s6 (a)).1 = 0 := by rw [hs6]; exact Eq.trans sh_sr_k y18
  have y24 : (s7 (a)).1 = 0 := by rw [hs7]; exact Eq.trans (sh_nw_k (Nat.lt_add_right 3 ha)) y23
  refine qi_putr rfl y24 (fun s8 hs8 => ?_)
  have y25 : (s8 (a)).2.2 8 = some (n + 3) := by rw [hs8]; exact sh_sr_rat
  refine qi_ald rfl rfl ?_
  refine qi_ic rfl ?_
  refine qi_newa (m := n + 5) (N := 144) (bc' := 0) (bs' := 0) rfl hz22 (by decide) (by decide) rfl rfl (by omega) rfl rfl (fun s9 hs9 => ?_)
  have y26 : (s9 (n + 4)).1 = 16 := by rw [hs9]; exact sh_nw_at
  have y27 : (s9 (n + 4)).2.1 = 144 := by rw [hs9]; exact sh_nw_la
  have hz28 : dw_Z (n + 5) I1 J := dw_Z.up hz22 (by omega)
  have y29 : (s8 (a)).1 = 0 := by rw [hs8]; exact Eq.trans sh_sr_k y24
  have y30 : (s9 (a)).1 = 0 := by rw [hs9]; exact Eq.trans (sh_nw_k (Nat.lt_add_right 4 ha)) y29
  refine qi_putr rfl y30 (fun s10 hs10 => ?_)
  have y31 : (s10 (a)).2.2 9 = some (n + 4) := by rw [hs10]; exact sh_sr_rat
  refine qi_vret rfl ?_
  have es : s10 = f_X0_init n sh a := by
    rw [hs10, hs9, hs8, hs7, hs6, hs5, hs4, hs3, hs2, hs1]
    rfl
  have eI : I1 = g_X0_init n I a := by
    rw [hI1]
    rfl
  rw [es, eI]
  exact hK
theorem ea_X0_init {K : dw_K} {n m : Nat} {sh : dw_Sh} {I : Nat → Nat → Int32} {J : Nat → Nat → Int64} {a : Nat} (hz : dw_Z n I J) (hm : n + 5 = m) (hn : n + 5 ≤ 1000000) (ha : a < n) (hk : (sh a).1 = 0) (hK : ∀ sh' : dw_Sh, sh' = f_X0_init n sh a → ∀ I' : Nat → Nat → Int32, I' = g_X0_init n I a → K none (m, sh', I', J)) : t_X0_init [.ref a] (n, sh, I, J) K := e_X0_init hz hm hn ha hk (hK _ rfl _ rfl)
def f_X1_init (n : Nat) (sh : dw_Sh) (a : Nat) : dw_Sh := (sh_sr (sh_nm (n + 8) (sh_sr (sh_nw (n + 7) (sh_sr (sh_nw (n + 6) (sh_sr (f_X0_init (n + 1) (sh_nw (n) sh 0 10) (n)) (a) 0 (some (n))) 16 8) (a) 1 (some (n + 6))) 16 8) (a) 2 (some (n + 7))) 12 4) (a) 3 (some (n + 8)))
def g_X1_init (n : Nat) (I : Nat → Nat → Int32) (a : Nat) : Nat → Nat → Int32 := (g_X0_init (n + 1) I (n))
theorem f_X1_init_k {n a b : Nat} {sh : dw_Sh} (hb : b < n) : ((f_X1_init n sh a) b).1 = (sh b).1 := by
  unfold f_X1_init
  repeat (first | rw [sh_sr_k] | rw [sh_nw_k (by omega)] | rw [sh_nm_k (by omega)] | rw [f_X0_init_k (by omega)])
theorem f_X1_init_l {n a b : Nat} {sh : dw_Sh} (hb : b < n) : ((f_X1_init n sh a) b).2.1 = (sh b).2.1 := by
  unfold f_X1_init
  repeat (first | rw [sh_sr_l] | rw [sh_nw_l (by omega)] | rw [sh_nm_l (by omega)] | rw [f_X0_init_l (by omega)])
theorem f_X1_init_r {n a b j : Nat} {sh : dw_Sh} (hb : b < n) (hne : b ≠ a) : ((f_X1_init n sh a) b).2.2 j = (sh b).2.2 j := by
  unfold f_X1_init
  repeat (first | rfl | rw [sh_sr_ra hne] | rw [sh_sr_ra (by omega)] | rw [sh_nw_r (by omega)] | rw [sh_nm_r (by omega)] | rw [f_X0_init_r (by omega) (by omega)])
theorem z_X1_init {n m a : Nat} {I : Nat → Nat → Int32} {J : Nat → Nat → Int64} (hz : dw_Z n I J) (hm : n + 21 = m) (ha : a < n) : dw_Z m (g_X1_init n I a) (J) := by
  subst hm
  exact (dw_Z.up (m := n + 21) (dw_Z.up (m := n + 8) (dw_Z.up (m := n + 7) (z_X0_init (n := n + 1) (m := n + 6) (a := n) (dw_Z.up (m := n + 1) hz (by omega)) rfl (Nat.add_lt_add_left (k := n) (Nat.le_of_ble_eq_true rfl : 0 < 1))) (by omega)) (by omega)) (by omega))
set_option maxHeartbeats 4000000 in
set_option maxRecDepth 20000 in
theorem e_X1_init {K : dw_K} {n m : Nat} {sh : dw_Sh} {I : Nat → Nat → Int32} {J : Nat → Nat → Int64} {a : Nat} (hz : dw_Z n I J) (hm : n + 21 = m) (hn : n + 21 ≤ 1000000) (ha : a < n) (hk : (sh a).1 = 1) (hK : K none (m, f_X1_init n sh a, g_X1_init n I a, J)) : t_X1_init [.ref a] (n, sh, I, J) K := by
  subst hm
  refine dw_enter rfl ?_
  show dw_ok (pr_X1_init K) 0 21 398 [some (.ref (a))] [] (n, sh, I, J)
  refine qi_ald rfl rfl ?_
  refine qi_oinit rfl rfl ?_
  refine qi_ald rfl rfl ?_
  refine qi_new (m := n + 1) (bc' := 20) (bs' := 388) rfl hz rfl rfl (by omega) rfl (fun s1 hs1 => ?_)
  have y1 : (s1 (n)).1 = 0 := by rw [hs1]; exact sh_nw_at
  have hz2 : dw_Z (n + 1) I J := dw_Z.up hz (by omega)
  refine qi_dup rfl ?_
  refine qi_call (bc' := 15) (bs' := 76) rfl y1 rfl rfl rfl ?_
  refine ea_X0_init (n := n + 1) (m := n + 6) (a := n) hz2 rfl (by omega) (Nat.add_lt_add_left (k := n) (Nat.le_of_ble_eq_true rfl : 0 < 1)) y1 (fun s2 hs2 I3 hI3 => ?_)
  show dw_ok (pr_X1_init K) 12 15 76 [some (.ref (a))] [.ref (n), .ref (a)] (n + 6, s2, I3, J)
  have hz4 : dw_Z (n + 6) I3 J := by rw [hI3]; exact z_X0_init (n := n + 1) (m := n + 6) (a := n) hz2 rfl (Nat.add_lt_add_left (k := n) (Nat.le_of_ble_eq_true rfl : 0 < 1))
  have y5 : (s1 (a)).1 = 1 := by rw [hs1]; exact Eq.trans (sh_nw_k ha) hk
  have y6 : (s2 (a)).1 = 1 := by rw [hs2]; exact Eq.trans (f_X0_init_k (Nat.lt_add_right 1 ha)) y5
  refine qi_putr rfl y6 (fun s3 hs3 => ?_)
  have y7 : (s3 (a)).2.2 0 = some (n) := by rw [hs3]; exact sh_sr_rat
  refine qi_ald rfl rfl ?_
  refine qi_ic rfl ?_
  refine qi_newa (m := n + 7) (N := 8) (bc' := 14) (bs' := 68) rfl hz4 (by decide) (by decide) rfl rfl (by omega) rfl rfl (fun s4 hs4 => ?_)
  have y8 : (s4 (n + 6)).1 = 16 := by rw [hs4]; exact sh_nw_at
  have y9 : (s4 (n + 6)).2.1 = 8 := by rw [hs4]; exact sh_nw_la
  have hz10 : dw_Z (n + 7) I3 J := dw_Z.up hz4 (by omega)
  have y11 : (s3 (a)).1 = 1 := by rw [hs3]; exact Eq.trans sh_sr_k y6
  have y12 : (s4 (a)).1 = 1 := by rw [hs4]; exact Eq.trans (sh_nw_k (Nat.lt_add_right 6 ha)) y11
  refine qi_putr rfl y12 (fun s5 hs5 => ?_)
  have y13 : (s5 (a)).2.2 1 = some (n + 6) := by rw [hs5]; exact sh_sr_rat
  refine qi_ald rfl rfl ?_
  refine qi_ic rfl ?_
  refine qi_newa (m := n + 8) (N := 8) (bc' := 13) (bs' := 60) rfl hz10 (by decide) (by decide) rfl rfl (by omega) rfl rfl (fun s6 hs6 => ?_)
  have y14 : (s6 (n + 7)).1 = 16 := by rw [hs6]; exact sh_nw_at
  have y15 : (s6 (n + 7)).2.1 = 8 := by rw [hs6]; exact sh_nw_la
  have hz16 : dw_Z (n + 8) I3 J := dw_Z.up hz10 (by omega)
  have y17 : (s5 (a)).1 = 1 := by rw [hs5]; exact Eq.trans sh_sr_k y12
  have y18 : (s6 (a)).1 = 1 := by rw [hs6]; exact Eq.trans (sh_nw_k (Nat.lt_add_right 7 ha)) y17
  refine qi_putr rfl y18 (fun s7 hs7 => ?_)
  have y19 : (s7 (a)).2.2 2 = some (n + 7) := by rw [hs7]; exact sh_sr_rat
  refine qi_ald rfl rfl ?_
  refine qi_ic rfl ?_
  refine qi_ic rfl ?_
  refine qi_mna (m := n + 21) (N := 12) (Kk := 4) (bc' := 0) (bs' := 0) rfl hz16 (by decide) (by decide) (by decide) (by decide) rfl rfl (by omega) rfl rfl rfl (fun s8 hs8 => ?_)
  have hz20 : dw_Z (n + 21) I3 J := dw_Z.up hz16 (by omega)
  have y21 : (s7 (a)).1 = 1 := by rw [hs7]; exact Eq.trans sh_sr_k y18
  have y22 : (s8 (a)).1 = 1 := by rw [hs8]; exact Eq.trans (sh_nm_k (Nat.lt_add_right 8 ha)) y21
  refine qi_putr rfl y22 (fun s9 hs9 => ?_)
  have y23 : (s9 (a)).2.2 3 = some (n + 8) := by rw [hs9]; exact sh_sr_rat
  refine qi_vret rfl ?_
  have es : s9 = f_X1_init n sh a := by
    rw [hs9, hs8, hs7, hs6, hs5, hs4, hs3, hs2, hs1]
    rfl
  have eI : I3 = g_X1_init n I a := by
    rw [hI3]
    rfl
  rw [es, eI]
  exact hK
theorem ea_X1_init {K : dw_K} {n m : Nat} {sh : dw_Sh} {I : Nat → Nat → Int32} {J : Nat → Nat → Int64} {a : Nat} (hz : dw_Z n I J) (hm : n + 21 = m) (hn : n + 21 ≤ 1000000) (ha : a < n) (hk : (sh a).1 = 1) (hK : ∀ sh' : dw_Sh, sh' = f_X1_init n sh a → ∀ I' : Nat → Nat → Int32, I' = g_X1_init n I a → K none (m, sh', I', J)) : t_X1_init [.ref a] (n, sh, I, J) K := e_X1_init hz hm hn ha hk (hK _ rfl _ rfl)
def f_X2_init (n : Nat) (sh : dw_Sh) (a : Nat) : dw_Sh := (sh_sr (sh_nm (n) sh 5 144) (a) 1 (some (n)))
theorem f_X2_init_k {n a b : Nat} {sh : dw_Sh} (hb : b < n) : ((f_X2_init n sh a) b).1 = (sh b).1 := by
  unfold f_X2_init
  repeat (first | rw [sh_sr_k] | rw [sh_nw_k (by omega)] | rw [sh_nm_k (by omega)] | rw [f_X0_init_k (by omega)] | rw [f_X1_init_k (by omega)])
theorem f_X2_init_l {n a b : Nat} {sh : dw_Sh} (hb : b < n) : ((f_X2_init n sh a) b).2.1 = (sh b).2.1 := by
  unfold f_X2_init
  repeat (first | rw [sh_sr_l] | rw [sh_nw_l (by omega)] | rw [sh_nm_l (by omega)] | rw [f_X0_init_l (by omega)] | rw [f_X1_init_l (by omega)])
theorem f_X2_init_r {n a b j : Nat} {sh : dw_Sh} (hb : b < n) (hne : b ≠ a) : ((f_X2_init n sh a) b).2.2 j = (sh b).2.2 j := by
  unfold f_X2_init
  repeat (first | rfl | rw [sh_sr_ra hne] | rw [sh_sr_ra (by omega)] | rw [sh_nw_r (by omega)] | rw [sh_nm_r (by omega)] | rw [f_X0_init_r (by omega) (by omega)] | rw [f_X1_init_r (by omega) (by omega)])
theorem z_X2_init {n m a : Nat} {I : Nat → Nat → Int32} {J : Nat → Nat → Int64} (hz : dw_Z n I J) (hm : n + 6 = m) (ha : a < n) : dw_Z m (I) (J) := by
  subst hm
  exact (dw_Z.up (m := n + 6) hz (by omega))
set_option maxHeartbeats 4000000 in
set_option maxRecDepth 20000 in
theorem e_X2_init {K : dw_K} {n m : Nat} {sh : dw_Sh} {I : Nat → Nat → Int32} {J : Nat → Nat → Int64} {a : Nat} (hz : dw_Z n I J) (hm : n + 6 = m) (hn : n + 6 ≤ 1000000) (ha : a < n) (hk : (sh a).1 = 2) (hK : K none (m, f_X2_init n sh a, I, J)) : t_X2_init [.ref a] (n, sh, I, J) K := by
  subst hm
  refine dw_enter rfl ?_
  show dw_ok (pr_X2_init K) 0 6 725 [some (.ref (a))] [] (n, sh, I, J)
  refine qi_ald rfl rfl ?_
  refine qi_oinit rfl rfl ?_
  refine qi_ald rfl rfl ?_
  refine qi_ic rfl ?_
  refine qi_ic rfl ?_
  refine qi_mna (m := n + 6) (N := 5) (Kk := 144) (bc' := 0) (bs' := 0) rfl hz (by decide) (by decide) (by decide) (by decide) rfl rfl (by omega) rfl rfl rfl (fun s1 hs1 => ?_)
  have hz1 : dw_Z (n + 6) I J := dw_Z.up hz (by omega)
  have y2 : (s1 (a)).1 = 2 := by rw [hs1]; exact Eq.trans (sh_nm_k ha) hk
  refine qi_putr rfl y2 (fun s2 hs2 => ?_)
  have y3 : (s2 (a)).2.2 1 = some (n) := by rw [hs2]; exact sh_sr_rat
  refine qi_vret rfl ?_
  have es : s2 = f_X2_init n sh a := by
    rw [hs2, hs1]
    rfl
  rw [es]
  exact hK
theorem ea_X2_init {K : dw_K} {n m : Nat} {sh : dw_Sh} {I : Nat → Nat → Int32} {J : Nat → Nat → Int64} {a : Nat} (hz : dw_Z n I J) (hm : n + 6 = m) (hn : n + 6 ≤ 1000000) (ha : a < n) (hk : (sh a).1 = 2) (hK : ∀ sh' : dw_Sh, sh' = f_X2_init n sh a → K none (m, sh', I, J)) : t_X2_init [.ref a] (n, sh, I, J) K := e_X2_init hz hm hn ha hk (hK _ rfl)
def f_X3_init (n : Nat) (sh : dw_Sh) (a : Nat) : dw_Sh := (sh_sr (f_X2_init (n + 1) (sh_nw (n) sh 2 2) (n)) (a) 0 (some (n)))
theorem f_X3_init_k {n a b : Nat} {sh : dw_Sh} (hb : b < n) : ((f_X3_init n sh a) b).1 = (sh b).1 := by
  unfold f_X3_init
  repeat (first | rw [sh_sr_k] | rw [sh_nw_k (by omega)] | rw [sh_nm_k (by omega)] | rw [f_X0_init_k (by omega)] | rw [f_X1_init_k (by omega)] | rw [f_X2_init_k (by omega)])
theorem f_X3_init_l {n a b : Nat} {sh : dw_Sh} (hb : b < n) : ((f_X3_init n sh a) b).2.1 = (sh b).2.1 := by
  unfold f_X3_init
  repeat (first | rw [sh_sr_l] | rw [sh_nw_l (by omega)] | rw [sh_nm_l (by omega)] | rw [f_X0_init_l (by omega)] | rw [f_X1_init_l (by omega)] | rw [f_X2_init_l (by omega)])
theorem f_X3_init_r {n a b j : Nat} {sh : dw_Sh} (hb : b < n) (hne : b ≠ a) : ((f_X3_init n sh a) b).2.2 j = (sh b).2.2 j := by
  unfold f_X3_init
  repeat (first | rfl | rw [sh_sr_ra hne] | rw [sh_sr_ra (by omega)] | rw [sh_nw_r (by omega)] | rw [sh_nm_r (by omega)] | rw [f_X0_init_r (by omega) (by omega)] | rw [f_X1_init_r (by omega) (by omega)] | rw [f_X2_init_r (by omega) (by omega)])
theorem z_X3_init {n m a : Nat} {I : Nat → Nat → Int32} {J : Nat → Nat → Int64} (hz : dw_Z n I J) (hm : n + 7 = m) (ha : a < n) : dw_Z m (I) (J) := by
  subst hm
  exact (z_X2_init (n := n + 1) (m := n + 7) (a := n) (dw_Z.up (m := n + 1) hz (by omega)) rfl (Nat.add_lt_add_left (k := n) (Nat.le_of_ble_eq_true rfl : 0 < 1)))
set_option maxHeartbeats 4000000 in
set_option maxRecDepth 20000 in
theorem e_X3_init {K : dw_K} {n m : Nat} {sh : dw_Sh} {I : Nat → Nat → Int32} {J : Nat → Nat → Int64} {a : Nat} (hz : dw_Z n I J) (hm : n + 7 = m) (hn : n + 7 ≤ 1000000) (ha : a < n) (hk : (sh a).1 = 3) (hK : K none (m, f_X3_init n sh a, I, J)) : t_X3_init [.ref a] (n, sh, I, J) K := by
  subst hm
  refine dw_enter rfl ?_
  show dw_ok (pr_X3_init K) 0 7 727 [some (.ref (a))] [] (n, sh, I, J)
  refine qi_ald rfl rfl ?_
  refine qi_oinit rfl rfl ?_
  refine qi_ald rfl rfl ?_
  refine qi_new (m := n + 1) (bc' := 6) (bs' := 725) rfl hz rfl rfl (by omega) rfl (fun s1 hs1 => ?_)
  have y1 : (s1 (n)).1 = 2 := by rw [hs1]; exact sh_nw_at
  have hz2 : dw_Z (n + 1) I J := dw_Z.up hz (by omega)
  refine qi_dup rfl ?_
  refine qi_call (bc' := 0) (bs' := 0) rfl y1 rfl rfl rfl ?_
  refine ea_X2_init (n := n + 1) (m := n + 7) (a := n) hz2 rfl (by omega) (Nat.add_lt_add_left (k := n) (Nat.le_of_ble_eq_true rfl : 0 < 1)) y1 (fun s2 hs2 => ?_)
  show dw_ok (pr_X3_init K) 12 0 0 [some (.ref (a))] [.ref (n), .ref (a)] (n + 7, s2, I, J)
  have hz3 : dw_Z (n + 7) I J := z_X2_init (n := n + 1) (m := n + 7) (a := n) hz2 rfl (Nat.add_lt_add_left (k := n) (Nat.le_of_ble_eq_true rfl : 0 < 1))
  have y4 : (s1 (a)).1 = 3 := by rw [hs1]; exact Eq.trans (sh_nw_k ha) hk
  have y5 : (s2 (a)).1 = 3 := by rw [hs2]; exact Eq.trans (f_X2_init_k (Nat.lt_add_right 1 ha)) y4
  refine qi_putr rfl y5 (fun s3 hs3 => ?_)
  have y6 : (s3 (a)).2.2 0 = some (n) := by rw [hs3]; exact sh_sr_rat
  refine qi_vret rfl ?_
  have es : s3 = f_X3_init n sh a := by
    rw [hs3, hs2, hs1]
    rfl
  rw [es]
  exact hK
theorem ea_X3_init {K : dw_K} {n m : Nat} {sh : dw_Sh} {I : Nat → Nat → Int32} {J : Nat → Nat → Int64} {a : Nat} (hz : dw_Z n I J) (hm : n + 7 = m) (hn : n + 7 ≤ 1000000) (ha : a < n) (hk : (sh a).1 = 3) (hK : ∀ sh' : dw_Sh, sh' = f_X3_init n sh a → K none (m, sh', I, J)) : t_X3_init [.ref a] (n, sh, I, J) K := e_X3_init hz hm hn ha hk (hK _ rfl)
def f_X4_init (n : Nat) (sh : dw_Sh) (a : Nat) : dw_Sh := (sh_sr (sh_nw (n) sh 16 144) (a) 0 (some (n)))
theorem f_X4_init_k {n a b : Nat} {sh : dw_Sh} (hb : b < n) : ((f_X4_init n sh a) b).1 = (sh b).1 := by
  unfold f_X4_init
  repeat (first | rw [sh_sr_k] | rw [sh_nw_k (by omega)] | rw [sh_nm_k (by omega)] | rw [f_X0_init_k (by omega)] | rw [f_X1_init_k (by omega)] | rw [f_X2_init_k (by omega)] | rw [f_X3_init_k (by omega)])
theorem f_X4_init_l {n a b : Nat} {sh : dw_Sh} (hb : b < n) : ((f_X4_init n sh a) b).2.1 = (sh b).2.1 := by
  unfold f_X4_init
  repeat (first | rw [sh_sr_l] | rw [sh_nw_l (by omega)] | rw [sh_nm_l (by omega)] | rw [f_X0_init_l (by omega)] | rw [f_X1_init_l (by omega)] | rw [f_X2_init_l (by omega)] | rw [f_X3_init_l (by omega)])
theorem f_X4_init_r {n a b j : Nat} {sh : dw_Sh} (hb : b < n) (hne : b ≠ a) : ((f_X4_init n sh a) b).2.2 j = (sh b).2.2 j := by
  unfold f_X4_init
  repeat (first | rfl | rw [sh_sr_ra hne] | rw [sh_sr_ra (by omega)] | rw [sh_nw_r (by omega)] | rw [sh_nm_r (by omega)] | rw [f_X0_init_r (by omega) (by omega)] | rw [f_X1_init_r (by omega) (by omega)] | rw [f_X2_init_r (by omega) (by omega)] | rw [f_X3_init_r (by omega) (by omega)])
theorem z_X4_init {n m a : Nat} {I : Nat → Nat → Int32} {J : Nat → Nat → Int64} (hz : dw_Z n I J) (hm : n + 1 = m) (ha : a < n) : dw_Z m (I) (J) := by
  subst hm
  exact (dw_Z.up (m := n + 1) hz (by omega))
set_option maxHeartbeats 4000000 in
set_option maxRecDepth 20000 in
theorem e_X4_init {K : dw_K} {n m : Nat} {sh : dw_Sh} {I : Nat → Nat → Int32} {J : Nat → Nat → Int64} {a : Nat} (hz : dw_Z n I J) (hm : n + 1 = m) (hn : n + 1 ≤ 1000000) (ha : a < n) (hk : (sh a).1 = 4) (hK : K none (m, f_X4_init n sh a, I, J)) : t_X4_init [.ref a] (n, sh, I, J) K := by
  subst hm
  refine dw_enter rfl ?_
  show dw_ok (pr_X4_init K) 0 1 144 [some (.ref (a))] [] (n, sh, I, J)
  refine qi_ald rfl rfl ?_
  refine qi_oinit rfl rfl ?_
  refine qi_ald rfl rfl ?_
  refine qi_ic rfl ?_
  refine qi_newa (m := n + 1) (N := 144) (bc' := 0) (bs' := 0) rfl hz (by decide) (by decide) rfl rfl (by omega) rfl rfl (fun s1 hs1 => ?_)
  have y1 : (s1 (n)).1 = 16 := by rw [hs1]; exact sh_nw_at
  have y2 : (s1 (n)).2.1 = 144 := by rw [hs1]; exact sh_nw_la
  have hz3 : dw_Z (n + 1) I J := dw_Z.up hz (by omega)
  have y4 : (s1 (a)).1 = 4 := by rw [hs1]; exact Eq.trans (sh_nw_k ha) hk
  refine qi_putr rfl y4 (fun s2 hs2 => ?_)
  have y5 : (s2 (a)).2.2 0 = some (n) := by rw [hs2]; exact sh_sr_rat
  refine qi_vret rfl ?_
  have es : s2 = f_X4_init n sh a := by
    rw [hs2, hs1]
    rfl
  rw [es]
  exact hK
theorem ea_X4_init {K : dw_K} {n m : Nat} {sh : dw_Sh} {I : Nat → Nat → Int32} {J : Nat → Nat → Int64} {a : Nat} (hz : dw_Z n I J) (hm : n + 1 = m) (hn : n + 1 ≤ 1000000) (ha : a < n) (hk : (sh a).1 = 4) (hK : ∀ sh' : dw_Sh, sh' = f_X4_init n sh a → K none (m, sh', I, J)) : t_X4_init [.ref a] (n, sh, I, J) K := e_X4_init hz hm hn ha hk (hK _ rfl)
def f_X5_init (n : Nat) (sh : dw_Sh) (a : Nat) : dw_Sh := (sh_sr (sh_nm (n) sh 30 3) (a) 1 (some (n)))
theorem f_X5_init_k {n a b : Nat} {sh : dw_Sh} (hb : b < n) : ((f_X5_init n sh a) b).1 = (sh b).1 := by
  unfold f_X5_init
  repeat (first | rw [sh_sr_k] | rw [sh_nw_k (by omega)] | rw [sh_nm_k (by omega)] | rw [f_X0_init_k (by omega)] | rw [f_X1_init_k (by omega)] | rw [f_X2_init_k (by omega)] | rw [f_X3_init_k (by omega)] | rw [f_X4_init_k (by omega)])
theorem f_X5_init_l {n a b : Nat} {sh : dw_Sh} (hb : b < n) : ((f_X5_init n sh a) b).2.1 = (sh b).2.1 := by
  unfold f_X5_init
  repeat (first | rw [sh_sr_l] | rw [sh_nw_l (by omega)] | rw [sh_nm_l (by omega)] | rw [f_X0_init_l (by omega)] | rw [f_X1_init_l (by omega)] | rw [f_X2_init_l (by omega)] | rw [f_X3_init_l (by omega)] | rw [f_X4_init_l (by omega)])
theorem f_X5_init_r {n a b j : Nat} {sh : dw_Sh} (hb : b < n) (hne : b ≠ a) : ((f_X5_init n sh a) b).2.2 j = (sh b).2.2 j := by
  unfold f_X5_init
  repeat (first | rfl | rw [sh_sr_ra hne] | rw [sh_sr_ra (by omega)] | rw [sh_nw_r (by omega)] | rw [sh_nm_r (by omega)] | rw [f_X0_init_r (by omega) (by omega)] | rw [f_X1_init_r (by omega) (by omega)] | rw [f_X2_init_r (by omega) (by omega)] | rw [f_X3_init_r (by omega) (by omega)] | rw [f_X4_init_r (by omega) (by omega)])
theorem z_X5_init {n m a : Nat} {I : Nat → Nat → Int32} {J : Nat → Nat → Int64} (hz : dw_Z n I J) (hm : n + 31 = m) (ha : a < n) : dw_Z m (I) (J) := by
  subst hm
  exact (dw_Z.up (m := n + 31) hz (by omega))
set_option maxHeartbeats 4000000 in
set_option maxRecDepth 20000 in
theorem e_X5_init {K : dw_K} {n m : Nat} {sh : dw_Sh} {I : Nat → Nat → Int32} {J : Nat → Nat → Int64} {a : Nat} (hz : dw_Z n I J) (hm : n + 31 = m) (hn : n + 31 ≤ 1000000) (ha : a < n) (hk : (sh a).1 = 5) (hK : K none (m, f_X5_init n sh a, I, J)) : t_X5_init [.ref a] (n, sh, I, J) K := by
  subst hm
  refine dw_enter rfl ?_
  show dw_ok (pr_X5_init K) 0 31 120 [some (.ref (a))] [] (n, sh, I, J)
  refine qi_ald rfl rfl ?_
  refine qi_oinit rfl rfl ?_
  refine qi_ald rfl rfl ?_
  refine qi_ic rfl ?_
  refine qi_ic rfl ?_
  refine qi_mna (m := n + 31) (N := 30) (Kk := 3) (bc' := 0) (bs' := 0) rfl hz (by decide) (by decide) (by decide) (by decide) rfl rfl (by omega) rfl rfl rfl (fun s1 hs1 => ?_)
  have hz1 : dw_Z (n + 31) I J := dw_Z.up hz (by omega)
  have y2 : (s1 (a)).1 = 5 := by rw [hs1]; exact Eq.trans (sh_nm_k ha) hk
  refine qi_putr rfl y2 (fun s2 hs2 => ?_)
  have y3 : (s2 (a)).2.2 1 = some (n) := by rw [hs2]; exact sh_sr_rat
  refine qi_vret rfl ?_
  have es : s2 = f_X5_init n sh a := by
    rw [hs2, hs1]
    rfl
  rw [es]
  exact hK
theorem ea_X5_init {K : dw_K} {n m : Nat} {sh : dw_Sh} {I : Nat → Nat → Int32} {J : Nat → Nat → Int64} {a : Nat} (hz : dw_Z n I J) (hm : n + 31 = m) (hn : n + 31 ≤ 1000000) (ha : a < n) (hk : (sh a).1 = 5) (hK : ∀ sh' : dw_Sh, sh' = f_X5_init n sh a → K none (m, sh', I, J)) : t_X5_init [.ref a] (n, sh, I, J) K := e_X5_init hz hm hn ha hk (hK _ rfl)
def f_X6_init (n : Nat) (sh : dw_Sh) (a : Nat) : dw_Sh := (sh_sr (f_X5_init (n + 1) (sh_nw (n) sh 5 2) (n)) (a) 0 (some (n)))
theorem f_X6_init_k {n a b : Nat} {sh : dw_Sh} (hb : b < n) : ((f_X6_init n sh a) b).1 = (sh b).1 := by
  unfold f_X6_init
  repeat (first | rw [sh_sr_k] | rw [sh_nw_k (by omega)] | rw [sh_nm_k (by omega)] | rw [f_X0_init_k (by omega)] | rw [f_X1_init_k (by omega)] | rw [f_X2_init_k (by omega)] | rw [f_X3_init_k (by omega)] | rw [f_X4_init_k (by omega)] | rw [f_X5_init_k (by omega)])
theorem f_X6_init_l {n a b : Nat} {sh : dw_Sh} (hb : b < n) : ((f_X6_init n sh a) b).2.1 = (sh b).2.1 := by
  unfold f_X6_init
  repeat (first | rw [sh_sr_l] | rw [sh_nw_l (by omega)] | rw [sh_nm_l (by omega)] | rw [f_X0_init_l (by omega)] | rw [f_X1_init_l (by omega)] | rw [f_X2_init_l (by omega)] | rw [f_X3_init_l (by omega)] | rw [f_X4_init_l (by omega)] | rw [f_X5_init_l (by omega)])
theorem f_X6_init_r {n a b j : Nat} {sh : dw_Sh} (hb : b < n) (hne : b ≠ a) : ((f_X6_init n sh a) b).2.2 j = (sh b).2.2 j := by
  unfold f_X6_init
  repeat (first | rfl | rw [sh_sr_ra hne] | rw [sh_sr_ra (by omega)] | rw [sh_nw_r (by omega)] | rw [sh_nm_r (by omega)] | rw [f_X0_init_r (by omega) (by omega)] | rw [f_X1_init_r (by omega) (by omega)] | rw [f_X2_init_r (by omega) (by omega)] | rw [f_X3_init_r (by omega) (by omega)] | rw [f_X4_init_r (by omega) (by omega)] | rw [f_X5_init_r (by omega) (by omega)])
theorem z_X6_init {n m a : Nat} {I : Nat → Nat → Int32} {J : Nat → Nat → Int64} (hz : dw_Z n I J) (hm : n + 32 = m) (ha : a < n) : dw_Z m (I) (J) := by
  subst hm
  exact (z_X5_init (n := n + 1) (m := n + 32) (a := n) (dw_Z.up (m := n + 1) hz (by omega)) rfl (Nat.add_lt_add_left (k := n) (Nat.le_of_ble_eq_true rfl : 0 < 1)))
set_option maxHeartbeats 4000000 in
set_option maxRecDepth 20000 in
theorem e_X6_init {K : dw_K} {n m : Nat} {sh : dw_Sh} {I : Nat → Nat → Int32} {J : Nat → Nat → Int64} {a : Nat} (hz : dw_Z n I J) (hm : n + 32 = m) (hn : n + 32 ≤ 1000000) (ha : a < n) (hk : (sh a).1 = 6) (hK : K none (m, f_X6_init n sh a, I, J)) : t_X6_init [.ref a] (n, sh, I, J) K := by
  subst hm
  refine dw_enter rfl ?_
  show dw_ok (pr_X6_init K) 0 32 122 [some (.ref (a))] [] (n, sh, I, J)
  refine qi_ald rfl rfl ?_
  refine qi_oinit rfl rfl ?_
  refine qi_ald rfl rfl ?_
  refine qi_new (m := n + 1) (bc' := 31) (bs' := 120) rfl hz rfl rfl (by omega) rfl (fun s1 hs1 => ?_)
  have y1 : (s1 (n)).1 = 5 := by rw [hs1]; exact sh_nw_at
  have hz2 : dw_Z (n + 1) I J := dw_Z.up hz (by omega)
  refine qi_dup rfl ?_
  refine qi_call (bc' := 0) (bs' := 0) rfl y1 rfl rfl rfl ?_
  refine ea_X5_init (n := n + 1) (m := n + 32) (a := n) hz2 rfl (by omega) (Nat.add_lt_add_left (k := n) (Nat.le_of_ble_eq_true rfl : 0 < 1)) y1 (fun s2 hs2 => ?_)
  show dw_ok (pr_X6_init K) 12 0 0 [some (.ref (a))] [.ref (n), .ref (a)] (n + 32, s2, I, J)
  have hz3 : dw_Z (n + 32) I J := z_X5_init (n := n + 1) (m := n + 32) (a := n) hz2 rfl (Nat.add_lt_add_left (k := n) (Nat.le_of_ble_eq_true rfl : 0 < 1))
  have y4 : (s1 (a)).1 = 6 := by rw [hs1]; exact Eq.trans (sh_nw_k ha) hk
  have y5 : (s2 (a)).1 = 6 := by rw [hs2]; exact Eq.trans (f_X5_init_k (Nat.lt_add_right 1 ha)) y4
  refine qi_putr rfl y5 (fun s3 hs3 => ?_)
  have y6 : (s3 (a)).2.2 0 = some (n) := by rw [hs3]; exact sh_sr_rat
  refine qi_vret rfl ?_
  have es : s3 = f_X6_init n sh a := by
    rw [hs3, hs2, hs1]
    rfl
  rw [es]
  exact hK
theorem ea_X6_init {K : dw_K} {n m : Nat} {sh : dw_Sh} {I : Nat → Nat → Int32} {J : Nat → Nat → Int64} {a : Nat} (hz : dw_Z n I J) (hm : n + 32 = m) (hn : n + 32 ≤ 1000000) (ha : a < n) (hk : (sh a).1 = 6) (hK : ∀ sh' : dw_Sh, sh' = f_X6_init n sh a → K none (m, sh', I, J)) : t_X6_init [.ref a] (n, sh, I, J) K := e_X6_init hz hm hn ha hk (hK _ rfl)
def f_X7_init (n : Nat) (sh : dw_Sh) (a : Nat) : dw_Sh := (sh_sr (sh_nw (n + 13) (sh_sr (sh_nw (n + 12) (sh_sr (sh_nw (n + 11) (sh_sr (sh_nw (n + 10) (sh_sr (sh_nw (n + 9) (sh_sr (sh_nw (n + 8) (sh_sr (sh_nw (n + 7) (sh_sr (f_X2_init (n + 1) (sh_nw (n) sh 2 2) (n)) (a) 7 (some (n))) 16 144) (a) 8 (some (n + 7))) 16 144) (a) 9 (some (n + 8))) 16 144) (a) 10 (some (n + 9))) 16 144) (a) 11 (some (n + 10))) 16 144) (a) 12 (some (n + 11))) 16 144) (a) 13 (some (n + 12))) 16 144) (a) 14 (some (n + 13)))
theorem f_X7_init_k {n a b : Nat} {sh : dw_Sh} (hb : b < n) : ((f_X7_init n sh a) b).1 = (sh b).1 := by
  unfold f_X7_init
  repeat (first | rw [sh_sr_k] | rw [sh_nw_k (by omega)] | rw [sh_nm_k (by omega)] | rw [f_X0_init_k (by omega)] | rw [f_X1_init_k (by omega)] | rw [f_X2_init_k (by omega)] | rw [f_X3_init_k (by omega)] | rw [f_X4_init_k (by omega)] | rw [f_X5_init_k (by omega)] | rw [f_X6_init_k (by omega)])
theorem f_X7_init_l {n a b : Nat} {sh : dw_Sh} (hb : b < n) : ((f_X7_init n sh a) b).2.1 = (sh b).2.1 := by
  unfold f_X7_init
  repeat (first | rw [sh_sr_l] | rw [sh_nw_l (by omega)] | rw [sh_nm_l (by omega)] | rw [f_X0_init_l (by omega)] | rw [f_X1_init_l (by omega)] | rw [f_X2_init_l (by omega)] | rw [f_X3_init_l (by omega)] | rw [f_X4_init_l (by omega)] | rw [f_X5_init_l (by omega)] | rw [f_X6_init_l (by omega)])
theorem f_X7_init_r {n a b j : Nat} {sh : dw_Sh} (hb : b < n) (hne : b ≠ a) : ((f_X7_init n sh a) b).2.2 j = (sh b).2.2 j := by
  unfold f_X7_init
  repeat (first | rfl | rw [sh_sr_ra hne] | rw [sh_sr_ra (by omega)] | rw [sh_nw_r (by omega)] | rw [sh_nm_r (by omega)] | rw [f_X0_init_r (by omega) (by omega)] | rw [f_X1_init_r (by omega) (by omega)] | rw [f_X2_init_r (by omega) (by omega)] | rw [f_X3_init_r (by omega) (by omega)] | rw [f_X4_init_r (by omega) (by omega)] | rw [f_X5_init_r (by omega) (by omega)] | rw [f_X6_init_r (by omega) (by omega)])
theorem z_X7_init {n m a : Nat} {I : Nat → Nat → Int32} {J : Nat → Nat → Int64} (hz : dw_Z n I J) (hm : n + 14 = m) (ha : a < n) : dw_Z m (I) (J) := by
  subst hm
  exact (dw_Z.up (m := n + 14) (dw_Z.up (m := n + 13) (dw_Z.up (m := n + 12) (dw_Z.up (m := n + 11) (dw_Z.up (m := n + 10) (dw_Z.up (m := n + 9) (dw_Z.up (m := n + 8) (z_X2_init (n := n + 1) (m := n + 7) (a := n) (dw_Z.up (m := n + 1) hz (by omega)) rfl (Nat.add_lt_add_left (k := n) (Nat.le_of_ble_eq_true rfl : 0 < 1))) (by omega)) (by omega)) (by omega)) (by omega)) (by omega)) (by omega)) (by omega))
set_option maxHeartbeats 4000000 in
set_option maxRecDepth 20000 in
theorem e_X7_init {K : dw_K} {n m : Nat} {sh : dw_Sh} {I : Nat → Nat → Int32} {J : Nat → Nat → Int64} {a : Nat} (hz : dw_Z n I J) (hm : n + 14 = m) (hn : n + 14 ≤ 1000000) (ha : a < n) (hk : (sh a).1 = 7) (hK : K none (m, f_X7_init n sh a, I, J)) : t_X7_init [.ref a] (n, sh, I, J) K := by
  subst hm
  refine dw_enter rfl ?_
  show dw_ok (pr_X7_init K) 0 14 1735 [some (.ref (a))] [] (n, sh, I, J)
  refine qi_ald rfl rfl ?_
  refine qi_oinit rfl rfl ?_
  refine qi_ald rfl rfl ?_
  refine qi_new (m := n + 1) (bc' := 13) (bs' := 1733) rfl hz rfl rfl (by omega) rfl (fun s1 hs1 => ?_)
  have y1 : (s1 (n)).1 = 2 := by rw [hs1]; exact sh_nw_at
  have hz2 : dw_Z (n + 1) I J := dw_Z.up hz (by omega)
  refine qi_dup rfl ?_
  refine qi_call (bc' := 7) (bs' := 1008) rfl y1 rfl rfl rfl ?_
  refine ea_X2_init (n := n + 1) (m := n + 7) (a := n) hz2 rfl (by omega) (Nat.add_lt_add_left (k := n) (Nat.le_of_ble_eq_true rfl : 0 < 1)) y1 (fun s2 hs2 => ?_)
  show dw_ok (pr_X7_init K) 12 7 1008 [some (.ref (a))] [.ref (n), .ref (a)] (n + 7, s2, I, J)
  have hz3 : dw_Z (n + 7) I J := z_X2_init (n := n + 1) (m := n + 7) (a := n) hz2 rfl (Nat.add_lt_add_left (k := n) (Nat.le_of_ble_eq_true rfl : 0 < 1))
  have y4 : (s1 (a)).1 = 7 := by rw [hs1]; exact Eq.trans (sh_nw_k ha) hk
  have y5 : (s2 (a)).1 = 7 := by rw [hs2]; exact Eq.trans (f_X2_init_k (Nat.lt_add_right 1 ha)) y4
  refine qi_putr rfl y5 (fun s3 hs3 => ?_)
  have y6 : (s3 (a)).2.2 7 = some (n) := by rw [hs3]; exact sh_sr_rat
  refine qi_ald rfl rfl ?_
  refine qi_ic rfl ?_
  refine qi_newa (m := n + 8) (N := 144) (bc' := 6) (bs' := 864) rfl hz3 (by decide) (by decide) rfl rfl (by omega) rfl rfl (fun s4 hs4 => ?_)
  have y7 : (s4 (n + 7)).1 = 16 := by rw [hs4]; exact sh_nw_at
  have y8 : (s4 (n + 7)).2.1 = 144 := by rw [hs4]; exact sh_nw_la
  have hz9 : dw_Z (n + 8) I J := dw_Z.up hz3 (by omega)
  have y10 : (s3 (a)).1 = 7 := by rw [hs3]; exact Eq.trans sh_sr_k y5
  have y11 : (s4 (a)).1 = 7 := by rw [hs4]; exact Eq.trans (sh_nw_k (Nat.lt_add_right 7 ha)) y10
  refine qi_putr rfl y11 (fun s5 hs5 => ?_)
  have y12 : (s5 (a)).2.2 8 = some (n + 7) := by rw [hs5]; exact sh_sr_rat
  refine qi_ald rfl rfl ?_
  refine qi_ic rfl ?_
  refine qi_newa (m := n + 9) (N := 144) (bc' := 5) (bs' := 720) rfl hz9 (by decide) (by decide) rfl rfl (by omega) rfl rfl (fun s6 hs6 => ?_)
  have y13 : (s6 (n + 8)).1 = 16 := by rw [hs6]; exact sh_nw_at
  have y14 : (s6 (n + 8)).2.1 = 144 := by rw [hs6]; exact sh_nw_la
  have hz15 : dw_Z (n + 9) I J := dw_Z.up hz9 (by omega)
  have y16 : (s5 (a)).1 = 7 := by rw [hs5]; exact Eq.trans sh_sr_k y11
  have y17 : (s6 (a)).1 = 7 := by rw [hs6]; exact Eq.trans (sh_nw_k (Nat.lt_add_right 8 ha)) y16
  refine qi_putr rfl y17 (fun s7 hs7 => ?_)
  have y18 : (s7 (a)).2.2 9 = some (n + 8) := by rw [hs7]; exact sh_sr_rat
  refine qi_ald rfl rfl ?_
  refine qi_ic rfl ?_
  refine qi_newa (m := n + 10) (N := 144) (bc' := 4) (bs' := 576) rfl hz15 (by decide) (by decide) rfl rfl (by omega) rfl rfl (fun s8 hs8 => ?_)
  have y19 : (s8 (n + 9)).1 = 16 := by rw [hs8]; exact sh_nw_at
  have y20 : (s8 (n + 9)).2.1 = 144 := by rw [hs8]; exact sh_nw_la
  have hz21 : dw_Z (n + 10) I J := dw_Z.up hz15 (by omega)
  have y22 : (s7 (a)).1 = 7 := by rw [hs7]; exact Eq.trans sh_sr_k y17
  have y23 : (s8 (a)).1 = 7 := by rw [hs8]; exact Eq.trans (sh_nw_k (Nat.lt_add_right 9 ha)) y22
  refine qi_putr rfl y23 (fun s9 hs9 => ?_)
  have y24 : (s9 (a)).2.2 10 = some (n + 9) := by rw [hs9]; exact sh_sr_rat
  refine qi_ald rfl rfl ?_
  refine qi_ic rfl ?_
  refine qi_newa (m := n + 11) (N := 144) (bc' := 3) (bs' := 432) rfl hz21 (by decide) (by decide) rfl rfl (by omega) rfl rfl (fun s10 hs10 => ?_)
  have y25 : (s10 (n + 10)).1 = 16 := by rw [hs10]; exact sh_nw_at
  have y26 : (s10 (n + 10)).2.1 = 144 := by rw [hs10]; exact sh_nw_la
  have hz27 : dw_Z (n + 11) I J := dw_Z.up hz21 (by omega)
  have y28 : (s9 (a)).1 = 7 := by rw [hs9]; exact Eq.trans sh_sr_k y23
  have y29 : (s10 (a)).1 = 7 := by rw [hs10]; exact Eq.trans (sh_nw_k (Nat.lt_add_right 10 ha)) y28
  refine qi_putr rfl y29 (fun s11 hs11 => ?_)
  have y30 : (s11 (a)).2.2 11 = some (n + 10) := by rw [hs11]; exact sh_sr_rat
  refine qi_ald rfl rfl ?_
  refine qi_ic rfl ?_
  refine qi_newa (m := n + 12) (N := 144) (bc' := 2) (bs' := 288) rfl hz27 (by decide) (by decide) rfl rfl (by omega) rfl rfl (fun s12 hs12 => ?_)
  have y31 : (s12 (n + 11)).1 = 16 := by rw [hs12]; exact sh_nw_at
  have y32 : (s12 (n + 11)).2.1 = 144 := by rw [hs12]; exact sh_nw_la
  have hz33 : dw_Z (n + 12) I J := dw_Z.up hz27 (by omega)
  have y34 : (s11 (a)).1 = 7 := by rw [hs11]; exact Eq.trans sh_sr_k y29
  have y35 : (s12 (a)).1 = 7 := by rw [hs12]; exact Eq.trans (sh_nw_k (Nat.lt_add_right 11 ha)) y34
  refine qi_putr rfl y35 (fun s13 hs13 => ?_)
  have y36 : (s13 (a)).2.2 12 = some (n + 11) := by rw [hs13]; exact sh_sr_rat
  refine qi_ald rfl rfl ?_
  refine qi_ic rfl ?_
  refine qi_newa (m := n + 13) (N := 144) (bc' := 1) (bs' := 144) rfl hz33 (by decide) (by decide) rfl rfl (by omega) rfl rfl (fun s14 hs14 => ?_)
  have y37 : (s14 (n + 12)).1 = 16 := by rw [hs14]; exact sh_nw_at
  have y38 : (s14 (n + 12)).2.1 = 144 := by rw [hs14]; exact sh_nw_la
  have hz39 : dw_Z (n + 13) I J := dw_Z.up hz33 (by omega)
  have y40 : (s13 (a)).1 = 7 := by rw [hs13]; exact Eq.trans sh_sr_k y35
  have y41 : (s14 (a)).1 = 7 := by rw [hs14]; exact Eq.trans (sh_nw_k (Nat.lt_add_right 12 ha)) y40
  refine qi_putr rfl y41 (fun s15 hs15 => ?_)
  have y42 : (s15 (a)).2.2 13 = some (n + 12) := by rw [hs15]; exact sh_sr_rat
  refine qi_ald rfl rfl ?_
  refine qi_ic rfl ?_
  refine qi_newa (m := n + 14) (N := 144) (bc' := 0) (bs' := 0) rfl hz39 (by decide) (by decide) rfl rfl (by omega) rfl rfl (fun s16 hs16 => ?_)
  have y43 : (s16 (n + 13)).1 = 16 := by rw [hs16]; exact sh_nw_at
  have y44 : (s16 (n + 13)).2.1 = 144 := by rw [hs16]; exact sh_nw_la
  have hz45 : dw_Z (n + 14) I J := dw_Z.up hz39 (by omega)
  have y46 : (s15 (a)).1 = 7 := by rw [hs15]; exact Eq.trans sh_sr_k y41
  have y47 : (s16 (a)).1 = 7 := by rw [hs16]; exact Eq.trans (sh_nw_k (Nat.lt_add_right 13 ha)) y46
  refine qi_putr rfl y47 (fun s17 hs17 => ?_)
  have y48 : (s17 (a)).2.2 14 = some (n + 13) := by rw [hs17]; exact sh_sr_rat
  refine qi_vret rfl ?_
  have es : s17 = f_X7_init n sh a := by
    rw [hs17, hs16, hs15, hs14, hs13, hs12, hs11, hs10, hs9, hs8, hs7, hs6, hs5, hs4, hs3, hs2, hs1]
    rfl
  rw [es]
  exact hK
theorem ea_X7_init {K : dw_K} {n m : Nat} {sh : dw_Sh} {I : Nat → Nat → Int32} {J : Nat → Nat → Int64} {a : Nat} (hz : dw_Z n I J) (hm : n + 14 = m) (hn : n + 14 ≤ 1000000) (ha : a < n) (hk : (sh a).1 = 7) (hK : ∀ sh' : dw_Sh, sh' = f_X7_init n sh a → K none (m, sh', I, J)) : t_X7_init [.ref a] (n, sh, I, J) K := e_X7_init hz hm hn ha hk (hK _ rfl)
def f_X8_init (n : Nat) (sh : dw_Sh) (a : Nat) : dw_Sh := (sh_sr (f_X2_init (n + 90) (sh_nw (n + 89) (sh_sr (f_X2_init (n + 83) (sh_nw (n + 82) (sh_sr (f_X2_init (n + 76) (sh_nw (n + 75) (sh_sr (f_X2_init (n + 69) (sh_nw (n + 68) (sh_sr (f_X2_init (n + 62) (sh_nw (n + 61) (sh_sr (f_X2_init (n + 55) (sh_nw (n + 54) (sh_sr (f_X7_init (n + 40) (sh_nw (n + 39) (sh_sr (f_X5_init (n + 8) (sh_nw (n + 7) (sh_sr (sh_nw (n + 6) (sh_sr (f_X0_init (n + 1) (sh_nw (n) sh 0 10) (n)) (a) 1 (some (n))) 22 6) (a) 2 (some (n + 6))) 5 2) (n + 7)) (a) 3 (some (n + 7))) 7 15) (n + 39)) (a) 4 (some (n + 39))) 2 2) (n + 54)) (n + 6) 0 (some (n + 54))) 2 2) (n + 61)) (n + 6) 1 (some (n + 61))) 2 2) (n + 68)) (n + 6) 2 (some (n + 68))) 2 2) (n + 75)) (n + 6) 3 (some (n + 75))) 2 2) (n + 82)) (n + 6) 4 (some (n + 82))) 2 2) (n + 89)) (n + 6) 5 (some (n + 89)))
def g_X8_init (n : Nat) (I : Nat → Nat → Int32) (a : Nat) : Nat → Nat → Int32 := (g_X0_init (n + 1) I (n))
theorem f_X8_init_k {n a b : Nat} {sh : dw_Sh} (hb : b < n) : ((f_X8_init n sh a) b).1 = (sh b).1 := by
  unfold f_X8_init
  repeat (first | rw [sh_sr_k] | rw [sh_nw_k (by omega)] | rw [sh_nm_k (by omega)] | rw [f_X0_init_k (by omega)] | rw [f_X1_init_k (by omega)] | rw [f_X2_init_k (by omega)] | rw [f_X3_init_k (by omega)] | rw [f_X4_init_k (by omega)] | rw [f_X5_init_k (by omega)] | rw [f_X6_init_k (by omega)] | rw [f_X7_init_k (by omega)])
theorem f_X8_init_l {n a b : Nat} {sh : dw_Sh} (hb : b < n) : ((f_X8_init n sh a) b).2.1 = (sh b).2.1 := by
  unfold f_X8_init
  repeat (first | rw [sh_sr_l] | rw [sh_nw_l (by omega)] | rw [sh_nm_l (by omega)] | rw [f_X0_init_l (by omega)] | rw [f_X1_init_l (by omega)] | rw [f_X2_init_l (by omega)] | rw [f_X3_init_l (by omega)] | rw [f_X4_init_l (by omega)] | rw [f_X5_init_l (by omega)] | rw [f_X6_init_l (by omega)] | rw [f_X7_init_l (by omega)])
theorem f_X8_init_r {n a b j : Nat} {sh : dw_Sh} (hb : b < n) (hne : b ≠ a) : ((f_X8_init n sh a) b).2.2 j = (sh b).2.2 j := by
  unfold f_X8_init
  repeat (first | rfl | rw [sh_sr_ra hne] | rw [sh_sr_ra (by omega)] | rw [sh_nw_r (by omega)] | rw [sh_nm_r (by omega)] | rw [f_X0_init_r (by omega) (by omega)] | rw [f_X1_init_r (by omega) (by omega)] | rw [f_X2_init_r (by omega) (by omega)] | rw [f_X3_init_r (by omega) (by omega)] | rw [f_X4_init_r (by omega) (by omega)] | rw [f_X5_init_r (by omega) (by omega)] | rw [f_X6_init_r (by omega) (by omega)] | rw [f_X7_init_r (by omega) (by omega)])
theorem z_X8_init {n m a : Nat} {I : Nat → Nat → Int32} {J : Nat → Nat → Int64} (hz : dw_Z n I J) (hm : n + 96 = m) (ha : a < n) : dw_Z m (g_X8_init n I a) (J) := by
  subst hm
  exact (z_X2_init (n := n + 90) (m := n + 96) (a := n + 89) (dw_Z.up (m := n + 90) (z_X2_init (n := n + 83) (m := n + 89) (a := n + 82) (dw_Z.up (m := n + 83) (z_X2_init (n := n + 76) (m := n + 82) (a := n + 75) (dw_Z.up (m := n + 76) (z_X2_init (n := n + 69) (m := n + 75) (a := n + 68) (dw_Z.up (m := n + 69) (z_X2_init (n := n + 62) (m := n + 68) (a := n + 61) (dw_Z.up (m := n + 62) (z_X2_init (n := n + 55) (m := n + 61) (a := n + 54) (dw_Z.up (m := n + 55) (z_X7_init (n := n + 40) (m := n + 54) (a := n + 39) (dw_Z.up (m := n + 40) (z_X5_init (n := n + 8) (m := n + 39) (a := n + 7) (dw_Z.up (m := n + 8) (dw_Z.up (m := n + 7) (z_X0_init (n := n + 1) (m := n + 6) (a := n) (dw_Z.up (m := n + 1) hz (by omega)) rfl (Nat.add_lt_add_left (k := n) (Nat.le_of_ble_eq_true rfl : 0 < 1))) (by omega)) (by omega)) rfl (Nat.add_lt_add_left (k := n) (Nat.le_of_ble_eq_true rfl : 7 < 8))) (by omega)) rfl (Nat.add_lt_add_left (k := n) (Nat.le_of_ble_eq_true rfl : 39 < 40))) (by omega)) rfl (Nat.add_lt_add_left (k := n) (Nat.le_of_ble_eq_true rfl : 54 < 55))) (by omega)) rfl (Nat.add_lt_add_left (k := n) (Nat.le_of_ble_eq_true rfl : 61 < 62))) (by omega)) rfl (Nat.add_lt_add_left (k := n) (Nat.le_of_ble_eq_true rfl : 68 < 69))) (by omega)) rfl (Nat.add_lt_add_left (k := n) (Nat.le_of_ble_eq_true rfl : 75 < 76))) (by omega)) rfl (Nat.add_lt_add_left (k := n) (Nat.le_of_ble_eq_true rfl : 82 < 83))) (by omega)) rfl (Nat.add_lt_add_left (k := n) (Nat.le_of_ble_eq_true rfl : 89 < 90)))
set_option maxHeartbeats 4000000 in
set_option maxRecDepth 20000 in
theorem e_X8_init {K : dw_K} {n m : Nat} {sh : dw_Sh} {I : Nat → Nat → Int32} {J : Nat → Nat → Int64} {a : Nat} (hz : dw_Z n I J) (hm : n + 96 = m) (hn : n + 96 ≤ 1000000) (ha : a < n) (hk : (sh a).1 = 8) (hK : K none (m, f_X8_init n sh a, g_X8_init n I a, J)) : t_X8_init [.ref a] (n, sh, I, J) K := by
  subst hm
  refine dw_enter rfl ?_
  show dw_ok (pr_X8_init K) 0 96 6562 [some (.ref (a)), none] [] (n, sh, I, J)
  refine qi_ald rfl rfl ?_
  refine qi_oinit rfl rfl ?_
  refine qi_ald rfl rfl ?_
  refine qi_new (m := n + 1) (bc' := 95) (bs' := 6552) rfl hz rfl rfl (by omega) rfl (fun s1 hs1 => ?_)
  have y1 : (s1 (n)).1 = 0 := by rw [hs1]; exact sh_nw_at
  have hz2 : dw_Z (n + 1) I J := dw_Z.up hz (by omega)
  refine qi_dup rfl ?_
  refine qi_call (bc' := 90) (bs' := 6240) rfl y1 rfl rfl rfl ?_
  refine ea_X0_init (n := n + 1) (m := n + 6) (a := n) hz2 rfl (by omega) (Nat.add_lt_add_left (k := n) (Nat.le_of_ble_eq_true rfl : 0 < 1)) y1 (fun s2 hs2 I3 hI3 => ?_)
  show dw_ok (pr_X8_init K) 12 90 6240 [some (.ref (a)), none] [.ref (n), .ref (a)] (n + 6, s2, I3, J)
  have hz4 : dw_Z (n + 6) I3 J := by rw [hI3]; exact z_X0_init (n := n + 1) (m := n + 6) (a := n) hz2 rfl (Nat.add_lt_add_left (k := n) (Nat.le_of_ble_eq_true rfl : 0 < 1))
  have y5 : (s1 (a)).1 = 8 := by rw [hs1]; exact Eq.trans (sh_nw_k ha) hk
  have y6 : (s2 (a)).1 = 8 := by rw [hs2]; exact Eq.trans (f_X0_init_k (Nat.lt_add_right 1 ha)) y5
  refine qi_putr rfl y6 (fun s3 hs3 => ?_)
  have y7 : (s3 (a)).2.2 1 = some (n) := by rw [hs3]; exact sh_sr_rat
  refine qi_ald rfl rfl ?_
  refine qi_ic rfl ?_
  refine qi_newa (m := n + 7) (N := 6) (bc' := 89) (bs' := 6234) rfl hz4 (by decide) (by decide) rfl rfl (by omega) rfl rfl (fun s4 hs4 => ?_)
  have y8 : (s4 (n + 6)).1 = 22 := by rw [hs4]; exact sh_nw_at
  have y9 : (s4 (n + 6)).2.1 = 6 := by rw [hs4]; exact sh_nw_la
  have hz10 : dw_Z (n + 7) I3 J := dw_Z.up hz4 (by omega)
  have y11 : (s3 (a)).1 = 8 := by rw [hs3]; exact Eq.trans sh_sr_k y6
  have y12 : (s4 (a)).1 = 8 := by rw [hs4]; exact Eq.trans (sh_nw_k (Nat.lt_add_right 6 ha)) y11
  refine qi_putr rfl y12 (fun s5 hs5 => ?_)
  have y13 : (s5 (a)).2.2 2 = some (n + 6) := by rw [hs5]; exact sh_sr_rat
  refine qi_ald rfl rfl ?_
  refine qi_new (m := n + 8) (bc' := 88) (bs' := 6232) rfl hz10 rfl rfl (by omega) rfl (fun s6 hs6 => ?_)
  have y14 : (s6 (n + 7)).1 = 5 := by rw [hs6]; exact sh_nw_at
  have hz15 : dw_Z (n + 8) I3 J := dw_Z.up hz10 (by omega)
  refine qi_dup rfl ?_
  refine qi_call (bc' := 57) (bs' := 6112) rfl y14 rfl rfl rfl ?_
  refine ea_X5_init (n := n + 8) (m := n + 39) (a := n + 7) hz15 rfl (by omega) (Nat.add_lt_add_left (k := n) (Nat.le_of_ble_eq_true rfl : 7 < 8)) y14 (fun s7 hs7 => ?_)
  show dw_ok (pr_X8_init K) 32 57 6112 [some (.ref (a)), none] [.ref (n + 7), .ref (a)] (n + 39, s7, I3, J)
  have hz16 : dw_Z (n + 39) I3 J := z_X5_init (n := n + 8) (m := n + 39) (a := n + 7) hz15 rfl (Nat.add_lt_add_left (k := n) (Nat.le_of_ble_eq_true rfl : 7 < 8))
  have y17 : (s5 (a)).1 = 8 := by rw [hs5]; exact Eq.trans sh_sr_k y12
  have y18 : (s6 (a)).1 = 8 := by rw [hs6]; exact Eq.trans (sh_nw_k (Nat.lt_add_right 7 ha)) y17
  have y19 : (s7 (a)).1 = 8 := by rw [hs7]; exact Eq.trans (f_X5_init_k (Nat.lt_add_right 8 ha)) y18
  refine qi_putr rfl y19 (fun s8 hs8 => ?_)
  have y20 : (s8 (a)).2.2 3 = some (n + 7) := by rw [hs8]; exact sh_sr_rat
  refine qi_ald rfl rfl ?_
  refine qi_new (m := n + 40) (bc' := 56) (bs' := 6097) rfl hz16 rfl rfl (by omega) rfl (fun s9 hs9 => ?_)
  have y21 : (s9 (n + 39)).1 = 7 := by rw [hs9]; exact sh_nw_at
  have hz22 : dw_Z (n + 40) I3 J := dw_Z.up hz16 (by omega)
  refine qi_dup rfl ?_
  refine qi_call (bc' := 42) (bs' := 4362) rfl y21 rfl rfl rfl ?_
  refine ea_X7_init (n := n + 40) (m := n + 54) (a := n + 39) hz22 rfl (by omega) (Nat.add_lt_add_left (k := n) (Nat.le_of_ble_eq_true rfl : 39 < 40)) y21 (fun s10 hs10 => ?_)
  show dw_ok (pr_X8_init K) 43 42 4362 [some (.ref (a)), none] [.ref (n + 39), .ref (a)] (n + 54, s10, I3, J)
  have hz23 : dw_Z (n + 54) I3 J := z_X7_init (n := n + 40) (m := n + 54) (a := n + 39) hz22 rfl (Nat.add_lt_add_left (k := n) (Nat.le_of_ble_eq_true rfl : 39 < 40))
  have y24 : (s8 (a)).1 = 8 := by rw [hs8]; exact Eq.trans sh_sr_k y19
  have y25 : (s9 (a)).1 = 8 := by rw [hs9]; exact Eq.trans (sh_nw_k (Nat.lt_add_right 39 ha)) y24
  have y26 : (s10 (a)).1 = 8 := by rw [hs10]; exact Eq.trans (f_X7_init_k (Nat.lt_add_right 40 ha)) y25
  refine qi_putr rfl y26 (fun s11 hs11 => ?_)
  have y27 : (s11 (a)).2.2 4 = some (n + 39) := by rw [hs11]; exact sh_sr_rat
  refine qi_ic rfl ?_
  refine qi_ist rfl rfl ?_
  show dw_ok (pr_X8_init K) 48 42 4362 [some (.ref (a)), some (.int 0)] [] (n + 54, s11, I3, J)
  refine qi_ild rfl rfl ?_
  refine qi_ic rfl ?_
  refine qi_ge_n rfl (by decide) ?_
  refine qi_ald rfl rfl ?_
  have y28 : (s11 (a)).1 = 8 := by rw [hs11]; exact Eq.trans sh_sr_k y26
  have y29 : (s6 (a)).2.2 2 = some (n + 6) := by rw [hs6]; exact Eq.trans (sh_nw_r (Nat.lt_add_right 7 ha)) y13
  have y30 : (s7 (a)).2.2 2 = some (n + 6) := by rw [hs7]; exact Eq.trans (f_X5_init_r (Nat.lt_add_right 8 ha) (by omega)) y29
  have y31 : (s8 (a)).2.2 2 = some (n + 6) := by rw [hs8]; exact Eq.trans (sh_sr_rj (Nat.ne_of_beq_eq_false rfl)) y30
  have y32 : (s9 (a)).2.2 2 = some (n + 6) := by rw [hs9]; exact Eq.trans (sh_nw_r (Nat.lt_add_right 39 ha)) y31
  have y33 : (s10 (a)).2.2 2 = some (n + 6) := by rw [hs10]; exact Eq.trans (f_X7_init_r (Nat.lt_add_right 40 ha) (by omega)) y32
  have y34 : (s11 (a)).2.2 2 = some (n + 6) := by rw [hs11]; exact Eq.trans (sh_sr_rj (Nat.ne_of_beq_eq_false rfl)) y33
  refine qi_getr rfl y28 y34 ?_
  refine qi_ild rfl rfl ?_
  refine qi_new (m := n + 55) (bc' := 41) (bs' := 4360) rfl hz23 rfl rfl (by omega) rfl (fun s12 hs12 => ?_)
  have y35 : (s12 (n + 54)).1 = 2 := by rw [hs12]; exact sh_nw_at
  have hz36 : dw_Z (n + 55) I3 J := dw_Z.up hz23 (by omega)
  refine qi_dup rfl ?_
  refine qi_call (bc' := 35) (bs' := 3635) rfl y35 rfl rfl rfl ?_
  refine ea_X2_init (n := n + 55) (m := n + 61) (a := n + 54) hz36 rfl (by omega) (Nat.add_lt_add_left (k := n) (Nat.le_of_ble_eq_true rfl : 54 < 55)) y35 (fun s13 hs13 => ?_)
  show dw_ok (pr_X8_init K) 66 35 3635 [some (.ref (a)), some (.int 0)] [.ref (n + 54), .int 0, .ref (n + 6)] (n + 61, s13, I3, J)
  have hz37 : dw_Z (n + 61) I3 J := z_X2_init (n := n + 55) (m := n + 61) (a := n + 54) hz36 rfl (Nat.add_lt_add_left (k := n) (Nat.le_of_ble_eq_true rfl : 54 < 55))
  have y38 : (s5 (n + 6)).1 = 22 := by rw [hs5]; exact Eq.trans sh_sr_k y8
  have y39 : (s6 (n + 6)).1 = 22 := by rw [hs6]; exact Eq.trans (sh_nw_k (Nat.add_lt_add_left (k := n) (Nat.le_of_ble_eq_true rfl : 6 < 7))) y38
  have y40 : (s7 (n + 6)).1 = 22 := by rw [hs7]; exact Eq.trans (f_X5_init_k (Nat.add_lt_add_left (k := n) (Nat.le_of_ble_eq_true rfl : 6 < 8))) y39
  have y41 : (s8 (n + 6)).1 = 22 := by rw [hs8]; exact Eq.trans sh_sr_k y40
  have y42 : (s9 (n + 6)).1 = 22 := by rw [hs9]; exact Eq.trans (sh_nw_k (Nat.add_lt_add_left (k := n) (Nat.le_of_ble_eq_true rfl : 6 < 39))) y41
  have y43 : (s10 (n + 6)).1 = 22 := by rw [hs10]; exact Eq.trans (f_X7_init_k (Nat.add_lt_add_left (k := n) (Nat.le_of_ble_eq_true rfl : 6 < 40))) y42
  have y44 : (s11 (n + 6)).1 = 22 := by rw [hs11]; exact Eq.trans sh_sr_k y43
  have y45 : (s12 (n + 6)).1 = 22 := by rw [hs12]; exact Eq.trans (sh_nw_k (Nat.add_lt_add_left (k := n) (Nat.le_of_ble_eq_true rfl : 6 < 54))) y44
  have y46 : (s13 (n + 6)).1 = 22 := by rw [hs13]; exact Eq.trans (f_X2_init_k (Nat.add_lt_add_left (k := n) (Nat.le_of_ble_eq_true rfl : 6 < 55))) y45
  have y47 : (s13 (n + 54)).1 = 2 := by rw [hs13]; exact Eq.trans (f_X2_init_k (Nat.add_lt_add_left (k := n) (Nat.le_of_ble_eq_true rfl : 54 < 55))) y35
  have y48 : (s5 (n + 6)).2.1 = 6 := by rw [hs5]; exact Eq.trans sh_sr_l y9
  have y49 : (s6 (n + 6)).2.1 = 6 := by rw [hs6]; exact Eq.trans (sh_nw_l (Nat.add_lt_add_left (k := n) (Nat.le_of_ble_eq_true rfl : 6 < 7))) y48
  have y50 : (s7 (n + 6)).2.1 = 6 := by rw [hs7]; exact Eq.trans (f_X5_init_l (Nat.add_lt_add_left (k := n) (Nat.le_of_ble_eq_true rfl : 6 < 8))) y49
  have y51 : (s8 (n + 6)).2.1 = 6 := by rw [hs8]; exact Eq.trans sh_sr_l y50
  have y52 : (s9 (n + 6)).2.1 = 6 := by rw [hs9]; exact Eq.trans (sh_nw_l (Nat.add_lt_add_left (k := n) (Nat.le_of_ble_eq_true rfl : 6 < 39))) y51
  have y53 : (s10 (n + 6)).2.1 = 6 := by rw [hs10]; exact Eq.trans (f_X7_init_l (Nat.add_lt_add_left (k := n) (Nat.le_of_ble_eq_true rfl : 6 < 40))) y52
  have y54 : (s11 (n + 6)).2.1 = 6 := by rw [hs11]; exact Eq.trans sh_sr_l y53
  have y55 : (s12 (n + 6)).2.1 = 6 := by rw [hs12]; exact Eq.trans (sh_nw_l (Nat.add_lt_add_left (k := n) (Nat.le_of_ble_eq_true rfl : 6 < 54))) y54
  have y56 : (s13 (n + 6)).2.1 = 6 := by rw [hs13]; exact Eq.trans (f_X2_init_l (Nat.add_lt_add_left (k := n) (Nat.le_of_ble_eq_true rfl : 6 < 55))) y55
  refine qi_aast (j := 0) rfl y46 y47 y56 (by decide) (by decide) rfl (fun s14 hs14 => ?_)
  refine qi_inc (y := 1) rfl rfl rfl (by decide) ?_
  show dw_ok (pr_X8_init K) 70 35 3635 [some (.ref (a)), some (.int 1)] [] (n + 61, s14, I3, J)
  refine qi_goto rfl ?_
  refine qi_ild rfl rfl ?_
  refine qi_ic rfl ?_
  refine qi_ge_n rfl (by decide) ?_
  refine qi_ald rfl rfl ?_
  have y57 : (s12 (a)).1 = 8 := by rw [hs12]; exact Eq.trans (sh_nw_k (Nat.lt_add_right 54 ha)) y28
  have y58 : (s13 (a)).1 = 8 := by rw [hs13]; exact Eq.trans (f_X2_init_k (Nat.lt_add_right 55 ha)) y57
  have y59 : (s14 (a)).1 = 8 := by rw [hs14]; exact Eq.trans sh_sr_k y58
  have y60 : (s12 (a)).2.2 2 = some (n + 6) := by rw [hs12]; exact Eq.trans (sh_nw_r (Nat.lt_add_right 54 ha)) y34
  have y61 : (s13 (a)).2.2 2 = some (n + 6) := by rw [hs13]; exact Eq.trans (f_X2_init_r (Nat.lt_add_right 55 ha) (by omega)) y60
  have y62 : (s14 (a)).2.2 2 = some (n + 6) := by rw [hs14]; exact Eq.trans (sh_sr_ra (by omega)) y61
  refine qi_getr rfl y59 y62 ?_
  refine qi_ild rfl rfl ?_
  refine qi_new (m := n + 62) (bc' := 34) (bs' := 3633) rfl hz37 rfl rfl (by omega) rfl (fun s15 hs15 => ?_)
  have y63 : (s15 (n + 61)).1 = 2 := by rw [hs15]; exact sh_nw_at
  have hz64 : dw_Z (n + 62) I3 J := dw_Z.up hz37 (by omega)
  refine qi_dup rfl ?_
  refine qi_call (bc' := 28) (bs' := 2908) rfl y63 rfl rfl rfl ?_
  refine ea_X2_init (n := n + 62) (m := n + 68) (a := n + 61) hz64 rfl (by omega) (Nat.add_lt_add_left (k := n) (Nat.le_of_ble_eq_true rfl : 61 < 62)) y63 (fun s16 hs16 => ?_)
  show dw_ok (pr_X8_init K) 66 28 2908 [some (.ref (a)), some (.int 1)] [.ref (n + 61), .int 1, .ref (n + 6)] (n + 68, s16, I3, J)
  have hz65 : dw_Z (n + 68) I3 J := z_X2_init (n := n + 62) (m := n + 68) (a := n + 61) hz64 rfl (Nat.add_lt_add_left (k := n) (Nat.le_of_ble_eq_true rfl : 61 < 62))
  have y66 : (s14 (n + 6)).1 = 22 := by rw [hs14]; exact Eq.trans sh_sr_k y46
  have y67 : (s15 (n + 6)).1 = 22 := by rw [hs15]; exact Eq.trans (sh_nw_k (Nat.add_lt_add_left (k := n) (Nat.le_of_ble_eq_true rfl : 6 < 61))) y66
  have y68 : (s16 (n + 6)).1 = 22 := by rw [hs16]; exact Eq.trans (f_X2_init_k (Nat.add_lt_add_left (k := n) (Nat.le_of_ble_eq_true rfl : 6 < 62))) y67
  have y69 : (s16 (n + 61)).1 = 2 := by rw [hs16]; exact Eq.trans (f_X2_init_k (Nat.add_lt_add_left (k := n) (Nat.le_of_ble_eq_true rfl : 61 < 62))) y63
  have y70 : (s14 (n + 6)).2.1 = 6 := by rw [hs14]; exact Eq.trans sh_sr_l y56
  have y71 : (s15 (n + 6)).2.1 = 6 := by rw [hs15]; exact Eq.trans (sh_nw_l (Nat.add_lt_add_left (k := n) (Nat.le_of_ble_eq_true rfl : 6 < 61))) y70
  have y72 : (s16 (n + 6)).2.1 = 6 := by rw [hs16]; exact Eq.trans (f_X2_init_l (Nat.add_lt_add_left (k := n) (Nat.le_of_ble_eq_true rfl : 6 < 62))) y71
  refine qi_aast (j := 1) rfl y68 y69 y72 (by decide) (by decide) rfl (fun s17 hs17 => ?_)
  refine qi_inc (y := 2) rfl rfl rfl (by decide) ?_
  show dw_ok (pr_X8_init K) 70 28 2908 [some (.ref (a)), some (.int 2)] [] (n + 68, s17, I3, J)
  refine qi_goto rfl ?_
  refine qi_ild rfl rfl ?_
  refine qi_ic rfl ?_
  refine qi_ge_n rfl (by decide) ?_
  refine qi_ald rfl rfl ?_
  have y73 : (s15 (a)).1 = 8 := by rw [hs15]; exact Eq.trans (sh_nw_k (Nat.lt_add_right 61 ha)) y59
  have y74 : (s16 (a)).1 = 8 := by rw [hs16]; exact Eq.trans (f_X2_init_k (Nat.lt_add_right 62 ha)) y73
  have y75 : (s17 (a)).1 = 8 := by rw [hs17]; exact Eq.trans sh_sr_k y74
  have y76 : (s15 (a)).2.2 2 = some (n + 6) := by rw [hs15]; exact Eq.trans (sh_nw_r (Nat.lt_add_right 61 ha)) y62
  have y77 : (s16 (a)).2.2 2 = some (n + 6) := by rw [hs16]; exact Eq.trans (f_X2_init_r (Nat.lt_add_right 62 ha) (by omega)) y76
  have y78 : (s17 (a)).2.2 2 = some (n + 6) := by rw [hs17]; exact Eq.trans (sh_sr_ra (by omega)) y77
  refine qi_getr rfl y75 y78 ?_
  refine qi_ild rfl rfl ?_
  refine qi_new (m := n + 69) (bc' := 27) (bs' := 2906) rfl hz65 rfl rfl (by omega) rfl (fun s18 hs18 => ?_)
  have y79 : (s18 (n + 68)).1 = 2 := by rw [hs18]; exact sh_nw_at
  have hz80 : dw_Z (n + 69) I3 J := dw_Z.up hz65 (by omega)
  refine qi_dup rfl ?_
  refine qi_call (bc' := 21) (bs' := 2181) rfl y79 rfl rfl rfl ?_
  refine ea_X2_init (n := n + 69) (m := n + 75) (a := n + 68) hz80 rfl (by omega) (Nat.add_lt_add_left (k := n) (Nat.le_of_ble_eq_true rfl : 68 < 69)) y79 (fun s19 hs19 => ?_)
  show dw_ok (pr_X8_init K) 66 21 2181 [some (.ref (a)), some (.int 2)] [.ref (n + 68), .int 2, .ref (n + 6)] (n + 75, s19, I3, J)
  have hz81 : dw_Z (n + 75) I3 J := z_X2_init (n := n + 69) (m := n + 75) (a := n + 68) hz80 rfl (Nat.add_lt_add_left (k := n) (Nat.le_of_ble_eq_true rfl : 68 < 69))
  have y82 : (s17 (n + 6)).1 = 22 := by rw [hs17]; exact Eq.trans sh_sr_k y68
  have y83 : (s18 (n + 6)).1 = 22 := by rw [hs18]; exact Eq.trans (sh_nw_k (Nat.add_lt_add_left (k := n) (Nat.le_of_ble_eq_true rfl : 6 < 68))) y82
  have y84 : (s19 (n + 6)).1 = 22 := by rw [hs19]; exact Eq.trans (f_X2_init_k (Nat.add_lt_add_left (k := n) (Nat.le_of_ble_eq_true rfl : 6 < 69))) y83
  have y85 : (s19 (n + 68)).1 = 2 := by rw [hs19]; exact Eq.trans (f_X2_init_k (Nat.add_lt_add_left (k := n) (Nat.le_of_ble_eq_true rfl : 68 < 69))) y79
  have y86 : (s17 (n + 6)).2.1 = 6 := by rw [hs17]; exact Eq.trans sh_sr_l y72
  have y87 : (s18 (n + 6)).2.1 = 6 := by rw [hs18]; exact Eq.trans (sh_nw_l (Nat.add_lt_add_left (k := n) (Nat.le_of_ble_eq_true rfl : 6 < 68))) y86
  have y88 : (s19 (n + 6)).2.1 = 6 := by rw [hs19]; exact Eq.trans (f_X2_init_l (Nat.add_lt_add_left (k := n) (Nat.le_of_ble_eq_true rfl : 6 < 69))) y87
  refine qi_aast (j := 2) rfl y84 y85 y88 (by decide) (by decide) rfl (fun s20 hs20 => ?_)
  refine qi_inc (y := 3) rfl rfl rfl (by decide) ?_
  show dw_ok (pr_X8_init K) 70 21 2181 [some (.ref (a)), some (.int 3)] [] (n + 75, s20, I3, J)
  refine qi_goto rfl ?_
  refine qi_ild rfl rfl ?_
  refine qi_ic rfl ?_
  refine qi_ge_n rfl (by decide) ?_
  refine qi_ald rfl rfl ?_
  have y89 : (s18 (a)).1 = 8 := by rw [hs18]; exact Eq.trans (sh_nw_k (Nat.lt_add_right 68 ha)) y75
  have y90 : (s19 (a)).1 = 8 := by rw [hs19]; exact Eq.trans (f_X2_init_k (Nat.lt_add_right 69 ha)) y89
  have y91 : (s20 (a)).1 = 8 := by rw [hs20]; exact Eq.trans sh_sr_k y90
  have y92 : (s18 (a)).2.2 2 = some (n + 6) := by rw [hs18]; exact Eq.trans (sh_nw_r (Nat.lt_add_right 68 ha)) y78
  have y93 : (s19 (a)).2.2 2 = some (n + 6) := by rw [hs19]; exact Eq.trans (f_X2_init_r (Nat.lt_add_right 69 ha) (by omega)) y92
  have y94 : (s20 (a)).2.2 2 = some (n + 6) := by rw [hs20]; exact Eq.trans (sh_sr_ra (by omega)) y93
  refine qi_getr rfl y91 y94 ?_
  refine qi_ild rfl rfl ?_
  refine qi_new (m := n + 76) (bc' := 20) (bs' := 2179) rfl hz81 rfl rfl (by omega) rfl (fun s21 hs21 => ?_)
  have y95 : (s21 (n + 75)).1 = 2 := by rw [hs21]; exact sh_nw_at
  have hz96 : dw_Z (n + 76) I3 J := dw_Z.up hz81 (by omega)
  refine qi_dup rfl ?_
  refine qi_call (bc' := 14) (bs' := 1454) rfl y95 rfl rfl rfl ?_
  refine ea_X2_init (n := n + 76) (m := n + 82) (a := n + 75) hz96 rfl (by omega) (Nat.add_lt_add_left (k := n) (Nat.le_of_ble_eq_true rfl : 75 < 76)) y95 (fun s22 hs22 => ?_)
  show dw_ok (pr_X8_init K) 66 14 1454 [some (.ref (a)), some (.int 3)] [.ref (n + 75), .int 3, .ref (n + 6)] (n + 82, s22, I3, J)
  have hz97 : dw_Z (n + 82) I3 J := z_X2_init (n := n + 76) (m := n + 82) (a := n + 75) hz96 rfl (Nat.add_lt_add_left (k := n) (Nat.le_of_ble_eq_true rfl : 75 < 76))
  have y98 : (s20 (n + 6)).1 = 22 := by rw [hs20]; exact Eq.trans sh_sr_k y84
  have y99 : (s21 (n + 6)).1 = 22 := by rw [hs21]; exact Eq.trans (sh_nw_k (Nat.add_lt_add_left (k := n) (Nat.le_of_ble_eq_true rfl : 6 < 75))) y98
  have y100 : (s22 (n + 6)).1 = 22 := by rw [hs22]; exact Eq.trans (f_X2_init_k (Nat.add_lt_add_left (k := n) (Nat.le_of_ble_eq_true rfl : 6 < 76))) y99
  have y101 : (s22 (n + 75)).1 = 2 := by rw [hs22]; exact Eq.trans (f_X2_init_k (Nat.add_lt_add_left (k := n) (Nat.le_of_ble_eq_true rfl : 75 < 76))) y95
  have y102 : (s20 (n + 6)).2.1 = 6 := by rw [hs20]; exact Eq.trans sh_sr_l y88
  have y103 : (s21 (n + 6)).2.1 = 6 := by rw [hs21]; exact Eq.trans (sh_nw_l (Nat.add_lt_add_left (k := n) (Nat.le_of_ble_eq_true rfl : 6 < 75))) y102
  have y104 : (s22 (n + 6)).2.1 = 6 := by rw [hs22]; exact Eq.trans (f_X2_init_l (Nat.add_lt_add_left (k := n) (Nat.le_of_ble_eq_true rfl : 6 < 76))) y103
  refine qi_aast (j := 3) rfl y100 y101 y104 (by decide) (by decide) rfl (fun s23 hs23 => ?_)
  refine qi_inc (y := 4) rfl rfl rfl (by decide) ?_
  show dw_ok (pr_X8_init K) 70 14 1454 [some (.ref (a)), some (.int 4)] [] (n + 82, s23, I3, J)
  refine qi_goto rfl ?_
  refine qi_ild rfl rfl ?_
  refine qi_ic rfl ?_
  refine qi_ge_n rfl (by decide) ?_
  refine qi_ald rfl rfl ?_
  have y105 : (s21 (a)).1 = 8 := by rw [hs21]; exact Eq.trans (sh_nw_k (Nat.lt_add_right 75 ha)) y91
  have y106 : (s22 (a)).1 = 8 := by rw [hs22]; exact Eq.trans (f_X2_init_k (Nat.lt_add_right 76 ha)) y105
  have y107 : (s23 (a)).1 = 8 := by rw [hs23]; exact Eq.trans sh_sr_k y106
  have y108 : (s21 (a)).2.2 2 = some (n + 6) := by rw [hs21]; exact Eq.trans (sh_nw_r (Nat.lt_add_right 75 ha)) y94
  have y109 : (s22 (a)).2.2 2 = some (n + 6) := by rw [hs22]; exact Eq.trans (f_X2_init_r (Nat.lt_add_right 76 ha) (by omega)) y108
  have y110 : (s23 (a)).2.2 2 = some (n + 6) := by rw [hs23]; exact Eq.trans (sh_sr_ra (by omega)) y109
  refine qi_getr rfl y107 y110 ?_
  refine qi_ild rfl rfl ?_
  refine qi_new (m := n + 83) (bc' := 13) (bs' := 1452) rfl hz97 rfl rfl (by omega) rfl (fun s24 hs24 => ?_)
  have y111 : (s24 (n + 82)).1 = 2 := by rw [hs24]; exact sh_nw_at
  have hz112 : dw_Z (n + 83) I3 J := dw_Z.up hz97 (by omega)
  refine qi_dup rfl ?_
  refine qi_call (bc' := 7) (bs' := 727) rfl y111 rfl rfl rfl ?_
  refine ea_X2_init (n := n + 83) (m := n + 89) (a := n + 82) hz112 rfl (by omega) (Nat.add_lt_add_left (k := n) (Nat.le_of_ble_eq_true rfl : 82 < 83)) y111 (fun s25 hs25 => ?_)
  show dw_ok (pr_X8_init K) 66 7 727 [some (.ref (a)), some (.int 4)] [.ref (n + 82), .int 4, .ref (n + 6)] (n + 89, s25, I3, J)
  have hz113 : dw_Z (n + 89) I3 J := z_X2_init (n := n + 83) (m := n + 89) (a := n + 82) hz112 rfl (Nat.add_lt_add_left (k := n) (Nat.le_of_ble_eq_true rfl : 82 < 83))
  have y114 : (s23 (n + 6)).1 = 22 := by rw [hs23]; exact Eq.trans sh_sr_k y100
  have y115 : (s24 (n + 6)).1 = 22 := by rw [hs24]; exact Eq.trans (sh_nw_k (Nat.add_lt_add_left (k := n) (Nat.le_of_ble_eq_true rfl : 6 < 82))) y114
  have y116 : (s25 (n + 6)).1 = 22 := by rw [hs25]; exact Eq.trans (f_X2_init_k (Nat.add_lt_add_left (k := n) (Nat.le_of_ble_eq_true rfl : 6 < 83))) y115
  have y117 : (s25 (n + 82)).1 = 2 := by rw [hs25]; exact Eq.trans (f_X2_init_k (Nat.add_lt_add_left (k := n) (Nat.le_of_ble_eq_true rfl : 82 < 83))) y111
  have y118 : (s23 (n + 6)).2.1 = 6 := by rw [hs23]; exact Eq.trans sh_sr_l y104
  have y119 : (s24 (n + 6)).2.1 = 6 := by rw [hs24]; exact Eq.trans (sh_nw_l (Nat.add_lt_add_left (k := n) (Nat.le_of_ble_eq_true rfl : 6 < 82))) y118
  have y120 : (s25 (n + 6)).2.1 = 6 := by rw [hs25]; exact Eq.trans (f_X2_init_l (Nat.add_lt_add_left (k := n) (Nat.le_of_ble_eq_true rfl : 6 < 83))) y119
  refine qi_aast (j := 4) rfl y116 y117 y120 (by decide) (by decide) rfl (fun s26 hs26 => ?_)
  refine qi_inc (y := 5) rfl rfl rfl (by decide) ?_
  show dw_ok (pr_X8_init K) 70 7 727 [some (.ref (a)), some (.int 5)] [] (n + 89, s26, I3, J)
  refine qi_goto rfl ?_
  refine qi_ild rfl rfl ?_
  refine qi_ic rfl ?_
  refine qi_ge_n rfl (by decide) ?_
  refine qi_ald rfl rfl ?_
  have y121 : (s24 (a)).1 = 8 := by rw [hs24]; exact Eq.trans (sh_nw_k (Nat.lt_add_right 82 ha)) y107
  have y122 : (s25 (a)).1 = 8 := by rw [hs25]; exact Eq.trans (f_X2_init_k (Nat.lt_add_right 83 ha)) y121
  have y123 : (s26 (a)).1 = 8 := by rw [hs26]; exact Eq.trans sh_sr_k y122
  have y124 : (s24 (a)).2.2 2 = some (n + 6) := by rw [hs24]; exact Eq.trans (sh_nw_r (Nat.lt_add_right 82 ha)) y110
  have y125 : (s25 (a)).2.2 2 = some (n + 6) := by rw [hs25]; exact Eq.trans (f_X2_init_r (Nat.lt_add_right 83 ha) (by omega)) y124
  have y126 : (s26 (a)).2.2 2 = some (n + 6) := by rw [hs26]; exact Eq.trans (sh_sr_ra (by omega)) y125
  refine qi_getr rfl y123 y126 ?_
  refine qi_ild rfl rfl ?_
  refine qi_new (m := n + 90) (bc' := 6) (bs' := 725) rfl hz113 rfl rfl (by omega) rfl (fun s27 hs27 => ?_)
  have y127 : (s27 (n + 89)).1 = 2 := by rw [hs27]; exact sh_nw_at
  have hz128 : dw_Z (n + 90) I3 J := dw_Z.up hz113 (by omega)
  refine qi_dup rfl ?_
  refine qi_call (bc' := 0) (bs' := 0) rfl y127 rfl rfl rfl ?_
  refine ea_X2_init (n := n + 90) (m := n + 96) (a := n + 89) hz128 rfl (by omega) (Nat.add_lt_add_left (k := n) (Nat.le_of_ble_eq_true rfl : 89 < 90)) y127 (fun s28 hs28 => ?_)
  show dw_ok (pr_X8_init K) 66 0 0 [some (.ref (a)), some (.int 5)] [.ref (n + 89), .int 5, .ref (n + 6)] (n + 96, s28, I3, J)
  have hz129 : dw_Z (n + 96) I3 J := z_X2_init (n := n + 90) (m := n + 96) (a := n + 89) hz128 rfl (Nat.add_lt_add_left (k := n) (Nat.le_of_ble_eq_true rfl : 89 < 90))
  have y130 : (s26 (n + 6)).1 = 22 := by rw [hs26]; exact Eq.trans sh_sr_k y116
  have y131 : (s27 (n + 6)).1 = 22 := by rw [hs27]; exact Eq.trans (sh_nw_k (Nat.add_lt_add_left (k := n) (Nat.le_of_ble_eq_true rfl : 6 < 89))) y130
  have y132 : (s28 (n + 6)).1 = 22 := by rw [hs28]; exact Eq.trans (f_X2_init_k (Nat.add_lt_add_left (k := n) (Nat.le_of_ble_eq_true rfl : 6 < 90))) y131
  have y133 : (s28 (n + 89)).1 = 2 := by rw [hs28]; exact Eq.trans (f_X2_init_k (Nat.add_lt_add_left (k := n) (Nat.le_of_ble_eq_true rfl : 89 < 90))) y127
  have y134 : (s26 (n + 6)).2.1 = 6 := by rw [hs26]; exact Eq.trans sh_sr_l y120
  have y135 : (s27 (n + 6)).2.1 = 6 := by rw [hs27]; exact Eq.trans (sh_nw_l (Nat.add_lt_add_left (k := n) (Nat.le_of_ble_eq_true rfl : 6 < 89))) y134
  have y136 : (s28 (n + 6)).2.1 = 6 := by rw [hs28]; exact Eq.trans (f_X2_init_l (Nat.add_lt_add_left (k := n) (Nat.le_of_ble_eq_true rfl : 6 < 90))) y135
  refine qi_aast (j := 5) rfl y132 y133 y136 (by decide) (by decide) rfl (fun s29 hs29 => ?_)
  refine qi_inc (y := 6) rfl rfl rfl (by decide) ?_
  show dw_ok (pr_X8_init K) 70 0 0 [some (.ref (a)), some (.int 6)] [] (n + 96, s29, I3, J)
  refine qi_goto rfl ?_
  refine qi_ild rfl rfl ?_
  refine qi_ic rfl ?_
  refine qi_ge_y rfl (by decide) ?_
  refine qi_vret rfl ?_
  have es : s29 = f_X8_init n sh a := by
    rw [hs29, hs28, hs27, hs26, hs25, hs24, hs23, hs22, hs21, hs20, hs19, hs18, hs17, hs16, hs15, hs14, hs13, hs12, hs11, hs10, hs9, hs8, hs7, hs6, hs5, hs4, hs3, hs2, hs1]
    rfl
  have eI : I3 = g_X8_init n I a := by
    rw [hI3]
    rfl
  rw [es, eI]
  exact hK
theorem ea_X8_init {K : dw_K} {n m : Nat} {sh : dw_Sh} {I : Nat → Nat → Int32} {J : Nat → Nat → Int64} {a : Nat} (hz : dw_Z n I J) (hm : n + 96 = m) (hn : n + 96 ≤ 1000000) (ha : a < n) (hk : (sh a).1 = 8) (hK : ∀ sh' : dw_Sh, sh' = f_X8_init n sh a → ∀ I' : Nat → Nat → Int32, I' = g_X8_init n I a → K none (m, sh', I', J)) : t_X8_init [.ref a] (n, sh, I, J) K := e_X8_init hz hm hn ha hk (hK _ rfl _ rfl)
def f_X9_init (n : Nat) (sh : dw_Sh) (a : Nat) : dw_Sh := (sh_sr (sh_nw (n) sh 16 940) (a) 0 (some (n)))
theorem f_X9_init_k {n a b : Nat} {sh : dw_Sh} (hb : b < n) : ((f_X9_init n sh a) b).1 = (sh b).1 := by
  unfold f_X9_init
  repeat (first | rw [sh_sr_k] | rw [sh_nw_k (by omega)] | rw [sh_nm_k (by omega)] | rw [f_X0_init_k (by omega)] | rw [f_X1_init_k (by omega)] | rw [f_X2_init_k (by omega)] | rw [f_X3_init_k (by omega)] | rw [f_X4_init_k (by omega)] | rw [f_X5_init_k (by omega)] | rw [f_X6_init_k (by omega)] | rw [f_X7_init_k (by omega)] | rw [f_X8_init_k (by omega)])
theorem f_X9_init_l {n a b : Nat} {sh : dw_Sh} (hb : b < n) : ((f_X9_init n sh a) b).2.1 = (sh b).2.1 := by
  unfold f_X9_init
  repeat (first | rw [sh_sr_l] | rw [sh_nw_l (by omega)] | rw [sh_nm_l (by omega)] | rw [f_X0_init_l (by omega)] | rw [f_X1_init_l (by omega)] | rw [f_X2_init_l (by omega)] | rw [f_X3_init_l (by omega)] | rw [f_X4_init_l (by omega)] | rw [f_X5_init_l (by omega)] | rw [f_X6_init_l (by omega)] | rw [f_X7_init_l (by omega)] | rw [f_X8_init_l (by omega)])
theorem f_X9_init_r {n a b j : Nat} {sh : dw_Sh} (hb : b < n) (hne : b ≠ a) : ((f_X9_init n sh a) b).2.2 j = (sh b).2.2 j := by
  unfold f_X9_init
  repeat (first | rfl | rw [sh_sr_ra hne] | rw [sh_sr_ra (by omega)] | rw [sh_nw_r (by omega)] | rw [sh_nm_r (by omega)] | rw [f_X0_init_r (by omega) (by omega)] | rw [f_X1_init_r (by omega) (by omega)] | rw [f_X2_init_r (by omega) (by omega)] | rw [f_X3_init_r (by omega) (by omega)] | rw [f_X4_init_r (by omega) (by omega)] | rw [f_X5_init_r (by omega) (by omega)] | rw [f_X6_init_r (by omega) (by omega)] | rw [f_X7_init_r (by omega) (by omega)] | rw [f_X8_init_r (by omega) (by omega)])
theorem z_X9_init {n m a : Nat} {I : Nat → Nat → Int32} {J : Nat → Nat → Int64} (hz : dw_Z n I J) (hm : n + 1 = m) (ha : a < n) : dw_Z m (I) (J) := by
  subst hm
  exact (dw_Z.up (m := n + 1) hz (by omega))
set_option maxHeartbeats 4000000 in
set_option maxRecDepth 20000 in
theorem e_X9_init {K : dw_K} {n m : Nat} {sh : dw_Sh} {I : Nat → Nat → Int32} {J : Nat → Nat → Int64} {a : Nat} (hz : dw_Z n I J) (hm : n + 1 = m) (hn : n + 1 ≤ 1000000) (ha : a < n) (hk : (sh a).1 = 9) (hK : K none (m, f_X9_init n sh a, I, J)) : t_X9_init [.ref a] (n, sh, I, J) K := by
  subst hm
  refine dw_enter rfl ?_
  show dw_ok (pr_X9_init K) 0 1 940 [some (.ref (a))] [] (n, sh, I, J)
  refine qi_ald rfl rfl ?_
  refine qi_oinit rfl rfl ?_
  refine qi_ald rfl rfl ?_
  refine qi_ic rfl ?_
  refine qi_newa (m := n + 1) (N := 940) (bc' := 0) (bs' := 0) rfl hz (by decide) (by decide) rfl rfl (by omega) rfl rfl (fun s1 hs1 => ?_)
  have y1 : (s1 (n)).1 = 16 := by rw [hs1]; exact sh_nw_at
  have y2 : (s1 (n)).2.1 = 940 := by rw [hs1]; exact sh_nw_la
  have hz3 : dw_Z (n + 1) I J := dw_Z.up hz (by omega)
  have y4 : (s1 (a)).1 = 9 := by rw [hs1]; exact Eq.trans (sh_nw_k ha) hk
  refine qi_putr rfl y4 (fun s2 hs2 => ?_)
  have y5 : (s2 (a)).2.2 0 = some (n) := by rw [hs2]; exact sh_sr_rat
  refine qi_vret rfl ?_
  have es : s2 = f_X9_init n sh a := by
    rw [hs2, hs1]
    rfl
  rw [es]
  exact hK
theorem ea_X9_init {K : dw_K} {n m : Nat} {sh : dw_Sh} {I : Nat → Nat → Int32} {J : Nat → Nat → Int64} {a : Nat} (hz : dw_Z n I J) (hm : n + 1 = m) (hn : n + 1 ≤ 1000000) (ha : a < n) (hk : (sh a).1 = 9) (hK : ∀ sh' : dw_Sh, sh' = f_X9_init n sh a → K none (m, sh', I, J)) : t_X9_init [.ref a] (n, sh, I, J) K := e_X9_init hz hm hn ha hk (hK _ rfl)
def f_X10_init (n : Nat) (sh : dw_Sh) (a : Nat) : dw_Sh := (sh_sr (sh_nw (n + 5) (sh_sr (sh_nw (n + 4) (sh_sr (sh_nw (n + 3) (sh_sr (sh_nw (n + 2) (sh_sr (sh_nw (n + 1) (sh_sr (sh_nw (n) sh 16 144) (a) 0 (some (n))) 16 144) (a) 1 (some (n + 1))) 16 144) (a) 2 (some (n + 2))) 16 144) (a) 3 (some (n + 3))) 16 144) (a) 4 (some (n + 4))) 16 144) (a) 5 (some (n + 5)))
theorem f_X10_init_k {n a b : Nat} {sh : dw_Sh} (hb : b < n) : ((f_X10_init n sh a) b).1 = (sh b).1 := by
  unfold f_X10_init
  repeat (first | rw [sh_sr_k] | rw [sh_nw_k (by omega)] | rw [sh_nm_k (by omega)] | rw [f_X0_init_k (by omega)] | rw [f_X1_init_k (by omega)] | rw [f_X2_init_k (by omega)] | rw [f_X3_init_k (by omega)] | rw [f_X4_init_k (by omega)] | rw [f_X5_init_k (by omega)] | rw [f_X6_init_k (by omega)] | rw [f_X7_init_k (by omega)] | rw [f_X8_init_k (by omega)] | rw [f_X9_init_k (by omega)])
theorem f_X10_init_l {n a b : Nat} {sh : dw_Sh} (hb : b < n) : ((f_X10_init n sh a) b).2.1 = (sh b).2.1 := by
  unfold f_X10_init
  repeat (first | rw [sh_sr_l] | rw [sh_nw_l (by omega)] | rw [sh_nm_l (by omega)] | rw [f_X0_init_l (by omega)] | rw [f_X1_init_l (by omega)] | rw [f_X2_init_l (by omega)] | rw [f_X3_init_l (by omega)] | rw [f_X4_init_l (by omega)] | rw [f_X5_init_l (by omega)] | rw [f_X6_init_l (by omega)] | rw [f_X7_init_l (by omega)] | rw [f_X8_init_l (by omega)] | rw [f_X9_init_l (by omega)])
theorem f_X10_init_r {n a b j : Nat} {sh : dw_Sh} (hb : b < n) (hne : b ≠ a) : ((f_X10_init n sh a) b).2.2 j = (sh b).2.2 j := by
  unfold f_X10_init
  repeat (first | rfl | rw [sh_sr_ra hne] | rw [sh_sr_ra (by omega)] | rw [sh_nw_r (by omega)] | rw [sh_nm_r (by omega)] | rw [f_X0_init_r (by omega) (by omega)] | rw [f_X1_init_r (by omega) (by omega)] | rw [f_X2_init_r (by omega) (by omega)] | rw [f_X3_init_r (by omega) (by omega)] | rw [f_X4_init_r (by omega) (by omega)] | rw [f_X5_init_r (by omega) (by omega)] | rw [f_X6_init_r (by omega) (by omega)] | rw [f_X7_init_r (by omega) (by omega)] | rw [f_X8_init_r (by omega) (by omega)] | rw [f_X9_init_r (by omega) (by omega)])
theorem z_X10_init {n m a : Nat} {I : Nat → Nat → Int32} {J : Nat → Nat → Int64} (hz : dw_Z n I J) (hm : n + 6 = m) (ha : a < n) : dw_Z m (I) (J) := by
  subst hm
  exact (dw_Z.up (m := n + 6) (dw_Z.up (m := n + 5) (dw_Z.up (m := n + 4) (dw_Z.up (m := n + 3) (dw_Z.up (m := n + 2) (dw_Z.up (m := n + 1) hz (by omega)) (by omega)) (by omega)) (by omega)) (by omega)) (by omega))
set_option maxHeartbeats 4000000 in
set_option maxRecDepth 20000 in
theorem e_X10_init {K : dw_K} {n m : Nat} {sh : dw_Sh} {I : Nat → Nat → Int32} {J : Nat → Nat → Int64} {a : Nat} (hz : dw_Z n I J) (hm : n + 6 = m) (hn : n + 6 ≤ 1000000) (ha : a < n) (hk : (sh a).1 = 10) (hK : K none (m, f_X10_init n sh a, I, J)) : t_X10_init [.ref a] (n, sh, I, J) K := by
  subst hm
  refine dw_enter rfl ?_
  show dw_ok (pr_X10_init K) 0 6 864 [some (.ref (a))] [] (n, sh, I, J)
  refine qi_ald rfl rfl ?_
  refine qi_oinit rfl rfl ?_
  refine qi_ald rfl rfl ?_
  refine qi_ic rfl ?_
  refine qi_newa (m := n + 1) (N := 144) (bc' := 5) (bs' := 720) rfl hz (by decide) (by decide) rfl rfl (by omega) rfl rfl (fun s1 hs1 => ?_)
  have y1 : (s1 (n)).1 = 16 := by rw [hs1]; exact sh_nw_at
  have y2 : (s1 (n)).2.1 = 144 := by rw [hs1]; exact sh_nw_la
  have hz3 : dw_Z (n + 1) I J := dw_Z.up hz (by omega)
  have y4 : (s1 (a)).1 = 10 := by rw [hs1]; exact Eq.trans (sh_nw_k ha) hk
  refine qi_putr rfl y4 (fun s2 hs2 => ?_)
  have y5 : (s2 (a)).2.2 0 = some (n) := by rw [hs2]; exact sh_sr_rat
  refine qi_ald rfl rfl ?_
  refine qi_ic rfl ?_
  refine qi_newa (m := n + 2) (N := 144) (bc' := 4) (bs' := 576) rfl hz3 (by decide) (by decide) rfl rfl (by omega) rfl rfl (fun s3 hs3 => ?_)
  have y6 : (s3 (n + 1)).1 = 16 := by rw [hs3]; exact sh_nw_at
  have y7 : (s3 (n + 1)).2.1 = 144 := by rw [hs3]; exact sh_nw_la
  have hz8 : dw_Z (n + 2) I J := dw_Z.up hz3 (by omega)
  have y9 : (s2 (a)).1 = 10 := by rw [hs2]; exact Eq.trans sh_sr_k y4
  have y10 : (s3 (a)).1 = 10 := by rw [hs3]; exact Eq.trans (sh_nw_k (Nat.lt_add_right 1 ha)) y9
  refine qi_putr rfl y10 (fun s4 hs4 => ?_)
  have y11 : (s4 (a)).2.2 1 = some (n + 1) := by rw [hs4]; exact sh_sr_rat
  refine qi_ald rfl rfl ?_
  refine qi_ic rfl ?_
  refine qi_newa (m := n + 3) (N := 144) (bc' := 3) (bs' := 432) rfl hz8 (by decide) (by decide) rfl rfl (by omega) rfl rfl (fun s5 hs5 => ?_)
  have y12 : (s5 (n + 2)).1 = 16 := by rw [hs5]; exact sh_nw_at
  have y13 : (s5 (n + 2)).2.1 = 144 := by rw [hs5]; exact sh_nw_la
  have hz14 : dw_Z (n + 3) I J := dw_Z.up hz8 (by omega)
  have y15 : (s4 (a)).1 = 10 := by rw [hs4]; exact Eq.trans sh_sr_k y10
  have y16 : (s5 (a)).1 = 10 := by rw [hs5]; exact Eq.trans (sh_nw_k (Nat.lt_add_right 2 ha)) y15
  refine qi_putr rfl y16 (fun s6 hs6 => ?_)
  have y17 : (s6 (a)).2.2 2 = some (n + 2) := by rw [hs6]; exact sh_sr_rat
  refine qi_ald rfl rfl ?_
  refine qi_ic rfl ?_
  refine qi_newa (m := n + 4) (N := 144) (bc' := 2) (bs' := 288) rfl hz14 (by decide) (by decide) rfl rfl (by omega) rfl rfl (fun s7 hs7 => ?_)
  have y18 : (s7 (n + 3)).1 = 16 := by rw [hs7]; exact sh_nw_at
  have y19 : (s7 (n + 3)).2.1 = 144 := by rw [hs7]; exact sh_nw_la
  have hz20 : dw_Z (n + 4) I J := dw_Z.up hz14 (by omega)
  have y21 : (s6 (a)).1 = 10 := by rw [hs6]; exact Eq.trans sh_sr_k y16
  have y22 : (s7 (a)).1 = 10 := by rw [hs7]; exact Eq.trans (sh_nw_k (Nat.lt_add_right 3 ha)) y21
  refine qi_putr rfl y22 (fun s8 hs8 => ?_)
  have y23 : (s8 (a)).2.2 3 = some (n + 3) := by rw [hs8]; exact sh_sr_rat
  refine qi_ald rfl rfl ?_
  refine qi_ic rfl ?_
  refine qi_newa (m := n + 5) (N := 144) (bc' := 1) (bs' := 144) rfl hz20 (by decide) (by decide) rfl rfl (by omega) rfl rfl (fun s9 hs9 => ?_)
  have y24 : (s9 (n + 4)).1 = 16 := by rw [hs9]; exact sh_nw_at
  have y25 : (s9 (n + 4)).2.1 = 144 := by rw [hs9]; exact sh_nw_la
  have hz26 : dw_Z (n + 5) I J := dw_Z.up hz20 (by omega)
  have y27 : (s8 (a)).1 = 10 := by rw [hs8]; exact Eq.trans sh_sr_k y22
  have y28 : (s9 (a)).1 = 10 := by rw [hs9]; exact Eq.trans (sh_nw_k (Nat.lt_add_right 4 ha)) y27
  refine qi_putr rfl y28 (fun s10 hs10 => ?_)
  have y29 : (s10 (a)).2.2 4 = some (n + 4) := by rw [hs10]; exact sh_sr_rat
  refine qi_ald rfl rfl ?_
  refine qi_ic rfl ?_
  refine qi_newa (m := n + 6) (N := 144) (bc' := 0) (bs' := 0) rfl hz26 (by decide) (by decide) rfl rfl (by omega) rfl rfl (fun s11 hs11 => ?_)
  have y30 : (s11 (n + 5)).1 = 16 := by rw [hs11]; exact sh_nw_at
  have y31 : (s11 (n + 5)).2.1 = 144 := by rw [hs11]; exact sh_nw_la
  have hz32 : dw_Z (n + 6) I J := dw_Z.up hz26 (by omega)
  have y33 : (s10 (a)).1 = 10 := by rw [hs10]; exact Eq.trans sh_sr_k y28
  have y34 : (s11 (a)).1 = 10 := by rw [hs11]; exact Eq.trans (sh_nw_k (Nat.lt_add_right 5 ha)) y33
  refine qi_putr rfl y34 (fun s12 hs12 => ?_)
  have y35 : (s12 (a)).2.2 5 = some (n + 5) := by rw [hs12]; exact sh_sr_rat
  refine qi_vret rfl ?_
  have es : s12 = f_X10_init n sh a := by
    rw [hs12, hs11, hs10, hs9, hs8, hs7, hs6, hs5, hs4, hs3, hs2, hs1]
    rfl
  rw [es]
  exact hK
theorem ea_X10_init {K : dw_K} {n m : Nat} {sh : dw_Sh} {I : Nat → Nat → Int32} {J : Nat → Nat → Int64} {a : Nat} (hz : dw_Z n I J) (hm : n + 6 = m) (hn : n + 6 ≤ 1000000) (ha : a < n) (hk : (sh a).1 = 10) (hK : ∀ sh' : dw_Sh, sh' = f_X10_init n sh a → K none (m, sh', I, J)) : t_X10_init [.ref a] (n, sh, I, J) K := e_X10_init hz hm hn ha hk (hK _ rfl)
