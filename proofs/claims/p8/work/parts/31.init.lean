theorem dw_sr_eq2 {n : Nat} {sh : dw_Sh} {I : Nat → Nat → Int32} {J : Nat → Nat → Int64} {a j j2 : Nat} {x : Option Nat} (h : j = j2) : dw_sr (n, sh, I, J) a j x = (n, sh_sr sh a j2 x, I, J) := by
  subst h
  rfl
theorem dw_si_eq2 {n : Nat} {sh : dw_Sh} {I : Nat → Nat → Int32} {J : Nat → Nat → Int64} {a j j2 : Nat} {x : Int32} (h : j = j2) : dw_si (n, sh, I, J) a j x = (n, sh, dw_up I a j2 x, J) := by
  subst h
  rfl
theorem dw_sl_eq2 {n : Nat} {sh : dw_Sh} {I : Nat → Nat → Int32} {J : Nat → Nat → Int64} {a j j2 : Nat} {x : Int64} (h : j = j2) : dw_sl (n, sh, I, J) a j x = (n, sh, I, dw_up J a j2 x) := by
  subst h
  rfl
theorem dw_nw_eq2 {n m N2 : Nat} {sh : dw_Sh} {I : Nat → Nat → Int32} {J : Nat → Nat → Int64} {kd N : Nat} (h : dw_Z n I J) (hm : n + 1 = m) (hN : N = N2) : dw_nw (n, sh, I, J) kd N = (m, sh_nw n sh kd N2, I, J) := by
  subst hN
  exact dw_nw_eq h hm
theorem dw_nm_eq2 {n0 m n2 k2 : Nat} {sh : dw_Sh} {I : Nat → Nat → Int32} {J : Nat → Nat → Int64} {n k : Nat} (h : dw_Z n0 I J) (hm : n0 + (1 + n) = m) (hn : n = n2) (hk : k = k2) : dw_nm (n0, sh, I, J) n k = (m, sh_nm n0 sh n2 k2, I, J) := by
  subst hn
  subst hk
  exact dw_nm_eq h hm
theorem dw_vt_eq {n a j x : Nat} {sh : dw_Sh} {I : Nat → Nat → Int32} {J : Nat → Nat → Int64} (h : (sh a).2.2 j = some x) : dw_vt 2 (n, sh, I, J) a j = .ref x := by
  show dw_rv ((sh a).2.2 j) = .ref x
  rw [h]
  rfl
theorem sh_sr_rat {sh : dw_Sh} {a j : Nat} {x : Option Nat} : ((sh_sr sh a j x) a).2.2 j = x := by
  unfold sh_sr
  rw [if_pos rfl]
  show (if j = j then x else _) = x
  rw [if_pos rfl]
theorem sh_sr_rj {sh : dw_Sh} {a j i : Nat} {x : Option Nat} (h : i ≠ j) : ((sh_sr sh a j x) a).2.2 i = (sh a).2.2 i := by
  unfold sh_sr
  rw [if_pos rfl]
  show (if i = j then x else _) = _
  rw [if_neg h]
theorem sh_sr_ra {sh : dw_Sh} {a b j i : Nat} {x : Option Nat} (h : b ≠ a) : ((sh_sr sh a j x) b).2.2 i = (sh b).2.2 i := by
  unfold sh_sr
  rw [if_neg h]
theorem sh_nw_r {sh : dw_Sh} {a n kd N i : Nat} (h : a < n) : ((sh_nw n sh kd N) a).2.2 i = (sh a).2.2 i := by rw [sh_nw_lt h]
theorem sh_nm_r {sh : dw_Sh} {a n0 n k i : Nat} (h : a < n0) : ((sh_nm n0 sh n k) a).2.2 i = (sh a).2.2 i := by rw [sh_nm_lt h]
theorem dw_Z.si {n a j : Nat} {x : Int32} {I : Nat → Nat → Int32} {J : Nat → Nat → Int64} (h : dw_Z n I J) (ha : a < n) : dw_Z n (dw_up I a j x) J := fun b hb i => ⟨by rw [dw_up_ne (by omega)]; exact (h b hb i).1, (h b hb i).2⟩
theorem dw_Z.sl {n a j : Nat} {x : Int64} {I : Nat → Nat → Int32} {J : Nat → Nat → Int64} (h : dw_Z n I J) (ha : a < n) : dw_Z n I (dw_up J a j x) := fun b hb i => ⟨(h b hb i).1, by rw [dw_up_ne (by omega)]; exact (h b hb i).2⟩
theorem sh_nw_k {sh : dw_Sh} {a n kd N : Nat} (h : a < n) : ((sh_nw n sh kd N) a).1 = (sh a).1 := by rw [sh_nw_lt h]
theorem sh_nm_k {sh : dw_Sh} {a n0 n k : Nat} (h : a < n0) : ((sh_nm n0 sh n k) a).1 = (sh a).1 := by rw [sh_nm_lt h]
theorem sh_nw_l {sh : dw_Sh} {a n kd N : Nat} (h : a < n) : ((sh_nw n sh kd N) a).2.1 = (sh a).2.1 := by rw [sh_nw_lt h]
theorem sh_nm_l {sh : dw_Sh} {a n0 n k : Nat} (h : a < n0) : ((sh_nm n0 sh n k) a).2.1 = (sh a).2.1 := by rw [sh_nm_lt h]
theorem sh_sr_l {sh : dw_Sh} {a b j : Nat} {x : Option Nat} : ((sh_sr sh b j x) a).2.1 = (sh a).2.1 := by
  unfold sh_sr
  by_cases h : a = b <;> simp [h]
theorem sh_nw_la {sh : dw_Sh} {n kd N : Nat} : ((sh_nw n sh kd N) n).2.1 = N := by
  unfold sh_nw
  rw [if_pos rfl]
theorem sh_nm_at {sh : dw_Sh} {n0 n k : Nat} : ((sh_nm n0 sh n k) n0).1 = 20 := by
  unfold sh_nm
  rw [if_pos rfl]
def f_X0_init (n : Nat) (sh : dw_Sh) (a : Nat) : dw_Sh := (sh_sr (sh_nw (n + 4) (sh_sr (sh_nw (n + 3) (sh_sr (sh_nw (n + 2) (sh_sr (sh_nw (n + 1) (sh_sr (sh_nw (n) sh 16 8) (a) 5 (some (n))) 16 8) (a) 6 (some (n + 1))) 16 8) (a) 7 (some (n + 2))) 16 144) (a) 8 (some (n + 3))) 16 144) (a) 9 (some (n + 4)))
def g_X0_init (n : Nat) (I : Nat → Nat → Int32) (a : Nat) : Nat → Nat → Int32 := (dw_up I (a) 4 500)
theorem f_X0_init_k {n a b : Nat} {sh : dw_Sh} (hb : b < n) : ((f_X0_init n sh a) b).1 = (sh b).1 := by
  unfold f_X0_init
  repeat (first | rw [sh_sr_k] | rw [sh_nw_k (by omega)] | rw [sh_nm_k (by omega)])
theorem f_X0_init_l {n a b : Nat} {sh : dw_Sh} (hb : b < n) : ((f_X0_init n sh a) b).2.1 = (sh b).2.1 := by
  unfold f_X0_init
  repeat (first | rw [sh_sr_l] | rw [sh_nw_l (by omega)] | rw [sh_nm_l (by omega)])
theorem f_X0_init_r {n a b j : Nat} {sh : dw_Sh} (hb : b < n) (hne : b ≠ a) : ((f_X0_init n sh a) b).2.2 j = (sh b).2.2 j := by
  unfold f_X0_init
  repeat (first | rfl | rw [sh_sr_ra hne] | rw [sh_sr_ra (by omega)] | rw [sh_nw_r (by omega)] | rw [sh_nm_r (by omega)])
theorem z_X0_init {n m a : Nat} {I : Nat → Nat → Int32} {J : Nat → Nat → Int64} (hz : dw_Z n I J) (hm : n + 5 = m) (ha : a < n) : dw_Z m (g_X0_init n I a) (J) := by
  subst hm
  exact (dw_Z.up (m := n + 5) (dw_Z.up (m := n + 4) (dw_Z.up (m := n + 3) (dw_Z.up (m := n + 2) (dw_Z.up (m := n + 1) (dw_Z.si (n := n) (a := a) hz ha) (by omega)) (by omega)) (by omega)) (by omega)) (by omega))
set_option maxRecDepth 20000 in
theorem e_X0_init {K : dw_K} {n m : Nat} {sh : dw_Sh} {I : Nat → Nat → Int32} {J : Nat → Nat → Int64} {a : Nat} (hz : dw_Z n I J) (hm : n + 5 = m) (hn : n + 5 ≤ 1000000) (ha : a < n) (hk : (sh a).1 = 0) (hK : K none (m, f_X0_init n sh a, g_X0_init n I a, J)) : t_X0_init [.ref a] (n, sh, I, J) K := by
  subst hm
  refine dw_enter rfl ?_
  refine dw_run 46 (fun _ => false) ?_
  refine dw_itp hk ?_
  rw [dw_si_eq]
  have hz1 : dw_Z (n) ((dw_up I (a) 4 500)) (J) := (dw_Z.si (n := n) (a := a) hz ha)
  refine dw_itp ⟨by decide, by decide, by decide, (show n < 1000000 by omega), by decide⟩ ?_
  dsimp only
  rw [dw_nw_eq2 (n := n) (m := n + 1) (N := Int32.toNatClampNeg 8) (N2 := 8) hz1 rfl rfl]
  have hz2 : dw_Z (n + 1) ((dw_up I (a) 4 500)) (J) := (dw_Z.up (m := n + 1) hz1 (by omega))
  refine dw_itp (Eq.trans (sh_nw_k ha) hk) ?_
  rw [dw_sr_eq]
  refine dw_itp ⟨by decide, by decide, by decide, (show n + 1 < 1000000 by omega), by decide⟩ ?_
  dsimp only
  rw [dw_nw_eq2 (n := n + 1) (m := n + 2) (N := Int32.toNatClampNeg 8) (N2 := 8) hz2 rfl rfl]
  have hz3 : dw_Z (n + 2) ((dw_up I (a) 4 500)) (J) := (dw_Z.up (m := n + 2) hz2 (by omega))
  refine dw_itp (Eq.trans (sh_nw_k (Nat.lt_add_right 1 ha)) (Eq.trans sh_sr_k (Eq.trans (sh_nw_k ha) hk))) ?_
  rw [dw_sr_eq]
  refine dw_itp ⟨by decide, by decide, by decide, (show n + 2 < 1000000 by omega), by decide⟩ ?_
  dsimp only
  rw [dw_nw_eq2 (n := n + 2) (m := n + 3) (N := Int32.toNatClampNeg 8) (N2 := 8) hz3 rfl rfl]
  have hz4 : dw_Z (n + 3) ((dw_up I (a) 4 500)) (J) := (dw_Z.up (m := n + 3) hz3 (by omega))
  refine dw_itp (Eq.trans (sh_nw_k (Nat.lt_add_right 2 ha)) (Eq.trans sh_sr_k (Eq.trans (sh_nw_k (Nat.lt_add_right 1 ha)) (Eq.trans sh_sr_k (Eq.trans (sh_nw_k ha) hk))))) ?_
  rw [dw_sr_eq]
  refine dw_itp ⟨by decide, by decide, by decide, (show n + 3 < 1000000 by omega), by decide⟩ ?_
  dsimp only
  rw [dw_nw_eq2 (n := n + 3) (m := n + 4) (N := Int32.toNatClampNeg 144) (N2 := 144) hz4 rfl rfl]
  have hz5 : dw_Z (n + 4) ((dw_up I (a) 4 500)) (J) := (dw_Z.up (m := n + 4) hz4 (by omega))
  refine dw_itp (Eq.trans (sh_nw_k (Nat.lt_add_right 3 ha)) (Eq.trans sh_sr_k (Eq.trans (sh_nw_k (Nat.lt_add_right 2 ha)) (Eq.trans sh_sr_k (Eq.trans (sh_nw_k (Nat.lt_add_right 1 ha)) (Eq.trans sh_sr_k (Eq.trans (sh_nw_k ha) hk))))))) ?_
  rw [dw_sr_eq]
  refine dw_itp ⟨by decide, by decide, by decide, (show n + 4 < 1000000 by omega), by decide⟩ ?_
  dsimp only
  rw [dw_nw_eq2 (n := n + 4) (m := n + 5) (N := Int32.toNatClampNeg 144) (N2 := 144) hz5 rfl rfl]
  have hz6 : dw_Z (n + 5) ((dw_up I (a) 4 500)) (J) := (dw_Z.up (m := n + 5) hz5 (by omega))
  refine dw_itp (Eq.trans (sh_nw_k (Nat.lt_add_right 4 ha)) (Eq.trans sh_sr_k (Eq.trans (sh_nw_k (Nat.lt_add_right 3 ha)) (Eq.trans sh_sr_k (Eq.trans (sh_nw_k (Nat.lt_add_right 2 ha)) (Eq.trans sh_sr_k (Eq.trans (sh_nw_k (Nat.lt_add_right 1 ha)) (Eq.trans sh_sr_k (Eq.trans (sh_nw_k ha) hk))))))))) ?_
  rw [dw_sr_eq]
  exact hK
def f_X1_init (n : Nat) (sh : dw_Sh) (a : Nat) : dw_Sh := (sh_sr (sh_nm (n + 8) (sh_sr (sh_nw (n + 7) (sh_sr (sh_nw (n + 6) (sh_sr (f_X0_init (n + 1) (sh_nw (n) sh 0 10) (n)) (a) 0 (some (n))) 16 8) (a) 1 (some (n + 6))) 16 8) (a) 2 (some (n + 7))) 12 4) (a) 3 (some (n + 8)))
def g_X1_init (n : Nat) (I : Nat → Nat → Int32) (a : Nat) : Nat → Nat → Int32 := (g_X0_init (n + 1) I (n))
theorem f_X1_init_k {n a b : Nat} {sh : dw_Sh} (hb : b < n) : ((f_X1_init n sh a) b).1 = (sh b).1 := by
  unfold f_X1_init
  repeat (first | rw [sh_sr_k] | rw [sh_nw_k (by omega)] | rw [sh_nm_k (by omega)] | rw [f_X0_init_k (by omega)])
theorem f_X1_init_l {n a b : Nat} {sh : dw_Sh} (hb : b < n) : ((f_X1_init n sh a) b).2.1 = (sh b).2.1 := by
  unfold f_X1_init
  repeat (first | rw [sh_sr_l] | rw [sh_nw_l (by omega)] | rw [sh_nm_l (by omega)] | rw [f_X0_init_l (by omega)])
theorem f_X1_init_r {n a b j : Nat} {sh : dw_Sh} (hb : b < n) (hne : b ≠ a) : ((f_X1_init n sh a) b).2.2 j = (sh b).2.2 j := by
  unfold f_X1_init
  repeat (first | rfl | rw [sh_sr_ra hne] | rw [sh_sr_ra (by omega)] | rw [sh_nw_r (by omega)] | rw [sh_nm_r (by omega)] | rw [f_X0_init_r (by omega) (by omega)])
theorem z_X1_init {n m a : Nat} {I : Nat → Nat → Int32} {J : Nat → Nat → Int64} (hz : dw_Z n I J) (hm : n + 21 = m) (ha : a < n) : dw_Z m (g_X1_init n I a) (J) := by
  subst hm
  exact (dw_Z.up (m := n + 21) (dw_Z.up (m := n + 8) (dw_Z.up (m := n + 7) (z_X0_init (n := n + 1) (m := n + 6) (a := n) (dw_Z.up (m := n + 1) hz (by omega)) rfl (Nat.add_lt_add_left (k := n) (Nat.le_of_ble_eq_true rfl : 0 < 1))) (by omega)) (by omega)) (by omega))
set_option maxRecDepth 20000 in
theorem e_X1_init {K : dw_K} {n m : Nat} {sh : dw_Sh} {I : Nat → Nat → Int32} {J : Nat → Nat → Int64} {a : Nat} (hz : dw_Z n I J) (hm : n + 21 = m) (hn : n + 21 ≤ 1000000) (ha : a < n) (hk : (sh a).1 = 1) (hK : K none (m, f_X1_init n sh a, g_X1_init n I a, J)) : t_X1_init [.ref a] (n, sh, I, J) K := by
  subst hm
  refine dw_enter rfl ?_
  refine dw_run 41 (fun _ => false) ?_
  refine dw_itp ⟨by decide, by decide, (show n < 1000000 by omega)⟩ ?_
  dsimp only
  rw [dw_nw_eq (n := n) (m := n + 1) hz rfl]
  have hz1 : dw_Z (n + 1) (I) (J) := (dw_Z.up (m := n + 1) hz (by omega))
  refine dw_itp ⟨sh_nw_at, by decide, Nat.le_of_ble_eq_true rfl, by decide, by decide⟩ ?_
  refine e_X0_init (n := n + 1) (m := n + 6) (a := n) hz1 rfl (by omega) (Nat.add_lt_add_left (k := n) (Nat.le_of_ble_eq_true rfl : 0 < 1)) sh_nw_at ?_
  have hz2 : dw_Z (n + 6) ((g_X0_init (n + 1) I (n))) (J) := (z_X0_init (n := n + 1) (m := n + 6) (a := n) hz1 rfl (Nat.add_lt_add_left (k := n) (Nat.le_of_ble_eq_true rfl : 0 < 1)))
  refine dw_itp (Eq.trans (f_X0_init_k (Nat.lt_add_right 1 ha)) (Eq.trans (sh_nw_k ha) hk)) ?_
  rw [dw_sr_eq]
  refine dw_itp ⟨by decide, by decide, by decide, (show n + 6 < 1000000 by omega), by decide⟩ ?_
  dsimp only
  rw [dw_nw_eq2 (n := n + 6) (m := n + 7) (N := Int32.toNatClampNeg 8) (N2 := 8) hz2 rfl rfl]
  have hz3 : dw_Z (n + 7) ((g_X0_init (n + 1) I (n))) (J) := (dw_Z.up (m := n + 7) hz2 (by omega))
  refine dw_itp (Eq.trans (sh_nw_k (Nat.lt_add_right 6 ha)) (Eq.trans sh_sr_k (Eq.trans (f_X0_init_k (Nat.lt_add_right 1 ha)) (Eq.trans (sh_nw_k ha) hk)))) ?_
  rw [dw_sr_eq]
  refine dw_itp ⟨by decide, by decide, by decide, (show n + 7 < 1000000 by omega), by decide⟩ ?_
  dsimp only
  rw [dw_nw_eq2 (n := n + 7) (m := n + 8) (N := Int32.toNatClampNeg 8) (N2 := 8) hz3 rfl rfl]
  have hz4 : dw_Z (n + 8) ((g_X0_init (n + 1) I (n))) (J) := (dw_Z.up (m := n + 8) hz3 (by omega))
  refine dw_itp (Eq.trans (sh_nw_k (Nat.lt_add_right 7 ha)) (Eq.trans sh_sr_k (Eq.trans (sh_nw_k (Nat.lt_add_right 6 ha)) (Eq.trans sh_sr_k (Eq.trans (f_X0_init_k (Nat.lt_add_right 1 ha)) (Eq.trans (sh_nw_k ha) hk)))))) ?_
  rw [dw_sr_eq]
  refine dw_itp ⟨⟨by decide, by decide⟩, ⟨by decide, by decide⟩, (show n + 8 + (1 + 12) ≤ 1000000 by omega), by decide, by decide⟩ ?_
  dsimp only
  rw [dw_nm_eq2 (n0 := n + 8) (m := n + 21) (n := Int32.toNatClampNeg 12) (n2 := 12) (k := Int32.toNatClampNeg 4) (k2 := 4) hz4 rfl rfl rfl]
  have hz5 : dw_Z (n + 21) ((g_X0_init (n + 1) I (n))) (J) := (dw_Z.up (m := n + 21) hz4 (by omega))
  refine dw_itp (Eq.trans (sh_nm_k (Nat.lt_add_right 8 ha)) (Eq.trans sh_sr_k (Eq.trans (sh_nw_k (Nat.lt_add_right 7 ha)) (Eq.trans sh_sr_k (Eq.trans (sh_nw_k (Nat.lt_add_right 6 ha)) (Eq.trans sh_sr_k (Eq.trans (f_X0_init_k (Nat.lt_add_right 1 ha)) (Eq.trans (sh_nw_k ha) hk)))))))) ?_
  rw [dw_sr_eq]
  exact hK
def f_X2_init (n : Nat) (sh : dw_Sh) (a : Nat) : dw_Sh := (sh_sr (sh_nm (n) sh 5 144) (a) 1 (some (n)))
theorem f_X2_init_k {n a b : Nat} {sh : dw_Sh} (hb : b < n) : ((f_X2_init n sh a) b).1 = (sh b).1 := by
  unfold f_X2_init
  repeat (first | rw [sh_sr_k] | rw [sh_nw_k (by omega)] | rw [sh_nm_k (by omega)] | rw [f_X0_init_k (by omega)] | rw [f_X1_init_k (by omega)])
theorem f_X2_init_l {n a b : Nat} {sh : dw_Sh} (hb : b < n) : ((f_X2_init n sh a) b).2.1 = (sh b).2.1 := by
  unfold f_X2_init
  repeat (first | rw [sh_sr_l] | rw [sh_nw_l (by omega)] | rw [sh_nm_l (by omega)] | rw [f_X0_init_l (by omega)] | rw [f_X1_init_l (by omega)])
theorem f_X2_init_r {n a b j : Nat} {sh : dw_Sh} (hb : b < n) (hne : b ≠ a) : ((f_X2_init n sh a) b).2.2 j = (sh b).2.2 j := by
  unfold f_X2_init
  repeat (first | rfl | rw [sh_sr_ra hne] | rw [sh_sr_ra (by omega)] | rw [sh_nw_r (by omega)] | rw [sh_nm_r (by omega)] | rw [f_X0_init_r (by omega) (by omega)] | rw [f_X1_init_r (by omega) (by omega)])
theorem z_X2_init {n m a : Nat} {I : Nat → Nat → Int32} {J : Nat → Nat → Int64} (hz : dw_Z n I J) (hm : n + 6 = m) (ha : a < n) : dw_Z m (I) (J) := by
  subst hm
  exact (dw_Z.up (m := n + 6) hz (by omega))
set_option maxRecDepth 20000 in
theorem e_X2_init {K : dw_K} {n m : Nat} {sh : dw_Sh} {I : Nat → Nat → Int32} {J : Nat → Nat → Int64} {a : Nat} (hz : dw_Z n I J) (hm : n + 6 = m) (hn : n + 6 ≤ 1000000) (ha : a < n) (hk : (sh a).1 = 2) (hK : K none (m, f_X2_init n sh a, I, J)) : t_X2_init [.ref a] (n, sh, I, J) K := by
  subst hm
  refine dw_enter rfl ?_
  refine dw_run 28 (fun _ => false) ?_
  refine dw_itp ⟨⟨by decide, by decide⟩, ⟨by decide, by decide⟩, (show n + (1 + 5) ≤ 1000000 by omega), by decide, by decide⟩ ?_
  dsimp only
  rw [dw_nm_eq2 (n0 := n) (m := n + 6) (n := Int32.toNatClampNeg 5) (n2 := 5) (k := Int32.toNatClampNeg 144) (k2 := 144) hz rfl rfl rfl]
  have hz1 : dw_Z (n + 6) (I) (J) := (dw_Z.up (m := n + 6) hz (by omega))
  refine dw_itp (Eq.trans (sh_nm_k ha) hk) ?_
  rw [dw_sr_eq]
  exact hK
def f_X3_init (n : Nat) (sh : dw_Sh) (a : Nat) : dw_Sh := (sh_sr (f_X2_init (n + 1) (sh_nw (n) sh 2 2) (n)) (a) 0 (some (n)))
theorem f_X3_init_k {n a b : Nat} {sh : dw_Sh} (hb : b < n) : ((f_X3_init n sh a) b).1 = (sh b).1 := by
  unfold f_X3_init
  repeat (first | rw [sh_sr_k] | rw [sh_nw_k (by omega)] | rw [sh_nm_k (by omega)] | rw [f_X0_init_k (by omega)] | rw [f_X1_init_k (by omega)] | rw [f_X2_init_k (by omega)])
theorem f_X3_init_l {n a b : Nat} {sh : dw_Sh} (hb : b < n) : ((f_X3_init n sh a) b).2.1 = (sh b).2.1 := by
  unfold f_X3_init
  repeat (first | rw [sh_sr_l] | rw [sh_nw_l (by omega)] | rw [sh_nm_l (by omega)] | rw [f_X0_init_l (by omega)] | rw [f_X1_init_l (by omega)] | rw [f_X2_init_l (by omega)])
theorem f_X3_init_r {n a b j : Nat} {sh : dw_Sh} (hb : b < n) (hne : b ≠ a) : ((f_X3_init n sh a) b).2.2 j = (sh b).2.2 j := by
  unfold f_X3_init
  repeat (first | rfl | rw [sh_sr_ra hne] | rw [sh_sr_ra (by omega)] | rw [sh_nw_r (by omega)] | rw [sh_nm_r (by omega)] | rw [f_X0_init_r (by omega) (by omega)] | rw [f_X1_init_r (by omega) (by omega)] | rw [f_X2_init_r (by omega) (by omega)])
theorem z_X3_init {n m a : Nat} {I : Nat → Nat → Int32} {J : Nat → Nat → Int64} (hz : dw_Z n I J) (hm : n + 7 = m) (ha : a < n) : dw_Z m (I) (J) := by
  subst hm
  exact (z_X2_init (n := n + 1) (m := n + 7) (a := n) (dw_Z.up (m := n + 1) hz (by omega)) rfl (Nat.add_lt_add_left (k := n) (Nat.le_of_ble_eq_true rfl : 0 < 1)))
set_option maxRecDepth 20000 in
theorem e_X3_init {K : dw_K} {n m : Nat} {sh : dw_Sh} {I : Nat → Nat → Int32} {J : Nat → Nat → Int64} {a : Nat} (hz : dw_Z n I J) (hm : n + 7 = m) (hn : n + 7 ≤ 1000000) (ha : a < n) (hk : (sh a).1 = 3) (hK : K none (m, f_X3_init n sh a, I, J)) : t_X3_init [.ref a] (n, sh, I, J) K := by
  subst hm
  refine dw_enter rfl ?_
  refine dw_run 28 (fun _ => false) ?_
  refine dw_itp ⟨by decide, by decide, (show n < 1000000 by omega)⟩ ?_
  dsimp only
  rw [dw_nw_eq (n := n) (m := n + 1) hz rfl]
  have hz1 : dw_Z (n + 1) (I) (J) := (dw_Z.up (m := n + 1) hz (by omega))
  refine dw_itp ⟨sh_nw_at, by decide, Nat.le_of_ble_eq_true rfl, by decide, by decide⟩ ?_
  refine e_X2_init (n := n + 1) (m := n + 7) (a := n) hz1 rfl (by omega) (Nat.add_lt_add_left (k := n) (Nat.le_of_ble_eq_true rfl : 0 < 1)) sh_nw_at ?_
  have hz2 : dw_Z (n + 7) (I) (J) := (z_X2_init (n := n + 1) (m := n + 7) (a := n) hz1 rfl (Nat.add_lt_add_left (k := n) (Nat.le_of_ble_eq_true rfl : 0 < 1)))
  refine dw_itp (Eq.trans (f_X2_init_k (Nat.lt_add_right 1 ha)) (Eq.trans (sh_nw_k ha) hk)) ?_
  rw [dw_sr_eq]
  exact hK
def f_X4_init (n : Nat) (sh : dw_Sh) (a : Nat) : dw_Sh := (sh_sr (sh_nw (n) sh 16 144) (a) 0 (some (n)))
theorem f_X4_init_k {n a b : Nat} {sh : dw_Sh} (hb : b < n) : ((f_X4_init n sh a) b).1 = (sh b).1 := by
  unfold f_X4_init
  repeat (first | rw [sh_sr_k] | rw [sh_nw_k (by omega)] | rw [sh_nm_k (by omega)] | rw [f_X0_init_k (by omega)] | rw [f_X1_init_k (by omega)] | rw [f_X2_init_k (by omega)] | rw [f_X3_init_k (by omega)])
theorem f_X4_init_l {n a b : Nat} {sh : dw_Sh} (hb : b < n) : ((f_X4_init n sh a) b).2.1 = (sh b).2.1 := by
  unfold f_X4_init
  repeat (first | rw [sh_sr_l] | rw [sh_nw_l (by omega)] | rw [sh_nm_l (by omega)] | rw [f_X0_init_l (by omega)] | rw [f_X1_init_l (by omega)] | rw [f_X2_init_l (by omega)] | rw [f_X3_init_l (by omega)])
theorem f_X4_init_r {n a b j : Nat} {sh : dw_Sh} (hb : b < n) (hne : b ≠ a) : ((f_X4_init n sh a) b).2.2 j = (sh b).2.2 j := by
  unfold f_X4_init
  repeat (first | rfl | rw [sh_sr_ra hne] | rw [sh_sr_ra (by omega)] | rw [sh_nw_r (by omega)] | rw [sh_nm_r (by omega)] | rw [f_X0_init_r (by omega) (by omega)] | rw [f_X1_init_r (by omega) (by omega)] | rw [f_X2_init_r (by omega) (by omega)] | rw [f_X3_init_r (by omega) (by omega)])
theorem z_X4_init {n m a : Nat} {I : Nat → Nat → Int32} {J : Nat → Nat → Int64} (hz : dw_Z n I J) (hm : n + 1 = m) (ha : a < n) : dw_Z m (I) (J) := by
  subst hm
  exact (dw_Z.up (m := n + 1) hz (by omega))
set_option maxRecDepth 20000 in
theorem e_X4_init {K : dw_K} {n m : Nat} {sh : dw_Sh} {I : Nat → Nat → Int32} {J : Nat → Nat → Int64} {a : Nat} (hz : dw_Z n I J) (hm : n + 1 = m) (hn : n + 1 ≤ 1000000) (ha : a < n) (hk : (sh a).1 = 4) (hK : K none (m, f_X4_init n sh a, I, J)) : t_X4_init [.ref a] (n, sh, I, J) K := by
  subst hm
  refine dw_enter rfl ?_
  refine dw_run 27 (fun _ => false) ?_
  refine dw_itp ⟨by decide, by decide, by decide, (show n < 1000000 by omega), by decide⟩ ?_
  dsimp only
  rw [dw_nw_eq2 (n := n) (m := n + 1) (N := Int32.toNatClampNeg 144) (N2 := 144) hz rfl rfl]
  have hz1 : dw_Z (n + 1) (I) (J) := (dw_Z.up (m := n + 1) hz (by omega))
  refine dw_itp (Eq.trans (sh_nw_k ha) hk) ?_
  rw [dw_sr_eq]
  exact hK
def f_X5_init (n : Nat) (sh : dw_Sh) (a : Nat) : dw_Sh := (sh_sr (sh_nm (n) sh 30 3) (a) 1 (some (n)))
theorem f_X5_init_k {n a b : Nat} {sh : dw_Sh} (hb : b < n) : ((f_X5_init n sh a) b).1 = (sh b).1 := by
  unfold f_X5_init
  repeat (first | rw [sh_sr_k] | rw [sh_nw_k (by omega)] | rw [sh_nm_k (by omega)] | rw [f_X0_init_k (by omega)] | rw [f_X1_init_k (by omega)] | rw [f_X2_init_k (by omega)] | rw [f_X3_init_k (by omega)] | rw [f_X4_init_k (by omega)])
theorem f_X5_init_l {n a b : Nat} {sh : dw_Sh} (hb : b < n) : ((f_X5_init n sh a) b).2.1 = (sh b).2.1 := by
  unfold f_X5_init
  repeat (first | rw [sh_sr_l] | rw [sh_nw_l (by omega)] | rw [sh_nm_l (by omega)] | rw [f_X0_init_l (by omega)] | rw [f_X1_init_l (by omega)] | rw [f_X2_init_l (by omega)] | rw [f_X3_init_l (by omega)] | rw [f_X4_init_l (by omega)])
theorem f_X5_init_r {n a b j : Nat} {sh : dw_Sh} (hb : b < n) (hne : b ≠ a) : ((f_X5_init n sh a) b).2.2 j = (sh b).2.2 j := by
  unfold f_X5_init
  repeat (first | rfl | rw [sh_sr_ra hne] | rw [sh_sr_ra (by omega)] | rw [sh_nw_r (by omega)] | rw [sh_nm_r (by omega)] | rw [f_X0_init_r (by omega) (by omega)] | rw [f_X1_init_r (by omega) (by omega)] | rw [f_X2_init_r (by omega) (by omega)] | rw [f_X3_init_r (by omega) (by omega)] | rw [f_X4_init_r (by omega) (by omega)])
theorem z_X5_init {n m a : Nat} {I : Nat → Nat → Int32} {J : Nat → Nat → Int64} (hz : dw_Z n I J) (hm : n + 31 = m) (ha : a < n) : dw_Z m (I) (J) := by
  subst hm
  exact (dw_Z.up (m := n + 31) hz (by omega))
set_option maxRecDepth 20000 in
theorem e_X5_init {K : dw_K} {n m : Nat} {sh : dw_Sh} {I : Nat → Nat → Int32} {J : Nat → Nat → Int64} {a : Nat} (hz : dw_Z n I J) (hm : n + 31 = m) (hn : n + 31 ≤ 1000000) (ha : a < n) (hk : (sh a).1 = 5) (hK : K none (m, f_X5_init n sh a, I, J)) : t_X5_init [.ref a] (n, sh, I, J) K := by
  subst hm
  refine dw_enter rfl ?_
  refine dw_run 28 (fun _ => false) ?_
  refine dw_itp ⟨⟨by decide, by decide⟩, ⟨by decide, by decide⟩, (show n + (1 + 30) ≤ 1000000 by omega), by decide, by decide⟩ ?_
  dsimp only
  rw [dw_nm_eq2 (n0 := n) (m := n + 31) (n := Int32.toNatClampNeg 30) (n2 := 30) (k := Int32.toNatClampNeg 3) (k2 := 3) hz rfl rfl rfl]
  have hz1 : dw_Z (n + 31) (I) (J) := (dw_Z.up (m := n + 31) hz (by omega))
  refine dw_itp (Eq.trans (sh_nm_k ha) hk) ?_
  rw [dw_sr_eq]
  exact hK
def f_X6_init (n : Nat) (sh : dw_Sh) (a : Nat) : dw_Sh := (sh_sr (f_X5_init (n + 1) (sh_nw (n) sh 5 2) (n)) (a) 0 (some (n)))
theorem f_X6_init_k {n a b : Nat} {sh : dw_Sh} (hb : b < n) : ((f_X6_init n sh a) b).1 = (sh b).1 := by
  unfold f_X6_init
  repeat (first | rw [sh_sr_k] | rw [sh_nw_k (by omega)] | rw [sh_nm_k (by omega)] | rw [f_X0_init_k (by omega)] | rw [f_X1_init_k (by omega)] | rw [f_X2_init_k (by omega)] | rw [f_X3_init_k (by omega)] | rw [f_X4_init_k (by omega)] | rw [f_X5_init_k (by omega)])
theorem f_X6_init_l {n a b : Nat} {sh : dw_Sh} (hb : b < n) : ((f_X6_init n sh a) b).2.1 = (sh b).2.1 := by
  unfold f_X6_init
  repeat (first | rw [sh_sr_l] | rw [sh_nw_l (by omega)] | rw [sh_nm_l (by omega)] | rw [f_X0_init_l (by omega)] | rw [f_X1_init_l (by omega)] | rw [f_X2_init_l (by omega)] | rw [f_X3_init_l (by omega)] | rw [f_X4_init_l (by omega)] | rw [f_X5_init_l (by omega)])
theorem f_X6_init_r {n a b j : Nat} {sh : dw_Sh} (hb : b < n) (hne : b ≠ a) : ((f_X6_init n sh a) b).2.2 j = (sh b).2.2 j := by
  unfold f_X6_init
  repeat (first | rfl | rw [sh_sr_ra hne] | rw [sh_sr_ra (by omega)] | rw [sh_nw_r (by omega)] | rw [sh_nm_r (by omega)] | rw [f_X0_init_r (by omega) (by omega)] | rw [f_X1_init_r (by omega) (by omega)] | rw [f_X2_init_r (by omega) (by omega)] | rw [f_X3_init_r (by omega) (by omega)] | rw [f_X4_init_r (by omega) (by omega)] | rw [f_X5_init_r (by omega) (by omega)])
theorem z_X6_init {n m a : Nat} {I : Nat → Nat → Int32} {J : Nat → Nat → Int64} (hz : dw_Z n I J) (hm : n + 32 = m) (ha : a < n) : dw_Z m (I) (J) := by
  subst hm
  exact (z_X5_init (n := n + 1) (m := n + 32) (a := n) (dw_Z.up (m := n + 1) hz (by omega)) rfl (Nat.add_lt_add_left (k := n) (Nat.le_of_ble_eq_true rfl : 0 < 1)))
set_option maxRecDepth 20000 in
theorem e_X6_init {K : dw_K} {n m : Nat} {sh : dw_Sh} {I : Nat → Nat → Int32} {J : Nat → Nat → Int64} {a : Nat} (hz : dw_Z n I J) (hm : n + 32 = m) (hn : n + 32 ≤ 1000000) (ha : a < n) (hk : (sh a).1 = 6) (hK : K none (m, f_X6_init n sh a, I, J)) : t_X6_init [.ref a] (n, sh, I, J) K := by
  subst hm
  refine dw_enter rfl ?_
  refine dw_run 28 (fun _ => false) ?_
  refine dw_itp ⟨by decide, by decide, (show n < 1000000 by omega)⟩ ?_
  dsimp only
  rw [dw_nw_eq (n := n) (m := n + 1) hz rfl]
  have hz1 : dw_Z (n + 1) (I) (J) := (dw_Z.up (m := n + 1) hz (by omega))
  refine dw_itp ⟨sh_nw_at, by decide, Nat.le_of_ble_eq_true rfl, by decide, by decide⟩ ?_
  refine e_X5_init (n := n + 1) (m := n + 32) (a := n) hz1 rfl (by omega) (Nat.add_lt_add_left (k := n) (Nat.le_of_ble_eq_true rfl : 0 < 1)) sh_nw_at ?_
  have hz2 : dw_Z (n + 32) (I) (J) := (z_X5_init (n := n + 1) (m := n + 32) (a := n) hz1 rfl (Nat.add_lt_add_left (k := n) (Nat.le_of_ble_eq_true rfl : 0 < 1)))
  refine dw_itp (Eq.trans (f_X5_init_k (Nat.lt_add_right 1 ha)) (Eq.trans (sh_nw_k ha) hk)) ?_
  rw [dw_sr_eq]
  exact hK
def f_X7_init (n : Nat) (sh : dw_Sh) (a : Nat) : dw_Sh := (sh_sr (sh_nw (n + 13) (sh_sr (sh_nw (n + 12) (sh_sr (sh_nw (n + 11) (sh_sr (sh_nw (n + 10) (sh_sr (sh_nw (n + 9) (sh_sr (sh_nw (n + 8) (sh_sr (sh_nw (n + 7) (sh_sr (f_X2_init (n + 1) (sh_nw (n) sh 2 2) (n)) (a) 7 (some (n))) 16 144) (a) 8 (some (n + 7))) 16 144) (a) 9 (some (n + 8))) 16 144) (a) 10 (some (n + 9))) 16 144) (a) 11 (some (n + 10))) 16 144) (a) 12 (some (n + 11))) 16 144) (a) 13 (some (n + 12))) 16 144) (a) 14 (some (n + 13)))
theorem f_X7_init_k {n a b : Nat} {sh : dw_Sh} (hb : b < n) : ((f_X7_init n sh a) b).1 = (sh b).1 := by
  unfold f_X7_init
  repeat (first | rw [sh_sr_k] | rw [sh_nw_k (by omega)] | rw [sh_nm_k (by omega)] | rw [f_X0_init_k (by omega)] | rw [f_X1_init_k (by omega)] | rw [f_X2_init_k (by omega)] | rw [f_X3_init_k (by omega)] | rw [f_X4_init_k (by omega)] | rw [f_X5_init_k (by omega)] | rw [f_X6_init_k (by omega)])
theorem f_X7_init_l {n a b : Nat} {sh : dw_Sh} (hb : b < n) : ((f_X7_init n sh a) b).2.1 = (sh b).2.1 := by
  unfold f_X7_init
  repeat (first | rw [sh_sr_l] | rw [sh_nw_l (by omega)] | rw [sh_nm_l (by omega)] | rw [f_X0_init_l (by omega)] | rw [f_X1_init_l (by omega)] | rw [f_X2_init_l (by omega)] | rw [f_X3_init_l (by omega)] | rw [f_X4_init_l (by omega)] | rw [f_X5_init_l (by omega)] | rw [f_X6_init_l (by omega)])
theorem f_X7_init_r {n a b j : Nat} {sh : dw_Sh} (hb : b < n) (hne : b ≠ a) : ((f_X7_init n sh a) b).2.2 j = (sh b).2.2 j := by
  unfold f_X7_init
  repeat (first | rfl | rw [sh_sr_ra hne] | rw [sh_sr_ra (by omega)] | rw [sh_nw_r (by omega)] | rw [sh_nm_r (by omega)] | rw [f_X0_init_r (by omega) (by omega)] | rw [f_X1_init_r (by omega) (by omega)] | rw [f_X2_init_r (by omega) (by omega)] | rw [f_X3_init_r (by omega) (by omega)] | rw [f_X4_init_r (by omega) (by omega)] | rw [f_X5_init_r (by omega) (by omega)] | rw [f_X6_init_r (by omega) (by omega)])
theorem z_X7_init {n m a : Nat} {I : Nat → Nat → Int32} {J : Nat → Nat → Int64} (hz : dw_Z n I J) (hm : n + 14 = m) (ha : a < n) : dw_Z m (I) (J) := by
  subst hm
  exact (dw_Z.up (m := n + 14) (dw_Z.up (m := n + 13) (dw_Z.up (m := n + 12) (dw_Z.up (m := n + 11) (dw_Z.up (m := n + 10) (dw_Z.up (m := n + 9) (dw_Z.up (m := n + 8) (z_X2_init (n := n + 1) (m := n + 7) (a := n) (dw_Z.up (m := n + 1) hz (by omega)) rfl (Nat.add_lt_add_left (k := n) (Nat.le_of_ble_eq_true rfl : 0 < 1))) (by omega)) (by omega)) (by omega)) (by omega)) (by omega)) (by omega)) (by omega))
set_option maxRecDepth 20000 in
theorem e_X7_init {K : dw_K} {n m : Nat} {sh : dw_Sh} {I : Nat → Nat → Int32} {J : Nat → Nat → Int64} {a : Nat} (hz : dw_Z n I J) (hm : n + 14 = m) (hn : n + 14 ≤ 1000000) (ha : a < n) (hk : (sh a).1 = 7) (hK : K none (m, f_X7_init n sh a, I, J)) : t_X7_init [.ref a] (n, sh, I, J) K := by
  subst hm
  refine dw_enter rfl ?_
  refine dw_run 56 (fun _ => false) ?_
  refine dw_itp ⟨by decide, by decide, (show n < 1000000 by omega)⟩ ?_
  dsimp only
  rw [dw_nw_eq (n := n) (m := n + 1) hz rfl]
  have hz1 : dw_Z (n + 1) (I) (J) := (dw_Z.up (m := n + 1) hz (by omega))
  refine dw_itp ⟨sh_nw_at, by decide, Nat.le_of_ble_eq_true rfl, by decide, by decide⟩ ?_
  refine e_X2_init (n := n + 1) (m := n + 7) (a := n) hz1 rfl (by omega) (Nat.add_lt_add_left (k := n) (Nat.le_of_ble_eq_true rfl : 0 < 1)) sh_nw_at ?_
  have hz2 : dw_Z (n + 7) (I) (J) := (z_X2_init (n := n + 1) (m := n + 7) (a := n) hz1 rfl (Nat.add_lt_add_left (k := n) (Nat.le_of_ble_eq_true rfl : 0 < 1)))
  refine dw_itp (Eq.trans (f_X2_init_k (Nat.lt_add_right 1 ha)) (Eq.trans (sh_nw_k ha) hk)) ?_
  rw [dw_sr_eq]
  refine dw_itp ⟨by decide, by decide, by decide, (show n + 7 < 1000000 by omega), by decide⟩ ?_
  dsimp only
  rw [dw_nw_eq2 (n := n + 7) (m := n + 8) (N := Int32.toNatClampNeg 144) (N2 := 144) hz2 rfl rfl]
  have hz3 : dw_Z (n + 8) (I) (J) := (dw_Z.up (m := n + 8) hz2 (by omega))
  refine dw_itp (Eq.trans (sh_nw_k (Nat.lt_add_right 7 ha)) (Eq.trans sh_sr_k (Eq.trans (f_X2_init_k (Nat.lt_add_right 1 ha)) (Eq.trans (sh_nw_k ha) hk)))) ?_
  rw [dw_sr_eq]
  refine dw_itp ⟨by decide, by decide, by decide, (show n + 8 < 1000000 by omega), by decide⟩ ?_
  dsimp only
  rw [dw_nw_eq2 (n := n + 8) (m := n + 9) (N := Int32.toNatClampNeg 144) (N2 := 144) hz3 rfl rfl]
  have hz4 : dw_Z (n + 9) (I) (J) := (dw_Z.up (m := n + 9) hz3 (by omega))
  refine dw_itp (Eq.trans (sh_nw_k (Nat.lt_add_right 8 ha)) (Eq.trans sh_sr_k (Eq.trans (sh_nw_k (Nat.lt_add_right 7 ha)) (Eq.trans sh_sr_k (Eq.trans (f_X2_init_k (Nat.lt_add_right 1 ha)) (Eq.trans (sh_nw_k ha) hk)))))) ?_
  rw [dw_sr_eq]
  refine dw_itp ⟨by decide, by decide, by decide, (show n + 9 < 1000000 by omega), by decide⟩ ?_
  dsimp only
  rw [dw_nw_eq2 (n := n + 9) (m := n + 10) (N := Int32.toNatClampNeg 144) (N2 := 144) hz4 rfl rfl]
  have hz5 : dw_Z (n + 10) (I) (J) := (dw_Z.up (m := n + 10) hz4 (by omega))
  refine dw_itp (Eq.trans (sh_nw_k (Nat.lt_add_right 9 ha)) (Eq.trans sh_sr_k (Eq.trans (sh_nw_k (Nat.lt_add_right 8 ha)) (Eq.trans sh_sr_k (Eq.trans (sh_nw_k (Nat.lt_add_right 7 ha)) (Eq.trans sh_sr_k (Eq.trans (f_X2_init_k (Nat.lt_add_right 1 ha)) (Eq.trans (sh_nw_k ha) hk)))))))) ?_
  rw [dw_sr_eq]
  refine dw_itp ⟨by decide, by decide, by decide, (show n + 10 < 1000000 by omega), by decide⟩ ?_
  dsimp only
  rw [dw_nw_eq2 (n := n + 10) (m := n + 11) (N := Int32.toNatClampNeg 144) (N2 := 144) hz5 rfl rfl]
  have hz6 : dw_Z (n + 11) (I) (J) := (dw_Z.up (m := n + 11) hz5 (by omega))
  refine dw_itp (Eq.trans (sh_nw_k (Nat.lt_add_right 10 ha)) (Eq.trans sh_sr_k (Eq.trans (sh_nw_k (Nat.lt_add_right 9 ha)) (Eq.trans sh_sr_k (Eq.trans (sh_nw_k (Nat.lt_add_right 8 ha)) (Eq.trans sh_sr_k (Eq.trans (sh_nw_k (Nat.lt_add_right 7 ha)) (Eq.trans sh_sr_k (Eq.trans (f_X2_init_k (Nat.lt_add_right 1 ha)) (Eq.trans (sh_nw_k ha) hk)))))))))) ?_
  rw [dw_sr_eq]
  refine dw_itp ⟨by decide, by decide, by decide, (show n + 11 < 1000000 by omega), by decide⟩ ?_
  dsimp only
  rw [dw_nw_eq2 (n := n + 11) (m := n + 12) (N := Int32.toNatClampNeg 144) (N2 := 144) hz6 rfl rfl]
  have hz7 : dw_Z (n + 12) (I) (J) := (dw_Z.up (m := n + 12) hz6 (by omega))
  refine dw_itp (Eq.trans (sh_nw_k (Nat.lt_add_right 11 ha)) (Eq.trans sh_sr_k (Eq.trans (sh_nw_k (Nat.lt_add_right 10 ha)) (Eq.trans sh_sr_k (Eq.trans (sh_nw_k (Nat.lt_add_right 9 ha)) (Eq.trans sh_sr_k (Eq.trans (sh_nw_k (Nat.lt_add_right 8 ha)) (Eq.trans sh_sr_k (Eq.trans (sh_nw_k (Nat.lt_add_right 7 ha)) (Eq.trans sh_sr_k (Eq.trans (f_X2_init_k (Nat.lt_add_right 1 ha)) (Eq.trans (sh_nw_k ha) hk)))))))))))) ?_
  rw [dw_sr_eq]
  refine dw_itp ⟨by decide, by decide, by decide, (show n + 12 < 1000000 by omega), by decide⟩ ?_
  dsimp only
  rw [dw_nw_eq2 (n := n + 12) (m := n + 13) (N := Int32.toNatClampNeg 144) (N2 := 144) hz7 rfl rfl]
  have hz8 : dw_Z (n + 13) (I) (J) := (dw_Z.up (m := n + 13) hz7 (by omega))
  refine dw_itp (Eq.trans (sh_nw_k (Nat.lt_add_right 12 ha)) (Eq.trans sh_sr_k (Eq.trans (sh_nw_k (Nat.lt_add_right 11 ha)) (Eq.trans sh_sr_k (Eq.trans (sh_nw_k (Nat.lt_add_right 10 ha)) (Eq.trans sh_sr_k (Eq.trans (sh_nw_k (Nat.lt_add_right 9 ha)) (Eq.trans sh_sr_k (Eq.trans (sh_nw_k (Nat.lt_add_right 8 ha)) (Eq.trans sh_sr_k (Eq.trans (sh_nw_k (Nat.lt_add_right 7 ha)) (Eq.trans sh_sr_k (Eq.trans (f_X2_init_k (Nat.lt_add_right 1 ha)) (Eq.trans (sh_nw_k ha) hk)))))))))))))) ?_
  rw [dw_sr_eq]
  refine dw_itp ⟨by decide, by decide, by decide, (show n + 13 < 1000000 by omega), by decide⟩ ?_
  dsimp only
  rw [dw_nw_eq2 (n := n + 13) (m := n + 14) (N := Int32.toNatClampNeg 144) (N2 := 144) hz8 rfl rfl]
  have hz9 : dw_Z (n + 14) (I) (J) := (dw_Z.up (m := n + 14) hz8 (by omega))
  refine dw_itp (Eq.trans (sh_nw_k (Nat.lt_add_right 13 ha)) (Eq.trans sh_sr_k (Eq.trans (sh_nw_k (Nat.lt_add_right 12 ha)) (Eq.trans sh_sr_k (Eq.trans (sh_nw_k (Nat.lt_add_right 11 ha)) (Eq.trans sh_sr_k (Eq.trans (sh_nw_k (Nat.lt_add_right 10 ha)) (Eq.trans sh_sr_k (Eq.trans (sh_nw_k (Nat.lt_add_right 9 ha)) (Eq.trans sh_sr_k (Eq.trans (sh_nw_k (Nat.lt_add_right 8 ha)) (Eq.trans sh_sr_k (Eq.trans (sh_nw_k (Nat.lt_add_right 7 ha)) (Eq.trans sh_sr_k (Eq.trans (f_X2_init_k (Nat.lt_add_right 1 ha)) (Eq.trans (sh_nw_k ha) hk)))))))))))))))) ?_
  rw [dw_sr_eq]
  exact hK
def f_X8_init (n : Nat) (sh : dw_Sh) (a : Nat) : dw_Sh := (sh_sr (f_X2_init (n + 90) (sh_nw (n + 89) (sh_sr (f_X2_init (n + 83) (sh_nw (n + 82) (sh_sr (f_X2_init (n + 76) (sh_nw (n + 75) (sh_sr (f_X2_init (n + 69) (sh_nw (n + 68) (sh_sr (f_X2_init (n + 62) (sh_nw (n + 61) (sh_sr (f_X2_init (n + 55) (sh_nw (n + 54) (sh_sr (f_X7_init (n + 40) (sh_nw (n + 39) (sh_sr (f_X5_init (n + 8) (sh_nw (n + 7) (sh_sr (sh_nw (n + 6) (sh_sr (f_X0_init (n + 1) (sh_nw (n) sh 0 10) (n)) (a) 1 (some (n))) 22 6) (a) 2 (some (n + 6))) 5 2) (n + 7)) (a) 3 (some (n + 7))) 7 15) (n + 39)) (a) 4 (some (n + 39))) 2 2) (n + 54)) (n + 6) 0 (some (n + 54))) 2 2) (n + 61)) (n + 6) 1 (some (n + 61))) 2 2) (n + 68)) (n + 6) 2 (some (n + 68))) 2 2) (n + 75)) (n + 6) 3 (some (n + 75))) 2 2) (n + 82)) (n + 6) 4 (some (n + 82))) 2 2) (n + 89)) (n + 6) 5 (some (n + 89)))
def g_X8_init (n : Nat) (I : Nat → Nat → Int32) (a : Nat) : Nat → Nat → Int32 := (g_X0_init (n + 1) I (n))
theorem f_X8_init_k {n a b : Nat} {sh : dw_Sh} (hb : b < n) : ((f_X8_init n sh a) b).1 = (sh b).1 := by
  unfold f_X8_init
  repeat (first | rw [sh_sr_k] | rw [sh_nw_k (by omega)] | rw [sh_nm_k (by omega)] | rw [f_X0_init_k (by omega)] | rw [f_X1_init_k (by omega)] | rw [f_X2_init_k (by omega)] | rw [f_X3_init_k (by omega)] | rw [f_X4_init_k (by omega)] | rw [f_X5_init_k (by omega)] | rw [f_X6_init_k (by omega)] | rw [f_X7_init_k (by omega)])
theorem f_X8_init_l {n a b : Nat} {sh : dw_Sh} (hb : b < n) : ((f_X8_init n sh a) b).2.1 = (sh b).2.1 := by
  unfold f_X8_init
  repeat (first | rw [sh_sr_l] | rw [sh_nw_l (by omega)] | rw [sh_nm_l (by omega)] | rw [f_X0_init_l (by omega)] | rw [f_X1_init_l (by omega)] | rw [f_X2_init_l (by omega)] | rw [f_X3_init_l (by omega)] | rw [f_X4_init_l (by omega)] | rw [f_X5_init_l (by omega)] | rw [f_X6_init_l (by omega)] | rw [f_X7_init_l (by omega)])
theorem f_X8_init_r {n a b j : Nat} {sh : dw_Sh} (hb : b < n) (hne : b ≠ a) : ((f_X8_init n sh a) b).2.2 j = (sh b).2.2 j := by
  unfold f_X8_init
  repeat (first | rfl | rw [sh_sr_ra hne] | rw [sh_sr_ra (by omega)] | rw [sh_nw_r (by omega)] | rw [sh_nm_r (by omega)] | rw [f_X0_init_r (by omega) (by omega)] | rw [f_X1_init_r (by omega) (by omega)] | rw [f_X2_init_r (by omega) (by omega)] | rw [f_X3_init_r (by omega) (by omega)] | rw [f_X4_init_r (by omega) (by omega)] | rw [f_X5_init_r (by omega) (by omega)] | rw [f_X6_init_r (by omega) (by omega)] | rw [f_X7_init_r (by omega) (by omega)])
theorem z_X8_init {n m a : Nat} {I : Nat → Nat → Int32} {J : Nat → Nat → Int64} (hz : dw_Z n I J) (hm : n + 96 = m) (ha : a < n) : dw_Z m (g_X8_init n I a) (J) := by
  subst hm
  exact (z_X2_init (n := n + 90) (m := n + 96) (a := n + 89) (dw_Z.up (m := n + 90) (z_X2_init (n := n + 83) (m := n + 89) (a := n + 82) (dw_Z.up (m := n + 83) (z_X2_init (n := n + 76) (m := n + 82) (a := n + 75) (dw_Z.up (m := n + 76) (z_X2_init (n := n + 69) (m := n + 75) (a := n + 68) (dw_Z.up (m := n + 69) (z_X2_init (n := n + 62) (m := n + 68) (a := n + 61) (dw_Z.up (m := n + 62) (z_X2_init (n := n + 55) (m := n + 61) (a := n + 54) (dw_Z.up (m := n + 55) (z_X7_init (n := n + 40) (m := n + 54) (a := n + 39) (dw_Z.up (m := n + 40) (z_X5_init (n := n + 8) (m := n + 39) (a := n + 7) (dw_Z.up (m := n + 8) (dw_Z.up (m := n + 7) (z_X0_init (n := n + 1) (m := n + 6) (a := n) (dw_Z.up (m := n + 1) hz (by omega)) rfl (Nat.add_lt_add_left (k := n) (Nat.le_of_ble_eq_true rfl : 0 < 1))) (by omega)) (by omega)) rfl (Nat.add_lt_add_left (k := n) (Nat.le_of_ble_eq_true rfl : 7 < 8))) (by omega)) rfl (Nat.add_lt_add_left (k := n) (Nat.le_of_ble_eq_true rfl : 39 < 40))) (by omega)) rfl (Nat.add_lt_add_left (k := n) (Nat.le_of_ble_eq_true rfl : 54 < 55))) (by omega)) rfl (Nat.add_lt_add_left (k := n) (Nat.le_of_ble_eq_true rfl : 61 < 62))) (by omega)) rfl (Nat.add_lt_add_left (k := n) (Nat.le_of_ble_eq_true rfl : 68 < 69))) (by omega)) rfl (Nat.add_lt_add_left (k := n) (Nat.le_of_ble_eq_true rfl : 75 < 76))) (by omega)) rfl (Nat.add_lt_add_left (k := n) (Nat.le_of_ble_eq_true rfl : 82 < 83))) (by omega)) rfl (Nat.add_lt_add_left (k := n) (Nat.le_of_ble_eq_true rfl : 89 < 90)))
set_option maxRecDepth 20000 in
theorem e_X8_init {K : dw_K} {n m : Nat} {sh : dw_Sh} {I : Nat → Nat → Int32} {J : Nat → Nat → Int64} {a : Nat} (hz : dw_Z n I J) (hm : n + 96 = m) (hn : n + 96 ≤ 1000000) (ha : a < n) (hk : (sh a).1 = 8) (hK : K none (m, f_X8_init n sh a, g_X8_init n I a, J)) : t_X8_init [.ref a] (n, sh, I, J) K := by
  subst hm
  refine dw_enter rfl ?_
  refine dw_run 119 (fun _ => false) ?_
  refine dw_itp ⟨by decide, by decide, (show n < 1000000 by omega)⟩ ?_
  dsimp only
  rw [dw_nw_eq (n := n) (m := n + 1) hz rfl]
  have hz1 : dw_Z (n + 1) (I) (J) := (dw_Z.up (m := n + 1) hz (by omega))
  refine dw_itp ⟨sh_nw_at, by decide, Nat.le_of_ble_eq_true rfl, by decide, by decide⟩ ?_
  refine e_X0_init (n := n + 1) (m := n + 6) (a := n) hz1 rfl (by omega) (Nat.add_lt_add_left (k := n) (Nat.le_of_ble_eq_true rfl : 0 < 1)) sh_nw_at ?_
  have hz2 : dw_Z (n + 6) ((g_X0_init (n + 1) I (n))) (J) := (z_X0_init (n := n + 1) (m := n + 6) (a := n) hz1 rfl (Nat.add_lt_add_left (k := n) (Nat.le_of_ble_eq_true rfl : 0 < 1)))
  refine dw_itp (Eq.trans (f_X0_init_k (Nat.lt_add_right 1 ha)) (Eq.trans (sh_nw_k ha) hk)) ?_
  rw [dw_sr_eq]
  refine dw_itp ⟨by decide, by decide, by decide, (show n + 6 < 1000000 by omega), by decide⟩ ?_
  dsimp only
  rw [dw_nw_eq2 (n := n + 6) (m := n + 7) (N := Int32.toNatClampNeg 6) (N2 := 6) hz2 rfl rfl]
  have hz3 : dw_Z (n + 7) ((g_X0_init (n + 1) I (n))) (J) := (dw_Z.up (m := n + 7) hz2 (by omega))
  refine dw_itp (Eq.trans (sh_nw_k (Nat.lt_add_right 6 ha)) (Eq.trans sh_sr_k (Eq.trans (f_X0_init_k (Nat.lt_add_right 1 ha)) (Eq.trans (sh_nw_k ha) hk)))) ?_
  rw [dw_sr_eq]
  refine dw_itp ⟨by decide, by decide, (show n + 7 < 1000000 by omega)⟩ ?_
  dsimp only
  rw [dw_nw_eq (n := n + 7) (m := n + 8) hz3 rfl]
  have hz4 : dw_Z (n + 8) ((g_X0_init (n + 1) I (n))) (J) := (dw_Z.up (m := n + 8) hz3 (by omega))
  refine dw_itp ⟨sh_nw_at, by decide, Nat.le_of_ble_eq_true rfl, by decide, by decide⟩ ?_
  refine e_X5_init (n := n + 8) (m := n + 39) (a := n + 7) hz4 rfl (by omega) (Nat.add_lt_add_left (k := n) (Nat.le_of_ble_eq_true rfl : 7 < 8)) sh_nw_at ?_
  have hz5 : dw_Z (n + 39) ((g_X0_init (n + 1) I (n))) (J) := (z_X5_init (n := n + 8) (m := n + 39) (a := n + 7) hz4 rfl (Nat.add_lt_add_left (k := n) (Nat.le_of_ble_eq_true rfl : 7 < 8)))
  refine dw_itp (Eq.trans (f_X5_init_k (Nat.lt_add_right 8 ha)) (Eq.trans (sh_nw_k (Nat.lt_add_right 7 ha)) (Eq.trans sh_sr_k (Eq.trans (sh_nw_k (Nat.lt_add_right 6 ha)) (Eq.trans sh_sr_k (Eq.trans (f_X0_init_k (Nat.lt_add_right 1 ha)) (Eq.trans (sh_nw_k ha) hk))))))) ?_
  rw [dw_sr_eq]
  refine dw_itp ⟨by decide, by decide, (show n + 39 < 1000000 by omega)⟩ ?_
  dsimp only
  rw [dw_nw_eq (n := n + 39) (m := n + 40) hz5 rfl]
  have hz6 : dw_Z (n + 40) ((g_X0_init (n + 1) I (n))) (J) := (dw_Z.up (m := n + 40) hz5 (by omega))
  refine dw_itp ⟨sh_nw_at, by decide, Nat.le_of_ble_eq_true rfl, by decide, by decide⟩ ?_
  refine e_X7_init (n := n + 40) (m := n + 54) (a := n + 39) hz6 rfl (by omega) (Nat.add_lt_add_left (k := n) (Nat.le_of_ble_eq_true rfl : 39 < 40)) sh_nw_at ?_
  have hz7 : dw_Z (n + 54) ((g_X0_init (n + 1) I (n))) (J) := (z_X7_init (n := n + 40) (m := n + 54) (a := n + 39) hz6 rfl (Nat.add_lt_add_left (k := n) (Nat.le_of_ble_eq_true rfl : 39 < 40)))
  refine dw_itp (Eq.trans (f_X7_init_k (Nat.lt_add_right 40 ha)) (Eq.trans (sh_nw_k (Nat.lt_add_right 39 ha)) (Eq.trans sh_sr_k (Eq.trans (f_X5_init_k (Nat.lt_add_right 8 ha)) (Eq.trans (sh_nw_k (Nat.lt_add_right 7 ha)) (Eq.trans sh_sr_k (Eq.trans (sh_nw_k (Nat.lt_add_right 6 ha)) (Eq.trans sh_sr_k (Eq.trans (f_X0_init_k (Nat.lt_add_right 1 ha)) (Eq.trans (sh_nw_k ha) hk)))))))))) ?_
  rw [dw_sr_eq]
  refine dw_itp (Eq.trans sh_sr_k (Eq.trans (f_X7_init_k (Nat.lt_add_right 40 ha)) (Eq.trans (sh_nw_k (Nat.lt_add_right 39 ha)) (Eq.trans sh_sr_k (Eq.trans (f_X5_init_k (Nat.lt_add_right 8 ha)) (Eq.trans (sh_nw_k (Nat.lt_add_right 7 ha)) (Eq.trans sh_sr_k (Eq.trans (sh_nw_k (Nat.lt_add_right 6 ha)) (Eq.trans sh_sr_k (Eq.trans (f_X0_init_k (Nat.lt_add_right 1 ha)) (Eq.trans (sh_nw_k ha) hk))))))))))) ?_
  dsimp only
  rw [dw_vt_eq (n := n + 54) (I := (g_X0_init (n + 1) I (n))) (J := J) (show (((sh_sr (f_X7_init (n + 40) (sh_nw (n + 39) (sh_sr (f_X5_init (n + 8) (sh_nw (n + 7) (sh_sr (sh_nw (n + 6) (sh_sr (f_X0_init (n + 1) (sh_nw (n) sh 0 10) (n)) (a) 1 (some (n))) 22 6) (a) 2 (some (n + 6))) 5 2) (n + 7)) (a) 3 (some (n + 7))) 7 15) (n + 39)) (a) 4 (some (n + 39)))) (a)).2.2 2 = some (n + 6) from (Eq.trans (sh_sr_rj (Nat.ne_of_beq_eq_false rfl)) (Eq.trans (f_X7_init_r (Nat.lt_add_right 40 ha) (Nat.ne_of_lt (Nat.lt_of_lt_of_le ha (Nat.le_add_right n 39)))) (Eq.trans (sh_nw_r (Nat.lt_add_right 39 ha)) (Eq.trans (sh_sr_rj (Nat.ne_of_beq_eq_false rfl)) (Eq.trans (f_X5_init_r (Nat.lt_add_right 8 ha) (Nat.ne_of_lt (Nat.lt_of_lt_of_le ha (Nat.le_add_right n 7)))) (Eq.trans (sh_nw_r (Nat.lt_add_right 7 ha)) sh_sr_rat)))))))]
  refine dw_itp ⟨by decide, by decide, (show n + 54 < 1000000 by omega)⟩ ?_
  dsimp only
  rw [dw_nw_eq (n := n + 54) (m := n + 55) hz7 rfl]
  have hz8 : dw_Z (n + 55) ((g_X0_init (n + 1) I (n))) (J) := (dw_Z.up (m := n + 55) hz7 (by omega))
  refine dw_itp ⟨sh_nw_at, by decide, Nat.le_of_ble_eq_true rfl, by decide, by decide⟩ ?_
  refine e_X2_init (n := n + 55) (m := n + 61) (a := n + 54) hz8 rfl (by omega) (Nat.add_lt_add_left (k := n) (Nat.le_of_ble_eq_true rfl : 54 < 55)) sh_nw_at ?_
  have hz9 : dw_Z (n + 61) ((g_X0_init (n + 1) I (n))) (J) := (z_X2_init (n := n + 55) (m := n + 61) (a := n + 54) hz8 rfl (Nat.add_lt_add_left (k := n) (Nat.le_of_ble_eq_true rfl : 54 < 55)))
  refine dw_itp ⟨(Eq.trans (f_X2_init_k (Nat.add_lt_add_left (k := n) (Nat.le_of_ble_eq_true rfl : 6 < 55))) (Eq.trans (sh_nw_k (Nat.add_lt_add_left (k := n) (Nat.le_of_ble_eq_true rfl : 6 < 54))) (Eq.trans sh_sr_k (Eq.trans (f_X7_init_k (Nat.add_lt_add_left (k := n) (Nat.le_of_ble_eq_true rfl : 6 < 40))) (Eq.trans (sh_nw_k (Nat.add_lt_add_left (k := n) (Nat.le_of_ble_eq_true rfl : 6 < 39))) (Eq.trans sh_sr_k (Eq.trans (f_X5_init_k (Nat.add_lt_add_left (k := n) (Nat.le_of_ble_eq_true rfl : 6 < 8))) (Eq.trans (sh_nw_k (Nat.add_lt_add_left (k := n) (Nat.le_of_ble_eq_true rfl : 6 < 7))) (Eq.trans sh_sr_k sh_nw_at))))))))), (Eq.trans (f_X2_init_k (Nat.add_lt_add_left (k := n) (Nat.le_of_ble_eq_true rfl : 54 < 55))) sh_nw_at)⟩ ?_
  refine dw_itp ⟨by decide, (show (0 : Int32).toNatClampNeg < ((f_X2_init (n + 55) (sh_nw (n + 54) (sh_sr (f_X7_init (n + 40) (sh_nw (n + 39) (sh_sr (f_X5_init (n + 8) (sh_nw (n + 7) (sh_sr (sh_nw (n + 6) (sh_sr (f_X0_init (n + 1) (sh_nw (n) sh 0 10) (n)) (a) 1 (some (n))) 22 6) (a) 2 (some (n + 6))) 5 2) (n + 7)) (a) 3 (some (n + 7))) 7 15) (n + 39)) (a) 4 (some (n + 39))) 2 2) (n + 54)) (n + 6)).2.1 from Nat.lt_of_lt_of_eq (show (0 : Int32).toNatClampNeg < 6 by decide) (Eq.symm (Eq.trans (f_X2_init_l (Nat.add_lt_add_left (k := n) (Nat.le_of_ble_eq_true rfl : 6 < 55))) (Eq.trans (sh_nw_l (Nat.add_lt_add_left (k := n) (Nat.le_of_ble_eq_true rfl : 6 < 54))) (Eq.trans sh_sr_l (Eq.trans (f_X7_init_l (Nat.add_lt_add_left (k := n) (Nat.le_of_ble_eq_true rfl : 6 < 40))) (Eq.trans (sh_nw_l (Nat.add_lt_add_left (k := n) (Nat.le_of_ble_eq_true rfl : 6 < 39))) (Eq.trans sh_sr_l (Eq.trans (f_X5_init_l (Nat.add_lt_add_left (k := n) (Nat.le_of_ble_eq_true rfl : 6 < 8))) (Eq.trans (sh_nw_l (Nat.add_lt_add_left (k := n) (Nat.le_of_ble_eq_true rfl : 6 < 7))) (Eq.trans sh_sr_l sh_nw_la)))))))))))⟩ ?_
  dsimp only
  rw [dw_sr_eq2 (n := n + 61) (j2 := 0)]
  rotate_left
  · decide
  refine dw_itp (Eq.trans sh_sr_k (Eq.trans (f_X2_init_k (Nat.lt_add_right 55 ha)) (Eq.trans (sh_nw_k (Nat.lt_add_right 54 ha)) (Eq.trans sh_sr_k (Eq.trans (f_X7_init_k (Nat.lt_add_right 40 ha)) (Eq.trans (sh_nw_k (Nat.lt_add_right 39 ha)) (Eq.trans sh_sr_k (Eq.trans (f_X5_init_k (Nat.lt_add_right 8 ha)) (Eq.trans (sh_nw_k (Nat.lt_add_right 7 ha)) (Eq.trans sh_sr_k (Eq.trans (sh_nw_k (Nat.lt_add_right 6 ha)) (Eq.trans sh_sr_k (Eq.trans (f_X0_init_k (Nat.lt_add_right 1 ha)) (Eq.trans (sh_nw_k ha) hk)))))))))))))) ?_
  dsimp only
  rw [dw_vt_eq (n := n + 61) (I := (g_X0_init (n + 1) I (n))) (J := J) (show (((sh_sr (f_X2_init (n + 55) (sh_nw (n + 54) (sh_sr (f_X7_init (n + 40) (sh_nw (n + 39) (sh_sr (f_X5_init (n + 8) (sh_nw (n + 7) (sh_sr (sh_nw (n + 6) (sh_sr (f_X0_init (n + 1) (sh_nw (n) sh 0 10) (n)) (a) 1 (some (n))) 22 6) (a) 2 (some (n + 6))) 5 2) (n + 7)) (a) 3 (some (n + 7))) 7 15) (n + 39)) (a) 4 (some (n + 39))) 2 2) (n + 54)) (n + 6) 0 (some (n + 54)))) (a)).2.2 2 = some (n + 6) from (Eq.trans (sh_sr_ra (Nat.ne_of_lt (Nat.lt_of_lt_of_le ha (Nat.le_add_right n 6)))) (Eq.trans (f_X2_init_r (Nat.lt_add_right 55 ha) (Nat.ne_of_lt (Nat.lt_of_lt_of_le ha (Nat.le_add_right n 54)))) (Eq.trans (sh_nw_r (Nat.lt_add_right 54 ha)) (Eq.trans (sh_sr_rj (Nat.ne_of_beq_eq_false rfl)) (Eq.trans (f_X7_init_r (Nat.lt_add_right 40 ha) (Nat.ne_of_lt (Nat.lt_of_lt_of_le ha (Nat.le_add_right n 39)))) (Eq.trans (sh_nw_r (Nat.lt_add_right 39 ha)) (Eq.trans (sh_sr_rj (Nat.ne_of_beq_eq_false rfl)) (Eq.trans (f_X5_init_r (Nat.lt_add_right 8 ha) (Nat.ne_of_lt (Nat.lt_of_lt_of_le ha (Nat.le_add_right n 7)))) (Eq.trans (sh_nw_r (Nat.lt_add_right 7 ha)) sh_sr_rat))))))))))]
  refine dw_itp ⟨by decide, by decide, (show n + 61 < 1000000 by omega)⟩ ?_
  dsimp only
  rw [dw_nw_eq (n := n + 61) (m := n + 62) hz9 rfl]
  have hz10 : dw_Z (n + 62) ((g_X0_init (n + 1) I (n))) (J) := (dw_Z.up (m := n + 62) hz9 (by omega))
  refine dw_itp ⟨sh_nw_at, by decide, Nat.le_of_ble_eq_true rfl, by decide, by decide⟩ ?_
  refine e_X2_init (n := n + 62) (m := n + 68) (a := n + 61) hz10 rfl (by omega) (Nat.add_lt_add_left (k := n) (Nat.le_of_ble_eq_true rfl : 61 < 62)) sh_nw_at ?_
  have hz11 : dw_Z (n + 68) ((g_X0_init (n + 1) I (n))) (J) := (z_X2_init (n := n + 62) (m := n + 68) (a := n + 61) hz10 rfl (Nat.add_lt_add_left (k := n) (Nat.le_of_ble_eq_true rfl : 61 < 62)))
  refine dw_itp ⟨(Eq.trans (f_X2_init_k (Nat.add_lt_add_left (k := n) (Nat.le_of_ble_eq_true rfl : 6 < 62))) (Eq.trans (sh_nw_k (Nat.add_lt_add_left (k := n) (Nat.le_of_ble_eq_true rfl : 6 < 61))) (Eq.trans sh_sr_k (Eq.trans (f_X2_init_k (Nat.add_lt_add_left (k := n) (Nat.le_of_ble_eq_true rfl : 6 < 55))) (Eq.trans (sh_nw_k (Nat.add_lt_add_left (k := n) (Nat.le_of_ble_eq_true rfl : 6 < 54))) (Eq.trans sh_sr_k (Eq.trans (f_X7_init_k (Nat.add_lt_add_left (k := n) (Nat.le_of_ble_eq_true rfl : 6 < 40))) (Eq.trans (sh_nw_k (Nat.add_lt_add_left (k := n) (Nat.le_of_ble_eq_true rfl : 6 < 39))) (Eq.trans sh_sr_k (Eq.trans (f_X5_init_k (Nat.add_lt_add_left (k := n) (Nat.le_of_ble_eq_true rfl : 6 < 8))) (Eq.trans (sh_nw_k (Nat.add_lt_add_left (k := n) (Nat.le_of_ble_eq_true rfl : 6 < 7))) (Eq.trans sh_sr_k sh_nw_at)))))))))))), (Eq.trans (f_X2_init_k (Nat.add_lt_add_left (k := n) (Nat.le_of_ble_eq_true rfl : 61 < 62))) sh_nw_at)⟩ ?_
  refine dw_itp ⟨by decide, (show (1 : Int32).toNatClampNeg < ((f_X2_init (n + 62) (sh_nw (n + 61) (sh_sr (f_X2_init (n + 55) (sh_nw (n + 54) (sh_sr (f_X7_init (n + 40) (sh_nw (n + 39) (sh_sr (f_X5_init (n + 8) (sh_nw (n + 7) (sh_sr (sh_nw (n + 6) (sh_sr (f_X0_init (n + 1) (sh_nw (n) sh 0 10) (n)) (a) 1 (some (n))) 22 6) (a) 2 (some (n + 6))) 5 2) (n + 7)) (a) 3 (some (n + 7))) 7 15) (n + 39)) (a) 4 (some (n + 39))) 2 2) (n + 54)) (n + 6) 0 (some (n + 54))) 2 2) (n + 61)) (n + 6)).2.1 from Nat.lt_of_lt_of_eq (show (1 : Int32).toNatClampNeg < 6 by decide) (Eq.symm (Eq.trans (f_X2_init_l (Nat.add_lt_add_left (k := n) (Nat.le_of_ble_eq_true rfl : 6 < 62))) (Eq.trans (sh_nw_l (Nat.add_lt_add_left (k := n) (Nat.le_of_ble_eq_true rfl : 6 < 61))) (Eq.trans sh_sr_l (Eq.trans (f_X2_init_l (Nat.add_lt_add_left (k := n) (Nat.le_of_ble_eq_true rfl : 6 < 55))) (Eq.trans (sh_nw_l (Nat.add_lt_add_left (k := n) (Nat.le_of_ble_eq_true rfl : 6 < 54))) (Eq.trans sh_sr_l (Eq.trans (f_X7_init_l (Nat.add_lt_add_left (k := n) (Nat.le_of_ble_eq_true rfl : 6 < 40))) (Eq.trans (sh_nw_l (Nat.add_lt_add_left (k := n) (Nat.le_of_ble_eq_true rfl : 6 < 39))) (Eq.trans sh_sr_l (Eq.trans (f_X5_init_l (Nat.add_lt_add_left (k := n) (Nat.le_of_ble_eq_true rfl : 6 < 8))) (Eq.trans (sh_nw_l (Nat.add_lt_add_left (k := n) (Nat.le_of_ble_eq_true rfl : 6 < 7))) (Eq.trans sh_sr_l sh_nw_la))))))))))))))⟩ ?_
  dsimp only
  rw [dw_sr_eq2 (n := n + 68) (j2 := 1)]
  rotate_left
  · decide
  refine dw_itp (Eq.trans sh_sr_k (Eq.trans (f_X2_init_k (Nat.lt_add_right 62 ha)) (Eq.trans (sh_nw_k (Nat.lt_add_right 61 ha)) (Eq.trans sh_sr_k (Eq.trans (f_X2_init_k (Nat.lt_add_right 55 ha)) (Eq.trans (sh_nw_k (Nat.lt_add_right 54 ha)) (Eq.trans sh_sr_k (Eq.trans (f_X7_init_k (Nat.lt_add_right 40 ha)) (Eq.trans (sh_nw_k (Nat.lt_add_right 39 ha)) (Eq.trans sh_sr_k (Eq.trans (f_X5_init_k (Nat.lt_add_right 8 ha)) (Eq.trans (sh_nw_k (Nat.lt_add_right 7 ha)) (Eq.trans sh_sr_k (Eq.trans (sh_nw_k (Nat.lt_add_right 6 ha)) (Eq.trans sh_sr_k (Eq.trans (f_X0_init_k (Nat.lt_add_right 1 ha)) (Eq.trans (sh_nw_k ha) hk))))))))))))))))) ?_
  dsimp only
  rw [dw_vt_eq (n := n + 68) (I := (g_X0_init (n + 1) I (n))) (J := J) (show (((sh_sr (f_X2_init (n + 62) (sh_nw (n + 61) (sh_sr (f_X2_init (n + 55) (sh_nw (n + 54) (sh_sr (f_X7_init (n + 40) (sh_nw (n + 39) (sh_sr (f_X5_init (n + 8) (sh_nw (n + 7) (sh_sr (sh_nw (n + 6) (sh_sr (f_X0_init (n + 1) (sh_nw (n) sh 0 10) (n)) (a) 1 (some (n))) 22 6) (a) 2 (some (n + 6))) 5 2) (n + 7)) (a) 3 (some (n + 7))) 7 15) (n + 39)) (a) 4 (some (n + 39))) 2 2) (n + 54)) (n + 6) 0 (some (n + 54))) 2 2) (n + 61)) (n + 6) 1 (some (n + 61)))) (a)).2.2 2 = some (n + 6) from (Eq.trans (sh_sr_ra (Nat.ne_of_lt (Nat.lt_of_lt_of_le ha (Nat.le_add_right n 6)))) (Eq.trans (f_X2_init_r (Nat.lt_add_right 62 ha) (Nat.ne_of_lt (Nat.lt_of_lt_of_le ha (Nat.le_add_right n 61)))) (Eq.trans (sh_nw_r (Nat.lt_add_right 61 ha)) (Eq.trans (sh_sr_ra (Nat.ne_of_lt (Nat.lt_of_lt_of_le ha (Nat.le_add_right n 6)))) (Eq.trans (f_X2_init_r (Nat.lt_add_right 55 ha) (Nat.ne_of_lt (Nat.lt_of_lt_of_le ha (Nat.le_add_right n 54)))) (Eq.trans (sh_nw_r (Nat.lt_add_right 54 ha)) (Eq.trans (sh_sr_rj (Nat.ne_of_beq_eq_false rfl)) (Eq.trans (f_X7_init_r (Nat.lt_add_right 40 ha) (Nat.ne_of_lt (Nat.lt_of_lt_of_le ha (Nat.le_add_right n 39)))) (Eq.trans (sh_nw_r (Nat.lt_add_right 39 ha)) (Eq.trans (sh_sr_rj (Nat.ne_of_beq_eq_false rfl)) (Eq.trans (f_X5_init_r (Nat.lt_add_right 8 ha) (Nat.ne_of_lt (Nat.lt_of_lt_of_le ha (Nat.le_add_right n 7)))) (Eq.trans (sh_nw_r (Nat.lt_add_right 7 ha)) sh_sr_rat)))))))))))))]
  refine dw_itp ⟨by decide, by decide, (show n + 68 < 1000000 by omega)⟩ ?_
  dsimp only
  rw [dw_nw_eq (n := n + 68) (m := n + 69) hz11 rfl]
  have hz12 : dw_Z (n + 69) ((g_X0_init (n + 1) I (n))) (J) := (dw_Z.up (m := n + 69) hz11 (by omega))
  refine dw_itp ⟨sh_nw_at, by decide, Nat.le_of_ble_eq_true rfl, by decide, by decide⟩ ?_
  refine e_X2_init (n := n + 69) (m := n + 75) (a := n + 68) hz12 rfl (by omega) (Nat.add_lt_add_left (k := n) (Nat.le_of_ble_eq_true rfl : 68 < 69)) sh_nw_at ?_
  have hz13 : dw_Z (n + 75) ((g_X0_init (n + 1) I (n))) (J) := (z_X2_init (n := n + 69) (m := n + 75) (a := n + 68) hz12 rfl (Nat.add_lt_add_left (k := n) (Nat.le_of_ble_eq_true rfl : 68 < 69)))
  refine dw_itp ⟨(Eq.trans (f_X2_init_k (Nat.add_lt_add_left (k := n) (Nat.le_of_ble_eq_true rfl : 6 < 69))) (Eq.trans (sh_nw_k (Nat.add_lt_add_left (k := n) (Nat.le_of_ble_eq_true rfl : 6 < 68))) (Eq.trans sh_sr_k (Eq.trans (f_X2_init_k (Nat.add_lt_add_left (k := n) (Nat.le_of_ble_eq_true rfl : 6 < 62))) (Eq.trans (sh_nw_k (Nat.add_lt_add_left (k := n) (Nat.le_of_ble_eq_true rfl : 6 < 61))) (Eq.trans sh_sr_k (Eq.trans (f_X2_init_k (Nat.add_lt_add_left (k := n) (Nat.le_of_ble_eq_true rfl : 6 < 55))) (Eq.trans (sh_nw_k (Nat.add_lt_add_left (k := n) (Nat.le_of_ble_eq_true rfl : 6 < 54))) (Eq.trans sh_sr_k (Eq.trans (f_X7_init_k (Nat.add_lt_add_left (k := n) (Nat.le_of_ble_eq_true rfl : 6 < 40))) (Eq.trans (sh_nw_k (Nat.add_lt_add_left (k := n) (Nat.le_of_ble_eq_true rfl : 6 < 39))) (Eq.trans sh_sr_k (Eq.trans (f_X5_init_k (Nat.add_lt_add_left (k := n) (Nat.le_of_ble_eq_true rfl : 6 < 8))) (Eq.trans (sh_nw_k (Nat.add_lt_add_left (k := n) (Nat.le_of_ble_eq_true rfl : 6 < 7))) (Eq.trans sh_sr_k sh_nw_at))))))))))))))), (Eq.trans (f_X2_init_k (Nat.add_lt_add_left (k := n) (Nat.le_of_ble_eq_true rfl : 68 < 69))) sh_nw_at)⟩ ?_
  refine dw_itp ⟨by decide, (show (2 : Int32).toNatClampNeg < ((f_X2_init (n + 69) (sh_nw (n + 68) (sh_sr (f_X2_init (n + 62) (sh_nw (n + 61) (sh_sr (f_X2_init (n + 55) (sh_nw (n + 54) (sh_sr (f_X7_init (n + 40) (sh_nw (n + 39) (sh_sr (f_X5_init (n + 8) (sh_nw (n + 7) (sh_sr (sh_nw (n + 6) (sh_sr (f_X0_init (n + 1) (sh_nw (n) sh 0 10) (n)) (a) 1 (some (n))) 22 6) (a) 2 (some (n + 6))) 5 2) (n + 7)) (a) 3 (some (n + 7))) 7 15) (n + 39)) (a) 4 (some (n + 39))) 2 2) (n + 54)) (n + 6) 0 (some (n + 54))) 2 2) (n + 61)) (n + 6) 1 (some (n + 61))) 2 2) (n + 68)) (n + 6)).2.1 from Nat.lt_of_lt_of_eq (show (2 : Int32).toNatClampNeg < 6 by decide) (Eq.symm (Eq.trans (f_X2_init_l (Nat.add_lt_add_left (k := n) (Nat.le_of_ble_eq_true rfl : 6 < 69))) (Eq.trans (sh_nw_l (Nat.add_lt_add_left (k := n) (Nat.le_of_ble_eq_true rfl : 6 < 68))) (Eq.trans sh_sr_l (Eq.trans (f_X2_init_l (Nat.add_lt_add_left (k := n) (Nat.le_of_ble_eq_true rfl : 6 < 62))) (Eq.trans (sh_nw_l (Nat.add_lt_add_left (k := n) (Nat.le_of_ble_eq_true rfl : 6 < 61))) (Eq.trans sh_sr_l (Eq.trans (f_X2_init_l (Nat.add_lt_add_left (k := n) (Nat.le_of_ble_eq_true rfl : 6 < 55))) (Eq.trans (sh_nw_l (Nat.add_lt_add_left (k := n) (Nat.le_of_ble_eq_true rfl : 6 < 54))) (Eq.trans sh_sr_l (Eq.trans (f_X7_init_l (Nat.add_lt_add_left (k := n) (Nat.le_of_ble_eq_true rfl : 6 < 40))) (Eq.trans (sh_nw_l (Nat.add_lt_add_left (k := n) (Nat.le_of_ble_eq_true rfl : 6 < 39))) (Eq.trans sh_sr_l (Eq.trans (f_X5_init_l (Nat.add_lt_add_left (k := n) (Nat.le_of_ble_eq_true rfl : 6 < 8))) (Eq.trans (sh_nw_l (Nat.add_lt_add_left (k := n) (Nat.le_of_ble_eq_true rfl : 6 < 7))) (Eq.trans sh_sr_l sh_nw_la)))))))))))))))))⟩ ?_
  dsimp only
  rw [dw_sr_eq2 (n := n + 75) (j2 := 2)]
  rotate_left
  · decide
  refine dw_itp (Eq.trans sh_sr_k (Eq.trans (f_X2_init_k (Nat.lt_add_right 69 ha)) (Eq.trans (sh_nw_k (Nat.lt_add_right 68 ha)) (Eq.trans sh_sr_k (Eq.trans (f_X2_init_k (Nat.lt_add_right 62 ha)) (Eq.trans (sh_nw_k (Nat.lt_add_right 61 ha)) (Eq.trans sh_sr_k (Eq.trans (f_X2_init_k (Nat.lt_add_right 55 ha)) (Eq.trans (sh_nw_k (Nat.lt_add_right 54 ha)) (Eq.trans sh_sr_k (Eq.trans (f_X7_init_k (Nat.lt_add_right 40 ha)) (Eq.trans (sh_nw_k (Nat.lt_add_right 39 ha)) (Eq.trans sh_sr_k (Eq.trans (f_X5_init_k (Nat.lt_add_right 8 ha)) (Eq.trans (sh_nw_k (Nat.lt_add_right 7 ha)) (Eq.trans sh_sr_k (Eq.trans (sh_nw_k (Nat.lt_add_right 6 ha)) (Eq.trans sh_sr_k (Eq.trans (f_X0_init_k (Nat.lt_add_right 1 ha)) (Eq.trans (sh_nw_k ha) hk)))))))))))))))))))) ?_
  dsimp only
  rw [dw_vt_eq (n := n + 75) (I := (g_X0_init (n + 1) I (n))) (J := J) (show (((sh_sr (f_X2_init (n + 69) (sh_nw (n + 68) (sh_sr (f_X2_init (n + 62) (sh_nw (n + 61) (sh_sr (f_X2_init (n + 55) (sh_nw (n + 54) (sh_sr (f_X7_init (n + 40) (sh_nw (n + 39) (sh_sr (f_X5_init (n + 8) (sh_nw (n + 7) (sh_sr (sh_nw (n + 6) (sh_sr (f_X0_init (n + 1) (sh_nw (n) sh 0 10) (n)) (a) 1 (some (n))) 22 6) (a) 2 (some (n + 6))) 5 2) (n + 7)) (a) 3 (some (n + 7))) 7 15) (n + 39)) (a) 4 (some (n + 39))) 2 2) (n + 54)) (n + 6) 0 (some (n + 54))) 2 2) (n + 61)) (n + 6) 1 (some (n + 61))) 2 2) (n + 68)) (n + 6) 2 (some (n + 68)))) (a)).2.2 2 = some (n + 6) from (Eq.trans (sh_sr_ra (Nat.ne_of_lt (Nat.lt_of_lt_of_le ha (Nat.le_add_right n 6)))) (Eq.trans (f_X2_init_r (Nat.lt_add_right 69 ha) (Nat.ne_of_lt (Nat.lt_of_lt_of_le ha (Nat.le_add_right n 68)))) (Eq.trans (sh_nw_r (Nat.lt_add_right 68 ha)) (Eq.trans (sh_sr_ra (Nat.ne_of_lt (Nat.lt_of_lt_of_le ha (Nat.le_add_right n 6)))) (Eq.trans (f_X2_init_r (Nat.lt_add_right 62 ha) (Nat.ne_of_lt (Nat.lt_of_lt_of_le ha (Nat.le_add_right n 61)))) (Eq.trans (sh_nw_r (Nat.lt_add_right 61 ha)) (Eq.trans (sh_sr_ra (Nat.ne_of_lt (Nat.lt_of_lt_of_le ha (Nat.le_add_right n 6)))) (Eq.trans (f_X2_init_r (Nat.lt_add_right 55 ha) (Nat.ne_of_lt (Nat.lt_of_lt_of_le ha (Nat.le_add_right n 54)))) (Eq.trans (sh_nw_r (Nat.lt_add_right 54 ha)) (Eq.trans (sh_sr_rj (Nat.ne_of_beq_eq_false rfl)) (Eq.trans (f_X7_init_r (Nat.lt_add_right 40 ha) (Nat.ne_of_lt (Nat.lt_of_lt_of_le ha (Nat.le_add_right n 39)))) (Eq.trans (sh_nw_r (Nat.lt_add_right 39 ha)) (Eq.trans (sh_sr_rj (Nat.ne_of_beq_eq_false rfl)) (Eq.trans (f_X5_init_r (Nat.lt_add_right 8 ha) (Nat.ne_of_lt (Nat.lt_of_lt_of_le ha (Nat.le_add_right n 7)))) (Eq.trans (sh_nw_r (Nat.lt_add_right 7 ha)) sh_sr_rat))))))))))))))))]
  refine dw_itp ⟨by decide, by decide, (show n + 75 < 1000000 by omega)⟩ ?_
  dsimp only
  rw [dw_nw_eq (n := n + 75) (m := n + 76) hz13 rfl]
  have hz14 : dw_Z (n + 76) ((g_X0_init (n + 1) I (n))) (J) := (dw_Z.up (m := n + 76) hz13 (by omega))
  refine dw_itp ⟨sh_nw_at, by decide, Nat.le_of_ble_eq_true rfl, by decide, by decide⟩ ?_
  refine e_X2_init (n := n + 76) (m := n + 82) (a := n + 75) hz14 rfl (by omega) (Nat.add_lt_add_left (k := n) (Nat.le_of_ble_eq_true rfl : 75 < 76)) sh_nw_at ?_
  have hz15 : dw_Z (n + 82) ((g_X0_init (n + 1) I (n))) (J) := (z_X2_init (n := n + 76) (m := n + 82) (a := n + 75) hz14 rfl (Nat.add_lt_add_left (k := n) (Nat.le_of_ble_eq_true rfl : 75 < 76)))
  refine dw_itp ⟨(Eq.trans (f_X2_init_k (Nat.add_lt_add_left (k := n) (Nat.le_of_ble_eq_true rfl : 6 < 76))) (Eq.trans (sh_nw_k (Nat.add_lt_add_left (k := n) (Nat.le_of_ble_eq_true rfl : 6 < 75))) (Eq.trans sh_sr_k (Eq.trans (f_X2_init_k (Nat.add_lt_add_left (k := n) (Nat.le_of_ble_eq_true rfl : 6 < 69))) (Eq.trans (sh_nw_k (Nat.add_lt_add_left (k := n) (Nat.le_of_ble_eq_true rfl : 6 < 68))) (Eq.trans sh_sr_k (Eq.trans (f_X2_init_k (Nat.add_lt_add_left (k := n) (Nat.le_of_ble_eq_true rfl : 6 < 62))) (Eq.trans (sh_nw_k (Nat.add_lt_add_left (k := n) (Nat.le_of_ble_eq_true rfl : 6 < 61))) (Eq.trans sh_sr_k (Eq.trans (f_X2_init_k (Nat.add_lt_add_left (k := n) (Nat.le_of_ble_eq_true rfl : 6 < 55))) (Eq.trans (sh_nw_k (Nat.add_lt_add_left (k := n) (Nat.le_of_ble_eq_true rfl : 6 < 54))) (Eq.trans sh_sr_k (Eq.trans (f_X7_init_k (Nat.add_lt_add_left (k := n) (Nat.le_of_ble_eq_true rfl : 6 < 40))) (Eq.trans (sh_nw_k (Nat.add_lt_add_left (k := n) (Nat.le_of_ble_eq_true rfl : 6 < 39))) (Eq.trans sh_sr_k (Eq.trans (f_X5_init_k (Nat.add_lt_add_left (k := n) (Nat.le_of_ble_eq_true rfl : 6 < 8))) (Eq.trans (sh_nw_k (Nat.add_lt_add_left (k := n) (Nat.le_of_ble_eq_true rfl : 6 < 7))) (Eq.trans sh_sr_k sh_nw_at)))))))))))))))))), (Eq.trans (f_X2_init_k (Nat.add_lt_add_left (k := n) (Nat.le_of_ble_eq_true rfl : 75 < 76))) sh_nw_at)⟩ ?_
  refine dw_itp ⟨by decide, (show (3 : Int32).toNatClampNeg < ((f_X2_init (n + 76) (sh_nw (n + 75) (sh_sr (f_X2_init (n + 69) (sh_nw (n + 68) (sh_sr (f_X2_init (n + 62) (sh_nw (n + 61) (sh_sr (f_X2_init (n + 55) (sh_nw (n + 54) (sh_sr (f_X7_init (n + 40) (sh_nw (n + 39) (sh_sr (f_X5_init (n + 8) (sh_nw (n + 7) (sh_sr (sh_nw (n + 6) (sh_sr (f_X0_init (n + 1) (sh_nw (n) sh 0 10) (n)) (a) 1 (some (n))) 22 6) (a) 2 (some (n + 6))) 5 2) (n + 7)) (a) 3 (some (n + 7))) 7 15) (n + 39)) (a) 4 (some (n + 39))) 2 2) (n + 54)) (n + 6) 0 (some (n + 54))) 2 2) (n + 61)) (n + 6) 1 (some (n + 61))) 2 2) (n + 68)) (n + 6) 2 (some (n + 68))) 2 2) (n + 75)) (n + 6)).2.1 from Nat.lt_of_lt_of_eq (show (3 : Int32).toNatClampNeg < 6 by decide) (Eq.symm (Eq.trans (f_X2_init_l (Nat.add_lt_add_left (k := n) (Nat.le_of_ble_eq_true rfl : 6 < 76))) (Eq.trans (sh_nw_l (Nat.add_lt_add_left (k := n) (Nat.le_of_ble_eq_true rfl : 6 < 75))) (Eq.trans sh_sr_l (Eq.trans (f_X2_init_l (Nat.add_lt_add_left (k := n) (Nat.le_of_ble_eq_true rfl : 6 < 69))) (Eq.trans (sh_nw_l (Nat.add_lt_add_left (k := n) (Nat.le_of_ble_eq_true rfl : 6 < 68))) (Eq.trans sh_sr_l (Eq.trans (f_X2_init_l (Nat.add_lt_add_left (k := n) (Nat.le_of_ble_eq_true rfl : 6 < 62))) (Eq.trans (sh_nw_l (Nat.add_lt_add_left (k := n) (Nat.le_of_ble_eq_true rfl : 6 < 61))) (Eq.trans sh_sr_l (Eq.trans (f_X2_init_l (Nat.add_lt_add_left (k := n) (Nat.le_of_ble_eq_true rfl : 6 < 55))) (Eq.trans (sh_nw_l (Nat.add_lt_add_left (k := n) (Nat.le_of_ble_eq_true rfl : 6 < 54))) (Eq.trans sh_sr_l (Eq.trans (f_X7_init_l (Nat.add_lt_add_left (k := n) (Nat.le_of_ble_eq_true rfl : 6 < 40))) (Eq.trans (sh_nw_l (Nat.add_lt_add_left (k := n) (Nat.le_of_ble_eq_true rfl : 6 < 39))) (Eq.trans sh_sr_l (Eq.trans (f_X5_init_l (Nat.add_lt_add_left (k := n) (Nat.le_of_ble_eq_true rfl : 6 < 8))) (Eq.trans (sh_nw_l (Nat.add_lt_add_left (k := n) (Nat.le_of_ble_eq_true rfl : 6 < 7))) (Eq.trans sh_sr_l sh_nw_la))))))))))))))))))))⟩ ?_
  dsimp only
  rw [dw_sr_eq2 (n := n + 82) (j2 := 3)]
  rotate_left
  · decide
  refine dw_itp (Eq.trans sh_sr_k (Eq.trans (f_X2_init_k (Nat.lt_add_right 76 ha)) (Eq.trans (sh_nw_k (Nat.lt_add_right 75 ha)) (Eq.trans sh_sr_k (Eq.trans (f_X2_init_k (Nat.lt_add_right 69 ha)) (Eq.trans (sh_nw_k (Nat.lt_add_right 68 ha)) (Eq.trans sh_sr_k (Eq.trans (f_X2_init_k (Nat.lt_add_right 62 ha)) (Eq.trans (sh_nw_k (Nat.lt_add_right 61 ha)) (Eq.trans sh_sr_k (Eq.trans (f_X2_init_k (Nat.lt_add_right 55 ha)) (Eq.trans (sh_nw_k (Nat.lt_add_right 54 ha)) (Eq.trans sh_sr_k (Eq.trans (f_X7_init_k (Nat.lt_add_right 40 ha)) (Eq.trans (sh_nw_k (Nat.lt_add_right 39 ha)) (Eq.trans sh_sr_k (Eq.trans (f_X5_init_k (Nat.lt_add_right 8 ha)) (Eq.trans (sh_nw_k (Nat.lt_add_right 7 ha)) (Eq.trans sh_sr_k (Eq.trans (sh_nw_k (Nat.lt_add_right 6 ha)) (Eq.trans sh_sr_k (Eq.trans (f_X0_init_k (Nat.lt_add_right 1 ha)) (Eq.trans (sh_nw_k ha) hk))))))))))))))))))))))) ?_
  dsimp only
  rw [dw_vt_eq (n := n + 82) (I := (g_X0_init (n + 1) I (n))) (J := J) (show (((sh_sr (f_X2_init (n + 76) (sh_nw (n + 75) (sh_sr (f_X2_init (n + 69) (sh_nw (n + 68) (sh_sr (f_X2_init (n + 62) (sh_nw (n + 61) (sh_sr (f_X2_init (n + 55) (sh_nw (n + 54) (sh_sr (f_X7_init (n + 40) (sh_nw (n + 39) (sh_sr (f_X5_init (n + 8) (sh_nw (n + 7) (sh_sr (sh_nw (n + 6) (sh_sr (f_X0_init (n + 1) (sh_nw (n) sh 0 10) (n)) (a) 1 (some (n))) 22 6) (a) 2 (some (n + 6))) 5 2) (n + 7)) (a) 3 (some (n + 7))) 7 15) (n + 39)) (a) 4 (some (n + 39))) 2 2) (n + 54)) (n + 6) 0 (some (n + 54))) 2 2) (n + 61)) (n + 6) 1 (some (n + 61))) 2 2) (n + 68)) (n + 6) 2 (some (n + 68))) 2 2) (n + 75)) (n + 6) 3 (some (n + 75)))) (a)).2.2 2 = some (n + 6) from (Eq.trans (sh_sr_ra (Nat.ne_of_lt (Nat.lt_of_lt_of_le ha (Nat.le_add_right n 6)))) (Eq.trans (f_X2_init_r (Nat.lt_add_right 76 ha) (Nat.ne_of_lt (Nat.lt_of_lt_of_le ha (Nat.le_add_right n 75)))) (Eq.trans (sh_nw_r (Nat.lt_add_right 75 ha)) (Eq.trans (sh_sr_ra (Nat.ne_of_lt (Nat.lt_of_lt_of_le ha (Nat.le_add_right n 6)))) (Eq.trans (f_X2_init_r (Nat.lt_add_right 69 ha) (Nat.ne_of_lt (Nat.lt_of_lt_of_le ha (Nat.le_add_right n 68)))) (Eq.trans (sh_nw_r (Nat.lt_add_right 68 ha)) (Eq.trans (sh_sr_ra (Nat.ne_of_lt (Nat.lt_of_lt_of_le ha (Nat.le_add_right n 6)))) (Eq.trans (f_X2_init_r (Nat.lt_add_right 62 ha) (Nat.ne_of_lt (Nat.lt_of_lt_of_le ha (Nat.le_add_right n 61)))) (Eq.trans (sh_nw_r (Nat.lt_add_right 61 ha)) (Eq.trans (sh_sr_ra (Nat.ne_of_lt (Nat.lt_of_lt_of_le ha (Nat.le_add_right n 6)))) (Eq.trans (f_X2_init_r (Nat.lt_add_right 55 ha) (Nat.ne_of_lt (Nat.lt_of_lt_of_le ha (Nat.le_add_right n 54)))) (Eq.trans (sh_nw_r (Nat.lt_add_right 54 ha)) (Eq.trans (sh_sr_rj (Nat.ne_of_beq_eq_false rfl)) (Eq.trans (f_X7_init_r (Nat.lt_add_right 40 ha) (Nat.ne_of_lt (Nat.lt_of_lt_of_le ha (Nat.le_add_right n 39)))) (Eq.trans (sh_nw_r (Nat.lt_add_right 39 ha)) (Eq.trans (sh_sr_rj (Nat.ne_of_beq_eq_false rfl)) (Eq.trans (f_X5_init_r (Nat.lt_add_right 8 ha) (Nat.ne_of_lt (Nat.lt_of_lt_of_le ha (Nat.le_add_right n 7)))) (Eq.trans (sh_nw_r (Nat.lt_add_right 7 ha)) sh_sr_rat)))))))))))))))))))]
  refine dw_itp ⟨by decide, by decide, (show n + 82 < 1000000 by omega)⟩ ?_
  dsimp only
  rw [dw_nw_eq (n := n + 82) (m := n + 83) hz15 rfl]
  have hz16 : dw_Z (n + 83) ((g_X0_init (n + 1) I (n))) (J) := (dw_Z.up (m := n + 83) hz15 (by omega))
  refine dw_itp ⟨sh_nw_at, by decide, Nat.le_of_ble_eq_true rfl, by decide, by decide⟩ ?_
  refine e_X2_init (n := n + 83) (m := n + 89) (a := n + 82) hz16 rfl (by omega) (Nat.add_lt_add_left (k := n) (Nat.le_of_ble_eq_true rfl : 82 < 83)) sh_nw_at ?_
  have hz17 : dw_Z (n + 89) ((g_X0_init (n + 1) I (n))) (J) := (z_X2_init (n := n + 83) (m := n + 89) (a := n + 82) hz16 rfl (Nat.add_lt_add_left (k := n) (Nat.le_of_ble_eq_true rfl : 82 < 83)))
  refine dw_itp ⟨(Eq.trans (f_X2_init_k (Nat.add_lt_add_left (k := n) (Nat.le_of_ble_eq_true rfl : 6 < 83))) (Eq.trans (sh_nw_k (Nat.add_lt_add_left (k := n) (Nat.le_of_ble_eq_true rfl : 6 < 82))) (Eq.trans sh_sr_k (Eq.trans (f_X2_init_k (Nat.add_lt_add_left (k := n) (Nat.le_of_ble_eq_true rfl : 6 < 76))) (Eq.trans (sh_nw_k (Nat.add_lt_add_left (k := n) (Nat.le_of_ble_eq_true rfl : 6 < 75))) (Eq.trans sh_sr_k (Eq.trans (f_X2_init_k (Nat.add_lt_add_left (k := n) (Nat.le_of_ble_eq_true rfl : 6 < 69))) (Eq.trans (sh_nw_k (Nat.add_lt_add_left (k := n) (Nat.le_of_ble_eq_true rfl : 6 < 68))) (Eq.trans sh_sr_k (Eq.trans (f_X2_init_k (Nat.add_lt_add_left (k := n) (Nat.le_of_ble_eq_true rfl : 6 < 62))) (Eq.trans (sh_nw_k (Nat.add_lt_add_left (k := n) (Nat.le_of_ble_eq_true rfl : 6 < 61))) (Eq.trans sh_sr_k (Eq.trans (f_X2_init_k (Nat.add_lt_add_left (k := n) (Nat.le_of_ble_eq_true rfl : 6 < 55))) (Eq.trans (sh_nw_k (Nat.add_lt_add_left (k := n) (Nat.le_of_ble_eq_true rfl : 6 < 54))) (Eq.trans sh_sr_k (Eq.trans (f_X7_init_k (Nat.add_lt_add_left (k := n) (Nat.le_of_ble_eq_true rfl : 6 < 40))) (Eq.trans (sh_nw_k (Nat.add_lt_add_left (k := n) (Nat.le_of_ble_eq_true rfl : 6 < 39))) (Eq.trans sh_sr_k (Eq.trans (f_X5_init_k (Nat.add_lt_add_left (k := n) (Nat.le_of_ble_eq_true rfl : 6 < 8))) (Eq.trans (sh_nw_k (Nat.add_lt_add_left (k := n) (Nat.le_of_ble_eq_true rfl : 6 < 7))) (Eq.trans sh_sr_k sh_nw_at))))))))))))))))))))), (Eq.trans (f_X2_init_k (Nat.add_lt_add_left (k := n) (Nat.le_of_ble_eq_true rfl : 82 < 83))) sh_nw_at)⟩ ?_
  refine dw_itp ⟨by decide, (show (4 : Int32).toNatClampNeg < ((f_X2_init (n + 83) (sh_nw (n + 82) (sh_sr (f_X2_init (n + 76) (sh_nw (n + 75) (sh_sr (f_X2_init (n + 69) (sh_nw (n + 68) (sh_sr (f_X2_init (n + 62) (sh_nw (n + 61) (sh_sr (f_X2_init (n + 55) (sh_nw (n + 54) (sh_sr (f_X7_init (n + 40) (sh_nw (n + 39) (sh_sr (f_X5_init (n + 8) (sh_nw (n + 7) (sh_sr (sh_nw (n + 6) (sh_sr (f_X0_init (n + 1) (sh_nw (n) sh 0 10) (n)) (a) 1 (some (n))) 22 6) (a) 2 (some (n + 6))) 5 2) (n + 7)) (a) 3 (some (n + 7))) 7 15) (n + 39)) (a) 4 (some (n + 39))) 2 2) (n + 54)) (n + 6) 0 (some (n + 54))) 2 2) (n + 61)) (n + 6) 1 (some (n + 61))) 2 2) (n + 68)) (n + 6) 2 (some (n + 68))) 2 2) (n + 75)) (n + 6) 3 (some (n + 75))) 2 2) (n + 82)) (n + 6)).2.1 from Nat.lt_of_lt_of_eq (show (4 : Int32).toNatClampNeg < 6 by decide) (Eq.symm (Eq.trans (f_X2_init_l (Nat.add_lt_add_left (k := n) (Nat.le_of_ble_eq_true rfl : 6 < 83))) (Eq.trans (sh_nw_l (Nat.add_lt_add_left (k := n) (Nat.le_of_ble_eq_true rfl : 6 < 82))) (Eq.trans sh_sr_l (Eq.trans (f_X2_init_l (Nat.add_lt_add_left (k := n) (Nat.le_of_ble_eq_true rfl : 6 < 76))) (Eq.trans (sh_nw_l (Nat.add_lt_add_left (k := n) (Nat.le_of_ble_eq_true rfl : 6 < 75))) (Eq.trans sh_sr_l (Eq.trans (f_X2_init_l (Nat.add_lt_add_left (k := n) (Nat.le_of_ble_eq_true rfl : 6 < 69))) (Eq.trans (sh_nw_l (Nat.add_lt_add_left (k := n) (Nat.le_of_ble_eq_true rfl : 6 < 68))) (Eq.trans sh_sr_l (Eq.trans (f_X2_init_l (Nat.add_lt_add_left (k := n) (Nat.le_of_ble_eq_true rfl : 6 < 62))) (Eq.trans (sh_nw_l (Nat.add_lt_add_left (k := n) (Nat.le_of_ble_eq_true rfl : 6 < 61))) (Eq.trans sh_sr_l (Eq.trans (f_X2_init_l (Nat.add_lt_add_left (k := n) (Nat.le_of_ble_eq_true rfl : 6 < 55))) (Eq.trans (sh_nw_l (Nat.add_lt_add_left (k := n) (Nat.le_of_ble_eq_true rfl : 6 < 54))) (Eq.trans sh_sr_l (Eq.trans (f_X7_init_l (Nat.add_lt_add_left (k := n) (Nat.le_of_ble_eq_true rfl : 6 < 40))) (Eq.trans (sh_nw_l (Nat.add_lt_add_left (k := n) (Nat.le_of_ble_eq_true rfl : 6 < 39))) (Eq.trans sh_sr_l (Eq.trans (f_X5_init_l (Nat.add_lt_add_left (k := n) (Nat.le_of_ble_eq_true rfl : 6 < 8))) (Eq.trans (sh_nw_l (Nat.add_lt_add_left (k := n) (Nat.le_of_ble_eq_true rfl : 6 < 7))) (Eq.trans sh_sr_l sh_nw_la)))))))))))))))))))))))⟩ ?_
  dsimp only
  rw [dw_sr_eq2 (n := n + 89) (j2 := 4)]
  rotate_left
  · decide
  refine dw_itp (Eq.trans sh_sr_k (Eq.trans (f_X2_init_k (Nat.lt_add_right 83 ha)) (Eq.trans (sh_nw_k (Nat.lt_add_right 82 ha)) (Eq.trans sh_sr_k (Eq.trans (f_X2_init_k (Nat.lt_add_right 76 ha)) (Eq.trans (sh_nw_k (Nat.lt_add_right 75 ha)) (Eq.trans sh_sr_k (Eq.trans (f_X2_init_k (Nat.lt_add_right 69 ha)) (Eq.trans (sh_nw_k (Nat.lt_add_right 68 ha)) (Eq.trans sh_sr_k (Eq.trans (f_X2_init_k (Nat.lt_add_right 62 ha)) (Eq.trans (sh_nw_k (Nat.lt_add_right 61 ha)) (Eq.trans sh_sr_k (Eq.trans (f_X2_init_k (Nat.lt_add_right 55 ha)) (Eq.trans (sh_nw_k (Nat.lt_add_right 54 ha)) (Eq.trans sh_sr_k (Eq.trans (f_X7_init_k (Nat.lt_add_right 40 ha)) (Eq.trans (sh_nw_k (Nat.lt_add_right 39 ha)) (Eq.trans sh_sr_k (Eq.trans (f_X5_init_k (Nat.lt_add_right 8 ha)) (Eq.trans (sh_nw_k (Nat.lt_add_right 7 ha)) (Eq.trans sh_sr_k (Eq.trans (sh_nw_k (Nat.lt_add_right 6 ha)) (Eq.trans sh_sr_k (Eq.trans (f_X0_init_k (Nat.lt_add_right 1 ha)) (Eq.trans (sh_nw_k ha) hk)))))))))))))))))))))))))) ?_
  dsimp only
  rw [dw_vt_eq (n := n + 89) (I := (g_X0_init (n + 1) I (n))) (J := J) (show (((sh_sr (f_X2_init (n + 83) (sh_nw (n + 82) (sh_sr (f_X2_init (n + 76) (sh_nw (n + 75) (sh_sr (f_X2_init (n + 69) (sh_nw (n + 68) (sh_sr (f_X2_init (n + 62) (sh_nw (n + 61) (sh_sr (f_X2_init (n + 55) (sh_nw (n + 54) (sh_sr (f_X7_init (n + 40) (sh_nw (n + 39) (sh_sr (f_X5_init (n + 8) (sh_nw (n + 7) (sh_sr (sh_nw (n + 6) (sh_sr (f_X0_init (n + 1) (sh_nw (n) sh 0 10) (n)) (a) 1 (some (n))) 22 6) (a) 2 (some (n + 6))) 5 2) (n + 7)) (a) 3 (some (n + 7))) 7 15) (n + 39)) (a) 4 (some (n + 39))) 2 2) (n + 54)) (n + 6) 0 (some (n + 54))) 2 2) (n + 61)) (n + 6) 1 (some (n + 61))) 2 2) (n + 68)) (n + 6) 2 (some (n + 68))) 2 2) (n + 75)) (n + 6) 3 (some (n + 75))) 2 2) (n + 82)) (n + 6) 4 (some (n + 82)))) (a)).2.2 2 = some (n + 6) from (Eq.trans (sh_sr_ra (Nat.ne_of_lt (Nat.lt_of_lt_of_le ha (Nat.le_add_right n 6)))) (Eq.trans (f_X2_init_r (Nat.lt_add_right 83 ha) (Nat.ne_of_lt (Nat.lt_of_lt_of_le ha (Nat.le_add_right n 82)))) (Eq.trans (sh_nw_r (Nat.lt_add_right 82 ha)) (Eq.trans (sh_sr_ra (Nat.ne_of_lt (Nat.lt_of_lt_of_le ha (Nat.le_add_right n 6)))) (Eq.trans (f_X2_init_r (Nat.lt_add_right 76 ha) (Nat.ne_of_lt (Nat.lt_of_lt_of_le ha (Nat.le_add_right n 75)))) (Eq.trans (sh_nw_r (Nat.lt_add_right 75 ha)) (Eq.trans (sh_sr_ra (Nat.ne_of_lt (Nat.lt_of_lt_of_le ha (Nat.le_add_right n 6)))) (Eq.trans (f_X2_init_r (Nat.lt_add_right 69 ha) (Nat.ne_of_lt (Nat.lt_of_lt_of_le ha (Nat.le_add_right n 68)))) (Eq.trans (sh_nw_r (Nat.lt_add_right 68 ha)) (Eq.trans (sh_sr_ra (Nat.ne_of_lt (Nat.lt_of_lt_of_le ha (Nat.le_add_right n 6)))) (Eq.trans (f_X2_init_r (Nat.lt_add_right 62 ha) (Nat.ne_of_lt (Nat.lt_of_lt_of_le ha (Nat.le_add_right n 61)))) (Eq.trans (sh_nw_r (Nat.lt_add_right 61 ha)) (Eq.trans (sh_sr_ra (Nat.ne_of_lt (Nat.lt_of_lt_of_le ha (Nat.le_add_right n 6)))) (Eq.trans (f_X2_init_r (Nat.lt_add_right 55 ha) (Nat.ne_of_lt (Nat.lt_of_lt_of_le ha (Nat.le_add_right n 54)))) (Eq.trans (sh_nw_r (Nat.lt_add_right 54 ha)) (Eq.trans (sh_sr_rj (Nat.ne_of_beq_eq_false rfl)) (Eq.trans (f_X7_init_r (Nat.lt_add_right 40 ha) (Nat.ne_of_lt (Nat.lt_of_lt_of_le ha (Nat.le_add_right n 39)))) (Eq.trans (sh_nw_r (Nat.lt_add_right 39 ha)) (Eq.trans (sh_sr_rj (Nat.ne_of_beq_eq_false rfl)) (Eq.trans (f_X5_init_r (Nat.lt_add_right 8 ha) (Nat.ne_of_lt (Nat.lt_of_lt_of_le ha (Nat.le_add_right n 7)))) (Eq.trans (sh_nw_r (Nat.lt_add_right 7 ha)) sh_sr_rat))))))))))))))))))))))]
  refine dw_itp ⟨by decide, by decide, (show n + 89 < 1000000 by omega)⟩ ?_
  dsimp only
  rw [dw_nw_eq (n := n + 89) (m := n + 90) hz17 rfl]
  have hz18 : dw_Z (n + 90) ((g_X0_init (n + 1) I (n))) (J) := (dw_Z.up (m := n + 90) hz17 (by omega))
  refine dw_itp ⟨sh_nw_at, by decide, Nat.le_of_ble_eq_true rfl, by decide, by decide⟩ ?_
  refine e_X2_init (n := n + 90) (m := n + 96) (a := n + 89) hz18 rfl (by omega) (Nat.add_lt_add_left (k := n) (Nat.le_of_ble_eq_true rfl : 89 < 90)) sh_nw_at ?_
  have hz19 : dw_Z (n + 96) ((g_X0_init (n + 1) I (n))) (J) := (z_X2_init (n := n + 90) (m := n + 96) (a := n + 89) hz18 rfl (Nat.add_lt_add_left (k := n) (Nat.le_of_ble_eq_true rfl : 89 < 90)))
  refine dw_itp ⟨(Eq.trans (f_X2_init_k (Nat.add_lt_add_left (k := n) (Nat.le_of_ble_eq_true rfl : 6 < 90))) (Eq.trans (sh_nw_k (Nat.add_lt_add_left (k := n) (Nat.le_of_ble_eq_true rfl : 6 < 89))) (Eq.trans sh_sr_k (Eq.trans (f_X2_init_k (Nat.add_lt_add_left (k := n) (Nat.le_of_ble_eq_true rfl : 6 < 83))) (Eq.trans (sh_nw_k (Nat.add_lt_add_left (k := n) (Nat.le_of_ble_eq_true rfl : 6 < 82))) (Eq.trans sh_sr_k (Eq.trans (f_X2_init_k (Nat.add_lt_add_left (k := n) (Nat.le_of_ble_eq_true rfl : 6 < 76))) (Eq.trans (sh_nw_k (Nat.add_lt_add_left (k := n) (Nat.le_of_ble_eq_true rfl : 6 < 75))) (Eq.trans sh_sr_k (Eq.trans (f_X2_init_k (Nat.add_lt_add_left (k := n) (Nat.le_of_ble_eq_true rfl : 6 < 69))) (Eq.trans (sh_nw_k (Nat.add_lt_add_left (k := n) (Nat.le_of_ble_eq_true rfl : 6 < 68))) (Eq.trans sh_sr_k (Eq.trans (f_X2_init_k (Nat.add_lt_add_left (k := n) (Nat.le_of_ble_eq_true rfl : 6 < 62))) (Eq.trans (sh_nw_k (Nat.add_lt_add_left (k := n) (Nat.le_of_ble_eq_true rfl : 6 < 61))) (Eq.trans sh_sr_k (Eq.trans (f_X2_init_k (Nat.add_lt_add_left (k := n) (Nat.le_of_ble_eq_true rfl : 6 < 55))) (Eq.trans (sh_nw_k (Nat.add_lt_add_left (k := n) (Nat.le_of_ble_eq_true rfl : 6 < 54))) (Eq.trans sh_sr_k (Eq.trans (f_X7_init_k (Nat.add_lt_add_left (k := n) (Nat.le_of_ble_eq_true rfl : 6 < 40))) (Eq.trans (sh_nw_k (Nat.add_lt_add_left (k := n) (Nat.le_of_ble_eq_true rfl : 6 < 39))) (Eq.trans sh_sr_k (Eq.trans (f_X5_init_k (Nat.add_lt_add_left (k := n) (Nat.le_of_ble_eq_true rfl : 6 < 8))) (Eq.trans (sh_nw_k (Nat.add_lt_add_left (k := n) (Nat.le_of_ble_eq_true rfl : 6 < 7))) (Eq.trans sh_sr_k sh_nw_at)))))))))))))))))))))))), (Eq.trans (f_X2_init_k (Nat.add_lt_add_left (k := n) (Nat.le_of_ble_eq_true rfl : 89 < 90))) sh_nw_at)⟩ ?_
  refine dw_itp ⟨by decide, (show (5 : Int32).toNatClampNeg < ((f_X2_init (n + 90) (sh_nw (n + 89) (sh_sr (f_X2_init (n + 83) (sh_nw (n + 82) (sh_sr (f_X2_init (n + 76) (sh_nw (n + 75) (sh_sr (f_X2_init (n + 69) (sh_nw (n + 68) (sh_sr (f_X2_init (n + 62) (sh_nw (n + 61) (sh_sr (f_X2_init (n + 55) (sh_nw (n + 54) (sh_sr (f_X7_init (n + 40) (sh_nw (n + 39) (sh_sr (f_X5_init (n + 8) (sh_nw (n + 7) (sh_sr (sh_nw (n + 6) (sh_sr (f_X0_init (n + 1) (sh_nw (n) sh 0 10) (n)) (a) 1 (some (n))) 22 6) (a) 2 (some (n + 6))) 5 2) (n + 7)) (a) 3 (some (n + 7))) 7 15) (n + 39)) (a) 4 (some (n + 39))) 2 2) (n + 54)) (n + 6) 0 (some (n + 54))) 2 2) (n + 61)) (n + 6) 1 (some (n + 61))) 2 2) (n + 68)) (n + 6) 2 (some (n + 68))) 2 2) (n + 75)) (n + 6) 3 (some (n + 75))) 2 2) (n + 82)) (n + 6) 4 (some (n + 82))) 2 2) (n + 89)) (n + 6)).2.1 from Nat.lt_of_lt_of_eq (show (5 : Int32).toNatClampNeg < 6 by decide) (Eq.symm (Eq.trans (f_X2_init_l (Nat.add_lt_add_left (k := n) (Nat.le_of_ble_eq_true rfl : 6 < 90))) (Eq.trans (sh_nw_l (Nat.add_lt_add_left (k := n) (Nat.le_of_ble_eq_true rfl : 6 < 89))) (Eq.trans sh_sr_l (Eq.trans (f_X2_init_l (Nat.add_lt_add_left (k := n) (Nat.le_of_ble_eq_true rfl : 6 < 83))) (Eq.trans (sh_nw_l (Nat.add_lt_add_left (k := n) (Nat.le_of_ble_eq_true rfl : 6 < 82))) (Eq.trans sh_sr_l (Eq.trans (f_X2_init_l (Nat.add_lt_add_left (k := n) (Nat.le_of_ble_eq_true rfl : 6 < 76))) (Eq.trans (sh_nw_l (Nat.add_lt_add_left (k := n) (Nat.le_of_ble_eq_true rfl : 6 < 75))) (Eq.trans sh_sr_l (Eq.trans (f_X2_init_l (Nat.add_lt_add_left (k := n) (Nat.le_of_ble_eq_true rfl : 6 < 69))) (Eq.trans (sh_nw_l (Nat.add_lt_add_left (k := n) (Nat.le_of_ble_eq_true rfl : 6 < 68))) (Eq.trans sh_sr_l (Eq.trans (f_X2_init_l (Nat.add_lt_add_left (k := n) (Nat.le_of_ble_eq_true rfl : 6 < 62))) (Eq.trans (sh_nw_l (Nat.add_lt_add_left (k := n) (Nat.le_of_ble_eq_true rfl : 6 < 61))) (Eq.trans sh_sr_l (Eq.trans (f_X2_init_l (Nat.add_lt_add_left (k := n) (Nat.le_of_ble_eq_true rfl : 6 < 55))) (Eq.trans (sh_nw_l (Nat.add_lt_add_left (k := n) (Nat.le_of_ble_eq_true rfl : 6 < 54))) (Eq.trans sh_sr_l (Eq.trans (f_X7_init_l (Nat.add_lt_add_left (k := n) (Nat.le_of_ble_eq_true rfl : 6 < 40))) (Eq.trans (sh_nw_l (Nat.add_lt_add_left (k := n) (Nat.le_of_ble_eq_true rfl : 6 < 39))) (Eq.trans sh_sr_l (Eq.trans (f_X5_init_l (Nat.add_lt_add_left (k := n) (Nat.le_of_ble_eq_true rfl : 6 < 8))) (Eq.trans (sh_nw_l (Nat.add_lt_add_left (k := n) (Nat.le_of_ble_eq_true rfl : 6 < 7))) (Eq.trans sh_sr_l sh_nw_la))))))))))))))))))))))))))⟩ ?_
  dsimp only
  rw [dw_sr_eq2 (n := n + 96) (j2 := 5)]
  rotate_left
  · decide
  exact hK
def f_X9_init (n : Nat) (sh : dw_Sh) (a : Nat) : dw_Sh := (sh_sr (sh_nw (n) sh 16 940) (a) 0 (some (n)))
theorem f_X9_init_k {n a b : Nat} {sh : dw_Sh} (hb : b < n) : ((f_X9_init n sh a) b).1 = (sh b).1 := by
  unfold f_X9_init
  repeat (first | rw [sh_sr_k] | rw [sh_nw_k (by omega)] | rw [sh_nm_k (by omega)] | rw [f_X0_init_k (by omega)] | rw [f_X1_init_k (by omega)] | rw [f_X2_init_k (by omega)] | rw [f_X3_init_k (by omega)] | rw [f_X4_init_k (by omega)] | rw [f_X5_init_k (by omega)] | rw [f_X6_init_k (by omega)] | rw [f_X7_init_k (by omega)] | rw [f_X8_init_k (by omega)])
theorem f_X9_init_l {n a b : Nat} {sh : dw_Sh} (hb : b < n) : ((f_X9_init n sh a) b).2.1 = (sh b).2.1 := by
  unfold f_X9_init
  repeat (first | rw [sh_sr_l] | rw [sh_nw_l (by omega)] | rw [sh_nm_l (by omega)] | rw [f_X0_init_l (by omega)] | rw [f_X1_init_l (by omega)] | rw [f_X2_init_l (by omega)] | rw [f_X3_init_l (by omega)] | rw [f_X4_init_l (by omega)] | rw [f_X5_init_l (by omega)] | rw [f_X6_init_l (by omega)] | rw [f_X7_init_l (by omega)] | rw [f_X8_init_l (by omega)])
theorem f_X9_init_r {n a b j : Nat} {sh : dw_Sh} (hb : b < n) (hne : b ≠ a) : ((f_X9_init n sh a) b).2.2 j = (sh b).2.2 j := by
  unfold f_X9_init
  repeat (first | rfl | rw [sh_sr_ra hne] | rw [sh_sr_ra (by omega)] | rw [sh_nw_r (by omega)] | rw [sh_nm_r (by omega)] | rw [f_X0_init_r (by omega) (by omega)] | rw [f_X1_init_r (by omega) (by omega)] | rw [f_X2_init_r (by omega) (by omega)] | rw [f_X3_init_r (by omega) (by omega)] | rw [f_X4_init_r (by omega) (by omega)] | rw [f_X5_init_r (by omega) (by omega)] | rw [f_X6_init_r (by omega) (by omega)] | rw [f_X7_init_r (by omega) (by omega)] | rw [f_X8_init_r (by omega) (by omega)])
theorem z_X9_init {n m a : Nat} {I : Nat → Nat → Int32} {J : Nat → Nat → Int64} (hz : dw_Z n I J) (hm : n + 1 = m) (ha : a < n) : dw_Z m (I) (J) := by
  subst hm
  exact (dw_Z.up (m := n + 1) hz (by omega))
set_option maxRecDepth 20000 in
theorem e_X9_init {K : dw_K} {n m : Nat} {sh : dw_Sh} {I : Nat → Nat → Int32} {J : Nat → Nat → Int64} {a : Nat} (hz : dw_Z n I J) (hm : n + 1 = m) (hn : n + 1 ≤ 1000000) (ha : a < n) (hk : (sh a).1 = 9) (hK : K none (m, f_X9_init n sh a, I, J)) : t_X9_init [.ref a] (n, sh, I, J) K := by
  subst hm
  refine dw_enter rfl ?_
  refine dw_run 27 (fun _ => false) ?_
  refine dw_itp ⟨by decide, by decide, by decide, (show n < 1000000 by omega), by decide⟩ ?_
  dsimp only
  rw [dw_nw_eq2 (n := n) (m := n + 1) (N := Int32.toNatClampNeg 940) (N2 := 940) hz rfl rfl]
  have hz1 : dw_Z (n + 1) (I) (J) := (dw_Z.up (m := n + 1) hz (by omega))
  refine dw_itp (Eq.trans (sh_nw_k ha) hk) ?_
  rw [dw_sr_eq]
  exact hK
def f_X10_init (n : Nat) (sh : dw_Sh) (a : Nat) : dw_Sh := (sh_sr (sh_nw (n + 5) (sh_sr (sh_nw (n + 4) (sh_sr (sh_nw (n + 3) (sh_sr (sh_nw (n + 2) (sh_sr (sh_nw (n + 1) (sh_sr (sh_nw (n) sh 16 144) (a) 0 (some (n))) 16 144) (a) 1 (some (n + 1))) 16 144) (a) 2 (some (n + 2))) 16 144) (a) 3 (some (n + 3))) 16 144) (a) 4 (some (n + 4))) 16 144) (a) 5 (some (n + 5)))
theorem f_X10_init_k {n a b : Nat} {sh : dw_Sh} (hb : b < n) : ((f_X10_init n sh a) b).1 = (sh b).1 := by
  unfold f_X10_init
  repeat (first | rw [sh_sr_k] | rw [sh_nw_k (by omega)] | rw [sh_nm_k (by omega)] | rw [f_X0_init_k (by omega)] | rw [f_X1_init_k (by omega)] | rw [f_X2_init_k (by omega)] | rw [f_X3_init_k (by omega)] | rw [f_X4_init_k (by omega)] | rw [f_X5_init_k (by omega)] | rw [f_X6_init_k (by omega)] | rw [f_X7_init_k (by omega)] | rw [f_X8_init_k (by omega)] | rw [f_X9_init_k (by omega)])
theorem f_X10_init_l {n a b : Nat} {sh : dw_Sh} (hb : b < n) : ((f_X10_init n sh a) b).2.1 = (sh b).2.1 := by
  unfold f_X10_init
  repeat (first | rw [sh_sr_l] | rw [sh_nw_l (by omega)] | rw [sh_nm_l (by omega)] | rw [f_X0_init_l (by omega)] | rw [f_X1_init_l (by omega)] | rw [f_X2_init_l (by omega)] | rw [f_X3_init_l (by omega)] | rw [f_X4_init_l (by omega)] | rw [f_X5_init_l (by omega)] | rw [f_X6_init_l (by omega)] | rw [f_X7_init_l (by omega)] | rw [f_X8_init_l (by omega)] | rw [f_X9_init_l (by omega)])
theorem f_X10_init_r {n a b j : Nat} {sh : dw_Sh} (hb : b < n) (hne : b ≠ a) : ((f_X10_init n sh a) b).2.2 j = (sh b).2.2 j := by
  unfold f_X10_init
  repeat (first | rfl | rw [sh_sr_ra hne] | rw [sh_sr_ra (by omega)] | rw [sh_nw_r (by omega)] | rw [sh_nm_r (by omega)] | rw [f_X0_init_r (by omega) (by omega)] | rw [f_X1_init_r (by omega) (by omega)] | rw [f_X2_init_r (by omega) (by omega)] | rw [f_X3_init_r (by omega) (by omega)] | rw [f_X4_init_r (by omega) (by omega)] | rw [f_X5_init_r (by omega) (by omega)] | rw [f_X6_init_r (by omega) (by omega)] | rw [f_X7_init_r (by omega) (by omega)] | rw [f_X8_init_r (by omega) (by omega)] | rw [f_X9_init_r (by omega) (by omega)])
theorem z_X10_init {n m a : Nat} {I : Nat → Nat → Int32} {J : Nat → Nat → Int64} (hz : dw_Z n I J) (hm : n + 6 = m) (ha : a < n) : dw_Z m (I) (J) := by
  subst hm
  exact (dw_Z.up (m := n + 6) (dw_Z.up (m := n + 5) (dw_Z.up (m := n + 4) (dw_Z.up (m := n + 3) (dw_Z.up (m := n + 2) (dw_Z.up (m := n + 1) hz (by omega)) (by omega)) (by omega)) (by omega)) (by omega)) (by omega))
set_option maxRecDepth 20000 in
theorem e_X10_init {K : dw_K} {n m : Nat} {sh : dw_Sh} {I : Nat → Nat → Int32} {J : Nat → Nat → Int64} {a : Nat} (hz : dw_Z n I J) (hm : n + 6 = m) (hn : n + 6 ≤ 1000000) (ha : a < n) (hk : (sh a).1 = 10) (hK : K none (m, f_X10_init n sh a, I, J)) : t_X10_init [.ref a] (n, sh, I, J) K := by
  subst hm
  refine dw_enter rfl ?_
  refine dw_run 47 (fun _ => false) ?_
  refine dw_itp ⟨by decide, by decide, by decide, (show n < 1000000 by omega), by decide⟩ ?_
  dsimp only
  rw [dw_nw_eq2 (n := n) (m := n + 1) (N := Int32.toNatClampNeg 144) (N2 := 144) hz rfl rfl]
  have hz1 : dw_Z (n + 1) (I) (J) := (dw_Z.up (m := n + 1) hz (by omega))
  refine dw_itp (Eq.trans (sh_nw_k ha) hk) ?_
  rw [dw_sr_eq]
  refine dw_itp ⟨by decide, by decide, by decide, (show n + 1 < 1000000 by omega), by decide⟩ ?_
  dsimp only
  rw [dw_nw_eq2 (n := n + 1) (m := n + 2) (N := Int32.toNatClampNeg 144) (N2 := 144) hz1 rfl rfl]
  have hz2 : dw_Z (n + 2) (I) (J) := (dw_Z.up (m := n + 2) hz1 (by omega))
  refine dw_itp (Eq.trans (sh_nw_k (Nat.lt_add_right 1 ha)) (Eq.trans sh_sr_k (Eq.trans (sh_nw_k ha) hk))) ?_
  rw [dw_sr_eq]
  refine dw_itp ⟨by decide, by decide, by decide, (show n + 2 < 1000000 by omega), by decide⟩ ?_
  dsimp only
  rw [dw_nw_eq2 (n := n + 2) (m := n + 3) (N := Int32.toNatClampNeg 144) (N2 := 144) hz2 rfl rfl]
  have hz3 : dw_Z (n + 3) (I) (J) := (dw_Z.up (m := n + 3) hz2 (by omega))
  refine dw_itp (Eq.trans (sh_nw_k (Nat.lt_add_right 2 ha)) (Eq.trans sh_sr_k (Eq.trans (sh_nw_k (Nat.lt_add_right 1 ha)) (Eq.trans sh_sr_k (Eq.trans (sh_nw_k ha) hk))))) ?_
  rw [dw_sr_eq]
  refine dw_itp ⟨by decide, by decide, by decide, (show n + 3 < 1000000 by omega), by decide⟩ ?_
  dsimp only
  rw [dw_nw_eq2 (n := n + 3) (m := n + 4) (N := Int32.toNatClampNeg 144) (N2 := 144) hz3 rfl rfl]
  have hz4 : dw_Z (n + 4) (I) (J) := (dw_Z.up (m := n + 4) hz3 (by omega))
  refine dw_itp (Eq.trans (sh_nw_k (Nat.lt_add_right 3 ha)) (Eq.trans sh_sr_k (Eq.trans (sh_nw_k (Nat.lt_add_right 2 ha)) (Eq.trans sh_sr_k (Eq.trans (sh_nw_k (Nat.lt_add_right 1 ha)) (Eq.trans sh_sr_k (Eq.trans (sh_nw_k ha) hk))))))) ?_
  rw [dw_sr_eq]
  refine dw_itp ⟨by decide, by decide, by decide, (show n + 4 < 1000000 by omega), by decide⟩ ?_
  dsimp only
  rw [dw_nw_eq2 (n := n + 4) (m := n + 5) (N := Int32.toNatClampNeg 144) (N2 := 144) hz4 rfl rfl]
  have hz5 : dw_Z (n + 5) (I) (J) := (dw_Z.up (m := n + 5) hz4 (by omega))
  refine dw_itp (Eq.trans (sh_nw_k (Nat.lt_add_right 4 ha)) (Eq.trans sh_sr_k (Eq.trans (sh_nw_k (Nat.lt_add_right 3 ha)) (Eq.trans sh_sr_k (Eq.trans (sh_nw_k (Nat.lt_add_right 2 ha)) (Eq.trans sh_sr_k (Eq.trans (sh_nw_k (Nat.lt_add_right 1 ha)) (Eq.trans sh_sr_k (Eq.trans (sh_nw_k ha) hk))))))))) ?_
  rw [dw_sr_eq]
  refine dw_itp ⟨by decide, by decide, by decide, (show n + 5 < 1000000 by omega), by decide⟩ ?_
  dsimp only
  rw [dw_nw_eq2 (n := n + 5) (m := n + 6) (N := Int32.toNatClampNeg 144) (N2 := 144) hz5 rfl rfl]
  have hz6 : dw_Z (n + 6) (I) (J) := (dw_Z.up (m := n + 6) hz5 (by omega))
  refine dw_itp (Eq.trans (sh_nw_k (Nat.lt_add_right 5 ha)) (Eq.trans sh_sr_k (Eq.trans (sh_nw_k (Nat.lt_add_right 4 ha)) (Eq.trans sh_sr_k (Eq.trans (sh_nw_k (Nat.lt_add_right 3 ha)) (Eq.trans sh_sr_k (Eq.trans (sh_nw_k (Nat.lt_add_right 2 ha)) (Eq.trans sh_sr_k (Eq.trans (sh_nw_k (Nat.lt_add_right 1 ha)) (Eq.trans sh_sr_k (Eq.trans (sh_nw_k ha) hk))))))))))) ?_
  rw [dw_sr_eq]
  exact hK
