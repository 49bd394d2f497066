section
/-! ===== pure reasoning: entering, branching ===== -/
theorem dw_ite {c : Prop} {d : Decidable c} {A B : Prop} (h1 : c → A) (h2 : ¬ c → B) : @ite Prop c d A B := by
  by_cases h : c
  · rw [if_pos h]; exact h1 h
  · rw [if_neg h]; exact h2 h
theorem dw_itp {c : Prop} {d : Decidable c} {A B : Prop} (h : c) (h1 : A) : @ite Prop c d A B := by
  rw [if_pos h]; exact h1
theorem dw_itn {c : Prop} {d : Decidable c} {A B : Prop} (h : ¬ c) (h1 : B) : @ite Prop c d A B := by
  rw [if_neg h]; exact h1
theorem dw_enter {nL mc ms : Nat} {pr : dw_K → Nat → dw_Op} {as : List Value} {μ : dw_S} {K : dw_K} (h : Nat.ble (dw_inl as).length nL = true) (k : dw_ok (pr K) 0 mc ms (dw_pad nL (dw_inl as)) [] μ) : dw_body nL mc ms pr as μ K := by
  unfold dw_body
  rw [if_pos (Nat.le_of_ble_eq_true h)]
  exact k
/-- nothing is written from n on -/
def dw_Z (n : Nat) (I : Nat → Nat → Int32) (J : Nat → Nat → Int64) : Prop := ∀ a, n ≤ a → ∀ j, I a j = 0 ∧ J a j = 0
theorem dw_Z.up {n m : Nat} {I : Nat → Nat → Int32} {J : Nat → Nat → Int64} (h : dw_Z n I J) (hm : n ≤ m) : dw_Z m I J := fun a ha j => h a (by omega) j
/-- shapes behind a making -/
def sh_nw (n : Nat) (sh : dw_Sh) (kd N : Nat) : dw_Sh := fun a => if a = n then (kd, N, fun _ => none) else sh a
def sh_nm (n0 : Nat) (sh : dw_Sh) (n k : Nat) : dw_Sh := fun a => if a = n0 then (20, n, fun i => if i < n then some (n0 + 1 + i) else none) else if n0 < a ∧ a < n0 + (1 + n) then (16, k, fun _ => none) else sh a
def sh_sr (sh : dw_Sh) (a j : Nat) (x : Option Nat) : dw_Sh := fun a' => if a' = a then ((sh a').1, (sh a').2.1, fun j' => if j' = j then x else (sh a').2.2 j') else sh a'
theorem dw_nw_eq {n m : Nat} {sh : dw_Sh} {I : Nat → Nat → Int32} {J : Nat → Nat → Int64} {kd N : Nat} (h : dw_Z n I J) (hm : n + 1 = m) : dw_nw (n, sh, I, J) kd N = (m, sh_nw n sh kd N, I, J) := by
  subst hm
  unfold dw_nw sh_nw
  refine Prod.ext rfl (Prod.ext rfl (Prod.ext ?_ ?_))
  · funext a j
    show (if a = n then 0 else I a j) = I a j
    by_cases e : a = n
    · rw [if_pos e, e]; exact ((h n (Nat.le_refl n) j).1).symm
    · rw [if_neg e]
  · funext a j
    show (if a = n then 0 else J a j) = J a j
    by_cases e : a = n
    · rw [if_pos e, e]; exact ((h n (Nat.le_refl n) j).2).symm
    · rw [if_neg e]
theorem dw_nm_eq {n0 m : Nat} {sh : dw_Sh} {I : Nat → Nat → Int32} {J : Nat → Nat → Int64} {n k : Nat} (h : dw_Z n0 I J) (hm : n0 + (1 + n) = m) : dw_nm (n0, sh, I, J) n k = (m, sh_nm n0 sh n k, I, J) := by
  subst hm
  unfold dw_nm sh_nm
  refine Prod.ext rfl (Prod.ext rfl (Prod.ext ?_ ?_))
  · funext a j
    show (if n0 ≤ a ∧ a < n0 + (1 + n) then 0 else I a j) = I a j
    by_cases e : n0 ≤ a ∧ a < n0 + (1 + n)
    · rw [if_pos e]; exact ((h a e.1 j).1).symm
    · rw [if_neg e]
  · funext a j
    show (if n0 ≤ a ∧ a < n0 + (1 + n) then 0 else J a j) = J a j
    by_cases e : n0 ≤ a ∧ a < n0 + (1 + n)
    · rw [if_pos e]; exact ((h a e.1 j).2).symm
    · rw [if_neg e]
theorem dw_si_eq {n : Nat} {sh : dw_Sh} {I : Nat → Nat → Int32} {J : Nat → Nat → Int64} {a j : Nat} {x : Int32} : dw_si (n, sh, I, J) a j x = (n, sh, dw_up I a j x, J) := rfl
theorem dw_sl_eq {n : Nat} {sh : dw_Sh} {I : Nat → Nat → Int32} {J : Nat → Nat → Int64} {a j : Nat} {x : Int64} : dw_sl (n, sh, I, J) a j x = (n, sh, I, dw_up J a j x) := rfl
theorem dw_sr_eq {n : Nat} {sh : dw_Sh} {I : Nat → Nat → Int32} {J : Nat → Nat → Int64} {a j : Nat} {x : Option Nat} : dw_sr (n, sh, I, J) a j x = (n, sh_sr sh a j x, I, J) := rfl
theorem sh_sr_k {sh : dw_Sh} {a b j : Nat} {x : Option Nat} : ((sh_sr sh b j x) a).1 = (sh a).1 := by
  unfold sh_sr
  by_cases h : a = b <;> simp [h]
theorem sh_nw_lt {sh : dw_Sh} {a n kd N : Nat} (h : a < n) : (sh_nw n sh kd N) a = sh a := by
  unfold sh_nw
  rw [if_neg (by omega)]
theorem sh_nw_at {sh : dw_Sh} {n kd N : Nat} : ((sh_nw n sh kd N) n).1 = kd := by
  unfold sh_nw
  rw [if_pos rfl]
theorem sh_nm_lt {sh : dw_Sh} {a n0 n k : Nat} (h : a < n0) : (sh_nm n0 sh n k) a = sh a := by
  unfold sh_nm
  rw [if_neg (by omega), if_neg (by omega)]
end
section
theorem dw_sr_eq2 {n : Nat} {sh : dw_Sh} {I : Nat → Nat → Int32} {J : Nat → Nat → Int64} {a j j2 : Nat} {x : Option Nat} (h : j = j2) : dw_sr (n, sh, I, J) a j x = (n, sh_sr sh a j2 x, I, J) := by
  subst h
  rfl
theorem dw_si_eq2 {n : Nat} {sh : dw_Sh} {I : Nat → Nat → Int32} {J : Nat → Nat → Int64} {a j j2 : Nat} {x : Int32} (h : j = j2) : dw_si (n, sh, I, J) a j x = (n, sh, dw_up I a j2 x, J) := by
  subst h
  rfl
theorem dw_sl_eq2 {n : Nat} {sh : dw_Sh} {I : Nat → Nat → Int32} {J : Nat → Nat → Int64} {a j j2 : Nat} {x : Int64} (h : j = j2) : dw_sl (n, sh, I, J) a j x = (n, sh, I, dw_up J a j2 x) := by
  subst h
  rfl
theorem dw_nw_eq2 {n m N2 : Nat} {sh : dw_Sh} {I : Nat → Nat → Int32} {J : Nat → Nat → Int64} {kd N : Nat} (h : dw_Z n I J) (hm : n + 1 = m) (hN : N = N2) : dw_nw (n, sh, I, J) kd N = (m, sh_nw n sh kd N2, I, J) := by
  subst hN
  exact dw_nw_eq h hm
theorem dw_nm_eq2 {n0 m n2 k2 : Nat} {sh : dw_Sh} {I : Nat → Nat → Int32} {J : Nat → Nat → Int64} {n k : Nat} (h : dw_Z n0 I J) (hm : n0 + (1 + n) = m) (hn : n = n2) (hk : k = k2) : dw_nm (n0, sh, I, J) n k = (m, sh_nm n0 sh n2 k2, I, J) := by
  subst hn
  subst hk
  exact dw_nm_eq h hm
theorem dw_vt_eq {n a j x : Nat} {sh : dw_Sh} {I : Nat → Nat → Int32} {J : Nat → Nat → Int64} (h : (sh a).2.2 j = some x) : dw_vt 2 (n, sh, I, J) a j = .ref x := by
  show dw_rv ((sh a).2.2 j) = .ref x
  rw [h]
  rfl
theorem sh_sr_rat {sh : dw_Sh} {a j : Nat} {x : Option Nat} : ((sh_sr sh a j x) a).2.2 j = x := by
  unfold sh_sr
  rw [if_pos rfl]
  show (if j = j then x else _) = x
  rw [if_pos rfl]
theorem sh_sr_rj {sh : dw_Sh} {a j i : Nat} {x : Option Nat} (h : i ≠ j) : ((sh_sr sh a j x) a).2.2 i = (sh a).2.2 i := by
  unfold sh_sr
  rw [if_pos rfl]
  show (if i = j then x else _) = _
  rw [if_neg h]
theorem sh_sr_ra {sh : dw_Sh} {a b j i : Nat} {x : Option Nat} (h : b ≠ a) : ((sh_sr sh a j x) b).2.2 i = (sh b).2.2 i := by
  unfold sh_sr
  rw [if_neg h]
theorem sh_nw_r {sh : dw_Sh} {a n kd N i : Nat} (h : a < n) : ((sh_nw n sh kd N) a).2.2 i = (sh a).2.2 i := by rw [sh_nw_lt h]
theorem sh_nm_r {sh : dw_Sh} {a n0 n k i : Nat} (h : a < n0) : ((sh_nm n0 sh n k) a).2.2 i = (sh a).2.2 i := by rw [sh_nm_lt h]
theorem dw_Z.si {n a j : Nat} {x : Int32} {I : Nat → Nat → Int32} {J : Nat → Nat → Int64} (h : dw_Z n I J) (ha : a < n) : dw_Z n (dw_up I a j x) J := fun b hb i => ⟨by rw [dw_up_ne (by omega)]; exact (h b hb i).1, (h b hb i).2⟩
theorem dw_Z.sl {n a j : Nat} {x : Int64} {I : Nat → Nat → Int32} {J : Nat → Nat → Int64} (h : dw_Z n I J) (ha : a < n) : dw_Z n I (dw_up J a j x) := fun b hb i => ⟨(h b hb i).1, by rw [dw_up_ne (by omega)]; exact (h b hb i).2⟩
theorem sh_nw_k {sh : dw_Sh} {a n kd N : Nat} (h : a < n) : ((sh_nw n sh kd N) a).1 = (sh a).1 := by rw [sh_nw_lt h]
theorem sh_nm_k {sh : dw_Sh} {a n0 n k : Nat} (h : a < n0) : ((sh_nm n0 sh n k) a).1 = (sh a).1 := by rw [sh_nm_lt h]
theorem sh_nw_l {sh : dw_Sh} {a n kd N : Nat} (h : a < n) : ((sh_nw n sh kd N) a).2.1 = (sh a).2.1 := by rw [sh_nw_lt h]
theorem sh_nm_l {sh : dw_Sh} {a n0 n k : Nat} (h : a < n0) : ((sh_nm n0 sh n k) a).2.1 = (sh a).2.1 := by rw [sh_nm_lt h]
theorem sh_sr_l {sh : dw_Sh} {a b j : Nat} {x : Option Nat} : ((sh_sr sh b j x) a).2.1 = (sh a).2.1 := by
  unfold sh_sr
  by_cases h : a = b <;> simp [h]
theorem sh_nw_la {sh : dw_Sh} {n kd N : Nat} : ((sh_nw n sh kd N) n).2.1 = N := by
  unfold sh_nw
  rw [if_pos rfl]
theorem sh_nm_at {sh : dw_Sh} {n0 n k : Nat} : ((sh_nm n0 sh n k) n0).1 = 20 := by
  unfold sh_nm
  rw [if_pos rfl]
section
variable {pr : Nat → dw_Op} {pc bc bs nx bc' bs' : Nat} {ls : dw_L} {st : List Value} {n m : Nat} {sh : dw_Sh} {I : Nat → Nat → Int32} {J : Nat → Nat → Int64} {μ : dw_S}
theorem qi_ald {i a : Nat} (ho : pr pc = o_ald i nx) (hl : ls[i]? = some (some (.ref a))) (k : dw_ok pr nx bc bs ls (.ref a :: st) μ) : dw_ok pr pc bc bs ls st μ := dw_ok.step (by rw [ho]; unfold o_ald; rw [hl]; exact k)
theorem qi_ild {i : Nat} {x : Int32} (ho : pr pc = o_ild i nx) (hl : ls[i]? = some (some (.int x))) (k : dw_ok pr nx bc bs ls (.int x :: st) μ) : dw_ok pr pc bc bs ls st μ := dw_ok.step (by rw [ho]; unfold o_ild; rw [hl]; exact k)
theorem qi_ic {v : Int32} (ho : pr pc = o_ic v nx) (k : dw_ok pr nx bc bs ls (.int v :: st) μ) : dw_ok pr pc bc bs ls st μ := dw_ok.step (by rw [ho]; exact k)
theorem qi_lc {v : Int64} (ho : pr pc = o_lc v nx) (k : dw_ok pr nx bc bs ls (.long v :: st) μ) : dw_ok pr pc bc bs ls st μ := dw_ok.step (by rw [ho]; exact k)
theorem qi_goto (ho : pr pc = o_goto nx) (k : dw_ok pr nx bc bs ls st μ) : dw_ok pr pc bc bs ls st μ := dw_ok.step (by rw [ho]; exact k)
theorem qi_dup {a : Nat} (ho : pr pc = o_dup nx) (k : dw_ok pr nx bc bs ls (.ref a :: .ref a :: st) μ) : dw_ok pr pc bc bs ls (.ref a :: st) μ := dw_ok.step (by rw [ho]; exact k)
theorem qi_add {x y z : Int32} (ho : pr pc = o_iadd nx) (hv : x + y = z) (k : dw_ok pr nx bc bs ls (.int z :: st) μ) : dw_ok pr pc bc bs ls (.int y :: .int x :: st) μ := dw_ok.step (by rw [ho]; subst hv; exact k)
theorem qi_mul {x y z : Int32} (ho : pr pc = o_imul nx) (hv : x * y = z) (k : dw_ok pr nx bc bs ls (.int z :: st) μ) : dw_ok pr pc bc bs ls (.int y :: .int x :: st) μ := dw_ok.step (by rw [ho]; subst hv; exact k)
theorem qi_ist {i : Nat} {x : Int32} (ho : pr pc = o_ist i nx) (hf : dw_free ls i = true) (k : dw_ok pr nx bc bs (ls.set i (some (.int x))) st μ) : dw_ok pr pc bc bs ls (.int x :: st) μ := dw_ok.step (by rw [ho]; unfold o_ist; simp only []; rw [hf]; exact k)
theorem qi_inc {i : Nat} {v x y : Int32} (ho : pr pc = o_inc i v nx) (hl : ls[i]? = some (some (.int x))) (hf : dw_free ls i = true) (hv : x + v = y) (k : dw_ok pr nx bc bs (ls.set i (some (.int y))) st μ) : dw_ok pr pc bc bs ls st μ := dw_ok.step (by rw [ho]; subst hv; unfold o_inc; rw [hl]; simp only []; rw [hf]; exact k)
theorem qi_ge_y {x y : Int32} {tg : Nat} (ho : pr pc = o_icmp_ge tg nx) (h : y ≤ x) (k : dw_ok pr tg bc bs ls st μ) : dw_ok pr pc bc bs ls (.int y :: .int x :: st) μ := dw_ok.step (by rw [ho]; show (if y ≤ x then dw_ok pr tg bc bs ls st μ else dw_ok pr nx bc bs ls st μ); rw [if_pos h]; exact k)
theorem qi_ge_n {x y : Int32} {tg : Nat} (ho : pr pc = o_icmp_ge tg nx) (h : ¬ y ≤ x) (k : dw_ok pr nx bc bs ls st μ) : dw_ok pr pc bc bs ls (.int y :: .int x :: st) μ := dw_ok.step (by rw [ho]; show (if y ≤ x then dw_ok pr tg bc bs ls st μ else dw_ok pr nx bc bs ls st μ); rw [if_neg h]; exact k)
theorem qi_oinit {a : Nat} (ho : pr pc = o_oinit nx) (h : Nat.ble (dw_cats st) 8 = true) (k : dw_ok pr nx bc bs ls st μ) : dw_ok pr pc bc bs ls (.ref a :: st) μ := dw_ok.step (by rw [ho]; show (if dw_cats st ≤ 8 then dw_ok pr nx bc bs ls st μ else False); rw [if_pos (Nat.le_of_ble_eq_true h)]; exact k)
theorem qi_vret {K : dw_K} (ho : pr pc = o_vret K) (k : K none μ) : dw_ok pr pc bc bs ls [] μ := dw_ok.step (by rw [ho]; exact k)
theorem qi_new {ci N : Nat} (ho : pr pc = o_new ci N nx) (hz : dw_Z n I J) (hb : bc = bc' + 1) (hs : bs = bs' + N) (hn : n < 1000000) (hm : n + 1 = m) (k : ∀ sh' : dw_Sh, sh' = sh_nw n sh ci N → dw_ok pr nx bc' bs' ls (.ref n :: st) (m, sh', I, J)) : dw_ok pr pc bc bs ls st (n, sh, I, J) := by
  subst hm hb hs
  refine dw_ok.step ?_
  rw [ho]
  show (if 1 ≤ bc' + 1 ∧ N ≤ bs' + N ∧ n < 1000000 then dw_ok pr nx (bc' + 1 - 1) (bs' + N - N) ls (.ref n :: st) (dw_nw (n, sh, I, J) ci N) else False)
  rw [if_pos ⟨by omega, by omega, hn⟩, Nat.add_sub_cancel, Nat.add_sub_cancel, dw_nw_eq hz rfl]
  exact k _ rfl
theorem qi_newa {kd N : Nat} {x : Int32} (ho : pr pc = o_newa kd nx) (hz : dw_Z n I J) (h0 : ¬ x < 0) (hx : x.toNatClampNeg = N) (hb : bc = bc' + 1) (hs : bs = bs' + N) (hn : n < 1000000) (hN : Nat.ble N 50000000 = true) (hm : n + 1 = m) (k : ∀ sh' : dw_Sh, sh' = sh_nw n sh kd N → dw_ok pr nx bc' bs' ls (.ref n :: st) (m, sh', I, J)) : dw_ok pr pc bc bs ls (.int x :: st) (n, sh, I, J) := by
  subst hm hb hs hx
  refine dw_ok.step ?_
  rw [ho]
  show (if ¬ x < 0 ∧ 1 ≤ bc' + 1 ∧ x.toNatClampNeg ≤ bs' + x.toNatClampNeg ∧ n < 1000000 ∧ x.toNatClampNeg ≤ 50000000 then dw_ok pr nx (bc' + 1 - 1) (bs' + x.toNatClampNeg - x.toNatClampNeg) ls (.ref n :: st) (dw_nw (n, sh, I, J) kd x.toNatClampNeg) else False)
  rw [if_pos ⟨h0, by omega, by omega, hn, Nat.le_of_ble_eq_true hN⟩, Nat.add_sub_cancel, Nat.add_sub_cancel, dw_nw_eq hz rfl]
  exact k _ rfl
theorem qi_mna {N Kk : Nat} {x y : Int32} (ho : pr pc = o_mna nx) (hz : dw_Z n I J) (h0 : ¬ y < 0) (h1 : ¬ x < 0) (hy : y.toNatClampNeg = N) (hx : x.toNatClampNeg = Kk) (hb : bc = bc' + (1 + N)) (hs : bs = bs' + (N + N * Kk)) (hn : n + (1 + N) ≤ 1000000) (hN : Nat.ble N 50000000 = true) (hK : Nat.ble Kk 50000000 = true) (hm : n + (1 + N) = m) (k : ∀ sh' : dw_Sh, sh' = sh_nm n sh N Kk → dw_ok pr nx bc' bs' ls (.ref n :: st) (m, sh', I, J)) : dw_ok pr pc bc bs ls (.int x :: .int y :: st) (n, sh, I, J) := by
  subst hm hb hs hx hy
  refine dw_ok.step ?_
  rw [ho]
  show (if (¬ y < 0 ∧ ¬ x < 0) ∧ (1 + y.toNatClampNeg ≤ bc' + (1 + y.toNatClampNeg) ∧ y.toNatClampNeg + y.toNatClampNeg * x.toNatClampNeg ≤ bs' + (y.toNatClampNeg + y.toNatClampNeg * x.toNatClampNeg)) ∧ n + (1 + y.toNatClampNeg) ≤ 1000000 ∧ y.toNatClampNeg ≤ 50000000 ∧ x.toNatClampNeg ≤ 50000000 then dw_ok pr nx (bc' + (1 + y.toNatClampNeg) - (1 + y.toNatClampNeg)) (bs' + (y.toNatClampNeg + y.toNatClampNeg * x.toNatClampNeg) - (y.toNatClampNeg + y.toNatClampNeg * x.toNatClampNeg)) ls (.ref n :: st) (dw_nm (n, sh, I, J) y.toNatClampNeg x.toNatClampNeg) else False)
  rw [if_pos ⟨⟨h0, h1⟩, ⟨Nat.le_add_left _ _, Nat.le_add_left _ _⟩, hn, Nat.le_of_ble_eq_true hN, Nat.le_of_ble_eq_true hK⟩, Nat.add_sub_cancel, Nat.add_sub_cancel, dw_nm_eq hz rfl]
  exact k _ rfl
theorem qi_putr {ci j a x : Nat} (ho : pr pc = o_putr ci j nx) (hk : (sh a).1 = ci) (k : ∀ sh' : dw_Sh, sh' = sh_sr sh a j (some x) → dw_ok pr nx bc bs ls st (n, sh', I, J)) : dw_ok pr pc bc bs ls (.ref x :: .ref a :: st) (n, sh, I, J) := by
  refine dw_ok.step ?_
  rw [ho]
  show (if (sh a).1 = ci then dw_ok pr nx bc bs ls st (dw_sr (n, sh, I, J) a j (some x)) else False)
  rw [if_pos hk]
  exact k _ rfl
theorem qi_puti {ci j a : Nat} {x : Int32} (ho : pr pc = o_puti ci j 0 nx) (hk : (sh a).1 = ci) (k : ∀ I' : Nat → Nat → Int32, I' = dw_up I a j x → dw_ok pr nx bc bs ls st (n, sh, I', J)) : dw_ok pr pc bc bs ls (.int x :: .ref a :: st) (n, sh, I, J) := by
  refine dw_ok.step ?_
  rw [ho]
  show (if (sh a).1 = ci then dw_fitC 0 x (dw_ok pr nx bc bs ls st (dw_si (n, sh, I, J) a j x)) else False)
  rw [if_pos hk]
  exact k _ rfl
theorem qi_getr {ci j a b : Nat} (ho : pr pc = o_getf ci j 2 nx) (hk : (sh a).1 = ci) (hr : (sh a).2.2 j = some b) (k : dw_ok pr nx bc bs ls (.ref b :: st) (n, sh, I, J)) : dw_ok pr pc bc bs ls (.ref a :: st) (n, sh, I, J) := by
  refine dw_ok.step ?_
  rw [ho]
  show (if (sh a).1 = ci then dw_fitI 2 (I a j) (dw_ok pr nx bc bs ls (dw_rv ((sh a).2.2 j) :: st) (n, sh, I, J)) else False)
  rw [if_pos hk, hr]
  exact k
theorem qi_iast {kd a j N : Nat} {x v : Int32} (ho : pr pc = o_iast kd 0 nx) (hk : (sh a).1 = kd) (hn : (sh a).2.1 = N) (h0 : ¬ x < 0) (hj : x.toNatClampNeg = j) (hl : Nat.blt j N = true) (k : ∀ I' : Nat → Nat → Int32, I' = dw_up I a j v → dw_ok pr nx bc bs ls st (n, sh, I', J)) : dw_ok pr pc bc bs ls (.int v :: .int x :: .ref a :: st) (n, sh, I, J) := by
  refine dw_ok.step ?_
  rw [ho]
  show (if (sh a).1 = kd then (if ¬ x < 0 ∧ x.toNatClampNeg < (sh a).2.1 then dw_fitC 0 v (dw_ok pr nx bc bs ls st (dw_si (n, sh, I, J) a x.toNatClampNeg v)) else False) else False)
  rw [if_pos hk, if_pos ⟨h0, by rw [hj, hn]; exact Nat.le_of_ble_eq_true hl⟩, hj]
  exact k _ rfl
theorem qi_last {a j N : Nat} {x : Int32} {v : Int64} (ho : pr pc = o_last nx) (hk : (sh a).1 = 17) (hn : (sh a).2.1 = N) (h0 : ¬ x < 0) (hj : x.toNatClampNeg = j) (hl : Nat.blt j N = true) (k : ∀ J' : Nat → Nat → Int64, J' = dw_up J a j v → dw_ok pr nx bc bs ls st (n, sh, I, J')) : dw_ok pr pc bc bs ls (.long v :: .int x :: .ref a :: st) (n, sh, I, J) := by
  refine dw_ok.step ?_
  rw [ho]
  show (if (sh a).1 = 17 then (if ¬ x < 0 ∧ x.toNatClampNeg < (sh a).2.1 then dw_ok pr nx bc bs ls st (dw_sl (n, sh, I, J) a x.toNatClampNeg v) else False) else False)
  rw [if_pos hk, if_pos ⟨h0, by rw [hj, hn]; exact Nat.le_of_ble_eq_true hl⟩, hj]
  exact k _ rfl
theorem qi_aast {kd ci a b j N : Nat} {x : Int32} (ho : pr pc = o_aast kd ci nx) (hk : (sh a).1 = kd) (hb : (sh b).1 = ci) (hn : (sh a).2.1 = N) (h0 : ¬ x < 0) (hj : x.toNatClampNeg = j) (hl : Nat.blt j N = true) (k : ∀ sh' : dw_Sh, sh' = sh_sr sh a j (some b) → dw_ok pr nx bc bs ls st (n, sh', I, J)) : dw_ok pr pc bc bs ls (.ref b :: .int x :: .ref a :: st) (n, sh, I, J) := by
  refine dw_ok.step ?_
  rw [ho]
  show (if (sh a).1 = kd ∧ (sh b).1 = ci then (if ¬ x < 0 ∧ x.toNatClampNeg < (sh a).2.1 then dw_ok pr nx bc bs ls st (dw_sr (n, sh, I, J) a x.toNatClampNeg (some b)) else False) else False)
  rw [if_pos ⟨hk, hb⟩, if_pos ⟨h0, by rw [hj, hn]; exact Nat.le_of_ble_eq_true hl⟩, hj]
  exact k _ rfl
theorem qi_call {ci mc ms a : Nat} {T : dw_T} (ho : pr pc = o_callV ci 1 mc ms T nx) (hk : (sh a).1 = ci) (hc : Nat.ble (dw_cats st) 8 = true) (hb : bc = bc' + mc) (hs : bs = bs' + ms) (k : T [.ref a] (n, sh, I, J) (fun r μ' => dw_ok pr nx bc' bs' ls (r.toList ++ st) μ')) : dw_ok pr pc bc bs ls (.ref a :: st) (n, sh, I, J) := by
  subst hb hs
  refine dw_ok.step ?_
  rw [ho]
  show (if (sh a).1 = ci ∧ (([] : List Value).length + 1 = 1) ∧ dw_cats st ≤ 8 ∧ mc ≤ bc' + mc ∧ ms ≤ bs' + ms then T [.ref a] (n, sh, I, J) (fun r μ' => dw_ok pr nx (bc' + mc - mc) (bs' + ms - ms) ls (r.toList ++ st) μ') else False)
  rw [if_pos ⟨hk, rfl, Nat.le_of_ble_eq_true hc, Nat.le_add_left _ _, Nat.le_add_left _ _⟩, Nat.add_sub_cancel, Nat.add_sub_cancel]
  exact k
end
def f_X0_init (n : Nat) (sh : dw_Sh) (a : Nat) : dw_Sh := (sh_sr (sh_nw (n + 4) (sh_sr (sh_nw (n + 3) (sh_sr (sh_nw (n + 2) (sh_sr (sh_nw (n + 1) (sh_sr (sh_nw (n) sh 16 8) (a) 5 (some (n))) 16 8) (a) 6 (some (n + 1))) 16 8) (a) 7 (some (n + 2))) 16 144) (a) 8 (some (n + 3))) 16 144) (a) 9 (some (n + 4)))
def g_X0_init (n : Nat) (I : Nat → Nat → Int32) (a : Nat) : Nat → Nat → Int32 := (dw_up I (a) 4 500)
theorem f_X0_init_k {n a b : Nat} {sh : dw_Sh} (hb : b < n) : ((f_X0_init n sh a) b).1 = (sh b).1 := by
  unfold f_X0_init
  repeat (first | rw [sh_sr_k] | rw [sh_nw_k (by omega)] | rw [sh_nm_k (by omega)])
theorem f_X0_init_l {n a b : Nat} {sh : dw_Sh} (hb : b < n) : ((f_X0_init n sh a) b).2.1 = (sh b).2.1 := by
  unfold f_X0_init
  repeat (first | rw [sh_sr_l] | rw [sh_nw_l (by omega)] | rw [sh_nm_l (by omega)])
theorem f_X0_init_r {n a b j : Nat} {sh : dw_Sh} (hb : b < n) (hne : b ≠ a) : ((f_X0_init n sh a) b).2.2 j = (sh b).2.2 j := by
  unfold f_X0_init
  repeat (first | rfl | rw [sh_sr_ra hne] | rw [sh_sr_ra (by omega)] | rw [sh_nw_r (by omega)] | rw [sh_nm_r (by omega)])
theorem z_X0_init {n m a : Nat} {I : Nat → Nat → Int32} {J : Nat → Nat → Int64} (hz : dw_Z n I J) (hm : n + 5 = m) (ha : a < n) : dw_Z m (g_X0_init n I a) (J) := by
  subst hm
  exact (dw_Z.up (m := n + 5) (dw_Z.up (m := n + 4) (dw_Z.up (m := n + 3) (dw_Z.up (m := n + 2) (dw_Z.up (m := n + 1) (dw_Z.si (n := n) (a := a) hz ha) (by omega)) (by omega)) (by omega)) (by omega)) (by omega))
set_option maxHeartbeats 4000000 in
set_option maxRecDepth 20000 in
theorem e_X0_init {K : dw_K} {n m : Nat} {sh : dw_Sh} {I : Nat → Nat → Int32} {J : Nat → Nat → Int64} {a : Nat} (hz : dw_Z n I J) (hm : n + 5 = m) (hn : n + 5 ≤ 1000000) (ha : a < n) (hk : (sh a).1 = 0) (hK : K none (m, f_X0_init n sh a, g_X0_init n I a, J)) : t_X0_init [.ref a] (n, sh, I, J) K := by
  subst hm
  refine dw_enter rfl ?_
  show dw_ok (pr_X0_init K) 0 5 312 [some (.ref (a))] [] (n, sh, I, J)
  refine qi_ald rfl rfl ?_
  refine qi_oinit rfl rfl ?_
  refine qi_ald rfl rfl ?_
  refine qi_ic rfl ?_
  refine qi_puti rfl hk (fun I1 hI1 => ?_)
  have hz2 : dw_Z (n) I1 J := by rw [hI1]; exact dw_Z.si hz ha
  refine qi_ald rfl rfl ?_
  refine qi_ic rfl ?_
  refine qi_newa (m := n + 1) (N := 8) (bc' := 4) (bs' := 304) rfl hz2 (by decide) (by decide) rfl rfl (by omega) rfl rfl (fun s1 hs1 => ?_)
  have y3 : (s1 (n)).1 = 16 := by rw [hs1]; exact sh_nw_at
  have y4 : (s1 (n)).2.1 = 8 := by rw [hs1]; exact sh_nw_la
  have hz5 : dw_Z (n + 1) I1 J := dw_Z.up hz2 (by omega)
  have y6 : (s1 (a)).1 = 0 := by rw [hs1]; exact Eq.trans (sh_nw_k ha) hk
  refine qi_putr rfl y6 (fun s2 hs2 => ?_)
  have y7 : (s2 (a)).2.2 5 = some (n) := by rw [hs2]; exact sh_sr_rat
  refine qi_ald rfl rfl ?_
  refine qi_ic rfl ?_
  refine qi_newa (m := n + 2) (N := 8) (bc' := 3) (bs' := 296) rfl hz5 (by decide) (by decide) rfl rfl (by omega) rfl rfl (fun s3 hs3 => ?_)
  have y8 : (s3 (n + 1)).1 = 16 := by rw [hs3]; exact sh_nw_at
  have y9 : (s3 (n + 1)).2.1 = 8 := by rw [hs3]; exact sh_nw_la
  have hz10 : dw_Z (n + 2) I1 J := dw_Z.up hz5 (by omega)
  have y11 : (s2 (a)).1 = 0 := by rw [hs2]; exact Eq.trans sh_sr_k y6
  have y12 : (s3 (a)).1 = 0 := by rw [hs3]; exact Eq.trans (sh_nw_k (Nat.lt_add_right 1 ha)) y11
  refine qi_putr rfl y12 (fun s4 hs4 => ?_)
  have y13 : (s4 (a)).2.2 6 = some (n + 1) := by rw [hs4]; exact sh_sr_rat
  refine qi_ald rfl rfl ?_
  refine qi_ic rfl ?_
  refine qi_newa (m := n + 3) (N := 8) (bc' := 2) (bs' := 288) rfl hz10 (by decide) (by decide) rfl rfl (by omega) rfl rfl (fun s5 hs5 => ?_)
  have y14 : (s5 (n + 2)).1 = 16 := by rw [hs5]; exact sh_nw_at
  have y15 : (s5 (n + 2)).2.1 = 8 := by rw [hs5]; exact sh_nw_la
  have hz16 : dw_Z (n + 3) I1 J := dw_Z.up hz10 (by omega)
  have y17 : (s4 (a)).1 = 0 := by rw [hs4]; exact Eq.trans sh_sr_k y12
  have y18 : (s5 (a)).1 = 0 := by rw [hs5]; exact Eq.trans (sh_nw_k (Nat.lt_add_right 2 ha)) y17
  refine qi_putr rfl y18 (fun s6 hs6 => ?_)
  have y19 : (s6 (a)).2.2 7 = some (n + 2) := by rw [hs6]; exact sh_sr_rat
  refine qi_ald rfl rfl ?_
  refine qi_ic rfl ?_
  refine qi_newa (m := n + 4) (N := 144) (bc' := 1) (bs' := 144) rfl hz16 (by decide) (by decide) rfl rfl (by omega) rfl rfl (fun s7 hs7 => ?_)
  have y20 : (s7 (n + 3)).1 = 16 := by rw [hs7]; exact sh_nw_at
  have y21 : (s7 (n + 3)).2.1 = 144 := by rw [hs7]; exact sh_nw_la
  have hz22 : dw_Z (n + 4) I1 J := dw_Z.up hz16 (by omega)
  have y23 : (s6 (a)).1 = 0 := by rw [hs6]; exact Eq.trans sh_sr_k y18
  have y24 : (s7 (a)).1 = 0 := by rw [hs7]; exact Eq.trans (sh_nw_k (Nat.lt_add_right 3 ha)) y23
  refine qi_putr rfl y24 (fun s8 hs8 => ?_)
  have y25 : (s8 (a)).2.2 8 = some (n + 3) := by rw [hs8]; exact sh_sr_rat
  refine qi_ald rfl rfl ?_
  refine qi_ic rfl ?_
  refine qi_newa (m := n + 5) (N := 144) (bc' := 0) (bs' := 0) rfl hz22 (by decide) (by decide) rfl rfl (by omega) rfl rfl (fun s9 hs9 => ?_)
  have y26 : (s9 (n + 4)).1 = 16 := by rw [hs9]; exact sh_nw_at
  have y27 : (s9 (n + 4)).2.1 = 144 := by rw [hs9]; exact sh_nw_la
  have hz28 : dw_Z (n + 5) I1 J := dw_Z.up hz22 (by omega)
  have y29 : (s8 (a)).1 = 0 := by rw [hs8]; exact Eq.trans sh_sr_k y24
  have y30 : (s9 (a)).1 = 0 := by rw [hs9]; exact Eq.trans (sh_nw_k (Nat.lt_add_right 4 ha)) y29
  refine qi_putr rfl y30 (fun s10 hs10 => ?_)
  have y31 : (s10 (a)).2.2 9 = some (n + 4) := by rw [hs10]; exact sh_sr_rat
  refine qi_vret rfl ?_
  have es : s10 = f_X0_init n sh a := by
    rw [hs10, hs9, hs8, hs7, hs6, hs5, hs4, hs3, hs2, hs1]
    rfl
  have eI : I1 = g_X0_init n I a := by
    rw [hI1]
    rfl
  rw [es, eI]
  exact hK
theorem ea_X0_init {K : dw_K} {n m : Nat} {sh : dw_Sh} {I : Nat → Nat → Int32} {J : Nat → Nat → Int64} {a : Nat} (hz : dw_Z n I J) (hm : n + 5 = m) (hn : n + 5 ≤ 1000000) (ha : a < n) (hk : (sh a).1 = 0) (hK : ∀ sh' : dw_Sh, sh' = f_X0_init n sh a → ∀ I' : Nat → Nat → Int32, I' = g_X0_init n I a → K none (m, sh', I', J)) : t_X0_init [.ref a] (n, sh, I, J) K := e_X0_init hz hm hn ha hk (hK _ rfl _ rfl)
def f_X1_init (n : Nat) (sh : dw_Sh) (a : Nat) : dw_Sh := (sh_sr (sh_nm (n + 8) (sh_sr (sh_nw (n + 7) (sh_sr (sh_nw (n + 6) (sh_sr (f_X0_init (n + 1) (sh_nw (n) sh 0 10) (n)) (a) 0 (some (n))) 16 8) (a) 1 (some (n + 6))) 16 8) (a) 2 (some (n + 7))) 12 4) (a) 3 (some (n + 8)))
def g_X1_init (n : Nat) (I : Nat → Nat → Int32) (a : Nat) : Nat → Nat → Int32 := (g_X0_init (n + 1) I (n))
theorem f_X1_init_k {n a b : Nat} {sh : dw_Sh} (hb : b < n) : ((f_X1_init n sh a) b).1 = (sh b).1 := by
  unfold f_X1_init
  repeat (first | rw [sh_sr_k] | rw [sh_nw_k (by omega)] | rw [sh_nm_k (by omega)] | rw [f_X0_init_k (by omega)])
theorem f_X1_init_l {n a b : Nat} {sh : dw_Sh} (hb : b < n) : ((f_X1_init n sh a) b).2.1 = (sh b).2.1 := by
  unfold f_X1_init
  repeat (first | rw [sh_sr_l] | rw [sh_nw_l (by omega)] | rw [sh_nm_l (by omega)] | rw [f_X0_init_l (by omega)])
theorem f_X1_init_r {n a b j : Nat} {sh : dw_Sh} (hb : b < n) (hne : b ≠ a) : ((f_X1_init n sh a) b).2.2 j = (sh b).2.2 j := by
  unfold f_X1_init
  repeat (first | rfl | rw [sh_sr_ra hne] | rw [sh_sr_ra (by omega)] | rw [sh_nw_r (by omega)] | rw [sh_nm_r (by omega)] | rw [f_X0_init_r (by omega) (by omega)])
theorem z_X1_init {n m a : Nat} {I : Nat → Nat → Int32} {J : Nat → Nat → Int64} (hz : dw_Z n I J) (hm : n + 21 = m) (ha : a < n) : dw_Z m (g_X1_init n I a) (J) := by
  subst hm
  exact (dw_Z.up (m := n + 21) (dw_Z.up (m := n + 8) (dw_Z.up (m := n + 7) (z_X0_init (n := n + 1) (m := n + 6) (a := n) (dw_Z.up (m := n + 1) hz (by omega)) rfl (Nat.add_lt_add_left (k := n) (Nat.le_of_ble_eq_true rfl : 0 < 1))) (by omega)) (by omega)) (by omega))
set_option maxHeartbeats 4000000 in
set_option maxRecDepth 20000 in
theorem e_X1_init {K : dw_K} {n m : Nat} {sh : dw_Sh} {I : Nat → Nat → Int32} {J : Nat → Nat → Int64} {a : Nat} (hz : dw_Z n I J) (hm : n + 21 = m) (hn : n + 21 ≤ 1000000) (ha : a < n) (hk : (sh a).1 = 1) (hK : K none (m, f_X1_init n sh a, g_X1_init n I a, J)) : t_X1_init [.ref a] (n, sh, I, J) K := by
  subst hm
  refine dw_enter rfl ?_
  show dw_ok (pr_X1_init K) 0 21 398 [some (.ref (a))] [] (n, sh, I, J)
  refine qi_ald rfl rfl ?_
  refine qi_oinit rfl rfl ?_
  refine qi_ald rfl rfl ?_
  refine qi_new (m := n + 1) (bc' := 20) (bs' := 388) rfl hz rfl rfl (by omega) rfl (fun s1 hs1 => ?_)
  have y1 : (s1 (n)).1 = 0 := by rw [hs1]; exact sh_nw_at
  have hz2 : dw_Z (n + 1) I J := dw_Z.up hz (by omega)
  refine qi_dup rfl ?_
  refine qi_call (bc' := 15) (bs' := 76) rfl y1 rfl rfl rfl ?_
  refine ea_X0_init (n := n + 1) (m := n + 6) (a := n) hz2 rfl (by omega) (Nat.add_lt_add_left (k := n) (Nat.le_of_ble_eq_true rfl : 0 < 1)) y1 (fun s2 hs2 I3 hI3 => ?_)
  show dw_ok (pr_X1_init K) 12 15 76 [some (.ref (a))] [.ref (n), .ref (a)] (n + 6, s2, I3, J)
  have hz4 : dw_Z (n + 6) I3 J := by rw [hI3]; exact z_X0_init (n := n + 1) (m := n + 6) (a := n) hz2 rfl (Nat.add_lt_add_left (k := n) (Nat.le_of_ble_eq_true rfl : 0 < 1))
  have y5 : (s1 (a)).1 = 1 := by rw [hs1]; exact Eq.trans (sh_nw_k ha) hk
  have y6 : (s2 (a)).1 = 1 := by rw [hs2]; exact Eq.trans (f_X0_init_k (Nat.lt_add_right 1 ha)) y5
  refine qi_putr rfl y6 (fun s3 hs3 => ?_)
  have y7 : (s3 (a)).2.2 0 = some (n) := by rw [hs3]; exact sh_sr_rat
  refine qi_ald rfl rfl ?_
  refine qi_ic rfl ?_
  refine qi_newa (m := n + 7) (N := 8) (bc' := 14) (bs' := 68) rfl hz4 (by decide) (by decide) rfl rfl (by omega) rfl rfl (fun s4 hs4 => ?_)
  have y8 : (s4 (n + 6)).1 = 16 := by rw [hs4]; exact sh_nw_at
  have y9 : (s4 (n + 6)).2.1 = 8 := by rw [hs4]; exact sh_nw_la
  have hz10 : dw_Z (n + 7) I3 J := dw_Z.up hz4 (by omega)
  have y11 : (s3 (a)).1 = 1 := by rw [hs3]; exact Eq.trans sh_sr_k y6
  have y12 : (s4 (a)).1 = 1 := by rw [hs4]; exact Eq.trans (sh_nw_k (Nat.lt_add_right 6 ha)) y11
  refine qi_putr rfl y12 (fun s5 hs5 => ?_)
  have y13 : (s5 (a)).2.2 1 = some (n + 6) := by rw [hs5]; exact sh_sr_rat
  refine qi_ald rfl rfl ?_
  refine qi_ic rfl ?_
  refine qi_newa (m := n + 8) (N := 8) (bc' := 13) (bs' := 60) rfl hz10 (by decide) (by decide) rfl rfl (by omega) rfl rfl (fun s6 hs6 => ?_)
  have y14 : (s6 (n + 7)).1 = 16 := by rw [hs6]; exact sh_nw_at
  have y15 : (s6 (n + 7)).2.1 = 8 := by rw [hs6]; exact sh_nw_la
  have hz16 : dw_Z (n + 8) I3 J := dw_Z.up hz10 (by omega)
  have y17 : (s5 (a)).1 = 1 := by rw [hs5]; exact Eq.trans sh_sr_k y12
  have y18 : (s6 (a)).1 = 1 := by rw [hs6]; exact Eq.trans (sh_nw_k (Nat.lt_add_right 7 ha)) y17
  refine qi_putr rfl y18 (fun s7 hs7 => ?_)
  have y19 : (s7 (a)).2.2 2 = some (n + 7) := by rw [hs7]; exact sh_sr_rat
  refine qi_ald rfl rfl ?_
  refine qi_ic rfl ?_
  refine qi_ic rfl ?_
  refine qi_mna (m := n + 21) (N := 12) (Kk := 4) (bc' := 0) (bs' := 0) rfl hz16 (by decide) (by decide) (by decide) (by decide) rfl rfl (by omega) rfl rfl rfl (fun s8 hs8 => ?_)
  have hz20 : dw_Z (n + 21) I3 J := dw_Z.up hz16 (by omega)
  have y21 : (s7 (a)).1 = 1 := by rw [hs7]; exact Eq.trans sh_sr_k y18
  have y22 : (s8 (a)).1 = 1 := by rw [hs8]; exact Eq.trans (sh_nm_k (Nat.lt_add_right 8 ha)) y21
  refine qi_putr rfl y22 (fun s9 hs9 => ?_)
  have y23 : (s9 (a)).2.2 3 = some (n + 8) := by rw [hs9]; exact sh_sr_rat
  refine qi_vret rfl ?_
  have es : s9 = f_X1_init n sh a := by
    rw [hs9, hs8, hs7, hs6, hs5, hs4, hs3, hs2, hs1]
    rfl
  have eI : I3 = g_X1_init n I a := by
    rw [hI3]
    rfl
  rw [es, eI]
  exact hK
theorem ea_X1_init {K : dw_K} {n m : Nat} {sh : dw_Sh} {I : Nat → Nat → Int32} {J : Nat → Nat → Int64} {a : Nat} (hz : dw_Z n I J) (hm : n + 21 = m) (hn : n + 21 ≤ 1000000) (ha : a < n) (hk : (sh a).1 = 1) (hK : ∀ sh' : dw_Sh, sh' = f_X1_init n sh a → ∀ I' : Nat → Nat → Int32, I' = g_X1_init n I a → K none (m, sh', I', J)) : t_X1_init [.ref a] (n, sh, I, J) K := e_X1_init hz hm hn ha hk (hK _ rfl _ rfl)
def f_X2_init (n : Nat) (sh : dw_Sh) (a : Nat) : dw_Sh := (sh_sr (sh_nm (n) sh 5 144) (a) 1 (some (n)))
theorem f_X2_init_k {n a b : Nat} {sh : dw_Sh} (hb : b < n) : ((f_X2_init n sh a) b).1 = (sh b).1 := by
  unfold f_X2_init
  repeat (first | rw [sh_sr_k] | rw [sh_nw_k (by omega)] | rw [sh_nm_k (by omega)] | rw [f_X0_init_k (by omega)] | rw [f_X1_init_k (by omega)])
theorem f_X2_init_l {n a b : Nat} {sh : dw_Sh} (hb : b < n) : ((f_X2_init n sh a) b).2.1 = (sh b).2.1 := by
  unfold f_X2_init
  repeat (first | rw [sh_sr_l] | rw [sh_nw_l (by omega)] | rw [sh_nm_l (by omega)] | rw [f_X0_init_l (by omega)] | rw [f_X1_init_l (by omega)])
theorem f_X2_init_r {n a b j : Nat} {sh : dw_Sh} (hb : b < n) (hne : b ≠ a) : ((f_X2_init n sh a) b).2.2 j = (sh b).2.2 j := by
  unfold f_X2_init
  repeat (first | rfl | rw [sh_sr_ra hne] | rw [sh_sr_ra (by omega)] | rw [sh_nw_r (by omega)] | rw [sh_nm_r (by omega)] | rw [f_X0_init_r (by omega) (by omega)] | rw [f_X1_init_r (by omega) (by omega)])
theorem z_X2_init {n m a : Nat} {I : Nat → Nat → Int32} {J : Nat → Nat → Int64} (hz : dw_Z n I J) (hm : n + 6 = m) (ha : a < n) : dw_Z m (I) (J) := by
  subst hm
  exact (dw_Z.up (m := n + 6) hz (by omega))
set_option maxHeartbeats 4000000 in
set_option maxRecDepth 20000 in
theorem e_X2_init {K : dw_K} {n m : Nat} {sh : dw_Sh} {I : Nat → Nat → Int32} {J : Nat → Nat → Int64} {a : Nat} (hz : dw_Z n I J) (hm : n + 6 = m) (hn : n + 6 ≤ 1000000) (ha : a < n) (hk : (sh a).1 = 2) (hK : K none (m, f_X2_init n sh a, I, J)) : t_X2_init [.ref a] (n, sh, I, J) K := by
  subst hm
  refine dw_enter rfl ?_
  show dw_ok (pr_X2_init K) 0 6 725 [some (.ref (a))] [] (n, sh, I, J)
  refine qi_ald rfl rfl ?_
  refine qi_oinit rfl rfl ?_
  refine qi_ald rfl rfl ?_
  refine qi_ic rfl ?_
  refine qi_ic rfl ?_
  refine qi_mna (m := n + 6) (N := 5) (Kk := 144) (bc' := 0) (bs' := 0) rfl hz (by decide) (by decide) (by decide) (by decide) rfl rfl (by omega) rfl rfl rfl (fun s1 hs1 => ?_)
  have hz1 : dw_Z (n + 6) I J := dw_Z.up hz (by omega)
  have y2 : (s1 (a)).1 = 2 := by rw [hs1]; exact Eq.trans (sh_nm_k ha) hk
  refine qi_putr rfl y2 (fun s2 hs2 => ?_)
  have y3 : (s2 (a)).2.2 1 = some (n) := by rw [hs2]; exact sh_sr_rat
  refine qi_vret rfl ?_
  have es : s2 = f_X2_init n sh a := by
    rw [hs2, hs1]
    rfl
  rw [es]
  exact hK
theorem ea_X2_init {K : dw_K} {n m : Nat} {sh : dw_Sh} {I : Nat → Nat → Int32} {J : Nat → Nat → Int64} {a : Nat} (hz : dw_Z n I J) (hm : n + 6 = m) (hn : n + 6 ≤ 1000000) (ha : a < n) (hk : (sh a).1 = 2) (hK : ∀ sh' : dw_Sh, sh' = f_X2_init n sh a → K none (m, sh', I, J)) : t_X2_init [.ref a] (n, sh, I, J) K := e_X2_init hz hm hn ha hk (hK _ rfl)
def f_X3_init (n : Nat) (sh : dw_Sh) (a : Nat) : dw_Sh := (sh_sr (f_X2_init (n + 1) (sh_nw (n) sh 2 2) (n)) (a) 0 (some (n)))
theorem f_X3_init_k {n a b : Nat} {sh : dw_Sh} (hb : b < n) : ((f_X3_init n sh a) b).1 = (sh b).1 := by
  unfold f_X3_init
  repeat (first | rw [sh_sr_k] | rw [sh_nw_k (by omega)] | rw [sh_nm_k (by omega)] | rw [f_X0_init_k (by omega)] | rw [f_X1_init_k (by omega)] | rw [f_X2_init_k (by omega)])
theorem f_X3_init_l {n a b : Nat} {sh : dw_Sh} (hb : b < n) : ((f_X3_init n sh a) b).2.1 = (sh b).2.1 := by
  unfold f_X3_init
  repeat (first | rw [sh_sr_l] | rw [sh_nw_l (by omega)] | rw [sh_nm_l (by omega)] | rw [f_X0_init_l (by omega)] | rw [f_X1_init_l (by omega)] | rw [f_X2_init_l (by omega)])
theorem f_X3_init_r {n a b j : Nat} {sh : dw_Sh} (hb : b < n) (hne : b ≠ a) : ((f_X3_init n sh a) b).2.2 j = (sh b).2.2 j := by
  unfold f_X3_init
  repeat (first | rfl | rw [sh_sr_ra hne] | rw [sh_sr_ra (by omega)] | rw [sh_nw_r (by omega)] | rw [sh_nm_r (by omega)] | rw [f_X0_init_r (by omega) (by omega)] | rw [f_X1_init_r (by omega) (by omega)] | rw [f_X2_init_r (by omega) (by omega)])
theorem z_X3_init {n m a : Nat} {I : Nat → Nat → Int32} {J : Nat → Nat → Int64} (hz : dw_Z n I J) (hm : n + 7 = m) (ha : a < n) : dw_Z m (I) (J) := by
  subst hm
  exact (z_X2_init (n := n + 1) (m := n + 7) (a := n) (dw_Z.up (m := n + 1) hz (by omega)) rfl (Nat.add_lt_add_left (k := n) (Nat.le_of_ble_eq_true rfl : 0 < 1)))
set_option maxHeartbeats 4000000 in
set_option maxRecDepth 20000 in
theorem e_X3_init {K : dw_K} {n m : Nat} {sh : dw_Sh} {I : Nat → Nat → Int32} {J : Nat → Nat → Int64} {a : Nat} (hz : dw_Z n I J) (hm : n + 7 = m) (hn : n + 7 ≤ 1000000) (ha : a < n) (hk : (sh a).1 = 3) (hK : K none (m, f_X3_init n sh a, I, J)) : t_X3_init [.ref a] (n, sh, I, J) K := by
  subst hm
  refine dw_enter rfl ?_
  show dw_ok (pr_X3_init K) 0 7 727 [some (.ref (a))] [] (n, sh, I, J)
  refine qi_ald rfl rfl ?_
  refine qi_oinit rfl rfl ?_
  refine qi_ald rfl rfl ?_
  refine qi_new (m := n + 1) (bc' := 6) (bs' := 725) rfl hz rfl rfl (by omega) rfl (fun s1 hs1 => ?_)
  have y1 : (s1 (n)).1 = 2 := by rw [hs1]; exact sh_nw_at
  have hz2 : dw_Z (n + 1) I J := dw_Z.up hz (by omega)
  refine qi_dup rfl ?_
  refine qi_call (bc' := 0) (bs' := 0) rfl y1 rfl rfl rfl ?_
  refine ea_X2_init (n := n + 1) (m := n + 7) (a := n) hz2 rfl (by omega) (Nat.add_lt_add_left (k := n) (Nat.le_of_ble_eq_true rfl : 0 < 1)) y1 (fun s2 hs2 => ?_)
  show dw_ok (pr_X3_init K) 12 0 0 [some (.ref (a))] [.ref (n), .ref (a)] (n + 7, s2, I, J)
  have hz3 : dw_Z (n + 7) I J := z_X2_init (n := n + 1) (m := n + 7) (a := n) hz2 rfl (Nat.add_lt_add_left (k := n) (Nat.le_of_ble_eq_true rfl : 0 < 1))
  have y4 : (s1 (a)).1 = 3 := by rw [hs1]; exact Eq.trans (sh_nw_k ha) hk
  have y5 : (s2 (a)).1 = 3 := by rw [hs2]; exact Eq.trans (f_X2_init_k (Nat.lt_add_right 1 ha)) y4
  refine qi_putr rfl y5 (fun s3 hs3 => ?_)
  have y6 : (s3 (a)).2.2 0 = some (n) := by rw [hs3]; exact sh_sr_rat
  refine qi_vret rfl ?_
  have es : s3 = f_X3_init n sh a := by
    rw [hs3, hs2, hs1]
    rfl
  rw [es]
  exact hK
theorem ea_X3_init {K : dw_K} {n m : Nat} {sh : dw_Sh} {I : Nat → Nat → Int32} {J : Nat → Nat → Int64} {a : Nat} (hz : dw_Z n I J) (hm : n + 7 = m) (hn : n + 7 ≤ 1000000) (ha : a < n) (hk : (sh a).1 = 3) (hK : ∀ sh' : dw_Sh, sh' = f_X3_init n sh a → K none (m, sh', I, J)) : t_X3_init [.ref a] (n, sh, I, J) K := e_X3_init hz hm hn ha hk (hK _ rfl)
def f_X4_init (n : Nat) (sh : dw_Sh) (a : Nat) : dw_Sh := (sh_sr (sh_nw (n) sh 16 144) (a) 0 (some (n)))
theorem f_X4_init_k {n a b : Nat} {sh : dw_Sh} (hb : b < n) : ((f_X4_init n sh a) b).1 = (sh b).1 := by
  unfold f_X4_init
  repeat (first | rw [sh_sr_k] | rw [sh_nw_k (by omega)] | rw [sh_nm_k (by omega)] | rw [f_X0_init_k (by omega)] | rw [f_X1_init_k (by omega)] | rw [f_X2_init_k (by omega)] | rw [f_X3_init_k (by omega)])
theorem f_X4_init_l {n a b : Nat} {sh : dw_Sh} (hb : b < n) : ((f_X4_init n sh a) b).2.1 = (sh b).2.1 := by
  unfold f_X4_init
  repeat (first | rw [sh_sr_l] | rw [sh_nw_l (by omega)] | rw [sh_nm_l (by omega)] | rw [f_X0_init_l (by omega)] | rw [f_X1_init_l (by omega)] | rw [f_X2_init_l (by omega)] | rw [f_X3_init_l (by omega)])
theorem f_X4_init_r {n a b j : Nat} {sh : dw_Sh} (hb : b < n) (hne : b ≠ a) : ((f_X4_init n sh a) b).2.2 j = (sh b).2.2 j := by
  unfold f_X4_init
  repeat (first | rfl | rw [sh_sr_ra hne] | rw [sh_sr_ra (by omega)] | rw [sh_nw_r (by omega)] | rw [sh_nm_r (by omega)] | rw [f_X0_init_r (by omega) (by omega)] | rw [f_X1_init_r (by omega) (by omega)] | rw [f_X2_init_r (by omega) (by omega)] | rw [f_X3_init_r (by omega) (by omega)])
theorem z_X4_init {n m a : Nat} {I : Nat → Nat → Int32} {J : Nat → Nat → Int64} (hz : dw_Z n I J) (hm : n + 1 = m) (ha : a < n) : dw_Z m (I) (J) := by
  subst hm
  exact (dw_Z.up (m := n + 1) hz (by omega))
set_option maxHeartbeats 4000000 in
set_option maxRecDepth 20000 in
theorem e_X4_init {K : dw_K} {n m : Nat} {sh : dw_Sh} {I : Nat → Nat → Int32} {J : Nat → Nat → Int64} {a : Nat} (hz : dw_Z n I J) (hm : n + 1 = m) (hn : n + 1 ≤ 1000000) (ha : a < n) (hk : (sh a).1 = 4) (hK : K none (m, f_X4_init n sh a, I, J)) : t_X4_init [.ref a] (n, sh, I, J) K := by
  subst hm
  refine dw_enter rfl ?_
  show dw_ok (pr_X4_init K) 0 1 144 [some (.ref (a))] [] (n, sh, I, J)
  refine qi_ald rfl rfl ?_
  refine qi_oinit rfl rfl ?_
  refine qi_ald rfl rfl ?_
  refine qi_ic rfl ?_
  refine qi_newa (m := n + 1) (N := 144) (bc' := 0) (bs' := 0) rfl hz (by decide) (by decide) rfl rfl (by omega) rfl rfl (fun s1 hs1 => ?_)
  have y1 : (s1 (n)).1 = 16 := by rw [hs1]; exact sh_nw_at
  have y2 : (s1 (n)).2.1 = 144 := by rw [hs1]; exact sh_nw_la
  have hz3 : dw_Z (n + 1) I J := dw_Z.up hz (by omega)
  have y4 : (s1 (a)).1 = 4 := by rw [hs1]; exact Eq.trans (sh_nw_k ha) hk
  refine qi_putr rfl y4 (fun s2 hs2 => ?_)
  have y5 : (s2 (a)).2.2 0 = some (n) := by rw [hs2]; exact sh_sr_rat
  refine qi_vret rfl ?_
  have es : s2 = f_X4_init n sh a := by
    rw [hs2, hs1]
    rfl
  rw [es]
  exact hK
theorem ea_X4_init {K : dw_K} {n m : Nat} {sh : dw_Sh} {I : Nat → Nat → Int32} {J : Nat → Nat → Int64} {a : Nat} (hz : dw_Z n I J) (hm : n + 1 = m) (hn : n + 1 ≤ 1000000) (ha : a < n) (hk : (sh a).1 = 4) (hK : ∀ sh' : dw_Sh, sh' = f_X4_init n sh a → K none (m, sh', I, J)) : t_X4_init [.ref a] (n, sh, I, J) K := e_X4_init hz hm hn ha hk (hK _ rfl)
def f_X5_init (n : Nat) (sh : dw_Sh) (a : Nat) : dw_Sh := (sh_sr (sh_nm (n) sh 30 3) (a) 1 (some (n)))
theorem f_X5_init_k {n a b : Nat} {sh : dw_Sh} (hb : b < n) : ((f_X5_init n sh a) b).1 = (sh b).1 := by
  unfold f_X5_init
  repeat (first | rw [sh_sr_k] | rw [sh_nw_k (by omega)] | rw [sh_nm_k (by omega)] | rw [f_X0_init_k (by omega)] | rw [f_X1_init_k (by omega)] | rw [f_X2_init_k (by omega)] | rw [f_X3_init_k (by omega)] | rw [f_X4_init_k (by omega)])
theorem f_X5_init_l {n a b : Nat} {sh : dw_Sh} (hb : b < n) : ((f_X5_init n sh a) b).2.1 = (sh b).2.1 := by
  unfold f_X5_init
  repeat (first | rw [sh_sr_l] | rw [sh_nw_l (by omega)] | rw [sh_nm_l (by omega)] | rw [f_X0_init_l (by omega)] | rw [f_X1_init_l (by omega)] | rw [f_X2_init_l (by omega)] | rw [f_X3_init_l (by omega)] | rw [f_X4_init_l (by omega)])
theorem f_X5_init_r {n a b j : Nat} {sh : dw_Sh} (hb : b < n) (hne : b ≠ a) : ((f_X5_init n sh a) b).2.2 j = (sh b).2.2 j := by
  unfold f_X5_init
  repeat (first | rfl | rw [sh_sr_ra hne] | rw [sh_sr_ra (by omega)] | rw [sh_nw_r (by omega)] | rw [sh_nm_r (by omega)] | rw [f_X0_init_r (by omega) (by omega)] | rw [f_X1_init_r (by omega) (by omega)] | rw [f_X2_init_r (by omega) (by omega)] | rw [f_X3_init_r (by omega) (by omega)] | rw [f_X4_init_r (by omega) (by omega)])
theorem z_X5_init {n m a : Nat} {I : Nat → Nat → Int32} {J : Nat → Nat → Int64} (hz : dw_Z n I J) (hm : n + 31 = m) (ha : a < n) : dw_Z m (I) (J) := by
  subst hm
  exact (dw_Z.up (m := n + 31) hz (by omega))
set_option maxHeartbeats 4000000 in
set_option maxRecDepth 20000 in
theorem e_X5_init {K : dw_K} {n m : Nat} {sh : dw_Sh} {I : Nat → Nat → Int32} {J : Nat → Nat → Int64} {a : Nat} (hz : dw_Z n I J) (hm : n + 31 = m) (hn : n + 31 ≤ 1000000) (ha : a < n) (hk : (sh a).1 = 5) (hK : K none (m, f_X5_init n sh a, I, J)) : t_X5_init [.ref a] (n, sh, I, J) K := by
  subst hm
  refine dw_enter rfl ?_
  show dw_ok (pr_X5_init K) 0 31 120 [some (.ref (a))] [] (n, sh, I, J)
  refine qi_ald rfl rfl ?_
  refine qi_oinit rfl rfl ?_
  refine qi_ald rfl rfl ?_
  refine qi_ic rfl ?_
  refine qi_ic rfl ?_
  refine qi_mna (m := n + 31) (N := 30) (Kk := 3) (bc' := 0) (bs' := 0) rfl hz (by decide) (by decide) (by decide) (by decide) rfl rfl (by omega) rfl rfl rfl (fun s1 hs1 => ?_)
  have hz1 : dw_Z (n + 31) I J := dw_Z.up hz (by omega)
  have y2 : (s1 (a)).1 = 5 := by rw [hs1]; exact Eq.trans (sh_nm_k ha) hk
  refine qi_putr rfl y2 (fun s2 hs2 => ?_)
  have y3 : (s2 (a)).2.2 1 = some (n) := by rw [hs2]; exact sh_sr_rat
  refine qi_vret rfl ?_
  have es : s2 = f_X5_init n sh a := by
    rw [hs2, hs1]
    rfl
  rw [es]
  exact hK
theorem ea_X5_init {K : dw_K} {n m : Nat} {sh : dw_Sh} {I : Nat → Nat → Int32} {J : Nat → Nat → Int64} {a : Nat} (hz : dw_Z n I J) (hm : n + 31 = m) (hn : n + 31 ≤ 1000000) (ha : a < n) (hk : (sh a).1 = 5) (hK : ∀ sh' : dw_Sh, sh' = f_X5_init n sh a → K none (m, sh', I, J)) : t_X5_init [.ref a] (n, sh, I, J) K := e_X5_init hz hm hn ha hk (hK _ rfl)
def f_X6_init (n : Nat) (sh : dw_Sh) (a : Nat) : dw_Sh := (sh_sr (f_X5_init (n + 1) (sh_nw (n) sh 5 2) (n)) (a) 0 (some (n)))
theorem f_X6_init_k {n a b : Nat} {sh : dw_Sh} (hb : b < n) : ((f_X6_init n sh a) b).1 = (sh b).1 := by
  unfold f_X6_init
  repeat (first | rw [sh_sr_k] | rw [sh_nw_k (by omega)] | rw [sh_nm_k (by omega)] | rw [f_X0_init_k (by omega)] | rw [f_X1_init_k (by omega)] | rw [f_X2_init_k (by omega)] | rw [f_X3_init_k (by omega)] | rw [f_X4_init_k (by omega)] | rw [f_X5_init_k (by omega)])
theorem f_X6_init_l {n a b : Nat} {sh : dw_Sh} (hb : b < n) : ((f_X6_init n sh a) b).2.1 = (sh b).2.1 := by
  unfold f_X6_init
  repeat (first | rw [sh_sr_l] | rw [sh_nw_l (by omega)] | rw [sh_nm_l (by omega)] | rw [f_X0_init_l (by omega)] | rw [f_X1_init_l (by omega)] | rw [f_X2_init_l (by omega)] | rw [f_X3_init_l (by omega)] | rw [f_X4_init_l (by omega)] | rw [f_X5_init_l (by omega)])
theorem f_X6_init_r {n a b j : Nat} {sh : dw_Sh} (hb : b < n) (hne : b ≠ a) : ((f_X6_init n sh a) b).2.2 j = (sh b).2.2 j := by
  unfold f_X6_init
  repeat (first | rfl | rw [sh_sr_ra hne] | rw [sh_sr_ra (by omega)] | rw [sh_nw_r (by omega)] | rw [sh_nm_r (by omega)] | rw [f_X0_init_r (by omega) (by omega)] | rw [f_X1_init_r (by omega) (by omega)] | rw [f_X2_init_r (by omega) (by omega)] | rw [f_X3_init_r (by omega) (by omega)] | rw [f_X4_init_r (by omega) (by omega)] | rw [f_X5_init_r (by omega) (by omega)])
theorem z_X6_init {n m a : Nat} {I : Nat → Nat → Int32} {J : Nat → Nat → Int64} (hz : dw_Z n I J) (hm : n + 32 = m) (ha : a < n) : dw_Z m (I) (J) := by
  subst hm
  exact (z_X5_init (n := n + 1) (m := n + 32) (a := n) (dw_Z.up (m := n + 1) hz (by omega)) rfl (Nat.add_lt_add_left (k := n) (Nat.le_of_ble_eq_true rfl : 0 < 1)))
set_option maxHeartbeats 4000000 in
set_option maxRecDepth 20000 in
theorem e_X6_init {K : dw_K} {n m : Nat} {sh : dw_Sh} {I : Nat → Nat → Int32} {J : Nat → Nat → Int64} {a : Nat} (hz : dw_Z n I J) (hm : n + 32 = m) (hn : n + 32 ≤ 1000000) (ha : a < n) (hk : (sh a).1 = 6) (hK : K none (m, f_X6_init n sh a, I, J)) : t_X6_init [.ref a] (n, sh, I, J) K := by
  subst hm
  refine dw_enter rfl ?_
  show dw_ok (pr_X6_init K) 0 32 122 [some (.ref (a))] [] (n, sh, I, J)
  refine qi_ald rfl rfl ?_
  refine qi_oinit rfl rfl ?_
  refine qi_ald rfl rfl ?_
  refine qi_new (m := n + 1) (bc' := 31) (bs' := 120) rfl hz rfl rfl (by omega) rfl (fun s1 hs1 => ?_)
  have y1 : (s1 (n)).1 = 5 := by rw [hs1]; exact sh_nw_at
  have hz2 : dw_Z (n + 1) I J := dw_Z.up hz (by omega)
  refine qi_dup rfl ?_
  refine qi_call (bc' := 0) (bs' := 0) rfl y1 rfl rfl rfl ?_
  refine ea_X5_init (n := n + 1) (m := n + 32) (a := n) hz2 rfl (by omega) (Nat.add_lt_add_left (k := n) (Nat.le_of_ble_eq_true rfl : 0 < 1)) y1 (fun s2 hs2 => ?_)
  show dw_ok (pr_X6_init K) 12 0 0 [some (.ref (a))] [.ref (n), .ref (a)] (n + 32, s2, I, J)
  have hz3 : dw_Z (n + 32) I J := z_X5_init (n := n + 1) (m := n + 32) (a := n) hz2 rfl (Nat.add_lt_add_left (k := n) (Nat.le_of_ble_eq_true rfl : 0 < 1))
  have y4 : (s1 (a)).1 = 6 := by rw [hs1]; exact Eq.trans (sh_nw_k ha) hk
  have y5 : (s2 (a)).1 = 6 := by rw [hs2]; exact Eq.trans (f_X5_init_k (Nat.lt_add_right 1 ha)) y4
  refine qi_putr rfl y5 (fun s3 hs3 => ?_)
  have y6 : (s3 (a)).2.2 0 = some (n) := by rw [hs3]; exact sh_sr_rat
  refine qi_vret rfl ?_
  have es : s3 = f_X6_init n sh a := by
    rw [hs3, hs2, hs1]
    rfl
  rw [es]
  exact hK
theorem ea_X6_init {K : dw_K} {n m : Nat} {sh : dw_Sh} {I : Nat → Nat → Int32} {J : Nat → Nat → Int64} {a : Nat} (hz : dw_Z n I J) (hm : n + 32 = m) (hn : n + 32 ≤ 1000000) (ha : a < n) (hk : (sh a).1 = 6) (hK : ∀ sh' : dw_Sh, sh' = f_X6_init n sh a → K none (m, sh', I, J)) : t_X6_init [.ref a] (n, sh, I, J) K := e_X6_init hz hm hn ha hk (hK _ rfl)
def f_X7_init (n : Nat) (sh : dw_Sh) (a : Nat) : dw_Sh := (sh_sr (sh_nw (n + 13) (sh_sr (sh_nw (n + 12) (sh_sr (sh_nw (n + 11) (sh_sr (sh_nw (n + 10) (sh_sr (sh_nw (n + 9) (sh_sr (sh_nw (n + 8) (sh_sr (sh_nw (n + 7) (sh_sr (f_X2_init (n + 1) (sh_nw (n) sh 2 2) (n)) (a) 7 (some (n))) 16 144) (a) 8 (some (n + 7))) 16 144) (a) 9 (some (n + 8))) 16 144) (a) 10 (some (n + 9))) 16 144) (a) 11 (some (n + 10))) 16 144) (a) 12 (some (n + 11))) 16 144) (a) 13 (some (n + 12))) 16 144) (a) 14 (some (n + 13)))
theorem f_X7_init_k {n a b : Nat} {sh : dw_Sh} (hb : b < n) : ((f_X7_init n sh a) b).1 = (sh b).1 := by
  unfold f_X7_init
  repeat (first | rw [sh_sr_k] | rw [sh_nw_k (by omega)] | rw [sh_nm_k (by omega)] | rw [f_X0_init_k (by omega)] | rw [f_X1_init_k (by omega)] | rw [f_X2_init_k (by omega)] | rw [f_X3_init_k (by omega)] | rw [f_X4_init_k (by omega)] | rw [f_X5_init_k (by omega)] | rw [f_X6_init_k (by omega)])
theorem f_X7_init_l {n a b : Nat} {sh : dw_Sh} (hb : b < n) : ((f_X7_init n sh a) b).2.1 = (sh b).2.1 := by
  unfold f_X7_init
  repeat (first | rw [sh_sr_l] | rw [sh_nw_l (by omega)] | rw [sh_nm_l (by omega)] | rw [f_X0_init_l (by omega)] | rw [f_X1_init_l (by omega)] | rw [f_X2_init_l (by omega)] | rw [f_X3_init_l (by omega)] | rw [f_X4_init_l (by omega)] | rw [f_X5_init_l (by omega)] | rw [f_X6_init_l (by omega)])
theorem f_X7_init_r {n a b j : Nat} {sh : dw_Sh} (hb : b < n) (hne : b ≠ a) : ((f_X7_init n sh a) b).2.2 j = (sh b).2.2 j := by
  unfold f_X7_init
  repeat (first | rfl | rw [sh_sr_ra hne] | rw [sh_sr_ra (by omega)] | rw [sh_nw_r (by omega)] | rw [sh_nm_r (by omega)] | rw [f_X0_init_r (by omega) (by omega)] | rw [f_X1_init_r (by omega) (by omega)] | rw [f_X2_init_r (by omega) (by omega)] | rw [f_X3_init_r (by omega) (by omega)] | rw [f_X4_init_r (by omega) (by omega)] | rw [f_X5_init_r (by omega) (by omega)] | rw [f_X6_init_r (by omega) (by omega)])
theorem z_X7_init {n m a : Nat} {I : Nat → Nat → Int32} {J : Nat → Nat → Int64} (hz : dw_Z n I J) (hm : n + 14 = m) (ha : a < n) : dw_Z m (I) (J) := by
  subst hm
  exact (dw_Z.up (m := n + 14) (dw_Z.up (m := n + 13) (dw_Z.up (m := n + 12) (dw_Z.up (m := n + 11) (dw_Z.up (m := n + 10) (dw_Z.up (m := n + 9) (dw_Z.up (m := n + 8) (z_X2_init (n := n + 1) (m := n + 7) (a := n) (dw_Z.up (m := n + 1) hz (by omega)) rfl (Nat.add_lt_add_left (k := n) (Nat.le_of_ble_eq_true rfl : 0 < 1))) (by omega)) (by omega)) (by omega)) (by omega)) (by omega)) (by omega)) (by omega))
set_option maxHeartbeats 4000000 in
set_option maxRecDepth 20000 in
theorem e_X7_init {K : dw_K} {n m : Nat} {sh : dw_Sh} {I : Nat → Nat → Int32} {J : Nat → Nat → Int64} {a : Nat} (hz : dw_Z n I J) (hm : n + 14 = m) (hn : n + 14 ≤ 1000000) (ha : a < n) (hk : (sh a).1 = 7) (hK : K none (m, f_X7_init n sh a, I, J)) : t_X7_init [.ref a] (n, sh, I, J) K := by
  subst hm
  refine dw_enter rfl ?_
  show dw_ok (pr_X7_init K) 0 14 1735 [some (.ref (a))] [] (n, sh, I, J)
  refine qi_ald rfl rfl ?_
  refine qi_oinit rfl rfl ?_
  refine qi_ald rfl rfl ?_
  refine qi_new (m := n + 1) (bc' := 13) (bs' := 1733) rfl hz rfl rfl (by omega) rfl (fun s1 hs1 => ?_)
  have y1 : (s1 (n)).1 = 2 := by rw [hs1]; exact sh_nw_at
  have hz2 : dw_Z (n + 1) I J := dw_Z.up hz (by omega)
  refine qi_dup rfl ?_
  refine qi_call (bc' := 7) (bs' := 1008) rfl y1 rfl rfl rfl ?_
  refine ea_X2_init (n := n + 1) (m := n + 7) (a := n) hz2 rfl (by omega) (Nat.add_lt_add_left (k := n) (Nat.le_of_ble_eq_true rfl : 0 < 1)) y1 (fun s2 hs2 => ?_)
  show dw_ok (pr_X7_init K) 12 7 1008 [some (.ref (a))] [.ref (n), .ref (a)] (n + 7, s2, I, J)
  have hz3 : dw_Z (n + 7) I J := z_X2_init (n := n + 1) (m := n + 7) (a := n) hz2 rfl (Nat.add_lt_add_left (k := n) (Nat.le_of_ble_eq_true rfl : 0 < 1))
  have y4 : (s1 (a)).1 = 7 := by rw [hs1]; exact Eq.trans (sh_nw_k ha) hk
  have y5 : (s2 (a)).1 = 7 := by rw [hs2]; exact Eq.trans (f_X2_init_k (Nat.lt_add_right 1 ha)) y4
  refine qi_putr rfl y5 (fun s3 hs3 => ?_)
  have y6 : (s3 (a)).2.2 7 = some (n) := by rw [hs3]; exact sh_sr_rat
  refine qi_ald rfl rfl ?_
  refine qi_ic rfl ?_
  refine qi_newa (m := n + 8) (N := 144) (bc' := 6) (bs' := 864) rfl hz3 (by decide) (by decide) rfl rfl (by omega) rfl rfl (fun s4 hs4 => ?_)
  have y7 : (s4 (n + 7)).1 = 16 := by rw [hs4]; exact sh_nw_at
  have y8 : (s4 (n + 7)).2.1 = 144 := by rw [hs4]; exact sh_nw_la
  have hz9 : dw_Z (n + 8) I J := dw_Z.up hz3 (by omega)
  have y10 : (s3 (a)).1 = 7 := by rw [hs3]; exact Eq.trans sh_sr_k y5
  have y11 : (s4 (a)).1 = 7 := by rw [hs4]; exact Eq.trans (sh_nw_k (Nat.lt_add_right 7 ha)) y10
  refine qi_putr rfl y11 (fun s5 hs5 => ?_)
  have y12 : (s5 (a)).2.2 8 = some (n + 7) := by rw [hs5]; exact sh_sr_rat
  refine qi_ald rfl rfl ?_
  refine qi_ic rfl ?_
  refine qi_newa (m := n + 9) (N := 144) (bc' := 5) (bs' := 720) rfl hz9 (by decide) (by decide) rfl rfl (by omega) rfl rfl (fun s6 hs6 => ?_)
  have y13 : (s6 (n + 8)).1 = 16 := by rw [hs6]; exact sh_nw_at
  have y14 : (s6 (n + 8)).2.1 = 144 := by rw [hs6]; exact sh_nw_la
  have hz15 : dw_Z (n + 9) I J := dw_Z.up hz9 (by omega)
  have y16 : (s5 (a)).1 = 7 := by rw [hs5]; exact Eq.trans sh_sr_k y11
  have y17 : (s6 (a)).1 = 7 := by rw [hs6]; exact Eq.trans (sh_nw_k (Nat.lt_add_right 8 ha)) y16
  refine qi_putr rfl y17 (fun s7 hs7 => ?_)
  have y18 : (s7 (a)).2.2 9 = some (n + 8) := by rw [hs7]; exact sh_sr_rat
  refine qi_ald rfl rfl ?_
  refine qi_ic rfl ?_
  refine qi_newa (m := n + 10) (N := 144) (bc' := 4) (bs' := 576) rfl hz15 (by decide) (by decide) rfl rfl (by omega) rfl rfl (fun s8 hs8 => ?_)
  have y19 : (s8 (n + 9)).1 = 16 := by rw [hs8]; exact sh_nw_at
  have y20 : (s8 (n + 9)).2.1 = 144 := by rw [hs8]; exact sh_nw_la
  have hz21 : dw_Z (n + 10) I J := dw_Z.up hz15 (by omega)
  have y22 : (s7 (a)).1 = 7 := by rw [hs7]; exact Eq.trans sh_sr_k y17
  have y23 : (s8 (a)).1 = 7 := by rw [hs8]; exact Eq.trans (sh_nw_k (Nat.lt_add_right 9 ha)) y22
  refine qi_putr rfl y23 (fun s9 hs9 => ?_)
  have y24 : (s9 (a)).2.2 10 = some (n + 9) := by rw [hs9]; exact sh_sr_rat
  refine qi_ald rfl rfl ?_
  refine qi_ic rfl ?_
  refine qi_newa (m := n + 11) (N := 144) (bc' := 3) (bs' := 432) rfl hz21 (by decide) (by decide) rfl rfl (by omega) rfl rfl (fun s10 hs10 => ?_)
  have y25 : (s10 (n + 10)).1 = 16 := by rw [hs10]; exact sh_nw_at
  have y26 : (s10 (n + 10)).2.1 = 144 := by rw [hs10]; exact sh_nw_la
  have hz27 : dw_Z (n + 11) I J := dw_Z.up hz21 (by omega)
  have y28 : (s9 (a)).1 = 7 := by rw [hs9]; exact Eq.trans sh_sr_k y23
  have y29 : (s10 (a)).1 = 7 := by rw [hs10]; exact Eq.trans (sh_nw_k (Nat.lt_add_right 10 ha)) y28
  refine qi_putr rfl y29 (fun s11 hs11 => ?_)
  have y30 : (s11 (a)).2.2 11 = some (n + 10) := by rw [hs11]; exact sh_sr_rat
  refine qi_ald rfl rfl ?_
  refine qi_ic rfl ?_
  refine qi_newa (m := n + 12) (N := 144) (bc' := 2) (bs' := 288) rfl hz27 (by decide) (by decide) rfl rfl (by omega) rfl rfl (fun s12 hs12 => ?_)
  have y31 : (s12 (n + 11)).1 = 16 := by rw [hs12]; exact sh_nw_at
  have y32 : (s12 (n + 11)).2.1 = 144 := by rw [hs12]; exact sh_nw_la
  have hz33 : dw_Z (n + 12) I J := dw_Z.up hz27 (by omega)
  have y34 : (s11 (a)).1 = 7 := by rw [hs11]; exact Eq.trans sh_sr_k y29
  have y35 : (s12 (a)).1 = 7 := by rw [hs12]; exact Eq.trans (sh_nw_k (Nat.lt_add_right 11 ha)) y34
  refine qi_putr rfl y35 (fun s13 hs13 => ?_)
  have y36 : (s13 (a)).2.2 12 = some (n + 11) := by rw [hs13]; exact sh_sr_rat
  refine qi_ald rfl rfl ?_
  refine qi_ic rfl ?_
  refine qi_newa (m := n + 13) (N := 144) (bc' := 1) (bs' := 144) rfl hz33 (by decide) (by decide) rfl rfl (by omega) rfl rfl (fun s14 hs14 => ?_)
  have y37 : (s14 (n + 12)).1 = 16 := by rw [hs14]; exact sh_nw_at
  have y38 : (s14 (n + 12)).2.1 = 144 := by rw [hs14]; exact sh_nw_la
  have hz39 : dw_Z (n + 13) I J := dw_Z.up hz33 (by omega)
  have y40 : (s13 (a)).1 = 7 := by rw [hs13]; exact Eq.trans sh_sr_k y35
  have y41 : (s14 (a)).1 = 7 := by rw [hs14]; exact Eq.trans (sh_nw_k (Nat.lt_add_right 12 ha)) y40
  refine qi_putr rfl y41 (fun s15 hs15 => ?_)
  have y42 : (s15 (a)).2.2 13 = some (n + 12) := by rw [hs15]; exact sh_sr_rat
  refine qi_ald rfl rfl ?_
  refine qi_ic rfl ?_
  refine qi_newa (m := n + 14) (N := 144) (bc' := 0) (bs' := 0) rfl hz39 (by decide) (by decide) rfl rfl (by omega) rfl rfl (fun s16 hs16 => ?_)
  have y43 : (s16 (n + 13)).1 = 16 := by rw [hs16]; exact sh_nw_at
  have y44 : (s16 (n + 13)).2.1 = 144 := by rw [hs16]; exact sh_nw_la
  have hz45 : dw_Z (n + 14) I J := dw_Z.up hz39 (by omega)
  have y46 : (s15 (a)).1 = 7 := by rw [hs15]; exact Eq.trans sh_sr_k y41
  have y47 : (s16 (a)).1 = 7 := by rw [hs16]; exact Eq.trans (sh_nw_k (Nat.lt_add_right 13 ha)) y46
  refine qi_putr rfl y47 (fun s17 hs17 => ?_)
  have y48 : (s17 (a)).2.2 14 = some (n + 13) := by rw [hs17]; exact sh_sr_rat
  refine qi_vret rfl ?_
  have es : s17 = f_X7_init n sh a := by
    rw [hs17, hs16, hs15, hs14, hs13, hs12, hs11, hs10, hs9, hs8, hs7, hs6, hs5, hs4, hs3, hs2, hs1]
    rfl
  rw [es]
  exact hK
theorem ea_X7_init {K : dw_K} {n m : Nat} {sh : dw_Sh} {I : Nat → Nat → Int32} {J : Nat → Nat → Int64} {a : Nat} (hz : dw_Z n I J) (hm : n + 14 = m) (hn : n + 14 ≤ 1000000) (ha : a < n) (hk : (sh a).1 = 7) (hK : ∀ sh' : dw_Sh, sh' = f_X7_init n sh a → K none (m, sh', I, J)) : t_X7_init [.ref a] (n, sh, I, J) K := e_X7_init hz hm hn ha hk (hK _ rfl)
def f_X8_init (n : Nat) (sh : dw_Sh) (a : Nat) : dw_Sh := (sh_sr (f_X2_init (n + 90) (sh_nw (n + 89) (sh_sr (f_X2_init (n + 83) (sh_nw (n + 82) (sh_sr (f_X2_init (n + 76) (sh_nw (n + 75) (sh_sr (f_X2_init (n + 69) (sh_nw (n + 68) (sh_sr (f_X2_init (n + 62) (sh_nw (n + 61) (sh_sr (f_X2_init (n + 55) (sh_nw (n + 54) (sh_sr (f_X7_init (n + 40) (sh_nw (n + 39) (sh_sr (f_X5_init (n + 8) (sh_nw (n + 7) (sh_sr (sh_nw (n + 6) (sh_sr (f_X0_init (n + 1) (sh_nw (n) sh 0 10) (n)) (a) 1 (some (n))) 22 6) (a) 2 (some (n + 6))) 5 2) (n + 7)) (a) 3 (some (n + 7))) 7 15) (n + 39)) (a) 4 (some (n + 39))) 2 2) (n + 54)) (n + 6) 0 (some (n + 54))) 2 2) (n + 61)) (n + 6) 1 (some (n + 61))) 2 2) (n + 68)) (n + 6) 2 (some (n + 68))) 2 2) (n + 75)) (n + 6) 3 (some (n + 75))) 2 2) (n + 82)) (n + 6) 4 (some (n + 82))) 2 2) (n + 89)) (n + 6) 5 (some (n + 89)))
def g_X8_init (n : Nat) (I : Nat → Nat → Int32) (a : Nat) : Nat → Nat → Int32 := (g_X0_init (n + 1) I (n))
theorem f_X8_init_k {n a b : Nat} {sh : dw_Sh} (hb : b < n) : ((f_X8_init n sh a) b).1 = (sh b).1 := by
  unfold f_X8_init
  repeat (first | rw [sh_sr_k] | rw [sh_nw_k (by omega)] | rw [sh_nm_k (by omega)] | rw [f_X0_init_k (by omega)] | rw [f_X1_init_k (by omega)] | rw [f_X2_init_k (by omega)] | rw [f_X3_init_k (by omega)] | rw [f_X4_init_k (by omega)] | rw [f_X5_init_k (by omega)] | rw [f_X6_init_k (by omega)] | rw [f_X7_init_k (by omega)])
theorem f_X8_init_l {n a b : Nat} {sh : dw_Sh} (hb : b < n) : ((f_X8_init n sh a) b).2.1 = (sh b).2.1 := by
  unfold f_X8_init
  repeat (first | rw [sh_sr_l] | rw [sh_nw_l (by omega)] | rw [sh_nm_l (by omega)] | rw [f_X0_init_l (by omega)] | rw [f_X1_init_l (by omega)] | rw [f_X2_init_l (by omega)] | rw [f_X3_init_l (by omega)] | rw [f_X4_init_l (by omega)] | rw [f_X5_init_l (by omega)] | rw [f_X6_init_l (by omega)] | rw [f_X7_init_l (by omega)])
theorem f_X8_init_r {n a b j : Nat} {sh : dw_Sh} (hb : b < n) (hne : b ≠ a) : ((f_X8_init n sh a) b).2.2 j = (sh b).2.2 j := by
  unfold f_X8_init
  repeat (first | rfl | rw [sh_sr_ra hne] | rw [sh_sr_ra (by omega)] | rw [sh_nw_r (by omega)] | rw [sh_nm_r (by omega)] | rw [f_X0_init_r (by omega) (by omega)] | rw [f_X1_init_r (by omega) (by omega)] | rw [f_X2_init_r (by omega) (by omega)] | rw [f_X3_init_r (by omega) (by omega)] | rw [f_X4_init_r (by omega) (by omega)] | rw [f_X5_init_r (by omega) (by omega)] | rw [f_X6_init_r (by omega) (by omega)] | rw [f_X7_init_r (by omega) (by omega)])
theorem z_X8_init {n m a : Nat} {I : Nat → Nat → Int32} {J : Nat → Nat → Int64} (hz : dw_Z n I J) (hm : n + 96 = m) (ha : a < n) : dw_Z m (g_X8_init n I a) (J) := by
  subst hm
  exact (z_X2_init (n := n + 90) (m := n + 96) (a := n + 89) (dw_Z.up (m := n + 90) (z_X2_init (n := n + 83) (m := n + 89) (a := n + 82) (dw_Z.up (m := n + 83) (z_X2_init (n := n + 76) (m := n + 82) (a := n + 75) (dw_Z.up (m := n + 76) (z_X2_init (n := n + 69) (m := n + 75) (a := n + 68) (dw_Z.up (m := n + 69) (z_X2_init (n := n + 62) (m := n + 68) (a := n + 61) (dw_Z.up (m := n + 62) (z_X2_init (n := n + 55) (m := n + 61) (a := n + 54) (dw_Z.up (m := n + 55) (z_X7_init (n := n + 40) (m := n + 54) (a := n + 39) (dw_Z.up (m := n + 40) (z_X5_init (n := n + 8) (m := n + 39) (a := n + 7) (dw_Z.up (m := n + 8) (dw_Z.up (m := n + 7) (z_X0_init (n := n + 1) (m := n + 6) (a := n) (dw_Z.up (m := n + 1) hz (by omega)) rfl (Nat.add_lt_add_left (k := n) (Nat.le_of_ble_eq_true rfl : 0 < 1))) (by omega)) (by omega)) rfl (Nat.add_lt_add_left (k := n) (Nat.le_of_ble_eq_true rfl : 7 < 8))) (by omega)) rfl (Nat.add_lt_add_left (k := n) (Nat.le_of_ble_eq_true rfl : 39 < 40))) (by omega)) rfl (Nat.add_lt_add_left (k := n) (Nat.le_of_ble_eq_true rfl : 54 < 55))) (by omega)) rfl (Nat.add_lt_add_left (k := n) (Nat.le_of_ble_eq_true rfl : 61 < 62))) (by omega)) rfl (Nat.add_lt_add_left (k := n) (Nat.le_of_ble_eq_true rfl : 68 < 69))) (by omega)) rfl (Nat.add_lt_add_left (k := n) (Nat.le_of_ble_eq_true rfl : 75 < 76))) (by omega)) rfl (Nat.add_lt_add_left (k := n) (Nat.le_of_ble_eq_true rfl : 82 < 83))) (by omega)) rfl (Nat.add_lt_add_left (k := n) (Nat.le_of_ble_eq_true rfl : 89 < 90)))
set_option maxHeartbeats 4000000 in
set_option maxRecDepth 20000 in
theorem e_X8_init {K : dw_K} {n m : Nat} {sh : dw_Sh} {I : Nat → Nat → Int32} {J : Nat → Nat → Int64} {a : Nat} (hz : dw_Z n I J) (hm : n + 96 = m) (hn : n + 96 ≤ 1000000) (ha : a < n) (hk : (sh a).1 = 8) (hK : K none (m, f_X8_init n sh a, g_X8_init n I a, J)) : t_X8_init [.ref a] (n, sh, I, J) K := by
  subst hm
  refine dw_enter rfl ?_
  show dw_ok (pr_X8_init K) 0 96 6562 [some (.ref (a)), none] [] (n, sh, I, J)
  refine qi_ald rfl rfl ?_
  refine qi_oinit rfl rfl ?_
  refine qi_ald rfl rfl ?_
  refine qi_new (m := n + 1) (bc' := 95) (bs' := 6552) rfl hz rfl rfl (by omega) rfl (fun s1 hs1 => ?_)
  have y1 : (s1 (n)).1 = 0 := by rw [hs1]; exact sh_nw_at
  have hz2 : dw_Z (n + 1) I J := dw_Z.up hz (by omega)
  refine qi_dup rfl ?_
  refine qi_call (bc' := 90) (bs' := 6240) rfl y1 rfl rfl rfl ?_
  refine ea_X0_init (n := n + 1) (m := n + 6) (a := n) hz2 rfl (by omega) (Nat.add_lt_add_left (k := n) (Nat.le_of_ble_eq_true rfl : 0 < 1)) y1 (fun s2 hs2 I3 hI3 => ?_)
  show dw_ok (pr_X8_init K) 12 90 6240 [some (.ref (a)), none] [.ref (n), .ref (a)] (n + 6, s2, I3, J)
  have hz4 : dw_Z (n + 6) I3 J := by rw [hI3]; exact z_X0_init (n := n + 1) (m := n + 6) (a := n) hz2 rfl (Nat.add_lt_add_left (k := n) (Nat.le_of_ble_eq_true rfl : 0 < 1))
  have y5 : (s1 (a)).1 = 8 := by rw [hs1]; exact Eq.trans (sh_nw_k ha) hk
  have y6 : (s2 (a)).1 = 8 := by rw [hs2]; exact Eq.trans (f_X0_init_k (Nat.lt_add_right 1 ha)) y5
  refine qi_putr rfl y6 (fun s3 hs3 => ?_)
  have y7 : (s3 (a)).2.2 1 = some (n) := by rw [hs3]; exact sh_sr_rat
  refine qi_ald rfl rfl ?_
  refine qi_ic rfl ?_
  refine qi_newa (m := n + 7) (N := 6) (bc' := 89) (bs' := 6234) rfl hz4 (by decide) (by decide) rfl rfl (by omega) rfl rfl (fun s4 hs4 => ?_)
  have y8 : (s4 (n + 6)).1 = 22 := by rw [hs4]; exact sh_nw_at
  have y9 : (s4 (n + 6)).2.1 = 6 := by rw [hs4]; exact sh_nw_la
  have hz10 : dw_Z (n + 7) I3 J := dw_Z.up hz4 (by omega)
  have y11 : (s3 (a)).1 = 8 := by rw [hs3]; exact Eq.trans sh_sr_k y6
  have y12 : (s4 (a)).1 = 8 := by rw [hs4]; exact Eq.trans (sh_nw_k (Nat.lt_add_right 6 ha)) y11
  refine qi_putr rfl y12 (fun s5 hs5 => ?_)
  have y13 : (s5 (a)).2.2 2 = some (n + 6) := by rw [hs5]; exact sh_sr_rat
  refine qi_ald rfl rfl ?_
  refine qi_new (m := n + 8) (bc' := 88) (bs' := 6232) rfl hz10 rfl rfl (by omega) rfl (fun s6 hs6 => ?_)
  have y14 : (s6 (n + 7)).1 = 5 := by rw [hs6]; exact sh_nw_at
  have hz15 : dw_Z (n + 8) I3 J := dw_Z.up hz10 (by omega)
  refine qi_dup rfl ?_
  refine qi_call (bc' := 57) (bs' := 6112) rfl y14 rfl rfl rfl ?_
  refine ea_X5_init (n := n + 8) (m := n + 39) (a := n + 7) hz15 rfl (by omega) (Nat.add_lt_add_left (k := n) (Nat.le_of_ble_eq_true rfl : 7 < 8)) y14 (fun s7 hs7 => ?_)
  show dw_ok (pr_X8_init K) 32 57 6112 [some (.ref (a)), none] [.ref (n + 7), .ref (a)] (n + 39, s7, I3, J)
  have hz16 : dw_Z (n + 39) I3 J := z_X5_init (n := n + 8) (m := n + 39) (a := n + 7) hz15 rfl (Nat.add_lt_add_left (k := n) (Nat.le_of_ble_eq_true rfl : 7 < 8))
  have y17 : (s5 (a)).1 = 8 := by rw [hs5]; exact Eq.trans sh_sr_k y12
  have y18 : (s6 (a)).1 = 8 := by rw [hs6]; exact Eq.trans (sh_nw_k (Nat.lt_add_right 7 ha)) y17
  have y19 : (s7 (a)).1 = 8 := by rw [hs7]; exact Eq.trans (f_X5_init_k (Nat.lt_add_right 8 ha)) y18
  refine qi_putr rfl y19 (fun s8 hs8 => ?_)
  have y20 : (s8 (a)).2.2 3 = some (n + 7) := by rw [hs8]; exact sh_sr_rat
  refine qi_ald rfl rfl ?_
  refine qi_new (m := n + 40) (bc' := 56) (bs' := 6097) rfl hz16 rfl rfl (by omega) rfl (fun s9 hs9 => ?_)
  have y21 : (s9 (n + 39)).1 = 7 := by rw [hs9]; exact sh_nw_at
  have hz22 : dw_Z (n + 40) I3 J := dw_Z.up hz16 (by omega)
  refine qi_dup rfl ?_
  refine qi_call (bc' := 42) (bs' := 4362) rfl y21 rfl rfl rfl ?_
  refine ea_X7_init (n := n + 40) (m := n + 54) (a := n + 39) hz22 rfl (by omega) (Nat.add_lt_add_left (k := n) (Nat.le_of_ble_eq_true rfl : 39 < 40)) y21 (fun s10 hs10 => ?_)
  show dw_ok (pr_X8_init K) 43 42 4362 [some (.ref (a)), none] [.ref (n + 39), .ref (a)] (n + 54, s10, I3, J)
  have hz23 : dw_Z (n + 54) I3 J := z_X7_init (n := n + 40) (m := n + 54) (a := n + 39) hz22 rfl (Nat.add_lt_add_left (k := n) (Nat.le_of_ble_eq_true rfl : 39 < 40))
  have y24 : (s8 (a)).1 = 8 := by rw [hs8]; exact Eq.trans sh_sr_k y19
  have y25 : (s9 (a)).1 = 8 := by rw [hs9]; exact Eq.trans (sh_nw_k (Nat.lt_add_right 39 ha)) y24
  have y26 : (s10 (a)).1 = 8 := by rw [hs10]; exact Eq.trans (f_X7_init_k (Nat.lt_add_right 40 ha)) y25
  refine qi_putr rfl y26 (fun s11 hs11 => ?_)
  have y27 : (s11 (a)).2.2 4 = some (n + 39) := by rw [hs11]; exact sh_sr_rat
  refine qi_ic rfl ?_
  refine qi_ist rfl rfl ?_
  show dw_ok (pr_X8_init K) 48 42 4362 [some (.ref (a)), some (.int 0)] [] (n + 54, s11, I3, J)
  refine qi_ild rfl rfl ?_
  refine qi_ic rfl ?_
  refine qi_ge_n rfl (by decide) ?_
  refine qi_ald rfl rfl ?_
  have y28 : (s11 (a)).1 = 8 := by rw [hs11]; exact Eq.trans sh_sr_k y26
  have y29 : (s6 (a)).2.2 2 = some (n + 6) := by rw [hs6]; exact Eq.trans (sh_nw_r (Nat.lt_add_right 7 ha)) y13
  have y30 : (s7 (a)).2.2 2 = some (n + 6) := by rw [hs7]; exact Eq.trans (f_X5_init_r (Nat.lt_add_right 8 ha) (by omega)) y29
  have y31 : (s8 (a)).2.2 2 = some (n + 6) := by rw [hs8]; exact Eq.trans (sh_sr_rj (Nat.ne_of_beq_eq_false rfl)) y30
  have y32 : (s9 (a)).2.2 2 = some (n + 6) := by rw [hs9]; exact Eq.trans (sh_nw_r (Nat.lt_add_right 39 ha)) y31
  have y33 : (s10 (a)).2.2 2 = some (n + 6) := by rw [hs10]; exact Eq.trans (f_X7_init_r (Nat.lt_add_right 40 ha) (by omega)) y32
  have y34 : (s11 (a)).2.2 2 = some (n + 6) := by rw [hs11]; exact Eq.trans (sh_sr_rj (Nat.ne_of_beq_eq_false rfl)) y33
  refine qi_getr rfl y28 y34 ?_
  refine qi_ild rfl rfl ?_
  refine qi_new (m := n + 55) (bc' := 41) (bs' := 4360) rfl hz23 rfl rfl (by omega) rfl (fun s12 hs12 => ?_)
  have y35 : (s12 (n + 54)).1 = 2 := by rw [hs12]; exact sh_nw_at
  have hz36 : dw_Z (n + 55) I3 J := dw_Z.up hz23 (by omega)
  refine qi_dup rfl ?_
  refine qi_call (bc' := 35) (bs' := 3635) rfl y35 rfl rfl rfl ?_
  refine ea_X2_init (n := n + 55) (m := n + 61) (a := n + 54) hz36 rfl (by omega) (Nat.add_lt_add_left (k := n) (Nat.le_of_ble_eq_true rfl : 54 < 55)) y35 (fun s13 hs13 => ?_)
  show dw_ok (pr_X8_init K) 66 35 3635 [some (.ref (a)), some (.int 0)] [.ref (n + 54), .int 0, .ref (n + 6)] (n + 61, s13, I3, J)
  have hz37 : dw_Z (n + 61) I3 J := z_X2_init (n := n + 55) (m := n + 61) (a := n + 54) hz36 rfl (Nat.add_lt_add_left (k := n) (Nat.le_of_ble_eq_true rfl : 54 < 55))
  have y38 : (s5 (n + 6)).1 = 22 := by rw [hs5]; exact Eq.trans sh_sr_k y8
  have y39 : (s6 (n + 6)).1 = 22 := by rw [hs6]; exact Eq.trans (sh_nw_k (Nat.add_lt_add_left (k := n) (Nat.le_of_ble_eq_true rfl : 6 < 7))) y38
  have y40 : (s7 (n + 6)).1 = 22 := by rw [hs7]; exact Eq.trans (f_X5_init_k (Nat.add_lt_add_left (k := n) (Nat.le_of_ble_eq_true rfl : 6 < 8))) y39
  have y41 : (s8 (n + 6)).1 = 22 := by rw [hs8]; exact Eq.trans sh_sr_k y40
  have y42 : (s9 (n + 6)).1 = 22 := by rw [hs9]; exact Eq.trans (sh_nw_k (Nat.add_lt_add_left (k := n) (Nat.le_of_ble_eq_true rfl : 6 < 39))) y41
  have y43 : (s10 (n + 6)).1 = 22 := by rw [hs10]; exact Eq.trans (f_X7_init_k (Nat.add_lt_add_left (k := n) (Nat.le_of_ble_eq_true rfl : 6 < 40))) y42
  have y44 : (s11 (n + 6)).1 = 22 := by rw [hs11]; exact Eq.trans sh_sr_k y43
  have y45 : (s12 (n + 6)).1 = 22 := by rw [hs12]; exact Eq.trans (sh_nw_k (Nat.add_lt_add_left (k := n) (Nat.le_of_ble_eq_true rfl : 6 < 54))) y44
  have y46 : (s13 (n + 6)).1 = 22 := by rw [hs13]; exact Eq.trans (f_X2_init_k (Nat.add_lt_add_left (k := n) (Nat.le_of_ble_eq_true rfl : 6 < 55))) y45
  have y47 : (s13 (n + 54)).1 = 2 := by rw [hs13]; exact Eq.trans (f_X2_init_k (Nat.add_lt_add_left (k := n) (Nat.le_of_ble_eq_true rfl : 54 < 55))) y35
  have y48 : (s5 (n + 6)).2.1 = 6 := by rw [hs5]; exact Eq.trans sh_sr_l y9
  have y49 : (s6 (n + 6)).2.1 = 6 := by rw [hs6]; exact Eq.trans (sh_nw_l (Nat.add_lt_add_left (k := n) (Nat.le_of_ble_eq_true rfl : 6 < 7))) y48
  have y50 : (s7 (n + 6)).2.1 = 6 := by rw [hs7]; exact Eq.trans (f_X5_init_l (Nat.add_lt_add_left (k := n) (Nat.le_of_ble_eq_true rfl : 6 < 8))) y49
  have y51 : (s8 (n + 6)).2.1 = 6 := by rw [hs8]; exact Eq.trans sh_sr_l y50
  have y52 : (s9 (n + 6)).2.1 = 6 := by rw [hs9]; exact Eq.trans (sh_nw_l (Nat.add_lt_add_left (k := n) (Nat.le_of_ble_eq_true rfl : 6 < 39))) y51
  have y53 : (s10 (n + 6)).2.1 = 6 := by rw [hs10]; exact Eq.trans (f_X7_init_l (Nat.add_lt_add_left (k := n) (Nat.le_of_ble_eq_true rfl : 6 < 40))) y52
  have y54 : (s11 (n + 6)).2.1 = 6 := by rw [hs11]; exact Eq.trans sh_sr_l y53
  have y55 : (s12 (n + 6)).2.1 = 6 := by rw [hs12]; exact Eq.trans (sh_nw_l (Nat.add_lt_add_left (k := n) (Nat.le_of_ble_eq_true rfl : 6 < 54))) y54
  have y56 : (s13 (n + 6)).2.1 = 6 := by rw [hs13]; exact Eq.trans (f_X2_init_l (Nat.add_lt_add_left (k := n) (Nat.le_of_ble_eq_true rfl : 6 < 55))) y55
  refine qi_aast (j := 0) rfl y46 y47 y56 (by decide) (by decide) rfl (fun s14 hs14 => ?_)
  refine qi_inc (y := 1) rfl rfl rfl (by decide) ?_
  show dw_ok (pr_X8_init K) 70 35 3635 [some (.ref (a)), some (.int 1)] [] (n + 61, s14, I3, J)
  refine qi_goto rfl ?_
  refine qi_ild rfl rfl ?_
  refine qi_ic rfl ?_
  refine qi_ge_n rfl (by decide) ?_
  refine qi_ald rfl rfl ?_
  have y57 : (s12 (a)).1 = 8 := by rw [hs12]; exact Eq.trans (sh_nw_k (Nat.lt_add_right 54 ha)) y28
  have y58 : (s13 (a)).1 = 8 := by rw [hs13]; exact Eq.trans (f_X2_init_k (Nat.lt_add_right 55 ha)) y57
  have y59 : (s14 (a)).1 = 8 := by rw [hs14]; exact Eq.trans sh_sr_k y58
  have y60 : (s12 (a)).2.2 2 = some (n + 6) := by rw [hs12]; exact Eq.trans (sh_nw_r (Nat.lt_add_right 54 ha)) y34
  have y61 : (s13 (a)).2.2 2 = some (n + 6) := by rw [hs13]; exact Eq.trans (f_X2_init_r (Nat.lt_add_right 55 ha) (by omega)) y60
  have y62 : (s14 (a)).2.2 2 = some (n + 6) := by rw [hs14]; exact Eq.trans (sh_sr_ra (by omega)) y61
  refine qi_getr rfl y59 y62 ?_
  refine qi_ild rfl rfl ?_
  refine qi_new (m := n + 62) (bc' := 34) (bs' := 3633) rfl hz37 rfl rfl (by omega) rfl (fun s15 hs15 => ?_)
  have y63 : (s15 (n + 61)).1 = 2 := by rw [hs15]; exact sh_nw_at
  have hz64 : dw_Z (n + 62) I3 J := dw_Z.up hz37 (by omega)
  refine qi_dup rfl ?_
  refine qi_call (bc' := 28) (bs' := 2908) rfl y63 rfl rfl rfl ?_
  refine ea_X2_init (n := n + 62) (m := n + 68) (a := n + 61) hz64 rfl (by omega) (Nat.add_lt_add_left (k := n) (Nat.le_of_ble_eq_true rfl : 61 < 62)) y63 (fun s16 hs16 => ?_)
  show dw_ok (pr_X8_init K) 66 28 2908 [some (.ref (a)), some (.int 1)] [.ref (n + 61), .int 1, .ref (n + 6)] (n + 68, s16, I3, J)
  have hz65 : dw_Z (n + 68) I3 J := z_X2_init (n := n + 62) (m := n + 68) (a := n + 61) hz64 rfl (Nat.add_lt_add_left (k := n) (Nat.le_of_ble_eq_true rfl : 61 < 62))
  have y66 : (s14 (n + 6)).1 = 22 := by rw [hs14]; exact Eq.trans sh_sr_k y46
  have y67 : (s15 (n + 6)).1 = 22 := by rw [hs15]; exact Eq.trans (sh_nw_k (Nat.add_lt_add_left (k := n) (Nat.le_of_ble_eq_true rfl : 6 < 61))) y66
  have y68 : (s16 (n + 6)).1 = 22 := by rw [hs16]; exact Eq.trans (f_X2_init_k (Nat.add_lt_add_left (k := n) (Nat.le_of_ble_eq_true rfl : 6 < 62))) y67
  have y69 : (s16 (n + 61)).1 = 2 := by rw [hs16]; exact Eq.trans (f_X2_init_k (Nat.add_lt_add_left (k := n) (Nat.le_of_ble_eq_true rfl : 61 < 62))) y63
  have y70 : (s14 (n + 6)).2.1 = 6 := by rw [hs14]; exact Eq.trans sh_sr_l y56
  have y71 : (s15 (n + 6)).2.1 = 6 := by rw [hs15]; exact Eq.trans (sh_nw_l (Nat.add_lt_add_left (k := n) (Nat.le_of_ble_eq_true rfl : 6 < 61))) y70
  have y72 : (s16 (n + 6)).2.1 = 6 := by rw [hs16]; exact Eq.trans (f_X2_init_l (Nat.add_lt_add_left (k := n) (Nat.le_of_ble_eq_true rfl : 6 < 62))) y71
  refine qi_aast (j := 1) rfl y68 y69 y72 (by decide) (by decide) rfl (fun s17 hs17 => ?_)
  refine qi_inc (y := 2) rfl rfl rfl (by decide) ?_
  show dw_ok (pr_X8_init K) 70 28 2908 [some (.ref (a)), some (.int 2)] [] (n + 68, s17, I3, J)
  refine qi_goto rfl ?_
  refine qi_ild rfl rfl ?_
  refine qi_ic rfl ?_
  refine qi_ge_n rfl (by decide) ?_
  refine qi_ald rfl rfl ?_
  have y73 : (s15 (a)).1 = 8 := by rw [hs15]; exact Eq.trans (sh_nw_k (Nat.lt_add_right 61 ha)) y59
  have y74 : (s16 (a)).1 = 8 := by rw [hs16]; exact Eq.trans (f_X2_init_k (Nat.lt_add_right 62 ha)) y73
  have y75 : (s17 (a)).1 = 8 := by rw [hs17]; exact Eq.trans sh_sr_k y74
  have y76 : (s15 (a)).2.2 2 = some (n + 6) := by rw [hs15]; exact Eq.trans (sh_nw_r (Nat.lt_add_right 61 ha)) y62
  have y77 : (s16 (a)).2.2 2 = some (n + 6) := by rw [hs16]; exact Eq.trans (f_X2_init_r (Nat.lt_add_right 62 ha) (by omega)) y76
  have y78 : (s17 (a)).2.2 2 = some (n + 6) := by rw [hs17]; exact Eq.trans (sh_sr_ra (by omega)) y77
  refine qi_getr rfl y75 y78 ?_
  refine qi_ild rfl rfl ?_
  refine qi_new (m := n + 69) (bc' := 27) (bs' := 2906) rfl hz65 rfl rfl (by omega) rfl (fun s18 hs18 => ?_)
  have y79 : (s18 (n + 68)).1 = 2 := by rw [hs18]; exact sh_nw_at
  have hz80 : dw_Z (n + 69) I3 J := dw_Z.up hz65 (by omega)
  refine qi_dup rfl ?_
  refine qi_call (bc' := 21) (bs' := 2181) rfl y79 rfl rfl rfl ?_
  refine ea_X2_init (n := n + 69) (m := n + 75) (a := n + 68) hz80 rfl (by omega) (Nat.add_lt_add_left (k := n) (Nat.le_of_ble_eq_true rfl : 68 < 69)) y79 (fun s19 hs19 => ?_)
  show dw_ok (pr_X8_init K) 66 21 2181 [some (.ref (a)), some (.int 2)] [.ref (n + 68), .int 2, .ref (n + 6)] (n + 75, s19, I3, J)
  have hz81 : dw_Z (n + 75) I3 J := z_X2_init (n := n + 69) (m := n + 75) (a := n + 68) hz80 rfl (Nat.add_lt_add_left (k := n) (Nat.le_of_ble_eq_true rfl : 68 < 69))
  have y82 : (s17 (n + 6)).1 = 22 := by rw [hs17]; exact Eq.trans sh_sr_k y68
  have y83 : (s18 (n + 6)).1 = 22 := by rw [hs18]; exact Eq.trans (sh_nw_k (Nat.add_lt_add_left (k := n) (Nat.le_of_ble_eq_true rfl : 6 < 68))) y82
  have y84 : (s19 (n + 6)).1 = 22 := by rw [hs19]; exact Eq.trans (f_X2_init_k (Nat.add_lt_add_left (k := n) (Nat.le_of_ble_eq_true rfl : 6 < 69))) y83
  have y85 : (s19 (n + 68)).1 = 2 := by rw [hs19]; exact Eq.trans (f_X2_init_k (Nat.add_lt_add_left (k := n) (Nat.le_of_ble_eq_true rfl : 68 < 69))) y79
  have y86 : (s17 (n + 6)).2.1 = 6 := by rw [hs17]; exact Eq.trans sh_sr_l y72
  have y87 : (s18 (n + 6)).2.1 = 6 := by rw [hs18]; exact Eq.trans (sh_nw_l (Nat.add_lt_add_left (k := n) (Nat.le_of_ble_eq_true rfl : 6 < 68))) y86
  have y88 : (s19 (n + 6)).2.1 = 6 := by rw [hs19]; exact Eq.trans (f_X2_init_l (Nat.add_lt_add_left (k := n) (Nat.le_of_ble_eq_true rfl : 6 < 69))) y87
  refine qi_aast (j := 2) rfl y84 y85 y88 (by decide) (by decide) rfl (fun s20 hs20 => ?_)
  refine qi_inc (y := 3) rfl rfl rfl (by decide) ?_
  show dw_ok (pr_X8_init K) 70 21 2181 [some (.ref (a)), some (.int 3)] [] (n + 75, s20, I3, J)
  refine qi_goto rfl ?_
  refine qi_ild rfl rfl ?_
  refine qi_ic rfl ?_
  refine qi_ge_n rfl (by decide) ?_
  refine qi_ald rfl rfl ?_
  have y89 : (s18 (a)).1 = 8 := by rw [hs18]; exact Eq.trans (sh_nw_k (Nat.lt_add_right 68 ha)) y75
  have y90 : (s19 (a)).1 = 8 := by rw [hs19]; exact Eq.trans (f_X2_init_k (Nat.lt_add_right 69 ha)) y89
  have y91 : (s20 (a)).1 = 8 := by rw [hs20]; exact Eq.trans sh_sr_k y90
  have y92 : (s18 (a)).2.2 2 = some (n + 6) := by rw [hs18]; exact Eq.trans (sh_nw_r (Nat.lt_add_right 68 ha)) y78
  have y93 : (s19 (a)).2.2 2 = some (n + 6) := by rw [hs19]; exact Eq.trans (f_X2_init_r (Nat.lt_add_right 69 ha) (by omega)) y92
  have y94 : (s20 (a)).2.2 2 = some (n + 6) := by rw [hs20]; exact Eq.trans (sh_sr_ra (by omega)) y93
  refine qi_getr rfl y91 y94 ?_
  refine qi_ild rfl rfl ?_
  refine qi_new (m := n + 76) (bc' := 20) (bs' := 2179) rfl hz81 rfl rfl (by omega) rfl (fun s21 hs21 => ?_)
  have y95 : (s21 (n + 75)).1 = 2 := by rw [hs21]; exact sh_nw_at
  have hz96 : dw_Z (n + 76) I3 J := dw_Z.up hz81 (by omega)
  refine qi_dup rfl ?_
  refine qi_call (bc' := 14) (bs' := 1454) rfl y95 rfl rfl rfl ?_
  refine ea_X2_init (n := n + 76) (m := n + 82) (a := n + 75) hz96 rfl (by omega) (Nat.add_lt_add_left (k := n) (Nat.le_of_ble_eq_true rfl : 75 < 76)) y95 (fun s22 hs22 => ?_)
  show dw_ok (pr_X8_init K) 66 14 1454 [some (.ref (a)), some (.int 3)] [.ref (n + 75), .int 3, .ref (n + 6)] (n + 82, s22, I3, J)
  have hz97 : dw_Z (n + 82) I3 J := z_X2_init (n := n + 76) (m := n + 82) (a := n + 75) hz96 rfl (Nat.add_lt_add_left (k := n) (Nat.le_of_ble_eq_true rfl : 75 < 76))
  have y98 : (s20 (n + 6)).1 = 22 := by rw [hs20]; exact Eq.trans sh_sr_k y84
  have y99 : (s21 (n + 6)).1 = 22 := by rw [hs21]; exact Eq.trans (sh_nw_k (Nat.add_lt_add_left (k := n) (Nat.le_of_ble_eq_true rfl : 6 < 75))) y98
  have y100 : (s22 (n + 6)).1 = 22 := by rw [hs22]; exact Eq.trans (f_X2_init_k (Nat.add_lt_add_left (k := n) (Nat.le_of_ble_eq_true rfl : 6 < 76))) y99
  have y101 : (s22 (n + 75)).1 = 2 := by rw [hs22]; exact Eq.trans (f_X2_init_k (Nat.add_lt_add_left (k := n) (Nat.le_of_ble_eq_true rfl : 75 < 76))) y95
  have y102 : (s20 (n + 6)).2.1 = 6 := by rw [hs20]; exact Eq.trans sh_sr_l y88
  have y103 : (s21 (n + 6)).2.1 = 6 := by rw [hs21]; exact Eq.trans (sh_nw_l (Nat.add_lt_add_left (k := n) (Nat.le_of_ble_eq_true rfl : 6 < 75))) y102
  have y104 : (s22 (n + 6)).2.1 = 6 := by rw [hs22]; exact Eq.trans (f_X2_init_l (Nat.add_lt_add_left (k := n) (Nat.le_of_ble_eq_true rfl : 6 < 76))) y103
  refine qi_aast (j := 3) rfl y100 y101 y104 (by decide) (by decide) rfl (fun s23 hs23 => ?_)
  refine qi_inc (y := 4) rfl rfl rfl (by decide) ?_
  show dw_ok (pr_X8_init K) 70 14 1454 [some (.ref (a)), some (.int 4)] [] (n + 82, s23, I3, J)
  refine qi_goto rfl ?_
  refine qi_ild rfl rfl ?_
  refine qi_ic rfl ?_
  refine qi_ge_n rfl (by decide) ?_
  refine qi_ald rfl rfl ?_
  have y105 : (s21 (a)).1 = 8 := by rw [hs21]; exact Eq.trans (sh_nw_k (Nat.lt_add_right 75 ha)) y91
  have y106 : (s22 (a)).1 = 8 := by rw [hs22]; exact Eq.trans (f_X2_init_k (Nat.lt_add_right 76 ha)) y105
  have y107 : (s23 (a)).1 = 8 := by rw [hs23]; exact Eq.trans sh_sr_k y106
  have y108 : (s21 (a)).2.2 2 = some (n + 6) := by rw [hs21]; exact Eq.trans (sh_nw_r (Nat.lt_add_right 75 ha)) y94
  have y109 : (s22 (a)).2.2 2 = some (n + 6) := by rw [hs22]; exact Eq.trans (f_X2_init_r (Nat.lt_add_right 76 ha) (by omega)) y108
  have y110 : (s23 (a)).2.2 2 = some (n + 6) := by rw [hs23]; exact Eq.trans (sh_sr_ra (by omega)) y109
  refine qi_getr rfl y107 y110 ?_
  refine qi_ild rfl rfl ?_
  refine qi_new (m := n + 83) (bc' := 13) (bs' := 1452) rfl hz97 rfl rfl (by omega) rfl (fun s24 hs24 => ?_)
  have y111 : (s24 (n + 82)).1 = 2 := by rw [hs24]; exact sh_nw_at
  have hz112 : dw_Z (n + 83) I3 J := dw_Z.up hz97 (by omega)
  refine qi_dup rfl ?_
  refine qi_call (bc' := 7) (bs' := 727) rfl y111 rfl rfl rfl ?_
  refine ea_X2_init (n := n + 83) (m := n + 89) (a := n + 82) hz112 rfl (by omega) (Nat.add_lt_add_left (k := n) (Nat.le_of_ble_eq_true rfl : 82 < 83)) y111 (fun s25 hs25 => ?_)
  show dw_ok (pr_X8_init K) 66 7 727 [some (.ref (a)), some (.int 4)] [.ref (n + 82), .int 4, .ref (n + 6)] (n + 89, s25, I3, J)
  have hz113 : dw_Z (n + 89) I3 J := z_X2_init (n := n + 83) (m := n + 89) (a := n + 82) hz112 rfl (Nat.add_lt_add_left (k := n) (Nat.le_of_ble_eq_true rfl : 82 < 83))
  have y114 : (s23 (n + 6)).1 = 22 := by rw [hs23]; exact Eq.trans sh_sr_k y100
  have y115 : (s24 (n + 6)).1 = 22 := by rw [hs24]; exact Eq.trans (sh_nw_k (Nat.add_lt_add_left (k := n) (Nat.le_of_ble_eq_true rfl : 6 < 82))) y114
  have y116 : (s25 (n + 6)).1 = 22 := by rw [hs25]; exact Eq.trans (f_X2_init_k (Nat.add_lt_add_left (k := n) (Nat.le_of_ble_eq_true rfl : 6 < 83))) y115
  have y117 : (s25 (n + 82)).1 = 2 := by rw [hs25]; exact Eq.trans (f_X2_init_k (Nat.add_lt_add_left (k := n) (Nat.le_of_ble_eq_true rfl : 82 < 83))) y111
  have y118 : (s23 (n + 6)).2.1 = 6 := by rw [hs23]; exact Eq.trans sh_sr_l y104
  have y119 : (s24 (n + 6)).2.1 = 6 := by rw [hs24]; exact Eq.trans (sh_nw_l (Nat.add_lt_add_left (k := n) (Nat.le_of_ble_eq_true rfl : 6 < 82))) y118
  have y120 : (s25 (n + 6)).2.1 = 6 := by rw [hs25]; exact Eq.trans (f_X2_init_l (Nat.add_lt_add_left (k := n) (Nat.le_of_ble_eq_true rfl : 6 < 83))) y119
  refine qi_aast (j := 4) rfl y116 y117 y120 (by decide) (by decide) rfl (fun s26 hs26 => ?_)
  refine qi_inc (y := 5) rfl rfl rfl (by decide) ?_
  show dw_ok (pr_X8_init K) 70 7 727 [some (.ref (a)), some (.int 5)] [] (n + 89, s26, I3, J)
  refine qi_goto rfl ?_
  refine qi_ild rfl rfl ?_
  refine qi_ic rfl ?_
  refine qi_ge_n rfl (by decide) ?_
  refine qi_ald rfl rfl ?_
  have y121 : (s24 (a)).1 = 8 := by rw [hs24]; exact Eq.trans (sh_nw_k (Nat.lt_add_right 82 ha)) y107
  have y122 : (s25 (a)).1 = 8 := by rw [hs25]; exact Eq.trans (f_X2_init_k (Nat.lt_add_right 83 ha)) y121
  have y123 : (s26 (a)).1 = 8 := by rw [hs26]; exact Eq.trans sh_sr_k y122
  have y124 : (s24 (a)).2.2 2 = some (n + 6) := by rw [hs24]; exact Eq.trans (sh_nw_r (Nat.lt_add_right 82 ha)) y110
  have y125 : (s25 (a)).2.2 2 = some (n + 6) := by rw [hs25]; exact Eq.trans (f_X2_init_r (Nat.lt_add_right 83 ha) (by omega)) y124
  have y126 : (s26 (a)).2.2 2 = some (n + 6) := by rw [hs26]; exact Eq.trans (sh_sr_ra (by omega)) y125
  refine qi_getr rfl y123 y126 ?_
  refine qi_ild rfl rfl ?_
  refine qi_new (m := n + 90) (bc' := 6) (bs' := 725) rfl hz113 rfl rfl (by omega) rfl (fun s27 hs27 => ?_)
  have y127 : (s27 (n + 89)).1 = 2 := by rw [hs27]; exact sh_nw_at
  have hz128 : dw_Z (n + 90) I3 J := dw_Z.up hz113 (by omega)
  refine qi_dup rfl ?_
  refine qi_call (bc' := 0) (bs' := 0) rfl y127 rfl rfl rfl ?_
  refine ea_X2_init (n := n + 90) (m := n + 96) (a := n + 89) hz128 rfl (by omega) (Nat.add_lt_add_left (k := n) (Nat.le_of_ble_eq_true rfl : 89 < 90)) y127 (fun s28 hs28 => ?_)
  show dw_ok (pr_X8_init K) 66 0 0 [some (.ref (a)), some (.int 5)] [.ref (n + 89), .int 5, .ref (n + 6)] (n + 96, s28, I3, J)
  have hz129 : dw_Z (n + 96) I3 J := z_X2_init (n := n + 90) (m := n + 96) (a := n + 89) hz128 rfl (Nat.add_lt_add_left (k := n) (Nat.le_of_ble_eq_true rfl : 89 < 90))
  have y130 : (s26 (n + 6)).1 = 22 := by rw [hs26]; exact Eq.trans sh_sr_k y116
  have y131 : (s27 (n + 6)).1 = 22 := by rw [hs27]; exact Eq.trans (sh_nw_k (Nat.add_lt_add_left (k := n) (Nat.le_of_ble_eq_true rfl : 6 < 89))) y130
  have y132 : (s28 (n + 6)).1 = 22 := by rw [hs28]; exact Eq.trans (f_X2_init_k (Nat.add_lt_add_left (k := n) (Nat.le_of_ble_eq_true rfl : 6 < 90))) y131
  have y133 : (s28 (n + 89)).1 = 2 := by rw [hs28]; exact Eq.trans (f_X2_init_k (Nat.add_lt_add_left (k := n) (Nat.le_of_ble_eq_true rfl : 89 < 90))) y127
  have y134 : (s26 (n + 6)).2.1 = 6 := by rw [hs26]; exact Eq.trans sh_sr_l y120
  have y135 : (s27 (n + 6)).2.1 = 6 := by rw [hs27]; exact Eq.trans (sh_nw_l (Nat.add_lt_add_left (k := n) (Nat.le_of_ble_eq_true rfl : 6 < 89))) y134
  have y136 : (s28 (n + 6)).2.1 = 6 := by rw [hs28]; exact Eq.trans (f_X2_init_l (Nat.add_lt_add_left (k := n) (Nat.le_of_ble_eq_true rfl : 6 < 90))) y135
  refine qi_aast (j := 5) rfl y132 y133 y136 (by decide) (by decide) rfl (fun s29 hs29 => ?_)
  refine qi_inc (y := 6) rfl rfl rfl (by decide) ?_
  show dw_ok (pr_X8_init K) 70 0 0 [some (.ref (a)), some (.int 6)] [] (n + 96, s29, I3, J)
  refine qi_goto rfl ?_
  refine qi_ild rfl rfl ?_
  refine qi_ic rfl ?_
  refine qi_ge_y rfl (by decide) ?_
  refine qi_vret rfl ?_
  have es : s29 = f_X8_init n sh a := by
    rw [hs29, hs28, hs27, hs26, hs25, hs24, hs23, hs22, hs21, hs20, hs19, hs18, hs17, hs16, hs15, hs14, hs13, hs12, hs11, hs10, hs9, hs8, hs7, hs6, hs5, hs4, hs3, hs2, hs1]
    rfl
  have eI : I3 = g_X8_init n I a := by
    rw [hI3]
    rfl
  rw [es, eI]
  exact hK
theorem ea_X8_init {K : dw_K} {n m : Nat} {sh : dw_Sh} {I : Nat → Nat → Int32} {J : Nat → Nat → Int64} {a : Nat} (hz : dw_Z n I J) (hm : n + 96 = m) (hn : n + 96 ≤ 1000000) (ha : a < n) (hk : (sh a).1 = 8) (hK : ∀ sh' : dw_Sh, sh' = f_X8_init n sh a → ∀ I' : Nat → Nat → Int32, I' = g_X8_init n I a → K none (m, sh', I', J)) : t_X8_init [.ref a] (n, sh, I, J) K := e_X8_init hz hm hn ha hk (hK _ rfl _ rfl)
def f_X9_init (n : Nat) (sh : dw_Sh) (a : Nat) : dw_Sh := (sh_sr (sh_nw (n) sh 16 940) (a) 0 (some (n)))
theorem f_X9_init_k {n a b : Nat} {sh : dw_Sh} (hb : b < n) : ((f_X9_init n sh a) b).1 = (sh b).1 := by
  unfold f_X9_init
  repeat (first | rw [sh_sr_k] | rw [sh_nw_k (by omega)] | rw [sh_nm_k (by omega)] | rw [f_X0_init_k (by omega)] | rw [f_X1_init_k (by omega)] | rw [f_X2_init_k (by omega)] | rw [f_X3_init_k (by omega)] | rw [f_X4_init_k (by omega)] | rw [f_X5_init_k (by omega)] | rw [f_X6_init_k (by omega)] | rw [f_X7_init_k (by omega)] | rw [f_X8_init_k (by omega)])
theorem f_X9_init_l {n a b : Nat} {sh : dw_Sh} (hb : b < n) : ((f_X9_init n sh a) b).2.1 = (sh b).2.1 := by
  unfold f_X9_init
  repeat (first | rw [sh_sr_l] | rw [sh_nw_l (by omega)] | rw [sh_nm_l (by omega)] | rw [f_X0_init_l (by omega)] | rw [f_X1_init_l (by omega)] | rw [f_X2_init_l (by omega)] | rw [f_X3_init_l (by omega)] | rw [f_X4_init_l (by omega)] | rw [f_X5_init_l (by omega)] | rw [f_X6_init_l (by omega)] | rw [f_X7_init_l (by omega)] | rw [f_X8_init_l (by omega)])
theorem f_X9_init_r {n a b j : Nat} {sh : dw_Sh} (hb : b < n) (hne : b ≠ a) : ((f_X9_init n sh a) b).2.2 j = (sh b).2.2 j := by
  unfold f_X9_init
  repeat (first | rfl | rw [sh_sr_ra hne] | rw [sh_sr_ra (by omega)] | rw [sh_nw_r (by omega)] | rw [sh_nm_r (by omega)] | rw [f_X0_init_r (by omega) (by omega)] | rw [f_X1_init_r (by omega) (by omega)] | rw [f_X2_init_r (by omega) (by omega)] | rw [f_X3_init_r (by omega) (by omega)] | rw [f_X4_init_r (by omega) (by omega)] | rw [f_X5_init_r (by omega) (by omega)] | rw [f_X6_init_r (by omega) (by omega)] | rw [f_X7_init_r (by omega) (by omega)] | rw [f_X8_init_r (by omega) (by omega)])
theorem z_X9_init {n m a : Nat} {I : Nat → Nat → Int32} {J : Nat → Nat → Int64} (hz : dw_Z n I J) (hm : n + 1 = m) (ha : a < n) : dw_Z m (I) (J) := by
  subst hm
  exact (dw_Z.up (m := n + 1) hz (by omega))
set_option maxHeartbeats 4000000 in
set_option maxRecDepth 20000 in
theorem e_X9_init {K : dw_K} {n m : Nat} {sh : dw_Sh} {I : Nat → Nat → Int32} {J : Nat → Nat → Int64} {a : Nat} (hz : dw_Z n I J) (hm : n + 1 = m) (hn : n + 1 ≤ 1000000) (ha : a < n) (hk : (sh a).1 = 9) (hK : K none (m, f_X9_init n sh a, I, J)) : t_X9_init [.ref a] (n, sh, I, J) K := by
  subst hm
  refine dw_enter rfl ?_
  show dw_ok (pr_X9_init K) 0 1 940 [some (.ref (a))] [] (n, sh, I, J)
  refine qi_ald rfl rfl ?_
  refine qi_oinit rfl rfl ?_
  refine qi_ald rfl rfl ?_
  refine qi_ic rfl ?_
  refine qi_newa (m := n + 1) (N := 940) (bc' := 0) (bs' := 0) rfl hz (by decide) (by decide) rfl rfl (by omega) rfl rfl (fun s1 hs1 => ?_)
  have y1 : (s1 (n)).1 = 16 := by rw [hs1]; exact sh_nw_at
  have y2 : (s1 (n)).2.1 = 940 := by rw [hs1]; exact sh_nw_la
  have hz3 : dw_Z (n + 1) I J := dw_Z.up hz (by omega)
  have y4 : (s1 (a)).1 = 9 := by rw [hs1]; exact Eq.trans (sh_nw_k ha) hk
  refine qi_putr rfl y4 (fun s2 hs2 => ?_)
  have y5 : (s2 (a)).2.2 0 = some (n) := by rw [hs2]; exact sh_sr_rat
  refine qi_vret rfl ?_
  have es : s2 = f_X9_init n sh a := by
    rw [hs2, hs1]
    rfl
  rw [es]
  exact hK
theorem ea_X9_init {K : dw_K} {n m : Nat} {sh : dw_Sh} {I : Nat → Nat → Int32} {J : Nat → Nat → Int64} {a : Nat} (hz : dw_Z n I J) (hm : n + 1 = m) (hn : n + 1 ≤ 1000000) (ha : a < n) (hk : (sh a).1 = 9) (hK : ∀ sh' : dw_Sh, sh' = f_X9_init n sh a → K none (m, sh', I, J)) : t_X9_init [.ref a] (n, sh, I, J) K := e_X9_init hz hm hn ha hk (hK _ rfl)
def f_X10_init (n : Nat) (sh : dw_Sh) (a : Nat) : dw_Sh := (sh_sr (sh_nw (n + 5) (sh_sr (sh_nw (n + 4) (sh_sr (sh_nw (n + 3) (sh_sr (sh_nw (n + 2) (sh_sr (sh_nw (n + 1) (sh_sr (sh_nw (n) sh 16 144) (a) 0 (some (n))) 16 144) (a) 1 (some (n + 1))) 16 144) (a) 2 (some (n + 2))) 16 144) (a) 3 (some (n + 3))) 16 144) (a) 4 (some (n + 4))) 16 144) (a) 5 (some (n + 5)))
theorem f_X10_init_k {n a b : Nat} {sh : dw_Sh} (hb : b < n) : ((f_X10_init n sh a) b).1 = (sh b).1 := by
  unfold f_X10_init
  repeat (first | rw [sh_sr_k] | rw [sh_nw_k (by omega)] | rw [sh_nm_k (by omega)] | rw [f_X0_init_k (by omega)] | rw [f_X1_init_k (by omega)] | rw [f_X2_init_k (by omega)] | rw [f_X3_init_k (by omega)] | rw [f_X4_init_k (by omega)] | rw [f_X5_init_k (by omega)] | rw [f_X6_init_k (by omega)] | rw [f_X7_init_k (by omega)] | rw [f_X8_init_k (by omega)] | rw [f_X9_init_k (by omega)])
theorem f_X10_init_l {n a b : Nat} {sh : dw_Sh} (hb : b < n) : ((f_X10_init n sh a) b).2.1 = (sh b).2.1 := by
  unfold f_X10_init
  repeat (first | rw [sh_sr_l] | rw [sh_nw_l (by omega)] | rw [sh_nm_l (by omega)] | rw [f_X0_init_l (by omega)] | rw [f_X1_init_l (by omega)] | rw [f_X2_init_l (by omega)] | rw [f_X3_init_l (by omega)] | rw [f_X4_init_l (by omega)] | rw [f_X5_init_l (by omega)] | rw [f_X6_init_l (by omega)] | rw [f_X7_init_l (by omega)] | rw [f_X8_init_l (by omega)] | rw [f_X9_init_l (by omega)])
theorem f_X10_init_r {n a b j : Nat} {sh : dw_Sh} (hb : b < n) (hne : b ≠ a) : ((f_X10_init n sh a) b).2.2 j = (sh b).2.2 j := by
  unfold f_X10_init
  repeat (first | rfl | rw [sh_sr_ra hne] | rw [sh_sr_ra (by omega)] | rw [sh_nw_r (by omega)] | rw [sh_nm_r (by omega)] | rw [f_X0_init_r (by omega) (by omega)] | rw [f_X1_init_r (by omega) (by omega)] | rw [f_X2_init_r (by omega) (by omega)] | rw [f_X3_init_r (by omega) (by omega)] | rw [f_X4_init_r (by omega) (by omega)] | rw [f_X5_init_r (by omega) (by omega)] | rw [f_X6_init_r (by omega) (by omega)] | rw [f_X7_init_r (by omega) (by omega)] | rw [f_X8_init_r (by omega) (by omega)] | rw [f_X9_init_r (by omega) (by omega)])
theorem z_X10_init {n m a : Nat} {I : Nat → Nat → Int32} {J : Nat → Nat → Int64} (hz : dw_Z n I J) (hm : n + 6 = m) (ha : a < n) : dw_Z m (I) (J) := by
  subst hm
  exact (dw_Z.up (m := n + 6) (dw_Z.up (m := n + 5) (dw_Z.up (m := n + 4) (dw_Z.up (m := n + 3) (dw_Z.up (m := n + 2) (dw_Z.up (m := n + 1) hz (by omega)) (by omega)) (by omega)) (by omega)) (by omega)) (by omega))
set_option maxHeartbeats 4000000 in
set_option maxRecDepth 20000 in
theorem e_X10_init {K : dw_K} {n m : Nat} {sh : dw_Sh} {I : Nat → Nat → Int32} {J : Nat → Nat → Int64} {a : Nat} (hz : dw_Z n I J) (hm : n + 6 = m) (hn : n + 6 ≤ 1000000) (ha : a < n) (hk : (sh a).1 = 10) (hK : K none (m, f_X10_init n sh a, I, J)) : t_X10_init [.ref a] (n, sh, I, J) K := by
  subst hm
  refine dw_enter rfl ?_
  show dw_ok (pr_X10_init K) 0 6 864 [some (.ref (a))] [] (n, sh, I, J)
  refine qi_ald rfl rfl ?_
  refine qi_oinit rfl rfl ?_
  refine qi_ald rfl rfl ?_
  refine qi_ic rfl ?_
  refine qi_newa (m := n + 1) (N := 144) (bc' := 5) (bs' := 720) rfl hz (by decide) (by decide) rfl rfl (by omega) rfl rfl (fun s1 hs1 => ?_)
  have y1 : (s1 (n)).1 = 16 := by rw [hs1]; exact sh_nw_at
  have y2 : (s1 (n)).2.1 = 144 := by rw [hs1]; exact sh_nw_la
  have hz3 : dw_Z (n + 1) I J := dw_Z.up hz (by omega)
  have y4 : (s1 (a)).1 = 10 := by rw [hs1]; exact Eq.trans (sh_nw_k ha) hk
  refine qi_putr rfl y4 (fun s2 hs2 => ?_)
  have y5 : (s2 (a)).2.2 0 = some (n) := by rw [hs2]; exact sh_sr_rat
  refine qi_ald rfl rfl ?_
  refine qi_ic rfl ?_
  refine qi_newa (m := n + 2) (N := 144) (bc' := 4) (bs' := 576) rfl hz3 (by decide) (by decide) rfl rfl (by omega) rfl rfl (fun s3 hs3 => ?_)
  have y6 : (s3 (n + 1)).1 = 16 := by rw [hs3]; exact sh_nw_at
  have y7 : (s3 (n + 1)).2.1 = 144 := by rw [hs3]; exact sh_nw_la
  have hz8 : dw_Z (n + 2) I J := dw_Z.up hz3 (by omega)
  have y9 : (s2 (a)).1 = 10 := by rw [hs2]; exact Eq.trans sh_sr_k y4
  have y10 : (s3 (a)).1 = 10 := by rw [hs3]; exact Eq.trans (sh_nw_k (Nat.lt_add_right 1 ha)) y9
  refine qi_putr rfl y10 (fun s4 hs4 => ?_)
  have y11 : (s4 (a)).2.2 1 = some (n + 1) := by rw [hs4]; exact sh_sr_rat
  refine qi_ald rfl rfl ?_
  refine qi_ic rfl ?_
  refine qi_newa (m := n + 3) (N := 144) (bc' := 3) (bs' := 432) rfl hz8 (by decide) (by decide) rfl rfl (by omega) rfl rfl (fun s5 hs5 => ?_)
  have y12 : (s5 (n + 2)).1 = 16 := by rw [hs5]; exact sh_nw_at
  have y13 : (s5 (n + 2)).2.1 = 144 := by rw [hs5]; exact sh_nw_la
  have hz14 : dw_Z (n + 3) I J := dw_Z.up hz8 (by omega)
  have y15 : (s4 (a)).1 = 10 := by rw [hs4]; exact Eq.trans sh_sr_k y10
  have y16 : (s5 (a)).1 = 10 := by rw [hs5]; exact Eq.trans (sh_nw_k (Nat.lt_add_right 2 ha)) y15
  refine qi_putr rfl y16 (fun s6 hs6 => ?_)
  have y17 : (s6 (a)).2.2 2 = some (n + 2) := by rw [hs6]; exact sh_sr_rat
  refine qi_ald rfl rfl ?_
  refine qi_ic rfl ?_
  refine qi_newa (m := n + 4) (N := 144) (bc' := 2) (bs' := 288) rfl hz14 (by decide) (by decide) rfl rfl (by omega) rfl rfl (fun s7 hs7 => ?_)
  have y18 : (s7 (n + 3)).1 = 16 := by rw [hs7]; exact sh_nw_at
  have y19 : (s7 (n + 3)).2.1 = 144 := by rw [hs7]; exact sh_nw_la
  have hz20 : dw_Z (n + 4) I J := dw_Z.up hz14 (by omega)
  have y21 : (s6 (a)).1 = 10 := by rw [hs6]; exact Eq.trans sh_sr_k y16
  have y22 : (s7 (a)).1 = 10 := by rw [hs7]; exact Eq.trans (sh_nw_k (Nat.lt_add_right 3 ha)) y21
  refine qi_putr rfl y22 (fun s8 hs8 => ?_)
  have y23 : (s8 (a)).2.2 3 = some (n + 3) := by rw [hs8]; exact sh_sr_rat
  refine qi_ald rfl rfl ?_
  refine qi_ic rfl ?_
  refine qi_newa (m := n + 5) (N := 144) (bc' := 1) (bs' := 144) rfl hz20 (by decide) (by decide) rfl rfl (by omega) rfl rfl (fun s9 hs9 => ?_)
  have y24 : (s9 (n + 4)).1 = 16 := by rw [hs9]; exact sh_nw_at
  have y25 : (s9 (n + 4)).2.1 = 144 := by rw [hs9]; exact sh_nw_la
  have hz26 : dw_Z (n + 5) I J := dw_Z.up hz20 (by omega)
  have y27 : (s8 (a)).1 = 10 := by rw [hs8]; exact Eq.trans sh_sr_k y22
  have y28 : (s9 (a)).1 = 10 := by rw [hs9]; exact Eq.trans (sh_nw_k (Nat.lt_add_right 4 ha)) y27
  refine qi_putr rfl y28 (fun s10 hs10 => ?_)
  have y29 : (s10 (a)).2.2 4 = some (n + 4) := by rw [hs10]; exact sh_sr_rat
  refine qi_ald rfl rfl ?_
  refine qi_ic rfl ?_
  refine qi_newa (m := n + 6) (N := 144) (bc' := 0) (bs' := 0) rfl hz26 (by decide) (by decide) rfl rfl (by omega) rfl rfl (fun s11 hs11 => ?_)
  have y30 : (s11 (n + 5)).1 = 16 := by rw [hs11]; exact sh_nw_at
  have y31 : (s11 (n + 5)).2.1 = 144 := by rw [hs11]; exact sh_nw_la
  have hz32 : dw_Z (n + 6) I J := dw_Z.up hz26 (by omega)
  have y33 : (s10 (a)).1 = 10 := by rw [hs10]; exact Eq.trans sh_sr_k y28
  have y34 : (s11 (a)).1 = 10 := by rw [hs11]; exact Eq.trans (sh_nw_k (Nat.lt_add_right 5 ha)) y33
  refine qi_putr rfl y34 (fun s12 hs12 => ?_)
  have y35 : (s12 (a)).2.2 5 = some (n + 5) := by rw [hs12]; exact sh_sr_rat
  refine qi_vret rfl ?_
  have es : s12 = f_X10_init n sh a := by
    rw [hs12, hs11, hs10, hs9, hs8, hs7, hs6, hs5, hs4, hs3, hs2, hs1]
    rfl
  rw [es]
  exact hK
theorem ea_X10_init {K : dw_K} {n m : Nat} {sh : dw_Sh} {I : Nat → Nat → Int32} {J : Nat → Nat → Int64} {a : Nat} (hz : dw_Z n I J) (hm : n + 6 = m) (hn : n + 6 ≤ 1000000) (ha : a < n) (hk : (sh a).1 = 10) (hK : ∀ sh' : dw_Sh, sh' = f_X10_init n sh a → K none (m, sh', I, J)) : t_X10_init [.ref a] (n, sh, I, J) K := e_X10_init hz hm hn ha hk (hK _ rfl)
end
section
def f_X11_init (n : Nat) (sh : dw_Sh) (a : Nat) : dw_Sh := (sh_sr (f_X8_init (n + 307) (sh_nw (n + 306) (sh_sr (f_X8_init (n + 210) (sh_nw (n + 209) (sh_sr (sh_nw (n + 208) (sh_sr (sh_nw (n + 207) (sh_sr (sh_nm (n + 203) (sh_sr (sh_nw (n + 202) (sh_sr (f_X4_init (n + 201) (sh_nw (n + 200) (sh_sr (f_X10_init (n + 194) (sh_nw (n + 193) (sh_sr (f_X7_init (n + 179) (sh_nw (n + 178) (sh_sr (f_X7_init (n + 164) (sh_nw (n + 163) (sh_sr (f_X6_init (n + 131) (sh_nw (n + 130) (sh_sr (f_X3_init (n + 123) (sh_nw (n + 122) (sh_sr (f_X1_init (n + 101) (sh_nw (n + 100) (sh_sr (sh_nw (n + 99) (sh_sr (f_X8_init (n + 3) (sh_nw (n + 2) (sh_sr (f_X9_init (n + 1) (sh_nw (n) sh 9 9) (n)) (a) 0 (some (n))) 8 5) (n + 2)) (a) 1 (some (n + 2))) 21 2) (a) 2 (some (n + 99))) 1 5) (n + 100)) (a) 3 (some (n + 100))) 3 2) (n + 122)) (a) 4 (some (n + 122))) 6 1) (n + 130)) (a) 5 (some (n + 130))) 7 15) (n + 163)) (a) 6 (some (n + 163))) 7 15) (n + 178)) (a) 7 (some (n + 178))) 10 6) (n + 193)) (a) 8 (some (n + 193))) 4 1) (n + 200)) (a) 9 (some (n + 200))) 16 8) (a) 10 (some (n + 202))) 3 8) (a) 11 (some (n + 203))) 16 5) (a) 12 (some (n + 207))) 16 3) (a) 16 (some (n + 208))) 8 5) (n + 209)) (n + 99) 0 (some (n + 209))) 8 5) (n + 306)) (n + 99) 1 (some (n + 306)))
def g_X11_init (n : Nat) (I : Nat → Nat → Int32) (a : Nat) : Nat → Nat → Int32 := (g_X8_init (n + 307) (g_X8_init (n + 210) (dw_up (dw_up (g_X1_init (n + 101) (g_X8_init (n + 3) I (n + 2)) (n + 100)) (a) 14 (-1)) (a) 15 (-1)) (n + 209)) (n + 306))
theorem f_X11_init_k {n a b : Nat} {sh : dw_Sh} (hb : b < n) : ((f_X11_init n sh a) b).1 = (sh b).1 := by
  unfold f_X11_init
  repeat (first | rw [sh_sr_k] | rw [sh_nw_k (by omega)] | rw [sh_nm_k (by omega)] | rw [f_X0_init_k (by omega)] | rw [f_X1_init_k (by omega)] | rw [f_X2_init_k (by omega)] | rw [f_X3_init_k (by omega)] | rw [f_X4_init_k (by omega)] | rw [f_X5_init_k (by omega)] | rw [f_X6_init_k (by omega)] | rw [f_X7_init_k (by omega)] | rw [f_X8_init_k (by omega)] | rw [f_X9_init_k (by omega)] | rw [f_X10_init_k (by omega)])
theorem f_X11_init_l {n a b : Nat} {sh : dw_Sh} (hb : b < n) : ((f_X11_init n sh a) b).2.1 = (sh b).2.1 := by
  unfold f_X11_init
  repeat (first | rw [sh_sr_l] | rw [sh_nw_l (by omega)] | rw [sh_nm_l (by omega)] | rw [f_X0_init_l (by omega)] | rw [f_X1_init_l (by omega)] | rw [f_X2_init_l (by omega)] | rw [f_X3_init_l (by omega)] | rw [f_X4_init_l (by omega)] | rw [f_X5_init_l (by omega)] | rw [f_X6_init_l (by omega)] | rw [f_X7_init_l (by omega)] | rw [f_X8_init_l (by omega)] | rw [f_X9_init_l (by omega)] | rw [f_X10_init_l (by omega)])
theorem f_X11_init_r {n a b j : Nat} {sh : dw_Sh} (hb : b < n) (hne : b ≠ a) : ((f_X11_init n sh a) b).2.2 j = (sh b).2.2 j := by
  unfold f_X11_init
  repeat (first | rfl | rw [sh_sr_ra hne] | rw [sh_sr_ra (by omega)] | rw [sh_nw_r (by omega)] | rw [sh_nm_r (by omega)] | rw [f_X0_init_r (by omega) (by omega)] | rw [f_X1_init_r (by omega) (by omega)] | rw [f_X2_init_r (by omega) (by omega)] | rw [f_X3_init_r (by omega) (by omega)] | rw [f_X4_init_r (by omega) (by omega)] | rw [f_X5_init_r (by omega) (by omega)] | rw [f_X6_init_r (by omega) (by omega)] | rw [f_X7_init_r (by omega) (by omega)] | rw [f_X8_init_r (by omega) (by omega)] | rw [f_X9_init_r (by omega) (by omega)] | rw [f_X10_init_r (by omega) (by omega)])
theorem z_X11_init {n m a : Nat} {I : Nat → Nat → Int32} {J : Nat → Nat → Int64} (hz : dw_Z n I J) (hm : n + 403 = m) (ha : a < n) : dw_Z m (g_X11_init n I a) (J) := by
  subst hm
  exact (z_X8_init (n := n + 307) (m := n + 403) (a := n + 306) (dw_Z.up (m := n + 307) (z_X8_init (n := n + 210) (m := n + 306) (a := n + 209) (dw_Z.up (m := n + 210) (dw_Z.up (m := n + 209) (dw_Z.si (n := n + 208) (a := a) (dw_Z.si (n := n + 208) (a := a) (dw_Z.up (m := n + 208) (dw_Z.up (m := n + 207) (dw_Z.up (m := n + 203) (z_X4_init (n := n + 201) (m := n + 202) (a := n + 200) (dw_Z.up (m := n + 201) (z_X10_init (n := n + 194) (m := n + 200) (a := n + 193) (dw_Z.up (m := n + 194) (z_X7_init (n := n + 179) (m := n + 193) (a := n + 178) (dw_Z.up (m := n + 179) (z_X7_init (n := n + 164) (m := n + 178) (a := n + 163) (dw_Z.up (m := n + 164) (z_X6_init (n := n + 131) (m := n + 163) (a := n + 130) (dw_Z.up (m := n + 131) (z_X3_init (n := n + 123) (m := n + 130) (a := n + 122) (dw_Z.up (m := n + 123) (z_X1_init (n := n + 101) (m := n + 122) (a := n + 100) (dw_Z.up (m := n + 101) (dw_Z.up (m := n + 100) (z_X8_init (n := n + 3) (m := n + 99) (a := n + 2) (dw_Z.up (m := n + 3) (z_X9_init (n := n + 1) (m := n + 2) (a := n) (dw_Z.up (m := n + 1) hz (by omega)) rfl (Nat.add_lt_add_left (k := n) (Nat.le_of_ble_eq_true rfl : 0 < 1))) (by omega)) rfl (Nat.add_lt_add_left (k := n) (Nat.le_of_ble_eq_true rfl : 2 < 3))) (by omega)) (by omega)) rfl (Nat.add_lt_add_left (k := n) (Nat.le_of_ble_eq_true rfl : 100 < 101))) (by omega)) rfl (Nat.add_lt_add_left (k := n) (Nat.le_of_ble_eq_true rfl : 122 < 123))) (by omega)) rfl (Nat.add_lt_add_left (k := n) (Nat.le_of_ble_eq_true rfl : 130 < 131))) (by omega)) rfl (Nat.add_lt_add_left (k := n) (Nat.le_of_ble_eq_true rfl : 163 < 164))) (by omega)) rfl (Nat.add_lt_add_left (k := n) (Nat.le_of_ble_eq_true rfl : 178 < 179))) (by omega)) rfl (Nat.add_lt_add_left (k := n) (Nat.le_of_ble_eq_true rfl : 193 < 194))) (by omega)) rfl (Nat.add_lt_add_left (k := n) (Nat.le_of_ble_eq_true rfl : 200 < 201))) (by omega)) (by omega)) (by omega)) (Nat.lt_add_right 208 ha)) (Nat.lt_add_right 208 ha)) (by omega)) (by omega)) rfl (Nat.add_lt_add_left (k := n) (Nat.le_of_ble_eq_true rfl : 209 < 210))) (by omega)) rfl (Nat.add_lt_add_left (k := n) (Nat.le_of_ble_eq_true rfl : 306 < 307)))
set_option maxHeartbeats 4000000 in
set_option maxRecDepth 20000 in
theorem e_X11_init {K : dw_K} {n m : Nat} {sh : dw_Sh} {I : Nat → Nat → Int32} {J : Nat → Nat → Int64} {a : Nat} (hz : dw_Z n I J) (hm : n + 403 = m) (hn : n + 403 ≤ 1000000) (ha : a < n) (hk : (sh a).1 = 11) (hK : K none (m, f_X11_init n sh a, g_X11_init n I a, J)) : t_X11_init [.ref a] (n, sh, I, J) K := by
  subst hm
  refine dw_enter rfl ?_
  show dw_ok (pr_X11_init K) 0 403 26465 [some (.ref (a)), none] [] (n, sh, I, J)
  refine qi_ald rfl rfl ?_
  refine qi_oinit rfl rfl ?_
  refine qi_ald rfl rfl ?_
  refine qi_new (m := n + 1) (bc' := 402) (bs' := 26456) rfl hz rfl rfl (by omega) rfl (fun s1 hs1 => ?_)
  have y1 : (s1 (n)).1 = 9 := by rw [hs1]; exact sh_nw_at
  have hz2 : dw_Z (n + 1) I J := dw_Z.up hz (by omega)
  refine qi_dup rfl ?_
  refine qi_call (bc' := 401) (bs' := 25516) rfl y1 rfl rfl rfl ?_
  refine ea_X9_init (n := n + 1) (m := n + 2) (a := n) hz2 rfl (by omega) (Nat.add_lt_add_left (k := n) (Nat.le_of_ble_eq_true rfl : 0 < 1)) y1 (fun s2 hs2 => ?_)
  show dw_ok (pr_X11_init K) 12 401 25516 [some (.ref (a)), none] [.ref (n), .ref (a)] (n + 2, s2, I, J)
  have hz3 : dw_Z (n + 2) I J := z_X9_init (n := n + 1) (m := n + 2) (a := n) hz2 rfl (Nat.add_lt_add_left (k := n) (Nat.le_of_ble_eq_true rfl : 0 < 1))
  have y4 : (s1 (a)).1 = 11 := by rw [hs1]; exact Eq.trans (sh_nw_k ha) hk
  have y5 : (s2 (a)).1 = 11 := by rw [hs2]; exact Eq.trans (f_X9_init_k (Nat.lt_add_right 1 ha)) y4
  refine qi_putr rfl y5 (fun s3 hs3 => ?_)
  have y6 : (s3 (a)).2.2 0 = some (n) := by rw [hs3]; exact sh_sr_rat
  refine qi_ald rfl rfl ?_
  refine qi_new (m := n + 3) (bc' := 400) (bs' := 25511) rfl hz3 rfl rfl (by omega) rfl (fun s4 hs4 => ?_)
  have y7 : (s4 (n + 2)).1 = 8 := by rw [hs4]; exact sh_nw_at
  have hz8 : dw_Z (n + 3) I J := dw_Z.up hz3 (by omega)
  refine qi_dup rfl ?_
  refine qi_call (bc' := 304) (bs' := 18949) rfl y7 rfl rfl rfl ?_
  refine ea_X8_init (n := n + 3) (m := n + 99) (a := n + 2) hz8 rfl (by omega) (Nat.add_lt_add_left (k := n) (Nat.le_of_ble_eq_true rfl : 2 < 3)) y7 (fun s5 hs5 I9 hI9 => ?_)
  show dw_ok (pr_X11_init K) 23 304 18949 [some (.ref (a)), none] [.ref (n + 2), .ref (a)] (n + 99, s5, I9, J)
  have hz10 : dw_Z (n + 99) I9 J := by rw [hI9]; exact z_X8_init (n := n + 3) (m := n + 99) (a := n + 2) hz8 rfl (Nat.add_lt_add_left (k := n) (Nat.le_of_ble_eq_true rfl : 2 < 3))
  have y11 : (s3 (a)).1 = 11 := by rw [hs3]; exact Eq.trans sh_sr_k y5
  have y12 : (s4 (a)).1 = 11 := by rw [hs4]; exact Eq.trans (sh_nw_k (Nat.lt_add_right 2 ha)) y11
  have y13 : (s5 (a)).1 = 11 := by rw [hs5]; exact Eq.trans (f_X8_init_k (Nat.lt_add_right 3 ha)) y12
  refine qi_putr rfl y13 (fun s6 hs6 => ?_)
  have y14 : (s6 (a)).2.2 1 = some (n + 2) := by rw [hs6]; exact sh_sr_rat
  refine qi_ald rfl rfl ?_
  refine qi_ic rfl ?_
  refine qi_newa (m := n + 100) (N := 2) (bc' := 303) (bs' := 18947) rfl hz10 (by decide) (by decide) rfl rfl (by omega) rfl rfl (fun s7 hs7 => ?_)
  have y15 : (s7 (n + 99)).1 = 21 := by rw [hs7]; exact sh_nw_at
  have y16 : (s7 (n + 99)).2.1 = 2 := by rw [hs7]; exact sh_nw_la
  have hz17 : dw_Z (n + 100) I9 J := dw_Z.up hz10 (by omega)
  have y18 : (s6 (a)).1 = 11 := by rw [hs6]; exact Eq.trans sh_sr_k y13
  have y19 : (s7 (a)).1 = 11 := by rw [hs7]; exact Eq.trans (sh_nw_k (Nat.lt_add_right 99 ha)) y18
  refine qi_putr rfl y19 (fun s8 hs8 => ?_)
  have y20 : (s8 (a)).2.2 2 = some (n + 99) := by rw [hs8]; exact sh_sr_rat
  refine qi_ald rfl rfl ?_
  refine qi_new (m := n + 101) (bc' := 302) (bs' := 18942) rfl hz17 rfl rfl (by omega) rfl (fun s9 hs9 => ?_)
  have y21 : (s9 (n + 100)).1 = 1 := by rw [hs9]; exact sh_nw_at
  have hz22 : dw_Z (n + 101) I9 J := dw_Z.up hz17 (by omega)
  refine qi_dup rfl ?_
  refine qi_call (bc' := 281) (bs' := 18544) rfl y21 rfl rfl rfl ?_
  refine ea_X1_init (n := n + 101) (m := n + 122) (a := n + 100) hz22 rfl (by omega) (Nat.add_lt_add_left (k := n) (Nat.le_of_ble_eq_true rfl : 100 < 101)) y21 (fun s10 hs10 I23 hI23 => ?_)
  show dw_ok (pr_X11_init K) 42 281 18544 [some (.ref (a)), none] [.ref (n + 100), .ref (a)] (n + 122, s10, I23, J)
  have hz24 : dw_Z (n + 122) I23 J := by rw [hI23]; exact z_X1_init (n := n + 101) (m := n + 122) (a := n + 100) hz22 rfl (Nat.add_lt_add_left (k := n) (Nat.le_of_ble_eq_true rfl : 100 < 101))
  have y25 : (s8 (a)).1 = 11 := by rw [hs8]; exact Eq.trans sh_sr_k y19
  have y26 : (s9 (a)).1 = 11 := by rw [hs9]; exact Eq.trans (sh_nw_k (Nat.lt_add_right 100 ha)) y25
  have y27 : (s10 (a)).1 = 11 := by rw [hs10]; exact Eq.trans (f_X1_init_k (Nat.lt_add_right 101 ha)) y26
  refine qi_putr rfl y27 (fun s11 hs11 => ?_)
  have y28 : (s11 (a)).2.2 3 = some (n + 100) := by rw [hs11]; exact sh_sr_rat
  refine qi_ald rfl rfl ?_
  refine qi_new (m := n + 123) (bc' := 280) (bs' := 18542) rfl hz24 rfl rfl (by omega) rfl (fun s12 hs12 => ?_)
  have y29 : (s12 (n + 122)).1 = 3 := by rw [hs12]; exact sh_nw_at
  have hz30 : dw_Z (n + 123) I23 J := dw_Z.up hz24 (by omega)
  refine qi_dup rfl ?_
  refine qi_call (bc' := 273) (bs' := 17815) rfl y29 rfl rfl rfl ?_
  refine ea_X3_init (n := n + 123) (m := n + 130) (a := n + 122) hz30 rfl (by omega) (Nat.add_lt_add_left (k := n) (Nat.le_of_ble_eq_true rfl : 122 < 123)) y29 (fun s13 hs13 => ?_)
  show dw_ok (pr_X11_init K) 53 273 17815 [some (.ref (a)), none] [.ref (n + 122), .ref (a)] (n + 130, s13, I23, J)
  have hz31 : dw_Z (n + 130) I23 J := z_X3_init (n := n + 123) (m := n + 130) (a := n + 122) hz30 rfl (Nat.add_lt_add_left (k := n) (Nat.le_of_ble_eq_true rfl : 122 < 123))
  have y32 : (s11 (a)).1 = 11 := by rw [hs11]; exact Eq.trans sh_sr_k y27
  have y33 : (s12 (a)).1 = 11 := by rw [hs12]; exact Eq.trans (sh_nw_k (Nat.lt_add_right 122 ha)) y32
  have y34 : (s13 (a)).1 = 11 := by rw [hs13]; exact Eq.trans (f_X3_init_k (Nat.lt_add_right 123 ha)) y33
  refine qi_putr rfl y34 (fun s14 hs14 => ?_)
  have y35 : (s14 (a)).2.2 4 = some (n + 122) := by rw [hs14]; exact sh_sr_rat
  refine qi_ald rfl rfl ?_
  refine qi_new (m := n + 131) (bc' := 272) (bs' := 17814) rfl hz31 rfl rfl (by omega) rfl (fun s15 hs15 => ?_)
  have y36 : (s15 (n + 130)).1 = 6 := by rw [hs15]; exact sh_nw_at
  have hz37 : dw_Z (n + 131) I23 J := dw_Z.up hz31 (by omega)
  refine qi_dup rfl ?_
  refine qi_call (bc' := 240) (bs' := 17692) rfl y36 rfl rfl rfl ?_
  refine ea_X6_init (n := n + 131) (m := n + 163) (a := n + 130) hz37 rfl (by omega) (Nat.add_lt_add_left (k := n) (Nat.le_of_ble_eq_true rfl : 130 < 131)) y36 (fun s16 hs16 => ?_)
  show dw_ok (pr_X11_init K) 64 240 17692 [some (.ref (a)), none] [.ref (n + 130), .ref (a)] (n + 163, s16, I23, J)
  have hz38 : dw_Z (n + 163) I23 J := z_X6_init (n := n + 131) (m := n + 163) (a := n + 130) hz37 rfl (Nat.add_lt_add_left (k := n) (Nat.le_of_ble_eq_true rfl : 130 < 131))
  have y39 : (s14 (a)).1 = 11 := by rw [hs14]; exact Eq.trans sh_sr_k y34
  have y40 : (s15 (a)).1 = 11 := by rw [hs15]; exact Eq.trans (sh_nw_k (Nat.lt_add_right 130 ha)) y39
  have y41 : (s16 (a)).1 = 11 := by rw [hs16]; exact Eq.trans (f_X6_init_k (Nat.lt_add_right 131 ha)) y40
  refine qi_putr rfl y41 (fun s17 hs17 => ?_)
  have y42 : (s17 (a)).2.2 5 = some (n + 130) := by rw [hs17]; exact sh_sr_rat
  refine qi_ald rfl rfl ?_
  refine qi_new (m := n + 164) (bc' := 239) (bs' := 17677) rfl hz38 rfl rfl (by omega) rfl (fun s18 hs18 => ?_)
  have y43 : (s18 (n + 163)).1 = 7 := by rw [hs18]; exact sh_nw_at
  have hz44 : dw_Z (n + 164) I23 J := dw_Z.up hz38 (by omega)
  refine qi_dup rfl ?_
  refine qi_call (bc' := 225) (bs' := 15942) rfl y43 rfl rfl rfl ?_
  refine ea_X7_init (n := n + 164) (m := n + 178) (a := n + 163) hz44 rfl (by omega) (Nat.add_lt_add_left (k := n) (Nat.le_of_ble_eq_true rfl : 163 < 164)) y43 (fun s19 hs19 => ?_)
  show dw_ok (pr_X11_init K) 75 225 15942 [some (.ref (a)), none] [.ref (n + 163), .ref (a)] (n + 178, s19, I23, J)
  have hz45 : dw_Z (n + 178) I23 J := z_X7_init (n := n + 164) (m := n + 178) (a := n + 163) hz44 rfl (Nat.add_lt_add_left (k := n) (Nat.le_of_ble_eq_true rfl : 163 < 164))
  have y46 : (s17 (a)).1 = 11 := by rw [hs17]; exact Eq.trans sh_sr_k y41
  have y47 : (s18 (a)).1 = 11 := by rw [hs18]; exact Eq.trans (sh_nw_k (Nat.lt_add_right 163 ha)) y46
  have y48 : (s19 (a)).1 = 11 := by rw [hs19]; exact Eq.trans (f_X7_init_k (Nat.lt_add_right 164 ha)) y47
  refine qi_putr rfl y48 (fun s20 hs20 => ?_)
  have y49 : (s20 (a)).2.2 6 = some (n + 163) := by rw [hs20]; exact sh_sr_rat
  refine qi_ald rfl rfl ?_
  refine qi_new (m := n + 179) (bc' := 224) (bs' := 15927) rfl hz45 rfl rfl (by omega) rfl (fun s21 hs21 => ?_)
  have y50 : (s21 (n + 178)).1 = 7 := by rw [hs21]; exact sh_nw_at
  have hz51 : dw_Z (n + 179) I23 J := dw_Z.up hz45 (by omega)
  refine qi_dup rfl ?_
  refine qi_call (bc' := 210) (bs' := 14192) rfl y50 rfl rfl rfl ?_
  refine ea_X7_init (n := n + 179) (m := n + 193) (a := n + 178) hz51 rfl (by omega) (Nat.add_lt_add_left (k := n) (Nat.le_of_ble_eq_true rfl : 178 < 179)) y50 (fun s22 hs22 => ?_)
  show dw_ok (pr_X11_init K) 86 210 14192 [some (.ref (a)), none] [.ref (n + 178), .ref (a)] (n + 193, s22, I23, J)
  have hz52 : dw_Z (n + 193) I23 J := z_X7_init (n := n + 179) (m := n + 193) (a := n + 178) hz51 rfl (Nat.add_lt_add_left (k := n) (Nat.le_of_ble_eq_true rfl : 178 < 179))
  have y53 : (s20 (a)).1 = 11 := by rw [hs20]; exact Eq.trans sh_sr_k y48
  have y54 : (s21 (a)).1 = 11 := by rw [hs21]; exact Eq.trans (sh_nw_k (Nat.lt_add_right 178 ha)) y53
  have y55 : (s22 (a)).1 = 11 := by rw [hs22]; exact Eq.trans (f_X7_init_k (Nat.lt_add_right 179 ha)) y54
  refine qi_putr rfl y55 (fun s23 hs23 => ?_)
  have y56 : (s23 (a)).2.2 7 = some (n + 178) := by rw [hs23]; exact sh_sr_rat
  refine qi_ald rfl rfl ?_
  refine qi_new (m := n + 194) (bc' := 209) (bs' := 14186) rfl hz52 rfl rfl (by omega) rfl (fun s24 hs24 => ?_)
  have y57 : (s24 (n + 193)).1 = 10 := by rw [hs24]; exact sh_nw_at
  have hz58 : dw_Z (n + 194) I23 J := dw_Z.up hz52 (by omega)
  refine qi_dup rfl ?_
  refine qi_call (bc' := 203) (bs' := 13322) rfl y57 rfl rfl rfl ?_
  refine ea_X10_init (n := n + 194) (m := n + 200) (a := n + 193) hz58 rfl (by omega) (Nat.add_lt_add_left (k := n) (Nat.le_of_ble_eq_true rfl : 193 < 194)) y57 (fun s25 hs25 => ?_)
  show dw_ok (pr_X11_init K) 97 203 13322 [some (.ref (a)), none] [.ref (n + 193), .ref (a)] (n + 200, s25, I23, J)
  have hz59 : dw_Z (n + 200) I23 J := z_X10_init (n := n + 194) (m := n + 200) (a := n + 193) hz58 rfl (Nat.add_lt_add_left (k := n) (Nat.le_of_ble_eq_true rfl : 193 < 194))
  have y60 : (s23 (a)).1 = 11 := by rw [hs23]; exact Eq.trans sh_sr_k y55
  have y61 : (s24 (a)).1 = 11 := by rw [hs24]; exact Eq.trans (sh_nw_k (Nat.lt_add_right 193 ha)) y60
  have y62 : (s25 (a)).1 = 11 := by rw [hs25]; exact Eq.trans (f_X10_init_k (Nat.lt_add_right 194 ha)) y61
  refine qi_putr rfl y62 (fun s26 hs26 => ?_)
  have y63 : (s26 (a)).2.2 8 = some (n + 193) := by rw [hs26]; exact sh_sr_rat
  refine qi_ald rfl rfl ?_
  refine qi_new (m := n + 201) (bc' := 202) (bs' := 13321) rfl hz59 rfl rfl (by omega) rfl (fun s27 hs27 => ?_)
  have y64 : (s27 (n + 200)).1 = 4 := by rw [hs27]; exact sh_nw_at
  have hz65 : dw_Z (n + 201) I23 J := dw_Z.up hz59 (by omega)
  refine qi_dup rfl ?_
  refine qi_call (bc' := 201) (bs' := 13177) rfl y64 rfl rfl rfl ?_
  refine ea_X4_init (n := n + 201) (m := n + 202) (a := n + 200) hz65 rfl (by omega) (Nat.add_lt_add_left (k := n) (Nat.le_of_ble_eq_true rfl : 200 < 201)) y64 (fun s28 hs28 => ?_)
  show dw_ok (pr_X11_init K) 108 201 13177 [some (.ref (a)), none] [.ref (n + 200), .ref (a)] (n + 202, s28, I23, J)
  have hz66 : dw_Z (n + 202) I23 J := z_X4_init (n := n + 201) (m := n + 202) (a := n + 200) hz65 rfl (Nat.add_lt_add_left (k := n) (Nat.le_of_ble_eq_true rfl : 200 < 201))
  have y67 : (s26 (a)).1 = 11 := by rw [hs26]; exact Eq.trans sh_sr_k y62
  have y68 : (s27 (a)).1 = 11 := by rw [hs27]; exact Eq.trans (sh_nw_k (Nat.lt_add_right 200 ha)) y67
  have y69 : (s28 (a)).1 = 11 := by rw [hs28]; exact Eq.trans (f_X4_init_k (Nat.lt_add_right 201 ha)) y68
  refine qi_putr rfl y69 (fun s29 hs29 => ?_)
  have y70 : (s29 (a)).2.2 9 = some (n + 200) := by rw [hs29]; exact sh_sr_rat
  refine qi_ald rfl rfl ?_
  refine qi_ic rfl ?_
  refine qi_newa (m := n + 203) (N := 8) (bc' := 200) (bs' := 13169) rfl hz66 (by decide) (by decide) rfl rfl (by omega) rfl rfl (fun s30 hs30 => ?_)
  have y71 : (s30 (n + 202)).1 = 16 := by rw [hs30]; exact sh_nw_at
  have y72 : (s30 (n + 202)).2.1 = 8 := by rw [hs30]; exact sh_nw_la
  have hz73 : dw_Z (n + 203) I23 J := dw_Z.up hz66 (by omega)
  have y74 : (s29 (a)).1 = 11 := by rw [hs29]; exact Eq.trans sh_sr_k y69
  have y75 : (s30 (a)).1 = 11 := by rw [hs30]; exact Eq.trans (sh_nw_k (Nat.lt_add_right 202 ha)) y74
  refine qi_putr rfl y75 (fun s31 hs31 => ?_)
  have y76 : (s31 (a)).2.2 10 = some (n + 202) := by rw [hs31]; exact sh_sr_rat
  refine qi_ald rfl rfl ?_
  refine qi_ic rfl ?_
  refine qi_ic rfl ?_
  refine qi_mna (m := n + 207) (N := 3) (Kk := 8) (bc' := 196) (bs' := 13142) rfl hz73 (by decide) (by decide) (by decide) (by decide) rfl rfl (by omega) rfl rfl rfl (fun s32 hs32 => ?_)
  have hz77 : dw_Z (n + 207) I23 J := dw_Z.up hz73 (by omega)
  have y78 : (s31 (a)).1 = 11 := by rw [hs31]; exact Eq.trans sh_sr_k y75
  have y79 : (s32 (a)).1 = 11 := by rw [hs32]; exact Eq.trans (sh_nm_k (Nat.lt_add_right 203 ha)) y78
  refine qi_putr rfl y79 (fun s33 hs33 => ?_)
  have y80 : (s33 (a)).2.2 11 = some (n + 203) := by rw [hs33]; exact sh_sr_rat
  refine qi_ald rfl rfl ?_
  refine qi_ic rfl ?_
  refine qi_newa (m := n + 208) (N := 5) (bc' := 195) (bs' := 13137) rfl hz77 (by decide) (by decide) rfl rfl (by omega) rfl rfl (fun s34 hs34 => ?_)
  have y81 : (s34 (n + 207)).1 = 16 := by rw [hs34]; exact sh_nw_at
  have y82 : (s34 (n + 207)).2.1 = 5 := by rw [hs34]; exact sh_nw_la
  have hz83 : dw_Z (n + 208) I23 J := dw_Z.up hz77 (by omega)
  have y84 : (s33 (a)).1 = 11 := by rw [hs33]; exact Eq.trans sh_sr_k y79
  have y85 : (s34 (a)).1 = 11 := by rw [hs34]; exact Eq.trans (sh_nw_k (Nat.lt_add_right 207 ha)) y84
  refine qi_putr rfl y85 (fun s35 hs35 => ?_)
  have y86 : (s35 (a)).2.2 12 = some (n + 207) := by rw [hs35]; exact sh_sr_rat
  refine qi_ald rfl rfl ?_
  refine qi_ic rfl ?_
  have y87 : (s35 (a)).1 = 11 := by rw [hs35]; exact Eq.trans sh_sr_k y85
  refine qi_puti rfl y87 (fun I88 hI88 => ?_)
  have hz89 : dw_Z (n + 208) I88 J := by rw [hI88]; exact dw_Z.si hz83 (Nat.lt_add_right 208 ha)
  refine qi_ald rfl rfl ?_
  refine qi_ic rfl ?_
  refine qi_puti rfl y87 (fun I90 hI90 => ?_)
  have hz91 : dw_Z (n + 208) I90 J := by rw [hI90]; exact dw_Z.si hz89 (Nat.lt_add_right 208 ha)
  refine qi_ald rfl rfl ?_
  refine qi_ic rfl ?_
  refine qi_newa (m := n + 209) (N := 3) (bc' := 194) (bs' := 13134) rfl hz91 (by decide) (by decide) rfl rfl (by omega) rfl rfl (fun s36 hs36 => ?_)
  have y92 : (s36 (n + 208)).1 = 16 := by rw [hs36]; exact sh_nw_at
  have y93 : (s36 (n + 208)).2.1 = 3 := by rw [hs36]; exact sh_nw_la
  have hz94 : dw_Z (n + 209) I90 J := dw_Z.up hz91 (by omega)
  have y95 : (s36 (a)).1 = 11 := by rw [hs36]; exact Eq.trans (sh_nw_k (Nat.lt_add_right 208 ha)) y87
  refine qi_putr rfl y95 (fun s37 hs37 => ?_)
  have y96 : (s37 (a)).2.2 16 = some (n + 208) := by rw [hs37]; exact sh_sr_rat
  refine qi_ic rfl ?_
  refine qi_ist rfl rfl ?_
  show dw_ok (pr_X11_init K) 156 194 13134 [some (.ref (a)), some (.int 0)] [] (n + 209, s37, I90, J)
  refine qi_ild rfl rfl ?_
  refine qi_ic rfl ?_
  refine qi_ge_n rfl (by decide) ?_
  refine qi_ald rfl rfl ?_
  have y97 : (s37 (a)).1 = 11 := by rw [hs37]; exact Eq.trans sh_sr_k y95
  have y98 : (s9 (a)).2.2 2 = some (n + 99) := by rw [hs9]; exact Eq.trans (sh_nw_r (Nat.lt_add_right 100 ha)) y20
  have y99 : (s10 (a)).2.2 2 = some (n + 99) := by rw [hs10]; exact Eq.trans (f_X1_init_r (Nat.lt_add_right 101 ha) (by omega)) y98
  have y100 : (s11 (a)).2.2 2 = some (n + 99) := by rw [hs11]; exact Eq.trans (sh_sr_rj (Nat.ne_of_beq_eq_false rfl)) y99
  have y101 : (s12 (a)).2.2 2 = some (n + 99) := by rw [hs12]; exact Eq.trans (sh_nw_r (Nat.lt_add_right 122 ha)) y100
  have y102 : (s13 (a)).2.2 2 = some (n + 99) := by rw [hs13]; exact Eq.trans (f_X3_init_r (Nat.lt_add_right 123 ha) (by omega)) y101
  have y103 : (s14 (a)).2.2 2 = some (n + 99) := by rw [hs14]; exact Eq.trans (sh_sr_rj (Nat.ne_of_beq_eq_false rfl)) y102
  have y104 : (s15 (a)).2.2 2 = some (n + 99) := by rw [hs15]; exact Eq.trans (sh_nw_r (Nat.lt_add_right 130 ha)) y103
  have y105 : (s16 (a)).2.2 2 = some (n + 99) := by rw [hs16]; exact Eq.trans (f_X6_init_r (Nat.lt_add_right 131 ha) (by omega)) y104
  have y106 : (s17 (a)).2.2 2 = some (n + 99) := by rw [hs17]; exact Eq.trans (sh_sr_rj (Nat.ne_of_beq_eq_false rfl)) y105
  have y107 : (s18 (a)).2.2 2 = some (n + 99) := by rw [hs18]; exact Eq.trans (sh_nw_r (Nat.lt_add_right 163 ha)) y106
  have y108 : (s19 (a)).2.2 2 = some (n + 99) := by rw [hs19]; exact Eq.trans (f_X7_init_r (Nat.lt_add_right 164 ha) (by omega)) y107
  have y109 : (s20 (a)).2.2 2 = some (n + 99) := by rw [hs20]; exact Eq.trans (sh_sr_rj (Nat.ne_of_beq_eq_false rfl)) y108
  have y110 : (s21 (a)).2.2 2 = some (n + 99) := by rw [hs21]; exact Eq.trans (sh_nw_r (Nat.lt_add_right 178 ha)) y109
  have y111 : (s22 (a)).2.2 2 = some (n + 99) := by rw [hs22]; exact Eq.trans (f_X7_init_r (Nat.lt_add_right 179 ha) (by omega)) y110
  have y112 : (s23 (a)).2.2 2 = some (n + 99) := by rw [hs23]; exact Eq.trans (sh_sr_rj (Nat.ne_of_beq_eq_false rfl)) y111
  have y113 : (s24 (a)).2.2 2 = some (n + 99) := by rw [hs24]; exact Eq.trans (sh_nw_r (Nat.lt_add_right 193 ha)) y112
  have y114 : (s25 (a)).2.2 2 = some (n + 99) := by rw [hs25]; exact Eq.trans (f_X10_init_r (Nat.lt_add_right 194 ha) (by omega)) y113
  have y115 : (s26 (a)).2.2 2 = some (n + 99) := by rw [hs26]; exact Eq.trans (sh_sr_rj (Nat.ne_of_beq_eq_false rfl)) y114
  have y116 : (s27 (a)).2.2 2 = some (n + 99) := by rw [hs27]; exact Eq.trans (sh_nw_r (Nat.lt_add_right 200 ha)) y115
  have y117 : (s28 (a)).2.2 2 = some (n + 99) := by rw [hs28]; exact Eq.trans (f_X4_init_r (Nat.lt_add_right 201 ha) (by omega)) y116
  have y118 : (s29 (a)).2.2 2 = some (n + 99) := by rw [hs29]; exact Eq.trans (sh_sr_rj (Nat.ne_of_beq_eq_false rfl)) y117
  have y119 : (s30 (a)).2.2 2 = some (n + 99) := by rw [hs30]; exact Eq.trans (sh_nw_r (Nat.lt_add_right 202 ha)) y118
  have y120 : (s31 (a)).2.2 2 = some (n + 99) := by rw [hs31]; exact Eq.trans (sh_sr_rj (Nat.ne_of_beq_eq_false rfl)) y119
  have y121 : (s32 (a)).2.2 2 = some (n + 99) := by rw [hs32]; exact Eq.trans (sh_nm_r (Nat.lt_add_right 203 ha)) y120
  have y122 : (s33 (a)).2.2 2 = some (n + 99) := by rw [hs33]; exact Eq.trans (sh_sr_rj (Nat.ne_of_beq_eq_false rfl)) y121
  have y123 : (s34 (a)).2.2 2 = some (n + 99) := by rw [hs34]; exact Eq.trans (sh_nw_r (Nat.lt_add_right 207 ha)) y122
  have y124 : (s35 (a)).2.2 2 = some (n + 99) := by rw [hs35]; exact Eq.trans (sh_sr_rj (Nat.ne_of_beq_eq_false rfl)) y123
  have y125 : (s36 (a)).2.2 2 = some (n + 99) := by rw [hs36]; exact Eq.trans (sh_nw_r (Nat.lt_add_right 208 ha)) y124
  have y126 : (s37 (a)).2.2 2 = some (n + 99) := by rw [hs37]; exact Eq.trans (sh_sr_rj (Nat.ne_of_beq_eq_false rfl)) y125
  refine qi_getr rfl y97 y126 ?_
  refine qi_ild rfl rfl ?_
  refine qi_new (m := n + 210) (bc' := 193) (bs' := 13129) rfl hz94 rfl rfl (by omega) rfl (fun s38 hs38 => ?_)
  have y127 : (s38 (n + 209)).1 = 8 := by rw [hs38]; exact sh_nw_at
  have hz128 : dw_Z (n + 210) I90 J := dw_Z.up hz94 (by omega)
  refine qi_dup rfl ?_
  refine qi_call (bc' := 97) (bs' := 6567) rfl y127 rfl rfl rfl ?_
  refine ea_X8_init (n := n + 210) (m := n + 306) (a := n + 209) hz128 rfl (by omega) (Nat.add_lt_add_left (k := n) (Nat.le_of_ble_eq_true rfl : 209 < 210)) y127 (fun s39 hs39 I129 hI129 => ?_)
  show dw_ok (pr_X11_init K) 173 97 6567 [some (.ref (a)), some (.int 0)] [.ref (n + 209), .int 0, .ref (n + 99)] (n + 306, s39, I129, J)
  have hz130 : dw_Z (n + 306) I129 J := by rw [hI129]; exact z_X8_init (n := n + 210) (m := n + 306) (a := n + 209) hz128 rfl (Nat.add_lt_add_left (k := n) (Nat.le_of_ble_eq_true rfl : 209 < 210))
  have y131 : (s8 (n + 99)).1 = 21 := by rw [hs8]; exact Eq.trans sh_sr_k y15
  have y132 : (s9 (n + 99)).1 = 21 := by rw [hs9]; exact Eq.trans (sh_nw_k (Nat.add_lt_add_left (k := n) (Nat.le_of_ble_eq_true rfl : 99 < 100))) y131
  have y133 : (s10 (n + 99)).1 = 21 := by rw [hs10]; exact Eq.trans (f_X1_init_k (Nat.add_lt_add_left (k := n) (Nat.le_of_ble_eq_true rfl : 99 < 101))) y132
  have y134 : (s11 (n + 99)).1 = 21 := by rw [hs11]; exact Eq.trans sh_sr_k y133
  have y135 : (s12 (n + 99)).1 = 21 := by rw [hs12]; exact Eq.trans (sh_nw_k (Nat.add_lt_add_left (k := n) (Nat.le_of_ble_eq_true rfl : 99 < 122))) y134
  have y136 : (s13 (n + 99)).1 = 21 := by rw [hs13]; exact Eq.trans (f_X3_init_k (Nat.add_lt_add_left (k := n) (Nat.le_of_ble_eq_true rfl : 99 < 123))) y135
  have y137 : (s14 (n + 99)).1 = 21 := by rw [hs14]; exact Eq.trans sh_sr_k y136
  have y138 : (s15 (n + 99)).1 = 21 := by rw [hs15]; exact Eq.trans (sh_nw_k (Nat.add_lt_add_left (k := n) (Nat.le_of_ble_eq_true rfl : 99 < 130))) y137
  have y139 : (s16 (n + 99)).1 = 21 := by rw [hs16]; exact Eq.trans (f_X6_init_k (Nat.add_lt_add_left (k := n) (Nat.le_of_ble_eq_true rfl : 99 < 131))) y138
  have y140 : (s17 (n + 99)).1 = 21 := by rw [hs17]; exact Eq.trans sh_sr_k y139
  have y141 : (s18 (n + 99)).1 = 21 := by rw [hs18]; exact Eq.trans (sh_nw_k (Nat.add_lt_add_left (k := n) (Nat.le_of_ble_eq_true rfl : 99 < 163))) y140
  have y142 : (s19 (n + 99)).1 = 21 := by rw [hs19]; exact Eq.trans (f_X7_init_k (Nat.add_lt_add_left (k := n) (Nat.le_of_ble_eq_true rfl : 99 < 164))) y141
  have y143 : (s20 (n + 99)).1 = 21 := by rw [hs20]; exact Eq.trans sh_sr_k y142
  have y144 : (s21 (n + 99)).1 = 21 := by rw [hs21]; exact Eq.trans (sh_nw_k (Nat.add_lt_add_left (k := n) (Nat.le_of_ble_eq_true rfl : 99 < 178))) y143
  have y145 : (s22 (n + 99)).1 = 21 := by rw [hs22]; exact Eq.trans (f_X7_init_k (Nat.add_lt_add_left (k := n) (Nat.le_of_ble_eq_true rfl : 99 < 179))) y144
  have y146 : (s23 (n + 99)).1 = 21 := by rw [hs23]; exact Eq.trans sh_sr_k y145
  have y147 : (s24 (n + 99)).1 = 21 := by rw [hs24]; exact Eq.trans (sh_nw_k (Nat.add_lt_add_left (k := n) (Nat.le_of_ble_eq_true rfl : 99 < 193))) y146
  have y148 : (s25 (n + 99)).1 = 21 := by rw [hs25]; exact Eq.trans (f_X10_init_k (Nat.add_lt_add_left (k := n) (Nat.le_of_ble_eq_true rfl : 99 < 194))) y147
  have y149 : (s26 (n + 99)).1 = 21 := by rw [hs26]; exact Eq.trans sh_sr_k y148
  have y150 : (s27 (n + 99)).1 = 21 := by rw [hs27]; exact Eq.trans (sh_nw_k (Nat.add_lt_add_left (k := n) (Nat.le_of_ble_eq_true rfl : 99 < 200))) y149
  have y151 : (s28 (n + 99)).1 = 21 := by rw [hs28]; exact Eq.trans (f_X4_init_k (Nat.add_lt_add_left (k := n) (Nat.le_of_ble_eq_true rfl : 99 < 201))) y150
  have y152 : (s29 (n + 99)).1 = 21 := by rw [hs29]; exact Eq.trans sh_sr_k y151
  have y153 : (s30 (n + 99)).1 = 21 := by rw [hs30]; exact Eq.trans (sh_nw_k (Nat.add_lt_add_left (k := n) (Nat.le_of_ble_eq_true rfl : 99 < 202))) y152
  have y154 : (s31 (n + 99)).1 = 21 := by rw [hs31]; exact Eq.trans sh_sr_k y153
  have y155 : (s32 (n + 99)).1 = 21 := by rw [hs32]; exact Eq.trans (sh_nm_k (Nat.add_lt_add_left (k := n) (Nat.le_of_ble_eq_true rfl : 99 < 203))) y154
  have y156 : (s33 (n + 99)).1 = 21 := by rw [hs33]; exact Eq.trans sh_sr_k y155
  have y157 : (s34 (n + 99)).1 = 21 := by rw [hs34]; exact Eq.trans (sh_nw_k (Nat.add_lt_add_left (k := n) (Nat.le_of_ble_eq_true rfl : 99 < 207))) y156
  have y158 : (s35 (n + 99)).1 = 21 := by rw [hs35]; exact Eq.trans sh_sr_k y157
  have y159 : (s36 (n + 99)).1 = 21 := by rw [hs36]; exact Eq.trans (sh_nw_k (Nat.add_lt_add_left (k := n) (Nat.le_of_ble_eq_true rfl : 99 < 208))) y158
  have y160 : (s37 (n + 99)).1 = 21 := by rw [hs37]; exact Eq.trans sh_sr_k y159
  have y161 : (s38 (n + 99)).1 = 21 := by rw [hs38]; exact Eq.trans (sh_nw_k (Nat.add_lt_add_left (k := n) (Nat.le_of_ble_eq_true rfl : 99 < 209))) y160
  have y162 : (s39 (n + 99)).1 = 21 := by rw [hs39]; exact Eq.trans (f_X8_init_k (Nat.add_lt_add_left (k := n) (Nat.le_of_ble_eq_true rfl : 99 < 210))) y161
  have y163 : (s39 (n + 209)).1 = 8 := by rw [hs39]; exact Eq.trans (f_X8_init_k (Nat.add_lt_add_left (k := n) (Nat.le_of_ble_eq_true rfl : 209 < 210))) y127
  have y164 : (s8 (n + 99)).2.1 = 2 := by rw [hs8]; exact Eq.trans sh_sr_l y16
  have y165 : (s9 (n + 99)).2.1 = 2 := by rw [hs9]; exact Eq.trans (sh_nw_l (Nat.add_lt_add_left (k := n) (Nat.le_of_ble_eq_true rfl : 99 < 100))) y164
  have y166 : (s10 (n + 99)).2.1 = 2 := by rw [hs10]; exact Eq.trans (f_X1_init_l (Nat.add_lt_add_left (k := n) (Nat.le_of_ble_eq_true rfl : 99 < 101))) y165
  have y167 : (s11 (n + 99)).2.1 = 2 := by rw [hs11]; exact Eq.trans sh_sr_l y166
  have y168 : (s12 (n + 99)).2.1 = 2 := by rw [hs12]; exact Eq.trans (sh_nw_l (Nat.add_lt_add_left (k := n) (Nat.le_of_ble_eq_true rfl : 99 < 122))) y167
  have y169 : (s13 (n + 99)).2.1 = 2 := by rw [hs13]; exact Eq.trans (f_X3_init_l (Nat.add_lt_add_left (k := n) (Nat.le_of_ble_eq_true rfl : 99 < 123))) y168
  have y170 : (s14 (n + 99)).2.1 = 2 := by rw [hs14]; exact Eq.trans sh_sr_l y169
  have y171 : (s15 (n + 99)).2.1 = 2 := by rw [hs15]; exact Eq.trans (sh_nw_l (Nat.add_lt_add_left (k := n) (Nat.le_of_ble_eq_true rfl : 99 < 130))) y170
  have y172 : (s16 (n + 99)).2.1 = 2 := by rw [hs16]; exact Eq.trans (f_X6_init_l (Nat.add_lt_add_left (k := n) (Nat.le_of_ble_eq_true rfl : 99 < 131))) y171
  have y173 : (s17 (n + 99)).2.1 = 2 := by rw [hs17]; exact Eq.trans sh_sr_l y172
  have y174 : (s18 (n + 99)).2.1 = 2 := by rw [hs18]; exact Eq.trans (sh_nw_l (Nat.add_lt_add_left (k := n) (Nat.le_of_ble_eq_true rfl : 99 < 163))) y173
  have y175 : (s19 (n + 99)).2.1 = 2 := by rw [hs19]; exact Eq.trans (f_X7_init_l (Nat.add_lt_add_left (k := n) (Nat.le_of_ble_eq_true rfl : 99 < 164))) y174
  have y176 : (s20 (n + 99)).2.1 = 2 := by rw [hs20]; exact Eq.trans sh_sr_l y175
  have y177 : (s21 (n + 99)).2.1 = 2 := by rw [hs21]; exact Eq.trans (sh_nw_l (Nat.add_lt_add_left (k := n) (Nat.le_of_ble_eq_true rfl : 99 < 178))) y176
  have y178 : (s22 (n + 99)).2.1 = 2 := by rw [hs22]; exact Eq.trans (f_X7_init_l (Nat.add_lt_add_left (k := n) (Nat.le_of_ble_eq_true rfl : 99 < 179))) y177
  have y179 : (s23 (n + 99)).2.1 = 2 := by rw [hs23]; exact Eq.trans sh_sr_l y178
  have y180 : (s24 (n + 99)).2.1 = 2 := by rw [hs24]; exact Eq.trans (sh_nw_l (Nat.add_lt_add_left (k := n) (Nat.le_of_ble_eq_true rfl : 99 < 193))) y179
  have y181 : (s25 (n + 99)).2.1 = 2 := by rw [hs25]; exact Eq.trans (f_X10_init_l (Nat.add_lt_add_left (k := n) (Nat.le_of_ble_eq_true rfl : 99 < 194))) y180
  have y182 : (s26 (n + 99)).2.1 = 2 := by rw [hs26]; exact Eq.trans sh_sr_l y181
  have y183 : (s27 (n + 99)).2.1 = 2 := by rw [hs27]; exact Eq.trans (sh_nw_l (Nat.add_lt_add_left (k := n) (Nat.le_of_ble_eq_true rfl : 99 < 200))) y182
  have y184 : (s28 (n + 99)).2.1 = 2 := by rw [hs28]; exact Eq.trans (f_X4_init_l (Nat.add_lt_add_left (k := n) (Nat.le_of_ble_eq_true rfl : 99 < 201))) y183
  have y185 : (s29 (n + 99)).2.1 = 2 := by rw [hs29]; exact Eq.trans sh_sr_l y184
  have y186 : (s30 (n + 99)).2.1 = 2 := by rw [hs30]; exact Eq.trans (sh_nw_l (Nat.add_lt_add_left (k := n) (Nat.le_of_ble_eq_true rfl : 99 < 202))) y185
  have y187 : (s31 (n + 99)).2.1 = 2 := by rw [hs31]; exact Eq.trans sh_sr_l y186
  have y188 : (s32 (n + 99)).2.1 = 2 := by rw [hs32]; exact Eq.trans (sh_nm_l (Nat.add_lt_add_left (k := n) (Nat.le_of_ble_eq_true rfl : 99 < 203))) y187
  have y189 : (s33 (n + 99)).2.1 = 2 := by rw [hs33]; exact Eq.trans sh_sr_l y188
  have y190 : (s34 (n + 99)).2.1 = 2 := by rw [hs34]; exact Eq.trans (sh_nw_l (Nat.add_lt_add_left (k := n) (Nat.le_of_ble_eq_true rfl : 99 < 207))) y189
  have y191 : (s35 (n + 99)).2.1 = 2 := by rw [hs35]; exact Eq.trans sh_sr_l y190
  have y192 : (s36 (n + 99)).2.1 = 2 := by rw [hs36]; exact Eq.trans (sh_nw_l (Nat.add_lt_add_left (k := n) (Nat.le_of_ble_eq_true rfl : 99 < 208))) y191
  have y193 : (s37 (n + 99)).2.1 = 2 := by rw [hs37]; exact Eq.trans sh_sr_l y192
  have y194 : (s38 (n + 99)).2.1 = 2 := by rw [hs38]; exact Eq.trans (sh_nw_l (Nat.add_lt_add_left (k := n) (Nat.le_of_ble_eq_true rfl : 99 < 209))) y193
  have y195 : (s39 (n + 99)).2.1 = 2 := by rw [hs39]; exact Eq.trans (f_X8_init_l (Nat.add_lt_add_left (k := n) (Nat.le_of_ble_eq_true rfl : 99 < 210))) y194
  refine qi_aast (j := 0) rfl y162 y163 y195 (by decide) (by decide) rfl (fun s40 hs40 => ?_)
  refine qi_inc (y := 1) rfl rfl rfl (by decide) ?_
  show dw_ok (pr_X11_init K) 177 97 6567 [some (.ref (a)), some (.int 1)] [] (n + 306, s40, I129, J)
  refine qi_goto rfl ?_
  refine qi_ild rfl rfl ?_
  refine qi_ic rfl ?_
  refine qi_ge_n rfl (by decide) ?_
  refine qi_ald rfl rfl ?_
  have y196 : (s38 (a)).1 = 11 := by rw [hs38]; exact Eq.trans (sh_nw_k (Nat.lt_add_right 209 ha)) y97
  have y197 : (s39 (a)).1 = 11 := by rw [hs39]; exact Eq.trans (f_X8_init_k (Nat.lt_add_right 210 ha)) y196
  have y198 : (s40 (a)).1 = 11 := by rw [hs40]; exact Eq.trans sh_sr_k y197
  have y199 : (s38 (a)).2.2 2 = some (n + 99) := by rw [hs38]; exact Eq.trans (sh_nw_r (Nat.lt_add_right 209 ha)) y126
  have y200 : (s39 (a)).2.2 2 = some (n + 99) := by rw [hs39]; exact Eq.trans (f_X8_init_r (Nat.lt_add_right 210 ha) (by omega)) y199
  have y201 : (s40 (a)).2.2 2 = some (n + 99) := by rw [hs40]; exact Eq.trans (sh_sr_ra (by omega)) y200
  refine qi_getr rfl y198 y201 ?_
  refine qi_ild rfl rfl ?_
  refine qi_new (m := n + 307) (bc' := 96) (bs' := 6562) rfl hz130 rfl rfl (by omega) rfl (fun s41 hs41 => ?_)
  have y202 : (s41 (n + 306)).1 = 8 := by rw [hs41]; exact sh_nw_at
  have hz203 : dw_Z (n + 307) I129 J := dw_Z.up hz130 (by omega)
  refine qi_dup rfl ?_
  refine qi_call (bc' := 0) (bs' := 0) rfl y202 rfl rfl rfl ?_
  refine ea_X8_init (n := n + 307) (m := n + 403) (a := n + 306) hz203 rfl (by omega) (Nat.add_lt_add_left (k := n) (Nat.le_of_ble_eq_true rfl : 306 < 307)) y202 (fun s42 hs42 I204 hI204 => ?_)
  show dw_ok (pr_X11_init K) 173 0 0 [some (.ref (a)), some (.int 1)] [.ref (n + 306), .int 1, .ref (n + 99)] (n + 403, s42, I204, J)
  have hz205 : dw_Z (n + 403) I204 J := by rw [hI204]; exact z_X8_init (n := n + 307) (m := n + 403) (a := n + 306) hz203 rfl (Nat.add_lt_add_left (k := n) (Nat.le_of_ble_eq_true rfl : 306 < 307))
  have y206 : (s40 (n + 99)).1 = 21 := by rw [hs40]; exact Eq.trans sh_sr_k y162
  have y207 : (s41 (n + 99)).1 = 21 := by rw [hs41]; exact Eq.trans (sh_nw_k (Nat.add_lt_add_left (k := n) (Nat.le_of_ble_eq_true rfl : 99 < 306))) y206
  have y208 : (s42 (n + 99)).1 = 21 := by rw [hs42]; exact Eq.trans (f_X8_init_k (Nat.add_lt_add_left (k := n) (Nat.le_of_ble_eq_true rfl : 99 < 307))) y207
  have y209 : (s42 (n + 306)).1 = 8 := by rw [hs42]; exact Eq.trans (f_X8_init_k (Nat.add_lt_add_left (k := n) (Nat.le_of_ble_eq_true rfl : 306 < 307))) y202
  have y210 : (s40 (n + 99)).2.1 = 2 := by rw [hs40]; exact Eq.trans sh_sr_l y195
  have y211 : (s41 (n + 99)).2.1 = 2 := by rw [hs41]; exact Eq.trans (sh_nw_l (Nat.add_lt_add_left (k := n) (Nat.le_of_ble_eq_true rfl : 99 < 306))) y210
  have y212 : (s42 (n + 99)).2.1 = 2 := by rw [hs42]; exact Eq.trans (f_X8_init_l (Nat.add_lt_add_left (k := n) (Nat.le_of_ble_eq_true rfl : 99 < 307))) y211
  refine qi_aast (j := 1) rfl y208 y209 y212 (by decide) (by decide) rfl (fun s43 hs43 => ?_)
  refine qi_inc (y := 2) rfl rfl rfl (by decide) ?_
  show dw_ok (pr_X11_init K) 177 0 0 [some (.ref (a)), some (.int 2)] [] (n + 403, s43, I204, J)
  refine qi_goto rfl ?_
  refine qi_ild rfl rfl ?_
  refine qi_ic rfl ?_
  refine qi_ge_y rfl (by decide) ?_
  refine qi_vret rfl ?_
  have es : s43 = f_X11_init n sh a := by
    rw [hs43, hs42, hs41, hs40, hs39, hs38, hs37, hs36, hs35, hs34, hs33, hs32, hs31, hs30, hs29, hs28, hs27, hs26, hs25, hs24, hs23, hs22, hs21, hs20, hs19, hs18, hs17, hs16, hs15, hs14, hs13, hs12, hs11, hs10, hs9, hs8, hs7, hs6, hs5, hs4, hs3, hs2, hs1]
    rfl
  have eI : I204 = g_X11_init n I a := by
    rw [hI204, hI129, hI90, hI88, hI23, hI9]
    rfl
  rw [es, eI]
  exact hK
theorem ea_X11_init {K : dw_K} {n m : Nat} {sh : dw_Sh} {I : Nat → Nat → Int32} {J : Nat → Nat → Int64} {a : Nat} (hz : dw_Z n I J) (hm : n + 403 = m) (hn : n + 403 ≤ 1000000) (ha : a < n) (hk : (sh a).1 = 11) (hK : ∀ sh' : dw_Sh, sh' = f_X11_init n sh a → ∀ I' : Nat → Nat → Int32, I' = g_X11_init n I a → K none (m, sh', I', J)) : t_X11_init [.ref a] (n, sh, I, J) K := e_X11_init hz hm hn ha hk (hK _ rfl _ rfl)
def f_X12_init (n : Nat) (sh : dw_Sh) (a : Nat) : dw_Sh := (sh_sr (sh_nw (n + 28) (sh_sr (sh_nw (n + 27) (sh_sr (sh_nw (n + 26) (sh_sr (sh_nw (n + 25) (sh_sr (sh_nw (n + 24) (sh_sr (sh_nw (n + 23) (sh_sr (sh_nw (n + 22) (sh_sr (sh_nw (n + 21) (sh_sr (sh_nw (n + 20) (sh_sr (sh_nw (n + 19) (sh_sr (sh_nw (n + 18) (sh_sr (sh_nw (n + 17) (sh_sr (sh_nw (n + 16) (sh_sr (sh_nw (n + 15) (sh_sr (sh_nw (n + 14) (sh_sr (sh_nw (n + 13) (sh_sr (sh_nw (n + 12) (sh_sr (sh_nw (n + 11) (sh_sr (sh_nw (n + 10) (sh_sr (sh_nw (n + 9) (sh_sr (sh_nw (n + 8) (sh_sr (sh_nw (n + 7) (sh_sr (sh_nw (n + 6) (sh_sr (sh_nw (n + 5) (sh_sr (sh_nw (n + 4) (sh_sr (sh_nw (n + 3) (sh_sr (sh_nw (n + 2) (sh_sr (sh_nw (n + 1) (sh_sr (sh_nw (n) sh 18 940) (a) 1 (some (n))) 16 1427) (a) 6 (some (n + 1))) 16 221) (a) 7 (some (n + 2))) 16 121) (a) 8 (some (n + 3))) 17 16) (a) 9 (some (n + 4))) 17 13) (a) 10 (some (n + 5))) 16 144) (a) 23 (some (n + 6))) 16 144) (a) 24 (some (n + 7))) 16 144) (a) 25 (some (n + 8))) 16 144) (a) 26 (some (n + 9))) 16 144) (a) 27 (some (n + 10))) 16 144) (a) 28 (some (n + 11))) 16 144) (a) 29 (some (n + 12))) 16 144) (a) 30 (some (n + 13))) 16 144) (a) 31 (some (n + 14))) 16 144) (a) 39 (some (n + 15))) 16 5) (a) 40 (some (n + 16))) 16 144) (a) 42 (some (n + 17))) 16 144) (a) 43 (some (n + 18))) 16 144) (a) 44 (some (n + 19))) 16 144) (a) 45 (some (n + 20))) 16 20736) (a) 46 (some (n + 21))) 16 2) (a) 47 (some (n + 22))) 16 8) (a) 49 (some (n + 23))) 16 8) (a) 50 (some (n + 24))) 16 24) (a) 51 (some (n + 25))) 16 3) (a) 53 (some (n + 26))) 16 2854) (a) 55 (some (n + 27))) 19 2) (a) 56 (some (n + 28)))
def g_X12_init (n : Nat) (I : Nat → Nat → Int32) (a : Nat) : Nat → Nat → Int32 := (dw_up (dw_up (dw_up (dw_up (dw_up (dw_up (dw_up I (n + 1) 4 500) (n + 1) 221 (-1)) (n + 1) 318 (-1)) (n + 1) 415 (-1)) (n + 1) 512 (-1)) (n + 1) 609 (-1)) (n + 1) 706 (-1))
def j_X12_init (n : Nat) (J : Nat → Nat → Int64) (a : Nat) : Nat → Nat → Int64 := (dw_up (dw_up (dw_up (dw_up (dw_up (dw_up (dw_up (dw_up (dw_up (dw_up (dw_up (dw_up (dw_up J (n + 5) 0 1802071652) (n + 5) 1 444150998387) (n + 5) 2 7499639) (n + 5) 3 495672452197) (n + 5) 4 512736126322) (n + 5) 5 427021006180) (n + 5) 6 2003398244) (n + 5) 7 6383986) (n + 5) 8 7566702) (n + 5) 9 28526) (n + 5) 10 2003398757) (n + 5) 11 427071792498) (n + 5) 12 1650553445)
theorem f_X12_init_k {n a b : Nat} {sh : dw_Sh} (hb : b < n) : ((f_X12_init n sh a) b).1 = (sh b).1 := by
  unfold f_X12_init
  repeat (first | rw [sh_sr_k] | rw [sh_nw_k (by omega)] | rw [sh_nm_k (by omega)] | rw [f_X0_init_k (by omega)] | rw [f_X1_init_k (by omega)] | rw [f_X2_init_k (by omega)] | rw [f_X3_init_k (by omega)] | rw [f_X4_init_k (by omega)] | rw [f_X5_init_k (by omega)] | rw [f_X6_init_k (by omega)] | rw [f_X7_init_k (by omega)] | rw [f_X8_init_k (by omega)] | rw [f_X9_init_k (by omega)] | rw [f_X10_init_k (by omega)] | rw [f_X11_init_k (by omega)])
theorem f_X12_init_l {n a b : Nat} {sh : dw_Sh} (hb : b < n) : ((f_X12_init n sh a) b).2.1 = (sh b).2.1 := by
  unfold f_X12_init
  repeat (first | rw [sh_sr_l] | rw [sh_nw_l (by omega)] | rw [sh_nm_l (by omega)] | rw [f_X0_init_l (by omega)] | rw [f_X1_init_l (by omega)] | rw [f_X2_init_l (by omega)] | rw [f_X3_init_l (by omega)] | rw [f_X4_init_l (by omega)] | rw [f_X5_init_l (by omega)] | rw [f_X6_init_l (by omega)] | rw [f_X7_init_l (by omega)] | rw [f_X8_init_l (by omega)] | rw [f_X9_init_l (by omega)] | rw [f_X10_init_l (by omega)] | rw [f_X11_init_l (by omega)])
theorem f_X12_init_r {n a b j : Nat} {sh : dw_Sh} (hb : b < n) (hne : b ≠ a) : ((f_X12_init n sh a) b).2.2 j = (sh b).2.2 j := by
  unfold f_X12_init
  repeat (first | rfl | rw [sh_sr_ra hne] | rw [sh_sr_ra (by omega)] | rw [sh_nw_r (by omega)] | rw [sh_nm_r (by omega)] | rw [f_X0_init_r (by omega) (by omega)] | rw [f_X1_init_r (by omega) (by omega)] | rw [f_X2_init_r (by omega) (by omega)] | rw [f_X3_init_r (by omega) (by omega)] | rw [f_X4_init_r (by omega) (by omega)] | rw [f_X5_init_r (by omega) (by omega)] | rw [f_X6_init_r (by omega) (by omega)] | rw [f_X7_init_r (by omega) (by omega)] | rw [f_X8_init_r (by omega) (by omega)] | rw [f_X9_init_r (by omega) (by omega)] | rw [f_X10_init_r (by omega) (by omega)] | rw [f_X11_init_r (by omega) (by omega)])
theorem z_X12_init {n m a : Nat} {I : Nat → Nat → Int32} {J : Nat → Nat → Int64} (hz : dw_Z n I J) (hm : n + 29 = m) (ha : a < n) : dw_Z m (g_X12_init n I a) (j_X12_init n J a) := by
  subst hm
  exact (dw_Z.si (n := n + 29) (a := n + 1) (dw_Z.si (n := n + 29) (a := n + 1) (dw_Z.si (n := n + 29) (a := n + 1) (dw_Z.si (n := n + 29) (a := n + 1) (dw_Z.si (n := n + 29) (a := n + 1) (dw_Z.si (n := n + 29) (a := n + 1) (dw_Z.si (n := n + 29) (a := n + 1) (dw_Z.sl (n := n + 29) (a := n + 5) (dw_Z.sl (n := n + 29) (a := n + 5) (dw_Z.sl (n := n + 29) (a := n + 5) (dw_Z.sl (n := n + 29) (a := n + 5) (dw_Z.sl (n := n + 29) (a := n + 5) (dw_Z.sl (n := n + 29) (a := n + 5) (dw_Z.sl (n := n + 29) (a := n + 5) (dw_Z.sl (n := n + 29) (a := n + 5) (dw_Z.sl (n := n + 29) (a := n + 5) (dw_Z.sl (n := n + 29) (a := n + 5) (dw_Z.sl (n := n + 29) (a := n + 5) (dw_Z.sl (n := n + 29) (a := n + 5) (dw_Z.sl (n := n + 29) (a := n + 5) (dw_Z.up (m := n + 29) (dw_Z.up (m := n + 28) (dw_Z.up (m := n + 27) (dw_Z.up (m := n + 26) (dw_Z.up (m := n + 25) (dw_Z.up (m := n + 24) (dw_Z.up (m := n + 23) (dw_Z.up (m := n + 22) (dw_Z.up (m := n + 21) (dw_Z.up (m := n + 20) (dw_Z.up (m := n + 19) (dw_Z.up (m := n + 18) (dw_Z.up (m := n + 17) (dw_Z.up (m := n + 16) (dw_Z.up (m := n + 15) (dw_Z.up (m := n + 14) (dw_Z.up (m := n + 13) (dw_Z.up (m := n + 12) (dw_Z.up (m := n + 11) (dw_Z.up (m := n + 10) (dw_Z.up (m := n + 9) (dw_Z.up (m := n + 8) (dw_Z.up (m := n + 7) (dw_Z.up (m := n + 6) (dw_Z.up (m := n + 5) (dw_Z.up (m := n + 4) (dw_Z.up (m := n + 3) (dw_Z.up (m := n + 2) (dw_Z.up (m := n + 1) hz (by omega)) (by omega)) (by omega)) (by omega)) (by omega)) (by omega)) (by omega)) (by omega)) (by omega)) (by omega)) (by omega)) (by omega)) (by omega)) (by omega)) (by omega)) (by omega)) (by omega)) (by omega)) (by omega)) (by omega)) (by omega)) (by omega)) (by omega)) (by omega)) (by omega)) (by omega)) (by omega)) (by omega)) (by omega)) (Nat.add_lt_add_left (k := n) (Nat.le_of_ble_eq_true rfl : 5 < 29))) (Nat.add_lt_add_left (k := n) (Nat.le_of_ble_eq_true rfl : 5 < 29))) (Nat.add_lt_add_left (k := n) (Nat.le_of_ble_eq_true rfl : 5 < 29))) (Nat.add_lt_add_left (k := n) (Nat.le_of_ble_eq_true rfl : 5 < 29))) (Nat.add_lt_add_left (k := n) (Nat.le_of_ble_eq_true rfl : 5 < 29))) (Nat.add_lt_add_left (k := n) (Nat.le_of_ble_eq_true rfl : 5 < 29))) (Nat.add_lt_add_left (k := n) (Nat.le_of_ble_eq_true rfl : 5 < 29))) (Nat.add_lt_add_left (k := n) (Nat.le_of_ble_eq_true rfl : 5 < 29))) (Nat.add_lt_add_left (k := n) (Nat.le_of_ble_eq_true rfl : 5 < 29))) (Nat.add_lt_add_left (k := n) (Nat.le_of_ble_eq_true rfl : 5 < 29))) (Nat.add_lt_add_left (k := n) (Nat.le_of_ble_eq_true rfl : 5 < 29))) (Nat.add_lt_add_left (k := n) (Nat.le_of_ble_eq_true rfl : 5 < 29))) (Nat.add_lt_add_left (k := n) (Nat.le_of_ble_eq_true rfl : 5 < 29))) (Nat.add_lt_add_left (k := n) (Nat.le_of_ble_eq_true rfl : 1 < 29))) (Nat.add_lt_add_left (k := n) (Nat.le_of_ble_eq_true rfl : 1 < 29))) (Nat.add_lt_add_left (k := n) (Nat.le_of_ble_eq_true rfl : 1 < 29))) (Nat.add_lt_add_left (k := n) (Nat.le_of_ble_eq_true rfl : 1 < 29))) (Nat.add_lt_add_left (k := n) (Nat.le_of_ble_eq_true rfl : 1 < 29))) (Nat.add_lt_add_left (k := n) (Nat.le_of_ble_eq_true rfl : 1 < 29))) (Nat.add_lt_add_left (k := n) (Nat.le_of_ble_eq_true rfl : 1 < 29)))
set_option maxHeartbeats 4000000 in
set_option maxRecDepth 20000 in
theorem e_X12_init {K : dw_K} {n m : Nat} {sh : dw_Sh} {I : Nat → Nat → Int32} {J : Nat → Nat → Int64} {a : Nat} (hz : dw_Z n I J) (hm : n + 29 = m) (hn : n + 29 ≤ 1000000) (ha : a < n) (hk : (sh a).1 = 12) (hK : K none (m, f_X12_init n sh a, g_X12_init n I a, j_X12_init n J a)) : t_X12_init [.ref a] (n, sh, I, J) K := by
  subst hm
  refine dw_enter rfl ?_
  show dw_ok (pr_X12_init K) 0 29 28396 [some (.ref (a)), none] [] (n, sh, I, J)
  refine qi_ald rfl rfl ?_
  refine qi_oinit rfl rfl ?_
  refine qi_ald rfl rfl ?_
  refine qi_ic rfl ?_
  refine qi_newa (m := n + 1) (N := 940) (bc' := 28) (bs' := 27456) rfl hz (by decide) (by decide) rfl rfl (by omega) rfl rfl (fun s1 hs1 => ?_)
  have y1 : (s1 (n)).1 = 18 := by rw [hs1]; exact sh_nw_at
  have y2 : (s1 (n)).2.1 = 940 := by rw [hs1]; exact sh_nw_la
  have hz3 : dw_Z (n + 1) I J := dw_Z.up hz (by omega)
  have y4 : (s1 (a)).1 = 12 := by rw [hs1]; exact Eq.trans (sh_nw_k ha) hk
  refine qi_putr rfl y4 (fun s2 hs2 => ?_)
  have y5 : (s2 (a)).2.2 1 = some (n) := by rw [hs2]; exact sh_sr_rat
  refine qi_ald rfl rfl ?_
  refine qi_ic rfl ?_
  refine qi_newa (m := n + 2) (N := 1427) (bc' := 27) (bs' := 26029) rfl hz3 (by decide) (by decide) rfl rfl (by omega) rfl rfl (fun s3 hs3 => ?_)
  have y6 : (s3 (n + 1)).1 = 16 := by rw [hs3]; exact sh_nw_at
  have y7 : (s3 (n + 1)).2.1 = 1427 := by rw [hs3]; exact sh_nw_la
  have hz8 : dw_Z (n + 2) I J := dw_Z.up hz3 (by omega)
  have y9 : (s2 (a)).1 = 12 := by rw [hs2]; exact Eq.trans sh_sr_k y4
  have y10 : (s3 (a)).1 = 12 := by rw [hs3]; exact Eq.trans (sh_nw_k (Nat.lt_add_right 1 ha)) y9
  refine qi_putr rfl y10 (fun s4 hs4 => ?_)
  have y11 : (s4 (a)).2.2 6 = some (n + 1) := by rw [hs4]; exact sh_sr_rat
  refine qi_ald rfl rfl ?_
  refine qi_ic rfl ?_
  refine qi_newa (m := n + 3) (N := 221) (bc' := 26) (bs' := 25808) rfl hz8 (by decide) (by decide) rfl rfl (by omega) rfl rfl (fun s5 hs5 => ?_)
  have y12 : (s5 (n + 2)).1 = 16 := by rw [hs5]; exact sh_nw_at
  have y13 : (s5 (n + 2)).2.1 = 221 := by rw [hs5]; exact sh_nw_la
  have hz14 : dw_Z (n + 3) I J := dw_Z.up hz8 (by omega)
  have y15 : (s4 (a)).1 = 12 := by rw [hs4]; exact Eq.trans sh_sr_k y10
  have y16 : (s5 (a)).1 = 12 := by rw [hs5]; exact Eq.trans (sh_nw_k (Nat.lt_add_right 2 ha)) y15
  refine qi_putr rfl y16 (fun s6 hs6 => ?_)
  have y17 : (s6 (a)).2.2 7 = some (n + 2) := by rw [hs6]; exact sh_sr_rat
  refine qi_ald rfl rfl ?_
  refine qi_ic rfl ?_
  refine qi_newa (m := n + 4) (N := 121) (bc' := 25) (bs' := 25687) rfl hz14 (by decide) (by decide) rfl rfl (by omega) rfl rfl (fun s7 hs7 => ?_)
  have y18 : (s7 (n + 3)).1 = 16 := by rw [hs7]; exact sh_nw_at
  have y19 : (s7 (n + 3)).2.1 = 121 := by rw [hs7]; exact sh_nw_la
  have hz20 : dw_Z (n + 4) I J := dw_Z.up hz14 (by omega)
  have y21 : (s6 (a)).1 = 12 := by rw [hs6]; exact Eq.trans sh_sr_k y16
  have y22 : (s7 (a)).1 = 12 := by rw [hs7]; exact Eq.trans (sh_nw_k (Nat.lt_add_right 3 ha)) y21
  refine qi_putr rfl y22 (fun s8 hs8 => ?_)
  have y23 : (s8 (a)).2.2 8 = some (n + 3) := by rw [hs8]; exact sh_sr_rat
  refine qi_ald rfl rfl ?_
  refine qi_ic rfl ?_
  refine qi_newa (m := n + 5) (N := 16) (bc' := 24) (bs' := 25671) rfl hz20 (by decide) (by decide) rfl rfl (by omega) rfl rfl (fun s9 hs9 => ?_)
  have y24 : (s9 (n + 4)).1 = 17 := by rw [hs9]; exact sh_nw_at
  have y25 : (s9 (n + 4)).2.1 = 16 := by rw [hs9]; exact sh_nw_la
  have hz26 : dw_Z (n + 5) I J := dw_Z.up hz20 (by omega)
  have y27 : (s8 (a)).1 = 12 := by rw [hs8]; exact Eq.trans sh_sr_k y22
  have y28 : (s9 (a)).1 = 12 := by rw [hs9]; exact Eq.trans (sh_nw_k (Nat.lt_add_right 4 ha)) y27
  refine qi_putr rfl y28 (fun s10 hs10 => ?_)
  have y29 : (s10 (a)).2.2 9 = some (n + 4) := by rw [hs10]; exact sh_sr_rat
  refine qi_ald rfl rfl ?_
  refine qi_ic rfl ?_
  refine qi_newa (m := n + 6) (N := 13) (bc' := 23) (bs' := 25658) rfl hz26 (by decide) (by decide) rfl rfl (by omega) rfl rfl (fun s11 hs11 => ?_)
  have y30 : (s11 (n + 5)).1 = 17 := by rw [hs11]; exact sh_nw_at
  have y31 : (s11 (n + 5)).2.1 = 13 := by rw [hs11]; exact sh_nw_la
  have hz32 : dw_Z (n + 6) I J := dw_Z.up hz26 (by omega)
  have y33 : (s10 (a)).1 = 12 := by rw [hs10]; exact Eq.trans sh_sr_k y28
  have y34 : (s11 (a)).1 = 12 := by rw [hs11]; exact Eq.trans (sh_nw_k (Nat.lt_add_right 5 ha)) y33
  refine qi_putr rfl y34 (fun s12 hs12 => ?_)
  have y35 : (s12 (a)).2.2 10 = some (n + 5) := by rw [hs12]; exact sh_sr_rat
  refine qi_ald rfl rfl ?_
  refine qi_ic rfl ?_
  refine qi_newa (m := n + 7) (N := 144) (bc' := 22) (bs' := 25514) rfl hz32 (by decide) (by decide) rfl rfl (by omega) rfl rfl (fun s13 hs13 => ?_)
  have y36 : (s13 (n + 6)).1 = 16 := by rw [hs13]; exact sh_nw_at
  have y37 : (s13 (n + 6)).2.1 = 144 := by rw [hs13]; exact sh_nw_la
  have hz38 : dw_Z (n + 7) I J := dw_Z.up hz32 (by omega)
  have y39 : (s12 (a)).1 = 12 := by rw [hs12]; exact Eq.trans sh_sr_k y34
  have y40 : (s13 (a)).1 = 12 := by rw [hs13]; exact Eq.trans (sh_nw_k (Nat.lt_add_right 6 ha)) y39
  refine qi_putr rfl y40 (fun s14 hs14 => ?_)
  have y41 : (s14 (a)).2.2 23 = some (n + 6) := by rw [hs14]; exact sh_sr_rat
  refine qi_ald rfl rfl ?_
  refine qi_ic rfl ?_
  refine qi_newa (m := n + 8) (N := 144) (bc' := 21) (bs' := 25370) rfl hz38 (by decide) (by decide) rfl rfl (by omega) rfl rfl (fun s15 hs15 => ?_)
  have y42 : (s15 (n + 7)).1 = 16 := by rw [hs15]; exact sh_nw_at
  have y43 : (s15 (n + 7)).2.1 = 144 := by rw [hs15]; exact sh_nw_la
  have hz44 : dw_Z (n + 8) I J := dw_Z.up hz38 (by omega)
  have y45 : (s14 (a)).1 = 12 := by rw [hs14]; exact Eq.trans sh_sr_k y40
  have y46 : (s15 (a)).1 = 12 := by rw [hs15]; exact Eq.trans (sh_nw_k (Nat.lt_add_right 7 ha)) y45
  refine qi_putr rfl y46 (fun s16 hs16 => ?_)
  have y47 : (s16 (a)).2.2 24 = some (n + 7) := by rw [hs16]; exact sh_sr_rat
  refine qi_ald rfl rfl ?_
  refine qi_ic rfl ?_
  refine qi_newa (m := n + 9) (N := 144) (bc' := 20) (bs' := 25226) rfl hz44 (by decide) (by decide) rfl rfl (by omega) rfl rfl (fun s17 hs17 => ?_)
  have y48 : (s17 (n + 8)).1 = 16 := by rw [hs17]; exact sh_nw_at
  have y49 : (s17 (n + 8)).2.1 = 144 := by rw [hs17]; exact sh_nw_la
  have hz50 : dw_Z (n + 9) I J := dw_Z.up hz44 (by omega)
  have y51 : (s16 (a)).1 = 12 := by rw [hs16]; exact Eq.trans sh_sr_k y46
  have y52 : (s17 (a)).1 = 12 := by rw [hs17]; exact Eq.trans (sh_nw_k (Nat.lt_add_right 8 ha)) y51
  refine qi_putr rfl y52 (fun s18 hs18 => ?_)
  have y53 : (s18 (a)).2.2 25 = some (n + 8) := by rw [hs18]; exact sh_sr_rat
  refine qi_ald rfl rfl ?_
  refine qi_ic rfl ?_
  refine qi_newa (m := n + 10) (N := 144) (bc' := 19) (bs' := 25082) rfl hz50 (by decide) (by decide) rfl rfl (by omega) rfl rfl (fun s19 hs19 => ?_)
  have y54 : (s19 (n + 9)).1 = 16 := by rw [hs19]; exact sh_nw_at
  have y55 : (s19 (n + 9)).2.1 = 144 := by rw [hs19]; exact sh_nw_la
  have hz56 : dw_Z (n + 10) I J := dw_Z.up hz50 (by omega)
  have y57 : (s18 (a)).1 = 12 := by rw [hs18]; exact Eq.trans sh_sr_k y52
  have y58 : (s19 (a)).1 = 12 := by rw [hs19]; exact Eq.trans (sh_nw_k (Nat.lt_add_right 9 ha)) y57
  refine qi_putr rfl y58 (fun s20 hs20 => ?_)
  have y59 : (s20 (a)).2.2 26 = some (n + 9) := by rw [hs20]; exact sh_sr_rat
  refine qi_ald rfl rfl ?_
  refine qi_ic rfl ?_
  refine qi_newa (m := n + 11) (N := 144) (bc' := 18) (bs' := 24938) rfl hz56 (by decide) (by decide) rfl rfl (by omega) rfl rfl (fun s21 hs21 => ?_)
  have y60 : (s21 (n + 10)).1 = 16 := by rw [hs21]; exact sh_nw_at
  have y61 : (s21 (n + 10)).2.1 = 144 := by rw [hs21]; exact sh_nw_la
  have hz62 : dw_Z (n + 11) I J := dw_Z.up hz56 (by omega)
  have y63 : (s20 (a)).1 = 12 := by rw [hs20]; exact Eq.trans sh_sr_k y58
  have y64 : (s21 (a)).1 = 12 := by rw [hs21]; exact Eq.trans (sh_nw_k (Nat.lt_add_right 10 ha)) y63
  refine qi_putr rfl y64 (fun s22 hs22 => ?_)
  have y65 : (s22 (a)).2.2 27 = some (n + 10) := by rw [hs22]; exact sh_sr_rat
  refine qi_ald rfl rfl ?_
  refine qi_ic rfl ?_
  refine qi_newa (m := n + 12) (N := 144) (bc' := 17) (bs' := 24794) rfl hz62 (by decide) (by decide) rfl rfl (by omega) rfl rfl (fun s23 hs23 => ?_)
  have y66 : (s23 (n + 11)).1 = 16 := by rw [hs23]; exact sh_nw_at
  have y67 : (s23 (n + 11)).2.1 = 144 := by rw [hs23]; exact sh_nw_la
  have hz68 : dw_Z (n + 12) I J := dw_Z.up hz62 (by omega)
  have y69 : (s22 (a)).1 = 12 := by rw [hs22]; exact Eq.trans sh_sr_k y64
  have y70 : (s23 (a)).1 = 12 := by rw [hs23]; exact Eq.trans (sh_nw_k (Nat.lt_add_right 11 ha)) y69
  refine qi_putr rfl y70 (fun s24 hs24 => ?_)
  have y71 : (s24 (a)).2.2 28 = some (n + 11) := by rw [hs24]; exact sh_sr_rat
  refine qi_ald rfl rfl ?_
  refine qi_ic rfl ?_
  refine qi_newa (m := n + 13) (N := 144) (bc' := 16) (bs' := 24650) rfl hz68 (by decide) (by decide) rfl rfl (by omega) rfl rfl (fun s25 hs25 => ?_)
  have y72 : (s25 (n + 12)).1 = 16 := by rw [hs25]; exact sh_nw_at
  have y73 : (s25 (n + 12)).2.1 = 144 := by rw [hs25]; exact sh_nw_la
  have hz74 : dw_Z (n + 13) I J := dw_Z.up hz68 (by omega)
  have y75 : (s24 (a)).1 = 12 := by rw [hs24]; exact Eq.trans sh_sr_k y70
  have y76 : (s25 (a)).1 = 12 := by rw [hs25]; exact Eq.trans (sh_nw_k (Nat.lt_add_right 12 ha)) y75
  refine qi_putr rfl y76 (fun s26 hs26 => ?_)
  have y77 : (s26 (a)).2.2 29 = some (n + 12) := by rw [hs26]; exact sh_sr_rat
  refine qi_ald rfl rfl ?_
  refine qi_ic rfl ?_
  refine qi_newa (m := n + 14) (N := 144) (bc' := 15) (bs' := 24506) rfl hz74 (by decide) (by decide) rfl rfl (by omega) rfl rfl (fun s27 hs27 => ?_)
  have y78 : (s27 (n + 13)).1 = 16 := by rw [hs27]; exact sh_nw_at
  have y79 : (s27 (n + 13)).2.1 = 144 := by rw [hs27]; exact sh_nw_la
  have hz80 : dw_Z (n + 14) I J := dw_Z.up hz74 (by omega)
  have y81 : (s26 (a)).1 = 12 := by rw [hs26]; exact Eq.trans sh_sr_k y76
  have y82 : (s27 (a)).1 = 12 := by rw [hs27]; exact Eq.trans (sh_nw_k (Nat.lt_add_right 13 ha)) y81
  refine qi_putr rfl y82 (fun s28 hs28 => ?_)
  have y83 : (s28 (a)).2.2 30 = some (n + 13) := by rw [hs28]; exact sh_sr_rat
  refine qi_ald rfl rfl ?_
  refine qi_ic rfl ?_
  refine qi_newa (m := n + 15) (N := 144) (bc' := 14) (bs' := 24362) rfl hz80 (by decide) (by decide) rfl rfl (by omega) rfl rfl (fun s29 hs29 => ?_)
  have y84 : (s29 (n + 14)).1 = 16 := by rw [hs29]; exact sh_nw_at
  have y85 : (s29 (n + 14)).2.1 = 144 := by rw [hs29]; exact sh_nw_la
  have hz86 : dw_Z (n + 15) I J := dw_Z.up hz80 (by omega)
  have y87 : (s28 (a)).1 = 12 := by rw [hs28]; exact Eq.trans sh_sr_k y82
  have y88 : (s29 (a)).1 = 12 := by rw [hs29]; exact Eq.trans (sh_nw_k (Nat.lt_add_right 14 ha)) y87
  refine qi_putr rfl y88 (fun s30 hs30 => ?_)
  have y89 : (s30 (a)).2.2 31 = some (n + 14) := by rw [hs30]; exact sh_sr_rat
  refine qi_ald rfl rfl ?_
  refine qi_ic rfl ?_
  refine qi_newa (m := n + 16) (N := 144) (bc' := 13) (bs' := 24218) rfl hz86 (by decide) (by decide) rfl rfl (by omega) rfl rfl (fun s31 hs31 => ?_)
  have y90 : (s31 (n + 15)).1 = 16 := by rw [hs31]; exact sh_nw_at
  have y91 : (s31 (n + 15)).2.1 = 144 := by rw [hs31]; exact sh_nw_la
  have hz92 : dw_Z (n + 16) I J := dw_Z.up hz86 (by omega)
  have y93 : (s30 (a)).1 = 12 := by rw [hs30]; exact Eq.trans sh_sr_k y88
  have y94 : (s31 (a)).1 = 12 := by rw [hs31]; exact Eq.trans (sh_nw_k (Nat.lt_add_right 15 ha)) y93
  refine qi_putr rfl y94 (fun s32 hs32 => ?_)
  have y95 : (s32 (a)).2.2 39 = some (n + 15) := by rw [hs32]; exact sh_sr_rat
  refine qi_ald rfl rfl ?_
  refine qi_ic rfl ?_
  refine qi_newa (m := n + 17) (N := 5) (bc' := 12) (bs' := 24213) rfl hz92 (by decide) (by decide) rfl rfl (by omega) rfl rfl (fun s33 hs33 => ?_)
  have y96 : (s33 (n + 16)).1 = 16 := by rw [hs33]; exact sh_nw_at
  have y97 : (s33 (n + 16)).2.1 = 5 := by rw [hs33]; exact sh_nw_la
  have hz98 : dw_Z (n + 17) I J := dw_Z.up hz92 (by omega)
  have y99 : (s32 (a)).1 = 12 := by rw [hs32]; exact Eq.trans sh_sr_k y94
  have y100 : (s33 (a)).1 = 12 := by rw [hs33]; exact Eq.trans (sh_nw_k (Nat.lt_add_right 16 ha)) y99
  refine qi_putr rfl y100 (fun s34 hs34 => ?_)
  have y101 : (s34 (a)).2.2 40 = some (n + 16) := by rw [hs34]; exact sh_sr_rat
  refine qi_ald rfl rfl ?_
  refine qi_ic rfl ?_
  refine qi_newa (m := n + 18) (N := 144) (bc' := 11) (bs' := 24069) rfl hz98 (by decide) (by decide) rfl rfl (by omega) rfl rfl (fun s35 hs35 => ?_)
  have y102 : (s35 (n + 17)).1 = 16 := by rw [hs35]; exact sh_nw_at
  have y103 : (s35 (n + 17)).2.1 = 144 := by rw [hs35]; exact sh_nw_la
  have hz104 : dw_Z (n + 18) I J := dw_Z.up hz98 (by omega)
  have y105 : (s34 (a)).1 = 12 := by rw [hs34]; exact Eq.trans sh_sr_k y100
  have y106 : (s35 (a)).1 = 12 := by rw [hs35]; exact Eq.trans (sh_nw_k (Nat.lt_add_right 17 ha)) y105
  refine qi_putr rfl y106 (fun s36 hs36 => ?_)
  have y107 : (s36 (a)).2.2 42 = some (n + 17) := by rw [hs36]; exact sh_sr_rat
  refine qi_ald rfl rfl ?_
  refine qi_ic rfl ?_
  refine qi_newa (m := n + 19) (N := 144) (bc' := 10) (bs' := 23925) rfl hz104 (by decide) (by decide) rfl rfl (by omega) rfl rfl (fun s37 hs37 => ?_)
  have y108 : (s37 (n + 18)).1 = 16 := by rw [hs37]; exact sh_nw_at
  have y109 : (s37 (n + 18)).2.1 = 144 := by rw [hs37]; exact sh_nw_la
  have hz110 : dw_Z (n + 19) I J := dw_Z.up hz104 (by omega)
  have y111 : (s36 (a)).1 = 12 := by rw [hs36]; exact Eq.trans sh_sr_k y106
  have y112 : (s37 (a)).1 = 12 := by rw [hs37]; exact Eq.trans (sh_nw_k (Nat.lt_add_right 18 ha)) y111
  refine qi_putr rfl y112 (fun s38 hs38 => ?_)
  have y113 : (s38 (a)).2.2 43 = some (n + 18) := by rw [hs38]; exact sh_sr_rat
  refine qi_ald rfl rfl ?_
  refine qi_ic rfl ?_
  refine qi_newa (m := n + 20) (N := 144) (bc' := 9) (bs' := 23781) rfl hz110 (by decide) (by decide) rfl rfl (by omega) rfl rfl (fun s39 hs39 => ?_)
  have y114 : (s39 (n + 19)).1 = 16 := by rw [hs39]; exact sh_nw_at
  have y115 : (s39 (n + 19)).2.1 = 144 := by rw [hs39]; exact sh_nw_la
  have hz116 : dw_Z (n + 20) I J := dw_Z.up hz110 (by omega)
  have y117 : (s38 (a)).1 = 12 := by rw [hs38]; exact Eq.trans sh_sr_k y112
  have y118 : (s39 (a)).1 = 12 := by rw [hs39]; exact Eq.trans (sh_nw_k (Nat.lt_add_right 19 ha)) y117
  refine qi_putr rfl y118 (fun s40 hs40 => ?_)
  have y119 : (s40 (a)).2.2 44 = some (n + 19) := by rw [hs40]; exact sh_sr_rat
  refine qi_ald rfl rfl ?_
  refine qi_ic rfl ?_
  refine qi_newa (m := n + 21) (N := 144) (bc' := 8) (bs' := 23637) rfl hz116 (by decide) (by decide) rfl rfl (by omega) rfl rfl (fun s41 hs41 => ?_)
  have y120 : (s41 (n + 20)).1 = 16 := by rw [hs41]; exact sh_nw_at
  have y121 : (s41 (n + 20)).2.1 = 144 := by rw [hs41]; exact sh_nw_la
  have hz122 : dw_Z (n + 21) I J := dw_Z.up hz116 (by omega)
  have y123 : (s40 (a)).1 = 12 := by rw [hs40]; exact Eq.trans sh_sr_k y118
  have y124 : (s41 (a)).1 = 12 := by rw [hs41]; exact Eq.trans (sh_nw_k (Nat.lt_add_right 20 ha)) y123
  refine qi_putr rfl y124 (fun s42 hs42 => ?_)
  have y125 : (s42 (a)).2.2 45 = some (n + 20) := by rw [hs42]; exact sh_sr_rat
  refine qi_ald rfl rfl ?_
  refine qi_ic rfl ?_
  refine qi_newa (m := n + 22) (N := 20736) (bc' := 7) (bs' := 2901) rfl hz122 (by decide) (by decide) rfl rfl (by omega) rfl rfl (fun s43 hs43 => ?_)
  have y126 : (s43 (n + 21)).1 = 16 := by rw [hs43]; exact sh_nw_at
  have y127 : (s43 (n + 21)).2.1 = 20736 := by rw [hs43]; exact sh_nw_la
  have hz128 : dw_Z (n + 22) I J := dw_Z.up hz122 (by omega)
  have y129 : (s42 (a)).1 = 12 := by rw [hs42]; exact Eq.trans sh_sr_k y124
  have y130 : (s43 (a)).1 = 12 := by rw [hs43]; exact Eq.trans (sh_nw_k (Nat.lt_add_right 21 ha)) y129
  refine qi_putr rfl y130 (fun s44 hs44 => ?_)
  have y131 : (s44 (a)).2.2 46 = some (n + 21) := by rw [hs44]; exact sh_sr_rat
  refine qi_ald rfl rfl ?_
  refine qi_ic rfl ?_
  refine qi_newa (m := n + 23) (N := 2) (bc' := 6) (bs' := 2899) rfl hz128 (by decide) (by decide) rfl rfl (by omega) rfl rfl (fun s45 hs45 => ?_)
  have y132 : (s45 (n + 22)).1 = 16 := by rw [hs45]; exact sh_nw_at
  have y133 : (s45 (n + 22)).2.1 = 2 := by rw [hs45]; exact sh_nw_la
  have hz134 : dw_Z (n + 23) I J := dw_Z.up hz128 (by omega)
  have y135 : (s44 (a)).1 = 12 := by rw [hs44]; exact Eq.trans sh_sr_k y130
  have y136 : (s45 (a)).1 = 12 := by rw [hs45]; exact Eq.trans (sh_nw_k (Nat.lt_add_right 22 ha)) y135
  refine qi_putr rfl y136 (fun s46 hs46 => ?_)
  have y137 : (s46 (a)).2.2 47 = some (n + 22) := by rw [hs46]; exact sh_sr_rat
  refine qi_ald rfl rfl ?_
  refine qi_ic rfl ?_
  refine qi_newa (m := n + 24) (N := 8) (bc' := 5) (bs' := 2891) rfl hz134 (by decide) (by decide) rfl rfl (by omega) rfl rfl (fun s47 hs47 => ?_)
  have y138 : (s47 (n + 23)).1 = 16 := by rw [hs47]; exact sh_nw_at
  have y139 : (s47 (n + 23)).2.1 = 8 := by rw [hs47]; exact sh_nw_la
  have hz140 : dw_Z (n + 24) I J := dw_Z.up hz134 (by omega)
  have y141 : (s46 (a)).1 = 12 := by rw [hs46]; exact Eq.trans sh_sr_k y136
  have y142 : (s47 (a)).1 = 12 := by rw [hs47]; exact Eq.trans (sh_nw_k (Nat.lt_add_right 23 ha)) y141
  refine qi_putr rfl y142 (fun s48 hs48 => ?_)
  have y143 : (s48 (a)).2.2 49 = some (n + 23) := by rw [hs48]; exact sh_sr_rat
  refine qi_ald rfl rfl ?_
  refine qi_ic rfl ?_
  refine qi_newa (m := n + 25) (N := 8) (bc' := 4) (bs' := 2883) rfl hz140 (by decide) (by decide) rfl rfl (by omega) rfl rfl (fun s49 hs49 => ?_)
  have y144 : (s49 (n + 24)).1 = 16 := by rw [hs49]; exact sh_nw_at
  have y145 : (s49 (n + 24)).2.1 = 8 := by rw [hs49]; exact sh_nw_la
  have hz146 : dw_Z (n + 25) I J := dw_Z.up hz140 (by omega)
  have y147 : (s48 (a)).1 = 12 := by rw [hs48]; exact Eq.trans sh_sr_k y142
  have y148 : (s49 (a)).1 = 12 := by rw [hs49]; exact Eq.trans (sh_nw_k (Nat.lt_add_right 24 ha)) y147
  refine qi_putr rfl y148 (fun s50 hs50 => ?_)
  have y149 : (s50 (a)).2.2 50 = some (n + 24) := by rw [hs50]; exact sh_sr_rat
  refine qi_ald rfl rfl ?_
  refine qi_ic rfl ?_
  refine qi_newa (m := n + 26) (N := 24) (bc' := 3) (bs' := 2859) rfl hz146 (by decide) (by decide) rfl rfl (by omega) rfl rfl (fun s51 hs51 => ?_)
  have y150 : (s51 (n + 25)).1 = 16 := by rw [hs51]; exact sh_nw_at
  have y151 : (s51 (n + 25)).2.1 = 24 := by rw [hs51]; exact sh_nw_la
  have hz152 : dw_Z (n + 26) I J := dw_Z.up hz146 (by omega)
  have y153 : (s50 (a)).1 = 12 := by rw [hs50]; exact Eq.trans sh_sr_k y148
  have y154 : (s51 (a)).1 = 12 := by rw [hs51]; exact Eq.trans (sh_nw_k (Nat.lt_add_right 25 ha)) y153
  refine qi_putr rfl y154 (fun s52 hs52 => ?_)
  have y155 : (s52 (a)).2.2 51 = some (n + 25) := by rw [hs52]; exact sh_sr_rat
  refine qi_ald rfl rfl ?_
  refine qi_ic rfl ?_
  refine qi_newa (m := n + 27) (N := 3) (bc' := 2) (bs' := 2856) rfl hz152 (by decide) (by decide) rfl rfl (by omega) rfl rfl (fun s53 hs53 => ?_)
  have y156 : (s53 (n + 26)).1 = 16 := by rw [hs53]; exact sh_nw_at
  have y157 : (s53 (n + 26)).2.1 = 3 := by rw [hs53]; exact sh_nw_la
  have hz158 : dw_Z (n + 27) I J := dw_Z.up hz152 (by omega)
  have y159 : (s52 (a)).1 = 12 := by rw [hs52]; exact Eq.trans sh_sr_k y154
  have y160 : (s53 (a)).1 = 12 := by rw [hs53]; exact Eq.trans (sh_nw_k (Nat.lt_add_right 26 ha)) y159
  refine qi_putr rfl y160 (fun s54 hs54 => ?_)
  have y161 : (s54 (a)).2.2 53 = some (n + 26) := by rw [hs54]; exact sh_sr_rat
  refine qi_ald rfl rfl ?_
  refine qi_ic rfl ?_
  refine qi_newa (m := n + 28) (N := 2854) (bc' := 1) (bs' := 2) rfl hz158 (by decide) (by decide) rfl rfl (by omega) rfl rfl (fun s55 hs55 => ?_)
  have y162 : (s55 (n + 27)).1 = 16 := by rw [hs55]; exact sh_nw_at
  have y163 : (s55 (n + 27)).2.1 = 2854 := by rw [hs55]; exact sh_nw_la
  have hz164 : dw_Z (n + 28) I J := dw_Z.up hz158 (by omega)
  have y165 : (s54 (a)).1 = 12 := by rw [hs54]; exact Eq.trans sh_sr_k y160
  have y166 : (s55 (a)).1 = 12 := by rw [hs55]; exact Eq.trans (sh_nw_k (Nat.lt_add_right 27 ha)) y165
  refine qi_putr rfl y166 (fun s56 hs56 => ?_)
  have y167 : (s56 (a)).2.2 55 = some (n + 27) := by rw [hs56]; exact sh_sr_rat
  refine qi_ald rfl rfl ?_
  refine qi_ic rfl ?_
  refine qi_newa (m := n + 29) (N := 2) (bc' := 0) (bs' := 0) rfl hz164 (by decide) (by decide) rfl rfl (by omega) rfl rfl (fun s57 hs57 => ?_)
  have y168 : (s57 (n + 28)).1 = 19 := by rw [hs57]; exact sh_nw_at
  have y169 : (s57 (n + 28)).2.1 = 2 := by rw [hs57]; exact sh_nw_la
  have hz170 : dw_Z (n + 29) I J := dw_Z.up hz164 (by omega)
  have y171 : (s56 (a)).1 = 12 := by rw [hs56]; exact Eq.trans sh_sr_k y166
  have y172 : (s57 (a)).1 = 12 := by rw [hs57]; exact Eq.trans (sh_nw_k (Nat.lt_add_right 28 ha)) y171
  refine qi_putr rfl y172 (fun s58 hs58 => ?_)
  have y173 : (s58 (a)).2.2 56 = some (n + 28) := by rw [hs58]; exact sh_sr_rat
  refine qi_ald rfl rfl ?_
  have y174 : (s58 (a)).1 = 12 := by rw [hs58]; exact Eq.trans sh_sr_k y172
  have y175 : (s13 (a)).2.2 10 = some (n + 5) := by rw [hs13]; exact Eq.trans (sh_nw_r (Nat.lt_add_right 6 ha)) y35
  have y176 : (s14 (a)).2.2 10 = some (n + 5) := by rw [hs14]; exact Eq.trans (sh_sr_rj (Nat.ne_of_beq_eq_false rfl)) y175
  have y177 : (s15 (a)).2.2 10 = some (n + 5) := by rw [hs15]; exact Eq.trans (sh_nw_r (Nat.lt_add_right 7 ha)) y176
  have y178 : (s16 (a)).2.2 10 = some (n + 5) := by rw [hs16]; exact Eq.trans (sh_sr_rj (Nat.ne_of_beq_eq_false rfl)) y177
  have y179 : (s17 (a)).2.2 10 = some (n + 5) := by rw [hs17]; exact Eq.trans (sh_nw_r (Nat.lt_add_right 8 ha)) y178
  have y180 : (s18 (a)).2.2 10 = some (n + 5) := by rw [hs18]; exact Eq.trans (sh_sr_rj (Nat.ne_of_beq_eq_false rfl)) y179
  have y181 : (s19 (a)).2.2 10 = some (n + 5) := by rw [hs19]; exact Eq.trans (sh_nw_r (Nat.lt_add_right 9 ha)) y180
  have y182 : (s20 (a)).2.2 10 = some (n + 5) := by rw [hs20]; exact Eq.trans (sh_sr_rj (Nat.ne_of_beq_eq_false rfl)) y181
  have y183 : (s21 (a)).2.2 10 = some (n + 5) := by rw [hs21]; exact Eq.trans (sh_nw_r (Nat.lt_add_right 10 ha)) y182
  have y184 : (s22 (a)).2.2 10 = some (n + 5) := by rw [hs22]; exact Eq.trans (sh_sr_rj (Nat.ne_of_beq_eq_false rfl)) y183
  have y185 : (s23 (a)).2.2 10 = some (n + 5) := by rw [hs23]; exact Eq.trans (sh_nw_r (Nat.lt_add_right 11 ha)) y184
  have y186 : (s24 (a)).2.2 10 = some (n + 5) := by rw [hs24]; exact Eq.trans (sh_sr_rj (Nat.ne_of_beq_eq_false rfl)) y185
  have y187 : (s25 (a)).2.2 10 = some (n + 5) := by rw [hs25]; exact Eq.trans (sh_nw_r (Nat.lt_add_right 12 ha)) y186
  have y188 : (s26 (a)).2.2 10 = some (n + 5) := by rw [hs26]; exact Eq.trans (sh_sr_rj (Nat.ne_of_beq_eq_false rfl)) y187
  have y189 : (s27 (a)).2.2 10 = some (n + 5) := by rw [hs27]; exact Eq.trans (sh_nw_r (Nat.lt_add_right 13 ha)) y188
  have y190 : (s28 (a)).2.2 10 = some (n + 5) := by rw [hs28]; exact Eq.trans (sh_sr_rj (Nat.ne_of_beq_eq_false rfl)) y189
  have y191 : (s29 (a)).2.2 10 = some (n + 5) := by rw [hs29]; exact Eq.trans (sh_nw_r (Nat.lt_add_right 14 ha)) y190
  have y192 : (s30 (a)).2.2 10 = some (n + 5) := by rw [hs30]; exact Eq.trans (sh_sr_rj (Nat.ne_of_beq_eq_false rfl)) y191
  have y193 : (s31 (a)).2.2 10 = some (n + 5) := by rw [hs31]; exact Eq.trans (sh_nw_r (Nat.lt_add_right 15 ha)) y192
  have y194 : (s32 (a)).2.2 10 = some (n + 5) := by rw [hs32]; exact Eq.trans (sh_sr_rj (Nat.ne_of_beq_eq_false rfl)) y193
  have y195 : (s33 (a)).2.2 10 = some (n + 5) := by rw [hs33]; exact Eq.trans (sh_nw_r (Nat.lt_add_right 16 ha)) y194
  have y196 : (s34 (a)).2.2 10 = some (n + 5) := by rw [hs34]; exact Eq.trans (sh_sr_rj (Nat.ne_of_beq_eq_false rfl)) y195
  have y197 : (s35 (a)).2.2 10 = some (n + 5) := by rw [hs35]; exact Eq.trans (sh_nw_r (Nat.lt_add_right 17 ha)) y196
  have y198 : (s36 (a)).2.2 10 = some (n + 5) := by rw [hs36]; exact Eq.trans (sh_sr_rj (Nat.ne_of_beq_eq_false rfl)) y197
  have y199 : (s37 (a)).2.2 10 = some (n + 5) := by rw [hs37]; exact Eq.trans (sh_nw_r (Nat.lt_add_right 18 ha)) y198
  have y200 : (s38 (a)).2.2 10 = some (n + 5) := by rw [hs38]; exact Eq.trans (sh_sr_rj (Nat.ne_of_beq_eq_false rfl)) y199
  have y201 : (s39 (a)).2.2 10 = some (n + 5) := by rw [hs39]; exact Eq.trans (sh_nw_r (Nat.lt_add_right 19 ha)) y200
  have y202 : (s40 (a)).2.2 10 = some (n + 5) := by rw [hs40]; exact Eq.trans (sh_sr_rj (Nat.ne_of_beq_eq_false rfl)) y201
  have y203 : (s41 (a)).2.2 10 = some (n + 5) := by rw [hs41]; exact Eq.trans (sh_nw_r (Nat.lt_add_right 20 ha)) y202
  have y204 : (s42 (a)).2.2 10 = some (n + 5) := by rw [hs42]; exact Eq.trans (sh_sr_rj (Nat.ne_of_beq_eq_false rfl)) y203
  have y205 : (s43 (a)).2.2 10 = some (n + 5) := by rw [hs43]; exact Eq.trans (sh_nw_r (Nat.lt_add_right 21 ha)) y204
  have y206 : (s44 (a)).2.2 10 = some (n + 5) := by rw [hs44]; exact Eq.trans (sh_sr_rj (Nat.ne_of_beq_eq_false rfl)) y205
  have y207 : (s45 (a)).2.2 10 = some (n + 5) := by rw [hs45]; exact Eq.trans (sh_nw_r (Nat.lt_add_right 22 ha)) y206
  have y208 : (s46 (a)).2.2 10 = some (n + 5) := by rw [hs46]; exact Eq.trans (sh_sr_rj (Nat.ne_of_beq_eq_false rfl)) y207
  have y209 : (s47 (a)).2.2 10 = some (n + 5) := by rw [hs47]; exact Eq.trans (sh_nw_r (Nat.lt_add_right 23 ha)) y208
  have y210 : (s48 (a)).2.2 10 = some (n + 5) := by rw [hs48]; exact Eq.trans (sh_sr_rj (Nat.ne_of_beq_eq_false rfl)) y209
  have y211 : (s49 (a)).2.2 10 = some (n + 5) := by rw [hs49]; exact Eq.trans (sh_nw_r (Nat.lt_add_right 24 ha)) y210
  have y212 : (s50 (a)).2.2 10 = some (n + 5) := by rw [hs50]; exact Eq.trans (sh_sr_rj (Nat.ne_of_beq_eq_false rfl)) y211
  have y213 : (s51 (a)).2.2 10 = some (n + 5) := by rw [hs51]; exact Eq.trans (sh_nw_r (Nat.lt_add_right 25 ha)) y212
  have y214 : (s52 (a)).2.2 10 = some (n + 5) := by rw [hs52]; exact Eq.trans (sh_sr_rj (Nat.ne_of_beq_eq_false rfl)) y213
  have y215 : (s53 (a)).2.2 10 = some (n + 5) := by rw [hs53]; exact Eq.trans (sh_nw_r (Nat.lt_add_right 26 ha)) y214
  have y216 : (s54 (a)).2.2 10 = some (n + 5) := by rw [hs54]; exact Eq.trans (sh_sr_rj (Nat.ne_of_beq_eq_false rfl)) y215
  have y217 : (s55 (a)).2.2 10 = some (n + 5) := by rw [hs55]; exact Eq.trans (sh_nw_r (Nat.lt_add_right 27 ha)) y216
  have y218 : (s56 (a)).2.2 10 = some (n + 5) := by rw [hs56]; exact Eq.trans (sh_sr_rj (Nat.ne_of_beq_eq_false rfl)) y217
  have y219 : (s57 (a)).2.2 10 = some (n + 5) := by rw [hs57]; exact Eq.trans (sh_nw_r (Nat.lt_add_right 28 ha)) y218
  have y220 : (s58 (a)).2.2 10 = some (n + 5) := by rw [hs58]; exact Eq.trans (sh_sr_rj (Nat.ne_of_beq_eq_false rfl)) y219
  refine qi_getr rfl y174 y220 ?_
  refine qi_ic rfl ?_
  refine qi_lc rfl ?_
  have y221 : (s12 (n + 5)).1 = 17 := by rw [hs12]; exact Eq.trans sh_sr_k y30
  have y222 : (s13 (n + 5)).1 = 17 := by rw [hs13]; exact Eq.trans (sh_nw_k (Nat.add_lt_add_left (k := n) (Nat.le_of_ble_eq_true rfl : 5 < 6))) y221
  have y223 : (s14 (n + 5)).1 = 17 := by rw [hs14]; exact Eq.trans sh_sr_k y222
  have y224 : (s15 (n + 5)).1 = 17 := by rw [hs15]; exact Eq.trans (sh_nw_k (Nat.add_lt_add_left (k := n) (Nat.le_of_ble_eq_true rfl : 5 < 7))) y223
  have y225 : (s16 (n + 5)).1 = 17 := by rw [hs16]; exact Eq.trans sh_sr_k y224
  have y226 : (s17 (n + 5)).1 = 17 := by rw [hs17]; exact Eq.trans (sh_nw_k (Nat.add_lt_add_left (k := n) (Nat.le_of_ble_eq_true rfl : 5 < 8))) y225
  have y227 : (s18 (n + 5)).1 = 17 := by rw [hs18]; exact Eq.trans sh_sr_k y226
  have y228 : (s19 (n + 5)).1 = 17 := by rw [hs19]; exact Eq.trans (sh_nw_k (Nat.add_lt_add_left (k := n) (Nat.le_of_ble_eq_true rfl : 5 < 9))) y227
  have y229 : (s20 (n + 5)).1 = 17 := by rw [hs20]; exact Eq.trans sh_sr_k y228
  have y230 : (s21 (n + 5)).1 = 17 := by rw [hs21]; exact Eq.trans (sh_nw_k (Nat.add_lt_add_left (k := n) (Nat.le_of_ble_eq_true rfl : 5 < 10))) y229
  have y231 : (s22 (n + 5)).1 = 17 := by rw [hs22]; exact Eq.trans sh_sr_k y230
  have y232 : (s23 (n + 5)).1 = 17 := by rw [hs23]; exact Eq.trans (sh_nw_k (Nat.add_lt_add_left (k := n) (Nat.le_of_ble_eq_true rfl : 5 < 11))) y231
  have y233 : (s24 (n + 5)).1 = 17 := by rw [hs24]; exact Eq.trans sh_sr_k y232
  have y234 : (s25 (n + 5)).1 = 17 := by rw [hs25]; exact Eq.trans (sh_nw_k (Nat.add_lt_add_left (k := n) (Nat.le_of_ble_eq_true rfl : 5 < 12))) y233
  have y235 : (s26 (n + 5)).1 = 17 := by rw [hs26]; exact Eq.trans sh_sr_k y234
  have y236 : (s27 (n + 5)).1 = 17 := by rw [hs27]; exact Eq.trans (sh_nw_k (Nat.add_lt_add_left (k := n) (Nat.le_of_ble_eq_true rfl : 5 < 13))) y235
  have y237 : (s28 (n + 5)).1 = 17 := by rw [hs28]; exact Eq.trans sh_sr_k y236
  have y238 : (s29 (n + 5)).1 = 17 := by rw [hs29]; exact Eq.trans (sh_nw_k (Nat.add_lt_add_left (k := n) (Nat.le_of_ble_eq_true rfl : 5 < 14))) y237
  have y239 : (s30 (n + 5)).1 = 17 := by rw [hs30]; exact Eq.trans sh_sr_k y238
  have y240 : (s31 (n + 5)).1 = 17 := by rw [hs31]; exact Eq.trans (sh_nw_k (Nat.add_lt_add_left (k := n) (Nat.le_of_ble_eq_true rfl : 5 < 15))) y239
  have y241 : (s32 (n + 5)).1 = 17 := by rw [hs32]; exact Eq.trans sh_sr_k y240
  have y242 : (s33 (n + 5)).1 = 17 := by rw [hs33]; exact Eq.trans (sh_nw_k (Nat.add_lt_add_left (k := n) (Nat.le_of_ble_eq_true rfl : 5 < 16))) y241
  have y243 : (s34 (n + 5)).1 = 17 := by rw [hs34]; exact Eq.trans sh_sr_k y242
  have y244 : (s35 (n + 5)).1 = 17 := by rw [hs35]; exact Eq.trans (sh_nw_k (Nat.add_lt_add_left (k := n) (Nat.le_of_ble_eq_true rfl : 5 < 17))) y243
  have y245 : (s36 (n + 5)).1 = 17 := by rw [hs36]; exact Eq.trans sh_sr_k y244
  have y246 : (s37 (n + 5)).1 = 17 := by rw [hs37]; exact Eq.trans (sh_nw_k (Nat.add_lt_add_left (k := n) (Nat.le_of_ble_eq_true rfl : 5 < 18))) y245
  have y247 : (s38 (n + 5)).1 = 17 := by rw [hs38]; exact Eq.trans sh_sr_k y246
  have y248 : (s39 (n + 5)).1 = 17 := by rw [hs39]; exact Eq.trans (sh_nw_k (Nat.add_lt_add_left (k := n) (Nat.le_of_ble_eq_true rfl : 5 < 19))) y247
  have y249 : (s40 (n + 5)).1 = 17 := by rw [hs40]; exact Eq.trans sh_sr_k y248
  have y250 : (s41 (n + 5)).1 = 17 := by rw [hs41]; exact Eq.trans (sh_nw_k (Nat.add_lt_add_left (k := n) (Nat.le_of_ble_eq_true rfl : 5 < 20))) y249
  have y251 : (s42 (n + 5)).1 = 17 := by rw [hs42]; exact Eq.trans sh_sr_k y250
  have y252 : (s43 (n + 5)).1 = 17 := by rw [hs43]; exact Eq.trans (sh_nw_k (Nat.add_lt_add_left (k := n) (Nat.le_of_ble_eq_true rfl : 5 < 21))) y251
  have y253 : (s44 (n + 5)).1 = 17 := by rw [hs44]; exact Eq.trans sh_sr_k y252
  have y254 : (s45 (n + 5)).1 = 17 := by rw [hs45]; exact Eq.trans (sh_nw_k (Nat.add_lt_add_left (k := n) (Nat.le_of_ble_eq_true rfl : 5 < 22))) y253
  have y255 : (s46 (n + 5)).1 = 17 := by rw [hs46]; exact Eq.trans sh_sr_k y254
  have y256 : (s47 (n + 5)).1 = 17 := by rw [hs47]; exact Eq.trans (sh_nw_k (Nat.add_lt_add_left (k := n) (Nat.le_of_ble_eq_true rfl : 5 < 23))) y255
  have y257 : (s48 (n + 5)).1 = 17 := by rw [hs48]; exact Eq.trans sh_sr_k y256
  have y258 : (s49 (n + 5)).1 = 17 := by rw [hs49]; exact Eq.trans (sh_nw_k (Nat.add_lt_add_left (k := n) (Nat.le_of_ble_eq_true rfl : 5 < 24))) y257
  have y259 : (s50 (n + 5)).1 = 17 := by rw [hs50]; exact Eq.trans sh_sr_k y258
  have y260 : (s51 (n + 5)).1 = 17 := by rw [hs51]; exact Eq.trans (sh_nw_k (Nat.add_lt_add_left (k := n) (Nat.le_of_ble_eq_true rfl : 5 < 25))) y259
  have y261 : (s52 (n + 5)).1 = 17 := by rw [hs52]; exact Eq.trans sh_sr_k y260
  have y262 : (s53 (n + 5)).1 = 17 := by rw [hs53]; exact Eq.trans (sh_nw_k (Nat.add_lt_add_left (k := n) (Nat.le_of_ble_eq_true rfl : 5 < 26))) y261
  have y263 : (s54 (n + 5)).1 = 17 := by rw [hs54]; exact Eq.trans sh_sr_k y262
  have y264 : (s55 (n + 5)).1 = 17 := by rw [hs55]; exact Eq.trans (sh_nw_k (Nat.add_lt_add_left (k := n) (Nat.le_of_ble_eq_true rfl : 5 < 27))) y263
  have y265 : (s56 (n + 5)).1 = 17 := by rw [hs56]; exact Eq.trans sh_sr_k y264
  have y266 : (s57 (n + 5)).1 = 17 := by rw [hs57]; exact Eq.trans (sh_nw_k (Nat.add_lt_add_left (k := n) (Nat.le_of_ble_eq_true rfl : 5 < 28))) y265
  have y267 : (s58 (n + 5)).1 = 17 := by rw [hs58]; exact Eq.trans sh_sr_k y266
  have y268 : (s12 (n + 5)).2.1 = 13 := by rw [hs12]; exact Eq.trans sh_sr_l y31
  have y269 : (s13 (n + 5)).2.1 = 13 := by rw [hs13]; exact Eq.trans (sh_nw_l (Nat.add_lt_add_left (k := n) (Nat.le_of_ble_eq_true rfl : 5 < 6))) y268
  have y270 : (s14 (n + 5)).2.1 = 13 := by rw [hs14]; exact Eq.trans sh_sr_l y269
  have y271 : (s15 (n + 5)).2.1 = 13 := by rw [hs15]; exact Eq.trans (sh_nw_l (Nat.add_lt_add_left (k := n) (Nat.le_of_ble_eq_true rfl : 5 < 7))) y270
  have y272 : (s16 (n + 5)).2.1 = 13 := by rw [hs16]; exact Eq.trans sh_sr_l y271
  have y273 : (s17 (n + 5)).2.1 = 13 := by rw [hs17]; exact Eq.trans (sh_nw_l (Nat.add_lt_add_left (k := n) (Nat.le_of_ble_eq_true rfl : 5 < 8))) y272
  have y274 : (s18 (n + 5)).2.1 = 13 := by rw [hs18]; exact Eq.trans sh_sr_l y273
  have y275 : (s19 (n + 5)).2.1 = 13 := by rw [hs19]; exact Eq.trans (sh_nw_l (Nat.add_lt_add_left (k := n) (Nat.le_of_ble_eq_true rfl : 5 < 9))) y274
  have y276 : (s20 (n + 5)).2.1 = 13 := by rw [hs20]; exact Eq.trans sh_sr_l y275
  have y277 : (s21 (n + 5)).2.1 = 13 := by rw [hs21]; exact Eq.trans (sh_nw_l (Nat.add_lt_add_left (k := n) (Nat.le_of_ble_eq_true rfl : 5 < 10))) y276
  have y278 : (s22 (n + 5)).2.1 = 13 := by rw [hs22]; exact Eq.trans sh_sr_l y277
  have y279 : (s23 (n + 5)).2.1 = 13 := by rw [hs23]; exact Eq.trans (sh_nw_l (Nat.add_lt_add_left (k := n) (Nat.le_of_ble_eq_true rfl : 5 < 11))) y278
  have y280 : (s24 (n + 5)).2.1 = 13 := by rw [hs24]; exact Eq.trans sh_sr_l y279
  have y281 : (s25 (n + 5)).2.1 = 13 := by rw [hs25]; exact Eq.trans (sh_nw_l (Nat.add_lt_add_left (k := n) (Nat.le_of_ble_eq_true rfl : 5 < 12))) y280
  have y282 : (s26 (n + 5)).2.1 = 13 := by rw [hs26]; exact Eq.trans sh_sr_l y281
  have y283 : (s27 (n + 5)).2.1 = 13 := by rw [hs27]; exact Eq.trans (sh_nw_l (Nat.add_lt_add_left (k := n) (Nat.le_of_ble_eq_true rfl : 5 < 13))) y282
  have y284 : (s28 (n + 5)).2.1 = 13 := by rw [hs28]; exact Eq.trans sh_sr_l y283
  have y285 : (s29 (n + 5)).2.1 = 13 := by rw [hs29]; exact Eq.trans (sh_nw_l (Nat.add_lt_add_left (k := n) (Nat.le_of_ble_eq_true rfl : 5 < 14))) y284
  have y286 : (s30 (n + 5)).2.1 = 13 := by rw [hs30]; exact Eq.trans sh_sr_l y285
  have y287 : (s31 (n + 5)).2.1 = 13 := by rw [hs31]; exact Eq.trans (sh_nw_l (Nat.add_lt_add_left (k := n) (Nat.le_of_ble_eq_true rfl : 5 < 15))) y286
  have y288 : (s32 (n + 5)).2.1 = 13 := by rw [hs32]; exact Eq.trans sh_sr_l y287
  have y289 : (s33 (n + 5)).2.1 = 13 := by rw [hs33]; exact Eq.trans (sh_nw_l (Nat.add_lt_add_left (k := n) (Nat.le_of_ble_eq_true rfl : 5 < 16))) y288
  have y290 : (s34 (n + 5)).2.1 = 13 := by rw [hs34]; exact Eq.trans sh_sr_l y289
  have y291 : (s35 (n + 5)).2.1 = 13 := by rw [hs35]; exact Eq.trans (sh_nw_l (Nat.add_lt_add_left (k := n) (Nat.le_of_ble_eq_true rfl : 5 < 17))) y290
  have y292 : (s36 (n + 5)).2.1 = 13 := by rw [hs36]; exact Eq.trans sh_sr_l y291
  have y293 : (s37 (n + 5)).2.1 = 13 := by rw [hs37]; exact Eq.trans (sh_nw_l (Nat.add_lt_add_left (k := n) (Nat.le_of_ble_eq_true rfl : 5 < 18))) y292
  have y294 : (s38 (n + 5)).2.1 = 13 := by rw [hs38]; exact Eq.trans sh_sr_l y293
  have y295 : (s39 (n + 5)).2.1 = 13 := by rw [hs39]; exact Eq.trans (sh_nw_l (Nat.add_lt_add_left (k := n) (Nat.le_of_ble_eq_true rfl : 5 < 19))) y294
  have y296 : (s40 (n + 5)).2.1 = 13 := by rw [hs40]; exact Eq.trans sh_sr_l y295
  have y297 : (s41 (n + 5)).2.1 = 13 := by rw [hs41]; exact Eq.trans (sh_nw_l (Nat.add_lt_add_left (k := n) (Nat.le_of_ble_eq_true rfl : 5 < 20))) y296
  have y298 : (s42 (n + 5)).2.1 = 13 := by rw [hs42]; exact Eq.trans sh_sr_l y297
  have y299 : (s43 (n + 5)).2.1 = 13 := by rw [hs43]; exact Eq.trans (sh_nw_l (Nat.add_lt_add_left (k := n) (Nat.le_of_ble_eq_true rfl : 5 < 21))) y298
  have y300 : (s44 (n + 5)).2.1 = 13 := by rw [hs44]; exact Eq.trans sh_sr_l y299
  have y301 : (s45 (n + 5)).2.1 = 13 := by rw [hs45]; exact Eq.trans (sh_nw_l (Nat.add_lt_add_left (k := n) (Nat.le_of_ble_eq_true rfl : 5 < 22))) y300
  have y302 : (s46 (n + 5)).2.1 = 13 := by rw [hs46]; exact Eq.trans sh_sr_l y301
  have y303 : (s47 (n + 5)).2.1 = 13 := by rw [hs47]; exact Eq.trans (sh_nw_l (Nat.add_lt_add_left (k := n) (Nat.le_of_ble_eq_true rfl : 5 < 23))) y302
  have y304 : (s48 (n + 5)).2.1 = 13 := by rw [hs48]; exact Eq.trans sh_sr_l y303
  have y305 : (s49 (n + 5)).2.1 = 13 := by rw [hs49]; exact Eq.trans (sh_nw_l (Nat.add_lt_add_left (k := n) (Nat.le_of_ble_eq_true rfl : 5 < 24))) y304
  have y306 : (s50 (n + 5)).2.1 = 13 := by rw [hs50]; exact Eq.trans sh_sr_l y305
  have y307 : (s51 (n + 5)).2.1 = 13 := by rw [hs51]; exact Eq.trans (sh_nw_l (Nat.add_lt_add_left (k := n) (Nat.le_of_ble_eq_true rfl : 5 < 25))) y306
  have y308 : (s52 (n + 5)).2.1 = 13 := by rw [hs52]; exact Eq.trans sh_sr_l y307
  have y309 : (s53 (n + 5)).2.1 = 13 := by rw [hs53]; exact Eq.trans (sh_nw_l (Nat.add_lt_add_left (k := n) (Nat.le_of_ble_eq_true rfl : 5 < 26))) y308
  have y310 : (s54 (n + 5)).2.1 = 13 := by rw [hs54]; exact Eq.trans sh_sr_l y309
  have y311 : (s55 (n + 5)).2.1 = 13 := by rw [hs55]; exact Eq.trans (sh_nw_l (Nat.add_lt_add_left (k := n) (Nat.le_of_ble_eq_true rfl : 5 < 27))) y310
  have y312 : (s56 (n + 5)).2.1 = 13 := by rw [hs56]; exact Eq.trans sh_sr_l y311
  have y313 : (s57 (n + 5)).2.1 = 13 := by rw [hs57]; exact Eq.trans (sh_nw_l (Nat.add_lt_add_left (k := n) (Nat.le_of_ble_eq_true rfl : 5 < 28))) y312
  have y314 : (s58 (n + 5)).2.1 = 13 := by rw [hs58]; exact Eq.trans sh_sr_l y313
  refine qi_last (j := 0) rfl y267 y314 (by decide) (by decide) rfl (fun J315 hJ315 => ?_)
  have hz316 : dw_Z (n + 29) I J315 := by rw [hJ315]; exact dw_Z.sl hz170 (Nat.add_lt_add_left (k := n) (Nat.le_of_ble_eq_true rfl : 5 < 29))
  refine qi_ald rfl rfl ?_
  refine qi_getr rfl y174 y220 ?_
  refine qi_ic rfl ?_
  refine qi_lc rfl ?_
  refine qi_last (j := 1) rfl y267 y314 (by decide) (by decide) rfl (fun J317 hJ317 => ?_)
  have hz318 : dw_Z (n + 29) I J317 := by rw [hJ317]; exact dw_Z.sl hz316 (Nat.add_lt_add_left (k := n) (Nat.le_of_ble_eq_true rfl : 5 < 29))
  refine qi_ald rfl rfl ?_
  refine qi_getr rfl y174 y220 ?_
  refine qi_ic rfl ?_
  refine qi_lc rfl ?_
  refine qi_last (j := 2) rfl y267 y314 (by decide) (by decide) rfl (fun J319 hJ319 => ?_)
  have hz320 : dw_Z (n + 29) I J319 := by rw [hJ319]; exact dw_Z.sl hz318 (Nat.add_lt_add_left (k := n) (Nat.le_of_ble_eq_true rfl : 5 < 29))
  refine qi_ald rfl rfl ?_
  refine qi_getr rfl y174 y220 ?_
  refine qi_ic rfl ?_
  refine qi_lc rfl ?_
  refine qi_last (j := 3) rfl y267 y314 (by decide) (by decide) rfl (fun J321 hJ321 => ?_)
  have hz322 : dw_Z (n + 29) I J321 := by rw [hJ321]; exact dw_Z.sl hz320 (Nat.add_lt_add_left (k := n) (Nat.le_of_ble_eq_true rfl : 5 < 29))
  refine qi_ald rfl rfl ?_
  refine qi_getr rfl y174 y220 ?_
  refine qi_ic rfl ?_
  refine qi_lc rfl ?_
  refine qi_last (j := 4) rfl y267 y314 (by decide) (by decide) rfl (fun J323 hJ323 => ?_)
  have hz324 : dw_Z (n + 29) I J323 := by rw [hJ323]; exact dw_Z.sl hz322 (Nat.add_lt_add_left (k := n) (Nat.le_of_ble_eq_true rfl : 5 < 29))
  refine qi_ald rfl rfl ?_
  refine qi_getr rfl y174 y220 ?_
  refine qi_ic rfl ?_
  refine qi_lc rfl ?_
  refine qi_last (j := 5) rfl y267 y314 (by decide) (by decide) rfl (fun J325 hJ325 => ?_)
  have hz326 : dw_Z (n + 29) I J325 := by rw [hJ325]; exact dw_Z.sl hz324 (Nat.add_lt_add_left (k := n) (Nat.le_of_ble_eq_true rfl : 5 < 29))
  refine qi_ald rfl rfl ?_
  refine qi_getr rfl y174 y220 ?_
  refine qi_ic rfl ?_
  refine qi_lc rfl ?_
  refine qi_last (j := 6) rfl y267 y314 (by decide) (by decide) rfl (fun J327 hJ327 => ?_)
  have hz328 : dw_Z (n + 29) I J327 := by rw [hJ327]; exact dw_Z.sl hz326 (Nat.add_lt_add_left (k := n) (Nat.le_of_ble_eq_true rfl : 5 < 29))
  refine qi_ald rfl rfl ?_
  refine qi_getr rfl y174 y220 ?_
  refine qi_ic rfl ?_
  refine qi_lc rfl ?_
  refine qi_last (j := 7) rfl y267 y314 (by decide) (by decide) rfl (fun J329 hJ329 => ?_)
  have hz330 : dw_Z (n + 29) I J329 := by rw [hJ329]; exact dw_Z.sl hz328 (Nat.add_lt_add_left (k := n) (Nat.le_of_ble_eq_true rfl : 5 < 29))
  refine qi_ald rfl rfl ?_
  refine qi_getr rfl y174 y220 ?_
  refine qi_ic rfl ?_
  refine qi_lc rfl ?_
  refine qi_last (j := 8) rfl y267 y314 (by decide) (by decide) rfl (fun J331 hJ331 => ?_)
  have hz332 : dw_Z (n + 29) I J331 := by rw [hJ331]; exact dw_Z.sl hz330 (Nat.add_lt_add_left (k := n) (Nat.le_of_ble_eq_true rfl : 5 < 29))
  refine qi_ald rfl rfl ?_
  refine qi_getr rfl y174 y220 ?_
  refine qi_ic rfl ?_
  refine qi_lc rfl ?_
  refine qi_last (j := 9) rfl y267 y314 (by decide) (by decide) rfl (fun J333 hJ333 => ?_)
  have hz334 : dw_Z (n + 29) I J333 := by rw [hJ333]; exact dw_Z.sl hz332 (Nat.add_lt_add_left (k := n) (Nat.le_of_ble_eq_true rfl : 5 < 29))
  refine qi_ald rfl rfl ?_
  refine qi_getr rfl y174 y220 ?_
  refine qi_ic rfl ?_
  refine qi_lc rfl ?_
  refine qi_last (j := 10) rfl y267 y314 (by decide) (by decide) rfl (fun J335 hJ335 => ?_)
  have hz336 : dw_Z (n + 29) I J335 := by rw [hJ335]; exact dw_Z.sl hz334 (Nat.add_lt_add_left (k := n) (Nat.le_of_ble_eq_true rfl : 5 < 29))
  refine qi_ald rfl rfl ?_
  refine qi_getr rfl y174 y220 ?_
  refine qi_ic rfl ?_
  refine qi_lc rfl ?_
  refine qi_last (j := 11) rfl y267 y314 (by decide) (by decide) rfl (fun J337 hJ337 => ?_)
  have hz338 : dw_Z (n + 29) I J337 := by rw [hJ337]; exact dw_Z.sl hz336 (Nat.add_lt_add_left (k := n) (Nat.le_of_ble_eq_true rfl : 5 < 29))
  refine qi_ald rfl rfl ?_
  refine qi_getr rfl y174 y220 ?_
  refine qi_ic rfl ?_
  refine qi_lc rfl ?_
  refine qi_last (j := 12) rfl y267 y314 (by decide) (by decide) rfl (fun J339 hJ339 => ?_)
  have hz340 : dw_Z (n + 29) I J339 := by rw [hJ339]; exact dw_Z.sl hz338 (Nat.add_lt_add_left (k := n) (Nat.le_of_ble_eq_true rfl : 5 < 29))
  refine qi_ald rfl rfl ?_
  have y341 : (s5 (a)).2.2 6 = some (n + 1) := by rw [hs5]; exact Eq.trans (sh_nw_r (Nat.lt_add_right 2 ha)) y11
  have y342 : (s6 (a)).2.2 6 = some (n + 1) := by rw [hs6]; exact Eq.trans (sh_sr_rj (Nat.ne_of_beq_eq_false rfl)) y341
  have y343 : (s7 (a)).2.2 6 = some (n + 1) := by rw [hs7]; exact Eq.trans (sh_nw_r (Nat.lt_add_right 3 ha)) y342
  have y344 : (s8 (a)).2.2 6 = some (n + 1) := by rw [hs8]; exact Eq.trans (sh_sr_rj (Nat.ne_of_beq_eq_false rfl)) y343
  have y345 : (s9 (a)).2.2 6 = some (n + 1) := by rw [hs9]; exact Eq.trans (sh_nw_r (Nat.lt_add_right 4 ha)) y344
  have y346 : (s10 (a)).2.2 6 = some (n + 1) := by rw [hs10]; exact Eq.trans (sh_sr_rj (Nat.ne_of_beq_eq_false rfl)) y345
  have y347 : (s11 (a)).2.2 6 = some (n + 1) := by rw [hs11]; exact Eq.trans (sh_nw_r (Nat.lt_add_right 5 ha)) y346
  have y348 : (s12 (a)).2.2 6 = some (n + 1) := by rw [hs12]; exact Eq.trans (sh_sr_rj (Nat.ne_of_beq_eq_false rfl)) y347
  have y349 : (s13 (a)).2.2 6 = some (n + 1) := by rw [hs13]; exact Eq.trans (sh_nw_r (Nat.lt_add_right 6 ha)) y348
  have y350 : (s14 (a)).2.2 6 = some (n + 1) := by rw [hs14]; exact Eq.trans (sh_sr_rj (Nat.ne_of_beq_eq_false rfl)) y349
  have y351 : (s15 (a)).2.2 6 = some (n + 1) := by rw [hs15]; exact Eq.trans (sh_nw_r (Nat.lt_add_right 7 ha)) y350
  have y352 : (s16 (a)).2.2 6 = some (n + 1) := by rw [hs16]; exact Eq.trans (sh_sr_rj (Nat.ne_of_beq_eq_false rfl)) y351
  have y353 : (s17 (a)).2.2 6 = some (n + 1) := by rw [hs17]; exact Eq.trans (sh_nw_r (Nat.lt_add_right 8 ha)) y352
  have y354 : (s18 (a)).2.2 6 = some (n + 1) := by rw [hs18]; exact Eq.trans (sh_sr_rj (Nat.ne_of_beq_eq_false rfl)) y353
  have y355 : (s19 (a)).2.2 6 = some (n + 1) := by rw [hs19]; exact Eq.trans (sh_nw_r (Nat.lt_add_right 9 ha)) y354
  have y356 : (s20 (a)).2.2 6 = some (n + 1) := by rw [hs20]; exact Eq.trans (sh_sr_rj (Nat.ne_of_beq_eq_false rfl)) y355
  have y357 : (s21 (a)).2.2 6 = some (n + 1) := by rw [hs21]; exact Eq.trans (sh_nw_r (Nat.lt_add_right 10 ha)) y356
  have y358 : (s22 (a)).2.2 6 = some (n + 1) := by rw [hs22]; exact Eq.trans (sh_sr_rj (Nat.ne_of_beq_eq_false rfl)) y357
  have y359 : (s23 (a)).2.2 6 = some (n + 1) := by rw [hs23]; exact Eq.trans (sh_nw_r (Nat.lt_add_right 11 ha)) y358
  have y360 : (s24 (a)).2.2 6 = some (n + 1) := by rw [hs24]; exact Eq.trans (sh_sr_rj (Nat.ne_of_beq_eq_false rfl)) y359
  have y361 : (s25 (a)).2.2 6 = some (n + 1) := by rw [hs25]; exact Eq.trans (sh_nw_r (Nat.lt_add_right 12 ha)) y360
  have y362 : (s26 (a)).2.2 6 = some (n + 1) := by rw [hs26]; exact Eq.trans (sh_sr_rj (Nat.ne_of_beq_eq_false rfl)) y361
  have y363 : (s27 (a)).2.2 6 = some (n + 1) := by rw [hs27]; exact Eq.trans (sh_nw_r (Nat.lt_add_right 13 ha)) y362
  have y364 : (s28 (a)).2.2 6 = some (n + 1) := by rw [hs28]; exact Eq.trans (sh_sr_rj (Nat.ne_of_beq_eq_false rfl)) y363
  have y365 : (s29 (a)).2.2 6 = some (n + 1) := by rw [hs29]; exact Eq.trans (sh_nw_r (Nat.lt_add_right 14 ha)) y364
  have y366 : (s30 (a)).2.2 6 = some (n + 1) := by rw [hs30]; exact Eq.trans (sh_sr_rj (Nat.ne_of_beq_eq_false rfl)) y365
  have y367 : (s31 (a)).2.2 6 = some (n + 1) := by rw [hs31]; exact Eq.trans (sh_nw_r (Nat.lt_add_right 15 ha)) y366
  have y368 : (s32 (a)).2.2 6 = some (n + 1) := by rw [hs32]; exact Eq.trans (sh_sr_rj (Nat.ne_of_beq_eq_false rfl)) y367
  have y369 : (s33 (a)).2.2 6 = some (n + 1) := by rw [hs33]; exact Eq.trans (sh_nw_r (Nat.lt_add_right 16 ha)) y368
  have y370 : (s34 (a)).2.2 6 = some (n + 1) := by rw [hs34]; exact Eq.trans (sh_sr_rj (Nat.ne_of_beq_eq_false rfl)) y369
  have y371 : (s35 (a)).2.2 6 = some (n + 1) := by rw [hs35]; exact Eq.trans (sh_nw_r (Nat.lt_add_right 17 ha)) y370
  have y372 : (s36 (a)).2.2 6 = some (n + 1) := by rw [hs36]; exact Eq.trans (sh_sr_rj (Nat.ne_of_beq_eq_false rfl)) y371
  have y373 : (s37 (a)).2.2 6 = some (n + 1) := by rw [hs37]; exact Eq.trans (sh_nw_r (Nat.lt_add_right 18 ha)) y372
  have y374 : (s38 (a)).2.2 6 = some (n + 1) := by rw [hs38]; exact Eq.trans (sh_sr_rj (Nat.ne_of_beq_eq_false rfl)) y373
  have y375 : (s39 (a)).2.2 6 = some (n + 1) := by rw [hs39]; exact Eq.trans (sh_nw_r (Nat.lt_add_right 19 ha)) y374
  have y376 : (s40 (a)).2.2 6 = some (n + 1) := by rw [hs40]; exact Eq.trans (sh_sr_rj (Nat.ne_of_beq_eq_false rfl)) y375
  have y377 : (s41 (a)).2.2 6 = some (n + 1) := by rw [hs41]; exact Eq.trans (sh_nw_r (Nat.lt_add_right 20 ha)) y376
  have y378 : (s42 (a)).2.2 6 = some (n + 1) := by rw [hs42]; exact Eq.trans (sh_sr_rj (Nat.ne_of_beq_eq_false rfl)) y377
  have y379 : (s43 (a)).2.2 6 = some (n + 1) := by rw [hs43]; exact Eq.trans (sh_nw_r (Nat.lt_add_right 21 ha)) y378
  have y380 : (s44 (a)).2.2 6 = some (n + 1) := by rw [hs44]; exact Eq.trans (sh_sr_rj (Nat.ne_of_beq_eq_false rfl)) y379
  have y381 : (s45 (a)).2.2 6 = some (n + 1) := by rw [hs45]; exact Eq.trans (sh_nw_r (Nat.lt_add_right 22 ha)) y380
  have y382 : (s46 (a)).2.2 6 = some (n + 1) := by rw [hs46]; exact Eq.trans (sh_sr_rj (Nat.ne_of_beq_eq_false rfl)) y381
  have y383 : (s47 (a)).2.2 6 = some (n + 1) := by rw [hs47]; exact Eq.trans (sh_nw_r (Nat.lt_add_right 23 ha)) y382
  have y384 : (s48 (a)).2.2 6 = some (n + 1) := by rw [hs48]; exact Eq.trans (sh_sr_rj (Nat.ne_of_beq_eq_false rfl)) y383
  have y385 : (s49 (a)).2.2 6 = some (n + 1) := by rw [hs49]; exact Eq.trans (sh_nw_r (Nat.lt_add_right 24 ha)) y384
  have y386 : (s50 (a)).2.2 6 = some (n + 1) := by rw [hs50]; exact Eq.trans (sh_sr_rj (Nat.ne_of_beq_eq_false rfl)) y385
  have y387 : (s51 (a)).2.2 6 = some (n + 1) := by rw [hs51]; exact Eq.trans (sh_nw_r (Nat.lt_add_right 25 ha)) y386
  have y388 : (s52 (a)).2.2 6 = some (n + 1) := by rw [hs52]; exact Eq.trans (sh_sr_rj (Nat.ne_of_beq_eq_false rfl)) y387
  have y389 : (s53 (a)).2.2 6 = some (n + 1) := by rw [hs53]; exact Eq.trans (sh_nw_r (Nat.lt_add_right 26 ha)) y388
  have y390 : (s54 (a)).2.2 6 = some (n + 1) := by rw [hs54]; exact Eq.trans (sh_sr_rj (Nat.ne_of_beq_eq_false rfl)) y389
  have y391 : (s55 (a)).2.2 6 = some (n + 1) := by rw [hs55]; exact Eq.trans (sh_nw_r (Nat.lt_add_right 27 ha)) y390
  have y392 : (s56 (a)).2.2 6 = some (n + 1) := by rw [hs56]; exact Eq.trans (sh_sr_rj (Nat.ne_of_beq_eq_false rfl)) y391
  have y393 : (s57 (a)).2.2 6 = some (n + 1) := by rw [hs57]; exact Eq.trans (sh_nw_r (Nat.lt_add_right 28 ha)) y392
  have y394 : (s58 (a)).2.2 6 = some (n + 1) := by rw [hs58]; exact Eq.trans (sh_sr_rj (Nat.ne_of_beq_eq_false rfl)) y393
  refine qi_getr rfl y174 y394 ?_
  refine qi_ic rfl ?_
  refine qi_ic rfl ?_
  have y395 : (s4 (n + 1)).1 = 16 := by rw [hs4]; exact Eq.trans sh_sr_k y6
  have y396 : (s5 (n + 1)).1 = 16 := by rw [hs5]; exact Eq.trans (sh_nw_k (Nat.add_lt_add_left (k := n) (Nat.le_of_ble_eq_true rfl : 1 < 2))) y395
  have y397 : (s6 (n + 1)).1 = 16 := by rw [hs6]; exact Eq.trans sh_sr_k y396
  have y398 : (s7 (n + 1)).1 = 16 := by rw [hs7]; exact Eq.trans (sh_nw_k (Nat.add_lt_add_left (k := n) (Nat.le_of_ble_eq_true rfl : 1 < 3))) y397
  have y399 : (s8 (n + 1)).1 = 16 := by rw [hs8]; exact Eq.trans sh_sr_k y398
  have y400 : (s9 (n + 1)).1 = 16 := by rw [hs9]; exact Eq.trans (sh_nw_k (Nat.add_lt_add_left (k := n) (Nat.le_of_ble_eq_true rfl : 1 < 4))) y399
  have y401 : (s10 (n + 1)).1 = 16 := by rw [hs10]; exact Eq.trans sh_sr_k y400
  have y402 : (s11 (n + 1)).1 = 16 := by rw [hs11]; exact Eq.trans (sh_nw_k (Nat.add_lt_add_left (k := n) (Nat.le_of_ble_eq_true rfl : 1 < 5))) y401
  have y403 : (s12 (n + 1)).1 = 16 := by rw [hs12]; exact Eq.trans sh_sr_k y402
  have y404 : (s13 (n + 1)).1 = 16 := by rw [hs13]; exact Eq.trans (sh_nw_k (Nat.add_lt_add_left (k := n) (Nat.le_of_ble_eq_true rfl : 1 < 6))) y403
  have y405 : (s14 (n + 1)).1 = 16 := by rw [hs14]; exact Eq.trans sh_sr_k y404
  have y406 : (s15 (n + 1)).1 = 16 := by rw [hs15]; exact Eq.trans (sh_nw_k (Nat.add_lt_add_left (k := n) (Nat.le_of_ble_eq_true rfl : 1 < 7))) y405
  have y407 : (s16 (n + 1)).1 = 16 := by rw [hs16]; exact Eq.trans sh_sr_k y406
  have y408 : (s17 (n + 1)).1 = 16 := by rw [hs17]; exact Eq.trans (sh_nw_k (Nat.add_lt_add_left (k := n) (Nat.le_of_ble_eq_true rfl : 1 < 8))) y407
  have y409 : (s18 (n + 1)).1 = 16 := by rw [hs18]; exact Eq.trans sh_sr_k y408
  have y410 : (s19 (n + 1)).1 = 16 := by rw [hs19]; exact Eq.trans (sh_nw_k (Nat.add_lt_add_left (k := n) (Nat.le_of_ble_eq_true rfl : 1 < 9))) y409
  have y411 : (s20 (n + 1)).1 = 16 := by rw [hs20]; exact Eq.trans sh_sr_k y410
  have y412 : (s21 (n + 1)).1 = 16 := by rw [hs21]; exact Eq.trans (sh_nw_k (Nat.add_lt_add_left (k := n) (Nat.le_of_ble_eq_true rfl : 1 < 10))) y411
  have y413 : (s22 (n + 1)).1 = 16 := by rw [hs22]; exact Eq.trans sh_sr_k y412
  have y414 : (s23 (n + 1)).1 = 16 := by rw [hs23]; exact Eq.trans (sh_nw_k (Nat.add_lt_add_left (k := n) (Nat.le_of_ble_eq_true rfl : 1 < 11))) y413
  have y415 : (s24 (n + 1)).1 = 16 := by rw [hs24]; exact Eq.trans sh_sr_k y414
  have y416 : (s25 (n + 1)).1 = 16 := by rw [hs25]; exact Eq.trans (sh_nw_k (Nat.add_lt_add_left (k := n) (Nat.le_of_ble_eq_true rfl : 1 < 12))) y415
  have y417 : (s26 (n + 1)).1 = 16 := by rw [hs26]; exact Eq.trans sh_sr_k y416
  have y418 : (s27 (n + 1)).1 = 16 := by rw [hs27]; exact Eq.trans (sh_nw_k (Nat.add_lt_add_left (k := n) (Nat.le_of_ble_eq_true rfl : 1 < 13))) y417
  have y419 : (s28 (n + 1)).1 = 16 := by rw [hs28]; exact Eq.trans sh_sr_k y418
  have y420 : (s29 (n + 1)).1 = 16 := by rw [hs29]; exact Eq.trans (sh_nw_k (Nat.add_lt_add_left (k := n) (Nat.le_of_ble_eq_true rfl : 1 < 14))) y419
  have y421 : (s30 (n + 1)).1 = 16 := by rw [hs30]; exact Eq.trans sh_sr_k y420
  have y422 : (s31 (n + 1)).1 = 16 := by rw [hs31]; exact Eq.trans (sh_nw_k (Nat.add_lt_add_left (k := n) (Nat.le_of_ble_eq_true rfl : 1 < 15))) y421
  have y423 : (s32 (n + 1)).1 = 16 := by rw [hs32]; exact Eq.trans sh_sr_k y422
  have y424 : (s33 (n + 1)).1 = 16 := by rw [hs33]; exact Eq.trans (sh_nw_k (Nat.add_lt_add_left (k := n) (Nat.le_of_ble_eq_true rfl : 1 < 16))) y423
  have y425 : (s34 (n + 1)).1 = 16 := by rw [hs34]; exact Eq.trans sh_sr_k y424
  have y426 : (s35 (n + 1)).1 = 16 := by rw [hs35]; exact Eq.trans (sh_nw_k (Nat.add_lt_add_left (k := n) (Nat.le_of_ble_eq_true rfl : 1 < 17))) y425
  have y427 : (s36 (n + 1)).1 = 16 := by rw [hs36]; exact Eq.trans sh_sr_k y426
  have y428 : (s37 (n + 1)).1 = 16 := by rw [hs37]; exact Eq.trans (sh_nw_k (Nat.add_lt_add_left (k := n) (Nat.le_of_ble_eq_true rfl : 1 < 18))) y427
  have y429 : (s38 (n + 1)).1 = 16 := by rw [hs38]; exact Eq.trans sh_sr_k y428
  have y430 : (s39 (n + 1)).1 = 16 := by rw [hs39]; exact Eq.trans (sh_nw_k (Nat.add_lt_add_left (k := n) (Nat.le_of_ble_eq_true rfl : 1 < 19))) y429
  have y431 : (s40 (n + 1)).1 = 16 := by rw [hs40]; exact Eq.trans sh_sr_k y430
  have y432 : (s41 (n + 1)).1 = 16 := by rw [hs41]; exact Eq.trans (sh_nw_k (Nat.add_lt_add_left (k := n) (Nat.le_of_ble_eq_true rfl : 1 < 20))) y431
  have y433 : (s42 (n + 1)).1 = 16 := by rw [hs42]; exact Eq.trans sh_sr_k y432
  have y434 : (s43 (n + 1)).1 = 16 := by rw [hs43]; exact Eq.trans (sh_nw_k (Nat.add_lt_add_left (k := n) (Nat.le_of_ble_eq_true rfl : 1 < 21))) y433
  have y435 : (s44 (n + 1)).1 = 16 := by rw [hs44]; exact Eq.trans sh_sr_k y434
  have y436 : (s45 (n + 1)).1 = 16 := by rw [hs45]; exact Eq.trans (sh_nw_k (Nat.add_lt_add_left (k := n) (Nat.le_of_ble_eq_true rfl : 1 < 22))) y435
  have y437 : (s46 (n + 1)).1 = 16 := by rw [hs46]; exact Eq.trans sh_sr_k y436
  have y438 : (s47 (n + 1)).1 = 16 := by rw [hs47]; exact Eq.trans (sh_nw_k (Nat.add_lt_add_left (k := n) (Nat.le_of_ble_eq_true rfl : 1 < 23))) y437
  have y439 : (s48 (n + 1)).1 = 16 := by rw [hs48]; exact Eq.trans sh_sr_k y438
  have y440 : (s49 (n + 1)).1 = 16 := by rw [hs49]; exact Eq.trans (sh_nw_k (Nat.add_lt_add_left (k := n) (Nat.le_of_ble_eq_true rfl : 1 < 24))) y439
  have y441 : (s50 (n + 1)).1 = 16 := by rw [hs50]; exact Eq.trans sh_sr_k y440
  have y442 : (s51 (n + 1)).1 = 16 := by rw [hs51]; exact Eq.trans (sh_nw_k (Nat.add_lt_add_left (k := n) (Nat.le_of_ble_eq_true rfl : 1 < 25))) y441
  have y443 : (s52 (n + 1)).1 = 16 := by rw [hs52]; exact Eq.trans sh_sr_k y442
  have y444 : (s53 (n + 1)).1 = 16 := by rw [hs53]; exact Eq.trans (sh_nw_k (Nat.add_lt_add_left (k := n) (Nat.le_of_ble_eq_true rfl : 1 < 26))) y443
  have y445 : (s54 (n + 1)).1 = 16 := by rw [hs54]; exact Eq.trans sh_sr_k y444
  have y446 : (s55 (n + 1)).1 = 16 := by rw [hs55]; exact Eq.trans (sh_nw_k (Nat.add_lt_add_left (k := n) (Nat.le_of_ble_eq_true rfl : 1 < 27))) y445
  have y447 : (s56 (n + 1)).1 = 16 := by rw [hs56]; exact Eq.trans sh_sr_k y446
  have y448 : (s57 (n + 1)).1 = 16 := by rw [hs57]; exact Eq.trans (sh_nw_k (Nat.add_lt_add_left (k := n) (Nat.le_of_ble_eq_true rfl : 1 < 28))) y447
  have y449 : (s58 (n + 1)).1 = 16 := by rw [hs58]; exact Eq.trans sh_sr_k y448
  have y450 : (s4 (n + 1)).2.1 = 1427 := by rw [hs4]; exact Eq.trans sh_sr_l y7
  have y451 : (s5 (n + 1)).2.1 = 1427 := by rw [hs5]; exact Eq.trans (sh_nw_l (Nat.add_lt_add_left (k := n) (Nat.le_of_ble_eq_true rfl : 1 < 2))) y450
  have y452 : (s6 (n + 1)).2.1 = 1427 := by rw [hs6]; exact Eq.trans sh_sr_l y451
  have y453 : (s7 (n + 1)).2.1 = 1427 := by rw [hs7]; exact Eq.trans (sh_nw_l (Nat.add_lt_add_left (k := n) (Nat.le_of_ble_eq_true rfl : 1 < 3))) y452
  have y454 : (s8 (n + 1)).2.1 = 1427 := by rw [hs8]; exact Eq.trans sh_sr_l y453
  have y455 : (s9 (n + 1)).2.1 = 1427 := by rw [hs9]; exact Eq.trans (sh_nw_l (Nat.add_lt_add_left (k := n) (Nat.le_of_ble_eq_true rfl : 1 < 4))) y454
  have y456 : (s10 (n + 1)).2.1 = 1427 := by rw [hs10]; exact Eq.trans sh_sr_l y455
  have y457 : (s11 (n + 1)).2.1 = 1427 := by rw [hs11]; exact Eq.trans (sh_nw_l (Nat.add_lt_add_left (k := n) (Nat.le_of_ble_eq_true rfl : 1 < 5))) y456
  have y458 : (s12 (n + 1)).2.1 = 1427 := by rw [hs12]; exact Eq.trans sh_sr_l y457
  have y459 : (s13 (n + 1)).2.1 = 1427 := by rw [hs13]; exact Eq.trans (sh_nw_l (Nat.add_lt_add_left (k := n) (Nat.le_of_ble_eq_true rfl : 1 < 6))) y458
  have y460 : (s14 (n + 1)).2.1 = 1427 := by rw [hs14]; exact Eq.trans sh_sr_l y459
  have y461 : (s15 (n + 1)).2.1 = 1427 := by rw [hs15]; exact Eq.trans (sh_nw_l (Nat.add_lt_add_left (k := n) (Nat.le_of_ble_eq_true rfl : 1 < 7))) y460
  have y462 : (s16 (n + 1)).2.1 = 1427 := by rw [hs16]; exact Eq.trans sh_sr_l y461
  have y463 : (s17 (n + 1)).2.1 = 1427 := by rw [hs17]; exact Eq.trans (sh_nw_l (Nat.add_lt_add_left (k := n) (Nat.le_of_ble_eq_true rfl : 1 < 8))) y462
  have y464 : (s18 (n + 1)).2.1 = 1427 := by rw [hs18]; exact Eq.trans sh_sr_l y463
  have y465 : (s19 (n + 1)).2.1 = 1427 := by rw [hs19]; exact Eq.trans (sh_nw_l (Nat.add_lt_add_left (k := n) (Nat.le_of_ble_eq_true rfl : 1 < 9))) y464
  have y466 : (s20 (n + 1)).2.1 = 1427 := by rw [hs20]; exact Eq.trans sh_sr_l y465
  have y467 : (s21 (n + 1)).2.1 = 1427 := by rw [hs21]; exact Eq.trans (sh_nw_l (Nat.add_lt_add_left (k := n) (Nat.le_of_ble_eq_true rfl : 1 < 10))) y466
  have y468 : (s22 (n + 1)).2.1 = 1427 := by rw [hs22]; exact Eq.trans sh_sr_l y467
  have y469 : (s23 (n + 1)).2.1 = 1427 := by rw [hs23]; exact Eq.trans (sh_nw_l (Nat.add_lt_add_left (k := n) (Nat.le_of_ble_eq_true rfl : 1 < 11))) y468
  have y470 : (s24 (n + 1)).2.1 = 1427 := by rw [hs24]; exact Eq.trans sh_sr_l y469
  have y471 : (s25 (n + 1)).2.1 = 1427 := by rw [hs25]; exact Eq.trans (sh_nw_l (Nat.add_lt_add_left (k := n) (Nat.le_of_ble_eq_true rfl : 1 < 12))) y470
  have y472 : (s26 (n + 1)).2.1 = 1427 := by rw [hs26]; exact Eq.trans sh_sr_l y471
  have y473 : (s27 (n + 1)).2.1 = 1427 := by rw [hs27]; exact Eq.trans (sh_nw_l (Nat.add_lt_add_left (k := n) (Nat.le_of_ble_eq_true rfl : 1 < 13))) y472
  have y474 : (s28 (n + 1)).2.1 = 1427 := by rw [hs28]; exact Eq.trans sh_sr_l y473
  have y475 : (s29 (n + 1)).2.1 = 1427 := by rw [hs29]; exact Eq.trans (sh_nw_l (Nat.add_lt_add_left (k := n) (Nat.le_of_ble_eq_true rfl : 1 < 14))) y474
  have y476 : (s30 (n + 1)).2.1 = 1427 := by rw [hs30]; exact Eq.trans sh_sr_l y475
  have y477 : (s31 (n + 1)).2.1 = 1427 := by rw [hs31]; exact Eq.trans (sh_nw_l (Nat.add_lt_add_left (k := n) (Nat.le_of_ble_eq_true rfl : 1 < 15))) y476
  have y478 : (s32 (n + 1)).2.1 = 1427 := by rw [hs32]; exact Eq.trans sh_sr_l y477
  have y479 : (s33 (n + 1)).2.1 = 1427 := by rw [hs33]; exact Eq.trans (sh_nw_l (Nat.add_lt_add_left (k := n) (Nat.le_of_ble_eq_true rfl : 1 < 16))) y478
  have y480 : (s34 (n + 1)).2.1 = 1427 := by rw [hs34]; exact Eq.trans sh_sr_l y479
  have y481 : (s35 (n + 1)).2.1 = 1427 := by rw [hs35]; exact Eq.trans (sh_nw_l (Nat.add_lt_add_left (k := n) (Nat.le_of_ble_eq_true rfl : 1 < 17))) y480
  have y482 : (s36 (n + 1)).2.1 = 1427 := by rw [hs36]; exact Eq.trans sh_sr_l y481
  have y483 : (s37 (n + 1)).2.1 = 1427 := by rw [hs37]; exact Eq.trans (sh_nw_l (Nat.add_lt_add_left (k := n) (Nat.le_of_ble_eq_true rfl : 1 < 18))) y482
  have y484 : (s38 (n + 1)).2.1 = 1427 := by rw [hs38]; exact Eq.trans sh_sr_l y483
  have y485 : (s39 (n + 1)).2.1 = 1427 := by rw [hs39]; exact Eq.trans (sh_nw_l (Nat.add_lt_add_left (k := n) (Nat.le_of_ble_eq_true rfl : 1 < 19))) y484
  have y486 : (s40 (n + 1)).2.1 = 1427 := by rw [hs40]; exact Eq.trans sh_sr_l y485
  have y487 : (s41 (n + 1)).2.1 = 1427 := by rw [hs41]; exact Eq.trans (sh_nw_l (Nat.add_lt_add_left (k := n) (Nat.le_of_ble_eq_true rfl : 1 < 20))) y486
  have y488 : (s42 (n + 1)).2.1 = 1427 := by rw [hs42]; exact Eq.trans sh_sr_l y487
  have y489 : (s43 (n + 1)).2.1 = 1427 := by rw [hs43]; exact Eq.trans (sh_nw_l (Nat.add_lt_add_left (k := n) (Nat.le_of_ble_eq_true rfl : 1 < 21))) y488
  have y490 : (s44 (n + 1)).2.1 = 1427 := by rw [hs44]; exact Eq.trans sh_sr_l y489
  have y491 : (s45 (n + 1)).2.1 = 1427 := by rw [hs45]; exact Eq.trans (sh_nw_l (Nat.add_lt_add_left (k := n) (Nat.le_of_ble_eq_true rfl : 1 < 22))) y490
  have y492 : (s46 (n + 1)).2.1 = 1427 := by rw [hs46]; exact Eq.trans sh_sr_l y491
  have y493 : (s47 (n + 1)).2.1 = 1427 := by rw [hs47]; exact Eq.trans (sh_nw_l (Nat.add_lt_add_left (k := n) (Nat.le_of_ble_eq_true rfl : 1 < 23))) y492
  have y494 : (s48 (n + 1)).2.1 = 1427 := by rw [hs48]; exact Eq.trans sh_sr_l y493
  have y495 : (s49 (n + 1)).2.1 = 1427 := by rw [hs49]; exact Eq.trans (sh_nw_l (Nat.add_lt_add_left (k := n) (Nat.le_of_ble_eq_true rfl : 1 < 24))) y494
  have y496 : (s50 (n + 1)).2.1 = 1427 := by rw [hs50]; exact Eq.trans sh_sr_l y495
  have y497 : (s51 (n + 1)).2.1 = 1427 := by rw [hs51]; exact Eq.trans (sh_nw_l (Nat.add_lt_add_left (k := n) (Nat.le_of_ble_eq_true rfl : 1 < 25))) y496
  have y498 : (s52 (n + 1)).2.1 = 1427 := by rw [hs52]; exact Eq.trans sh_sr_l y497
  have y499 : (s53 (n + 1)).2.1 = 1427 := by rw [hs53]; exact Eq.trans (sh_nw_l (Nat.add_lt_add_left (k := n) (Nat.le_of_ble_eq_true rfl : 1 < 26))) y498
  have y500 : (s54 (n + 1)).2.1 = 1427 := by rw [hs54]; exact Eq.trans sh_sr_l y499
  have y501 : (s55 (n + 1)).2.1 = 1427 := by rw [hs55]; exact Eq.trans (sh_nw_l (Nat.add_lt_add_left (k := n) (Nat.le_of_ble_eq_true rfl : 1 < 27))) y500
  have y502 : (s56 (n + 1)).2.1 = 1427 := by rw [hs56]; exact Eq.trans sh_sr_l y501
  have y503 : (s57 (n + 1)).2.1 = 1427 := by rw [hs57]; exact Eq.trans (sh_nw_l (Nat.add_lt_add_left (k := n) (Nat.le_of_ble_eq_true rfl : 1 < 28))) y502
  have y504 : (s58 (n + 1)).2.1 = 1427 := by rw [hs58]; exact Eq.trans sh_sr_l y503
  refine qi_iast (j := 4) rfl y449 y504 (by decide) (by decide) rfl (fun I505 hI505 => ?_)
  have hz506 : dw_Z (n + 29) I505 J339 := by rw [hI505]; exact dw_Z.si hz340 (Nat.add_lt_add_left (k := n) (Nat.le_of_ble_eq_true rfl : 1 < 29))
  refine qi_ic rfl ?_
  refine qi_ist rfl rfl ?_
  show dw_ok (pr_X12_init K) 386 0 0 [some (.ref (a)), some (.int 0)] [] (n + 29, s58, I505, J339)
  refine qi_ild rfl rfl ?_
  refine qi_ic rfl ?_
  refine qi_ge_n rfl (by decide) ?_
  refine qi_ald rfl rfl ?_
  refine qi_getr rfl y174 y394 ?_
  refine qi_ic rfl ?_
  refine qi_ic rfl ?_
  refine qi_ild rfl rfl ?_
  refine qi_mul (z := 0) rfl (by decide) ?_
  refine qi_add (z := 221) rfl (by decide) ?_
  refine qi_ic rfl ?_
  refine qi_iast (j := 221) rfl y449 y504 (by decide) (by decide) rfl (fun I507 hI507 => ?_)
  have hz508 : dw_Z (n + 29) I507 J339 := by rw [hI507]; exact dw_Z.si hz506 (Nat.add_lt_add_left (k := n) (Nat.le_of_ble_eq_true rfl : 1 < 29))
  refine qi_inc (y := 1) rfl rfl rfl (by decide) ?_
  show dw_ok (pr_X12_init K) 409 0 0 [some (.ref (a)), some (.int 1)] [] (n + 29, s58, I507, J339)
  refine qi_goto rfl ?_
  refine qi_ild rfl rfl ?_
  refine qi_ic rfl ?_
  refine qi_ge_n rfl (by decide) ?_
  refine qi_ald rfl rfl ?_
  refine qi_getr rfl y174 y394 ?_
  refine qi_ic rfl ?_
  refine qi_ic rfl ?_
  refine qi_ild rfl rfl ?_
  refine qi_mul (z := 97) rfl (by decide) ?_
  refine qi_add (z := 318) rfl (by decide) ?_
  refine qi_ic rfl ?_
  refine qi_iast (j := 318) rfl y449 y504 (by decide) (by decide) rfl (fun I509 hI509 => ?_)
  have hz510 : dw_Z (n + 29) I509 J339 := by rw [hI509]; exact dw_Z.si hz508 (Nat.add_lt_add_left (k := n) (Nat.le_of_ble_eq_true rfl : 1 < 29))
  refine qi_inc (y := 2) rfl rfl rfl (by decide) ?_
  show dw_ok (pr_X12_init K) 409 0 0 [some (.ref (a)), some (.int 2)] [] (n + 29, s58, I509, J339)
  refine qi_goto rfl ?_
  refine qi_ild rfl rfl ?_
  refine qi_ic rfl ?_
  refine qi_ge_n rfl (by decide) ?_
  refine qi_ald rfl rfl ?_
  refine qi_getr rfl y174 y394 ?_
  refine qi_ic rfl ?_
  refine qi_ic rfl ?_
  refine qi_ild rfl rfl ?_
  refine qi_mul (z := 194) rfl (by decide) ?_
  refine qi_add (z := 415) rfl (by decide) ?_
  refine qi_ic rfl ?_
  refine qi_iast (j := 415) rfl y449 y504 (by decide) (by decide) rfl (fun I511 hI511 => ?_)
  have hz512 : dw_Z (n + 29) I511 J339 := by rw [hI511]; exact dw_Z.si hz510 (Nat.add_lt_add_left (k := n) (Nat.le_of_ble_eq_true rfl : 1 < 29))
  refine qi_inc (y := 3) rfl rfl rfl (by decide) ?_
  show dw_ok (pr_X12_init K) 409 0 0 [some (.ref (a)), some (.int 3)] [] (n + 29, s58, I511, J339)
  refine qi_goto rfl ?_
  refine qi_ild rfl rfl ?_
  refine qi_ic rfl ?_
  refine qi_ge_n rfl (by decide) ?_
  refine qi_ald rfl rfl ?_
  refine qi_getr rfl y174 y394 ?_
  refine qi_ic rfl ?_
  refine qi_ic rfl ?_
  refine qi_ild rfl rfl ?_
  refine qi_mul (z := 291) rfl (by decide) ?_
  refine qi_add (z := 512) rfl (by decide) ?_
  refine qi_ic rfl ?_
  refine qi_iast (j := 512) rfl y449 y504 (by decide) (by decide) rfl (fun I513 hI513 => ?_)
  have hz514 : dw_Z (n + 29) I513 J339 := by rw [hI513]; exact dw_Z.si hz512 (Nat.add_lt_add_left (k := n) (Nat.le_of_ble_eq_true rfl : 1 < 29))
  refine qi_inc (y := 4) rfl rfl rfl (by decide) ?_
  show dw_ok (pr_X12_init K) 409 0 0 [some (.ref (a)), some (.int 4)] [] (n + 29, s58, I513, J339)
  refine qi_goto rfl ?_
  refine qi_ild rfl rfl ?_
  refine qi_ic rfl ?_
  refine qi_ge_n rfl (by decide) ?_
  refine qi_ald rfl rfl ?_
  refine qi_getr rfl y174 y394 ?_
  refine qi_ic rfl ?_
  refine qi_ic rfl ?_
  refine qi_ild rfl rfl ?_
  refine qi_mul (z := 388) rfl (by decide) ?_
  refine qi_add (z := 609) rfl (by decide) ?_
  refine qi_ic rfl ?_
  refine qi_iast (j := 609) rfl y449 y504 (by decide) (by decide) rfl (fun I515 hI515 => ?_)
  have hz516 : dw_Z (n + 29) I515 J339 := by rw [hI515]; exact dw_Z.si hz514 (Nat.add_lt_add_left (k := n) (Nat.le_of_ble_eq_true rfl : 1 < 29))
  refine qi_inc (y := 5) rfl rfl rfl (by decide) ?_
  show dw_ok (pr_X12_init K) 409 0 0 [some (.ref (a)), some (.int 5)] [] (n + 29, s58, I515, J339)
  refine qi_goto rfl ?_
  refine qi_ild rfl rfl ?_
  refine qi_ic rfl ?_
  refine qi_ge_n rfl (by decide) ?_
  refine qi_ald rfl rfl ?_
  refine qi_getr rfl y174 y394 ?_
  refine qi_ic rfl ?_
  refine qi_ic rfl ?_
  refine qi_ild rfl rfl ?_
  refine qi_mul (z := 485) rfl (by decide) ?_
  refine qi_add (z := 706) rfl (by decide) ?_
  refine qi_ic rfl ?_
  refine qi_iast (j := 706) rfl y449 y504 (by decide) (by decide) rfl (fun I517 hI517 => ?_)
  have hz518 : dw_Z (n + 29) I517 J339 := by rw [hI517]; exact dw_Z.si hz516 (Nat.add_lt_add_left (k := n) (Nat.le_of_ble_eq_true rfl : 1 < 29))
  refine qi_inc (y := 6) rfl rfl rfl (by decide) ?_
  show dw_ok (pr_X12_init K) 409 0 0 [some (.ref (a)), some (.int 6)] [] (n + 29, s58, I517, J339)
  refine qi_goto rfl ?_
  refine qi_ild rfl rfl ?_
  refine qi_ic rfl ?_
  refine qi_ge_y rfl (by decide) ?_
  refine qi_vret rfl ?_
  have es : s58 = f_X12_init n sh a := by
    rw [hs58, hs57, hs56, hs55, hs54, hs53, hs52, hs51, hs50, hs49, hs48, hs47, hs46, hs45, hs44, hs43, hs42, hs41, hs40, hs39, hs38, hs37, hs36, hs35, hs34, hs33, hs32, hs31, hs30, hs29, hs28, hs27, hs26, hs25, hs24, hs23, hs22, hs21, hs20, hs19, hs18, hs17, hs16, hs15, hs14, hs13, hs12, hs11, hs10, hs9, hs8, hs7, hs6, hs5, hs4, hs3, hs2, hs1]
    rfl
  have eI : I517 = g_X12_init n I a := by
    rw [hI517, hI515, hI513, hI511, hI509, hI507, hI505]
    rfl
  have eJ : J339 = j_X12_init n J a := by
    rw [hJ339, hJ337, hJ335, hJ333, hJ331, hJ329, hJ327, hJ325, hJ323, hJ321, hJ319, hJ317, hJ315]
    rfl
  rw [es, eI, eJ]
  exact hK
theorem ea_X12_init {K : dw_K} {n m : Nat} {sh : dw_Sh} {I : Nat → Nat → Int32} {J : Nat → Nat → Int64} {a : Nat} (hz : dw_Z n I J) (hm : n + 29 = m) (hn : n + 29 ≤ 1000000) (ha : a < n) (hk : (sh a).1 = 12) (hK : ∀ sh' : dw_Sh, sh' = f_X12_init n sh a → ∀ I' : Nat → Nat → Int32, I' = g_X12_init n I a → ∀ J' : Nat → Nat → Int64, J' = j_X12_init n J a → K none (m, sh', I', J')) : t_X12_init [.ref a] (n, sh, I, J) K := e_X12_init hz hm hn ha hk (hK _ rfl _ rfl _ rfl)
end
section
/-! ===== the law's first steps, purely ===== -/
theorem dw_callV {B : dw_B} {bc bs : Nat} {ls : dw_L} {st : List Value} {μ : dw_S} {ci k mc ms nx a : Nat} {T : dw_T} {as rest : List Value} (h : dw_sp k st [] = (.ref a :: as, rest)) (h1 : (μ.2.1 a).1 = ci) (h2 : as.length + 1 = k) (h3 : dw_cats rest ≤ 8) (h4 : mc ≤ bc) (h5 : ms ≤ bs) (hT : T (.ref a :: as) μ (fun r μ' => B nx (bc - mc) (bs - ms) ls (r.toList ++ rest) μ')) : o_callV ci k mc ms T nx B bc bs ls st μ := by
  unfold o_callV
  rw [h]
  exact dw_itp ⟨h1, h2, h3, h4, h5⟩ hT
def SH0 : dw_Sh := fun _ => (999, 0, fun _ => none)
def SHa : dw_Sh := sh_nw 0 SH0 11 18
def SHb : dw_Sh := f_X11_init 1 SHa 0
def SHc : dw_Sh := sh_nw 404 SHb 12 57
def SHd : dw_Sh := f_X12_init 405 SHc 404
def SH1 : dw_Sh := sh_nw 434 SHd 17 1
def I00 : Nat → Nat → Int32 := fun _ _ => 0
def J00 : Nat → Nat → Int64 := fun _ _ => 0
def IN0 : Nat → Nat → Int32 := g_X11_init 1 I00 0
def IN1 : Nat → Nat → Int32 := g_X12_init 405 IN0 404
def JN1 : Nat → Nat → Int64 := j_X12_init 405 J00 404
def dw_l1 (i : Int32) (u v : Option Value) : dw_L := [some (.ref 1000000), some (.ref 0), some (.ref 404), some (.ref 434), some (.int i), u, v]
set_option maxRecDepth 20000 in
theorem law_a {L : Nat} {xs : Nat → Int32} (hK : dw_ok (pr_law L xs) 23 600589 7238097 (dw_l1 0 none none) [] (435, SH1, IN1, JN1)) : dw_ok (pr_law L xs) 0 601024 7293034 (dw_pad 7 (dw_inl [.ref 1000000])) [] (0, SH0, I00, J00) := by
  have z0 : dw_Z 0 I00 J00 := fun _ _ _ => ⟨rfl, rfl⟩
  have z1 : dw_Z 1 I00 J00 := fun _ _ _ => ⟨rfl, rfl⟩
  have z2 : dw_Z 404 IN0 J00 := z_X11_init (n := 1) (m := 404) (a := 0) z1 rfl (by omega)
  have z3 : dw_Z 405 IN0 J00 := dw_Z.up z2 (by omega)
  have z4 : dw_Z 434 IN1 JN1 := z_X12_init (n := 405) (m := 434) (a := 404) z3 rfl (by omega)
  refine dw_run 40 (fun pc => Nat.beq pc 4) ?_
  show dw_ok (pr_law L xs) 4 601023 7293016 [some (.ref 1000000), none, none, none, none, none, none] [.ref 0, .ref 0] (dw_nw (0, SH0, I00, J00) 11 18)
  rw [dw_nw_eq (n := 0) (m := 1) z0 rfl]
  refine dw_run 0 (fun _ => false) ?_
  show o_callV 11 1 403 26465 t_X11_init 7 (dw_ok (pr_law L xs)) 601023 7293016 [some (.ref 1000000), none, none, none, none, none, none] [.ref 0, .ref 0] (1, SHa, I00, J00)
  refine dw_callV (a := 0) (as := []) (rest := [.ref 0]) rfl sh_nw_at rfl (by decide) (by decide) (by decide) ?_
  refine e_X11_init (n := 1) (m := 404) (a := 0) z1 rfl (by omega) (by omega) sh_nw_at ?_
  show dw_ok (pr_law L xs) 7 600620 7266551 [some (.ref 1000000), none, none, none, none, none, none] [.ref 0] (404, SHb, IN0, J00)
  refine dw_run 40 (fun pc => Nat.beq pc 12) ?_
  show dw_ok (pr_law L xs) 12 600619 7266494 [some (.ref 1000000), some (.ref 0), none, none, none, none, none] [.ref 404, .ref 404] (dw_nw (404, SHb, IN0, J00) 12 57)
  rw [dw_nw_eq (n := 404) (m := 405) z2 rfl]
  refine dw_run 0 (fun _ => false) ?_
  show o_callV 12 1 29 28396 t_X12_init 15 (dw_ok (pr_law L xs)) 600619 7266494 [some (.ref 1000000), some (.ref 0), none, none, none, none, none] [.ref 404, .ref 404] (405, SHc, IN0, J00)
  refine dw_callV (a := 404) (as := []) (rest := [.ref 404]) rfl sh_nw_at rfl (by decide) (by decide) (by decide) ?_
  refine e_X12_init (n := 405) (m := 434) (a := 404) z3 rfl (by omega) (by omega) sh_nw_at ?_
  show dw_ok (pr_law L xs) 15 600590 7238098 [some (.ref 1000000), some (.ref 0), none, none, none, none, none] [.ref 404] (434, SHd, IN1, JN1)
  refine dw_run 40 (fun pc => Nat.beq pc 20) ?_
  show dw_ok (pr_law L xs) 20 600589 7238097 [some (.ref 1000000), some (.ref 0), some (.ref 404), some (.ref 434), none, none, none] [] (dw_nw (434, SHd, IN1, JN1) 17 (Int32.toNatClampNeg 1))
  rw [dw_nw_eq2 (n := 434) (m := 435) (N := Int32.toNatClampNeg 1) (N2 := 1) z4 rfl rfl]
  refine dw_run 40 (fun pc => Nat.beq pc 23) ?_
  exact hK
end
