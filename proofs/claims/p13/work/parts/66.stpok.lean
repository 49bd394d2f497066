section
variable {E : dx_Env} {md : List Nat} {n0 : Nat} {ν0 : Nat → Int} {μ0 : dw_S} {ν : Nat → Int} {σ : dx_S} {ls : dw_L} {st : List Value} {μ : dw_S}
theorem dx_inv {k : Nat} {v : dx_V} {r : List dx_V} (h : dx_gL k ν (v :: r) (st.map some)) : ∃ x st', st = x :: st' ∧ dx_gV k ν v (some x) ∧ dx_gL k ν r (st'.map some) := by
  match st, h with
  | x :: st', h => exact ⟨x, st', rfl, h.1, h.2⟩
theorem dx_ff_ok {a j s : Nat} {o : Int} : ∀ {l : List (Nat × Nat × Nat × Int)}, dx_ff l a j = some (s, o) → (a, j, s, o) ∈ l
  | [], h => by cases h
  | q :: r, h => by
    unfold dx_ff at h
    by_cases e : (Nat.beq q.1 a && Nat.beq q.2.1 j) = true
    · rw [if_pos e] at h
      rw [Bool.and_eq_true] at e
      have e1 := Nat.eq_of_beq_eq_true e.1
      have e2 := Nat.eq_of_beq_eq_true e.2
      obtain ⟨q1, q2, q3, q4⟩ := q
      simp only [Option.some.injEq, Prod.mk.injEq] at h
      obtain ⟨rfl, rfl⟩ := h
      subst e1 e2
      exact List.mem_cons_self
    · rw [if_neg e] at h
      exact List.mem_cons_of_mem _ (dx_ff_ok h)
theorem dx_uni_ok {a j j1 j2 : Nat} {n : Int} (h1 : j1 ≤ j) (h2 : j ≤ j2) (hn : dx_in (dx_seg (E.ce a).iv j) n) : ∀ {l : List Nat}, a ∈ l → dx_in (dx_uni E l j1 j2) n
  | [], h => by cases h
  | [q], h => by
    rw [List.mem_singleton] at h
    subst h
    exact dx_sgr_ok _ _ _ j _ h1 h2 hn
  | q :: q2 :: r, h => by
    show dx_in (min _ _, max _ _) n
    rcases List.mem_cons.mp h with h | h
    · subst h
      have := dx_sgr_ok _ _ _ j _ h1 h2 hn
      have t1 := this.1
      have t2 := this.2
      exact ⟨by show min _ _ ≤ n; omega, by show n ≤ max _ _; omega⟩
    · have := dx_uni_ok h1 h2 hn h
      have t1 := this.1
      have t2 := this.2
      exact ⟨by show min _ _ ≤ n; omega, by show n ≤ max _ _; omega⟩
theorem dx_ld_ok {l : List Nat} {a j j1 j2 : Nat} {r : List dx_V} {st2 : List Value} (h : dx_g E md n0 ν0 μ0 ν σ ls (st.map some) μ) (hr : dx_gL σ.iv.length ν r (st2.map some)) (ha : a ∈ l) (h1 : j1 ≤ j) (h2 : j ≤ j2) :
    ∃ ν', dx_g E md n0 ν0 μ0 ν' (dx_ld E σ l j1 j2 r) ls ((.int (μ.2.2.1 a j) :: st2).map some) μ ∧ dx_ext ν σ ν' (dx_ld E σ l j1 j2 r) := by
  have hn := h.hi a j
  unfold dx_ld
  split
  next q =>
    rw [List.mem_singleton] at ha
    subst ha
    split
    next e =>
      have ej : j = j1 := by omega
      subst ej
      split
      next s o hf =>
        have hm := h.fa _ (dx_ff_ok hf)
        split
        next e3 =>
          have hm1 : s < σ.iv.length := hm.1
          have r0 := h.rg (o := o) hm1
          refine ⟨ν, h.stk ⟨⟨h.k1, _, rfl, ?_⟩, hr⟩, dx_ext.rfl rfl⟩
          have hm2 : (μ.2.2.1 a j).toInt = ν s + o := hm.2
          rw [h.z]; omega
        next => exact ⟨ν, h.stk ⟨⟨hm.1, _, rfl, hm.2⟩, hr⟩, dx_ext.rfl rfl⟩
      next hf =>
        split
        next e2 =>
          refine ⟨ν, h.stk ⟨⟨h.k1, _, rfl, ?_⟩, hr⟩, dx_ext.rfl rfl⟩
          have t1 := hn.1
          have t2 := hn.2
          rw [h.z]; omega
        next e2 =>
          have hx : ∀ s, s < σ.iv.length → dx_nu ν σ.iv.length (μ.2.2.1 a j).toInt s = ν s := fun s hs => dx_nu_lt hs
          refine ⟨dx_nu ν σ.iv.length (μ.2.2.1 a j).toInt, ((h.nw hn).stk (vs := (.inl (σ.iv.length, 0)) :: r) (st2 := (.int (μ.2.2.1 a j) :: st2).map some) ⟨⟨?_, _, rfl, ?_⟩, ?_⟩).fas ?_, ⟨hx, ?_⟩⟩
          · rw [dx_nw_len]; omega
          · rw [dx_nu_at]; omega
          · rw [dx_nw_len]; exact dx_gL.ext (by omega) hx hr
          · intro q hq
            show _ < (dx_nw σ _).iv.length ∧ _
            rw [dx_nw_len]
            rcases List.mem_cons.mp hq with rfl | hq
            · refine ⟨by show σ.iv.length < _; omega, ?_⟩
              show (μ.2.2.1 a j).toInt = dx_nu ν σ.iv.length (μ.2.2.1 a j).toInt σ.iv.length + 0
              rw [dx_nu_at]; omega
            · have := h.fa q hq
              rw [hx _ this.1]
              exact ⟨by omega, this.2⟩
          · show _ ≤ (dx_nw σ _).iv.length
            rw [dx_nw_len]; omega
    next e => exact dx_ph_ok h hr (dx_sgr_ok _ _ _ j _ h1 h2 hn)
  next => exact dx_ph_ok h hr (dx_uni_ok h1 h2 hn ha)
theorem dx_rv_ok {k : Nat} {l : List (Option Nat)} {x : Option Nat} (h : x ∈ l) : dx_gV k ν (dx_rv l) (some (dw_rv x)) := by
  unfold dx_rv
  split
  next e =>
    have := List.all_eq_true.mp e x h
    cases x with
    | none => simp at this
    | some a => exact ⟨a, List.mem_filterMap.mpr ⟨some a, h, rfl⟩, rfl⟩
  next e =>
    cases x with
    | none => exact Or.inl rfl
    | some a => exact Or.inr ⟨a, List.mem_filterMap.mpr ⟨some a, h, rfl⟩, rfl⟩
theorem dx_tok_ok {t : Nat} {p : Int × Int} {x : Int32} {P : Prop} (h : dx_tok t p = true) (hx : dx_in p x.toInt) (hP : P) : dw_fitC t x P := by
  have t1 := hx.1
  have t2 := hx.2
  unfold dx_tok at h
  unfold dw_fitC
  split at h
  · rw [Bool.and_eq_true, decide_eq_true_eq, decide_eq_true_eq] at h
    show (if x = 0 ∨ x = 1 then P else False)
    rw [if_pos]
    · exact hP
    · have : x.toInt = 0 ∨ x.toInt = 1 := by omega
      rcases this with e | e
      · exact Or.inl (dx_eqI.mpr (by rw [e]; rfl))
      · exact Or.inr (dx_eqI.mpr (by rw [e]; rfl))
  · rw [Bool.and_eq_true, decide_eq_true_eq, decide_eq_true_eq] at h
    show (if x.toInt8.toInt32 = x then P else False)
    rw [if_pos]
    · exact hP
    · apply dx_eqI.mpr
      rw [Int8.toInt_toInt32, Int32.toInt_toInt8]
      exact Int.bmod_eq_of_le_mul_two (by omega) (by omega)
  next h3 h4 =>
    split
    · exact absurd rfl h3
    · exact absurd rfl h4
    · exact hP
theorem dx_fitI_ok {t : Nat} {x : Int32} {P : Prop} (hP : P) : dw_fitI t x P := by
  unfold dw_fitI
  split
  · exact fun _ => hP
  · exact fun _ => hP
  · exact hP
theorem dx_stw_ok {l : List Nat} {t a j j1 j2 sv : Nat} {ov : Int} {r : List dx_V} {st2 : List Value} {x : Int32} {σ' : dx_S} (hE : E.ok) (hw : dx_stw E md σ l t j1 j2 sv ov r = some σ') (h : dx_g E md n0 ν0 μ0 ν σ ls (st.map some) μ)
    (hs : sv < σ.iv.length) (hx : x.toInt = ν sv + ov) (hr : dx_gL σ.iv.length ν r (st2.map some)) (ha : a ∈ l) (h1 : j1 ≤ j) (h2 : j ≤ j2) :
    (∀ P : Prop, P → dw_fitC t x P) ∧ dx_g E md n0 ν0 μ0 ν σ' ls (st2.map some) (dw_si μ a j x) ∧ dx_ext ν σ ν σ' := by
  unfold dx_stw at hw
  split at hw
  next hc =>
    rw [Bool.and_eq_true] at hc
    have hca := List.all_eq_true.mp hc.1 a ha
    rw [Bool.and_eq_true] at hca
    have hrg : dx_lb σ sv + ov ≤ x.toInt ∧ x.toInt ≤ dx_ub σ sv + ov := by
      have a1 := dx_lb_ok h hs
      have a2 := dx_ub_ok h hs
      omega
    have hseg := dx_sga_ok _ _ _ j _ _ _ hca.2 h1 h2 hrg.1 hrg.2 (show dx_in dx_full _ from ⟨dx_b1 x, dx_b2 x⟩)
    cases hw
    refine ⟨fun P hP => dx_tok_ok hc.2 hrg hP, ?_, dx_ext.rfl rfl⟩
    have g1 := (h.stk (vs := r) hr).wr (l := l) (a := a) (j := j) (j1 := j1) (j2 := j2) (x := x) hE ha (dx_mem_iff.mp hca.1) h1 h2 hseg
    split
    next q =>
      split
      next e =>
        refine g1.fas ?_
        intro q2 hq
        rcases List.mem_cons.mp hq with rfl | hq
        · rw [List.mem_singleton] at ha
          refine ⟨hs, ?_⟩
          have ej : j = j1 := by omega
          show (dw_up μ.2.2.1 a j x q j1).toInt = ν sv + ov
          unfold dw_up
          rw [if_pos ha.symm, if_pos ej.symm]
          exact hx
        · exact g1.fa q2 hq
      next e => exact g1
    next => exact g1
  next => cases hw
end
