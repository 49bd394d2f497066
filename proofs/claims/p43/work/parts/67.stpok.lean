section
variable {E : dx_Env} {md : List Nat} {n0 : Nat} {ν0 : Nat → Int} {μ0 : dw_S} {ν : Nat → Int} {σ : dx_S} {ls : dw_L} {st : List Value} {μ : dw_S}
theorem dx_tn {x : Int32} : x.toNatClampNeg = x.toInt.toNat := rfl
theorem dx_nlt {x : Int32} (h : 0 ≤ x.toInt) : ¬ x < 0 := by
  rw [Int32.lt_iff_toInt_lt]
  have : (0 : Int32).toInt = 0 := rfl
  omega
theorem dx_ofI2 {v : Int} (h : dx_i32 v = true) : (Int32.ofInt v).toInt = v := by
  have := dx_i32_iff.mp h
  exact dx_ofI this.1 this.2
theorem dx_add {x y : Int32} {n : Int} (h : x.toInt + y.toInt = n) (h1 : dx_i32 n = true) : (x + y).toInt = n := by
  have := dx_i32_iff.mp h1
  rw [Int32.toInt_add, h]
  exact dx_bm this.1 this.2
theorem dx_sub {x y : Int32} {n : Int} (h : x.toInt - y.toInt = n) (h1 : dx_i32 n = true) : (x - y).toInt = n := by
  have := dx_i32_iff.mp h1
  rw [Int32.toInt_sub, h]
  exact dx_bm this.1 this.2
theorem dx_bo_ok {k s1 s2 : Nat} {o1 o2 : Int} {r : List dx_V} {st2 : List Value} {x y : Int32} (h : dx_g E md n0 ν0 μ0 ν σ ls (st.map some) μ) (h1 : s1 < σ.iv.length) (h2 : s2 < σ.iv.length) (hx : x.toInt = ν s1 + o1) (hy : y.toInt = ν s2 + o2) (hr : dx_gL σ.iv.length ν r (st2.map some)) :
    ∃ ν', dx_g E md n0 ν0 μ0 ν' (dx_bo σ k s1 o1 s2 o2 r) ls ((.int (dx_bv k x y) :: st2).map some) μ ∧ dx_ext ν σ ν' (dx_bo σ k s1 o1 s2 o2 r) := by
  have r1 := h.rg (o := o1) h1
  have r2 := h.rg (o := o2) h2
  have hz := h.z
  unfold dx_bo
  split
  next e =>
    rw [Bool.and_eq_true, Bool.and_eq_true, Bool.and_eq_true] at e
    have e1 := Nat.eq_of_beq_eq_true e.1.1.1
    have e2 := Nat.eq_of_beq_eq_true e.1.1.2
    subst e1 e2
    have q1 := dx_i32_iff.mp e.1.2
    have q2 := dx_i32_iff.mp e.2
    refine ⟨ν, h.stk ⟨⟨h1, _, rfl, ?_⟩, hr⟩, dx_ext.rfl rfl⟩
    exact dx_add (by omega) (dx_i32_iff.mpr (by omega))
  next =>
    split
    next e =>
      rw [Bool.and_eq_true, Bool.and_eq_true, Bool.and_eq_true] at e
      have e1 := Nat.eq_of_beq_eq_true e.1.1.1
      have e2 := Nat.eq_of_beq_eq_true e.1.1.2
      subst e1 e2
      have q1 := dx_i32_iff.mp e.1.2
      have q2 := dx_i32_iff.mp e.2
      refine ⟨ν, h.stk ⟨⟨h2, _, rfl, ?_⟩, hr⟩, dx_ext.rfl rfl⟩
      exact dx_add (by omega) (dx_i32_iff.mpr (by omega))
    next =>
      split
      next e =>
        rw [Bool.and_eq_true, Bool.and_eq_true, Bool.and_eq_true] at e
        have e1 := Nat.eq_of_beq_eq_true e.1.1.1
        have e2 := Nat.eq_of_beq_eq_true e.1.1.2
        subst e1 e2
        have q1 := dx_i32_iff.mp e.1.2
        have q2 := dx_i32_iff.mp e.2
        refine ⟨ν, h.stk ⟨⟨h1, _, rfl, ?_⟩, hr⟩, dx_ext.rfl rfl⟩
        exact dx_sub (by omega) (dx_i32_iff.mpr (by omega))
      next =>
        exact dx_ph_ok h hr (dx_bi_ok (by omega) (by omega) (by omega) (by omega))
theorem dx_sm_ok {pc pc' c s1 s2 : Nat} {o1 o2 : Int} (h : dx_g E md n0 ν0 μ0 ν σ ls (st.map some) μ) (h1 : s1 < σ.iv.length) (h2 : s2 < σ.iv.length) (hc : dx_cp c (ν s1 + o1) (ν s2 + o2)) :
    ∃ σ', (pc, σ') ∈ dx_sm pc (dx_rf σ c s1 o1 s2 o2) ∧ dx_g E md n0 ν0 μ0 ν σ' ls (st.map some) μ ∧ dx_ext ν σ ν σ' := by
  obtain ⟨σ', e1, e2, e3⟩ := dx_rf_ok h h1 h2 hc
  refine ⟨σ', ?_, e2, dx_ext.rfl e3⟩
  rw [e1]
  exact List.mem_cons_self
theorem dx_tb_ok {s : Nat} {o : Int} (h : dx_g E md n0 ν0 μ0 ν σ ls (st.map some) μ) (hs : s < σ.iv.length) : ∀ (l : List Nat) (v : Int) (k t : Nat), l[k]? = some t → ν s + o = v + k → ∃ σ', (t, σ') ∈ dx_tb σ s o v l ∧ dx_g E md n0 ν0 μ0 ν σ' ls (st.map some) μ ∧ dx_ext ν σ ν σ'
  | t :: r, v, 0, t', hk, hv => by
    simp only [List.getElem?_cons_zero, Option.some.injEq] at hk
    subst hk
    obtain ⟨σ', e1, e2, e3⟩ := dx_sm_ok (pc := t) (pc' := t) (c := 0) (s2 := 0) (o1 := o) (o2 := v) h hs h.k1 (show ν s + o = ν 0 + v by rw [h.z]; omega)
    exact ⟨σ', List.mem_append_left _ e1, e2, e3⟩
  | t :: r, v, k + 1, t', hk, hv => by
    simp only [List.getElem?_cons_succ] at hk
    obtain ⟨σ', e1, e2, e3⟩ := dx_tb_ok (o := o) h hs r (v + 1) k t' hk (by omega)
    exact ⟨σ', List.mem_append_right _ e1, e2, e3⟩
  | [], _, _, _, hk, _ => by simp at hk
theorem dx_lk_ok {s df : Nat} {o : Int} : ∀ (l : List (Int × Nat)) (σ : dx_S), dx_g E md n0 ν0 μ0 ν σ ls (st.map some) μ → s < σ.iv.length → ∃ σ', (dw_pick (ν s + o) df l, σ') ∈ dx_lk σ s o df l ∧ dx_g E md n0 ν0 μ0 ν σ' ls (st.map some) μ ∧ dx_ext ν σ ν σ'
  | [], σ, h, hs => ⟨σ, List.mem_cons_self, h, dx_ext.rfl rfl⟩
  | (k, t) :: r, σ, h, hs => by
    by_cases e : ν s + o = k
    · obtain ⟨σ', e1, e2, e3⟩ := dx_sm_ok (pc := t) (pc' := t) (c := 0) (s2 := 0) (o1 := o) (o2 := k) h hs h.k1 (show ν s + o = ν 0 + k by rw [h.z]; omega)
      refine ⟨σ', List.mem_append_left _ ?_, e2, e3⟩
      unfold dw_pick
      rw [if_pos e]
      exact e1
    · obtain ⟨σ1, e1, e2, e3⟩ := dx_rf_ok (c := 1) (s2 := 0) (o1 := o) (o2 := k) h hs h.k1 (show ν s + o ≠ ν 0 + k by rw [h.z]; omega)
      obtain ⟨σ', q1, q2, q3⟩ := dx_lk_ok (s := s) (o := o) (df := df) r σ1 e2 (by rw [e3]; exact hs)
      refine ⟨σ', List.mem_append_right _ ?_, q2, dx_ext.trans (dx_ext.rfl e3) q3⟩
      rw [e1]
      unfold dw_pick
      rw [if_neg e]
      exact q1
theorem dx_lk_eq : ∀ l : List Nat, dx_pairs l = dx_pairs l := fun _ => rfl
set_option maxHeartbeats 4000000 in
theorem dx_stp_ok {K : dw_K} {i : dx_I} {out : List (Nat × dx_S)} {B : dw_B} {bc bs : Nat} (hE : E.ok) (h : dx_stp E md i σ = some out) (g : dx_g E md n0 ν0 μ0 ν σ ls (st.map some) μ)
    (hB : ∀ pc σ' ν' ls' st' μ', (pc, σ') ∈ out → dx_g E md n0 ν0 μ0 ν' σ' ls' (List.map some st') μ' → dx_ext ν σ ν' σ' → B pc bc bs ls' st' μ') : dx_ins E.TT K i B bc bs ls st μ := by
  have one : ∀ (pc : Nat) (σ1 : dx_S) (ν' : Nat → Int) (ls' : dw_L) (st' : List Value) (μ' : dw_S), out = [(pc, σ1)] → dx_g E md n0 ν0 μ0 ν' σ1 ls' (List.map some st') μ' → dx_ext ν σ ν' σ1 → B pc bc bs ls' st' μ' := by
    intro pc σ1 ν' ls' st' μ' e g' x
    subst e
    exact hB _ _ _ _ _ _ List.mem_cons_self g' x
  unfold dx_stp at h
  split at h
  · -- ic
    next v a _ _ _ =>
    split at h
    next e =>
      cases h
      refine one _ _ ν _ _ _ rfl (g.stk ⟨⟨g.k1, _, rfl, ?_⟩, g.gs⟩) (dx_ext.rfl rfl)
      rw [dx_ofI2 e, g.z]; omega
    next => cases h
  · cases h; exact one _ _ ν _ _ _ rfl (g.stk ⟨⟨_, rfl⟩, g.gs⟩) (dx_ext.rfl rfl)
  · cases h; exact one _ _ ν _ _ _ rfl (g.stk ⟨Or.inl rfl, g.gs⟩) (dx_ext.rfl rfl)
  · cases h; exact one _ _ ν _ _ _ rfl g (dx_ext.rfl rfl)
  · -- ild
    next a b _ _ =>
    split at h
    next s o hl =>
      obtain ⟨x, h1, h2, w, h3, h4⟩ := g.gl.get hl
      subst h3
      show (match ls[a]? with | some (some (.int x)) => _ | _ => False)
      rw [h1]
      have r0 := g.rg (o := o) h2
      split at h
      next e =>
        cases h
        refine one _ _ ν _ _ _ rfl (g.stk ⟨⟨g.k1, _, rfl, ?_⟩, g.gs⟩) (dx_ext.rfl rfl)
        rw [g.z]; omega
      next e =>
        cases h
        exact one _ _ ν _ _ _ rfl (g.stk ⟨⟨h2, _, rfl, h4⟩, g.gs⟩) (dx_ext.rfl rfl)
    next => cases h
  · -- lld
    next a b _ _ =>
    split at h
    next hl =>
      cases h
      obtain ⟨x, h1, w, h3⟩ := g.gl.get hl
      subst h3
      show (match ls[a]? with | some (some (.long x)) => _ | _ => False)
      rw [h1]
      exact one _ _ ν _ _ _ rfl (g.stk ⟨⟨_, rfl⟩, g.gs⟩) (dx_ext.rfl rfl)
    next => cases h
  · -- ald
    next a b _ _ =>
    split at h
    next l hl =>
      cases h
      obtain ⟨x, h1, w, h2, h3⟩ := g.gl.get hl
      subst h3
      show o_ald a b B bc bs ls st μ
      unfold o_ald
      rw [h1]
      exact one _ _ ν _ _ _ rfl (g.stk ⟨⟨w, h2, rfl⟩, g.gs⟩) (dx_ext.rfl rfl)
    next l hl =>
      cases h
      obtain ⟨x, h1, h2⟩ := g.gl.get hl
      show o_ald a b B bc bs ls st μ
      unfold o_ald
      rw [h1]
      rcases h2 with h3 | ⟨w, h2, h3⟩
      · subst h3
        exact one _ _ ν _ _ _ rfl (g.stk ⟨Or.inl rfl, g.gs⟩) (dx_ext.rfl rfl)
      · subst h3
        exact one _ _ ν _ _ _ rfl (g.stk ⟨Or.inr ⟨w, h2, rfl⟩, g.gs⟩) (dx_ext.rfl rfl)
    next => cases h
  · -- ist
    next a b _ _ =>
    split at h
    next s o r hs =>
      split at h
      next e =>
        cases h
        have gs := g.gs
        rw [hs] at gs
        obtain ⟨x, st', rfl, hv, hr⟩ := dx_inv gs
        obtain ⟨h1, w, h2, h3⟩ := hv
        cases h2
        show cond (dw_free ls a) _ _
        rw [dx_fr_ok g.gl e]
        exact one _ _ ν _ _ _ rfl ((g.lcl (g.gl.set (v := (.inl (s, o))) (x := some (.int w)) ⟨h1, w, rfl, h3⟩)).stk hr) (dx_ext.rfl rfl)
      next => cases h
    next => cases h
  · -- ast
    next a b _ _ =>
    split at h
    next l r hs =>
      split at h
      next e =>
        cases h
        have gs := g.gs
        rw [hs] at gs
        obtain ⟨x, st', rfl, hv, hr⟩ := dx_inv gs
        obtain ⟨w, h1, h2⟩ := hv
        cases h2
        show cond (dw_free ls a) _ _
        rw [dx_fr_ok g.gl e]
        exact one _ _ ν _ _ _ rfl ((g.lcl (g.gl.set (v := (.inr (.inl l))) (x := some (.ref w)) ⟨w, h1, rfl⟩)).stk hr) (dx_ext.rfl rfl)
      next => cases h
    next l r hs =>
      split at h
      next e =>
        cases h
        have gs := g.gs
        rw [hs] at gs
        obtain ⟨x, st', rfl, hv, hr⟩ := dx_inv gs
        rcases hv with h2 | ⟨w, h1, h2⟩
        · cases h2
          show cond (dw_free ls a) _ _
          rw [dx_fr_ok g.gl e]
          exact one _ _ ν _ _ _ rfl ((g.lcl (g.gl.set (v := (.inr (.inr (.inl l)))) (x := some .null) (Or.inl rfl))).stk hr) (dx_ext.rfl rfl)
        · cases h2
          show cond (dw_free ls a) _ _
          rw [dx_fr_ok g.gl e]
          exact one _ _ ν _ _ _ rfl ((g.lcl (g.gl.set (v := (.inr (.inr (.inl l)))) (x := some (.ref w)) (Or.inr ⟨w, h1, rfl⟩))).stk hr) (dx_ext.rfl rfl)
      next => cases h
    next => cases h
  · -- inc
    next v a b _ _ =>
    split at h
    next s o hl =>
      split at h
      next e =>
        rw [Bool.and_eq_true] at e
        obtain ⟨x, h1, h2, w, h3, h4⟩ := g.gl.get hl
        subst h3
        show (match ls[a]? with | some (some (.int x)) => cond (dw_free ls a) _ _ | _ => False)
        rw [h1]
        show cond (dw_free ls a) _ _
        rw [dx_fr_ok g.gl e.1]
        have hv := dx_ofI2 e.2
        have rg := g.rg (o := o) h2
        split at h
        next e2 =>
          rw [Bool.and_eq_true] at e2
          have q1 := dx_i32_iff.mp e2.1
          have q2 := dx_i32_iff.mp e2.2
          cases h
          refine one _ _ ν _ _ _ rfl (g.lcl (g.gl.set ⟨h2, _, rfl, ?_⟩)) (dx_ext.rfl rfl)
          exact dx_add (by omega) (dx_i32_iff.mpr (by omega))
        next e2 =>
          cases h
          have hx : ∀ s, s < σ.iv.length → dx_nu ν σ.iv.length (w + Int32.ofInt v).toInt s = ν s := fun s hs => dx_nu_lt hs
          refine one _ _ (dx_nu ν σ.iv.length (w + Int32.ofInt v).toInt) _ _ _ rfl ((g.nw ⟨dx_b1 _, dx_b2 _⟩).lcl ((dx_gL.ext (by rw [dx_nw_len]; omega) hx g.gl).set ⟨?_, _, rfl, ?_⟩)) ⟨hx, ?_⟩
          · rw [dx_nw_len]; omega
          · rw [dx_nu_at]; omega
          · show _ ≤ (dx_nw σ _).iv.length; rw [dx_nw_len]; omega
      next => cases h
    next => cases h
  · -- dup
    next a _ _ _ =>
    split at h
    next s o r hs =>
      cases h
      have gs := g.gs
      rw [hs] at gs
      obtain ⟨x, st', rfl, hv, hr⟩ := dx_inv gs
      obtain ⟨h1, w, h2, h3⟩ := hv
      cases h2
      exact one _ _ ν _ (.int w :: .int w :: st') _ rfl (g.stk ⟨⟨h1, w, rfl, h3⟩, ⟨h1, w, rfl, h3⟩, hr⟩) (dx_ext.rfl rfl)
    next l r hs =>
      cases h
      have gs := g.gs
      rw [hs] at gs
      obtain ⟨x, st', rfl, hv, hr⟩ := dx_inv gs
      obtain ⟨w, h1, h2⟩ := hv
      cases h2
      exact one _ _ ν _ (.ref w :: .ref w :: st') _ rfl (g.stk ⟨⟨w, h1, rfl⟩, ⟨w, h1, rfl⟩, hr⟩) (dx_ext.rfl rfl)
    next => cases h
  · -- dup2
    next a _ _ _ =>
    split at h
    next s o l r hs =>
      cases h
      have gs := g.gs
      rw [hs] at gs
      obtain ⟨x, st', rfl, hv, hr1⟩ := dx_inv gs
      obtain ⟨y, st', rfl, hv2, hr⟩ := dx_inv hr1
      obtain ⟨h1, w, h2, h3⟩ := hv
      obtain ⟨w2, h4, h5⟩ := hv2
      cases h2
      cases h5
      exact one _ _ ν _ (.int w :: .ref w2 :: .int w :: .ref w2 :: st') _ rfl (g.stk ⟨⟨h1, w, rfl, h3⟩, ⟨w2, h4, rfl⟩, ⟨h1, w, rfl, h3⟩, ⟨w2, h4, rfl⟩, hr⟩) (dx_ext.rfl rfl)
    next s o s2 o2 r hs =>
      cases h
      have gs := g.gs
      rw [hs] at gs
      obtain ⟨x, st', rfl, hv, hr2⟩ := dx_inv gs
      obtain ⟨y, st', rfl, hv2, hr⟩ := dx_inv hr2
      obtain ⟨h1, w, h2, h3⟩ := hv
      obtain ⟨h4, w2, h5, h6⟩ := hv2
      cases h2
      cases h5
      exact one _ _ ν _ (.int w :: .int w2 :: .int w :: .int w2 :: st') _ rfl (g.stk ⟨⟨h1, w, rfl, h3⟩, ⟨h4, w2, rfl, h6⟩, ⟨h1, w, rfl, h3⟩, ⟨h4, w2, rfl, h6⟩, hr⟩) (dx_ext.rfl rfl)
    next => cases h
  · -- pop
    next a _ _ _ =>
    split at h
    next s o r hs =>
      cases h
      have gs := g.gs
      rw [hs] at gs
      obtain ⟨x, st', rfl, hv, hr⟩ := dx_inv gs
      obtain ⟨h1, w, h2, h3⟩ := hv
      cases h2
      exact one _ _ ν _ st' _ rfl (g.stk hr) (dx_ext.rfl rfl)
    next => cases h
  · -- ifnull
    next a b _ _ =>
    split at h
    next r hs =>
      cases h
      have gs := g.gs
      rw [hs] at gs
      obtain ⟨x, st', rfl, hv, hr⟩ := dx_inv gs
      rcases hv with h2 | ⟨w, h1, h2⟩
      · cases h2; exact one _ _ ν _ st' _ rfl (g.stk hr) (dx_ext.rfl rfl)
      · cases h1
    next l r _ hs =>
      cases h
      have gs := g.gs
      rw [hs] at gs
      obtain ⟨x, st', rfl, hv, hr⟩ := dx_inv gs
      rcases hv with h2 | ⟨w, h1, h2⟩
      · cases h2; exact hB _ _ ν _ st' _ List.mem_cons_self (g.stk hr) (dx_ext.rfl rfl)
      · cases h2; exact hB _ _ ν _ st' _ (List.mem_cons_of_mem _ List.mem_cons_self) (g.stk hr) (dx_ext.rfl rfl)
    next l r hs =>
      cases h
      have gs := g.gs
      rw [hs] at gs
      obtain ⟨x, st', rfl, hv, hr⟩ := dx_inv gs
      obtain ⟨w, h1, h2⟩ := hv
      cases h2; exact one _ _ ν _ st' _ rfl (g.stk hr) (dx_ext.rfl rfl)
    next => cases h
  · -- ifnn
    next a b _ _ =>
    split at h
    next r hs =>
      cases h
      have gs := g.gs
      rw [hs] at gs
      obtain ⟨x, st', rfl, hv, hr⟩ := dx_inv gs
      rcases hv with h2 | ⟨w, h1, h2⟩
      · cases h2; exact one _ _ ν _ st' _ rfl (g.stk hr) (dx_ext.rfl rfl)
      · cases h1
    next l r _ hs =>
      cases h
      have gs := g.gs
      rw [hs] at gs
      obtain ⟨x, st', rfl, hv, hr⟩ := dx_inv gs
      rcases hv with h2 | ⟨w, h1, h2⟩
      · cases h2; exact hB _ _ ν _ st' _ List.mem_cons_self (g.stk hr) (dx_ext.rfl rfl)
      · cases h2; exact hB _ _ ν _ st' _ (List.mem_cons_of_mem _ List.mem_cons_self) (g.stk hr) (dx_ext.rfl rfl)
    next l r hs =>
      cases h
      have gs := g.gs
      rw [hs] at gs
      obtain ⟨x, st', rfl, hv, hr⟩ := dx_inv gs
      obtain ⟨w, h1, h2⟩ := hv
      cases h2; exact one _ _ ν _ st' _ rfl (g.stk hr) (dx_ext.rfl rfl)
    next => cases h
  · -- tab
    next v a _ _ l =>
    split at h
    next s o r hs =>
      cases h
      have gs := g.gs
      rw [hs] at gs
      obtain ⟨x, st', rfl, hv, hr⟩ := dx_inv gs
      obtain ⟨h1, w, h2, h3⟩ := hv
      cases h2
      have g1 := g.stk hr
      show (if w.toInt < v ∨ v + (l.length : Int) - 1 < w.toInt then _ else _)
      split
      next e =>
        rcases e with e | e
        · obtain ⟨σ', e1, e2, e3⟩ := dx_sm_ok (pc := a) (pc' := a) (c := 2) (s2 := 0) (o1 := o) (o2 := v) g1 h1 g.k1 (show ν s + o < ν 0 + v by rw [g.z]; omega)
          exact hB _ _ ν _ _ _ (List.mem_append_left _ (List.mem_append_left _ e1)) e2 e3
        · obtain ⟨σ', e1, e2, e3⟩ := dx_sm_ok (pc := a) (pc' := a) (c := 4) (s2 := 0) (o1 := o) (o2 := v + (l.length : Int) - 1) g1 h1 g.k1 (show ν 0 + (v + (l.length : Int) - 1) < ν s + o by rw [g.z]; omega)
          exact hB _ _ ν _ _ _ (List.mem_append_left _ (List.mem_append_right _ e1)) e2 e3
      next e =>
        have hlt : (w.toInt - v).toNat < l.length := by omega
        rw [List.getElem?_eq_getElem hlt]
        obtain ⟨σ', e1, e2, e3⟩ := dx_tb_ok (o := o) g1 h1 l v (w.toInt - v).toNat _ (List.getElem?_eq_getElem hlt) (by omega)
        exact hB _ _ ν _ _ _ (List.mem_append_right _ e1) e2 e3
    next => cases h
  · -- look
    next a _ _ l =>
    split at h
    next s o r hs =>
      cases h
      have gs := g.gs
      rw [hs] at gs
      obtain ⟨x, st', rfl, hv, hr⟩ := dx_inv gs
      obtain ⟨h1, w, h2, h3⟩ := hv
      cases h2
      obtain ⟨σ', e1, e2, e3⟩ := dx_lk_ok (o := o) (df := a) (dx_pairs l) _ (g.stk hr) h1
      show B (dw_pick w.toInt a (dx_pairs l)) bc bs ls st' μ
      rw [h3]
      exact hB _ _ ν _ _ _ e1 e2 e3
    next => cases h
  · -- bin
    next a b _ _ =>
    split at h
    next s2 o2 s1 o1 r hs =>
      split at h
      next e =>
        cases h
        rw [Bool.and_eq_true, Bool.and_eq_true, Bool.or_eq_true, Bool.or_eq_true, Bool.or_eq_true, decide_eq_true_eq, decide_eq_true_eq] at e
        have gs := g.gs
        rw [hs] at gs
        obtain ⟨y, st1, rfl, hv2, hr1⟩ := dx_inv gs
        obtain ⟨x, st', rfl, hv1, hr⟩ := dx_inv hr1
        obtain ⟨q1, w2, q2, q3⟩ := hv2
        obtain ⟨p1, w1, p2, p3⟩ := hv1
        cases q2
        cases p2
        have r2 := g.rg (o := o2) q1
        refine dx_bin_ok (Nat.le_of_ble_eq_true e.1.1) ?_ ?_ ?_
        · intro ha h0
          have hz : w2.toInt = 0 := by rw [h0]; rfl
          rcases e.1.2 with e2 | e2 | e2
          · rcases ha with rfl | rfl
            · cases e2
            · cases e2
          · omega
          · omega
        · intro ha
          rw [dx_cats_ok hr]
          rcases e.2 with e2 | e2
          · have := Nat.le_of_ble_eq_true e2
            omega
          · exact Nat.le_of_ble_eq_true e2
        · obtain ⟨ν', g', x'⟩ := dx_bo_ok (k := a) g p1 q1 p3 q3 hr
          exact one _ _ ν' _ _ _ rfl g' x'
      next => cases h
    next => cases h
  · -- un
    next a b _ _ =>
    split at h
    next s o r hs =>
      split at h
      next e =>
        cases h
        rw [Bool.and_eq_true, Bool.or_eq_true] at e
        have gs := g.gs
        rw [hs] at gs
        obtain ⟨x, st', rfl, hv1, hr⟩ := dx_inv gs
        obtain ⟨p1, w1, p2, p3⟩ := hv1
        cases p2
        have r1 := g.rg (o := o) p1
        refine dx_un_ok (Nat.le_of_ble_eq_true e.1) ?_ ?_
        · intro ha
          rw [dx_cats_ok hr]
          rcases e.2 with e2 | e2
          · have := Nat.le_of_ble_eq_true e2
            omega
          · exact Nat.le_of_ble_eq_true e2
        · obtain ⟨ν', g', x'⟩ := dx_ph_ok g hr (dx_ui_ok (k := a) (x := w1) (lx := (dx_rg2 σ s o).1) (hx := (dx_rg2 σ s o).2) (by omega) (by omega))
          exact one _ _ ν' _ _ _ rfl g' x'
      next => cases h
    next => cases h
  · -- i2l
    next a _ _ _ =>
    split at h
    next s o r hs =>
      cases h
      have gs := g.gs
      rw [hs] at gs
      obtain ⟨x, st', rfl, hv, hr⟩ := dx_inv gs
      obtain ⟨h1, w, h2, h3⟩ := hv
      cases h2
      exact one _ _ ν _ (.long w.toInt64 :: st') _ rfl (g.stk ⟨⟨_, rfl⟩, hr⟩) (dx_ext.rfl rfl)
    next => cases h
  · -- lor
    next a _ _ _ =>
    split at h
    next r hs =>
      cases h
      have gs := g.gs
      rw [hs] at gs
      obtain ⟨x, st', rfl, ⟨w, h2⟩, hr3⟩ := dx_inv gs
      obtain ⟨y, st', rfl, ⟨w2, h3⟩, hr⟩ := dx_inv hr3
      cases h2
      cases h3
      exact one _ _ ν _ (.long _ :: st') _ rfl (g.stk ⟨⟨_, rfl⟩, hr⟩) (dx_ext.rfl rfl)
    next => cases h
  · -- lshl
    next a _ _ _ =>
    split at h
    next s o r hs =>
      cases h
      have gs := g.gs
      rw [hs] at gs
      obtain ⟨x, st', rfl, hv, hr4⟩ := dx_inv gs
      obtain ⟨y, st', rfl, ⟨w2, h5⟩, hr⟩ := dx_inv hr4
      obtain ⟨h1, w, h2, h3⟩ := hv
      cases h2
      cases h5
      exact one _ _ ν _ (.long _ :: st') _ rfl (g.stk ⟨⟨_, rfl⟩, hr⟩) (dx_ext.rfl rfl)
    next => cases h
  · -- lcmp
    next a _ _ _ =>
    split at h
    next r hs =>
      cases h
      have gs := g.gs
      rw [hs] at gs
      obtain ⟨x, st', rfl, ⟨w, h2⟩, hr5⟩ := dx_inv gs
      obtain ⟨y, st', rfl, ⟨w2, h3⟩, hr⟩ := dx_inv hr5
      cases h2
      cases h3
      obtain ⟨ν', g', x'⟩ := dx_ph_ok (p := (-1, 1)) (w := lg_cmp w2 w) g hr (by
        unfold lg_cmp
        split
        · exact ⟨by decide, by decide⟩
        · split
          · exact ⟨by decide, by decide⟩
          · exact ⟨by decide, by decide⟩)
      exact one _ _ ν' _ _ _ rfl g' x'
    next => cases h
  · -- icmp
    next a b c _ =>
    split at h
    next s2 o2 s1 o1 r hs =>
      split at h
      next e =>
        cases h
        have gs := g.gs
        rw [hs] at gs
        obtain ⟨y, st', rfl, hv2, hr6⟩ := dx_inv gs
        obtain ⟨x, st', rfl, hv1, hr⟩ := dx_inv hr6
        obtain ⟨q1, w2, q2, q3⟩ := hv2
        obtain ⟨p1, w1, p2, p3⟩ := hv1
        cases q2
        cases p2
        refine dx_ic_ok (Nat.le_of_ble_eq_true e) (fun hc => ?_) (fun hc => ?_)
        · rw [p3, q3] at hc
          obtain ⟨σ', e1, e2, e3⟩ := dx_sm_ok (pc := b) (pc' := b) (g.stk hr) p1 q1 hc
          exact hB _ _ ν _ _ _ (List.mem_append_left _ e1) e2 e3
        · rw [p3, q3] at hc
          obtain ⟨σ', e1, e2, e3⟩ := dx_sm_ok (pc := c) (pc' := c) (g.stk hr) p1 q1 hc
          exact hB _ _ ν _ _ _ (List.mem_append_right _ e1) e2 e3
      next => cases h
    next => cases h
  · -- if
    next a b c _ =>
    split at h
    next s1 o1 r hs =>
      split at h
      next e =>
        cases h
        have gs := g.gs
        rw [hs] at gs
        obtain ⟨x, st', rfl, hv1, hr⟩ := dx_inv gs
        obtain ⟨p1, w1, p2, p3⟩ := hv1
        cases p2
        have hz : (0 : Int) = ν 0 + 0 := by rw [g.z]; rfl
        refine dx_if_ok (Nat.le_of_ble_eq_true e) (fun hc => ?_) (fun hc => ?_)
        · rw [p3, hz] at hc
          obtain ⟨σ', e1, e2, e3⟩ := dx_sm_ok (pc := b) (pc' := b) (g.stk hr) p1 g.k1 hc
          exact hB _ _ ν _ _ _ (List.mem_append_left _ e1) e2 e3
        · rw [p3, hz] at hc
          obtain ⟨σ', e1, e2, e3⟩ := dx_sm_ok (pc := c) (pc' := c) (g.stk hr) p1 g.k1 hc
          exact hB _ _ ν _ _ _ (List.mem_append_right _ e1) e2 e3
      next => cases h
    next => cases h
  · -- getf
    next v a b c _ =>
    split at h
    next l r hs =>
      split at h
      next e =>
        have gs := g.gs
        rw [hs] at gs
        obtain ⟨x, st', rfl, ⟨q, h1, h2⟩, hr⟩ := dx_inv gs
        cases h2
        have hk : (μ.2.1 q).1 = a := by
          rw [g.sh, (hE.sh q).1]
          exact Nat.eq_of_beq_eq_true (List.all_eq_true.mp e q h1)
        show (if (μ.2.1 q).1 = a then dw_fitI v.toNat (μ.2.2.1 q b) (B c bc bs ls (dw_vt v.toNat μ q b :: st') μ) else False)
        rw [if_pos hk]
        refine dx_fitI_ok ?_
        split at h
        next e1 =>
          cases h
          rw [e1]
          exact one _ _ ν _ (.long _ :: st') _ rfl (g.stk ⟨⟨_, rfl⟩, hr⟩) (dx_ext.rfl rfl)
        next e1 =>
          cases h
          rw [e1]
          refine one _ _ ν _ (dw_rv ((μ.2.1 q).2.2 b) :: st') _ rfl (g.stk ⟨?_, hr⟩) (dx_ext.rfl rfl)
          rw [g.sh, (hE.sh q).2.2]
          exact dx_rv_ok (List.mem_map.mpr ⟨q, h1, rfl⟩)
        next e1 e2 =>
          cases h
          have hvt : dw_vt v.toNat μ q b = .int (μ.2.2.1 q b) := by
            unfold dw_vt
            split
            next e3 => exact absurd e3 e1
            next e3 => exact absurd e3 e2
            next => rfl
          rw [hvt]
          obtain ⟨ν', g', x'⟩ := dx_ld_ok (j := b) (j1 := b) (j2 := b) g hr h1 (Nat.le_refl _) (Nat.le_refl _)
          exact one _ _ ν' _ _ _ rfl g' x'
      next => cases h
    next => cases h
  · -- puti
    next v a b c _ =>
    split at h
    next s o l r hs =>
      split at h
      next e =>
        split at h
        next σ' hw =>
          cases h
          have gs := g.gs
          rw [hs] at gs
          obtain ⟨x, st', rfl, hv1, hr7⟩ := dx_inv gs
          obtain ⟨p1, w1, p2, p3⟩ := hv1
          cases p2
          obtain ⟨y, st', rfl, ⟨q, h1, h2⟩, hr⟩ := dx_inv hr7
          cases h2
          have hk : (μ.2.1 q).1 = a := by
            rw [g.sh, (hE.sh q).1]
            exact Nat.eq_of_beq_eq_true (List.all_eq_true.mp e q h1)
          show (if (μ.2.1 q).1 = a then dw_fitC v.toNat w1 (B c bc bs ls st' (dw_si μ q b w1)) else False)
          rw [if_pos hk]
          obtain ⟨t1, t2, t3⟩ := dx_stw_ok (j := b) hE hw g p1 p3 hr h1 (Nat.le_refl _) (Nat.le_refl _)
          exact t1 _ (one _ _ ν _ _ _ rfl t2 t3)
        next => cases h
      next => cases h
    next => cases h
  · -- putl
    next a b c _ =>
    split at h
    next l r hs =>
      split at h
      next e =>
        cases h
        have gs := g.gs
        rw [hs] at gs
        obtain ⟨x, st', rfl, ⟨w, h3⟩, hr8⟩ := dx_inv gs
        cases h3
        obtain ⟨y, st', rfl, ⟨q, h1, h2⟩, hr⟩ := dx_inv hr8
        cases h2
        have e1 := List.all_eq_true.mp e q h1
        rw [Bool.and_eq_true] at e1
        have hk : (μ.2.1 q).1 = a := by
          rw [g.sh, (hE.sh q).1]
          exact Nat.eq_of_beq_eq_true e1.1
        show (if (μ.2.1 q).1 = a then (B c bc bs ls st' (dw_sl μ q _ w)) else False)
        rw [if_pos hk]
        exact one _ _ ν _ _ _ rfl ((g.stk hr).wrl (dx_mem_iff.mp e1.2)) (dx_ext.rfl rfl)
      next => cases h
    next => cases h
  · -- xald
    next v a b c _ =>
    split at h
    next s o l r hs =>
      split at h
      next e =>
        rw [Bool.and_eq_true, decide_eq_true_eq] at e
        have gs := g.gs
        rw [hs] at gs
        obtain ⟨x, st', rfl, hv1, hr9⟩ := dx_inv gs
        obtain ⟨p1, w1, p2, p3⟩ := hv1
        cases p2
        obtain ⟨y, st', rfl, ⟨q, h1, h2⟩, hr⟩ := dx_inv hr9
        cases h2
        have e1 := List.all_eq_true.mp e.2 q h1
        rw [Bool.and_eq_true, decide_eq_true_eq] at e1
        have rg := g.rg (o := o) p1
        have hk : (μ.2.1 q).1 = a := by
          rw [g.sh, (hE.sh q).1]
          exact Nat.eq_of_beq_eq_true e1.1
        have hn : (μ.2.1 q).2.1 = (E.ce q).n := by rw [g.sh, (hE.sh q).2.1]
        show (if (μ.2.1 q).1 = a then (if ¬ w1 < 0 ∧ w1.toNatClampNeg < (μ.2.1 q).2.1 then dw_fitI v.toNat (μ.2.2.1 q w1.toNatClampNeg) (B c bc bs ls (dw_vt v.toNat μ q w1.toNatClampNeg :: st') μ) else False) else False)
        rw [if_pos hk, if_pos ⟨dx_nlt (by omega), by rw [hn, dx_tn]; omega⟩]
        refine dx_fitI_ok ?_
        have j1 : (dx_rg2 σ s o).1.toNat ≤ w1.toNatClampNeg := by rw [dx_tn]; omega
        have j2 : w1.toNatClampNeg ≤ (dx_rg2 σ s o).2.toNat := by rw [dx_tn]; omega
        split at h
        next e1 =>
          cases h
          rw [e1]
          exact one _ _ ν _ (.long _ :: st') _ rfl (g.stk ⟨⟨_, rfl⟩, hr⟩) (dx_ext.rfl rfl)
        next e1 =>
          cases h
          rw [e1]
          refine one _ _ ν _ (dw_rv ((μ.2.1 q).2.2 w1.toNatClampNeg) :: st') _ rfl (g.stk ⟨?_, hr⟩) (dx_ext.rfl rfl)
          rw [g.sh, (hE.sh q).2.2]
          refine dx_rv_ok (List.mem_flatMap.mpr ⟨q, h1, List.mem_map.mpr ⟨w1.toNatClampNeg - (dx_rg2 σ s o).1.toNat, List.mem_range.mpr (by omega), ?_⟩⟩)
          rw [show (dx_rg2 σ s o).1.toNat + (w1.toNatClampNeg - (dx_rg2 σ s o).1.toNat) = w1.toNatClampNeg by omega]
        next e1 e2 =>
          cases h
          have hvt : dw_vt v.toNat μ q w1.toNatClampNeg = .int (μ.2.2.1 q w1.toNatClampNeg) := by
            unfold dw_vt
            split
            next e3 => exact absurd e3 e1
            next e3 => exact absurd e3 e2
            next => rfl
          rw [hvt]
          obtain ⟨ν', g', x'⟩ := dx_ld_ok (j := w1.toNatClampNeg) g hr h1 j1 j2
          exact one _ _ ν' _ _ _ rfl g' x'
      next => cases h
    next => cases h
  · -- iast
    next v a b c _ =>
    split at h
    next sv ov s o l r hs =>
      split at h
      next e =>
        split at h
        next σ' hw =>
          cases h
          rw [Bool.and_eq_true, decide_eq_true_eq] at e
          have gs := g.gs
          rw [hs] at gs
          obtain ⟨x0, st', rfl, hv0, hr10⟩ := dx_inv gs
          obtain ⟨z1, w0, z2, z3⟩ := hv0
          cases z2
          obtain ⟨x, st', rfl, hv1, hr11⟩ := dx_inv hr10
          obtain ⟨p1, w1, p2, p3⟩ := hv1
          cases p2
          obtain ⟨y, st', rfl, ⟨q, h1, h2⟩, hr⟩ := dx_inv hr11
          cases h2
          have e1 := List.all_eq_true.mp e.2 q h1
          rw [Bool.and_eq_true, decide_eq_true_eq] at e1
          have rg := g.rg (o := o) p1
          have hk : (μ.2.1 q).1 = a := by
            rw [g.sh, (hE.sh q).1]
            exact Nat.eq_of_beq_eq_true e1.1
          have hn : (μ.2.1 q).2.1 = (E.ce q).n := by rw [g.sh, (hE.sh q).2.1]
          show (if (μ.2.1 q).1 = a then (if ¬ w1 < 0 ∧ w1.toNatClampNeg < (μ.2.1 q).2.1 then dw_fitC v.toNat w0 (B c bc bs ls st' (dw_si μ q w1.toNatClampNeg w0)) else False) else False)
          rw [if_pos hk, if_pos ⟨dx_nlt (by omega), by rw [hn, dx_tn]; omega⟩]
          have j1 : (dx_rg2 σ s o).1.toNat ≤ w1.toNatClampNeg := by rw [dx_tn]; omega
          have j2 : w1.toNatClampNeg ≤ (dx_rg2 σ s o).2.toNat := by rw [dx_tn]; omega
          obtain ⟨t1, t2, t3⟩ := dx_stw_ok hE hw g z1 z3 hr h1 j1 j2
          exact t1 _ (one _ _ ν _ _ _ rfl t2 t3)
        next => cases h
      next => cases h
    next => cases h
  · -- last
    next a _ _ _ =>
    split at h
    next s o l r hs =>
      split at h
      next e =>
        cases h
        rw [Bool.and_eq_true, decide_eq_true_eq] at e
        have gs := g.gs
        rw [hs] at gs
        obtain ⟨x0, st', rfl, ⟨w, h3⟩, hr12⟩ := dx_inv gs
        cases h3
        obtain ⟨x, st', rfl, hv1, hr13⟩ := dx_inv hr12
        obtain ⟨p1, w1, p2, p3⟩ := hv1
        cases p2
        obtain ⟨y, st', rfl, ⟨q, h1, h2⟩, hr⟩ := dx_inv hr13
        cases h2
        have e1 := List.all_eq_true.mp e.2 q h1
        rw [Bool.and_eq_true, Bool.and_eq_true, decide_eq_true_eq] at e1
        have rg := g.rg (o := o) p1
        have hk : (μ.2.1 q).1 = 17 := by
          rw [g.sh, (hE.sh q).1]
          exact Nat.eq_of_beq_eq_true e1.1.1
        have hn : (μ.2.1 q).2.1 = (E.ce q).n := by rw [g.sh, (hE.sh q).2.1]
        show (if (μ.2.1 q).1 = 17 then (if ¬ w1 < 0 ∧ w1.toNatClampNeg < (μ.2.1 q).2.1 then B a bc bs ls st' (dw_sl μ q w1.toNatClampNeg w) else False) else False)
        rw [if_pos hk, if_pos ⟨dx_nlt (by omega), by rw [hn, dx_tn]; omega⟩]
        exact one _ _ ν _ _ _ rfl ((g.stk hr).wrl (dx_mem_iff.mp e1.2)) (dx_ext.rfl rfl)
      next => cases h
    next => cases h
  · -- alen
    next a _ _ _ =>
    split at h
    next q0 l r hs =>
      split at h
      next e =>
        cases h
        rw [Bool.and_eq_true] at e
        have gs := g.gs
        rw [hs] at gs
        obtain ⟨y, st', rfl, ⟨q, h1, h2⟩, hr⟩ := dx_inv gs
        cases h2
        have e1 := List.all_eq_true.mp e.2 q h1
        rw [Bool.and_eq_true, Bool.and_eq_true] at e1
        have k1 : (μ.2.1 q).1 = (E.ce q).k := by rw [g.sh, (hE.sh q).1]
        have hn : (μ.2.1 q).2.1 = (E.ce q).n := by rw [g.sh, (hE.sh q).2.1]
        have k2 : ¬ (E.ce q).k = 999 := by
          intro e9
          rw [e9] at e1
          exact absurd e1.1.1 (by decide)
        have k3 := Nat.le_of_ble_eq_true e1.1.2
        have k4 := Nat.eq_of_beq_eq_true e1.2
        show (if ¬ (μ.2.1 q).1 = 999 ∧ ¬ (μ.2.1 q).1 < 16 then B a bc bs ls (.int (Int32.ofNat (μ.2.1 q).2.1) :: st') μ else False)
        rw [if_pos ⟨by rw [k1]; exact k2, by rw [k1]; omega⟩]
        refine one _ _ ν _ (.int _ :: st') _ rfl (g.stk ⟨⟨g.k1, _, rfl, ?_⟩, hr⟩) (dx_ext.rfl rfl)
        rw [hn, k4, g.z]
        have := dx_i32_iff.mp e.1
        rw [Int32.toInt_ofNat_of_lt (by omega)]
        omega
      next => cases h
    next => cases h
  · -- copy
    next a _ _ _ =>
    split at h
    next n dp l2 sp l1 r hs =>
      split at h
      next e =>
        cases h
        rw [Bool.and_eq_true, Bool.and_eq_true, Bool.and_eq_true, Bool.and_eq_true, Bool.and_eq_true, decide_eq_true_eq, decide_eq_true_eq, decide_eq_true_eq] at e
        obtain ⟨⟨⟨⟨⟨c1, c2⟩, c3⟩, c4⟩, c5⟩, c6⟩ := e
        have gs := g.gs
        rw [hs] at gs
        obtain ⟨x, st', rfl, hv1, hr14⟩ := dx_inv gs
        obtain ⟨p1, wn, p2, p3⟩ := hv1
        cases p2
        obtain ⟨x, st', rfl, hv1, hr15⟩ := dx_inv hr14
        obtain ⟨u1, wd, u2, u3⟩ := hv1
        cases u2
        obtain ⟨y, st', rfl, ⟨d, h1, h2⟩, hr16⟩ := dx_inv hr15
        cases h2
        obtain ⟨x, st', rfl, hv1, hr17⟩ := dx_inv hr16
        obtain ⟨t1, ws, t2, t3⟩ := hv1
        cases t2
        obtain ⟨y, st', rfl, ⟨q, h3, h4⟩, hr⟩ := dx_inv hr17
        cases h4
        have e1 := List.all_eq_true.mp c5 q h3
        rw [Bool.and_eq_true, decide_eq_true_eq] at e1
        have e2 := List.all_eq_true.mp c6 d h1
        rw [Bool.and_eq_true, Bool.and_eq_true, Bool.and_eq_true, decide_eq_true_eq] at e2
        have e3 := List.all_eq_true.mp e2.2 q h3
        have hz := g.z
        have kq : (μ.2.1 q).1 = 16 := by rw [g.sh, (hE.sh q).1]; exact Nat.eq_of_beq_eq_true e1.1
        have kd : (μ.2.1 d).1 = 16 := by rw [g.sh, (hE.sh d).1]; exact Nat.eq_of_beq_eq_true e2.1.1.1
        have nq : (μ.2.1 q).2.1 = (E.ce q).n := by rw [g.sh, (hE.sh q).2.1]
        have nd : (μ.2.1 d).2.1 = (E.ce d).n := by rw [g.sh, (hE.sh d).2.1]
        have en : wn.toInt = n := by omega
        have ed : wd.toInt = dp := by omega
        have es : ws.toInt = sp := by omega
        show o_copy a B bc bs ls (.int wn :: .int wd :: .ref d :: .int ws :: .ref q :: st') μ
        unfold o_copy
        simp only []
        rw [if_pos ⟨kq, kd, by rw [dx_cats_ok hr]; exact Nat.le_of_ble_eq_true c1⟩, if_pos ⟨⟨dx_nlt (by omega), dx_nlt (by omega), dx_nlt (by omega)⟩, by rw [nq, dx_tn, dx_tn, es, en]; omega, by rw [nd, dx_tn, dx_tn, ed, en]; omega⟩]
        rw [dx_tn, dx_tn, dx_tn, es, ed, en]
        refine one _ _ ν _ _ _ rfl ((g.stk hr).cp hE h1 (dx_mem_iff.mp e2.1.2) (fun j j1 j2 => ?_)) (dx_ext.rfl rfl)
        have hi := g.hi q (sp.toNat + (j - dp.toNat))
        have hs2 := dx_sgr_ok _ sp.toNat (sp.toNat + (n.toNat - 1)) _ _ (by omega) (by omega) hi
        exact dx_sga_ok _ _ _ j _ _ _ e3 j1 (by omega) hs2.1 hs2.2 ⟨dx_b1 _, dx_b2 _⟩
      next => cases h
    next => cases h
  · cases h; exact one _ _ ν _ _ _ rfl (g.stk ⟨⟨_, List.Mem.head _, rfl⟩, g.gs⟩) (dx_ext.rfl rfl)
  · cases h
end
