section
/-! ===== one state under another ===== -/
def dx_ev (ν : Nat → Int) : List (Nat × Int) → Int
  | [] => 0
  | (s, k) :: r => k * ν s + dx_ev ν r
def dx_bn (ν : Nat → Int) (b : List (Nat × Int)) : Nat → Int := fun t => match b[t]? with
  | some (s, o) => ν s + o
  | none => 0
def dx_u1 (cur : dx_S) (b : List (Nat × Int)) (t : Nat) (o' : Int) (s : Nat) (o : Int) : Option (List (Nat × Int)) := match b[t]? with
  | some (s1, o1) => if decide (dx_df cur s s1 + o - o1 - o' ≤ 0) && decide (dx_df cur s1 s + o1 + o' - o ≤ 0) then some b else none
  | none => if t = b.length then some (b ++ [(s, o - o')]) else none
def dx_sb (l l2 : List Nat) : Bool := l.all (fun a => dx_mem a l2)
def dx_mV (cur : dx_S) (b : List (Nat × Int)) : dx_V → dx_V → Option (List (Nat × Int))
  | (.inr (.inr (.inr true))), (.inr (.inr (.inr false))) => none
  | (.inr (.inr (.inr true))), _ => some b
  | (.inl (t, o')), (.inl (s, o)) => dx_u1 cur b t o' s o
  | (.inr (.inl l)), (.inr (.inl l2)) => if dx_sb l2 l then some b else none
  | (.inr (.inr (.inl l))), (.inr (.inl l2)) => if dx_sb l2 l then some b else none
  | (.inr (.inr (.inl l))), (.inr (.inr (.inl l2))) => if dx_sb l2 l then some b else none
  | (.inr (.inr (.inr false))), (.inr (.inr (.inr false))) => some b
  | _, _ => none
def dx_mL (cur : dx_S) : List (Nat × Int) → List dx_V → List dx_V → Option (List (Nat × Int))
  | b, [], [] => some b
  | b, t :: r, c :: q => match dx_mV cur b t c with
    | some b' => dx_mL cur b' r q
    | none => none
  | _, _, _ => none
def dx_mF (cur : dx_S) : List (Nat × Int) → List (Nat × Nat × Nat × Int) → Option (List (Nat × Int))
  | b, [] => some b
  | b, q :: r => match dx_ff cur.fa q.1 q.2.1 with
    | some (s, o) => (match dx_u1 cur b q.2.2.1 q.2.2.2 s o with
      | some b' => dx_mF cur b' r
      | none => none)
    | none => none
def dx_m1 (E : dx_Env) (cur : dx_S) (a j : Nat) : dx_S := match dx_ff cur.fa a j with
  | some _ => cur
  | none => (⟨dx_S.iv (dx_nw cur (dx_seg (E.ce a).iv j)), dx_S.dc (dx_nw cur (dx_seg (E.ce a).iv j)), dx_S.ls (dx_nw cur (dx_seg (E.ce a).iv j)), dx_S.st (dx_nw cur (dx_seg (E.ce a).iv j)), (a, j, cur.iv.length, 0) :: cur.fa, dx_S.fl (dx_nw cur (dx_seg (E.ce a).iv j))⟩ : dx_S)
def dx_mm (E : dx_Env) (cur : dx_S) : List (Nat × Nat × Nat × Int) → dx_S
  | [] => cur
  | q :: r => dx_mm E (dx_m1 E cur q.1 q.2.1) r
def dx_mI (cur : dx_S) : List (Nat × Int) → List (Int × Int) → Bool
  | [], [] => true
  | (s, o) :: b, p :: r => decide (p.1 ≤ dx_lb cur s + o) && decide (dx_ub cur s + o ≤ p.2) && dx_mI cur b r
  | _, _ => false
def dx_mD (cur : dx_S) (b : List (Nat × Int)) (d : List (Nat × Nat × Int)) : Bool := d.all (fun q => match b[q.1]?, b[q.2.1]? with
  | some (s1, o1), some (s2, o2) => decide (dx_df cur s1 s2 + o1 - o2 ≤ q.2.2)
  | _, _ => false)
def dx_g1 (cur : dx_S) (b : List (Nat × Int)) (f t : Nat) (o' : Int) : List (Nat × Nat × Int) → Option (List (Nat × Int))
  | [] => none
  | q :: r => if Nat.beq q.1 f then (match dx_u1 cur b t o' q.2.1 q.2.2 with
    | some b' => some b'
    | none => dx_g1 cur b f t o' r) else dx_g1 cur b f t o' r
def dx_mG (cur : dx_S) : List (Nat × Int) → List (Nat × Nat × Int) → Option (List (Nat × Int))
  | b, [] => some b
  | b, q :: r => match dx_g1 cur b q.1 q.2.1 q.2.2 cur.fl with
    | some b' => dx_mG cur b' r
    | none => none
def dx_mat (cur : dx_S) (b0 : List (Nat × Int)) (tgt : dx_S) : Option (List (Nat × Int)) := match dx_mL cur b0 tgt.ls cur.ls with
  | some b1 => (match dx_mL cur b1 tgt.st cur.st with
    | some b2 => (match dx_mF cur b2 tgt.fa with
      | some b3 => (match dx_mG cur b3 tgt.fl with
        | some b => if dx_mI cur b tgt.iv && dx_mD cur b tgt.dc then some b else none
        | none => none)
      | none => none)
    | none => none)
  | none => none
section
variable {E : dx_Env} {md : List Nat} {n0 : Nat} {ν0 : Nat → Int} {μ0 : dw_S} {ν : Nat → Int} {σ : dx_S} {ls st : dw_L} {μ : dw_S}
/-- the bindings so far speak of what is there -/
def dx_bw (k : Nat) (b : List (Nat × Int)) : Prop := ∀ (t : Nat) (q : Nat × Int), b[t]? = some q → q.1 < k
theorem dx_bn_at {b : List (Nat × Int)} {t s : Nat} {o : Int} (h : b[t]? = some (s, o)) : dx_bn ν b t = ν s + o := by
  unfold dx_bn
  rw [h]
/-- b' goes on where b ends -/
def dx_bx (b b' : List (Nat × Int)) : Prop := ∀ (t : Nat) (q : Nat × Int), b[t]? = some q → b'[t]? = some q
theorem dx_bx.len {b b' : List (Nat × Int)} (h : dx_bx b b') : b.length ≤ b'.length := by
  rcases Nat.lt_or_ge b'.length b.length with hl | hl
  · have := h b'.length _ (List.getElem?_eq_getElem hl)
    have := (List.getElem?_eq_some_iff.mp this).1
    omega
  · exact hl
theorem dx_u1_ok {b b' : List (Nat × Int)} {t s : Nat} {o o' : Int} (g : dx_g E md n0 ν0 μ0 ν σ ls st μ) (hb : dx_bw σ.iv.length b) (hs : s < σ.iv.length) (h : dx_u1 σ b t o' s o = some b') :
    dx_bx b b' ∧ dx_bw σ.iv.length b' ∧ t < b'.length ∧ dx_bn ν b' t + o' = ν s + o := by
  unfold dx_u1 at h
  split at h
  next s1 o1 ht =>
    split at h
    next e =>
      cases h
      rw [Bool.and_eq_true, decide_eq_true_eq, decide_eq_true_eq] at e
      have hs1 : s1 < σ.iv.length := hb _ _ ht
      have u := dx_df_ok g hs hs1
      have w := dx_df_ok g hs1 hs
      refine ⟨fun _ _ h => h, hb, (List.getElem?_eq_some_iff.mp ht).1, ?_⟩
      rw [dx_bn_at ht]
      omega
    next => cases h
  next ht =>
    split at h
    next e =>
      cases h
      subst e
      have hat : (b ++ [(s, o - o')])[b.length]? = some (s, o - o') := by simp
      refine ⟨fun t q hq => ?_, fun t q hq => ?_, by simp, ?_⟩
      · rw [List.getElem?_append_left (List.getElem?_eq_some_iff.mp hq).1]; exact hq
      · by_cases ht2 : t < b.length
        · rw [List.getElem?_append_left ht2] at hq
          exact hb _ _ hq
        · have h3 := (List.getElem?_eq_some_iff.mp hq).1
          simp only [List.length_append, List.length_cons, List.length_nil] at h3
          have : t = b.length := by omega
          subst this
          rw [hat] at hq
          cases hq
          exact hs
      · rw [dx_bn_at hat]; omega
    next => cases h
/-- what is said of a value is said over the bindings too -/
theorem dx_gV.bn {b b' : List (Nat × Int)} {k : Nat} {v : dx_V} {x : Option Value} (hx : dx_bx b b') (h : dx_gV b.length (dx_bn ν b) v x) (hk : k = b'.length) : dx_gV k (dx_bn ν b') v x := by
  subst hk
  refine dx_gV.ext hx.len (fun s hs => ?_) h
  obtain ⟨q, hq⟩ : ∃ q, b[s]? = some q := ⟨_, List.getElem?_eq_getElem hs⟩
  rw [dx_bn_at (s := q.1) (o := q.2) hq, dx_bn_at (s := q.1) (o := q.2) (hx _ _ hq)]
theorem dx_bn_eq {b b' : List (Nat × Int)} {s : Nat} (hx : dx_bx b b') (hs : s < b.length) : dx_bn ν b' s = dx_bn ν b s := by
  obtain ⟨q, hq⟩ : ∃ q, b[s]? = some q := ⟨_, List.getElem?_eq_getElem hs⟩
  rw [dx_bn_at (s := q.1) (o := q.2) hq, dx_bn_at (s := q.1) (o := q.2) (hx _ _ hq)]
theorem dx_bx.trans {b b' b'' : List (Nat × Int)} (h : dx_bx b b') (h2 : dx_bx b' b'') : dx_bx b b'' := fun t q hq => h2 t q (h t q hq)
theorem dx_sb_ok {l l2 : List Nat} {a : Nat} (h : dx_sb l l2 = true) (ha : a ∈ l) : a ∈ l2 := dx_mem_iff.mp (List.all_eq_true.mp h a ha)
theorem dx_mV_ok {b b' : List (Nat × Int)} {t c : dx_V} {x : Option Value} (g : dx_g E md n0 ν0 μ0 ν σ ls st μ) (hb : dx_bw σ.iv.length b) (h : dx_mV σ b t c = some b') (hx : dx_gV σ.iv.length ν c x) :
    dx_bx b b' ∧ dx_bw σ.iv.length b' ∧ dx_gV b'.length (dx_bn ν b') t x := by
  unfold dx_mV at h
  split at h
  · cases h
  · cases h
    refine ⟨fun _ _ h => h, hb, ?_⟩
    intro v hv
    subst hv
    rcases c with ⟨s, o⟩ | l | l | _ | _
    · obtain ⟨_, w, hw, _⟩ := hx; cases hw; rfl
    · obtain ⟨a, _, hw⟩ := hx; cases hw; rfl
    · skip
      rcases hx with hw | ⟨a, _, hw⟩
      · cases hw; rfl
      · cases hw; rfl
    · exact absurd rfl (by assumption)
    · exact hx v rfl
  · obtain ⟨h1, w, h2, h3⟩ := hx
    obtain ⟨q1, q2, q3, q4⟩ := dx_u1_ok g hb h1 h
    exact ⟨q1, q2, q3, w, h2, by omega⟩
  · split at h
    next e =>
      cases h
      obtain ⟨a, h1, h2⟩ := hx
      exact ⟨fun _ _ h => h, hb, a, dx_sb_ok e h1, h2⟩
    next => cases h
  · split at h
    next e =>
      cases h
      obtain ⟨a, h1, h2⟩ := hx
      exact ⟨fun _ _ h => h, hb, Or.inr ⟨a, dx_sb_ok e h1, h2⟩⟩
    next => cases h
  · split at h
    next e =>
      cases h
      rcases hx with h2 | ⟨a, h1, h2⟩
      · exact ⟨fun _ _ h => h, hb, Or.inl h2⟩
      · exact ⟨fun _ _ h => h, hb, Or.inr ⟨a, dx_sb_ok e h1, h2⟩⟩
    next => cases h
  · cases h; exact ⟨fun _ _ h => h, hb, hx⟩
  · cases h
theorem dx_mL_ok (g : dx_g E md n0 ν0 μ0 ν σ ls st μ) : ∀ {ts cs : List dx_V} {xs : dw_L} {b b' : List (Nat × Int)}, dx_bw σ.iv.length b → dx_mL σ b ts cs = some b' → dx_gL σ.iv.length ν cs xs → dx_bx b b' ∧ dx_bw σ.iv.length b' ∧ dx_gL b'.length (dx_bn ν b') ts xs
  | [], [], [], b, b', hb, h, _ => by
    unfold dx_mL at h
    cases h
    exact ⟨fun _ _ h => h, hb, trivial⟩
  | t :: r, c :: q, x :: xs, b, b', hb, h, hx => by
    unfold dx_mL at h
    split at h
    next b1 h1 =>
      obtain ⟨q1, q2, q3⟩ := dx_mV_ok g hb h1 hx.1
      obtain ⟨p1, p2, p3⟩ := dx_mL_ok g q2 h hx.2
      exact ⟨q1.trans p1, p2, dx_gV.bn p1 q3 rfl, p3⟩
    next => cases h
  | [], _ :: _, _, _, _, _, h, _ => by unfold dx_mL at h; cases h
  | _ :: _, [], _, _, _, _, h, _ => by unfold dx_mL at h; cases h
  | [], [], _ :: _, _, _, _, _, h => h.elim
  | _ :: _, _ :: _, [], _, _, _, _, h => h.elim
theorem dx_gL.bn {b b' : List (Nat × Int)} {vs : List dx_V} {xs : dw_L} (hx : dx_bx b b') (h : dx_gL b.length (dx_bn ν b) vs xs) : dx_gL b'.length (dx_bn ν b') vs xs :=
  dx_gL.ext hx.len (fun _ hs => dx_bn_eq hx hs) h
theorem dx_mF_ok (g : dx_g E md n0 ν0 μ0 ν σ ls st μ) : ∀ {fs : List (Nat × Nat × Nat × Int)} {b b' : List (Nat × Int)}, dx_bw σ.iv.length b → dx_mF σ b fs = some b' → dx_bx b b' ∧ dx_bw σ.iv.length b' ∧ ∀ q ∈ fs, q.2.2.1 < b'.length ∧ (μ.2.2.1 q.1 q.2.1).toInt = dx_bn ν b' q.2.2.1 + q.2.2.2
  | [], b, b', hb, h => by
    unfold dx_mF at h
    cases h
    exact ⟨fun _ _ h => h, hb, fun q hq => absurd hq (List.not_mem_nil)⟩
  | q :: r, b, b', hb, h => by
    unfold dx_mF at h
    split at h
    next s o hf =>
      split at h
      next b1 h1 =>
        have hm := g.fa _ (dx_ff_ok hf)
        obtain ⟨q1, q2, q3, q4⟩ := dx_u1_ok g hb hm.1 h1
        obtain ⟨p1, p2, p3⟩ := dx_mF_ok g q2 h
        refine ⟨q1.trans p1, p2, fun q' hq' => ?_⟩
        rcases List.mem_cons.mp hq' with rfl | hq'
        · refine ⟨by have := p1.len; omega, ?_⟩
          rw [dx_bn_eq p1 q3, q4]
          exact hm.2
        · exact p3 q' hq'
      next => cases h
    next => cases h
theorem dx_g1_ok {f t : Nat} {o' : Int} (g : dx_g E md n0 ν0 μ0 ν σ ls st μ) {b b' : List (Nat × Int)} (hb : dx_bw σ.iv.length b) : ∀ fl : List (Nat × Nat × Int), (∀ q ∈ fl, q.2.1 < σ.iv.length ∧ E.FP q.1 (ν q.2.1 + q.2.2) μ.2.2.1) → dx_g1 σ b f t o' fl = some b' →
    dx_bx b b' ∧ dx_bw σ.iv.length b' ∧ t < b'.length ∧ E.FP f (dx_bn ν b' t + o') μ.2.2.1
  | [], _, h => by unfold dx_g1 at h; cases h
  | q :: r, hf, h => by
    unfold dx_g1 at h
    have hr := fun q hq => hf q (List.mem_cons_of_mem _ hq)
    split at h
    next e =>
      split at h
      next b1 h1 =>
        cases h
        have hq := hf q List.mem_cons_self
        obtain ⟨q1, q2, q3, q4⟩ := dx_u1_ok g hb hq.1 h1
        refine ⟨q1, q2, q3, ?_⟩
        rw [q4, ← Nat.eq_of_beq_eq_true e]
        exact hq.2
      next => exact dx_g1_ok g hb r hr h
    next => exact dx_g1_ok g hb r hr h
theorem dx_mG_ok (g : dx_g E md n0 ν0 μ0 ν σ ls st μ) : ∀ {fs : List (Nat × Nat × Int)} {b b' : List (Nat × Int)}, dx_bw σ.iv.length b → dx_mG σ b fs = some b' → dx_bx b b' ∧ dx_bw σ.iv.length b' ∧ ∀ q ∈ fs, q.2.1 < b'.length ∧ E.FP q.1 (dx_bn ν b' q.2.1 + q.2.2) μ.2.2.1
  | [], b, b', hb, h => by
    unfold dx_mG at h
    cases h
    exact ⟨fun _ _ h => h, hb, fun q hq => absurd hq (List.not_mem_nil)⟩
  | q :: r, b, b', hb, h => by
    unfold dx_mG at h
    split at h
    next b1 h1 =>
      obtain ⟨q1, q2, q3, q4⟩ := dx_g1_ok g hb σ.fl g.fl h1
      obtain ⟨p1, p2, p3⟩ := dx_mG_ok g q2 h
      refine ⟨q1.trans p1, p2, fun q' hq' => ?_⟩
      rcases List.mem_cons.mp hq' with rfl | hq'
      · refine ⟨by have := p1.len; omega, ?_⟩
        rw [dx_bn_eq p1 q3]
        exact q4
      · exact p3 q' hq'
    next => cases h
theorem dx_m1_ok {a j : Nat} (g : dx_g E md n0 ν0 μ0 ν σ ls st μ) : ∃ ν', dx_g E md n0 ν0 μ0 ν' (dx_m1 E σ a j) ls st μ ∧ dx_ext ν σ ν' (dx_m1 E σ a j) := by
  unfold dx_m1
  split
  next => exact ⟨ν, g, dx_ext.rfl rfl⟩
  next =>
    have hx : ∀ s, s < σ.iv.length → dx_nu ν σ.iv.length (μ.2.2.1 a j).toInt s = ν s := fun s hs => dx_nu_lt hs
    refine ⟨dx_nu ν σ.iv.length (μ.2.2.1 a j).toInt, (g.nw (g.hi a j)).fas ?_, ⟨hx, ?_⟩⟩
    · intro q hq
      rw [dx_nw_len]
      rcases List.mem_cons.mp hq with rfl | hq
      · refine ⟨by show σ.iv.length < _; omega, ?_⟩
        show (μ.2.2.1 a j).toInt = dx_nu ν σ.iv.length (μ.2.2.1 a j).toInt σ.iv.length + 0
        rw [dx_nu_at]; omega
      · have := g.fa q hq
        rw [hx _ this.1]
        exact ⟨by omega, this.2⟩
    · show _ ≤ (dx_nw σ _).iv.length
      rw [dx_nw_len]; omega
theorem dx_mm_ok : ∀ {fs : List (Nat × Nat × Nat × Int)} {σ : dx_S} {ν : Nat → Int}, dx_g E md n0 ν0 μ0 ν σ ls st μ → ∃ ν', dx_g E md n0 ν0 μ0 ν' (dx_mm E σ fs) ls st μ ∧ dx_ext ν σ ν' (dx_mm E σ fs)
  | [], σ, ν, g => ⟨ν, g, dx_ext.rfl rfl⟩
  | q :: r, σ, ν, g => by
    obtain ⟨ν1, g1, x1⟩ := dx_m1_ok (a := q.1) (j := q.2.1) g
    obtain ⟨ν2, g2, x2⟩ := dx_mm_ok (fs := r) g1
    exact ⟨ν2, g2, x1.trans x2⟩
theorem dx_mI_ok (g : dx_g E md n0 ν0 μ0 ν σ ls st μ) : ∀ {b : List (Nat × Int)} {iv : List (Int × Int)}, dx_bw σ.iv.length b → dx_mI σ b iv = true → b.length = iv.length ∧ ∀ t, t < iv.length → dx_in (dx_gi iv t) (dx_bn ν b t)
  | [], [], _, _ => ⟨rfl, fun t ht => absurd ht (Nat.not_lt_zero t)⟩
  | (s, o) :: b, p :: r, hb, h => by
    unfold dx_mI at h
    rw [Bool.and_eq_true, Bool.and_eq_true, decide_eq_true_eq, decide_eq_true_eq] at h
    have hs : s < σ.iv.length := hb 0 _ rfl
    obtain ⟨h1, h2⟩ := dx_mI_ok g (b := b) (iv := r) (fun t q hq => hb (t + 1) q hq) h.2
    refine ⟨by simp only [List.length_cons, h1], fun t ht => ?_⟩
    have u := dx_ub_ok g hs
    have l := dx_lb_ok g hs
    cases t with
    | zero =>
      show dx_in p (ν s + o)
      exact ⟨by omega, by omega⟩
    | succ t => exact h2 t (by simp only [List.length_cons] at ht; omega)
  | [], _ :: _, _, h => by unfold dx_mI at h; cases h
  | _ :: _, [], _, h => by unfold dx_mI at h; cases h
theorem dx_mat_ok {b0 b : List (Nat × Int)} {tgt : dx_S} (g : dx_g E md n0 ν0 μ0 ν σ ls st μ) (hb : dx_bw σ.iv.length b0) (h0 : b0[0]? = some (0, 0)) (h : dx_mat σ b0 tgt = some b) :
    dx_bx b0 b ∧ dx_bw σ.iv.length b ∧ b.length = tgt.iv.length ∧ ∀ (md' : List Nat) (n0' : Nat) (ν0' : Nat → Int) (μ0' : dw_S), (∀ a, a ∉ md' → μ.2.2.1 a = μ0'.2.2.1 a ∧ μ.2.2.2 a = μ0'.2.2.2 a) → n0' ≤ b.length → (∀ s, s < n0' → dx_bn ν b s = ν0' s) → dx_g E md' n0' ν0' μ0' (dx_bn ν b) tgt ls st μ := by
  unfold dx_mat at h
  split at h
  next b1 h1 =>
    split at h
    next b2 h2 =>
      split at h
      next b3 h3 =>
        split at h
        next b4 h4 =>
          split at h
          next e =>
            cases h
            rw [Bool.and_eq_true] at e
            obtain ⟨p1, p2, p3⟩ := dx_mL_ok g hb h1 g.gl
            obtain ⟨q1, q2, q3⟩ := dx_mL_ok g p2 h2 g.gs
            obtain ⟨r1, r2, r3⟩ := dx_mF_ok g q2 h3
            obtain ⟨u1, u2, u3⟩ := dx_mG_ok g r2 h4
            obtain ⟨i1, i2⟩ := dx_mI_ok g u2 e.1
            have x0 := ((p1.trans q1).trans r1).trans u1
            have hl0 : 0 < b.length := (List.getElem?_eq_some_iff.mp (x0 _ _ h0)).1
            refine ⟨x0, u2, i1, fun md' n0' ν0' μ0' hf hn ha => ?_⟩
            refine ⟨g.sh, g.hi, hf, ?_, by rw [← i1]; exact hn, by rw [← i1]; exact hl0, ha, i2, ?_, ?_, ?_, ?_, ?_⟩
            · rw [dx_bn_at (x0 _ _ h0), g.z]; rfl
            · intro q hq
              have hd := List.all_eq_true.mp e.2 q hq
              split at hd
              next s1 o1 s2 o2 t1 t2 =>
                rw [decide_eq_true_eq] at hd
                have u := dx_df_ok g (u2 _ _ t1) (u2 _ _ t2)
                rw [dx_bn_at t1, dx_bn_at t2, ← i1]
                refine ⟨(List.getElem?_eq_some_iff.mp t1).1, (List.getElem?_eq_some_iff.mp t2).1, ?_⟩
                have u2 : ν s1 - ν s2 ≤ dx_df σ s1 s2 := u
                omega
              next => cases hd
            · rw [← i1]; exact dx_gL.bn ((q1.trans r1).trans u1) p3
            · rw [← i1]; exact dx_gL.bn (r1.trans u1) q3
            · rw [← i1]
              intro q hq
              have h5 := r3 q hq
              rw [dx_bn_eq u1 h5.1]
              exact ⟨by have := u1.len; omega, h5.2⟩
            · rw [← i1]; exact u3
          next => cases h
        next => cases h
      next => cases h
    next => cases h
  next => cases h
end
end
section
/-! ===== going through a method by what is known ===== -/
abbrev dx_M : Type := List (Nat × Int) × Int
abbrev dx_Inst : Type := Nat × dx_S × List dx_S × List Nat × List (Nat × dx_S × dx_M) × List (Nat × Nat × Nat × Nat × List Int) × List (Nat × List Nat)
abbrev dx_Inst.m (q : dx_Inst) : Nat := q.1
abbrev dx_Inst.pre (q : dx_Inst) : dx_S := q.2.1
abbrev dx_Inst.po (q : dx_Inst) : List dx_S := q.2.2.1
abbrev dx_Inst.md (q : dx_Inst) : List Nat := q.2.2.2.1
abbrev dx_Inst.nd (q : dx_Inst) : List (Nat × dx_S × dx_M) := q.2.2.2.2.1
abbrev dx_Inst.sp (q : dx_Inst) : List (Nat × Nat × Nat × Nat × List Int) := q.2.2.2.2.2.1
abbrev dx_Inst.cl (q : dx_Inst) : List (Nat × List Nat) := q.2.2.2.2.2.2
/-- a piece of a method that is looked at by hand: the locals that it wants, how many it takes from the stack, where it goes on -/
abbrev dx_Sg : Type := List Nat × Nat × dx_Inst × List Nat
abbrev dx_Sg.lx (g : dx_Sg) : List Nat := g.1
abbrev dx_Sg.n (g : dx_Sg) : Nat := g.2.1
abbrev dx_Sg.q (g : dx_Sg) : dx_Inst := g.2.2.1
abbrev dx_Sg.pcs (g : dx_Sg) : List Nat := g.2.2.2
abbrev dx_X : Type := dx_Env × (Nat → dx_I) × dx_Inst × Nat × (Nat → dx_Inst) × List (Nat × dx_Sg)
abbrev dx_X.E (X : dx_X) : dx_Env := X.1
abbrev dx_X.pg (X : dx_X) : Nat → dx_I := X.2.1
abbrev dx_X.q (X : dx_X) : dx_Inst := X.2.2.1
abbrev dx_X.i (X : dx_X) : Nat := X.2.2.2.1
abbrev dx_X.Is (X : dx_X) : Nat → dx_Inst := X.2.2.2.2.1
abbrev dx_X.sg (X : dx_X) : List (Nat × dx_Sg) := X.2.2.2.2.2
def dx_idn (n : Nat) : List (Nat × Int) := (List.range n).map (fun t => (t, 0))
def dx_fnd {α : Type} (pc : Nat) : List (Nat × α) → Option α
  | [] => none
  | q :: r => if Nat.beq q.1 pc then some q.2 else dx_fnd pc r
/-- sums of unknowns -/
def dx_am (s : Nat) (k : Int) : List (Nat × Int) → List (Nat × Int)
  | [] => [(s, k)]
  | q :: r => if Nat.beq q.1 s then (s, q.2 + k) :: r else q :: dx_am s k r
def dx_lw (σ : dx_S) : List (Nat × Int) → Int
  | [] => 0
  | (s, k) :: r => (if 0 ≤ k then k * (dx_gi σ.iv s).1 else k * (dx_gi σ.iv s).2) + dx_lw σ r
/-- what the measure falls by, at the least -/
def dx_dm (b : List (Nat × Int)) : List (Nat × Int) → dx_M → Option dx_M
  | [], m => some m
  | (t, k) :: r, m => match b[t]? with
    | some (s, o) => dx_dm b r (dx_am s (-k) m.1, m.2 - k * o)
    | none => none
def dx_op (k : Int) : List (Nat × Int) → Option (Nat × List (Nat × Int))
  | [] => none
  | q :: r => if q.2 = -k then some (q.1, r) else match dx_op k r with
    | some (s, r') => some (s, q :: r')
    | none => none
def dx_lp (σ : dx_S) : Nat → List (Nat × Int) → Int
  | 0, l => dx_lw σ l
  | _ + 1, [] => 0
  | n + 1, (s, k) :: r => match dx_op k r with
    | some (s2, r') => max ((if 0 ≤ k then k * (dx_gi σ.iv s).1 else k * (dx_gi σ.iv s).2) + dx_lp σ n r) ((if 0 ≤ k then k * -(dx_df σ s2 s) else -k * -(dx_df σ s s2)) + dx_lp σ n r')
    | none => (if 0 ≤ k then k * (dx_gi σ.iv s).1 else k * (dx_gi σ.iv s).2) + dx_lp σ n r
def dx_lm (σ : dx_S) (m : dx_M) : Int := dx_lp σ 6 (m.1.filter (fun q => decide (q.2 ≠ 0))) + m.2
/-- a look ahead: what must be exactly so, may be so -/
def dx_qk (σ : dx_S) (fa : List (Nat × Nat × Nat × Int)) : Bool := fa.all (fun f => !(Nat.beq f.2.2.1 0) || (match dx_ff σ.fa f.1 f.2.1 with
  | some (s, o) => decide ((dx_rg2 σ s o).1 ≤ f.2.2.2) && decide (f.2.2.2 ≤ (dx_rg2 σ s o).2)
  | none => true))
def dx_edge0 (X : dx_X) (M : Option dx_M) (σ : dx_S) (nd : dx_S × dx_M) : Bool := match dx_mat (dx_mm X.E σ nd.1.fa) (dx_idn X.q.pre.iv.length) nd.1 with
  | some b => (match M with
    | none => true
    | some m => (match dx_dm b nd.2.1 (m.1, m.2 - nd.2.2) with
      | some d => decide (1 ≤ dx_lm (dx_mm X.E σ nd.1.fa) d)
      | none => false))
  | none => false
def dx_edge (X : dx_X) (M : Option dx_M) (σ : dx_S) (nd : dx_S × dx_M) : Bool := dx_qk σ nd.1.fa && dx_edge0 X M σ nd
def dx_post (X : dx_X) (σ : dx_S) (r : List dx_V) : Bool := X.q.po.any (fun P => match dx_mat (dx_mm X.E (⟨dx_S.iv σ, dx_S.dc σ, r, [], dx_S.fa σ, dx_S.fl σ⟩ : dx_S) P.fa) (dx_idn X.q.pre.iv.length) P with
  | some _ => true
  | none => false)
/-- behind a call -/
def dx_ri (iv : List (Int × Int)) : List (Nat × Int) → List (Int × Int) → List (Int × Int)
  | (s, o) :: b, p :: r => dx_ri (dx_sv iv s (max (dx_gi iv s).1 (p.1 - o), min (dx_gi iv s).2 (p.2 - o))) b r
  | _, _ => iv
def dx_tg : List (Nat × Nat × Int) → List (Int × Int) → List (Int × Int)
  | [], iv => iv
  | (a, b, c) :: r, iv => dx_tg r (let iv1 := dx_sv iv a ((dx_gi iv a).1, min (dx_gi iv a).2 ((dx_gi iv b).2 + c)); dx_sv iv1 b (max (dx_gi iv1 b).1 ((dx_gi iv1 a).1 - c), (dx_gi iv1 b).2))
def dx_emp (iv : List (Int × Int)) : Bool := iv.any (fun p => decide (p.2 < p.1))
def dx_inf (σ : dx_S) : Bool := dx_emp σ.iv || σ.dc.any (fun q => decide (dx_df σ q.2.1 q.1 + q.2.2 < 0))
def dx_bs (b : List (Nat × Int)) (s : Nat) (o : Int) : Nat × Int := match b[s]? with
  | some (s', o') => (s', o' + o)
  | none => (0, 0)
def dx_vb (b : List (Nat × Int)) : dx_V → dx_V
  | (.inl (s, o)) => (.inl ((dx_bs b s o).1, (dx_bs b s o).2))
  | v => v
def dx_ap (E : dx_Env) (cur : dx_S) (ls rest : List dx_V) (b : List (Nat × Int)) (q : dx_Inst) (P : dx_S) : dx_S :=
  let k := cur.iv.length
  let bb := b ++ (List.range (P.iv.length - b.length)).map (fun t => (k + t, (0 : Int)))
  (⟨dx_tg (P.dc.map (fun d => ((dx_bs bb d.1 0).1, (dx_bs bb d.2.1 0).1, d.2.2 - (dx_bs bb d.1 0).2 + (dx_bs bb d.2.1 0).2))) (dx_ri cur.iv b P.iv ++ P.iv.drop b.length), P.dc.map (fun d => ((dx_bs bb d.1 0).1, (dx_bs bb d.2.1 0).1, d.2.2 - (dx_bs bb d.1 0).2 + (dx_bs bb d.2.1 0).2)) ++ cur.dc, ls, P.ls.map (dx_vb bb) ++ rest, P.fa.map (fun f => (f.1, f.2.1, (dx_bs bb f.2.2.1 f.2.2.2).1, (dx_bs bb f.2.2.1 f.2.2.2).2)) ++ cur.fa.filter (fun f => !(dx_mem f.1 q.md)), P.fl.map (fun f => (f.1, (dx_bs bb f.2.1 f.2.2).1, (dx_bs bb f.2.1 f.2.2).2)) ++ dx_kc E q.md cur.fl⟩ : dx_S)
def dx_call0 (X : dx_X) (j m n nx : Nat) (ci : Option Nat) (k : Nat → dx_S → Bool) (σ : dx_S) : Bool :=
  Nat.blt j X.i && Nat.beq (X.Is j).m m && Nat.ble n σ.st.length && Nat.ble (dx_cats (σ.st.drop n)) 8 && dx_sb (X.Is j).md X.q.md &&
  (match ci, (σ.st.take n).reverse with
    | none, _ => true
    | some ci, (.inr (.inl l)) :: _ => l.all (fun a => Nat.beq (X.E.ce a).k ci)
    | some _, _ => false) &&
  (match dx_mat (dx_mm X.E (⟨dx_S.iv σ, dx_S.dc σ, (σ.st.take n).reverse, [], dx_S.fa σ, dx_S.fl σ⟩ : dx_S) (X.Is j).pre.fa) [(0, 0)] (X.Is j).pre with
    | some b => (X.Is j).po.all (fun P => dx_inf (dx_ap X.E (dx_mm X.E (⟨dx_S.iv σ, dx_S.dc σ, (σ.st.take n).reverse, [], dx_S.fa σ, dx_S.fl σ⟩ : dx_S) (X.Is j).pre.fa) σ.ls (σ.st.drop n) b (X.Is j) P) || k nx (dx_ap X.E (dx_mm X.E (⟨dx_S.iv σ, dx_S.dc σ, (σ.st.take n).reverse, [], dx_S.fa σ, dx_S.fl σ⟩ : dx_S) (X.Is j).pre.fa) σ.ls (σ.st.drop n) b (X.Is j) P))
    | none => false)
def dx_call (X : dx_X) (j m n nx : Nat) (ci : Option Nat) (k : Nat → dx_S → Bool) (σ : dx_S) : Bool := dx_qk σ (X.Is j).pre.fa && dx_call0 X j m n nx ci k σ
def dx_at (X : dx_X) (k : Nat → dx_S → Bool) (pc : Nat) (σ : dx_S) : Bool := match X.pg pc with
  | (34, _) => (match σ.st with
    | [(.inl (s, o))] => dx_post X σ [(.inl (s, o))]
    | _ => false)
  | (35, _) => (match σ.st with
    | [(.inl (s, o))] => decide (0 ≤ (dx_rg2 σ s o).1) && decide ((dx_rg2 σ s o).2 ≤ 1) && dx_post X σ [(.inl (s, o))]
    | _ => false)
  | (36, _) => (match σ.st with
    | [] => dx_post X σ []
    | _ => false)
  | (37, _) => (match σ.st with
    | [(.inr (.inl l))] => dx_post X σ [(.inr (.inl l))]
    | [(.inr (.inr (.inl l)))] => dx_post X σ [(.inr (.inr (.inl l)))]
    | _ => false)
  | (38, v, a, b, c, _) => (match dx_fnd pc X.q.cl with
    | some js => js.any (fun j => dx_call X j v.toNat b c (some a) k σ)
    | none => false)
  | (39, v, a, _, c, _) => (match dx_fnd pc X.q.cl with
    | some js => js.any (fun j => dx_call X j v.toNat a c none k σ)
    | none => false)
  | i => (match dx_stp X.E X.q.md i σ with
    | some out => out.all (fun p => k p.1 p.2)
    | none => false)
def dx_lx (ls : List dx_V) : List Nat → Option (List dx_V)
  | [] => some []
  | i :: r => match ls[i]?, dx_lx ls r with
    | some v, some vs => some (v :: vs)
    | _, _ => none
def dx_clb : List dx_V → List Nat → List dx_V
  | ls, [] => ls
  | ls, i :: r => dx_clb (ls.set i (.inr (.inr (.inr true)))) r
def dw_clb : dw_L → List (Nat × Int32) → dw_L
  | ls, [] => ls
  | ls, z :: r => dw_clb (ls.set z.1 (some (.int z.2))) r
/-- the locals that a piece writes over (kept where a contract has its calls) -/
def dx_cb (g : dx_Sg) : List Nat := match g.q.cl with
  | (_, l) :: _ => l
  | [] => []
def dx_sg10 (X : dx_X) (k : Nat → dx_S → Bool) (σ : dx_S) (g : dx_Sg) : Bool :=
  Nat.ble g.n σ.st.length && Nat.ble (dx_cats (σ.st.drop g.n)) 4 && dx_sb g.q.md X.q.md &&
  (match dx_lx σ.ls g.lx with
    | some vs => (match dx_mat (dx_mm X.E (⟨dx_S.iv σ, dx_S.dc σ, vs ++ (σ.st.take g.n).reverse, [], dx_S.fa σ, dx_S.fl σ⟩ : dx_S) g.q.pre.fa) [(0, 0)] g.q.pre with
      | some b => (g.pcs.zip g.q.po).all (fun p => dx_inf (dx_ap X.E (dx_mm X.E (⟨dx_S.iv σ, dx_S.dc σ, vs ++ (σ.st.take g.n).reverse, [], dx_S.fa σ, dx_S.fl σ⟩ : dx_S) g.q.pre.fa) (dx_clb σ.ls (dx_cb g)) (σ.st.drop g.n) b g.q p.2) || k p.1 (dx_ap X.E (dx_mm X.E (⟨dx_S.iv σ, dx_S.dc σ, vs ++ (σ.st.take g.n).reverse, [], dx_S.fa σ, dx_S.fl σ⟩ : dx_S) g.q.pre.fa) (dx_clb σ.ls (dx_cb g)) (σ.st.drop g.n) b g.q p.2))
      | none => false)
    | none => false)
def dx_sg1 (X : dx_X) (k : Nat → dx_S → Bool) (σ : dx_S) (g : dx_Sg) : Bool := dx_qk σ g.q.pre.fa && dx_sg10 X k σ g
def dx_cut (k : dx_S → Bool) (σ : dx_S) (s : Nat) (o : Int) : List Int → Bool
  | [] => k σ
  | c :: r => (match dx_rf σ 5 s o 0 c with
    | some σ' => k σ'
    | none => true) && (match dx_rf σ 4 s o 0 c with
    | some σ' => dx_cut k σ' s o r
    | none => true)
def dx_spl (X : dx_X) (k : dx_S → Bool) (pc : Nat) (σ : dx_S) : Bool := match dx_fnd pc X.q.sp with
  | none => k σ
  | some (0, a, j, cs) => (match dx_ff (dx_m1 X.E σ a j).fa a j with
    | some (s, o) => dx_cut k (dx_m1 X.E σ a j) s o cs
    | none => false)
  | some (_, a, _, cs) => (match σ.ls[a]? with
    | some ((.inl (s, o))) => dx_cut k σ s o cs
    | _ => false)
def dx_go (X : dx_X) (M : Option dx_M) : Nat → Nat → dx_S → Bool
  | 0, _, _ => false
  | f + 1, pc, σ => dx_spl X (fun σ => (X.sg.filter (fun p => Nat.beq p.1 pc)).any (fun p => dx_sg1 X (fun pc' σ' => match X.q.nd.filter (fun nd => Nat.beq nd.1 pc') with
      | [] => dx_go X M f pc' σ'
      | nds => nds.any (fun nd => dx_edge X M σ' nd.2)) σ p.2) ||
    dx_at X (fun pc' σ' => match X.q.nd.filter (fun nd => Nat.beq nd.1 pc') with
      | [] => dx_go X M f pc' σ'
      | nds => nds.any (fun nd => dx_edge X M σ' nd.2)) pc σ) pc σ
def dx_pad : Nat → List dx_V → List dx_V
  | 0, _ => []
  | n + 1, [] => (.inr (.inr (.inr true))) :: dx_pad n []
  | n + 1, a :: r => a :: dx_pad n r
def dx_inl : List dx_V → List dx_V
  | [] => []
  | (.inr (.inr (.inr false))) :: r => (.inr (.inr (.inr false))) :: (.inr (.inr (.inr true))) :: dx_inl r
  | v :: r => v :: dx_inl r
/-- the whole check of one method from one start -/
def dx_chk1 (X : dx_X) (nL fuel : Nat) : Bool := Nat.ble (dx_inl X.q.pre.ls).length nL && dx_go X none fuel 0 (⟨dx_S.iv X.q.pre, dx_S.dc X.q.pre, dx_pad nL (dx_inl X.q.pre.ls), dx_S.st X.q.pre, dx_S.fa X.q.pre, dx_S.fl X.q.pre⟩ : dx_S)
def dx_chkn (X : dx_X) (fuel : Nat) (nd : Nat × dx_S × dx_M) : Bool := decide (0 ≤ dx_lw nd.2.1 nd.2.2.1 + nd.2.2.2) && nd.2.2.1.all (fun t => decide (t.1 < nd.2.1.iv.length)) && dx_go X (some nd.2.2) fuel nd.1 nd.2.1
def dx_chk (X : dx_X) (nL fuel : Nat) : Bool := dx_chk1 X nL fuel && X.q.nd.all (dx_chkn X fuel)
/-- some of the loop heads -/
def dx_chks (X : dx_X) (fuel a n : Nat) : Bool := ((X.q.nd.drop a).take n).all (dx_chkn X fuel)
theorem dx_chks_nil {X : dx_X} {fuel a : Nat} (h : X.q.nd.length ≤ a) : (X.q.nd.drop a).all (dx_chkn X fuel) = true := by
  rw [List.drop_eq_nil_of_le h]; rfl
theorem dx_chks_app {X : dx_X} {fuel a n : Nat} (h : dx_chks X fuel a n = true) (h2 : (X.q.nd.drop (a + n)).all (dx_chkn X fuel) = true) : (X.q.nd.drop a).all (dx_chkn X fuel) = true := by
  have e : X.q.nd.drop a = (X.q.nd.drop a).take n ++ X.q.nd.drop (a + n) := by
    rw [← List.drop_drop, List.take_append_drop]
  rw [e, List.all_append, Bool.and_eq_true]
  exact ⟨h, h2⟩
theorem dx_chk_parts {X : dx_X} {nL fuel : Nat} (h1 : dx_chk1 X nL fuel = true) (h2 : (X.q.nd.drop 0).all (dx_chkn X fuel) = true) : dx_chk X nL fuel = true := by
  unfold dx_chk
  rw [h1, Bool.true_and]
  exact h2
/-- what a method keeps from a start like this -/
def dx_OK (E : dx_Env) (q : dx_Inst) : Prop := ∀ (ν : Nat → Int) (as : List Value) (μ : dw_S) (K : dw_K), dx_g E q.md q.pre.iv.length ν μ ν q.pre (as.map some) [] μ →
  (∀ (r : Option Value) (μ' : dw_S) (ν' : Nat → Int) (P : dx_S), P ∈ q.po → dx_g E q.md q.pre.iv.length ν μ ν' P (r.toList.map some) [] μ' → K r μ') → E.TT q.m as μ K
/-- a piece by hand is right -/
def dx_SOK (E : dx_Env) (pr : Nat → dw_Op) (pc : Nat) (g : dx_Sg) : Prop := ∀ (ν : Nat → Int) (ls vs : dw_L) (args rest : List Value) (μ : dw_S) (bc bs : Nat), g.lx.map (fun i => ls[i]?) = vs.map some → args.length = g.n → dw_cats rest ≤ 4 →
  dx_g E g.q.md g.q.pre.iv.length ν μ ν g.q.pre (vs ++ args.map some) [] μ →
  (∀ (pc' : Nat) (P : dx_S) (ν' : Nat → Int) (r : List Value) (μ' : dw_S), (pc', P) ∈ g.pcs.zip g.q.po → dx_g E g.q.md g.q.pre.iv.length ν μ ν' P (r.map some) [] μ' → dw_ok pr pc' bc bs ls (r ++ rest) μ') → dw_ok pr pc bc bs ls (args.reverse ++ rest) μ
/-- a piece by hand that may write over locals -/
def dx_SOKc (E : dx_Env) (pr : Nat → dw_Op) (pc : Nat) (g : dx_Sg) : Prop := ∀ (ν : Nat → Int) (ls vs : dw_L) (args rest : List Value) (μ : dw_S) (bc bs : Nat), g.lx.map (fun i => ls[i]?) = vs.map some → args.length = g.n → dw_cats rest ≤ 4 →
  dx_g E g.q.md g.q.pre.iv.length ν μ ν g.q.pre (vs ++ args.map some) [] μ →
  (∀ (pc' : Nat) (P : dx_S) (ν' : Nat → Int) (r : List Value) (zs : List (Nat × Int32)) (μ' : dw_S), zs.map (·.1) = dx_cb g → (pc', P) ∈ g.pcs.zip g.q.po → dx_g E g.q.md g.q.pre.iv.length ν μ ν' P (r.map some) [] μ' → dw_ok pr pc' bc bs (dw_clb ls zs) (r ++ rest) μ') → dw_ok pr pc bc bs ls (args.reverse ++ rest) μ
theorem dx_SOK.c {E : dx_Env} {pr : Nat → dw_Op} {pc : Nat} {g : dx_Sg} (h : dx_SOK E pr pc g) (hc : dx_cb g = []) : dx_SOKc E pr pc g :=
  fun ν ls vs args rest μ bc bs h1 h2 h3 h4 hk => h ν ls vs args rest μ bc bs h1 h2 h3 h4 (fun pc' P ν' r μ' m p => hk pc' P ν' r [] μ' (by rw [hc]; rfl) m p)
end
section
section
variable {E : dx_Env} {md : List Nat} {n0 : Nat} {ν0 : Nat → Int} {μ0 : dw_S} {ν : Nat → Int} {σ : dx_S} {ls : dw_L} {st : dw_L} {μ : dw_S}
theorem dx_am_ok {s : Nat} {k : Int} : ∀ l : List (Nat × Int), dx_ev ν (dx_am s k l) = dx_ev ν l + k * ν s
  | [] => by simp [dx_am, dx_ev]
  | q :: r => by
    unfold dx_am
    split
    next e =>
      have := Nat.eq_of_beq_eq_true e
      show (q.2 + k) * ν s + dx_ev ν r = q.2 * ν q.1 + dx_ev ν r + k * ν s
      rw [this, Int.add_mul]; omega
    next =>
      show q.2 * ν q.1 + dx_ev ν (dx_am s k r) = q.2 * ν q.1 + dx_ev ν r + k * ν s
      rw [dx_am_ok r]; omega
theorem dx_am_mem {s n : Nat} {k : Int} (hs : s < n) : ∀ l : List (Nat × Int), (∀ q ∈ l, q.1 < n) → ∀ q ∈ dx_am s k l, q.1 < n
  | [], _, q, hq => by
    unfold dx_am at hq
    rw [List.mem_singleton] at hq
    rw [hq]; exact hs
  | q :: r, h, q', hq => by
    unfold dx_am at hq
    split at hq
    next e =>
      rcases List.mem_cons.mp hq with rfl | hq
      · exact hs
      · exact h _ (List.mem_cons_of_mem _ hq)
    next =>
      rcases List.mem_cons.mp hq with rfl | hq
      · exact h _ List.mem_cons_self
      · exact dx_am_mem hs r (fun q hq => h q (List.mem_cons_of_mem _ hq)) _ hq
theorem dx_lw_ok (g : dx_g E md n0 ν0 μ0 ν σ ls st μ) : ∀ l : List (Nat × Int), (∀ q ∈ l, q.1 < σ.iv.length) → dx_lw σ l ≤ dx_ev ν l
  | [], _ => Int.le_refl _
  | (s, k) :: r, h => by
    have h1 := dx_lw_ok g r (fun q hq => h q (List.mem_cons_of_mem _ hq))
    have h2 := g.iv s (h (s, k) List.mem_cons_self)
    show (if 0 ≤ k then k * (dx_gi σ.iv s).1 else k * (dx_gi σ.iv s).2) + dx_lw σ r ≤ k * ν s + dx_ev ν r
    split
    next e =>
      have := Int.mul_le_mul_of_nonneg_left h2.1 e
      omega
    next e =>
      have := Int.mul_le_mul_of_nonpos_left (a := k) (by omega) h2.2
      omega
theorem dx_dm_ok {n : Nat} {b : List (Nat × Int)} (hb : dx_bw n b) : ∀ (l : List (Nat × Int)) (m d : dx_M), dx_dm b l m = some d → (∀ q ∈ m.1, q.1 < n) → dx_ev ν d.1 + d.2 = dx_ev ν m.1 + m.2 - dx_ev (dx_bn ν b) l ∧ ∀ q ∈ d.1, q.1 < n
  | [], m, d, h, hm => by
    unfold dx_dm at h
    cases h
    exact ⟨by show _ = _ - 0; omega, hm⟩
  | (t, k) :: r, m, d, h, hm => by
    unfold dx_dm at h
    split at h
    next s o ht =>
      have hs : s < n := hb _ _ ht
      obtain ⟨h1, h2⟩ := dx_dm_ok hb r _ d h (dx_am_mem hs _ hm)
      refine ⟨?_, h2⟩
      rw [h1, dx_am_ok]
      show _ = _ - (k * dx_bn ν b t + dx_ev (dx_bn ν b) r)
      rw [dx_bn_at ht, Int.mul_add, Int.neg_mul]
      show _ + (m.2 - k * o) - _ = _
      omega
    next => cases h
theorem dx_ev_fil : ∀ l : List (Nat × Int), dx_ev ν (l.filter (fun q => decide (q.2 ≠ 0))) = dx_ev ν l
  | [] => rfl
  | (s, k) :: r => by
    by_cases e : k ≠ 0
    · rw [List.filter_cons_of_pos (by simpa using e)]
      show k * ν s + _ = k * ν s + _
      rw [dx_ev_fil r]
    · rw [List.filter_cons_of_neg (by simpa using e), dx_ev_fil r]
      have : k = 0 := by omega
      show _ = k * ν s + _
      rw [this]; omega
theorem dx_op_ok {k : Int} : ∀ {l : List (Nat × Int)} {s : Nat} {r : List (Nat × Int)}, dx_op k l = some (s, r) → dx_ev ν l = -k * ν s + dx_ev ν r ∧ (s, -k) ∈ l ∧ ∀ q ∈ r, q ∈ l
  | [], _, _, h => by unfold dx_op at h; cases h
  | (t, c) :: q, s, r, h => by
    unfold dx_op at h
    split at h
    next e =>
      cases h
      have e' : c = -k := e
      subst e'
      exact ⟨rfl, List.mem_cons_self, fun q hq => List.mem_cons_of_mem _ hq⟩
    next =>
      split at h
      next s' r' h1 =>
        cases h
        obtain ⟨a1, a2, a3⟩ := dx_op_ok h1
        refine ⟨?_, List.mem_cons_of_mem _ a2, fun z hz => ?_⟩
        · show c * ν t + dx_ev ν q = -k * ν s + (c * ν t + dx_ev ν r')
          rw [a1]; omega
        · rcases List.mem_cons.mp hz with rfl | hz
          · exact List.mem_cons_self
          · exact List.mem_cons_of_mem _ (a3 z hz)
      next => cases h
theorem dx_lp_ok (g : dx_g E md n0 ν0 μ0 ν σ ls st μ) : ∀ (n : Nat) (l : List (Nat × Int)), (∀ q ∈ l, q.1 < σ.iv.length) → dx_lp σ n l ≤ dx_ev ν l
  | 0, l, h => by unfold dx_lp; exact dx_lw_ok g l h
  | n + 1, [], h => Int.le_refl _
  | n + 1, (s, k) :: r, h => by
    have hs : s < σ.iv.length := h (s, k) List.mem_cons_self
    have hr : ∀ q ∈ r, q.1 < σ.iv.length := fun q hq => h q (List.mem_cons_of_mem _ hq)
    have h1 := dx_lp_ok g n r hr
    have h2 := g.iv s hs
    have one : (if 0 ≤ k then k * (dx_gi σ.iv s).1 else k * (dx_gi σ.iv s).2) + dx_lp σ n r ≤ k * ν s + dx_ev ν r := by
      split
      next e =>
        have := Int.mul_le_mul_of_nonneg_left h2.1 e
        omega
      next e =>
        have := Int.mul_le_mul_of_nonpos_left (a := k) (by omega) h2.2
        omega
    unfold dx_lp
    split
    next s2 r' ho =>
      obtain ⟨a1, a2, a3⟩ := dx_op_ok (ν := ν) ho
      have hs2 : s2 < σ.iv.length := hr _ a2
      have h3 := dx_lp_ok g n r' (fun q hq => hr q (a3 q hq))
      have u := dx_df_ok g hs2 hs
      have w := dx_df_ok g hs hs2
      have two : (if 0 ≤ k then k * -(dx_df σ s2 s) else -k * -(dx_df σ s s2)) + dx_lp σ n r' ≤ k * ν s + dx_ev ν r := by
        rw [a1]
        split
        next e =>
          have h4 := Int.mul_le_mul_of_nonneg_left (show -(dx_df σ s2 s) ≤ ν s - ν s2 by omega) e
          rw [Int.mul_sub] at h4
          rw [Int.neg_mul]
          omega
        next e =>
          have h4 := Int.mul_le_mul_of_nonneg_left (show -(dx_df σ s s2) ≤ ν s2 - ν s by omega) (show 0 ≤ -k by omega)
          rw [Int.mul_sub, Int.neg_mul, Int.neg_mul, Int.neg_mul] at h4
          rw [Int.neg_mul, Int.neg_mul]
          omega
      show max _ _ ≤ k * ν s + dx_ev ν r
      omega
    next => exact one
theorem dx_lm_ok {m : dx_M} (g : dx_g E md n0 ν0 μ0 ν σ ls st μ) (hm : ∀ q ∈ m.1, q.1 < σ.iv.length) : dx_lm σ m ≤ dx_ev ν m.1 + m.2 := by
  unfold dx_lm
  have h1 := dx_lp_ok g 6 (m.1.filter (fun q => decide (q.2 ≠ 0))) (fun q hq => hm q (List.mem_filter.mp hq).1)
  rw [dx_ev_fil] at h1
  omega
theorem dx_idn_get {n t : Nat} (h : t < n) : (dx_idn n)[t]? = some (t, 0) := by
  unfold dx_idn
  rw [List.getElem?_map, List.getElem?_range h]
  rfl
theorem dx_idn_bw {n k : Nat} (h : n ≤ k) : dx_bw k (dx_idn n) := by
  intro t q hq
  have := (List.getElem?_eq_some_iff.mp hq).1
  unfold dx_idn at this
  rw [List.length_map, List.length_range] at this
  rw [dx_idn_get this] at hq
  cases hq
  show t < k
  omega
theorem dx_ev_ext {k : Nat} {ν' : Nat → Int} (he : ∀ s, s < k → ν' s = ν s) : ∀ l : List (Nat × Int), (∀ q ∈ l, q.1 < k) → dx_ev ν' l = dx_ev ν l
  | [], _ => rfl
  | (s, c) :: r, h => by
    show c * ν' s + _ = c * ν s + _
    rw [he s (h (s, c) List.mem_cons_self), dx_ev_ext he r (fun q hq => h q (List.mem_cons_of_mem _ hq))]
/-- under a state, by the bindings that leave the start's unknowns as they are -/
theorem dx_id_ok {tgt : dx_S} {b : List (Nat × Int)} (hn : 0 < n0) (g : dx_g E md n0 ν0 μ0 ν σ ls st μ) (h : dx_mat (dx_mm E σ tgt.fa) (dx_idn n0) tgt = some b) :
    ∃ ν1, dx_g E md n0 ν0 μ0 ν1 (dx_mm E σ tgt.fa) ls st μ ∧ dx_ext ν σ ν1 (dx_mm E σ tgt.fa) ∧ dx_bw (dx_mm E σ tgt.fa).iv.length b ∧ dx_g E md n0 ν0 μ0 (dx_bn ν1 b) tgt ls st μ := by
  obtain ⟨ν1, g1, x1⟩ := dx_mm_ok (fs := tgt.fa) g
  obtain ⟨h1, h2, h3, h4⟩ := dx_mat_ok g1 (dx_idn_bw g1.k0) (dx_idn_get hn) h
  refine ⟨ν1, g1, x1, h2, h4 md n0 ν0 μ0 g1.fr ?_ ?_⟩
  · have := h1.len
    have hl : (dx_idn n0).length = n0 := by unfold dx_idn; rw [List.length_map, List.length_range]
    omega
  · intro s hs
    rw [dx_bn_at (h1 _ _ (dx_idn_get hs)), g1.ag s hs]
    omega
theorem dx_edge_ok {X : dx_X} {M : Option dx_M} {nd : dx_S × dx_M} (hE : X.E = E) (hn : X.q.pre.iv.length = n0) (hn0 : 0 < n0) (g : dx_g E md n0 ν0 μ0 ν σ ls st μ) (h : dx_edge X M σ nd = true) (hm : ∀ m, M = some m → ∀ q ∈ m.1, q.1 < σ.iv.length) :
    ∃ ν', dx_g E md n0 ν0 μ0 ν' nd.1 ls st μ ∧ ∀ m, M = some m → dx_ev ν' nd.2.1 + nd.2.2 + 1 ≤ dx_ev ν m.1 + m.2 := by
  subst hE
  unfold dx_edge at h
  rw [Bool.and_eq_true] at h
  have h := h.2
  unfold dx_edge0 at h
  rw [hn] at h
  split at h
  next b hb =>
    obtain ⟨ν1, g1, x1, hw, g2⟩ := dx_id_ok hn0 g hb
    refine ⟨_, g2, fun m em => ?_⟩
    subst em
    split at h
    next e => cases e
    next m' e =>
      cases e
      split at h
      next d hd =>
        rw [decide_eq_true_eq] at h
        have hms := hm m rfl
        obtain ⟨q1, q2⟩ := dx_dm_ok (ν := ν1) hw nd.2.1 _ d hd (fun q hq => Nat.lt_of_lt_of_le (hms q hq) x1.2)
        have q3 := dx_lm_ok g1 q2
        have q4 := dx_ev_ext x1.1 m.1 hms
        have q1' : dx_ev ν1 d.1 + d.2 = dx_ev ν1 m.1 + (m.2 - nd.2.2) - dx_ev (dx_bn ν1 b) nd.2.1 := q1
        omega
      next => cases h
  next => cases h
end
end
