/-! ===== one state under another ===== -/
def dx_ev (ν : Nat → Int) : List (Nat × Int) → Int
  | [] => 0
  | (s, k) :: r => k * ν s + dx_ev ν r
def dx_bn (ν : Nat → Int) (b : List (Nat × Int)) : Nat → Int := fun t => match b[t]? with
  | some (s, o) => ν s + o
  | none => 0
def dx_u1 (cur : dx_S) (b : List (Nat × Int)) (t : Nat) (o' : Int) (s : Nat) (o : Int) : Option (List (Nat × Int)) := match b[t]? with
  | some (s1, o1) => if decide (dx_df cur s s1 + o - o1 - o' ≤ 0) && decide (dx_df cur s1 s + o1 + o' - o ≤ 0) then some b else none
  | none => if t = b.length then some (b ++ [(s, o - o')]) else none
def dx_sb (l l2 : List Nat) : Bool := l.all (fun a => dx_mem a l2)
def dx_mV (cur : dx_S) (b : List (Nat × Int)) : dx_V → dx_V → Option (List (Nat × Int))
  | (.inr (.inr (.inr true))), (.inr (.inr (.inr false))) => none
  | (.inr (.inr (.inr true))), _ => some b
  | (.inl (t, o')), (.inl (s, o)) => dx_u1 cur b t o' s o
  | (.inr (.inl l)), (.inr (.inl l2)) => if dx_sb l2 l then some b else none
  | (.inr (.inr (.inl l))), (.inr (.inl l2)) => if dx_sb l2 l then some b else none
  | (.inr (.inr (.inl l))), (.inr (.inr (.inl l2))) => if dx_sb l2 l then some b else none
  | (.inr (.inr (.inr false))), (.inr (.inr (.inr false))) => some b
  | _, _ => none
def dx_mL (cur : dx_S) : List (Nat × Int) → List dx_V → List dx_V → Option (List (Nat × Int))
  | b, [], [] => some b
  | b, t :: r, c :: q => match dx_mV cur b t c with
    | some b' => dx_mL cur b' r q
    | none => none
  | _, _, _ => none
def dx_mF (cur : dx_S) : List (Nat × Int) → List (Nat × Nat × Nat × Int) → Option (List (Nat × Int))
  | b, [] => some b
  | b, q :: r => match dx_ff cur.fa q.1 q.2.1 with
    | some (s, o) => (match dx_u1 cur b q.2.2.1 q.2.2.2 s o with
      | some b' => dx_mF cur b' r
      | none => none)
    | none => none
def dx_m1 (E : dx_Env) (cur : dx_S) (a j : Nat) : dx_S := match dx_ff cur.fa a j with
  | some _ => cur
  | none => (⟨dx_S.iv (dx_nw cur (dx_seg (E.ce a).iv j)), dx_S.dc (dx_nw cur (dx_seg (E.ce a).iv j)), dx_S.ls (dx_nw cur (dx_seg (E.ce a).iv j)), dx_S.st (dx_nw cur (dx_seg (E.ce a).iv j)), (a, j, cur.iv.length, 0) :: cur.fa, dx_S.fl (dx_nw cur (dx_seg (E.ce a).iv j))⟩ : dx_S)
def dx_mm (E : dx_Env) (cur : dx_S) : List (Nat × Nat × Nat × Int) → dx_S
  | [] => cur
  | q :: r => dx_mm E (dx_m1 E cur q.1 q.2.1) r
def dx_mI (cur : dx_S) : List (Nat × Int) → List (Int × Int) → Bool
  | [], [] => true
  | (s, o) :: b, p :: r => decide (p.1 ≤ dx_lb cur s + o) && decide (dx_ub cur s + o ≤ p.2) && dx_mI cur b r
  | _, _ => false
def dx_mD (cur : dx_S) (b : List (Nat × Int)) (d : List (Nat × Nat × Int)) : Bool := d.all (fun q => match b[q.1]?, b[q.2.1]? with
  | some (s1, o1), some (s2, o2) => decide (dx_df cur s1 s2 + o1 - o2 ≤ q.2.2)
  | _, _ => false)
def dx_g1 (cur : dx_S) (b : List (Nat × Int)) (f t : Nat) (o' : Int) : List (Nat × Nat × Int) → Option (List (Nat × Int))
  | [] => none
  | q :: r => if Nat.beq q.1 f then (match dx_u1 cur b t o' q.2.1 q.2.2 with
    | some b' => some b'
    | none => dx_g1 cur b f t o' r) else dx_g1 cur b f t o' r
def dx_mG (cur : dx_S) : List (Nat × Int) → List (Nat × Nat × Int) → Option (List (Nat × Int))
  | b, [] => some b
  | b, q :: r => match dx_g1 cur b q.1 q.2.1 q.2.2 cur.fl with
    | some b' => dx_mG cur b' r
    | none => none
def dx_mat (cur : dx_S) (b0 : List (Nat × Int)) (tgt : dx_S) : Option (List (Nat × Int)) := match dx_mL cur b0 tgt.ls cur.ls with
  | some b1 => (match dx_mL cur b1 tgt.st cur.st with
    | some b2 => (match dx_mF cur b2 tgt.fa with
      | some b3 => (match dx_mG cur b3 tgt.fl with
        | some b => if dx_mI cur b tgt.iv && dx_mD cur b tgt.dc then some b else none
        | none => none)
      | none => none)
    | none => none)
  | none => none
section
variable {E : dx_Env} {md : List Nat} {n0 : Nat} {ν0 : Nat → Int} {μ0 : dw_S} {ν : Nat → Int} {σ : dx_S} {ls st : dw_L} {μ : dw_S}
/-- the bindings so far speak of what is there -/
def dx_bw (k : Nat) (b : List (Nat × Int)) : Prop := ∀ (t : Nat) (q : Nat × Int), b[t]? = some q → q.1 < k
theorem dx_bn_at {b : List (Nat × Int)} {t s : Nat} {o : Int} (h : b[t]? = some (s, o)) : dx_bn ν b t = ν s + o := by
  unfold dx_bn
  rw [h]
/-- b' goes on where b ends -/
def dx_bx (b b' : List (Nat × Int)) : Prop := ∀ (t : Nat) (q : Nat × Int), b[t]? = some q → b'[t]? = some q
theorem dx_bx.len {b b' : List (Nat × Int)} (h : dx_bx b b') : b.length ≤ b'.length := by
  rcases Nat.lt_or_ge b'.length b.length with hl | hl
  · have := h b'.length _ (List.getElem?_eq_getElem hl)
    have := (List.getElem?_eq_some_iff.mp this).1
    omega
  · exact hl
theorem dx_u1_ok {b b' : List (Nat × Int)} {t s : Nat} {o o' : Int} (g : dx_g E md n0 ν0 μ0 ν σ ls st μ) (hb : dx_bw σ.iv.length b) (hs : s < σ.iv.length) (h : dx_u1 σ b t o' s o = some b') :
    dx_bx b b' ∧ dx_bw σ.iv.length b' ∧ t < b'.length ∧ dx_bn ν b' t + o' = ν s + o := by
  unfold dx_u1 at h
  split at h
  next s1 o1 ht =>
    split at h
    next e =>
      cases h
      rw [Bool.and_eq_true, decide_eq_true_eq, decide_eq_true_eq] at e
      have hs1 : s1 < σ.iv.length := hb _ _ ht
      have u := dx_df_ok g hs hs1
      have w := dx_df_ok g hs1 hs
      refine ⟨fun _ _ h => h, hb, (List.getElem?_eq_some_iff.mp ht).1, ?_⟩
      rw [dx_bn_at ht]
      omega
    next => cases h
  next ht =>
    split at h
    next e =>
      cases h
      subst e
      have hat : (b ++ [(s, o - o')])[b.length]? = some (s, o - o') := by simp
      refine ⟨fun t q hq => ?_, fun t q hq => ?_, by simp, ?_⟩
      · rw [List.getElem?_append_left (List.getElem?_eq_some_iff.mp hq).1]; exact hq
      · by_cases ht2 : t < b.length
        · rw [List.getElem?_append_left ht2] at hq
          exact hb _ _ hq
        · have h3 := (List.getElem?_eq_some_iff.mp hq).1
          simp only [List.length_append, List.length_cons, List.length_nil] at h3
          have : t = b.length := by omega
          subst this
          rw [hat] at hq
          cases hq
          exact hs
      · rw [dx_bn_at hat]; omega
    next => cases h
/-- what is said of a value is said over the bindings too -/
theorem dx_gV.bn {b b' : List (Nat × Int)} {k : Nat} {v : dx_V} {x : Option Value} (hx : dx_bx b b') (h : dx_gV b.length (dx_bn ν b) v x) (hk : k = b'.length) : dx_gV k (dx_bn ν b') v x := by
  subst hk
  refine dx_gV.ext hx.len (fun s hs => ?_) h
  obtain ⟨q, hq⟩ : ∃ q, b[s]? = some q := ⟨_, List.getElem?_eq_getElem hs⟩
  rw [dx_bn_at (s := q.1) (o := q.2) hq, dx_bn_at (s := q.1) (o := q.2) (hx _ _ hq)]
theorem dx_bn_eq {b b' : List (Nat × Int)} {s : Nat} (hx : dx_bx b b') (hs : s < b.length) : dx_bn ν b' s = dx_bn ν b s := by
  obtain ⟨q, hq⟩ : ∃ q, b[s]? = some q := ⟨_, List.getElem?_eq_getElem hs⟩
  rw [dx_bn_at (s := q.1) (o := q.2) hq, dx_bn_at (s := q.1) (o := q.2) (hx _ _ hq)]
theorem dx_bx.trans {b b' b'' : List (Nat × Int)} (h : dx_bx b b') (h2 : dx_bx b' b'') : dx_bx b b'' := fun t q hq => h2 t q (h t q hq)
theorem dx_sb_ok {l l2 : List Nat} {a : Nat} (h : dx_sb l l2 = true) (ha : a ∈ l) : a ∈ l2 := dx_mem_iff.mp (List.all_eq_true.mp h a ha)
theorem dx_mV_ok {b b' : List (Nat × Int)} {t c : dx_V} {x : Option Value} (g : dx_g E md n0 ν0 μ0 ν σ ls st μ) (hb : dx_bw σ.iv.length b) (h : dx_mV σ b t c = some b') (hx : dx_gV σ.iv.length ν c x) :
    dx_bx b b' ∧ dx_bw σ.iv.length b' ∧ dx_gV b'.length (dx_bn ν b') t x := by
  unfold dx_mV at h
  split at h
  · cases h
  · cases h
    refine ⟨fun _ _ h => h, hb, ?_⟩
    intro v hv
    subst hv
    rcases c with ⟨s, o⟩ | l | l | _ | _
    · obtain ⟨_, w, hw, _⟩ := hx; cases hw; rfl
    · obtain ⟨a, _, hw⟩ := hx; cases hw; rfl
    · skip
      rcases hx with hw | ⟨a, _, hw⟩
      · cases hw; rfl
      · cases hw; rfl
    · exact absurd rfl (by assumption)
    · exact hx v rfl
  · obtain ⟨h1, w, h2, h3⟩ := hx
    obtain ⟨q1, q2, q3, q4⟩ := dx_u1_ok g hb h1 h
    exact ⟨q1, q2, q3, w, h2, by omega⟩
  · split at h
    next e =>
      cases h
      obtain ⟨a, h1, h2⟩ := hx
      exact ⟨fun _ _ h => h, hb, a, dx_sb_ok e h1, h2⟩
    next => cases h
  · split at h
    next e =>
      cases h
      obtain ⟨a, h1, h2⟩ := hx
      exact ⟨fun _ _ h => h, hb, Or.inr ⟨a, dx_sb_ok e h1, h2⟩⟩
    next => cases h
  · split at h
    next e =>
      cases h
      rcases hx with h2 | ⟨a, h1, h2⟩
      · exact ⟨fun _ _ h => h, hb, Or.inl h2⟩
      · exact ⟨fun _ _ h => h, hb, Or.inr ⟨a, dx_sb_ok e h1, h2⟩⟩
    next => cases h
  · cases h; exact ⟨fun _ _ h => h, hb, hx⟩
  · cases h
theorem dx_mL_ok (g : dx_g E md n0 ν0 μ0 ν σ ls st μ) : ∀ {ts cs : List dx_V} {xs : dw_L} {b b' : List (Nat × Int)}, dx_bw σ.iv.length b → dx_mL σ b ts cs = some b' → dx_gL σ.iv.length ν cs xs → dx_bx b b' ∧ dx_bw σ.iv.length b' ∧ dx_gL b'.length (dx_bn ν b') ts xs
  | [], [], [], b, b', hb, h, _ => by
    unfold dx_mL at h
    cases h
    exact ⟨fun _ _ h => h, hb, trivial⟩
  | t :: r, c :: q, x :: xs, b, b', hb, h, hx => by
    unfold dx_mL at h
    split at h
    next b1 h1 =>
      obtain ⟨q1, q2, q3⟩ := dx_mV_ok g hb h1 hx.1
      obtain ⟨p1, p2, p3⟩ := dx_mL_ok g q2 h hx.2
      exact ⟨q1.trans p1, p2, dx_gV.bn p1 q3 rfl, p3⟩
    next => cases h
  | [], _ :: _, _, _, _, _, h, _ => by unfold dx_mL at h; cases h
  | _ :: _, [], _, _, _, _, h, _ => by unfold dx_mL at h; cases h
  | [], [], _ :: _, _, _, _, _, h => h.elim
  | _ :: _, _ :: _, [], _, _, _, _, h => h.elim
theorem dx_gL.bn {b b' : List (Nat × Int)} {vs : List dx_V} {xs : dw_L} (hx : dx_bx b b') (h : dx_gL b.length (dx_bn ν b) vs xs) : dx_gL b'.length (dx_bn ν b') vs xs :=
  dx_gL.ext hx.len (fun _ hs => dx_bn_eq hx hs) h
theorem dx_mF_ok (g : dx_g E md n0 ν0 μ0 ν σ ls st μ) : ∀ {fs : List (Nat × Nat × Nat × Int)} {b b' : List (Nat × Int)}, dx_bw σ.iv.length b → dx_mF σ b fs = some b' → dx_bx b b' ∧ dx_bw σ.iv.length b' ∧ ∀ q ∈ fs, q.2.2.1 < b'.length ∧ (μ.2.2.1 q.1 q.2.1).toInt = dx_bn ν b' q.2.2.1 + q.2.2.2
  | [], b, b', hb, h => by
    unfold dx_mF at h
    cases h
    exact ⟨fun _ _ h => h, hb, fun q hq => absurd hq (List.not_mem_nil)⟩
  | q :: r, b, b', hb, h => by
    unfold dx_mF at h
    split at h
    next s o hf =>
      split at h
      next b1 h1 =>
        have hm := g.fa _ (dx_ff_ok hf)
        obtain ⟨q1, q2, q3, q4⟩ := dx_u1_ok g hb hm.1 h1
        obtain ⟨p1, p2, p3⟩ := dx_mF_ok g q2 h
        refine ⟨q1.trans p1, p2, fun q' hq' => ?_⟩
        rcases List.mem_cons.mp hq' with rfl | hq'
        · refine ⟨by have := p1.len; omega, ?_⟩
          rw [dx_bn_eq p1 q3, q4]
          exact hm.2
        · exact p3 q' hq'
      next => cases h
    next => cases h
theorem dx_g1_ok {f t : Nat} {o' : Int} (g : dx_g E md n0 ν0 μ0 ν σ ls st μ) {b b' : List (Nat × Int)} (hb : dx_bw σ.iv.length b) : ∀ fl : List (Nat × Nat × Int), (∀ q ∈ fl, q.2.1 < σ.iv.length ∧ E.FP q.1 (ν q.2.1 + q.2.2) μ.2.2.1) → dx_g1 σ b f t o' fl = some b' →
    dx_bx b b' ∧ dx_bw σ.iv.length b' ∧ t < b'.length ∧ E.FP f (dx_bn ν b' t + o') μ.2.2.1
  | [], _, h => by unfold dx_g1 at h; cases h
  | q :: r, hf, h => by
    unfold dx_g1 at h
    have hr := fun q hq => hf q (List.mem_cons_of_mem _ hq)
    split at h
    next e =>
      split at h
      next b1 h1 =>
        cases h
        have hq := hf q List.mem_cons_self
        obtain ⟨q1, q2, q3, q4⟩ := dx_u1_ok g hb hq.1 h1
        refine ⟨q1, q2, q3, ?_⟩
        rw [q4, ← Nat.eq_of_beq_eq_true e]
        exact hq.2
      next => exact dx_g1_ok g hb r hr h
    next => exact dx_g1_ok g hb r hr h
theorem dx_mG_ok (g : dx_g E md n0 ν0 μ0 ν σ ls st μ) : ∀ {fs : List (Nat × Nat × Int)} {b b' : List (Nat × Int)}, dx_bw σ.iv.length b → dx_mG σ b fs = some b' → dx_bx b b' ∧ dx_bw σ.iv.length b' ∧ ∀ q ∈ fs, q.2.1 < b'.length ∧ E.FP q.1 (dx_bn ν b' q.2.1 + q.2.2) μ.2.2.1
  | [], b, b', hb, h => by
    unfold dx_mG at h
    cases h
    exact ⟨fun _ _ h => h, hb, fun q hq => absurd hq (List.not_mem_nil)⟩
  | q :: r, b, b', hb, h => by
    unfold dx_mG at h
    split at h
    next b1 h1 =>
      obtain ⟨q1, q2, q3, q4⟩ := dx_g1_ok g hb σ.fl g.fl h1
      obtain ⟨p1, p2, p3⟩ := dx_mG_ok g q2 h
      refine ⟨q1.trans p1, p2, fun q' hq' => ?_⟩
      rcases List.mem_cons.mp hq' with rfl | hq'
      · refine ⟨by have := p1.len; omega, ?_⟩
        rw [dx_bn_eq p1 q3]
        exact q4
      · exact p3 q' hq'
    next => cases h
theorem dx_m1_ok {a j : Nat} (g : dx_g E md n0 ν0 μ0 ν σ ls st μ) : ∃ ν', dx_g E md n0 ν0 μ0 ν' (dx_m1 E σ a j) ls st μ ∧ dx_ext ν σ ν' (dx_m1 E σ a j) := by
  unfold dx_m1
  split
  next => exact ⟨ν, g, dx_ext.rfl rfl⟩
  next =>
    have hx : ∀ s, s < σ.iv.length → dx_nu ν σ.iv.length (μ.2.2.1 a j).toInt s = ν s := fun s hs => dx_nu_lt hs
    refine ⟨dx_nu ν σ.iv.length (μ.2.2.1 a j).toInt, (g.nw (g.hi a j)).fas ?_, ⟨hx, ?_⟩⟩
    · intro q hq
      rw [dx_nw_len]
      rcases List.mem_cons.mp hq with rfl | hq
      · refine ⟨by show σ.iv.length < _; omega, ?_⟩
        show (μ.2.2.1 a j).toInt = dx_nu ν σ.iv.length (μ.2.2.1 a j).toInt σ.iv.length + 0
        rw [dx_nu_at]; omega
      · have := g.fa q hq
        rw [hx _ this.1]
        exact ⟨by omega, this.2⟩
    · show _ ≤ (dx_nw σ _).iv.length
      rw [dx_nw_len]; omega
theorem dx_mm_ok : ∀ {fs : List (Nat × Nat × Nat × Int)} {σ : dx_S} {ν : Nat → Int}, dx_g E md n0 ν0 μ0 ν σ ls st μ → ∃ ν', dx_g E md n0 ν0 μ0 ν' (dx_mm E σ fs) ls st μ ∧ dx_ext ν σ ν' (dx_mm E σ fs)
  | [], σ, ν, g => ⟨ν, g, dx_ext.rfl rfl⟩
  | q :: r, σ, ν, g => by
    obtain ⟨ν1, g1, x1⟩ := dx_m1_ok (a := q.1) (j := q.2.1) g
    obtain ⟨ν2, g2, x2⟩ := dx_mm_ok (fs := r) g1
    exact ⟨ν2, g2, x1.trans x2⟩
theorem dx_mI_ok (g : dx_g E md n0 ν0 μ0 ν σ ls st μ) : ∀ {b : List (Nat × Int)} {iv : List (Int × Int)}, dx_bw σ.iv.length b → dx_mI σ b iv = true → b.length = iv.length ∧ ∀ t, t < iv.length → dx_in (dx_gi iv t) (dx_bn ν b t)
  | [], [], _, _ => ⟨rfl, fun t ht => absurd ht (Nat.not_lt_zero t)⟩
  | (s, o) :: b, p :: r, hb, h => by
    unfold dx_mI at h
    rw [Bool.and_eq_true, Bool.and_eq_true, decide_eq_true_eq, decide_eq_true_eq] at h
    have hs : s < σ.iv.length := hb 0 _ rfl
    obtain ⟨h1, h2⟩ := dx_mI_ok g (b := b) (iv := r) (fun t q hq => hb (t + 1) q hq) h.2
    refine ⟨by simp only [List.length_cons, h1], fun t ht => ?_⟩
    have u := dx_ub_ok g hs
    have l := dx_lb_ok g hs
    cases t with
    | zero =>
      show dx_in p (ν s + o)
      exact ⟨by omega, by omega⟩
    | succ t => exact h2 t (by simp only [List.length_cons] at ht; omega)
  | [], _ :: _, _, h => by unfold dx_mI at h; cases h
  | _ :: _, [], _, h => by unfold dx_mI at h; cases h
theorem dx_mat_ok {b0 b : List (Nat × Int)} {tgt : dx_S} (g : dx_g E md n0 ν0 μ0 ν σ ls st μ) (hb : dx_bw σ.iv.length b0) (h0 : b0[0]? = some (0, 0)) (h : dx_mat σ b0 tgt = some b) :
    dx_bx b0 b ∧ dx_bw σ.iv.length b ∧ b.length = tgt.iv.length ∧ ∀ (md' : List Nat) (n0' : Nat) (ν0' : Nat → Int) (μ0' : dw_S), (∀ a, a ∉ md' → μ.2.2.1 a = μ0'.2.2.1 a ∧ μ.2.2.2 a = μ0'.2.2.2 a) → n0' ≤ b.length → (∀ s, s < n0' → dx_bn ν b s = ν0' s) → dx_g E md' n0' ν0' μ0' (dx_bn ν b) tgt ls st μ := by
  unfold dx_mat at h
  split at h
  next b1 h1 =>
    split at h
    next b2 h2 =>
      split at h
      next b3 h3 =>
        split at h
        next b4 h4 =>
          split at h
          next e =>
            cases h
            rw [Bool.and_eq_true] at e
            obtain ⟨p1, p2, p3⟩ := dx_mL_ok g hb h1 g.gl
            obtain ⟨q1, q2, q3⟩ := dx_mL_ok g p2 h2 g.gs
            obtain ⟨r1, r2, r3⟩ := dx_mF_ok g q2 h3
            obtain ⟨u1, u2, u3⟩ := dx_mG_ok g r2 h4
            obtain ⟨i1, i2⟩ := dx_mI_ok g u2 e.1
            have x0 := ((p1.trans q1).trans r1).trans u1
            have hl0 : 0 < b.length := (List.getElem?_eq_some_iff.mp (x0 _ _ h0)).1
            refine ⟨x0, u2, i1, fun md' n0' ν0' μ0' hf hn ha => ?_⟩
            refine ⟨g.sh, g.hi, hf, ?_, by rw [← i1]; exact hn, by rw [← i1]; exact hl0, ha, i2, ?_, ?_, ?_, ?_, ?_⟩
            · rw [dx_bn_at (x0 _ _ h0), g.z]; rfl
            · intro q hq
              have hd := List.all_eq_true.mp e.2 q hq
              split at hd
              next s1 o1 s2 o2 t1 t2 =>
                rw [decide_eq_true_eq] at hd
                have u := dx_df_ok g (u2 _ _ t1) (u2 _ _ t2)
                rw [dx_bn_at t1, dx_bn_at t2, ← i1]
                refine ⟨(List.getElem?_eq_some_iff.mp t1).1, (List.getElem?_eq_some_iff.mp t2).1, ?_⟩
                have u2 : ν s1 - ν s2 ≤ dx_df σ s1 s2 := u
                omega
              next => cases hd
            · rw [← i1]; exact dx_gL.bn ((q1.trans r1).trans u1) p3
            · rw [← i1]; exact dx_gL.bn (r1.trans u1) q3
            · rw [← i1]
              intro q hq
              have h5 := r3 q hq
              rw [dx_bn_eq u1 h5.1]
              exact ⟨by have := u1.len; omega, h5.2⟩
            · rw [← i1]; exact u3
          next => cases h
        next => cases h
      next => cases h
    next => cases h
  next => cases h
end
