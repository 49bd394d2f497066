section
variable {E : dx_Env} {md : List Nat} {n0 : Nat} {ν0 : Nat → Int} {μ0 : dw_S} {ν : Nat → Int} {σ : dx_S} {ls : dw_L} {st : dw_L} {μ : dw_S}
theorem dx_am_ok {s : Nat} {k : Int} : ∀ l : List (Nat × Int), dx_ev ν (dx_am s k l) = dx_ev ν l + k * ν s
  | [] => by simp [dx_am, dx_ev]
  | q :: r => by
    unfold dx_am
    split
    next e =>
      have := Nat.eq_of_beq_eq_true e
      show (q.2 + k) * ν s + dx_ev ν r = q.2 * ν q.1 + dx_ev ν r + k * ν s
      rw [this, Int.add_mul]; omega
    next =>
      show q.2 * ν q.1 + dx_ev ν (dx_am s k r) = q.2 * ν q.1 + dx_ev ν r + k * ν s
      rw [dx_am_ok r]; omega
theorem dx_am_mem {s n : Nat} {k : Int} (hs : s < n) : ∀ l : List (Nat × Int), (∀ q ∈ l, q.1 < n) → ∀ q ∈ dx_am s k l, q.1 < n
  | [], _, q, hq => by
    unfold dx_am at hq
    rw [List.mem_singleton] at hq
    rw [hq]; exact hs
  | q :: r, h, q', hq => by
    unfold dx_am at hq
    split at hq
    next e =>
      rcases List.mem_cons.mp hq with rfl | hq
      · exact hs
      · exact h _ (List.mem_cons_of_mem _ hq)
    next =>
      rcases List.mem_cons.mp hq with rfl | hq
      · exact h _ List.mem_cons_self
      · exact dx_am_mem hs r (fun q hq => h q (List.mem_cons_of_mem _ hq)) _ hq
theorem dx_lw_ok (g : dx_g E md n0 ν0 μ0 ν σ ls st μ) : ∀ l : List (Nat × Int), (∀ q ∈ l, q.1 < σ.iv.length) → dx_lw σ l ≤ dx_ev ν l
  | [], _ => Int.le_refl _
  | (s, k) :: r, h => by
    have h1 := dx_lw_ok g r (fun q hq => h q (List.mem_cons_of_mem _ hq))
    have h2 := g.iv s (h (s, k) List.mem_cons_self)
    show (if 0 ≤ k then k * (dx_gi σ.iv s).1 else k * (dx_gi σ.iv s).2) + dx_lw σ r ≤ k * ν s + dx_ev ν r
    split
    next e =>
      have := Int.mul_le_mul_of_nonneg_left h2.1 e
      omega
    next e =>
      have := Int.mul_le_mul_of_nonpos_left (a := k) (by omega) h2.2
      omega
theorem dx_dm_ok {n : Nat} {b : List (Nat × Int)} (hb : dx_bw n b) : ∀ (l : List (Nat × Int)) (m d : dx_M), dx_dm b l m = some d → (∀ q ∈ m.1, q.1 < n) → dx_ev ν d.1 + d.2 = dx_ev ν m.1 + m.2 - dx_ev (dx_bn ν b) l ∧ ∀ q ∈ d.1, q.1 < n
  | [], m, d, h, hm => by
    unfold dx_dm at h
    cases h
    exact ⟨by show _ = _ - 0; omega, hm⟩
  | (t, k) :: r, m, d, h, hm => by
    unfold dx_dm at h
    split at h
    next s o ht =>
      have hs : s < n := hb _ _ ht
      obtain ⟨h1, h2⟩ := dx_dm_ok hb r _ d h (dx_am_mem hs _ hm)
      refine ⟨?_, h2⟩
      rw [h1, dx_am_ok]
      show _ = _ - (k * dx_bn ν b t + dx_ev (dx_bn ν b) r)
      rw [dx_bn_at ht, Int.mul_add, Int.neg_mul]
      show _ + (m.2 - k * o) - _ = _
      omega
    next => cases h
theorem dx_ev_fil : ∀ l : List (Nat × Int), dx_ev ν (l.filter (fun q => decide (q.2 ≠ 0))) = dx_ev ν l
  | [] => rfl
  | (s, k) :: r => by
    by_cases e : k ≠ 0
    · rw [List.filter_cons_of_pos (by simpa using e)]
      show k * ν s + _ = k * ν s + _
      rw [dx_ev_fil r]
    · rw [List.filter_cons_of_neg (by simpa using e), dx_ev_fil r]
      have : k = 0 := by omega
      show _ = k * ν s + _
      rw [this]; omega
theorem dx_op_ok {k : Int} : ∀ {l : List (Nat × Int)} {s : Nat} {r : List (Nat × Int)}, dx_op k l = some (s, r) → dx_ev ν l = -k * ν s + dx_ev ν r ∧ (s, -k) ∈ l ∧ ∀ q ∈ r, q ∈ l
  | [], _, _, h => by unfold dx_op at h; cases h
  | (t, c) :: q, s, r, h => by
    unfold dx_op at h
    split at h
    next e =>
      cases h
      have e' : c = -k := e
      subst e'
      exact ⟨rfl, List.mem_cons_self, fun q hq => List.mem_cons_of_mem _ hq⟩
    next =>
      split at h
      next s' r' h1 =>
        cases h
        obtain ⟨a1, a2, a3⟩ := dx_op_ok h1
        refine ⟨?_, List.mem_cons_of_mem _ a2, fun z hz => ?_⟩
        · show c * ν t + dx_ev ν q = -k * ν s + (c * ν t + dx_ev ν r')
          rw [a1]; omega
        · rcases List.mem_cons.mp hz with rfl | hz
          · exact List.mem_cons_self
          · exact List.mem_cons_of_mem _ (a3 z hz)
      next => cases h
theorem dx_lp_ok (g : dx_g E md n0 ν0 μ0 ν σ ls st μ) : ∀ (n : Nat) (l : List (Nat × Int)), (∀ q ∈ l, q.1 < σ.iv.length) → dx_lp σ n l ≤ dx_ev ν l
  | 0, l, h => by unfold dx_lp; exact dx_lw_ok g l h
  | n + 1, [], h => Int.le_refl _
  | n + 1, (s, k) :: r, h => by
    have hs : s < σ.iv.length := h (s, k) List.mem_cons_self
    have hr : ∀ q ∈ r, q.1 < σ.iv.length := fun q hq => h q (List.mem_cons_of_mem _ hq)
    have h1 := dx_lp_ok g n r hr
    have h2 := g.iv s hs
    have one : (if 0 ≤ k then k * (dx_gi σ.iv s).1 else k * (dx_gi σ.iv s).2) + dx_lp σ n r ≤ k * ν s + dx_ev ν r := by
      split
      next e =>
        have := Int.mul_le_mul_of_nonneg_left h2.1 e
        omega
      next e =>
        have := Int.mul_le_mul_of_nonpos_left (a := k) (by omega) h2.2
        omega
    unfold dx_lp
    split
    next s2 r' ho =>
      obtain ⟨a1, a2, a3⟩ := dx_op_ok (ν := ν) ho
      have hs2 : s2 < σ.iv.length := hr _ a2
      have h3 := dx_lp_ok g n r' (fun q hq => hr q (a3 q hq))
      have u := dx_df_ok g hs2 hs
      have w := dx_df_ok g hs hs2
      have two : (if 0 ≤ k then k * -(dx_df σ s2 s) else -k * -(dx_df σ s s2)) + dx_lp σ n r' ≤ k * ν s + dx_ev ν r := by
        rw [a1]
        split
        next e =>
          have h4 := Int.mul_le_mul_of_nonneg_left (show -(dx_df σ s2 s) ≤ ν s - ν s2 by omega) e
          rw [Int.mul_sub] at h4
          rw [Int.neg_mul]
          omega
        next e =>
          have h4 := Int.mul_le_mul_of_nonneg_left (show -(dx_df σ s s2) ≤ ν s2 - ν s by omega) (show 0 ≤ -k by omega)
          rw [Int.mul_sub, Int.neg_mul, Int.neg_mul, Int.neg_mul] at h4
          rw [Int.neg_mul, Int.neg_mul]
          omega
      show max _ _ ≤ k * ν s + dx_ev ν r
      omega
    next => exact one
theorem dx_lm_ok {m : dx_M} (g : dx_g E md n0 ν0 μ0 ν σ ls st μ) (hm : ∀ q ∈ m.1, q.1 < σ.iv.length) : dx_lm σ m ≤ dx_ev ν m.1 + m.2 := by
  unfold dx_lm
  have h1 := dx_lp_ok g 6 (m.1.filter (fun q => decide (q.2 ≠ 0))) (fun q hq => hm q (List.mem_filter.mp hq).1)
  rw [dx_ev_fil] at h1
  omega
theorem dx_idn_get {n t : Nat} (h : t < n) : (dx_idn n)[t]? = some (t, 0) := by
  unfold dx_idn
  rw [List.getElem?_map, List.getElem?_range h]
  rfl
theorem dx_idn_bw {n k : Nat} (h : n ≤ k) : dx_bw k (dx_idn n) := by
  intro t q hq
  have := (List.getElem?_eq_some_iff.mp hq).1
  unfold dx_idn at this
  rw [List.length_map, List.length_range] at this
  rw [dx_idn_get this] at hq
  cases hq
  show t < k
  omega
theorem dx_ev_ext {k : Nat} {ν' : Nat → Int} (he : ∀ s, s < k → ν' s = ν s) : ∀ l : List (Nat × Int), (∀ q ∈ l, q.1 < k) → dx_ev ν' l = dx_ev ν l
  | [], _ => rfl
  | (s, c) :: r, h => by
    show c * ν' s + _ = c * ν s + _
    rw [he s (h (s, c) List.mem_cons_self), dx_ev_ext he r (fun q hq => h q (List.mem_cons_of_mem _ hq))]
/-- under a state, by the bindings that leave the start's unknowns as they are -/
theorem dx_id_ok {tgt : dx_S} {b : List (Nat × Int)} (hn : 0 < n0) (g : dx_g E md n0 ν0 μ0 ν σ ls st μ) (h : dx_mat (dx_mm E σ tgt.fa) (dx_idn n0) tgt = some b) :
    ∃ ν1, dx_g E md n0 ν0 μ0 ν1 (dx_mm E σ tgt.fa) ls st μ ∧ dx_ext ν σ ν1 (dx_mm E σ tgt.fa) ∧ dx_bw (dx_mm E σ tgt.fa).iv.length b ∧ dx_g E md n0 ν0 μ0 (dx_bn ν1 b) tgt ls st μ := by
  obtain ⟨ν1, g1, x1⟩ := dx_mm_ok (fs := tgt.fa) g
  obtain ⟨h1, h2, h3, h4⟩ := dx_mat_ok g1 (dx_idn_bw g1.k0) (dx_idn_get hn) h
  refine ⟨ν1, g1, x1, h2, h4 md n0 ν0 μ0 g1.fr ?_ ?_⟩
  · have := h1.len
    have hl : (dx_idn n0).length = n0 := by unfold dx_idn; rw [List.length_map, List.length_range]
    omega
  · intro s hs
    rw [dx_bn_at (h1 _ _ (dx_idn_get hs)), g1.ag s hs]
    omega
theorem dx_edge_ok {X : dx_X} {M : Option dx_M} {nd : dx_S × dx_M} (hE : X.E = E) (hn : X.q.pre.iv.length = n0) (hn0 : 0 < n0) (g : dx_g E md n0 ν0 μ0 ν σ ls st μ) (h : dx_edge X M σ nd = true) (hm : ∀ m, M = some m → ∀ q ∈ m.1, q.1 < σ.iv.length) :
    ∃ ν', dx_g E md n0 ν0 μ0 ν' nd.1 ls st μ ∧ ∀ m, M = some m → dx_ev ν' nd.2.1 + nd.2.2 + 1 ≤ dx_ev ν m.1 + m.2 := by
  subst hE
  unfold dx_edge at h
  rw [Bool.and_eq_true] at h
  have h := h.2
  unfold dx_edge0 at h
  rw [hn] at h
  split at h
  next b hb =>
    obtain ⟨ν1, g1, x1, hw, g2⟩ := dx_id_ok hn0 g hb
    refine ⟨_, g2, fun m em => ?_⟩
    subst em
    split at h
    next e => cases e
    next m' e =>
      cases e
      split at h
      next d hd =>
        rw [decide_eq_true_eq] at h
        have hms := hm m rfl
        obtain ⟨q1, q2⟩ := dx_dm_ok (ν := ν1) hw nd.2.1 _ d hd (fun q hq => Nat.lt_of_lt_of_le (hms q hq) x1.2)
        have q3 := dx_lm_ok g1 q2
        have q4 := dx_ev_ext x1.1 m.1 hms
        have q1' : dx_ev ν1 d.1 + d.2 = dx_ev ν1 m.1 + (m.2 - nd.2.2) - dx_ev (dx_bn ν1 b) nd.2.1 := q1
        omega
      next => cases h
  next => cases h
end
