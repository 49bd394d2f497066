/-! ===== the end of a piece by hand ===== -/
def dx_aL {α : Type} (P : α → Prop) : List α → Prop
  | [] => True
  | x :: r => P x ∧ dx_aL P r
theorem dx_aL.all {α : Type} {P : α → Prop} : ∀ {l : List α}, dx_aL P l → ∀ q ∈ l, P q
  | [], _, _, h => absurd h (List.not_mem_nil)
  | x :: r, h, q, hq => by
    rcases List.mem_cons.mp hq with rfl | hq
    · exact h.1
    · exact dx_aL.all h.2 q hq
def dx_iL (ν : Nat → Int) : Nat → List (Int × Int) → Prop
  | _, [] => True
  | k, p :: r => (p.1 ≤ ν k ∧ ν k ≤ p.2) ∧ dx_iL ν (k + 1) r
theorem dx_iL.all {ν : Nat → Int} : ∀ {l : List (Int × Int)} {k : Nat}, dx_iL ν k l → ∀ s, s < l.length → dx_in (dx_gi l s) (ν (k + s))
  | [], _, _, s, hs => absurd hs (Nat.not_lt_zero s)
  | p :: r, k, h, 0, _ => h.1
  | p :: r, k, h, s + 1, hs => by
    have := dx_iL.all h.2 s (by simpa using hs)
    rw [show k + 1 + s = k + (s + 1) by omega] at this
    exact this
theorem post_mk {E : dx_Env} {md : List Nat} {n : Nat} {ν ν' : Nat → Int} {μ μ' : dw_S} {pre P : dx_S} {vs : dw_L} {r : List Value} (g : dx_g E md n ν μ ν pre vs [] μ) (hsh : μ'.2.1 = μ.2.1) (hhi : ∀ a j, dx_in (dx_seg (E.ce a).iv j) (μ'.2.2.1 a j).toInt)
    (hfr : ∀ a, a ∉ md → μ'.2.2.1 a = μ.2.2.1 a ∧ μ'.2.2.2 a = μ.2.2.2 a) (hk0 : n ≤ P.iv.length) (hk1 : 0 < n) (hag : ∀ s, s < n → ν' s = ν s) (hiv : dx_iL ν' 0 P.iv) (hdc : dx_aL (fun q => q.1 < P.iv.length ∧ q.2.1 < P.iv.length ∧ ν' q.1 - ν' q.2.1 ≤ q.2.2) P.dc)
    (hgl : dx_gL P.iv.length ν' P.ls (r.map some)) (hst : P.st = []) (hfa : dx_aL (fun q => q.2.2.1 < P.iv.length ∧ (μ'.2.2.1 q.1 q.2.1).toInt = ν' q.2.2.1 + q.2.2.2) P.fa) (hfl : dx_aL (fun q => q.2.1 < P.iv.length ∧ E.FP q.1 (ν' q.2.1 + q.2.2) μ'.2.2.1) P.fl) : dx_g E md n ν μ ν' P (r.map some) [] μ' := by
  refine ⟨by rw [hsh]; exact g.sh, hhi, hfr, by rw [hag 0 hk1]; exact g.z, hk0, by omega, hag, fun s hs => ?_, hdc.all, hgl, by rw [hst]; trivial, hfa.all, hfl.all⟩
  have := hiv.all s hs
  rw [Nat.zero_add] at this
  exact this
theorem nu1 (ν : Nat → Int) (n : Nat) (x : Int) : ∃ ν' : Nat → Int, (∀ s, s < n → ν' s = ν s) ∧ ν' n = x := ⟨dx_nu ν n x, fun _ h => dx_nu_lt h, dx_nu_at⟩
theorem nu2 (ν : Nat → Int) (n m : Nat) (hm : m = n + 1) (x y : Int) : ∃ ν' : Nat → Int, (∀ s, s < n → ν' s = ν s) ∧ ν' n = x ∧ ν' m = y := by
  subst hm
  refine ⟨dx_nu (dx_nu ν n x) (n + 1) y, fun s h => ?_, ?_, dx_nu_at⟩
  · rw [dx_nu_lt (by omega), dx_nu_lt h]
  · rw [dx_nu_lt (by omega), dx_nu_at]
theorem vs1 {f : Nat → Option (Option Value)} {a : Nat} {vs : dw_L} (h : [a].map f = vs.map some) : ∃ v0, vs = [v0] ∧ f a = some v0 := by
  match vs, h with
  | [v0], h => simp only [List.map_cons, List.map_nil, List.cons.injEq, and_true] at h; exact ⟨v0, rfl, h⟩
  | [], h => simp at h
  | _ :: _ :: _, h => simp at h
theorem vs2 {f : Nat → Option (Option Value)} {a b : Nat} {vs : dw_L} (h : [a, b].map f = vs.map some) : ∃ v0 v1, vs = [v0, v1] ∧ f a = some v0 ∧ f b = some v1 := by
  match vs, h with
  | [v0, v1], h => simp only [List.map_cons, List.map_nil, List.cons.injEq, and_true] at h; exact ⟨v0, v1, rfl, h.1, h.2⟩
  | [], h => simp at h
  | [_], h => simp at h
  | _ :: _ :: _ :: _, h => simp at h
theorem vs3 {f : Nat → Option (Option Value)} {a b c : Nat} {vs : dw_L} (h : [a, b, c].map f = vs.map some) : ∃ v0 v1 v2, vs = [v0, v1, v2] ∧ f a = some v0 ∧ f b = some v1 ∧ f c = some v2 := by
  match vs, h with
  | [v0, v1, v2], h => simp only [List.map_cons, List.map_nil, List.cons.injEq, and_true] at h; exact ⟨v0, v1, v2, rfl, h.1, h.2.1, h.2.2⟩
  | [], h => simp at h
  | [_], h => simp at h
  | [_, _], h => simp at h
  | _ :: _ :: _ :: _ :: _, h => simp at h
theorem vs4 {f : Nat → Option (Option Value)} {a b c d : Nat} {vs : dw_L} (h : [a, b, c, d].map f = vs.map some) : ∃ v0 v1 v2 v3, vs = [v0, v1, v2, v3] ∧ f a = some v0 ∧ f b = some v1 ∧ f c = some v2 ∧ f d = some v3 := by
  match vs, h with
  | [v0, v1, v2, v3], h => simp only [List.map_cons, List.map_nil, List.cons.injEq, and_true] at h; exact ⟨v0, v1, v2, v3, rfl, h.1, h.2.1, h.2.2.1, h.2.2.2⟩
  | [], h => simp at h
  | [_], h => simp at h
  | [_, _], h => simp at h
  | [_, _, _], h => simp at h
  | _ :: _ :: _ :: _ :: _ :: _, h => simp at h
theorem vs0 {f : Nat → Option (Option Value)} {vs : dw_L} (h : ([] : List Nat).map f = vs.map some) : vs = [] := by
  match vs, h with
  | [], _ => rfl
  | _ :: _, h => simp at h
theorem ar0 {as : List Value} (h : as.length = 0) : as = [] := List.eq_nil_of_length_eq_zero h
theorem ar2 {as : List Value} (h : as.length = 2) : ∃ x y, as = [x, y] := by
  match as, h with
  | [x, y], _ => exact ⟨x, y, rfl⟩
/-- what a write of an int leaves -/
theorem up_hi {E : dx_Env} {μ : dw_S} {a j : Nat} {x : Int32} (h : ∀ a j, dx_in (dx_seg (E.ce a).iv j) (μ.2.2.1 a j).toInt) (hx : dx_in (dx_seg (E.ce a).iv j) x.toInt) : ∀ a' j', dx_in (dx_seg (E.ce a').iv j') ((dw_si μ a j x).2.2.1 a' j').toInt := by
  intro a' j'
  show dx_in _ (dw_up μ.2.2.1 a j x a' j').toInt
  unfold dw_up
  by_cases e : a' = a
  · rw [if_pos e]
    by_cases e2 : j' = j
    · rw [if_pos e2, e, e2]; exact hx
    · rw [if_neg e2]; exact h a' j'
  · rw [if_neg e]; exact h a' j'
theorem up_fr {μ : dw_S} {a j : Nat} {x : Int32} {md : List Nat} (hm : a ∈ md) : ∀ a', a' ∉ md → (dw_si μ a j x).2.2.1 a' = μ.2.2.1 a' ∧ (dw_si μ a j x).2.2.2 a' = μ.2.2.2 a' := by
  intro a' hn
  refine ⟨?_, rfl⟩
  funext j'
  show dw_up μ.2.2.1 a j x a' j' = _
  unfold dw_up
  rw [if_neg (fun e : a' = a => hn (e ▸ hm))]
theorem up_eq {I : Nat → Nat → Int32} {a j a' j' : Nat} {x : Int32} {n : Int} (h : a' ≠ a ∨ j' ≠ j) (f : (I a' j').toInt = n) : (dw_up I a j x a' j').toInt = n := by rw [up_ne h]; exact f
