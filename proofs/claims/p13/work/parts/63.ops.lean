/-! ===== one op, by what is known ===== -/
def dx_mem (a : Nat) (l : List Nat) : Bool := l.any (fun b => Nat.beq a b)
theorem dx_mem_iff {a : Nat} {l : List Nat} : dx_mem a l = true ↔ a ∈ l := by
  unfold dx_mem
  rw [List.any_eq_true]
  constructor
  · rintro ⟨b, h1, h2⟩
    rw [Nat.eq_of_beq_eq_true h2]; exact h1
  · intro h
    exact ⟨a, h, Nat.beq_refl a⟩
def dx_i32 (v : Int) : Bool := decide (-2147483648 ≤ v) && decide (v ≤ 2147483647)
theorem dx_i32_iff {v : Int} : dx_i32 v = true ↔ -2147483648 ≤ v ∧ v ≤ 2147483647 := by
  unfold dx_i32
  rw [Bool.and_eq_true, decide_eq_true_eq, decide_eq_true_eq]
def dx_rg2 (σ : dx_S) (s : Nat) (o : Int) : Int × Int := ((dx_gi σ.iv s).1 + o, (dx_gi σ.iv s).2 + o)
/-- on the stack: what lies in p -/
def dx_ph (σ : dx_S) (p : Int × Int) (r : List dx_V) : dx_S := if p.1 = p.2 then (⟨dx_S.iv σ, dx_S.dc σ, dx_S.ls σ, (.inl (0, p.1)) :: r, dx_S.fa σ, dx_S.fl σ⟩ : dx_S) else (⟨dx_S.iv (dx_nw σ p), dx_S.dc (dx_nw σ p), dx_S.ls (dx_nw σ p), (.inl (σ.iv.length, 0)) :: r, dx_S.fa (dx_nw σ p), dx_S.fl (dx_nw σ p)⟩ : dx_S)
def dx_cats : List dx_V → Nat
  | [] => 0
  | (.inr (.inr (.inr false))) :: r => 2 + dx_cats r
  | _ :: r => 1 + dx_cats r
def dx_fr (ls : List dx_V) (i : Nat) : Bool := match i with
  | 0 => true
  | i + 1 => match ls[i]? with
    | some (.inr (.inr (.inr false))) => false
    | _ => true
/-- flags that do not look at slots j1 .. j2 of l -/
def dx_kf (E : dx_Env) (l : List Nat) (j1 j2 : Nat) (fl : List (Nat × Nat × Int)) : List (Nat × Nat × Int) := fl.filter (fun f => !(E.sup f.1).any (fun q => dx_mem q.1 l && (Nat.ble j1 q.2.2 && Nat.ble q.2.1 j2)))
/-- flags that do not look at l -/
def dx_kc (E : dx_Env) (l : List Nat) (fl : List (Nat × Nat × Int)) : List (Nat × Nat × Int) := fl.filter (fun f => !(E.sup f.1).any (fun q => dx_mem q.1 l))
def dx_ka (l : List Nat) (j1 j2 : Nat) (fa : List (Nat × Nat × Nat × Int)) : List (Nat × Nat × Nat × Int) := fa.filter (fun q => !(dx_mem q.1 l && (Nat.ble j1 q.2.1 && Nat.ble q.2.1 j2)))
def dx_ext (ν : Nat → Int) (σ : dx_S) (ν' : Nat → Int) (σ' : dx_S) : Prop := (∀ s, s < σ.iv.length → ν' s = ν s) ∧ σ.iv.length ≤ σ'.iv.length
theorem dx_ext.rfl {ν : Nat → Int} {σ σ' : dx_S} (h : σ'.iv.length = σ.iv.length) : dx_ext ν σ ν σ' := ⟨fun _ _ => Eq.refl _, by omega⟩
theorem dx_ext.trans {ν ν' ν'' : Nat → Int} {σ σ' σ'' : dx_S} (h : dx_ext ν σ ν' σ') (h2 : dx_ext ν' σ' ν'' σ'') : dx_ext ν σ ν'' σ'' :=
  ⟨fun s hs => by rw [h2.1 s (by have := h.2; omega), h.1 s hs], by have := h.2; have := h2.2; omega⟩
section
variable {E : dx_Env} {md : List Nat} {n0 : Nat} {ν0 : Nat → Int} {μ0 : dw_S} {ν : Nat → Int} {σ : dx_S} {ls : dw_L} {st : List Value} {μ : dw_S}
theorem dx_g.rg {s : Nat} {o : Int} (h : dx_g E md n0 ν0 μ0 ν σ ls (st.map some) μ) (hs : s < σ.iv.length) : (dx_rg2 σ s o).1 ≤ ν s + o ∧ ν s + o ≤ (dx_rg2 σ s o).2 := by
  have := h.iv s hs
  have h1 := this.1
  have h2 := this.2
  exact ⟨by show _ + o ≤ _; omega, by show _ ≤ _ + o; omega⟩
theorem dx_ph_ok {p : Int × Int} {r : List dx_V} {st2 : List Value} {w : Int32} (h : dx_g E md n0 ν0 μ0 ν σ ls (st.map some) μ) (hr : dx_gL σ.iv.length ν r (st2.map some)) (hp : dx_in p w.toInt) :
    ∃ ν', dx_g E md n0 ν0 μ0 ν' (dx_ph σ p r) ls ((.int w :: st2).map some) μ ∧ dx_ext ν σ ν' (dx_ph σ p r) := by
  unfold dx_ph
  by_cases e : p.1 = p.2
  · rw [if_pos e]
    refine ⟨ν, h.stk ⟨⟨h.k1, w, rfl, ?_⟩, hr⟩, dx_ext.rfl rfl⟩
    have h1 := hp.1
    have h2 := hp.2
    rw [h.z]; omega
  · rw [if_neg e]
    refine ⟨dx_nu ν σ.iv.length w.toInt, (h.nw hp).stk ⟨⟨?_, w, rfl, ?_⟩, ?_⟩, ⟨fun s hs => dx_nu_lt hs, ?_⟩⟩
    · rw [dx_nw_len]; omega
    · rw [dx_nu_at]; omega
    · rw [dx_nw_len]; exact dx_gL.ext (by omega) (fun s hs => dx_nu_lt hs) hr
    · show _ ≤ (dx_nw σ p).iv.length; rw [dx_nw_len]; omega
theorem dx_cats_ok : ∀ {vs : List dx_V} {st : List Value} {k : Nat}, dx_gL k ν vs (st.map some) → dw_cats st = dx_cats vs
  | [], [], _, _ => rfl
  | v :: r, x :: q, k, h => by
    have h2 := dx_cats_ok (st := q) (k := k) h.2
    rcases v with ⟨s, o⟩ | l | l | _ | _
    · obtain ⟨_, w, hw, _⟩ := h.1; cases hw; show 1 + _ = 1 + _; rw [h2]
    · obtain ⟨a, _, hw⟩ := h.1; cases hw; show 1 + _ = 1 + _; rw [h2]
    · skip
      rcases h.1 with hw | ⟨a, _, hw⟩
      · cases hw; show 1 + _ = 1 + _; rw [h2]
      · cases hw; show 1 + _ = 1 + _; rw [h2]
    · obtain ⟨w, hw⟩ := h.1; cases hw; show 2 + _ = 2 + _; rw [h2]
    · have := h.1 x rfl; show x.category + _ = 1 + _; rw [this, h2]
  | [], _ :: _, _, h => h.elim
  | _ :: _, [], _, h => h.elim
theorem dx_fr_ok {vs : List dx_V} {i k : Nat} (h : dx_gL k ν vs ls) (hf : dx_fr vs i = true) : dw_free ls i = true := by
  cases i with
  | zero => rfl
  | succ i =>
    show (match ls[i]? with | some (some v) => v.category == 1 | _ => true) = true
    split
    next v hl =>
      have hlt : i < vs.length := by rw [h.len]; exact (List.getElem?_eq_some_iff.mp hl).1
      obtain ⟨x, h1, h2⟩ := h.get (List.getElem?_eq_getElem hlt)
      rw [hl] at h1
      cases h1
      unfold dx_fr at hf
      simp only [List.getElem?_eq_getElem hlt] at hf
      rcases hv : vs[i] with ⟨s, o⟩ | l | l | _ | _
      · rw [hv] at h2; obtain ⟨_, w, hw, _⟩ := h2; cases hw; rfl
      · rw [hv] at h2; obtain ⟨a, _, hw⟩ := h2; cases hw; rfl
      · skip
        rw [hv] at h2
        rcases h2 with hw | ⟨a, _, hw⟩
        · cases hw; rfl
        · cases hw; rfl
      · rw [hv] at hf; simp at hf
      · rw [hv] at h2; have := h2 v rfl; rw [this]; rfl
    next => rfl
/-- writing an int -/
theorem dx_g.wr {l : List Nat} {a j j1 j2 : Nat} {x : Int32} {xs : dw_L} (hE : E.ok) (h : dx_g E md n0 ν0 μ0 ν σ ls xs μ) (ha : a ∈ l) (hm : a ∈ md) (h1 : j1 ≤ j) (h2 : j ≤ j2) (hx : dx_in (dx_seg (E.ce a).iv j) x.toInt) :
    dx_g E md n0 ν0 μ0 ν (⟨dx_S.iv σ, dx_S.dc σ, dx_S.ls σ, dx_S.st σ, dx_ka l j1 j2 σ.fa, dx_kf E l j1 j2 σ.fl⟩ : dx_S) ls xs (dw_si μ a j x) := by
  refine ⟨h.sh, ?_, ?_, h.z, h.k0, h.k1, h.ag, h.iv, h.dc, h.gl, h.gs, ?_, ?_⟩
  · intro a' j'
    show dx_in _ (dw_up μ.2.2.1 a j x a' j').toInt
    unfold dw_up
    by_cases e : a' = a
    · rw [if_pos e]
      by_cases e2 : j' = j
      · rw [if_pos e2, e, e2]; exact hx
      · rw [if_neg e2]; exact h.hi a' j'
    · rw [if_neg e]; exact h.hi a' j'
  · intro a' hn
    have hne : a' ≠ a := fun e => hn (e ▸ hm)
    refine ⟨?_, (h.fr a' hn).2⟩
    rw [← (h.fr a' hn).1]
    funext j'
    show dw_up μ.2.2.1 a j x a' j' = _
    unfold dw_up
    rw [if_neg hne]
  · intro q hq
    obtain ⟨hq1, hq2⟩ := List.mem_filter.mp hq
    refine ⟨(h.fa q hq1).1, ?_⟩
    rw [← (h.fa q hq1).2]
    show (dw_up μ.2.2.1 a j x q.1 q.2.1).toInt = _
    unfold dw_up
    by_cases e : q.1 = a
    · rw [if_pos e]
      by_cases e2 : q.2.1 = j
      · exfalso
        have t1 : dx_mem q.1 l = true := dx_mem_iff.mpr (e ▸ ha)
        have t2 : Nat.ble j1 q.2.1 = true := Nat.ble_eq.mpr (by omega)
        have t3 : Nat.ble q.2.1 j2 = true := Nat.ble_eq.mpr (by omega)
        rw [t1, t2, t3] at hq2
        cases hq2
      · rw [if_neg e2]
    · rw [if_neg e]
  · intro f hf
    obtain ⟨hf1, hf2⟩ := List.mem_filter.mp hf
    refine ⟨(h.fl f hf1).1, hE.fp f.1 _ _ _ ?_ (h.fl f hf1).2⟩
    intro q hq j' hj1 hj2
    show dw_up μ.2.2.1 a j x q.1 j' = _
    unfold dw_up
    by_cases e : q.1 = a
    · rw [if_pos e, if_neg]
      intro e2
      have t : (E.sup f.1).any (fun q => dx_mem q.1 l && (Nat.ble j1 q.2.2 && Nat.ble q.2.1 j2)) = true := List.any_eq_true.mpr ⟨q, hq, by
        rw [dx_mem_iff.mpr (e ▸ ha), Nat.ble_eq.mpr (show j1 ≤ q.2.2 by omega), Nat.ble_eq.mpr (show q.2.1 ≤ j2 by omega)]; rfl⟩
      rw [t] at hf2
      cases hf2
    · rw [if_neg e]
/-- writing a long -/
theorem dx_g.wrl {a j : Nat} {x : Int64} {xs : dw_L} (h : dx_g E md n0 ν0 μ0 ν σ ls xs μ) (hm : a ∈ md) :
    dx_g E md n0 ν0 μ0 ν σ ls xs (dw_sl μ a j x) := by
  refine ⟨h.sh, h.hi, ?_, h.z, h.k0, h.k1, h.ag, h.iv, h.dc, h.gl, h.gs, h.fa, h.fl⟩
  intro a' hn
  have hne : a' ≠ a := fun e => hn (e ▸ hm)
  refine ⟨(h.fr a' hn).1, ?_⟩
  rw [← (h.fr a' hn).2]
  funext j'
  show dw_up μ.2.2.2 a j x a' j' = _
  unfold dw_up
  rw [if_neg hne]
/-- copying -/
theorem dx_g.cp {l : List Nat} {sr d sp dp n : Nat} {xs : dw_L} (hE : E.ok) (h : dx_g E md n0 ν0 μ0 ν σ ls xs μ) (ha : d ∈ l) (hm : d ∈ md) (hx : ∀ j, dp ≤ j → j < dp + n → dx_in (dx_seg (E.ce d).iv j) (μ.2.2.1 sr (sp + (j - dp))).toInt) :
    dx_g E md n0 ν0 μ0 ν (⟨dx_S.iv σ, dx_S.dc σ, dx_S.ls σ, dx_S.st σ, dx_ka l dp (dp + n) σ.fa, dx_kf E l dp (dp + n) σ.fl⟩ : dx_S) ls xs (dw_cp μ sr d sp dp n) := by
  have hv : ∀ a j, (dw_cp μ sr d sp dp n).2.2.1 a j = if a = d then (if dp ≤ j ∧ j < dp + n then μ.2.2.1 sr (sp + (j - dp)) else μ.2.2.1 d j) else μ.2.2.1 a j := fun _ _ => rfl
  refine ⟨h.sh, ?_, ?_, h.z, h.k0, h.k1, h.ag, h.iv, h.dc, h.gl, h.gs, ?_, ?_⟩
  · intro a' j'
    rw [hv]
    by_cases e : a' = d
    · rw [if_pos e]
      by_cases e2 : dp ≤ j' ∧ j' < dp + n
      · rw [if_pos e2, e]; exact hx j' e2.1 e2.2
      · rw [if_neg e2, ← e]; exact h.hi a' j'
    · rw [if_neg e]; exact h.hi a' j'
  · intro a' hn
    have hne : a' ≠ d := fun e => hn (e ▸ hm)
    refine ⟨?_, (h.fr a' hn).2⟩
    rw [← (h.fr a' hn).1]
    funext j'
    rw [hv, if_neg hne]
  · intro q hq
    obtain ⟨hq1, hq2⟩ := List.mem_filter.mp hq
    refine ⟨(h.fa q hq1).1, ?_⟩
    rw [← (h.fa q hq1).2, hv]
    by_cases e : q.1 = d
    · rw [if_pos e]
      by_cases e2 : dp ≤ q.2.1 ∧ q.2.1 < dp + n
      · exfalso
        have t1 : dx_mem q.1 l = true := dx_mem_iff.mpr (e ▸ ha)
        have t2 : Nat.ble dp q.2.1 = true := Nat.ble_eq.mpr (by omega)
        have t3 : Nat.ble q.2.1 (dp + n) = true := Nat.ble_eq.mpr (by omega)
        rw [t1, t2, t3] at hq2
        cases hq2
      · rw [if_neg e2, e]
    · rw [if_neg e]
  · intro f hf
    obtain ⟨hf1, hf2⟩ := List.mem_filter.mp hf
    refine ⟨(h.fl f hf1).1, hE.fp f.1 _ _ _ ?_ (h.fl f hf1).2⟩
    intro q hq j' hj1 hj2
    rw [hv]
    by_cases e : q.1 = d
    · rw [if_pos e, if_neg, e]
      intro e2
      have t : (E.sup f.1).any (fun q => dx_mem q.1 l && (Nat.ble dp q.2.2 && Nat.ble q.2.1 (dp + n))) = true := List.any_eq_true.mpr ⟨q, hq, by
        rw [dx_mem_iff.mpr (e ▸ ha), Nat.ble_eq.mpr (show dp ≤ q.2.2 by omega), Nat.ble_eq.mpr (show q.2.1 ≤ dp + n by omega)]; rfl⟩
      rw [t] at hf2
      cases hf2
    · rw [if_neg e]
end
