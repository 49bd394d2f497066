section
/-! ===== one op, by what is known ===== -/
def dx_mem (a : Nat) (l : List Nat) : Bool := l.any (fun b => Nat.beq a b)
theorem dx_mem_iff {a : Nat} {l : List Nat} : dx_mem a l = true ↔ a ∈ l := by
  unfold dx_mem
  rw [List.any_eq_true]
  constructor
  · rintro ⟨b, h1, h2⟩
    rw [Nat.eq_of_beq_eq_true h2]; exact h1
  · intro h
    exact ⟨a, h, Nat.beq_refl a⟩
def dx_i32 (v : Int) : Bool := decide (-2147483648 ≤ v) && decide (v ≤ 2147483647)
theorem dx_i32_iff {v : Int} : dx_i32 v = true ↔ -2147483648 ≤ v ∧ v ≤ 2147483647 := by
  unfold dx_i32
  rw [Bool.and_eq_true, decide_eq_true_eq, decide_eq_true_eq]
def dx_rg2 (σ : dx_S) (s : Nat) (o : Int) : Int × Int := ((dx_gi σ.iv s).1 + o, (dx_gi σ.iv s).2 + o)
/-- on the stack: what lies in p -/
def dx_ph (σ : dx_S) (p : Int × Int) (r : List dx_V) : dx_S := if p.1 = p.2 then (⟨dx_S.iv σ, dx_S.dc σ, dx_S.ls σ, (.inl (0, p.1)) :: r, dx_S.fa σ, dx_S.fl σ⟩ : dx_S) else (⟨dx_S.iv (dx_nw σ p), dx_S.dc (dx_nw σ p), dx_S.ls (dx_nw σ p), (.inl (σ.iv.length, 0)) :: r, dx_S.fa (dx_nw σ p), dx_S.fl (dx_nw σ p)⟩ : dx_S)
def dx_cats : List dx_V → Nat
  | [] => 0
  | (.inr (.inr (.inr false))) :: r => 2 + dx_cats r
  | _ :: r => 1 + dx_cats r
def dx_fr (ls : List dx_V) (i : Nat) : Bool := match i with
  | 0 => true
  | i + 1 => match ls[i]? with
    | some (.inr (.inr (.inr false))) => false
    | _ => true
/-- flags that do not look at slots j1 .. j2 of l -/
def dx_kf (E : dx_Env) (l : List Nat) (j1 j2 : Nat) (fl : List (Nat × Nat × Int)) : List (Nat × Nat × Int) := fl.filter (fun f => !(E.sup f.1).any (fun q => dx_mem q.1 l && (Nat.ble j1 q.2.2 && Nat.ble q.2.1 j2)))
/-- flags that do not look at l -/
def dx_kc (E : dx_Env) (l : List Nat) (fl : List (Nat × Nat × Int)) : List (Nat × Nat × Int) := fl.filter (fun f => !(E.sup f.1).any (fun q => dx_mem q.1 l))
def dx_ka (l : List Nat) (j1 j2 : Nat) (fa : List (Nat × Nat × Nat × Int)) : List (Nat × Nat × Nat × Int) := fa.filter (fun q => !(dx_mem q.1 l && (Nat.ble j1 q.2.1 && Nat.ble q.2.1 j2)))
def dx_ext (ν : Nat → Int) (σ : dx_S) (ν' : Nat → Int) (σ' : dx_S) : Prop := (∀ s, s < σ.iv.length → ν' s = ν s) ∧ σ.iv.length ≤ σ'.iv.length
theorem dx_ext.rfl {ν : Nat → Int} {σ σ' : dx_S} (h : σ'.iv.length = σ.iv.length) : dx_ext ν σ ν σ' := ⟨fun _ _ => Eq.refl _, by omega⟩
theorem dx_ext.trans {ν ν' ν'' : Nat → Int} {σ σ' σ'' : dx_S} (h : dx_ext ν σ ν' σ') (h2 : dx_ext ν' σ' ν'' σ'') : dx_ext ν σ ν'' σ'' :=
  ⟨fun s hs => by rw [h2.1 s (by have := h.2; omega), h.1 s hs], by have := h.2; have := h2.2; omega⟩
section
variable {E : dx_Env} {md : List Nat} {n0 : Nat} {ν0 : Nat → Int} {μ0 : dw_S} {ν : Nat → Int} {σ : dx_S} {ls : dw_L} {st : List Value} {μ : dw_S}
theorem dx_g.rg {s : Nat} {o : Int} (h : dx_g E md n0 ν0 μ0 ν σ ls (st.map some) μ) (hs : s < σ.iv.length) : (dx_rg2 σ s o).1 ≤ ν s + o ∧ ν s + o ≤ (dx_rg2 σ s o).2 := by
  have := h.iv s hs
  have h1 := this.1
  have h2 := this.2
  exact ⟨by show _ + o ≤ _; omega, by show _ ≤ _ + o; omega⟩
theorem dx_ph_ok {p : Int × Int} {r : List dx_V} {st2 : List Value} {w : Int32} (h : dx_g E md n0 ν0 μ0 ν σ ls (st.map some) μ) (hr : dx_gL σ.iv.length ν r (st2.map some)) (hp : dx_in p w.toInt) :
    ∃ ν', dx_g E md n0 ν0 μ0 ν' (dx_ph σ p r) ls ((.int w :: st2).map some) μ ∧ dx_ext ν σ ν' (dx_ph σ p r) := by
  unfold dx_ph
  by_cases e : p.1 = p.2
  · rw [if_pos e]
    refine ⟨ν, h.stk ⟨⟨h.k1, w, rfl, ?_⟩, hr⟩, dx_ext.rfl rfl⟩
    have h1 := hp.1
    have h2 := hp.2
    rw [h.z]; omega
  · rw [if_neg e]
    refine ⟨dx_nu ν σ.iv.length w.toInt, (h.nw hp).stk ⟨⟨?_, w, rfl, ?_⟩, ?_⟩, ⟨fun s hs => dx_nu_lt hs, ?_⟩⟩
    · rw [dx_nw_len]; omega
    · rw [dx_nu_at]; omega
    · rw [dx_nw_len]; exact dx_gL.ext (by omega) (fun s hs => dx_nu_lt hs) hr
    · show _ ≤ (dx_nw σ p).iv.length; rw [dx_nw_len]; omega
theorem dx_cats_ok : ∀ {vs : List dx_V} {st : List Value} {k : Nat}, dx_gL k ν vs (st.map some) → dw_cats st = dx_cats vs
  | [], [], _, _ => rfl
  | v :: r, x :: q, k, h => by
    have h2 := dx_cats_ok (st := q) (k := k) h.2
    rcases v with ⟨s, o⟩ | l | l | _ | _
    · obtain ⟨_, w, hw, _⟩ := h.1; cases hw; show 1 + _ = 1 + _; rw [h2]
    · obtain ⟨a, _, hw⟩ := h.1; cases hw; show 1 + _ = 1 + _; rw [h2]
    · skip
      rcases h.1 with hw | ⟨a, _, hw⟩
      · cases hw; show 1 + _ = 1 + _; rw [h2]
      · cases hw; show 1 + _ = 1 + _; rw [h2]
    · obtain ⟨w, hw⟩ := h.1; cases hw; show 2 + _ = 2 + _; rw [h2]
    · have := h.1 x rfl; show x.category + _ = 1 + _; rw [this, h2]
  | [], _ :: _, _, h => h.elim
  | _ :: _, [], _, h => h.elim
theorem dx_fr_ok {vs : List dx_V} {i k : Nat} (h : dx_gL k ν vs ls) (hf : dx_fr vs i = true) : dw_free ls i = true := by
  cases i with
  | zero => rfl
  | succ i =>
    show (match ls[i]? with | some (some v) => v.category == 1 | _ => true) = true
    split
    next v hl =>
      have hlt : i < vs.length := by rw [h.len]; exact (List.getElem?_eq_some_iff.mp hl).1
      obtain ⟨x, h1, h2⟩ := h.get (List.getElem?_eq_getElem hlt)
      rw [hl] at h1
      cases h1
      unfold dx_fr at hf
      simp only [List.getElem?_eq_getElem hlt] at hf
      rcases hv : vs[i] with ⟨s, o⟩ | l | l | _ | _
      · rw [hv] at h2; obtain ⟨_, w, hw, _⟩ := h2; cases hw; rfl
      · rw [hv] at h2; obtain ⟨a, _, hw⟩ := h2; cases hw; rfl
      · skip
        rw [hv] at h2
        rcases h2 with hw | ⟨a, _, hw⟩
        · cases hw; rfl
        · cases hw; rfl
      · rw [hv] at hf; simp at hf
      · rw [hv] at h2; have := h2 v rfl; rw [this]; rfl
    next => rfl
/-- writing an int -/
theorem dx_g.wr {l : List Nat} {a j j1 j2 : Nat} {x : Int32} {xs : dw_L} (hE : E.ok) (h : dx_g E md n0 ν0 μ0 ν σ ls xs μ) (ha : a ∈ l) (hm : a ∈ md) (h1 : j1 ≤ j) (h2 : j ≤ j2) (hx : dx_in (dx_seg (E.ce a).iv j) x.toInt) :
    dx_g E md n0 ν0 μ0 ν (⟨dx_S.iv σ, dx_S.dc σ, dx_S.ls σ, dx_S.st σ, dx_ka l j1 j2 σ.fa, dx_kf E l j1 j2 σ.fl⟩ : dx_S) ls xs (dw_si μ a j x) := by
  refine ⟨h.sh, ?_, ?_, h.z, h.k0, h.k1, h.ag, h.iv, h.dc, h.gl, h.gs, ?_, ?_⟩
  · intro a' j'
    show dx_in _ (dw_up μ.2.2.1 a j x a' j').toInt
    unfold dw_up
    by_cases e : a' = a
    · rw [if_pos e]
      by_cases e2 : j' = j
      · rw [if_pos e2, e, e2]; exact hx
      · rw [if_neg e2]; exact h.hi a' j'
    · rw [if_neg e]; exact h.hi a' j'
  · intro a' hn
    have hne : a' ≠ a := fun e => hn (e ▸ hm)
    refine ⟨?_, (h.fr a' hn).2⟩
    rw [← (h.fr a' hn).1]
    funext j'
    show dw_up μ.2.2.1 a j x a' j' = _
    unfold dw_up
    rw [if_neg hne]
  · intro q hq
    obtain ⟨hq1, hq2⟩ := List.mem_filter.mp hq
    refine ⟨(h.fa q hq1).1, ?_⟩
    rw [← (h.fa q hq1).2]
    show (dw_up μ.2.2.1 a j x q.1 q.2.1).toInt = _
    unfold dw_up
    by_cases e : q.1 = a
    · rw [if_pos e]
      by_cases e2 : q.2.1 = j
      · exfalso
        have t1 : dx_mem q.1 l = true := dx_mem_iff.mpr (e ▸ ha)
        have t2 : Nat.ble j1 q.2.1 = true := Nat.ble_eq.mpr (by omega)
        have t3 : Nat.ble q.2.1 j2 = true := Nat.ble_eq.mpr (by omega)
        rw [t1, t2, t3] at hq2
        cases hq2
      · rw [if_neg e2]
    · rw [if_neg e]
  · intro f hf
    obtain ⟨hf1, hf2⟩ := List.mem_filter.mp hf
    refine ⟨(h.fl f hf1).1, hE.fp f.1 _ _ _ ?_ (h.fl f hf1).2⟩
    intro q hq j' hj1 hj2
    show dw_up μ.2.2.1 a j x q.1 j' = _
    unfold dw_up
    by_cases e : q.1 = a
    · rw [if_pos e, if_neg]
      intro e2
      have t : (E.sup f.1).any (fun q => dx_mem q.1 l && (Nat.ble j1 q.2.2 && Nat.ble q.2.1 j2)) = true := List.any_eq_true.mpr ⟨q, hq, by
        rw [dx_mem_iff.mpr (e ▸ ha), Nat.ble_eq.mpr (show j1 ≤ q.2.2 by omega), Nat.ble_eq.mpr (show q.2.1 ≤ j2 by omega)]; rfl⟩
      rw [t] at hf2
      cases hf2
    · rw [if_neg e]
/-- writing a long -/
theorem dx_g.wrl {a j : Nat} {x : Int64} {xs : dw_L} (h : dx_g E md n0 ν0 μ0 ν σ ls xs μ) (hm : a ∈ md) :
    dx_g E md n0 ν0 μ0 ν σ ls xs (dw_sl μ a j x) := by
  refine ⟨h.sh, h.hi, ?_, h.z, h.k0, h.k1, h.ag, h.iv, h.dc, h.gl, h.gs, h.fa, h.fl⟩
  intro a' hn
  have hne : a' ≠ a := fun e => hn (e ▸ hm)
  refine ⟨(h.fr a' hn).1, ?_⟩
  rw [← (h.fr a' hn).2]
  funext j'
  show dw_up μ.2.2.2 a j x a' j' = _
  unfold dw_up
  rw [if_neg hne]
/-- copying -/
theorem dx_g.cp {l : List Nat} {sr d sp dp n : Nat} {xs : dw_L} (hE : E.ok) (h : dx_g E md n0 ν0 μ0 ν σ ls xs μ) (ha : d ∈ l) (hm : d ∈ md) (hx : ∀ j, dp ≤ j → j < dp + n → dx_in (dx_seg (E.ce d).iv j) (μ.2.2.1 sr (sp + (j - dp))).toInt) :
    dx_g E md n0 ν0 μ0 ν (⟨dx_S.iv σ, dx_S.dc σ, dx_S.ls σ, dx_S.st σ, dx_ka l dp (dp + n) σ.fa, dx_kf E l dp (dp + n) σ.fl⟩ : dx_S) ls xs (dw_cp μ sr d sp dp n) := by
  have hv : ∀ a j, (dw_cp μ sr d sp dp n).2.2.1 a j = if a = d then (if dp ≤ j ∧ j < dp + n then μ.2.2.1 sr (sp + (j - dp)) else μ.2.2.1 d j) else μ.2.2.1 a j := fun _ _ => rfl
  refine ⟨h.sh, ?_, ?_, h.z, h.k0, h.k1, h.ag, h.iv, h.dc, h.gl, h.gs, ?_, ?_⟩
  · intro a' j'
    rw [hv]
    by_cases e : a' = d
    · rw [if_pos e]
      by_cases e2 : dp ≤ j' ∧ j' < dp + n
      · rw [if_pos e2, e]; exact hx j' e2.1 e2.2
      · rw [if_neg e2, ← e]; exact h.hi a' j'
    · rw [if_neg e]; exact h.hi a' j'
  · intro a' hn
    have hne : a' ≠ d := fun e => hn (e ▸ hm)
    refine ⟨?_, (h.fr a' hn).2⟩
    rw [← (h.fr a' hn).1]
    funext j'
    rw [hv, if_neg hne]
  · intro q hq
    obtain ⟨hq1, hq2⟩ := List.mem_filter.mp hq
    refine ⟨(h.fa q hq1).1, ?_⟩
    rw [← (h.fa q hq1).2, hv]
    by_cases e : q.1 = d
    · rw [if_pos e]
      by_cases e2 : dp ≤ q.2.1 ∧ q.2.1 < dp + n
      · exfalso
        have t1 : dx_mem q.1 l = true := dx_mem_iff.mpr (e ▸ ha)
        have t2 : Nat.ble dp q.2.1 = true := Nat.ble_eq.mpr (by omega)
        have t3 : Nat.ble q.2.1 (dp + n) = true := Nat.ble_eq.mpr (by omega)
        rw [t1, t2, t3] at hq2
        cases hq2
      · rw [if_neg e2, e]
    · rw [if_neg e]
  · intro f hf
    obtain ⟨hf1, hf2⟩ := List.mem_filter.mp hf
    refine ⟨(h.fl f hf1).1, hE.fp f.1 _ _ _ ?_ (h.fl f hf1).2⟩
    intro q hq j' hj1 hj2
    rw [hv]
    by_cases e : q.1 = d
    · rw [if_pos e, if_neg, e]
      intro e2
      have t : (E.sup f.1).any (fun q => dx_mem q.1 l && (Nat.ble dp q.2.2 && Nat.ble q.2.1 (dp + n))) = true := List.any_eq_true.mpr ⟨q, hq, by
        rw [dx_mem_iff.mpr (e ▸ ha), Nat.ble_eq.mpr (show dp ≤ q.2.2 by omega), Nat.ble_eq.mpr (show q.2.1 ≤ dp + n by omega)]; rfl⟩
      rw [t] at hf2
      cases hf2
    · rw [if_neg e]
end
end
section
/-! ===== comparing ===== -/
def dx_ub (cur : dx_S) (s : Nat) : Int := cur.dc.foldl (fun m q => if Nat.beq q.1 s then min m ((dx_gi cur.iv q.2.1).2 + q.2.2) else m) (dx_gi cur.iv s).2
def dx_lb (cur : dx_S) (s : Nat) : Int := cur.dc.foldl (fun m q => if Nat.beq q.2.1 s then max m ((dx_gi cur.iv q.1).1 - q.2.2) else m) (dx_gi cur.iv s).1
section
variable {E : dx_Env} {md : List Nat} {n0 : Nat} {ν0 : Nat → Int} {μ0 : dw_S} {ν : Nat → Int} {σ : dx_S} {ls st : dw_L} {μ : dw_S}
theorem dx_fold_le {α : Type} {f : Int → α → Int} {n : Int} : ∀ (l : List α) (m : Int), (∀ q ∈ l, ∀ m, n ≤ m → n ≤ f m q) → n ≤ m → n ≤ l.foldl f m
  | [], _, _, h => h
  | q :: r, m, hf, h => dx_fold_le r (f m q) (fun q' hq => hf q' (List.mem_cons_of_mem _ hq)) (hf q List.mem_cons_self m h)
theorem dx_fold_ge {α : Type} {f : Int → α → Int} {n : Int} : ∀ (l : List α) (m : Int), (∀ q ∈ l, ∀ m, m ≤ n → f m q ≤ n) → m ≤ n → l.foldl f m ≤ n
  | [], _, _, h => h
  | q :: r, m, hf, h => dx_fold_ge r (f m q) (fun q' hq => hf q' (List.mem_cons_of_mem _ hq)) (hf q List.mem_cons_self m h)
theorem dx_ub_ok {s : Nat} (g : dx_g E md n0 ν0 μ0 ν σ ls st μ) (hs : s < σ.iv.length) : ν s ≤ dx_ub σ s := by
  unfold dx_ub
  refine dx_fold_le _ _ (fun q hq m hm => ?_) (g.iv s hs).2
  split
  next e =>
    have h1 := g.dc q hq
    have h2 := (g.iv _ h1.2.1).2
    have h3 := Nat.eq_of_beq_eq_true e
    have h4 := h1.2.2
    rw [h3] at h4
    omega
  next => exact hm
theorem dx_lb_ok {s : Nat} (g : dx_g E md n0 ν0 μ0 ν σ ls st μ) (hs : s < σ.iv.length) : dx_lb σ s ≤ ν s := by
  unfold dx_lb
  refine dx_fold_ge _ _ (fun q hq m hm => ?_) (g.iv s hs).1
  split
  next e =>
    have h1 := g.dc q hq
    have h2 := (g.iv _ h1.1).1
    have h3 := Nat.eq_of_beq_eq_true e
    have h4 := h1.2.2
    rw [h3] at h4
    omega
  next => exact hm
end
def dx_dl : List (Nat × Nat × Int) → Nat → Nat → Int → Int
  | [], _, _, m => m
  | q :: r, s1, s2, m => dx_dl r s1 s2 (if Nat.beq q.1 s1 && Nat.beq q.2.1 s2 then min m q.2.2 else m)
def dx_df (σ : dx_S) (s1 s2 : Nat) : Int := if s1 = s2 then 0 else dx_dl σ.dc s1 s2 (dx_ub σ s1 - dx_lb σ s2)
def dx_no (c : Nat) (u w : Int) : Bool := match c with
  | 0 => decide (u < 0) || decide (w < 0)
  | 1 => decide (u ≤ 0) && decide (w ≤ 0)
  | 2 => decide (w ≤ 0)
  | 3 => decide (u < 0)
  | 4 => decide (u ≤ 0)
  | _ => decide (w < 0)
def dx_ad (c s1 : Nat) (o1 : Int) (s2 : Nat) (o2 : Int) (d : List (Nat × Nat × Int)) : List (Nat × Nat × Int) := match c with
  | 0 => (s1, s2, o2 - o1) :: (s2, s1, o1 - o2) :: d
  | 1 => d
  | 2 => (s1, s2, o2 - o1 - 1) :: d
  | 3 => (s2, s1, o1 - o2) :: d
  | 4 => (s2, s1, o1 - o2 - 1) :: d
  | _ => (s1, s2, o2 - o1) :: d
def dx_rf (σ : dx_S) (c s1 : Nat) (o1 : Int) (s2 : Nat) (o2 : Int) : Option dx_S :=
  let p := dx_rg2 σ s1 o1
  let q := dx_rg2 σ s2 o2
  let r := dx_cr c p.1 p.2 q.1 q.2
  if decide (r.2.1 < r.1) || decide (r.2.2.2 < r.2.2.1) || dx_no c (dx_df σ s1 s2 + o1 - o2) (dx_df σ s2 s1 + o2 - o1) then none
  else some (⟨dx_sv (dx_sv σ.iv s1 (r.1 - o1, r.2.1 - o1)) s2 (r.2.2.1 - o2, r.2.2.2 - o2), if s1 = 0 ∨ s2 = 0 ∨ s1 = s2 then σ.dc else dx_ad c s1 o1 s2 o2 σ.dc, dx_S.ls σ, dx_S.st σ, dx_S.fa σ, dx_S.fl σ⟩ : dx_S)
section
variable {E : dx_Env} {md : List Nat} {n0 : Nat} {ν0 : Nat → Int} {μ0 : dw_S} {ν : Nat → Int} {σ : dx_S} {ls st : dw_L} {μ : dw_S}
theorem dx_dl_ok {s1 s2 : Nat} {x y : Int} : ∀ (d : List (Nat × Nat × Int)) (m : Int), (∀ q ∈ d, q.1 = s1 → q.2.1 = s2 → x - y ≤ q.2.2) → x - y ≤ m → x - y ≤ dx_dl d s1 s2 m
  | [], m, _, h => h
  | q :: r, m, h, h2 => by
    unfold dx_dl
    refine dx_dl_ok r _ (fun q hq => h q (List.mem_cons_of_mem _ hq)) ?_
    by_cases e : (Nat.beq q.1 s1 && Nat.beq q.2.1 s2) = true
    · rw [if_pos e]
      rw [Bool.and_eq_true] at e
      have := h q List.mem_cons_self (Nat.eq_of_beq_eq_true e.1) (Nat.eq_of_beq_eq_true e.2)
      omega
    · rw [if_neg e]; exact h2
theorem dx_df_ok {s1 s2 : Nat} (h : dx_g E md n0 ν0 μ0 ν σ ls st μ) (h1 : s1 < σ.iv.length) (h2 : s2 < σ.iv.length) : ν s1 - ν s2 ≤ dx_df σ s1 s2 := by
  unfold dx_df
  by_cases e : s1 = s2
  · rw [if_pos e, e]; omega
  · rw [if_neg e]
    refine dx_dl_ok σ.dc _ (fun q hq e1 e2 => ?_) ?_
    · have := (h.dc q hq).2.2
      rw [e1, e2] at this
      exact this
    · have a1 := dx_ub_ok h h1
      have a2 := dx_lb_ok h h2
      omega
theorem dx_rf_ok {c s1 s2 : Nat} {o1 o2 : Int} (h : dx_g E md n0 ν0 μ0 ν σ ls st μ) (h1 : s1 < σ.iv.length) (h2 : s2 < σ.iv.length) (hc : dx_cp c (ν s1 + o1) (ν s2 + o2)) :
    ∃ σ', dx_rf σ c s1 o1 s2 o2 = some σ' ∧ dx_g E md n0 ν0 μ0 ν σ' ls st μ ∧ σ'.iv.length = σ.iv.length := by
  have a1 := h.iv s1 h1
  have a2 := h.iv s2 h2
  have b1 := a1.1
  have b2 := a1.2
  have b3 := a2.1
  have b4 := a2.2
  have hr := dx_cr_ok (lx := (dx_rg2 σ s1 o1).1) (hx := (dx_rg2 σ s1 o1).2) (ly := (dx_rg2 σ s2 o2).1) (hy := (dx_rg2 σ s2 o2).2) hc (by show _ + o1 ≤ _; omega) (by show _ ≤ _ + o1; omega) (by show _ + o2 ≤ _; omega) (by show _ ≤ _ + o2; omega)
  have u := dx_df_ok h h1 h2
  have w := dx_df_ok h h2 h1
  unfold dx_rf
  have hno : dx_no c (dx_df σ s1 s2 + o1 - o2) (dx_df σ s2 s1 + o2 - o1) = false := by
    unfold dx_no
    unfold dx_cp at hc
    split at hc
    · rw [decide_eq_false (by omega), decide_eq_false (by omega)]; rfl
    · show (decide (dx_df σ s1 s2 + o1 - o2 ≤ 0) && decide (dx_df σ s2 s1 + o2 - o1 ≤ 0)) = false
      by_cases e : dx_df σ s1 s2 + o1 - o2 ≤ 0
      · rw [decide_eq_false (p := dx_df σ s2 s1 + o2 - o1 ≤ 0) (by omega), Bool.and_false]
      · rw [decide_eq_false e, Bool.false_and]
    · exact decide_eq_false (by omega)
    · exact decide_eq_false (by omega)
    · exact decide_eq_false (by omega)
    · next q0 q1 q2 q3 q4 =>
      split
      · exact absurd rfl q0
      · exact absurd rfl q1
      · exact absurd rfl q2
      · exact absurd rfl q3
      · exact absurd rfl q4
      · exact decide_eq_false (by omega)
  have hd1 : decide ((dx_cr c (dx_rg2 σ s1 o1).1 (dx_rg2 σ s1 o1).2 (dx_rg2 σ s2 o2).1 (dx_rg2 σ s2 o2).2).2.1 < (dx_cr c (dx_rg2 σ s1 o1).1 (dx_rg2 σ s1 o1).2 (dx_rg2 σ s2 o2).1 (dx_rg2 σ s2 o2).2).1) = false := decide_eq_false (by omega)
  have hd2 : decide ((dx_cr c (dx_rg2 σ s1 o1).1 (dx_rg2 σ s1 o1).2 (dx_rg2 σ s2 o2).1 (dx_rg2 σ s2 o2).2).2.2.2 < (dx_cr c (dx_rg2 σ s1 o1).1 (dx_rg2 σ s1 o1).2 (dx_rg2 σ s2 o2).1 (dx_rg2 σ s2 o2).2).2.2.1) = false := decide_eq_false (by omega)
  simp only [hd1, hd2, hno, Bool.or_false]
  refine ⟨_, if_neg (by simp), ?_, ?_⟩
  · have g1 := h.ivs (iv2 := dx_sv (dx_sv σ.iv s1 ((dx_cr c (dx_rg2 σ s1 o1).1 (dx_rg2 σ s1 o1).2 (dx_rg2 σ s2 o2).1 (dx_rg2 σ s2 o2).2).1 - o1, (dx_cr c (dx_rg2 σ s1 o1).1 (dx_rg2 σ s1 o1).2 (dx_rg2 σ s2 o2).1 (dx_rg2 σ s2 o2).2).2.1 - o1)) s2 ((dx_cr c (dx_rg2 σ s1 o1).1 (dx_rg2 σ s1 o1).2 (dx_rg2 σ s2 o2).1 (dx_rg2 σ s2 o2).2).2.2.1 - o2, (dx_cr c (dx_rg2 σ s1 o1).1 (dx_rg2 σ s1 o1).2 (dx_rg2 σ s2 o2).1 (dx_rg2 σ s2 o2).2).2.2.2 - o2))
      (by rw [dx_sv_len, dx_sv_len]) (fun s hs => by
        rw [dx_gi_sv, dx_gi_sv, dx_sv_len]
        by_cases e2 : s = s2 ∧ s2 < σ.iv.length
        · rw [if_pos e2, e2.1]; exact ⟨by show _ - o2 ≤ _; omega, by show _ ≤ _ - o2; omega⟩
        · rw [if_neg e2]
          by_cases e1 : s = s1 ∧ s1 < σ.iv.length
          · rw [if_pos e1, e1.1]; exact ⟨by show _ - o1 ≤ _; omega, by show _ ≤ _ - o1; omega⟩
          · rw [if_neg e1]; exact h.iv s hs)
    refine g1.dcs ?_
    show ∀ q ∈ (if s1 = 0 ∨ s2 = 0 ∨ s1 = s2 then σ.dc else dx_ad c s1 o1 s2 o2 σ.dc), q.1 < (dx_sv _ _ _).length ∧ q.2.1 < (dx_sv _ _ _).length ∧ _
    rw [dx_sv_len, dx_sv_len]
    by_cases e : s1 = 0 ∨ s2 = 0 ∨ s1 = s2
    · rw [if_pos e]; exact h.dc
    · rw [if_neg e]
      unfold dx_ad
      unfold dx_cp at hc
      split at hc
      · intro q hq
        simp only [List.mem_cons] at hq
        rcases hq with rfl | rfl | hq
        · exact ⟨h1, h2, by show ν s1 - ν s2 ≤ o2 - o1; omega⟩
        · exact ⟨h2, h1, by show ν s2 - ν s1 ≤ o1 - o2; omega⟩
        · exact h.dc q hq
      · exact h.dc
      · intro q hq
        simp only [List.mem_cons] at hq
        rcases hq with rfl | hq
        · exact ⟨h1, h2, by show ν s1 - ν s2 ≤ o2 - o1 - 1; omega⟩
        · exact h.dc q hq
      · intro q hq
        simp only [List.mem_cons] at hq
        rcases hq with rfl | hq
        · exact ⟨h2, h1, by show ν s2 - ν s1 ≤ o1 - o2; omega⟩
        · exact h.dc q hq
      · intro q hq
        simp only [List.mem_cons] at hq
        rcases hq with rfl | hq
        · exact ⟨h2, h1, by show ν s2 - ν s1 ≤ o1 - o2 - 1; omega⟩
        · exact h.dc q hq
      · next q0 q1 q2 q3 q4 =>
        split
        · exact absurd rfl q0
        · exact absurd rfl q1
        · exact absurd rfl q2
        · exact absurd rfl q3
        · exact absurd rfl q4
        · intro q hq
          simp only [List.mem_cons] at hq
          rcases hq with rfl | hq
          · exact ⟨h1, h2, by show ν s1 - ν s2 ≤ o2 - o1; omega⟩
          · exact h.dc q hq
  · show (dx_sv (dx_sv _ _ _) _ _).length = _
    rw [dx_sv_len, dx_sv_len]
end
/-! ===== ints ===== -/
section
variable {B : dw_B} {bc bs : Nat} {ls : dw_L} {r : List Value} {μ : dw_S} {x y : Int32}
theorem dx_bin_ok {k nx : Nat} (hk : k ≤ 11) (h1 : k = 8 ∨ k = 9 → y ≠ 0) (h2 : k = 10 ∨ k = 11 → dw_cats r ≤ 8) (h : B nx bc bs ls (.int (dx_bv k x y) :: r) μ) : dx_bin k nx B bc bs ls (.int y :: .int x :: r) μ := by
  match k, hk with
  | 0, _ => exact h
  | 1, _ => exact h
  | 2, _ => exact h
  | 3, _ => exact h
  | 4, _ => exact h
  | 5, _ => exact h
  | 6, _ => exact h
  | 7, _ => exact h
  | 8, _ => show (if y = 0 then False else _); rw [if_neg (h1 (Or.inl rfl))]; exact h
  | 9, _ => show (if y = 0 then False else _); rw [if_neg (h1 (Or.inr rfl))]; exact h
  | 10, _ => show (if dw_cats r ≤ 8 then _ else False); rw [if_pos (h2 (Or.inl rfl))]; exact h
  | 11, _ => show (if dw_cats r ≤ 8 then _ else False); rw [if_pos (h2 (Or.inr rfl))]; exact h
theorem dx_un_ok {k nx : Nat} (hk : k ≤ 2) (h2 : k = 2 → dw_cats r ≤ 8) (h : B nx bc bs ls (.int (dx_uv k x) :: r) μ) : dx_un k nx B bc bs ls (.int x :: r) μ := by
  match k, hk with
  | 0, _ => exact h
  | 1, _ => exact h
  | 2, _ => show (if dw_cats r ≤ 8 then _ else False); rw [if_pos (h2 rfl)]; exact h
theorem dx_eqI : x = y ↔ x.toInt = y.toInt := Int32.toInt_inj.symm
theorem dx_ic_ok {c tg nx : Nat} (hc : c ≤ 5) (h1 : dx_cp c x.toInt y.toInt → B tg bc bs ls r μ) (h2 : dx_cp (dx_ng c) x.toInt y.toInt → B nx bc bs ls r μ) : dx_ic c tg nx B bc bs ls (.int y :: .int x :: r) μ := by
  match c, hc with
  | 0, _ =>
    show (if x = y then _ else _)
    split
    next e => exact h1 (dx_eqI.mp e)
    next e => exact h2 (fun q => e (dx_eqI.mpr q))
  | 1, _ =>
    show (if x = y then _ else _)
    split
    next e => exact h2 (dx_eqI.mp e)
    next e => exact h1 (fun q => e (dx_eqI.mpr q))
  | 2, _ =>
    show (if x < y then _ else _)
    split
    next e => exact h1 (Int32.lt_iff_toInt_lt.mp e)
    next e => exact h2 (by rw [Int32.lt_iff_toInt_lt] at e; show y.toInt ≤ x.toInt; omega)
  | 3, _ =>
    show (if y ≤ x then _ else _)
    split
    next e => exact h1 (Int32.le_iff_toInt_le.mp e)
    next e => exact h2 (by rw [Int32.le_iff_toInt_le] at e; show x.toInt < y.toInt; omega)
  | 4, _ =>
    show (if y < x then _ else _)
    split
    next e => exact h1 (Int32.lt_iff_toInt_lt.mp e)
    next e => exact h2 (by rw [Int32.lt_iff_toInt_lt] at e; show x.toInt ≤ y.toInt; omega)
  | 5, _ =>
    show (if x ≤ y then _ else _)
    split
    next e => exact h1 (Int32.le_iff_toInt_le.mp e)
    next e => exact h2 (by rw [Int32.le_iff_toInt_le] at e; show y.toInt < x.toInt; omega)
theorem dx_if_ok {c tg nx : Nat} (hc : c ≤ 5) (h1 : dx_cp c x.toInt 0 → B tg bc bs ls r μ) (h2 : dx_cp (dx_ng c) x.toInt 0 → B nx bc bs ls r μ) : dx_if c tg nx B bc bs ls (.int x :: r) μ := by
  have h0 : (0 : Int32).toInt = 0 := rfl
  match c, hc with
  | 0, _ =>
    show (if x = 0 then _ else _)
    split
    next e => exact h1 (by rw [e]; exact h0)
    next e => exact h2 (fun q => e (dx_eqI.mpr (by rw [h0]; exact q)))
  | 1, _ =>
    show (if x = 0 then _ else _)
    split
    next e => exact h2 (by rw [e]; exact h0)
    next e => exact h1 (fun q => e (dx_eqI.mpr (by rw [h0]; exact q)))
  | 2, _ =>
    show (if x < 0 then _ else _)
    split
    next e => exact h1 (Int32.lt_iff_toInt_lt.mp e)
    next e => exact h2 (by rw [Int32.lt_iff_toInt_lt] at e; show 0 ≤ x.toInt; omega)
  | 3, _ =>
    show (if 0 ≤ x then _ else _)
    split
    next e => exact h1 (Int32.le_iff_toInt_le.mp e)
    next e => exact h2 (by rw [Int32.le_iff_toInt_le] at e; show x.toInt < 0; omega)
  | 4, _ =>
    show (if 0 < x then _ else _)
    split
    next e => exact h1 (Int32.lt_iff_toInt_lt.mp e)
    next e => exact h2 (by rw [Int32.lt_iff_toInt_lt] at e; show x.toInt ≤ 0; omega)
  | 5, _ =>
    show (if x ≤ 0 then _ else _)
    split
    next e => exact h1 (Int32.le_iff_toInt_le.mp e)
    next e => exact h2 (by rw [Int32.le_iff_toInt_le] at e; show 0 < x.toInt; omega)
end
end
section
/-! ===== one op ===== -/
def dx_ff : List (Nat × Nat × Nat × Int) → Nat → Nat → Option (Nat × Int)
  | [], _, _ => none
  | q :: r, a, j => if Nat.beq q.1 a && Nat.beq q.2.1 j then some (q.2.2.1, q.2.2.2) else dx_ff r a j
def dx_uni (E : dx_Env) : List Nat → Nat → Nat → Int × Int
  | [], _, _ => dx_full
  | [q], j1, j2 => dx_sgr (E.ce q).iv j1 j2
  | q :: r, j1, j2 => (min (dx_sgr (E.ce q).iv j1 j2).1 (dx_uni E r j1 j2).1, max (dx_sgr (E.ce q).iv j1 j2).2 (dx_uni E r j1 j2).2)
def dx_ld (E : dx_Env) (σ : dx_S) (l : List Nat) (j1 j2 : Nat) (r : List dx_V) : dx_S := match l with
  | [q] => if j1 = j2 then (match dx_ff σ.fa q j1 with
      | some (s, o) => if (dx_rg2 σ s o).1 = (dx_rg2 σ s o).2 then (⟨dx_S.iv σ, dx_S.dc σ, dx_S.ls σ, (.inl (0, (dx_rg2 σ s o).1)) :: r, dx_S.fa σ, dx_S.fl σ⟩ : dx_S) else (⟨dx_S.iv σ, dx_S.dc σ, dx_S.ls σ, (.inl (s, o)) :: r, dx_S.fa σ, dx_S.fl σ⟩ : dx_S)
      | none => if (dx_seg (E.ce q).iv j1).1 = (dx_seg (E.ce q).iv j1).2 then (⟨dx_S.iv σ, dx_S.dc σ, dx_S.ls σ, (.inl (0, (dx_seg (E.ce q).iv j1).1)) :: r, dx_S.fa σ, dx_S.fl σ⟩ : dx_S)
        else (⟨dx_S.iv (dx_nw σ (dx_seg (E.ce q).iv j1)), dx_S.dc (dx_nw σ (dx_seg (E.ce q).iv j1)), dx_S.ls (dx_nw σ (dx_seg (E.ce q).iv j1)), (.inl (σ.iv.length, 0)) :: r, (q, j1, σ.iv.length, 0) :: σ.fa, dx_S.fl (dx_nw σ (dx_seg (E.ce q).iv j1))⟩ : dx_S))
    else dx_ph σ (dx_sgr (E.ce q).iv j1 j2) r
  | _ => dx_ph σ (dx_uni E l j1 j2) r
def dx_rv (l : List (Option Nat)) : dx_V := if l.all (fun q => q.isSome) then (.inr (.inl (l.filterMap id))) else (.inr (.inr (.inl (l.filterMap id))))
def dx_tok (t : Nat) (p : Int × Int) : Bool := match t with
  | 3 => decide (0 ≤ p.1) && decide (p.2 ≤ 1)
  | 4 => decide (-128 ≤ p.1) && decide (p.2 ≤ 127)
  | _ => true
/-- writing what (sv, ov) says to slots j1 .. j2 of one of l -/
def dx_stw (E : dx_Env) (md : List Nat) (σ : dx_S) (l : List Nat) (t j1 j2 sv : Nat) (ov : Int) (r : List dx_V) : Option dx_S :=
  if l.all (fun q => dx_mem q md && dx_sga (E.ce q).iv j1 j2 (dx_lb σ sv + ov) (dx_ub σ sv + ov)) && dx_tok t (dx_lb σ sv + ov, dx_ub σ sv + ov) then
    some (⟨dx_S.iv σ, dx_S.dc σ, dx_S.ls σ, r, match l with
      | [q] => if j1 = j2 then (q, j1, sv, ov) :: dx_ka l j1 j2 σ.fa else dx_ka l j1 j2 σ.fa
      | _ => dx_ka l j1 j2 σ.fa, dx_kf E l j1 j2 σ.fl⟩ : dx_S)
  else none
def dx_sm (pc : Nat) (o : Option dx_S) : List (Nat × dx_S) := match o with
  | some σ => [(pc, σ)]
  | none => []
def dx_tb (σ : dx_S) (s : Nat) (o v : Int) : List Nat → List (Nat × dx_S)
  | [] => []
  | t :: r => dx_sm t (dx_rf σ 0 s o 0 v) ++ dx_tb σ s o (v + 1) r
def dx_lk (σ : dx_S) (s : Nat) (o : Int) (df : Nat) : List (Int × Nat) → List (Nat × dx_S)
  | [] => [(df, σ)]
  | (k, t) :: r => dx_sm t (dx_rf σ 0 s o 0 k) ++ (match dx_rf σ 1 s o 0 k with
    | some σ' => dx_lk σ' s o df r
    | none => [])
def dx_bo (σ : dx_S) (k s1 : Nat) (o1 : Int) (s2 : Nat) (o2 : Int) (r : List dx_V) : dx_S :=
  if Nat.beq k 0 && Nat.beq s2 0 && dx_i32 ((dx_rg2 σ s1 o1).1 + o2) && dx_i32 ((dx_rg2 σ s1 o1).2 + o2) then (⟨dx_S.iv σ, dx_S.dc σ, dx_S.ls σ, (.inl (s1, (o1 + o2))) :: r, dx_S.fa σ, dx_S.fl σ⟩ : dx_S)
  else if Nat.beq k 0 && Nat.beq s1 0 && dx_i32 ((dx_rg2 σ s2 o2).1 + o1) && dx_i32 ((dx_rg2 σ s2 o2).2 + o1) then (⟨dx_S.iv σ, dx_S.dc σ, dx_S.ls σ, (.inl (s2, (o1 + o2))) :: r, dx_S.fa σ, dx_S.fl σ⟩ : dx_S)
  else if Nat.beq k 1 && Nat.beq s2 0 && dx_i32 ((dx_rg2 σ s1 o1).1 - o2) && dx_i32 ((dx_rg2 σ s1 o1).2 - o2) then (⟨dx_S.iv σ, dx_S.dc σ, dx_S.ls σ, (.inl (s1, (o1 - o2))) :: r, dx_S.fa σ, dx_S.fl σ⟩ : dx_S)
  else dx_ph σ (dx_bi k (dx_rg2 σ s1 o1).1 (dx_rg2 σ s1 o1).2 (dx_rg2 σ s2 o2).1 (dx_rg2 σ s2 o2).2) r
def dx_stp (E : dx_Env) (md : List Nat) (i : dx_I) (σ : dx_S) : Option (List (Nat × dx_S)) := match i with
  | (1, v, a, _, _, _) => if dx_i32 v then some [(a, (⟨dx_S.iv σ, dx_S.dc σ, dx_S.ls σ, (.inl (0, v)) :: σ.st, dx_S.fa σ, dx_S.fl σ⟩ : dx_S))] else none
  | (2, _, a, _, _, _) => some [(a, (⟨dx_S.iv σ, dx_S.dc σ, dx_S.ls σ, (.inr (.inr (.inr false))) :: σ.st, dx_S.fa σ, dx_S.fl σ⟩ : dx_S))]
  | (3, _, a, _, _, _) => some [(a, (⟨dx_S.iv σ, dx_S.dc σ, dx_S.ls σ, (.inr (.inr (.inl []))) :: σ.st, dx_S.fa σ, dx_S.fl σ⟩ : dx_S))]
  | (4, _, a, _, _, _) => some [(a, σ)]
  | (5, _, a, b, _, _) => match σ.ls[a]? with
    | some ((.inl (s, o))) => if (dx_rg2 σ s o).1 = (dx_rg2 σ s o).2 then some [(b, (⟨dx_S.iv σ, dx_S.dc σ, dx_S.ls σ, (.inl (0, (dx_rg2 σ s o).1)) :: σ.st, dx_S.fa σ, dx_S.fl σ⟩ : dx_S))] else some [(b, (⟨dx_S.iv σ, dx_S.dc σ, dx_S.ls σ, (.inl (s, o)) :: σ.st, dx_S.fa σ, dx_S.fl σ⟩ : dx_S))]
    | _ => none
  | (6, _, a, b, _, _) => match σ.ls[a]? with
    | some (.inr (.inr (.inr false))) => some [(b, (⟨dx_S.iv σ, dx_S.dc σ, dx_S.ls σ, (.inr (.inr (.inr false))) :: σ.st, dx_S.fa σ, dx_S.fl σ⟩ : dx_S))]
    | _ => none
  | (7, _, a, b, _, _) => match σ.ls[a]? with
    | some ((.inr (.inl l))) => some [(b, (⟨dx_S.iv σ, dx_S.dc σ, dx_S.ls σ, (.inr (.inl l)) :: σ.st, dx_S.fa σ, dx_S.fl σ⟩ : dx_S))]
    | some ((.inr (.inr (.inl l)))) => some [(b, (⟨dx_S.iv σ, dx_S.dc σ, dx_S.ls σ, (.inr (.inr (.inl l))) :: σ.st, dx_S.fa σ, dx_S.fl σ⟩ : dx_S))]
    | _ => none
  | (8, _, a, b, _, _) => match σ.st with
    | (.inl (s, o)) :: r => if dx_fr σ.ls a then some [(b, (⟨dx_S.iv σ, dx_S.dc σ, σ.ls.set a ((.inl (s, o))), r, dx_S.fa σ, dx_S.fl σ⟩ : dx_S))] else none
    | _ => none
  | (9, _, a, b, _, _) => match σ.st with
    | (.inr (.inl l)) :: r => if dx_fr σ.ls a then some [(b, (⟨dx_S.iv σ, dx_S.dc σ, σ.ls.set a ((.inr (.inl l))), r, dx_S.fa σ, dx_S.fl σ⟩ : dx_S))] else none
    | (.inr (.inr (.inl l))) :: r => if dx_fr σ.ls a then some [(b, (⟨dx_S.iv σ, dx_S.dc σ, σ.ls.set a ((.inr (.inr (.inl l)))), r, dx_S.fa σ, dx_S.fl σ⟩ : dx_S))] else none
    | _ => none
  | (10, v, a, b, _, _) => match σ.ls[a]? with
    | some ((.inl (s, o))) => if dx_fr σ.ls a && dx_i32 v then (if dx_i32 ((dx_rg2 σ s o).1 + v) && dx_i32 ((dx_rg2 σ s o).2 + v) then some [(b, (⟨dx_S.iv σ, dx_S.dc σ, σ.ls.set a ((.inl (s, (o + v)))), dx_S.st σ, dx_S.fa σ, dx_S.fl σ⟩ : dx_S))]
        else some [(b, (⟨dx_S.iv (dx_nw σ dx_full), dx_S.dc (dx_nw σ dx_full), σ.ls.set a ((.inl (σ.iv.length, 0))), dx_S.st (dx_nw σ dx_full), dx_S.fa (dx_nw σ dx_full), dx_S.fl (dx_nw σ dx_full)⟩ : dx_S))]) else none
    | _ => none
  | (11, _, a, _, _, _) => match σ.st with
    | (.inl (s, o)) :: r => some [(a, (⟨dx_S.iv σ, dx_S.dc σ, dx_S.ls σ, (.inl (s, o)) :: (.inl (s, o)) :: r, dx_S.fa σ, dx_S.fl σ⟩ : dx_S))]
    | (.inr (.inl l)) :: r => some [(a, (⟨dx_S.iv σ, dx_S.dc σ, dx_S.ls σ, (.inr (.inl l)) :: (.inr (.inl l)) :: r, dx_S.fa σ, dx_S.fl σ⟩ : dx_S))]
    | _ => none
  | (12, _, a, _, _, _) => match σ.st with
    | (.inl (s, o)) :: (.inr (.inl l)) :: r => some [(a, (⟨dx_S.iv σ, dx_S.dc σ, dx_S.ls σ, (.inl (s, o)) :: (.inr (.inl l)) :: (.inl (s, o)) :: (.inr (.inl l)) :: r, dx_S.fa σ, dx_S.fl σ⟩ : dx_S))]
    | (.inl (s, o)) :: (.inl (s2, o2)) :: r => some [(a, (⟨dx_S.iv σ, dx_S.dc σ, dx_S.ls σ, (.inl (s, o)) :: (.inl (s2, o2)) :: (.inl (s, o)) :: (.inl (s2, o2)) :: r, dx_S.fa σ, dx_S.fl σ⟩ : dx_S))]
    | _ => none
  | (13, _, a, _, _, _) => match σ.st with
    | (.inl (_, _)) :: r => some [(a, (⟨dx_S.iv σ, dx_S.dc σ, dx_S.ls σ, r, dx_S.fa σ, dx_S.fl σ⟩ : dx_S))]
    | _ => none
  | (14, _, a, b, _, _) => match σ.st with
    | (.inr (.inr (.inl []))) :: r => some [(a, (⟨dx_S.iv σ, dx_S.dc σ, dx_S.ls σ, r, dx_S.fa σ, dx_S.fl σ⟩ : dx_S))]
    | (.inr (.inr (.inl _))) :: r => some [(a, (⟨dx_S.iv σ, dx_S.dc σ, dx_S.ls σ, r, dx_S.fa σ, dx_S.fl σ⟩ : dx_S)), (b, (⟨dx_S.iv σ, dx_S.dc σ, dx_S.ls σ, r, dx_S.fa σ, dx_S.fl σ⟩ : dx_S))]
    | (.inr (.inl _)) :: r => some [(b, (⟨dx_S.iv σ, dx_S.dc σ, dx_S.ls σ, r, dx_S.fa σ, dx_S.fl σ⟩ : dx_S))]
    | _ => none
  | (15, _, a, b, _, _) => match σ.st with
    | (.inr (.inr (.inl []))) :: r => some [(b, (⟨dx_S.iv σ, dx_S.dc σ, dx_S.ls σ, r, dx_S.fa σ, dx_S.fl σ⟩ : dx_S))]
    | (.inr (.inr (.inl _))) :: r => some [(b, (⟨dx_S.iv σ, dx_S.dc σ, dx_S.ls σ, r, dx_S.fa σ, dx_S.fl σ⟩ : dx_S)), (a, (⟨dx_S.iv σ, dx_S.dc σ, dx_S.ls σ, r, dx_S.fa σ, dx_S.fl σ⟩ : dx_S))]
    | (.inr (.inl _)) :: r => some [(a, (⟨dx_S.iv σ, dx_S.dc σ, dx_S.ls σ, r, dx_S.fa σ, dx_S.fl σ⟩ : dx_S))]
    | _ => none
  | (16, v, a, _, _, l) => match σ.st with
    | (.inl (s, o)) :: r => some (dx_sm a (dx_rf (⟨dx_S.iv σ, dx_S.dc σ, dx_S.ls σ, r, dx_S.fa σ, dx_S.fl σ⟩ : dx_S) 2 s o 0 v) ++ dx_sm a (dx_rf (⟨dx_S.iv σ, dx_S.dc σ, dx_S.ls σ, r, dx_S.fa σ, dx_S.fl σ⟩ : dx_S) 4 s o 0 (v + (l.length : Int) - 1)) ++ dx_tb (⟨dx_S.iv σ, dx_S.dc σ, dx_S.ls σ, r, dx_S.fa σ, dx_S.fl σ⟩ : dx_S) s o v l)
    | _ => none
  | (17, _, a, _, _, l) => match σ.st with
    | (.inl (s, o)) :: r => some (dx_lk (⟨dx_S.iv σ, dx_S.dc σ, dx_S.ls σ, r, dx_S.fa σ, dx_S.fl σ⟩ : dx_S) s o a (dx_pairs l))
    | _ => none
  | (18, _, a, b, _, _) => match σ.st with
    | (.inl (s2, o2)) :: (.inl (s1, o1)) :: r => if Nat.ble a 11 && (!(Nat.beq a 8 || Nat.beq a 9) || (decide (0 < (dx_rg2 σ s2 o2).1) || decide ((dx_rg2 σ s2 o2).2 < 0))) && (Nat.ble a 9 || Nat.ble (dx_cats r) 8) then some [(b, dx_bo σ a s1 o1 s2 o2 r)] else none
    | _ => none
  | (19, _, a, b, _, _) => match σ.st with
    | (.inl (s, o)) :: r => if Nat.ble a 2 && (Nat.ble a 1 || Nat.ble (dx_cats r) 8) then some [(b, dx_ph σ (dx_ui a (dx_rg2 σ s o).1 (dx_rg2 σ s o).2) r)] else none
    | _ => none
  | (20, _, a, _, _, _) => match σ.st with
    | (.inl (_, _)) :: r => some [(a, (⟨dx_S.iv σ, dx_S.dc σ, dx_S.ls σ, (.inr (.inr (.inr false))) :: r, dx_S.fa σ, dx_S.fl σ⟩ : dx_S))]
    | _ => none
  | (21, _, a, _, _, _) => match σ.st with
    | (.inr (.inr (.inr false))) :: (.inr (.inr (.inr false))) :: r => some [(a, (⟨dx_S.iv σ, dx_S.dc σ, dx_S.ls σ, (.inr (.inr (.inr false))) :: r, dx_S.fa σ, dx_S.fl σ⟩ : dx_S))]
    | _ => none
  | (22, _, a, _, _, _) => match σ.st with
    | (.inl (_, _)) :: (.inr (.inr (.inr false))) :: r => some [(a, (⟨dx_S.iv σ, dx_S.dc σ, dx_S.ls σ, (.inr (.inr (.inr false))) :: r, dx_S.fa σ, dx_S.fl σ⟩ : dx_S))]
    | _ => none
  | (23, _, a, _, _, _) => match σ.st with
    | (.inr (.inr (.inr false))) :: (.inr (.inr (.inr false))) :: r => some [(a, dx_ph σ (-1, 1) r)]
    | _ => none
  | (24, _, a, b, c, _) => match σ.st with
    | (.inl (s2, o2)) :: (.inl (s1, o1)) :: r => if Nat.ble a 5 then some (dx_sm b (dx_rf (⟨dx_S.iv σ, dx_S.dc σ, dx_S.ls σ, r, dx_S.fa σ, dx_S.fl σ⟩ : dx_S) a s1 o1 s2 o2) ++ dx_sm c (dx_rf (⟨dx_S.iv σ, dx_S.dc σ, dx_S.ls σ, r, dx_S.fa σ, dx_S.fl σ⟩ : dx_S) (dx_ng a) s1 o1 s2 o2)) else none
    | _ => none
  | (25, _, a, b, c, _) => match σ.st with
    | (.inl (s1, o1)) :: r => if Nat.ble a 5 then some (dx_sm b (dx_rf (⟨dx_S.iv σ, dx_S.dc σ, dx_S.ls σ, r, dx_S.fa σ, dx_S.fl σ⟩ : dx_S) a s1 o1 0 0) ++ dx_sm c (dx_rf (⟨dx_S.iv σ, dx_S.dc σ, dx_S.ls σ, r, dx_S.fa σ, dx_S.fl σ⟩ : dx_S) (dx_ng a) s1 o1 0 0)) else none
    | _ => none
  | (26, v, a, b, c, _) => match σ.st with
    | (.inr (.inl l)) :: r => if l.all (fun q => Nat.beq (E.ce q).k a) then (match v.toNat with
      | 1 => some [(c, (⟨dx_S.iv σ, dx_S.dc σ, dx_S.ls σ, (.inr (.inr (.inr false))) :: r, dx_S.fa σ, dx_S.fl σ⟩ : dx_S))]
      | 2 => some [(c, (⟨dx_S.iv σ, dx_S.dc σ, dx_S.ls σ, dx_rv (l.map fun q => ((E.ce q).rf[b]?).join) :: r, dx_S.fa σ, dx_S.fl σ⟩ : dx_S))]
      | _ => some [(c, dx_ld E σ l b b r)]) else none
    | _ => none
  | (27, v, a, b, c, _) => match σ.st with
    | (.inl (s, o)) :: (.inr (.inl l)) :: r => if l.all (fun q => Nat.beq (E.ce q).k a) then (match dx_stw E md σ l v.toNat b b s o r with
      | some σ' => some [(c, σ')]
      | none => none) else none
    | _ => none
  | (28, _, a, _, c, _) => match σ.st with
    | (.inr (.inr (.inr false))) :: (.inr (.inl l)) :: r => if l.all (fun q => Nat.beq (E.ce q).k a && dx_mem q md) then some [(c, (⟨dx_S.iv σ, dx_S.dc σ, dx_S.ls σ, r, dx_S.fa σ, dx_S.fl σ⟩ : dx_S))] else none
    | _ => none
  | (29, v, a, _, c, _) => match σ.st with
    | (.inl (s, o)) :: (.inr (.inl l)) :: r => if decide (0 ≤ (dx_rg2 σ s o).1) && l.all (fun q => Nat.beq (E.ce q).k a && decide ((dx_rg2 σ s o).2 < (E.ce q).n)) then (match v.toNat with
      | 1 => some [(c, (⟨dx_S.iv σ, dx_S.dc σ, dx_S.ls σ, (.inr (.inr (.inr false))) :: r, dx_S.fa σ, dx_S.fl σ⟩ : dx_S))]
      | 2 => some [(c, (⟨dx_S.iv σ, dx_S.dc σ, dx_S.ls σ, dx_rv (l.flatMap fun q => (List.range ((dx_rg2 σ s o).2.toNat + 1 - (dx_rg2 σ s o).1.toNat)).map fun j => ((E.ce q).rf[(dx_rg2 σ s o).1.toNat + j]?).join) :: r, dx_S.fa σ, dx_S.fl σ⟩ : dx_S))]
      | _ => some [(c, dx_ld E σ l (dx_rg2 σ s o).1.toNat (dx_rg2 σ s o).2.toNat r)]) else none
    | _ => none
  | (30, v, a, _, c, _) => match σ.st with
    | (.inl (sv, ov)) :: (.inl (s, o)) :: (.inr (.inl l)) :: r => if decide (0 ≤ (dx_rg2 σ s o).1) && l.all (fun q => Nat.beq (E.ce q).k a && decide ((dx_rg2 σ s o).2 < (E.ce q).n)) then (match dx_stw E md σ l v.toNat (dx_rg2 σ s o).1.toNat (dx_rg2 σ s o).2.toNat sv ov r with
      | some σ' => some [(c, σ')]
      | none => none) else none
    | _ => none
  | (31, _, a, _, _, _) => match σ.st with
    | (.inr (.inr (.inr false))) :: (.inl (s, o)) :: (.inr (.inl l)) :: r => if decide (0 ≤ (dx_rg2 σ s o).1) && l.all (fun q => Nat.beq (E.ce q).k 17 && decide ((dx_rg2 σ s o).2 < (E.ce q).n) && dx_mem q md) then some [(a, (⟨dx_S.iv σ, dx_S.dc σ, dx_S.ls σ, r, dx_S.fa σ, dx_S.fl σ⟩ : dx_S))] else none
    | _ => none
  | (32, _, a, _, _, _) => match σ.st with
    | (.inr (.inl (q0 :: l))) :: r => if dx_i32 (E.ce q0).n && (q0 :: l).all (fun q => !(Nat.beq (E.ce q).k 999) && Nat.ble 16 (E.ce q).k && Nat.beq (E.ce q).n (E.ce q0).n) then some [(a, (⟨dx_S.iv σ, dx_S.dc σ, dx_S.ls σ, (.inl (0, (E.ce q0).n)) :: r, dx_S.fa σ, dx_S.fl σ⟩ : dx_S))] else none
    | _ => none
  | (33, _, a, _, _, _) => match σ.st with
    | (.inl (0, n)) :: (.inl (0, dp)) :: (.inr (.inl l2)) :: (.inl (0, sp)) :: (.inr (.inl l1)) :: r => if Nat.ble (dx_cats r) 8 && decide (1 ≤ n) && decide (0 ≤ dp) && decide (0 ≤ sp) && l1.all (fun q => Nat.beq (E.ce q).k 16 && decide (sp + n ≤ (E.ce q).n)) && l2.all (fun q => Nat.beq (E.ce q).k 16 && decide (dp + n ≤ (E.ce q).n) && dx_mem q md
        && l1.all (fun q1 => dx_sga (E.ce q).iv dp.toNat (dp.toNat + (n.toNat - 1)) (dx_sgr (E.ce q1).iv sp.toNat (sp.toNat + (n.toNat - 1))).1 (dx_sgr (E.ce q1).iv sp.toNat (sp.toNat + (n.toNat - 1))).2)) then
        some [(a, (⟨dx_S.iv σ, dx_S.dc σ, dx_S.ls σ, r, dx_ka l2 dp.toNat (dp.toNat + n.toNat) σ.fa, dx_kf E l2 dp.toNat (dp.toNat + n.toNat) σ.fl⟩ : dx_S))] else none
    | _ => none
  | (40, v, a, _, _, _) => some [(a, (⟨dx_S.iv σ, dx_S.dc σ, dx_S.ls σ, (.inr (.inl [1000001 + v.toNat])) :: σ.st, dx_S.fa σ, dx_S.fl σ⟩ : dx_S))]
  | _ => none
end
section
section
variable {E : dx_Env} {md : List Nat} {n0 : Nat} {ν0 : Nat → Int} {μ0 : dw_S} {ν : Nat → Int} {σ : dx_S} {ls : dw_L} {st : List Value} {μ : dw_S}
theorem dx_inv {k : Nat} {v : dx_V} {r : List dx_V} (h : dx_gL k ν (v :: r) (st.map some)) : ∃ x st', st = x :: st' ∧ dx_gV k ν v (some x) ∧ dx_gL k ν r (st'.map some) := by
  match st, h with
  | x :: st', h => exact ⟨x, st', rfl, h.1, h.2⟩
theorem dx_ff_ok {a j s : Nat} {o : Int} : ∀ {l : List (Nat × Nat × Nat × Int)}, dx_ff l a j = some (s, o) → (a, j, s, o) ∈ l
  | [], h => by cases h
  | q :: r, h => by
    unfold dx_ff at h
    by_cases e : (Nat.beq q.1 a && Nat.beq q.2.1 j) = true
    · rw [if_pos e] at h
      rw [Bool.and_eq_true] at e
      have e1 := Nat.eq_of_beq_eq_true e.1
      have e2 := Nat.eq_of_beq_eq_true e.2
      obtain ⟨q1, q2, q3, q4⟩ := q
      simp only [Option.some.injEq, Prod.mk.injEq] at h
      obtain ⟨rfl, rfl⟩ := h
      subst e1 e2
      exact List.mem_cons_self
    · rw [if_neg e] at h
      exact List.mem_cons_of_mem _ (dx_ff_ok h)
theorem dx_uni_ok {a j j1 j2 : Nat} {n : Int} (h1 : j1 ≤ j) (h2 : j ≤ j2) (hn : dx_in (dx_seg (E.ce a).iv j) n) : ∀ {l : List Nat}, a ∈ l → dx_in (dx_uni E l j1 j2) n
  | [], h => by cases h
  | [q], h => by
    rw [List.mem_singleton] at h
    subst h
    exact dx_sgr_ok _ _ _ j _ h1 h2 hn
  | q :: q2 :: r, h => by
    show dx_in (min _ _, max _ _) n
    rcases List.mem_cons.mp h with h | h
    · subst h
      have := dx_sgr_ok _ _ _ j _ h1 h2 hn
      have t1 := this.1
      have t2 := this.2
      exact ⟨by show min _ _ ≤ n; omega, by show n ≤ max _ _; omega⟩
    · have := dx_uni_ok h1 h2 hn h
      have t1 := this.1
      have t2 := this.2
      exact ⟨by show min _ _ ≤ n; omega, by show n ≤ max _ _; omega⟩
theorem dx_ld_ok {l : List Nat} {a j j1 j2 : Nat} {r : List dx_V} {st2 : List Value} (h : dx_g E md n0 ν0 μ0 ν σ ls (st.map some) μ) (hr : dx_gL σ.iv.length ν r (st2.map some)) (ha : a ∈ l) (h1 : j1 ≤ j) (h2 : j ≤ j2) :
    ∃ ν', dx_g E md n0 ν0 μ0 ν' (dx_ld E σ l j1 j2 r) ls ((.int (μ.2.2.1 a j) :: st2).map some) μ ∧ dx_ext ν σ ν' (dx_ld E σ l j1 j2 r) := by
  have hn := h.hi a j
  unfold dx_ld
  split
  next q =>
    rw [List.mem_singleton] at ha
    subst ha
    split
    next e =>
      have ej : j = j1 := by omega
      subst ej
      split
      next s o hf =>
        have hm := h.fa _ (dx_ff_ok hf)
        split
        next e3 =>
          have hm1 : s < σ.iv.length := hm.1
          have r0 := h.rg (o := o) hm1
          refine ⟨ν, h.stk ⟨⟨h.k1, _, rfl, ?_⟩, hr⟩, dx_ext.rfl rfl⟩
          have hm2 : (μ.2.2.1 a j).toInt = ν s + o := hm.2
          rw [h.z]; omega
        next => exact ⟨ν, h.stk ⟨⟨hm.1, _, rfl, hm.2⟩, hr⟩, dx_ext.rfl rfl⟩
      next hf =>
        split
        next e2 =>
          refine ⟨ν, h.stk ⟨⟨h.k1, _, rfl, ?_⟩, hr⟩, dx_ext.rfl rfl⟩
          have t1 := hn.1
          have t2 := hn.2
          rw [h.z]; omega
        next e2 =>
          have hx : ∀ s, s < σ.iv.length → dx_nu ν σ.iv.length (μ.2.2.1 a j).toInt s = ν s := fun s hs => dx_nu_lt hs
          refine ⟨dx_nu ν σ.iv.length (μ.2.2.1 a j).toInt, ((h.nw hn).stk (vs := (.inl (σ.iv.length, 0)) :: r) (st2 := (.int (μ.2.2.1 a j) :: st2).map some) ⟨⟨?_, _, rfl, ?_⟩, ?_⟩).fas ?_, ⟨hx, ?_⟩⟩
          · rw [dx_nw_len]; omega
          · rw [dx_nu_at]; omega
          · rw [dx_nw_len]; exact dx_gL.ext (by omega) hx hr
          · intro q hq
            show _ < (dx_nw σ _).iv.length ∧ _
            rw [dx_nw_len]
            rcases List.mem_cons.mp hq with rfl | hq
            · refine ⟨by show σ.iv.length < _; omega, ?_⟩
              show (μ.2.2.1 a j).toInt = dx_nu ν σ.iv.length (μ.2.2.1 a j).toInt σ.iv.length + 0
              rw [dx_nu_at]; omega
            · have := h.fa q hq
              rw [hx _ this.1]
              exact ⟨by omega, this.2⟩
          · show _ ≤ (dx_nw σ _).iv.length
            rw [dx_nw_len]; omega
    next e => exact dx_ph_ok h hr (dx_sgr_ok _ _ _ j _ h1 h2 hn)
  next => exact dx_ph_ok h hr (dx_uni_ok h1 h2 hn ha)
theorem dx_rv_ok {k : Nat} {l : List (Option Nat)} {x : Option Nat} (h : x ∈ l) : dx_gV k ν (dx_rv l) (some (dw_rv x)) := by
  unfold dx_rv
  split
  next e =>
    have := List.all_eq_true.mp e x h
    cases x with
    | none => simp at this
    | some a => exact ⟨a, List.mem_filterMap.mpr ⟨some a, h, rfl⟩, rfl⟩
  next e =>
    cases x with
    | none => exact Or.inl rfl
    | some a => exact Or.inr ⟨a, List.mem_filterMap.mpr ⟨some a, h, rfl⟩, rfl⟩
theorem dx_tok_ok {t : Nat} {p : Int × Int} {x : Int32} {P : Prop} (h : dx_tok t p = true) (hx : dx_in p x.toInt) (hP : P) : dw_fitC t x P := by
  have t1 := hx.1
  have t2 := hx.2
  unfold dx_tok at h
  unfold dw_fitC
  split at h
  · rw [Bool.and_eq_true, decide_eq_true_eq, decide_eq_true_eq] at h
    show (if x = 0 ∨ x = 1 then P else False)
    rw [if_pos]
    · exact hP
    · have : x.toInt = 0 ∨ x.toInt = 1 := by omega
      rcases this with e | e
      · exact Or.inl (dx_eqI.mpr (by rw [e]; rfl))
      · exact Or.inr (dx_eqI.mpr (by rw [e]; rfl))
  · rw [Bool.and_eq_true, decide_eq_true_eq, decide_eq_true_eq] at h
    show (if x.toInt8.toInt32 = x then P else False)
    rw [if_pos]
    · exact hP
    · apply dx_eqI.mpr
      rw [Int8.toInt_toInt32, Int32.toInt_toInt8]
      exact Int.bmod_eq_of_le_mul_two (by omega) (by omega)
  next h3 h4 =>
    split
    · exact absurd rfl h3
    · exact absurd rfl h4
    · exact hP
theorem dx_fitI_ok {t : Nat} {x : Int32} {P : Prop} (hP : P) : dw_fitI t x P := by
  unfold dw_fitI
  split
  · exact fun _ => hP
  · exact fun _ => hP
  · exact hP
theorem dx_stw_ok {l : List Nat} {t a j j1 j2 sv : Nat} {ov : Int} {r : List dx_V} {st2 : List Value} {x : Int32} {σ' : dx_S} (hE : E.ok) (hw : dx_stw E md σ l t j1 j2 sv ov r = some σ') (h : dx_g E md n0 ν0 μ0 ν σ ls (st.map some) μ)
    (hs : sv < σ.iv.length) (hx : x.toInt = ν sv + ov) (hr : dx_gL σ.iv.length ν r (st2.map some)) (ha : a ∈ l) (h1 : j1 ≤ j) (h2 : j ≤ j2) :
    (∀ P : Prop, P → dw_fitC t x P) ∧ dx_g E md n0 ν0 μ0 ν σ' ls (st2.map some) (dw_si μ a j x) ∧ dx_ext ν σ ν σ' := by
  unfold dx_stw at hw
  split at hw
  next hc =>
    rw [Bool.and_eq_true] at hc
    have hca := List.all_eq_true.mp hc.1 a ha
    rw [Bool.and_eq_true] at hca
    have hrg : dx_lb σ sv + ov ≤ x.toInt ∧ x.toInt ≤ dx_ub σ sv + ov := by
      have a1 := dx_lb_ok h hs
      have a2 := dx_ub_ok h hs
      omega
    have hseg := dx_sga_ok _ _ _ j _ _ _ hca.2 h1 h2 hrg.1 hrg.2 (show dx_in dx_full _ from ⟨dx_b1 x, dx_b2 x⟩)
    cases hw
    refine ⟨fun P hP => dx_tok_ok hc.2 hrg hP, ?_, dx_ext.rfl rfl⟩
    have g1 := (h.stk (vs := r) hr).wr (l := l) (a := a) (j := j) (j1 := j1) (j2 := j2) (x := x) hE ha (dx_mem_iff.mp hca.1) h1 h2 hseg
    split
    next q =>
      split
      next e =>
        refine g1.fas ?_
        intro q2 hq
        rcases List.mem_cons.mp hq with rfl | hq
        · rw [List.mem_singleton] at ha
          refine ⟨hs, ?_⟩
          have ej : j = j1 := by omega
          show (dw_up μ.2.2.1 a j x q j1).toInt = ν sv + ov
          unfold dw_up
          rw [if_pos ha.symm, if_pos ej.symm]
          exact hx
        · exact g1.fa q2 hq
      next e => exact g1
    next => exact g1
  next => cases hw
end
end
