/-! ===== what is known at a place ===== -/
abbrev dx_V : Type := Nat × Int ⊕ List Nat ⊕ List Nat ⊕ Bool
abbrev dx_C : Type := Nat × Nat × List (Option Nat) × List (Nat × Int × Int)
abbrev dx_C.k (c : dx_C) : Nat := c.1
abbrev dx_C.n (c : dx_C) : Nat := c.2.1
abbrev dx_C.rf (c : dx_C) : List (Option Nat) := c.2.2.1
abbrev dx_C.iv (c : dx_C) : List (Nat × Int × Int) := c.2.2.2
abbrev dx_S : Type := List (Int × Int) × List (Nat × Nat × Int) × List dx_V × List dx_V × List (Nat × Nat × Nat × Int) × List (Nat × Nat × Int)
abbrev dx_S.iv (c : dx_S) : List (Int × Int) := c.1
abbrev dx_S.dc (c : dx_S) : List (Nat × Nat × Int) := c.2.1
abbrev dx_S.ls (c : dx_S) : List dx_V := c.2.2.1
abbrev dx_S.st (c : dx_S) : List dx_V := c.2.2.2.1
abbrev dx_S.fa (c : dx_S) : List (Nat × Nat × Nat × Int) := c.2.2.2.2.1
abbrev dx_S.fl (c : dx_S) : List (Nat × Nat × Int) := c.2.2.2.2.2
/-- what the place is of: shapes, bounds of cells, methods, named properties of the memory and what they speak of -/
abbrev dx_Env : Type := dw_Sh × (Nat → dx_C) × (Nat → dw_T) × (Nat → Int → (Nat → Nat → Int32) → Prop) × (Nat → List (Nat × Nat × Nat))
abbrev dx_Env.SH (E : dx_Env) : dw_Sh := E.1
abbrev dx_Env.ce (E : dx_Env) : Nat → dx_C := E.2.1
abbrev dx_Env.TT (E : dx_Env) : Nat → dw_T := E.2.2.1
abbrev dx_Env.FP (E : dx_Env) : Nat → Int → (Nat → Nat → Int32) → Prop := E.2.2.2.1
abbrev dx_Env.sup (E : dx_Env) : Nat → List (Nat × Nat × Nat) := E.2.2.2.2
abbrev dx_Env.ok (E : dx_Env) : Prop := (∀ a, (E.SH a).1 = (E.ce a).k ∧ (E.SH a).2.1 = (E.ce a).n ∧ ∀ j, (E.SH a).2.2 j = ((E.ce a).rf[j]?).join) ∧ (∀ f x I I', (∀ q ∈ E.sup f, ∀ j, q.2.1 ≤ j → j ≤ q.2.2 → I' q.1 j = I q.1 j) → E.FP f x I → E.FP f x I')
theorem dx_Env.ok.sh {E : dx_Env} (h : dx_Env.ok E) : ∀ a, (E.SH a).1 = (E.ce a).k ∧ (E.SH a).2.1 = (E.ce a).n ∧ ∀ j, (E.SH a).2.2 j = ((E.ce a).rf[j]?).join := h.1
theorem dx_Env.ok.fp {E : dx_Env} (h : dx_Env.ok E) : ∀ f x I I', (∀ q ∈ E.sup f, ∀ j, q.2.1 ≤ j → j ≤ q.2.2 → I' q.1 j = I q.1 j) → E.FP f x I → E.FP f x I' := h.2
def dx_gi : List (Int × Int) → Nat → Int × Int
  | [], _ => dx_full
  | p :: _, 0 => p
  | _ :: r, n + 1 => dx_gi r n
def dx_sv : List (Int × Int) → Nat → Int × Int → List (Int × Int)
  | [], _, _ => []
  | _ :: r, 0, q => q :: r
  | p :: r, n + 1, q => p :: dx_sv r n q
theorem dx_sv_len : ∀ (l : List (Int × Int)) (n : Nat) (q : Int × Int), (dx_sv l n q).length = l.length
  | [], _, _ => rfl
  | _ :: r, 0, _ => rfl
  | _ :: r, n + 1, q => by simp only [dx_sv, List.length_cons, dx_sv_len r n q]
theorem dx_gi_sv : ∀ (l : List (Int × Int)) (n m : Nat) (q : Int × Int), dx_gi (dx_sv l n q) m = if m = n ∧ n < l.length then q else dx_gi l m
  | [], n, m, q => by simp [dx_sv]
  | p :: r, 0, 0, q => by simp [dx_sv, dx_gi]
  | p :: r, 0, m + 1, q => by simp [dx_sv, dx_gi]
  | p :: r, n + 1, 0, q => by simp [dx_sv, dx_gi]
  | p :: r, n + 1, m + 1, q => by
    simp only [dx_sv, dx_gi, dx_gi_sv r n m q, List.length_cons]
    by_cases h : m = n ∧ n < r.length
    · rw [if_pos h, if_pos (by omega)]
    · rw [if_neg h, if_neg (by omega)]
theorem dx_gi_ap : ∀ (l : List (Int × Int)) (q : Int × Int) (m : Nat), dx_gi (l ++ [q]) m = if m = l.length then q else dx_gi l m
  | [], q, 0 => rfl
  | [], q, m + 1 => rfl
  | p :: r, q, 0 => by simp [dx_gi]
  | p :: r, q, m + 1 => by
    simp only [List.cons_append, dx_gi, dx_gi_ap r q m, List.length_cons]
    by_cases h : m = r.length
    · rw [if_pos h, if_pos (by omega)]
    · rw [if_neg h, if_neg (by omega)]
def dx_in (p : Int × Int) (n : Int) : Prop := p.1 ≤ n ∧ n ≤ p.2
def dx_seg : List (Nat × Int × Int) → Nat → Int × Int
  | [], _ => dx_full
  | (c, l, h) :: r, j => if j < c then (l, h) else dx_seg r (j - c)
/-- what lies in the slots l .. h -/
def dx_sgr : List (Nat × Int × Int) → Nat → Nat → Int × Int
  | [], _, _ => dx_full
  | (c, lo, hi) :: r, l, h => if h < c then (lo, hi) else if l < c then (min lo (dx_sgr r 0 (h - c)).1, max hi (dx_sgr r 0 (h - c)).2) else dx_sgr r (l - c) (h - c)
theorem dx_sgr_ok : ∀ (s : List (Nat × Int × Int)) (l h j : Nat) (n : Int), l ≤ j → j ≤ h → dx_in (dx_seg s j) n → dx_in (dx_sgr s l h) n
  | [], _, _, _, _, _, _, h => h
  | (c, lo, hi) :: r, l, h, j, n, h1, h2, h3 => by
    unfold dx_seg at h3
    unfold dx_sgr
    by_cases e : h < c
    · rw [if_pos e]; rw [if_pos (by omega)] at h3; exact h3
    · rw [if_neg e]
      by_cases e2 : l < c
      · rw [if_pos e2]
        by_cases e3 : j < c
        · rw [if_pos e3] at h3
          exact ⟨by show min lo _ ≤ n; have := h3.1; have : lo ≤ n := this; omega, by show n ≤ max hi _; have := h3.2; have : n ≤ hi := this; omega⟩
        · rw [if_neg e3] at h3
          have := dx_sgr_ok r 0 (h - c) (j - c) n (by omega) (by omega) h3
          have t1 := this.1
          have t2 := this.2
          exact ⟨by show min lo _ ≤ n; omega, by show n ≤ max hi _; omega⟩
      · rw [if_neg e2]
        rw [if_neg (by omega)] at h3
        exact dx_sgr_ok r (l - c) (h - c) (j - c) n (by omega) (by omega) h3
/-- may what is in p be written to each of the slots l .. h -/
def dx_sga : List (Nat × Int × Int) → Nat → Nat → Int → Int → Bool
  | [], _, _, _, _ => true
  | (c, lo, hi) :: r, l, h, a, b => (decide (c ≤ l) || (decide (lo ≤ a) && decide (b ≤ hi))) && (decide (h < c) || dx_sga r (l - c) (h - c) a b)
theorem dx_sga_ok : ∀ (s : List (Nat × Int × Int)) (l h j : Nat) (a b n : Int), dx_sga s l h a b = true → l ≤ j → j ≤ h → a ≤ n → n ≤ b → dx_in dx_full n → dx_in (dx_seg s j) n
  | [], _, _, _, _, _, _, _, _, _, _, _, h => h
  | (c, lo, hi) :: r, l, h, j, a, b, n, h0, h1, h2, h3, h4, h5 => by
    unfold dx_sga at h0
    rw [Bool.and_eq_true, Bool.or_eq_true, Bool.or_eq_true, Bool.and_eq_true, decide_eq_true_eq, decide_eq_true_eq, decide_eq_true_eq, decide_eq_true_eq] at h0
    unfold dx_seg
    by_cases e : j < c
    · rw [if_pos e]
      rcases h0.1 with q | q
      · omega
      · exact ⟨by show lo ≤ n; omega, by show n ≤ hi; omega⟩
    · rw [if_neg e]
      rcases h0.2 with q | q
      · omega
      · exact dx_sga_ok r (l - c) (h - c) (j - c) a b n q (by omega) (by omega) h3 h4 h5
def dx_gV (k : Nat) (ν : Nat → Int) : dx_V → Option Value → Prop
  | (.inl (s, o)), x => s < k ∧ ∃ w : Int32, x = some (.int w) ∧ w.toInt = ν s + o
  | (.inr (.inl l)), x => ∃ a, a ∈ l ∧ x = some (.ref a)
  | (.inr (.inr (.inl l))), x => x = some .null ∨ ∃ a, a ∈ l ∧ x = some (.ref a)
  | (.inr (.inr (.inr false))), x => ∃ w, x = some (.long w)
  | (.inr (.inr (.inr true))), x => ∀ v, x = some v → v.category = 1
def dx_gL (k : Nat) (ν : Nat → Int) : List dx_V → dw_L → Prop
  | [], [] => True
  | v :: r, x :: q => dx_gV k ν v x ∧ dx_gL k ν r q
  | [], _ :: _ => False
  | _ :: _, [] => False
theorem dx_gV.ext {k k' : Nat} {ν ν' : Nat → Int} (hk : k ≤ k') (he : ∀ s, s < k → ν' s = ν s) {v : dx_V} {x : Option Value} (h : dx_gV k ν v x) : dx_gV k' ν' v x := by
  rcases v with ⟨s, o⟩ | l | l | _ | _
  · skip
    obtain ⟨h1, w, h2, h3⟩ := h
    exact ⟨by omega, w, h2, by rw [he s h1]; exact h3⟩
  · exact h
  · exact h
  · exact h
  · exact h
theorem dx_gL.ext {k k' : Nat} {ν ν' : Nat → Int} (hk : k ≤ k') (he : ∀ s, s < k → ν' s = ν s) : ∀ {vs : List dx_V} {xs : dw_L}, dx_gL k ν vs xs → dx_gL k' ν' vs xs
  | [], [], _ => trivial
  | v :: r, x :: q, h => ⟨dx_gV.ext hk he h.1, dx_gL.ext hk he h.2⟩
  | [], _ :: _, h => h.elim
  | _ :: _, [], h => h.elim
abbrev dx_g (E : dx_Env) (md : List Nat) (n0 : Nat) (ν0 : Nat → Int) (μ0 : dw_S) (ν : Nat → Int) (σ : dx_S) (ls st : dw_L) (μ : dw_S) : Prop := (μ.2.1 = E.SH) ∧ (∀ a j, dx_in (dx_seg (E.ce a).iv j) (μ.2.2.1 a j).toInt) ∧ (∀ a, a ∉ md → μ.2.2.1 a = μ0.2.2.1 a ∧ μ.2.2.2 a = μ0.2.2.2 a) ∧ (ν 0 = 0) ∧ (n0 ≤ σ.iv.length) ∧ (0 < σ.iv.length) ∧ (∀ s, s < n0 → ν s = ν0 s) ∧ (∀ s, s < σ.iv.length → dx_in (dx_gi σ.iv s) (ν s)) ∧ (∀ q ∈ σ.dc, q.1 < σ.iv.length ∧ q.2.1 < σ.iv.length ∧ ν q.1 - ν q.2.1 ≤ q.2.2) ∧ (dx_gL σ.iv.length ν σ.ls ls) ∧ (dx_gL σ.iv.length ν σ.st st) ∧ (∀ q ∈ σ.fa, q.2.2.1 < σ.iv.length ∧ (μ.2.2.1 q.1 q.2.1).toInt = ν q.2.2.1 + q.2.2.2) ∧ (∀ q ∈ σ.fl, q.2.1 < σ.iv.length ∧ E.FP q.1 (ν q.2.1 + q.2.2) μ.2.2.1)
theorem dx_g.sh {E : dx_Env}{md : List Nat}{n0 : Nat}{ν0 : Nat → Int}{μ0 : dw_S}{ν : Nat → Int}{σ : dx_S}{ls st : dw_L}{μ : dw_S} (h : dx_g E md n0 ν0 μ0 ν σ ls st μ) : μ.2.1 = E.SH := h.1
theorem dx_g.hi {E : dx_Env}{md : List Nat}{n0 : Nat}{ν0 : Nat → Int}{μ0 : dw_S}{ν : Nat → Int}{σ : dx_S}{ls st : dw_L}{μ : dw_S} (h : dx_g E md n0 ν0 μ0 ν σ ls st μ) : ∀ a j, dx_in (dx_seg (E.ce a).iv j) (μ.2.2.1 a j).toInt := h.2.1
theorem dx_g.fr {E : dx_Env}{md : List Nat}{n0 : Nat}{ν0 : Nat → Int}{μ0 : dw_S}{ν : Nat → Int}{σ : dx_S}{ls st : dw_L}{μ : dw_S} (h : dx_g E md n0 ν0 μ0 ν σ ls st μ) : ∀ a, a ∉ md → μ.2.2.1 a = μ0.2.2.1 a ∧ μ.2.2.2 a = μ0.2.2.2 a := h.2.2.1
theorem dx_g.z {E : dx_Env}{md : List Nat}{n0 : Nat}{ν0 : Nat → Int}{μ0 : dw_S}{ν : Nat → Int}{σ : dx_S}{ls st : dw_L}{μ : dw_S} (h : dx_g E md n0 ν0 μ0 ν σ ls st μ) : ν 0 = 0 := h.2.2.2.1
theorem dx_g.k0 {E : dx_Env}{md : List Nat}{n0 : Nat}{ν0 : Nat → Int}{μ0 : dw_S}{ν : Nat → Int}{σ : dx_S}{ls st : dw_L}{μ : dw_S} (h : dx_g E md n0 ν0 μ0 ν σ ls st μ) : n0 ≤ σ.iv.length := h.2.2.2.2.1
theorem dx_g.k1 {E : dx_Env}{md : List Nat}{n0 : Nat}{ν0 : Nat → Int}{μ0 : dw_S}{ν : Nat → Int}{σ : dx_S}{ls st : dw_L}{μ : dw_S} (h : dx_g E md n0 ν0 μ0 ν σ ls st μ) : 0 < σ.iv.length := h.2.2.2.2.2.1
theorem dx_g.ag {E : dx_Env}{md : List Nat}{n0 : Nat}{ν0 : Nat → Int}{μ0 : dw_S}{ν : Nat → Int}{σ : dx_S}{ls st : dw_L}{μ : dw_S} (h : dx_g E md n0 ν0 μ0 ν σ ls st μ) : ∀ s, s < n0 → ν s = ν0 s := h.2.2.2.2.2.2.1
theorem dx_g.iv {E : dx_Env}{md : List Nat}{n0 : Nat}{ν0 : Nat → Int}{μ0 : dw_S}{ν : Nat → Int}{σ : dx_S}{ls st : dw_L}{μ : dw_S} (h : dx_g E md n0 ν0 μ0 ν σ ls st μ) : ∀ s, s < σ.iv.length → dx_in (dx_gi σ.iv s) (ν s) := h.2.2.2.2.2.2.2.1
theorem dx_g.dc {E : dx_Env}{md : List Nat}{n0 : Nat}{ν0 : Nat → Int}{μ0 : dw_S}{ν : Nat → Int}{σ : dx_S}{ls st : dw_L}{μ : dw_S} (h : dx_g E md n0 ν0 μ0 ν σ ls st μ) : ∀ q ∈ σ.dc, q.1 < σ.iv.length ∧ q.2.1 < σ.iv.length ∧ ν q.1 - ν q.2.1 ≤ q.2.2 := h.2.2.2.2.2.2.2.2.1
theorem dx_g.gl {E : dx_Env}{md : List Nat}{n0 : Nat}{ν0 : Nat → Int}{μ0 : dw_S}{ν : Nat → Int}{σ : dx_S}{ls st : dw_L}{μ : dw_S} (h : dx_g E md n0 ν0 μ0 ν σ ls st μ) : dx_gL σ.iv.length ν σ.ls ls := h.2.2.2.2.2.2.2.2.2.1
theorem dx_g.gs {E : dx_Env}{md : List Nat}{n0 : Nat}{ν0 : Nat → Int}{μ0 : dw_S}{ν : Nat → Int}{σ : dx_S}{ls st : dw_L}{μ : dw_S} (h : dx_g E md n0 ν0 μ0 ν σ ls st μ) : dx_gL σ.iv.length ν σ.st st := h.2.2.2.2.2.2.2.2.2.2.1
theorem dx_g.fa {E : dx_Env}{md : List Nat}{n0 : Nat}{ν0 : Nat → Int}{μ0 : dw_S}{ν : Nat → Int}{σ : dx_S}{ls st : dw_L}{μ : dw_S} (h : dx_g E md n0 ν0 μ0 ν σ ls st μ) : ∀ q ∈ σ.fa, q.2.2.1 < σ.iv.length ∧ (μ.2.2.1 q.1 q.2.1).toInt = ν q.2.2.1 + q.2.2.2 := h.2.2.2.2.2.2.2.2.2.2.2.1
theorem dx_g.fl {E : dx_Env}{md : List Nat}{n0 : Nat}{ν0 : Nat → Int}{μ0 : dw_S}{ν : Nat → Int}{σ : dx_S}{ls st : dw_L}{μ : dw_S} (h : dx_g E md n0 ν0 μ0 ν σ ls st μ) : ∀ q ∈ σ.fl, q.2.1 < σ.iv.length ∧ E.FP q.1 (ν q.2.1 + q.2.2) μ.2.2.1 := h.2.2.2.2.2.2.2.2.2.2.2.2
/-- a new unknown -/
def dx_nw (σ : dx_S) (p : Int × Int) : dx_S := (⟨σ.iv ++ [p], dx_S.dc σ, dx_S.ls σ, dx_S.st σ, dx_S.fa σ, dx_S.fl σ⟩ : dx_S)
section
variable {E : dx_Env} {md : List Nat} {n0 : Nat} {ν0 : Nat → Int} {μ0 : dw_S} {ν : Nat → Int} {σ : dx_S} {ls st : dw_L} {μ : dw_S}
def dx_nu (ν : Nat → Int) (k : Nat) (n : Int) : Nat → Int := fun s => if s = k then n else ν s
theorem dx_nu_lt {k s : Nat} {n : Int} (h : s < k) : dx_nu ν k n s = ν s := by unfold dx_nu; rw [if_neg (by omega)]
theorem dx_nu_at {k : Nat} {n : Int} : dx_nu ν k n k = n := by unfold dx_nu; rw [if_pos rfl]
theorem dx_nw_len {p : Int × Int} : (dx_nw σ p).iv.length = σ.iv.length + 1 := by show (σ.iv ++ [p]).length = _; simp
theorem dx_g.nw {p : Int × Int} {n : Int} (h : dx_g E md n0 ν0 μ0 ν σ ls st μ) (hn : dx_in p n) : dx_g E md n0 ν0 μ0 (dx_nu ν σ.iv.length n) (dx_nw σ p) ls st μ := by
  have he : ∀ s, s < σ.iv.length → dx_nu ν σ.iv.length n s = ν s := fun s hs => dx_nu_lt hs
  refine ⟨h.sh, h.hi, h.fr, ?_, ?_, ?_, ?_, ?_, ?_, ?_, ?_, ?_, ?_⟩
  · rw [he 0 h.k1]; exact h.z
  · rw [dx_nw_len]; have := h.k0; omega
  · rw [dx_nw_len]; omega
  · intro s hs; rw [he s (by have := h.k0; omega)]; exact h.ag s hs
  · intro s hs
    rw [dx_nw_len] at hs
    show dx_in (dx_gi (σ.iv ++ [p]) s) _
    rw [dx_gi_ap]
    by_cases e : s = σ.iv.length
    · rw [if_pos e, e, dx_nu_at]; exact hn
    · rw [if_neg e, he s (by omega)]; exact h.iv s (by omega)
  · intro q hq
    have := h.dc q hq
    rw [dx_nw_len, he _ this.1, he _ this.2.1]
    exact ⟨by omega, by omega, this.2.2⟩
  · rw [dx_nw_len]; exact dx_gL.ext (by omega) he h.gl
  · rw [dx_nw_len]; exact dx_gL.ext (by omega) he h.gs
  · intro q hq
    have := h.fa q hq
    rw [dx_nw_len, he _ this.1]
    exact ⟨by omega, this.2⟩
  · intro q hq
    have := h.fl q hq
    rw [dx_nw_len, he _ this.1]
    exact ⟨by omega, this.2⟩
theorem dx_g.stk {st2 : dw_L} {vs : List dx_V} (h : dx_g E md n0 ν0 μ0 ν σ ls st μ) (hs : dx_gL σ.iv.length ν vs st2) : dx_g E md n0 ν0 μ0 ν (⟨dx_S.iv σ, dx_S.dc σ, dx_S.ls σ, vs, dx_S.fa σ, dx_S.fl σ⟩ : dx_S) ls st2 μ :=
  ⟨h.sh, h.hi, h.fr, h.z, h.k0, h.k1, h.ag, h.iv, h.dc, h.gl, hs, h.fa, h.fl⟩
theorem dx_g.lcl {ls2 : dw_L} {vs : List dx_V} (h : dx_g E md n0 ν0 μ0 ν σ ls st μ) (hs : dx_gL σ.iv.length ν vs ls2) : dx_g E md n0 ν0 μ0 ν (⟨dx_S.iv σ, dx_S.dc σ, vs, dx_S.st σ, dx_S.fa σ, dx_S.fl σ⟩ : dx_S) ls2 st μ :=
  ⟨h.sh, h.hi, h.fr, h.z, h.k0, h.k1, h.ag, h.iv, h.dc, hs, h.gs, h.fa, h.fl⟩
theorem dx_g.ivs {iv2 : List (Int × Int)} (h : dx_g E md n0 ν0 μ0 ν σ ls st μ) (hl : iv2.length = σ.iv.length) (hi : ∀ s, s < σ.iv.length → dx_in (dx_gi iv2 s) (ν s)) : dx_g E md n0 ν0 μ0 ν (⟨iv2, dx_S.dc σ, dx_S.ls σ, dx_S.st σ, dx_S.fa σ, dx_S.fl σ⟩ : dx_S) ls st μ := by
  refine ⟨h.sh, h.hi, h.fr, h.z, ?_, ?_, h.ag, ?_, ?_, ?_, ?_, ?_, ?_⟩
  · show n0 ≤ iv2.length; rw [hl]; exact h.k0
  · show 0 < iv2.length; rw [hl]; exact h.k1
  · show ∀ s, s < iv2.length → _; rw [hl]; exact hi
  · show ∀ q ∈ σ.dc, q.1 < iv2.length ∧ q.2.1 < iv2.length ∧ _; rw [hl]; exact h.dc
  · show dx_gL iv2.length _ _ _; rw [hl]; exact h.gl
  · show dx_gL iv2.length _ _ _; rw [hl]; exact h.gs
  · show ∀ q ∈ σ.fa, q.2.2.1 < iv2.length ∧ _; rw [hl]; exact h.fa
  · show ∀ q ∈ σ.fl, q.2.1 < iv2.length ∧ _; rw [hl]; exact h.fl
theorem dx_g.dcs {dc2 : List (Nat × Nat × Int)} (h : dx_g E md n0 ν0 μ0 ν σ ls st μ) (hd : ∀ q ∈ dc2, q.1 < σ.iv.length ∧ q.2.1 < σ.iv.length ∧ ν q.1 - ν q.2.1 ≤ q.2.2) : dx_g E md n0 ν0 μ0 ν (⟨dx_S.iv σ, dc2, dx_S.ls σ, dx_S.st σ, dx_S.fa σ, dx_S.fl σ⟩ : dx_S) ls st μ :=
  ⟨h.sh, h.hi, h.fr, h.z, h.k0, h.k1, h.ag, h.iv, hd, h.gl, h.gs, h.fa, h.fl⟩
theorem dx_g.fas {fa2 : List (Nat × Nat × Nat × Int)} (h : dx_g E md n0 ν0 μ0 ν σ ls st μ) (hf : ∀ q ∈ fa2, q.2.2.1 < σ.iv.length ∧ (μ.2.2.1 q.1 q.2.1).toInt = ν q.2.2.1 + q.2.2.2) : dx_g E md n0 ν0 μ0 ν (⟨dx_S.iv σ, dx_S.dc σ, dx_S.ls σ, dx_S.st σ, fa2, dx_S.fl σ⟩ : dx_S) ls st μ :=
  ⟨h.sh, h.hi, h.fr, h.z, h.k0, h.k1, h.ag, h.iv, h.dc, h.gl, h.gs, hf, h.fl⟩
theorem dx_gL.get : ∀ {vs : List dx_V} {xs : dw_L} {k : Nat} {ν : Nat → Int} {i : Nat} {v : dx_V}, dx_gL k ν vs xs → vs[i]? = some v → ∃ x, xs[i]? = some x ∧ dx_gV k ν v x
  | [], [], _, _, _, _, _, h => by simp at h
  | v :: r, x :: q, k, ν, 0, w, h, h2 => by
    simp only [List.getElem?_cons_zero, Option.some.injEq] at h2
    subst h2
    exact ⟨x, rfl, h.1⟩
  | v :: r, x :: q, k, ν, i + 1, w, h, h2 => by
    simp only [List.getElem?_cons_succ] at h2 ⊢
    exact dx_gL.get h.2 h2
  | [], _ :: _, _, _, _, _, h, _ => h.elim
  | _ :: _, [], _, _, _, _, h, _ => h.elim
theorem dx_gL.set : ∀ {vs : List dx_V} {xs : dw_L} {k : Nat} {ν : Nat → Int} {i : Nat} {v : dx_V} {x : Option Value}, dx_gL k ν vs xs → dx_gV k ν v x → dx_gL k ν (vs.set i v) (xs.set i x)
  | [], [], _, _, _, _, _, h, _ => h
  | v :: r, x :: q, k, ν, 0, w, y, h, h2 => ⟨h2, h.2⟩
  | v :: r, x :: q, k, ν, i + 1, w, y, h, h2 => ⟨h.1, dx_gL.set h.2 h2⟩
  | [], _ :: _, _, _, _, _, _, h, _ => h.elim
  | _ :: _, [], _, _, _, _, _, h, _ => h.elim
theorem dx_gL.len : ∀ {vs : List dx_V} {xs : dw_L} {k : Nat} {ν : Nat → Int}, dx_gL k ν vs xs → vs.length = xs.length
  | [], [], _, _, _ => rfl
  | _ :: r, _ :: q, _, _, h => by simp only [List.length_cons, dx_gL.len h.2]
  | [], _ :: _, _, _, h => h.elim
  | _ :: _, [], _, _, h => h.elim
end
