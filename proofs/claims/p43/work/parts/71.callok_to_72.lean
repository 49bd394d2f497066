section
section
variable {E : dx_Env} {md : List Nat} {n0 : Nat} {ν0 : Nat → Int} {μ0 : dw_S} {ν : Nat → Int} {σ : dx_S} {ls : dw_L} {st : List Value} {μ : dw_S}
theorem dx_gL.take : ∀ {vs : List dx_V} {xs : dw_L} {k : Nat} (n : Nat), dx_gL k ν vs xs → dx_gL k ν (vs.take n) (xs.take n) ∧ dx_gL k ν (vs.drop n) (xs.drop n)
  | vs, xs, _, 0, h => ⟨trivial, h⟩
  | [], [], _, n + 1, h => ⟨h, h⟩
  | v :: r, x :: q, _, n + 1, h => ⟨⟨h.1, (dx_gL.take n h.2).1⟩, (dx_gL.take n h.2).2⟩
  | [], _ :: _, _, _ + 1, h => h.elim
  | _ :: _, [], _, _ + 1, h => h.elim
theorem dx_gL.app : ∀ {vs vs2 : List dx_V} {xs xs2 : dw_L} {k : Nat}, dx_gL k ν vs xs → dx_gL k ν vs2 xs2 → dx_gL k ν (vs ++ vs2) (xs ++ xs2)
  | [], _, [], _, _, _, h2 => h2
  | v :: r, _, x :: q, _, _, h, h2 => ⟨h.1, dx_gL.app h.2 h2⟩
  | [], _, _ :: _, _, _, h, _ => h.elim
  | _ :: _, _, [], _, _, h, _ => h.elim
theorem dx_gL.rev : ∀ {vs : List dx_V} {xs : dw_L} {k : Nat}, dx_gL k ν vs xs → dx_gL k ν vs.reverse xs.reverse
  | [], [], _, _ => trivial
  | v :: r, x :: q, _, h => by
    rw [List.reverse_cons, List.reverse_cons]
    exact dx_gL.app (dx_gL.rev h.2) ⟨h.1, trivial⟩
  | [], _ :: _, _, h => h.elim
  | _ :: _, [], _, h => h.elim
theorem dx_sp_eq : ∀ (n : Nat) (st acc : List Value), n ≤ st.length → dw_sp n st acc = ((st.take n).reverse ++ acc, st.drop n)
  | 0, st, acc, _ => by simp [dw_sp]
  | n + 1, v :: st, acc, h => by
    simp only [dw_sp]
    rw [dx_sp_eq n st (v :: acc) (by simpa using h)]
    simp
  | n + 1, [], acc, h => by simp at h
theorem dx_ri_len : ∀ (b : List (Nat × Int)) (p iv : List (Int × Int)), (dx_ri iv b p).length = iv.length
  | [], _, iv => by unfold dx_ri; rfl
  | (s, o) :: b, [], iv => by unfold dx_ri; rfl
  | (s, o) :: b, q :: r, iv => by
    unfold dx_ri
    rw [dx_ri_len b r, dx_sv_len]
theorem dx_ri_ok : ∀ (b : List (Nat × Int)) (p iv : List (Int × Int)), (∀ s, s < iv.length → dx_in (dx_gi iv s) (ν s)) → dx_bw iv.length b → (∀ t, t < b.length → t < p.length → dx_in (dx_gi p t) (dx_bn ν b t)) → ∀ s, s < iv.length → dx_in (dx_gi (dx_ri iv b p) s) (ν s)
  | [], _, iv, h, _, _ => by unfold dx_ri; exact h
  | (s, o) :: b, [], iv, h, _, _ => by unfold dx_ri; exact h
  | (s, o) :: b, q :: r, iv, h, hb, hp => by
    intro s' hs'
    unfold dx_ri
    have hs : s < iv.length := hb 0 _ rfl
    have h0 := hp 0 (Nat.zero_lt_succ _) (Nat.zero_lt_succ _)
    have h0' : dx_in q (ν s + o) := h0
    have h1 := h s hs
    refine dx_ri_ok b r _ (fun m hm => ?_) (fun t z hz => ?_) (fun t ht htr => ?_) s' (by rw [dx_sv_len]; exact hs')
    · rw [dx_gi_sv]
      rw [dx_sv_len] at hm
      split
      next e =>
        rw [e.1]
        have a1 := h0'.1
        have a2 := h0'.2
        have a3 := h1.1
        have a4 := h1.2
        exact ⟨by show max _ _ ≤ ν s; omega, by show ν s ≤ min _ _; omega⟩
      next => exact h m hm
    · rw [dx_sv_len]; exact hb (t + 1) z hz
    · exact hp (t + 1) (Nat.succ_lt_succ ht) (Nat.succ_lt_succ htr)
theorem dx_gi_app : ∀ (l r : List (Int × Int)) (m : Nat), dx_gi (l ++ r) m = if m < l.length then dx_gi l m else dx_gi r (m - l.length)
  | [], r, m => by simp
  | p :: l, r, 0 => by simp [dx_gi]
  | p :: l, r, m + 1 => by
    simp only [List.cons_append, dx_gi, dx_gi_app l r m, List.length_cons]
    by_cases h : m < l.length
    · rw [if_pos h, if_pos (by omega)]
    · rw [if_neg h, if_neg (by omega)]; congr 1; omega
theorem dx_gi_drop : ∀ (l : List (Int × Int)) (n m : Nat), dx_gi (l.drop n) m = dx_gi l (n + m)
  | l, 0, m => by simp
  | [], n + 1, m => by simp [dx_gi]
  | p :: l, n + 1, m => by
    rw [List.drop_succ_cons, dx_gi_drop l n m, show n + 1 + m = (n + m) + 1 by omega]
    rfl
theorem dx_emp_ok {iv : List (Int × Int)} (h : ∀ s, s < iv.length → dx_in (dx_gi iv s) (ν s)) : dx_emp iv = false := by
  induction iv generalizing ν with
  | nil => rfl
  | cons p r ih =>
    unfold dx_emp
    rw [List.any_cons]
    have h0 := h 0 (Nat.zero_lt_succ _)
    have h0' : dx_in p (ν 0) := h0
    have a1 := h0'.1
    have a2 := h0'.2
    rw [decide_eq_false (by omega), Bool.false_or]
    exact ih (ν := fun s => ν (s + 1)) (fun s hs => h (s + 1) (Nat.succ_lt_succ hs))
/-- the bindings behind a call: new unknowns of the callee are new ones of the caller -/
def dx_bb (b : List (Nat × Int)) (k n : Nat) : List (Nat × Int) := b ++ (List.range (n - b.length)).map (fun t => (k + t, (0 : Int)))
def dx_n2 (ν1 ν2 : Nat → Int) (k bl : Nat) : Nat → Int := fun s => if s < k then ν1 s else ν2 (bl + (s - k))
theorem dx_bs_ok {ν1 ν2 : Nat → Int} {b : List (Nat × Int)} {k n t : Nat} {o : Int} (hb : dx_bw k b) (hn : b.length ≤ n) (ht : t < n) (ha : ∀ t, t < b.length → ν2 t = dx_bn ν1 b t) :
    (dx_bs (dx_bb b k n) t o).1 < k + (n - b.length) ∧ dx_n2 ν1 ν2 k b.length (dx_bs (dx_bb b k n) t o).1 + (dx_bs (dx_bb b k n) t o).2 = ν2 t + o := by
  unfold dx_bs dx_bb
  by_cases h : t < b.length
  · obtain ⟨q, hq⟩ : ∃ q, b[t]? = some q := ⟨_, List.getElem?_eq_getElem h⟩
    obtain ⟨s, o1⟩ := q
    have hs : s < k := hb _ _ hq
    rw [List.getElem?_append_left h, hq]
    refine ⟨by show s < _; omega, ?_⟩
    show dx_n2 ν1 ν2 k b.length s + (o1 + o) = _
    unfold dx_n2
    rw [if_pos hs, ha t h, dx_bn_at hq]; omega
  · rw [List.getElem?_append_right (by omega), List.getElem?_map, List.getElem?_range (by omega)]
    refine ⟨by show k + (t - b.length) < _; omega, ?_⟩
    show dx_n2 ν1 ν2 k b.length (k + (t - b.length)) + (0 + o) = _
    unfold dx_n2
    rw [if_neg (by omega), show b.length + (k + (t - b.length) - k) = t by omega]; omega
theorem dx_vb_ok {ν1 ν2 : Nat → Int} {b : List (Nat × Int)} {k n : Nat} {v : dx_V} {x : Option Value} (hb : dx_bw k b) (hn : b.length ≤ n) (ha : ∀ t, t < b.length → ν2 t = dx_bn ν1 b t) (h : dx_gV n ν2 v x) : dx_gV (k + (n - b.length)) (dx_n2 ν1 ν2 k b.length) (dx_vb (dx_bb b k n) v) x := by
  rcases v with ⟨s, o⟩ | l | l | _ | _
  · skip
    obtain ⟨h1, w, h2, h3⟩ := h
    obtain ⟨q1, q2⟩ := dx_bs_ok (o := o) hb hn h1 ha
    exact ⟨q1, w, h2, by rw [q2]; exact h3⟩
  · exact h
  · exact h
  · exact h
  · exact h
theorem dx_vbL_ok {ν1 ν2 : Nat → Int} {b : List (Nat × Int)} {k n : Nat} (hb : dx_bw k b) (hn : b.length ≤ n) (ha : ∀ t, t < b.length → ν2 t = dx_bn ν1 b t) : ∀ {vs : List dx_V} {xs : dw_L}, dx_gL n ν2 vs xs → dx_gL (k + (n - b.length)) (dx_n2 ν1 ν2 k b.length) (vs.map (dx_vb (dx_bb b k n))) xs
  | [], [], _ => trivial
  | v :: r, x :: q, h => ⟨dx_vb_ok hb hn ha h.1, dx_vbL_ok hb hn ha h.2⟩
  | [], _ :: _, h => h.elim
  | _ :: _, [], h => h.elim
theorem dx_tg_len : ∀ (d : List (Nat × Nat × Int)) (iv : List (Int × Int)), (dx_tg d iv).length = iv.length
  | [], iv => rfl
  | (a, b, c) :: r, iv => by
    unfold dx_tg
    rw [dx_tg_len r, dx_sv_len, dx_sv_len]
theorem dx_tg_ok : ∀ (d : List (Nat × Nat × Int)) (iv : List (Int × Int)), (∀ s, s < iv.length → dx_in (dx_gi iv s) (ν s)) → (∀ q ∈ d, q.1 < iv.length ∧ q.2.1 < iv.length ∧ ν q.1 - ν q.2.1 ≤ q.2.2) → ∀ s, s < iv.length → dx_in (dx_gi (dx_tg d iv) s) (ν s)
  | [], iv, h, _ => h
  | (a, b, c) :: r, iv, h, hd => by
    obtain ⟨ha, hb, hc⟩ := hd (a, b, c) List.mem_cons_self
    have ha' : a < iv.length := ha
    have hb' : b < iv.length := hb
    have hc' : ν a - ν b ≤ c := hc
    have h1 : ∀ s, s < iv.length → dx_in (dx_gi (dx_sv iv a ((dx_gi iv a).1, min (dx_gi iv a).2 ((dx_gi iv b).2 + c))) s) (ν s) := by
      intro s hs
      rw [dx_gi_sv]
      split
      next e =>
        have q1 := h a ha'
        have q2 := h b hb'
        rw [e.1]
        exact ⟨q1.1, by show ν a ≤ min _ _; have := q1.2; have := q2.2; omega⟩
      next => exact h s hs
    have h2 : ∀ s, s < iv.length → dx_in (dx_gi (dx_sv (dx_sv iv a ((dx_gi iv a).1, min (dx_gi iv a).2 ((dx_gi iv b).2 + c))) b (max (dx_gi (dx_sv iv a ((dx_gi iv a).1, min (dx_gi iv a).2 ((dx_gi iv b).2 + c))) b).1 ((dx_gi (dx_sv iv a ((dx_gi iv a).1, min (dx_gi iv a).2 ((dx_gi iv b).2 + c))) a).1 - c), (dx_gi (dx_sv iv a ((dx_gi iv a).1, min (dx_gi iv a).2 ((dx_gi iv b).2 + c))) b).2)) s) (ν s) := by
      intro s hs
      rw [dx_gi_sv (n := b)]
      split
      next e =>
        have q1 := h1 a ha'
        have q2 := h1 b hb'
        rw [e.1]
        exact ⟨by show max _ _ ≤ ν b; have := q1.1; have := q2.1; omega, q2.2⟩
      next => exact h1 s hs
    intro s hs
    unfold dx_tg
    refine dx_tg_ok r _ (fun s hs => h2 s (by rw [dx_sv_len, dx_sv_len] at hs; exact hs)) (fun q hq => ?_) s (by rw [dx_sv_len, dx_sv_len]; exact hs)
    rw [dx_sv_len, dx_sv_len]
    exact hd q (List.mem_cons_of_mem _ hq)
theorem dx_inf_ok {st : dw_L} (g : dx_g E md n0 ν0 μ0 ν σ ls st μ) : dx_inf σ = false := by
  unfold dx_inf
  rw [dx_emp_ok g.iv, Bool.false_or]
  cases h : σ.dc.any (fun q => decide (dx_df σ q.2.1 q.1 + q.2.2 < 0)) with
  | false => rfl
  | true =>
    exfalso
    obtain ⟨q, h1, h2⟩ := List.any_eq_true.mp h
    rw [decide_eq_true_eq] at h2
    have h3 := g.dc q h1
    have h4 := dx_df_ok g h3.2.1 h3.1
    have h5 := h3.2.2
    omega
theorem dx_ap_ok {cur : dx_S} {ν1 ν2 : Nat → Int} {b : List (Nat × Int)} {q : dx_Inst} {P : dx_S} {args : dw_L} {vls vst : List dx_V} {μ' : dw_S} {rest rr : dw_L} (hE : E.ok)
    (g1 : dx_g E md n0 ν0 μ0 ν1 cur args [] μ) (hb : dx_bw cur.iv.length b) (hbl : b.length = q.pre.iv.length) (gP : dx_g E q.md q.pre.iv.length (dx_bn ν1 b) μ ν2 P rr [] μ') (hmd : dx_sb q.md md = true)
    (hl : dx_gL cur.iv.length ν1 vls ls) (hs : dx_gL cur.iv.length ν1 vst rest) :
    dx_g E md n0 ν0 μ0 (dx_n2 ν1 ν2 cur.iv.length b.length) (dx_ap E cur vls vst b q P) ls (rr ++ rest) μ' ∧ (∀ s, s < cur.iv.length → dx_n2 ν1 ν2 cur.iv.length b.length s = ν1 s) ∧ cur.iv.length ≤ (dx_ap E cur vls vst b q P).iv.length := by
  have hn : b.length ≤ P.iv.length := by rw [hbl]; exact gP.k0
  have ha : ∀ t, t < b.length → ν2 t = dx_bn ν1 b t := fun t ht => gP.ag t (by rw [← hbl]; exact ht)
  have hlt : ∀ s, s < cur.iv.length → dx_n2 ν1 ν2 cur.iv.length b.length s = ν1 s := fun s hs => by unfold dx_n2; rw [if_pos hs]
  have hlen0 : (dx_ri cur.iv b P.iv ++ P.iv.drop b.length).length = cur.iv.length + (P.iv.length - b.length) := by
    rw [List.length_append, dx_ri_len, List.length_drop]
  have hlen : (dx_ap E cur vls vst b q P).iv.length = cur.iv.length + (P.iv.length - b.length) := by
    show (dx_tg _ (dx_ri cur.iv b P.iv ++ P.iv.drop b.length)).length = _
    rw [dx_tg_len, hlen0]
  have hri : ∀ s, s < cur.iv.length → dx_in (dx_gi (dx_ri cur.iv b P.iv) s) (ν1 s) := dx_ri_ok b P.iv cur.iv g1.iv hb (fun t ht htp => by rw [← ha t ht]; exact gP.iv t htp)
  have hbs : ∀ (t : Nat) (o : Int), t < P.iv.length → (dx_bs (dx_bb b cur.iv.length P.iv.length) t o).1 < cur.iv.length + (P.iv.length - b.length) ∧ dx_n2 ν1 ν2 cur.iv.length b.length (dx_bs (dx_bb b cur.iv.length P.iv.length) t o).1 + (dx_bs (dx_bb b cur.iv.length P.iv.length) t o).2 = ν2 t + o := fun t o ht => dx_bs_ok hb hn ht ha
  have hdc : ∀ d ∈ P.dc.map (fun d => ((dx_bs (dx_bb b cur.iv.length P.iv.length) d.1 0).1, (dx_bs (dx_bb b cur.iv.length P.iv.length) d.2.1 0).1, d.2.2 - (dx_bs (dx_bb b cur.iv.length P.iv.length) d.1 0).2 + (dx_bs (dx_bb b cur.iv.length P.iv.length) d.2.1 0).2)), d.1 < cur.iv.length + (P.iv.length - b.length) ∧ d.2.1 < cur.iv.length + (P.iv.length - b.length) ∧ dx_n2 ν1 ν2 cur.iv.length b.length d.1 - dx_n2 ν1 ν2 cur.iv.length b.length d.2.1 ≤ d.2.2 := by
    intro d hd
    obtain ⟨d0, h1, h2⟩ := List.mem_map.mp hd
    subst h2
    have h3 := gP.dc d0 h1
    obtain ⟨a1, a2⟩ := hbs d0.1 0 h3.1
    obtain ⟨b1, b2⟩ := hbs d0.2.1 0 h3.2.1
    refine ⟨a1, b1, ?_⟩
    have h4 := h3.2.2
    show dx_n2 ν1 ν2 cur.iv.length b.length (dx_bs (dx_bb b cur.iv.length P.iv.length) d0.1 0).1 - dx_n2 ν1 ν2 cur.iv.length b.length (dx_bs (dx_bb b cur.iv.length P.iv.length) d0.2.1 0).1 ≤ d0.2.2 - (dx_bs (dx_bb b cur.iv.length P.iv.length) d0.1 0).2 + (dx_bs (dx_bb b cur.iv.length P.iv.length) d0.2.1 0).2
    omega
  have hiv : ∀ s, s < (dx_ap E cur vls vst b q P).iv.length → dx_in (dx_gi (dx_ap E cur vls vst b q P).iv s) (dx_n2 ν1 ν2 cur.iv.length b.length s) := by
    intro s hs
    rw [hlen] at hs
    refine dx_tg_ok _ _ (fun s hs => ?_) (fun d hd => by rw [hlen0]; exact hdc d hd) s (by rw [hlen0]; exact hs)
    rw [hlen0] at hs
    rw [dx_gi_app, dx_ri_len]
    by_cases e : s < cur.iv.length
    · rw [if_pos e, hlt s e]; exact hri s e
    · rw [if_neg e, dx_gi_drop]
      unfold dx_n2
      rw [if_neg e]
      exact gP.iv _ (by omega)
  refine ⟨?_, hlt, by rw [hlen]; omega⟩
  refine ⟨gP.sh, gP.hi, ?_, ?_, ?_, ?_, ?_, ?_, ?_, ?_, ?_, ?_, ?_⟩
  · intro a hn
    have h1 := gP.fr a (fun h => hn (dx_sb_ok hmd h))
    have h2 := g1.fr a hn
    exact ⟨h1.1.trans h2.1, h1.2.trans h2.2⟩
  · rw [hlt 0 g1.k1]; exact g1.z
  · rw [hlen]; have := g1.k0; omega
  · rw [hlen]; have := g1.k1; omega
  · intro s hs; rw [hlt s (by have := g1.k0; omega)]; exact g1.ag s hs
  · exact hiv
  · intro d hd
    rw [hlen]
    rcases List.mem_append.mp hd with hd | hd
    · exact hdc d hd
    · have h3 := g1.dc d hd
      rw [hlt _ h3.1, hlt _ h3.2.1]
      exact ⟨by omega, by omega, h3.2.2⟩
  · rw [hlen]; exact dx_gL.ext (by omega) hlt hl
  · rw [hlen]; exact dx_gL.app (dx_vbL_ok hb hn ha gP.gl) (dx_gL.ext (by omega) hlt hs)
  · intro f hf
    rw [hlen]
    rcases List.mem_append.mp hf with hf | hf
    · obtain ⟨f0, h1, h2⟩ := List.mem_map.mp hf
      subst h2
      have h3 := gP.fa f0 h1
      obtain ⟨a1, a2⟩ := hbs f0.2.2.1 f0.2.2.2 h3.1
      exact ⟨a1, by rw [h3.2]; exact a2.symm⟩
    · obtain ⟨h1, h2⟩ := List.mem_filter.mp hf
      have h3 := g1.fa f h1
      rw [hlt _ h3.1, ← h3.2]
      refine ⟨by omega, ?_⟩
      have h4 : f.1 ∉ q.md := by
        intro h5
        rw [dx_mem_iff.mpr h5] at h2
        cases h2
      rw [(gP.fr _ h4).1]
  · intro f hf
    rw [hlen]
    rcases List.mem_append.mp hf with hf | hf
    · obtain ⟨f0, h1, h2⟩ := List.mem_map.mp hf
      subst h2
      have h3 := gP.fl f0 h1
      obtain ⟨a1, a2⟩ := hbs f0.2.1 f0.2.2 h3.1
      refine ⟨a1, ?_⟩
      show E.FP f0.1 (dx_n2 ν1 ν2 cur.iv.length b.length (dx_bs (dx_bb b cur.iv.length P.iv.length) f0.2.1 f0.2.2).1 + (dx_bs (dx_bb b cur.iv.length P.iv.length) f0.2.1 f0.2.2).2) μ'.2.2.1
      rw [a2]
      exact h3.2
    · obtain ⟨h1, h2⟩ := List.mem_filter.mp hf
      have h3 := g1.fl f h1
      rw [hlt _ h3.1]
      refine ⟨by omega, hE.fp f.1 _ _ _ ?_ h3.2⟩
      intro z hz j _ _
      have h4 : z.1 ∉ q.md := by
        intro h5
        have t : (E.sup f.1).any (fun q' => dx_mem q'.1 q.md) = true := List.any_eq_true.mpr ⟨z, hz, dx_mem_iff.mpr h5⟩
        rw [t] at h2
        cases h2
      rw [(gP.fr _ h4).1]
end
end
section
section
variable {E : dx_Env} {md : List Nat} {n0 : Nat} {ν0 : Nat → Int} {μ0 : dw_S} {ν : Nat → Int} {σ : dx_S} {ls : dw_L} {st : List Value} {μ : dw_S}
theorem dx_call_ok {X : dx_X} {j m n nx bc bs : Nat} {ci : Option Nat} {k : Nat → dx_S → Bool} {B : dw_B} (hE : X.E.ok) (hq : X.q.md = md) (hOK : ∀ j, j < X.i → dx_OK X.E (X.Is j)) (h : dx_call X j m n nx ci k σ = true)
    (g : dx_g X.E md n0 ν0 μ0 ν σ ls (st.map some) μ)
    (hk : ∀ pc' σ' ν' ls' st' μ', k pc' σ' = true → dx_g X.E md n0 ν0 μ0 ν' σ' ls' (List.map some st') μ' → dx_ext ν σ ν' σ' → B pc' bc bs ls' st' μ') :
    (match ci with
      | some ci => o_callV ci n 0 0 (X.E.TT m) nx
      | none => o_callS n 0 0 (X.E.TT m) nx) B bc bs ls st μ := by
  unfold dx_call at h
  rw [Bool.and_eq_true] at h
  have h := h.2
  unfold dx_call0 at h
  rw [Bool.and_eq_true, Bool.and_eq_true, Bool.and_eq_true, Bool.and_eq_true, Bool.and_eq_true, Bool.and_eq_true] at h
  obtain ⟨⟨⟨⟨⟨⟨c1, c2⟩, c3⟩, c4⟩, c5⟩, c6⟩, c7⟩ := h
  have c1' : j < X.i := by rw [Nat.blt_eq] at c1; exact c1
  have c2' := Nat.eq_of_beq_eq_true c2
  have c3' := Nat.le_of_ble_eq_true c3
  have hlen : st.length = σ.st.length := by have := g.gs.len; rw [List.length_map] at this; omega
  have hsp : dw_sp n st [] = ((st.take n).reverse, st.drop n) := by rw [dx_sp_eq n st [] (by omega), List.append_nil]
  have hT := g.gs.take n
  rw [← List.map_take, ← List.map_drop] at hT
  have hargs : dx_gL σ.iv.length ν (σ.st.take n).reverse ((st.take n).reverse.map some) := by
    rw [List.map_reverse]; exact hT.1.rev
  have hcats : dw_cats (st.drop n) ≤ 8 := by rw [dx_cats_ok hT.2]; exact Nat.le_of_ble_eq_true c4
  have hal : (st.take n).reverse.length = n := by rw [List.length_reverse, List.length_take]; omega
  have key : X.E.TT m (st.take n).reverse μ (fun r μ' => B nx bc bs ls (r.toList ++ st.drop n) μ') := by
    split at c7
    next b hb =>
      have g0 : dx_g X.E md n0 ν0 μ0 ν (⟨dx_S.iv σ, dx_S.dc σ, (σ.st.take n).reverse, [], dx_S.fa σ, dx_S.fl σ⟩ : dx_S) ((st.take n).reverse.map some) ([] : List (Option Value)) μ := (g.lcl hargs).stk trivial
      obtain ⟨ν1, g1, x1⟩ := dx_mm_ok (fs := (X.Is j).pre.fa) g0
      have hb0 : dx_bw (dx_mm X.E (⟨dx_S.iv σ, dx_S.dc σ, (σ.st.take n).reverse, [], dx_S.fa σ, dx_S.fl σ⟩ : dx_S) (X.Is j).pre.fa).iv.length [(0, 0)] := by
        intro t q hq2
        match t, hq2 with
        | 0, hq2 => cases hq2; exact g1.k1
      obtain ⟨h1, h2, h3, h4⟩ := dx_mat_ok g1 hb0 rfl hb
      have g2 := h4 (X.Is j).md (X.Is j).pre.iv.length (dx_bn ν1 b) μ (fun a _ => ⟨rfl, rfl⟩) (by omega) (fun s _ => rfl)
      rw [← c2']
      refine hOK j c1' _ _ _ _ g2 (fun r μ' ν2 P hP gP => ?_)
      have hpo := List.all_eq_true.mp c7 P hP
      obtain ⟨q1, q2, q3⟩ := dx_ap_ok (ls := ls) (vls := σ.ls) (vst := σ.st.drop n) (rest := (st.drop n).map some) hE g1 h2 h3 gP (by rw [← hq]; exact c5) (dx_gL.ext x1.2 x1.1 g.gl) (dx_gL.ext x1.2 x1.1 hT.2)
      rw [dx_inf_ok q1, Bool.false_or] at hpo
      refine hk nx _ _ ls (r.toList ++ st.drop n) μ' hpo (by rw [List.map_append]; exact q1) ⟨fun s hs => ?_, ?_⟩
      · rw [q2 s (Nat.lt_of_lt_of_le hs x1.2)]; exact x1.1 s hs
      · exact Nat.le_trans x1.2 q3
    next => cases c7
  cases ci with
  | none =>
    show (match dw_sp n st [] with | (as, rest) => if as.length = n ∧ dw_cats rest ≤ 8 ∧ 0 ≤ bc ∧ 0 ≤ bs then X.E.TT m as μ (fun r μ' => B nx (bc - 0) (bs - 0) ls (r.toList ++ rest) μ') else False)
    rw [hsp]
    show (if (st.take n).reverse.length = n ∧ dw_cats (st.drop n) ≤ 8 ∧ 0 ≤ bc ∧ 0 ≤ bs then _ else False)
    rw [if_pos ⟨hal, hcats, Nat.zero_le _, Nat.zero_le _⟩]
    exact key
  | some ci =>
    have hne : ∃ a as, (st.take n).reverse = .ref a :: as ∧ (μ.2.1 a).1 = ci := by
      generalize (σ.st.take n).reverse = vs at c6 hargs
      generalize (st.take n).reverse = ws at hargs
      match vs, ws, c6, hargs with
      | (.inr (.inl l)) :: _, x :: as, c6, hargs =>
        obtain ⟨a, h1, h2⟩ := hargs.1
        cases h2
        refine ⟨a, as, rfl, ?_⟩
        rw [g.sh, (hE.sh a).1]
        exact Nat.eq_of_beq_eq_true (List.all_eq_true.mp c6 a h1)
      | (.inr (.inl _)) :: _, [], _, hargs => exact hargs.elim
    obtain ⟨a, as, e1, e2⟩ := hne
    show (match dw_sp n st [] with | (.ref a :: as, rest) => if (μ.2.1 a).1 = ci ∧ as.length + 1 = n ∧ dw_cats rest ≤ 8 ∧ 0 ≤ bc ∧ 0 ≤ bs then X.E.TT m (.ref a :: as) μ (fun r μ' => B nx (bc - 0) (bs - 0) ls (r.toList ++ rest) μ') else False | _ => False)
    rw [hsp, e1]
    rw [e1] at hal key
    show (if (μ.2.1 a).1 = ci ∧ as.length + 1 = n ∧ dw_cats (st.drop n) ≤ 8 ∧ 0 ≤ bc ∧ 0 ≤ bs then _ else False)
    rw [if_pos ⟨e2, hal, hcats, Nat.zero_le _, Nat.zero_le _⟩]
    exact key
/-- a return -/
theorem dx_post_ok {X : dx_X} {r : List dx_V} {xs : List Value} (hn : X.q.pre.iv.length = n0) (hn0 : 0 < n0) (g : dx_g X.E md n0 ν0 μ0 ν σ ls (st.map some) μ) (hr : dx_gL σ.iv.length ν r (xs.map some)) (h : dx_post X σ r = true) :
    ∃ P ν', P ∈ X.q.po ∧ dx_g X.E md n0 ν0 μ0 ν' P (xs.map some) [] μ := by
  unfold dx_post at h
  obtain ⟨P, hP, h2⟩ := List.any_eq_true.mp h
  rw [hn] at h2
  split at h2
  next b hb =>
    have g0 : dx_g X.E md n0 ν0 μ0 ν (⟨dx_S.iv σ, dx_S.dc σ, r, [], dx_S.fa σ, dx_S.fl σ⟩ : dx_S) (xs.map some) ([] : List (Option Value)) μ := (g.lcl hr).stk trivial
    obtain ⟨ν1, -, -, -, g2⟩ := dx_id_ok hn0 g0 hb
    exact ⟨P, _, hP, g2⟩
  next => cases h2
theorem dx_at_ok {X : dx_X} {K : dw_K} {k : Nat → dx_S → Bool} {B : dw_B} {pc bc bs : Nat} (hE : X.E.ok) (hq : X.q.md = md) (hn : X.q.pre.iv.length = n0) (hn0 : 0 < n0) (hOK : ∀ j, j < X.i → dx_OK X.E (X.Is j)) (h : dx_at X k pc σ = true)
    (g : dx_g X.E md n0 ν0 μ0 ν σ ls (st.map some) μ)
    (hK : ∀ (r : Option Value) (μ' : dw_S) (ν' : Nat → Int) (P : dx_S), P ∈ X.q.po → dx_g X.E md n0 ν0 μ0 ν' P (r.toList.map some) [] μ' → K r μ')
    (hk : ∀ pc' σ' ν' ls' st' μ', k pc' σ' = true → dx_g X.E md n0 ν0 μ0 ν' σ' ls' (List.map some st') μ' → dx_ext ν σ ν' σ' → B pc' bc bs ls' st' μ') : dx_ins X.E.TT K (X.pg pc) B bc bs ls st μ := by
  unfold dx_at at h
  split at h
  next e =>
    rw [e]
    split at h
    next s o hs =>
      have gs := g.gs
      rw [hs] at gs
      obtain ⟨x, st', rfl, hv, hr⟩ := dx_inv gs
      match st', hr with
      | [], _ =>
        obtain ⟨h1, w, h2, h3⟩ := hv
        cases h2
        obtain ⟨P, ν', p1, p2⟩ := dx_post_ok (r := [(.inl (s, o))]) (xs := [.int w]) hn hn0 g ⟨⟨h1, w, rfl, h3⟩, trivial⟩ h
        exact hK (some (.int w)) μ ν' P p1 p2
    next => cases h
  next e =>
    rw [e]
    split at h
    next s o hs =>
      rw [Bool.and_eq_true, Bool.and_eq_true, decide_eq_true_eq, decide_eq_true_eq] at h
      have gs := g.gs
      rw [hs] at gs
      obtain ⟨x, st', rfl, hv, hr⟩ := dx_inv gs
      match st', hr with
      | [], _ =>
        obtain ⟨h1, w, h2, h3⟩ := hv
        cases h2
        have rg := g.rg (o := o) h1
        obtain ⟨P, ν', p1, p2⟩ := dx_post_ok (r := [(.inl (s, o))]) (xs := [.int w]) hn hn0 g ⟨⟨h1, w, rfl, h3⟩, trivial⟩ h.2
        show (if w = 0 ∨ w = 1 then K (some (.int w)) μ else False)
        rw [if_pos]
        · exact hK (some (.int w)) μ ν' P p1 p2
        · have : w.toInt = 0 ∨ w.toInt = 1 := by omega
          rcases this with e | e
          · exact Or.inl (dx_eqI.mpr (by rw [e]; rfl))
          · exact Or.inr (dx_eqI.mpr (by rw [e]; rfl))
    next => cases h
  next e =>
    rw [e]
    split at h
    next hs =>
      have gs := g.gs
      rw [hs] at gs
      match st, gs with
      | [], _ =>
        obtain ⟨P, ν', p1, p2⟩ := dx_post_ok (r := []) (xs := []) hn hn0 g trivial h
        exact hK none μ ν' P p1 p2
    next => cases h
  next e =>
    rw [e]
    split at h
    next l hs =>
      have gs := g.gs
      rw [hs] at gs
      obtain ⟨x, st', rfl, hv, hr⟩ := dx_inv gs
      match st', hr with
      | [], _ =>
        obtain ⟨a, h1, h2⟩ := hv
        cases h2
        obtain ⟨P, ν', p1, p2⟩ := dx_post_ok (r := [(.inr (.inl l))]) (xs := [.ref a]) hn hn0 g ⟨⟨a, h1, rfl⟩, trivial⟩ h
        exact hK (some (.ref a)) μ ν' P p1 p2
    next l hs =>
      have gs := g.gs
      rw [hs] at gs
      obtain ⟨x, st', rfl, hv, hr⟩ := dx_inv gs
      match st', hr with
      | [], _ =>
        rcases hv with h2 | ⟨a, h1, h2⟩
        · cases h2
          obtain ⟨P, ν', p1, p2⟩ := dx_post_ok (r := [(.inr (.inr (.inl l)))]) (xs := [.null]) hn hn0 g ⟨Or.inl rfl, trivial⟩ h
          exact hK (some .null) μ ν' P p1 p2
        · cases h2
          obtain ⟨P, ν', p1, p2⟩ := dx_post_ok (r := [(.inr (.inr (.inl l)))]) (xs := [.ref a]) hn hn0 g ⟨Or.inr ⟨a, h1, rfl⟩, trivial⟩ h
          exact hK (some (.ref a)) μ ν' P p1 p2
    next => cases h
  next v a b c _ e =>
    rw [e]
    split at h
    next js hj =>
      obtain ⟨j, -, hj2⟩ := List.any_eq_true.mp h
      exact dx_call_ok hE hq hOK hj2 g hk
    next => cases h
  next v a _ c _ e =>
    rw [e]
    split at h
    next js hj =>
      obtain ⟨j, -, hj2⟩ := List.any_eq_true.mp h
      exact dx_call_ok hE hq hOK hj2 g hk
    next => cases h
  next =>
    split at h
    next out ho =>
      rw [hq] at ho
      refine dx_stp_ok hE ho g (fun pc' σ' ν' ls' st' μ' hm g' x' => ?_)
      exact hk pc' σ' ν' ls' st' μ' (List.all_eq_true.mp h _ hm) g' x'
    next => cases h
theorem dx_lx_ok {k : Nat} (h : dx_gL k ν σ.ls ls) : ∀ {lx : List Nat} {vs : List dx_V}, dx_lx σ.ls lx = some vs → ∃ xs : dw_L, lx.map (fun i => ls[i]?) = xs.map some ∧ dx_gL k ν vs xs
  | [], vs, e => by
    unfold dx_lx at e
    cases e
    exact ⟨[], rfl, trivial⟩
  | i :: r, vs, e => by
    unfold dx_lx at e
    split at e
    next v vs' h1 h2 =>
      cases e
      obtain ⟨xs, q1, q2⟩ := dx_lx_ok h h2
      obtain ⟨x, p1, p2⟩ := h.get h1
      exact ⟨x :: xs, by simp only [List.map_cons, p1, q1], p2, q2⟩
    next => cases e
theorem dx_clb_ok {k : Nat} : ∀ (zs : List (Nat × Int32)) {vs : List dx_V} {xs : dw_L}, dx_gL k ν vs xs → dx_gL k ν (dx_clb vs (zs.map (·.1))) (dw_clb xs zs)
  | [], _, _, h => h
  | z :: r, _, _, h => dx_clb_ok r (dx_gL.set h (fun v hv => by cases hv; rfl))
theorem dx_sg1_ok {X : dx_X} {pr : Nat → dw_Op} {k : Nat → dx_S → Bool} {q : dx_Sg} {pc bc bs : Nat} (hE : X.E.ok) (hq : X.q.md = md) (hS : dx_SOKc X.E pr pc q) (h : dx_sg1 X k σ q = true)
    (g : dx_g X.E md n0 ν0 μ0 ν σ ls (st.map some) μ)
    (hk : ∀ pc' σ' ν' ls' st' μ', k pc' σ' = true → dx_g X.E md n0 ν0 μ0 ν' σ' ls' (List.map some st') μ' → dx_ext ν σ ν' σ' → dw_ok pr pc' bc bs ls' st' μ') : dw_ok pr pc bc bs ls st μ := by
  unfold dx_sg1 at h
  rw [Bool.and_eq_true] at h
  have h := h.2
  unfold dx_sg10 at h
  rw [Bool.and_eq_true, Bool.and_eq_true, Bool.and_eq_true] at h
  obtain ⟨⟨⟨c1, c4⟩, c2⟩, c3⟩ := h
  split at c3
  next vs hvs =>
    split at c3
    next b hb =>
      have c1' := Nat.le_of_ble_eq_true c1
      have hlen : st.length = σ.st.length := by have := g.gs.len; rw [List.length_map] at this; omega
      have hT := g.gs.take q.n
      rw [← List.map_take, ← List.map_drop] at hT
      obtain ⟨xs, e1, e2⟩ := dx_lx_ok g.gl hvs
      have hargs : dx_gL σ.iv.length ν (σ.st.take q.n).reverse ((st.take q.n).reverse.map some) := by
        rw [List.map_reverse]; exact hT.1.rev
      have hal : (st.take q.n).reverse.length = q.n := by rw [List.length_reverse, List.length_take]; omega
      have g0 : dx_g X.E md n0 ν0 μ0 ν (⟨dx_S.iv σ, dx_S.dc σ, vs ++ (σ.st.take q.n).reverse, [], dx_S.fa σ, dx_S.fl σ⟩ : dx_S) (xs ++ (st.take q.n).reverse.map some) ([] : List (Option Value)) μ := (g.lcl (dx_gL.app e2 hargs)).stk trivial
      obtain ⟨ν1, g1, x1⟩ := dx_mm_ok (fs := q.q.pre.fa) g0
      have hb0 : dx_bw (dx_mm X.E (⟨dx_S.iv σ, dx_S.dc σ, vs ++ (σ.st.take q.n).reverse, [], dx_S.fa σ, dx_S.fl σ⟩ : dx_S) q.q.pre.fa).iv.length [(0, 0)] := by
        intro t z hq2
        match t, hq2 with
        | 0, hq2 => cases hq2; exact g1.k1
      obtain ⟨h1, h2, h3, h4⟩ := dx_mat_ok g1 hb0 rfl hb
      have g2 := h4 q.q.md q.q.pre.iv.length (dx_bn ν1 b) μ (fun a _ => ⟨rfl, rfl⟩) (by omega) (fun s _ => rfl)
      have key := hS (dx_bn ν1 b) ls xs (st.take q.n).reverse (st.drop q.n) μ bc bs e1 hal (by rw [dx_cats_ok hT.2]; exact Nat.le_of_ble_eq_true c4) g2 (fun pc' P ν2 r zs μ' hzs hP gP => by
        have hpo := List.all_eq_true.mp c3 (pc', P) hP
        obtain ⟨q1, q2, q3⟩ := dx_ap_ok (ls := dw_clb ls zs) (vls := dx_clb σ.ls (dx_cb q)) (vst := σ.st.drop q.n) (rest := (st.drop q.n).map some) hE g1 h2 h3 gP (by rw [← hq]; exact c2) (hzs ▸ dx_clb_ok zs (dx_gL.ext x1.2 x1.1 g.gl)) (dx_gL.ext x1.2 x1.1 hT.2)
        have hpo' : (dx_inf (dx_ap X.E (dx_mm X.E (⟨dx_S.iv σ, dx_S.dc σ, vs ++ (σ.st.take q.n).reverse, [], dx_S.fa σ, dx_S.fl σ⟩ : dx_S) q.q.pre.fa) (dx_clb σ.ls (dx_cb q)) (σ.st.drop q.n) b q.q P) || k pc' (dx_ap X.E (dx_mm X.E (⟨dx_S.iv σ, dx_S.dc σ, vs ++ (σ.st.take q.n).reverse, [], dx_S.fa σ, dx_S.fl σ⟩ : dx_S) q.q.pre.fa) (dx_clb σ.ls (dx_cb q)) (σ.st.drop q.n) b q.q P)) = true := hpo
        rw [dx_inf_ok q1, Bool.false_or] at hpo'
        refine hk pc' _ _ (dw_clb ls zs) (r ++ st.drop q.n) μ' hpo' (by rw [List.map_append]; exact q1) ⟨fun s hs => ?_, ?_⟩
        · rw [q2 s (Nat.lt_of_lt_of_le hs x1.2)]; exact x1.1 s hs
        · exact Nat.le_trans x1.2 q3)
      rw [List.reverse_reverse, List.take_append_drop] at key
      exact key
    next => cases c3
  next => cases c3
theorem dx_cut_ok {k : dx_S → Bool} {Z : Prop} {s : Nat} {o : Int} (hk : ∀ σ', k σ' = true → dx_g E md n0 ν0 μ0 ν σ' ls (st.map some) μ → σ'.iv.length = σ.iv.length → Z) : ∀ (cs : List Int) (σ1 : dx_S), dx_g E md n0 ν0 μ0 ν σ1 ls (st.map some) μ → σ1.iv.length = σ.iv.length → s < σ.iv.length → dx_cut k σ1 s o cs = true → Z
  | [], σ1, g, hl, _, h => hk σ1 h g hl
  | c :: r, σ1, g, hl, hs, h => by
    unfold dx_cut at h
    rw [Bool.and_eq_true] at h
    by_cases e : ν s + o ≤ c
    · obtain ⟨σ', e1, e2, e3⟩ := dx_rf_ok (c := 5) (s2 := 0) (o1 := o) (o2 := c) g (by omega) g.k1 (show ν s + o ≤ ν 0 + c by rw [g.z]; omega)
      have h1 := h.1
      rw [e1] at h1
      exact hk σ' h1 e2 (by omega)
    · obtain ⟨σ', e1, e2, e3⟩ := dx_rf_ok (c := 4) (s2 := 0) (o1 := o) (o2 := c) g (by omega) g.k1 (show ν 0 + c < ν s + o by rw [g.z]; omega)
      have h2 := h.2
      rw [e1] at h2
      exact dx_cut_ok hk r σ' e2 (by omega) hs h2
theorem dx_spl_ok {X : dx_X} {k : dx_S → Bool} {Z : Prop} {pc : Nat} (g : dx_g X.E md n0 ν0 μ0 ν σ ls (st.map some) μ) (h : dx_spl X k pc σ = true) (hk : ∀ σ' ν', k σ' = true → dx_g X.E md n0 ν0 μ0 ν' σ' ls (st.map some) μ → dx_ext ν σ ν' σ' → Z) : Z := by
  unfold dx_spl at h
  split at h
  next => exact hk σ ν h g (dx_ext.rfl rfl)
  next a j cs _ =>
    split at h
    next s o hf =>
      obtain ⟨ν1, g1, x1⟩ := dx_m1_ok (a := a) (j := j) g
      have hs := (g1.fa _ (dx_ff_ok hf)).1
      exact dx_cut_ok (σ := dx_m1 X.E σ a j) (fun σ' q1 q2 q3 => hk σ' ν1 q1 q2 (x1.trans (dx_ext.rfl q3))) cs _ g1 rfl hs h
    next => cases h
  next =>
    split at h
    next s o hf =>
      obtain ⟨x, -, h2, -⟩ := g.gl.get hf
      exact dx_cut_ok (σ := σ) (fun σ' q1 q2 q3 => hk σ' ν q1 q2 (dx_ext.rfl q3)) _ _ g rfl h2 h
    next => cases h
theorem dx_at_no {X : dx_X} {k : Nat → dx_S → Bool} {pc : Nat} {σ : dx_S} (e : (X.pg pc).1 = 0) : dx_at X k pc σ = false := by
  unfold dx_at
  generalize X.pg pc = i at e
  obtain ⟨o, v, a, b, c, l⟩ := i
  cases e
  rfl
theorem dx_go_ok {X : dx_X} {K : dw_K} {pr : Nat → dw_Op} {M : Option dx_M} {N : Int} (hE : X.E.ok) (hq : X.q.md = md) (hn : X.q.pre.iv.length = n0) (hn0 : 0 < n0) (hOK : ∀ j, j < X.i → dx_OK X.E (X.Is j)) (hpr : dx_Is X.E.TT K pr X.pg) (hSG : ∀ p ∈ X.sg, dx_SOKc X.E pr p.1 p.2)
    (hK : ∀ (r : Option Value) (μ' : dw_S) (ν' : Nat → Int) (P : dx_S), P ∈ X.q.po → dx_g X.E md n0 ν0 μ0 ν' P (r.toList.map some) [] μ' → K r μ')
    (hnd : ∀ nd ∈ X.q.nd, ∀ ν' ls st μ bc bs, dx_g X.E md n0 ν0 μ0 ν' nd.2.1 ls (List.map some st) μ → (∀ m, M = some m → dx_ev ν' nd.2.2.1 + nd.2.2.2 + 1 ≤ N) → dw_ok pr nd.1 bc bs ls st μ) :
    ∀ (f pc : Nat) (σ : dx_S) (ν : Nat → Int) (ls : dw_L) (st : List Value) (μ : dw_S) (bc bs : Nat), dx_go X M f pc σ = true → dx_g X.E md n0 ν0 μ0 ν σ ls (st.map some) μ → (∀ m, M = some m → dx_ev ν m.1 + m.2 = N ∧ ∀ q ∈ m.1, q.1 < σ.iv.length) → dw_ok pr pc bc bs ls st μ
  | 0, _, _, _, _, _, _, _, _, h, _, _ => by unfold dx_go at h; cases h
  | f + 1, pc, σ, ν, ls, st, μ, bc, bs, h, g, hm => by
    unfold dx_go at h
    refine dx_spl_ok g h (fun σ1 ν1 h1 g1 x1 => ?_)
    have hm1 : ∀ m, M = some m → dx_ev ν1 m.1 + m.2 = N ∧ ∀ q ∈ m.1, q.1 < σ1.iv.length := by
      intro m em
      obtain ⟨a1, a2⟩ := hm m em
      exact ⟨by rw [dx_ev_ext x1.1 m.1 a2]; exact a1, fun q hq => Nat.lt_of_lt_of_le (a2 q hq) x1.2⟩
    have hk : ∀ pc' σ' ν' ls' st' μ', (match X.q.nd.filter (fun nd => Nat.beq nd.1 pc') with
      | [] => dx_go X M f pc' σ'
      | nds => nds.any (fun nd => dx_edge X M σ' nd.2)) = true → dx_g X.E md n0 ν0 μ0 ν' σ' ls' (List.map some st') μ' → dx_ext ν1 σ1 ν' σ' → dw_ok pr pc' bc bs ls' st' μ' := by
      intro pc' σ' ν' ls' st' μ' h2 g2 x2
      have hm2 : ∀ m, M = some m → dx_ev ν' m.1 + m.2 = N ∧ ∀ q ∈ m.1, q.1 < σ'.iv.length := by
        intro m em
        obtain ⟨a1, a2⟩ := hm1 m em
        exact ⟨by rw [dx_ev_ext x2.1 m.1 a2]; exact a1, fun q hq => Nat.lt_of_lt_of_le (a2 q hq) x2.2⟩
      split at h2
      next => exact dx_go_ok hE hq hn hn0 hOK hpr hSG hK hnd f pc' σ' ν' ls' st' μ' bc bs h2 g2 hm2
      next nds _ =>
        obtain ⟨nd, q1, q2⟩ := List.any_eq_true.mp h2
        obtain ⟨q3, q4⟩ := List.mem_filter.mp q1
        have q5 := Nat.eq_of_beq_eq_true q4
        obtain ⟨ν3, g3, m3⟩ := dx_edge_ok rfl hn hn0 g2 q2 (fun m em => (hm2 m em).2)
        rw [← q5]
        refine hnd nd q3 ν3 ls' st' μ' bc bs g3 (fun m em => ?_)
        have := m3 m em
        rw [(hm2 m em).1] at this
        exact this
    rw [Bool.or_eq_true] at h1
    rcases h1 with h1 | h1
    · obtain ⟨p, p1, p2⟩ := List.any_eq_true.mp h1
      obtain ⟨p3, p4⟩ := List.mem_filter.mp p1
      have p5 := Nat.eq_of_beq_eq_true p4
      have hS := hSG p p3
      rw [p5] at hS
      exact dx_sg1_ok hE hq hS p2 g1 hk
    · refine dw_ok.step ?_
      have hne : (X.pg pc).1 ≠ 0 := fun e => by
        rw [dx_at_no e] at h1
        cases h1
      rw [(hpr pc).resolve_left hne]
      exact dx_at_ok hE hq hn hn0 hOK h1 g1 hK hk
theorem dx_pad_ok {k : Nat} : ∀ (n : Nat) {vs : List dx_V} {xs : dw_L}, dx_gL k ν vs xs → dx_gL k ν (dx_pad n vs) (dw_pad n xs)
  | 0, _, _, _ => trivial
  | n + 1, [], [], h => ⟨(fun v hv => by cases hv), dx_pad_ok n h⟩
  | n + 1, v :: r, x :: q, h => ⟨h.1, dx_pad_ok n h.2⟩
  | _ + 1, [], _ :: _, h => h.elim
  | _ + 1, _ :: _, [], h => h.elim
theorem dx_inl_ok {k : Nat} : ∀ {vs : List dx_V} {xs : List Value}, dx_gL k ν vs (xs.map some) → dx_gL k ν (dx_inl vs) (dw_inl xs)
  | [], [], _ => trivial
  | v :: r, x :: q, h => by
    have h2 := dx_inl_ok (vs := r) (xs := q) h.2
    rcases v with ⟨s, o⟩ | l | l | _ | _
    · obtain ⟨h1, w, hw, h3⟩ := h.1; cases hw; exact ⟨⟨h1, w, rfl, h3⟩, h2⟩
    · obtain ⟨a, h1, hw⟩ := h.1; cases hw; exact ⟨⟨a, h1, rfl⟩, h2⟩
    · skip
      rcases h.1 with hw | ⟨a, h1, hw⟩
      · cases hw; exact ⟨Or.inl rfl, h2⟩
      · cases hw; exact ⟨Or.inr ⟨a, h1, rfl⟩, h2⟩
    · obtain ⟨w, hw⟩ := h.1; cases hw; exact ⟨⟨w, rfl⟩, (fun v hv => by cases hv), h2⟩
    · skip
      have h1 := h.1 x rfl
      show dx_gL k ν ((.inr (.inr (.inr true))) :: dx_inl r) (cond (x.category == 2) _ _)
      rw [h1]
      exact ⟨h.1, h2⟩
  | [], _ :: _, h => h.elim
  | _ :: _, [], h => h.elim
/-- the check is sound -/
theorem dx_chk_ok {X : dx_X} {nL fuel : Nat} (hE : X.E.ok) (hOK : ∀ j, j < X.i → dx_OK X.E (X.Is j)) (hT : ∃ pr : dw_K → Nat → dw_Op, X.E.TT X.q.m = dw_body nL 0 0 pr ∧ ∀ K, dx_Is X.E.TT K (pr K) X.pg ∧ ∀ p ∈ X.sg, dx_SOKc X.E (pr K) p.1 p.2) (h : dx_chk X nL fuel = true) : dx_OK X.E X.q := by
  obtain ⟨pr, ht, hpr⟩ := hT
  intro ν as μ K g hK
  unfold dx_chk dx_chk1 at h
  rw [Bool.and_eq_true, Bool.and_eq_true] at h
  obtain ⟨⟨c1, c2⟩, c3⟩ := h
  rw [ht]
  have gl := dx_inl_ok g.gl
  have hlen := gl.len
  unfold dw_body
  rw [if_pos (by rw [← hlen]; exact Nat.le_of_ble_eq_true c1)]
  have nodes : ∀ (N : Nat) (nd : Nat × dx_S × dx_M), nd ∈ X.q.nd → ∀ ν' ls st μ' bc bs, dx_g X.E X.q.md X.q.pre.iv.length ν μ ν' nd.2.1 ls (List.map some st) μ' → dx_ev ν' nd.2.2.1 + nd.2.2.2 ≤ N → dw_ok (pr K) nd.1 bc bs ls st μ' := by
    intro N
    induction N with
    | zero =>
      intro nd hnd ν' ls st μ' bc bs g' hN
      have hc := List.all_eq_true.mp c3 nd hnd
      unfold dx_chkn at hc
      rw [Bool.and_eq_true, Bool.and_eq_true, decide_eq_true_eq] at hc
      have hsy : ∀ q ∈ nd.2.2.1, q.1 < nd.2.1.iv.length := fun q hq => by simpa using List.all_eq_true.mp hc.1.2 q hq
      refine dx_go_ok (M := some nd.2.2) (N := dx_ev ν' nd.2.2.1 + nd.2.2.2) hE rfl rfl g.k1 hOK (hpr K).1 (hpr K).2 hK ?_ fuel nd.1 nd.2.1 ν' ls st μ' bc bs hc.2 g' (fun m em => by cases em; exact ⟨rfl, hsy⟩)
      intro nd2 hnd2 ν2 ls2 st2 μ2 bc2 bs2 g2 hm2
      have h1 := hm2 nd.2.2 rfl
      have hc2 := List.all_eq_true.mp c3 nd2 hnd2
      unfold dx_chkn at hc2
      rw [Bool.and_eq_true, Bool.and_eq_true, decide_eq_true_eq] at hc2
      have hsy2 : ∀ q ∈ nd2.2.2.1, q.1 < nd2.2.1.iv.length := fun q hq => by simpa using List.all_eq_true.mp hc2.1.2 q hq
      have h2 := dx_lw_ok g2 nd2.2.2.1 hsy2
      omega
    | succ N ih =>
      intro nd hnd ν' ls st μ' bc bs g' hN
      have hc := List.all_eq_true.mp c3 nd hnd
      unfold dx_chkn at hc
      rw [Bool.and_eq_true, Bool.and_eq_true, decide_eq_true_eq] at hc
      have hsy : ∀ q ∈ nd.2.2.1, q.1 < nd.2.1.iv.length := fun q hq => by simpa using List.all_eq_true.mp hc.1.2 q hq
      refine dx_go_ok (M := some nd.2.2) (N := dx_ev ν' nd.2.2.1 + nd.2.2.2) hE rfl rfl g.k1 hOK (hpr K).1 (hpr K).2 hK ?_ fuel nd.1 nd.2.1 ν' ls st μ' bc bs hc.2 g' (fun m em => by cases em; exact ⟨rfl, hsy⟩)
      intro nd2 hnd2 ν2 ls2 st2 μ2 bc2 bs2 g2 hm2
      have h1 := hm2 nd.2.2 rfl
      exact ih nd2 hnd2 ν2 ls2 st2 μ2 bc2 bs2 g2 (by omega)
  refine dx_go_ok (M := none) (N := 0) hE rfl rfl g.k1 hOK (hpr K).1 (hpr K).2 hK ?_ fuel 0 _ ν _ [] μ 0 0 c2 (g.lcl (dx_pad_ok nL gl)) (fun m em => by cases em)
  intro nd hnd ν' ls st μ' bc bs g' _
  exact nodes (dx_ev ν' nd.2.2.1 + nd.2.2.2).toNat nd hnd ν' ls st μ' bc bs g' (by omega)
end
end
