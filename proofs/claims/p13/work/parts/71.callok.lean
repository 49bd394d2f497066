section
variable {E : dx_Env} {md : List Nat} {n0 : Nat} {ν0 : Nat → Int} {μ0 : dw_S} {ν : Nat → Int} {σ : dx_S} {ls : dw_L} {st : List Value} {μ : dw_S}
theorem dx_gL.take : ∀ {vs : List dx_V} {xs : dw_L} {k : Nat} (n : Nat), dx_gL k ν vs xs → dx_gL k ν (vs.take n) (xs.take n) ∧ dx_gL k ν (vs.drop n) (xs.drop n)
  | vs, xs, _, 0, h => ⟨trivial, h⟩
  | [], [], _, n + 1, h => ⟨h, h⟩
  | v :: r, x :: q, _, n + 1, h => ⟨⟨h.1, (dx_gL.take n h.2).1⟩, (dx_gL.take n h.2).2⟩
  | [], _ :: _, _, _ + 1, h => h.elim
  | _ :: _, [], _, _ + 1, h => h.elim
theorem dx_gL.app : ∀ {vs vs2 : List dx_V} {xs xs2 : dw_L} {k : Nat}, dx_gL k ν vs xs → dx_gL k ν vs2 xs2 → dx_gL k ν (vs ++ vs2) (xs ++ xs2)
  | [], _, [], _, _, _, h2 => h2
  | v :: r, _, x :: q, _, _, h, h2 => ⟨h.1, dx_gL.app h.2 h2⟩
  | [], _, _ :: _, _, _, h, _ => h.elim
  | _ :: _, _, [], _, _, h, _ => h.elim
theorem dx_gL.rev : ∀ {vs : List dx_V} {xs : dw_L} {k : Nat}, dx_gL k ν vs xs → dx_gL k ν vs.reverse xs.reverse
  | [], [], _, _ => trivial
  | v :: r, x :: q, _, h => by
    rw [List.reverse_cons, List.reverse_cons]
    exact dx_gL.app (dx_gL.rev h.2) ⟨h.1, trivial⟩
  | [], _ :: _, _, h => h.elim
  | _ :: _, [], _, h => h.elim
theorem dx_sp_eq : ∀ (n : Nat) (st acc : List Value), n ≤ st.length → dw_sp n st acc = ((st.take n).reverse ++ acc, st.drop n)
  | 0, st, acc, _ => by simp [dw_sp]
  | n + 1, v :: st, acc, h => by
    simp only [dw_sp]
    rw [dx_sp_eq n st (v :: acc) (by simpa using h)]
    simp
  | n + 1, [], acc, h => by simp at h
theorem dx_ri_len : ∀ (b : List (Nat × Int)) (p iv : List (Int × Int)), (dx_ri iv b p).length = iv.length
  | [], _, iv => by unfold dx_ri; rfl
  | (s, o) :: b, [], iv => by unfold dx_ri; rfl
  | (s, o) :: b, q :: r, iv => by
    unfold dx_ri
    rw [dx_ri_len b r, dx_sv_len]
theorem dx_ri_ok : ∀ (b : List (Nat × Int)) (p iv : List (Int × Int)), (∀ s, s < iv.length → dx_in (dx_gi iv s) (ν s)) → dx_bw iv.length b → (∀ t, t < b.length → t < p.length → dx_in (dx_gi p t) (dx_bn ν b t)) → ∀ s, s < iv.length → dx_in (dx_gi (dx_ri iv b p) s) (ν s)
  | [], _, iv, h, _, _ => by unfold dx_ri; exact h
  | (s, o) :: b, [], iv, h, _, _ => by unfold dx_ri; exact h
  | (s, o) :: b, q :: r, iv, h, hb, hp => by
    intro s' hs'
    unfold dx_ri
    have hs : s < iv.length := hb 0 _ rfl
    have h0 := hp 0 (Nat.zero_lt_succ _) (Nat.zero_lt_succ _)
    have h0' : dx_in q (ν s + o) := h0
    have h1 := h s hs
    refine dx_ri_ok b r _ (fun m hm => ?_) (fun t z hz => ?_) (fun t ht htr => ?_) s' (by rw [dx_sv_len]; exact hs')
    · rw [dx_gi_sv]
      rw [dx_sv_len] at hm
      split
      next e =>
        rw [e.1]
        have a1 := h0'.1
        have a2 := h0'.2
        have a3 := h1.1
        have a4 := h1.2
        exact ⟨by show max _ _ ≤ ν s; omega, by show ν s ≤ min _ _; omega⟩
      next => exact h m hm
    · rw [dx_sv_len]; exact hb (t + 1) z hz
    · exact hp (t + 1) (Nat.succ_lt_succ ht) (Nat.succ_lt_succ htr)
theorem dx_gi_app : ∀ (l r : List (Int × Int)) (m : Nat), dx_gi (l ++ r) m = if m < l.length then dx_gi l m else dx_gi r (m - l.length)
  | [], r, m => by simp
  | p :: l, r, 0 => by simp [dx_gi]
  | p :: l, r, m + 1 => by
    simp only [List.cons_append, dx_gi, dx_gi_app l r m, List.length_cons]
    by_cases h : m < l.length
    · rw [if_pos h, if_pos (by omega)]
    · rw [if_neg h, if_neg (by omega)]; congr 1; omega
theorem dx_gi_drop : ∀ (l : List (Int × Int)) (n m : Nat), dx_gi (l.drop n) m = dx_gi l (n + m)
  | l, 0, m => by simp
  | [], n + 1, m => by simp [dx_gi]
  | p :: l, n + 1, m => by
    rw [List.drop_succ_cons, dx_gi_drop l n m, show n + 1 + m = (n + m) + 1 by omega]
    rfl
theorem dx_emp_ok {iv : List (Int × Int)} (h : ∀ s, s < iv.length → dx_in (dx_gi iv s) (ν s)) : dx_emp iv = false := by
  induction iv generalizing ν with
  | nil => rfl
  | cons p r ih =>
    unfold dx_emp
    rw [List.any_cons]
    have h0 := h 0 (Nat.zero_lt_succ _)
    have h0' : dx_in p (ν 0) := h0
    have a1 := h0'.1
    have a2 := h0'.2
    rw [decide_eq_false (by omega), Bool.false_or]
    exact ih (ν := fun s => ν (s + 1)) (fun s hs => h (s + 1) (Nat.succ_lt_succ hs))
/-- the bindings behind a call: new unknowns of the callee are new ones of the caller -/
def dx_bb (b : List (Nat × Int)) (k n : Nat) : List (Nat × Int) := b ++ (List.range (n - b.length)).map (fun t => (k + t, (0 : Int)))
def dx_n2 (ν1 ν2 : Nat → Int) (k bl : Nat) : Nat → Int := fun s => if s < k then ν1 s else ν2 (bl + (s - k))
theorem dx_bs_ok {ν1 ν2 : Nat → Int} {b : List (Nat × Int)} {k n t : Nat} {o : Int} (hb : dx_bw k b) (hn : b.length ≤ n) (ht : t < n) (ha : ∀ t, t < b.length → ν2 t = dx_bn ν1 b t) :
    (dx_bs (dx_bb b k n) t o).1 < k + (n - b.length) ∧ dx_n2 ν1 ν2 k b.length (dx_bs (dx_bb b k n) t o).1 + (dx_bs (dx_bb b k n) t o).2 = ν2 t + o := by
  unfold dx_bs dx_bb
  by_cases h : t < b.length
  · obtain ⟨q, hq⟩ : ∃ q, b[t]? = some q := ⟨_, List.getElem?_eq_getElem h⟩
    obtain ⟨s, o1⟩ := q
    have hs : s < k := hb _ _ hq
    rw [List.getElem?_append_left h, hq]
    refine ⟨by show s < _; omega, ?_⟩
    show dx_n2 ν1 ν2 k b.length s + (o1 + o) = _
    unfold dx_n2
    rw [if_pos hs, ha t h, dx_bn_at hq]; omega
  · rw [List.getElem?_append_right (by omega), List.getElem?_map, List.getElem?_range (by omega)]
    refine ⟨by show k + (t - b.length) < _; omega, ?_⟩
    show dx_n2 ν1 ν2 k b.length (k + (t - b.length)) + (0 + o) = _
    unfold dx_n2
    rw [if_neg (by omega), show b.length + (k + (t - b.length) - k) = t by omega]; omega
theorem dx_vb_ok {ν1 ν2 : Nat → Int} {b : List (Nat × Int)} {k n : Nat} {v : dx_V} {x : Option Value} (hb : dx_bw k b) (hn : b.length ≤ n) (ha : ∀ t, t < b.length → ν2 t = dx_bn ν1 b t) (h : dx_gV n ν2 v x) : dx_gV (k + (n - b.length)) (dx_n2 ν1 ν2 k b.length) (dx_vb (dx_bb b k n) v) x := by
  rcases v with ⟨s, o⟩ | l | l | _ | _
  · skip
    obtain ⟨h1, w, h2, h3⟩ := h
    obtain ⟨q1, q2⟩ := dx_bs_ok (o := o) hb hn h1 ha
    exact ⟨q1, w, h2, by rw [q2]; exact h3⟩
  · exact h
  · exact h
  · exact h
  · exact h
theorem dx_vbL_ok {ν1 ν2 : Nat → Int} {b : List (Nat × Int)} {k n : Nat} (hb : dx_bw k b) (hn : b.length ≤ n) (ha : ∀ t, t < b.length → ν2 t = dx_bn ν1 b t) : ∀ {vs : List dx_V} {xs : dw_L}, dx_gL n ν2 vs xs → dx_gL (k + (n - b.length)) (dx_n2 ν1 ν2 k b.length) (vs.map (dx_vb (dx_bb b k n))) xs
  | [], [], _ => trivial
  | v :: r, x :: q, h => ⟨dx_vb_ok hb hn ha h.1, dx_vbL_ok hb hn ha h.2⟩
  | [], _ :: _, h => h.elim
  | _ :: _, [], h => h.elim
theorem dx_tg_len : ∀ (d : List (Nat × Nat × Int)) (iv : List (Int × Int)), (dx_tg d iv).length = iv.length
  | [], iv => rfl
  | (a, b, c) :: r, iv => by
    unfold dx_tg
    rw [dx_tg_len r, dx_sv_len, dx_sv_len]
theorem dx_tg_ok : ∀ (d : List (Nat × Nat × Int)) (iv : List (Int × Int)), (∀ s, s < iv.length → dx_in (dx_gi iv s) (ν s)) → (∀ q ∈ d, q.1 < iv.length ∧ q.2.1 < iv.length ∧ ν q.1 - ν q.2.1 ≤ q.2.2) → ∀ s, s < iv.length → dx_in (dx_gi (dx_tg d iv) s) (ν s)
  | [], iv, h, _ => h
  | (a, b, c) :: r, iv, h, hd => by
    obtain ⟨ha, hb, hc⟩ := hd (a, b, c) List.mem_cons_self
    have ha' : a < iv.length := ha
    have hb' : b < iv.length := hb
    have hc' : ν a - ν b ≤ c := hc
    have h1 : ∀ s, s < iv.length → dx_in (dx_gi (dx_sv iv a ((dx_gi iv a).1, min (dx_gi iv a).2 ((dx_gi iv b).2 + c))) s) (ν s) := by
      intro s hs
      rw [dx_gi_sv]
      split
      next e =>
        have q1 := h a ha'
        have q2 := h b hb'
        rw [e.1]
        exact ⟨q1.1, by show ν a ≤ min _ _; have := q1.2; have := q2.2; omega⟩
      next => exact h s hs
    have h2 : ∀ s, s < iv.length → dx_in (dx_gi (dx_sv (dx_sv iv a ((dx_gi iv a).1, min (dx_gi iv a).2 ((dx_gi iv b).2 + c))) b (max (dx_gi (dx_sv iv a ((dx_gi iv a).1, min (dx_gi iv a).2 ((dx_gi iv b).2 + c))) b).1 ((dx_gi (dx_sv iv a ((dx_gi iv a).1, min (dx_gi iv a).2 ((dx_gi iv b).2 + c))) a).1 - c), (dx_gi (dx_sv iv a ((dx_gi iv a).1, min (dx_gi iv a).2 ((dx_gi iv b).2 + c))) b).2)) s) (ν s) := by
      intro s hs
      rw [dx_gi_sv (n := b)]
      split
      next e =>
        have q1 := h1 a ha'
        have q2 := h1 b hb'
        rw [e.1]
        exact ⟨by show max _ _ ≤ ν b; have := q1.1; have := q2.1; omega, q2.2⟩
      next => exact h1 s hs
    intro s hs
    unfold dx_tg
    refine dx_tg_ok r _ (fun s hs => h2 s (by rw [dx_sv_len, dx_sv_len] at hs; exact hs)) (fun q hq => ?_) s (by rw [dx_sv_len, dx_sv_len]; exact hs)
    rw [dx_sv_len, dx_sv_len]
    exact hd q (List.mem_cons_of_mem _ hq)
theorem dx_inf_ok {st : dw_L} (g : dx_g E md n0 ν0 μ0 ν σ ls st μ) : dx_inf σ = false := by
  unfold dx_inf
  rw [dx_emp_ok g.iv, Bool.false_or]
  cases h : σ.dc.any (fun q => decide (dx_df σ q.2.1 q.1 + q.2.2 < 0)) with
  | false => rfl
  | true =>
    exfalso
    obtain ⟨q, h1, h2⟩ := List.any_eq_true.mp h
    rw [decide_eq_true_eq] at h2
    have h3 := g.dc q h1
    have h4 := dx_df_ok g h3.2.1 h3.1
    have h5 := h3.2.2
    omega
theorem dx_ap_ok {cur : dx_S} {ν1 ν2 : Nat → Int} {b : List (Nat × Int)} {q : dx_Inst} {P : dx_S} {args : dw_L} {vls vst : List dx_V} {μ' : dw_S} {rest rr : dw_L} (hE : E.ok)
    (g1 : dx_g E md n0 ν0 μ0 ν1 cur args [] μ) (hb : dx_bw cur.iv.length b) (hbl : b.length = q.pre.iv.length) (gP : dx_g E q.md q.pre.iv.length (dx_bn ν1 b) μ ν2 P rr [] μ') (hmd : dx_sb q.md md = true)
    (hl : dx_gL cur.iv.length ν1 vls ls) (hs : dx_gL cur.iv.length ν1 vst rest) :
    dx_g E md n0 ν0 μ0 (dx_n2 ν1 ν2 cur.iv.length b.length) (dx_ap E cur vls vst b q P) ls (rr ++ rest) μ' ∧ (∀ s, s < cur.iv.length → dx_n2 ν1 ν2 cur.iv.length b.length s = ν1 s) ∧ cur.iv.length ≤ (dx_ap E cur vls vst b q P).iv.length := by
  have hn : b.length ≤ P.iv.length := by rw [hbl]; exact gP.k0
  have ha : ∀ t, t < b.length → ν2 t = dx_bn ν1 b t := fun t ht => gP.ag t (by rw [← hbl]; exact ht)
  have hlt : ∀ s, s < cur.iv.length → dx_n2 ν1 ν2 cur.iv.length b.length s = ν1 s := fun s hs => by unfold dx_n2; rw [if_pos hs]
  have hlen0 : (dx_ri cur.iv b P.iv ++ P.iv.drop b.length).length = cur.iv.length + (P.iv.length - b.length) := by
    rw [List.length_append, dx_ri_len, List.length_drop]
  have hlen : (dx_ap E cur vls vst b q P).iv.length = cur.iv.length + (P.iv.length - b.length) := by
    show (dx_tg _ (dx_ri cur.iv b P.iv ++ P.iv.drop b.length)).length = _
    rw [dx_tg_len, hlen0]
  have hri : ∀ s, s < cur.iv.length → dx_in (dx_gi (dx_ri cur.iv b P.iv) s) (ν1 s) := dx_ri_ok b P.iv cur.iv g1.iv hb (fun t ht htp => by rw [← ha t ht]; exact gP.iv t htp)
  have hbs : ∀ (t : Nat) (o : Int), t < P.iv.length → (dx_bs (dx_bb b cur.iv.length P.iv.length) t o).1 < cur.iv.length + (P.iv.length - b.length) ∧ dx_n2 ν1 ν2 cur.iv.length b.length (dx_bs (dx_bb b cur.iv.length P.iv.length) t o).1 + (dx_bs (dx_bb b cur.iv.length P.iv.length) t o).2 = ν2 t + o := fun t o ht => dx_bs_ok hb hn ht ha
  have hdc : ∀ d ∈ P.dc.map (fun d => ((dx_bs (dx_bb b cur.iv.length P.iv.length) d.1 0).1, (dx_bs (dx_bb b cur.iv.length P.iv.length) d.2.1 0).1, d.2.2 - (dx_bs (dx_bb b cur.iv.length P.iv.length) d.1 0).2 + (dx_bs (dx_bb b cur.iv.length P.iv.length) d.2.1 0).2)), d.1 < cur.iv.length + (P.iv.length - b.length) ∧ d.2.1 < cur.iv.length + (P.iv.length - b.length) ∧ dx_n2 ν1 ν2 cur.iv.length b.length d.1 - dx_n2 ν1 ν2 cur.iv.length b.length d.2.1 ≤ d.2.2 := by
    intro d hd
    obtain ⟨d0, h1, h2⟩ := List.mem_map.mp hd
    subst h2
    have h3 := gP.dc d0 h1
    obtain ⟨a1, a2⟩ := hbs d0.1 0 h3.1
    obtain ⟨b1, b2⟩ := hbs d0.2.1 0 h3.2.1
    refine ⟨a1, b1, ?_⟩
    have h4 := h3.2.2
    show dx_n2 ν1 ν2 cur.iv.length b.length (dx_bs (dx_bb b cur.iv.length P.iv.length) d0.1 0).1 - dx_n2 ν1 ν2 cur.iv.length b.length (dx_bs (dx_bb b cur.iv.length P.iv.length) d0.2.1 0).1 ≤ d0.2.2 - (dx_bs (dx_bb b cur.iv.length P.iv.length) d0.1 0).2 + (dx_bs (dx_bb b cur.iv.length P.iv.length) d0.2.1 0).2
    omega
  have hiv : ∀ s, s < (dx_ap E cur vls vst b q P).iv.length → dx_in (dx_gi (dx_ap E cur vls vst b q P).iv s) (dx_n2 ν1 ν2 cur.iv.length b.length s) := by
    intro s hs
    rw [hlen] at hs
    refine dx_tg_ok _ _ (fun s hs => ?_) (fun d hd => by rw [hlen0]; exact hdc d hd) s (by rw [hlen0]; exact hs)
    rw [hlen0] at hs
    rw [dx_gi_app, dx_ri_len]
    by_cases e : s < cur.iv.length
    · rw [if_pos e, hlt s e]; exact hri s e
    · rw [if_neg e, dx_gi_drop]
      unfold dx_n2
      rw [if_neg e]
      exact gP.iv _ (by omega)
  refine ⟨?_, hlt, by rw [hlen]; omega⟩
  refine ⟨gP.sh, gP.hi, ?_, ?_, ?_, ?_, ?_, ?_, ?_, ?_, ?_, ?_, ?_⟩
  · intro a hn
    have h1 := gP.fr a (fun h => hn (dx_sb_ok hmd h))
    have h2 := g1.fr a hn
    exact ⟨h1.1.trans h2.1, h1.2.trans h2.2⟩
  · rw [hlt 0 g1.k1]; exact g1.z
  · rw [hlen]; have := g1.k0; omega
  · rw [hlen]; have := g1.k1; omega
  · intro s hs; rw [hlt s (by have := g1.k0; omega)]; exact g1.ag s hs
  · exact hiv
  · intro d hd
    rw [hlen]
    rcases List.mem_append.mp hd with hd | hd
    · exact hdc d hd
    · have h3 := g1.dc d hd
      rw [hlt _ h3.1, hlt _ h3.2.1]
      exact ⟨by omega, by omega, h3.2.2⟩
  · rw [hlen]; exact dx_gL.ext (by omega) hlt hl
  · rw [hlen]; exact dx_gL.app (dx_vbL_ok hb hn ha gP.gl) (dx_gL.ext (by omega) hlt hs)
  · intro f hf
    rw [hlen]
    rcases List.mem_append.mp hf with hf | hf
    · obtain ⟨f0, h1, h2⟩ := List.mem_map.mp hf
      subst h2
      have h3 := gP.fa f0 h1
      obtain ⟨a1, a2⟩ := hbs f0.2.2.1 f0.2.2.2 h3.1
      exact ⟨a1, by rw [h3.2]; exact a2.symm⟩
    · obtain ⟨h1, h2⟩ := List.mem_filter.mp hf
      have h3 := g1.fa f h1
      rw [hlt _ h3.1, ← h3.2]
      refine ⟨by omega, ?_⟩
      have h4 : f.1 ∉ q.md := by
        intro h5
        rw [dx_mem_iff.mpr h5] at h2
        cases h2
      rw [(gP.fr _ h4).1]
  · intro f hf
    rw [hlen]
    rcases List.mem_append.mp hf with hf | hf
    · obtain ⟨f0, h1, h2⟩ := List.mem_map.mp hf
      subst h2
      have h3 := gP.fl f0 h1
      obtain ⟨a1, a2⟩ := hbs f0.2.1 f0.2.2 h3.1
      refine ⟨a1, ?_⟩
      show E.FP f0.1 (dx_n2 ν1 ν2 cur.iv.length b.length (dx_bs (dx_bb b cur.iv.length P.iv.length) f0.2.1 f0.2.2).1 + (dx_bs (dx_bb b cur.iv.length P.iv.length) f0.2.1 f0.2.2).2) μ'.2.2.1
      rw [a2]
      exact h3.2
    · obtain ⟨h1, h2⟩ := List.mem_filter.mp hf
      have h3 := g1.fl f h1
      rw [hlt _ h3.1]
      refine ⟨by omega, hE.fp f.1 _ _ _ ?_ h3.2⟩
      intro z hz j _ _
      have h4 : z.1 ∉ q.md := by
        intro h5
        have t : (E.sup f.1).any (fun q' => dx_mem q'.1 q.md) = true := List.any_eq_true.mpr ⟨z, hz, dx_mem_iff.mpr h5⟩
        rw [t] at h2
        cases h2
      rw [(gP.fr _ h4).1]
end
