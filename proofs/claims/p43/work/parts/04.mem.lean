/-! ===== ops on memory ===== -/
def dw_up {α : Type} (f : Nat → Nat → α) (a j : Nat) (x : α) : Nat → Nat → α := fun a' j' => if a' = a then (if j' = j then x else f a' j') else f a' j'
def dw_si (μ : dw_S) (a j : Nat) (x : Int32) : dw_S := (μ.1, μ.2.1, dw_up μ.2.2.1 a j x, μ.2.2.2)
def dw_sl (μ : dw_S) (a j : Nat) (x : Int64) : dw_S := (μ.1, μ.2.1, μ.2.2.1, dw_up μ.2.2.2 a j x)
def dw_sr (μ : dw_S) (a j : Nat) (x : Option Nat) : dw_S := (μ.1, (fun a' => if a' = a then ((μ.2.1 a').1, (μ.2.1 a').2.1, fun j' => if j' = j then x else (μ.2.1 a').2.2 j') else μ.2.1 a'), μ.2.2.1, μ.2.2.2)
def dw_fitI (t : Nat) (v : Int32) (P : Prop) : Prop := match t with
  | 3 => (v = 0 ∨ v = 1) → P
  | 4 => (v.toInt8.toInt32 = v) → P
  | _ => P
def dw_fitC (t : Nat) (v : Int32) (P : Prop) : Prop := match t with
  | 3 => if v = 0 ∨ v = 1 then P else False
  | 4 => if v.toInt8.toInt32 = v then P else False
  | _ => P
theorem dw_fitI.use {t : Nat} {v : Int32} {P : Prop} (h : dw_fitI t v P) (hf : dw_fit t v) : P := by
  unfold dw_fitI at h
  unfold dw_fit at hf
  split at h
  · exact h hf
  · exact h hf
  · exact h
theorem dw_fitC.use {t : Nat} {v : Int32} {P : Prop} (h : dw_fitC t v P) : dw_fit t v ∧ P := by
  unfold dw_fitC at h
  unfold dw_fit
  split at h
  · split at h
    next q => exact ⟨q, h⟩
    next => exact h.elim
  · split at h
    next q => exact ⟨q, h⟩
    next => exact h.elim
  next h3 h4 =>
    refine ⟨?_, h⟩
    split
    · exact absurd rfl h3
    · exact absurd rfl h4
    · trivial
def o_getf (ci k t nx : Nat) : dw_Op := fun B bc bs ls st μ => match st with
  | .ref a :: r => if (μ.2.1 a).1 = ci then dw_fitI t (μ.2.2.1 a k) (B nx bc bs ls (dw_vt t μ a k :: r) μ) else False
  | _ => False
def o_puti (ci k t nx : Nat) : dw_Op := fun B bc bs ls st μ => match st with
  | .int x :: .ref a :: r => if (μ.2.1 a).1 = ci then dw_fitC t x (B nx bc bs ls r (dw_si μ a k x)) else False
  | _ => False
def o_putl (ci k nx : Nat) : dw_Op := fun B bc bs ls st μ => match st with
  | .long x :: .ref a :: r => if (μ.2.1 a).1 = ci then B nx bc bs ls r (dw_sl μ a k x) else False
  | _ => False
def o_putr (ci k nx : Nat) : dw_Op := fun B bc bs ls st μ => match st with
  | .ref x :: .ref a :: r => if (μ.2.1 a).1 = ci then B nx bc bs ls r (dw_sr μ a k (some x)) else False
  | .null :: .ref a :: r => if (μ.2.1 a).1 = ci then B nx bc bs ls r (dw_sr μ a k none) else False
  | _ => False
def o_xald (kd t nx : Nat) : dw_Op := fun B bc bs ls st μ => match st with
  | .int i :: .ref a :: r => if (μ.2.1 a).1 = kd then (if ¬ i < 0 ∧ i.toNatClampNeg < (μ.2.1 a).2.1 then dw_fitI t (μ.2.2.1 a i.toNatClampNeg) (B nx bc bs ls (dw_vt t μ a i.toNatClampNeg :: r) μ) else False) else False
  | _ => False
def o_iast (kd t nx : Nat) : dw_Op := fun B bc bs ls st μ => match st with
  | .int x :: .int i :: .ref a :: r => if (μ.2.1 a).1 = kd then (if ¬ i < 0 ∧ i.toNatClampNeg < (μ.2.1 a).2.1 then dw_fitC t x (B nx bc bs ls r (dw_si μ a i.toNatClampNeg x)) else False) else False
  | _ => False
def o_last (nx : Nat) : dw_Op := fun B bc bs ls st μ => match st with
  | .long x :: .int i :: .ref a :: r => if (μ.2.1 a).1 = 17 then (if ¬ i < 0 ∧ i.toNatClampNeg < (μ.2.1 a).2.1 then B nx bc bs ls r (dw_sl μ a i.toNatClampNeg x) else False) else False
  | _ => False
def o_aast (kd ci nx : Nat) : dw_Op := fun B bc bs ls st μ => match st with
  | .ref x :: .int i :: .ref a :: r => if (μ.2.1 a).1 = kd ∧ (μ.2.1 x).1 = ci then (if ¬ i < 0 ∧ i.toNatClampNeg < (μ.2.1 a).2.1 then B nx bc bs ls r (dw_sr μ a i.toNatClampNeg (some x)) else False) else False
  | _ => False
def o_alen (nx : Nat) : dw_Op := fun B bc bs ls st μ => match st with
  | .ref a :: r => if ¬ (μ.2.1 a).1 = 999 ∧ ¬ (μ.2.1 a).1 < 16 then B nx bc bs ls (.int (Int32.ofNat (μ.2.1 a).2.1) :: r) μ else False
  | _ => False
theorem dw_tr_ref {b0 a : Nat} {ex : Nat → Nat} (h : a < 1000000) : dw_tr b0 ex (.ref a) = .ref (b0 + a) := by simp [dw_tr, h]
section DWM
variable {D : va_G} {aC : Nat → ClassId} {b0 : Nat} {ex : Nat → Nat} {HB H H' : Heap} {μ μ' : dw_S}
theorem dw_R.dom {a : Nat} (hR : dw_R D aC b0 ex HB μ H) (h : (μ.2.1 a).1 ≠ 999) : a < μ.1 := by
  rcases Nat.lt_or_ge a μ.1 with q | q
  · exact q
  · exact absurd (hR.2.2.2.2.2 a q) h
theorem dw_R.lt {a : Nat} (hR : dw_R D aC b0 ex HB μ H) (h : (μ.2.1 a).1 ≠ 999) : a < 1000000 := by
  rcases Nat.lt_or_ge a 1000000 with q | q
  · exact q
  · exact absurd (hR.2.1 a q) h
/-- a cell whose contents are alike in two states of the small machine -/
theorem dw_cellAt.kept {k : Nat} (h : dw_cellAt D aC b0 ex μ k H) (hs : μ'.2.1 k = μ.2.1 k) (hi : ∀ j, μ'.2.2.1 k j = μ.2.2.1 k j) (hl : ∀ j, μ'.2.2.2 k j = μ.2.2.2 k j) (hq : H'[b0 + k]? = H[b0 + k]?) : dw_cellAt D aC b0 ex μ' k H' := by
  have hv : ∀ t, (fun j => dw_tr b0 ex (dw_vt t μ' k j)) = fun j => dw_tr b0 ex (dw_vt t μ k j) := by
    intro t
    funext j
    unfold dw_vt
    rw [hi, hl, hs]
  unfold dw_cellAt at h ⊢
  rw [hs]
  split at h
  next h9 => rw [if_pos h9]; trivial
  next h9 =>
    rw [if_neg h9]
    split at h
    next hk =>
      rw [if_pos hk]
      refine ⟨h.1, ?_⟩
      have := h.2.kept hq
      simpa only [hi, hl, hs, dw_vt] using this
    next hk =>
      rw [if_neg hk]
      refine ⟨h.1, ?_⟩
      rw [hq, hv]
      exact h.2
/-- one cell is written -/
theorem dw_R.upd {a : Nat} (hR : dw_R D aC b0 ex HB μ H) (hn : μ'.1 = μ.1) (ha : a < μ.1) (hs9 : (μ'.2.1 a).1 = (μ.2.1 a).1) (hs : ∀ k, k ≠ a → μ'.2.1 k = μ.2.1 k) (hi : ∀ k, k ≠ a → ∀ j, μ'.2.2.1 k j = μ.2.2.1 k j) (hl : ∀ k, k ≠ a → ∀ j, μ'.2.2.2 k j = μ.2.2.2 k j)
    (hz : H'.size = H.size) (hq : ∀ q, q ≠ b0 + a → H'[q]? = H[q]?) (hc : dw_cellAt D aC b0 ex μ' a H') (hf : dw_fits μ' a) : dw_R D aC b0 ex HB μ' H' := by
  obtain ⟨h1, h2, h3, h4, h5, h6⟩ := hR
  refine ⟨by rw [hz, hn]; exact h1, fun k hk => by
    by_cases hka : k = a
    · subst hka
      rw [hs9]
      exact h2 k hk
    · rw [hs k hka]
      exact h2 k hk, fun q hqb => by rw [hq q (by omega)]; exact h3 q hqb, h4, fun k hk => ?_, fun k hk => ?_⟩
  rotate_left
  · rw [hn] at hk
    rw [hs k (by omega)]
    exact h6 k hk
  rw [hn] at hk
  by_cases hka : k = a
  · subst hka
    exact ⟨hc, hf⟩
  · obtain ⟨g1, g2⟩ := h5 k hk
    refine ⟨g1.kept (hs k hka) (hi k hka) (hl k hka) (hq _ (by omega)), fun j hj => ?_⟩
    rw [hs k hka] at hj ⊢
    rw [hi k hka]
    exact g2 j hj
theorem dw_up_ne {α : Type} {f : Nat → Nat → α} {a j k i : Nat} {x : α} (h : k ≠ a) : dw_up f a j x k i = f k i := by simp [dw_up, h]
theorem dw_up_at {α : Type} {f : Nat → Nat → α} {a j i : Nat} {x : α} : dw_up f a j x a i = if i = j then x else f a i := by simp [dw_up]
end DWM
section DWS2
variable {p : Program} {l : Launch} {e : Env} {R : Room} {s : State} {m : MethodId} {args : Array Value} {below : List Frame} {meth : Method} {c : Code} {Q : State → Prop}
variable {D : va_G} {aC : Nat → ClassId} {b0 : Nat} {ex : Nat → Nat} {HB : Heap} {nL : Nat} {cc : ByteArray} {Ts : List Cond} {own : String} {pc : Nat}
theorem s_getf {ci k t nx index N : Nat} {C : String} {T : u_T} (X : CallFix p m c cc nL s args Ts own) (hE : dw_E D aC b0 ex HB s) (hc16 : dw_cl[ci]? = some (C, T, N)) (hci : ci < 16) (hk : k < N) (ht : dw_ct ci k = t) (hin : ∀ w ∈ u_ws C T N, w ∈ Ts) (hw : Cond.fieldLink own index (T k).1 (T k).2.1 (T k).2.2.1 ∈ Ts)
    (hd : decode cc pc = .ok (.getfield index, 3)) (hn : pc + 3 = nx) : dw_Snd p l e R s m args below meth c Q D aC b0 ex HB nL pc (o_getf ci k t nx) := by
  subst hn
  subst ht
  intro B hB bc bs ls st μ h H locs ph cells slots hR hL hlo hc hs
  unfold o_getf at h
  split at h
  next a r =>
    split at h
    next ha =>
      have ha2 := ha
      have ha1 := hR.dom (a := a) (by rw [ha2]; omega)
      obtain ⟨g1, g2⟩ := hR.2.2.2.2.1 a ha1
      unfold dw_cellAt at g1
      rw [ha2, if_neg (show ¬ ci = 999 by omega), if_pos hci] at g1
      obtain ⟨⟨q, hq, hlen⟩, cell, q1, q2, q3, q4⟩ := g1
      have hq' : q = (C, T, N) := Option.some.inj (hq.symm.trans hc16)
      subst hq'
      rw [hlen] at q4
      have hty : dw_ty (μ.2.1 a).1 k = dw_ct ci k := by unfold dw_ty; rw [ha2, if_pos hci]
      have hfit := g2 k (by rw [hlen]; exact hk)
      rw [hty] at hfit
      obtain ⟨hS, hfc, kC, hkC, hkind⟩ := hE.1 ci _ hc16
      obtain ⟨cf, kf, fi, f, hi, hsl⟩ := hS k hk
      show W p l e R s m args below meth c H locs cells slots Q (F0 m pc ph (dw_tr b0 ex (.ref a) :: r.map (dw_tr b0 ex)))
      rw [dw_tr_ref (hR.lt (a := a) (by rw [ha2]; omega))]
      refine W.getf X.1 X.2.1 X.2.2.2.1 (X.2.2.2.2 _ hw) hi (u_facts hfc hkC (u_lays X.2.2.2.2 hin hk) hi).1 q1 (by rw [q3]; exact fun h => by cases h) (v := dw_tr b0 ex (dw_vt (dw_ct ci k) μ a k)) ?_ rfl rfl hd (hB _ _ _ _ _ _ (h.use hfit) H locs ph cells slots hR hL hlo hc hs)
      rw [hsl, q4 k hk]
    next => exact h.elim
  next => exact h.elim
/-- a field is written: the heap behind it -/
theorem dw_put {ci k index N : Nat} {C : String} {T : u_T} {x : Value} {a : Nat} {H : Heap} {V : Nat → Value} {locs : List Loc} {cells slots : Nat} {ph : Array Slot} {r : List Value} (X : CallFix p m c cc nL s args Ts own) (hE : dw_E D aC b0 ex HB s) (hc16 : dw_cl[ci]? = some (C, T, N)) (hk : k < N) (ty0 : Nat → FieldType) (hty : ∀ k, k < N → parseFieldDescriptor (T k).2.2.1 = some (ty0 k)) (hnm : ∀ a, a < N → ∀ b, b < N → a ≠ b → (T a).2.1 ≠ (T b).2.1)
    (hin : ∀ w ∈ u_ws C T N, w ∈ Ts) (hw : Cond.fieldLink own index (T k).1 (T k).2.1 (T k).2.2.1 ∈ Ts) (hfin : (T k).2.2.2 = false ∨ ((T k).2.2.2 = true ∧ meth.name = "<init>" ∧ (T k).1 = own)) (hnw : narrow (ty0 k) x = x) (hft : fits (ty0 k) x = true)
    (hO : t_OB a (D.1 ci) N (D.2 ci) H V) (hd : decode cc pc = .ok (.putfield index, 3))
    (kk : ∀ (H1 : Heap), t_OB a (D.1 ci) N (D.2 ci) H1 (updV V k x) → H1.size = H.size → (∀ q, q ≠ a → H1[q]? = H[q]?) → ∀ i, W p l e R s m args below meth c H1 (locs ++ [⟨a, i⟩]) cells slots Q (F0 m (pc + 3) ph r)) : W p l e R s m args below meth c H locs cells slots Q (F0 m pc ph (x :: .ref a :: r)) := by
  obtain ⟨hx, hb, hml, hown, hts⟩ := X
  obtain ⟨cell, q1, q2, q3, q4⟩ := hO
  obtain ⟨hS, hfc, kC, hkC, hkind⟩ := hE.1 ci _ hc16
  have hap : ∀ x y, x < N → y < N → x ≠ y → (D.2 ci) x ≠ (D.2 ci) y := by
    intro x y hx hy hne
    obtain ⟨_, _, _, fa, hia, ea⟩ := hS x hx
    obtain ⟨_, _, _, fb, hib, eb⟩ := hS y hy
    rw [← ea, ← eb]
    refine u_apart (u_lays hts hin hx) (u_lays hts hin hy) hia hib ?_
    rw [(State.fieldFound?_type hia (hty x hx)).1, (State.fieldFound?_type hib (hty y hy)).1]
    exact hnm x hx y hy hne
  obtain ⟨cf, kf, fi, f, hi, hsl⟩ := hS k hk
  have hlay := hts _ (hin _ (u_in_lay hk))
  have hst := (u_facts hfc hkC (u_lays hts hin hk) hi).1
  rcases hfin with hfin | ⟨hfin, hin2, hdecl⟩
  · unfold u_lay at hlay
    rw [if_neg (by rw [hfin]; decide)] at hlay
    have h6 := u_store hfc hkC hkind hlay hi (hty k hk) hnw hft
    refine W.putK hx hb (f := f) ⟨hown, hts _ hw, ⟨_, _, _, hi⟩, hst⟩ (by rw [q2]; exact h6) q1 q3 (by rw [hsl]; exact k2_hasslot (q4 k hk)) rfl rfl hd fun H' e1 e2 e3 => ?_
    rw [hsl] at e1 ⊢
    exact kk H' ⟨_, e1, q2, q3, t_set q4 hap hk x⟩ e2 e3 _
  · unfold u_lay at hlay
    rw [if_pos hfin] at hlay
    have hcf : m.cls = cf := by
      obtain ⟨_, _, c', _, _, _, -, -, hf', -, -, -, hown2, -⟩ := Cond.laysFinal_spec hlay
      have e1 : c' = cf := by have := hi.symm.trans hf'; simp at this; exact this.1.symm
      rw [hdecl] at hown2
      rw [← e1]; exact Option.some.inj (hown.symm.trans hown2)
    have h6 := u_fits hfc hkC hkind (Or.inr hlay) hi (hty k hk) hnw hft
    refine W.putFinK hx hb hown (hts _ hw) hi hst hcf hin2 (by rw [q2]; exact h6) q1 q3 (by rw [hsl]; exact k2_hasslot (q4 k hk)) rfl rfl hd fun H' e1 e2 e3 => ?_
    rw [hsl] at e1 ⊢
    exact kk H' ⟨_, e1, q2, q3, t_set q4 hap hk x⟩ e2 e3 _
end DWS2
