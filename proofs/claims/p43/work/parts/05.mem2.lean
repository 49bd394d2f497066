section DWS3
variable {p : Program} {l : Launch} {e : Env} {R : Room} {s : State} {m : MethodId} {args : Array Value} {below : List Frame} {meth : Method} {c : Code} {Q : State → Prop}
variable {D : va_G} {aC : Nat → ClassId} {b0 : Nat} {ex : Nat → Nat} {HB : Heap} {nL : Nat} {cc : ByteArray} {Ts : List Cond} {own : String} {pc : Nat}
theorem dw_locs {locs : List Loc} {a i : Nat} (hL : ∀ q ∈ locs, b0 ≤ q.base) : ∀ q ∈ locs ++ [⟨b0 + a, i⟩], b0 ≤ q.base := by
  intro q hq
  rcases List.mem_append.mp hq with h | h
  · exact hL q h
  · rw [List.mem_singleton.mp h]
    exact Nat.le_add_right _ _
/-- the object at a, out of the state -/
theorem dw_obj {ci N a : Nat} {C : String} {T : u_T} {H : Heap} {μ : dw_S} (hR : dw_R D aC b0 ex HB μ H) (ha1 : a < μ.1) (ha2 : (μ.2.1 a).1 = ci) (hc16 : dw_cl[ci]? = some (C, T, N)) (hci : ci < 16) :
    (μ.2.1 a).2.1 = N ∧ t_OB (b0 + a) (D.1 ci) N (D.2 ci) H (fun j => dw_tr b0 ex (dw_vt (dw_ct ci j) μ a j)) ∧ ∀ j, j < N → dw_fit (dw_ct ci j) (μ.2.2.1 a j) := by
  obtain ⟨g1, g2⟩ := hR.2.2.2.2.1 a ha1
  unfold dw_cellAt at g1
  rw [ha2, if_neg (show ¬ ci = 999 by omega), if_pos hci] at g1
  obtain ⟨⟨q, hq, hlen⟩, h1⟩ := g1
  have hq' : q = (C, T, N) := Option.some.inj (hq.symm.trans hc16)
  subst hq'
  refine ⟨hlen, by rw [hlen] at h1; exact h1, fun j hj => ?_⟩
  have h2 := g2 j (by rw [hlen]; exact hj)
  unfold dw_ty at h2
  rw [ha2, if_pos hci] at h2
  exact h2
theorem dw_objR {ci N a k : Nat} {C : String} {T : u_T} {H H' : Heap} {μ μ' : dw_S} {x : Value} (hR : dw_R D aC b0 ex HB μ H) (ha1 : a < μ.1) (ha2 : (μ.2.1 a).1 = ci) (hc16 : dw_cl[ci]? = some (C, T, N)) (hci : ci < 16)
    (hn : μ'.1 = μ.1) (hs : ∀ k, k ≠ a → μ'.2.1 k = μ.2.1 k) (hs1 : (μ'.2.1 a).1 = (μ.2.1 a).1 ∧ (μ'.2.1 a).2.1 = (μ.2.1 a).2.1) (hi : ∀ k, k ≠ a → ∀ j, μ'.2.2.1 k j = μ.2.2.1 k j) (hl : ∀ k, k ≠ a → ∀ j, μ'.2.2.2 k j = μ.2.2.2 k j)
    (hz : H'.size = H.size) (hq : ∀ q, q ≠ b0 + a → H'[q]? = H[q]?) (hO : t_OB (b0 + a) (D.1 ci) N (D.2 ci) H' (updV (fun j => dw_tr b0 ex (dw_vt (dw_ct ci j) μ a j)) k x)) (hv : ∀ j, j < N → dw_tr b0 ex (dw_vt (dw_ct ci j) μ' a j) = if j = k then x else dw_tr b0 ex (dw_vt (dw_ct ci j) μ a j)) (hf : ∀ j, j < N → dw_fit (dw_ct ci j) (μ'.2.2.1 a j)) : dw_R D aC b0 ex HB μ' H' := by
  have hlen := (dw_obj hR ha1 ha2 hc16 hci).1
  refine hR.upd hn ha1 hs1.1 hs hi hl hz hq ?_ (fun j hj => ?_)
  · unfold dw_cellAt
    rw [hs1.1, ha2, if_neg (show ¬ ci = 999 by omega), if_pos hci]
    refine ⟨⟨_, hc16, by rw [hs1.2, hlen]⟩, ?_⟩
    rw [hs1.2, hlen]
    exact hO.to (fun j hj => by rw [hv j hj]; rfl)
  · rw [hs1.2, hlen] at hj
    unfold dw_ty
    rw [hs1.1, ha2, if_pos hci]
    exact hf j hj
theorem s_puti {ci k t nx index N : Nat} {C : String} {T : u_T} (X : CallFix p m c cc nL s args Ts own) (hE : dw_E D aC b0 ex HB s) (ty0 : Nat → FieldType) (hty : ∀ k, k < N → parseFieldDescriptor (T k).2.2.1 = some (ty0 k)) (hnm : ∀ a, a < N → ∀ b, b < N → a ≠ b → (T a).2.1 ≠ (T b).2.1) (hc16 : dw_cl[ci]? = some (C, T, N)) (hci : ci < 16) (hk : k < N) (ht : dw_ct ci k = t) (htt : (ty0 k = .int ∧ t = 0) ∨ (ty0 k = .boolean ∧ t = 3)) (hin : ∀ w ∈ u_ws C T N, w ∈ Ts) (hw : Cond.fieldLink own index (T k).1 (T k).2.1 (T k).2.2.1 ∈ Ts)
    (hfin : (T k).2.2.2 = false ∨ ((T k).2.2.2 = true ∧ meth.name = "<init>" ∧ (T k).1 = own)) (hd : decode cc pc = .ok (.putfield index, 3)) (hn : pc + 3 = nx) : dw_Snd p l e R s m args below meth c Q D aC b0 ex HB nL pc (o_puti ci k t nx) := by
  subst hn
  subst ht
  intro B hB bc bs ls st μ h H locs ph cells slots hR hL hlo hc hs
  unfold o_puti at h
  split at h
  next x a r =>
    split at h
    next ha =>
      have ha2 := ha
      have ha1 := hR.dom (a := a) (by rw [ha2]; omega)
      obtain ⟨hfx, h⟩ := h.use
      obtain ⟨o1, o2, o3⟩ := dw_obj hR ha1 ha2 hc16 hci
      show W p l e R s m args below meth c H locs cells slots Q (F0 m pc ph (.int x :: dw_tr b0 ex (.ref a) :: r.map (dw_tr b0 ex)))
      rw [dw_tr_ref (hR.lt (a := a) (by rw [ha2]; first | omega | decide))]
      have hnw : narrow (ty0 k) (.int x) = .int x ∧ fits (ty0 k) (.int x) = true := by
        rcases htt with ⟨h1, h2⟩ | ⟨h1, h2⟩
        · rw [h1]; exact ⟨rfl, rfl⟩
        · rw [h2] at hfx
          rw [h1]
          rcases hfx with rfl | rfl
          · exact ⟨rfl, rfl⟩
          · exact ⟨rfl, rfl⟩
      have htc : dw_ct ci k = 0 ∨ dw_ct ci k = 3 := by rcases htt with ⟨h1, h2⟩ | ⟨h1, h2⟩ <;> simp [h2]
      refine dw_put X hE hc16 hk ty0 hty hnm hin hw hfin hnw.1 hnw.2 o2 hd fun H1 e1 e2 e3 i => ?_
      refine hB _ _ _ _ _ _ h H1 _ ph cells slots ?_ (dw_locs hL) hlo hc hs
      refine dw_objR (k := k) (x := .int x) hR ha1 ha2 hc16 hci rfl (fun _ _ => rfl) ⟨rfl, rfl⟩ (fun k hk j => dw_up_ne hk) (fun _ _ _ => rfl) e2 e3 e1 (fun j hj => ?_) (fun j hj => ?_)
      · by_cases hjk : j = k
        · subst hjk
          rw [if_pos rfl]
          unfold dw_vt
          rcases htc with h9 | h9 <;> rw [h9] <;> simp [dw_si, dw_up, dw_tr]
        · rw [if_neg hjk]
          unfold dw_vt
          simp [dw_si, dw_up, hjk]
      · by_cases hjk : j = k
        · subst hjk
          simpa [dw_si, dw_up] using hfx
        · have := o3 j hj
          simpa [dw_si, dw_up, hjk] using this
    next => exact h.elim
  next => exact h.elim
theorem s_putl {ci k nx index N : Nat} {C : String} {T : u_T} (X : CallFix p m c cc nL s args Ts own) (hE : dw_E D aC b0 ex HB s) (ty0 : Nat → FieldType) (hty : ∀ k, k < N → parseFieldDescriptor (T k).2.2.1 = some (ty0 k)) (hnm : ∀ a, a < N → ∀ b, b < N → a ≠ b → (T a).2.1 ≠ (T b).2.1) (hc16 : dw_cl[ci]? = some (C, T, N)) (hci : ci < 16) (hk : k < N) (ht : dw_ct ci k = 1) (htt : ty0 k = .long) (hin : ∀ w ∈ u_ws C T N, w ∈ Ts) (hw : Cond.fieldLink own index (T k).1 (T k).2.1 (T k).2.2.1 ∈ Ts)
    (hfin : (T k).2.2.2 = false ∨ ((T k).2.2.2 = true ∧ meth.name = "<init>" ∧ (T k).1 = own)) (hd : decode cc pc = .ok (.putfield index, 3)) (hn : pc + 3 = nx) : dw_Snd p l e R s m args below meth c Q D aC b0 ex HB nL pc (o_putl ci k nx) := by
  subst hn
  intro B hB bc bs ls st μ h H locs ph cells slots hR hL hlo hc hs
  unfold o_putl at h
  split at h
  next x a r =>
    split at h
    next ha =>
      have ha2 := ha
      have ha1 := hR.dom (a := a) (by rw [ha2]; omega)
      obtain ⟨o1, o2, o3⟩ := dw_obj hR ha1 ha2 hc16 hci
      show W p l e R s m args below meth c H locs cells slots Q (F0 m pc ph (.long x :: dw_tr b0 ex (.ref a) :: r.map (dw_tr b0 ex)))
      rw [dw_tr_ref (hR.lt (a := a) (by rw [ha2]; first | omega | decide))]
      refine dw_put X hE hc16 hk ty0 hty hnm hin hw hfin (by rw [htt]; rfl) (by rw [htt]; rfl) o2 hd fun H1 e1 e2 e3 i => ?_
      refine hB _ _ _ _ _ _ h H1 _ ph cells slots ?_ (dw_locs hL) hlo hc hs
      refine dw_objR (k := k) (x := .long x) hR ha1 ha2 hc16 hci rfl (fun _ _ => rfl) ⟨rfl, rfl⟩ (fun _ _ _ => rfl) (fun k hk j => dw_up_ne hk) e2 e3 e1 (fun j hj => ?_) (fun j hj => o3 j hj)
      by_cases hjk : j = k
      · subst hjk
        rw [if_pos rfl, ht]
        simp [dw_vt, dw_sl, dw_up, dw_tr]
      · rw [if_neg hjk]
        unfold dw_vt
        simp [dw_sl, dw_up, hjk]
    next => exact h.elim
  next => exact h.elim
theorem dw_putrR {ci k N a : Nat} {C : String} {T : u_T} {H H1 : Heap} {μ : dw_S} {x : Option Nat} (hR : dw_R D aC b0 ex HB μ H) (ha1 : a < μ.1) (ha2 : (μ.2.1 a).1 = ci) (hc16 : dw_cl[ci]? = some (C, T, N)) (hci : ci < 16) (ht : dw_ct ci k = 2) (e2 : H1.size = H.size) (e3 : ∀ q, q ≠ b0 + a → H1[q]? = H[q]?)
    (e1 : t_OB (b0 + a) (D.1 ci) N (D.2 ci) H1 (updV (fun j => dw_tr b0 ex (dw_vt (dw_ct ci j) μ a j)) k (dw_tr b0 ex (dw_rv x)))) : dw_R D aC b0 ex HB (dw_sr μ a k x) H1 := by
  obtain ⟨o1, o2, o3⟩ := dw_obj hR ha1 ha2 hc16 hci
  refine dw_objR (k := k) (x := dw_tr b0 ex (dw_rv x)) hR ha1 ha2 hc16 hci rfl (fun k hk => by simp [dw_sr, hk]) (by simp [dw_sr]) (fun _ _ _ => rfl) (fun _ _ _ => rfl) e2 e3 e1 (fun j hj => ?_) (fun j hj => o3 j hj)
  by_cases hjk : j = k
  · subst hjk
    rw [if_pos rfl, ht]
    simp [dw_vt, dw_sr]
  · rw [if_neg hjk]
    unfold dw_vt
    simp [dw_sr, hjk]
theorem s_putr {ci k nx index N : Nat} {C : String} {T : u_T} (X : CallFix p m c cc nL s args Ts own) (hE : dw_E D aC b0 ex HB s) (ty0 : Nat → FieldType) (hty : ∀ k, k < N → parseFieldDescriptor (T k).2.2.1 = some (ty0 k)) (hnm : ∀ a, a < N → ∀ b, b < N → a ≠ b → (T a).2.1 ≠ (T b).2.1) (hc16 : dw_cl[ci]? = some (C, T, N)) (hci : ci < 16) (hk : k < N) (ht : dw_ct ci k = 2) (htt : (∃ n, ty0 k = .object n) ∨ ∃ n, ty0 k = .array n) (hin : ∀ w ∈ u_ws C T N, w ∈ Ts) (hw : Cond.fieldLink own index (T k).1 (T k).2.1 (T k).2.2.1 ∈ Ts)
    (hfin : (T k).2.2.2 = false ∨ ((T k).2.2.2 = true ∧ meth.name = "<init>" ∧ (T k).1 = own)) (hd : decode cc pc = .ok (.putfield index, 3)) (hn : pc + 3 = nx) : dw_Snd p l e R s m args below meth c Q D aC b0 ex HB nL pc (o_putr ci k nx) := by
  subst hn
  intro B hB bc bs ls st μ h H locs ph cells slots hR hL hlo hc hs
  unfold o_putr at h
  split at h
  next x a r =>
    split at h
    next ha =>
      have ha2 := ha
      have ha1 := hR.dom (a := a) (by rw [ha2]; omega)
      obtain ⟨o1, o2, o3⟩ := dw_obj hR ha1 ha2 hc16 hci
      show W p l e R s m args below meth c H locs cells slots Q (F0 m pc ph (dw_tr b0 ex (.ref x) :: dw_tr b0 ex (.ref a) :: r.map (dw_tr b0 ex)))
      rw [dw_tr_ref (hR.lt (a := a) (by rw [ha2]; first | omega | decide))]
      have hnw : narrow (ty0 k) (dw_tr b0 ex (.ref x)) = dw_tr b0 ex (.ref x) ∧ fits (ty0 k) (dw_tr b0 ex (.ref x)) = true := by
        rcases htt with ⟨n, h1⟩ | ⟨n, h1⟩ <;> rw [h1] <;> exact ⟨rfl, rfl⟩
      exact dw_put X hE hc16 hk ty0 hty hnm hin hw hfin hnw.1 hnw.2 o2 hd fun H1 e1 e2 e3 i => hB _ _ _ _ _ _ h H1 _ ph cells slots (dw_putrR (x := some x) hR ha1 ha2 hc16 hci ht e2 e3 e1) (dw_locs hL) hlo hc hs
    next => exact h.elim
  next a r =>
    split at h
    next ha =>
      have ha2 := ha
      have ha1 := hR.dom (a := a) (by rw [ha2]; omega)
      obtain ⟨o1, o2, o3⟩ := dw_obj hR ha1 ha2 hc16 hci
      show W p l e R s m args below meth c H locs cells slots Q (F0 m pc ph (.null :: dw_tr b0 ex (.ref a) :: r.map (dw_tr b0 ex)))
      rw [dw_tr_ref (hR.lt (a := a) (by rw [ha2]; first | omega | decide))]
      have hnw : narrow (ty0 k) .null = .null ∧ fits (ty0 k) .null = true := by
        rcases htt with ⟨n, h1⟩ | ⟨n, h1⟩ <;> rw [h1] <;> exact ⟨rfl, rfl⟩
      exact dw_put X hE hc16 hk ty0 hty hnm hin hw hfin hnw.1 hnw.2 o2 hd fun H1 e1 e2 e3 i => hB _ _ _ _ _ _ h H1 _ ph cells slots (dw_putrR (x := none) hR ha1 ha2 hc16 hci ht e2 e3 e1) (dw_locs hL) hlo hc hs
    next => exact h.elim
  next => exact h.elim
/-- the array at a, out of the state -/
theorem dw_arr {t a : Nat} {H : Heap} {μ : dw_S} (hR : dw_R D aC b0 ex HB μ H) (ha1 : a < μ.1) (ha2 : (μ.2.1 a).1 = 16 + t) (h9 : 16 + t ≠ 999 := by decide) :
    H[b0 + a]? = some (arrV (aC t) (μ.2.1 a).2.1 (fun j => dw_tr b0 ex (dw_vt (dw_ac t) μ a j))) ∧ ∀ j, j < (μ.2.1 a).2.1 → dw_fit (dw_ac t) (μ.2.2.1 a j) := by
  obtain ⟨g1, g2⟩ := hR.2.2.2.2.1 a ha1
  have h16 : ¬ 16 + t < 16 := by omega
  have ht : 16 + t - 16 = t := by omega
  unfold dw_cellAt at g1
  rw [ha2, if_neg h9, if_neg h16, ht] at g1
  refine ⟨g1.2, fun j hj => ?_⟩
  have h2 := g2 j hj
  unfold dw_ty at h2
  rw [ha2, if_neg h16, ht] at h2
  exact h2
theorem dw_arrR {t a j : Nat} {ty : FieldType} {H H' : Heap} {μ μ' : dw_S} {x : Value} (hR : dw_R D aC b0 ex HB μ H) (ha1 : a < μ.1) (ha2 : (μ.2.1 a).1 = 16 + t) (hty : dw_at[t]? = some ty)
    (hn : μ'.1 = μ.1) (hs : ∀ k, k ≠ a → μ'.2.1 k = μ.2.1 k) (hs1 : (μ'.2.1 a).1 = (μ.2.1 a).1 ∧ (μ'.2.1 a).2.1 = (μ.2.1 a).2.1) (hi : ∀ k, k ≠ a → ∀ j, μ'.2.2.1 k j = μ.2.2.1 k j) (hl : ∀ k, k ≠ a → ∀ j, μ'.2.2.2 k j = μ.2.2.2 k j)
    (hz : H'.size = H.size) (hq : ∀ q, q ≠ b0 + a → H'[q]? = H[q]?) (hO : H'[b0 + a]? = some ((arrV (aC t) (μ.2.1 a).2.1 (fun j => dw_tr b0 ex (dw_vt (dw_ac t) μ a j))).setSlot j x)) (hv : ∀ i, dw_tr b0 ex (dw_vt (dw_ac t) μ' a i) = if i = j then x else dw_tr b0 ex (dw_vt (dw_ac t) μ a i)) (hf : ∀ j, j < (μ.2.1 a).2.1 → dw_fit (dw_ac t) (μ'.2.2.1 a j)) : dw_R D aC b0 ex HB μ' H' := by
  have h16 : ¬ 16 + t < 16 := by omega
  have ht : 16 + t - 16 = t := by omega
  refine hR.upd hn ha1 hs1.1 hs hi hl hz hq ?_ (fun j hj => ?_)
  · have h9 : 16 + t ≠ 999 := by
      have := (List.getElem?_eq_some_iff.mp hty).1
      have h7 : dw_at.length = 7 := rfl
      omega
    unfold dw_cellAt
    rw [hs1.1, ha2, if_neg h9, if_neg h16, ht, hs1.2, hO, arrV_store]
    refine ⟨⟨_, hty⟩, ?_⟩
    congr 2
    funext i
    rw [hv i]
    rfl
  · rw [hs1.2] at hj
    unfold dw_ty
    rw [hs1.1, ha2, if_neg h16, ht]
    exact hf j hj
theorem s_iaload {nx : Nat} (X : CallFix p m c cc nL s args Ts own) (hE : dw_E D aC b0 ex HB s) (hd : decode cc pc = .ok (.iaload, 1)) (hn : pc + 1 = nx) : dw_Snd p l e R s m args below meth c Q D aC b0 ex HB nL pc (o_xald 16 0 nx) := by
  subst hn
  intro B hB bc bs ls st μ h H locs ph cells slots hR hL hlo hc hs
  unfold o_xald at h
  split at h
  next i a r =>
    split at h
    next ha =>
      have ha2 := ha
      have ha1 := hR.dom (a := a) (by rw [ha2]; decide)
      split at h
      next hi =>
        obtain ⟨g1, g2⟩ := dw_arr (t := 0) hR ha1 ha2
        show W p l e R s m args below meth c H locs cells slots Q (F0 m pc ph (.int i :: dw_tr b0 ex (.ref a) :: r.map (dw_tr b0 ex)))
        rw [dw_tr_ref (hR.lt (a := a) (by rw [ha2]; first | omega | decide))]
        exact W.iald (v := dw_tr b0 ex (dw_vt 0 μ a i.toNatClampNeg)) X.1 X.2.1 g1 ((hE.2.1 0 (.int) rfl).1 _ _) (fun q => by cases q) (by rw [arrV_size]; exact fun q => q.elim hi.1 (Nat.not_le.mpr hi.2)) (arrV_read _ _ hi.2) rfl rfl hd (hB _ _ _ _ _ _ (h.use (g2 _ hi.2)) H locs ph cells slots hR hL hlo hc hs)
      next => exact h.elim
    next => exact h.elim
  next => exact h.elim
theorem s_laload {nx : Nat} (X : CallFix p m c cc nL s args Ts own) (hE : dw_E D aC b0 ex HB s) (hd : decode cc pc = .ok (.laload, 1)) (hn : pc + 1 = nx) : dw_Snd p l e R s m args below meth c Q D aC b0 ex HB nL pc (o_xald 17 1 nx) := by
  subst hn
  intro B hB bc bs ls st μ h H locs ph cells slots hR hL hlo hc hs
  unfold o_xald at h
  split at h
  next i a r =>
    split at h
    next ha =>
      have ha2 := ha
      have ha1 := hR.dom (a := a) (by rw [ha2]; decide)
      split at h
      next hi =>
        obtain ⟨g1, g2⟩ := dw_arr (t := 1) hR ha1 ha2
        show W p l e R s m args below meth c H locs cells slots Q (F0 m pc ph (.int i :: dw_tr b0 ex (.ref a) :: r.map (dw_tr b0 ex)))
        rw [dw_tr_ref (hR.lt (a := a) (by rw [ha2]; first | omega | decide))]
        exact W.lald (v := dw_tr b0 ex (dw_vt 1 μ a i.toNatClampNeg)) X.1 X.2.1 g1 ((hE.2.1 1 (.long) rfl).1 _ _) (fun q => by cases q) (by rw [arrV_size]; exact fun q => q.elim hi.1 (Nat.not_le.mpr hi.2)) (arrV_read _ _ hi.2) rfl rfl hd (hB _ _ _ _ _ _ (h.use (g2 _ hi.2)) H locs ph cells slots hR hL hlo hc hs)
      next => exact h.elim
    next => exact h.elim
  next => exact h.elim
theorem s_baload {nx : Nat} (X : CallFix p m c cc nL s args Ts own) (hE : dw_E D aC b0 ex HB s) (hd : decode cc pc = .ok (.baload, 1)) (hn : pc + 1 = nx) : dw_Snd p l e R s m args below meth c Q D aC b0 ex HB nL pc (o_xald 18 4 nx) := by
  subst hn
  intro B hB bc bs ls st μ h H locs ph cells slots hR hL hlo hc hs
  unfold o_xald at h
  split at h
  next i a r =>
    split at h
    next ha =>
      have ha2 := ha
      have ha1 := hR.dom (a := a) (by rw [ha2]; decide)
      split at h
      next hi =>
        obtain ⟨g1, g2⟩ := dw_arr (t := 2) hR ha1 ha2
        show W p l e R s m args below meth c H locs cells slots Q (F0 m pc ph (.int i :: dw_tr b0 ex (.ref a) :: r.map (dw_tr b0 ex)))
        rw [dw_tr_ref (hR.lt (a := a) (by rw [ha2]; first | omega | decide))]
        exact W.bald (v := dw_tr b0 ex (dw_vt 4 μ a i.toNatClampNeg)) X.1 X.2.1 g1 ((hE.2.1 2 (.byte) rfl).1 _ _) (fun q => by cases q) (by rw [arrV_size]; exact fun q => q.elim hi.1 (Nat.not_le.mpr hi.2)) (arrV_read _ _ hi.2) rfl rfl hd (hB _ _ _ _ _ _ (h.use (g2 _ hi.2)) H locs ph cells slots hR hL hlo hc hs)
      next => exact h.elim
    next => exact h.elim
  next => exact h.elim
theorem s_zaload {nx : Nat} (X : CallFix p m c cc nL s args Ts own) (hE : dw_E D aC b0 ex HB s) (hd : decode cc pc = .ok (.baload, 1)) (hn : pc + 1 = nx) : dw_Snd p l e R s m args below meth c Q D aC b0 ex HB nL pc (o_xald 19 3 nx) := by
  subst hn
  intro B hB bc bs ls st μ h H locs ph cells slots hR hL hlo hc hs
  unfold o_xald at h
  split at h
  next i a r =>
    split at h
    next ha =>
      have ha2 := ha
      have ha1 := hR.dom (a := a) (by rw [ha2]; decide)
      split at h
      next hi =>
        obtain ⟨g1, g2⟩ := dw_arr (t := 3) hR ha1 ha2
        show W p l e R s m args below meth c H locs cells slots Q (F0 m pc ph (.int i :: dw_tr b0 ex (.ref a) :: r.map (dw_tr b0 ex)))
        rw [dw_tr_ref (hR.lt (a := a) (by rw [ha2]; first | omega | decide))]
        exact W.zald (v := dw_tr b0 ex (dw_vt 3 μ a i.toNatClampNeg)) X.1 X.2.1 g1 ((hE.2.1 3 (.boolean) rfl).1 _ _) (fun q => by cases q) (by rw [arrV_size]; exact fun q => q.elim hi.1 (Nat.not_le.mpr hi.2)) (arrV_read _ _ hi.2) rfl rfl hd (hB _ _ _ _ _ _ (h.use (g2 _ hi.2)) H locs ph cells slots hR hL hlo hc hs)
      next => exact h.elim
    next => exact h.elim
  next => exact h.elim
theorem s_aaload_i {nx : Nat} (X : CallFix p m c cc nL s args Ts own) (hE : dw_E D aC b0 ex HB s) (hd : decode cc pc = .ok (.aaload, 1)) (hn : pc + 1 = nx) : dw_Snd p l e R s m args below meth c Q D aC b0 ex HB nL pc (o_xald 20 2 nx) := by
  subst hn
  intro B hB bc bs ls st μ h H locs ph cells slots hR hL hlo hc hs
  unfold o_xald at h
  split at h
  next i a r =>
    split at h
    next ha =>
      have ha2 := ha
      have ha1 := hR.dom (a := a) (by rw [ha2]; decide)
      split at h
      next hi =>
        obtain ⟨g1, g2⟩ := dw_arr (t := 4) hR ha1 ha2
        show W p l e R s m args below meth c H locs cells slots Q (F0 m pc ph (.int i :: dw_tr b0 ex (.ref a) :: r.map (dw_tr b0 ex)))
        rw [dw_tr_ref (hR.lt (a := a) (by rw [ha2]; first | omega | decide))]
        exact W.aald (ty := .array .int) (v := dw_tr b0 ex (dw_vt 2 μ a i.toNatClampNeg)) X.1 X.2.1 g1 ((hE.2.1 4 (.array .int) rfl).1 _ _) rfl (fun q => by cases q) (by rw [arrV_size]; exact fun q => q.elim hi.1 (Nat.not_le.mpr hi.2)) (arrV_read _ _ hi.2) rfl rfl hd (hB _ _ _ _ _ _ (h.use (g2 _ hi.2)) H locs ph cells slots hR hL hlo hc hs)
      next => exact h.elim
    next => exact h.elim
  next => exact h.elim
theorem s_aaload_s {nx : Nat} (X : CallFix p m c cc nL s args Ts own) (hE : dw_E D aC b0 ex HB s) (hd : decode cc pc = .ok (.aaload, 1)) (hn : pc + 1 = nx) : dw_Snd p l e R s m args below meth c Q D aC b0 ex HB nL pc (o_xald 21 2 nx) := by
  subst hn
  intro B hB bc bs ls st μ h H locs ph cells slots hR hL hlo hc hs
  unfold o_xald at h
  split at h
  next i a r =>
    split at h
    next ha =>
      have ha2 := ha
      have ha1 := hR.dom (a := a) (by rw [ha2]; decide)
      split at h
      next hi =>
        obtain ⟨g1, g2⟩ := dw_arr (t := 5) hR ha1 ha2
        show W p l e R s m args below meth c H locs cells slots Q (F0 m pc ph (.int i :: dw_tr b0 ex (.ref a) :: r.map (dw_tr b0 ex)))
        rw [dw_tr_ref (hR.lt (a := a) (by rw [ha2]; first | omega | decide))]
        exact W.aald (ty := .object RX8) (v := dw_tr b0 ex (dw_vt 2 μ a i.toNatClampNeg)) X.1 X.2.1 g1 ((hE.2.1 5 (.object RX8) rfl).1 _ _) rfl (fun q => by cases q) (by rw [arrV_size]; exact fun q => q.elim hi.1 (Nat.not_le.mpr hi.2)) (arrV_read _ _ hi.2) rfl rfl hd (hB _ _ _ _ _ _ (h.use (g2 _ hi.2)) H locs ph cells slots hR hL hlo hc hs)
      next => exact h.elim
    next => exact h.elim
  next => exact h.elim
theorem s_aaload_n {nx : Nat} (X : CallFix p m c cc nL s args Ts own) (hE : dw_E D aC b0 ex HB s) (hd : decode cc pc = .ok (.aaload, 1)) (hn : pc + 1 = nx) : dw_Snd p l e R s m args below meth c Q D aC b0 ex HB nL pc (o_xald 22 2 nx) := by
  subst hn
  intro B hB bc bs ls st μ h H locs ph cells slots hR hL hlo hc hs
  unfold o_xald at h
  split at h
  next i a r =>
    split at h
    next ha =>
      have ha2 := ha
      have ha1 := hR.dom (a := a) (by rw [ha2]; decide)
      split at h
      next hi =>
        obtain ⟨g1, g2⟩ := dw_arr (t := 6) hR ha1 ha2
        show W p l e R s m args below meth c H locs cells slots Q (F0 m pc ph (.int i :: dw_tr b0 ex (.ref a) :: r.map (dw_tr b0 ex)))
        rw [dw_tr_ref (hR.lt (a := a) (by rw [ha2]; first | omega | decide))]
        exact W.aald (ty := .object RX2) (v := dw_tr b0 ex (dw_vt 2 μ a i.toNatClampNeg)) X.1 X.2.1 g1 ((hE.2.1 6 (.object RX2) rfl).1 _ _) rfl (fun q => by cases q) (by rw [arrV_size]; exact fun q => q.elim hi.1 (Nat.not_le.mpr hi.2)) (arrV_read _ _ hi.2) rfl rfl hd (hB _ _ _ _ _ _ (h.use (g2 _ hi.2)) H locs ph cells slots hR hL hlo hc hs)
      next => exact h.elim
    next => exact h.elim
  next => exact h.elim
theorem s_iastore {nx : Nat} (X : CallFix p m c cc nL s args Ts own) (hE : dw_E D aC b0 ex HB s) (hd : decode cc pc = .ok (.iastore, 1)) (hn : pc + 1 = nx) : dw_Snd p l e R s m args below meth c Q D aC b0 ex HB nL pc (o_iast 16 0 nx) := by
  subst hn
  intro B hB bc bs ls st μ h H locs ph cells slots hR hL hlo hc hs
  unfold o_iast at h
  split at h
  next x i a r =>
    split at h
    next ha =>
      have ha2 := ha
      have ha1 := hR.dom (a := a) (by rw [ha2]; decide)
      split at h
      next hi =>
        obtain ⟨hfx, h⟩ := h.use
        obtain ⟨g1, g2⟩ := dw_arr (t := 0) hR ha1 ha2
        show W p l e R s m args below meth c H locs cells slots Q (F0 m pc ph (.int x :: .int i :: dw_tr b0 ex (.ref a) :: r.map (dw_tr b0 ex)))
        rw [dw_tr_ref (hR.lt (a := a) (by rw [ha2]; first | omega | decide))]
        refine W.iast X.1 X.2.1 g1 ((hE.2.1 0 (.int) rfl).1 _ _) (fun q => by cases q) (by rw [arrV_size]; exact fun q => q.elim hi.1 (Nat.not_le.mpr hi.2)) rfl rfl hd fun H1 e1 e2 e3 => ?_
        refine hB _ _ _ _ _ _ h H1 _ ph cells slots ?_ (dw_locs hL) hlo hc hs
        have hnw : narrow .int (.int x) = .int x := by
          rfl
        have _ := hnw
        refine dw_arrR (t := 0) (j := i.toNatClampNeg) (x := .int x) (ty := .int) hR ha1 ha2 rfl rfl (fun _ _ => rfl) ⟨rfl, rfl⟩ (fun k hk j => dw_up_ne hk) (fun _ _ _ => rfl) e2 e3 e1 (fun j => ?_) (fun j hj => ?_)
        · by_cases hjk : j = i.toNatClampNeg
          · subst hjk
            rw [if_pos rfl]
            show Value.int (dw_up μ.2.2.1 a _ x a _) = _
            rw [dw_up_at, if_pos rfl]
          · rw [if_neg hjk]
            show Value.int (dw_up μ.2.2.1 a _ x a _) = _
            rw [dw_up_at, if_neg hjk]
            rfl
        · by_cases hjk : j = i.toNatClampNeg
          · subst hjk
            show dw_fit 0 (dw_up μ.2.2.1 a _ x a _)
            rw [dw_up_at, if_pos rfl]
            exact hfx
          · show dw_fit 0 (dw_up μ.2.2.1 a _ x a _)
            rw [dw_up_at, if_neg hjk]
            exact g2 j hj
      next => exact h.elim
    next => exact h.elim
  next => exact h.elim
theorem s_bastore {nx : Nat} (X : CallFix p m c cc nL s args Ts own) (hE : dw_E D aC b0 ex HB s) (hd : decode cc pc = .ok (.bastore, 1)) (hn : pc + 1 = nx) : dw_Snd p l e R s m args below meth c Q D aC b0 ex HB nL pc (o_iast 18 4 nx) := by
  subst hn
  intro B hB bc bs ls st μ h H locs ph cells slots hR hL hlo hc hs
  unfold o_iast at h
  split at h
  next x i a r =>
    split at h
    next ha =>
      have ha2 := ha
      have ha1 := hR.dom (a := a) (by rw [ha2]; decide)
      split at h
      next hi =>
        obtain ⟨hfx, h⟩ := h.use
        obtain ⟨g1, g2⟩ := dw_arr (t := 2) hR ha1 ha2
        show W p l e R s m args below meth c H locs cells slots Q (F0 m pc ph (.int x :: .int i :: dw_tr b0 ex (.ref a) :: r.map (dw_tr b0 ex)))
        rw [dw_tr_ref (hR.lt (a := a) (by rw [ha2]; first | omega | decide))]
        refine W.bast X.1 X.2.1 g1 ((hE.2.1 2 (.byte) rfl).1 _ _) (fun q => by cases q) (by rw [arrV_size]; exact fun q => q.elim hi.1 (Nat.not_le.mpr hi.2)) rfl rfl hd fun H1 e1 e2 e3 => ?_
        refine hB _ _ _ _ _ _ h H1 _ ph cells slots ?_ (dw_locs hL) hlo hc hs
        have hnw : narrow .byte (.int x) = .int x := by
          (show Value.int x.toInt8.toInt32 = _); rw [show x.toInt8.toInt32 = x from hfx]
        rw [hnw] at e1
        refine dw_arrR (t := 2) (j := i.toNatClampNeg) (x := .int x) (ty := .byte) hR ha1 ha2 rfl rfl (fun _ _ => rfl) ⟨rfl, rfl⟩ (fun k hk j => dw_up_ne hk) (fun _ _ _ => rfl) e2 e3 e1 (fun j => ?_) (fun j hj => ?_)
        · by_cases hjk : j = i.toNatClampNeg
          · subst hjk
            rw [if_pos rfl]
            show Value.int (dw_up μ.2.2.1 a _ x a _) = _
            rw [dw_up_at, if_pos rfl]
          · rw [if_neg hjk]
            show Value.int (dw_up μ.2.2.1 a _ x a _) = _
            rw [dw_up_at, if_neg hjk]
            rfl
        · by_cases hjk : j = i.toNatClampNeg
          · subst hjk
            show dw_fit 4 (dw_up μ.2.2.1 a _ x a _)
            rw [dw_up_at, if_pos rfl]
            exact hfx
          · show dw_fit 4 (dw_up μ.2.2.1 a _ x a _)
            rw [dw_up_at, if_neg hjk]
            exact g2 j hj
      next => exact h.elim
    next => exact h.elim
  next => exact h.elim
theorem s_zastore {nx : Nat} (X : CallFix p m c cc nL s args Ts own) (hE : dw_E D aC b0 ex HB s) (hd : decode cc pc = .ok (.bastore, 1)) (hn : pc + 1 = nx) : dw_Snd p l e R s m args below meth c Q D aC b0 ex HB nL pc (o_iast 19 3 nx) := by
  subst hn
  intro B hB bc bs ls st μ h H locs ph cells slots hR hL hlo hc hs
  unfold o_iast at h
  split at h
  next x i a r =>
    split at h
    next ha =>
      have ha2 := ha
      have ha1 := hR.dom (a := a) (by rw [ha2]; decide)
      split at h
      next hi =>
        obtain ⟨hfx, h⟩ := h.use
        obtain ⟨g1, g2⟩ := dw_arr (t := 3) hR ha1 ha2
        show W p l e R s m args below meth c H locs cells slots Q (F0 m pc ph (.int x :: .int i :: dw_tr b0 ex (.ref a) :: r.map (dw_tr b0 ex)))
        rw [dw_tr_ref (hR.lt (a := a) (by rw [ha2]; first | omega | decide))]
        refine W.zast X.1 X.2.1 g1 ((hE.2.1 3 (.boolean) rfl).1 _ _) (fun q => by cases q) (by rw [arrV_size]; exact fun q => q.elim hi.1 (Nat.not_le.mpr hi.2)) rfl rfl hd fun H1 e1 e2 e3 => ?_
        refine hB _ _ _ _ _ _ h H1 _ ph cells slots ?_ (dw_locs hL) hlo hc hs
        have hnw : narrow .boolean (.int x) = .int x := by
          rcases hfx with rfl | rfl <;> rfl
        rw [hnw] at e1
        refine dw_arrR (t := 3) (j := i.toNatClampNeg) (x := .int x) (ty := .boolean) hR ha1 ha2 rfl rfl (fun _ _ => rfl) ⟨rfl, rfl⟩ (fun k hk j => dw_up_ne hk) (fun _ _ _ => rfl) e2 e3 e1 (fun j => ?_) (fun j hj => ?_)
        · by_cases hjk : j = i.toNatClampNeg
          · subst hjk
            rw [if_pos rfl]
            show Value.int (dw_up μ.2.2.1 a _ x a _) = _
            rw [dw_up_at, if_pos rfl]
          · rw [if_neg hjk]
            show Value.int (dw_up μ.2.2.1 a _ x a _) = _
            rw [dw_up_at, if_neg hjk]
            rfl
        · by_cases hjk : j = i.toNatClampNeg
          · subst hjk
            show dw_fit 3 (dw_up μ.2.2.1 a _ x a _)
            rw [dw_up_at, if_pos rfl]
            exact hfx
          · show dw_fit 3 (dw_up μ.2.2.1 a _ x a _)
            rw [dw_up_at, if_neg hjk]
            exact g2 j hj
      next => exact h.elim
    next => exact h.elim
  next => exact h.elim
theorem s_lastore {nx : Nat} (X : CallFix p m c cc nL s args Ts own) (hE : dw_E D aC b0 ex HB s) (hd : decode cc pc = .ok (.lastore, 1)) (hn : pc + 1 = nx) : dw_Snd p l e R s m args below meth c Q D aC b0 ex HB nL pc (o_last nx) := by
  subst hn
  intro B hB bc bs ls st μ h H locs ph cells slots hR hL hlo hc hs
  unfold o_last at h
  split at h
  next x i a r =>
    split at h
    next ha =>
      have ha2 := ha
      have ha1 := hR.dom (a := a) (by rw [ha2]; decide)
      split at h
      next hi =>
        obtain ⟨g1, g2⟩ := dw_arr (t := 1) hR ha1 ha2
        show W p l e R s m args below meth c H locs cells slots Q (F0 m pc ph (.long x :: .int i :: dw_tr b0 ex (.ref a) :: r.map (dw_tr b0 ex)))
        rw [dw_tr_ref (hR.lt (a := a) (by rw [ha2]; first | omega | decide))]
        refine W.last X.1 X.2.1 g1 ((hE.2.1 1 (.long) rfl).1 _ _) (fun q => by cases q) (by rw [arrV_size]; exact fun q => q.elim hi.1 (Nat.not_le.mpr hi.2)) rfl rfl hd fun H1 e1 e2 e3 => ?_
        refine hB _ _ _ _ _ _ h H1 _ ph cells slots ?_ (dw_locs hL) hlo hc hs
        refine dw_arrR (t := 1) (j := i.toNatClampNeg) (x := .long x) (ty := .long) hR ha1 ha2 rfl rfl (fun _ _ => rfl) ⟨rfl, rfl⟩ (fun _ _ _ => rfl) (fun k hk j => dw_up_ne hk) e2 e3 e1 (fun j => ?_) (fun j hj => g2 j hj)
        by_cases hjk : j = i.toNatClampNeg
        · subst hjk
          rw [if_pos rfl]
          show Value.long (dw_up μ.2.2.2 a _ x a _) = _
          rw [dw_up_at, if_pos rfl]
        · rw [if_neg hjk]
          show Value.long (dw_up μ.2.2.2 a _ x a _) = _
          rw [dw_up_at, if_neg hjk]
          rfl
      next => exact h.elim
    next => exact h.elim
  next => exact h.elim
theorem s_aastore_s {nx : Nat} (X : CallFix p m c cc nL s args Ts own) (hE : dw_E D aC b0 ex HB s) (hd : decode cc pc = .ok (.aastore, 1)) (hn : pc + 1 = nx) : dw_Snd p l e R s m args below meth c Q D aC b0 ex HB nL pc (o_aast 21 8 nx) := by
  subst hn
  intro B hB bc bs ls st μ h H locs ph cells slots hR hL hlo hc hs
  unfold o_aast at h
  split at h
  next x i a r =>
    split at h
    next ha =>
      obtain ⟨ha2, hx2⟩ := ha
      have ha1 := hR.dom (a := a) (by rw [ha2]; decide)
      have hx1 := hR.dom (a := x) (by rw [hx2]; decide)
      split at h
      next hi =>
        obtain ⟨g1, g2⟩ := dw_arr (t := 5) hR ha1 ha2
        obtain ⟨o1, ⟨cellV, v1, v2, v3, -⟩, -⟩ := dw_obj hR hx1 hx2 (ci := 8) (C := RX8) (T := TX8) rfl (by decide)
        show W p l e R s m args below meth c H locs cells slots Q (F0 m pc ph (dw_tr b0 ex (.ref x) :: .int i :: dw_tr b0 ex (.ref a) :: r.map (dw_tr b0 ex)))
        rw [dw_tr_ref (hR.lt (a := a) (by rw [ha2]; first | omega | decide)), dw_tr_ref (hR.lt (a := x) (by rw [hx2]; decide))]
        have hcls := (hE.1 8 _ rfl).2
        obtain ⟨kA, comp, k1, k2, k3, -⟩ := (hE.2.1 5 (.object RX8) rfl).2.1
        have hcomp : comp = D.1 8 := Option.some.inj (k3.symm.trans hcls.1)
        subst hcomp
        obtain ⟨kC, hkC, -⟩ := hcls.2
        refine W.aast X.1 X.2.1 g1 (fun q h => by cases h) (fun h => by cases h) k1 k2 rfl hkC ⟨hi.1, by rw [arrV_size]; exact hi.2⟩ v1 (fun q h => by rw [v3] at h; cases h) (by rw [v2]; exact hkC) (by rw [v2]; exact va_assign hcls) rfl rfl hd fun H1 e1 e2 e3 => ?_
        refine hB _ _ _ _ _ _ h H1 _ ph cells slots ?_ (dw_locs hL) hlo hc hs
        refine dw_arrR (t := 5) (j := i.toNatClampNeg) (x := .ref (b0 + x)) (ty := .object RX8) hR ha1 ha2 rfl rfl (fun k hk => by simp [dw_sr, hk]) (by simp [dw_sr]) (fun _ _ _ => rfl) (fun _ _ _ => rfl) e2 e3 e1 (fun j => ?_) (fun j hj => g2 j hj)
        by_cases hjk : j = i.toNatClampNeg
        · subst hjk
          rw [if_pos rfl, ← dw_tr_ref (ex := ex) (hR.lt (a := x) (by rw [hx2]; decide))]
          show dw_tr b0 ex (dw_rv _) = _
          simp [dw_sr, dw_rv]
        · rw [if_neg hjk]
          show dw_tr b0 ex (dw_rv _) = dw_tr b0 ex (dw_rv _)
          simp [dw_sr, hjk]
      next => exact h.elim
    next => exact h.elim
  next => exact h.elim
theorem s_aastore_n {nx : Nat} (X : CallFix p m c cc nL s args Ts own) (hE : dw_E D aC b0 ex HB s) (hd : decode cc pc = .ok (.aastore, 1)) (hn : pc + 1 = nx) : dw_Snd p l e R s m args below meth c Q D aC b0 ex HB nL pc (o_aast 22 2 nx) := by
  subst hn
  intro B hB bc bs ls st μ h H locs ph cells slots hR hL hlo hc hs
  unfold o_aast at h
  split at h
  next x i a r =>
    split at h
    next ha =>
      obtain ⟨ha2, hx2⟩ := ha
      have ha1 := hR.dom (a := a) (by rw [ha2]; decide)
      have hx1 := hR.dom (a := x) (by rw [hx2]; decide)
      split at h
      next hi =>
        obtain ⟨g1, g2⟩ := dw_arr (t := 6) hR ha1 ha2
        obtain ⟨o1, ⟨cellV, v1, v2, v3, -⟩, -⟩ := dw_obj hR hx1 hx2 (ci := 2) (C := RX2) (T := TX2) rfl (by decide)
        show W p l e R s m args below meth c H locs cells slots Q (F0 m pc ph (dw_tr b0 ex (.ref x) :: .int i :: dw_tr b0 ex (.ref a) :: r.map (dw_tr b0 ex)))
        rw [dw_tr_ref (hR.lt (a := a) (by rw [ha2]; first | omega | decide)), dw_tr_ref (hR.lt (a := x) (by rw [hx2]; decide))]
        have hcls := (hE.1 2 _ rfl).2
        obtain ⟨kA, comp, k1, k2, k3, -⟩ := (hE.2.1 6 (.object RX2) rfl).2.1
        have hcomp : comp = D.1 2 := Option.some.inj (k3.symm.trans hcls.1)
        subst hcomp
        obtain ⟨kC, hkC, -⟩ := hcls.2
        refine W.aast X.1 X.2.1 g1 (fun q h => by cases h) (fun h => by cases h) k1 k2 rfl hkC ⟨hi.1, by rw [arrV_size]; exact hi.2⟩ v1 (fun q h => by rw [v3] at h; cases h) (by rw [v2]; exact hkC) (by rw [v2]; exact va_assign hcls) rfl rfl hd fun H1 e1 e2 e3 => ?_
        refine hB _ _ _ _ _ _ h H1 _ ph cells slots ?_ (dw_locs hL) hlo hc hs
        refine dw_arrR (t := 6) (j := i.toNatClampNeg) (x := .ref (b0 + x)) (ty := .object RX2) hR ha1 ha2 rfl rfl (fun k hk => by simp [dw_sr, hk]) (by simp [dw_sr]) (fun _ _ _ => rfl) (fun _ _ _ => rfl) e2 e3 e1 (fun j => ?_) (fun j hj => g2 j hj)
        by_cases hjk : j = i.toNatClampNeg
        · subst hjk
          rw [if_pos rfl, ← dw_tr_ref (ex := ex) (hR.lt (a := x) (by rw [hx2]; decide))]
          show dw_tr b0 ex (dw_rv _) = _
          simp [dw_sr, dw_rv]
        · rw [if_neg hjk]
          show dw_tr b0 ex (dw_rv _) = dw_tr b0 ex (dw_rv _)
          simp [dw_sr, hjk]
      next => exact h.elim
    next => exact h.elim
  next => exact h.elim
theorem s_arraylength {nx : Nat} (X : CallFix p m c cc nL s args Ts own) (hE : dw_E D aC b0 ex HB s) (hd : decode cc pc = .ok (.arraylength, 1)) (hn : pc + 1 = nx) : dw_Snd p l e R s m args below meth c Q D aC b0 ex HB nL pc (o_alen nx) := by
  subst hn
  intro B hB bc bs ls st μ h H locs ph cells slots hR hL hlo hc hs
  unfold o_alen at h
  split at h
  next a r =>
    split at h
    next ha =>
      obtain ⟨h9, ha2⟩ := ha
      have ha1 := hR.dom (a := a) h9
      have g1 := (hR.2.2.2.2.1 a ha1).1
      unfold dw_cellAt at g1
      rw [if_neg h9, if_neg ha2] at g1
      obtain ⟨⟨ty, hty⟩, g2⟩ := g1
      show W p l e R s m args below meth c H locs cells slots Q (F0 m pc ph (dw_tr b0 ex (.ref a) :: r.map (dw_tr b0 ex)))
      rw [dw_tr_ref (hR.lt (a := a) h9)]
      exact W.alen (n := Int32.ofNat (μ.2.1 a).2.1) X.1 X.2.1 g2 ((hE.2.1 _ ty hty).1 _ _) (by rw [arrV_size] <;> rfl) rfl rfl hd (hB _ _ _ _ _ _ h H locs ph cells slots hR hL hlo hc hs)
    next => exact h.elim
  next => exact h.elim
end DWS3
