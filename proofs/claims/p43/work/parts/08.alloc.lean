theorem vr_outer (c : ClassId) (N h0 : Nat) : ∀ i : Nat, Jvm.Free.Multi.outerC c N h0 i = arrV c N (fun j => va_rf (if j < i then some (h0 + 1 + j) else none))
  | 0 => by
    show ({ cls := c, slots := Array.replicate N .null, vm := .none } : Cell) = _
    rw [arrV_new]
    refine congrArg (arrV c N) (funext fun j => ?_)
    simp [va_rf]
  | i + 1 => by
    show (Jvm.Free.Multi.outerC c N h0 i).setSlot i (.ref (h0 + 1 + i)) = _
    rw [vr_outer c N h0 i, arrV_store]
    refine congrArg (arrV c N) (funext fun j => ?_)
    by_cases e : j = i
    · subst e
      simp [updV, va_rf]
    · by_cases h : j < i
      · simp [updV, e, h, Nat.lt_succ_of_lt h]
      · simp [updV, e, h, show ¬ j < i + 1 by omega]
/-! ===== making cells, copying, Math ===== -/
/-- one more cell, all of it 0 or null -/
def dw_nw (μ : dw_S) (kd N : Nat) : dw_S := (μ.1 + 1, (fun a => if a = μ.1 then (kd, N, fun _ => none) else μ.2.1 a), (fun a j => if a = μ.1 then 0 else μ.2.2.1 a j), fun a j => if a = μ.1 then 0 else μ.2.2.2 a j)
/-- an array of n rows, and the rows, of k ints each -/
def dw_nm (μ : dw_S) (n k : Nat) : dw_S := (μ.1 + (1 + n), (fun a => if a = μ.1 then (20, n, fun i => if i < n then some (μ.1 + 1 + i) else none) else if μ.1 < a ∧ a < μ.1 + (1 + n) then (16, k, fun _ => none) else μ.2.1 a), (fun a j => if μ.1 ≤ a ∧ a < μ.1 + (1 + n) then 0 else μ.2.2.1 a j), fun a j => if μ.1 ≤ a ∧ a < μ.1 + (1 + n) then 0 else μ.2.2.2 a j)
def dw_cp (μ : dw_S) (sr d sp dp n : Nat) : dw_S := (μ.1, μ.2.1, (fun a j => if a = d then (if dp ≤ j ∧ j < dp + n then μ.2.2.1 sr (sp + (j - dp)) else μ.2.2.1 d j) else μ.2.2.1 a j), μ.2.2.2)
def o_new (ci N nx : Nat) : dw_Op := fun B bc bs ls st μ => if 1 ≤ bc ∧ N ≤ bs ∧ μ.1 < 1000000 then B nx (bc - 1) (bs - N) ls (.ref μ.1 :: st) (dw_nw μ ci N) else False
def o_newa (kd nx : Nat) : dw_Op := fun B bc bs ls st μ => match st with
  | .int n :: r => if ¬ n < 0 ∧ 1 ≤ bc ∧ n.toNatClampNeg ≤ bs ∧ μ.1 < 1000000 ∧ n.toNatClampNeg ≤ 50000000 then B nx (bc - 1) (bs - n.toNatClampNeg) ls (.ref μ.1 :: r) (dw_nw μ kd n.toNatClampNeg) else False
  | _ => False
def o_mna (nx : Nat) : dw_Op := fun B bc bs ls st μ => match st with
  | .int k :: .int n :: r => if (¬ n < 0 ∧ ¬ k < 0) ∧ (1 + n.toNatClampNeg ≤ bc ∧ n.toNatClampNeg + n.toNatClampNeg * k.toNatClampNeg ≤ bs) ∧ μ.1 + (1 + n.toNatClampNeg) ≤ 1000000 ∧ n.toNatClampNeg ≤ 50000000 ∧ k.toNatClampNeg ≤ 50000000 then B nx (bc - (1 + n.toNatClampNeg)) (bs - (n.toNatClampNeg + n.toNatClampNeg * k.toNatClampNeg)) ls (.ref μ.1 :: r) (dw_nm μ n.toNatClampNeg k.toNatClampNeg) else False
  | _ => False
def o_oinit (nx : Nat) : dw_Op := fun B bc bs ls st μ => match st with
  | .ref _ :: r => if dw_cats r ≤ 8 then B nx bc bs ls r μ else False
  | _ => False
def o_copy (nx : Nat) : dw_Op := fun B bc bs ls st μ => match st with
  | .int n :: .int dp :: .ref d :: .int sp :: .ref sr :: r => if (μ.2.1 sr).1 = 16 ∧ (μ.2.1 d).1 = 16 ∧ dw_cats r ≤ 8 then (if (¬ sp < 0 ∧ ¬ dp < 0 ∧ ¬ n < 0) ∧ sp.toNatClampNeg + n.toNatClampNeg ≤ (μ.2.1 sr).2.1 ∧ dp.toNatClampNeg + n.toNatClampNeg ≤ (μ.2.1 d).2.1 then B nx bc bs ls r (dw_cp μ sr d sp.toNatClampNeg dp.toNatClampNeg n.toNatClampNeg) else False) else False
  | _ => False
def o_max (nx : Nat) : dw_Op := fun B bc bs ls st μ => match st with
  | .int y :: .int x :: r => if dw_cats r ≤ 8 then B nx bc bs ls (.int (if x < y then y else x) :: r) μ else False
  | _ => False
def o_min (nx : Nat) : dw_Op := fun B bc bs ls st μ => match st with
  | .int y :: .int x :: r => if dw_cats r ≤ 8 then B nx bc bs ls (.int (if y < x then y else x) :: r) μ else False
  | _ => False
def o_abs (nx : Nat) : dw_Op := fun B bc bs ls st μ => match st with
  | .int x :: r => if dw_cats r ≤ 8 then B nx bc bs ls (.int (if 0 ≤ x then x else 0 - x) :: r) μ else False
  | _ => False
def dw_dv (t : Nat) : Value := match t with
  | 1 => .long 0
  | 2 => .null
  | _ => .int 0
theorem dw_def (ty : FieldType) (h1 : ty ≠ .float) (h2 : ty ≠ .double) : defaultValue ty = dw_dv (dw_tc ty) := by
  cases ty <;> first | rfl | exact absurd rfl h1 | exact absurd rfl h2
theorem dw_fit0 (t : Nat) : dw_fit t 0 := by
  unfold dw_fit
  split
  · exact Or.inl rfl
  · rfl
  · trivial
section DWA
variable {D : va_G} {aC : Nat → ClassId} {b0 : Nat} {ex : Nat → Nat} {HB H H' : Heap} {μ μ' : dw_S}
theorem dw_cellAt.keptNe {k : Nat} (h : dw_cellAt D aC b0 ex μ k H) (hs : μ'.2.1 k = μ.2.1 k) (hi : ∀ j, μ'.2.2.1 k j = μ.2.2.1 k j) (hl : ∀ j, μ'.2.2.2 k j = μ.2.2.2 k j) (hq : H'[b0 + k]? = H[b0 + k]?) : dw_cellAt D aC b0 ex μ' k H' := h.kept hs hi hl hq
theorem dw_R.push {kd N : Nat} (hR : dw_R D aC b0 ex HB μ H) (hn : μ.1 < 1000000) (hz : H'.size = H.size + 1) (hq : ∀ q, q < H.size → H'[q]? = H[q]?) (hc : dw_cellAt D aC b0 ex (dw_nw μ kd N) μ.1 H') : dw_R D aC b0 ex HB (dw_nw μ kd N) H' := by
  obtain ⟨h1, h2, h3, h4, h5, h6⟩ := hR
  refine ⟨by rw [hz, h1]; rfl, fun k hk => by rw [show (dw_nw μ kd N).2.1 k = μ.2.1 k by simp [dw_nw, show ¬ k = μ.1 by omega]]; exact h2 k hk, fun q hqb => by rw [hq q (by omega)]; exact h3 q hqb, h4, fun k hk => ?_, fun k hk => ?_⟩
  rotate_left
  · have hk' : μ.1 + 1 ≤ k := hk
    have e1 : (dw_nw μ kd N).2.1 k = μ.2.1 k := by simp [dw_nw, show ¬ k = μ.1 by omega]
    rw [e1]
    exact h6 k (by omega)
  have hk' : k < μ.1 + 1 := hk
  by_cases hkn : k = μ.1
  · subst hkn
    refine ⟨hc, fun j _ => ?_⟩
    have : (dw_nw μ kd N).2.2.1 μ.1 j = 0 := by simp [dw_nw]
    rw [this]
    exact dw_fit0 _
  · obtain ⟨g1, g2⟩ := h5 k (by omega)
    refine ⟨g1.kept (by simp [dw_nw, hkn]) (fun j => by simp [dw_nw, hkn]) (fun j => by simp [dw_nw, hkn]) (hq _ (by omega)), fun j hj => ?_⟩
    have e1 : (dw_nw μ kd N).2.1 k = μ.2.1 k := by simp [dw_nw, hkn]
    have e2 : (dw_nw μ kd N).2.2.1 k j = μ.2.2.1 k j := by simp [dw_nw, hkn]
    rw [e1] at hj ⊢
    rw [e2]
    exact g2 j hj
theorem dw_nw_v {kd N j t : Nat} : dw_tr b0 ex (dw_vt t (dw_nw μ kd N) μ.1 j) = dw_dv t := by
  unfold dw_vt dw_dv
  split <;> simp [dw_nw, dw_rv, dw_tr]
theorem dw_arrNew {t len : Nat} {ty : FieldType} {dv : Value} (hR : dw_R D aC b0 ex HB μ H) (hn : μ.1 < 1000000) (hty : dw_at[t]? = some ty) (hdv : dv = dw_dv (dw_ac t)) (hz : H'.size = H.size + 1) (hq : ∀ q, q < H.size → H'[q]? = H[q]?) (hc : H'[H.size]? = some (arrV (aC t) len (fun _ => dv))) : dw_R D aC b0 ex HB (dw_nw μ (16 + t) len) H' := by
  refine hR.push hn hz hq ?_
  have h16 : ¬ 16 + t < 16 := by omega
  have ht : 16 + t - 16 = t := by omega
  have e1 : (dw_nw μ (16 + t) len).2.1 μ.1 = (16 + t, len, fun _ => none) := by simp [dw_nw]
  have h9 : ¬ 16 + t = 999 := by
    have := (List.getElem?_eq_some_iff.mp hty).1
    have h7 : dw_at.length = 7 := rfl
    omega
  unfold dw_cellAt
  rw [e1]
  simp only [h9, h16, if_false, ht]
  refine ⟨⟨ty, hty⟩, ?_⟩
  rw [← hR.1, hc, hdv]
  congr 2
  funext j
  exact dw_nw_v.symm
end DWA
section DWAS
variable {p : Program} {l : Launch} {e : Env} {R : Room} {s : State} {m : MethodId} {args : Array Value} {below : List Frame} {meth : Method} {c : Code} {Q : State → Prop}
variable {D : va_G} {aC : Nat → ClassId} {b0 : Nat} {ex : Nat → Nat} {HB : Heap} {nL : Nat} {cc : ByteArray} {Ts : List Cond} {own : String} {pc : Nat}
theorem s_new {ci N index nx : Nat} {C : String} {T : u_T} (X : CallFix p m c cc nL s args Ts own) (hE : dw_E D aC b0 ex HB s) (ty0 : Nat → FieldType) (hty : ∀ k, k < N → parseFieldDescriptor (T k).2.2.1 = some (ty0 k)) (hc16 : dw_cl[ci]? = some (C, T, N)) (hci : ci < 16) (hdt : ∀ j, j < N → dw_ct ci j = dw_tc (ty0 j) ∧ ty0 j ≠ .float ∧ ty0 j ≠ .double) (hin : ∀ w ∈ u_ws C T N, w ∈ Ts)
    (w1 : Cond.classLink own index C ∈ Ts) (w2 : Cond.instantiable C N ∈ Ts) (w3 : Cond.initialized C ∈ Ts) (hd : decode cc pc = .ok (.new index, 3)) (hn : pc + 3 = nx) : dw_Snd p l e R s m args below meth c Q D aC b0 ex HB nL pc (o_new ci N nx) := by
  subst hn
  intro B hB bc bs ls st μ h H locs ph cells slots hR hL hlo hc hs
  unfold o_new at h
  split at h
  next hcd =>
    obtain ⟨hb1, hb2, hb3⟩ := hcd
    have hts := X.2.2.2.2
    have hKn := hE.1 ci _ hc16
    refine W.newcK X.1 X.2.1 X.2.2.2.1 (hts _ w1) (hts _ w2) (hts _ w3) rfl hd (by omega) (by omega) hKn.2.1 rfl fun H1 kC hkC e1 z1 o1 => ?_
    have hO := u_born ty0 hts hin hKn hkC e1 hty
    have hR1 : dw_R D aC b0 ex HB (dw_nw μ ci N) H1 := by
      refine hR.push hb3 z1 o1 ?_
      have e2 : (dw_nw μ ci N).2.1 μ.1 = (ci, N, fun _ => none) := by simp [dw_nw]
      unfold dw_cellAt
      rw [e2]
      simp only [show ¬ ci = 999 by omega, hci, if_true, if_false]
      refine ⟨⟨_, hc16, rfl⟩, ?_⟩
      rw [← hR.1]
      refine hO.to fun j hj => ?_
      rw [dw_nw_v, (hdt j hj).1]
      exact dw_def _ (hdt j hj).2.1 (hdt j hj).2.2
    have hg := hB _ _ _ _ _ _ h H1 locs ph (cells + 1) (slots + N) hR1 hL hlo (by omega) (by omega)
    rw [List.map_cons, dw_tr_ref hb3, ← hR.1] at hg
    exact hg
  next => exact h.elim
theorem s_newarray {t nx : Nat} {atype : ArrayType} {ty : FieldType} (X : CallFix p m c cc nL s args Ts own) (hE : dw_E D aC b0 ex HB s) (hat : newarray.typeOf atype = ty) (hty : dw_at[t]? = some ty) (hf : ty ≠ .float ∧ ty ≠ .double) (w1 : Cond.arrayClass (newarray.typeOf atype) ∈ Ts) (hd : decode cc pc = .ok (.newarray atype, 2)) (hn : pc + 2 = nx) : dw_Snd p l e R s m args below meth c Q D aC b0 ex HB nL pc (o_newa (16 + t) nx) := by
  subst hn
  intro B hB bc bs ls st μ h H locs ph cells slots hR hL hlo hc hs
  unfold o_newa at h
  split at h
  next n r =>
    split at h
    next hcd =>
      obtain ⟨hb0, hb1, hb2, hb3, hb4⟩ := hcd
      have hcb : ∀ z : FieldType, componentBytes z ≤ 8 := by intro z; cases z <;> simp [componentBytes]
      refine va_newaK X.1 X.2.1 (X.2.2.2.2 _ w1) rfl hd rfl hb0 rfl (Nat.le_trans (Nat.mul_le_mul hb4 (hcb _)) (Nat.le_of_ble_eq_true rfl)) (by omega) (by omega) rfl fun H1 cA e1 z1 o1 hAr hNm => ?_
      have hcA : aC t = cA := by
        have h1 := (hE.2.1 t ty hty).2.2
        rw [← hat] at h1
        exact Option.some.inj (h1.symm.trans hNm)
      have hR1 : dw_R D aC b0 ex HB (dw_nw μ (16 + t) n.toNatClampNeg) H1 := by
        refine dw_arrNew hR hb3 hty ?_ z1 o1 (by rw [hcA]; exact e1)
        rw [hat, dw_def ty hf.1 hf.2]
        unfold dw_ac
        rw [hty]
      have hg := hB _ _ _ _ _ _ h H1 locs ph (cells + 1) (slots + n.toNatClampNeg) hR1 hL hlo (by omega) (by omega)
      rw [List.map_cons, dw_tr_ref hb3, ← hR.1] at hg
      exact hg
    next => exact h.elim
  next => exact h.elim
theorem s_anewarray {t index nx : Nat} {C : String} (X : CallFix p m c cc nL s args Ts own) (hE : dw_E D aC b0 ex HB s) (hov : va_AO C s) (hty : dw_at[t]? = some (.object C)) (w1 : Cond.classLink own index C ∈ Ts) (hd : decode cc pc = .ok (.anewarray index, 3)) (hn : pc + 3 = nx) : dw_Snd p l e R s m args below meth c Q D aC b0 ex HB nL pc (o_newa (16 + t) nx) := by
  subst hn
  intro B hB bc bs ls st μ h H locs ph cells slots hR hL hlo hc hs
  unfold o_newa at h
  split at h
  next n r =>
    split at h
    next hcd =>
      obtain ⟨hb0, hb1, hb2, hb3, hb4⟩ := hcd
      refine W.anew X.1 X.2.1 X.2.2.2.1 (X.2.2.2.2 _ w1) (va_AO.use hov) rfl hd rfl hb0 (Nat.le_trans (Nat.mul_le_mul hb4 (Nat.le_refl 4)) (Nat.le_of_ble_eq_true rfl)) (by omega) (by omega) fun cA kA comp f1 f2 f3 f4 => ?_
      generalize hH1 : H.push ({ cls := cA, slots := Array.replicate n.toNatClampNeg .null, vm := .none } : Cell) = H1
      have z1 : H1.size = H.size + 1 := by rw [← hH1, Array.size_push]
      have e1 : H1[H.size]? = some (arrV cA n.toNatClampNeg (fun _ => .null)) := by rw [← hH1, Array.getElem?_push_size, ← arrV_new]
      have o1 : ∀ q : Nat, q < H.size → H1[q]? = H[q]? := fun q hq => by rw [← hH1, Array.getElem?_push, if_neg (Nat.ne_of_lt hq)]
      have hcA : aC t = cA := Option.some.inj ((hE.2.1 t _ hty).2.2.symm.trans f1)
      have hR1 : dw_R D aC b0 ex HB (dw_nw μ (16 + t) n.toNatClampNeg) H1 := by
        refine dw_arrNew hR hb3 hty ?_ z1 o1 (by rw [hcA]; exact e1)
        unfold dw_ac
        rw [hty]
        rfl
      have hg := hB _ _ _ _ _ _ h H1 locs ph (cells + 1) (slots + n.toNatClampNeg) hR1 hL hlo (by omega) (by omega)
      rw [List.map_cons, dw_tr_ref hb3, ← hR.1] at hg
      exact hg
    next => exact h.elim
  next => exact h.elim
theorem s_multianewarray {index nx : Nat} (X : CallFix p m c cc nL s args Ts own) (hE : dw_E D aC b0 ex HB s) (w1 : Cond.classLink own index ("[" ++ (FieldType.array .int).toString) ∈ Ts) (w2 : Cond.arrayClass .int ∈ Ts) (hd : decode cc pc = .ok (.multianewarray index 2, 4)) (hn : pc + 4 = nx) : dw_Snd p l e R s m args below meth c Q D aC b0 ex HB nL pc (o_mna nx) := by
  subst hn
  intro B hB bc bs ls st μ h H locs ph cells slots hR hL hlo hc hs
  unfold o_mna at h
  split at h
  next k n r =>
    split at h
    next hcd =>
      obtain ⟨⟨hn0, hk0⟩, ⟨hb1, hb2⟩, hb3, hb4, hb5⟩ := hcd
      intro T hT Xs
      obtain ⟨vm₁, cA, comp, -, fA, fC, hO, -, X', step⟩ := Xs.multianewarray2F X.1 X.2.2.2.1 (ty := .int) (X.2.2.2.2 _ w1) hE.2.2.2.2.2.1 (X.2.2.2.2 _ w2) (g := F0 m pc ph (.int k :: .int n :: r.map (dw_tr b0 ex))) rfl (by rw [X.2.1]; exact hd) rfl hn0 hk0 (Nat.le_trans (Nat.mul_le_mul hb4 (Nat.le_refl 4)) (Nat.le_of_ble_eq_true rfl)) (Nat.le_trans (Nat.mul_le_mul hb5 (Nat.le_refl 4)) (Nat.le_of_ble_eq_true rfl)) (Nat.le_trans hb5 (Nat.le_of_ble_eq_true rfl)) rfl rfl (by omega) (by omega)
      have ecA : aC 4 = cA := Option.some.inj ((hE.2.1 4 (.array .int) rfl).2.2.symm.trans fA)
      have ecI : aC 0 = comp := Option.some.inj ((hE.2.1 0 .int rfl).2.2.symm.trans fC)
      subst ecA
      subst ecI
      generalize hF : Jvm.Free.Multi.fill (T.setVm vm₁) (aC 4) (aC 0) n.toNatClampNeg k.toNatClampNeg (defaultValue .int) n.toNatClampNeg = F at X' step
      have hTh : (T.setVm vm₁).heap = H := hT
      obtain ⟨f1, f2, -, -⟩ := Jvm.Free.Multi.fill_facts (T.setVm vm₁) (aC 4) (aC 0) n.toNatClampNeg k.toNatClampNeg (defaultValue .int) n.toNatClampNeg
      rw [hF, hTh] at f1 f2
      have hold : ∀ x : Nat, x < H.size → F.heap[x]? = H[x]? := fun x hx => by
        have := Jvm.Free.Multi.fill_old (T.setVm vm₁) (aC 4) (aC 0) n.toNatClampNeg k.toNatClampNeg (defaultValue .int) (a := x) (by rw [hTh]; exact hx) n.toNatClampNeg
        rw [hF, hTh] at this
        exact this
      have hrow : ∀ j : Nat, j < n.toNatClampNeg → F.heap[H.size + 1 + j]? = some (arrV (aC 0) k.toNatClampNeg (fun _ => .int 0)) := fun j hj => by
        have := Jvm.Free.Multi.fill_inner (T.setVm vm₁) (aC 4) (aC 0) n.toNatClampNeg k.toNatClampNeg (defaultValue .int) n.toNatClampNeg j hj
        rw [hF, hTh] at this
        rw [this, ← arrV_new]
        rfl
      have hout : F.heap[H.size]? = some (arrV (aC 4) n.toNatClampNeg (fun j => va_rf (if j < n.toNatClampNeg then some (H.size + 1 + j) else none))) := by
        rw [f2]
        exact congrArg some (vr_outer (aC 4) n.toNatClampNeg H.size n.toNatClampNeg)
      have hR1 : dw_R D aC b0 ex HB (dw_nm μ n.toNatClampNeg k.toNatClampNeg) F.heap := by
        generalize n.toNatClampNeg = n' at *
        generalize k.toNatClampNeg = k' at *
        obtain ⟨h1, h2, h3, h4, h5, h6⟩ := hR
        refine ⟨?_, fun k hk => by rw [show (dw_nm μ n' k').2.1 k = μ.2.1 k by simp [dw_nm, show ¬ k = μ.1 by omega, show ¬ (μ.1 < k ∧ k < μ.1 + (1 + n')) by omega]]; exact h2 k hk, fun q hq => by rw [hold q (by omega)]; exact h3 q hq, h4, fun a ha => ?_, fun a ha => ?_⟩
        rotate_right
        · have ha' : μ.1 + (1 + n') ≤ a := ha
          have e1 : (dw_nm μ n' k').2.1 a = μ.2.1 a := by simp [dw_nm, show ¬ a = μ.1 by omega, show ¬ (μ.1 < a ∧ a < μ.1 + (1 + n')) by omega]
          rw [e1]
          exact h6 a (by omega)
        · show F.heap.size = b0 + (μ.1 + (1 + n'))
          rw [f1]
          omega
        · have ha' : a < μ.1 + (1 + n') := ha
          by_cases c1 : a = μ.1
          · subst c1
            have e1 : (dw_nm μ n' k').2.1 μ.1 = (20, n', fun i => if i < n' then some (μ.1 + 1 + i) else none) := by simp [dw_nm]
            refine ⟨?_, fun j hj => ?_⟩
            · unfold dw_cellAt
              rw [e1]
              refine ⟨⟨_, rfl⟩, ?_⟩
              rw [← h1, hout]
              refine congrArg some (congrArg (arrV (aC 4) n') (funext fun j => ?_))
              show _ = dw_tr b0 ex (dw_rv (((dw_nm μ n' k').2.1 μ.1).2.2 j))
              rw [e1]
              by_cases hj : j < n'
              · simp only [hj, if_true, va_rf, dw_rv]
                rw [dw_tr_ref (a := μ.1 + 1 + j) (by omega)]
                exact congrArg Value.ref (show H.size + 1 + j = b0 + (μ.1 + 1 + j) by rw [h1]; omega)
              · simp only [hj, if_false, va_rf, dw_rv, dw_tr]
            · rw [show (dw_nm μ n' k').2.2.1 μ.1 j = 0 by simp [dw_nm]]
              exact dw_fit0 _
          · by_cases c2 : μ.1 < a
            · have e1 : (dw_nm μ n' k').2.1 a = (16, k', fun _ => none) := by simp [dw_nm, c1, c2, ha']
              have e2 : ∀ j, (dw_nm μ n' k').2.2.1 a j = 0 := fun j => by simp [dw_nm, Nat.le_of_lt c2, ha']
              refine ⟨?_, fun j hj => ?_⟩
              · unfold dw_cellAt
                rw [e1]
                refine ⟨⟨_, rfl⟩, ?_⟩
                have := hrow (a - μ.1 - 1) (by omega)
                rw [show H.size + 1 + (a - μ.1 - 1) = b0 + a by omega] at this
                rw [this]
                refine congrArg some (congrArg (arrV (aC 0) k') (funext fun j => ?_))
                show _ = Value.int ((dw_nm μ n' k').2.2.1 a j)
                rw [e2]
              · rw [e2]
                exact dw_fit0 _
            · obtain ⟨g1, g2⟩ := h5 a (by omega)
              have e1 : (dw_nm μ n' k').2.1 a = μ.2.1 a := by simp [dw_nm, c1, c2]
              have e2 : ∀ j, (dw_nm μ n' k').2.2.1 a j = μ.2.2.1 a j := fun j => by simp [dw_nm, show ¬ μ.1 ≤ a by omega]
              have e3 : ∀ j, (dw_nm μ n' k').2.2.2 a j = μ.2.2.2 a j := fun j => by simp [dw_nm, show ¬ μ.1 ≤ a by omega]
              refine ⟨g1.kept e1 e2 e3 (hold _ (by omega)), fun j hj => ?_⟩
              rw [e1] at hj ⊢
              rw [e2]
              exact g2 j hj
      have hg := hB _ _ _ _ _ _ h F.heap locs ph (cells + 1 + n.toNatClampNeg) (slots + n.toNatClampNeg + n.toNatClampNeg * k.toNatClampNeg) hR1 hL hlo (by omega) (by omega)
      rw [List.map_cons, dw_tr_ref (by omega), ← hR.1] at hg
      obtain ⟨t, a1, b1⟩ := hg F rfl X'
      refine ⟨t, step t ?_, b1⟩
      have e : T.heap.size = H.size := by rw [hT]
      rw [e]
      exact a1
    next => exact h.elim
  next => exact h.elim
theorem s_objInit {index nx : Nat} (X : CallFix p m c cc nL s args Ts own) (hrm : 1 ≤ R.frames ∧ 20 ≤ R.locals) (w1 : Cond.methodLink own index objectInit ∈ Ts) (w2 : Cond.instanceMethod objectInit ∈ Ts) (w3 : Cond.code objectInit ⟨#[0xb1]⟩ 1 none ∈ Ts) (hd : decode cc pc = .ok (.invokespecial index, 3)) (hn : pc + 3 = nx) : dw_Snd p l e R s m args below meth c Q D aC b0 ex HB nL pc (o_oinit nx) := by
  subst hn
  intro B hB bc bs ls st μ h H locs ph cells slots hR hL hlo hc hs
  unfold o_oinit at h
  split at h
  next a r =>
    split at h
    next hcd =>
      have hts := X.2.2.2.2
      refine W.objInit (a := if a < 1000000 then b0 + a else ex (a - 1000000)) (rest := r.map (dw_tr b0 ex)) X.1 X.2.1 X.2.2.2.1 (hts _ w1) (hts _ w2) (hts _ w3) rfl (by rw [X.2.2.1]; exact hlo.1) rfl hd hrm.1 ?_ (hB _ _ _ _ _ _ h H locs ph cells slots hR hL hlo hc hs)
      rw [dw_cats_sum]
      show 2 * 0 + dw_cats r + 12 ≤ R.locals
      omega
    next => exact h.elim
  next => exact h.elim
theorem s_max {index nx : Nat} (X : CallFix p m c cc nL s args Ts own) (hrm : 1 ≤ R.frames ∧ 21 ≤ R.locals) (w1 : Cond.methodLink own index Lib.Math.max.name ∈ Ts) (w2 : Cond.static Lib.Math.max.name ∈ Ts) (w3 : Cond.initialized "java/lang/Math" ∈ Ts) (w4 : Cond.code Lib.Math.max.name Lib.Math.max.code 2 (some .int) ∈ Ts) (hd : decode cc pc = .ok (.invokestatic index, 3)) (hn : pc + 3 = nx) : dw_Snd p l e R s m args below meth c Q D aC b0 ex HB nL pc (o_max nx) := by
  subst hn
  intro B hB bc bs ls st μ h H locs ph cells slots hR hL hlo hc hs
  unfold o_max at h
  split at h
  next y x r =>
    split at h
    next hcd =>
      have hts := X.2.2.2.2
      exact va_mmax (rest := r.map (dw_tr b0 ex)) X.1 X.2.1 (by rw [X.2.2.1]; exact hlo.1.symm) X.2.2.2.1 (hts _ w1) (hts _ w2) (hts _ w3) (hts _ w4) hrm.1 (by rw [dw_cats_sum]; omega) (by omega) (by omega) hd (hB _ _ _ _ _ _ h H locs ph cells slots hR hL hlo hc hs)
    next => exact h.elim
  next => exact h.elim
theorem s_min {index nx : Nat} (X : CallFix p m c cc nL s args Ts own) (hrm : 1 ≤ R.frames ∧ 21 ≤ R.locals) (w1 : Cond.methodLink own index Lib.Math.min.name ∈ Ts) (w2 : Cond.static Lib.Math.min.name ∈ Ts) (w3 : Cond.initialized "java/lang/Math" ∈ Ts) (w4 : Cond.code Lib.Math.min.name Lib.Math.min.code 2 (some .int) ∈ Ts) (hd : decode cc pc = .ok (.invokestatic index, 3)) (hn : pc + 3 = nx) : dw_Snd p l e R s m args below meth c Q D aC b0 ex HB nL pc (o_min nx) := by
  subst hn
  intro B hB bc bs ls st μ h H locs ph cells slots hR hL hlo hc hs
  unfold o_min at h
  split at h
  next y x r =>
    split at h
    next hcd =>
      have hts := X.2.2.2.2
      exact va_mmin (rest := r.map (dw_tr b0 ex)) X.1 X.2.1 (by rw [X.2.2.1]; exact hlo.1.symm) X.2.2.2.1 (hts _ w1) (hts _ w2) (hts _ w3) (hts _ w4) hrm.1 (by rw [dw_cats_sum]; omega) (by omega) (by omega) hd (hB _ _ _ _ _ _ h H locs ph cells slots hR hL hlo hc hs)
    next => exact h.elim
  next => exact h.elim
theorem s_abs {index nx : Nat} (X : CallFix p m c cc nL s args Ts own) (hrm : 1 ≤ R.frames ∧ 21 ≤ R.locals) (w1 : Cond.methodLink own index Lib.Math.abs.name ∈ Ts) (w2 : Cond.static Lib.Math.abs.name ∈ Ts) (w3 : Cond.initialized "java/lang/Math" ∈ Ts) (w4 : Cond.code Lib.Math.abs.name Lib.Math.abs.code 1 (some .int) ∈ Ts) (hd : decode cc pc = .ok (.invokestatic index, 3)) (hn : pc + 3 = nx) : dw_Snd p l e R s m args below meth c Q D aC b0 ex HB nL pc (o_abs nx) := by
  subst hn
  intro B hB bc bs ls st μ h H locs ph cells slots hR hL hlo hc hs
  unfold o_abs at h
  split at h
  next x r =>
    split at h
    next hcd =>
      have hts := X.2.2.2.2
      exact va_mabs (rest := r.map (dw_tr b0 ex)) X.1 X.2.1 (by rw [X.2.2.1]; exact hlo.1.symm) X.2.2.2.1 (hts _ w1) (hts _ w2) (hts _ w3) (hts _ w4) hrm.1 (by rw [dw_cats_sum]; omega) (by omega) (by omega) hd (hB _ _ _ _ _ _ h H locs ph cells slots hR hL hlo hc hs)
    next => exact h.elim
  next => exact h.elim
theorem s_copy {index nx : Nat} (X : CallFix p m c cc nL s args Ts own) (hE : dw_E D aC b0 ex HB s) (hrm : 1 ≤ R.frames ∧ 30 ≤ R.locals) (w1 : Cond.methodLink own index arraycopyName ∈ Ts) (w2 : Cond.native arraycopyName ∈ Ts) (w3 : Cond.static arraycopyName ∈ Ts) (w4 : Cond.initialized "java/lang/System" ∈ Ts) (hd : decode cc pc = .ok (.invokestatic index, 3)) (hn : pc + 3 = nx) : dw_Snd p l e R s m args below meth c Q D aC b0 ex HB nL pc (o_copy nx) := by
  subst hn
  intro B hB bc bs ls st μ h H locs ph cells slots hR hL hlo hc hs
  unfold o_copy at h
  split at h
  next n dp d sp sr r =>
    split at h
    next hcd =>
      obtain ⟨a2, d2, hcat⟩ := hcd
      have a1 := hR.dom (a := sr) (by rw [a2]; decide)
      have d1 := hR.dom (a := d) (by rw [d2]; decide)
      split at h
      next hb =>
        obtain ⟨⟨b1, b2, b3⟩, b4, b5⟩ := hb
        have hts := X.2.2.2.2
        obtain ⟨g1, g2⟩ := dw_arr (t := 0) hR a1 a2
        obtain ⟨k1, k2⟩ := dw_arr (t := 0) hR d1 d2
        have hc0 : H[b0 + sr]? = some (arrV (aC 0) (μ.2.1 sr).2.1 (fun j => .int (μ.2.2.1 sr j))) := g1
        have hc1 : H[b0 + d]? = some (arrV (aC 0) (μ.2.1 d).2.1 (fun j => .int (μ.2.2.1 d j))) := k1
        have hA := (hE.2.1 0 .int rfl).1
        have nn : ∀ z : Int32, ¬ z < 0 → z.toInt = (z.toNatClampNeg : Int) := by
          intro z hz
          have hz0 : (0 : Int) ≤ z.toInt := by
            have := Int32.not_lt.mp hz
            simpa using Int32.le_iff_toInt_le.mp this
          show z.toInt = ((z.toInt.toNat : Nat) : Int)
          omega
        show W p l e R s m args below meth c H locs cells slots Q (F0 m pc ph (.int n :: .int dp :: dw_tr b0 ex (.ref d) :: .int sp :: dw_tr b0 ex (.ref sr) :: r.map (dw_tr b0 ex)))
        rw [dw_tr_ref (hR.lt (a := sr) (by rw [a2]; decide)), dw_tr_ref (hR.lt (a := d) (by rw [d2]; decide))]
        intro T hT Xs
        obtain ⟨-, k0, hk0, cm0, hkk0⟩ := hA (μ.2.1 sr).2.1 (fun j => .int (μ.2.2.1 sr j))
        obtain ⟨-, k1', hk1, cm1, hkk1⟩ := hA (μ.2.1 d).2.1 (fun j => .int (μ.2.2.1 d j))
        obtain ⟨vm', X', step⟩ := Xs.arraycopy X.1 X.2.2.2.1 (hts _ w1) (hts _ w2) (hts _ w3) (hts _ w4) (src := b0 + sr) (dst := b0 + d) (cs := arrV (aC 0) (μ.2.1 sr).2.1 (fun j => .int (μ.2.2.1 sr j))) (cd := arrV (aC 0) (μ.2.1 d).2.1 (fun j => .int (μ.2.2.1 d j))) (srcPos := sp) (destPos := dp) (n := n) (by rw [hT]; exact hc0) (by rw [hT]; exact hc1)
          (fun _ h => by cases h) (fun _ h => by cases h) (fun h => by cases h) (fun h => by cases h) hk0 hk1 hkk0 hkk1 (by simp [refKind]) b1 b2 b3
          (by rw [nn sp b1, nn n b3, arrV_size]; omega)
          (by rw [nn dp b2, nn n b3, arrV_size]; omega)
          (fun vm₁ _ i hi => by
            have e : (arrV (aC 0) (μ.2.1 sr).2.1 (fun j => .int (μ.2.2.1 sr j))).slots.getD (sp.toNatClampNeg + i) .null = .int (μ.2.2.1 sr (sp.toNatClampNeg + i)) := by
              rw [Array.getD_eq_getD_getElem?, arrV_read _ _ (by omega)]
              rfl
            refine ⟨?_, ?_⟩
            · rw [e]
              rfl
            · rw [e]
              exact trivial)
          (g := F0 m pc ph (.int n :: .int dp :: .ref (b0 + d) :: .int sp :: .ref (b0 + sr) :: r.map (dw_tr b0 ex))) rfl (by rw [X.2.2.1]; exact hlo.1) (rest := r.map (dw_tr b0 ex)) rfl (by rw [X.2.1]; exact hd) hrm.1 (by rw [dw_cats_sum]; show 2 * 0 + _ + _ ≤ _; have : nativeFrameWords "java/lang/System" "arraycopy" 5 + 11 ≤ 22 := Nat.le_of_ble_eq_true rfl; omega)
        have e1 : copied (arrV (aC 0) (μ.2.1 sr).2.1 (fun j => .int (μ.2.2.1 sr j))) (arrV (aC 0) (μ.2.1 d).2.1 (fun j => .int (μ.2.2.1 d j))) sp dp n = arrV (aC 0) (μ.2.1 d).2.1 (fun j => .int (va_cpy (μ.2.2.1 sr) (μ.2.2.1 d) sp.toNatClampNeg dp.toNatClampNeg n.toNatClampNeg j)) := va_copied (fun z => .int z) (aC 0) (aC 0) (μ.2.2.1 sr) (μ.2.2.1 d) b4
        rw [e1] at X' step
        generalize hY : arrV (aC 0) (μ.2.1 d).2.1 (fun j => .int (va_cpy (μ.2.2.1 sr) (μ.2.2.1 d) sp.toNatClampNeg dp.toNatClampNeg n.toNatClampNeg j)) = Y at X' step
        have hl : b0 + d < H.size := (Array.getElem?_eq_some_iff.mp hc1).1
        have hheap : ((T.setVm vm').setCell (b0 + d) Y).heap = H.setIfInBounds (b0 + d) Y := by rw [← hT]; rfl
        have oq : ∀ q : Nat, q ≠ b0 + d → (H.setIfInBounds (b0 + d) Y)[q]? = H[q]? := fun q hq => by simp [Array.getElem?_setIfInBounds, Ne.symm hq]
        have hR1 : dw_R D aC b0 ex HB (dw_cp μ sr d sp.toNatClampNeg dp.toNatClampNeg n.toNatClampNeg) (H.setIfInBounds (b0 + d) Y) := by
          refine hR.upd rfl d1 rfl (fun _ _ => rfl) (fun k hk j => by simp [dw_cp, hk]) (fun _ _ _ => rfl) (by simp) oq ?_ (fun j hj => ?_)
          · have e9 : (dw_cp μ sr d sp.toNatClampNeg dp.toNatClampNeg n.toNatClampNeg).2.1 d = μ.2.1 d := rfl
            unfold dw_cellAt
            rw [e9, d2]
            refine ⟨⟨_, rfl⟩, ?_⟩
            have e8 : (H.setIfInBounds (b0 + d) Y)[b0 + d]? = some Y := by simp [Array.getElem?_setIfInBounds, hl]
            rw [e8, ← hY]
            refine congrArg some (congrArg (arrV (aC 0) _) (funext fun j => ?_))
            show _ = Value.int ((dw_cp μ sr d sp.toNatClampNeg dp.toNatClampNeg n.toNatClampNeg).2.2.1 d j)
            simp [dw_cp, va_cpy]
          · have e9 : (dw_cp μ sr d sp.toNatClampNeg dp.toNatClampNeg n.toNatClampNeg).2.1 d = μ.2.1 d := rfl
            rw [e9, d2]
            trivial
        obtain ⟨t, a1, b1⟩ := hB _ _ _ _ _ _ h _ (locs ++ _) ph cells slots hR1 (fun q hq => by
          rcases List.mem_append.mp hq with h | h
          · exact hL q h
          · obtain ⟨z, -, hz⟩ := List.mem_map.mp h
            rw [← hz]
            exact Nat.le_add_right _ _) hlo hc hs _ hheap X'
        exact ⟨t, step t a1, b1⟩
      next => exact h.elim
    next => exact h.elim
  next => exact h.elim
theorem dw_pick_eq {x pcI : Int} {df : Nat} {dflt : Int} (h1 : pcI + dflt = (df : Int)) : ∀ (psI : List (Int × Int)) (ps : List (Int × Nat)), psI.map (fun (q : Int × Int) => (q.1, pcI + q.2)) = ps.map (fun (q : Int × Nat) => (q.1, (q.2 : Int))) → pcI + Op.lookupswitch.offset psI dflt x = ((dw_pick x df ps : Nat) : Int)
  | [], [], _ => h1
  | [], _ :: _, h => by simp at h
  | _ :: _, [], h => by simp at h
  | (a, o) :: r, (b, t) :: r', h => by
    simp only [List.map_cons, List.cons.injEq, Prod.mk.injEq] at h
    obtain ⟨⟨e1, e2⟩, e3⟩ := h
    subst e1
    have ih := dw_pick_eq (x := x) h1 r r' e3
    show pcI + (if a = x then o else Op.lookupswitch.offset r dflt x) = ((if x = a then t else dw_pick x df r' : Nat) : Int)
    by_cases hx : a = x
    · rw [if_pos hx, if_pos hx.symm]
      exact e2
    · rw [if_neg hx, if_neg (fun q => hx q.symm)]
      exact ih
theorem s_lookupswitch {dflt : Int} {psI : Array (Int × Int)} {len df : Nat} {ps : List (Int × Nat)} (X : CallFix p m c cc nL s args Ts own) (hd : decode cc pc = .ok (.lookupswitch dflt psI, len)) (hp : (psI.toList.zip (psI.toList.drop 1)).all (fun (a, next) => a.1 < next.1) = true) (h1 : (pc : Int) + dflt = (df : Int)) (h2 : psI.toList.map (fun (q : Int × Int) => (q.1, (pc : Int) + q.2)) = ps.map (fun (q : Int × Nat) => (q.1, (q.2 : Int)))) : dw_Snd p l e R s m args below meth c Q D aC b0 ex HB nL pc (o_look ps df) := by
  intro B hB bc bs ls st μ h H locs ph cells slots hR hL hlo hc hs
  unfold o_look at h
  split at h
  next x r => exact lv_lookup X.1 X.2.1 hd hp rfl (dw_pick_eq h1 _ _ h2) (hB _ _ _ _ _ _ h H locs ph cells slots hR hL hlo hc hs)
  next => exact h.elim
/-- new objects' constructors: plain, and a nest mate's -/
theorem s_callI {y : MethodName} {b : ByteArray} {nLy : Nat} {dep mc ms ci k index nx : Nat} {T : dw_T} (X : CallFix p m c cc nL s args Ts own) (hE : dw_E D aC b0 ex HB s) (hTb : ∀ w ∈ dw_Tb, w ∈ Ts) (hv : dw_Val y b nLy none dep mc ms T)
    (hR1 : dep + 1 ≤ R.frames ∧ 8 + (nLy + 11) + 36 * dep ≤ R.locals) (hcode : Cond.code y b nLy none ∈ dw_Tb) (w1 : Cond.methodLink own index y ∈ dw_Tb ∨ ∃ ho, (own, index, y, ho) ∈ dw_nests) (w2 : Cond.instanceMethod y ∈ dw_Tb) (w4 : Cond.initialized y.cls ∈ dw_Tb) (hci : ci < 16) (hy1 : y.name = "<init>")
    (hdd : y.cls ≠ "java/lang/invoke/MethodHandle" ∧ y.cls ≠ "java/lang/invoke/VarHandle" ∧ (parseMethodDescriptor y.desc).map (fun d => d.parameters.length) = some (k - 1)) (hd : decode cc pc = .ok (.invokespecial index, 3)) (hn : pc + 3 = nx) : dw_Snd p l e R s m args below meth c Q D aC b0 ex HB nL pc (o_callV ci k mc ms T nx) := by
  intro B hB bc bs ls st μ h H locs ph cells slots hR hL hlo hc hs
  unfold o_callV at h
  split at h
  next a as rest hsp =>
    split at h
    next hcd =>
      obtain ⟨ha2, hlen, hcat, hmc, hms⟩ := hcd
      have ha1 := hR.dom (a := a) (by rw [ha2]; omega)
      obtain ⟨ys, hy1', hy2⟩ := dw_sp_spec k st [] _ _ hsp (by simp only [List.length_cons, List.length_nil]; omega)
      rw [List.append_nil] at hy1'
      subst hy1'
      have hM := hv l D aC b0 ex HB _ _ _ h
      have hts := X.2.2.2.2
      have hst : st.map (dw_tr b0 ex) = (as.map (dw_tr b0 ex)).reverse ++ .ref (b0 + a) :: rest.map (dw_tr b0 ex) := by
        rw [hy2, ← dw_tr_ref (b0 := b0) (ex := ex) (hR.lt (a := a) (by rw [ha2]; omega))]
        simp
      rw [hst]
      have hpre : PreS s H (dw_Pc D aC b0 ex HB (.ref a :: as) μ) (.ref (b0 + a) :: as.map (dw_tr b0 ex)) := ⟨dw_blind, fun U hU hW => ⟨by rw [List.map_cons, dw_tr_ref (hR.lt (a := a) (by rw [ha2]; omega))], by rw [hU]; exact hR, hE.moved hW⟩⟩
      refine dw_back (rest := rest) hB hn (a := (Value.ref (b0 + a) :: as.map (dw_tr b0 ex)).toArray) ?_ hL hlo hc hs hmc hms
      rcases w1 with w1 | ⟨ho, w1⟩
      · exact va_runI (As := as.map (dw_tr b0 ex)) (rest := rest.map (dw_tr b0 ex)) X hM (cwI (k - 1) hts (dw_good hTb hcode) rfl rfl rfl (hts _ (hTb _ w4)) (hts _ (hTb _ w1)) (hts _ (hTb _ w2)) hy1 hdd hR1) hpre rfl (by simp; omega) hlo.1 rfl (lv_room (by rw [dw_cats_sum]; exact hcat)) hd ⟨by omega, by omega⟩
      · exact va_runIN (host := ho) (As := as.map (dw_tr b0 ex)) (rest := rest.map (dw_tr b0 ex)) X hM ⟨va_cnB (k - 1) hts (dw_good hTb hcode) rfl rfl rfl (hE.2.2.1 _ w1) (hts _ (hTb _ w4)) hdd hR1, hy1, hts _ (hTb _ w2)⟩ hpre rfl (by simp; omega) hlo.1 rfl (lv_room (by rw [dw_cats_sum]; exact hcat)) hd ⟨by omega, by omega⟩
    next => exact h.elim
  next => exact h.elim
end DWAS
