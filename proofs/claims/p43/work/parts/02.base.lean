/-! ===== the small machine: logical addresses 0, 1, 2 .. in the order of making; contents as functions ===== -/
/-- of an address: its kind (a class's number, or 16 and more: an array's; 999: nothing that is looked at), how many slots, what its reference slots hold -/
abbrev dw_Sh : Type := Nat → Nat × Nat × (Nat → Option Nat)
/-- how many cells, their shapes, ints, longs -/
abbrev dw_S : Type := Nat × dw_Sh × (Nat → Nat → Int32) × (Nat → Nat → Int64)
abbrev dw_L : Type := List (Option Value)
abbrev dw_B : Type := Nat → Nat → Nat → dw_L → List Value → dw_S → Prop
abbrev dw_Op : Type := dw_B → Nat → Nat → dw_L → List Value → dw_S → Prop
abbrev dw_K : Type := Option Value → dw_S → Prop
abbrev dw_T : Type := List Value → dw_S → dw_K → Prop
/-- the types of arrays by their tags -/
def dw_at : List FieldType := [.int, .long, .byte, .boolean, .array .int, .object RX8, .object RX2]
/-- types of slots: 0 int, 1 long, 2 reference, 3 boolean, 4 byte -/
def dw_tc : FieldType → Nat
  | .long => 1
  | .object _ => 2
  | .array _ => 2
  | .boolean => 3
  | .byte => 4
  | _ => 0
def dw_rv : Option Nat → Value
  | none => .null
  | some r => .ref r
def dw_vt (t : Nat) (μ : dw_S) (a j : Nat) : Value := match t with
  | 1 => .long (μ.2.2.2 a j)
  | 2 => dw_rv ((μ.2.1 a).2.2 j)
  | _ => .int (μ.2.2.1 a j)
/-- what a slot of a boolean or a byte can hold -/
def dw_fit (t : Nat) (v : Int32) : Prop := match t with
  | 3 => v = 0 ∨ v = 1
  | 4 => v.toInt8.toInt32 = v
  | _ => True
def dw_tr (b0 : Nat) (ex : Nat → Nat) : Value → Value
  | .ref a => .ref (if a < 1000000 then b0 + a else ex (a - 1000000))
  | v => v
/-- class ci's slot types -/
def dw_ct (ci j : Nat) : Nat := match dw_cl[ci]? with
  | some q => dw_tc (dw_cy ci j)
  | none => 0
def dw_ac (t : Nat) : Nat := match dw_at[t]? with
  | some ty => dw_tc ty
  | none => 0
def dw_ty (kd j : Nat) : Nat := if kd < 16 then dw_ct kd j else dw_ac (kd - 16)
/-- cell k of the small machine, in the heap -/
def dw_cellAt (D : va_G) (aC : Nat → ClassId) (b0 : Nat) (ex : Nat → Nat) (μ : dw_S) (k : Nat) (H : Heap) : Prop :=
  if (μ.2.1 k).1 = 999 then True else if (μ.2.1 k).1 < 16 then (∃ q, dw_cl[(μ.2.1 k).1]? = some q ∧ (μ.2.1 k).2.1 = q.2.2) ∧ t_OB (b0 + k) (D.1 (μ.2.1 k).1) (μ.2.1 k).2.1 (D.2 (μ.2.1 k).1) H (fun j => dw_tr b0 ex (dw_vt (dw_ct (μ.2.1 k).1 j) μ k j))
  else (∃ ty, dw_at[(μ.2.1 k).1 - 16]? = some ty) ∧ H[b0 + k]? = some (arrV (aC ((μ.2.1 k).1 - 16)) (μ.2.1 k).2.1 (fun j => dw_tr b0 ex (dw_vt (dw_ac ((μ.2.1 k).1 - 16)) μ k j)))
def dw_fits (μ : dw_S) (k : Nat) : Prop := ∀ j, j < (μ.2.1 k).2.1 → dw_fit (dw_ty (μ.2.1 k).1 j) (μ.2.2.1 k j)
/-- the heap holds the small machine's state, its cells from b0 on; below b0 it is HB -/
def dw_R (D : va_G) (aC : Nat → ClassId) (b0 : Nat) (ex : Nat → Nat) (HB : Heap) (μ : dw_S) (H : Heap) : Prop :=
  H.size = b0 + μ.1 ∧ (∀ k, 1000000 ≤ k → (μ.2.1 k).1 = 999) ∧ (∀ q, q < b0 → H[q]? = HB[q]?) ∧ HB.size = b0 ∧ (∀ k, k < μ.1 → dw_cellAt D aC b0 ex μ k H ∧ dw_fits μ k) ∧ ∀ k, μ.1 ≤ k → (μ.2.1 k).1 = 999
/-- an array class over an array class or a class is known -/
def dw_AO (t : FieldType) (U : State) : Prop := (Cond.arrayOver t).before #[] U = true
theorem dw_AO.movedA {t : FieldType} {u U : State} (hvm : u.vm.Alike U.vm) (h : dw_AO (.array t) u) : dw_AO (.array t) U := by
  obtain ⟨comp, c, k, h1, h2, h3, h4, h5⟩ := arrayOverA_spec h
  obtain ⟨k', hk', he⟩ := hvm.2.2 _ _ h3
  have hi : (U.vm.classes.findIdx? fun (x : Class) => match x.kind with | .array component _ => component == comp | _ => false) = some c := by
    rw [hvm.findIdx?_eq _ (fun _ => rfl)]; exact h2
  have hkind : k'.kind = .array comp (.array t) := by rw [he]; exact h4
  have f1 : U.vm.findClass (FieldType.array t).toString = some comp := by rw [hvm.findClass]; exact h1
  have f2 : U.vm.findClass ("[" ++ (FieldType.array t).toString) = some c := by rw [hvm.findClass]; exact h5
  unfold dw_AO Cond.before Cond.holds
  simp only [Cond.value]
  rw [f1, Option.bind_some]
  refine (congrArg (fun o : Option Nat => (o.bind (fun c => (U.vm.classes[c]?).map fun (k : Class) => match k.kind with | .array _ ty => decide (ty = FieldType.array t) && decide (U.vm.findClass ("[" ++ (FieldType.array t).toString) = some c) | _ => false) == some true)) hi).trans ?_
  simp [hk', hkind, f2]
/-- a String constant: class, entry, text, number, bytes -/
def dw_str (b0 : Nat) (ex : Nat → Nat) (HB : Heap) (U : State) (r : String × Nat × String × Nat × List Int32) : Prop :=
  vk_R r.1 r.2.1 r.2.2.1 (ex (1 + r.2.2.2.1)) U ∧ va_O "java/lang/String" (ex (1 + r.2.2.2.1)) (fun q => b0 ≤ q) U HB ∧ va_OF "java/lang/String" "coder" "B" (.int 0) (ex (1 + r.2.2.2.1)) (fun q => b0 ≤ q) U HB ∧ va_OF "java/lang/String" "value" "[B" (.ref (ex (101 + r.2.2.2.1))) (ex (1 + r.2.2.2.1)) (fun q => b0 ≤ q) U HB ∧ va_T .byte (ex (101 + r.2.2.2.1)) r.2.2.2.2.length (fun j => .int (r.2.2.2.2.getD j 0)) (fun q => b0 ≤ q) U HB
/-- what stands outside: statics of the JDK, String constants -/
def dw_XE (b0 : Nat) (ex : Nat → Nat) (HB : Heap) (U : State) : Prop :=
  vx_Zq Bundle.tN "UNASSIGNED_STACK" Bundle.steD (fun q => b0 ≤ q) U HB ∧ vx_Zq Bundle.tN "SUPPRESSED_SENTINEL" Bundle.listD (fun q => b0 ≤ q) U HB ∧ va_Nw (.castable "java/util/NoSuchElementException" "java/util/NoSuchElementException") U ∧ va_Z "java/lang/String" "COMPACT_STRINGS" "Z" (.int 1) (fun q => b0 ≤ q) U HB ∧ (va_Z "jdk/internal/util/Preconditions" "SIOOBE_FORMATTER" "Ljava/util/function/BiFunction;" .null (fun q => b0 ≤ q) U HB ∨ va_Z "jdk/internal/util/Preconditions" "SIOOBE_FORMATTER" "Ljava/util/function/BiFunction;" (.ref (ex 100)) (fun q => b0 ≤ q) U HB) ∧ ∀ r ∈ dw_strs, dw_str b0 ex HB U r
theorem dw_XE.moved {b0 : Nat} {ex : Nat → Nat} {HB : Heap} {s U : State} (hW : s.WarmedH U.vm) (h : dw_XE b0 ex HB s) : dw_XE b0 ex HB U := by
  have hvm := hW.alike
  obtain ⟨h1, h2, h3, h4, h5, h6⟩ := h
  refine ⟨vx_Zq.moved hvm h1, vx_Zq.moved hvm h2, va_Nw.warmC hW h3, va_Z.moved hvm h4, h5.imp (va_Z.moved hvm) (va_Z.moved hvm), fun r hr => ?_⟩
  obtain ⟨g1, g2, g3, g4, g5⟩ := h6 r hr
  exact ⟨vk_R.warm hW g1, va_O.moved hvm g2, va_OF.moved hvm g3, va_OF.moved hvm g4, va_T.moved hvm g5⟩
theorem dw_XE.same {b0 : Nat} {ex : Nat → Nat} {HB : Heap} {s U : State} (hv : U.vm = s.vm) (h : dw_XE b0 ex HB s) : dw_XE b0 ex HB U := by
  have hvm : s.vm.Alike U.vm := by rw [hv]; exact Vm.Alike.refl _
  obtain ⟨h1, h2, h3, h4, h5, h6⟩ := h
  refine ⟨vx_Zq.moved hvm h1, vx_Zq.moved hvm h2, va_Nw.same rfl hv.symm h3, va_Z.moved hvm h4, h5.imp (va_Z.moved hvm) (va_Z.moved hvm), fun r hr => ?_⟩
  obtain ⟨g1, g2, g3, g4, g5⟩ := h6 r hr
  exact ⟨vk_R.same hv g1, va_O.moved hvm g2, va_OF.moved hvm g3, va_OF.moved hvm g4, va_T.moved hvm g5⟩
/-- what the machine's tables say, beside the words -/
def dw_E (D : va_G) (aC : Nat → ClassId) (b0 : Nat) (ex : Nat → Nat) (HB : Heap) (U : State) : Prop :=
  (∀ (ci : Nat) (q : vw_C), dw_cl[ci]? = some q → u_Kn U q.1 q.2.1 q.2.2 (D.1 ci) (D.2 ci)) ∧
  (∀ (t : Nat) (ty : FieldType), dw_at[t]? = some ty → ArrOfT U (aC t) ty ∧ va_RA U (aC t) ty ∧ U.vm.findClass ("[" ++ ty.toString) = some (aC t)) ∧
  (∀ w ∈ dw_nests, va_Nw (.methodLinkNest w.1 w.2.1 w.2.2.1 w.2.2.2) U) ∧ va_AO RX8 U ∧ va_AO RX2 U ∧ dw_AO (.array .int) U ∧ dw_XE b0 ex HB U
/-- the locals -/
def dw_Lo (b0 : Nat) (ex : Nat → Nat) (ph : Array Slot) (nL : Nat) (ls : dw_L) : Prop :=
  ph.size = nL ∧ lv_wf ph ∧ ls.length ≤ nL ∧ ∀ (i : Nat) (v : Value), ls[i]? = some (some v) → ph[i]? = some (Slot.val (dw_tr b0 ex v))
theorem dw_tr_cat {b0 : Nat} {ex : Nat → Nat} (v : Value) : (dw_tr b0 ex v).category = v.category := by cases v <;> rfl
def dw_al (b0 : Nat) (ex : Nat → Nat) (ls : dw_L) : List (Nat × Value) := (List.range ls.length).filterMap fun i => match ls[i]? with
  | some (some v) => some (i, dw_tr b0 ex v)
  | _ => none
theorem dw_al_mem {b0 : Nat} {ex : Nat → Nat} {ls : dw_L} {i : Nat} {v : Value} (h : ls[i]? = some (some v)) : (i, dw_tr b0 ex v) ∈ dw_al b0 ex ls := by
  refine List.mem_filterMap.mpr ⟨i, List.mem_range.mpr (List.getElem?_eq_some_iff.mp h).1, ?_⟩
  rw [h]
theorem dw_Lo.has {b0 : Nat} {ex : Nat → Nat} {ph : Array Slot} {nL : Nat} {ls : dw_L} (h : dw_Lo b0 ex ph nL ls) : lv_has ph nL (dw_al b0 ex ls) := by
  refine ⟨h.1, h.2.1, fun q hq => ?_⟩
  obtain ⟨i, -, hi⟩ := List.mem_filterMap.mp hq
  split at hi
  next v hv =>
    cases hi
    exact h.2.2.2 i v hv
  next => cases hi
/-- may a one-word value be stored at i: the slot ahead holds no two-word value -/
def dw_free (ls : dw_L) (i : Nat) : Bool := match i with
  | 0 => true
  | i + 1 => match ls[i]? with
    | some (some v) => v.category == 1
    | _ => true
theorem dw_Lo.set {b0 : Nat} {ex : Nat → Nat} {ph ph' : Array Slot} {nL i : Nat} {ls : dw_L} {v : Value} (h : dw_Lo b0 ex ph nL ls) (hf : dw_free ls i = true)
    (h' : lv_has ph' nL ((i, dw_tr b0 ex v) :: (dw_al b0 ex ls).filter (fun q => !(q.1 == i) && !(q.1 + 1 == i && q.2.category == 2)))) : dw_Lo b0 ex ph' nL (ls.set i (some v)) := by
  refine ⟨h'.1, h'.2.1, by rw [List.length_set]; exact h.2.2.1, fun j w hj => ?_⟩
  by_cases hij : j = i
  · subst hij
    have hl : j < ls.length := by
      have := (List.getElem?_eq_some_iff.mp hj).1
      simpa using this
    rw [List.getElem?_set_self hl] at hj
    cases hj
    exact h'.2.2 (j, _) List.mem_cons_self
  · rw [List.getElem?_set_ne (Ne.symm hij)] at hj
    refine h'.2.2 (j, _) (List.mem_cons_of_mem _ (List.mem_filter.mpr ⟨dw_al_mem hj, ?_⟩))
    have h1 : (j == i) = false := by simpa using hij
    rw [h1]
    by_cases h2 : j + 1 = i
    · subst h2
      simp only [dw_free, hj, beq_iff_eq] at hf
      show (!false && !((j + 1 == j + 1) && ((dw_tr b0 ex w).category == 2))) = true
      rw [dw_tr_cat, hf]
      simp
    · have h3 : (j + 1 == i) = false := by simpa using h2
      rw [h3]
      rfl
theorem dw_E.moved {D : va_G} {aC : Nat → ClassId} {b0 : Nat} {ex : Nat → Nat} {HB : Heap} {s U : State} (hW : s.WarmedH U.vm) (h : dw_E D aC b0 ex HB s) : dw_E D aC b0 ex HB U := by
  have hvm := hW.alike
  refine ⟨fun ci q hq => u_Kn_moved hvm (h.1 ci q hq), fun t ty ht => ?_, fun w hw => va_Nw.warmM hW (h.2.2.1 w hw), ?_, ?_, ?_, h.2.2.2.2.2.2.moved hW⟩
  · obtain ⟨h1, h2, h3⟩ := h.2.1 t ty ht
    exact ⟨arrOfT_moved hvm h1, h2.moved hvm, by rw [hvm.findClass]; exact h3⟩
  · exact va_AO.moved hvm h.2.2.2.1
  · exact va_AO.moved hvm h.2.2.2.2.1
  · exact dw_AO.movedA hvm h.2.2.2.2.2.1
