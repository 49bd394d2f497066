/-! ===== running a method's table of ops ===== -/
/-- the least set of places that is closed backwards under the ops -/
def dw_ok (pr : Nat → dw_Op) : dw_B := fun pc bc bs ls st μ => ∀ B : dw_B, (∀ pc bc bs ls st μ (B0 : dw_B), (∀ pc bc bs ls st μ, B0 pc bc bs ls st μ → B pc bc bs ls st μ) → pr pc B0 bc bs ls st μ → B pc bc bs ls st μ) → B pc bc bs ls st μ
theorem dw_ok.step {pr : Nat → dw_Op} {pc bc bs : Nat} {ls : dw_L} {st : List Value} {μ : dw_S} (h : pr pc (dw_ok pr) bc bs ls st μ) : dw_ok pr pc bc bs ls st μ := fun B hB => hB _ _ _ _ _ _ (dw_ok pr) (fun _ _ _ _ _ _ q => q B hB) h
/-- at most n ops, no further than to where sp says stop -/
def dw_go (pr : Nat → dw_Op) (sp : Nat → Bool) (B : dw_B) (n : Nat) : dw_B := Nat.rec B (fun _ ih => fun pc bc bs ls st μ => cond (sp pc) (B pc bc bs ls st μ) (pr pc ih bc bs ls st μ)) n
theorem dw_go_ok {pr : Nat → dw_Op} {sp : Nat → Bool} : ∀ (n pc bc bs : Nat) (ls : dw_L) (st : List Value) (μ : dw_S), dw_go pr sp (dw_ok pr) n pc bc bs ls st μ → dw_ok pr pc bc bs ls st μ
  | 0, _, _, _, _, _, _, h => h
  | n + 1, pc, bc, bs, ls, st, μ, h => by
    have h' : cond (sp pc) (dw_ok pr pc bc bs ls st μ) (pr pc (dw_go pr sp (dw_ok pr) n) bc bs ls st μ) := h
    cases hs : sp pc with
    | true => rw [hs] at h'; exact h'
    | false =>
      rw [hs] at h'
      exact fun B hB => hB _ _ _ _ _ _ (dw_go pr sp (dw_ok pr) n) (fun pc bc bs ls st μ q => dw_go_ok n pc bc bs ls st μ q B hB) h'
theorem dw_run {pr : Nat → dw_Op} {pc bc bs : Nat} {ls : dw_L} {st : List Value} {μ : dw_S} (n : Nat) (sp : Nat → Bool) (h : pr pc (dw_go pr sp (dw_ok pr) n) bc bs ls st μ) : dw_ok pr pc bc bs ls st μ :=
  fun B hB => hB _ _ _ _ _ _ (dw_go pr sp (dw_ok pr) n) (fun pc bc bs ls st μ q => dw_go_ok n pc bc bs ls st μ q B hB) h
/-- tables of ops -/
def dw_lf (k : Nat) (op : dw_Op) : Nat → dw_Op := fun pc => cond (Nat.beq pc k) op o_no
def dw_br (k : Nat) (a b : Nat → dw_Op) : Nat → dw_Op := fun pc => cond (Nat.ble k pc) (b pc) (a pc)
def dw_inl : List Value → dw_L
  | [] => []
  | v :: r => cond (v.category == 2) (some v :: none :: dw_inl r) (some v :: dw_inl r)
def dw_pad : Nat → dw_L → dw_L
  | 0, _ => []
  | n + 1, [] => none :: dw_pad n []
  | n + 1, a :: r => a :: dw_pad n r
/-- what a method's body says -/
def dw_body (nL mc ms : Nat) (pr : dw_K → Nat → dw_Op) : dw_T := fun as μ K => if (dw_inl as).length ≤ nL then dw_ok (pr K) 0 mc ms (dw_pad nL (dw_inl as)) [] μ else False
theorem dw_pad_get : ∀ (n : Nat) (l : dw_L) (i : Nat) (v : Value), (dw_pad n l)[i]? = some (some v) → l[i]? = some (some v)
  | 0, l, i, v, h => by simp [dw_pad] at h
  | n + 1, [], 0, v, h => by simp [dw_pad] at h
  | n + 1, [], i + 1, v, h => by
    have := dw_pad_get n [] i v (by simpa [dw_pad] using h)
    simp at this
  | n + 1, a :: r, 0, v, h => by simpa [dw_pad] using h
  | n + 1, a :: r, i + 1, v, h => by
    have := dw_pad_get n r i v (by simpa [dw_pad] using h)
    simpa using this
theorem dw_pad_len : ∀ (n : Nat) (l : dw_L), (dw_pad n l).length = n
  | 0, l => rfl
  | n + 1, [] => by simp [dw_pad, dw_pad_len n []]
  | n + 1, a :: r => by simp [dw_pad, dw_pad_len n r]
theorem dw_inl_len {b0 : Nat} {ex : Nat → Nat} : ∀ as : List Value, (lg_sl (as.map (dw_tr b0 ex))).length = (dw_inl as).length
  | [] => rfl
  | v :: r => by
    have h := dw_inl_len (b0 := b0) (ex := ex) r
    unfold lg_sl at h ⊢
    simp only [List.map_cons, List.flatMap_cons, List.length_append, dw_tr_cat, dw_inl]
    rw [h]
    by_cases hc : v.category = 2
    · simp [hc]; omega
    · have hb : (v.category == 2) = false := by simpa using hc
      rw [if_neg hc, hb]
      simp only [cond_false, List.length_cons, List.length_nil]
      omega
theorem dw_inl_args {b0 : Nat} {ex : Nat → Nat} : ∀ (as : List Value) (k i : Nat) (v : Value), (dw_inl as)[i]? = some (some v) → (k + i, dw_tr b0 ex v) ∈ lv_args k (as.map (dw_tr b0 ex))
  | [], k, i, v, h => by simp [dw_inl] at h
  | w :: r, k, i, v, h => by
    simp only [dw_inl] at h
    simp only [List.map_cons, lv_args, dw_tr_cat]
    by_cases hc : w.category = 2
    · have hb : (w.category == 2) = true := by simpa using hc
      rw [hb] at h
      rw [if_pos hc]
      match i, h with
      | 0, h =>
        simp only [cond_true, List.getElem?_cons_zero] at h
        cases h
        exact List.mem_cons_self
      | 1, h => simp at h
      | i + 2, h =>
        have h2 : (dw_inl r)[i]? = some (some v) := by simpa using h
        have := dw_inl_args (b0 := b0) (ex := ex) r (k + 2) i v h2
        rw [show k + 2 + i = k + (i + 2) by omega] at this
        exact List.mem_cons_of_mem _ this
    · have hb : (w.category == 2) = false := by simpa using hc
      rw [hb] at h
      rw [if_neg hc]
      match i, h with
      | 0, h =>
        simp only [cond_false, List.getElem?_cons_zero] at h
        cases h
        exact List.mem_cons_self
      | i + 1, h =>
        have h2 : (dw_inl r)[i]? = some (some v) := by simpa using h
        have := dw_inl_args (b0 := b0) (ex := ex) r (k + 1) i v h2
        rw [show k + 1 + i = k + (i + 1) by omega] at this
        exact List.mem_cons_of_mem _ this
section DWR
variable {p : Program} {l : Launch} {e : Env} {R : Room} {s : State} {m : MethodId} {args : Array Value} {below : List Frame} {meth : Method} {c : Code} {Q : State → Prop}
variable {D : va_G} {aC : Nat → ClassId} {b0 : Nat} {ex : Nat → Nat} {HB : Heap} {nL : Nat} {pr : Nat → dw_Op}
theorem dw_ok.sound (hs : dw_SndP p l e R s m args below meth c Q D aC b0 ex HB nL pr) {pc bc bs : Nat} {ls : dw_L} {st : List Value} {μ : dw_S} (h : dw_ok pr pc bc bs ls st μ) : dw_G p l e R s m args below meth c Q D aC b0 ex HB nL pc bc bs ls st μ :=
  h (dw_G p l e R s m args below meth c Q D aC b0 ex HB nL) (fun pc bc bs ls st μ B0 h0 h1 => hs pc B0 h0 bc bs ls st μ h1)
theorem dw_sp_lf {k : Nat} {op : dw_Op} (h : dw_Snd p l e R s m args below meth c Q D aC b0 ex HB nL k op) : dw_SndP p l e R s m args below meth c Q D aC b0 ex HB nL (dw_lf k op) := by
  intro pc
  unfold dw_lf
  cases hk : Nat.beq pc k with
  | false => exact s_no
  | true =>
    have := Nat.eq_of_beq_eq_true hk
    subst this
    exact h
theorem dw_sp_br {k : Nat} {a b : Nat → dw_Op} (ha : dw_SndP p l e R s m args below meth c Q D aC b0 ex HB nL a) (hb : dw_SndP p l e R s m args below meth c Q D aC b0 ex HB nL b) : dw_SndP p l e R s m args below meth c Q D aC b0 ex HB nL (dw_br k a b) := by
  intro pc
  unfold dw_br
  cases hk : Nat.ble k pc with
  | false => exact ha pc
  | true => exact hb pc
theorem dw_Lo.ini (as : List Value) {n : Nat} (h : (dw_inl as).length ≤ n) : dw_Lo b0 ex ((lg_sl (as.map (dw_tr b0 ex)) ++ List.replicate (n - (lg_sl (as.map (dw_tr b0 ex))).length) Slot.unset).toArray) n (dw_pad n (dw_inl as)) := by
  have h1 := lv_entry (as.map (dw_tr b0 ex)) (n := n) (by rw [dw_inl_len]; exact h)
  refine ⟨h1.1, h1.2.1, Nat.le_of_eq (dw_pad_len _ _), fun i v hi => ?_⟩
  have h2 := dw_inl_args (b0 := b0) (ex := ex) as 0 i v (dw_pad_get _ _ _ _ hi)
  rw [Nat.zero_add] at h2
  exact h1.2.2 _ h2
end DWR
/-- a method's contract out of its table of ops -/
theorem dw_Val.of {y : MethodName} {b : ByteArray} {nL : Nat} {ret : Option FieldType} {dep mc ms : Nat} {pr : dw_K → Nat → dw_Op} (hy : plainName y.cls = true)
    (hs : ∀ (p : Program) (l : Launch) (e : Env) (s : State) (m : MethodId) (args : Array Value) (below : List Frame) (meth : Method) (c : Code) (D : va_G) (aC : Nat → ClassId) (b0 : Nat) (ex : Nat → Nat) (HB : Heap) (K : dw_K),
      CallFix p m c b nL s args (.code y b nL ret :: dw_Tb) y.cls → dw_E D aC b0 ex HB s → meth.locks = false → meth.sig.returnType = ret → meth.name = y.name →
      dw_SndP p l e (dw_rm dep mc ms) s m args below meth c (MQ below (dw_Qc D aC b0 ex HB K) args s mc ms (fun q => b0 ≤ q)) D aC b0 ex HB nL (pr K)) : dw_Val y b nL ret dep mc ms (dw_body nL mc ms pr) := by
  intro l D aC b0 ex HB as μ K hT
  unfold dw_body at hT
  split at hT
  next hlen =>
    refine Met.ofW (cc := b) (maxL := nL) (ret := ret) hy rfl ?_
    intro p e s m args below meth c s₁ B hml hv
    obtain ⟨rfl, hR, hE⟩ := hv
    have hts := atoms_spec (ws := .code y b nL ret :: dw_Tb) B.pre
    have hown : s.vm.findClass y.cls = some m.cls := findClass_of_methodNamed B.named
    have hin : meth.name = y.name := (name_of_methodNamed B.named B.method).1
    have hg := dw_ok.sound (hs p l e s m _ below meth c D aC b0 ex HB K ⟨B.exec, B.bytes, hml, hown, hts⟩ hE B.notSynchronized B.returns hin) hT
    rw [lg_entry_eq]
    exact hg s.heap [] _ 0 0 hR (fun q h => by cases h) (dw_Lo.ini as hlen) (Nat.zero_add _) (Nat.zero_add _)
  next => exact hT.elim
