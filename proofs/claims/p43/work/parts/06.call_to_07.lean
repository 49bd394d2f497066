section
/-! ===== methods: returns, calls, contracts ===== -/
def dw_Qc (D : va_G) (aC : Nat → ClassId) (b0 : Nat) (ex : Nat → Nat) (HB : Heap) (K : dw_K) : Array Value → State → Outcome → State → Prop := fun _ _ oc t => ∃ (r : Option Value) (μ' : dw_S), oc = .returned (r.map (dw_tr b0 ex)) ∧ K r μ' ∧ dw_R D aC b0 ex HB μ' t.heap
def dw_Pc (D : va_G) (aC : Nat → ClassId) (b0 : Nat) (ex : Nat → Nat) (HB : Heap) (as : List Value) (μ : dw_S) : Array Value → State → Prop := fun v U => v = (as.map (dw_tr b0 ex)).toArray ∧ dw_R D aC b0 ex HB μ U.heap ∧ dw_E D aC b0 ex HB U
def dw_rm (dep mc ms : Nat) : Room := { frames := dep, cells := mc, slots := ms, locals := 36 * dep }
/-- a method does what T says -/
def dw_Val (y : MethodName) (b : ByteArray) (nL : Nat) (ret : Option FieldType) (dep mc ms : Nat) (T : dw_T) : Prop :=
  ∀ (l : Launch) (D : va_G) (aC : Nat → ClassId) (b0 : Nat) (ex : Nat → Nat) (HB : Heap) (as : List Value) (μ : dw_S) (K : dw_K), T as μ K →
    Met l y (.code y b nL ret :: dw_Tb) (dw_rm dep mc ms) (dw_Pc D aC b0 ex HB as μ) (dw_Qc D aC b0 ex HB K) mc ms (fun q => b0 ≤ q)
theorem dw_Val.weaken {y : MethodName} {b : ByteArray} {nL : Nat} {ret : Option FieldType} {dep mc ms : Nat} {T T' : dw_T} (h : dw_Val y b nL ret dep mc ms T) (ht : ∀ as μ K, T' as μ K → T as μ K) : dw_Val y b nL ret dep mc ms T' := fun l D aC b0 ex HB as μ K hT => h l D aC b0 ex HB as μ K (ht as μ K hT)
def o_iret (K : dw_K) : dw_Op := fun _ _ _ _ st μ => match st with
  | [.int x] => K (some (.int x)) μ
  | _ => False
def o_zret (K : dw_K) : dw_Op := fun _ _ _ _ st μ => match st with
  | [.int x] => if x = 0 ∨ x = 1 then K (some (.int x)) μ else False
  | _ => False
def o_vret (K : dw_K) : dw_Op := fun _ _ _ _ st μ => match st with
  | [] => K none μ
  | _ => False
def o_aret (K : dw_K) : dw_Op := fun _ _ _ _ st μ => match st with
  | [.ref x] => K (some (.ref x)) μ
  | [.null] => K (some .null) μ
  | _ => False
def dw_sp : Nat → List Value → List Value → List Value × List Value
  | 0, st, acc => (acc, st)
  | n + 1, v :: st, acc => dw_sp n st (v :: acc)
  | _ + 1, [], acc => (acc, [])
theorem dw_sp_spec : ∀ (k : Nat) (st acc xs rest : List Value), dw_sp k st acc = (xs, rest) → xs.length = acc.length + k → ∃ ys, xs = ys ++ acc ∧ st = ys.reverse ++ rest
  | 0, st, acc, xs, rest, h, _ => by
    simp only [dw_sp, Prod.mk.injEq] at h
    exact ⟨[], by simp [h.1], by simp [h.2]⟩
  | n + 1, v :: st, acc, xs, rest, h, hl => by
    simp only [dw_sp] at h
    obtain ⟨ys, h1, h2⟩ := dw_sp_spec n st (v :: acc) xs rest h (by simp only [List.length_cons]; omega)
    exact ⟨ys ++ [v], by simp [h1], by simp [h2]⟩
  | n + 1, [], acc, xs, rest, h, hl => by
    simp only [dw_sp, Prod.mk.injEq] at h
    rw [← h.1] at hl
    omega
def dw_cats : List Value → Nat
  | [] => 0
  | v :: r => v.category + dw_cats r
theorem dw_cats_sum {b0 : Nat} {ex : Nat → Nat} : ∀ st : List Value, ((st.map (dw_tr b0 ex)).map fun v => v.category).sum = dw_cats st
  | [] => rfl
  | v :: r => by
    simp only [List.map_cons, List.sum_cons, dw_cats]
    rw [dw_tr_cat, dw_cats_sum r]
def o_callV (ci k mc ms : Nat) (T : dw_T) (nx : Nat) : dw_Op := fun B bc bs ls st μ => match dw_sp k st [] with
  | (.ref a :: as, rest) => if (μ.2.1 a).1 = ci ∧ as.length + 1 = k ∧ dw_cats rest ≤ 8 ∧ mc ≤ bc ∧ ms ≤ bs then T (.ref a :: as) μ (fun r μ' => B nx (bc - mc) (bs - ms) ls (r.toList ++ rest) μ') else False
  | _ => False
def o_callS (k mc ms : Nat) (T : dw_T) (nx : Nat) : dw_Op := fun B bc bs ls st μ => match dw_sp k st [] with
  | (as, rest) => if as.length = k ∧ dw_cats rest ≤ 8 ∧ mc ≤ bc ∧ ms ≤ bs then T as μ (fun r μ' => B nx (bc - mc) (bs - ms) ls (r.toList ++ rest) μ') else False
section DWC
variable {p : Program} {l : Launch} {e : Env} {R : Room} {s : State} {m : MethodId} {args : Array Value} {below : List Frame} {meth : Method} {c : Code} {Q : State → Prop}
variable {D : va_G} {aC : Nat → ClassId} {b0 : Nat} {ex : Nat → Nat} {HB : Heap} {nL : Nat} {cc : ByteArray} {Ts : List Cond} {own : String} {pc : Nat} {K : dw_K}
theorem s_ireturn (X : CallFix p m c cc nL s args Ts own) (hQ : Q = MQ below (dw_Qc D aC b0 ex HB K) args s R.cells R.slots (fun q => b0 ≤ q)) (hlocks : meth.locks = false) (hr : meth.sig.returnType = some .int) (hd : decode cc pc = .ok (.ireturn, 1)) : dw_Snd p l e R s m args below meth c Q D aC b0 ex HB nL pc (o_iret K) := by
  subst hQ
  intro B hB bc bs ls st μ h H locs ph cells slots hR hL hlo hc hs
  unfold o_iret at h
  split at h
  next x =>
    refine W.widen (k := R.cells) (n := R.slots) (by omega) (by omega) ?_
    exact W.iret X.1 X.2.1 hr (fun t ht hW => ⟨some (.int x), μ, rfl, h, by rw [ht]; exact hR⟩) hL hd hlocks
  next => exact h.elim
theorem s_zreturn (X : CallFix p m c cc nL s args Ts own) (hQ : Q = MQ below (dw_Qc D aC b0 ex HB K) args s R.cells R.slots (fun q => b0 ≤ q)) (hlocks : meth.locks = false) (hr : meth.sig.returnType = some .boolean) (hd : decode cc pc = .ok (.ireturn, 1)) : dw_Snd p l e R s m args below meth c Q D aC b0 ex HB nL pc (o_zret K) := by
  subst hQ
  intro B hB bc bs ls st μ h H locs ph cells slots hR hL hlo hc hs
  unfold o_zret at h
  split at h
  next x =>
    split at h
    next hx =>
      refine W.widen (k := R.cells) (n := R.slots) (by omega) (by omega) ?_
      exact W.zret X.1 X.2.1 hr (by rcases hx with rfl | rfl <;> rfl) (fun t ht hW => ⟨some (.int x), μ, rfl, h, by rw [ht]; exact hR⟩) hL hd hlocks
    next => exact h.elim
  next => exact h.elim
theorem s_vreturn (X : CallFix p m c cc nL s args Ts own) (hQ : Q = MQ below (dw_Qc D aC b0 ex HB K) args s R.cells R.slots (fun q => b0 ≤ q)) (hlocks : meth.locks = false) (hr : meth.sig.returnType = none) (hd : decode cc pc = .ok (.return_, 1)) : dw_Snd p l e R s m args below meth c Q D aC b0 ex HB nL pc (o_vret K) := by
  subst hQ
  intro B hB bc bs ls st μ h H locs ph cells slots hR hL hlo hc hs
  unfold o_vret at h
  split at h
  next =>
    refine W.widen (k := R.cells) (n := R.slots) (by omega) (by omega) ?_
    exact W.vret X.1 X.2.1 hr (fun t ht hW => ⟨none, μ, rfl, h, by rw [ht]; exact hR⟩) hL hd hlocks
  next => exact h.elim
theorem s_areturn {rt : FieldType} (X : CallFix p m c cc nL s args Ts own) (hQ : Q = MQ below (dw_Qc D aC b0 ex HB K) args s R.cells R.slots (fun q => b0 ≤ q)) (hlocks : meth.locks = false) (hr : meth.sig.returnType = some rt) (hrt : (∃ n, rt = .object n) ∨ ∃ t, rt = .array t) (hd : decode cc pc = .ok (.areturn, 1)) : dw_Snd p l e R s m args below meth c Q D aC b0 ex HB nL pc (o_aret K) := by
  subst hQ
  intro B hB bc bs ls st μ h H locs ph cells slots hR hL hlo hc hs
  unfold o_aret at h
  split at h
  next x =>
    refine W.widen (k := R.cells) (n := R.slots) (by omega) (by omega) ?_
    exact W.aret X.1 X.2.1 hr hrt (Or.inr ⟨_, rfl⟩) (fun t ht hW => ⟨some (.ref x), μ, rfl, h, by rw [ht]; exact hR⟩) hL hd hlocks
  next =>
    refine W.widen (k := R.cells) (n := R.slots) (by omega) (by omega) ?_
    exact W.aret X.1 X.2.1 hr hrt (Or.inl rfl) (fun t ht hW => ⟨some .null, μ, rfl, h, by rw [ht]; exact hR⟩) hL hd hlocks
  next => exact h.elim
theorem dw_blind {as : List Value} {μ : dw_S} : FrameBlind (dw_Pc D aC b0 ex HB as μ) := by
  intro a U g mk h
  refine ⟨h.1, h.2.1, ?_⟩
  obtain ⟨h1, h2, h3, h4, h5, h6, h7⟩ := h.2.2
  exact ⟨fun ci q hq => u_Kn_moved (u := U) (U := U.calling g mk a) (Vm.Alike.refl U.vm) (h1 ci q hq), fun t ty ht => ⟨arrOfT_moved (u := U) (E := U.calling g mk a) (Vm.Alike.refl U.vm) (h2 t ty ht).1, va_RA.moved (u := U) (U := U.calling g mk a) (Vm.Alike.refl U.vm) (h2 t ty ht).2.1, (h2 t ty ht).2.2⟩, fun w hw => va_Nw.same rfl (u := U) rfl (h3 w hw), h4, h5, h6, dw_XE.same (s := U) rfl h7⟩
/-- behind a call -/
theorem dw_back {mc ms nx : Nat} {B : dw_B} {bc bs : Nat} {ls : dw_L} {H : Heap} {locs : List Loc} {ph : Array Slot} {cells slots : Nat} {rest st0 : List Value} {a : Array Value}
    (hB : ∀ pc bc bs ls st μ, B pc bc bs ls st μ → dw_G p l e R s m args below meth c Q D aC b0 ex HB nL pc bc bs ls st μ) (hn : pc + 3 = nx)
    (hr : va_Run p l e R s m args below meth c H locs cells slots mc ms (F0 m pc ph st0) (rest.map (dw_tr b0 ex)) (dw_Qc D aC b0 ex HB (fun r μ' => B nx (bc - mc) (bs - ms) ls (r.toList ++ rest) μ') a) (fun q => b0 ≤ q))
    (hL : ∀ q ∈ locs, b0 ≤ q.base) (hlo : dw_Lo b0 ex ph nL ls) (hc : cells + bc = R.cells) (hs : slots + bs = R.slots) (h1 : mc ≤ bc) (h2 : ms ≤ bs) : W p l e R s m args below meth c H locs cells slots Q (F0 m pc ph st0) := by
  intro T hT X
  obtain ⟨v, st₀, t, T', L, h0, X', hL', e1, e2, ⟨r, μ', hv, hK, hR'⟩, st⟩ := hr T hT X
  cases hv
  subst hn
  have hg := hB _ _ _ _ _ _ hK T'.heap (locs ++ L) ph (cells + mc) (slots + ms) (by rw [e1]; exact hR') (fun q hq => by
    rcases List.mem_append.mp hq with h | h
    · exact hL q h
    · exact hL' q h) hlo (by omega) (by omega)
  have hst : (r.toList ++ rest).map (dw_tr b0 ex) = (r.map (dw_tr b0 ex)).toList ++ rest.map (dw_tr b0 ex) := by
    cases r <;> simp
  rw [hst] at hg
  obtain ⟨t2, a1, b1⟩ := hg T' rfl X'
  exact ⟨t2, st t2 a1, b1⟩
theorem dw_good {y : MethodName} {b : ByteArray} {nLy : Nat} {ret : Option FieldType} (hTb : ∀ w ∈ dw_Tb, w ∈ Ts) (hcode : Cond.code y b nLy ret ∈ dw_Tb) : GoodIn Ts (.code y b nLy ret :: dw_Tb) := by
  intro w hw
  have h : w ∈ dw_Tb := by
    rcases List.mem_cons.mp hw with rfl | h
    · exact hcode
    · exact h
  exact ⟨hTb w h, good_of_word (List.mem_filter.mp h).2⟩
theorem s_callV {y : MethodName} {b : ByteArray} {nLy : Nat} {ret : Option FieldType} {dep mc ms ci k index nx N : Nat} {T : dw_T} {TT : u_T} (X : CallFix p m c cc nL s args Ts own) (hE : dw_E D aC b0 ex HB s) (hTb : ∀ w ∈ dw_Tb, w ∈ Ts) (hv : dw_Val y b nLy ret dep mc ms T) (hc16 : dw_cl[ci]? = some (y.cls, TT, N)) (hci : ci < 16)
    (hR1 : dep + 1 ≤ R.frames ∧ 8 + (nLy + 11) + 36 * dep ≤ R.locals) (hcode : Cond.code y b nLy ret ∈ dw_Tb) (w1 : Cond.methodLink own index y ∈ dw_Tb) (w2 : Cond.instanceMethod y ∈ dw_Tb) (w3 : Cond.selects y.cls y y ∈ dw_Tb) (w4 : Cond.initialized y.cls ∈ dw_Tb)
    (hdd : y.cls ≠ "java/lang/invoke/MethodHandle" ∧ y.cls ≠ "java/lang/invoke/VarHandle" ∧ (parseMethodDescriptor y.desc).map (fun d => d.parameters.length) = some (k - 1)) (hd : decode cc pc = .ok (.invokevirtual index, 3)) (hn : pc + 3 = nx) : dw_Snd p l e R s m args below meth c Q D aC b0 ex HB nL pc (o_callV ci k mc ms T nx) := by
  intro B hB bc bs ls st μ h H locs ph cells slots hR hL hlo hc hs
  unfold o_callV at h
  split at h
  next a as rest hsp =>
    split at h
    next hcd =>
      obtain ⟨ha2, hlen, hcat, hmc, hms⟩ := hcd
      have ha1 := hR.dom (a := a) (by rw [ha2]; omega)
      obtain ⟨ys, hy1, hy2⟩ := dw_sp_spec k st [] _ _ hsp (by simp only [List.length_cons, List.length_nil]; omega)
      rw [List.append_nil] at hy1
      subst hy1
      obtain ⟨o1, ⟨cellV, v1, v2, v3, -⟩, -⟩ := dw_obj hR ha1 ha2 hc16 hci
      have hcls := (hE.1 ci _ hc16).2
      have hM := hv l D aC b0 ex HB _ _ _ h
      have hwd : ∀ w ∈ wsV own index y.cls y (.code y b nLy ret :: dw_Tb), w ∈ Ts ∧ ((w.onTables && w.keeps) = true ∨ ∃ ty, w = .arrayClass ty) := by
        intro w hw
        unfold wsV at hw
        rcases List.mem_append.mp hw with hw | hw
        · have : w ∈ dw_Tb := by
            simp only [List.mem_cons, List.not_mem_nil, or_false] at hw
            rcases hw with rfl | rfl | rfl | rfl <;> assumption
          exact ⟨hTb w this, good_of_word (List.mem_filter.mp this).2⟩
        · exact dw_good hTb hcode w hw
      have hst : st.map (dw_tr b0 ex) = (as.map (dw_tr b0 ex)).reverse ++ .ref (b0 + a) :: rest.map (dw_tr b0 ex) := by
        rw [hy2, ← dw_tr_ref (b0 := b0) (ex := ex) (hR.lt (a := a) (by rw [ha2]; omega))]
        simp
      rw [hst]
      refine dw_back (rest := rest) hB hn (a := (Value.ref (b0 + a) :: as.map (dw_tr b0 ex)).toArray) ?_ hL hlo hc hs hmc hms
      exact va_runV (As := as.map (dw_tr b0 ex)) (rest := rest.map (dw_tr b0 ex)) X hM (cwV (k - 1) X.2.2.2.2 hwd rfl rfl rfl ⟨rfl, hdd⟩ hR1) ⟨dw_blind, ⟨cellV, v1, by rw [v3]; rfl, by rw [v2]; exact hcls.1⟩, fun U hU hW => ⟨by rw [List.map_cons, dw_tr_ref (hR.lt (a := a) (by rw [ha2]; omega))], by rw [hU]; exact hR, hE.moved hW⟩⟩ rfl (by simp; omega) hlo.1 rfl (lv_room (by rw [dw_cats_sum]; exact hcat)) hd ⟨by omega, by omega⟩
    next => exact h.elim
  next => exact h.elim
theorem s_callS {y : MethodName} {b : ByteArray} {nLy : Nat} {ret : Option FieldType} {dep mc ms k index nx : Nat} {T : dw_T} (X : CallFix p m c cc nL s args Ts own) (hE : dw_E D aC b0 ex HB s) (hTb : ∀ w ∈ dw_Tb, w ∈ Ts) (hv : dw_Val y b nLy ret dep mc ms T)
    (hR1 : dep + 1 ≤ R.frames ∧ 8 + (nLy + 11) + 36 * dep ≤ R.locals) (hcode : Cond.code y b nLy ret ∈ dw_Tb) (w1 : Cond.methodLink own index y ∈ dw_Tb ∨ ∃ ho, (own, index, y, ho) ∈ dw_nests) (w2 : Cond.static y ∈ dw_Tb) (w4 : Cond.initialized y.cls ∈ dw_Tb)
    (hdd : y.cls ≠ "java/lang/invoke/MethodHandle" ∧ y.cls ≠ "java/lang/invoke/VarHandle" ∧ (parseMethodDescriptor y.desc).map (fun d => d.parameters.length) = some k) (hd : decode cc pc = .ok (.invokestatic index, 3)) (hn : pc + 3 = nx) : dw_Snd p l e R s m args below meth c Q D aC b0 ex HB nL pc (o_callS k mc ms T nx) := by
  intro B hB bc bs ls st μ h H locs ph cells slots hR hL hlo hc hs
  unfold o_callS at h
  split at h
  next as rest hsp =>
    split at h
    next hcd =>
      obtain ⟨hlen, hcat, hmc, hms⟩ := hcd
      obtain ⟨ys, hy1, hy2⟩ := dw_sp_spec k st [] _ _ hsp (by simp only [List.length_nil]; omega)
      rw [List.append_nil] at hy1
      subst hy1
      have hM := hv l D aC b0 ex HB _ _ _ h
      have hst : st.map (dw_tr b0 ex) = (as.map (dw_tr b0 ex)).reverse ++ rest.map (dw_tr b0 ex) := by
        rw [hy2]
        simp
      rw [hst]
      refine dw_back (rest := rest) hB hn (a := (as.map (dw_tr b0 ex)).toArray) ?_ hL hlo hc hs hmc hms
      have hpre : PreS s H (dw_Pc D aC b0 ex HB as μ) (as.map (dw_tr b0 ex)) := ⟨dw_blind, fun U hU hW => ⟨rfl, by rw [hU]; exact hR, hE.moved hW⟩⟩
      rcases w1 with w1 | ⟨ho, w1⟩
      · exact va_runS (As := as.map (dw_tr b0 ex)) (rest := rest.map (dw_tr b0 ex)) X hM ⟨callB_of k X.2.2.2.2 (dw_good hTb hcode) rfl rfl rfl (X.2.2.2.2 _ (hTb _ w4)) (X.2.2.2.2 _ (hTb _ w1)) hdd hR1, X.2.2.2.2 _ (hTb _ w2)⟩ hpre rfl (by simp; omega) hlo.1 rfl (lv_room (by rw [dw_cats_sum]; exact hcat)) hd ⟨by omega, by omega⟩
      · exact va_runSN (host := ho) (As := as.map (dw_tr b0 ex)) (rest := rest.map (dw_tr b0 ex)) X hM ⟨va_cnB k X.2.2.2.2 (dw_good hTb hcode) rfl rfl rfl (hE.2.2.1 _ w1) (X.2.2.2.2 _ (hTb _ w4)) hdd hR1, X.2.2.2.2 _ (hTb _ w2), trivial⟩ hpre rfl (by simp; omega) hlo.1 rfl (lv_room (by rw [dw_cats_sum]; exact hcat)) hd ⟨by omega, by omega⟩
    next => exact h.elim
end DWC
end
section
/-! ===== running a method's table of ops ===== -/
/-- the least set of places that is closed backwards under the ops -/
def dw_ok (pr : Nat → dw_Op) : dw_B := fun pc bc bs ls st μ => ∀ B : dw_B, (∀ pc bc bs ls st μ (B0 : dw_B), (∀ pc bc bs ls st μ, B0 pc bc bs ls st μ → B pc bc bs ls st μ) → pr pc B0 bc bs ls st μ → B pc bc bs ls st μ) → B pc bc bs ls st μ
theorem dw_ok.step {pr : Nat → dw_Op} {pc bc bs : Nat} {ls : dw_L} {st : List Value} {μ : dw_S} (h : pr pc (dw_ok pr) bc bs ls st μ) : dw_ok pr pc bc bs ls st μ := fun B hB => hB _ _ _ _ _ _ (dw_ok pr) (fun _ _ _ _ _ _ q => q B hB) h
/-- at most n ops, no further than to where sp says stop -/
def dw_go (pr : Nat → dw_Op) (sp : Nat → Bool) (B : dw_B) (n : Nat) : dw_B := Nat.rec B (fun _ ih => fun pc bc bs ls st μ => cond (sp pc) (B pc bc bs ls st μ) (pr pc ih bc bs ls st μ)) n
theorem dw_go_ok {pr : Nat → dw_Op} {sp : Nat → Bool} : ∀ (n pc bc bs : Nat) (ls : dw_L) (st : List Value) (μ : dw_S), dw_go pr sp (dw_ok pr) n pc bc bs ls st μ → dw_ok pr pc bc bs ls st μ
  | 0, _, _, _, _, _, _, h => h
  | n + 1, pc, bc, bs, ls, st, μ, h => by
    have h' : cond (sp pc) (dw_ok pr pc bc bs ls st μ) (pr pc (dw_go pr sp (dw_ok pr) n) bc bs ls st μ) := h
    cases hs : sp pc with
    | true => rw [hs] at h'; exact h'
    | false =>
      rw [hs] at h'
      exact fun B hB => hB _ _ _ _ _ _ (dw_go pr sp (dw_ok pr) n) (fun pc bc bs ls st μ q => dw_go_ok n pc bc bs ls st μ q B hB) h'
theorem dw_run {pr : Nat → dw_Op} {pc bc bs : Nat} {ls : dw_L} {st : List Value} {μ : dw_S} (n : Nat) (sp : Nat → Bool) (h : pr pc (dw_go pr sp (dw_ok pr) n) bc bs ls st μ) : dw_ok pr pc bc bs ls st μ :=
  fun B hB => hB _ _ _ _ _ _ (dw_go pr sp (dw_ok pr) n) (fun pc bc bs ls st μ q => dw_go_ok n pc bc bs ls st μ q B hB) h
/-- tables of ops -/
def dw_lf (k : Nat) (op : dw_Op) : Nat → dw_Op := fun pc => cond (Nat.beq pc k) op o_no
def dw_br (k : Nat) (a b : Nat → dw_Op) : Nat → dw_Op := fun pc => cond (Nat.ble k pc) (b pc) (a pc)
def dw_inl : List Value → dw_L
  | [] => []
  | v :: r => cond (v.category == 2) (some v :: none :: dw_inl r) (some v :: dw_inl r)
def dw_pad : Nat → dw_L → dw_L
  | 0, _ => []
  | n + 1, [] => none :: dw_pad n []
  | n + 1, a :: r => a :: dw_pad n r
/-- what a method's body says -/
def dw_body (nL mc ms : Nat) (pr : dw_K → Nat → dw_Op) : dw_T := fun as μ K => if (dw_inl as).length ≤ nL then dw_ok (pr K) 0 mc ms (dw_pad nL (dw_inl as)) [] μ else False
theorem dw_pad_get : ∀ (n : Nat) (l : dw_L) (i : Nat) (v : Value), (dw_pad n l)[i]? = some (some v) → l[i]? = some (some v)
  | 0, l, i, v, h => by simp [dw_pad] at h
  | n + 1, [], 0, v, h => by simp [dw_pad] at h
  | n + 1, [], i + 1, v, h => by
    have := dw_pad_get n [] i v (by simpa [dw_pad] using h)
    simp at this
  | n + 1, a :: r, 0, v, h => by simpa [dw_pad] using h
  | n + 1, a :: r, i + 1, v, h => by
    have := dw_pad_get n r i v (by simpa [dw_pad] using h)
    simpa using this
theorem dw_pad_len : ∀ (n : Nat) (l : dw_L), (dw_pad n l).length = n
  | 0, l => rfl
  | n + 1, [] => by simp [dw_pad, dw_pad_len n []]
  | n + 1, a :: r => by simp [dw_pad, dw_pad_len n r]
theorem dw_inl_len {b0 : Nat} {ex : Nat → Nat} : ∀ as : List Value, (lg_sl (as.map (dw_tr b0 ex))).length = (dw_inl as).length
  | [] => rfl
  | v :: r => by
    have h := dw_inl_len (b0 := b0) (ex := ex) r
    unfold lg_sl at h ⊢
    simp only [List.map_cons, List.flatMap_cons, List.length_append, dw_tr_cat, dw_inl]
    rw [h]
    by_cases hc : v.category = 2
    · simp [hc]; omega
    · have hb : (v.category == 2) = false := by simpa using hc
      rw [if_neg hc, hb]
      simp only [cond_false, List.length_cons, List.length_nil]
      omega
theorem dw_inl_args {b0 : Nat} {ex : Nat → Nat} : ∀ (as : List Value) (k i : Nat) (v : Value), (dw_inl as)[i]? = some (some v) → (k + i, dw_tr b0 ex v) ∈ lv_args k (as.map (dw_tr b0 ex))
  | [], k, i, v, h => by simp [dw_inl] at h
  | w :: r, k, i, v, h => by
    simp only [dw_inl] at h
    simp only [List.map_cons, lv_args, dw_tr_cat]
    by_cases hc : w.category = 2
    · have hb : (w.category == 2) = true := by simpa using hc
      rw [hb] at h
      rw [if_pos hc]
      match i, h with
      | 0, h =>
        simp only [cond_true, List.getElem?_cons_zero] at h
        cases h
        exact List.mem_cons_self
      | 1, h => simp at h
      | i + 2, h =>
        have h2 : (dw_inl r)[i]? = some (some v) := by simpa using h
        have := dw_inl_args (b0 := b0) (ex := ex) r (k + 2) i v h2
        rw [show k + 2 + i = k + (i + 2) by omega] at this
        exact List.mem_cons_of_mem _ this
    · have hb : (w.category == 2) = false := by simpa using hc
      rw [hb] at h
      rw [if_neg hc]
      match i, h with
      | 0, h =>
        simp only [cond_false, List.getElem?_cons_zero] at h
        cases h
        exact List.mem_cons_self
      | i + 1, h =>
        have h2 : (dw_inl r)[i]? = some (some v) := by simpa using h
        have := dw_inl_args (b0 := b0) (ex := ex) r (k + 1) i v h2
        rw [show k + 1 + i = k + (i + 1) by omega] at this
        exact List.mem_cons_of_mem _ this
section DWR
variable {p : Program} {l : Launch} {e : Env} {R : Room} {s : State} {m : MethodId} {args : Array Value} {below : List Frame} {meth : Method} {c : Code} {Q : State → Prop}
variable {D : va_G} {aC : Nat → ClassId} {b0 : Nat} {ex : Nat → Nat} {HB : Heap} {nL : Nat} {pr : Nat → dw_Op}
theorem dw_ok.sound (hs : dw_SndP p l e R s m args below meth c Q D aC b0 ex HB nL pr) {pc bc bs : Nat} {ls : dw_L} {st : List Value} {μ : dw_S} (h : dw_ok pr pc bc bs ls st μ) : dw_G p l e R s m args below meth c Q D aC b0 ex HB nL pc bc bs ls st μ :=
  h (dw_G p l e R s m args below meth c Q D aC b0 ex HB nL) (fun pc bc bs ls st μ B0 h0 h1 => hs pc B0 h0 bc bs ls st μ h1)
theorem dw_sp_lf {k : Nat} {op : dw_Op} (h : dw_Snd p l e R s m args below meth c Q D aC b0 ex HB nL k op) : dw_SndP p l e R s m args below meth c Q D aC b0 ex HB nL (dw_lf k op) := by
  intro pc
  unfold dw_lf
  cases hk : Nat.beq pc k with
  | false => exact s_no
  | true =>
    have := Nat.eq_of_beq_eq_true hk
    subst this
    exact h
theorem dw_sp_br {k : Nat} {a b : Nat → dw_Op} (ha : dw_SndP p l e R s m args below meth c Q D aC b0 ex HB nL a) (hb : dw_SndP p l e R s m args below meth c Q D aC b0 ex HB nL b) : dw_SndP p l e R s m args below meth c Q D aC b0 ex HB nL (dw_br k a b) := by
  intro pc
  unfold dw_br
  cases hk : Nat.ble k pc with
  | false => exact ha pc
  | true => exact hb pc
theorem dw_Lo.ini (as : List Value) {n : Nat} (h : (dw_inl as).length ≤ n) : dw_Lo b0 ex ((lg_sl (as.map (dw_tr b0 ex)) ++ List.replicate (n - (lg_sl (as.map (dw_tr b0 ex))).length) Slot.unset).toArray) n (dw_pad n (dw_inl as)) := by
  have h1 := lv_entry (as.map (dw_tr b0 ex)) (n := n) (by rw [dw_inl_len]; exact h)
  refine ⟨h1.1, h1.2.1, Nat.le_of_eq (dw_pad_len _ _), fun i v hi => ?_⟩
  have h2 := dw_inl_args (b0 := b0) (ex := ex) as 0 i v (dw_pad_get _ _ _ _ hi)
  rw [Nat.zero_add] at h2
  exact h1.2.2 _ h2
end DWR
/-- a method's contract out of its table of ops -/
theorem dw_Val.of {y : MethodName} {b : ByteArray} {nL : Nat} {ret : Option FieldType} {dep mc ms : Nat} {pr : dw_K → Nat → dw_Op} (hy : plainName y.cls = true)
    (hs : ∀ (p : Program) (l : Launch) (e : Env) (s : State) (m : MethodId) (args : Array Value) (below : List Frame) (meth : Method) (c : Code) (D : va_G) (aC : Nat → ClassId) (b0 : Nat) (ex : Nat → Nat) (HB : Heap) (K : dw_K),
      CallFix p m c b nL s args (.code y b nL ret :: dw_Tb) y.cls → dw_E D aC b0 ex HB s → meth.locks = false → meth.sig.returnType = ret → meth.name = y.name →
      dw_SndP p l e (dw_rm dep mc ms) s m args below meth c (MQ below (dw_Qc D aC b0 ex HB K) args s mc ms (fun q => b0 ≤ q)) D aC b0 ex HB nL (pr K)) : dw_Val y b nL ret dep mc ms (dw_body nL mc ms pr) := by
  intro l D aC b0 ex HB as μ K hT
  unfold dw_body at hT
  split at hT
  next hlen =>
    refine Met.ofW (cc := b) (maxL := nL) (ret := ret) hy rfl ?_
    intro p e s m args below meth c s₁ B hml hv
    obtain ⟨rfl, hR, hE⟩ := hv
    have hts := atoms_spec (ws := .code y b nL ret :: dw_Tb) B.pre
    have hown : s.vm.findClass y.cls = some m.cls := findClass_of_methodNamed B.named
    have hin : meth.name = y.name := (name_of_methodNamed B.named B.method).1
    have hg := dw_ok.sound (hs p l e s m _ below meth c D aC b0 ex HB K ⟨B.exec, B.bytes, hml, hown, hts⟩ hE B.notSynchronized B.returns hin) hT
    rw [lg_entry_eq]
    exact hg s.heap [] _ 0 0 hR (fun q h => by cases h) (dw_Lo.ini as hlen) (Nat.zero_add _) (Nat.zero_add _)
  next => exact hT.elim
end
