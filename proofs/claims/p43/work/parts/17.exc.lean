/-! ===== a method that throws, and its catching ===== -/
def dw_nse : String := "java/util/NoSuchElementException"
abbrev dw_sup : List String := ["java/lang/RuntimeException", "java/lang/Exception"]
def dw_XC (D : va_G) (aC : Nat → ClassId) (b0 : Nat) (ex : Nat → Nat) (HB : Heap) (Kx : dw_S → Prop) : String → State → State → Prop := fun E _ t => E = dw_nse ∧ ∃ μ' : dw_S, Kx μ' ∧ dw_R D aC b0 ex HB μ' t.heap
/-- the throw: how many cells come isn't told -/
def o_thr (n0 : Nat) (Kx : dw_S → Prop) : dw_Op := fun _ bc bs _ st μ => if n0 ≤ μ.1 ∧ 1 ≤ bc ∧ 6 ≤ bs ∧ dw_cats st ≤ 8 then (∀ n', μ.1 ≤ n' → Kx (n', μ.2)) else False
/-- a call of a method that may throw; what is thrown is caught here, and 1 is answered -/
def o_callX (ci k mc ms : Nat) (T : List Value → dw_S → dw_K → (dw_S → Prop) → Prop) (K : dw_K) (nx : Nat) : dw_Op := fun B bc bs ls st μ => match dw_sp k st [] with
  | (.ref a :: as, rest) => if (μ.2.1 a).1 = ci ∧ as.length + 1 = k ∧ dw_cats rest ≤ 8 ∧ mc ≤ bc ∧ ms ≤ bs then T (.ref a :: as) μ (fun r μ' => B nx (bc - mc) (bs - ms) ls (r.toList ++ rest) μ') (fun μ' => K (some (.int 1)) μ') else False
  | _ => False
def dw_ValX (l : Launch) (y : MethodName) (b : ByteArray) (nL : Nat) (ret : Option FieldType) (dep mc ms : Nat) (T : List Value → dw_S → dw_K → (dw_S → Prop) → Prop) : Prop :=
  ∀ (D : va_G) (aC : Nat → ClassId) (b0 : Nat) (ex : Nat → Nat) (HB : Heap) (as : List Value) (μ : dw_S) (K : dw_K) (Kx : dw_S → Prop), T as μ K Kx →
    vx_Met l y (.code y b nL ret :: dw_Tb) (dw_rm dep mc ms) (dw_Pc D aC b0 ex HB as μ) (dw_Qc D aC b0 ex HB K) (dw_XC D aC b0 ex HB Kx) mc ms (fun q => b0 ≤ q)
def dw_ValW (l : Launch) (y : MethodName) (b : ByteArray) (nL : Nat) (ret : Option FieldType) (hh : List (Nat × Nat × Nat × Nat)) (dep mc ms : Nat) (T : dw_T) : Prop :=
  ∀ (D : va_G) (aC : Nat → ClassId) (b0 : Nat) (ex : Nat → Nat) (HB : Heap) (as : List Value) (μ : dw_S) (K : dw_K), T as μ K →
    Met l y (.codeWith y b nL ret hh :: dw_Tb) (dw_rm dep mc ms) (dw_Pc D aC b0 ex HB as μ) (dw_Qc D aC b0 ex HB K) mc ms (fun q => b0 ≤ q)
section DWX
variable {D : va_G} {aC : Nat → ClassId} {b0 : Nat} {ex : Nat → Nat} {HB H H' : Heap} {μ : dw_S}
theorem dw_R.grow (hR : dw_R D aC b0 ex HB μ H) (hz : H.size ≤ H'.size) (hq : ∀ q, q < H.size → H'[q]? = H[q]?) : dw_R D aC b0 ex HB (H'.size - b0, μ.2) H' := by
  obtain ⟨h1, h2, h3, h4, h5, h6⟩ := hR
  refine ⟨by show H'.size = b0 + (H'.size - b0); omega, h2, fun q hqb => by rw [hq q (by omega)]; exact h3 q hqb, h4, fun k hk => ?_, fun k hk => h6 k (by have : H'.size - b0 ≤ k := hk; omega)⟩
  rcases Nat.lt_or_ge k μ.1 with c | c
  · obtain ⟨g1, g2⟩ := h5 k c
    exact ⟨g1.kept (μ' := (H'.size - b0, μ.2)) rfl (fun _ => rfl) (fun _ => rfl) (hq _ (by omega)), g2⟩
  · have h9 := h6 k c
    refine ⟨?_, fun j hj => ?_⟩
    · unfold dw_cellAt
      rw [if_pos h9]
      trivial
    · show dw_fit (dw_ty (μ.2.1 k).1 j) _
      rw [h9]
      exact trivial
end DWX
section DWXS
variable {p : Program} {l : Launch} {e : Env} {R : Room} {s : State} {m : MethodId} {args : Array Value} {below : List Frame} {meth : Method} {c : Code} {Q : State → Prop}
variable {D : va_G} {aC : Nat → ClassId} {b0 : Nat} {ex : Nat → Nat} {HB : Heap} {nL : Nat} {cc : ByteArray} {Ts : List Cond} {own : String} {pc : Nat} {K : dw_K} {Kx : dw_S → Prop} {XC : String → State → State → Prop}
/-- ops of a body that may throw: those of one that only returns -/
theorem dw_Snd.retX {op : dw_Op} {Qc : Array Value → State → Outcome → State → Prop} {mc ms : Nat} {free : Addr → Prop} (h : ∀ B : dw_B, ∀ bc bs ls st μ, op B bc bs ls st μ → op (fun _ _ _ _ _ _ => False) bc bs ls st μ) (hs : dw_Snd p l e R s m args below meth c (MQ below Qc args s mc ms free) D aC b0 ex HB nL pc op) : dw_Snd p l e R s m args below meth c (vx_MQ below Qc XC args s mc ms free) D aC b0 ex HB nL pc op := by
  intro B hB bc bs ls st μ h0 H locs ph cells slots hR hL hlo hc hs'
  exact vx_ret (hs (fun _ _ _ _ _ _ => False) (fun _ _ _ _ _ _ h => h.elim) bc bs ls st μ (h B _ _ _ _ _ h0) H locs ph cells slots hR hL hlo hc hs')
theorem dw_declares {x : MethodName} {bytes : ByteArray} {maxL : Nat} {ret : Option FieldType} (h1 : (Cond.instanceMethod x).before args s = true) (h2 : (Cond.code x bytes maxL ret).before args s = true) : (Cond.declares x).before args s = true := by
  obtain ⟨m9, meth9, hn, hm, hst, hab⟩ := Cond.instanceMethod_spec h1
  obtain ⟨meth8, cM, hm8, -, -, -, -, -, -, hsig⟩ := Cond.code_spec hn h2
  cases hm.symm.trans hm8
  unfold Cond.before Cond.holds
  simp [Cond.value, hn, hm, hst, hsig]
theorem s_throw {dl : List (MethodName × ByteArray × Nat)} (hdl : ∀ q ∈ dl, Cond.instanceMethod q.1 ∈ dw_Tb ∧ Cond.code q.1 q.2.1 q.2.2 none ∈ dw_Tb) {ix : Nat} {rx : ByteArray} (x0 : decode rx 0 = .ok (.aload_n 0, 1)) (x1 : decode rx 1 = .ok (.aload_n 1, 1)) (x2 : decode rx 2 = .ok (.invokespecial ix, 3)) (x5 : decode rx 5 = .ok (.return_, 1)) {n0 ik is ic mc ms : Nat} {text : String} {i : Nat} {byt : List Int32} (X : CallFix p m c cc nL s args Ts own) (hE : dw_E D aC b0 ex HB s) (hTb : ∀ w ∈ dw_Tb, w ∈ Ts) (hl : l.stackTraces = false) (hfr : ∀ q, q < b0 → s.heap[q]? = HB[q]?) (hn0 : s.heap.size = b0 + n0) (hHB : HB.size = b0)
    (hx : ∀ x ∈ c.exceptionTable.toList, False) (hlocks : meth.locks = false) (hRm : 5 < R.frames ∧ 100 ≤ R.locals) (hmc : R.cells = mc ∧ R.slots = ms) (w1 : Cond.classLink own ik dw_nse ∈ dw_Tb) (w2 : Cond.initialized dw_nse ∈ dw_Tb) (hstr : (own, is, text, i, byt) ∈ dw_strs)
    (hat : ((dw_atX own ic dw_nse ix rx dw_sup).all fun w => decide (w ∈ lw_tbl) && vx_ot w && (goodWord w || decide (w = .castable dw_nse dw_nse) || dl.any (fun q => decide (w = .declares q.1)))) = true)
    (d0 : decode cc pc = .ok (.new ik, 3)) (d3 : decode cc (pc + 3) = .ok (.dup, 1)) (d4 : decode cc (pc + 4) = .ok (.ldc is, 2)) (d6 : decode cc (pc + 6) = .ok (.invokespecial ic, 3)) (d9 : decode cc (pc + 9) = .ok (.athrow, 1)) :
    dw_Snd p l e R s m args below meth c (vx_MQ below (dw_Qc D aC b0 ex HB K) (dw_XC D aC b0 ex HB Kx) args s mc ms (fun q => b0 ≤ q)) D aC b0 ex HB nL pc (o_thr n0 Kx) := by
  intro B hB bc bs ls st μ h H locs ph cells slots hR hL hlo hc hs
  unfold o_thr at h
  split at h
  next hcd =>
    obtain ⟨h1, h2, h3, h4⟩ := hcd
    obtain ⟨-, -, -, -, -, -, v1, v2, v3, -, -, v6⟩ := hE
    have hts := X.2.2.2.2
    have hA : ∀ a : Nat, a < HB.size → ¬ (fun q => b0 ≤ q) a → s.heap[a]? = HB[a]? := fun a ha _ => hfr a (by omega)
    have hw : ∀ w ∈ dw_atX own ic dw_nse ix rx dw_sup, w.before args s = true ∧ vx_ot w = true := fun w hw => by
      have g := List.all_eq_true.mp hat w hw
      simp only [Bool.and_eq_true, Bool.or_eq_true, decide_eq_true_eq] at g
      obtain ⟨⟨g1, g2⟩, g3⟩ := g
      refine ⟨?_, g2⟩
      rcases g3 with (g3 | g3) | g3
      · exact hts _ (hTb _ (List.mem_filter.mpr ⟨g1, g3⟩))
      · rw [g3]
        exact va_Nw.use rfl v3
      · obtain ⟨q, hq, hq2⟩ := List.any_eq_true.mp g3
        rw [of_decide_eq_true hq2]
        exact dw_declares (hts _ (hTb _ (hdl q hq).1)) (hts _ (hTb _ (hdl q hq).2))
    have hgw : ∀ w ∈ dw_Tb, vx_ot w = true := fun w hw => by
      unfold vx_ot
      rw [(List.mem_filter.mp hw).2, Bool.or_true]
    refine dw_throwS x0 x1 x2 x5 (A := fun q => b0 ≤ q) (names := dw_sup) (text := text) (sa := ex (1 + i)) X.1 X.2.1 hl X.2.2.2.1 (by decide +kernel) (by decide +kernel) (hts _ (hTb _ w1)) (hts _ (hTb _ w2)) (v6 _ hstr).1 (fun w hw' => (hw w hw').1) ?_ (vx_Zq.kept v1 hA) (vx_Zq.kept v2 hA) ⟨?_, fun q hq hqa => ?_, hL⟩ (hlo.1.trans X.2.2.1.symm) d0 d3 d4 d6 d9 (fun x hx9 => (hx x hx9).elim) (show 2 + 3 < R.frames from hRm.1) ?_ (by omega) (by omega) hlocks (fun t hal hz hq => ?_) hL (by omega) (by omega)
    · intro w hw'
      rcases List.mem_cons.mp hw' with rfl | hw'
      · exact hgw _ w1
      · rcases List.mem_cons.mp hw' with rfl | hw'
        · exact hgw _ w2
        · exact (hw w hw').2
    · rw [hR.1, hn0]; omega
    · have hqb : q < b0 := Nat.not_le.mp hqa
      rw [hR.2.2.1 q hqb, hfr q hqb]
    · rw [dw_cats_sum]
      show dw_cats st + (13 * (2 + 1) + 43) ≤ R.locals
      omega
    · exact ⟨rfl, _, h _ (by have := hR.1; omega), hR.grow hz hq⟩
  next => exact h.elim
theorem s_callX {y : MethodName} {b : ByteArray} {nLy : Nat} {ret : Option FieldType} {dep mc ms ci k index nx N : Nat} {T : List Value → dw_S → dw_K → (dw_S → Prop) → Prop} {TT : u_T} {x : ExceptionTableEntry} (X : CallFix p m c cc nL s args Ts own) (hE : dw_E D aC b0 ex HB s) (hTb : ∀ w ∈ dw_Tb, w ∈ Ts) (hv : dw_ValX l y b nLy ret dep mc ms T) (hc16 : dw_cl[ci]? = some (y.cls, TT, N)) (hci : ci < 16)
    (hQ : Q = MQ below (dw_Qc D aC b0 ex HB K) args s R.cells R.slots (fun q => b0 ≤ q)) (hlocks : meth.locks = false) (hr : meth.sig.returnType = some .int)
    (htab : c.exceptionTable.toList = [x]) (hcov : covers x pc = true) (hct : x.catchType ≠ 0) (hcl : Cond.classLink own x.catchType dw_nse ∈ dw_Tb) (h5 : 5 < nL) (e0 : decode cc x.handlerPc = .ok (.astore 5, 2)) (e2 : decode cc (x.handlerPc + 2) = .ok (.iconst 1, 1)) (e3 : decode cc (x.handlerPc + 3) = .ok (.ireturn, 1))
    (hR1 : dep + 1 ≤ R.frames ∧ 8 + (nLy + 11) + 36 * dep ≤ R.locals) (hcode : Cond.code y b nLy ret ∈ dw_Tb) (w1 : Cond.methodLink own index y ∈ dw_Tb) (w2 : Cond.instanceMethod y ∈ dw_Tb) (w3 : Cond.selects y.cls y y ∈ dw_Tb) (w4 : Cond.initialized y.cls ∈ dw_Tb)
    (hdd : y.cls ≠ "java/lang/invoke/MethodHandle" ∧ y.cls ≠ "java/lang/invoke/VarHandle" ∧ (parseMethodDescriptor y.desc).map (fun d => d.parameters.length) = some (k - 1)) (hd : decode cc pc = .ok (.invokevirtual index, 3)) (hn : pc + 3 = nx) : dw_Snd p l e R s m args below meth c Q D aC b0 ex HB nL pc (o_callX ci k mc ms T K nx) := by
  subst hQ
  intro B hB bc bs ls st μ h H locs ph cells slots hR hL hlo hc hs
  unfold o_callX at h
  split at h
  next a as rest hsp =>
    split at h
    next hcd =>
      obtain ⟨ha2, hlen, hcat, hmc, hms⟩ := hcd
      have ha1 := hR.dom (a := a) (by rw [ha2]; omega)
      obtain ⟨ys, hy1, hy2⟩ := dw_sp_spec k st [] _ _ hsp (by simp only [List.length_cons, List.length_nil]; omega)
      rw [List.append_nil] at hy1
      subst hy1
      obtain ⟨o1, ⟨cellV, v1, v2, v3, -⟩, -⟩ := dw_obj hR ha1 ha2 hc16 hci
      have hcls := (hE.1 ci _ hc16).2
      have hM := hv D aC b0 ex HB _ _ _ _ h
      have hwd : ∀ w ∈ wsV own index y.cls y (.code y b nLy ret :: dw_Tb), w ∈ Ts ∧ ((w.onTables && w.keeps) = true ∨ ∃ ty, w = .arrayClass ty) := by
        intro w hw
        unfold wsV at hw
        rcases List.mem_append.mp hw with hw | hw
        · have : w ∈ dw_Tb := by
            simp only [List.mem_cons, List.not_mem_nil, or_false] at hw
            rcases hw with rfl | rfl | rfl | rfl <;> assumption
          exact ⟨hTb w this, good_of_word (List.mem_filter.mp this).2⟩
        · exact dw_good hTb hcode w hw
      have hst : st.map (dw_tr b0 ex) = (as.map (dw_tr b0 ex)).reverse ++ .ref (b0 + a) :: rest.map (dw_tr b0 ex) := by
        rw [hy2, ← dw_tr_ref (b0 := b0) (ex := ex) (hR.lt (a := a) (by rw [ha2]; omega))]
        simp
      rw [hst]
      have hrun := vx_runV (e := e) (H := H) (locs := locs) (below := below) (meth := meth) (cells := cells) (slots := slots) (g := F0 m pc ph ((as.map (dw_tr b0 ex)).reverse ++ .ref (b0 + a) :: rest.map (dw_tr b0 ex))) (As := as.map (dw_tr b0 ex)) (rest := rest.map (dw_tr b0 ex)) X hM (cwV (k - 1) X.2.2.2.2 hwd rfl rfl rfl ⟨rfl, hdd⟩ hR1) ⟨dw_blind, ⟨cellV, v1, by rw [v3]; rfl, by rw [v2]; exact hcls.1⟩, fun U hU hW => ⟨by rw [List.map_cons, dw_tr_ref (hR.lt (a := a) (by rw [ha2]; omega))], by rw [hU]; exact hR, hE.moved hW⟩⟩ rfl (by simp; omega) hlo.1 rfl (lv_room (by rw [dw_cats_sum]; exact hcat)) hd ⟨by omega, by omega⟩
      intro T9 hT X9
      rcases hrun T9 hT X9 with ⟨v, st₀, t, T', L, h0, X', hL', e1', e2', ⟨r, μ', hv', hK, hR'⟩, stp⟩ | ⟨q, st₀, t, T', L, E, ce, h0, X', hL', e1', e2', ⟨rfl, μ', hK, hR'⟩, hce, hcv, hcl', stp⟩
      · cases hv'
        subst hn
        have hg := hB _ _ _ _ _ _ hK T'.heap (locs ++ L) ph (cells + mc) (slots + ms) (by rw [e1']; exact hR') (fun q hq => by
          rcases List.mem_append.mp hq with h | h
          · exact hL q h
          · exact hL' q h) hlo (by omega) (by omega)
        have hst2 : (r.toList ++ rest).map (dw_tr b0 ex) = (r.map (dw_tr b0 ex)).toList ++ rest.map (dw_tr b0 ex) := by
          cases r <;> simp
        rw [hst2] at hg
        obtain ⟨t2, a1, b1⟩ := hg T' rfl X'
        exact ⟨t2, stp t2 a1, b1⟩
      · have hL2 : ∀ q ∈ locs ++ L, b0 ≤ q.base := fun q hq => by
          rcases List.mem_append.mp hq with h | h
          · exact hL q h
          · exact hL' q h
        have hcast : (Cond.castable dw_nse dw_nse).before args s = true := va_Nw.use rfl hE.2.2.2.2.2.2.2.2.1
        have hcatch := vx_catch (p := p) (l := l) (e := e) (R := R) (args := args) (below := below) (meth := meth) (H := T'.heap) (locs := locs ++ L) (cells := cells + mc) (slots := slots + ms) (Q := MQ below (dw_Qc D aC b0 ex HB K) args s R.cells R.slots (fun q => b0 ≤ q)) (ls := ph) (rest := rest.map (dw_tr b0 ex)) (q := q) X.2.2.2.1 [] x [] htab (fun z hz => nomatch hz) hcov hct (X.2.2.2.2 _ (hTb _ hcl)) hcast (by rw [e1']; exact hce) hcv hcl' (by
          refine lv_astore X.1 X.2.1 e0 hlo.has h5 rfl (fun ph' h' => ?_)
          refine lv_iconst (v := 1) X.1 X.2.1 e2 (by decide) ?_
          refine W.widen (k := R.cells) (n := R.slots) (by omega) (by omega) ?_
          exact W.iret X.1 X.2.1 hr (fun t2 ht hW => ⟨some (.int 1), μ', rfl, hK, by rw [ht, e1']; exact hR'⟩) hL2 e3 hlocks)
        obtain ⟨t2, a1, b1⟩ := hcatch T' rfl X'
        exact ⟨t2, stp.trans a1, b1⟩
    next => exact h.elim
  next => exact h.elim
/-- the call of a method that has a table of its own -/
theorem s_callW {y : MethodName} {b : ByteArray} {nLy : Nat} {ret : Option FieldType} {hh : List (Nat × Nat × Nat × Nat)} {dep mc ms k index nx : Nat} {T : dw_T} (X : CallFix p m c cc nL s args Ts own) (hE : dw_E D aC b0 ex HB s) (hTb : ∀ w ∈ dw_Tb, w ∈ Ts) (hv : dw_ValW l y b nLy ret hh dep mc ms T)
    (hR1 : dep + 1 ≤ R.frames ∧ 8 + (nLy + 11) + 36 * dep ≤ R.locals) (hcode : Cond.codeWith y b nLy ret hh ∈ dw_Tb) (w1 : Cond.methodLink own index y ∈ dw_Tb) (w2 : Cond.static y ∈ dw_Tb) (w4 : Cond.initialized y.cls ∈ dw_Tb)
    (hdd : y.cls ≠ "java/lang/invoke/MethodHandle" ∧ y.cls ≠ "java/lang/invoke/VarHandle" ∧ (parseMethodDescriptor y.desc).map (fun d => d.parameters.length) = some k) (hd : decode cc pc = .ok (.invokestatic index, 3)) (hn : pc + 3 = nx) : dw_Snd p l e R s m args below meth c Q D aC b0 ex HB nL pc (o_callS k mc ms T nx) := by
  intro B hB bc bs ls st μ h H locs ph cells slots hR hL hlo hc hs
  unfold o_callS at h
  split at h
  next as rest hsp =>
    split at h
    next hcd =>
      obtain ⟨hlen, hcat, hmc, hms⟩ := hcd
      obtain ⟨ys, hy1, hy2⟩ := dw_sp_spec k st [] _ _ hsp (by simp only [List.length_nil]; omega)
      rw [List.append_nil] at hy1
      subst hy1
      have hM := hv D aC b0 ex HB _ _ _ h
      have hst : st.map (dw_tr b0 ex) = (as.map (dw_tr b0 ex)).reverse ++ rest.map (dw_tr b0 ex) := by
        rw [hy2]
        simp
      rw [hst]
      have hgd : GoodIn Ts (va_wsS own index y (.codeWith y b nLy ret hh :: dw_Tb)) := by
        intro w hw
        have : w ∈ dw_Tb := by
          unfold va_wsS at hw
          rcases List.mem_append.mp hw with hw | hw
          · simp only [List.mem_cons, List.not_mem_nil, or_false] at hw
            rcases hw with rfl | rfl | rfl <;> assumption
          · rcases List.mem_cons.mp hw with rfl | hw
            · exact hcode
            · exact hw
        exact ⟨hTb w this, good_of_word (List.mem_filter.mp this).2⟩
      refine dw_back (rest := rest) hB hn (a := (as.map (dw_tr b0 ex)).toArray) ?_ hL hlo hc hs hmc hms
      exact vx_runSW (As := as.map (dw_tr b0 ex)) (rest := rest.map (dw_tr b0 ex)) X hM (vx_cwSW k X.2.2.2.2 hgd rfl rfl rfl hdd hR1) ⟨dw_blind, fun U hU hW => ⟨rfl, by rw [hU]; exact hR, hE.moved hW⟩⟩ rfl (by simp; omega) hlo.1 rfl (lv_room (by rw [dw_cats_sum]; exact hcat)) hd ⟨by omega, by omega⟩
    next => exact h.elim
end DWXS
theorem dw_ValX.of {l : Launch} {y : MethodName} {b : ByteArray} {nL : Nat} {ret : Option FieldType} {dep mc ms : Nat} {pr : Nat → dw_K → (dw_S → Prop) → Nat → dw_Op} (hy : plainName y.cls = true)
    (hs : ∀ (p : Program) (e : Env) (s : State) (m : MethodId) (args : Array Value) (below : List Frame) (meth : Method) (c : Code) (D : va_G) (aC : Nat → ClassId) (b0 : Nat) (ex : Nat → Nat) (HB : Heap) (n0 : Nat) (K : dw_K) (Kx : dw_S → Prop),
      CallFix p m c b nL s args (.code y b nL ret :: dw_Tb) y.cls → dw_E D aC b0 ex HB s → meth.locks = false → meth.sig.returnType = ret → (∀ q, q < b0 → s.heap[q]? = HB[q]?) → s.heap.size = b0 + n0 → HB.size = b0 → (∀ x ∈ c.exceptionTable.toList, False) →
      dw_SndP p l e (dw_rm dep mc ms) s m args below meth c (vx_MQ below (dw_Qc D aC b0 ex HB K) (dw_XC D aC b0 ex HB Kx) args s mc ms (fun q => b0 ≤ q)) D aC b0 ex HB nL (pr n0 K Kx)) : dw_ValX l y b nL ret dep mc ms (fun as μ K Kx => dw_body nL mc ms (fun K => pr μ.1 K Kx) as μ K) := by
  intro D aC b0 ex HB as μ K Kx hT
  unfold dw_body at hT
  split at hT
  next hlen =>
    refine vx_ofW (cc := b) (maxL := nL) (ret := ret) hy rfl ?_
    intro p e s m args below meth c s₁ B hml htab hv
    obtain ⟨rfl, hR, hE⟩ := hv
    have hts := atoms_spec (ws := .code y b nL ret :: dw_Tb) B.pre
    have hown : s.vm.findClass y.cls = some m.cls := findClass_of_methodNamed B.named
    have hg := dw_ok.sound (hs p e s m _ below meth c D aC b0 ex HB μ.1 K Kx ⟨B.exec, B.bytes, hml, hown, hts⟩ hE B.notSynchronized B.returns hR.2.2.1 hR.1 hR.2.2.2.1 htab) hT
    rw [lg_entry_eq]
    exact hg s.heap [] _ 0 0 hR (fun q h => by cases h) (dw_Lo.ini as hlen) (Nat.zero_add _) (Nat.zero_add _)
  next => exact hT.elim
theorem dw_ValW.of {l : Launch} {y : MethodName} {b : ByteArray} {nL : Nat} {ret : Option FieldType} {hh : List (Nat × Nat × Nat × Nat)} {dep mc ms : Nat} {pr : dw_K → Nat → dw_Op} (hy : plainName y.cls = true)
    (hs : ∀ (p : Program) (e : Env) (s : State) (m : MethodId) (args : Array Value) (below : List Frame) (meth : Method) (c : Code) (D : va_G) (aC : Nat → ClassId) (b0 : Nat) (ex : Nat → Nat) (HB : Heap) (K : dw_K),
      CallFix p m c b nL s args (.codeWith y b nL ret hh :: dw_Tb) y.cls → dw_E D aC b0 ex HB s → meth.locks = false → meth.sig.returnType = ret → c.exceptionTable.toList = tableOf hh →
      dw_SndP p l e (dw_rm dep mc ms) s m args below meth c (MQ below (dw_Qc D aC b0 ex HB K) args s mc ms (fun q => b0 ≤ q)) D aC b0 ex HB nL (pr K)) : dw_ValW l y b nL ret hh dep mc ms (dw_body nL mc ms pr) := by
  intro D aC b0 ex HB as μ K hT
  unfold dw_body at hT
  split at hT
  next hlen =>
    refine va_MetW (cc := b) (maxL := nL) (ret := ret) (hh := hh) hy rfl ?_
    intro p e s m args below meth c s₁ B hml hv
    obtain ⟨rfl, hR, hE⟩ := hv
    have hts := atoms_spec (ws := .codeWith y b nL ret hh :: dw_Tb) B.pre
    have hown : s.vm.findClass y.cls = some m.cls := findClass_of_methodNamed B.named
    have hg := dw_ok.sound (hs p e s m _ below meth c D aC b0 ex HB K ⟨B.exec, B.bytes, hml, hown, hts⟩ hE B.notSynchronized B.returns (vx_table (x := y) B (hts _ List.mem_cons_self))) hT
    rw [lg_entry_eq]
    exact hg s.heap [] _ 0 0 hR (fun q h => by cases h) (dw_Lo.ini as hlen) (Nat.zero_add _) (Nat.zero_add _)
  next => exact hT.elim

theorem xh_hat_132 : ((dw_atX "SixDew" 132 dw_nse 13 prog_29_method_4_code dw_sup).all fun w => decide (w ∈ lw_tbl) && vx_ot w && (goodWord w || decide (w = .castable dw_nse dw_nse) || ([(⟨"java/lang/RuntimeException", "<init>", "(Ljava/lang/String;)V"⟩, prog_21_method_2_code, 2), (⟨"java/lang/Exception", "<init>", "(Ljava/lang/String;)V"⟩, prog_18_method_2_code, 2), (⟨"java/lang/Throwable", "<init>", "(Ljava/lang/String;)V"⟩, prog_26_method_2_code, 2)] : List (MethodName × ByteArray × Nat)).any (fun q => decide (w = .declares q.1)))) = true := by decide +kernel
def pr_X11_cell (n0 : Nat) (K : dw_K) (Kx : dw_S → Prop) : Nat → dw_Op := dw_br 21 (dw_br 9 (dw_br 4 (dw_br 1 (dw_lf 0 (o_ald 0 1)) (dw_lf 1 (o_getf 11 1 2 4))) (dw_br 7 (dw_lf 4 (o_getf 8 1 2 7)) (dw_br 8 (dw_lf 7 (o_ild 1 8)) (dw_lf 8 (o_ild 2 9))))) (dw_br 16 (dw_br 12 (dw_lf 9 (o_callV 0 3 0 0 t_X0_cellAt 12)) (dw_br 14 (dw_lf 12 (o_ist 4 14)) (dw_lf 14 (o_ild 4 16)))) (dw_br 17 (dw_lf 16 (o_ic (-1) 17)) (dw_br 20 (dw_lf 17 (o_icmp_eq 29 20)) (dw_lf 20 (o_ild 3 21)))))) (dw_br 40 (dw_br 26 (dw_br 24 (dw_lf 21 (o_if_lt 29 24)) (dw_br 25 (dw_lf 24 (o_ild 3 25)) (dw_lf 25 (o_ic 4 26)))) (dw_br 29 (dw_lf 26 (o_icmp_le 39 29)) (dw_br 39 (dw_lf 29 (o_thr n0 Kx)) (dw_lf 39 (o_ald 0 40))))) (dw_br 48 (dw_br 43 (dw_lf 40 (o_getf 11 1 2 43)) (dw_br 46 (dw_lf 43 (o_getf 8 1 2 46)) (dw_lf 46 (o_ild 4 48)))) (dw_br 49 (dw_lf 48 (o_ild 3 49)) (dw_br 52 (dw_lf 49 (o_callV 0 3 0 0 t_X0_tell 52)) (dw_lf 52 (o_iret K))))))
def t_X11_cell : List Value → dw_S → dw_K → (dw_S → Prop) → Prop := fun as μ K Kx => dw_body 5 1 6 (fun K => pr_X11_cell μ.1 K Kx) as μ K
theorem fq_406 : fq_Q cX11_cell [[(0, .aload_n 0, 1), (1, .getfield 19, 3), (4, .getfield 119, 3), (7, .iload_n 1, 1), (8, .iload_n 2, 1), (9, .invokevirtual 122, 3)], [(12, .istore 4, 2), (14, .iload 4, 2), (16, .iconst (-1), 1), (17, .if_icmp .eq 12, 3), (20, .iload_n 3, 1), (21, .ifCond .lt 8, 3)], [(24, .iload_n 3, 1), (25, .iconst 4, 1), (26, .if_icmp .le 13, 3), (29, .new 128, 3), (32, .dup, 1), (33, .ldc 130, 2)], [(35, .invokespecial 132, 3), (38, .athrow, 1), (39, .aload_n 0, 1), (40, .getfield 19, 3), (43, .getfield 119, 3), (46, .iload 4, 2)], [(48, .iload_n 3, 1), (49, .invokevirtual 135, 3), (52, .ireturn, 1)]] := fj_of 0 (by decide +kernel)
theorem fq_407 : fq_Q prog_29_method_4_code [[(0, .aload_n 0, 1), (1, .aload_n 1, 1), (2, .invokespecial 13, 3), (5, .return_, 1)]] := fj_of 0 (by decide +kernel)
set_option maxRecDepth 20000 in
theorem v_X11_cell (l : Launch) (hl : l.stackTraces = false) : dw_ValX l yX11_cell cX11_cell 5 (some .int) 6 1 6 t_X11_cell := dw_ValX.of (by decide +kernel) (fun p e s m args below meth c D aC b0 ex HB n0 K Kx X hE hlk hrt hfr hn0 hHB htab => by
  unfold pr_X11_cell
  exact dw_sp_br (dw_sp_br (dw_sp_br (dw_sp_br (dw_sp_lf (s_aload_n X fq_406.1.1 rfl rfl)) (dw_sp_lf (s_getf X hE (C := RX11) (T := TX11) (N := 18) rfl (by decide) (by decide) rfl (fun w hw => List.mem_cons_of_mem _ (dw_in11 w hw)) (List.mem_cons_of_mem _ fm_430) fq_406.1.2.1 rfl))) (dw_sp_br (dw_sp_lf (s_getf X hE (C := RX8) (T := TX8) (N := 5) rfl (by decide) (by decide) rfl (fun w hw => List.mem_cons_of_mem _ (dw_in8 w hw)) (List.mem_cons_of_mem _ fm_313) fq_406.1.2.2.1 rfl)) (dw_sp_br (dw_sp_lf (s_iload_n X fq_406.1.2.2.2.1 rfl rfl)) (dw_sp_lf (s_iload_n X fq_406.1.2.2.2.2.1 rfl rfl))))) (dw_sp_br (dw_sp_br (dw_sp_lf (s_callV (TT := TX0) (N := 10) X hE (fun w hw => List.mem_cons_of_mem _ hw) v_X0_cellAt rfl (by decide) (by decide) fm_871 fm_868 fm_869 fm_870 fm_72 hq_X0_cellAt fq_406.1.2.2.2.2.2.1 rfl)) (dw_sp_br (dw_sp_lf (s_istore X fq_406.2.1.1 (by decide) rfl)) (dw_sp_lf (s_iload X fq_406.2.1.2.1 rfl)))) (dw_sp_br (dw_sp_lf (s_iconst X fq_406.2.1.2.2.1 (by decide) rfl)) (dw_sp_br (dw_sp_lf (s_icmp_eq X fq_406.2.1.2.2.2.1 (by decide) rfl)) (dw_sp_lf (s_iload_n X fq_406.2.1.2.2.2.2.1 rfl rfl)))))) (dw_sp_br (dw_sp_br (dw_sp_br (dw_sp_lf (s_if_lt X fq_406.2.1.2.2.2.2.2.1 (by decide) rfl)) (dw_sp_br (dw_sp_lf (s_iload_n X fq_406.2.2.1.1 rfl rfl)) (dw_sp_lf (s_iconst X fq_406.2.2.1.2.1 (by decide) rfl)))) (dw_sp_br (dw_sp_lf (s_icmp_le X fq_406.2.2.1.2.2.1 (by decide) rfl)) (dw_sp_br (dw_sp_lf (s_throw (dl := [(⟨"java/lang/RuntimeException", "<init>", "(Ljava/lang/String;)V"⟩, prog_21_method_2_code, 2), (⟨"java/lang/Exception", "<init>", "(Ljava/lang/String;)V"⟩, prog_18_method_2_code, 2), (⟨"java/lang/Throwable", "<init>", "(Ljava/lang/String;)V"⟩, prog_26_method_2_code, 2)]) (List.forall_mem_cons.mpr ⟨⟨fm_1192, fm_1193⟩, List.forall_mem_cons.mpr ⟨⟨fm_1195, fm_1196⟩, List.forall_mem_cons.mpr ⟨⟨fm_1198, fm_1199⟩, fun _ h => nomatch h⟩⟩⟩) fq_407.1.1 fq_407.1.2.1 fq_407.1.2.2.1 fq_407.1.2.2.2.1 (text := "no such cell, or another what") (i := 26) (byt := [110, 111, 32, 115, 117, 99, 104, 32, 99, 101, 108, 108, 44, 32, 111, 114, 32, 97, 110, 111, 116, 104, 101, 114, 32, 119, 104, 97, 116]) X hE (fun w hw => List.mem_cons_of_mem _ hw) hl hfr hn0 hHB htab hlk (by decide) ⟨rfl, rfl⟩ fm_1148 fm_91 (List.mem_of_getElem? (i := 26) rfl) xh_hat_132 fq_406.2.2.1.2.2.2.1 fq_406.2.2.1.2.2.2.2.1 fq_406.2.2.1.2.2.2.2.2.1 fq_406.2.2.2.1.1 fq_406.2.2.2.1.2.1)) (dw_sp_lf (s_aload_n X fq_406.2.2.2.1.2.2.1 rfl rfl))))) (dw_sp_br (dw_sp_br (dw_sp_lf (s_getf X hE (C := RX11) (T := TX11) (N := 18) rfl (by decide) (by decide) rfl (fun w hw => List.mem_cons_of_mem _ (dw_in11 w hw)) (List.mem_cons_of_mem _ fm_430) fq_406.2.2.2.1.2.2.2.1 rfl)) (dw_sp_br (dw_sp_lf (s_getf X hE (C := RX8) (T := TX8) (N := 5) rfl (by decide) (by decide) rfl (fun w hw => List.mem_cons_of_mem _ (dw_in8 w hw)) (List.mem_cons_of_mem _ fm_313) fq_406.2.2.2.1.2.2.2.2.1 rfl)) (dw_sp_lf (s_iload X fq_406.2.2.2.1.2.2.2.2.2.1 rfl)))) (dw_sp_br (dw_sp_lf (s_iload_n X fq_406.2.2.2.2.1.1 rfl rfl)) (dw_sp_br (dw_sp_lf (s_callV (TT := TX0) (N := 10) X hE (fun w hw => List.mem_cons_of_mem _ hw) v_X0_tell rfl (by decide) (by decide) fm_887 fm_884 fm_885 fm_886 fm_72 hq_X0_tell fq_406.2.2.2.2.1.2.1 rfl)) (dw_sp_lf (dw_Snd.retX (fun _ _ _ _ _ _ h => h) (s_ireturn X rfl hlk hrt fq_406.2.2.2.2.1.2.2.1))))))))
def pr_X11_is (n0 : Nat) (K : dw_K) (Kx : dw_S → Prop) : Nat → dw_Op := dw_br 37 (dw_br 16 (dw_br 8 (dw_br 4 (dw_br 1 (dw_lf 0 (o_ald 0 1)) (dw_lf 1 (o_getf 11 1 2 4))) (dw_br 7 (dw_lf 4 (o_getf 8 1 2 7)) (dw_lf 7 (o_ild 1 8)))) (dw_br 12 (dw_br 9 (dw_lf 8 (o_ild 2 9)) (dw_lf 9 (o_callV 0 3 0 0 t_X0_cellAt 12))) (dw_br 14 (dw_lf 12 (o_ist 4 14)) (dw_lf 14 (o_ild 4 16))))) (dw_br 24 (dw_br 20 (dw_br 17 (dw_lf 16 (o_ic (-1) 17)) (dw_lf 17 (o_icmp_eq 42 20))) (dw_br 21 (dw_lf 20 (o_ald 0 21)) (dw_lf 21 (o_getf 11 1 2 24)))) (dw_br 30 (dw_br 27 (dw_lf 24 (o_getf 8 4 2 27)) (dw_lf 27 (o_getf 7 0 3 30))) (dw_br 33 (dw_lf 30 (o_if_eq 42 33)) (dw_br 34 (dw_lf 33 (o_ild 3 34)) (dw_lf 34 (o_if_lt 42 37))))))) (dw_br 63 (dw_br 52 (dw_br 39 (dw_br 38 (dw_lf 37 (o_ild 3 38)) (dw_lf 38 (o_ic 1 39))) (dw_br 42 (dw_lf 39 (o_icmp_le 52 42)) (dw_lf 42 (o_thr n0 Kx)))) (dw_br 56 (dw_br 53 (dw_lf 52 (o_ild 3 53)) (dw_lf 53 (o_if_ne 71 56))) (dw_br 57 (dw_lf 56 (o_ald 0 57)) (dw_br 60 (dw_lf 57 (o_getf 11 1 2 60)) (dw_lf 60 (o_getf 8 4 2 63)))))) (dw_br 72 (dw_br 68 (dw_br 65 (dw_lf 63 (o_ild 4 65)) (dw_lf 65 (o_callV 7 2 0 0 t_X7_warmthOf 68))) (dw_br 71 (dw_lf 68 (o_goto 83)) (dw_lf 71 (o_ald 0 72)))) (dw_br 78 (dw_br 75 (dw_lf 72 (o_getf 11 1 2 75)) (dw_lf 75 (o_getf 8 4 2 78))) (dw_br 80 (dw_lf 78 (o_ild 4 80)) (dw_br 83 (dw_lf 80 (o_callV 7 2 0 0 t_X7_waterOf 83)) (dw_lf 83 (o_iret K)))))))
def t_X11_is : List Value → dw_S → dw_K → (dw_S → Prop) → Prop := fun as μ K Kx => dw_body 5 1 6 (fun K => pr_X11_is μ.1 K Kx) as μ K
theorem fq_408 : fq_Q cX11_is [[(0, .aload_n 0, 1), (1, .getfield 19, 3), (4, .getfield 119, 3), (7, .iload_n 1, 1), (8, .iload_n 2, 1), (9, .invokevirtual 122, 3)], [(12, .istore 4, 2), (14, .iload 4, 2), (16, .iconst (-1), 1), (17, .if_icmp .eq 25, 3), (20, .aload_n 0, 1), (21, .getfield 19, 3)], [(24, .getfield 161, 3), (27, .getfield 168, 3), (30, .ifCond .eq 12, 3), (33, .iload_n 3, 1), (34, .ifCond .lt 8, 3), (37, .iload_n 3, 1)], [(38, .iconst 1, 1), (39, .if_icmp .le 13, 3), (42, .new 128, 3), (45, .dup, 1), (46, .ldc 177, 2), (48, .invokespecial 132, 3)], [(51, .athrow, 1), (52, .iload_n 3, 1), (53, .ifCond .ne 18, 3), (56, .aload_n 0, 1), (57, .getfield 19, 3), (60, .getfield 161, 3)], [(63, .iload 4, 2), (65, .invokevirtual 179, 3), (68, .goto 15, 3), (71, .aload_n 0, 1), (72, .getfield 19, 3), (75, .getfield 161, 3)]] := fj_of 0 (by decide +kernel)
theorem fq_409 : fq_Q cX11_is [[(78, .iload 4, 2), (80, .invokevirtual 183, 3), (83, .ireturn, 1)]] := fj_of 78 (by decide +kernel)
theorem fq_410 : fq_Q prog_29_method_4_code [[(0, .aload_n 0, 1), (1, .aload_n 1, 1), (2, .invokespecial 13, 3), (5, .return_, 1)]] := fj_of 0 (by decide +kernel)
set_option maxRecDepth 20000 in
theorem v_X11_is (l : Launch) (hl : l.stackTraces = false) : dw_ValX l yX11_is cX11_is 5 (some .int) 6 1 6 t_X11_is := dw_ValX.of (by decide +kernel) (fun p e s m args below meth c D aC b0 ex HB n0 K Kx X hE hlk hrt hfr hn0 hHB htab => by
  unfold pr_X11_is
  exact dw_sp_br (dw_sp_br (dw_sp_br (dw_sp_br (dw_sp_br (dw_sp_lf (s_aload_n X fq_408.1.1 rfl rfl)) (dw_sp_lf (s_getf X hE (C := RX11) (T := TX11) (N := 18) rfl (by decide) (by decide) rfl (fun w hw => List.mem_cons_of_mem _ (dw_in11 w hw)) (List.mem_cons_of_mem _ fm_430) fq_408.1.2.1 rfl))) (dw_sp_br (dw_sp_lf (s_getf X hE (C := RX8) (T := TX8) (N := 5) rfl (by decide) (by decide) rfl (fun w hw => List.mem_cons_of_mem _ (dw_in8 w hw)) (List.mem_cons_of_mem _ fm_313) fq_408.1.2.2.1 rfl)) (dw_sp_lf (s_iload_n X fq_408.1.2.2.2.1 rfl rfl)))) (dw_sp_br (dw_sp_br (dw_sp_lf (s_iload_n X fq_408.1.2.2.2.2.1 rfl rfl)) (dw_sp_lf (s_callV (TT := TX0) (N := 10) X hE (fun w hw => List.mem_cons_of_mem _ hw) v_X0_cellAt rfl (by decide) (by decide) fm_871 fm_868 fm_869 fm_870 fm_72 hq_X0_cellAt fq_408.1.2.2.2.2.2.1 rfl))) (dw_sp_br (dw_sp_lf (s_istore X fq_408.2.1.1 (by decide) rfl)) (dw_sp_lf (s_iload X fq_408.2.1.2.1 rfl))))) (dw_sp_br (dw_sp_br (dw_sp_br (dw_sp_lf (s_iconst X fq_408.2.1.2.2.1 (by decide) rfl)) (dw_sp_lf (s_icmp_eq X fq_408.2.1.2.2.2.1 (by decide) rfl))) (dw_sp_br (dw_sp_lf (s_aload_n X fq_408.2.1.2.2.2.2.1 rfl rfl)) (dw_sp_lf (s_getf X hE (C := RX11) (T := TX11) (N := 18) rfl (by decide) (by decide) rfl (fun w hw => List.mem_cons_of_mem _ (dw_in11 w hw)) (List.mem_cons_of_mem _ fm_430) fq_408.2.1.2.2.2.2.2.1 rfl)))) (dw_sp_br (dw_sp_br (dw_sp_lf (s_getf X hE (C := RX8) (T := TX8) (N := 5) rfl (by decide) (by decide) rfl (fun w hw => List.mem_cons_of_mem _ (dw_in8 w hw)) (List.mem_cons_of_mem _ fm_318) fq_408.2.2.1.1 rfl)) (dw_sp_lf (s_getf X hE (C := RX7) (T := TX7) (N := 15) rfl (by decide) (by decide) rfl (fun w hw => List.mem_cons_of_mem _ (dw_in7 w hw)) (List.mem_cons_of_mem _ fm_258) fq_408.2.2.1.2.1 rfl))) (dw_sp_br (dw_sp_lf (s_if_eq X fq_408.2.2.1.2.2.1 (by decide) rfl)) (dw_sp_br (dw_sp_lf (s_iload_n X fq_408.2.2.1.2.2.2.1 rfl rfl)) (dw_sp_lf (s_if_lt X fq_408.2.2.1.2.2.2.2.1 (by decide) rfl))))))) (dw_sp_br (dw_sp_br (dw_sp_br (dw_sp_br (dw_sp_lf (s_iload_n X fq_408.2.2.1.2.2.2.2.2.1 rfl rfl)) (dw_sp_lf (s_iconst X fq_408.2.2.2.1.1 (by decide) rfl))) (dw_sp_br (dw_sp_lf (s_icmp_le X fq_408.2.2.2.1.2.1 (by decide) rfl)) (dw_sp_lf (s_throw (dl := [(⟨"java/lang/RuntimeException", "<init>", "(Ljava/lang/String;)V"⟩, prog_21_method_2_code, 2), (⟨"java/lang/Exception", "<init>", "(Ljava/lang/String;)V"⟩, prog_18_method_2_code, 2), (⟨"java/lang/Throwable", "<init>", "(Ljava/lang/String;)V"⟩, prog_26_method_2_code, 2)]) (List.forall_mem_cons.mpr ⟨⟨fm_1192, fm_1193⟩, List.forall_mem_cons.mpr ⟨⟨fm_1195, fm_1196⟩, List.forall_mem_cons.mpr ⟨⟨fm_1198, fm_1199⟩, fun _ h => nomatch h⟩⟩⟩) fq_410.1.1 fq_410.1.2.1 fq_410.1.2.2.1 fq_410.1.2.2.2.1 (text := "no such cell, another what, or no run") (i := 27) (byt := [110, 111, 32, 115, 117, 99, 104, 32, 99, 101, 108, 108, 44, 32, 97, 110, 111, 116, 104, 101, 114, 32, 119, 104, 97, 116, 44, 32, 111, 114, 32, 110, 111, 32, 114, 117, 110]) X hE (fun w hw => List.mem_cons_of_mem _ hw) hl hfr hn0 hHB htab hlk (by decide) ⟨rfl, rfl⟩ fm_1148 fm_91 (List.mem_of_getElem? (i := 27) rfl) xh_hat_132 fq_408.2.2.2.1.2.2.1 fq_408.2.2.2.1.2.2.2.1 fq_408.2.2.2.1.2.2.2.2.1 fq_408.2.2.2.1.2.2.2.2.2.1 fq_408.2.2.2.2.1.1)))) (dw_sp_br (dw_sp_br (dw_sp_lf (s_iload_n X fq_408.2.2.2.2.1.2.1 rfl rfl)) (dw_sp_lf (s_if_ne X fq_408.2.2.2.2.1.2.2.1 (by decide) rfl))) (dw_sp_br (dw_sp_lf (s_aload_n X fq_408.2.2.2.2.1.2.2.2.1 rfl rfl)) (dw_sp_br (dw_sp_lf (s_getf X hE (C := RX11) (T := TX11) (N := 18) rfl (by decide) (by decide) rfl (fun w hw => List.mem_cons_of_mem _ (dw_in11 w hw)) (List.mem_cons_of_mem _ fm_430) fq_408.2.2.2.2.1.2.2.2.2.1 rfl)) (dw_sp_lf (s_getf X hE (C := RX8) (T := TX8) (N := 5) rfl (by decide) (by decide) rfl (fun w hw => List.mem_cons_of_mem _ (dw_in8 w hw)) (List.mem_cons_of_mem _ fm_318) fq_408.2.2.2.2.1.2.2.2.2.2.1 rfl)))))) (dw_sp_br (dw_sp_br (dw_sp_br (dw_sp_lf (s_iload X fq_408.2.2.2.2.2.1.1 rfl)) (dw_sp_lf (s_callV (TT := TX7) (N := 15) X hE (fun w hw => List.mem_cons_of_mem _ hw) v_X7_warmthOf rfl (by decide) (by decide) fm_935 fm_1221 fm_933 fm_934 fm_74 hq_X7_warmthOf fq_408.2.2.2.2.2.1.2.1 rfl))) (dw_sp_br (dw_sp_lf (s_goto X fq_408.2.2.2.2.2.1.2.2.1 (by decide))) (dw_sp_lf (s_aload_n X fq_408.2.2.2.2.2.1.2.2.2.1 rfl rfl)))) (dw_sp_br (dw_sp_br (dw_sp_lf (s_getf X hE (C := RX11) (T := TX11) (N := 18) rfl (by decide) (by decide) rfl (fun w hw => List.mem_cons_of_mem _ (dw_in11 w hw)) (List.mem_cons_of_mem _ fm_430) fq_408.2.2.2.2.2.1.2.2.2.2.1 rfl)) (dw_sp_lf (s_getf X hE (C := RX8) (T := TX8) (N := 5) rfl (by decide) (by decide) rfl (fun w hw => List.mem_cons_of_mem _ (dw_in8 w hw)) (List.mem_cons_of_mem _ fm_318) fq_408.2.2.2.2.2.1.2.2.2.2.2.1 rfl))) (dw_sp_br (dw_sp_lf (s_iload X fq_409.1.1 rfl)) (dw_sp_br (dw_sp_lf (s_callV (TT := TX7) (N := 15) X hE (fun w hw => List.mem_cons_of_mem _ hw) v_X7_waterOf rfl (by decide) (by decide) fm_879 fm_909 fm_877 fm_878 fm_74 hq_X7_waterOf fq_409.1.2.1 rfl)) (dw_sp_lf (dw_Snd.retX (fun _ _ _ _ _ _ h => h) (s_ireturn X rfl hlk hrt fq_409.1.2.2.1)))))))))
def pr_L_cell (K : dw_K) : Nat → dw_Op := dw_br 7 (dw_br 4 (dw_br 2 (dw_lf 0 (o_ald 4 2)) (dw_br 3 (dw_lf 2 (o_ic 0 3)) (dw_lf 3 (o_ald 0 4)))) (dw_br 5 (dw_lf 4 (o_ild 1 5)) (dw_br 6 (dw_lf 5 (o_ild 2 6)) (dw_lf 6 (o_ild 3 7))))) (dw_br 12 (dw_br 10 (dw_lf 7 (o_callX 11 4 1 6 t_X11_cell K 10)) (dw_br 11 (dw_lf 10 (o_i2l 11)) (dw_lf 11 (o_last 12)))) (dw_br 19 (dw_lf 12 (o_goto 19)) (dw_br 20 (dw_lf 19 (o_ic 0 20)) (dw_lf 20 (o_iret K)))))
def t_L_cell : dw_T := dw_body 6 1 6 pr_L_cell
theorem fq_411 : fq_Q cL_cell [[(0, .aload 4, 2), (2, .iconst 0, 1), (3, .aload_n 0, 1), (4, .iload_n 1, 1), (5, .iload_n 2, 1), (6, .iload_n 3, 1)], [(7, .invokevirtual 7, 3), (10, .i2l, 1), (11, .lastore, 1), (12, .goto 7, 3), (15, .astore 5, 2), (17, .iconst 1, 1)], [(18, .ireturn, 1), (19, .iconst 0, 1), (20, .ireturn, 1)]] := fj_of 0 (by decide +kernel)
set_option maxRecDepth 20000 in
theorem v_L_cell (l : Launch) (hl : l.stackTraces = false) : dw_ValW l yL_cell cL_cell 6 (some .int) [(0, 12, 15, 13)] 7 1 6 t_L_cell := dw_ValW.of (by decide +kernel) (fun p e s m args below meth c D aC b0 ex HB K X hE hlk hrt htab => by
  unfold pr_L_cell
  exact dw_sp_br (dw_sp_br (dw_sp_br (dw_sp_lf (s_aload X fq_411.1.1 rfl)) (dw_sp_br (dw_sp_lf (s_iconst X fq_411.1.2.1 (by decide) rfl)) (dw_sp_lf (s_aload_n X fq_411.1.2.2.1 rfl rfl)))) (dw_sp_br (dw_sp_lf (s_iload_n X fq_411.1.2.2.2.1 rfl rfl)) (dw_sp_br (dw_sp_lf (s_iload_n X fq_411.1.2.2.2.2.1 rfl rfl)) (dw_sp_lf (s_iload_n X fq_411.1.2.2.2.2.2.1 rfl rfl))))) (dw_sp_br (dw_sp_br (dw_sp_lf (s_callX (TT := TX11) (N := 18) (x := { startPc := 0, endPc := 12, handlerPc := 15, catchType := 13 }) X hE (fun w hw => List.mem_cons_of_mem _ hw) (v_X11_cell l hl) rfl (by decide) rfl hlk hrt htab (by decide) (by decide) fm_1143 (by decide) fq_411.2.1.2.2.2.2.1 fq_411.2.1.2.2.2.2.2.1 fq_411.2.2.1.1 (by decide) fm_1147 fm_1144 fm_1145 fm_1146 fm_69 hq_X11_cell fq_411.2.1.1 rfl)) (dw_sp_br (dw_sp_lf (s_i2l X fq_411.2.1.2.1 rfl)) (dw_sp_lf (s_lastore X hE fq_411.2.1.2.2.1 rfl)))) (dw_sp_br (dw_sp_lf (s_goto X fq_411.2.1.2.2.2.1 (by decide))) (dw_sp_br (dw_sp_lf (s_iconst X fq_411.2.2.1.2.1 (by decide) rfl)) (dw_sp_lf (s_ireturn X rfl hlk hrt fq_411.2.2.1.2.2.1))))))
def pr_L_is (K : dw_K) : Nat → dw_Op := dw_br 7 (dw_br 4 (dw_br 2 (dw_lf 0 (o_ald 4 2)) (dw_br 3 (dw_lf 2 (o_ic 0 3)) (dw_lf 3 (o_ald 0 4)))) (dw_br 5 (dw_lf 4 (o_ild 1 5)) (dw_br 6 (dw_lf 5 (o_ild 2 6)) (dw_lf 6 (o_ild 3 7))))) (dw_br 12 (dw_br 10 (dw_lf 7 (o_callX 11 4 1 6 t_X11_is K 10)) (dw_br 11 (dw_lf 10 (o_i2l 11)) (dw_lf 11 (o_last 12)))) (dw_br 19 (dw_lf 12 (o_goto 19)) (dw_br 20 (dw_lf 19 (o_ic 0 20)) (dw_lf 20 (o_iret K)))))
def t_L_is : dw_T := dw_body 6 1 6 pr_L_is
theorem fq_412 : fq_Q cL_is [[(0, .aload 4, 2), (2, .iconst 0, 1), (3, .aload_n 0, 1), (4, .iload_n 1, 1), (5, .iload_n 2, 1), (6, .iload_n 3, 1)], [(7, .invokevirtual 15, 3), (10, .i2l, 1), (11, .lastore, 1), (12, .goto 7, 3), (15, .astore 5, 2), (17, .iconst 1, 1)], [(18, .ireturn, 1), (19, .iconst 0, 1), (20, .ireturn, 1)]] := fj_of 0 (by decide +kernel)
set_option maxRecDepth 20000 in
theorem v_L_is (l : Launch) (hl : l.stackTraces = false) : dw_ValW l yL_is cL_is 6 (some .int) [(0, 12, 15, 13)] 7 1 6 t_L_is := dw_ValW.of (by decide +kernel) (fun p e s m args below meth c D aC b0 ex HB K X hE hlk hrt htab => by
  unfold pr_L_is
  exact dw_sp_br (dw_sp_br (dw_sp_br (dw_sp_lf (s_aload X fq_412.1.1 rfl)) (dw_sp_br (dw_sp_lf (s_iconst X fq_412.1.2.1 (by decide) rfl)) (dw_sp_lf (s_aload_n X fq_412.1.2.2.1 rfl rfl)))) (dw_sp_br (dw_sp_lf (s_iload_n X fq_412.1.2.2.2.1 rfl rfl)) (dw_sp_br (dw_sp_lf (s_iload_n X fq_412.1.2.2.2.2.1 rfl rfl)) (dw_sp_lf (s_iload_n X fq_412.1.2.2.2.2.2.1 rfl rfl))))) (dw_sp_br (dw_sp_br (dw_sp_lf (s_callX (TT := TX11) (N := 18) (x := { startPc := 0, endPc := 12, handlerPc := 15, catchType := 13 }) X hE (fun w hw => List.mem_cons_of_mem _ hw) (v_X11_is l hl) rfl (by decide) rfl hlk hrt htab (by decide) (by decide) fm_1143 (by decide) fq_412.2.1.2.2.2.2.1 fq_412.2.1.2.2.2.2.2.1 fq_412.2.2.1.1 (by decide) fm_1219 fm_1216 fm_1217 fm_1218 fm_69 hq_X11_is fq_412.2.1.1 rfl)) (dw_sp_br (dw_sp_lf (s_i2l X fq_412.2.1.2.1 rfl)) (dw_sp_lf (s_lastore X hE fq_412.2.1.2.2.1 rfl)))) (dw_sp_br (dw_sp_lf (s_goto X fq_412.2.1.2.2.2.1 (by decide))) (dw_sp_br (dw_sp_lf (s_iconst X fq_412.2.2.1.2.1 (by decide) rfl)) (dw_sp_lf (s_ireturn X rfl hlk hrt fq_412.2.2.1.2.2.1))))))
