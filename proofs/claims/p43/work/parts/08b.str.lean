/-! ===== String constants: the JDK's own members, by what stands outside ===== -/
abbrev dw_isS (a : Nat) : Prop := 1000001 ≤ a ∧ a < 1000001 + dw_strs.length
/-- a String constant's number -/
def dw_sx (a : Nat) : Nat := a - 1000001
def dw_sb (i : Nat) : List Int32 := match dw_strs[i]? with
  | some r => r.2.2.2.2
  | none => []
def o_str (i nx : Nat) : dw_Op := fun B bc bs ls st μ => B nx bc bs ls (.ref (1000001 + i) :: st) μ
def o_xgv (nx : Nat) : dw_Op := fun B bc bs ls st μ => match st with
  | .ref a :: r => if dw_isS a then B nx bc bs ls (.ref (a + 100) :: r) μ else False
  | _ => False
def o_xgc (nx : Nat) : dw_Op := fun B bc bs ls st μ => match st with
  | .ref a :: r => if dw_isS a then B nx bc bs ls (.int 0 :: r) μ else False
  | _ => False
def o_xal (nx : Nat) : dw_Op := fun B bc bs ls st μ => match st with
  | .ref a :: r => if 100 ≤ a ∧ dw_isS (a - 100) then B nx bc bs ls (.int (Int32.ofNat (dw_sb (dw_sx (a - 100))).length) :: r) μ else False
  | _ => False
def o_xbl (nx : Nat) : dw_Op := fun B bc bs ls st μ => match st with
  | .int j :: .ref a :: r => if 100 ≤ a ∧ dw_isS (a - 100) then (if ¬ j < 0 ∧ j.toNatClampNeg < (dw_sb (dw_sx (a - 100))).length then B nx bc bs ls (.int ((dw_sb (dw_sx (a - 100))).getD j.toNatClampNeg 0) :: r) μ else False) else False
  | _ => False
def o_gsi (nx : Nat) : dw_Op := fun B bc bs ls st μ => B nx bc bs ls (.int 1 :: st) μ
def o_gsr (nx : Nat) : dw_Op := fun B bc bs ls st μ => B nx bc bs ls (.null :: st) μ ∧ B nx bc bs ls (.ref 1000100 :: st) μ
def o_i2c (nx : Nat) : dw_Op := fun B bc bs ls st μ => match st with
  | .int x :: r => B nx bc bs ls (.int ((x.toUInt32 % 65536).toInt32) :: r) μ
  | _ => False
def o_nret (ty : FieldType) (K : dw_K) : dw_Op := fun _ _ _ _ st μ => match st with
  | [.int x] => narrow ty (.int x) = .int x ∧ K (some (.int x)) μ
  | _ => False
def o_callT (k mc ms : Nat) (T : dw_T) (nx : Nat) : dw_Op := fun B bc bs ls st μ => match dw_sp k st [] with
  | (.ref a :: as, rest) => if dw_isS a ∧ as.length + 1 = k ∧ dw_cats rest ≤ 8 ∧ mc ≤ bc ∧ ms ≤ bs then T (.ref a :: as) μ (fun r μ' => B nx (bc - mc) (bs - ms) ls (r.toList ++ rest) μ') else False
  | _ => False
section DWX
variable {p : Program} {l : Launch} {e : Env} {R : Room} {s : State} {m : MethodId} {args : Array Value} {below : List Frame} {meth : Method} {c : Code} {Q : State → Prop}
variable {D : va_G} {aC : Nat → ClassId} {b0 : Nat} {ex : Nat → Nat} {HB : Heap} {nL : Nat} {cc : ByteArray} {Ts : List Cond} {own : String} {pc : Nat} {K : dw_K}
theorem dw_strs_num : (List.range dw_strs.length).all (fun i => decide ((dw_strs[i]?.map (fun r => r.2.2.2.1)) = some i)) = true := by decide +kernel
theorem dw_strs_len : dw_strs.all (fun r => decide (r.2.2.2.2.length < 2 ^ 31)) = true := by decide +kernel
theorem dw_isS_of {a : Nat} (h : dw_isS a) : ∃ r, r ∈ dw_strs ∧ r.2.2.2.2 = dw_sb (dw_sx a) ∧ a = 1000001 + r.2.2.2.1 := by
  obtain ⟨i, hi⟩ : ∃ i, a = 1000001 + i := ⟨a - 1000001, by omega⟩
  subst hi
  have hlt : i < dw_strs.length := by omega
  have hsx : dw_sx (1000001 + i) = i := by unfold dw_sx; omega
  have h1 := List.getElem?_eq_getElem hlt
  rw [hsx]
  refine ⟨_, List.getElem_mem hlt, ?_, ?_⟩
  · unfold dw_sb; rw [h1]
  · have h2 := List.all_eq_true.mp dw_strs_num i (List.mem_range.mpr hlt)
    rw [decide_eq_true_eq, h1] at h2
    rw [show dw_strs[i].2.2.2.1 = i from Option.some.inj h2]
theorem dw_keep {H : Heap} {μ : dw_S} (hR : dw_R D aC b0 ex HB μ H) : ∀ q : Nat, q < HB.size → ¬ b0 ≤ q → H[q]? = HB[q]? := fun q _ h2 => hR.2.2.1 q (by omega)
theorem dw_trx {a : Nat} (h : 1000000 ≤ a) : dw_tr b0 ex (.ref a) = .ref (ex (a - 1000000)) := by
  show Value.ref (if a < 1000000 then b0 + a else ex (a - 1000000)) = _
  rw [if_neg (by omega)]
theorem dw_trs {a n : Nat} (h : a = 1000001 + n) : dw_tr b0 ex (.ref a) = .ref (ex (1 + n)) := by
  subst h
  rw [dw_trx (by omega), show 1000001 + n - 1000000 = 1 + n by omega]
theorem dw_trv {a n : Nat} (h : a = 1000001 + n) : dw_tr b0 ex (.ref (a + 100)) = .ref (ex (101 + n)) := by
  subst h
  rw [dw_trx (by omega), show 1000001 + n + 100 - 1000000 = 101 + n by omega]
theorem dw_trw {a n : Nat} (h0 : 100 ≤ a) (h : a - 100 = 1000001 + n) : dw_tr b0 ex (.ref a) = .ref (ex (101 + n)) := by
  have h1 : a = 1000001 + n + 100 := by omega
  rw [h1]
  exact dw_trv rfl
theorem s_str {i index nx : Nat} {r : String × Nat × String × Nat × List Int32} (X : CallFix p m c cc nL s args Ts own) (hE : dw_E D aC b0 ex HB s) (hr : dw_strs[i]? = some r) (h1 : r.1 = own) (h2 : r.2.1 = index) (h3 : r.2.2.2.1 = i) (hd : decode cc pc = .ok (.ldc index, 2)) (hn : pc + 2 = nx) : dw_Snd p l e R s m args below meth c Q D aC b0 ex HB nL pc (o_str i nx) := by
  subst hn
  intro B hB bc bs ls st μ h H locs ph cells slots hR hL hlo hc hs
  have hstr := hE.2.2.2.2.2.2.2.2.2.2.2 r (List.mem_of_getElem? hr)
  have hz := hstr.1
  rw [h1, h2, h3] at hz
  have hk := hB _ _ _ _ _ _ h H locs ph cells slots hR hL hlo hc hs
  rw [List.map_cons, dw_trx (by omega), show 1000001 + i - 1000000 = 1 + i by omega] at hk
  exact va_ldcS X.1 X.2.1 X.2.2.2.1 hz hd hk
theorem s_xgv {index nx : Nat} (X : CallFix p m c cc nL s args Ts own) (hE : dw_E D aC b0 ex HB s) (hw : Cond.fieldLink own index "java/lang/String" "value" "[B" ∈ Ts) (hd : decode cc pc = .ok (.getfield index, 3)) (hn : pc + 3 = nx) : dw_Snd p l e R s m args below meth c Q D aC b0 ex HB nL pc (o_xgv nx) := by
  subst hn
  intro B hB bc bs ls st μ h H locs ph cells slots hR hL hlo hc hs
  unfold o_xgv at h
  split at h
  next a r =>
    split at h
    next ha =>
      obtain ⟨q, q1, q3, q4⟩ := dw_isS_of ha
      obtain ⟨g1, g2, g3, g4, g5⟩ := hE.2.2.2.2.2.2.2.2.2.2.2 q q1
      obtain ⟨cf, k, fi, f, cell, h1, h2, h3, h4, h5, h6⟩ := g4.kept (dw_keep hR)
      have hk := hB _ _ _ _ _ _ h H locs ph cells slots hR hL hlo hc hs
      rw [List.map_cons, dw_trv q4] at hk
      rw [List.map_cons, dw_trs q4]
      exact W.getf X.1 X.2.1 X.2.2.2.1 (X.2.2.2.2 _ hw) h1 h2 h3 h4 h5 rfl rfl hd hk
    next => exact h.elim
  next => exact h.elim
theorem s_xgc {index nx : Nat} (X : CallFix p m c cc nL s args Ts own) (hE : dw_E D aC b0 ex HB s) (hw : Cond.fieldLink own index "java/lang/String" "coder" "B" ∈ Ts) (hd : decode cc pc = .ok (.getfield index, 3)) (hn : pc + 3 = nx) : dw_Snd p l e R s m args below meth c Q D aC b0 ex HB nL pc (o_xgc nx) := by
  subst hn
  intro B hB bc bs ls st μ h H locs ph cells slots hR hL hlo hc hs
  unfold o_xgc at h
  split at h
  next a r =>
    split at h
    next ha =>
      obtain ⟨q, q1, q3, q4⟩ := dw_isS_of ha
      obtain ⟨g1, g2, g3, g4, g5⟩ := hE.2.2.2.2.2.2.2.2.2.2.2 q q1
      obtain ⟨cf, k, fi, f, cell, h1, h2, h3, h4, h5, h6⟩ := g3.kept (dw_keep hR)
      have hk := hB _ _ _ _ _ _ h H locs ph cells slots hR hL hlo hc hs
      rw [List.map_cons, dw_trs q4]
      exact W.getf X.1 X.2.1 X.2.2.2.1 (X.2.2.2.2 _ hw) h1 h2 h3 h4 h5 rfl rfl hd hk
    next => exact h.elim
  next => exact h.elim
theorem s_xal {nx : Nat} (X : CallFix p m c cc nL s args Ts own) (hE : dw_E D aC b0 ex HB s) (hd : decode cc pc = .ok (.arraylength, 1)) (hn : pc + 1 = nx) : dw_Snd p l e R s m args below meth c Q D aC b0 ex HB nL pc (o_xal nx) := by
  subst hn
  intro B hB bc bs ls st μ h H locs ph cells slots hR hL hlo hc hs
  unfold o_xal at h
  split at h
  next a r =>
    split at h
    next ha =>
      obtain ⟨q, q1, q3, q4⟩ := dw_isS_of ha.2
      obtain ⟨g1, g2, g3, g4, g5⟩ := hE.2.2.2.2.2.2.2.2.2.2.2 q q1
      obtain ⟨cell, h1, h2, h3, h4, h5, h6, h7⟩ := g5.kept (dw_keep hR)
      have ha1 := ha.2.1
      rw [← q3] at h
      have hk := hB _ _ _ _ _ _ h H locs ph cells slots hR hL hlo hc hs
      rw [List.map_cons, dw_trw ha.1 q4]
      exact W.alen (n := Int32.ofNat q.2.2.2.2.length) X.1 X.2.1 h1 h2 h5 rfl rfl hd hk
    next => exact h.elim
  next => exact h.elim
theorem s_xbl {nx : Nat} (X : CallFix p m c cc nL s args Ts own) (hE : dw_E D aC b0 ex HB s) (hd : decode cc pc = .ok (.baload, 1)) (hn : pc + 1 = nx) : dw_Snd p l e R s m args below meth c Q D aC b0 ex HB nL pc (o_xbl nx) := by
  subst hn
  intro B hB bc bs ls st μ h H locs ph cells slots hR hL hlo hc hs
  unfold o_xbl at h
  split at h
  next j a r =>
    split at h
    next ha =>
      split at h
      next hj =>
        obtain ⟨q, q1, q3, q4⟩ := dw_isS_of ha.2
        obtain ⟨g1, g2, g3, g4, g5⟩ := hE.2.2.2.2.2.2.2.2.2.2.2 q q1
        obtain ⟨cell, h1, h2, h3, h4, h5, h6, h7⟩ := g5.kept (dw_keep hR)
        have ha1 := ha.2.1
        rw [← q3] at h hj
        have hk := hB _ _ _ _ _ _ h H locs ph cells slots hR hL hlo hc hs
        have e0 : (Value.int j :: Value.ref a :: r).map (dw_tr b0 ex) = .int j :: .ref (ex (101 + q.2.2.2.1)) :: r.map (dw_tr b0 ex) := by
          rw [List.map_cons, List.map_cons, dw_trw ha.1 q4]
          rfl
        rw [e0]
        exact W.bald (v := .int (q.2.2.2.2.getD j.toNatClampNeg 0)) X.1 X.2.1 h1 h2 h3 (fun z => z.elim hj.1 (fun z2 => by have := hj.2; omega)) (h6 _ hj.2) rfl rfl hd hk
      next => exact h.elim
    next => exact h.elim
  next => exact h.elim
theorem s_gsi {index nx : Nat} (X : CallFix p m c cc nL s args Ts own) (hE : dw_E D aC b0 ex HB s) (hw : Cond.fieldLink own index "java/lang/String" "COMPACT_STRINGS" "Z" ∈ Ts) (hd : decode cc pc = .ok (.getstatic index, 3)) (hn : pc + 3 = nx) : dw_Snd p l e R s m args below meth c Q D aC b0 ex HB nL pc (o_gsi nx) := by
  subst hn
  intro B hB bc bs ls st μ h H locs ph cells slots hR hL hlo hc hs
  obtain ⟨cf, kf, fi, f, a, cell, h1, h2, h3, h4, h5, h6, h7, h8⟩ := hE.2.2.2.2.2.2.2.2.2.1
  have hk := hB _ _ _ _ _ _ h H locs ph cells slots hR hL hlo hc hs
  exact W.gets X.1 X.2.1 X.2.2.2.1 (X.2.2.2.2 _ hw) h1 h2 h3 h4 (by rw [dw_keep hR a (Array.getElem?_eq_some_iff.mp h5).1 h8]; exact h5) (fun z => by rw [z] at h6; cases h6) h7 rfl hd hk
theorem s_gsr {index nx : Nat} (X : CallFix p m c cc nL s args Ts own) (hE : dw_E D aC b0 ex HB s) (hw : Cond.fieldLink own index "jdk/internal/util/Preconditions" "SIOOBE_FORMATTER" "Ljava/util/function/BiFunction;" ∈ Ts) (hd : decode cc pc = .ok (.getstatic index, 3)) (hn : pc + 3 = nx) : dw_Snd p l e R s m args below meth c Q D aC b0 ex HB nL pc (o_gsr nx) := by
  subst hn
  intro B hB bc bs ls st μ h H locs ph cells slots hR hL hlo hc hs
  rcases hE.2.2.2.2.2.2.2.2.2.2.1 with hz | hz
  · obtain ⟨cf, kf, fi, f, a, cell, h1, h2, h3, h4, h5, h6, h7, h8⟩ := hz
    have hk := hB _ _ _ _ _ _ h.1 H locs ph cells slots hR hL hlo hc hs
    exact W.gets X.1 X.2.1 X.2.2.2.1 (X.2.2.2.2 _ hw) h1 h2 h3 h4 (by rw [dw_keep hR a (Array.getElem?_eq_some_iff.mp h5).1 h8]; exact h5) (fun z => by rw [z] at h6; cases h6) h7 rfl hd hk
  · obtain ⟨cf, kf, fi, f, a, cell, h1, h2, h3, h4, h5, h6, h7, h8⟩ := hz
    have hk := hB _ _ _ _ _ _ h.2 H locs ph cells slots hR hL hlo hc hs
    rw [List.map_cons, dw_trx (by omega)] at hk
    exact W.gets X.1 X.2.1 X.2.2.2.1 (X.2.2.2.2 _ hw) h1 h2 h3 h4 (by rw [dw_keep hR a (Array.getElem?_eq_some_iff.mp h5).1 h8]; exact h5) (fun z => by rw [z] at h6; cases h6) h7 rfl hd hk
theorem s_i2c {nx : Nat} (X : CallFix p m c cc nL s args Ts own) (hd : decode cc pc = .ok (.i2c, 1)) (hn : pc + 1 = nx) : dw_Snd p l e R s m args below meth c Q D aC b0 ex HB nL pc (o_i2c nx) := by
  subst hn
  intro B hB bc bs ls st μ h H locs ph cells slots hR hL hlo hc hs
  unfold o_i2c at h
  split at h
  next x r => exact lv_i2c X.1 X.2.1 hd rfl (hB _ _ _ _ _ _ h H locs ph cells slots hR hL hlo hc hs)
  next => exact h.elim
theorem s_nreturn {ty : FieldType} (X : CallFix p m c cc nL s args Ts own) (hQ : Q = MQ below (dw_Qc D aC b0 ex HB K) args s R.cells R.slots (fun q => b0 ≤ q)) (hlocks : meth.locks = false) (hr : meth.sig.returnType = some ty) (hd : decode cc pc = .ok (.ireturn, 1)) : dw_Snd p l e R s m args below meth c Q D aC b0 ex HB nL pc (o_nret ty K) := by
  subst hQ
  intro B hB bc bs ls st μ h H locs ph cells slots hR hL hlo hc hs
  unfold o_nret at h
  split at h
  next x =>
    refine W.widen (k := R.cells) (n := R.slots) (by omega) (by omega) ?_
    exact W.zret X.1 X.2.1 hr h.1 (fun t ht hW => ⟨some (.int x), μ, rfl, h.2, by rw [ht]; exact hR⟩) hL hd hlocks
  next => exact h.elim
theorem s_callT {y : MethodName} {b : ByteArray} {nLy : Nat} {ret : Option FieldType} {dep mc ms k index nx : Nat} {T : dw_T} (X : CallFix p m c cc nL s args Ts own) (hE : dw_E D aC b0 ex HB s) (hTb : ∀ w ∈ dw_Tb, w ∈ Ts) (hv : dw_Val y b nLy ret dep mc ms T) (hy : y.cls = "java/lang/String")
    (hR1 : dep + 1 ≤ R.frames ∧ 8 + (nLy + 11) + 36 * dep ≤ R.locals) (hcode : Cond.code y b nLy ret ∈ dw_Tb) (w1 : Cond.methodLink own index y ∈ dw_Tb) (w2 : Cond.instanceMethod y ∈ dw_Tb) (w3 : Cond.selects y.cls y y ∈ dw_Tb) (w4 : Cond.initialized y.cls ∈ dw_Tb)
    (hdd : y.cls ≠ "java/lang/invoke/MethodHandle" ∧ y.cls ≠ "java/lang/invoke/VarHandle" ∧ (parseMethodDescriptor y.desc).map (fun d => d.parameters.length) = some (k - 1)) (hd : decode cc pc = .ok (.invokevirtual index, 3)) (hn : pc + 3 = nx) : dw_Snd p l e R s m args below meth c Q D aC b0 ex HB nL pc (o_callT k mc ms T nx) := by
  intro B hB bc bs ls st μ h H locs ph cells slots hR hL hlo hc hs
  unfold o_callT at h
  split at h
  next a as rest hsp =>
    split at h
    next hcd =>
      obtain ⟨ha2, hlen, hcat, hmc, hms⟩ := hcd
      obtain ⟨ys, hy1, hy2⟩ := dw_sp_spec k st [] _ _ hsp (by simp only [List.length_cons, List.length_nil]; omega)
      rw [List.append_nil] at hy1
      subst hy1
      obtain ⟨q, q1, q3, q4⟩ := dw_isS_of ha2
      obtain ⟨g1, g2, g3, g4, g5⟩ := hE.2.2.2.2.2.2.2.2.2.2.2 q q1
      obtain ⟨cellV, v1, v2, v3, -⟩ := g2.kept (dw_keep hR)
      have hM := hv l D aC b0 ex HB _ _ _ h
      have hwd : ∀ w ∈ wsV own index y.cls y (.code y b nLy ret :: dw_Tb), w ∈ Ts ∧ ((w.onTables && w.keeps) = true ∨ ∃ ty, w = .arrayClass ty) := by
        intro w hw
        unfold wsV at hw
        rcases List.mem_append.mp hw with hw | hw
        · have : w ∈ dw_Tb := by
            simp only [List.mem_cons, List.not_mem_nil, or_false] at hw
            rcases hw with rfl | rfl | rfl | rfl <;> assumption
          exact ⟨hTb w this, good_of_word (List.mem_filter.mp this).2⟩
        · exact dw_good hTb hcode w hw
      have htra : dw_tr b0 ex (.ref a) = .ref (ex (1 + q.2.2.2.1)) := by
        exact dw_trs q4
      have hst : st.map (dw_tr b0 ex) = (as.map (dw_tr b0 ex)).reverse ++ .ref (ex (1 + q.2.2.2.1)) :: rest.map (dw_tr b0 ex) := by
        rw [hy2, ← htra]
        simp
      rw [hst]
      refine dw_back (rest := rest) hB hn (a := (Value.ref (ex (1 + q.2.2.2.1)) :: as.map (dw_tr b0 ex)).toArray) ?_ hL hlo hc hs hmc hms
      exact va_runV (As := as.map (dw_tr b0 ex)) (rest := rest.map (dw_tr b0 ex)) X hM (cwV (k - 1) X.2.2.2.2 hwd rfl rfl rfl ⟨rfl, hdd⟩ hR1) ⟨dw_blind, ⟨cellV, v1, v2, by rw [hy]; exact v3⟩, fun U hU hW => ⟨by rw [List.map_cons, htra], by rw [hU]; exact hR, hE.moved hW⟩⟩ rfl (by simp; omega) hlo.1 rfl (lv_room (by rw [dw_cats_sum]; exact hcat)) hd ⟨by omega, by omega⟩
    next => exact h.elim
  next => exact h.elim
end DWX
