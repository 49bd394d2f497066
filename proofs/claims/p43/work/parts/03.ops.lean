/-! ===== ops ===== -/
section DWG
variable (p : Program) (l : Launch) (e : Env) (R : Room) (s : State) (m : MethodId) (args : Array Value) (below : List Frame) (meth : Method) (c : Code) (Q : State → Prop)
variable (D : va_G) (aC : Nat → ClassId) (b0 : Nat) (ex : Nat → Nat) (HB : Heap) (nL : Nat)
/-- from here the machine comes to Q -/
def dw_G : dw_B := fun pc bc bs ls st μ => ∀ (H : Heap) (locs : List Loc) (ph : Array Slot) (cells slots : Nat), dw_R D aC b0 ex HB μ H → (∀ q ∈ locs, b0 ≤ q.base) → dw_Lo b0 ex ph nL ls → cells + bc = R.cells → slots + bs = R.slots →
  W p l e R s m args below meth c H locs cells slots Q (F0 m pc ph (st.map (dw_tr b0 ex)))
/-- an op says right of the instruction at pc -/
def dw_Snd (pc : Nat) (op : dw_Op) : Prop := ∀ B : dw_B, (∀ pc bc bs ls st μ, B pc bc bs ls st μ → dw_G p l e R s m args below meth c Q D aC b0 ex HB nL pc bc bs ls st μ) →
  ∀ bc bs ls st μ, op B bc bs ls st μ → dw_G p l e R s m args below meth c Q D aC b0 ex HB nL pc bc bs ls st μ
def dw_SndP (pr : Nat → dw_Op) : Prop := ∀ pc, dw_Snd p l e R s m args below meth c Q D aC b0 ex HB nL pc (pr pc)
end DWG
def o_no : dw_Op := fun _ _ _ _ _ _ => False
def o_ic (v : Int32) (nx : Nat) : dw_Op := fun B bc bs ls st μ => B nx bc bs ls (.int v :: st) μ
def o_lc (v : Int64) (nx : Nat) : dw_Op := fun B bc bs ls st μ => B nx bc bs ls (.long v :: st) μ
def o_nul (nx : Nat) : dw_Op := fun B bc bs ls st μ => B nx bc bs ls (.null :: st) μ
def o_goto (tg : Nat) : dw_Op := fun B bc bs ls st μ => B tg bc bs ls st μ
def o_ild (i : Nat) (nx : Nat) : dw_Op := fun B bc bs ls st μ => match ls[i]? with
  | some (some (.int x)) => B nx bc bs ls (.int x :: st) μ
  | _ => False
def o_lld (i : Nat) (nx : Nat) : dw_Op := fun B bc bs ls st μ => match ls[i]? with
  | some (some (.long x)) => B nx bc bs ls (.long x :: st) μ
  | _ => False
def o_ald (i : Nat) (nx : Nat) : dw_Op := fun B bc bs ls st μ => match ls[i]? with
  | some (some (.ref x)) => B nx bc bs ls (.ref x :: st) μ
  | some (some .null) => B nx bc bs ls (.null :: st) μ
  | _ => False
def o_ist (i : Nat) (nx : Nat) : dw_Op := fun B bc bs ls st μ => match st with
  | .int x :: r => cond (dw_free ls i) (B nx bc bs (ls.set i (some (.int x))) r μ) False
  | _ => False
def o_ast (i : Nat) (nx : Nat) : dw_Op := fun B bc bs ls st μ => match st with
  | .ref x :: r => cond (dw_free ls i) (B nx bc bs (ls.set i (some (.ref x))) r μ) False
  | .null :: r => cond (dw_free ls i) (B nx bc bs (ls.set i (some .null)) r μ) False
  | _ => False
def o_inc (i : Nat) (n : Int32) (nx : Nat) : dw_Op := fun B bc bs ls st μ => match ls[i]? with
  | some (some (.int x)) => cond (dw_free ls i) (B nx bc bs (ls.set i (some (.int (x + n)))) st μ) False
  | _ => False
def o_dup (nx : Nat) : dw_Op := fun B bc bs ls st μ => match st with
  | .int x :: r => B nx bc bs ls (.int x :: .int x :: r) μ
  | .ref x :: r => B nx bc bs ls (.ref x :: .ref x :: r) μ
  | .null :: r => B nx bc bs ls (.null :: .null :: r) μ
  | _ => False
def o_dup2 (nx : Nat) : dw_Op := fun B bc bs ls st μ => match st with
  | .int y :: .ref x :: r => B nx bc bs ls (.int y :: .ref x :: .int y :: .ref x :: r) μ
  | .int y :: .int x :: r => B nx bc bs ls (.int y :: .int x :: .int y :: .int x :: r) μ
  | _ => False
def o_pop (nx : Nat) : dw_Op := fun B bc bs ls st μ => match st with
  | .int _ :: r => B nx bc bs ls r μ
  | _ => False
def o_ifnull (tg nx : Nat) : dw_Op := fun B bc bs ls st μ => match st with
  | .null :: r => B tg bc bs ls r μ
  | .ref _ :: r => B nx bc bs ls r μ
  | _ => False
def o_ifnn (tg nx : Nat) : dw_Op := fun B bc bs ls st μ => match st with
  | .null :: r => B nx bc bs ls r μ
  | .ref _ :: r => B tg bc bs ls r μ
  | _ => False
def o_tab (lo hi : Int) (tgs : List Nat) (df : Nat) : dw_Op := fun B bc bs ls st μ => match st with
  | .int x :: r => if x.toInt < lo ∨ hi < x.toInt then B df bc bs ls r μ else (match tgs[(x.toInt - lo).toNat]? with
    | some tg => B tg bc bs ls r μ
    | none => False)
  | _ => False
def dw_pick (x : Int) (df : Nat) : List (Int × Nat) → Nat
  | [] => df
  | (k, tg) :: r => if x = k then tg else dw_pick x df r
def o_look (ps : List (Int × Nat)) (df : Nat) : dw_Op := fun B bc bs ls st μ => match st with
  | .int x :: r => B (dw_pick x.toInt df ps) bc bs ls r μ
  | _ => False
def o_iadd (nx : Nat) : dw_Op := fun B bc bs ls st μ => match st with
  | .int y :: .int x :: r => B nx bc bs ls (.int (x + y) :: r) μ
  | _ => False
def o_isub (nx : Nat) : dw_Op := fun B bc bs ls st μ => match st with
  | .int y :: .int x :: r => B nx bc bs ls (.int (x - y) :: r) μ
  | _ => False
def o_imul (nx : Nat) : dw_Op := fun B bc bs ls st μ => match st with
  | .int y :: .int x :: r => B nx bc bs ls (.int (x * y) :: r) μ
  | _ => False
def o_iand (nx : Nat) : dw_Op := fun B bc bs ls st μ => match st with
  | .int y :: .int x :: r => B nx bc bs ls (.int (x &&& y) :: r) μ
  | _ => False
def o_ior (nx : Nat) : dw_Op := fun B bc bs ls st μ => match st with
  | .int y :: .int x :: r => B nx bc bs ls (.int (x ||| y) :: r) μ
  | _ => False
def o_ishl (nx : Nat) : dw_Op := fun B bc bs ls st μ => match st with
  | .int y :: .int x :: r => B nx bc bs ls (.int (x <<< (y &&& 31)) :: r) μ
  | _ => False
def o_ishr (nx : Nat) : dw_Op := fun B bc bs ls st μ => match st with
  | .int y :: .int x :: r => B nx bc bs ls (.int (x >>> (y &&& 31)) :: r) μ
  | _ => False
def o_iushr (nx : Nat) : dw_Op := fun B bc bs ls st μ => match st with
  | .int y :: .int x :: r => B nx bc bs ls (.int ((x.toUInt32 >>> (y.toUInt32 &&& Int32.toUInt32 31)).toInt32) :: r) μ
  | _ => False
def o_idiv (nx : Nat) : dw_Op := fun B bc bs ls st μ => match st with
  | .int y :: .int x :: r => if y = 0 then False else B nx bc bs ls (.int (x / y) :: r) μ
  | _ => False
def o_irem (nx : Nat) : dw_Op := fun B bc bs ls st μ => match st with
  | .int y :: .int x :: r => if y = 0 then False else B nx bc bs ls (.int (x - x / y * y) :: r) μ
  | _ => False
def o_ineg (nx : Nat) : dw_Op := fun B bc bs ls st μ => match st with
  | .int x :: r => B nx bc bs ls (.int (-x) :: r) μ
  | _ => False
def o_i2b (nx : Nat) : dw_Op := fun B bc bs ls st μ => match st with
  | .int x :: r => B nx bc bs ls (.int (x.toInt8.toInt32) :: r) μ
  | _ => False
def o_i2l (nx : Nat) : dw_Op := fun B bc bs ls st μ => match st with
  | .int x :: r => B nx bc bs ls (.long (x.toInt64) :: r) μ
  | _ => False
def o_lor (nx : Nat) : dw_Op := fun B bc bs ls st μ => match st with
  | .long y :: .long x :: r => B nx bc bs ls (.long (x ||| y) :: r) μ
  | _ => False
def o_lshl (nx : Nat) : dw_Op := fun B bc bs ls st μ => match st with
  | .int y :: .long x :: r => B nx bc bs ls (.long (x <<< (y.toInt64 &&& 63)) :: r) μ
  | _ => False
def o_lcmp (nx : Nat) : dw_Op := fun B bc bs ls st μ => match st with
  | .long y :: .long x :: r => B nx bc bs ls (.int (lg_cmp x y) :: r) μ
  | _ => False
def o_icmp_eq (tg nx : Nat) : dw_Op := fun B bc bs ls st μ => match st with
  | .int y :: .int x :: r => if x = y then B tg bc bs ls r μ else B nx bc bs ls r μ
  | _ => False
def o_icmp_ne (tg nx : Nat) : dw_Op := fun B bc bs ls st μ => match st with
  | .int y :: .int x :: r => if x = y then B nx bc bs ls r μ else B tg bc bs ls r μ
  | _ => False
def o_icmp_lt (tg nx : Nat) : dw_Op := fun B bc bs ls st μ => match st with
  | .int y :: .int x :: r => if x < y then B tg bc bs ls r μ else B nx bc bs ls r μ
  | _ => False
def o_icmp_ge (tg nx : Nat) : dw_Op := fun B bc bs ls st μ => match st with
  | .int y :: .int x :: r => if y ≤ x then B tg bc bs ls r μ else B nx bc bs ls r μ
  | _ => False
def o_icmp_gt (tg nx : Nat) : dw_Op := fun B bc bs ls st μ => match st with
  | .int y :: .int x :: r => if y < x then B tg bc bs ls r μ else B nx bc bs ls r μ
  | _ => False
def o_icmp_le (tg nx : Nat) : dw_Op := fun B bc bs ls st μ => match st with
  | .int y :: .int x :: r => if x ≤ y then B tg bc bs ls r μ else B nx bc bs ls r μ
  | _ => False
def o_if_eq (tg nx : Nat) : dw_Op := fun B bc bs ls st μ => match st with
  | .int x :: r => if x = 0 then B tg bc bs ls r μ else B nx bc bs ls r μ
  | _ => False
def o_if_ne (tg nx : Nat) : dw_Op := fun B bc bs ls st μ => match st with
  | .int x :: r => if x = 0 then B nx bc bs ls r μ else B tg bc bs ls r μ
  | _ => False
def o_if_lt (tg nx : Nat) : dw_Op := fun B bc bs ls st μ => match st with
  | .int x :: r => if x < 0 then B tg bc bs ls r μ else B nx bc bs ls r μ
  | _ => False
def o_if_ge (tg nx : Nat) : dw_Op := fun B bc bs ls st μ => match st with
  | .int x :: r => if 0 ≤ x then B tg bc bs ls r μ else B nx bc bs ls r μ
  | _ => False
def o_if_gt (tg nx : Nat) : dw_Op := fun B bc bs ls st μ => match st with
  | .int x :: r => if 0 < x then B tg bc bs ls r μ else B nx bc bs ls r μ
  | _ => False
def o_if_le (tg nx : Nat) : dw_Op := fun B bc bs ls st μ => match st with
  | .int x :: r => if x ≤ 0 then B tg bc bs ls r μ else B nx bc bs ls r μ
  | _ => False
section DWS
variable {p : Program} {l : Launch} {e : Env} {R : Room} {s : State} {m : MethodId} {args : Array Value} {below : List Frame} {meth : Method} {c : Code} {Q : State → Prop}
variable {D : va_G} {aC : Nat → ClassId} {b0 : Nat} {ex : Nat → Nat} {HB : Heap} {nL : Nat} {cc : ByteArray} {Ts : List Cond} {own : String} {pc : Nat}
theorem s_no : dw_Snd p l e R s m args below meth c Q D aC b0 ex HB nL pc o_no := fun _ _ _ _ _ _ _ h => h.elim
theorem s_iconst {n : Int} {v : Int32} {nx : Nat} (X : CallFix p m c cc nL s args Ts own) (hd : decode cc pc = .ok (.iconst n, 1)) (hv : Int32.ofInt n = v) (hn : pc + 1 = nx) : dw_Snd p l e R s m args below meth c Q D aC b0 ex HB nL pc (o_ic v nx) := by
  subst hn
  intro B hB bc bs ls st μ h H locs ph cells slots hR hL hlo hc hs
  exact lv_iconst X.1 X.2.1 hd hv (hB _ _ _ _ _ _ h H locs ph cells slots hR hL hlo hc hs)
theorem s_bipush {n : Int} {v : Int32} {nx : Nat} (X : CallFix p m c cc nL s args Ts own) (hd : decode cc pc = .ok (.bipush n, 2)) (hv : (Int8.ofInt n).toInt32 = v) (hn : pc + 2 = nx) : dw_Snd p l e R s m args below meth c Q D aC b0 ex HB nL pc (o_ic v nx) := by
  subst hn
  intro B hB bc bs ls st μ h H locs ph cells slots hR hL hlo hc hs
  exact lv_bipush X.1 X.2.1 hd hv (hB _ _ _ _ _ _ h H locs ph cells slots hR hL hlo hc hs)
theorem s_sipush {n : Int} {v : Int32} {nx : Nat} (X : CallFix p m c cc nL s args Ts own) (hd : decode cc pc = .ok (.sipush n, 3)) (hv : (Int16.ofInt n).toInt32 = v) (hn : pc + 3 = nx) : dw_Snd p l e R s m args below meth c Q D aC b0 ex HB nL pc (o_ic v nx) := by
  subst hn
  intro B hB bc bs ls st μ h H locs ph cells slots hR hL hlo hc hs
  exact lv_sipush X.1 X.2.1 hd hv (hB _ _ _ _ _ _ h H locs ph cells slots hR hL hlo hc hs)
theorem s_lconst {n : Fin 2} {v : Int64} {nx : Nat} (X : CallFix p m c cc nL s args Ts own) (hd : decode cc pc = .ok (.lconst n, 1)) (hv : Int64.ofNat (n : Nat) = v) (hn : pc + 1 = nx) : dw_Snd p l e R s m args below meth c Q D aC b0 ex HB nL pc (o_lc v nx) := by
  subst hn
  intro B hB bc bs ls st μ h H locs ph cells slots hR hL hlo hc hs
  exact lv_lconst X.1 X.2.1 hd hv (hB _ _ _ _ _ _ h H locs ph cells slots hR hL hlo hc hs)
theorem s_ldc {index : Nat} {v : Int32} {nx : Nat} (X : CallFix p m c cc nL s args Ts own) (hw : Jvm.Cond.constant own index v ∈ Ts) (hd : decode cc pc = .ok (.ldc index, 2)) (hn : pc + 2 = nx) : dw_Snd p l e R s m args below meth c Q D aC b0 ex HB nL pc (o_ic v nx) := by
  subst hn
  intro B hB bc bs ls st μ h H locs ph cells slots hR hL hlo hc hs
  exact lv_ldc X.1 X.2.1 X.2.2.2.1 (X.2.2.2.2 _ hw) hd (hB _ _ _ _ _ _ h H locs ph cells slots hR hL hlo hc hs)
theorem s_ldcw {index : Nat} {v : Int32} {nx : Nat} (X : CallFix p m c cc nL s args Ts own) (hw : Jvm.Cond.constant own index v ∈ Ts) (hd : decode cc pc = .ok (.ldc_w index, 3)) (hn : pc + 3 = nx) : dw_Snd p l e R s m args below meth c Q D aC b0 ex HB nL pc (o_ic v nx) := by
  subst hn
  intro B hB bc bs ls st μ h H locs ph cells slots hR hL hlo hc hs
  exact lv_ldcw X.1 X.2.1 X.2.2.2.1 (X.2.2.2.2 _ hw) hd (hB _ _ _ _ _ _ h H locs ph cells slots hR hL hlo hc hs)
theorem s_ldc2 {index : Nat} {v : Int64} {nx : Nat} (X : CallFix p m c cc nL s args Ts own) (hw : Jvm.Cond.constantLong own index v ∈ Ts) (hd : decode cc pc = .ok (.ldc2_w index, 3)) (hn : pc + 3 = nx) : dw_Snd p l e R s m args below meth c Q D aC b0 ex HB nL pc (o_lc v nx) := by
  subst hn
  intro B hB bc bs ls st μ h H locs ph cells slots hR hL hlo hc hs
  exact lv_ldc2 X.1 X.2.1 X.2.2.2.1 (X.2.2.2.2 _ hw) hd (hB _ _ _ _ _ _ h H locs ph cells slots hR hL hlo hc hs)
theorem s_null {nx : Nat} (X : CallFix p m c cc nL s args Ts own) (hd : decode cc pc = .ok (.aconst_null, 1)) (hn : pc + 1 = nx) : dw_Snd p l e R s m args below meth c Q D aC b0 ex HB nL pc (o_nul nx) := by
  subst hn
  intro B hB bc bs ls st μ h H locs ph cells slots hR hL hlo hc hs
  exact lv_null X.1 X.2.1 hd (hB _ _ _ _ _ _ h H locs ph cells slots hR hL hlo hc hs)
theorem s_goto {off : Int} {tg : Nat} (X : CallFix p m c cc nL s args Ts own) (hd : decode cc pc = .ok (.goto off, 3)) (ht : (pc : Int) + off = (tg : Int)) : dw_Snd p l e R s m args below meth c Q D aC b0 ex HB nL pc (o_goto tg) := by
  intro B hB bc bs ls st μ h H locs ph cells slots hR hL hlo hc hs
  exact lv_goto X.1 X.2.1 hd ht (hB _ _ _ _ _ _ h H locs ph cells slots hR hL hlo hc hs)
theorem s_iload_n {k : Fin 4} {i : Nat} {nx : Nat} (X : CallFix p m c cc nL s args Ts own) (hd : decode cc pc = .ok (.iload_n k, 1)) (hi : (k : Nat) = i) (hn : pc + 1 = nx) : dw_Snd p l e R s m args below meth c Q D aC b0 ex HB nL pc (o_ild i nx) := by
  subst hn
  intro B hB bc bs ls st μ h H locs ph cells slots hR hL hlo hc hs
  unfold o_ild at h
  split at h
  next x hx => exact lv_iload_n X.1 X.2.1 hd hi (hlo.2.2.2 _ _ hx) (hB _ _ _ _ _ _ h H locs ph cells slots hR hL hlo hc hs)
  next => exact h.elim
theorem s_iload {i : Nat} {nx : Nat} (X : CallFix p m c cc nL s args Ts own) (hd : decode cc pc = .ok (.iload i, 2)) (hn : pc + 2 = nx) : dw_Snd p l e R s m args below meth c Q D aC b0 ex HB nL pc (o_ild i nx) := by
  subst hn
  intro B hB bc bs ls st μ h H locs ph cells slots hR hL hlo hc hs
  unfold o_ild at h
  split at h
  next x hx => exact lv_iload X.1 X.2.1 hd (hlo.2.2.2 _ _ hx) (hB _ _ _ _ _ _ h H locs ph cells slots hR hL hlo hc hs)
  next => exact h.elim
theorem s_lload_n {k : Fin 4} {i : Nat} {nx : Nat} (X : CallFix p m c cc nL s args Ts own) (hd : decode cc pc = .ok (.lload_n k, 1)) (hi : (k : Nat) = i) (hn : pc + 1 = nx) : dw_Snd p l e R s m args below meth c Q D aC b0 ex HB nL pc (o_lld i nx) := by
  subst hn
  intro B hB bc bs ls st μ h H locs ph cells slots hR hL hlo hc hs
  unfold o_lld at h
  split at h
  next x hx => exact lv_lload_n X.1 X.2.1 hd hi (hlo.2.2.2 _ _ hx) (hB _ _ _ _ _ _ h H locs ph cells slots hR hL hlo hc hs)
  next => exact h.elim
theorem s_lload {i : Nat} {nx : Nat} (X : CallFix p m c cc nL s args Ts own) (hd : decode cc pc = .ok (.lload i, 2)) (hn : pc + 2 = nx) : dw_Snd p l e R s m args below meth c Q D aC b0 ex HB nL pc (o_lld i nx) := by
  subst hn
  intro B hB bc bs ls st μ h H locs ph cells slots hR hL hlo hc hs
  unfold o_lld at h
  split at h
  next x hx => exact lv_lload X.1 X.2.1 hd (hlo.2.2.2 _ _ hx) (hB _ _ _ _ _ _ h H locs ph cells slots hR hL hlo hc hs)
  next => exact h.elim
theorem s_aload_n {k : Fin 4} {i : Nat} {nx : Nat} (X : CallFix p m c cc nL s args Ts own) (hd : decode cc pc = .ok (.aload_n k, 1)) (hi : (k : Nat) = i) (hn : pc + 1 = nx) : dw_Snd p l e R s m args below meth c Q D aC b0 ex HB nL pc (o_ald i nx) := by
  subst hn
  intro B hB bc bs ls st μ h H locs ph cells slots hR hL hlo hc hs
  unfold o_ald at h
  split at h
  next x hx => exact lv_aload_n X.1 X.2.1 hd hi (hlo.2.2.2 _ _ hx) (hB _ _ _ _ _ _ h H locs ph cells slots hR hL hlo hc hs)
  next hx => exact lv_aload_nN X.1 X.2.1 hd hi (hlo.2.2.2 _ _ hx) (hB _ _ _ _ _ _ h H locs ph cells slots hR hL hlo hc hs)
  next => exact h.elim
theorem s_istore_n {k : Fin 4} {i : Nat} {nx : Nat} (X : CallFix p m c cc nL s args Ts own) (hd : decode cc pc = .ok (.istore_n k, 1)) (hi : (k : Nat) = i) (hi2 : i < nL) (hn : pc + 1 = nx) : dw_Snd p l e R s m args below meth c Q D aC b0 ex HB nL pc (o_ist i nx) := by
  subst hn
  intro B hB bc bs ls st μ h H locs ph cells slots hR hL hlo hc hs
  unfold o_ist at h
  split at h
  next x r =>
    cases hf : dw_free ls i with
    | false => rw [hf] at h; exact h.elim
    | true => rw [hf] at h; exact lv_istore_n X.1 X.2.1 hd hi hlo.has hi2 rfl (fun ph' h' => hB _ _ _ _ _ _ h H locs ph' cells slots hR hL (hlo.set hf h') hc hs)
  next => exact h.elim
theorem s_astore_n {k : Fin 4} {i : Nat} {nx : Nat} (X : CallFix p m c cc nL s args Ts own) (hd : decode cc pc = .ok (.astore_n k, 1)) (hi : (k : Nat) = i) (hi2 : i < nL) (hn : pc + 1 = nx) : dw_Snd p l e R s m args below meth c Q D aC b0 ex HB nL pc (o_ast i nx) := by
  subst hn
  intro B hB bc bs ls st μ h H locs ph cells slots hR hL hlo hc hs
  unfold o_ast at h
  split at h
  next x r =>
    cases hf : dw_free ls i with
    | false => rw [hf] at h; exact h.elim
    | true => rw [hf] at h; exact lv_astore_n X.1 X.2.1 hd hi hlo.has hi2 rfl (fun ph' h' => hB _ _ _ _ _ _ h H locs ph' cells slots hR hL (hlo.set hf h') hc hs)
  next r =>
    cases hf : dw_free ls i with
    | false => rw [hf] at h; exact h.elim
    | true => rw [hf] at h; exact lv_astore_nN X.1 X.2.1 hd hi hlo.has hi2 rfl (fun ph' h' => hB _ _ _ _ _ _ h H locs ph' cells slots hR hL (hlo.set hf h') hc hs)
  next => exact h.elim
theorem s_aload {i : Nat} {nx : Nat} (X : CallFix p m c cc nL s args Ts own) (hd : decode cc pc = .ok (.aload i, 2)) (hn : pc + 2 = nx) : dw_Snd p l e R s m args below meth c Q D aC b0 ex HB nL pc (o_ald i nx) := by
  subst hn
  intro B hB bc bs ls st μ h H locs ph cells slots hR hL hlo hc hs
  unfold o_ald at h
  split at h
  next x hx => exact lv_aload X.1 X.2.1 hd (hlo.2.2.2 _ _ hx) (hB _ _ _ _ _ _ h H locs ph cells slots hR hL hlo hc hs)
  next hx => exact lv_aloadN X.1 X.2.1 hd (hlo.2.2.2 _ _ hx) (hB _ _ _ _ _ _ h H locs ph cells slots hR hL hlo hc hs)
  next => exact h.elim
theorem s_istore {i : Nat} {nx : Nat} (X : CallFix p m c cc nL s args Ts own) (hd : decode cc pc = .ok (.istore i, 2)) (hi2 : i < nL) (hn : pc + 2 = nx) : dw_Snd p l e R s m args below meth c Q D aC b0 ex HB nL pc (o_ist i nx) := by
  subst hn
  intro B hB bc bs ls st μ h H locs ph cells slots hR hL hlo hc hs
  unfold o_ist at h
  split at h
  next x r =>
    cases hf : dw_free ls i with
    | false => rw [hf] at h; exact h.elim
    | true => rw [hf] at h; exact lv_istore X.1 X.2.1 hd hlo.has hi2 rfl (fun ph' h' => hB _ _ _ _ _ _ h H locs ph' cells slots hR hL (hlo.set hf h') hc hs)
  next => exact h.elim
theorem s_astore {i : Nat} {nx : Nat} (X : CallFix p m c cc nL s args Ts own) (hd : decode cc pc = .ok (.astore i, 2)) (hi2 : i < nL) (hn : pc + 2 = nx) : dw_Snd p l e R s m args below meth c Q D aC b0 ex HB nL pc (o_ast i nx) := by
  subst hn
  intro B hB bc bs ls st μ h H locs ph cells slots hR hL hlo hc hs
  unfold o_ast at h
  split at h
  next x r =>
    cases hf : dw_free ls i with
    | false => rw [hf] at h; exact h.elim
    | true => rw [hf] at h; exact lv_astore X.1 X.2.1 hd hlo.has hi2 rfl (fun ph' h' => hB _ _ _ _ _ _ h H locs ph' cells slots hR hL (hlo.set hf h') hc hs)
  next r =>
    cases hf : dw_free ls i with
    | false => rw [hf] at h; exact h.elim
    | true => rw [hf] at h; exact lv_astoreN X.1 X.2.1 hd hlo.has hi2 rfl (fun ph' h' => hB _ _ _ _ _ _ h H locs ph' cells slots hR hL (hlo.set hf h') hc hs)
  next => exact h.elim
theorem s_iinc {i : Nat} {n : Int} {n' : Int32} {nx : Nat} (X : CallFix p m c cc nL s args Ts own) (hd : decode cc pc = .ok (.iinc i n, 3)) (hv : Int32.ofInt n = n') (hi2 : i < nL) (hn : pc + 3 = nx) : dw_Snd p l e R s m args below meth c Q D aC b0 ex HB nL pc (o_inc i n' nx) := by
  subst hn
  subst hv
  intro B hB bc bs ls st μ h H locs ph cells slots hR hL hlo hc hs
  unfold o_inc at h
  split at h
  next x hx =>
    cases hf : dw_free ls i with
    | false => rw [hf] at h; exact h.elim
    | true =>
      rw [hf] at h
      obtain ⟨k, hk⟩ := List.getElem?_of_mem (dw_al_mem (b0 := b0) (ex := ex) hx)
      exact lv_iinc X.1 X.2.1 hd hlo.has hk rfl hi2 rfl (fun ph' h' => hB _ _ _ _ _ _ h H locs ph' cells slots hR hL (hlo.set hf h') hc hs)
  next => exact h.elim
theorem s_dup {nx : Nat} (X : CallFix p m c cc nL s args Ts own) (hd : decode cc pc = .ok (.dup, 1)) (hn : pc + 1 = nx) : dw_Snd p l e R s m args below meth c Q D aC b0 ex HB nL pc (o_dup nx) := by
  subst hn
  intro B hB bc bs ls st μ h H locs ph cells slots hR hL hlo hc hs
  unfold o_dup at h
  split at h
  next => exact lv_dup X.1 X.2.1 hd rfl (hB _ _ _ _ _ _ h H locs ph cells slots hR hL hlo hc hs)
  next => exact lv_dup X.1 X.2.1 hd rfl (hB _ _ _ _ _ _ h H locs ph cells slots hR hL hlo hc hs)
  next => exact lv_dup X.1 X.2.1 hd rfl (hB _ _ _ _ _ _ h H locs ph cells slots hR hL hlo hc hs)
  next => exact h.elim
theorem s_dup2 {nx : Nat} (X : CallFix p m c cc nL s args Ts own) (hd : decode cc pc = .ok (.dup2, 1)) (hn : pc + 1 = nx) : dw_Snd p l e R s m args below meth c Q D aC b0 ex HB nL pc (o_dup2 nx) := by
  subst hn
  intro B hB bc bs ls st μ h H locs ph cells slots hR hL hlo hc hs
  unfold o_dup2 at h
  split at h
  next => exact lv_dup2_11 X.1 X.2.1 hd rfl rfl (hB _ _ _ _ _ _ h H locs ph cells slots hR hL hlo hc hs)
  next => exact lv_dup2_11 X.1 X.2.1 hd rfl rfl (hB _ _ _ _ _ _ h H locs ph cells slots hR hL hlo hc hs)
  next => exact h.elim
theorem s_pop {nx : Nat} (X : CallFix p m c cc nL s args Ts own) (hd : decode cc pc = .ok (.pop, 1)) (hn : pc + 1 = nx) : dw_Snd p l e R s m args below meth c Q D aC b0 ex HB nL pc (o_pop nx) := by
  subst hn
  intro B hB bc bs ls st μ h H locs ph cells slots hR hL hlo hc hs
  unfold o_pop at h
  split at h
  next => exact lv_pop X.1 X.2.1 hd rfl (hB _ _ _ _ _ _ h H locs ph cells slots hR hL hlo hc hs)
  next => exact h.elim
theorem s_ifnull {off : Int} {tg nx : Nat} (X : CallFix p m c cc nL s args Ts own) (hd : decode cc pc = .ok (.ifnull off, 3)) (ht : (pc : Int) + off = (tg : Int)) (hn : pc + 3 = nx) : dw_Snd p l e R s m args below meth c Q D aC b0 ex HB nL pc (o_ifnull tg nx) := by
  subst hn
  intro B hB bc bs ls st μ h H locs ph cells slots hR hL hlo hc hs
  unfold o_ifnull at h
  split at h
  next => exact lv_ifnullN X.1 X.2.1 hd ht (hB _ _ _ _ _ _ h H locs ph cells slots hR hL hlo hc hs)
  next => exact lv_ifnull X.1 X.2.1 hd (hB _ _ _ _ _ _ h H locs ph cells slots hR hL hlo hc hs)
  next => exact h.elim
theorem s_ifnonnull {off : Int} {tg nx : Nat} (X : CallFix p m c cc nL s args Ts own) (hd : decode cc pc = .ok (.ifnonnull off, 3)) (ht : (pc : Int) + off = (tg : Int)) (hn : pc + 3 = nx) : dw_Snd p l e R s m args below meth c Q D aC b0 ex HB nL pc (o_ifnn tg nx) := by
  subst hn
  intro B hB bc bs ls st μ h H locs ph cells slots hR hL hlo hc hs
  unfold o_ifnn at h
  split at h
  next => exact lv_ifnonnullN X.1 X.2.1 hd (hB _ _ _ _ _ _ h H locs ph cells slots hR hL hlo hc hs)
  next => exact lv_ifnonnull X.1 X.2.1 hd ht (hB _ _ _ _ _ _ h H locs ph cells slots hR hL hlo hc hs)
  next => exact h.elim
theorem s_tableswitch {dflt lo hi : Int} {offs : Array Int} {len df : Nat} {tgs : List Nat} (X : CallFix p m c cc nL s args Ts own) (hd : decode cc pc = .ok (.tableswitch dflt lo hi offs, len)) (h1 : (pc : Int) + dflt = (df : Int)) (h2 : offs.toList.map (fun (o : Int) => (pc : Int) + o) = tgs.map (fun (t : Nat) => (t : Int))) : dw_Snd p l e R s m args below meth c Q D aC b0 ex HB nL pc (o_tab lo hi tgs df) := by
  intro B hB bc bs ls st μ h H locs ph cells slots hR hL hlo hc hs
  unfold o_tab at h
  split at h
  next x r =>
    split at h
    next hx => exact lv_tableOut X.1 X.2.1 hd hx h1 (hB _ _ _ _ _ _ h H locs ph cells slots hR hL hlo hc hs)
    next hx =>
      split at h
      next tg htg =>
        have h3 : (tgs.map (fun (t : Nat) => (t : Int)))[(x.toInt - lo).toNat]? = some (tg : Int) := by rw [List.getElem?_map, htg]; rfl
        rw [← h2, List.getElem?_map, Option.map_eq_some_iff] at h3
        obtain ⟨off, h4, h5⟩ := h3
        exact lv_tableIn X.1 X.2.1 hd (fun q => hx (Or.inl q)) (fun q => hx (Or.inr q)) (by rw [← Array.getElem?_toList]; exact h4) h5 (hB _ _ _ _ _ _ h H locs ph cells slots hR hL hlo hc hs)
      next => exact h.elim
  next => exact h.elim
theorem s_iadd {nx : Nat} (X : CallFix p m c cc nL s args Ts own) (hd : decode cc pc = .ok (.iadd, 1)) (hn : pc + 1 = nx) : dw_Snd p l e R s m args below meth c Q D aC b0 ex HB nL pc (o_iadd nx) := by
  subst hn
  intro B hB bc bs ls st μ h H locs ph cells slots hR hL hlo hc hs
  unfold o_iadd at h
  split at h
  next => exact lv_iadd X.1 X.2.1 hd (hB _ _ _ _ _ _ h H locs ph cells slots hR hL hlo hc hs)
  next => exact h.elim
theorem s_isub {nx : Nat} (X : CallFix p m c cc nL s args Ts own) (hd : decode cc pc = .ok (.isub, 1)) (hn : pc + 1 = nx) : dw_Snd p l e R s m args below meth c Q D aC b0 ex HB nL pc (o_isub nx) := by
  subst hn
  intro B hB bc bs ls st μ h H locs ph cells slots hR hL hlo hc hs
  unfold o_isub at h
  split at h
  next => exact lv_isub X.1 X.2.1 hd (hB _ _ _ _ _ _ h H locs ph cells slots hR hL hlo hc hs)
  next => exact h.elim
theorem s_imul {nx : Nat} (X : CallFix p m c cc nL s args Ts own) (hd : decode cc pc = .ok (.imul, 1)) (hn : pc + 1 = nx) : dw_Snd p l e R s m args below meth c Q D aC b0 ex HB nL pc (o_imul nx) := by
  subst hn
  intro B hB bc bs ls st μ h H locs ph cells slots hR hL hlo hc hs
  unfold o_imul at h
  split at h
  next => exact lv_imul X.1 X.2.1 hd (hB _ _ _ _ _ _ h H locs ph cells slots hR hL hlo hc hs)
  next => exact h.elim
theorem s_iand {nx : Nat} (X : CallFix p m c cc nL s args Ts own) (hd : decode cc pc = .ok (.iand, 1)) (hn : pc + 1 = nx) : dw_Snd p l e R s m args below meth c Q D aC b0 ex HB nL pc (o_iand nx) := by
  subst hn
  intro B hB bc bs ls st μ h H locs ph cells slots hR hL hlo hc hs
  unfold o_iand at h
  split at h
  next => exact lv_iand X.1 X.2.1 hd (hB _ _ _ _ _ _ h H locs ph cells slots hR hL hlo hc hs)
  next => exact h.elim
theorem s_ior {nx : Nat} (X : CallFix p m c cc nL s args Ts own) (hd : decode cc pc = .ok (.ior, 1)) (hn : pc + 1 = nx) : dw_Snd p l e R s m args below meth c Q D aC b0 ex HB nL pc (o_ior nx) := by
  subst hn
  intro B hB bc bs ls st μ h H locs ph cells slots hR hL hlo hc hs
  unfold o_ior at h
  split at h
  next => exact lv_ior X.1 X.2.1 hd (hB _ _ _ _ _ _ h H locs ph cells slots hR hL hlo hc hs)
  next => exact h.elim
theorem s_ishl {nx : Nat} (X : CallFix p m c cc nL s args Ts own) (hd : decode cc pc = .ok (.ishl, 1)) (hn : pc + 1 = nx) : dw_Snd p l e R s m args below meth c Q D aC b0 ex HB nL pc (o_ishl nx) := by
  subst hn
  intro B hB bc bs ls st μ h H locs ph cells slots hR hL hlo hc hs
  unfold o_ishl at h
  split at h
  next => exact lv_ishl X.1 X.2.1 hd (hB _ _ _ _ _ _ h H locs ph cells slots hR hL hlo hc hs)
  next => exact h.elim
theorem s_ishr {nx : Nat} (X : CallFix p m c cc nL s args Ts own) (hd : decode cc pc = .ok (.ishr, 1)) (hn : pc + 1 = nx) : dw_Snd p l e R s m args below meth c Q D aC b0 ex HB nL pc (o_ishr nx) := by
  subst hn
  intro B hB bc bs ls st μ h H locs ph cells slots hR hL hlo hc hs
  unfold o_ishr at h
  split at h
  next => exact lv_ishr X.1 X.2.1 hd (hB _ _ _ _ _ _ h H locs ph cells slots hR hL hlo hc hs)
  next => exact h.elim
theorem s_iushr {nx : Nat} (X : CallFix p m c cc nL s args Ts own) (hd : decode cc pc = .ok (.iushr, 1)) (hn : pc + 1 = nx) : dw_Snd p l e R s m args below meth c Q D aC b0 ex HB nL pc (o_iushr nx) := by
  subst hn
  intro B hB bc bs ls st μ h H locs ph cells slots hR hL hlo hc hs
  unfold o_iushr at h
  split at h
  next => exact lv_iushr X.1 X.2.1 hd rfl (hB _ _ _ _ _ _ h H locs ph cells slots hR hL hlo hc hs)
  next => exact h.elim
theorem s_idiv {nx : Nat} (X : CallFix p m c cc nL s args Ts own) (hd : decode cc pc = .ok (.idiv, 1)) (hn : pc + 1 = nx) : dw_Snd p l e R s m args below meth c Q D aC b0 ex HB nL pc (o_idiv nx) := by
  subst hn
  intro B hB bc bs ls st μ h H locs ph cells slots hR hL hlo hc hs
  unfold o_idiv at h
  split at h
  next =>
    split at h
    next => exact h.elim
    next h0 => exact lv_idiv X.1 X.2.1 hd h0 (hB _ _ _ _ _ _ h H locs ph cells slots hR hL hlo hc hs)
  next => exact h.elim
theorem s_irem {nx : Nat} (X : CallFix p m c cc nL s args Ts own) (hd : decode cc pc = .ok (.irem, 1)) (hn : pc + 1 = nx) : dw_Snd p l e R s m args below meth c Q D aC b0 ex HB nL pc (o_irem nx) := by
  subst hn
  intro B hB bc bs ls st μ h H locs ph cells slots hR hL hlo hc hs
  unfold o_irem at h
  split at h
  next =>
    split at h
    next => exact h.elim
    next h0 => exact lv_irem X.1 X.2.1 hd h0 (hB _ _ _ _ _ _ h H locs ph cells slots hR hL hlo hc hs)
  next => exact h.elim
theorem s_ineg {nx : Nat} (X : CallFix p m c cc nL s args Ts own) (hd : decode cc pc = .ok (.ineg, 1)) (hn : pc + 1 = nx) : dw_Snd p l e R s m args below meth c Q D aC b0 ex HB nL pc (o_ineg nx) := by
  subst hn
  intro B hB bc bs ls st μ h H locs ph cells slots hR hL hlo hc hs
  unfold o_ineg at h
  split at h
  next => exact lv_ineg X.1 X.2.1 hd (hB _ _ _ _ _ _ h H locs ph cells slots hR hL hlo hc hs)
  next => exact h.elim
theorem s_i2b {nx : Nat} (X : CallFix p m c cc nL s args Ts own) (hd : decode cc pc = .ok (.i2b, 1)) (hn : pc + 1 = nx) : dw_Snd p l e R s m args below meth c Q D aC b0 ex HB nL pc (o_i2b nx) := by
  subst hn
  intro B hB bc bs ls st μ h H locs ph cells slots hR hL hlo hc hs
  unfold o_i2b at h
  split at h
  next => exact lv_i2b X.1 X.2.1 hd rfl (hB _ _ _ _ _ _ h H locs ph cells slots hR hL hlo hc hs)
  next => exact h.elim
theorem s_i2l {nx : Nat} (X : CallFix p m c cc nL s args Ts own) (hd : decode cc pc = .ok (.i2l, 1)) (hn : pc + 1 = nx) : dw_Snd p l e R s m args below meth c Q D aC b0 ex HB nL pc (o_i2l nx) := by
  subst hn
  intro B hB bc bs ls st μ h H locs ph cells slots hR hL hlo hc hs
  unfold o_i2l at h
  split at h
  next => exact lv_i2l X.1 X.2.1 hd rfl (hB _ _ _ _ _ _ h H locs ph cells slots hR hL hlo hc hs)
  next => exact h.elim
theorem s_lor {nx : Nat} (X : CallFix p m c cc nL s args Ts own) (hd : decode cc pc = .ok (.lor, 1)) (hn : pc + 1 = nx) : dw_Snd p l e R s m args below meth c Q D aC b0 ex HB nL pc (o_lor nx) := by
  subst hn
  intro B hB bc bs ls st μ h H locs ph cells slots hR hL hlo hc hs
  unfold o_lor at h
  split at h
  next => exact lv_lor X.1 X.2.1 hd (hB _ _ _ _ _ _ h H locs ph cells slots hR hL hlo hc hs)
  next => exact h.elim
theorem s_lshl {nx : Nat} (X : CallFix p m c cc nL s args Ts own) (hd : decode cc pc = .ok (.lshl, 1)) (hn : pc + 1 = nx) : dw_Snd p l e R s m args below meth c Q D aC b0 ex HB nL pc (o_lshl nx) := by
  subst hn
  intro B hB bc bs ls st μ h H locs ph cells slots hR hL hlo hc hs
  unfold o_lshl at h
  split at h
  next => exact lv_lshl X.1 X.2.1 hd rfl (hB _ _ _ _ _ _ h H locs ph cells slots hR hL hlo hc hs)
  next => exact h.elim
theorem s_lcmp {nx : Nat} (X : CallFix p m c cc nL s args Ts own) (hd : decode cc pc = .ok (.lcmp, 1)) (hn : pc + 1 = nx) : dw_Snd p l e R s m args below meth c Q D aC b0 ex HB nL pc (o_lcmp nx) := by
  subst hn
  intro B hB bc bs ls st μ h H locs ph cells slots hR hL hlo hc hs
  unfold o_lcmp at h
  split at h
  next => exact W.lcmp X.1 X.2.1 hd (hB _ _ _ _ _ _ h H locs ph cells slots hR hL hlo hc hs)
  next => exact h.elim
theorem s_icmp_eq {off : Int} {tg nx : Nat} (X : CallFix p m c cc nL s args Ts own) (hd : decode cc pc = .ok (.if_icmp .eq off, 3)) (ht : (pc : Int) + off = (tg : Int)) (hn : pc + 3 = nx) : dw_Snd p l e R s m args below meth c Q D aC b0 ex HB nL pc (o_icmp_eq tg nx) := by
  subst hn
  intro B hB bc bs ls st μ h H locs ph cells slots hR hL hlo hc hs
  unfold o_icmp_eq at h
  split at h
  next => exact lv_icmp_eq X.1 X.2.1 hd ht (fun q => by rw [if_pos q] at h; exact hB _ _ _ _ _ _ h H locs ph cells slots hR hL hlo hc hs) (fun q => by rw [if_neg q] at h; exact hB _ _ _ _ _ _ h H locs ph cells slots hR hL hlo hc hs)
  next => exact h.elim
theorem s_icmp_ne {off : Int} {tg nx : Nat} (X : CallFix p m c cc nL s args Ts own) (hd : decode cc pc = .ok (.if_icmp .ne off, 3)) (ht : (pc : Int) + off = (tg : Int)) (hn : pc + 3 = nx) : dw_Snd p l e R s m args below meth c Q D aC b0 ex HB nL pc (o_icmp_ne tg nx) := by
  subst hn
  intro B hB bc bs ls st μ h H locs ph cells slots hR hL hlo hc hs
  unfold o_icmp_ne at h
  split at h
  next => exact lv_icmp_ne X.1 X.2.1 hd ht (fun q => by rw [if_neg q] at h; exact hB _ _ _ _ _ _ h H locs ph cells slots hR hL hlo hc hs) (fun q => by rw [if_pos q] at h; exact hB _ _ _ _ _ _ h H locs ph cells slots hR hL hlo hc hs)
  next => exact h.elim
theorem s_icmp_lt {off : Int} {tg nx : Nat} (X : CallFix p m c cc nL s args Ts own) (hd : decode cc pc = .ok (.if_icmp .lt off, 3)) (ht : (pc : Int) + off = (tg : Int)) (hn : pc + 3 = nx) : dw_Snd p l e R s m args below meth c Q D aC b0 ex HB nL pc (o_icmp_lt tg nx) := by
  subst hn
  intro B hB bc bs ls st μ h H locs ph cells slots hR hL hlo hc hs
  unfold o_icmp_lt at h
  split at h
  next => exact lv_icmp_lt X.1 X.2.1 hd ht (fun q => by rw [if_pos q] at h; exact hB _ _ _ _ _ _ h H locs ph cells slots hR hL hlo hc hs) (fun q => by rw [if_neg q] at h; exact hB _ _ _ _ _ _ h H locs ph cells slots hR hL hlo hc hs)
  next => exact h.elim
theorem s_icmp_ge {off : Int} {tg nx : Nat} (X : CallFix p m c cc nL s args Ts own) (hd : decode cc pc = .ok (.if_icmp .ge off, 3)) (ht : (pc : Int) + off = (tg : Int)) (hn : pc + 3 = nx) : dw_Snd p l e R s m args below meth c Q D aC b0 ex HB nL pc (o_icmp_ge tg nx) := by
  subst hn
  intro B hB bc bs ls st μ h H locs ph cells slots hR hL hlo hc hs
  unfold o_icmp_ge at h
  split at h
  next => exact lv_icmp_ge X.1 X.2.1 hd ht (fun q => by rw [if_pos q] at h; exact hB _ _ _ _ _ _ h H locs ph cells slots hR hL hlo hc hs) (fun q => by rw [if_neg q] at h; exact hB _ _ _ _ _ _ h H locs ph cells slots hR hL hlo hc hs)
  next => exact h.elim
theorem s_icmp_gt {off : Int} {tg nx : Nat} (X : CallFix p m c cc nL s args Ts own) (hd : decode cc pc = .ok (.if_icmp .gt off, 3)) (ht : (pc : Int) + off = (tg : Int)) (hn : pc + 3 = nx) : dw_Snd p l e R s m args below meth c Q D aC b0 ex HB nL pc (o_icmp_gt tg nx) := by
  subst hn
  intro B hB bc bs ls st μ h H locs ph cells slots hR hL hlo hc hs
  unfold o_icmp_gt at h
  split at h
  next => exact lv_icmp_gt X.1 X.2.1 hd ht (fun q => by rw [if_pos q] at h; exact hB _ _ _ _ _ _ h H locs ph cells slots hR hL hlo hc hs) (fun q => by rw [if_neg q] at h; exact hB _ _ _ _ _ _ h H locs ph cells slots hR hL hlo hc hs)
  next => exact h.elim
theorem s_icmp_le {off : Int} {tg nx : Nat} (X : CallFix p m c cc nL s args Ts own) (hd : decode cc pc = .ok (.if_icmp .le off, 3)) (ht : (pc : Int) + off = (tg : Int)) (hn : pc + 3 = nx) : dw_Snd p l e R s m args below meth c Q D aC b0 ex HB nL pc (o_icmp_le tg nx) := by
  subst hn
  intro B hB bc bs ls st μ h H locs ph cells slots hR hL hlo hc hs
  unfold o_icmp_le at h
  split at h
  next => exact lv_icmp_le X.1 X.2.1 hd ht (fun q => by rw [if_pos q] at h; exact hB _ _ _ _ _ _ h H locs ph cells slots hR hL hlo hc hs) (fun q => by rw [if_neg q] at h; exact hB _ _ _ _ _ _ h H locs ph cells slots hR hL hlo hc hs)
  next => exact h.elim
theorem s_if_eq {off : Int} {tg nx : Nat} (X : CallFix p m c cc nL s args Ts own) (hd : decode cc pc = .ok (.ifCond .eq off, 3)) (ht : (pc : Int) + off = (tg : Int)) (hn : pc + 3 = nx) : dw_Snd p l e R s m args below meth c Q D aC b0 ex HB nL pc (o_if_eq tg nx) := by
  subst hn
  intro B hB bc bs ls st μ h H locs ph cells slots hR hL hlo hc hs
  unfold o_if_eq at h
  split at h
  next => exact lv_if_eq X.1 X.2.1 hd ht (fun q => by rw [if_pos q] at h; exact hB _ _ _ _ _ _ h H locs ph cells slots hR hL hlo hc hs) (fun q => by rw [if_neg q] at h; exact hB _ _ _ _ _ _ h H locs ph cells slots hR hL hlo hc hs)
  next => exact h.elim
theorem s_if_ne {off : Int} {tg nx : Nat} (X : CallFix p m c cc nL s args Ts own) (hd : decode cc pc = .ok (.ifCond .ne off, 3)) (ht : (pc : Int) + off = (tg : Int)) (hn : pc + 3 = nx) : dw_Snd p l e R s m args below meth c Q D aC b0 ex HB nL pc (o_if_ne tg nx) := by
  subst hn
  intro B hB bc bs ls st μ h H locs ph cells slots hR hL hlo hc hs
  unfold o_if_ne at h
  split at h
  next => exact lv_if_ne X.1 X.2.1 hd ht (fun q => by rw [if_neg q] at h; exact hB _ _ _ _ _ _ h H locs ph cells slots hR hL hlo hc hs) (fun q => by rw [if_pos q] at h; exact hB _ _ _ _ _ _ h H locs ph cells slots hR hL hlo hc hs)
  next => exact h.elim
theorem s_if_lt {off : Int} {tg nx : Nat} (X : CallFix p m c cc nL s args Ts own) (hd : decode cc pc = .ok (.ifCond .lt off, 3)) (ht : (pc : Int) + off = (tg : Int)) (hn : pc + 3 = nx) : dw_Snd p l e R s m args below meth c Q D aC b0 ex HB nL pc (o_if_lt tg nx) := by
  subst hn
  intro B hB bc bs ls st μ h H locs ph cells slots hR hL hlo hc hs
  unfold o_if_lt at h
  split at h
  next => exact lv_if_lt X.1 X.2.1 hd ht (fun q => by rw [if_pos q] at h; exact hB _ _ _ _ _ _ h H locs ph cells slots hR hL hlo hc hs) (fun q => by rw [if_neg q] at h; exact hB _ _ _ _ _ _ h H locs ph cells slots hR hL hlo hc hs)
  next => exact h.elim
theorem s_if_ge {off : Int} {tg nx : Nat} (X : CallFix p m c cc nL s args Ts own) (hd : decode cc pc = .ok (.ifCond .ge off, 3)) (ht : (pc : Int) + off = (tg : Int)) (hn : pc + 3 = nx) : dw_Snd p l e R s m args below meth c Q D aC b0 ex HB nL pc (o_if_ge tg nx) := by
  subst hn
  intro B hB bc bs ls st μ h H locs ph cells slots hR hL hlo hc hs
  unfold o_if_ge at h
  split at h
  next => exact lv_if_ge X.1 X.2.1 hd ht (fun q => by rw [if_pos q] at h; exact hB _ _ _ _ _ _ h H locs ph cells slots hR hL hlo hc hs) (fun q => by rw [if_neg q] at h; exact hB _ _ _ _ _ _ h H locs ph cells slots hR hL hlo hc hs)
  next => exact h.elim
theorem s_if_gt {off : Int} {tg nx : Nat} (X : CallFix p m c cc nL s args Ts own) (hd : decode cc pc = .ok (.ifCond .gt off, 3)) (ht : (pc : Int) + off = (tg : Int)) (hn : pc + 3 = nx) : dw_Snd p l e R s m args below meth c Q D aC b0 ex HB nL pc (o_if_gt tg nx) := by
  subst hn
  intro B hB bc bs ls st μ h H locs ph cells slots hR hL hlo hc hs
  unfold o_if_gt at h
  split at h
  next => exact lv_if_gt X.1 X.2.1 hd ht (fun q => by rw [if_pos q] at h; exact hB _ _ _ _ _ _ h H locs ph cells slots hR hL hlo hc hs) (fun q => by rw [if_neg q] at h; exact hB _ _ _ _ _ _ h H locs ph cells slots hR hL hlo hc hs)
  next => exact h.elim
theorem s_if_le {off : Int} {tg nx : Nat} (X : CallFix p m c cc nL s args Ts own) (hd : decode cc pc = .ok (.ifCond .le off, 3)) (ht : (pc : Int) + off = (tg : Int)) (hn : pc + 3 = nx) : dw_Snd p l e R s m args below meth c Q D aC b0 ex HB nL pc (o_if_le tg nx) := by
  subst hn
  intro B hB bc bs ls st μ h H locs ph cells slots hR hL hlo hc hs
  unfold o_if_le at h
  split at h
  next => exact lv_if_le X.1 X.2.1 hd ht (fun q => by rw [if_pos q] at h; exact hB _ _ _ _ _ _ h H locs ph cells slots hR hL hlo hc hs) (fun q => by rw [if_neg q] at h; exact hB _ _ _ _ _ _ h H locs ph cells slots hR hL hlo hc hs)
  next => exact h.elim
end DWS
