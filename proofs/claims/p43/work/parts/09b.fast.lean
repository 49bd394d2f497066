/-! ===== many rows by one run ===== -/
def fq_P (c : ByteArray) : List (Nat × Instr × Nat) → Prop
  | [] => True
  | (pc, i, n) :: t => decode c pc = .ok (i, n) ∧ fq_P c t
def fq_B (c : ByteArray) : List (Nat × Instr × Nat) → Bool
  | [] => true
  | (pc, i, n) :: t => decide (decode c pc = .ok (i, n)) && fq_B c t
theorem fq_of {c : ByteArray} : ∀ {t : List (Nat × Instr × Nat)}, fq_B c t = true → fq_P c t
  | [], _ => trivial
  | (pc, i, n) :: t, h => by
    have h2 : (decide (decode c pc = .ok (i, n)) && fq_B c t) = true := h
    rw [Bool.and_eq_true, decide_eq_true_eq] at h2
    exact ⟨h2.1, fq_of h2.2⟩
def fq_Q (c : ByteArray) : List (List (Nat × Instr × Nat)) → Prop
  | [] => True
  | l :: t => fq_P c l ∧ fq_Q c t
def fq_C (c : ByteArray) : List (List (Nat × Instr × Nat)) → Bool
  | [] => true
  | l :: t => fq_B c l && fq_C c t
theorem fq_of2 {c : ByteArray} : ∀ {t : List (List (Nat × Instr × Nat))}, fq_C c t = true → fq_Q c t
  | [], _ => trivial
  | l :: t, h => by
    have h2 : (fq_B c l && fq_C c t) = true := h
    rw [Bool.and_eq_true] at h2
    exact ⟨fq_of h2.1, fq_of2 h2.2⟩
theorem fm_of {T : List Cond} {i : Nat} {w : Cond} (hT : ∀ w ∈ T, w ∈ lw_tbl) (h : T[i]? = some w) (hg : goodWord w = true) : w ∈ dw_Tb := List.mem_filter.mpr ⟨hT w (List.mem_of_getElem? h), hg⟩
/-! ===== decode rows by a walk over the bytes ===== -/
abbrev fd_R (α : Type) := Jvm.ClassFile.Reader Jvm.ClassFile.DecodeError α
abbrev fd_1 : fd_R Nat := Jvm.ClassFile.Reader.u1
abbrev fd_i (pc : Nat) : fd_R Instr := Jvm.ClassFile.Decoder.instr pc
theorem fd_bind {α β : Type} {r : fd_R α} {f : α → fd_R β} {c : ByteArray} {p q : Nat} {a : α} (h : r c p = .ok (a, q)) : (r >>= f) c p = f a c q := by
  have e : (r >>= f) c p = Except.bind (r c p) (fun x => f x.1 c x.2) := rfl
  rw [e, h]
  rfl
theorem fd_map {α β : Type} {r : fd_R α} (g : α → β) {c : ByteArray} {p q : Nat} {a : α} (h : r c p = .ok (a, q)) : (g <$> r) c p = .ok (g a, q) := by
  have e : (g <$> r) c p = Except.map (fun x => (g x.1, x.2)) (r c p) := by
    cases hr : r c p with
    | error x =>
      show Except.bind (r c p) _ = _
      rw [hr]
      rfl
    | ok x =>
      show Except.bind (r c p) _ = _
      rw [hr]
      rfl
  rw [e, h]
  rfl
theorem fd_dr : ∀ (l : List UInt8) (p : Nat) {a : UInt8} {t : List UInt8}, l.drop p = a :: t → l.drop (p + 1) = t
  | [], 0, _, _, h => nomatch h
  | [], _ + 1, _, _, h => nomatch h
  | _ :: _, 0, _, _, h => by
    cases h
    rfl
  | _ :: l, p + 1, _, _, h => fd_dr l p h
theorem fd_ge : ∀ (l : List UInt8) (p : Nat) {a : UInt8} {t : List UInt8}, l.drop p = a :: t → l[p]? = some a
  | [], 0, _, _, h => nomatch h
  | [], _ + 1, _, _, h => nomatch h
  | _ :: _, 0, _, _, h => by
    cases h
    rfl
  | _ :: l, p + 1, _, _, h => by
    rw [List.getElem?_cons_succ]
    exact fd_ge l p h
theorem fd_dd (l : List UInt8) (p k : Nat) : (l.drop p).drop k = l.drop (p + k) := by
  simp only [List.drop_drop, Nat.add_comm]
theorem fd_u1 {c : ByteArray} {pc : Nat} {a : UInt8} {t : List UInt8} (h : c.data.toList.drop pc = a :: t) : fd_1 c pc = .ok (a.toNat, pc + 1) := by
  obtain ⟨hlt, hge⟩ := List.getElem?_eq_some_iff.mp (fd_ge _ _ h)
  have hc : pc < c.size := by simpa using hlt
  have hb : c[pc] = a := hge
  have e : fd_1 c pc = (if h : pc < c.size then (do set (pc + 1); pure c[pc].toNat) else throw (Jvm.ClassFile.HasTruncated.truncated pc) : fd_R Nat) c pc := rfl
  rw [e, dif_pos hc, hb]
  rfl
theorem fd_u2 {c : ByteArray} {pc : Nat} {a b : UInt8} {t : List UInt8} (h : c.data.toList.drop pc = a :: b :: t) : (Jvm.ClassFile.Reader.u2 : fd_R Nat) c pc = .ok (a.toNat * 256 + b.toNat, pc + 2) := by
  have h1 := fd_u1 h
  have h2 := fd_u1 (fd_dr _ _ h)
  exact (fd_bind (r := fd_1) h1).trans ((fd_bind (r := fd_1) h2).trans rfl)
theorem fd_s1 {c : ByteArray} {pc : Nat} {a : UInt8} {t : List UInt8} (h : c.data.toList.drop pc = a :: t) : (Jvm.ClassFile.Reader.s1 : fd_R Int) c pc = .ok (Jvm.ClassFile.Reader.signed 8 a.toNat, pc + 1) := fd_map (r := fd_1) _ (fd_u1 h)
theorem fd_s2 {c : ByteArray} {pc : Nat} {a b : UInt8} {t : List UInt8} (h : c.data.toList.drop pc = a :: b :: t) : (Jvm.ClassFile.Reader.s2 : fd_R Int) c pc = .ok (Jvm.ClassFile.Reader.signed 16 (a.toNat * 256 + b.toNat), pc + 2) := fd_map (r := (Jvm.ClassFile.Reader.u2 : fd_R Nat)) _ (fd_u2 h)
theorem fd_dec {c : ByteArray} {pc k : Nat} {i : Instr} (h : fd_i pc c pc = .ok (i, pc + k)) : decode c pc = .ok (i, k) := by
  have e : decode c pc = Except.bind (fd_i pc c pc) (fun x => .ok (x.1, x.2 - pc)) := rfl
  rw [e, h]
  show Except.ok (i, pc + k - pc) = _
  rw [Nat.add_sub_cancel_left]
def fc_0 (l : List UInt8) (op n : Nat) : Bool := match l with
  | a :: _ => Nat.beq a.toNat op && Nat.beq n 1
  | _ => false
def fc_1 (l : List UInt8) (op k n : Nat) : Bool := match l with
  | a :: b :: _ => Nat.beq a.toNat op && (Nat.beq b.toNat k && Nat.beq n 2)
  | _ => false
def fc_s1 (l : List UInt8) (op : Nat) (k : Int) (n : Nat) : Bool := match l with
  | a :: b :: _ => Nat.beq a.toNat op && (decide (Jvm.ClassFile.Reader.signed 8 b.toNat = k) && Nat.beq n 2)
  | _ => false
def fc_2 (l : List UInt8) (op k n : Nat) : Bool := match l with
  | a :: b :: d :: _ => Nat.beq a.toNat op && (Nat.beq (b.toNat * 256 + d.toNat) k && Nat.beq n 3)
  | _ => false
def fc_s2 (l : List UInt8) (op : Nat) (k : Int) (n : Nat) : Bool := match l with
  | a :: b :: d :: _ => Nat.beq a.toNat op && (decide (Jvm.ClassFile.Reader.signed 16 (b.toNat * 256 + d.toNat) = k) && Nat.beq n 3)
  | _ => false
def fc_ii (l : List UInt8) (op k : Nat) (v : Int) (n : Nat) : Bool := match l with
  | a :: b :: d :: _ => Nat.beq a.toNat op && (Nat.beq b.toNat k && (decide (Jvm.ClassFile.Reader.signed 8 d.toNat = v) && Nat.beq n 3))
  | _ => false
section FO
variable {op n pc : Nat} {c : ByteArray} {l : List UInt8}
theorem fo_0 {I : Instr} (hI : ∀ (c : ByteArray) (pc : Nat), fd_1 c pc = .ok (op, pc + 1) → fd_i pc c pc = .ok (I, pc + 1)) (hl : c.data.toList.drop pc = l) (h : fc_0 l op n = true) : decode c pc = .ok (I, n) := by
  match l, hl, h with
  | [], _, h => exact absurd h Bool.false_ne_true
  | a :: t, hl, h =>
    have h2 : (Nat.beq a.toNat op && Nat.beq n 1) = true := h
    rw [Bool.and_eq_true] at h2
    have hu := fd_u1 hl
    rw [Nat.eq_of_beq_eq_true h2.1] at hu
    rw [Nat.eq_of_beq_eq_true h2.2]
    exact fd_dec (hI c pc hu)
theorem fo_1 {k : Nat} {I : Instr} (hI : ∀ (c : ByteArray) (pc : Nat), fd_1 c pc = .ok (op, pc + 1) → fd_1 c (pc + 1) = .ok (k, pc + 2) → fd_i pc c pc = .ok (I, pc + 2)) (hl : c.data.toList.drop pc = l) (h : fc_1 l op k n = true) : decode c pc = .ok (I, n) := by
  match l, hl, h with
  | [], _, h => exact absurd h Bool.false_ne_true
  | [_], _, h => exact absurd h Bool.false_ne_true
  | a :: b :: t, hl, h =>
    have h2 : (Nat.beq a.toNat op && (Nat.beq b.toNat k && Nat.beq n 2)) = true := h
    rw [Bool.and_eq_true, Bool.and_eq_true] at h2
    have hu := fd_u1 hl
    rw [Nat.eq_of_beq_eq_true h2.1] at hu
    have hv := fd_u1 (fd_dr _ _ hl)
    rw [Nat.eq_of_beq_eq_true h2.2.1] at hv
    rw [Nat.eq_of_beq_eq_true h2.2.2]
    exact fd_dec (hI c pc hu hv)
theorem fo_s1 {k : Int} {I : Instr} (hI : ∀ (c : ByteArray) (pc : Nat), fd_1 c pc = .ok (op, pc + 1) → (Jvm.ClassFile.Reader.s1 : fd_R Int) c (pc + 1) = .ok (k, pc + 2) → fd_i pc c pc = .ok (I, pc + 2)) (hl : c.data.toList.drop pc = l) (h : fc_s1 l op k n = true) : decode c pc = .ok (I, n) := by
  match l, hl, h with
  | [], _, h => exact absurd h Bool.false_ne_true
  | [_], _, h => exact absurd h Bool.false_ne_true
  | a :: b :: t, hl, h =>
    have h2 : (Nat.beq a.toNat op && (decide (Jvm.ClassFile.Reader.signed 8 b.toNat = k) && Nat.beq n 2)) = true := h
    rw [Bool.and_eq_true, Bool.and_eq_true] at h2
    have hu := fd_u1 hl
    rw [Nat.eq_of_beq_eq_true h2.1] at hu
    have hv := fd_s1 (fd_dr _ _ hl)
    rw [of_decide_eq_true h2.2.1] at hv
    rw [Nat.eq_of_beq_eq_true h2.2.2]
    exact fd_dec (hI c pc hu hv)
theorem fo_2 {k : Nat} {I : Instr} (hI : ∀ (c : ByteArray) (pc : Nat), fd_1 c pc = .ok (op, pc + 1) → (Jvm.ClassFile.Reader.u2 : fd_R Nat) c (pc + 1) = .ok (k, pc + 3) → fd_i pc c pc = .ok (I, pc + 3)) (hl : c.data.toList.drop pc = l) (h : fc_2 l op k n = true) : decode c pc = .ok (I, n) := by
  match l, hl, h with
  | [], _, h => exact absurd h Bool.false_ne_true
  | [_], _, h => exact absurd h Bool.false_ne_true
  | [_, _], _, h => exact absurd h Bool.false_ne_true
  | a :: b :: d :: t, hl, h =>
    have h2 : (Nat.beq a.toNat op && (Nat.beq (b.toNat * 256 + d.toNat) k && Nat.beq n 3)) = true := h
    rw [Bool.and_eq_true, Bool.and_eq_true] at h2
    have hu := fd_u1 hl
    rw [Nat.eq_of_beq_eq_true h2.1] at hu
    have hv := fd_u2 (fd_dr _ _ hl)
    rw [Nat.eq_of_beq_eq_true h2.2.1] at hv
    rw [Nat.eq_of_beq_eq_true h2.2.2]
    exact fd_dec (hI c pc hu hv)
theorem fo_s2 {k : Int} {I : Instr} (hI : ∀ (c : ByteArray) (pc : Nat), fd_1 c pc = .ok (op, pc + 1) → (Jvm.ClassFile.Reader.s2 : fd_R Int) c (pc + 1) = .ok (k, pc + 3) → fd_i pc c pc = .ok (I, pc + 3)) (hl : c.data.toList.drop pc = l) (h : fc_s2 l op k n = true) : decode c pc = .ok (I, n) := by
  match l, hl, h with
  | [], _, h => exact absurd h Bool.false_ne_true
  | [_], _, h => exact absurd h Bool.false_ne_true
  | [_, _], _, h => exact absurd h Bool.false_ne_true
  | a :: b :: d :: t, hl, h =>
    have h2 : (Nat.beq a.toNat op && (decide (Jvm.ClassFile.Reader.signed 16 (b.toNat * 256 + d.toNat) = k) && Nat.beq n 3)) = true := h
    rw [Bool.and_eq_true, Bool.and_eq_true] at h2
    have hu := fd_u1 hl
    rw [Nat.eq_of_beq_eq_true h2.1] at hu
    have hv := fd_s2 (fd_dr _ _ hl)
    rw [of_decide_eq_true h2.2.1] at hv
    rw [Nat.eq_of_beq_eq_true h2.2.2]
    exact fd_dec (hI c pc hu hv)
theorem fo_ii {k : Nat} {v : Int} {I : Instr} (hI : ∀ (c : ByteArray) (pc : Nat), fd_1 c pc = .ok (op, pc + 1) → fd_1 c (pc + 1) = .ok (k, pc + 2) → (Jvm.ClassFile.Reader.s1 : fd_R Int) c (pc + 2) = .ok (v, pc + 3) → fd_i pc c pc = .ok (I, pc + 3)) (hl : c.data.toList.drop pc = l) (h : fc_ii l op k v n = true) : decode c pc = .ok (I, n) := by
  match l, hl, h with
  | [], _, h => exact absurd h Bool.false_ne_true
  | [_], _, h => exact absurd h Bool.false_ne_true
  | [_, _], _, h => exact absurd h Bool.false_ne_true
  | a :: b :: d :: t, hl, h =>
    have h2 : (Nat.beq a.toNat op && (Nat.beq b.toNat k && (decide (Jvm.ClassFile.Reader.signed 8 d.toNat = v) && Nat.beq n 3))) = true := h
    rw [Bool.and_eq_true, Bool.and_eq_true, Bool.and_eq_true] at h2
    have hu := fd_u1 hl
    rw [Nat.eq_of_beq_eq_true h2.1] at hu
    have hv := fd_u1 (fd_dr _ _ hl)
    rw [Nat.eq_of_beq_eq_true h2.2.1] at hv
    have hw := fd_s1 (fd_dr _ _ (fd_dr _ _ hl))
    rw [of_decide_eq_true h2.2.2.1] at hw
    rw [Nat.eq_of_beq_eq_true h2.2.2.2]
    exact fd_dec (hI c pc hu hv hw)
end FO
def fj_c : Jvm.ClassFile.Cond → Nat
  | .eq => 0
  | .ne => 1
  | .lt => 2
  | .ge => 3
  | .gt => 4
  | .le => 5
theorem fi_aaload (c : ByteArray) (pc : Nat) (h1 : fd_1 c pc = .ok (50, pc + 1)) : fd_i pc c pc = .ok (.aaload, pc + 1) := (fd_bind (r := fd_1) h1).trans rfl
theorem fi_aastore (c : ByteArray) (pc : Nat) (h1 : fd_1 c pc = .ok (83, pc + 1)) : fd_i pc c pc = .ok (.aastore, pc + 1) := (fd_bind (r := fd_1) h1).trans rfl
theorem fi_aconst_null (c : ByteArray) (pc : Nat) (h1 : fd_1 c pc = .ok (1, pc + 1)) : fd_i pc c pc = .ok (.aconst_null, pc + 1) := (fd_bind (r := fd_1) h1).trans rfl
theorem fi_aload {v : Nat} (c : ByteArray) (pc : Nat) (h1 : fd_1 c pc = .ok (25, pc + 1)) (h2 : fd_1 c (pc + 1) = .ok (v, pc + 2)) : fd_i pc c pc = .ok (.aload v, pc + 2) := (fd_bind (r := fd_1) h1).trans ((fd_bind (r := fd_1) h2).trans rfl)
theorem fi_aload_n_0 (c : ByteArray) (pc : Nat) (h1 : fd_1 c pc = .ok (42, pc + 1)) : fd_i pc c pc = .ok (.aload_n 0, pc + 1) := (fd_bind (r := fd_1) h1).trans rfl
theorem fi_aload_n_1 (c : ByteArray) (pc : Nat) (h1 : fd_1 c pc = .ok (43, pc + 1)) : fd_i pc c pc = .ok (.aload_n 1, pc + 1) := (fd_bind (r := fd_1) h1).trans rfl
theorem fi_aload_n_2 (c : ByteArray) (pc : Nat) (h1 : fd_1 c pc = .ok (44, pc + 1)) : fd_i pc c pc = .ok (.aload_n 2, pc + 1) := (fd_bind (r := fd_1) h1).trans rfl
theorem fi_aload_n_3 (c : ByteArray) (pc : Nat) (h1 : fd_1 c pc = .ok (45, pc + 1)) : fd_i pc c pc = .ok (.aload_n 3, pc + 1) := (fd_bind (r := fd_1) h1).trans rfl
theorem fi_anewarray {v : Nat} (c : ByteArray) (pc : Nat) (h1 : fd_1 c pc = .ok (189, pc + 1)) (h2 : (Jvm.ClassFile.Reader.u2 : fd_R Nat) c (pc + 1) = .ok (v, pc + 3)) : fd_i pc c pc = .ok (.anewarray v, pc + 3) := (fd_bind (r := fd_1) h1).trans ((fd_bind (r := (Jvm.ClassFile.Reader.u2 : fd_R Nat)) h2).trans rfl)
theorem fi_areturn (c : ByteArray) (pc : Nat) (h1 : fd_1 c pc = .ok (176, pc + 1)) : fd_i pc c pc = .ok (.areturn, pc + 1) := (fd_bind (r := fd_1) h1).trans rfl
theorem fi_arraylength (c : ByteArray) (pc : Nat) (h1 : fd_1 c pc = .ok (190, pc + 1)) : fd_i pc c pc = .ok (.arraylength, pc + 1) := (fd_bind (r := fd_1) h1).trans rfl
theorem fi_astore {v : Nat} (c : ByteArray) (pc : Nat) (h1 : fd_1 c pc = .ok (58, pc + 1)) (h2 : fd_1 c (pc + 1) = .ok (v, pc + 2)) : fd_i pc c pc = .ok (.astore v, pc + 2) := (fd_bind (r := fd_1) h1).trans ((fd_bind (r := fd_1) h2).trans rfl)
theorem fi_astore_n_0 (c : ByteArray) (pc : Nat) (h1 : fd_1 c pc = .ok (75, pc + 1)) : fd_i pc c pc = .ok (.astore_n 0, pc + 1) := (fd_bind (r := fd_1) h1).trans rfl
theorem fi_astore_n_1 (c : ByteArray) (pc : Nat) (h1 : fd_1 c pc = .ok (76, pc + 1)) : fd_i pc c pc = .ok (.astore_n 1, pc + 1) := (fd_bind (r := fd_1) h1).trans rfl
theorem fi_astore_n_2 (c : ByteArray) (pc : Nat) (h1 : fd_1 c pc = .ok (77, pc + 1)) : fd_i pc c pc = .ok (.astore_n 2, pc + 1) := (fd_bind (r := fd_1) h1).trans rfl
theorem fi_astore_n_3 (c : ByteArray) (pc : Nat) (h1 : fd_1 c pc = .ok (78, pc + 1)) : fd_i pc c pc = .ok (.astore_n 3, pc + 1) := (fd_bind (r := fd_1) h1).trans rfl
theorem fi_athrow (c : ByteArray) (pc : Nat) (h1 : fd_1 c pc = .ok (191, pc + 1)) : fd_i pc c pc = .ok (.athrow, pc + 1) := (fd_bind (r := fd_1) h1).trans rfl
theorem fi_baload (c : ByteArray) (pc : Nat) (h1 : fd_1 c pc = .ok (51, pc + 1)) : fd_i pc c pc = .ok (.baload, pc + 1) := (fd_bind (r := fd_1) h1).trans rfl
theorem fi_bastore (c : ByteArray) (pc : Nat) (h1 : fd_1 c pc = .ok (84, pc + 1)) : fd_i pc c pc = .ok (.bastore, pc + 1) := (fd_bind (r := fd_1) h1).trans rfl
theorem fi_bipush {v : Int} (c : ByteArray) (pc : Nat) (h1 : fd_1 c pc = .ok (16, pc + 1)) (h2 : (Jvm.ClassFile.Reader.s1 : fd_R Int) c (pc + 1) = .ok (v, pc + 2)) : fd_i pc c pc = .ok (.bipush v, pc + 2) := (fd_bind (r := fd_1) h1).trans ((fd_bind (r := (Jvm.ClassFile.Reader.s1 : fd_R Int)) h2).trans rfl)
theorem fi_dup (c : ByteArray) (pc : Nat) (h1 : fd_1 c pc = .ok (89, pc + 1)) : fd_i pc c pc = .ok (.dup, pc + 1) := (fd_bind (r := fd_1) h1).trans rfl
theorem fi_dup2 (c : ByteArray) (pc : Nat) (h1 : fd_1 c pc = .ok (92, pc + 1)) : fd_i pc c pc = .ok (.dup2, pc + 1) := (fd_bind (r := fd_1) h1).trans rfl
theorem fi_getfield {v : Nat} (c : ByteArray) (pc : Nat) (h1 : fd_1 c pc = .ok (180, pc + 1)) (h2 : (Jvm.ClassFile.Reader.u2 : fd_R Nat) c (pc + 1) = .ok (v, pc + 3)) : fd_i pc c pc = .ok (.getfield v, pc + 3) := (fd_bind (r := fd_1) h1).trans ((fd_bind (r := (Jvm.ClassFile.Reader.u2 : fd_R Nat)) h2).trans rfl)
theorem fi_getstatic {v : Nat} (c : ByteArray) (pc : Nat) (h1 : fd_1 c pc = .ok (178, pc + 1)) (h2 : (Jvm.ClassFile.Reader.u2 : fd_R Nat) c (pc + 1) = .ok (v, pc + 3)) : fd_i pc c pc = .ok (.getstatic v, pc + 3) := (fd_bind (r := fd_1) h1).trans ((fd_bind (r := (Jvm.ClassFile.Reader.u2 : fd_R Nat)) h2).trans rfl)
theorem fi_goto {v : Int} (c : ByteArray) (pc : Nat) (h1 : fd_1 c pc = .ok (167, pc + 1)) (h2 : (Jvm.ClassFile.Reader.s2 : fd_R Int) c (pc + 1) = .ok (v, pc + 3)) : fd_i pc c pc = .ok (.goto v, pc + 3) := (fd_bind (r := fd_1) h1).trans ((fd_bind (r := (Jvm.ClassFile.Reader.s2 : fd_R Int)) h2).trans rfl)
theorem fi_i2b (c : ByteArray) (pc : Nat) (h1 : fd_1 c pc = .ok (145, pc + 1)) : fd_i pc c pc = .ok (.i2b, pc + 1) := (fd_bind (r := fd_1) h1).trans rfl
theorem fi_i2c (c : ByteArray) (pc : Nat) (h1 : fd_1 c pc = .ok (146, pc + 1)) : fd_i pc c pc = .ok (.i2c, pc + 1) := (fd_bind (r := fd_1) h1).trans rfl
theorem fi_i2l (c : ByteArray) (pc : Nat) (h1 : fd_1 c pc = .ok (133, pc + 1)) : fd_i pc c pc = .ok (.i2l, pc + 1) := (fd_bind (r := fd_1) h1).trans rfl
theorem fi_iadd (c : ByteArray) (pc : Nat) (h1 : fd_1 c pc = .ok (96, pc + 1)) : fd_i pc c pc = .ok (.iadd, pc + 1) := (fd_bind (r := fd_1) h1).trans rfl
theorem fi_iaload (c : ByteArray) (pc : Nat) (h1 : fd_1 c pc = .ok (46, pc + 1)) : fd_i pc c pc = .ok (.iaload, pc + 1) := (fd_bind (r := fd_1) h1).trans rfl
theorem fi_iand (c : ByteArray) (pc : Nat) (h1 : fd_1 c pc = .ok (126, pc + 1)) : fd_i pc c pc = .ok (.iand, pc + 1) := (fd_bind (r := fd_1) h1).trans rfl
theorem fi_iastore (c : ByteArray) (pc : Nat) (h1 : fd_1 c pc = .ok (79, pc + 1)) : fd_i pc c pc = .ok (.iastore, pc + 1) := (fd_bind (r := fd_1) h1).trans rfl
theorem fi_iconst_m (c : ByteArray) (pc : Nat) (h1 : fd_1 c pc = .ok (2, pc + 1)) : fd_i pc c pc = .ok (.iconst (-1), pc + 1) := (fd_bind (r := fd_1) h1).trans rfl
theorem fi_iconst_0 (c : ByteArray) (pc : Nat) (h1 : fd_1 c pc = .ok (3, pc + 1)) : fd_i pc c pc = .ok (.iconst 0, pc + 1) := (fd_bind (r := fd_1) h1).trans rfl
theorem fi_iconst_1 (c : ByteArray) (pc : Nat) (h1 : fd_1 c pc = .ok (4, pc + 1)) : fd_i pc c pc = .ok (.iconst 1, pc + 1) := (fd_bind (r := fd_1) h1).trans rfl
theorem fi_iconst_2 (c : ByteArray) (pc : Nat) (h1 : fd_1 c pc = .ok (5, pc + 1)) : fd_i pc c pc = .ok (.iconst 2, pc + 1) := (fd_bind (r := fd_1) h1).trans rfl
theorem fi_iconst_3 (c : ByteArray) (pc : Nat) (h1 : fd_1 c pc = .ok (6, pc + 1)) : fd_i pc c pc = .ok (.iconst 3, pc + 1) := (fd_bind (r := fd_1) h1).trans rfl
theorem fi_iconst_4 (c : ByteArray) (pc : Nat) (h1 : fd_1 c pc = .ok (7, pc + 1)) : fd_i pc c pc = .ok (.iconst 4, pc + 1) := (fd_bind (r := fd_1) h1).trans rfl
theorem fi_iconst_5 (c : ByteArray) (pc : Nat) (h1 : fd_1 c pc = .ok (8, pc + 1)) : fd_i pc c pc = .ok (.iconst 5, pc + 1) := (fd_bind (r := fd_1) h1).trans rfl
theorem fi_idiv (c : ByteArray) (pc : Nat) (h1 : fd_1 c pc = .ok (108, pc + 1)) : fd_i pc c pc = .ok (.idiv, pc + 1) := (fd_bind (r := fd_1) h1).trans rfl
theorem fi_ifCond_eq {v : Int} (c : ByteArray) (pc : Nat) (h1 : fd_1 c pc = .ok (153, pc + 1)) (h2 : (Jvm.ClassFile.Reader.s2 : fd_R Int) c (pc + 1) = .ok (v, pc + 3)) : fd_i pc c pc = .ok (.ifCond .eq v, pc + 3) := (fd_bind (r := fd_1) h1).trans ((fd_bind (r := (Jvm.ClassFile.Reader.s2 : fd_R Int)) h2).trans rfl)
theorem fi_ifCond_ne {v : Int} (c : ByteArray) (pc : Nat) (h1 : fd_1 c pc = .ok (154, pc + 1)) (h2 : (Jvm.ClassFile.Reader.s2 : fd_R Int) c (pc + 1) = .ok (v, pc + 3)) : fd_i pc c pc = .ok (.ifCond .ne v, pc + 3) := (fd_bind (r := fd_1) h1).trans ((fd_bind (r := (Jvm.ClassFile.Reader.s2 : fd_R Int)) h2).trans rfl)
theorem fi_ifCond_lt {v : Int} (c : ByteArray) (pc : Nat) (h1 : fd_1 c pc = .ok (155, pc + 1)) (h2 : (Jvm.ClassFile.Reader.s2 : fd_R Int) c (pc + 1) = .ok (v, pc + 3)) : fd_i pc c pc = .ok (.ifCond .lt v, pc + 3) := (fd_bind (r := fd_1) h1).trans ((fd_bind (r := (Jvm.ClassFile.Reader.s2 : fd_R Int)) h2).trans rfl)
theorem fi_ifCond_ge {v : Int} (c : ByteArray) (pc : Nat) (h1 : fd_1 c pc = .ok (156, pc + 1)) (h2 : (Jvm.ClassFile.Reader.s2 : fd_R Int) c (pc + 1) = .ok (v, pc + 3)) : fd_i pc c pc = .ok (.ifCond .ge v, pc + 3) := (fd_bind (r := fd_1) h1).trans ((fd_bind (r := (Jvm.ClassFile.Reader.s2 : fd_R Int)) h2).trans rfl)
theorem fi_ifCond_gt {v : Int} (c : ByteArray) (pc : Nat) (h1 : fd_1 c pc = .ok (157, pc + 1)) (h2 : (Jvm.ClassFile.Reader.s2 : fd_R Int) c (pc + 1) = .ok (v, pc + 3)) : fd_i pc c pc = .ok (.ifCond .gt v, pc + 3) := (fd_bind (r := fd_1) h1).trans ((fd_bind (r := (Jvm.ClassFile.Reader.s2 : fd_R Int)) h2).trans rfl)
theorem fi_ifCond_le {v : Int} (c : ByteArray) (pc : Nat) (h1 : fd_1 c pc = .ok (158, pc + 1)) (h2 : (Jvm.ClassFile.Reader.s2 : fd_R Int) c (pc + 1) = .ok (v, pc + 3)) : fd_i pc c pc = .ok (.ifCond .le v, pc + 3) := (fd_bind (r := fd_1) h1).trans ((fd_bind (r := (Jvm.ClassFile.Reader.s2 : fd_R Int)) h2).trans rfl)
theorem fi_if_icmp_eq {v : Int} (c : ByteArray) (pc : Nat) (h1 : fd_1 c pc = .ok (159, pc + 1)) (h2 : (Jvm.ClassFile.Reader.s2 : fd_R Int) c (pc + 1) = .ok (v, pc + 3)) : fd_i pc c pc = .ok (.if_icmp .eq v, pc + 3) := (fd_bind (r := fd_1) h1).trans ((fd_bind (r := (Jvm.ClassFile.Reader.s2 : fd_R Int)) h2).trans rfl)
theorem fi_if_icmp_ne {v : Int} (c : ByteArray) (pc : Nat) (h1 : fd_1 c pc = .ok (160, pc + 1)) (h2 : (Jvm.ClassFile.Reader.s2 : fd_R Int) c (pc + 1) = .ok (v, pc + 3)) : fd_i pc c pc = .ok (.if_icmp .ne v, pc + 3) := (fd_bind (r := fd_1) h1).trans ((fd_bind (r := (Jvm.ClassFile.Reader.s2 : fd_R Int)) h2).trans rfl)
theorem fi_if_icmp_lt {v : Int} (c : ByteArray) (pc : Nat) (h1 : fd_1 c pc = .ok (161, pc + 1)) (h2 : (Jvm.ClassFile.Reader.s2 : fd_R Int) c (pc + 1) = .ok (v, pc + 3)) : fd_i pc c pc = .ok (.if_icmp .lt v, pc + 3) := (fd_bind (r := fd_1) h1).trans ((fd_bind (r := (Jvm.ClassFile.Reader.s2 : fd_R Int)) h2).trans rfl)
theorem fi_if_icmp_ge {v : Int} (c : ByteArray) (pc : Nat) (h1 : fd_1 c pc = .ok (162, pc + 1)) (h2 : (Jvm.ClassFile.Reader.s2 : fd_R Int) c (pc + 1) = .ok (v, pc + 3)) : fd_i pc c pc = .ok (.if_icmp .ge v, pc + 3) := (fd_bind (r := fd_1) h1).trans ((fd_bind (r := (Jvm.ClassFile.Reader.s2 : fd_R Int)) h2).trans rfl)
theorem fi_if_icmp_gt {v : Int} (c : ByteArray) (pc : Nat) (h1 : fd_1 c pc = .ok (163, pc + 1)) (h2 : (Jvm.ClassFile.Reader.s2 : fd_R Int) c (pc + 1) = .ok (v, pc + 3)) : fd_i pc c pc = .ok (.if_icmp .gt v, pc + 3) := (fd_bind (r := fd_1) h1).trans ((fd_bind (r := (Jvm.ClassFile.Reader.s2 : fd_R Int)) h2).trans rfl)
theorem fi_if_icmp_le {v : Int} (c : ByteArray) (pc : Nat) (h1 : fd_1 c pc = .ok (164, pc + 1)) (h2 : (Jvm.ClassFile.Reader.s2 : fd_R Int) c (pc + 1) = .ok (v, pc + 3)) : fd_i pc c pc = .ok (.if_icmp .le v, pc + 3) := (fd_bind (r := fd_1) h1).trans ((fd_bind (r := (Jvm.ClassFile.Reader.s2 : fd_R Int)) h2).trans rfl)
theorem fi_ifnonnull {v : Int} (c : ByteArray) (pc : Nat) (h1 : fd_1 c pc = .ok (199, pc + 1)) (h2 : (Jvm.ClassFile.Reader.s2 : fd_R Int) c (pc + 1) = .ok (v, pc + 3)) : fd_i pc c pc = .ok (.ifnonnull v, pc + 3) := (fd_bind (r := fd_1) h1).trans ((fd_bind (r := (Jvm.ClassFile.Reader.s2 : fd_R Int)) h2).trans rfl)
theorem fi_ifnull {v : Int} (c : ByteArray) (pc : Nat) (h1 : fd_1 c pc = .ok (198, pc + 1)) (h2 : (Jvm.ClassFile.Reader.s2 : fd_R Int) c (pc + 1) = .ok (v, pc + 3)) : fd_i pc c pc = .ok (.ifnull v, pc + 3) := (fd_bind (r := fd_1) h1).trans ((fd_bind (r := (Jvm.ClassFile.Reader.s2 : fd_R Int)) h2).trans rfl)
theorem fi_iinc {u : Nat} {v : Int} (c : ByteArray) (pc : Nat) (h1 : fd_1 c pc = .ok (132, pc + 1)) (h2 : fd_1 c (pc + 1) = .ok (u, pc + 2)) (h3 : (Jvm.ClassFile.Reader.s1 : fd_R Int) c (pc + 2) = .ok (v, pc + 3)) : fd_i pc c pc = .ok (.iinc u v, pc + 3) := (fd_bind (r := fd_1) h1).trans ((fd_bind (r := fd_1) h2).trans ((fd_bind (r := (Jvm.ClassFile.Reader.s1 : fd_R Int)) h3).trans rfl))
theorem fi_iload {v : Nat} (c : ByteArray) (pc : Nat) (h1 : fd_1 c pc = .ok (21, pc + 1)) (h2 : fd_1 c (pc + 1) = .ok (v, pc + 2)) : fd_i pc c pc = .ok (.iload v, pc + 2) := (fd_bind (r := fd_1) h1).trans ((fd_bind (r := fd_1) h2).trans rfl)
theorem fi_iload_n_0 (c : ByteArray) (pc : Nat) (h1 : fd_1 c pc = .ok (26, pc + 1)) : fd_i pc c pc = .ok (.iload_n 0, pc + 1) := (fd_bind (r := fd_1) h1).trans rfl
theorem fi_iload_n_1 (c : ByteArray) (pc : Nat) (h1 : fd_1 c pc = .ok (27, pc + 1)) : fd_i pc c pc = .ok (.iload_n 1, pc + 1) := (fd_bind (r := fd_1) h1).trans rfl
theorem fi_iload_n_2 (c : ByteArray) (pc : Nat) (h1 : fd_1 c pc = .ok (28, pc + 1)) : fd_i pc c pc = .ok (.iload_n 2, pc + 1) := (fd_bind (r := fd_1) h1).trans rfl
theorem fi_iload_n_3 (c : ByteArray) (pc : Nat) (h1 : fd_1 c pc = .ok (29, pc + 1)) : fd_i pc c pc = .ok (.iload_n 3, pc + 1) := (fd_bind (r := fd_1) h1).trans rfl
theorem fi_imul (c : ByteArray) (pc : Nat) (h1 : fd_1 c pc = .ok (104, pc + 1)) : fd_i pc c pc = .ok (.imul, pc + 1) := (fd_bind (r := fd_1) h1).trans rfl
theorem fi_ineg (c : ByteArray) (pc : Nat) (h1 : fd_1 c pc = .ok (116, pc + 1)) : fd_i pc c pc = .ok (.ineg, pc + 1) := (fd_bind (r := fd_1) h1).trans rfl
theorem fi_invokespecial {v : Nat} (c : ByteArray) (pc : Nat) (h1 : fd_1 c pc = .ok (183, pc + 1)) (h2 : (Jvm.ClassFile.Reader.u2 : fd_R Nat) c (pc + 1) = .ok (v, pc + 3)) : fd_i pc c pc = .ok (.invokespecial v, pc + 3) := (fd_bind (r := fd_1) h1).trans ((fd_bind (r := (Jvm.ClassFile.Reader.u2 : fd_R Nat)) h2).trans rfl)
theorem fi_invokestatic {v : Nat} (c : ByteArray) (pc : Nat) (h1 : fd_1 c pc = .ok (184, pc + 1)) (h2 : (Jvm.ClassFile.Reader.u2 : fd_R Nat) c (pc + 1) = .ok (v, pc + 3)) : fd_i pc c pc = .ok (.invokestatic v, pc + 3) := (fd_bind (r := fd_1) h1).trans ((fd_bind (r := (Jvm.ClassFile.Reader.u2 : fd_R Nat)) h2).trans rfl)
theorem fi_invokevirtual {v : Nat} (c : ByteArray) (pc : Nat) (h1 : fd_1 c pc = .ok (182, pc + 1)) (h2 : (Jvm.ClassFile.Reader.u2 : fd_R Nat) c (pc + 1) = .ok (v, pc + 3)) : fd_i pc c pc = .ok (.invokevirtual v, pc + 3) := (fd_bind (r := fd_1) h1).trans ((fd_bind (r := (Jvm.ClassFile.Reader.u2 : fd_R Nat)) h2).trans rfl)
theorem fi_ior (c : ByteArray) (pc : Nat) (h1 : fd_1 c pc = .ok (128, pc + 1)) : fd_i pc c pc = .ok (.ior, pc + 1) := (fd_bind (r := fd_1) h1).trans rfl
theorem fi_irem (c : ByteArray) (pc : Nat) (h1 : fd_1 c pc = .ok (112, pc + 1)) : fd_i pc c pc = .ok (.irem, pc + 1) := (fd_bind (r := fd_1) h1).trans rfl
theorem fi_ireturn (c : ByteArray) (pc : Nat) (h1 : fd_1 c pc = .ok (172, pc + 1)) : fd_i pc c pc = .ok (.ireturn, pc + 1) := (fd_bind (r := fd_1) h1).trans rfl
theorem fi_ishl (c : ByteArray) (pc : Nat) (h1 : fd_1 c pc = .ok (120, pc + 1)) : fd_i pc c pc = .ok (.ishl, pc + 1) := (fd_bind (r := fd_1) h1).trans rfl
theorem fi_ishr (c : ByteArray) (pc : Nat) (h1 : fd_1 c pc = .ok (122, pc + 1)) : fd_i pc c pc = .ok (.ishr, pc + 1) := (fd_bind (r := fd_1) h1).trans rfl
theorem fi_istore {v : Nat} (c : ByteArray) (pc : Nat) (h1 : fd_1 c pc = .ok (54, pc + 1)) (h2 : fd_1 c (pc + 1) = .ok (v, pc + 2)) : fd_i pc c pc = .ok (.istore v, pc + 2) := (fd_bind (r := fd_1) h1).trans ((fd_bind (r := fd_1) h2).trans rfl)
theorem fi_istore_n_0 (c : ByteArray) (pc : Nat) (h1 : fd_1 c pc = .ok (59, pc + 1)) : fd_i pc c pc = .ok (.istore_n 0, pc + 1) := (fd_bind (r := fd_1) h1).trans rfl
theorem fi_istore_n_1 (c : ByteArray) (pc : Nat) (h1 : fd_1 c pc = .ok (60, pc + 1)) : fd_i pc c pc = .ok (.istore_n 1, pc + 1) := (fd_bind (r := fd_1) h1).trans rfl
theorem fi_istore_n_2 (c : ByteArray) (pc : Nat) (h1 : fd_1 c pc = .ok (61, pc + 1)) : fd_i pc c pc = .ok (.istore_n 2, pc + 1) := (fd_bind (r := fd_1) h1).trans rfl
theorem fi_istore_n_3 (c : ByteArray) (pc : Nat) (h1 : fd_1 c pc = .ok (62, pc + 1)) : fd_i pc c pc = .ok (.istore_n 3, pc + 1) := (fd_bind (r := fd_1) h1).trans rfl
theorem fi_isub (c : ByteArray) (pc : Nat) (h1 : fd_1 c pc = .ok (100, pc + 1)) : fd_i pc c pc = .ok (.isub, pc + 1) := (fd_bind (r := fd_1) h1).trans rfl
theorem fi_iushr (c : ByteArray) (pc : Nat) (h1 : fd_1 c pc = .ok (124, pc + 1)) : fd_i pc c pc = .ok (.iushr, pc + 1) := (fd_bind (r := fd_1) h1).trans rfl
theorem fi_laload (c : ByteArray) (pc : Nat) (h1 : fd_1 c pc = .ok (47, pc + 1)) : fd_i pc c pc = .ok (.laload, pc + 1) := (fd_bind (r := fd_1) h1).trans rfl
theorem fi_lastore (c : ByteArray) (pc : Nat) (h1 : fd_1 c pc = .ok (80, pc + 1)) : fd_i pc c pc = .ok (.lastore, pc + 1) := (fd_bind (r := fd_1) h1).trans rfl
theorem fi_lcmp (c : ByteArray) (pc : Nat) (h1 : fd_1 c pc = .ok (148, pc + 1)) : fd_i pc c pc = .ok (.lcmp, pc + 1) := (fd_bind (r := fd_1) h1).trans rfl
theorem fi_lconst_0 (c : ByteArray) (pc : Nat) (h1 : fd_1 c pc = .ok (9, pc + 1)) : fd_i pc c pc = .ok (.lconst 0, pc + 1) := (fd_bind (r := fd_1) h1).trans rfl
theorem fi_lconst_1 (c : ByteArray) (pc : Nat) (h1 : fd_1 c pc = .ok (10, pc + 1)) : fd_i pc c pc = .ok (.lconst 1, pc + 1) := (fd_bind (r := fd_1) h1).trans rfl
theorem fi_ldc {v : Nat} (c : ByteArray) (pc : Nat) (h1 : fd_1 c pc = .ok (18, pc + 1)) (h2 : fd_1 c (pc + 1) = .ok (v, pc + 2)) : fd_i pc c pc = .ok (.ldc v, pc + 2) := (fd_bind (r := fd_1) h1).trans ((fd_bind (r := fd_1) h2).trans rfl)
theorem fi_ldc2_w {v : Nat} (c : ByteArray) (pc : Nat) (h1 : fd_1 c pc = .ok (20, pc + 1)) (h2 : (Jvm.ClassFile.Reader.u2 : fd_R Nat) c (pc + 1) = .ok (v, pc + 3)) : fd_i pc c pc = .ok (.ldc2_w v, pc + 3) := (fd_bind (r := fd_1) h1).trans ((fd_bind (r := (Jvm.ClassFile.Reader.u2 : fd_R Nat)) h2).trans rfl)
theorem fi_ldc_w {v : Nat} (c : ByteArray) (pc : Nat) (h1 : fd_1 c pc = .ok (19, pc + 1)) (h2 : (Jvm.ClassFile.Reader.u2 : fd_R Nat) c (pc + 1) = .ok (v, pc + 3)) : fd_i pc c pc = .ok (.ldc_w v, pc + 3) := (fd_bind (r := fd_1) h1).trans ((fd_bind (r := (Jvm.ClassFile.Reader.u2 : fd_R Nat)) h2).trans rfl)
theorem fi_lload_n_0 (c : ByteArray) (pc : Nat) (h1 : fd_1 c pc = .ok (30, pc + 1)) : fd_i pc c pc = .ok (.lload_n 0, pc + 1) := (fd_bind (r := fd_1) h1).trans rfl
theorem fi_lload_n_1 (c : ByteArray) (pc : Nat) (h1 : fd_1 c pc = .ok (31, pc + 1)) : fd_i pc c pc = .ok (.lload_n 1, pc + 1) := (fd_bind (r := fd_1) h1).trans rfl
theorem fi_lload_n_2 (c : ByteArray) (pc : Nat) (h1 : fd_1 c pc = .ok (32, pc + 1)) : fd_i pc c pc = .ok (.lload_n 2, pc + 1) := (fd_bind (r := fd_1) h1).trans rfl
theorem fi_lload_n_3 (c : ByteArray) (pc : Nat) (h1 : fd_1 c pc = .ok (33, pc + 1)) : fd_i pc c pc = .ok (.lload_n 3, pc + 1) := (fd_bind (r := fd_1) h1).trans rfl
theorem fi_lor (c : ByteArray) (pc : Nat) (h1 : fd_1 c pc = .ok (129, pc + 1)) : fd_i pc c pc = .ok (.lor, pc + 1) := (fd_bind (r := fd_1) h1).trans rfl
theorem fi_lshl (c : ByteArray) (pc : Nat) (h1 : fd_1 c pc = .ok (121, pc + 1)) : fd_i pc c pc = .ok (.lshl, pc + 1) := (fd_bind (r := fd_1) h1).trans rfl
theorem fi_new {v : Nat} (c : ByteArray) (pc : Nat) (h1 : fd_1 c pc = .ok (187, pc + 1)) (h2 : (Jvm.ClassFile.Reader.u2 : fd_R Nat) c (pc + 1) = .ok (v, pc + 3)) : fd_i pc c pc = .ok (.new v, pc + 3) := (fd_bind (r := fd_1) h1).trans ((fd_bind (r := (Jvm.ClassFile.Reader.u2 : fd_R Nat)) h2).trans rfl)
theorem fi_newarray_boolean (c : ByteArray) (pc : Nat) (h1 : fd_1 c pc = .ok (188, pc + 1)) (h2 : fd_1 c (pc + 1) = .ok (4, pc + 2)) : fd_i pc c pc = .ok (.newarray .boolean, pc + 2) := (fd_bind (r := fd_1) h1).trans ((fd_bind (r := fd_1) h2).trans rfl)
theorem fi_newarray_char (c : ByteArray) (pc : Nat) (h1 : fd_1 c pc = .ok (188, pc + 1)) (h2 : fd_1 c (pc + 1) = .ok (5, pc + 2)) : fd_i pc c pc = .ok (.newarray .char, pc + 2) := (fd_bind (r := fd_1) h1).trans ((fd_bind (r := fd_1) h2).trans rfl)
theorem fi_newarray_byte (c : ByteArray) (pc : Nat) (h1 : fd_1 c pc = .ok (188, pc + 1)) (h2 : fd_1 c (pc + 1) = .ok (8, pc + 2)) : fd_i pc c pc = .ok (.newarray .byte, pc + 2) := (fd_bind (r := fd_1) h1).trans ((fd_bind (r := fd_1) h2).trans rfl)
theorem fi_newarray_short (c : ByteArray) (pc : Nat) (h1 : fd_1 c pc = .ok (188, pc + 1)) (h2 : fd_1 c (pc + 1) = .ok (9, pc + 2)) : fd_i pc c pc = .ok (.newarray .short, pc + 2) := (fd_bind (r := fd_1) h1).trans ((fd_bind (r := fd_1) h2).trans rfl)
theorem fi_newarray_int (c : ByteArray) (pc : Nat) (h1 : fd_1 c pc = .ok (188, pc + 1)) (h2 : fd_1 c (pc + 1) = .ok (10, pc + 2)) : fd_i pc c pc = .ok (.newarray .int, pc + 2) := (fd_bind (r := fd_1) h1).trans ((fd_bind (r := fd_1) h2).trans rfl)
theorem fi_newarray_long (c : ByteArray) (pc : Nat) (h1 : fd_1 c pc = .ok (188, pc + 1)) (h2 : fd_1 c (pc + 1) = .ok (11, pc + 2)) : fd_i pc c pc = .ok (.newarray .long, pc + 2) := (fd_bind (r := fd_1) h1).trans ((fd_bind (r := fd_1) h2).trans rfl)
def fj_t : Jvm.ClassFile.ArrayType → Nat
  | .boolean => 4
  | .char => 5
  | .byte => 8
  | .short => 9
  | .int => 10
  | .long => 11
  | _ => 0
theorem fi_pop (c : ByteArray) (pc : Nat) (h1 : fd_1 c pc = .ok (87, pc + 1)) : fd_i pc c pc = .ok (.pop, pc + 1) := (fd_bind (r := fd_1) h1).trans rfl
theorem fi_putfield {v : Nat} (c : ByteArray) (pc : Nat) (h1 : fd_1 c pc = .ok (181, pc + 1)) (h2 : (Jvm.ClassFile.Reader.u2 : fd_R Nat) c (pc + 1) = .ok (v, pc + 3)) : fd_i pc c pc = .ok (.putfield v, pc + 3) := (fd_bind (r := fd_1) h1).trans ((fd_bind (r := (Jvm.ClassFile.Reader.u2 : fd_R Nat)) h2).trans rfl)
theorem fi_return_ (c : ByteArray) (pc : Nat) (h1 : fd_1 c pc = .ok (177, pc + 1)) : fd_i pc c pc = .ok (.return_, pc + 1) := (fd_bind (r := fd_1) h1).trans rfl
theorem fi_sipush {v : Int} (c : ByteArray) (pc : Nat) (h1 : fd_1 c pc = .ok (17, pc + 1)) (h2 : (Jvm.ClassFile.Reader.s2 : fd_R Int) c (pc + 1) = .ok (v, pc + 3)) : fd_i pc c pc = .ok (.sipush v, pc + 3) := (fd_bind (r := fd_1) h1).trans ((fd_bind (r := (Jvm.ClassFile.Reader.s2 : fd_R Int)) h2).trans rfl)
def fj_r (l : List UInt8) (n : Nat) : Instr → Bool
  | .aaload => fc_0 l 50 n
  | .aastore => fc_0 l 83 n
  | .aconst_null => fc_0 l 1 n
  | .aload k => fc_1 l 25 k n
  | .aload_n k => fc_0 l (42 + k.val) n
  | .anewarray k => fc_2 l 189 k n
  | .areturn => fc_0 l 176 n
  | .arraylength => fc_0 l 190 n
  | .astore k => fc_1 l 58 k n
  | .astore_n k => fc_0 l (75 + k.val) n
  | .athrow => fc_0 l 191 n
  | .baload => fc_0 l 51 n
  | .bastore => fc_0 l 84 n
  | .bipush k => fc_s1 l 16 k n
  | .dup => fc_0 l 89 n
  | .dup2 => fc_0 l 92 n
  | .getfield k => fc_2 l 180 k n
  | .getstatic k => fc_2 l 178 k n
  | .goto k => fc_s2 l 167 k n
  | .i2b => fc_0 l 145 n
  | .i2c => fc_0 l 146 n
  | .i2l => fc_0 l 133 n
  | .iadd => fc_0 l 96 n
  | .iaload => fc_0 l 46 n
  | .iand => fc_0 l 126 n
  | .iastore => fc_0 l 79 n
  | .iconst k => (decide (k = -1) && fc_0 l 2 n) || (decide (k = 0) && fc_0 l 3 n) || (decide (k = 1) && fc_0 l 4 n) || (decide (k = 2) && fc_0 l 5 n) || (decide (k = 3) && fc_0 l 6 n) || (decide (k = 4) && fc_0 l 7 n) || (decide (k = 5) && fc_0 l 8 n)
  | .idiv => fc_0 l 108 n
  | .ifCond x k => fc_s2 l (153 + fj_c x) k n
  | .if_icmp x k => fc_s2 l (159 + fj_c x) k n
  | .ifnonnull k => fc_s2 l 199 k n
  | .ifnull k => fc_s2 l 198 k n
  | .iinc u v => fc_ii l 132 u v n
  | .iload k => fc_1 l 21 k n
  | .iload_n k => fc_0 l (26 + k.val) n
  | .imul => fc_0 l 104 n
  | .ineg => fc_0 l 116 n
  | .invokespecial k => fc_2 l 183 k n
  | .invokestatic k => fc_2 l 184 k n
  | .invokevirtual k => fc_2 l 182 k n
  | .ior => fc_0 l 128 n
  | .irem => fc_0 l 112 n
  | .ireturn => fc_0 l 172 n
  | .ishl => fc_0 l 120 n
  | .ishr => fc_0 l 122 n
  | .istore k => fc_1 l 54 k n
  | .istore_n k => fc_0 l (59 + k.val) n
  | .isub => fc_0 l 100 n
  | .iushr => fc_0 l 124 n
  | .laload => fc_0 l 47 n
  | .lastore => fc_0 l 80 n
  | .lcmp => fc_0 l 148 n
  | .lconst k => fc_0 l (9 + k.val) n
  | .ldc k => fc_1 l 18 k n
  | .ldc2_w k => fc_2 l 20 k n
  | .ldc_w k => fc_2 l 19 k n
  | .lload_n k => fc_0 l (30 + k.val) n
  | .lor => fc_0 l 129 n
  | .lshl => fc_0 l 121 n
  | .new k => fc_2 l 187 k n
  | .newarray x => Nat.blt 0 (fj_t x) && fc_1 l 188 (fj_t x) n
  | .pop => fc_0 l 87 n
  | .putfield k => fc_2 l 181 k n
  | .return_ => fc_0 l 177 n
  | .sipush k => fc_s2 l 17 k n
  | _ => false
theorem fj_ok {c : ByteArray} {pc n : Nat} {l : List UInt8} (i : Instr) (hl : c.data.toList.drop pc = l) (h : fj_r l n i = true) : decode c pc = .ok (i, n) := by
  cases i
  case aaload => exact fo_0 fi_aaload hl h
  case aastore => exact fo_0 fi_aastore hl h
  case aconst_null => exact fo_0 fi_aconst_null hl h
  case aload k => exact fo_1 fi_aload hl h
  case aload_n k =>
    match k, h with
    | ⟨0, _⟩, h => exact fo_0 fi_aload_n_0 hl h
    | ⟨1, _⟩, h => exact fo_0 fi_aload_n_1 hl h
    | ⟨2, _⟩, h => exact fo_0 fi_aload_n_2 hl h
    | ⟨3, _⟩, h => exact fo_0 fi_aload_n_3 hl h
    | ⟨q + 4, hq⟩, _ => exact absurd hq (by omega)
  case anewarray k => exact fo_2 fi_anewarray hl h
  case areturn => exact fo_0 fi_areturn hl h
  case arraylength => exact fo_0 fi_arraylength hl h
  case astore k => exact fo_1 fi_astore hl h
  case astore_n k =>
    match k, h with
    | ⟨0, _⟩, h => exact fo_0 fi_astore_n_0 hl h
    | ⟨1, _⟩, h => exact fo_0 fi_astore_n_1 hl h
    | ⟨2, _⟩, h => exact fo_0 fi_astore_n_2 hl h
    | ⟨3, _⟩, h => exact fo_0 fi_astore_n_3 hl h
    | ⟨q + 4, hq⟩, _ => exact absurd hq (by omega)
  case athrow => exact fo_0 fi_athrow hl h
  case baload => exact fo_0 fi_baload hl h
  case bastore => exact fo_0 fi_bastore hl h
  case bipush k => exact fo_s1 fi_bipush hl h
  case dup => exact fo_0 fi_dup hl h
  case dup2 => exact fo_0 fi_dup2 hl h
  case getfield k => exact fo_2 fi_getfield hl h
  case getstatic k => exact fo_2 fi_getstatic hl h
  case goto k => exact fo_s2 fi_goto hl h
  case i2b => exact fo_0 fi_i2b hl h
  case i2c => exact fo_0 fi_i2c hl h
  case i2l => exact fo_0 fi_i2l hl h
  case iadd => exact fo_0 fi_iadd hl h
  case iaload => exact fo_0 fi_iaload hl h
  case iand => exact fo_0 fi_iand hl h
  case iastore => exact fo_0 fi_iastore hl h
  case iconst k =>
    have g : ((decide (k = -1) && fc_0 l 2 n) || (decide (k = 0) && fc_0 l 3 n) || (decide (k = 1) && fc_0 l 4 n) || (decide (k = 2) && fc_0 l 5 n) || (decide (k = 3) && fc_0 l 6 n) || (decide (k = 4) && fc_0 l 7 n) || (decide (k = 5) && fc_0 l 8 n)) = true := h
    simp only [Bool.or_eq_true, Bool.and_eq_true, decide_eq_true_eq] at g
    rcases g with (((((⟨rfl, g⟩ | ⟨rfl, g⟩) | ⟨rfl, g⟩) | ⟨rfl, g⟩) | ⟨rfl, g⟩) | ⟨rfl, g⟩) | ⟨rfl, g⟩
    · exact fo_0 fi_iconst_m hl g
    · exact fo_0 fi_iconst_0 hl g
    · exact fo_0 fi_iconst_1 hl g
    · exact fo_0 fi_iconst_2 hl g
    · exact fo_0 fi_iconst_3 hl g
    · exact fo_0 fi_iconst_4 hl g
    · exact fo_0 fi_iconst_5 hl g
  case idiv => exact fo_0 fi_idiv hl h
  case ifCond x k =>
    match x, h with
    | .eq, h => exact fo_s2 fi_ifCond_eq hl h
    | .ne, h => exact fo_s2 fi_ifCond_ne hl h
    | .lt, h => exact fo_s2 fi_ifCond_lt hl h
    | .ge, h => exact fo_s2 fi_ifCond_ge hl h
    | .gt, h => exact fo_s2 fi_ifCond_gt hl h
    | .le, h => exact fo_s2 fi_ifCond_le hl h
  case if_icmp x k =>
    match x, h with
    | .eq, h => exact fo_s2 fi_if_icmp_eq hl h
    | .ne, h => exact fo_s2 fi_if_icmp_ne hl h
    | .lt, h => exact fo_s2 fi_if_icmp_lt hl h
    | .ge, h => exact fo_s2 fi_if_icmp_ge hl h
    | .gt, h => exact fo_s2 fi_if_icmp_gt hl h
    | .le, h => exact fo_s2 fi_if_icmp_le hl h
  case ifnonnull k => exact fo_s2 fi_ifnonnull hl h
  case ifnull k => exact fo_s2 fi_ifnull hl h
  case iinc u v => exact fo_ii fi_iinc hl h
  case iload k => exact fo_1 fi_iload hl h
  case iload_n k =>
    match k, h with
    | ⟨0, _⟩, h => exact fo_0 fi_iload_n_0 hl h
    | ⟨1, _⟩, h => exact fo_0 fi_iload_n_1 hl h
    | ⟨2, _⟩, h => exact fo_0 fi_iload_n_2 hl h
    | ⟨3, _⟩, h => exact fo_0 fi_iload_n_3 hl h
    | ⟨q + 4, hq⟩, _ => exact absurd hq (by omega)
  case imul => exact fo_0 fi_imul hl h
  case ineg => exact fo_0 fi_ineg hl h
  case invokespecial k => exact fo_2 fi_invokespecial hl h
  case invokestatic k => exact fo_2 fi_invokestatic hl h
  case invokevirtual k => exact fo_2 fi_invokevirtual hl h
  case ior => exact fo_0 fi_ior hl h
  case irem => exact fo_0 fi_irem hl h
  case ireturn => exact fo_0 fi_ireturn hl h
  case ishl => exact fo_0 fi_ishl hl h
  case ishr => exact fo_0 fi_ishr hl h
  case istore k => exact fo_1 fi_istore hl h
  case istore_n k =>
    match k, h with
    | ⟨0, _⟩, h => exact fo_0 fi_istore_n_0 hl h
    | ⟨1, _⟩, h => exact fo_0 fi_istore_n_1 hl h
    | ⟨2, _⟩, h => exact fo_0 fi_istore_n_2 hl h
    | ⟨3, _⟩, h => exact fo_0 fi_istore_n_3 hl h
    | ⟨q + 4, hq⟩, _ => exact absurd hq (by omega)
  case isub => exact fo_0 fi_isub hl h
  case iushr => exact fo_0 fi_iushr hl h
  case laload => exact fo_0 fi_laload hl h
  case lastore => exact fo_0 fi_lastore hl h
  case lcmp => exact fo_0 fi_lcmp hl h
  case lconst k =>
    match k, h with
    | ⟨0, _⟩, h => exact fo_0 fi_lconst_0 hl h
    | ⟨1, _⟩, h => exact fo_0 fi_lconst_1 hl h
    | ⟨q + 2, hq⟩, _ => exact absurd hq (by omega)
  case ldc k => exact fo_1 fi_ldc hl h
  case ldc2_w k => exact fo_2 fi_ldc2_w hl h
  case ldc_w k => exact fo_2 fi_ldc_w hl h
  case lload_n k =>
    match k, h with
    | ⟨0, _⟩, h => exact fo_0 fi_lload_n_0 hl h
    | ⟨1, _⟩, h => exact fo_0 fi_lload_n_1 hl h
    | ⟨2, _⟩, h => exact fo_0 fi_lload_n_2 hl h
    | ⟨3, _⟩, h => exact fo_0 fi_lload_n_3 hl h
    | ⟨q + 4, hq⟩, _ => exact absurd hq (by omega)
  case lor => exact fo_0 fi_lor hl h
  case lshl => exact fo_0 fi_lshl hl h
  case new k => exact fo_2 fi_new hl h
  case newarray x =>
    match x, h with
    | .boolean, h => exact fo_1 fi_newarray_boolean hl h
    | .char, h => exact fo_1 fi_newarray_char hl h
    | .byte, h => exact fo_1 fi_newarray_byte hl h
    | .short, h => exact fo_1 fi_newarray_short hl h
    | .int, h => exact fo_1 fi_newarray_int hl h
    | .long, h => exact fo_1 fi_newarray_long hl h
    | .float, h => exact absurd h Bool.false_ne_true
    | .double, h => exact absurd h Bool.false_ne_true
  case pop => exact fo_0 fi_pop hl h
  case putfield k => exact fo_2 fi_putfield hl h
  case return_ => exact fo_0 fi_return_ hl h
  case sipush k => exact fo_s2 fi_sipush hl h
  all_goals exact absurd h Bool.false_ne_true
def fj_B : List UInt8 → Nat → List (Nat × Instr × Nat) → Bool
  | _, _, [] => true
  | l, p, (pc, i, n) :: t => Nat.ble p pc && (fj_r (l.drop (pc - p)) n i && fj_B (l.drop (pc - p)) pc t)
theorem fj_B_ok {c : ByteArray} : ∀ (t : List (Nat × Instr × Nat)) (l : List UInt8) (p : Nat), c.data.toList.drop p = l → fj_B l p t = true → fq_P c t
  | [], _, _, _, _ => trivial
  | (pc, i, n) :: t, l, p, hl, h => by
    have h2 : (Nat.ble p pc && (fj_r (l.drop (pc - p)) n i && fj_B (l.drop (pc - p)) pc t)) = true := h
    rw [Bool.and_eq_true, Bool.and_eq_true] at h2
    have hp : p ≤ pc := Nat.le_of_ble_eq_true h2.1
    have hd : c.data.toList.drop pc = l.drop (pc - p) := by
      rw [← hl, fd_dd, Nat.add_sub_cancel' hp]
    exact ⟨fj_ok i hd h2.2.1, fj_B_ok t _ pc hd h2.2.2⟩
def fj_C (l : List UInt8) (p : Nat) : List (List (Nat × Instr × Nat)) → Bool
  | [] => true
  | r :: t => fj_B l p r && fj_C l p t
theorem fj_C_ok {c : ByteArray} {l : List UInt8} {p : Nat} (hl : c.data.toList.drop p = l) : ∀ {t : List (List (Nat × Instr × Nat))}, fj_C l p t = true → fq_Q c t
  | [], _ => trivial
  | r :: t, h => by
    have h2 : (fj_B l p r && fj_C l p t) = true := h
    rw [Bool.and_eq_true] at h2
    exact ⟨fj_B_ok r l p hl h2.1, fj_C_ok hl h2.2⟩
theorem fj_of {c : ByteArray} {t : List (List (Nat × Instr × Nat))} (p : Nat) (h : fj_C (c.data.toList.drop p) p t = true) : fq_Q c t := fj_C_ok rfl h
theorem fm_t1 : ∀ w ∈ tables_1_1, w ∈ lw_tbl := fun _ h => List.mem_append_right _ (List.mem_append_left _ h)
theorem fm_t2 : ∀ w ∈ tables_1_2, w ∈ lw_tbl := fun _ h => List.mem_append_right _ (List.mem_append_right _ (List.mem_append_left _ h))
theorem fm_t3 : ∀ w ∈ tables_1_3, w ∈ lw_tbl := fun _ h => List.mem_append_right _ (List.mem_append_right _ (List.mem_append_right _ (List.mem_append_left _ h)))
theorem fm_t4 : ∀ w ∈ tables_1_4, w ∈ lw_tbl := fun _ h => List.mem_append_right _ (List.mem_append_right _ (List.mem_append_right _ (List.mem_append_right _ (List.mem_append_left _ h))))
theorem fm_t5 : ∀ w ∈ tables_1_5, w ∈ lw_tbl := fun _ h => List.mem_append_right _ (List.mem_append_right _ (List.mem_append_right _ (List.mem_append_right _ (List.mem_append_right _ (List.mem_append_left _ h)))))
theorem fm_t6 : ∀ w ∈ tables_1_6, w ∈ lw_tbl := fun _ h => List.mem_append_right _ (List.mem_append_right _ (List.mem_append_right _ (List.mem_append_right _ (List.mem_append_right _ (List.mem_append_right _ (List.mem_append_left _ h))))))
theorem fm_t7 : ∀ w ∈ tables_1_7, w ∈ lw_tbl := fun _ h => List.mem_append_right _ (List.mem_append_right _ (List.mem_append_right _ (List.mem_append_right _ (List.mem_append_right _ (List.mem_append_right _ (List.mem_append_right _ (List.mem_append_left _ h)))))))
theorem fm_t8 : ∀ w ∈ tables_1_8, w ∈ lw_tbl := fun _ h => List.mem_append_right _ (List.mem_append_right _ (List.mem_append_right _ (List.mem_append_right _ (List.mem_append_right _ (List.mem_append_right _ (List.mem_append_right _ (List.mem_append_right _ h)))))))
theorem fm_68 : (Jvm.Cond.initialized "SixDewLaw") ∈ dw_Tb := fm_of fm_t1 (i := 0) rfl rfl
theorem fm_69 : (Jvm.Cond.initialized "SixDew") ∈ dw_Tb := fm_of fm_t1 (i := 1) rfl rfl
theorem fm_70 : (Jvm.Cond.initialized "SixDew$Tape") ∈ dw_Tb := fm_of fm_t1 (i := 2) rfl rfl
theorem fm_71 : (Jvm.Cond.initialized "SixDew$State") ∈ dw_Tb := fm_of fm_t1 (i := 3) rfl rfl
theorem fm_72 : (Jvm.Cond.initialized "SixDew$Ground") ∈ dw_Tb := fm_of fm_t1 (i := 4) rfl rfl
theorem fm_73 : (Jvm.Cond.initialized "SixDew$Plan") ∈ dw_Tb := fm_of fm_t1 (i := 5) rfl rfl
theorem fm_74 : (Jvm.Cond.initialized "SixDew$Run") ∈ dw_Tb := fm_of fm_t1 (i := 6) rfl rfl
theorem fm_75 : (Jvm.Cond.initialized "SixDew$Night") ∈ dw_Tb := fm_of fm_t1 (i := 7) rfl rfl
theorem fm_76 : (Jvm.Cond.initialized "SixDew$GroundReader") ∈ dw_Tb := fm_of fm_t1 (i := 8) rfl rfl
theorem fm_77 : (Jvm.Cond.initialized "SixDew$NightReader") ∈ dw_Tb := fm_of fm_t1 (i := 9) rfl rfl
theorem fm_78 : (Jvm.Cond.initialized "SixDew$PlanReader") ∈ dw_Tb := fm_of fm_t1 (i := 10) rfl rfl
theorem fm_79 : (Jvm.Cond.initialized "SixDew$Watch") ∈ dw_Tb := fm_of fm_t1 (i := 11) rfl rfl
theorem fm_80 : (Jvm.Cond.initialized "SixDew$Paths") ∈ dw_Tb := fm_of fm_t1 (i := 12) rfl rfl
theorem fm_81 : (Jvm.Cond.initialized "SixDewModel") ∈ dw_Tb := fm_of fm_t1 (i := 13) rfl rfl
theorem fm_82 : (Jvm.Cond.initialized "java/lang/Math") ∈ dw_Tb := fm_of fm_t1 (i := 14) rfl rfl
theorem fm_83 : (Jvm.Cond.initialized "java/lang/String") ∈ dw_Tb := fm_of fm_t1 (i := 15) rfl rfl
theorem fm_84 : (Jvm.Cond.initialized "java/lang/StringLatin1") ∈ dw_Tb := fm_of fm_t1 (i := 16) rfl rfl
theorem fm_85 : (Jvm.Cond.initialized "jdk/internal/util/Preconditions") ∈ dw_Tb := fm_of fm_t1 (i := 17) rfl rfl
theorem fm_87 : (Jvm.Cond.initialized "java/lang/System") ∈ dw_Tb := fm_of fm_t1 (i := 19) rfl rfl
theorem fm_91 : (Jvm.Cond.initialized "java/util/NoSuchElementException") ∈ dw_Tb := fm_of fm_t1 (i := 23) rfl rfl
theorem fm_92 : (Jvm.Cond.initialized "java/lang/Integer") ∈ dw_Tb := fm_of fm_t1 (i := 24) rfl rfl
theorem fm_93 : (Jvm.Cond.classLink "SixDewLaw" (8 : Nat) "SixDew") ∈ dw_Tb := fm_of fm_t1 (i := 25) rfl rfl
theorem fm_94 : (Jvm.Cond.instantiable "SixDew" (18 : Nat)) ∈ dw_Tb := fm_of fm_t1 (i := 26) rfl rfl
theorem fm_95 : (Jvm.Cond.methodLink "SixDewLaw" (18 : Nat) ({ cls := "SixDew", name := "<init>", desc := "()V" } : Jvm.MethodName)) ∈ dw_Tb := fm_of fm_t1 (i := 27) rfl rfl
theorem fm_96 : (Jvm.Cond.instanceMethod ({ cls := "SixDew", name := "<init>", desc := "()V" } : Jvm.MethodName)) ∈ dw_Tb := fm_of fm_t1 (i := 28) rfl rfl
theorem fm_97 : (Jvm.Cond.code ({ cls := "SixDew", name := "<init>", desc := "()V" } : Jvm.MethodName) prog_1_method_1_code (2 : Nat) (Option.none : Option Jvm.ClassFile.FieldType)) ∈ dw_Tb := fm_of fm_t1 (i := 29) rfl rfl
theorem fm_98 : (Jvm.Cond.methodLink "SixDew" (1 : Nat) ({ cls := "java/lang/Object", name := "<init>", desc := "()V" } : Jvm.MethodName)) ∈ dw_Tb := fm_of fm_t1 (i := 30) rfl rfl
theorem fm_99 : (Jvm.Cond.instanceMethod ({ cls := "java/lang/Object", name := "<init>", desc := "()V" } : Jvm.MethodName)) ∈ dw_Tb := fm_of fm_t1 (i := 31) rfl rfl
theorem fm_100 : (Jvm.Cond.code ({ cls := "java/lang/Object", name := "<init>", desc := "()V" } : Jvm.MethodName) object_method_1_code (1 : Nat) (Option.none : Option Jvm.ClassFile.FieldType)) ∈ dw_Tb := fm_of fm_t1 (i := 32) rfl rfl
theorem fm_101 : (Jvm.Cond.classLink "SixDew" (7 : Nat) "SixDew$Tape") ∈ dw_Tb := fm_of fm_t1 (i := 33) rfl rfl
theorem fm_102 : (Jvm.Cond.instantiable "SixDew$Tape" (9 : Nat)) ∈ dw_Tb := fm_of fm_t1 (i := 34) rfl rfl
theorem fm_104 : (Jvm.Cond.instanceMethod ({ cls := "SixDew$Tape", name := "<init>", desc := "()V" } : Jvm.MethodName)) ∈ dw_Tb := fm_of fm_t1 (i := 36) rfl rfl
theorem fm_105 : (Jvm.Cond.code ({ cls := "SixDew$Tape", name := "<init>", desc := "()V" } : Jvm.MethodName) prog_11_method_1_code (1 : Nat) (Option.none : Option Jvm.ClassFile.FieldType)) ∈ dw_Tb := fm_of fm_t1 (i := 37) rfl rfl
theorem fm_106 : (Jvm.Cond.methodLink "SixDew$Tape" (3 : Nat) ({ cls := "java/lang/Object", name := "<init>", desc := "()V" } : Jvm.MethodName)) ∈ dw_Tb := fm_of fm_t1 (i := 38) rfl rfl
theorem fm_107 : (Jvm.Cond.fieldLink "SixDew$Tape" (9 : Nat) "SixDew$Tape" "bytes" "[I") ∈ dw_Tb := fm_of fm_t1 (i := 39) rfl rfl
theorem fm_108 : (Jvm.Cond.fieldLink "SixDew" (94 : Nat) "SixDew$Tape" "size" "I") ∈ dw_Tb := fm_of fm_t1 (i := 40) rfl rfl
theorem fm_109 : (Jvm.Cond.fieldLink "SixDew$Tape" (15 : Nat) "SixDew$Tape" "size" "I") ∈ dw_Tb := fm_of fm_t1 (i := 41) rfl rfl
theorem fm_110 : (Jvm.Cond.fieldLink "SixDew$Tape" (19 : Nat) "SixDew$Tape" "limit" "I") ∈ dw_Tb := fm_of fm_t1 (i := 42) rfl rfl
theorem fm_111 : (Jvm.Cond.fieldLink "SixDew$Tape" (22 : Nat) "SixDew$Tape" "next" "I") ∈ dw_Tb := fm_of fm_t1 (i := 43) rfl rfl
theorem fm_112 : (Jvm.Cond.fieldLink "SixDew$Tape" (25 : Nat) "SixDew$Tape" "from" "I") ∈ dw_Tb := fm_of fm_t1 (i := 44) rfl rfl
theorem fm_113 : (Jvm.Cond.fieldLink "SixDew$GroundReader" (122 : Nat) "SixDew$Tape" "from" "I") ∈ dw_Tb := fm_of fm_t1 (i := 45) rfl rfl
theorem fm_114 : (Jvm.Cond.fieldLink "SixDew$PlanReader" (27 : Nat) "SixDew$Tape" "token" "I") ∈ dw_Tb := fm_of fm_t1 (i := 46) rfl rfl
theorem fm_115 : (Jvm.Cond.fieldLink "SixDew$GroundReader" (46 : Nat) "SixDew$Tape" "token" "I") ∈ dw_Tb := fm_of fm_t1 (i := 47) rfl rfl
theorem fm_116 : (Jvm.Cond.fieldLink "SixDew$NightReader" (38 : Nat) "SixDew$Tape" "token" "I") ∈ dw_Tb := fm_of fm_t1 (i := 48) rfl rfl
theorem fm_117 : (Jvm.Cond.fieldLink "SixDew$Tape" (38 : Nat) "SixDew$Tape" "token" "I") ∈ dw_Tb := fm_of fm_t1 (i := 49) rfl rfl
theorem fm_118 : (Jvm.Cond.fieldLink "SixDew$NightReader" (57 : Nat) "SixDew$Tape" "value" "I") ∈ dw_Tb := fm_of fm_t1 (i := 50) rfl rfl
theorem fm_119 : (Jvm.Cond.fieldLink "SixDew$PlanReader" (54 : Nat) "SixDew$Tape" "value" "I") ∈ dw_Tb := fm_of fm_t1 (i := 51) rfl rfl
theorem fm_120 : (Jvm.Cond.fieldLink "SixDew$GroundReader" (105 : Nat) "SixDew$Tape" "value" "I") ∈ dw_Tb := fm_of fm_t1 (i := 52) rfl rfl
theorem fm_121 : (Jvm.Cond.fieldLink "SixDew$Tape" (44 : Nat) "SixDew$Tape" "value" "I") ∈ dw_Tb := fm_of fm_t1 (i := 53) rfl rfl
theorem fm_122 : (Jvm.Cond.fieldLink "SixDew$Tape" (28 : Nat) "SixDew$Tape" "fault" "I") ∈ dw_Tb := fm_of fm_t1 (i := 54) rfl rfl
theorem fm_123 : (Jvm.Cond.fieldLink "SixDew" (116 : Nat) "SixDew$Tape" "fault" "I") ∈ dw_Tb := fm_of fm_t1 (i := 55) rfl rfl
theorem fm_124 : (Jvm.Cond.fieldLink "SixDew$Tape" (31 : Nat) "SixDew$Tape" "faultPlace" "I") ∈ dw_Tb := fm_of fm_t1 (i := 56) rfl rfl
theorem fm_125 : (Jvm.Cond.fieldLink "SixDew" (105 : Nat) "SixDew$Tape" "faultPlace" "I") ∈ dw_Tb := fm_of fm_t1 (i := 57) rfl rfl
theorem fm_146 : (Jvm.Cond.classLink "SixDew" (16 : Nat) "SixDew$State") ∈ dw_Tb := fm_of fm_t1 (i := 78) rfl rfl
theorem fm_147 : (Jvm.Cond.instantiable "SixDew$State" (5 : Nat)) ∈ dw_Tb := fm_of fm_t1 (i := 79) rfl rfl
theorem fm_148 : (Jvm.Cond.methodLink "SixDew" (18 : Nat) ({ cls := "SixDew$State", name := "<init>", desc := "()V" } : Jvm.MethodName)) ∈ dw_Tb := fm_of fm_t1 (i := 80) rfl rfl
theorem fm_149 : (Jvm.Cond.instanceMethod ({ cls := "SixDew$State", name := "<init>", desc := "()V" } : Jvm.MethodName)) ∈ dw_Tb := fm_of fm_t1 (i := 81) rfl rfl
theorem fm_150 : (Jvm.Cond.code ({ cls := "SixDew$State", name := "<init>", desc := "()V" } : Jvm.MethodName) prog_10_method_1_code (2 : Nat) (Option.none : Option Jvm.ClassFile.FieldType)) ∈ dw_Tb := fm_of fm_t1 (i := 82) rfl rfl
theorem fm_151 : (Jvm.Cond.methodLink "SixDew$State" (3 : Nat) ({ cls := "java/lang/Object", name := "<init>", desc := "()V" } : Jvm.MethodName)) ∈ dw_Tb := fm_of fm_t1 (i := 83) rfl rfl
theorem fm_152 : (Jvm.Cond.classLink "SixDew$State" (9 : Nat) "SixDew$Ground") ∈ dw_Tb := fm_of fm_t1 (i := 84) rfl rfl
theorem fm_153 : (Jvm.Cond.instantiable "SixDew$Ground" (10 : Nat)) ∈ dw_Tb := fm_of fm_t1 (i := 85) rfl rfl
theorem fm_155 : (Jvm.Cond.instanceMethod ({ cls := "SixDew$Ground", name := "<init>", desc := "()V" } : Jvm.MethodName)) ∈ dw_Tb := fm_of fm_t1 (i := 87) rfl rfl
theorem fm_156 : (Jvm.Cond.code ({ cls := "SixDew$Ground", name := "<init>", desc := "()V" } : Jvm.MethodName) prog_2_method_1_code (1 : Nat) (Option.none : Option Jvm.ClassFile.FieldType)) ∈ dw_Tb := fm_of fm_t1 (i := 88) rfl rfl
theorem fm_157 : (Jvm.Cond.methodLink "SixDew$Ground" (3 : Nat) ({ cls := "java/lang/Object", name := "<init>", desc := "()V" } : Jvm.MethodName)) ∈ dw_Tb := fm_of fm_t1 (i := 89) rfl rfl
theorem fm_158 : (Jvm.Cond.fieldLink "SixDew$Ground" (31 : Nat) "SixDew$Ground" "columns" "I") ∈ dw_Tb := fm_of fm_t1 (i := 90) rfl rfl
theorem fm_159 : (Jvm.Cond.fieldLink "SixDew$PlanReader" (61 : Nat) "SixDew$Ground" "columns" "I") ∈ dw_Tb := fm_of fm_t1 (i := 91) rfl rfl
theorem fm_160 : (Jvm.Cond.fieldLink "SixDew$Paths" (36 : Nat) "SixDew$Ground" "columns" "I") ∈ dw_Tb := fm_of fm_t1 (i := 92) rfl rfl
theorem fm_161 : (Jvm.Cond.fieldLink "SixDew$GroundReader" (129 : Nat) "SixDew$Ground" "columns" "I") ∈ dw_Tb := fm_of fm_t1 (i := 93) rfl rfl
theorem fm_162 : (Jvm.Cond.fieldLink "SixDew" (306 : Nat) "SixDew$Ground" "columns" "I") ∈ dw_Tb := fm_of fm_t1 (i := 94) rfl rfl
theorem fm_163 : (Jvm.Cond.fieldLink "SixDew$Ground" (34 : Nat) "SixDew$Ground" "rows" "I") ∈ dw_Tb := fm_of fm_t1 (i := 95) rfl rfl
theorem fm_164 : (Jvm.Cond.fieldLink "SixDew$PlanReader" (66 : Nat) "SixDew$Ground" "rows" "I") ∈ dw_Tb := fm_of fm_t1 (i := 96) rfl rfl
theorem fm_165 : (Jvm.Cond.fieldLink "SixDew$GroundReader" (87 : Nat) "SixDew$Ground" "rows" "I") ∈ dw_Tb := fm_of fm_t1 (i := 97) rfl rfl
theorem fm_166 : (Jvm.Cond.fieldLink "SixDew" (309 : Nat) "SixDew$Ground" "rows" "I") ∈ dw_Tb := fm_of fm_t1 (i := 98) rfl rfl
theorem fm_167 : (Jvm.Cond.fieldLink "SixDew$GroundReader" (84 : Nat) "SixDew$Ground" "kinds" "I") ∈ dw_Tb := fm_of fm_t1 (i := 99) rfl rfl
theorem fm_168 : (Jvm.Cond.fieldLink "SixDew$Ground" (41 : Nat) "SixDew$Ground" "kinds" "I") ∈ dw_Tb := fm_of fm_t1 (i := 100) rfl rfl
theorem fm_169 : (Jvm.Cond.fieldLink "SixDew" (316 : Nat) "SixDew$Ground" "kinds" "I") ∈ dw_Tb := fm_of fm_t1 (i := 101) rfl rfl
theorem fm_170 : (Jvm.Cond.fieldLink "SixDew$GroundReader" (142 : Nat) "SixDew$Ground" "shades" "I") ∈ dw_Tb := fm_of fm_t1 (i := 102) rfl rfl
theorem fm_171 : (Jvm.Cond.fieldLink "SixDew$Ground" (44 : Nat) "SixDew$Ground" "shades" "I") ∈ dw_Tb := fm_of fm_t1 (i := 103) rfl rfl
theorem fm_172 : (Jvm.Cond.fieldLink "SixDew" (351 : Nat) "SixDew$Ground" "shades" "I") ∈ dw_Tb := fm_of fm_t1 (i := 104) rfl rfl
theorem fm_173 : (Jvm.Cond.fieldLink "SixDew$Ground" (9 : Nat) "SixDew$Ground" "stock" "I") ∈ dw_Tb := fm_of fm_t1 (i := 105) rfl rfl
theorem fm_174 : (Jvm.Cond.fieldLink "SixDew$Run" (63 : Nat) "SixDew$Ground" "stock" "I") ∈ dw_Tb := fm_of fm_t1 (i := 106) rfl rfl
theorem fm_175 : (Jvm.Cond.fieldLink "SixDew$GroundReader" (145 : Nat) "SixDew$Ground" "stock" "I") ∈ dw_Tb := fm_of fm_t1 (i := 107) rfl rfl
theorem fm_176 : (Jvm.Cond.fieldLink "SixDew" (354 : Nat) "SixDew$Ground" "stock" "I") ∈ dw_Tb := fm_of fm_t1 (i := 108) rfl rfl
theorem fm_177 : (Jvm.Cond.fieldLink "SixDew$Ground" (15 : Nat) "SixDew$Ground" "hold" "[I") ∈ dw_Tb := fm_of fm_t1 (i := 109) rfl rfl
theorem fm_178 : (Jvm.Cond.fieldLink "SixDew$Run" (95 : Nat) "SixDew$Ground" "hold" "[I") ∈ dw_Tb := fm_of fm_t1 (i := 110) rfl rfl
theorem fm_179 : (Jvm.Cond.fieldLink "SixDew$GroundReader" (102 : Nat) "SixDew$Ground" "hold" "[I") ∈ dw_Tb := fm_of fm_t1 (i := 111) rfl rfl
theorem fm_180 : (Jvm.Cond.fieldLink "SixDew$Ground" (19 : Nat) "SixDew$Ground" "give" "[I") ∈ dw_Tb := fm_of fm_t1 (i := 112) rfl rfl
theorem fm_181 : (Jvm.Cond.fieldLink "SixDew$Run" (100 : Nat) "SixDew$Ground" "give" "[I") ∈ dw_Tb := fm_of fm_t1 (i := 113) rfl rfl
theorem fm_182 : (Jvm.Cond.fieldLink "SixDew$GroundReader" (108 : Nat) "SixDew$Ground" "give" "[I") ∈ dw_Tb := fm_of fm_t1 (i := 114) rfl rfl
theorem fm_183 : (Jvm.Cond.fieldLink "SixDew$Ground" (22 : Nat) "SixDew$Ground" "gift" "[I") ∈ dw_Tb := fm_of fm_t1 (i := 115) rfl rfl
theorem fm_184 : (Jvm.Cond.fieldLink "SixDew$Run" (101 : Nat) "SixDew$Ground" "gift" "[I") ∈ dw_Tb := fm_of fm_t1 (i := 116) rfl rfl
theorem fm_185 : (Jvm.Cond.fieldLink "SixDew$GroundReader" (111 : Nat) "SixDew$Ground" "gift" "[I") ∈ dw_Tb := fm_of fm_t1 (i := 117) rfl rfl
theorem fm_186 : (Jvm.Cond.fieldLink "SixDew$Ground" (25 : Nat) "SixDew$Ground" "kindOf" "[I") ∈ dw_Tb := fm_of fm_t1 (i := 118) rfl rfl
theorem fm_187 : (Jvm.Cond.fieldLink "SixDew$Run" (80 : Nat) "SixDew$Ground" "kindOf" "[I") ∈ dw_Tb := fm_of fm_t1 (i := 119) rfl rfl
theorem fm_188 : (Jvm.Cond.fieldLink "SixDew$GroundReader" (136 : Nat) "SixDew$Ground" "kindOf" "[I") ∈ dw_Tb := fm_of fm_t1 (i := 120) rfl rfl
theorem fm_189 : (Jvm.Cond.fieldLink "SixDew$Ground" (28 : Nat) "SixDew$Ground" "skyOf" "[I") ∈ dw_Tb := fm_of fm_t1 (i := 121) rfl rfl
theorem fm_190 : (Jvm.Cond.fieldLink "SixDew$Run" (87 : Nat) "SixDew$Ground" "skyOf" "[I") ∈ dw_Tb := fm_of fm_t1 (i := 122) rfl rfl
theorem fm_191 : (Jvm.Cond.fieldLink "SixDew$GroundReader" (148 : Nat) "SixDew$Ground" "skyOf" "[I") ∈ dw_Tb := fm_of fm_t1 (i := 123) rfl rfl
theorem fm_213 : (Jvm.Cond.classLink "SixDew$State" (18 : Nat) "SixDew$Night") ∈ dw_Tb := fm_of fm_t1 (i := 145) rfl rfl
theorem fm_215 : (Jvm.Cond.classLink "SixDew$State" (24 : Nat) "SixDew$Plan") ∈ dw_Tb := fm_of fm_t1 (i := 147) rfl rfl
theorem fm_216 : (Jvm.Cond.instantiable "SixDew$Plan" (2 : Nat)) ∈ dw_Tb := fm_of fm_t1 (i := 148) rfl rfl
theorem fm_218 : (Jvm.Cond.instanceMethod ({ cls := "SixDew$Plan", name := "<init>", desc := "()V" } : Jvm.MethodName)) ∈ dw_Tb := fm_of fm_t1 (i := 150) rfl rfl
theorem fm_219 : (Jvm.Cond.code ({ cls := "SixDew$Plan", name := "<init>", desc := "()V" } : Jvm.MethodName) prog_7_method_1_code (1 : Nat) (Option.none : Option Jvm.ClassFile.FieldType)) ∈ dw_Tb := fm_of fm_t1 (i := 151) rfl rfl
theorem fm_220 : (Jvm.Cond.methodLink "SixDew$Plan" (3 : Nat) ({ cls := "java/lang/Object", name := "<init>", desc := "()V" } : Jvm.MethodName)) ∈ dw_Tb := fm_of fm_t1 (i := 152) rfl rfl
theorem fm_221 : (Jvm.Cond.classLink "SixDew$Plan" (9 : Nat) "[[I") ∈ dw_Tb := fm_of fm_t1 (i := 153) rfl rfl
theorem fm_223 : (Jvm.Cond.fieldLink "SixDew$PlanReader" (31 : Nat) "SixDew$Plan" "lines" "I") ∈ dw_Tb := fm_of fm_t1 (i := 155) rfl rfl
theorem fm_224 : (Jvm.Cond.fieldLink "SixDew$Plan" (16 : Nat) "SixDew$Plan" "lines" "I") ∈ dw_Tb := fm_of fm_t1 (i := 156) rfl rfl
theorem fm_225 : (Jvm.Cond.fieldLink "SixDew$State" (51 : Nat) "SixDew$Plan" "lines" "I") ∈ dw_Tb := fm_of fm_t1 (i := 157) rfl rfl
theorem fm_226 : (Jvm.Cond.fieldLink "SixDew" (216 : Nat) "SixDew$Plan" "lines" "I") ∈ dw_Tb := fm_of fm_t1 (i := 158) rfl rfl
theorem fm_227 : (Jvm.Cond.fieldLink "SixDew$Plan" (11 : Nat) "SixDew$Plan" "line" "[[I") ∈ dw_Tb := fm_of fm_t1 (i := 159) rfl rfl
theorem fm_233 : (Jvm.Cond.classLink "SixDew$State" (31 : Nat) "SixDew$Run") ∈ dw_Tb := fm_of fm_t1 (i := 165) rfl rfl
theorem fm_234 : (Jvm.Cond.instantiable "SixDew$Run" (15 : Nat)) ∈ dw_Tb := fm_of fm_t1 (i := 166) rfl rfl
theorem fm_236 : (Jvm.Cond.instanceMethod ({ cls := "SixDew$Run", name := "<init>", desc := "()V" } : Jvm.MethodName)) ∈ dw_Tb := fm_of fm_t1 (i := 168) rfl rfl
theorem fm_237 : (Jvm.Cond.code ({ cls := "SixDew$Run", name := "<init>", desc := "()V" } : Jvm.MethodName) prog_9_method_1_code (1 : Nat) (Option.none : Option Jvm.ClassFile.FieldType)) ∈ dw_Tb := fm_of fm_t1 (i := 169) rfl rfl
theorem fm_238 : (Jvm.Cond.methodLink "SixDew$Run" (3 : Nat) ({ cls := "java/lang/Object", name := "<init>", desc := "()V" } : Jvm.MethodName)) ∈ dw_Tb := fm_of fm_t1 (i := 170) rfl rfl
theorem fm_239 : (Jvm.Cond.classLink "SixDew$Run" (9 : Nat) "SixDew$Night") ∈ dw_Tb := fm_of fm_t1 (i := 171) rfl rfl
theorem fm_240 : (Jvm.Cond.instantiable "SixDew$Night" (2 : Nat)) ∈ dw_Tb := fm_of fm_t1 (i := 172) rfl rfl
theorem fm_242 : (Jvm.Cond.instanceMethod ({ cls := "SixDew$Night", name := "<init>", desc := "()V" } : Jvm.MethodName)) ∈ dw_Tb := fm_of fm_t1 (i := 174) rfl rfl
theorem fm_243 : (Jvm.Cond.code ({ cls := "SixDew$Night", name := "<init>", desc := "()V" } : Jvm.MethodName) prog_4_method_1_code (1 : Nat) (Option.none : Option Jvm.ClassFile.FieldType)) ∈ dw_Tb := fm_of fm_t1 (i := 175) rfl rfl
theorem fm_244 : (Jvm.Cond.methodLink "SixDew$Night" (3 : Nat) ({ cls := "java/lang/Object", name := "<init>", desc := "()V" } : Jvm.MethodName)) ∈ dw_Tb := fm_of fm_t1 (i := 176) rfl rfl
theorem fm_245 : (Jvm.Cond.classLink "SixDew$Night" (9 : Nat) "[[I") ∈ dw_Tb := fm_of fm_t1 (i := 177) rfl rfl
theorem fm_246 : (Jvm.Cond.fieldLink "SixDew$NightReader" (21 : Nat) "SixDew$Night" "there" "Z") ∈ dw_Tb := fm_of fm_t1 (i := 178) rfl rfl
theorem fm_247 : (Jvm.Cond.fieldLink "SixDew$State" (43 : Nat) "SixDew$Night" "there" "Z") ∈ dw_Tb := fm_of fm_t1 (i := 179) rfl rfl
theorem fm_248 : (Jvm.Cond.fieldLink "SixDew$Night" (26 : Nat) "SixDew$Night" "there" "Z") ∈ dw_Tb := fm_of fm_t1 (i := 180) rfl rfl
theorem fm_249 : (Jvm.Cond.fieldLink "SixDew" (152 : Nat) "SixDew$Night" "there" "Z") ∈ dw_Tb := fm_of fm_t1 (i := 181) rfl rfl
theorem fm_250 : (Jvm.Cond.fieldLink "SixDew$Night" (11 : Nat) "SixDew$Night" "told" "[[I") ∈ dw_Tb := fm_of fm_t1 (i := 182) rfl rfl
theorem fm_256 : (Jvm.Cond.fieldLink "SixDew$Run" (40 : Nat) "SixDew$Run" "going" "Z") ∈ dw_Tb := fm_of fm_t1 (i := 188) rfl rfl
theorem fm_257 : (Jvm.Cond.fieldLink "SixDew$State" (55 : Nat) "SixDew$Run" "going" "Z") ∈ dw_Tb := fm_of fm_t1 (i := 189) rfl rfl
theorem fm_258 : (Jvm.Cond.fieldLink "SixDew" (168 : Nat) "SixDew$Run" "going" "Z") ∈ dw_Tb := fm_of fm_t1 (i := 190) rfl rfl
theorem fm_259 : (Jvm.Cond.fieldLink "SixDew$Run" (56 : Nat) "SixDew$Run" "cells" "I") ∈ dw_Tb := fm_of fm_t1 (i := 191) rfl rfl
theorem fm_260 : (Jvm.Cond.fieldLink "SixDew$Watch" (30 : Nat) "SixDew$Run" "cells" "I") ∈ dw_Tb := fm_of fm_t1 (i := 192) rfl rfl
theorem fm_261 : (Jvm.Cond.fieldLink "SixDew$Run" (60 : Nat) "SixDew$Run" "done" "I") ∈ dw_Tb := fm_of fm_t1 (i := 193) rfl rfl
theorem fm_262 : (Jvm.Cond.fieldLink "SixDew" (171 : Nat) "SixDew$Run" "done" "I") ∈ dw_Tb := fm_of fm_t1 (i := 194) rfl rfl
theorem fm_263 : (Jvm.Cond.fieldLink "SixDew$Run" (66 : Nat) "SixDew$Run" "stock" "I") ∈ dw_Tb := fm_of fm_t1 (i := 195) rfl rfl
theorem fm_264 : (Jvm.Cond.fieldLink "SixDew" (186 : Nat) "SixDew$Run" "stock" "I") ∈ dw_Tb := fm_of fm_t1 (i := 196) rfl rfl
theorem fm_265 : (Jvm.Cond.fieldLink "SixDew$Run" (67 : Nat) "SixDew$Run" "given" "I") ∈ dw_Tb := fm_of fm_t1 (i := 197) rfl rfl
theorem fm_266 : (Jvm.Cond.fieldLink "SixDew" (189 : Nat) "SixDew$Run" "given" "I") ∈ dw_Tb := fm_of fm_t1 (i := 198) rfl rfl
theorem fm_267 : (Jvm.Cond.fieldLink "SixDew$Run" (70 : Nat) "SixDew$Run" "story" "I") ∈ dw_Tb := fm_of fm_t1 (i := 199) rfl rfl
theorem fm_268 : (Jvm.Cond.fieldLink "SixDew" (326 : Nat) "SixDew$Run" "story" "I") ∈ dw_Tb := fm_of fm_t1 (i := 200) rfl rfl
theorem fm_269 : (Jvm.Cond.fieldLink "SixDew$Run" (73 : Nat) "SixDew$Run" "clouded" "I") ∈ dw_Tb := fm_of fm_t1 (i := 201) rfl rfl
theorem fm_270 : (Jvm.Cond.fieldLink "SixDew" (303 : Nat) "SixDew$Run" "clouded" "I") ∈ dw_Tb := fm_of fm_t1 (i := 202) rfl rfl
theorem fm_271 : (Jvm.Cond.fieldLink "SixDew$Run" (12 : Nat) "SixDew$Run" "night" "LSixDew$Night;") ∈ dw_Tb := fm_of fm_t1 (i := 203) rfl rfl
theorem fm_272 : (Jvm.Cond.fieldLink "SixDew$Run" (18 : Nat) "SixDew$Run" "hold" "[I") ∈ dw_Tb := fm_of fm_t1 (i := 204) rfl rfl
theorem fm_273 : (Jvm.Cond.fieldLink "SixDew$Run" (22 : Nat) "SixDew$Run" "give" "[I") ∈ dw_Tb := fm_of fm_t1 (i := 205) rfl rfl
theorem fm_274 : (Jvm.Cond.fieldLink "SixDew$Run" (25 : Nat) "SixDew$Run" "gift" "[I") ∈ dw_Tb := fm_of fm_t1 (i := 206) rfl rfl
theorem fm_275 : (Jvm.Cond.fieldLink "SixDew$Run" (28 : Nat) "SixDew$Run" "skyOf" "[I") ∈ dw_Tb := fm_of fm_t1 (i := 207) rfl rfl
theorem fm_276 : (Jvm.Cond.fieldLink "SixDew$Run" (31 : Nat) "SixDew$Run" "covered" "[I") ∈ dw_Tb := fm_of fm_t1 (i := 208) rfl rfl
theorem fm_277 : (Jvm.Cond.fieldLink "SixDew$Run" (34 : Nat) "SixDew$Run" "warmth" "[I") ∈ dw_Tb := fm_of fm_t1 (i := 209) rfl rfl
theorem fm_278 : (Jvm.Cond.fieldLink "SixDew$Run" (37 : Nat) "SixDew$Run" "water" "[I") ∈ dw_Tb := fm_of fm_t1 (i := 210) rfl rfl
theorem fm_311 : (Jvm.Cond.fieldLink "SixDew" (350 : Nat) "SixDew$State" "there" "Z") ∈ dw_Tb := fm_of fm_t2 (i := 3) rfl rfl
theorem fm_312 : (Jvm.Cond.fieldLink "SixDew$State" (12 : Nat) "SixDew$State" "ground" "LSixDew$Ground;") ∈ dw_Tb := fm_of fm_t2 (i := 4) rfl rfl
theorem fm_313 : (Jvm.Cond.fieldLink "SixDew" (119 : Nat) "SixDew$State" "ground" "LSixDew$Ground;") ∈ dw_Tb := fm_of fm_t2 (i := 5) rfl rfl
theorem fm_314 : (Jvm.Cond.fieldLink "SixDew$State" (20 : Nat) "SixDew$State" "nights" "[LSixDew$Night;") ∈ dw_Tb := fm_of fm_t2 (i := 6) rfl rfl
theorem fm_315 : (Jvm.Cond.fieldLink "SixDew$State" (27 : Nat) "SixDew$State" "plan" "LSixDew$Plan;") ∈ dw_Tb := fm_of fm_t2 (i := 7) rfl rfl
theorem fm_316 : (Jvm.Cond.fieldLink "SixDew" (202 : Nat) "SixDew$State" "plan" "LSixDew$Plan;") ∈ dw_Tb := fm_of fm_t2 (i := 8) rfl rfl
theorem fm_317 : (Jvm.Cond.fieldLink "SixDew$State" (34 : Nat) "SixDew$State" "run" "LSixDew$Run;") ∈ dw_Tb := fm_of fm_t2 (i := 9) rfl rfl
theorem fm_318 : (Jvm.Cond.fieldLink "SixDew" (161 : Nat) "SixDew$State" "run" "LSixDew$Run;") ∈ dw_Tb := fm_of fm_t2 (i := 10) rfl rfl
theorem fm_331 : (Jvm.Cond.classLink "SixDew" (27 : Nat) "SixDew$GroundReader") ∈ dw_Tb := fm_of fm_t2 (i := 23) rfl rfl
theorem fm_332 : (Jvm.Cond.instantiable "SixDew$GroundReader" (5 : Nat)) ∈ dw_Tb := fm_of fm_t2 (i := 24) rfl rfl
theorem fm_334 : (Jvm.Cond.instanceMethod ({ cls := "SixDew$GroundReader", name := "<init>", desc := "()V" } : Jvm.MethodName)) ∈ dw_Tb := fm_of fm_t2 (i := 26) rfl rfl
theorem fm_335 : (Jvm.Cond.code ({ cls := "SixDew$GroundReader", name := "<init>", desc := "()V" } : Jvm.MethodName) prog_3_method_1_code (1 : Nat) (Option.none : Option Jvm.ClassFile.FieldType)) ∈ dw_Tb := fm_of fm_t2 (i := 27) rfl rfl
theorem fm_336 : (Jvm.Cond.methodLink "SixDew$GroundReader" (3 : Nat) ({ cls := "java/lang/Object", name := "<init>", desc := "()V" } : Jvm.MethodName)) ∈ dw_Tb := fm_of fm_t2 (i := 28) rfl rfl
theorem fm_337 : (Jvm.Cond.classLink "SixDew$GroundReader" (9 : Nat) "SixDew$Ground") ∈ dw_Tb := fm_of fm_t2 (i := 29) rfl rfl
theorem fm_339 : (Jvm.Cond.classLink "SixDew$GroundReader" (25 : Nat) "[[I") ∈ dw_Tb := fm_of fm_t2 (i := 31) rfl rfl
theorem fm_340 : (Jvm.Cond.fieldLink "SixDew$GroundReader" (12 : Nat) "SixDew$GroundReader" "read" "LSixDew$Ground;") ∈ dw_Tb := fm_of fm_t2 (i := 32) rfl rfl
theorem fm_341 : (Jvm.Cond.fieldLink "SixDew" (108 : Nat) "SixDew$GroundReader" "read" "LSixDew$Ground;") ∈ dw_Tb := fm_of fm_t2 (i := 33) rfl rfl
theorem fm_342 : (Jvm.Cond.fieldLink "SixDew$GroundReader" (18 : Nat) "SixDew$GroundReader" "nameFrom" "[I") ∈ dw_Tb := fm_of fm_t2 (i := 34) rfl rfl
theorem fm_343 : (Jvm.Cond.fieldLink "SixDew$GroundReader" (22 : Nat) "SixDew$GroundReader" "nameSize" "[I") ∈ dw_Tb := fm_of fm_t2 (i := 35) rfl rfl
theorem fm_344 : (Jvm.Cond.fieldLink "SixDew$GroundReader" (27 : Nat) "SixDew$GroundReader" "shade" "[[I") ∈ dw_Tb := fm_of fm_t2 (i := 36) rfl rfl
theorem fm_345 : (Jvm.Cond.fieldLink "SixDew$GroundReader" (33 : Nat) "SixDew$GroundReader" "stockTold" "Z") ∈ dw_Tb := fm_of fm_t2 (i := 37) rfl rfl
theorem fm_357 : (Jvm.Cond.classLink "SixDew" (34 : Nat) "SixDew$NightReader") ∈ dw_Tb := fm_of fm_t2 (i := 49) rfl rfl
theorem fm_358 : (Jvm.Cond.instantiable "SixDew$NightReader" (2 : Nat)) ∈ dw_Tb := fm_of fm_t2 (i := 50) rfl rfl
theorem fm_360 : (Jvm.Cond.instanceMethod ({ cls := "SixDew$NightReader", name := "<init>", desc := "()V" } : Jvm.MethodName)) ∈ dw_Tb := fm_of fm_t2 (i := 52) rfl rfl
theorem fm_361 : (Jvm.Cond.code ({ cls := "SixDew$NightReader", name := "<init>", desc := "()V" } : Jvm.MethodName) prog_5_method_1_code (1 : Nat) (Option.none : Option Jvm.ClassFile.FieldType)) ∈ dw_Tb := fm_of fm_t2 (i := 53) rfl rfl
theorem fm_362 : (Jvm.Cond.methodLink "SixDew$NightReader" (3 : Nat) ({ cls := "java/lang/Object", name := "<init>", desc := "()V" } : Jvm.MethodName)) ∈ dw_Tb := fm_of fm_t2 (i := 54) rfl rfl
theorem fm_363 : (Jvm.Cond.classLink "SixDew$NightReader" (9 : Nat) "SixDew$Night") ∈ dw_Tb := fm_of fm_t2 (i := 55) rfl rfl
theorem fm_365 : (Jvm.Cond.fieldLink "SixDew$NightReader" (12 : Nat) "SixDew$NightReader" "read" "LSixDew$Night;") ∈ dw_Tb := fm_of fm_t2 (i := 57) rfl rfl
theorem fm_366 : (Jvm.Cond.fieldLink "SixDew" (143 : Nat) "SixDew$NightReader" "read" "LSixDew$Night;") ∈ dw_Tb := fm_of fm_t2 (i := 58) rfl rfl
theorem fm_367 : (Jvm.Cond.fieldLink "SixDew$NightReader" (25 : Nat) "SixDew$NightReader" "latest" "I") ∈ dw_Tb := fm_of fm_t2 (i := 59) rfl rfl
theorem fm_373 : (Jvm.Cond.classLink "SixDew" (41 : Nat) "SixDew$PlanReader") ∈ dw_Tb := fm_of fm_t2 (i := 65) rfl rfl
theorem fm_374 : (Jvm.Cond.instantiable "SixDew$PlanReader" (1 : Nat)) ∈ dw_Tb := fm_of fm_t2 (i := 66) rfl rfl
theorem fm_376 : (Jvm.Cond.instanceMethod ({ cls := "SixDew$PlanReader", name := "<init>", desc := "()V" } : Jvm.MethodName)) ∈ dw_Tb := fm_of fm_t2 (i := 68) rfl rfl
theorem fm_377 : (Jvm.Cond.code ({ cls := "SixDew$PlanReader", name := "<init>", desc := "()V" } : Jvm.MethodName) prog_8_method_1_code (1 : Nat) (Option.none : Option Jvm.ClassFile.FieldType)) ∈ dw_Tb := fm_of fm_t2 (i := 69) rfl rfl
theorem fm_378 : (Jvm.Cond.methodLink "SixDew$PlanReader" (3 : Nat) ({ cls := "java/lang/Object", name := "<init>", desc := "()V" } : Jvm.MethodName)) ∈ dw_Tb := fm_of fm_t2 (i := 70) rfl rfl
theorem fm_379 : (Jvm.Cond.classLink "SixDew$PlanReader" (9 : Nat) "SixDew$Plan") ∈ dw_Tb := fm_of fm_t2 (i := 71) rfl rfl
theorem fm_381 : (Jvm.Cond.fieldLink "SixDew$PlanReader" (12 : Nat) "SixDew$PlanReader" "read" "LSixDew$Plan;") ∈ dw_Tb := fm_of fm_t2 (i := 73) rfl rfl
theorem fm_382 : (Jvm.Cond.fieldLink "SixDew" (206 : Nat) "SixDew$PlanReader" "read" "LSixDew$Plan;") ∈ dw_Tb := fm_of fm_t2 (i := 74) rfl rfl
theorem fm_386 : (Jvm.Cond.classLink "SixDew" (48 : Nat) "SixDew$Run") ∈ dw_Tb := fm_of fm_t2 (i := 78) rfl rfl
theorem fm_388 : (Jvm.Cond.classLink "SixDew" (58 : Nat) "SixDew$Watch") ∈ dw_Tb := fm_of fm_t2 (i := 80) rfl rfl
theorem fm_389 : (Jvm.Cond.instantiable "SixDew$Watch" (6 : Nat)) ∈ dw_Tb := fm_of fm_t2 (i := 81) rfl rfl
theorem fm_391 : (Jvm.Cond.instanceMethod ({ cls := "SixDew$Watch", name := "<init>", desc := "()V" } : Jvm.MethodName)) ∈ dw_Tb := fm_of fm_t2 (i := 83) rfl rfl
theorem fm_392 : (Jvm.Cond.code ({ cls := "SixDew$Watch", name := "<init>", desc := "()V" } : Jvm.MethodName) prog_12_method_1_code (1 : Nat) (Option.none : Option Jvm.ClassFile.FieldType)) ∈ dw_Tb := fm_of fm_t2 (i := 84) rfl rfl
theorem fm_393 : (Jvm.Cond.methodLink "SixDew$Watch" (3 : Nat) ({ cls := "java/lang/Object", name := "<init>", desc := "()V" } : Jvm.MethodName)) ∈ dw_Tb := fm_of fm_t2 (i := 85) rfl rfl
theorem fm_394 : (Jvm.Cond.fieldLink "SixDew$Watch" (9 : Nat) "SixDew$Watch" "first" "[I") ∈ dw_Tb := fm_of fm_t2 (i := 86) rfl rfl
theorem fm_395 : (Jvm.Cond.fieldLink "SixDew" (249 : Nat) "SixDew$Watch" "first" "[I") ∈ dw_Tb := fm_of fm_t2 (i := 87) rfl rfl
theorem fm_396 : (Jvm.Cond.fieldLink "SixDew$Watch" (15 : Nat) "SixDew$Watch" "last" "[I") ∈ dw_Tb := fm_of fm_t2 (i := 88) rfl rfl
theorem fm_397 : (Jvm.Cond.fieldLink "SixDew" (255 : Nat) "SixDew$Watch" "last" "[I") ∈ dw_Tb := fm_of fm_t2 (i := 89) rfl rfl
theorem fm_398 : (Jvm.Cond.fieldLink "SixDew$Watch" (18 : Nat) "SixDew$Watch" "wetSteps" "[I") ∈ dw_Tb := fm_of fm_t2 (i := 90) rfl rfl
theorem fm_399 : (Jvm.Cond.fieldLink "SixDew" (258 : Nat) "SixDew$Watch" "wetSteps" "[I") ∈ dw_Tb := fm_of fm_t2 (i := 91) rfl rfl
theorem fm_400 : (Jvm.Cond.fieldLink "SixDew$Watch" (21 : Nat) "SixDew$Watch" "lasting" "[I") ∈ dw_Tb := fm_of fm_t2 (i := 92) rfl rfl
theorem fm_401 : (Jvm.Cond.fieldLink "SixDew$Watch" (24 : Nat) "SixDew$Watch" "longest" "[I") ∈ dw_Tb := fm_of fm_t2 (i := 93) rfl rfl
theorem fm_402 : (Jvm.Cond.fieldLink "SixDew" (261 : Nat) "SixDew$Watch" "longest" "[I") ∈ dw_Tb := fm_of fm_t2 (i := 94) rfl rfl
theorem fm_403 : (Jvm.Cond.fieldLink "SixDew$Watch" (27 : Nat) "SixDew$Watch" "frosty" "[I") ∈ dw_Tb := fm_of fm_t2 (i := 95) rfl rfl
theorem fm_404 : (Jvm.Cond.fieldLink "SixDew" (269 : Nat) "SixDew$Watch" "frosty" "[I") ∈ dw_Tb := fm_of fm_t2 (i := 96) rfl rfl
theorem fm_418 : (Jvm.Cond.classLink "SixDew" (65 : Nat) "SixDew$Paths") ∈ dw_Tb := fm_of fm_t2 (i := 110) rfl rfl
theorem fm_419 : (Jvm.Cond.instantiable "SixDew$Paths" (1 : Nat)) ∈ dw_Tb := fm_of fm_t2 (i := 111) rfl rfl
theorem fm_421 : (Jvm.Cond.instanceMethod ({ cls := "SixDew$Paths", name := "<init>", desc := "()V" } : Jvm.MethodName)) ∈ dw_Tb := fm_of fm_t2 (i := 113) rfl rfl
theorem fm_422 : (Jvm.Cond.code ({ cls := "SixDew$Paths", name := "<init>", desc := "()V" } : Jvm.MethodName) prog_6_method_1_code (1 : Nat) (Option.none : Option Jvm.ClassFile.FieldType)) ∈ dw_Tb := fm_of fm_t2 (i := 114) rfl rfl
theorem fm_423 : (Jvm.Cond.methodLink "SixDew$Paths" (3 : Nat) ({ cls := "java/lang/Object", name := "<init>", desc := "()V" } : Jvm.MethodName)) ∈ dw_Tb := fm_of fm_t2 (i := 115) rfl rfl
theorem fm_424 : (Jvm.Cond.fieldLink "SixDew$Paths" (9 : Nat) "SixDew$Paths" "cost" "[I") ∈ dw_Tb := fm_of fm_t2 (i := 116) rfl rfl
theorem fm_428 : (Jvm.Cond.classLink "SixDew" (76 : Nat) "[[I") ∈ dw_Tb := fm_of fm_t2 (i := 120) rfl rfl
theorem fm_429 : (Jvm.Cond.fieldLink "SixDew" (10 : Nat) "SixDew" "tape" "LSixDew$Tape;") ∈ dw_Tb := fm_of fm_t2 (i := 121) rfl rfl
theorem fm_430 : (Jvm.Cond.fieldLink "SixDew" (19 : Nat) "SixDew" "state" "LSixDew$State;") ∈ dw_Tb := fm_of fm_t2 (i := 122) rfl rfl
theorem fm_431 : (Jvm.Cond.fieldLink "SixDew" (23 : Nat) "SixDew" "kept" "[LSixDew$State;") ∈ dw_Tb := fm_of fm_t2 (i := 123) rfl rfl
theorem fm_432 : (Jvm.Cond.fieldLink "SixDew" (30 : Nat) "SixDew" "groundReader" "LSixDew$GroundReader;") ∈ dw_Tb := fm_of fm_t2 (i := 124) rfl rfl
theorem fm_433 : (Jvm.Cond.fieldLink "SixDew" (37 : Nat) "SixDew" "nightReader" "LSixDew$NightReader;") ∈ dw_Tb := fm_of fm_t2 (i := 125) rfl rfl
theorem fm_434 : (Jvm.Cond.fieldLink "SixDew" (44 : Nat) "SixDew" "planReader" "LSixDew$PlanReader;") ∈ dw_Tb := fm_of fm_t2 (i := 126) rfl rfl
theorem fm_435 : (Jvm.Cond.fieldLink "SixDew" (51 : Nat) "SixDew" "trial" "LSixDew$Run;") ∈ dw_Tb := fm_of fm_t2 (i := 127) rfl rfl
theorem fm_436 : (Jvm.Cond.fieldLink "SixDew" (55 : Nat) "SixDew" "branch" "LSixDew$Run;") ∈ dw_Tb := fm_of fm_t2 (i := 128) rfl rfl
theorem fm_437 : (Jvm.Cond.fieldLink "SixDew" (61 : Nat) "SixDew" "watch" "LSixDew$Watch;") ∈ dw_Tb := fm_of fm_t2 (i := 129) rfl rfl
theorem fm_438 : (Jvm.Cond.fieldLink "SixDew" (68 : Nat) "SixDew" "paths" "LSixDew$Paths;") ∈ dw_Tb := fm_of fm_t2 (i := 130) rfl rfl
theorem fm_439 : (Jvm.Cond.fieldLink "SixDew" (72 : Nat) "SixDew" "triedCells" "[I") ∈ dw_Tb := fm_of fm_t2 (i := 131) rfl rfl
theorem fm_440 : (Jvm.Cond.fieldLink "SixDew" (78 : Nat) "SixDew" "triedWater" "[[I") ∈ dw_Tb := fm_of fm_t2 (i := 132) rfl rfl
theorem fm_441 : (Jvm.Cond.fieldLink "SixDew" (81 : Nat) "SixDew" "wentSo" "[I") ∈ dw_Tb := fm_of fm_t2 (i := 133) rfl rfl
theorem fm_442 : (Jvm.Cond.fieldLink "SixDew" (226 : Nat) "SixDew" "wentTold" "Z") ∈ dw_Tb := fm_of fm_t2 (i := 134) rfl rfl
theorem fm_443 : (Jvm.Cond.fieldLink "SixDew" (84 : Nat) "SixDew" "cameFirst" "I") ∈ dw_Tb := fm_of fm_t2 (i := 135) rfl rfl
theorem fm_444 : (Jvm.Cond.fieldLink "SixDew" (88 : Nat) "SixDew" "cameLast" "I") ∈ dw_Tb := fm_of fm_t2 (i := 136) rfl rfl
theorem fm_445 : (Jvm.Cond.fieldLink "SixDew" (91 : Nat) "SixDew" "drawnSo" "[I") ∈ dw_Tb := fm_of fm_t2 (i := 137) rfl rfl
theorem fm_446 : (Jvm.Cond.fieldLink "SixDew" (344 : Nat) "SixDew" "drawnTold" "Z") ∈ dw_Tb := fm_of fm_t2 (i := 138) rfl rfl
theorem fm_484 : (Jvm.Cond.methodLink "SixDewLaw" (22 : Nat) ({ cls := "SixDew", name := "feed", desc := "(IIIII)I" } : Jvm.MethodName)) ∈ dw_Tb := fm_of fm_t2 (i := 176) rfl rfl
theorem fm_485 : (Jvm.Cond.instanceMethod ({ cls := "SixDew", name := "feed", desc := "(IIIII)I" } : Jvm.MethodName)) ∈ dw_Tb := fm_of fm_t2 (i := 177) rfl rfl
theorem fm_486 : (Jvm.Cond.selects "SixDew" ({ cls := "SixDew", name := "feed", desc := "(IIIII)I" } : Jvm.MethodName) ({ cls := "SixDew", name := "feed", desc := "(IIIII)I" } : Jvm.MethodName)) ∈ dw_Tb := fm_of fm_t2 (i := 178) rfl rfl
theorem fm_487 : (Jvm.Cond.code ({ cls := "SixDew", name := "feed", desc := "(IIIII)I" } : Jvm.MethodName) prog_1_method_2_code (6 : Nat) (Option.some Jvm.ClassFile.FieldType.int)) ∈ dw_Tb := fm_of fm_t2 (i := 179) rfl rfl
theorem fm_488 : (Jvm.Cond.methodLink "SixDew" (97 : Nat) ({ cls := "SixDew$Tape", name := "add", desc := "(I)V" } : Jvm.MethodName)) ∈ dw_Tb := fm_of fm_t2 (i := 180) rfl rfl
theorem fm_489 : (Jvm.Cond.instanceMethod ({ cls := "SixDew$Tape", name := "add", desc := "(I)V" } : Jvm.MethodName)) ∈ dw_Tb := fm_of fm_t2 (i := 181) rfl rfl
theorem fm_490 : (Jvm.Cond.selects "SixDew$Tape" ({ cls := "SixDew$Tape", name := "add", desc := "(I)V" } : Jvm.MethodName) ({ cls := "SixDew$Tape", name := "add", desc := "(I)V" } : Jvm.MethodName)) ∈ dw_Tb := fm_of fm_t2 (i := 182) rfl rfl
theorem fm_491 : (Jvm.Cond.code ({ cls := "SixDew$Tape", name := "add", desc := "(I)V" } : Jvm.MethodName) prog_11_method_2_code (3 : Nat) (Option.none : Option Jvm.ClassFile.FieldType)) ∈ dw_Tb := fm_of fm_t2 (i := 183) rfl rfl
theorem fm_492 : (Jvm.Cond.methodLink "SixDewLaw" (27 : Nat) ({ cls := "SixDew", name := "end", desc := "(I)Z" } : Jvm.MethodName)) ∈ dw_Tb := fm_of fm_t2 (i := 184) rfl rfl
theorem fm_493 : (Jvm.Cond.instanceMethod ({ cls := "SixDew", name := "end", desc := "(I)Z" } : Jvm.MethodName)) ∈ dw_Tb := fm_of fm_t2 (i := 185) rfl rfl
theorem fm_494 : (Jvm.Cond.selects "SixDew" ({ cls := "SixDew", name := "end", desc := "(I)Z" } : Jvm.MethodName) ({ cls := "SixDew", name := "end", desc := "(I)Z" } : Jvm.MethodName)) ∈ dw_Tb := fm_of fm_t2 (i := 186) rfl rfl
theorem fm_495 : (Jvm.Cond.code ({ cls := "SixDew", name := "end", desc := "(I)Z" } : Jvm.MethodName) prog_1_method_3_code (2 : Nat) (Option.some Jvm.ClassFile.FieldType.boolean)) ∈ dw_Tb := fm_of fm_t2 (i := 187) rfl rfl
theorem fm_496 : (Jvm.Cond.methodLink "SixDewLaw" (32 : Nat) ({ cls := "SixDew", name := "ground", desc := "()I" } : Jvm.MethodName)) ∈ dw_Tb := fm_of fm_t2 (i := 188) rfl rfl
theorem fm_497 : (Jvm.Cond.instanceMethod ({ cls := "SixDew", name := "ground", desc := "()I" } : Jvm.MethodName)) ∈ dw_Tb := fm_of fm_t2 (i := 189) rfl rfl
theorem fm_498 : (Jvm.Cond.selects "SixDew" ({ cls := "SixDew", name := "ground", desc := "()I" } : Jvm.MethodName) ({ cls := "SixDew", name := "ground", desc := "()I" } : Jvm.MethodName)) ∈ dw_Tb := fm_of fm_t2 (i := 190) rfl rfl
theorem fm_499 : (Jvm.Cond.code ({ cls := "SixDew", name := "ground", desc := "()I" } : Jvm.MethodName) prog_1_method_4_code (2 : Nat) (Option.some Jvm.ClassFile.FieldType.int)) ∈ dw_Tb := fm_of fm_t2 (i := 191) rfl rfl
theorem fm_500 : (Jvm.Cond.methodLink "SixDew" (101 : Nat) ({ cls := "SixDew$GroundReader", name := "readText", desc := "(LSixDew$Tape;)I" } : Jvm.MethodName)) ∈ dw_Tb := fm_of fm_t2 (i := 192) rfl rfl
theorem fm_501 : (Jvm.Cond.instanceMethod ({ cls := "SixDew$GroundReader", name := "readText", desc := "(LSixDew$Tape;)I" } : Jvm.MethodName)) ∈ dw_Tb := fm_of fm_t2 (i := 193) rfl rfl
theorem fm_502 : (Jvm.Cond.selects "SixDew$GroundReader" ({ cls := "SixDew$GroundReader", name := "readText", desc := "(LSixDew$Tape;)I" } : Jvm.MethodName) ({ cls := "SixDew$GroundReader", name := "readText", desc := "(LSixDew$Tape;)I" } : Jvm.MethodName)) ∈ dw_Tb := fm_of fm_t2 (i := 194) rfl rfl
theorem fm_503 : (Jvm.Cond.code ({ cls := "SixDew$GroundReader", name := "readText", desc := "(LSixDew$Tape;)I" } : Jvm.MethodName) prog_3_method_2_code (3 : Nat) (Option.some Jvm.ClassFile.FieldType.int)) ∈ dw_Tb := fm_of fm_t2 (i := 195) rfl rfl
theorem fm_504 : (Jvm.Cond.methodLink "SixDew$GroundReader" (30 : Nat) ({ cls := "SixDew$Ground", name := "clear", desc := "()V" } : Jvm.MethodName)) ∈ dw_Tb := fm_of fm_t2 (i := 196) rfl rfl
theorem fm_505 : (Jvm.Cond.instanceMethod ({ cls := "SixDew$Ground", name := "clear", desc := "()V" } : Jvm.MethodName)) ∈ dw_Tb := fm_of fm_t2 (i := 197) rfl rfl
theorem fm_506 : (Jvm.Cond.selects "SixDew$Ground" ({ cls := "SixDew$Ground", name := "clear", desc := "()V" } : Jvm.MethodName) ({ cls := "SixDew$Ground", name := "clear", desc := "()V" } : Jvm.MethodName)) ∈ dw_Tb := fm_of fm_t2 (i := 198) rfl rfl
theorem fm_507 : (Jvm.Cond.code ({ cls := "SixDew$Ground", name := "clear", desc := "()V" } : Jvm.MethodName) prog_2_method_7_code (1 : Nat) (Option.none : Option Jvm.ClassFile.FieldType)) ∈ dw_Tb := fm_of fm_t2 (i := 199) rfl rfl
theorem fm_508 : (Jvm.Cond.methodLink "SixDew$GroundReader" (37 : Nat) ({ cls := "SixDew$Tape", name := "open", desc := "(I)V" } : Jvm.MethodName)) ∈ dw_Tb := fm_of fm_t2 (i := 200) rfl rfl
theorem fm_509 : (Jvm.Cond.instanceMethod ({ cls := "SixDew$Tape", name := "open", desc := "(I)V" } : Jvm.MethodName)) ∈ dw_Tb := fm_of fm_t2 (i := 201) rfl rfl
theorem fm_510 : (Jvm.Cond.selects "SixDew$Tape" ({ cls := "SixDew$Tape", name := "open", desc := "(I)V" } : Jvm.MethodName) ({ cls := "SixDew$Tape", name := "open", desc := "(I)V" } : Jvm.MethodName)) ∈ dw_Tb := fm_of fm_t2 (i := 202) rfl rfl
theorem fm_511 : (Jvm.Cond.code ({ cls := "SixDew$Tape", name := "open", desc := "(I)V" } : Jvm.MethodName) prog_11_method_4_code (2 : Nat) (Option.none : Option Jvm.ClassFile.FieldType)) ∈ dw_Tb := fm_of fm_t2 (i := 203) rfl rfl
theorem fm_512 : (Jvm.Cond.methodLink "SixDew$GroundReader" (43 : Nat) ({ cls := "SixDew$Tape", name := "take", desc := "()V" } : Jvm.MethodName)) ∈ dw_Tb := fm_of fm_t2 (i := 204) rfl rfl
theorem fm_513 : (Jvm.Cond.instanceMethod ({ cls := "SixDew$Tape", name := "take", desc := "()V" } : Jvm.MethodName)) ∈ dw_Tb := fm_of fm_t2 (i := 205) rfl rfl
theorem fm_514 : (Jvm.Cond.selects "SixDew$Tape" ({ cls := "SixDew$Tape", name := "take", desc := "()V" } : Jvm.MethodName) ({ cls := "SixDew$Tape", name := "take", desc := "()V" } : Jvm.MethodName)) ∈ dw_Tb := fm_of fm_t2 (i := 206) rfl rfl
theorem fm_515 : (Jvm.Cond.code ({ cls := "SixDew$Tape", name := "take", desc := "()V" } : Jvm.MethodName) prog_11_method_5_code (1 : Nat) (Option.none : Option Jvm.ClassFile.FieldType)) ∈ dw_Tb := fm_of fm_t2 (i := 207) rfl rfl
theorem fm_516 : (Jvm.Cond.methodLink "SixDew$Tape" (34 : Nat) ({ cls := "SixDew$Tape", name := "byteAt", desc := "(I)I" } : Jvm.MethodName)) ∈ dw_Tb := fm_of fm_t2 (i := 208) rfl rfl
theorem fm_517 : (Jvm.Cond.instanceMethod ({ cls := "SixDew$Tape", name := "byteAt", desc := "(I)I" } : Jvm.MethodName)) ∈ dw_Tb := fm_of fm_t2 (i := 209) rfl rfl
theorem fm_518 : (Jvm.Cond.selects "SixDew$Tape" ({ cls := "SixDew$Tape", name := "byteAt", desc := "(I)I" } : Jvm.MethodName) ({ cls := "SixDew$Tape", name := "byteAt", desc := "(I)I" } : Jvm.MethodName)) ∈ dw_Tb := fm_of fm_t2 (i := 210) rfl rfl
theorem fm_519 : (Jvm.Cond.code ({ cls := "SixDew$Tape", name := "byteAt", desc := "(I)I" } : Jvm.MethodName) prog_11_method_3_code (2 : Nat) (Option.some Jvm.ClassFile.FieldType.int)) ∈ dw_Tb := fm_of fm_t2 (i := 211) rfl rfl
theorem fm_520 : (Jvm.Cond.methodLink "SixDew$Tape" (41 : Nat) ({ cls := "SixDew$Tape", name := "takeWordOrNumber", desc := "()V" } : Jvm.MethodName)) ∈ dw_Tb := fm_of fm_t2 (i := 212) rfl rfl
theorem fm_522 : (Jvm.Cond.instanceMethod ({ cls := "SixDew$Tape", name := "takeWordOrNumber", desc := "()V" } : Jvm.MethodName)) ∈ dw_Tb := fm_of fm_t2 (i := 214) rfl rfl
theorem fm_523 : (Jvm.Cond.code ({ cls := "SixDew$Tape", name := "takeWordOrNumber", desc := "()V" } : Jvm.MethodName) prog_11_method_6_code (4 : Nat) (Option.none : Option Jvm.ClassFile.FieldType)) ∈ dw_Tb := fm_of fm_t2 (i := 215) rfl rfl
theorem fm_524 : (Jvm.Cond.methodLink "SixDew$GroundReader" (50 : Nat) ({ cls := "SixDew$GroundReader", name := "setSky", desc := "()V" } : Jvm.MethodName)) ∈ dw_Tb := fm_of fm_t2 (i := 216) rfl rfl
theorem fm_526 : (Jvm.Cond.instanceMethod ({ cls := "SixDew$GroundReader", name := "setSky", desc := "()V" } : Jvm.MethodName)) ∈ dw_Tb := fm_of fm_t2 (i := 218) rfl rfl
theorem fm_527 : (Jvm.Cond.code ({ cls := "SixDew$GroundReader", name := "setSky", desc := "()V" } : Jvm.MethodName) prog_3_method_9_code (4 : Nat) (Option.none : Option Jvm.ClassFile.FieldType)) ∈ dw_Tb := fm_of fm_t2 (i := 219) rfl rfl
theorem fm_528 : (Jvm.Cond.methodLink "SixDew$GroundReader" (151 : Nat) ({ cls := "SixDew$GroundReader", name := "hiddenAt", desc := "(II)I" } : Jvm.MethodName)) ∈ dw_Tb := fm_of fm_t2 (i := 220) rfl rfl
theorem fm_530 : (Jvm.Cond.instanceMethod ({ cls := "SixDew$GroundReader", name := "hiddenAt", desc := "(II)I" } : Jvm.MethodName)) ∈ dw_Tb := fm_of fm_t2 (i := 222) rfl rfl
theorem fm_531 : (Jvm.Cond.code ({ cls := "SixDew$GroundReader", name := "hiddenAt", desc := "(II)I" } : Jvm.MethodName) prog_3_method_10_code (6 : Nat) (Option.some Jvm.ClassFile.FieldType.int)) ∈ dw_Tb := fm_of fm_t2 (i := 223) rfl rfl
theorem fm_532 : (Jvm.Cond.methodLink "SixDew$GroundReader" (160 : Nat) ({ cls := "java/lang/Math", name := "abs", desc := "(I)I" } : Jvm.MethodName)) ∈ dw_Tb := fm_of fm_t2 (i := 224) rfl rfl
theorem fm_533 : (Jvm.Cond.static ({ cls := "java/lang/Math", name := "abs", desc := "(I)I" } : Jvm.MethodName)) ∈ dw_Tb := fm_of fm_t2 (i := 225) rfl rfl
theorem fm_534 : (Jvm.Cond.code ({ cls := "java/lang/Math", name := "abs", desc := "(I)I" } : Jvm.MethodName) prog_20_method_59_code (1 : Nat) (Option.some Jvm.ClassFile.FieldType.int)) ∈ dw_Tb := fm_of fm_t2 (i := 226) rfl rfl
theorem fm_535 : (Jvm.Cond.methodLink "SixDew$GroundReader" (155 : Nat) ({ cls := "java/lang/Math", name := "max", desc := "(II)I" } : Jvm.MethodName)) ∈ dw_Tb := fm_of fm_t2 (i := 227) rfl rfl
theorem fm_536 : (Jvm.Cond.static ({ cls := "java/lang/Math", name := "max", desc := "(II)I" } : Jvm.MethodName)) ∈ dw_Tb := fm_of fm_t2 (i := 228) rfl rfl
theorem fm_537 : (Jvm.Cond.code ({ cls := "java/lang/Math", name := "max", desc := "(II)I" } : Jvm.MethodName) prog_20_method_65_code (2 : Nat) (Option.some Jvm.ClassFile.FieldType.int)) ∈ dw_Tb := fm_of fm_t2 (i := 229) rfl rfl
theorem fm_538 : (Jvm.Cond.methodLink "SixDew$GroundReader" (53 : Nat) ({ cls := "SixDew$GroundReader", name := "readLine", desc := "(LSixDew$Tape;)Z" } : Jvm.MethodName)) ∈ dw_Tb := fm_of fm_t2 (i := 230) rfl rfl
theorem fm_540 : (Jvm.Cond.instanceMethod ({ cls := "SixDew$GroundReader", name := "readLine", desc := "(LSixDew$Tape;)Z" } : Jvm.MethodName)) ∈ dw_Tb := fm_of fm_t2 (i := 232) rfl rfl
theorem fm_541 : (Jvm.Cond.code ({ cls := "SixDew$GroundReader", name := "readLine", desc := "(LSixDew$Tape;)Z" } : Jvm.MethodName) prog_3_method_3_code (2 : Nat) (Option.some Jvm.ClassFile.FieldType.boolean)) ∈ dw_Tb := fm_of fm_t2 (i := 233) rfl rfl
theorem fm_543 : (Jvm.Cond.methodLink "SixDew$GroundReader" (59 : Nat) ({ cls := "SixDew$Tape", name := "says", desc := "(Ljava/lang/String;)Z" } : Jvm.MethodName)) ∈ dw_Tb := fm_of fm_t2 (i := 235) rfl rfl
theorem fm_544 : (Jvm.Cond.instanceMethod ({ cls := "SixDew$Tape", name := "says", desc := "(Ljava/lang/String;)Z" } : Jvm.MethodName)) ∈ dw_Tb := fm_of fm_t2 (i := 236) rfl rfl
theorem fm_545 : (Jvm.Cond.selects "SixDew$Tape" ({ cls := "SixDew$Tape", name := "says", desc := "(Ljava/lang/String;)Z" } : Jvm.MethodName) ({ cls := "SixDew$Tape", name := "says", desc := "(Ljava/lang/String;)Z" } : Jvm.MethodName)) ∈ dw_Tb := fm_of fm_t2 (i := 237) rfl rfl
theorem fm_546 : (Jvm.Cond.code ({ cls := "SixDew$Tape", name := "says", desc := "(Ljava/lang/String;)Z" } : Jvm.MethodName) prog_11_method_8_code (3 : Nat) (Option.some Jvm.ClassFile.FieldType.boolean)) ∈ dw_Tb := fm_of fm_t2 (i := 238) rfl rfl
theorem fm_547 : (Jvm.Cond.methodLink "SixDew$Tape" (47 : Nat) ({ cls := "SixDew$Tape", name := "tokenSize", desc := "()I" } : Jvm.MethodName)) ∈ dw_Tb := fm_of fm_t2 (i := 239) rfl rfl
theorem fm_548 : (Jvm.Cond.instanceMethod ({ cls := "SixDew$Tape", name := "tokenSize", desc := "()I" } : Jvm.MethodName)) ∈ dw_Tb := fm_of fm_t3 (i := 0) rfl rfl
theorem fm_549 : (Jvm.Cond.selects "SixDew$Tape" ({ cls := "SixDew$Tape", name := "tokenSize", desc := "()I" } : Jvm.MethodName) ({ cls := "SixDew$Tape", name := "tokenSize", desc := "()I" } : Jvm.MethodName)) ∈ dw_Tb := fm_of fm_t3 (i := 1) rfl rfl
theorem fm_550 : (Jvm.Cond.code ({ cls := "SixDew$Tape", name := "tokenSize", desc := "()I" } : Jvm.MethodName) prog_11_method_7_code (1 : Nat) (Option.some Jvm.ClassFile.FieldType.int)) ∈ dw_Tb := fm_of fm_t3 (i := 2) rfl rfl
theorem fm_551 : (Jvm.Cond.methodLink "SixDew$Tape" (51 : Nat) ({ cls := "java/lang/String", name := "length", desc := "()I" } : Jvm.MethodName)) ∈ dw_Tb := fm_of fm_t3 (i := 3) rfl rfl
theorem fm_552 : (Jvm.Cond.instanceMethod ({ cls := "java/lang/String", name := "length", desc := "()I" } : Jvm.MethodName)) ∈ dw_Tb := fm_of fm_t3 (i := 4) rfl rfl
theorem fm_553 : (Jvm.Cond.selects "java/lang/String" ({ cls := "java/lang/String", name := "length", desc := "()I" } : Jvm.MethodName) ({ cls := "java/lang/String", name := "length", desc := "()I" } : Jvm.MethodName)) ∈ dw_Tb := fm_of fm_t3 (i := 5) rfl rfl
theorem fm_554 : (Jvm.Cond.code ({ cls := "java/lang/String", name := "length", desc := "()I" } : Jvm.MethodName) prog_22_method_54_code (1 : Nat) (Option.some Jvm.ClassFile.FieldType.int)) ∈ dw_Tb := fm_of fm_t3 (i := 6) rfl rfl
theorem fm_555 : (Jvm.Cond.methodLink "java/lang/String" (335 : Nat) ({ cls := "java/lang/String", name := "coder", desc := "()B" } : Jvm.MethodName)) ∈ dw_Tb := fm_of fm_t3 (i := 7) rfl rfl
theorem fm_556 : (Jvm.Cond.instanceMethod ({ cls := "java/lang/String", name := "coder", desc := "()B" } : Jvm.MethodName)) ∈ dw_Tb := fm_of fm_t3 (i := 8) rfl rfl
theorem fm_557 : (Jvm.Cond.selects "java/lang/String" ({ cls := "java/lang/String", name := "coder", desc := "()B" } : Jvm.MethodName) ({ cls := "java/lang/String", name := "coder", desc := "()B" } : Jvm.MethodName)) ∈ dw_Tb := fm_of fm_t3 (i := 9) rfl rfl
theorem fm_558 : (Jvm.Cond.code ({ cls := "java/lang/String", name := "coder", desc := "()B" } : Jvm.MethodName) prog_22_method_152_code (1 : Nat) (Option.some Jvm.ClassFile.FieldType.byte)) ∈ dw_Tb := fm_of fm_t3 (i := 10) rfl rfl
theorem fm_559 : (Jvm.Cond.fieldLink "java/lang/String" (38 : Nat) "java/lang/String" "COMPACT_STRINGS" "Z") ∈ dw_Tb := fm_of fm_t3 (i := 11) rfl rfl
theorem fm_561 : (Jvm.Cond.methodLink "SixDew$Tape" (56 : Nat) ({ cls := "java/lang/String", name := "charAt", desc := "(I)C" } : Jvm.MethodName)) ∈ dw_Tb := fm_of fm_t3 (i := 13) rfl rfl
theorem fm_562 : (Jvm.Cond.instanceMethod ({ cls := "java/lang/String", name := "charAt", desc := "(I)C" } : Jvm.MethodName)) ∈ dw_Tb := fm_of fm_t3 (i := 14) rfl rfl
theorem fm_563 : (Jvm.Cond.selects "java/lang/String" ({ cls := "java/lang/String", name := "charAt", desc := "(I)C" } : Jvm.MethodName) ({ cls := "java/lang/String", name := "charAt", desc := "(I)C" } : Jvm.MethodName)) ∈ dw_Tb := fm_of fm_t3 (i := 15) rfl rfl
theorem fm_564 : (Jvm.Cond.code ({ cls := "java/lang/String", name := "charAt", desc := "(I)C" } : Jvm.MethodName) prog_22_method_56_code (2 : Nat) (Option.some Jvm.ClassFile.FieldType.char)) ∈ dw_Tb := fm_of fm_t3 (i := 16) rfl rfl
theorem fm_565 : (Jvm.Cond.methodLink "java/lang/String" (492 : Nat) ({ cls := "java/lang/String", name := "isLatin1", desc := "()Z" } : Jvm.MethodName)) ∈ dw_Tb := fm_of fm_t3 (i := 17) rfl rfl
theorem fm_566 : (Jvm.Cond.instanceMethod ({ cls := "java/lang/String", name := "isLatin1", desc := "()Z" } : Jvm.MethodName)) ∈ dw_Tb := fm_of fm_t3 (i := 18) rfl rfl
theorem fm_567 : (Jvm.Cond.selects "java/lang/String" ({ cls := "java/lang/String", name := "isLatin1", desc := "()Z" } : Jvm.MethodName) ({ cls := "java/lang/String", name := "isLatin1", desc := "()Z" } : Jvm.MethodName)) ∈ dw_Tb := fm_of fm_t3 (i := 19) rfl rfl
theorem fm_568 : (Jvm.Cond.code ({ cls := "java/lang/String", name := "isLatin1", desc := "()Z" } : Jvm.MethodName) prog_22_method_154_code (1 : Nat) (Option.some Jvm.ClassFile.FieldType.boolean)) ∈ dw_Tb := fm_of fm_t3 (i := 20) rfl rfl
theorem fm_569 : (Jvm.Cond.methodLink "java/lang/String" (495 : Nat) ({ cls := "java/lang/StringLatin1", name := "charAt", desc := "([BI)C" } : Jvm.MethodName)) ∈ dw_Tb := fm_of fm_t3 (i := 21) rfl rfl
theorem fm_570 : (Jvm.Cond.static ({ cls := "java/lang/StringLatin1", name := "charAt", desc := "([BI)C" } : Jvm.MethodName)) ∈ dw_Tb := fm_of fm_t3 (i := 22) rfl rfl
theorem fm_571 : (Jvm.Cond.code ({ cls := "java/lang/StringLatin1", name := "charAt", desc := "([BI)C" } : Jvm.MethodName) prog_23_method_2_code (2 : Nat) (Option.some Jvm.ClassFile.FieldType.char)) ∈ dw_Tb := fm_of fm_t3 (i := 23) rfl rfl
theorem fm_572 : (Jvm.Cond.methodLink "java/lang/StringLatin1" (9 : Nat) ({ cls := "java/lang/String", name := "checkIndex", desc := "(II)V" } : Jvm.MethodName)) ∈ dw_Tb := fm_of fm_t3 (i := 24) rfl rfl
theorem fm_573 : (Jvm.Cond.static ({ cls := "java/lang/String", name := "checkIndex", desc := "(II)V" } : Jvm.MethodName)) ∈ dw_Tb := fm_of fm_t3 (i := 25) rfl rfl
theorem fm_574 : (Jvm.Cond.code ({ cls := "java/lang/String", name := "checkIndex", desc := "(II)V" } : Jvm.MethodName) prog_22_method_155_code (2 : Nat) (Option.none : Option Jvm.ClassFile.FieldType)) ∈ dw_Tb := fm_of fm_t3 (i := 26) rfl rfl
theorem fm_575 : (Jvm.Cond.fieldLink "java/lang/String" (1053 : Nat) "jdk/internal/util/Preconditions" "SIOOBE_FORMATTER" "Ljava/util/function/BiFunction;") ∈ dw_Tb := fm_of fm_t3 (i := 27) rfl rfl
theorem fm_577 : (Jvm.Cond.methodLink "java/lang/String" (1059 : Nat) ({ cls := "jdk/internal/util/Preconditions", name := "checkIndex", desc := "(IILjava/util/function/BiFunction;)I" } : Jvm.MethodName)) ∈ dw_Tb := fm_of fm_t3 (i := 29) rfl rfl
theorem fm_578 : (Jvm.Cond.static ({ cls := "jdk/internal/util/Preconditions", name := "checkIndex", desc := "(IILjava/util/function/BiFunction;)I" } : Jvm.MethodName)) ∈ dw_Tb := fm_of fm_t3 (i := 30) rfl rfl
theorem fm_579 : (Jvm.Cond.code ({ cls := "jdk/internal/util/Preconditions", name := "checkIndex", desc := "(IILjava/util/function/BiFunction;)I" } : Jvm.MethodName) prog_30_method_11_code (3 : Nat) (Option.some Jvm.ClassFile.FieldType.int)) ∈ dw_Tb := fm_of fm_t3 (i := 31) rfl rfl
theorem fm_599 : (Jvm.Cond.methodLink "SixDew$GroundReader" (63 : Nat) ({ cls := "SixDew$GroundReader", name := "readKind", desc := "(LSixDew$Tape;)Z" } : Jvm.MethodName)) ∈ dw_Tb := fm_of fm_t3 (i := 51) rfl rfl
theorem fm_601 : (Jvm.Cond.instanceMethod ({ cls := "SixDew$GroundReader", name := "readKind", desc := "(LSixDew$Tape;)Z" } : Jvm.MethodName)) ∈ dw_Tb := fm_of fm_t3 (i := 53) rfl rfl
theorem fm_602 : (Jvm.Cond.code ({ cls := "SixDew$GroundReader", name := "readKind", desc := "(LSixDew$Tape;)Z" } : Jvm.MethodName) prog_3_method_4_code (3 : Nat) (Option.some Jvm.ClassFile.FieldType.boolean)) ∈ dw_Tb := fm_of fm_t3 (i := 54) rfl rfl
theorem fm_603 : (Jvm.Cond.methodLink "SixDew$GroundReader" (80 : Nat) ({ cls := "SixDew$Tape", name := "fail", desc := "(I)Z" } : Jvm.MethodName)) ∈ dw_Tb := fm_of fm_t3 (i := 55) rfl rfl
theorem fm_604 : (Jvm.Cond.instanceMethod ({ cls := "SixDew$Tape", name := "fail", desc := "(I)Z" } : Jvm.MethodName)) ∈ dw_Tb := fm_of fm_t3 (i := 56) rfl rfl
theorem fm_605 : (Jvm.Cond.selects "SixDew$Tape" ({ cls := "SixDew$Tape", name := "fail", desc := "(I)Z" } : Jvm.MethodName) ({ cls := "SixDew$Tape", name := "fail", desc := "(I)Z" } : Jvm.MethodName)) ∈ dw_Tb := fm_of fm_t3 (i := 57) rfl rfl
theorem fm_606 : (Jvm.Cond.code ({ cls := "SixDew$Tape", name := "fail", desc := "(I)Z" } : Jvm.MethodName) prog_11_method_11_code (2 : Nat) (Option.some Jvm.ClassFile.FieldType.boolean)) ∈ dw_Tb := fm_of fm_t3 (i := 58) rfl rfl
theorem fm_607 : (Jvm.Cond.methodLink "SixDew$GroundReader" (90 : Nat) ({ cls := "SixDew$Tape", name := "takeWord", desc := "()Z" } : Jvm.MethodName)) ∈ dw_Tb := fm_of fm_t3 (i := 59) rfl rfl
theorem fm_608 : (Jvm.Cond.instanceMethod ({ cls := "SixDew$Tape", name := "takeWord", desc := "()Z" } : Jvm.MethodName)) ∈ dw_Tb := fm_of fm_t3 (i := 60) rfl rfl
theorem fm_609 : (Jvm.Cond.selects "SixDew$Tape" ({ cls := "SixDew$Tape", name := "takeWord", desc := "()Z" } : Jvm.MethodName) ({ cls := "SixDew$Tape", name := "takeWord", desc := "()Z" } : Jvm.MethodName)) ∈ dw_Tb := fm_of fm_t3 (i := 61) rfl rfl
theorem fm_610 : (Jvm.Cond.code ({ cls := "SixDew$Tape", name := "takeWord", desc := "()Z" } : Jvm.MethodName) prog_11_method_12_code (1 : Nat) (Option.some Jvm.ClassFile.FieldType.boolean)) ∈ dw_Tb := fm_of fm_t3 (i := 62) rfl rfl
theorem fm_611 : (Jvm.Cond.methodLink "SixDew$Tape" (90 : Nat) ({ cls := "SixDew$Tape", name := "take", desc := "()V" } : Jvm.MethodName)) ∈ dw_Tb := fm_of fm_t3 (i := 63) rfl rfl
theorem fm_612 : (Jvm.Cond.methodLink "SixDew$Tape" (93 : Nat) ({ cls := "SixDew$Tape", name := "fail", desc := "(I)Z" } : Jvm.MethodName)) ∈ dw_Tb := fm_of fm_t3 (i := 64) rfl rfl
theorem fm_613 : (Jvm.Cond.methodLink "SixDew$GroundReader" (94 : Nat) ({ cls := "SixDew$GroundReader", name := "isNewName", desc := "(LSixDew$Tape;I)Z" } : Jvm.MethodName)) ∈ dw_Tb := fm_of fm_t3 (i := 65) rfl rfl
theorem fm_615 : (Jvm.Cond.instanceMethod ({ cls := "SixDew$GroundReader", name := "isNewName", desc := "(LSixDew$Tape;I)Z" } : Jvm.MethodName)) ∈ dw_Tb := fm_of fm_t3 (i := 67) rfl rfl
theorem fm_616 : (Jvm.Cond.code ({ cls := "SixDew$GroundReader", name := "isNewName", desc := "(LSixDew$Tape;I)Z" } : Jvm.MethodName) prog_3_method_5_code (4 : Nat) (Option.some Jvm.ClassFile.FieldType.boolean)) ∈ dw_Tb := fm_of fm_t3 (i := 68) rfl rfl
theorem fm_617 : (Jvm.Cond.methodLink "SixDew$GroundReader" (116 : Nat) ({ cls := "SixDew$Tape", name := "saysTold", desc := "()Z" } : Jvm.MethodName)) ∈ dw_Tb := fm_of fm_t3 (i := 69) rfl rfl
theorem fm_618 : (Jvm.Cond.instanceMethod ({ cls := "SixDew$Tape", name := "saysTold", desc := "()Z" } : Jvm.MethodName)) ∈ dw_Tb := fm_of fm_t3 (i := 70) rfl rfl
theorem fm_619 : (Jvm.Cond.selects "SixDew$Tape" ({ cls := "SixDew$Tape", name := "saysTold", desc := "()Z" } : Jvm.MethodName) ({ cls := "SixDew$Tape", name := "saysTold", desc := "()Z" } : Jvm.MethodName)) ∈ dw_Tb := fm_of fm_t3 (i := 71) rfl rfl
theorem fm_620 : (Jvm.Cond.code ({ cls := "SixDew$Tape", name := "saysTold", desc := "()Z" } : Jvm.MethodName) prog_11_method_9_code (1 : Nat) (Option.some Jvm.ClassFile.FieldType.boolean)) ∈ dw_Tb := fm_of fm_t3 (i := 72) rfl rfl
theorem fm_622 : (Jvm.Cond.methodLink "SixDew$Tape" (62 : Nat) ({ cls := "SixDew$Tape", name := "says", desc := "(Ljava/lang/String;)Z" } : Jvm.MethodName)) ∈ dw_Tb := fm_of fm_t3 (i := 74) rfl rfl
theorem fm_635 : (Jvm.Cond.methodLink "SixDew$GroundReader" (119 : Nat) ({ cls := "SixDew$Tape", name := "saysAsAt", desc := "(II)Z" } : Jvm.MethodName)) ∈ dw_Tb := fm_of fm_t3 (i := 87) rfl rfl
theorem fm_636 : (Jvm.Cond.instanceMethod ({ cls := "SixDew$Tape", name := "saysAsAt", desc := "(II)Z" } : Jvm.MethodName)) ∈ dw_Tb := fm_of fm_t3 (i := 88) rfl rfl
theorem fm_637 : (Jvm.Cond.selects "SixDew$Tape" ({ cls := "SixDew$Tape", name := "saysAsAt", desc := "(II)Z" } : Jvm.MethodName) ({ cls := "SixDew$Tape", name := "saysAsAt", desc := "(II)Z" } : Jvm.MethodName)) ∈ dw_Tb := fm_of fm_t3 (i := 89) rfl rfl
theorem fm_638 : (Jvm.Cond.code ({ cls := "SixDew$Tape", name := "saysAsAt", desc := "(II)Z" } : Jvm.MethodName) prog_11_method_10_code (4 : Nat) (Option.some Jvm.ClassFile.FieldType.boolean)) ∈ dw_Tb := fm_of fm_t3 (i := 90) rfl rfl
theorem fm_639 : (Jvm.Cond.methodLink "SixDew$GroundReader" (125 : Nat) ({ cls := "SixDew$Tape", name := "tokenSize", desc := "()I" } : Jvm.MethodName)) ∈ dw_Tb := fm_of fm_t3 (i := 91) rfl rfl
theorem fm_640 : (Jvm.Cond.methodLink "SixDew$GroundReader" (98 : Nat) ({ cls := "SixDew$Tape", name := "takeNumber", desc := "(II)Z" } : Jvm.MethodName)) ∈ dw_Tb := fm_of fm_t3 (i := 92) rfl rfl
theorem fm_641 : (Jvm.Cond.instanceMethod ({ cls := "SixDew$Tape", name := "takeNumber", desc := "(II)Z" } : Jvm.MethodName)) ∈ dw_Tb := fm_of fm_t3 (i := 93) rfl rfl
theorem fm_642 : (Jvm.Cond.selects "SixDew$Tape" ({ cls := "SixDew$Tape", name := "takeNumber", desc := "(II)Z" } : Jvm.MethodName) ({ cls := "SixDew$Tape", name := "takeNumber", desc := "(II)Z" } : Jvm.MethodName)) ∈ dw_Tb := fm_of fm_t3 (i := 94) rfl rfl
theorem fm_643 : (Jvm.Cond.code ({ cls := "SixDew$Tape", name := "takeNumber", desc := "(II)Z" } : Jvm.MethodName) prog_11_method_13_code (3 : Nat) (Option.some Jvm.ClassFile.FieldType.boolean)) ∈ dw_Tb := fm_of fm_t3 (i := 95) rfl rfl
theorem fm_646 : (Jvm.Cond.methodLink "SixDew$GroundReader" (68 : Nat) ({ cls := "SixDew$GroundReader", name := "readRow", desc := "(LSixDew$Tape;)Z" } : Jvm.MethodName)) ∈ dw_Tb := fm_of fm_t3 (i := 98) rfl rfl
theorem fm_648 : (Jvm.Cond.instanceMethod ({ cls := "SixDew$GroundReader", name := "readRow", desc := "(LSixDew$Tape;)Z" } : Jvm.MethodName)) ∈ dw_Tb := fm_of fm_t3 (i := 100) rfl rfl
theorem fm_649 : (Jvm.Cond.code ({ cls := "SixDew$GroundReader", name := "readRow", desc := "(LSixDew$Tape;)Z" } : Jvm.MethodName) prog_3_method_6_code (6 : Nat) (Option.some Jvm.ClassFile.FieldType.boolean)) ∈ dw_Tb := fm_of fm_t3 (i := 101) rfl rfl
theorem fm_650 : (Jvm.Cond.methodLink "SixDew$GroundReader" (132 : Nat) ({ cls := "SixDew$Tape", name := "byteAt", desc := "(I)I" } : Jvm.MethodName)) ∈ dw_Tb := fm_of fm_t3 (i := 102) rfl rfl
theorem fm_651 : (Jvm.Cond.methodLink "SixDew$GroundReader" (139 : Nat) ({ cls := "SixDew$Tape", name := "takeStop", desc := "()Z" } : Jvm.MethodName)) ∈ dw_Tb := fm_of fm_t3 (i := 103) rfl rfl
theorem fm_652 : (Jvm.Cond.instanceMethod ({ cls := "SixDew$Tape", name := "takeStop", desc := "()Z" } : Jvm.MethodName)) ∈ dw_Tb := fm_of fm_t3 (i := 104) rfl rfl
theorem fm_653 : (Jvm.Cond.selects "SixDew$Tape" ({ cls := "SixDew$Tape", name := "takeStop", desc := "()Z" } : Jvm.MethodName) ({ cls := "SixDew$Tape", name := "takeStop", desc := "()Z" } : Jvm.MethodName)) ∈ dw_Tb := fm_of fm_t3 (i := 105) rfl rfl
theorem fm_654 : (Jvm.Cond.code ({ cls := "SixDew$Tape", name := "takeStop", desc := "()Z" } : Jvm.MethodName) prog_11_method_14_code (1 : Nat) (Option.some Jvm.ClassFile.FieldType.boolean)) ∈ dw_Tb := fm_of fm_t3 (i := 106) rfl rfl
theorem fm_656 : (Jvm.Cond.methodLink "SixDew$GroundReader" (72 : Nat) ({ cls := "SixDew$GroundReader", name := "readShade", desc := "(LSixDew$Tape;)Z" } : Jvm.MethodName)) ∈ dw_Tb := fm_of fm_t3 (i := 108) rfl rfl
theorem fm_658 : (Jvm.Cond.instanceMethod ({ cls := "SixDew$GroundReader", name := "readShade", desc := "(LSixDew$Tape;)Z" } : Jvm.MethodName)) ∈ dw_Tb := fm_of fm_t3 (i := 110) rfl rfl
theorem fm_659 : (Jvm.Cond.code ({ cls := "SixDew$GroundReader", name := "readShade", desc := "(LSixDew$Tape;)Z" } : Jvm.MethodName) prog_3_method_7_code (3 : Nat) (Option.some Jvm.ClassFile.FieldType.boolean)) ∈ dw_Tb := fm_of fm_t3 (i := 111) rfl rfl
theorem fm_661 : (Jvm.Cond.methodLink "SixDew$GroundReader" (77 : Nat) ({ cls := "SixDew$GroundReader", name := "readStock", desc := "(LSixDew$Tape;)Z" } : Jvm.MethodName)) ∈ dw_Tb := fm_of fm_t3 (i := 113) rfl rfl
theorem fm_663 : (Jvm.Cond.instanceMethod ({ cls := "SixDew$GroundReader", name := "readStock", desc := "(LSixDew$Tape;)Z" } : Jvm.MethodName)) ∈ dw_Tb := fm_of fm_t3 (i := 115) rfl rfl
theorem fm_664 : (Jvm.Cond.code ({ cls := "SixDew$GroundReader", name := "readStock", desc := "(LSixDew$Tape;)Z" } : Jvm.MethodName) prog_3_method_8_code (2 : Nat) (Option.some Jvm.ClassFile.FieldType.boolean)) ∈ dw_Tb := fm_of fm_t3 (i := 116) rfl rfl
theorem fm_665 : (Jvm.Cond.methodLink "SixDew" (112 : Nat) ({ cls := "SixDew$State", name := "take", desc := "(LSixDew$Ground;)V" } : Jvm.MethodName)) ∈ dw_Tb := fm_of fm_t3 (i := 117) rfl rfl
theorem fm_666 : (Jvm.Cond.instanceMethod ({ cls := "SixDew$State", name := "take", desc := "(LSixDew$Ground;)V" } : Jvm.MethodName)) ∈ dw_Tb := fm_of fm_t3 (i := 118) rfl rfl
theorem fm_667 : (Jvm.Cond.selects "SixDew$State" ({ cls := "SixDew$State", name := "take", desc := "(LSixDew$Ground;)V" } : Jvm.MethodName) ({ cls := "SixDew$State", name := "take", desc := "(LSixDew$Ground;)V" } : Jvm.MethodName)) ∈ dw_Tb := fm_of fm_t3 (i := 119) rfl rfl
theorem fm_668 : (Jvm.Cond.code ({ cls := "SixDew$State", name := "take", desc := "(LSixDew$Ground;)V" } : Jvm.MethodName) prog_10_method_4_code (4 : Nat) (Option.none : Option Jvm.ClassFile.FieldType)) ∈ dw_Tb := fm_of fm_t3 (i := 120) rfl rfl
theorem fm_669 : (Jvm.Cond.methodLink "SixDew$State" (47 : Nat) ({ cls := "SixDew$Ground", name := "copyFrom", desc := "(LSixDew$Ground;)V" } : Jvm.MethodName)) ∈ dw_Tb := fm_of fm_t3 (i := 121) rfl rfl
theorem fm_670 : (Jvm.Cond.instanceMethod ({ cls := "SixDew$Ground", name := "copyFrom", desc := "(LSixDew$Ground;)V" } : Jvm.MethodName)) ∈ dw_Tb := fm_of fm_t3 (i := 122) rfl rfl
theorem fm_671 : (Jvm.Cond.selects "SixDew$Ground" ({ cls := "SixDew$Ground", name := "copyFrom", desc := "(LSixDew$Ground;)V" } : Jvm.MethodName) ({ cls := "SixDew$Ground", name := "copyFrom", desc := "(LSixDew$Ground;)V" } : Jvm.MethodName)) ∈ dw_Tb := fm_of fm_t3 (i := 123) rfl rfl
theorem fm_672 : (Jvm.Cond.code ({ cls := "SixDew$Ground", name := "copyFrom", desc := "(LSixDew$Ground;)V" } : Jvm.MethodName) prog_2_method_8_code (2 : Nat) (Option.none : Option Jvm.ClassFile.FieldType)) ∈ dw_Tb := fm_of fm_t3 (i := 124) rfl rfl
theorem fm_673 : (Jvm.Cond.methodLink "SixDew$Ground" (47 : Nat) ({ cls := "java/lang/System", name := "arraycopy", desc := "(Ljava/lang/Object;ILjava/lang/Object;II)V" } : Jvm.MethodName)) ∈ dw_Tb := fm_of fm_t3 (i := 125) rfl rfl
theorem fm_674 : (Jvm.Cond.static ({ cls := "java/lang/System", name := "arraycopy", desc := "(Ljava/lang/Object;ILjava/lang/Object;II)V" } : Jvm.MethodName)) ∈ dw_Tb := fm_of fm_t3 (i := 126) rfl rfl
theorem fm_675 : (Jvm.Cond.native ({ cls := "java/lang/System", name := "arraycopy", desc := "(Ljava/lang/Object;ILjava/lang/Object;II)V" } : Jvm.MethodName)) ∈ dw_Tb := fm_of fm_t3 (i := 127) rfl rfl
theorem fm_676 : (Jvm.Cond.methodLink "SixDew$State" (39 : Nat) ({ cls := "SixDew$State", name := "nightOf", desc := "(I)LSixDew$Night;" } : Jvm.MethodName)) ∈ dw_Tb := fm_of fm_t3 (i := 128) rfl rfl
theorem fm_677 : (Jvm.Cond.instanceMethod ({ cls := "SixDew$State", name := "nightOf", desc := "(I)LSixDew$Night;" } : Jvm.MethodName)) ∈ dw_Tb := fm_of fm_t3 (i := 129) rfl rfl
theorem fm_678 : (Jvm.Cond.selects "SixDew$State" ({ cls := "SixDew$State", name := "nightOf", desc := "(I)LSixDew$Night;" } : Jvm.MethodName) ({ cls := "SixDew$State", name := "nightOf", desc := "(I)LSixDew$Night;" } : Jvm.MethodName)) ∈ dw_Tb := fm_of fm_t3 (i := 130) rfl rfl
theorem fm_679 : (Jvm.Cond.code ({ cls := "SixDew$State", name := "nightOf", desc := "(I)LSixDew$Night;" } : Jvm.MethodName) prog_10_method_2_code (2 : Nat) (Option.some (Jvm.ClassFile.FieldType.object "SixDew$Night"))) ∈ dw_Tb := fm_of fm_t3 (i := 131) rfl rfl
theorem fm_681 : (Jvm.Cond.methodLink "SixDewLaw" (37 : Nat) ({ cls := "SixDew", name := "fault", desc := "()I" } : Jvm.MethodName)) ∈ dw_Tb := fm_of fm_t3 (i := 133) rfl rfl
theorem fm_682 : (Jvm.Cond.instanceMethod ({ cls := "SixDew", name := "fault", desc := "()I" } : Jvm.MethodName)) ∈ dw_Tb := fm_of fm_t3 (i := 134) rfl rfl
theorem fm_683 : (Jvm.Cond.selects "SixDew" ({ cls := "SixDew", name := "fault", desc := "()I" } : Jvm.MethodName) ({ cls := "SixDew", name := "fault", desc := "()I" } : Jvm.MethodName)) ∈ dw_Tb := fm_of fm_t3 (i := 135) rfl rfl
theorem fm_684 : (Jvm.Cond.code ({ cls := "SixDew", name := "fault", desc := "()I" } : Jvm.MethodName) prog_1_method_5_code (1 : Nat) (Option.some Jvm.ClassFile.FieldType.int)) ∈ dw_Tb := fm_of fm_t3 (i := 136) rfl rfl
theorem fm_685 : (Jvm.Cond.methodLink "SixDewLaw" (47 : Nat) ({ cls := "SixDew", name := "night", desc := "(I)I" } : Jvm.MethodName)) ∈ dw_Tb := fm_of fm_t3 (i := 137) rfl rfl
theorem fm_686 : (Jvm.Cond.instanceMethod ({ cls := "SixDew", name := "night", desc := "(I)I" } : Jvm.MethodName)) ∈ dw_Tb := fm_of fm_t3 (i := 138) rfl rfl
theorem fm_687 : (Jvm.Cond.selects "SixDew" ({ cls := "SixDew", name := "night", desc := "(I)I" } : Jvm.MethodName) ({ cls := "SixDew", name := "night", desc := "(I)I" } : Jvm.MethodName)) ∈ dw_Tb := fm_of fm_t3 (i := 139) rfl rfl
theorem fm_688 : (Jvm.Cond.code ({ cls := "SixDew", name := "night", desc := "(I)I" } : Jvm.MethodName) prog_1_method_7_code (4 : Nat) (Option.some Jvm.ClassFile.FieldType.int)) ∈ dw_Tb := fm_of fm_t3 (i := 140) rfl rfl
theorem fm_689 : (Jvm.Cond.methodLink "SixDew" (138 : Nat) ({ cls := "SixDew$State", name := "nightOf", desc := "(I)LSixDew$Night;" } : Jvm.MethodName)) ∈ dw_Tb := fm_of fm_t3 (i := 141) rfl rfl
theorem fm_690 : (Jvm.Cond.methodLink "SixDew" (142 : Nat) ({ cls := "SixDew$NightReader", name := "readText", desc := "(LSixDew$Tape;)I" } : Jvm.MethodName)) ∈ dw_Tb := fm_of fm_t3 (i := 142) rfl rfl
theorem fm_691 : (Jvm.Cond.instanceMethod ({ cls := "SixDew$NightReader", name := "readText", desc := "(LSixDew$Tape;)I" } : Jvm.MethodName)) ∈ dw_Tb := fm_of fm_t3 (i := 143) rfl rfl
theorem fm_692 : (Jvm.Cond.selects "SixDew$NightReader" ({ cls := "SixDew$NightReader", name := "readText", desc := "(LSixDew$Tape;)I" } : Jvm.MethodName) ({ cls := "SixDew$NightReader", name := "readText", desc := "(LSixDew$Tape;)I" } : Jvm.MethodName)) ∈ dw_Tb := fm_of fm_t3 (i := 144) rfl rfl
theorem fm_693 : (Jvm.Cond.code ({ cls := "SixDew$NightReader", name := "readText", desc := "(LSixDew$Tape;)I" } : Jvm.MethodName) prog_5_method_2_code (3 : Nat) (Option.some Jvm.ClassFile.FieldType.int)) ∈ dw_Tb := fm_of fm_t3 (i := 145) rfl rfl
theorem fm_694 : (Jvm.Cond.methodLink "SixDew$NightReader" (18 : Nat) ({ cls := "SixDew$Night", name := "clear", desc := "()V" } : Jvm.MethodName)) ∈ dw_Tb := fm_of fm_t3 (i := 146) rfl rfl
theorem fm_695 : (Jvm.Cond.instanceMethod ({ cls := "SixDew$Night", name := "clear", desc := "()V" } : Jvm.MethodName)) ∈ dw_Tb := fm_of fm_t3 (i := 147) rfl rfl
theorem fm_696 : (Jvm.Cond.selects "SixDew$Night" ({ cls := "SixDew$Night", name := "clear", desc := "()V" } : Jvm.MethodName) ({ cls := "SixDew$Night", name := "clear", desc := "()V" } : Jvm.MethodName)) ∈ dw_Tb := fm_of fm_t3 (i := 148) rfl rfl
theorem fm_697 : (Jvm.Cond.code ({ cls := "SixDew$Night", name := "clear", desc := "()V" } : Jvm.MethodName) prog_4_method_4_code (1 : Nat) (Option.none : Option Jvm.ClassFile.FieldType)) ∈ dw_Tb := fm_of fm_t3 (i := 149) rfl rfl
theorem fm_698 : (Jvm.Cond.methodLink "SixDew$Night" (30 : Nat) ({ cls := "SixDew$Night", name := "set", desc := "(III)V" } : Jvm.MethodName)) ∈ dw_Tb := fm_of fm_t3 (i := 150) rfl rfl
theorem fm_699 : (Jvm.Cond.instanceMethod ({ cls := "SixDew$Night", name := "set", desc := "(III)V" } : Jvm.MethodName)) ∈ dw_Tb := fm_of fm_t3 (i := 151) rfl rfl
theorem fm_700 : (Jvm.Cond.selects "SixDew$Night" ({ cls := "SixDew$Night", name := "set", desc := "(III)V" } : Jvm.MethodName) ({ cls := "SixDew$Night", name := "set", desc := "(III)V" } : Jvm.MethodName)) ∈ dw_Tb := fm_of fm_t3 (i := 152) rfl rfl
theorem fm_701 : (Jvm.Cond.code ({ cls := "SixDew$Night", name := "set", desc := "(III)V" } : Jvm.MethodName) prog_4_method_3_code (5 : Nat) (Option.none : Option Jvm.ClassFile.FieldType)) ∈ dw_Tb := fm_of fm_t3 (i := 153) rfl rfl
theorem fm_702 : (Jvm.Cond.methodLink "SixDew$Night" (20 : Nat) ({ cls := "java/lang/Math", name := "max", desc := "(II)I" } : Jvm.MethodName)) ∈ dw_Tb := fm_of fm_t3 (i := 154) rfl rfl
theorem fm_703 : (Jvm.Cond.methodLink "SixDew$NightReader" (29 : Nat) ({ cls := "SixDew$Tape", name := "open", desc := "(I)V" } : Jvm.MethodName)) ∈ dw_Tb := fm_of fm_t3 (i := 155) rfl rfl
theorem fm_704 : (Jvm.Cond.methodLink "SixDew$NightReader" (35 : Nat) ({ cls := "SixDew$Tape", name := "take", desc := "()V" } : Jvm.MethodName)) ∈ dw_Tb := fm_of fm_t3 (i := 156) rfl rfl
theorem fm_705 : (Jvm.Cond.methodLink "SixDew$NightReader" (41 : Nat) ({ cls := "SixDew$NightReader", name := "readLine", desc := "(LSixDew$Tape;I)Z" } : Jvm.MethodName)) ∈ dw_Tb := fm_of fm_t3 (i := 157) rfl rfl
theorem fm_707 : (Jvm.Cond.instanceMethod ({ cls := "SixDew$NightReader", name := "readLine", desc := "(LSixDew$Tape;I)Z" } : Jvm.MethodName)) ∈ dw_Tb := fm_of fm_t3 (i := 159) rfl rfl
theorem fm_708 : (Jvm.Cond.code ({ cls := "SixDew$NightReader", name := "readLine", desc := "(LSixDew$Tape;I)Z" } : Jvm.MethodName) prog_5_method_3_code (4 : Nat) (Option.some Jvm.ClassFile.FieldType.boolean)) ∈ dw_Tb := fm_of fm_t3 (i := 160) rfl rfl
theorem fm_709 : (Jvm.Cond.methodLink "SixDew$NightReader" (45 : Nat) ({ cls := "SixDew$NightReader", name := "whatIsTold", desc := "(LSixDew$Tape;)I" } : Jvm.MethodName)) ∈ dw_Tb := fm_of fm_t3 (i := 161) rfl rfl
theorem fm_710 : (Jvm.Cond.static ({ cls := "SixDew$NightReader", name := "whatIsTold", desc := "(LSixDew$Tape;)I" } : Jvm.MethodName)) ∈ dw_Tb := fm_of fm_t3 (i := 162) rfl rfl
theorem fm_711 : (Jvm.Cond.code ({ cls := "SixDew$NightReader", name := "whatIsTold", desc := "(LSixDew$Tape;)I" } : Jvm.MethodName) prog_5_method_4_code (1 : Nat) (Option.some Jvm.ClassFile.FieldType.int)) ∈ dw_Tb := fm_of fm_t3 (i := 163) rfl rfl
theorem fm_713 : (Jvm.Cond.methodLink "SixDew$NightReader" (74 : Nat) ({ cls := "SixDew$Tape", name := "says", desc := "(Ljava/lang/String;)Z" } : Jvm.MethodName)) ∈ dw_Tb := fm_of fm_t3 (i := 165) rfl rfl
theorem fm_717 : (Jvm.Cond.methodLink "SixDew$NightReader" (49 : Nat) ({ cls := "SixDew$Tape", name := "fail", desc := "(I)Z" } : Jvm.MethodName)) ∈ dw_Tb := fm_of fm_t3 (i := 169) rfl rfl
theorem fm_718 : (Jvm.Cond.methodLink "SixDew$NightReader" (53 : Nat) ({ cls := "SixDew$Tape", name := "takeNumber", desc := "(II)Z" } : Jvm.MethodName)) ∈ dw_Tb := fm_of fm_t3 (i := 170) rfl rfl
theorem fm_719 : (Jvm.Cond.methodLink "SixDew$NightReader" (60 : Nat) ({ cls := "SixDew$Night", name := "set", desc := "(III)V" } : Jvm.MethodName)) ∈ dw_Tb := fm_of fm_t3 (i := 171) rfl rfl
theorem fm_720 : (Jvm.Cond.methodLink "SixDew$NightReader" (64 : Nat) ({ cls := "SixDew$Tape", name := "takeStop", desc := "()Z" } : Jvm.MethodName)) ∈ dw_Tb := fm_of fm_t3 (i := 172) rfl rfl
theorem fm_721 : (Jvm.Cond.methodLink "SixDew$NightReader" (68 : Nat) ({ cls := "SixDew$NightReader", name := "mostOf", desc := "(I)I" } : Jvm.MethodName)) ∈ dw_Tb := fm_of fm_t3 (i := 173) rfl rfl
theorem fm_722 : (Jvm.Cond.static ({ cls := "SixDew$NightReader", name := "mostOf", desc := "(I)I" } : Jvm.MethodName)) ∈ dw_Tb := fm_of fm_t3 (i := 174) rfl rfl
theorem fm_723 : (Jvm.Cond.code ({ cls := "SixDew$NightReader", name := "mostOf", desc := "(I)I" } : Jvm.MethodName) prog_5_method_5_code (1 : Nat) (Option.some Jvm.ClassFile.FieldType.int)) ∈ dw_Tb := fm_of fm_t3 (i := 175) rfl rfl
theorem fm_724 : (Jvm.Cond.methodLink "SixDew" (146 : Nat) ({ cls := "SixDew$Night", name := "copyFrom", desc := "(LSixDew$Night;)V" } : Jvm.MethodName)) ∈ dw_Tb := fm_of fm_t3 (i := 176) rfl rfl
theorem fm_725 : (Jvm.Cond.instanceMethod ({ cls := "SixDew$Night", name := "copyFrom", desc := "(LSixDew$Night;)V" } : Jvm.MethodName)) ∈ dw_Tb := fm_of fm_t3 (i := 177) rfl rfl
theorem fm_726 : (Jvm.Cond.selects "SixDew$Night" ({ cls := "SixDew$Night", name := "copyFrom", desc := "(LSixDew$Night;)V" } : Jvm.MethodName) ({ cls := "SixDew$Night", name := "copyFrom", desc := "(LSixDew$Night;)V" } : Jvm.MethodName)) ∈ dw_Tb := fm_of fm_t3 (i := 178) rfl rfl
theorem fm_727 : (Jvm.Cond.code ({ cls := "SixDew$Night", name := "copyFrom", desc := "(LSixDew$Night;)V" } : Jvm.MethodName) prog_4_method_5_code (3 : Nat) (Option.none : Option Jvm.ClassFile.FieldType)) ∈ dw_Tb := fm_of fm_t3 (i := 179) rfl rfl
theorem fm_728 : (Jvm.Cond.methodLink "SixDew$Night" (34 : Nat) ({ cls := "java/lang/System", name := "arraycopy", desc := "(Ljava/lang/Object;ILjava/lang/Object;II)V" } : Jvm.MethodName)) ∈ dw_Tb := fm_of fm_t3 (i := 180) rfl rfl
theorem fm_729 : (Jvm.Cond.methodLink "SixDewLaw" (52 : Nat) ({ cls := "SixDew", name := "sky", desc := "(III)I" } : Jvm.MethodName)) ∈ dw_Tb := fm_of fm_t3 (i := 181) rfl rfl
theorem fm_730 : (Jvm.Cond.instanceMethod ({ cls := "SixDew", name := "sky", desc := "(III)I" } : Jvm.MethodName)) ∈ dw_Tb := fm_of fm_t3 (i := 182) rfl rfl
theorem fm_731 : (Jvm.Cond.selects "SixDew" ({ cls := "SixDew", name := "sky", desc := "(III)I" } : Jvm.MethodName) ({ cls := "SixDew", name := "sky", desc := "(III)I" } : Jvm.MethodName)) ∈ dw_Tb := fm_of fm_t3 (i := 183) rfl rfl
theorem fm_732 : (Jvm.Cond.code ({ cls := "SixDew", name := "sky", desc := "(III)I" } : Jvm.MethodName) prog_1_method_8_code (5 : Nat) (Option.some Jvm.ClassFile.FieldType.int)) ∈ dw_Tb := fm_of fm_t3 (i := 184) rfl rfl
theorem fm_733 : (Jvm.Cond.methodLink "SixDew" (156 : Nat) ({ cls := "SixDew", name := "isStep", desc := "(I)Z" } : Jvm.MethodName)) ∈ dw_Tb := fm_of fm_t3 (i := 185) rfl rfl
theorem fm_734 : (Jvm.Cond.static ({ cls := "SixDew", name := "isStep", desc := "(I)Z" } : Jvm.MethodName)) ∈ dw_Tb := fm_of fm_t3 (i := 186) rfl rfl
theorem fm_735 : (Jvm.Cond.code ({ cls := "SixDew", name := "isStep", desc := "(I)Z" } : Jvm.MethodName) prog_1_method_45_code (1 : Nat) (Option.some Jvm.ClassFile.FieldType.boolean)) ∈ dw_Tb := fm_of fm_t3 (i := 187) rfl rfl
theorem fm_736 : (Jvm.Cond.methodLink "SixDew" (160 : Nat) ({ cls := "SixDew$Night", name := "tell", desc := "(II)I" } : Jvm.MethodName)) ∈ dw_Tb := fm_of fm_t3 (i := 188) rfl rfl
theorem fm_737 : (Jvm.Cond.instanceMethod ({ cls := "SixDew$Night", name := "tell", desc := "(II)I" } : Jvm.MethodName)) ∈ dw_Tb := fm_of fm_t3 (i := 189) rfl rfl
theorem fm_738 : (Jvm.Cond.selects "SixDew$Night" ({ cls := "SixDew$Night", name := "tell", desc := "(II)I" } : Jvm.MethodName) ({ cls := "SixDew$Night", name := "tell", desc := "(II)I" } : Jvm.MethodName)) ∈ dw_Tb := fm_of fm_t3 (i := 190) rfl rfl
theorem fm_739 : (Jvm.Cond.code ({ cls := "SixDew$Night", name := "tell", desc := "(II)I" } : Jvm.MethodName) prog_4_method_2_code (3 : Nat) (Option.some Jvm.ClassFile.FieldType.int)) ∈ dw_Tb := fm_of fm_t3 (i := 191) rfl rfl
theorem fm_741 : (Jvm.Cond.methodLink "SixDewLaw" (56 : Nat) ({ cls := "SixDew", name := "begin", desc := "(I)Z" } : Jvm.MethodName)) ∈ dw_Tb := fm_of fm_t3 (i := 193) rfl rfl
theorem fm_742 : (Jvm.Cond.instanceMethod ({ cls := "SixDew", name := "begin", desc := "(I)Z" } : Jvm.MethodName)) ∈ dw_Tb := fm_of fm_t3 (i := 194) rfl rfl
theorem fm_743 : (Jvm.Cond.selects "SixDew" ({ cls := "SixDew", name := "begin", desc := "(I)Z" } : Jvm.MethodName) ({ cls := "SixDew", name := "begin", desc := "(I)Z" } : Jvm.MethodName)) ∈ dw_Tb := fm_of fm_t3 (i := 195) rfl rfl
theorem fm_744 : (Jvm.Cond.code ({ cls := "SixDew", name := "begin", desc := "(I)Z" } : Jvm.MethodName) prog_1_method_9_code (2 : Nat) (Option.some Jvm.ClassFile.FieldType.boolean)) ∈ dw_Tb := fm_of fm_t3 (i := 196) rfl rfl
theorem fm_745 : (Jvm.Cond.methodLink "SixDew" (164 : Nat) ({ cls := "SixDew", name := "start", desc := "(LSixDew$Run;I)Z" } : Jvm.MethodName)) ∈ dw_Tb := fm_of fm_t3 (i := 197) rfl rfl
theorem fm_747 : (Jvm.Cond.instanceMethod ({ cls := "SixDew", name := "start", desc := "(LSixDew$Run;I)Z" } : Jvm.MethodName)) ∈ dw_Tb := fm_of fm_t3 (i := 199) rfl rfl
theorem fm_748 : (Jvm.Cond.code ({ cls := "SixDew", name := "start", desc := "(LSixDew$Run;I)Z" } : Jvm.MethodName) prog_1_method_47_code (4 : Nat) (Option.some Jvm.ClassFile.FieldType.boolean)) ∈ dw_Tb := fm_of fm_t3 (i := 200) rfl rfl
theorem fm_749 : (Jvm.Cond.methodLink "SixDew" (358 : Nat) ({ cls := "SixDew$Run", name := "start", desc := "(LSixDew$Ground;LSixDew$Night;)V" } : Jvm.MethodName)) ∈ dw_Tb := fm_of fm_t3 (i := 201) rfl rfl
theorem fm_750 : (Jvm.Cond.instanceMethod ({ cls := "SixDew$Run", name := "start", desc := "(LSixDew$Ground;LSixDew$Night;)V" } : Jvm.MethodName)) ∈ dw_Tb := fm_of fm_t3 (i := 202) rfl rfl
theorem fm_751 : (Jvm.Cond.selects "SixDew$Run" ({ cls := "SixDew$Run", name := "start", desc := "(LSixDew$Ground;LSixDew$Night;)V" } : Jvm.MethodName) ({ cls := "SixDew$Run", name := "start", desc := "(LSixDew$Ground;LSixDew$Night;)V" } : Jvm.MethodName)) ∈ dw_Tb := fm_of fm_t3 (i := 203) rfl rfl
theorem fm_752 : (Jvm.Cond.code ({ cls := "SixDew$Run", name := "start", desc := "(LSixDew$Ground;LSixDew$Night;)V" } : Jvm.MethodName) prog_9_method_2_code (4 : Nat) (Option.none : Option Jvm.ClassFile.FieldType)) ∈ dw_Tb := fm_of fm_t3 (i := 204) rfl rfl
theorem fm_753 : (Jvm.Cond.methodLink "SixDew$Run" (44 : Nat) ({ cls := "SixDew$Ground", name := "size", desc := "()I" } : Jvm.MethodName)) ∈ dw_Tb := fm_of fm_t3 (i := 205) rfl rfl
theorem fm_754 : (Jvm.Cond.instanceMethod ({ cls := "SixDew$Ground", name := "size", desc := "()I" } : Jvm.MethodName)) ∈ dw_Tb := fm_of fm_t3 (i := 206) rfl rfl
theorem fm_755 : (Jvm.Cond.selects "SixDew$Ground" ({ cls := "SixDew$Ground", name := "size", desc := "()I" } : Jvm.MethodName) ({ cls := "SixDew$Ground", name := "size", desc := "()I" } : Jvm.MethodName)) ∈ dw_Tb := fm_of fm_t3 (i := 207) rfl rfl
theorem fm_756 : (Jvm.Cond.code ({ cls := "SixDew$Ground", name := "size", desc := "()I" } : Jvm.MethodName) prog_2_method_2_code (1 : Nat) (Option.some Jvm.ClassFile.FieldType.int)) ∈ dw_Tb := fm_of fm_t3 (i := 208) rfl rfl
theorem fm_757 : (Jvm.Cond.methodLink "SixDew$Run" (50 : Nat) ({ cls := "java/lang/Math", name := "min", desc := "(II)I" } : Jvm.MethodName)) ∈ dw_Tb := fm_of fm_t3 (i := 209) rfl rfl
theorem fm_758 : (Jvm.Cond.static ({ cls := "java/lang/Math", name := "min", desc := "(II)I" } : Jvm.MethodName)) ∈ dw_Tb := fm_of fm_t3 (i := 210) rfl rfl
theorem fm_759 : (Jvm.Cond.code ({ cls := "java/lang/Math", name := "min", desc := "(II)I" } : Jvm.MethodName) prog_20_method_69_code (2 : Nat) (Option.some Jvm.ClassFile.FieldType.int)) ∈ dw_Tb := fm_of fm_t3 (i := 211) rfl rfl
theorem fm_760 : (Jvm.Cond.methodLink "SixDew$Run" (76 : Nat) ({ cls := "SixDew$Night", name := "copyFrom", desc := "(LSixDew$Night;)V" } : Jvm.MethodName)) ∈ dw_Tb := fm_of fm_t3 (i := 212) rfl rfl
theorem fm_761 : (Jvm.Cond.methodLink "SixDew$Run" (83 : Nat) ({ cls := "SixDew$Run", name := "setKind", desc := "(ILSixDew$Ground;I)V" } : Jvm.MethodName)) ∈ dw_Tb := fm_of fm_t3 (i := 213) rfl rfl
theorem fm_762 : (Jvm.Cond.instanceMethod ({ cls := "SixDew$Run", name := "setKind", desc := "(ILSixDew$Ground;I)V" } : Jvm.MethodName)) ∈ dw_Tb := fm_of fm_t3 (i := 214) rfl rfl
theorem fm_763 : (Jvm.Cond.selects "SixDew$Run" ({ cls := "SixDew$Run", name := "setKind", desc := "(ILSixDew$Ground;I)V" } : Jvm.MethodName) ({ cls := "SixDew$Run", name := "setKind", desc := "(ILSixDew$Ground;I)V" } : Jvm.MethodName)) ∈ dw_Tb := fm_of fm_t3 (i := 215) rfl rfl
theorem fm_764 : (Jvm.Cond.code ({ cls := "SixDew$Run", name := "setKind", desc := "(ILSixDew$Ground;I)V" } : Jvm.MethodName) prog_9_method_4_code (4 : Nat) (Option.none : Option Jvm.ClassFile.FieldType)) ∈ dw_Tb := fm_of fm_t3 (i := 216) rfl rfl
theorem fm_765 : (Jvm.Cond.methodLink "SixDew$Run" (91 : Nat) ({ cls := "SixDew$Run", name := "has", desc := "(I)Z" } : Jvm.MethodName)) ∈ dw_Tb := fm_of fm_t3 (i := 217) rfl rfl
theorem fm_766 : (Jvm.Cond.instanceMethod ({ cls := "SixDew$Run", name := "has", desc := "(I)Z" } : Jvm.MethodName)) ∈ dw_Tb := fm_of fm_t3 (i := 218) rfl rfl
theorem fm_767 : (Jvm.Cond.selects "SixDew$Run" ({ cls := "SixDew$Run", name := "has", desc := "(I)Z" } : Jvm.MethodName) ({ cls := "SixDew$Run", name := "has", desc := "(I)Z" } : Jvm.MethodName)) ∈ dw_Tb := fm_of fm_t3 (i := 219) rfl rfl
theorem fm_768 : (Jvm.Cond.code ({ cls := "SixDew$Run", name := "has", desc := "(I)Z" } : Jvm.MethodName) prog_9_method_3_code (2 : Nat) (Option.some Jvm.ClassFile.FieldType.boolean)) ∈ dw_Tb := fm_of fm_t3 (i := 220) rfl rfl
theorem fm_769 : (Jvm.Cond.methodLink "SixDew$Run" (96 : Nat) ({ cls := "SixDew$Ground", name := "ofKind", desc := "([II)I" } : Jvm.MethodName)) ∈ dw_Tb := fm_of fm_t3 (i := 221) rfl rfl
theorem fm_770 : (Jvm.Cond.instanceMethod ({ cls := "SixDew$Ground", name := "ofKind", desc := "([II)I" } : Jvm.MethodName)) ∈ dw_Tb := fm_of fm_t3 (i := 222) rfl rfl
theorem fm_771 : (Jvm.Cond.selects "SixDew$Ground" ({ cls := "SixDew$Ground", name := "ofKind", desc := "([II)I" } : Jvm.MethodName) ({ cls := "SixDew$Ground", name := "ofKind", desc := "([II)I" } : Jvm.MethodName)) ∈ dw_Tb := fm_of fm_t3 (i := 223) rfl rfl
theorem fm_772 : (Jvm.Cond.code ({ cls := "SixDew$Ground", name := "ofKind", desc := "([II)I" } : Jvm.MethodName) prog_2_method_6_code (3 : Nat) (Option.some Jvm.ClassFile.FieldType.int)) ∈ dw_Tb := fm_of fm_t3 (i := 224) rfl rfl
theorem fm_773 : (Jvm.Cond.methodLink "SixDew$Run" (88 : Nat) ({ cls := "SixDew$Night", name := "tell", desc := "(II)I" } : Jvm.MethodName)) ∈ dw_Tb := fm_of fm_t3 (i := 225) rfl rfl
theorem fm_774 : (Jvm.Cond.methodLink "SixDewLaw" (60 : Nat) ({ cls := "SixDew", name := "on", desc := "(I)I" } : Jvm.MethodName)) ∈ dw_Tb := fm_of fm_t3 (i := 226) rfl rfl
theorem fm_775 : (Jvm.Cond.instanceMethod ({ cls := "SixDew", name := "on", desc := "(I)I" } : Jvm.MethodName)) ∈ dw_Tb := fm_of fm_t3 (i := 227) rfl rfl
theorem fm_776 : (Jvm.Cond.selects "SixDew" ({ cls := "SixDew", name := "on", desc := "(I)I" } : Jvm.MethodName) ({ cls := "SixDew", name := "on", desc := "(I)I" } : Jvm.MethodName)) ∈ dw_Tb := fm_of fm_t3 (i := 228) rfl rfl
theorem fm_777 : (Jvm.Cond.code ({ cls := "SixDew", name := "on", desc := "(I)I" } : Jvm.MethodName) prog_1_method_10_code (3 : Nat) (Option.some Jvm.ClassFile.FieldType.int)) ∈ dw_Tb := fm_of fm_t3 (i := 229) rfl rfl
theorem fm_778 : (Jvm.Cond.methodLink "SixDew" (174 : Nat) ({ cls := "SixDew$Run", name := "until", desc := "(I)V" } : Jvm.MethodName)) ∈ dw_Tb := fm_of fm_t3 (i := 230) rfl rfl
theorem fm_779 : (Jvm.Cond.instanceMethod ({ cls := "SixDew$Run", name := "until", desc := "(I)V" } : Jvm.MethodName)) ∈ dw_Tb := fm_of fm_t3 (i := 231) rfl rfl
theorem fm_780 : (Jvm.Cond.selects "SixDew$Run" ({ cls := "SixDew$Run", name := "until", desc := "(I)V" } : Jvm.MethodName) ({ cls := "SixDew$Run", name := "until", desc := "(I)V" } : Jvm.MethodName)) ∈ dw_Tb := fm_of fm_t3 (i := 232) rfl rfl
theorem fm_781 : (Jvm.Cond.code ({ cls := "SixDew$Run", name := "until", desc := "(I)V" } : Jvm.MethodName) prog_9_method_16_code (3 : Nat) (Option.none : Option Jvm.ClassFile.FieldType)) ∈ dw_Tb := fm_of fm_t3 (i := 233) rfl rfl
theorem fm_782 : (Jvm.Cond.methodLink "SixDew$Run" (113 : Nat) ({ cls := "SixDew$Run", name := "step", desc := "()V" } : Jvm.MethodName)) ∈ dw_Tb := fm_of fm_t3 (i := 234) rfl rfl
theorem fm_783 : (Jvm.Cond.instanceMethod ({ cls := "SixDew$Run", name := "step", desc := "()V" } : Jvm.MethodName)) ∈ dw_Tb := fm_of fm_t3 (i := 235) rfl rfl
theorem fm_784 : (Jvm.Cond.selects "SixDew$Run" ({ cls := "SixDew$Run", name := "step", desc := "()V" } : Jvm.MethodName) ({ cls := "SixDew$Run", name := "step", desc := "()V" } : Jvm.MethodName)) ∈ dw_Tb := fm_of fm_t3 (i := 236) rfl rfl
theorem fm_785 : (Jvm.Cond.code ({ cls := "SixDew$Run", name := "step", desc := "()V" } : Jvm.MethodName) prog_9_method_18_code (9 : Nat) (Option.none : Option Jvm.ClassFile.FieldType)) ∈ dw_Tb := fm_of fm_t3 (i := 237) rfl rfl
theorem fm_787 : (Jvm.Cond.methodLink "SixDew$Run" (119 : Nat) ({ cls := "SixDew$Run", name := "warmer", desc := "(IIIII)I" } : Jvm.MethodName)) ∈ dw_Tb := fm_of fm_t3 (i := 239) rfl rfl
theorem fm_789 : (Jvm.Cond.instanceMethod ({ cls := "SixDew$Run", name := "warmer", desc := "(IIIII)I" } : Jvm.MethodName)) ∈ dw_Tb := fm_of fm_t4 (i := 1) rfl rfl
theorem fm_790 : (Jvm.Cond.code ({ cls := "SixDew$Run", name := "warmer", desc := "(IIIII)I" } : Jvm.MethodName) prog_9_method_19_code (7 : Nat) (Option.some Jvm.ClassFile.FieldType.int)) ∈ dw_Tb := fm_of fm_t4 (i := 2) rfl rfl
theorem fm_791 : (Jvm.Cond.methodLink "SixDew$Run" (102 : Nat) ({ cls := "java/lang/Math", name := "max", desc := "(II)I" } : Jvm.MethodName)) ∈ dw_Tb := fm_of fm_t4 (i := 3) rfl rfl
theorem fm_792 : (Jvm.Cond.methodLink "SixDew$Run" (123 : Nat) ({ cls := "SixDew$Run", name := "comeOn", desc := "(III)V" } : Jvm.MethodName)) ∈ dw_Tb := fm_of fm_t4 (i := 4) rfl rfl
theorem fm_794 : (Jvm.Cond.instanceMethod ({ cls := "SixDew$Run", name := "comeOn", desc := "(III)V" } : Jvm.MethodName)) ∈ dw_Tb := fm_of fm_t4 (i := 6) rfl rfl
theorem fm_795 : (Jvm.Cond.code ({ cls := "SixDew$Run", name := "comeOn", desc := "(III)V" } : Jvm.MethodName) prog_9_method_20_code (5 : Nat) (Option.none : Option Jvm.ClassFile.FieldType)) ∈ dw_Tb := fm_of fm_t4 (i := 7) rfl rfl
theorem fm_796 : (Jvm.Cond.methodLink "SixDew$Run" (127 : Nat) ({ cls := "SixDew$Run", name := "dryOff", desc := "(III)V" } : Jvm.MethodName)) ∈ dw_Tb := fm_of fm_t4 (i := 8) rfl rfl
theorem fm_798 : (Jvm.Cond.instanceMethod ({ cls := "SixDew$Run", name := "dryOff", desc := "(III)V" } : Jvm.MethodName)) ∈ dw_Tb := fm_of fm_t4 (i := 10) rfl rfl
theorem fm_799 : (Jvm.Cond.code ({ cls := "SixDew$Run", name := "dryOff", desc := "(III)V" } : Jvm.MethodName) prog_9_method_21_code (5 : Nat) (Option.none : Option Jvm.ClassFile.FieldType)) ∈ dw_Tb := fm_of fm_t4 (i := 11) rfl rfl
theorem fm_800 : (Jvm.Cond.methodLink "SixDewLaw" (67 : Nat) ({ cls := "SixDew", name := "now", desc := "(I)I" } : Jvm.MethodName)) ∈ dw_Tb := fm_of fm_t4 (i := 12) rfl rfl
theorem fm_801 : (Jvm.Cond.instanceMethod ({ cls := "SixDew", name := "now", desc := "(I)I" } : Jvm.MethodName)) ∈ dw_Tb := fm_of fm_t4 (i := 13) rfl rfl
theorem fm_802 : (Jvm.Cond.selects "SixDew" ({ cls := "SixDew", name := "now", desc := "(I)I" } : Jvm.MethodName) ({ cls := "SixDew", name := "now", desc := "(I)I" } : Jvm.MethodName)) ∈ dw_Tb := fm_of fm_t4 (i := 14) rfl rfl
theorem fm_803 : (Jvm.Cond.code ({ cls := "SixDew", name := "now", desc := "(I)I" } : Jvm.MethodName) prog_1_method_12_code (2 : Nat) (Option.some Jvm.ClassFile.FieldType.int)) ∈ dw_Tb := fm_of fm_t4 (i := 15) rfl rfl
theorem fm_804 : (Jvm.Cond.methodLink "SixDew" (192 : Nat) ({ cls := "SixDew$Run", name := "wetCells", desc := "(I)I" } : Jvm.MethodName)) ∈ dw_Tb := fm_of fm_t4 (i := 16) rfl rfl
theorem fm_805 : (Jvm.Cond.instanceMethod ({ cls := "SixDew$Run", name := "wetCells", desc := "(I)I" } : Jvm.MethodName)) ∈ dw_Tb := fm_of fm_t4 (i := 17) rfl rfl
theorem fm_806 : (Jvm.Cond.selects "SixDew$Run" ({ cls := "SixDew$Run", name := "wetCells", desc := "(I)I" } : Jvm.MethodName) ({ cls := "SixDew$Run", name := "wetCells", desc := "(I)I" } : Jvm.MethodName)) ∈ dw_Tb := fm_of fm_t4 (i := 18) rfl rfl
theorem fm_807 : (Jvm.Cond.code ({ cls := "SixDew$Run", name := "wetCells", desc := "(I)I" } : Jvm.MethodName) prog_9_method_8_code (4 : Nat) (Option.some Jvm.ClassFile.FieldType.int)) ∈ dw_Tb := fm_of fm_t4 (i := 19) rfl rfl
theorem fm_808 : (Jvm.Cond.methodLink "SixDew" (195 : Nat) ({ cls := "SixDew$Run", name := "waterOfAll", desc := "()I" } : Jvm.MethodName)) ∈ dw_Tb := fm_of fm_t4 (i := 20) rfl rfl
theorem fm_809 : (Jvm.Cond.instanceMethod ({ cls := "SixDew$Run", name := "waterOfAll", desc := "()I" } : Jvm.MethodName)) ∈ dw_Tb := fm_of fm_t4 (i := 21) rfl rfl
theorem fm_810 : (Jvm.Cond.selects "SixDew$Run" ({ cls := "SixDew$Run", name := "waterOfAll", desc := "()I" } : Jvm.MethodName) ({ cls := "SixDew$Run", name := "waterOfAll", desc := "()I" } : Jvm.MethodName)) ∈ dw_Tb := fm_of fm_t4 (i := 22) rfl rfl
theorem fm_811 : (Jvm.Cond.code ({ cls := "SixDew$Run", name := "waterOfAll", desc := "()I" } : Jvm.MethodName) prog_9_method_9_code (3 : Nat) (Option.some Jvm.ClassFile.FieldType.int)) ∈ dw_Tb := fm_of fm_t4 (i := 23) rfl rfl
theorem fm_812 : (Jvm.Cond.methodLink "SixDewLaw" (71 : Nat) ({ cls := "SixDew", name := "plan", desc := "()I" } : Jvm.MethodName)) ∈ dw_Tb := fm_of fm_t4 (i := 24) rfl rfl
theorem fm_813 : (Jvm.Cond.instanceMethod ({ cls := "SixDew", name := "plan", desc := "()I" } : Jvm.MethodName)) ∈ dw_Tb := fm_of fm_t4 (i := 25) rfl rfl
theorem fm_814 : (Jvm.Cond.selects "SixDew" ({ cls := "SixDew", name := "plan", desc := "()I" } : Jvm.MethodName) ({ cls := "SixDew", name := "plan", desc := "()I" } : Jvm.MethodName)) ∈ dw_Tb := fm_of fm_t4 (i := 26) rfl rfl
theorem fm_815 : (Jvm.Cond.code ({ cls := "SixDew", name := "plan", desc := "()I" } : Jvm.MethodName) prog_1_method_13_code (2 : Nat) (Option.some Jvm.ClassFile.FieldType.int)) ∈ dw_Tb := fm_of fm_t4 (i := 27) rfl rfl
theorem fm_816 : (Jvm.Cond.methodLink "SixDew" (199 : Nat) ({ cls := "SixDew$PlanReader", name := "readText", desc := "(LSixDew$Tape;LSixDew$Ground;)I" } : Jvm.MethodName)) ∈ dw_Tb := fm_of fm_t4 (i := 28) rfl rfl
theorem fm_817 : (Jvm.Cond.instanceMethod ({ cls := "SixDew$PlanReader", name := "readText", desc := "(LSixDew$Tape;LSixDew$Ground;)I" } : Jvm.MethodName)) ∈ dw_Tb := fm_of fm_t4 (i := 29) rfl rfl
theorem fm_818 : (Jvm.Cond.selects "SixDew$PlanReader" ({ cls := "SixDew$PlanReader", name := "readText", desc := "(LSixDew$Tape;LSixDew$Ground;)I" } : Jvm.MethodName) ({ cls := "SixDew$PlanReader", name := "readText", desc := "(LSixDew$Tape;LSixDew$Ground;)I" } : Jvm.MethodName)) ∈ dw_Tb := fm_of fm_t4 (i := 30) rfl rfl
theorem fm_819 : (Jvm.Cond.code ({ cls := "SixDew$PlanReader", name := "readText", desc := "(LSixDew$Tape;LSixDew$Ground;)I" } : Jvm.MethodName) prog_8_method_2_code (4 : Nat) (Option.some Jvm.ClassFile.FieldType.int)) ∈ dw_Tb := fm_of fm_t4 (i := 31) rfl rfl
theorem fm_820 : (Jvm.Cond.methodLink "SixDew$PlanReader" (18 : Nat) ({ cls := "SixDew$Tape", name := "open", desc := "(I)V" } : Jvm.MethodName)) ∈ dw_Tb := fm_of fm_t4 (i := 32) rfl rfl
theorem fm_821 : (Jvm.Cond.methodLink "SixDew$PlanReader" (24 : Nat) ({ cls := "SixDew$Tape", name := "take", desc := "()V" } : Jvm.MethodName)) ∈ dw_Tb := fm_of fm_t4 (i := 33) rfl rfl
theorem fm_822 : (Jvm.Cond.methodLink "SixDew$PlanReader" (34 : Nat) ({ cls := "SixDew$PlanReader", name := "readLine", desc := "(LSixDew$Tape;LSixDew$Ground;I)Z" } : Jvm.MethodName)) ∈ dw_Tb := fm_of fm_t4 (i := 34) rfl rfl
theorem fm_824 : (Jvm.Cond.instanceMethod ({ cls := "SixDew$PlanReader", name := "readLine", desc := "(LSixDew$Tape;LSixDew$Ground;I)Z" } : Jvm.MethodName)) ∈ dw_Tb := fm_of fm_t4 (i := 36) rfl rfl
theorem fm_825 : (Jvm.Cond.code ({ cls := "SixDew$PlanReader", name := "readLine", desc := "(LSixDew$Tape;LSixDew$Ground;I)Z" } : Jvm.MethodName) prog_8_method_3_code (5 : Nat) (Option.some Jvm.ClassFile.FieldType.boolean)) ∈ dw_Tb := fm_of fm_t4 (i := 37) rfl rfl
theorem fm_826 : (Jvm.Cond.methodLink "SixDew$PlanReader" (38 : Nat) ({ cls := "SixDew$PlanReader", name := "whatIsDone", desc := "(LSixDew$Tape;)I" } : Jvm.MethodName)) ∈ dw_Tb := fm_of fm_t4 (i := 38) rfl rfl
theorem fm_827 : (Jvm.Cond.static ({ cls := "SixDew$PlanReader", name := "whatIsDone", desc := "(LSixDew$Tape;)I" } : Jvm.MethodName)) ∈ dw_Tb := fm_of fm_t4 (i := 39) rfl rfl
theorem fm_828 : (Jvm.Cond.code ({ cls := "SixDew$PlanReader", name := "whatIsDone", desc := "(LSixDew$Tape;)I" } : Jvm.MethodName) prog_8_method_4_code (1 : Nat) (Option.some Jvm.ClassFile.FieldType.int)) ∈ dw_Tb := fm_of fm_t4 (i := 40) rfl rfl
theorem fm_830 : (Jvm.Cond.methodLink "SixDew$PlanReader" (71 : Nat) ({ cls := "SixDew$Tape", name := "says", desc := "(Ljava/lang/String;)Z" } : Jvm.MethodName)) ∈ dw_Tb := fm_of fm_t4 (i := 42) rfl rfl
theorem fm_834 : (Jvm.Cond.methodLink "SixDew$PlanReader" (42 : Nat) ({ cls := "SixDew$Tape", name := "fail", desc := "(I)Z" } : Jvm.MethodName)) ∈ dw_Tb := fm_of fm_t4 (i := 46) rfl rfl
theorem fm_835 : (Jvm.Cond.methodLink "SixDew$PlanReader" (46 : Nat) ({ cls := "SixDew$Plan", name := "set", desc := "(III)V" } : Jvm.MethodName)) ∈ dw_Tb := fm_of fm_t4 (i := 47) rfl rfl
theorem fm_836 : (Jvm.Cond.instanceMethod ({ cls := "SixDew$Plan", name := "set", desc := "(III)V" } : Jvm.MethodName)) ∈ dw_Tb := fm_of fm_t4 (i := 48) rfl rfl
theorem fm_837 : (Jvm.Cond.selects "SixDew$Plan" ({ cls := "SixDew$Plan", name := "set", desc := "(III)V" } : Jvm.MethodName) ({ cls := "SixDew$Plan", name := "set", desc := "(III)V" } : Jvm.MethodName)) ∈ dw_Tb := fm_of fm_t4 (i := 49) rfl rfl
theorem fm_838 : (Jvm.Cond.code ({ cls := "SixDew$Plan", name := "set", desc := "(III)V" } : Jvm.MethodName) prog_7_method_3_code (4 : Nat) (Option.none : Option Jvm.ClassFile.FieldType)) ∈ dw_Tb := fm_of fm_t4 (i := 50) rfl rfl
theorem fm_839 : (Jvm.Cond.methodLink "SixDew$PlanReader" (50 : Nat) ({ cls := "SixDew$Tape", name := "takeNumber", desc := "(II)Z" } : Jvm.MethodName)) ∈ dw_Tb := fm_of fm_t4 (i := 51) rfl rfl
theorem fm_840 : (Jvm.Cond.methodLink "SixDew$PlanReader" (57 : Nat) ({ cls := "SixDew$Tape", name := "takeStop", desc := "()Z" } : Jvm.MethodName)) ∈ dw_Tb := fm_of fm_t4 (i := 52) rfl rfl
theorem fm_841 : (Jvm.Cond.methodLink "SixDew" (208 : Nat) ({ cls := "SixDew$Plan", name := "copyFrom", desc := "(LSixDew$Plan;)V" } : Jvm.MethodName)) ∈ dw_Tb := fm_of fm_t4 (i := 53) rfl rfl
theorem fm_842 : (Jvm.Cond.instanceMethod ({ cls := "SixDew$Plan", name := "copyFrom", desc := "(LSixDew$Plan;)V" } : Jvm.MethodName)) ∈ dw_Tb := fm_of fm_t4 (i := 54) rfl rfl
theorem fm_843 : (Jvm.Cond.selects "SixDew$Plan" ({ cls := "SixDew$Plan", name := "copyFrom", desc := "(LSixDew$Plan;)V" } : Jvm.MethodName) ({ cls := "SixDew$Plan", name := "copyFrom", desc := "(LSixDew$Plan;)V" } : Jvm.MethodName)) ∈ dw_Tb := fm_of fm_t4 (i := 55) rfl rfl
theorem fm_844 : (Jvm.Cond.code ({ cls := "SixDew$Plan", name := "copyFrom", desc := "(LSixDew$Plan;)V" } : Jvm.MethodName) prog_7_method_4_code (3 : Nat) (Option.none : Option Jvm.ClassFile.FieldType)) ∈ dw_Tb := fm_of fm_t4 (i := 56) rfl rfl
theorem fm_845 : (Jvm.Cond.methodLink "SixDew$Plan" (20 : Nat) ({ cls := "java/lang/System", name := "arraycopy", desc := "(Ljava/lang/Object;ILjava/lang/Object;II)V" } : Jvm.MethodName)) ∈ dw_Tb := fm_of fm_t4 (i := 57) rfl rfl
theorem fm_846 : (Jvm.Cond.methodLink "SixDewLaw" (75 : Nat) ({ cls := "SixDew", name := "go", desc := "(I)I" } : Jvm.MethodName)) ∈ dw_Tb := fm_of fm_t4 (i := 58) rfl rfl
theorem fm_847 : (Jvm.Cond.instanceMethod ({ cls := "SixDew", name := "go", desc := "(I)I" } : Jvm.MethodName)) ∈ dw_Tb := fm_of fm_t4 (i := 59) rfl rfl
theorem fm_848 : (Jvm.Cond.selects "SixDew" ({ cls := "SixDew", name := "go", desc := "(I)I" } : Jvm.MethodName) ({ cls := "SixDew", name := "go", desc := "(I)I" } : Jvm.MethodName)) ∈ dw_Tb := fm_of fm_t4 (i := 60) rfl rfl
theorem fm_849 : (Jvm.Cond.code ({ cls := "SixDew", name := "go", desc := "(I)I" } : Jvm.MethodName) prog_1_method_14_code (6 : Nat) (Option.some Jvm.ClassFile.FieldType.int)) ∈ dw_Tb := fm_of fm_t4 (i := 61) rfl rfl
theorem fm_850 : (Jvm.Cond.methodLink "SixDew" (213 : Nat) ({ cls := "SixDew$Run", name := "copyFrom", desc := "(LSixDew$Run;)V" } : Jvm.MethodName)) ∈ dw_Tb := fm_of fm_t4 (i := 62) rfl rfl
theorem fm_851 : (Jvm.Cond.instanceMethod ({ cls := "SixDew$Run", name := "copyFrom", desc := "(LSixDew$Run;)V" } : Jvm.MethodName)) ∈ dw_Tb := fm_of fm_t4 (i := 63) rfl rfl
theorem fm_852 : (Jvm.Cond.selects "SixDew$Run" ({ cls := "SixDew$Run", name := "copyFrom", desc := "(LSixDew$Run;)V" } : Jvm.MethodName) ({ cls := "SixDew$Run", name := "copyFrom", desc := "(LSixDew$Run;)V" } : Jvm.MethodName)) ∈ dw_Tb := fm_of fm_t4 (i := 64) rfl rfl
theorem fm_853 : (Jvm.Cond.code ({ cls := "SixDew$Run", name := "copyFrom", desc := "(LSixDew$Run;)V" } : Jvm.MethodName) prog_9_method_22_code (2 : Nat) (Option.none : Option Jvm.ClassFile.FieldType)) ∈ dw_Tb := fm_of fm_t4 (i := 65) rfl rfl
theorem fm_854 : (Jvm.Cond.methodLink "SixDew$Run" (130 : Nat) ({ cls := "java/lang/System", name := "arraycopy", desc := "(Ljava/lang/Object;ILjava/lang/Object;II)V" } : Jvm.MethodName)) ∈ dw_Tb := fm_of fm_t4 (i := 66) rfl rfl
theorem fm_855 : (Jvm.Cond.methodLink "SixDew" (219 : Nat) ({ cls := "SixDew", name := "doLine", desc := "(LSixDew$Run;I)I" } : Jvm.MethodName)) ∈ dw_Tb := fm_of fm_t4 (i := 67) rfl rfl
theorem fm_857 : (Jvm.Cond.instanceMethod ({ cls := "SixDew", name := "doLine", desc := "(LSixDew$Run;I)I" } : Jvm.MethodName)) ∈ dw_Tb := fm_of fm_t4 (i := 69) rfl rfl
theorem fm_858 : (Jvm.Cond.code ({ cls := "SixDew", name := "doLine", desc := "(LSixDew$Run;I)I" } : Jvm.MethodName) prog_1_method_16_code (7 : Nat) (Option.some Jvm.ClassFile.FieldType.int)) ∈ dw_Tb := fm_of fm_t4 (i := 70) rfl rfl
theorem fm_859 : (Jvm.Cond.methodLink "SixDew" (229 : Nat) ({ cls := "SixDew$Plan", name := "tell", desc := "(II)I" } : Jvm.MethodName)) ∈ dw_Tb := fm_of fm_t4 (i := 71) rfl rfl
theorem fm_860 : (Jvm.Cond.instanceMethod ({ cls := "SixDew$Plan", name := "tell", desc := "(II)I" } : Jvm.MethodName)) ∈ dw_Tb := fm_of fm_t4 (i := 72) rfl rfl
theorem fm_861 : (Jvm.Cond.selects "SixDew$Plan" ({ cls := "SixDew$Plan", name := "tell", desc := "(II)I" } : Jvm.MethodName) ({ cls := "SixDew$Plan", name := "tell", desc := "(II)I" } : Jvm.MethodName)) ∈ dw_Tb := fm_of fm_t4 (i := 73) rfl rfl
theorem fm_862 : (Jvm.Cond.code ({ cls := "SixDew$Plan", name := "tell", desc := "(II)I" } : Jvm.MethodName) prog_7_method_2_code (3 : Nat) (Option.some Jvm.ClassFile.FieldType.int)) ∈ dw_Tb := fm_of fm_t4 (i := 74) rfl rfl
theorem fm_863 : (Jvm.Cond.methodLink "SixDew" (230 : Nat) ({ cls := "SixDew$Run", name := "goBy", desc := "(I)Z" } : Jvm.MethodName)) ∈ dw_Tb := fm_of fm_t4 (i := 75) rfl rfl
theorem fm_864 : (Jvm.Cond.instanceMethod ({ cls := "SixDew$Run", name := "goBy", desc := "(I)Z" } : Jvm.MethodName)) ∈ dw_Tb := fm_of fm_t4 (i := 76) rfl rfl
theorem fm_865 : (Jvm.Cond.selects "SixDew$Run" ({ cls := "SixDew$Run", name := "goBy", desc := "(I)Z" } : Jvm.MethodName) ({ cls := "SixDew$Run", name := "goBy", desc := "(I)Z" } : Jvm.MethodName)) ∈ dw_Tb := fm_of fm_t4 (i := 77) rfl rfl
theorem fm_866 : (Jvm.Cond.code ({ cls := "SixDew$Run", name := "goBy", desc := "(I)Z" } : Jvm.MethodName) prog_9_method_12_code (2 : Nat) (Option.some Jvm.ClassFile.FieldType.boolean)) ∈ dw_Tb := fm_of fm_t4 (i := 78) rfl rfl
theorem fm_867 : (Jvm.Cond.methodLink "SixDew$Run" (109 : Nat) ({ cls := "SixDew$Run", name := "until", desc := "(I)V" } : Jvm.MethodName)) ∈ dw_Tb := fm_of fm_t4 (i := 79) rfl rfl
theorem fm_868 : (Jvm.Cond.methodLink "SixDew" (122 : Nat) ({ cls := "SixDew$Ground", name := "cellAt", desc := "(II)I" } : Jvm.MethodName)) ∈ dw_Tb := fm_of fm_t4 (i := 80) rfl rfl
theorem fm_869 : (Jvm.Cond.instanceMethod ({ cls := "SixDew$Ground", name := "cellAt", desc := "(II)I" } : Jvm.MethodName)) ∈ dw_Tb := fm_of fm_t4 (i := 81) rfl rfl
theorem fm_870 : (Jvm.Cond.selects "SixDew$Ground" ({ cls := "SixDew$Ground", name := "cellAt", desc := "(II)I" } : Jvm.MethodName) ({ cls := "SixDew$Ground", name := "cellAt", desc := "(II)I" } : Jvm.MethodName)) ∈ dw_Tb := fm_of fm_t4 (i := 82) rfl rfl
theorem fm_871 : (Jvm.Cond.code ({ cls := "SixDew$Ground", name := "cellAt", desc := "(II)I" } : Jvm.MethodName) prog_2_method_3_code (3 : Nat) (Option.some Jvm.ClassFile.FieldType.int)) ∈ dw_Tb := fm_of fm_t4 (i := 83) rfl rfl
theorem fm_872 : (Jvm.Cond.methodLink "SixDew" (233 : Nat) ({ cls := "SixDew$Run", name := "wipe", desc := "(I)I" } : Jvm.MethodName)) ∈ dw_Tb := fm_of fm_t4 (i := 84) rfl rfl
theorem fm_873 : (Jvm.Cond.instanceMethod ({ cls := "SixDew$Run", name := "wipe", desc := "(I)I" } : Jvm.MethodName)) ∈ dw_Tb := fm_of fm_t4 (i := 85) rfl rfl
theorem fm_874 : (Jvm.Cond.selects "SixDew$Run" ({ cls := "SixDew$Run", name := "wipe", desc := "(I)I" } : Jvm.MethodName) ({ cls := "SixDew$Run", name := "wipe", desc := "(I)I" } : Jvm.MethodName)) ∈ dw_Tb := fm_of fm_t4 (i := 86) rfl rfl
theorem fm_875 : (Jvm.Cond.code ({ cls := "SixDew$Run", name := "wipe", desc := "(I)I" } : Jvm.MethodName) prog_9_method_13_code (3 : Nat) (Option.some Jvm.ClassFile.FieldType.int)) ∈ dw_Tb := fm_of fm_t4 (i := 87) rfl rfl
theorem fm_876 : (Jvm.Cond.methodLink "SixDew$Run" (105 : Nat) ({ cls := "SixDew$Run", name := "waterOf", desc := "(I)I" } : Jvm.MethodName)) ∈ dw_Tb := fm_of fm_t4 (i := 88) rfl rfl
theorem fm_877 : (Jvm.Cond.instanceMethod ({ cls := "SixDew$Run", name := "waterOf", desc := "(I)I" } : Jvm.MethodName)) ∈ dw_Tb := fm_of fm_t4 (i := 89) rfl rfl
theorem fm_878 : (Jvm.Cond.selects "SixDew$Run" ({ cls := "SixDew$Run", name := "waterOf", desc := "(I)I" } : Jvm.MethodName) ({ cls := "SixDew$Run", name := "waterOf", desc := "(I)I" } : Jvm.MethodName)) ∈ dw_Tb := fm_of fm_t4 (i := 90) rfl rfl
theorem fm_879 : (Jvm.Cond.code ({ cls := "SixDew$Run", name := "waterOf", desc := "(I)I" } : Jvm.MethodName) prog_9_method_7_code (2 : Nat) (Option.some Jvm.ClassFile.FieldType.int)) ∈ dw_Tb := fm_of fm_t4 (i := 91) rfl rfl
theorem fm_880 : (Jvm.Cond.methodLink "SixDew" (236 : Nat) ({ cls := "SixDew$Run", name := "cover", desc := "(I)Z" } : Jvm.MethodName)) ∈ dw_Tb := fm_of fm_t4 (i := 92) rfl rfl
theorem fm_881 : (Jvm.Cond.instanceMethod ({ cls := "SixDew$Run", name := "cover", desc := "(I)Z" } : Jvm.MethodName)) ∈ dw_Tb := fm_of fm_t4 (i := 93) rfl rfl
theorem fm_882 : (Jvm.Cond.selects "SixDew$Run" ({ cls := "SixDew$Run", name := "cover", desc := "(I)Z" } : Jvm.MethodName) ({ cls := "SixDew$Run", name := "cover", desc := "(I)Z" } : Jvm.MethodName)) ∈ dw_Tb := fm_of fm_t4 (i := 94) rfl rfl
theorem fm_883 : (Jvm.Cond.code ({ cls := "SixDew$Run", name := "cover", desc := "(I)Z" } : Jvm.MethodName) prog_9_method_14_code (2 : Nat) (Option.some Jvm.ClassFile.FieldType.boolean)) ∈ dw_Tb := fm_of fm_t4 (i := 95) rfl rfl
theorem fm_884 : (Jvm.Cond.methodLink "SixDew" (135 : Nat) ({ cls := "SixDew$Ground", name := "tell", desc := "(II)I" } : Jvm.MethodName)) ∈ dw_Tb := fm_of fm_t4 (i := 96) rfl rfl
theorem fm_885 : (Jvm.Cond.instanceMethod ({ cls := "SixDew$Ground", name := "tell", desc := "(II)I" } : Jvm.MethodName)) ∈ dw_Tb := fm_of fm_t4 (i := 97) rfl rfl
theorem fm_886 : (Jvm.Cond.selects "SixDew$Ground" ({ cls := "SixDew$Ground", name := "tell", desc := "(II)I" } : Jvm.MethodName) ({ cls := "SixDew$Ground", name := "tell", desc := "(II)I" } : Jvm.MethodName)) ∈ dw_Tb := fm_of fm_t4 (i := 98) rfl rfl
theorem fm_887 : (Jvm.Cond.code ({ cls := "SixDew$Ground", name := "tell", desc := "(II)I" } : Jvm.MethodName) prog_2_method_5_code (3 : Nat) (Option.some Jvm.ClassFile.FieldType.int)) ∈ dw_Tb := fm_of fm_t4 (i := 99) rfl rfl
theorem fm_888 : (Jvm.Cond.methodLink "SixDew$Ground" (37 : Nat) ({ cls := "SixDew$Ground", name := "ofKind", desc := "([II)I" } : Jvm.MethodName)) ∈ dw_Tb := fm_of fm_t4 (i := 100) rfl rfl
theorem fm_889 : (Jvm.Cond.methodLink "SixDew" (239 : Nat) ({ cls := "SixDew$Run", name := "bare", desc := "(II)Z" } : Jvm.MethodName)) ∈ dw_Tb := fm_of fm_t4 (i := 101) rfl rfl
theorem fm_890 : (Jvm.Cond.instanceMethod ({ cls := "SixDew$Run", name := "bare", desc := "(II)Z" } : Jvm.MethodName)) ∈ dw_Tb := fm_of fm_t4 (i := 102) rfl rfl
theorem fm_891 : (Jvm.Cond.selects "SixDew$Run" ({ cls := "SixDew$Run", name := "bare", desc := "(II)Z" } : Jvm.MethodName) ({ cls := "SixDew$Run", name := "bare", desc := "(II)Z" } : Jvm.MethodName)) ∈ dw_Tb := fm_of fm_t4 (i := 103) rfl rfl
theorem fm_892 : (Jvm.Cond.code ({ cls := "SixDew$Run", name := "bare", desc := "(II)Z" } : Jvm.MethodName) prog_9_method_15_code (3 : Nat) (Option.some Jvm.ClassFile.FieldType.boolean)) ∈ dw_Tb := fm_of fm_t4 (i := 104) rfl rfl
theorem fm_893 : (Jvm.Cond.methodLink "SixDew" (223 : Nat) ({ cls := "SixDew$Run", name := "coveredCells", desc := "()I" } : Jvm.MethodName)) ∈ dw_Tb := fm_of fm_t4 (i := 105) rfl rfl
theorem fm_894 : (Jvm.Cond.instanceMethod ({ cls := "SixDew$Run", name := "coveredCells", desc := "()I" } : Jvm.MethodName)) ∈ dw_Tb := fm_of fm_t4 (i := 106) rfl rfl
theorem fm_895 : (Jvm.Cond.selects "SixDew$Run" ({ cls := "SixDew$Run", name := "coveredCells", desc := "()I" } : Jvm.MethodName) ({ cls := "SixDew$Run", name := "coveredCells", desc := "()I" } : Jvm.MethodName)) ∈ dw_Tb := fm_of fm_t4 (i := 107) rfl rfl
theorem fm_896 : (Jvm.Cond.code ({ cls := "SixDew$Run", name := "coveredCells", desc := "()I" } : Jvm.MethodName) prog_9_method_10_code (3 : Nat) (Option.some Jvm.ClassFile.FieldType.int)) ∈ dw_Tb := fm_of fm_t4 (i := 108) rfl rfl
theorem fm_897 : (Jvm.Cond.methodLink "SixDewLaw" (79 : Nat) ({ cls := "SixDew", name := "went", desc := "(I)I" } : Jvm.MethodName)) ∈ dw_Tb := fm_of fm_t4 (i := 109) rfl rfl
theorem fm_898 : (Jvm.Cond.instanceMethod ({ cls := "SixDew", name := "went", desc := "(I)I" } : Jvm.MethodName)) ∈ dw_Tb := fm_of fm_t4 (i := 110) rfl rfl
theorem fm_899 : (Jvm.Cond.selects "SixDew" ({ cls := "SixDew", name := "went", desc := "(I)I" } : Jvm.MethodName) ({ cls := "SixDew", name := "went", desc := "(I)I" } : Jvm.MethodName)) ∈ dw_Tb := fm_of fm_t4 (i := 111) rfl rfl
theorem fm_900 : (Jvm.Cond.code ({ cls := "SixDew", name := "went", desc := "(I)I" } : Jvm.MethodName) prog_1_method_15_code (2 : Nat) (Option.some Jvm.ClassFile.FieldType.int)) ∈ dw_Tb := fm_of fm_t4 (i := 112) rfl rfl
theorem fm_901 : (Jvm.Cond.methodLink "SixDewLaw" (83 : Nat) ({ cls := "SixDew", name := "much", desc := "(IIII)I" } : Jvm.MethodName)) ∈ dw_Tb := fm_of fm_t4 (i := 113) rfl rfl
theorem fm_902 : (Jvm.Cond.instanceMethod ({ cls := "SixDew", name := "much", desc := "(IIII)I" } : Jvm.MethodName)) ∈ dw_Tb := fm_of fm_t4 (i := 114) rfl rfl
theorem fm_903 : (Jvm.Cond.selects "SixDew" ({ cls := "SixDew", name := "much", desc := "(IIII)I" } : Jvm.MethodName) ({ cls := "SixDew", name := "much", desc := "(IIII)I" } : Jvm.MethodName)) ∈ dw_Tb := fm_of fm_t4 (i := 115) rfl rfl
theorem fm_904 : (Jvm.Cond.code ({ cls := "SixDew", name := "much", desc := "(IIII)I" } : Jvm.MethodName) prog_1_method_17_code (6 : Nat) (Option.some Jvm.ClassFile.FieldType.int)) ∈ dw_Tb := fm_of fm_t4 (i := 116) rfl rfl
theorem fm_905 : (Jvm.Cond.methodLink "SixDew" (243 : Nat) ({ cls := "SixDew", name := "runBehind", desc := "(II)Z" } : Jvm.MethodName)) ∈ dw_Tb := fm_of fm_t4 (i := 117) rfl rfl
theorem fm_907 : (Jvm.Cond.instanceMethod ({ cls := "SixDew", name := "runBehind", desc := "(II)Z" } : Jvm.MethodName)) ∈ dw_Tb := fm_of fm_t4 (i := 119) rfl rfl
theorem fm_908 : (Jvm.Cond.code ({ cls := "SixDew", name := "runBehind", desc := "(II)Z" } : Jvm.MethodName) prog_1_method_48_code (3 : Nat) (Option.some Jvm.ClassFile.FieldType.boolean)) ∈ dw_Tb := fm_of fm_t4 (i := 120) rfl rfl
theorem fm_909 : (Jvm.Cond.methodLink "SixDew" (183 : Nat) ({ cls := "SixDew$Run", name := "waterOf", desc := "(I)I" } : Jvm.MethodName)) ∈ dw_Tb := fm_of fm_t4 (i := 121) rfl rfl
theorem fm_910 : (Jvm.Cond.methodLink "SixDewLaw" (88 : Nat) ({ cls := "SixDew", name := "where", desc := "(III)I" } : Jvm.MethodName)) ∈ dw_Tb := fm_of fm_t4 (i := 122) rfl rfl
theorem fm_911 : (Jvm.Cond.instanceMethod ({ cls := "SixDew", name := "where", desc := "(III)I" } : Jvm.MethodName)) ∈ dw_Tb := fm_of fm_t4 (i := 123) rfl rfl
theorem fm_912 : (Jvm.Cond.selects "SixDew" ({ cls := "SixDew", name := "where", desc := "(III)I" } : Jvm.MethodName) ({ cls := "SixDew", name := "where", desc := "(III)I" } : Jvm.MethodName)) ∈ dw_Tb := fm_of fm_t4 (i := 124) rfl rfl
theorem fm_913 : (Jvm.Cond.code ({ cls := "SixDew", name := "where", desc := "(III)I" } : Jvm.MethodName) prog_1_method_18_code (4 : Nat) (Option.some Jvm.ClassFile.FieldType.int)) ∈ dw_Tb := fm_of fm_t4 (i := 125) rfl rfl
theorem fm_914 : (Jvm.Cond.methodLink "SixDewLaw" (92 : Nat) ({ cls := "SixDew", name := "begins", desc := "(III)I" } : Jvm.MethodName)) ∈ dw_Tb := fm_of fm_t4 (i := 126) rfl rfl
theorem fm_915 : (Jvm.Cond.instanceMethod ({ cls := "SixDew", name := "begins", desc := "(III)I" } : Jvm.MethodName)) ∈ dw_Tb := fm_of fm_t4 (i := 127) rfl rfl
theorem fm_916 : (Jvm.Cond.selects "SixDew" ({ cls := "SixDew", name := "begins", desc := "(III)I" } : Jvm.MethodName) ({ cls := "SixDew", name := "begins", desc := "(III)I" } : Jvm.MethodName)) ∈ dw_Tb := fm_of fm_t4 (i := 128) rfl rfl
theorem fm_917 : (Jvm.Cond.code ({ cls := "SixDew", name := "begins", desc := "(III)I" } : Jvm.MethodName) prog_1_method_19_code (5 : Nat) (Option.some Jvm.ClassFile.FieldType.int)) ∈ dw_Tb := fm_of fm_t4 (i := 129) rfl rfl
theorem fm_918 : (Jvm.Cond.methodLink "SixDew" (246 : Nat) ({ cls := "SixDew", name := "watched", desc := "(I)Z" } : Jvm.MethodName)) ∈ dw_Tb := fm_of fm_t4 (i := 130) rfl rfl
theorem fm_920 : (Jvm.Cond.instanceMethod ({ cls := "SixDew", name := "watched", desc := "(I)Z" } : Jvm.MethodName)) ∈ dw_Tb := fm_of fm_t4 (i := 132) rfl rfl
theorem fm_921 : (Jvm.Cond.code ({ cls := "SixDew", name := "watched", desc := "(I)Z" } : Jvm.MethodName) prog_1_method_49_code (3 : Nat) (Option.some Jvm.ClassFile.FieldType.boolean)) ∈ dw_Tb := fm_of fm_t4 (i := 133) rfl rfl
theorem fm_922 : (Jvm.Cond.methodLink "SixDew" (361 : Nat) ({ cls := "SixDew$Watch", name := "clear", desc := "()V" } : Jvm.MethodName)) ∈ dw_Tb := fm_of fm_t4 (i := 134) rfl rfl
theorem fm_923 : (Jvm.Cond.instanceMethod ({ cls := "SixDew$Watch", name := "clear", desc := "()V" } : Jvm.MethodName)) ∈ dw_Tb := fm_of fm_t4 (i := 135) rfl rfl
theorem fm_924 : (Jvm.Cond.selects "SixDew$Watch" ({ cls := "SixDew$Watch", name := "clear", desc := "()V" } : Jvm.MethodName) ({ cls := "SixDew$Watch", name := "clear", desc := "()V" } : Jvm.MethodName)) ∈ dw_Tb := fm_of fm_t4 (i := 136) rfl rfl
theorem fm_925 : (Jvm.Cond.code ({ cls := "SixDew$Watch", name := "clear", desc := "()V" } : Jvm.MethodName) prog_12_method_2_code (2 : Nat) (Option.none : Option Jvm.ClassFile.FieldType)) ∈ dw_Tb := fm_of fm_t4 (i := 137) rfl rfl
theorem fm_926 : (Jvm.Cond.methodLink "SixDew" (280 : Nat) ({ cls := "SixDew$Run", name := "step", desc := "()V" } : Jvm.MethodName)) ∈ dw_Tb := fm_of fm_t4 (i := 138) rfl rfl
theorem fm_927 : (Jvm.Cond.methodLink "SixDew" (364 : Nat) ({ cls := "SixDew$Watch", name := "look", desc := "(LSixDew$Run;I)V" } : Jvm.MethodName)) ∈ dw_Tb := fm_of fm_t4 (i := 139) rfl rfl
theorem fm_928 : (Jvm.Cond.instanceMethod ({ cls := "SixDew$Watch", name := "look", desc := "(LSixDew$Run;I)V" } : Jvm.MethodName)) ∈ dw_Tb := fm_of fm_t4 (i := 140) rfl rfl
theorem fm_929 : (Jvm.Cond.selects "SixDew$Watch" ({ cls := "SixDew$Watch", name := "look", desc := "(LSixDew$Run;I)V" } : Jvm.MethodName) ({ cls := "SixDew$Watch", name := "look", desc := "(LSixDew$Run;I)V" } : Jvm.MethodName)) ∈ dw_Tb := fm_of fm_t4 (i := 141) rfl rfl
theorem fm_930 : (Jvm.Cond.code ({ cls := "SixDew$Watch", name := "look", desc := "(LSixDew$Run;I)V" } : Jvm.MethodName) prog_12_method_3_code (4 : Nat) (Option.none : Option Jvm.ClassFile.FieldType)) ∈ dw_Tb := fm_of fm_t4 (i := 142) rfl rfl
theorem fm_931 : (Jvm.Cond.methodLink "SixDew$Watch" (36 : Nat) ({ cls := "SixDew$Run", name := "waterOf", desc := "(I)I" } : Jvm.MethodName)) ∈ dw_Tb := fm_of fm_t4 (i := 143) rfl rfl
theorem fm_932 : (Jvm.Cond.methodLink "SixDew$Watch" (40 : Nat) ({ cls := "SixDew$Run", name := "warmthOf", desc := "(I)I" } : Jvm.MethodName)) ∈ dw_Tb := fm_of fm_t4 (i := 144) rfl rfl
theorem fm_933 : (Jvm.Cond.instanceMethod ({ cls := "SixDew$Run", name := "warmthOf", desc := "(I)I" } : Jvm.MethodName)) ∈ dw_Tb := fm_of fm_t4 (i := 145) rfl rfl
theorem fm_934 : (Jvm.Cond.selects "SixDew$Run" ({ cls := "SixDew$Run", name := "warmthOf", desc := "(I)I" } : Jvm.MethodName) ({ cls := "SixDew$Run", name := "warmthOf", desc := "(I)I" } : Jvm.MethodName)) ∈ dw_Tb := fm_of fm_t4 (i := 146) rfl rfl
theorem fm_935 : (Jvm.Cond.code ({ cls := "SixDew$Run", name := "warmthOf", desc := "(I)I" } : Jvm.MethodName) prog_9_method_6_code (2 : Nat) (Option.some Jvm.ClassFile.FieldType.int)) ∈ dw_Tb := fm_of fm_t4 (i := 147) rfl rfl
theorem fm_936 : (Jvm.Cond.methodLink "SixDew$Watch" (43 : Nat) ({ cls := "SixDew$Watch", name := "seeWet", desc := "(IIZ)V" } : Jvm.MethodName)) ∈ dw_Tb := fm_of fm_t4 (i := 148) rfl rfl
theorem fm_938 : (Jvm.Cond.instanceMethod ({ cls := "SixDew$Watch", name := "seeWet", desc := "(IIZ)V" } : Jvm.MethodName)) ∈ dw_Tb := fm_of fm_t4 (i := 150) rfl rfl
theorem fm_939 : (Jvm.Cond.code ({ cls := "SixDew$Watch", name := "seeWet", desc := "(IIZ)V" } : Jvm.MethodName) prog_12_method_4_code (4 : Nat) (Option.none : Option Jvm.ClassFile.FieldType)) ∈ dw_Tb := fm_of fm_t4 (i := 151) rfl rfl
theorem fm_940 : (Jvm.Cond.methodLink "SixDew$Watch" (47 : Nat) ({ cls := "java/lang/Math", name := "max", desc := "(II)I" } : Jvm.MethodName)) ∈ dw_Tb := fm_of fm_t4 (i := 152) rfl rfl
theorem fm_941 : (Jvm.Cond.methodLink "SixDew" (252 : Nat) ({ cls := "SixDew$Watch", name := "tell", desc := "([II)I" } : Jvm.MethodName)) ∈ dw_Tb := fm_of fm_t4 (i := 153) rfl rfl
theorem fm_942 : (Jvm.Cond.instanceMethod ({ cls := "SixDew$Watch", name := "tell", desc := "([II)I" } : Jvm.MethodName)) ∈ dw_Tb := fm_of fm_t4 (i := 154) rfl rfl
theorem fm_943 : (Jvm.Cond.selects "SixDew$Watch" ({ cls := "SixDew$Watch", name := "tell", desc := "([II)I" } : Jvm.MethodName) ({ cls := "SixDew$Watch", name := "tell", desc := "([II)I" } : Jvm.MethodName)) ∈ dw_Tb := fm_of fm_t4 (i := 155) rfl rfl
theorem fm_944 : (Jvm.Cond.code ({ cls := "SixDew$Watch", name := "tell", desc := "([II)I" } : Jvm.MethodName) prog_12_method_5_code (3 : Nat) (Option.some Jvm.ClassFile.FieldType.int)) ∈ dw_Tb := fm_of fm_t4 (i := 156) rfl rfl
theorem fm_945 : (Jvm.Cond.methodLink "SixDewLaw" (96 : Nat) ({ cls := "SixDew", name := "gone", desc := "(III)I" } : Jvm.MethodName)) ∈ dw_Tb := fm_of fm_t4 (i := 157) rfl rfl
theorem fm_946 : (Jvm.Cond.instanceMethod ({ cls := "SixDew", name := "gone", desc := "(III)I" } : Jvm.MethodName)) ∈ dw_Tb := fm_of fm_t4 (i := 158) rfl rfl
theorem fm_947 : (Jvm.Cond.selects "SixDew" ({ cls := "SixDew", name := "gone", desc := "(III)I" } : Jvm.MethodName) ({ cls := "SixDew", name := "gone", desc := "(III)I" } : Jvm.MethodName)) ∈ dw_Tb := fm_of fm_t4 (i := 159) rfl rfl
theorem fm_948 : (Jvm.Cond.code ({ cls := "SixDew", name := "gone", desc := "(III)I" } : Jvm.MethodName) prog_1_method_20_code (6 : Nat) (Option.some Jvm.ClassFile.FieldType.int)) ∈ dw_Tb := fm_of fm_t4 (i := 160) rfl rfl
theorem fm_949 : (Jvm.Cond.methodLink "SixDewLaw" (100 : Nat) ({ cls := "SixDew", name := "wet", desc := "(III)I" } : Jvm.MethodName)) ∈ dw_Tb := fm_of fm_t4 (i := 161) rfl rfl
theorem fm_950 : (Jvm.Cond.instanceMethod ({ cls := "SixDew", name := "wet", desc := "(III)I" } : Jvm.MethodName)) ∈ dw_Tb := fm_of fm_t4 (i := 162) rfl rfl
theorem fm_951 : (Jvm.Cond.selects "SixDew" ({ cls := "SixDew", name := "wet", desc := "(III)I" } : Jvm.MethodName) ({ cls := "SixDew", name := "wet", desc := "(III)I" } : Jvm.MethodName)) ∈ dw_Tb := fm_of fm_t4 (i := 163) rfl rfl
theorem fm_952 : (Jvm.Cond.code ({ cls := "SixDew", name := "wet", desc := "(III)I" } : Jvm.MethodName) prog_1_method_21_code (5 : Nat) (Option.some Jvm.ClassFile.FieldType.int)) ∈ dw_Tb := fm_of fm_t4 (i := 164) rfl rfl
theorem fm_953 : (Jvm.Cond.methodLink "SixDewLaw" (104 : Nat) ({ cls := "SixDew", name := "spell", desc := "(III)I" } : Jvm.MethodName)) ∈ dw_Tb := fm_of fm_t4 (i := 165) rfl rfl
theorem fm_954 : (Jvm.Cond.instanceMethod ({ cls := "SixDew", name := "spell", desc := "(III)I" } : Jvm.MethodName)) ∈ dw_Tb := fm_of fm_t4 (i := 166) rfl rfl
theorem fm_955 : (Jvm.Cond.selects "SixDew" ({ cls := "SixDew", name := "spell", desc := "(III)I" } : Jvm.MethodName) ({ cls := "SixDew", name := "spell", desc := "(III)I" } : Jvm.MethodName)) ∈ dw_Tb := fm_of fm_t4 (i := 167) rfl rfl
theorem fm_956 : (Jvm.Cond.code ({ cls := "SixDew", name := "spell", desc := "(III)I" } : Jvm.MethodName) prog_1_method_22_code (5 : Nat) (Option.some Jvm.ClassFile.FieldType.int)) ∈ dw_Tb := fm_of fm_t4 (i := 168) rfl rfl
theorem fm_957 : (Jvm.Cond.methodLink "SixDewLaw" (108 : Nat) ({ cls := "SixDew", name := "sick", desc := "(II)I" } : Jvm.MethodName)) ∈ dw_Tb := fm_of fm_t4 (i := 169) rfl rfl
theorem fm_958 : (Jvm.Cond.instanceMethod ({ cls := "SixDew", name := "sick", desc := "(II)I" } : Jvm.MethodName)) ∈ dw_Tb := fm_of fm_t4 (i := 170) rfl rfl
theorem fm_959 : (Jvm.Cond.selects "SixDew" ({ cls := "SixDew", name := "sick", desc := "(II)I" } : Jvm.MethodName) ({ cls := "SixDew", name := "sick", desc := "(II)I" } : Jvm.MethodName)) ∈ dw_Tb := fm_of fm_t4 (i := 171) rfl rfl
theorem fm_960 : (Jvm.Cond.code ({ cls := "SixDew", name := "sick", desc := "(II)I" } : Jvm.MethodName) prog_1_method_23_code (3 : Nat) (Option.some Jvm.ClassFile.FieldType.int)) ∈ dw_Tb := fm_of fm_t4 (i := 172) rfl rfl
theorem fm_961 : (Jvm.Cond.methodLink "SixDew" (264 : Nat) ({ cls := "SixDew$Ground", name := "size", desc := "()I" } : Jvm.MethodName)) ∈ dw_Tb := fm_of fm_t4 (i := 173) rfl rfl
theorem fm_962 : (Jvm.Cond.methodLink "SixDew" (266 : Nat) ({ cls := "SixDew$Watch", name := "longSpells", desc := "(II)I" } : Jvm.MethodName)) ∈ dw_Tb := fm_of fm_t4 (i := 174) rfl rfl
theorem fm_963 : (Jvm.Cond.instanceMethod ({ cls := "SixDew$Watch", name := "longSpells", desc := "(II)I" } : Jvm.MethodName)) ∈ dw_Tb := fm_of fm_t4 (i := 175) rfl rfl
theorem fm_964 : (Jvm.Cond.selects "SixDew$Watch" ({ cls := "SixDew$Watch", name := "longSpells", desc := "(II)I" } : Jvm.MethodName) ({ cls := "SixDew$Watch", name := "longSpells", desc := "(II)I" } : Jvm.MethodName)) ∈ dw_Tb := fm_of fm_t4 (i := 176) rfl rfl
theorem fm_965 : (Jvm.Cond.code ({ cls := "SixDew$Watch", name := "longSpells", desc := "(II)I" } : Jvm.MethodName) prog_12_method_6_code (5 : Nat) (Option.some Jvm.ClassFile.FieldType.int)) ∈ dw_Tb := fm_of fm_t4 (i := 177) rfl rfl
theorem fm_966 : (Jvm.Cond.methodLink "SixDewLaw" (113 : Nat) ({ cls := "SixDew", name := "frost", desc := "(III)I" } : Jvm.MethodName)) ∈ dw_Tb := fm_of fm_t4 (i := 178) rfl rfl
theorem fm_967 : (Jvm.Cond.instanceMethod ({ cls := "SixDew", name := "frost", desc := "(III)I" } : Jvm.MethodName)) ∈ dw_Tb := fm_of fm_t4 (i := 179) rfl rfl
theorem fm_968 : (Jvm.Cond.selects "SixDew" ({ cls := "SixDew", name := "frost", desc := "(III)I" } : Jvm.MethodName) ({ cls := "SixDew", name := "frost", desc := "(III)I" } : Jvm.MethodName)) ∈ dw_Tb := fm_of fm_t4 (i := 180) rfl rfl
theorem fm_969 : (Jvm.Cond.code ({ cls := "SixDew", name := "frost", desc := "(III)I" } : Jvm.MethodName) prog_1_method_24_code (5 : Nat) (Option.some Jvm.ClassFile.FieldType.int)) ∈ dw_Tb := fm_of fm_t4 (i := 181) rfl rfl
theorem fm_970 : (Jvm.Cond.methodLink "SixDewLaw" (117 : Nat) ({ cls := "SixDew", name := "slugs", desc := "(IIII)I" } : Jvm.MethodName)) ∈ dw_Tb := fm_of fm_t4 (i := 182) rfl rfl
theorem fm_971 : (Jvm.Cond.instanceMethod ({ cls := "SixDew", name := "slugs", desc := "(IIII)I" } : Jvm.MethodName)) ∈ dw_Tb := fm_of fm_t4 (i := 183) rfl rfl
theorem fm_972 : (Jvm.Cond.selects "SixDew" ({ cls := "SixDew", name := "slugs", desc := "(IIII)I" } : Jvm.MethodName) ({ cls := "SixDew", name := "slugs", desc := "(IIII)I" } : Jvm.MethodName)) ∈ dw_Tb := fm_of fm_t4 (i := 184) rfl rfl
theorem fm_973 : (Jvm.Cond.code ({ cls := "SixDew", name := "slugs", desc := "(IIII)I" } : Jvm.MethodName) prog_1_method_25_code (6 : Nat) (Option.some Jvm.ClassFile.FieldType.int)) ∈ dw_Tb := fm_of fm_t4 (i := 185) rfl rfl
theorem fm_974 : (Jvm.Cond.methodLink "SixDew" (272 : Nat) ({ cls := "SixDew$Paths", name := "wetAround", desc := "(LSixDew$Run;LSixDew$Ground;I)I" } : Jvm.MethodName)) ∈ dw_Tb := fm_of fm_t4 (i := 186) rfl rfl
theorem fm_975 : (Jvm.Cond.instanceMethod ({ cls := "SixDew$Paths", name := "wetAround", desc := "(LSixDew$Run;LSixDew$Ground;I)I" } : Jvm.MethodName)) ∈ dw_Tb := fm_of fm_t4 (i := 187) rfl rfl
theorem fm_976 : (Jvm.Cond.selects "SixDew$Paths" ({ cls := "SixDew$Paths", name := "wetAround", desc := "(LSixDew$Run;LSixDew$Ground;I)I" } : Jvm.MethodName) ({ cls := "SixDew$Paths", name := "wetAround", desc := "(LSixDew$Run;LSixDew$Ground;I)I" } : Jvm.MethodName)) ∈ dw_Tb := fm_of fm_t4 (i := 188) rfl rfl
theorem fm_977 : (Jvm.Cond.code ({ cls := "SixDew$Paths", name := "wetAround", desc := "(LSixDew$Run;LSixDew$Ground;I)I" } : Jvm.MethodName) prog_6_method_2_code (7 : Nat) (Option.some Jvm.ClassFile.FieldType.int)) ∈ dw_Tb := fm_of fm_t4 (i := 189) rfl rfl
theorem fm_978 : (Jvm.Cond.methodLink "SixDew$Paths" (15 : Nat) ({ cls := "SixDew$Run", name := "waterOf", desc := "(I)I" } : Jvm.MethodName)) ∈ dw_Tb := fm_of fm_t4 (i := 190) rfl rfl
theorem fm_979 : (Jvm.Cond.methodLink "SixDew$Paths" (21 : Nat) ({ cls := "SixDew$Paths", name := "spread", desc := "(LSixDew$Run;LSixDew$Ground;IZ)V" } : Jvm.MethodName)) ∈ dw_Tb := fm_of fm_t4 (i := 191) rfl rfl
theorem fm_981 : (Jvm.Cond.instanceMethod ({ cls := "SixDew$Paths", name := "spread", desc := "(LSixDew$Run;LSixDew$Ground;IZ)V" } : Jvm.MethodName)) ∈ dw_Tb := fm_of fm_t4 (i := 193) rfl rfl
theorem fm_982 : (Jvm.Cond.code ({ cls := "SixDew$Paths", name := "spread", desc := "(LSixDew$Run;LSixDew$Ground;IZ)V" } : Jvm.MethodName) prog_6_method_4_code (11 : Nat) (Option.none : Option Jvm.ClassFile.FieldType)) ∈ dw_Tb := fm_of fm_t4 (i := 194) rfl rfl
theorem fm_983 : (Jvm.Cond.constant "SixDew$Paths" (31 : Nat) (1000000000 : Int32)) ∈ dw_Tb := fm_of fm_t4 (i := 195) rfl rfl
theorem fm_984 : (Jvm.Cond.methodLink "SixDew$Paths" (25 : Nat) ({ cls := "SixDew$Ground", name := "size", desc := "()I" } : Jvm.MethodName)) ∈ dw_Tb := fm_of fm_t4 (i := 196) rfl rfl
theorem fm_985 : (Jvm.Cond.methodLink "SixDew$Paths" (32 : Nat) ({ cls := "SixDew$Paths", name := "leastBeside", desc := "(LSixDew$Ground;I)I" } : Jvm.MethodName)) ∈ dw_Tb := fm_of fm_t4 (i := 197) rfl rfl
theorem fm_987 : (Jvm.Cond.instanceMethod ({ cls := "SixDew$Paths", name := "leastBeside", desc := "(LSixDew$Ground;I)I" } : Jvm.MethodName)) ∈ dw_Tb := fm_of fm_t4 (i := 199) rfl rfl
theorem fm_988 : (Jvm.Cond.code ({ cls := "SixDew$Paths", name := "leastBeside", desc := "(LSixDew$Ground;I)I" } : Jvm.MethodName) prog_6_method_5_code (7 : Nat) (Option.some Jvm.ClassFile.FieldType.int)) ∈ dw_Tb := fm_of fm_t4 (i := 200) rfl rfl
theorem fm_989 : (Jvm.Cond.methodLink "SixDew$Paths" (40 : Nat) ({ cls := "SixDew$Paths", name := "costAt", desc := "(LSixDew$Ground;II)I" } : Jvm.MethodName)) ∈ dw_Tb := fm_of fm_t4 (i := 201) rfl rfl
theorem fm_991 : (Jvm.Cond.instanceMethod ({ cls := "SixDew$Paths", name := "costAt", desc := "(LSixDew$Ground;II)I" } : Jvm.MethodName)) ∈ dw_Tb := fm_of fm_t4 (i := 203) rfl rfl
theorem fm_992 : (Jvm.Cond.code ({ cls := "SixDew$Paths", name := "costAt", desc := "(LSixDew$Ground;II)I" } : Jvm.MethodName) prog_6_method_6_code (5 : Nat) (Option.some Jvm.ClassFile.FieldType.int)) ∈ dw_Tb := fm_of fm_t4 (i := 204) rfl rfl
theorem fm_993 : (Jvm.Cond.methodLink "SixDew$Paths" (50 : Nat) ({ cls := "SixDew$Ground", name := "cellAt", desc := "(II)I" } : Jvm.MethodName)) ∈ dw_Tb := fm_of fm_t4 (i := 205) rfl rfl
theorem fm_994 : (Jvm.Cond.methodLink "SixDew$Paths" (44 : Nat) ({ cls := "java/lang/Math", name := "min", desc := "(II)I" } : Jvm.MethodName)) ∈ dw_Tb := fm_of fm_t4 (i := 206) rfl rfl
theorem fm_995 : (Jvm.Cond.methodLink "SixDewLaw" (121 : Nat) ({ cls := "SixDew", name := "walk", desc := "(IIII)I" } : Jvm.MethodName)) ∈ dw_Tb := fm_of fm_t4 (i := 207) rfl rfl
theorem fm_996 : (Jvm.Cond.instanceMethod ({ cls := "SixDew", name := "walk", desc := "(IIII)I" } : Jvm.MethodName)) ∈ dw_Tb := fm_of fm_t4 (i := 208) rfl rfl
theorem fm_997 : (Jvm.Cond.selects "SixDew" ({ cls := "SixDew", name := "walk", desc := "(IIII)I" } : Jvm.MethodName) ({ cls := "SixDew", name := "walk", desc := "(IIII)I" } : Jvm.MethodName)) ∈ dw_Tb := fm_of fm_t4 (i := 209) rfl rfl
theorem fm_998 : (Jvm.Cond.code ({ cls := "SixDew", name := "walk", desc := "(IIII)I" } : Jvm.MethodName) prog_1_method_26_code (6 : Nat) (Option.some Jvm.ClassFile.FieldType.int)) ∈ dw_Tb := fm_of fm_t4 (i := 210) rfl rfl
theorem fm_999 : (Jvm.Cond.methodLink "SixDew" (276 : Nat) ({ cls := "SixDew$Paths", name := "leastWater", desc := "(LSixDew$Run;LSixDew$Ground;II)I" } : Jvm.MethodName)) ∈ dw_Tb := fm_of fm_t4 (i := 211) rfl rfl
theorem fm_1000 : (Jvm.Cond.instanceMethod ({ cls := "SixDew$Paths", name := "leastWater", desc := "(LSixDew$Run;LSixDew$Ground;II)I" } : Jvm.MethodName)) ∈ dw_Tb := fm_of fm_t4 (i := 212) rfl rfl
theorem fm_1001 : (Jvm.Cond.selects "SixDew$Paths" ({ cls := "SixDew$Paths", name := "leastWater", desc := "(LSixDew$Run;LSixDew$Ground;II)I" } : Jvm.MethodName) ({ cls := "SixDew$Paths", name := "leastWater", desc := "(LSixDew$Run;LSixDew$Ground;II)I" } : Jvm.MethodName)) ∈ dw_Tb := fm_of fm_t4 (i := 213) rfl rfl
theorem fm_1002 : (Jvm.Cond.code ({ cls := "SixDew$Paths", name := "leastWater", desc := "(LSixDew$Run;LSixDew$Ground;II)I" } : Jvm.MethodName) prog_6_method_3_code (5 : Nat) (Option.some Jvm.ClassFile.FieldType.int)) ∈ dw_Tb := fm_of fm_t4 (i := 214) rfl rfl
theorem fm_1003 : (Jvm.Cond.methodLink "SixDewLaw" (125 : Nat) ({ cls := "SixDew", name := "unlike", desc := "(II)I" } : Jvm.MethodName)) ∈ dw_Tb := fm_of fm_t4 (i := 215) rfl rfl
theorem fm_1004 : (Jvm.Cond.instanceMethod ({ cls := "SixDew", name := "unlike", desc := "(II)I" } : Jvm.MethodName)) ∈ dw_Tb := fm_of fm_t4 (i := 216) rfl rfl
theorem fm_1005 : (Jvm.Cond.selects "SixDew" ({ cls := "SixDew", name := "unlike", desc := "(II)I" } : Jvm.MethodName) ({ cls := "SixDew", name := "unlike", desc := "(II)I" } : Jvm.MethodName)) ∈ dw_Tb := fm_of fm_t4 (i := 217) rfl rfl
theorem fm_1006 : (Jvm.Cond.code ({ cls := "SixDew", name := "unlike", desc := "(II)I" } : Jvm.MethodName) prog_1_method_27_code (4 : Nat) (Option.some Jvm.ClassFile.FieldType.int)) ∈ dw_Tb := fm_of fm_t4 (i := 218) rfl rfl
theorem fm_1007 : (Jvm.Cond.methodLink "SixDew" (283 : Nat) ({ cls := "SixDew$Run", name := "isUnlike", desc := "(LSixDew$Run;)Z" } : Jvm.MethodName)) ∈ dw_Tb := fm_of fm_t4 (i := 219) rfl rfl
theorem fm_1008 : (Jvm.Cond.instanceMethod ({ cls := "SixDew$Run", name := "isUnlike", desc := "(LSixDew$Run;)Z" } : Jvm.MethodName)) ∈ dw_Tb := fm_of fm_t4 (i := 220) rfl rfl
theorem fm_1009 : (Jvm.Cond.selects "SixDew$Run" ({ cls := "SixDew$Run", name := "isUnlike", desc := "(LSixDew$Run;)Z" } : Jvm.MethodName) ({ cls := "SixDew$Run", name := "isUnlike", desc := "(LSixDew$Run;)Z" } : Jvm.MethodName)) ∈ dw_Tb := fm_of fm_t4 (i := 221) rfl rfl
theorem fm_1010 : (Jvm.Cond.code ({ cls := "SixDew$Run", name := "isUnlike", desc := "(LSixDew$Run;)Z" } : Jvm.MethodName) prog_9_method_11_code (3 : Nat) (Option.some Jvm.ClassFile.FieldType.boolean)) ∈ dw_Tb := fm_of fm_t4 (i := 222) rfl rfl
theorem fm_1011 : (Jvm.Cond.methodLink "SixDewLaw" (129 : Nat) ({ cls := "SixDew", name := "bench", desc := "(II)I" } : Jvm.MethodName)) ∈ dw_Tb := fm_of fm_t4 (i := 223) rfl rfl
theorem fm_1012 : (Jvm.Cond.instanceMethod ({ cls := "SixDew", name := "bench", desc := "(II)I" } : Jvm.MethodName)) ∈ dw_Tb := fm_of fm_t4 (i := 224) rfl rfl
theorem fm_1013 : (Jvm.Cond.selects "SixDew" ({ cls := "SixDew", name := "bench", desc := "(II)I" } : Jvm.MethodName) ({ cls := "SixDew", name := "bench", desc := "(II)I" } : Jvm.MethodName)) ∈ dw_Tb := fm_of fm_t4 (i := 225) rfl rfl
theorem fm_1014 : (Jvm.Cond.code ({ cls := "SixDew", name := "bench", desc := "(II)I" } : Jvm.MethodName) prog_1_method_28_code (5 : Nat) (Option.some Jvm.ClassFile.FieldType.int)) ∈ dw_Tb := fm_of fm_t4 (i := 226) rfl rfl
theorem fm_1015 : (Jvm.Cond.methodLink "SixDew" (287 : Nat) ({ cls := "SixDew$Run", name := "hideSky", desc := "(II)V" } : Jvm.MethodName)) ∈ dw_Tb := fm_of fm_t4 (i := 227) rfl rfl
theorem fm_1016 : (Jvm.Cond.instanceMethod ({ cls := "SixDew$Run", name := "hideSky", desc := "(II)V" } : Jvm.MethodName)) ∈ dw_Tb := fm_of fm_t4 (i := 228) rfl rfl
theorem fm_1017 : (Jvm.Cond.selects "SixDew$Run" ({ cls := "SixDew$Run", name := "hideSky", desc := "(II)V" } : Jvm.MethodName) ({ cls := "SixDew$Run", name := "hideSky", desc := "(II)V" } : Jvm.MethodName)) ∈ dw_Tb := fm_of fm_t4 (i := 229) rfl rfl
theorem fm_1018 : (Jvm.Cond.code ({ cls := "SixDew$Run", name := "hideSky", desc := "(II)V" } : Jvm.MethodName) prog_9_method_5_code (3 : Nat) (Option.none : Option Jvm.ClassFile.FieldType)) ∈ dw_Tb := fm_of fm_t4 (i := 230) rfl rfl
theorem fm_1019 : (Jvm.Cond.methodLink "SixDew" (291 : Nat) ({ cls := "SixDew$Run", name := "staysDry", desc := "(I)Z" } : Jvm.MethodName)) ∈ dw_Tb := fm_of fm_t4 (i := 231) rfl rfl
theorem fm_1020 : (Jvm.Cond.instanceMethod ({ cls := "SixDew$Run", name := "staysDry", desc := "(I)Z" } : Jvm.MethodName)) ∈ dw_Tb := fm_of fm_t4 (i := 232) rfl rfl
theorem fm_1021 : (Jvm.Cond.selects "SixDew$Run" ({ cls := "SixDew$Run", name := "staysDry", desc := "(I)Z" } : Jvm.MethodName) ({ cls := "SixDew$Run", name := "staysDry", desc := "(I)Z" } : Jvm.MethodName)) ∈ dw_Tb := fm_of fm_t4 (i := 233) rfl rfl
theorem fm_1022 : (Jvm.Cond.code ({ cls := "SixDew$Run", name := "staysDry", desc := "(I)Z" } : Jvm.MethodName) prog_9_method_17_code (3 : Nat) (Option.some Jvm.ClassFile.FieldType.boolean)) ∈ dw_Tb := fm_of fm_t4 (i := 234) rfl rfl
theorem fm_1023 : (Jvm.Cond.methodLink "SixDew" (294 : Nat) ({ cls := "SixDew$Ground", name := "placeOf", desc := "(I)I" } : Jvm.MethodName)) ∈ dw_Tb := fm_of fm_t4 (i := 235) rfl rfl
theorem fm_1024 : (Jvm.Cond.instanceMethod ({ cls := "SixDew$Ground", name := "placeOf", desc := "(I)I" } : Jvm.MethodName)) ∈ dw_Tb := fm_of fm_t4 (i := 236) rfl rfl
theorem fm_1025 : (Jvm.Cond.selects "SixDew$Ground" ({ cls := "SixDew$Ground", name := "placeOf", desc := "(I)I" } : Jvm.MethodName) ({ cls := "SixDew$Ground", name := "placeOf", desc := "(I)I" } : Jvm.MethodName)) ∈ dw_Tb := fm_of fm_t4 (i := 237) rfl rfl
theorem fm_1026 : (Jvm.Cond.code ({ cls := "SixDew$Ground", name := "placeOf", desc := "(I)I" } : Jvm.MethodName) prog_2_method_4_code (2 : Nat) (Option.some Jvm.ClassFile.FieldType.int)) ∈ dw_Tb := fm_of fm_t4 (i := 238) rfl rfl
theorem fm_1027 : (Jvm.Cond.methodLink "SixDewLaw" (133 : Nat) ({ cls := "SixDew", name := "lawn", desc := "()I" } : Jvm.MethodName)) ∈ dw_Tb := fm_of fm_t4 (i := 239) rfl rfl
theorem fm_1028 : (Jvm.Cond.instanceMethod ({ cls := "SixDew", name := "lawn", desc := "()I" } : Jvm.MethodName)) ∈ dw_Tb := fm_of fm_t5 (i := 0) rfl rfl
theorem fm_1029 : (Jvm.Cond.selects "SixDew" ({ cls := "SixDew", name := "lawn", desc := "()I" } : Jvm.MethodName) ({ cls := "SixDew", name := "lawn", desc := "()I" } : Jvm.MethodName)) ∈ dw_Tb := fm_of fm_t5 (i := 1) rfl rfl
theorem fm_1030 : (Jvm.Cond.code ({ cls := "SixDew", name := "lawn", desc := "()I" } : Jvm.MethodName) prog_1_method_29_code (4 : Nat) (Option.some Jvm.ClassFile.FieldType.int)) ∈ dw_Tb := fm_of fm_t5 (i := 2) rfl rfl
theorem fm_1031 : (Jvm.Cond.methodLink "SixDew" (297 : Nat) ({ cls := "SixDew", name := "isLawn", desc := "(I)Z" } : Jvm.MethodName)) ∈ dw_Tb := fm_of fm_t5 (i := 3) rfl rfl
theorem fm_1033 : (Jvm.Cond.instanceMethod ({ cls := "SixDew", name := "isLawn", desc := "(I)Z" } : Jvm.MethodName)) ∈ dw_Tb := fm_of fm_t5 (i := 5) rfl rfl
theorem fm_1034 : (Jvm.Cond.code ({ cls := "SixDew", name := "isLawn", desc := "(I)Z" } : Jvm.MethodName) prog_1_method_50_code (3 : Nat) (Option.some Jvm.ClassFile.FieldType.boolean)) ∈ dw_Tb := fm_of fm_t5 (i := 6) rfl rfl
theorem fm_1035 : (Jvm.Cond.methodLink "SixDew" (368 : Nat) ({ cls := "SixDew$Tape", name := "byteAt", desc := "(I)I" } : Jvm.MethodName)) ∈ dw_Tb := fm_of fm_t5 (i := 7) rfl rfl
theorem fm_1036 : (Jvm.Cond.methodLink "SixDew" (300 : Nat) ({ cls := "SixDew", name := "looksSo", desc := "(LSixDew$Run;)Z" } : Jvm.MethodName)) ∈ dw_Tb := fm_of fm_t5 (i := 8) rfl rfl
theorem fm_1038 : (Jvm.Cond.instanceMethod ({ cls := "SixDew", name := "looksSo", desc := "(LSixDew$Run;)Z" } : Jvm.MethodName)) ∈ dw_Tb := fm_of fm_t5 (i := 10) rfl rfl
theorem fm_1039 : (Jvm.Cond.code ({ cls := "SixDew", name := "looksSo", desc := "(LSixDew$Run;)Z" } : Jvm.MethodName) prog_1_method_51_code (6 : Nat) (Option.some Jvm.ClassFile.FieldType.boolean)) ∈ dw_Tb := fm_of fm_t5 (i := 11) rfl rfl
theorem fm_1040 : (Jvm.Cond.methodLink "SixDewLaw" (137 : Nat) ({ cls := "SixDew", name := "clouded", desc := "(I)I" } : Jvm.MethodName)) ∈ dw_Tb := fm_of fm_t5 (i := 12) rfl rfl
theorem fm_1041 : (Jvm.Cond.instanceMethod ({ cls := "SixDew", name := "clouded", desc := "(I)I" } : Jvm.MethodName)) ∈ dw_Tb := fm_of fm_t5 (i := 13) rfl rfl
theorem fm_1042 : (Jvm.Cond.selects "SixDew" ({ cls := "SixDew", name := "clouded", desc := "(I)I" } : Jvm.MethodName) ({ cls := "SixDew", name := "clouded", desc := "(I)I" } : Jvm.MethodName)) ∈ dw_Tb := fm_of fm_t5 (i := 14) rfl rfl
theorem fm_1043 : (Jvm.Cond.code ({ cls := "SixDew", name := "clouded", desc := "(I)I" } : Jvm.MethodName) prog_1_method_30_code (5 : Nat) (Option.some Jvm.ClassFile.FieldType.int)) ∈ dw_Tb := fm_of fm_t5 (i := 15) rfl rfl
theorem fm_1044 : (Jvm.Cond.methodLink "SixDewLaw" (141 : Nat) ({ cls := "SixDew", name := "came", desc := "(IIII)I" } : Jvm.MethodName)) ∈ dw_Tb := fm_of fm_t5 (i := 16) rfl rfl
theorem fm_1045 : (Jvm.Cond.instanceMethod ({ cls := "SixDew", name := "came", desc := "(IIII)I" } : Jvm.MethodName)) ∈ dw_Tb := fm_of fm_t5 (i := 17) rfl rfl
theorem fm_1046 : (Jvm.Cond.selects "SixDew" ({ cls := "SixDew", name := "came", desc := "(IIII)I" } : Jvm.MethodName) ({ cls := "SixDew", name := "came", desc := "(IIII)I" } : Jvm.MethodName)) ∈ dw_Tb := fm_of fm_t5 (i := 18) rfl rfl
theorem fm_1047 : (Jvm.Cond.code ({ cls := "SixDew", name := "came", desc := "(IIII)I" } : Jvm.MethodName) prog_1_method_31_code (8 : Nat) (Option.some Jvm.ClassFile.FieldType.int)) ∈ dw_Tb := fm_of fm_t5 (i := 19) rfl rfl
theorem fm_1048 : (Jvm.Cond.methodLink "SixDewLaw" (145 : Nat) ({ cls := "SixDew", name := "cameAt", desc := "(I)I" } : Jvm.MethodName)) ∈ dw_Tb := fm_of fm_t5 (i := 20) rfl rfl
theorem fm_1049 : (Jvm.Cond.instanceMethod ({ cls := "SixDew", name := "cameAt", desc := "(I)I" } : Jvm.MethodName)) ∈ dw_Tb := fm_of fm_t5 (i := 21) rfl rfl
theorem fm_1050 : (Jvm.Cond.selects "SixDew" ({ cls := "SixDew", name := "cameAt", desc := "(I)I" } : Jvm.MethodName) ({ cls := "SixDew", name := "cameAt", desc := "(I)I" } : Jvm.MethodName)) ∈ dw_Tb := fm_of fm_t5 (i := 22) rfl rfl
theorem fm_1051 : (Jvm.Cond.code ({ cls := "SixDew", name := "cameAt", desc := "(I)I" } : Jvm.MethodName) prog_1_method_32_code (2 : Nat) (Option.some Jvm.ClassFile.FieldType.int)) ∈ dw_Tb := fm_of fm_t5 (i := 23) rfl rfl
theorem fm_1052 : (Jvm.Cond.methodLink "SixDewLaw" (149 : Nat) ({ cls := "SixDew", name := "roof", desc := "(III)I" } : Jvm.MethodName)) ∈ dw_Tb := fm_of fm_t5 (i := 24) rfl rfl
theorem fm_1053 : (Jvm.Cond.instanceMethod ({ cls := "SixDew", name := "roof", desc := "(III)I" } : Jvm.MethodName)) ∈ dw_Tb := fm_of fm_t5 (i := 25) rfl rfl
theorem fm_1054 : (Jvm.Cond.selects "SixDew" ({ cls := "SixDew", name := "roof", desc := "(III)I" } : Jvm.MethodName) ({ cls := "SixDew", name := "roof", desc := "(III)I" } : Jvm.MethodName)) ∈ dw_Tb := fm_of fm_t5 (i := 26) rfl rfl
theorem fm_1055 : (Jvm.Cond.code ({ cls := "SixDew", name := "roof", desc := "(III)I" } : Jvm.MethodName) prog_1_method_33_code (6 : Nat) (Option.some Jvm.ClassFile.FieldType.int)) ∈ dw_Tb := fm_of fm_t5 (i := 27) rfl rfl
theorem fm_1056 : (Jvm.Cond.methodLink "SixDewLaw" (153 : Nat) ({ cls := "SixDew", name := "driest", desc := "(II)I" } : Jvm.MethodName)) ∈ dw_Tb := fm_of fm_t5 (i := 28) rfl rfl
theorem fm_1057 : (Jvm.Cond.instanceMethod ({ cls := "SixDew", name := "driest", desc := "(II)I" } : Jvm.MethodName)) ∈ dw_Tb := fm_of fm_t5 (i := 29) rfl rfl
theorem fm_1058 : (Jvm.Cond.selects "SixDew" ({ cls := "SixDew", name := "driest", desc := "(II)I" } : Jvm.MethodName) ({ cls := "SixDew", name := "driest", desc := "(II)I" } : Jvm.MethodName)) ∈ dw_Tb := fm_of fm_t5 (i := 30) rfl rfl
theorem fm_1059 : (Jvm.Cond.code ({ cls := "SixDew", name := "driest", desc := "(II)I" } : Jvm.MethodName) prog_1_method_34_code (10 : Nat) (Option.some Jvm.ClassFile.FieldType.int)) ∈ dw_Tb := fm_of fm_t5 (i := 31) rfl rfl
theorem fm_1060 : (Jvm.Cond.methodLink "SixDew" (312 : Nat) ({ cls := "SixDew", name := "waterOfSquare", desc := "(III)I" } : Jvm.MethodName)) ∈ dw_Tb := fm_of fm_t5 (i := 32) rfl rfl
theorem fm_1062 : (Jvm.Cond.instanceMethod ({ cls := "SixDew", name := "waterOfSquare", desc := "(III)I" } : Jvm.MethodName)) ∈ dw_Tb := fm_of fm_t5 (i := 34) rfl rfl
theorem fm_1063 : (Jvm.Cond.code ({ cls := "SixDew", name := "waterOfSquare", desc := "(III)I" } : Jvm.MethodName) prog_1_method_52_code (7 : Nat) (Option.some Jvm.ClassFile.FieldType.int)) ∈ dw_Tb := fm_of fm_t5 (i := 35) rfl rfl
theorem fm_1064 : (Jvm.Cond.methodLink "SixDewLaw" (157 : Nat) ({ cls := "SixDew", name := "catcher", desc := "(III)I" } : Jvm.MethodName)) ∈ dw_Tb := fm_of fm_t5 (i := 36) rfl rfl
theorem fm_1065 : (Jvm.Cond.instanceMethod ({ cls := "SixDew", name := "catcher", desc := "(III)I" } : Jvm.MethodName)) ∈ dw_Tb := fm_of fm_t5 (i := 37) rfl rfl
theorem fm_1066 : (Jvm.Cond.selects "SixDew" ({ cls := "SixDew", name := "catcher", desc := "(III)I" } : Jvm.MethodName) ({ cls := "SixDew", name := "catcher", desc := "(III)I" } : Jvm.MethodName)) ∈ dw_Tb := fm_of fm_t5 (i := 38) rfl rfl
theorem fm_1067 : (Jvm.Cond.code ({ cls := "SixDew", name := "catcher", desc := "(III)I" } : Jvm.MethodName) prog_1_method_35_code (8 : Nat) (Option.some Jvm.ClassFile.FieldType.int)) ∈ dw_Tb := fm_of fm_t5 (i := 39) rfl rfl
theorem fm_1068 : (Jvm.Cond.methodLink "SixDew" (319 : Nat) ({ cls := "SixDew$Run", name := "setKind", desc := "(ILSixDew$Ground;I)V" } : Jvm.MethodName)) ∈ dw_Tb := fm_of fm_t5 (i := 40) rfl rfl
theorem fm_1069 : (Jvm.Cond.methodLink "SixDewLaw" (161 : Nat) ({ cls := "SixDew", name := "story", desc := "(IIIII)I" } : Jvm.MethodName)) ∈ dw_Tb := fm_of fm_t5 (i := 41) rfl rfl
theorem fm_1070 : (Jvm.Cond.instanceMethod ({ cls := "SixDew", name := "story", desc := "(IIIII)I" } : Jvm.MethodName)) ∈ dw_Tb := fm_of fm_t5 (i := 42) rfl rfl
theorem fm_1071 : (Jvm.Cond.selects "SixDew" ({ cls := "SixDew", name := "story", desc := "(IIIII)I" } : Jvm.MethodName) ({ cls := "SixDew", name := "story", desc := "(IIIII)I" } : Jvm.MethodName)) ∈ dw_Tb := fm_of fm_t5 (i := 43) rfl rfl
theorem fm_1072 : (Jvm.Cond.code ({ cls := "SixDew", name := "story", desc := "(IIIII)I" } : Jvm.MethodName) prog_1_method_36_code (7 : Nat) (Option.some Jvm.ClassFile.FieldType.int)) ∈ dw_Tb := fm_of fm_t5 (i := 44) rfl rfl
theorem fm_1073 : (Jvm.Cond.methodLink "SixDew" (323 : Nat) ({ cls := "SixDew", name := "isStory", desc := "(I)Z" } : Jvm.MethodName)) ∈ dw_Tb := fm_of fm_t5 (i := 45) rfl rfl
theorem fm_1074 : (Jvm.Cond.static ({ cls := "SixDew", name := "isStory", desc := "(I)Z" } : Jvm.MethodName)) ∈ dw_Tb := fm_of fm_t5 (i := 46) rfl rfl
theorem fm_1075 : (Jvm.Cond.code ({ cls := "SixDew", name := "isStory", desc := "(I)Z" } : Jvm.MethodName) prog_1_method_46_code (1 : Nat) (Option.some Jvm.ClassFile.FieldType.boolean)) ∈ dw_Tb := fm_of fm_t5 (i := 47) rfl rfl
theorem fm_1076 : (Jvm.Cond.methodLink "SixDewLaw" (165 : Nat) ({ cls := "SixDew", name := "part", desc := "(IIIII)I" } : Jvm.MethodName)) ∈ dw_Tb := fm_of fm_t5 (i := 48) rfl rfl
theorem fm_1077 : (Jvm.Cond.instanceMethod ({ cls := "SixDew", name := "part", desc := "(IIIII)I" } : Jvm.MethodName)) ∈ dw_Tb := fm_of fm_t5 (i := 49) rfl rfl
theorem fm_1078 : (Jvm.Cond.selects "SixDew" ({ cls := "SixDew", name := "part", desc := "(IIIII)I" } : Jvm.MethodName) ({ cls := "SixDew", name := "part", desc := "(IIIII)I" } : Jvm.MethodName)) ∈ dw_Tb := fm_of fm_t5 (i := 50) rfl rfl
theorem fm_1079 : (Jvm.Cond.code ({ cls := "SixDew", name := "part", desc := "(IIIII)I" } : Jvm.MethodName) prog_1_method_37_code (8 : Nat) (Option.some Jvm.ClassFile.FieldType.int)) ∈ dw_Tb := fm_of fm_t5 (i := 51) rfl rfl
theorem fm_1080 : (Jvm.Cond.methodLink "SixDewLaw" (169 : Nat) ({ cls := "SixDew", name := "tries", desc := "(II)I" } : Jvm.MethodName)) ∈ dw_Tb := fm_of fm_t5 (i := 52) rfl rfl
theorem fm_1081 : (Jvm.Cond.instanceMethod ({ cls := "SixDew", name := "tries", desc := "(II)I" } : Jvm.MethodName)) ∈ dw_Tb := fm_of fm_t5 (i := 53) rfl rfl
theorem fm_1082 : (Jvm.Cond.selects "SixDew" ({ cls := "SixDew", name := "tries", desc := "(II)I" } : Jvm.MethodName) ({ cls := "SixDew", name := "tries", desc := "(II)I" } : Jvm.MethodName)) ∈ dw_Tb := fm_of fm_t5 (i := 54) rfl rfl
theorem fm_1083 : (Jvm.Cond.code ({ cls := "SixDew", name := "tries", desc := "(II)I" } : Jvm.MethodName) prog_1_method_38_code (7 : Nat) (Option.some Jvm.ClassFile.FieldType.int)) ∈ dw_Tb := fm_of fm_t5 (i := 55) rfl rfl
theorem fm_1084 : (Jvm.Cond.methodLink "SixDew" (329 : Nat) ({ cls := "SixDew", name := "areTriedCells", desc := "(I)Z" } : Jvm.MethodName)) ∈ dw_Tb := fm_of fm_t5 (i := 56) rfl rfl
theorem fm_1086 : (Jvm.Cond.instanceMethod ({ cls := "SixDew", name := "areTriedCells", desc := "(I)Z" } : Jvm.MethodName)) ∈ dw_Tb := fm_of fm_t5 (i := 58) rfl rfl
theorem fm_1087 : (Jvm.Cond.code ({ cls := "SixDew", name := "areTriedCells", desc := "(I)Z" } : Jvm.MethodName) prog_1_method_53_code (5 : Nat) (Option.some Jvm.ClassFile.FieldType.boolean)) ∈ dw_Tb := fm_of fm_t5 (i := 59) rfl rfl
theorem fm_1088 : (Jvm.Cond.methodLink "SixDew" (332 : Nat) ({ cls := "SixDew", name := "fewestParting", desc := "(I)I" } : Jvm.MethodName)) ∈ dw_Tb := fm_of fm_t5 (i := 60) rfl rfl
theorem fm_1090 : (Jvm.Cond.instanceMethod ({ cls := "SixDew", name := "fewestParting", desc := "(I)I" } : Jvm.MethodName)) ∈ dw_Tb := fm_of fm_t5 (i := 62) rfl rfl
theorem fm_1091 : (Jvm.Cond.code ({ cls := "SixDew", name := "fewestParting", desc := "(I)I" } : Jvm.MethodName) prog_1_method_54_code (4 : Nat) (Option.some Jvm.ClassFile.FieldType.int)) ∈ dw_Tb := fm_of fm_t5 (i := 63) rfl rfl
theorem fm_1092 : (Jvm.Cond.methodLink "SixDew" (371 : Nat) ({ cls := "SixDew", name := "parts", desc := "(III)Z" } : Jvm.MethodName)) ∈ dw_Tb := fm_of fm_t5 (i := 64) rfl rfl
theorem fm_1094 : (Jvm.Cond.instanceMethod ({ cls := "SixDew", name := "parts", desc := "(III)Z" } : Jvm.MethodName)) ∈ dw_Tb := fm_of fm_t5 (i := 66) rfl rfl
theorem fm_1095 : (Jvm.Cond.code ({ cls := "SixDew", name := "parts", desc := "(III)Z" } : Jvm.MethodName) prog_1_method_55_code (5 : Nat) (Option.some Jvm.ClassFile.FieldType.boolean)) ∈ dw_Tb := fm_of fm_t5 (i := 67) rfl rfl
theorem fm_1096 : (Jvm.Cond.methodLink "SixDew" (375 : Nat) ({ cls := "java/lang/Integer", name := "bitCount", desc := "(I)I" } : Jvm.MethodName)) ∈ dw_Tb := fm_of fm_t5 (i := 68) rfl rfl
theorem fm_1097 : (Jvm.Cond.static ({ cls := "java/lang/Integer", name := "bitCount", desc := "(I)I" } : Jvm.MethodName)) ∈ dw_Tb := fm_of fm_t5 (i := 69) rfl rfl
theorem fm_1098 : (Jvm.Cond.code ({ cls := "java/lang/Integer", name := "bitCount", desc := "(I)I" } : Jvm.MethodName) prog_19_method_49_code (1 : Nat) (Option.some Jvm.ClassFile.FieldType.int)) ∈ dw_Tb := fm_of fm_t5 (i := 70) rfl rfl
theorem fm_1099 : (Jvm.Cond.constant "java/lang/Integer" (265 : Nat) (1431655765 : Int32)) ∈ dw_Tb := fm_of fm_t5 (i := 71) rfl rfl
theorem fm_1100 : (Jvm.Cond.constant "java/lang/Integer" (266 : Nat) (858993459 : Int32)) ∈ dw_Tb := fm_of fm_t5 (i := 72) rfl rfl
theorem fm_1101 : (Jvm.Cond.constant "java/lang/Integer" (267 : Nat) (252645135 : Int32)) ∈ dw_Tb := fm_of fm_t5 (i := 73) rfl rfl
theorem fm_1102 : (Jvm.Cond.methodLink "SixDewLaw" (173 : Nat) ({ cls := "SixDew", name := "hay", desc := "(II)I" } : Jvm.MethodName)) ∈ dw_Tb := fm_of fm_t5 (i := 74) rfl rfl
theorem fm_1103 : (Jvm.Cond.instanceMethod ({ cls := "SixDew", name := "hay", desc := "(II)I" } : Jvm.MethodName)) ∈ dw_Tb := fm_of fm_t5 (i := 75) rfl rfl
theorem fm_1104 : (Jvm.Cond.selects "SixDew" ({ cls := "SixDew", name := "hay", desc := "(II)I" } : Jvm.MethodName) ({ cls := "SixDew", name := "hay", desc := "(II)I" } : Jvm.MethodName)) ∈ dw_Tb := fm_of fm_t5 (i := 76) rfl rfl
theorem fm_1105 : (Jvm.Cond.code ({ cls := "SixDew", name := "hay", desc := "(II)I" } : Jvm.MethodName) prog_1_method_39_code (4 : Nat) (Option.some Jvm.ClassFile.FieldType.int)) ∈ dw_Tb := fm_of fm_t5 (i := 77) rfl rfl
theorem fm_1106 : (Jvm.Cond.methodLink "SixDewLaw" (177 : Nat) ({ cls := "SixDew", name := "drawn", desc := "(IIIII)I" } : Jvm.MethodName)) ∈ dw_Tb := fm_of fm_t5 (i := 78) rfl rfl
theorem fm_1107 : (Jvm.Cond.instanceMethod ({ cls := "SixDew", name := "drawn", desc := "(IIIII)I" } : Jvm.MethodName)) ∈ dw_Tb := fm_of fm_t5 (i := 79) rfl rfl
theorem fm_1108 : (Jvm.Cond.selects "SixDew" ({ cls := "SixDew", name := "drawn", desc := "(IIIII)I" } : Jvm.MethodName) ({ cls := "SixDew", name := "drawn", desc := "(IIIII)I" } : Jvm.MethodName)) ∈ dw_Tb := fm_of fm_t5 (i := 80) rfl rfl
theorem fm_1109 : (Jvm.Cond.code ({ cls := "SixDew", name := "drawn", desc := "(IIIII)I" } : Jvm.MethodName) prog_1_method_40_code (11 : Nat) (Option.some Jvm.ClassFile.FieldType.int)) ∈ dw_Tb := fm_of fm_t5 (i := 81) rfl rfl
theorem fm_1110 : (Jvm.Cond.constant "SixDew" (335 : Nat) (1103515245 : Int32)) ∈ dw_Tb := fm_of fm_t5 (i := 82) rfl rfl
theorem fm_1111 : (Jvm.Cond.methodLink "SixDew" (336 : Nat) ({ cls := "java/lang/Math", name := "min", desc := "(II)I" } : Jvm.MethodName)) ∈ dw_Tb := fm_of fm_t5 (i := 83) rfl rfl
theorem fm_1112 : (Jvm.Cond.methodLink "SixDew" (341 : Nat) ({ cls := "java/lang/Math", name := "max", desc := "(II)I" } : Jvm.MethodName)) ∈ dw_Tb := fm_of fm_t5 (i := 84) rfl rfl
theorem fm_1113 : (Jvm.Cond.methodLink "SixDewLaw" (181 : Nat) ({ cls := "SixDew", name := "drawnBy", desc := "(I)I" } : Jvm.MethodName)) ∈ dw_Tb := fm_of fm_t5 (i := 85) rfl rfl
theorem fm_1114 : (Jvm.Cond.instanceMethod ({ cls := "SixDew", name := "drawnBy", desc := "(I)I" } : Jvm.MethodName)) ∈ dw_Tb := fm_of fm_t5 (i := 86) rfl rfl
theorem fm_1115 : (Jvm.Cond.selects "SixDew" ({ cls := "SixDew", name := "drawnBy", desc := "(I)I" } : Jvm.MethodName) ({ cls := "SixDew", name := "drawnBy", desc := "(I)I" } : Jvm.MethodName)) ∈ dw_Tb := fm_of fm_t5 (i := 87) rfl rfl
theorem fm_1116 : (Jvm.Cond.code ({ cls := "SixDew", name := "drawnBy", desc := "(I)I" } : Jvm.MethodName) prog_1_method_41_code (2 : Nat) (Option.some Jvm.ClassFile.FieldType.int)) ∈ dw_Tb := fm_of fm_t5 (i := 88) rfl rfl
theorem fm_1117 : (Jvm.Cond.methodLink "SixDewLaw" (185 : Nat) ({ cls := "SixDew", name := "image", desc := "(I)Z" } : Jvm.MethodName)) ∈ dw_Tb := fm_of fm_t5 (i := 89) rfl rfl
theorem fm_1118 : (Jvm.Cond.instanceMethod ({ cls := "SixDew", name := "image", desc := "(I)Z" } : Jvm.MethodName)) ∈ dw_Tb := fm_of fm_t5 (i := 90) rfl rfl
theorem fm_1119 : (Jvm.Cond.selects "SixDew" ({ cls := "SixDew", name := "image", desc := "(I)Z" } : Jvm.MethodName) ({ cls := "SixDew", name := "image", desc := "(I)Z" } : Jvm.MethodName)) ∈ dw_Tb := fm_of fm_t5 (i := 91) rfl rfl
theorem fm_1120 : (Jvm.Cond.code ({ cls := "SixDew", name := "image", desc := "(I)Z" } : Jvm.MethodName) prog_1_method_42_code (2 : Nat) (Option.some Jvm.ClassFile.FieldType.boolean)) ∈ dw_Tb := fm_of fm_t5 (i := 92) rfl rfl
theorem fm_1121 : (Jvm.Cond.methodLink "SixDew" (347 : Nat) ({ cls := "SixDew$State", name := "copyFrom", desc := "(LSixDew$State;)V" } : Jvm.MethodName)) ∈ dw_Tb := fm_of fm_t5 (i := 93) rfl rfl
theorem fm_1122 : (Jvm.Cond.instanceMethod ({ cls := "SixDew$State", name := "copyFrom", desc := "(LSixDew$State;)V" } : Jvm.MethodName)) ∈ dw_Tb := fm_of fm_t5 (i := 94) rfl rfl
theorem fm_1123 : (Jvm.Cond.selects "SixDew$State" ({ cls := "SixDew$State", name := "copyFrom", desc := "(LSixDew$State;)V" } : Jvm.MethodName) ({ cls := "SixDew$State", name := "copyFrom", desc := "(LSixDew$State;)V" } : Jvm.MethodName)) ∈ dw_Tb := fm_of fm_t5 (i := 95) rfl rfl
theorem fm_1124 : (Jvm.Cond.code ({ cls := "SixDew$State", name := "copyFrom", desc := "(LSixDew$State;)V" } : Jvm.MethodName) prog_10_method_5_code (5 : Nat) (Option.none : Option Jvm.ClassFile.FieldType)) ∈ dw_Tb := fm_of fm_t5 (i := 96) rfl rfl
theorem fm_1125 : (Jvm.Cond.methodLink "SixDew$State" (58 : Nat) ({ cls := "SixDew$Plan", name := "copyFrom", desc := "(LSixDew$Plan;)V" } : Jvm.MethodName)) ∈ dw_Tb := fm_of fm_t5 (i := 97) rfl rfl
theorem fm_1126 : (Jvm.Cond.methodLink "SixDew$State" (61 : Nat) ({ cls := "SixDew$Run", name := "copyFrom", desc := "(LSixDew$Run;)V" } : Jvm.MethodName)) ∈ dw_Tb := fm_of fm_t5 (i := 98) rfl rfl
theorem fm_1127 : (Jvm.Cond.methodLink "SixDew$State" (64 : Nat) ({ cls := "SixDew$Night", name := "copyFrom", desc := "(LSixDew$Night;)V" } : Jvm.MethodName)) ∈ dw_Tb := fm_of fm_t5 (i := 99) rfl rfl
theorem fm_1128 : (Jvm.Cond.methodLink "SixDewLaw" (189 : Nat) ({ cls := "SixDew", name := "restore", desc := "(I)Z" } : Jvm.MethodName)) ∈ dw_Tb := fm_of fm_t5 (i := 100) rfl rfl
theorem fm_1129 : (Jvm.Cond.instanceMethod ({ cls := "SixDew", name := "restore", desc := "(I)Z" } : Jvm.MethodName)) ∈ dw_Tb := fm_of fm_t5 (i := 101) rfl rfl
theorem fm_1130 : (Jvm.Cond.selects "SixDew" ({ cls := "SixDew", name := "restore", desc := "(I)Z" } : Jvm.MethodName) ({ cls := "SixDew", name := "restore", desc := "(I)Z" } : Jvm.MethodName)) ∈ dw_Tb := fm_of fm_t5 (i := 102) rfl rfl
theorem fm_1131 : (Jvm.Cond.code ({ cls := "SixDew", name := "restore", desc := "(I)Z" } : Jvm.MethodName) prog_1_method_43_code (2 : Nat) (Option.some Jvm.ClassFile.FieldType.boolean)) ∈ dw_Tb := fm_of fm_t5 (i := 103) rfl rfl
theorem fm_1132 : (Jvm.Cond.methodLink "SixDewLaw" (193 : Nat) ({ cls := "SixDew", name := "count", desc := "(I)I" } : Jvm.MethodName)) ∈ dw_Tb := fm_of fm_t5 (i := 104) rfl rfl
theorem fm_1133 : (Jvm.Cond.instanceMethod ({ cls := "SixDew", name := "count", desc := "(I)I" } : Jvm.MethodName)) ∈ dw_Tb := fm_of fm_t5 (i := 105) rfl rfl
theorem fm_1134 : (Jvm.Cond.selects "SixDew" ({ cls := "SixDew", name := "count", desc := "(I)I" } : Jvm.MethodName) ({ cls := "SixDew", name := "count", desc := "(I)I" } : Jvm.MethodName)) ∈ dw_Tb := fm_of fm_t5 (i := 106) rfl rfl
theorem fm_1135 : (Jvm.Cond.code ({ cls := "SixDew", name := "count", desc := "(I)I" } : Jvm.MethodName) prog_1_method_44_code (2 : Nat) (Option.some Jvm.ClassFile.FieldType.int)) ∈ dw_Tb := fm_of fm_t5 (i := 107) rfl rfl
theorem fm_1136 : (Jvm.Cond.methodLink "SixDew" (355 : Nat) ({ cls := "SixDew$State", name := "slotsWithNight", desc := "()I" } : Jvm.MethodName)) ∈ dw_Tb := fm_of fm_t5 (i := 108) rfl rfl
theorem fm_1137 : (Jvm.Cond.instanceMethod ({ cls := "SixDew$State", name := "slotsWithNight", desc := "()I" } : Jvm.MethodName)) ∈ dw_Tb := fm_of fm_t5 (i := 109) rfl rfl
theorem fm_1138 : (Jvm.Cond.selects "SixDew$State" ({ cls := "SixDew$State", name := "slotsWithNight", desc := "()I" } : Jvm.MethodName) ({ cls := "SixDew$State", name := "slotsWithNight", desc := "()I" } : Jvm.MethodName)) ∈ dw_Tb := fm_of fm_t5 (i := 110) rfl rfl
theorem fm_1139 : (Jvm.Cond.code ({ cls := "SixDew$State", name := "slotsWithNight", desc := "()I" } : Jvm.MethodName) prog_10_method_3_code (4 : Nat) (Option.some Jvm.ClassFile.FieldType.int)) ∈ dw_Tb := fm_of fm_t5 (i := 111) rfl rfl
theorem fm_1140 : (Jvm.Cond.methodLink "SixDewLaw" (41 : Nat) ({ cls := "SixDewLaw", name := "cell", desc := "(LSixDew;III[J)I" } : Jvm.MethodName)) ∈ dw_Tb := fm_of fm_t5 (i := 112) rfl rfl
theorem fm_1141 : (Jvm.Cond.static ({ cls := "SixDewLaw", name := "cell", desc := "(LSixDew;III[J)I" } : Jvm.MethodName)) ∈ dw_Tb := fm_of fm_t5 (i := 113) rfl rfl
theorem fm_1142 : (Jvm.Cond.codeWith ({ cls := "SixDewLaw", name := "cell", desc := "(LSixDew;III[J)I" } : Jvm.MethodName) method_3_code (6 : Nat) (Option.some Jvm.ClassFile.FieldType.int) [((0 : Nat), (12 : Nat), (15 : Nat), (13 : Nat))]) ∈ dw_Tb := fm_of fm_t5 (i := 114) rfl rfl
theorem fm_1143 : (Jvm.Cond.classLink "SixDewLaw" (13 : Nat) "java/util/NoSuchElementException") ∈ dw_Tb := fm_of fm_t5 (i := 115) rfl rfl
theorem fm_1144 : (Jvm.Cond.methodLink "SixDewLaw" (7 : Nat) ({ cls := "SixDew", name := "cell", desc := "(III)I" } : Jvm.MethodName)) ∈ dw_Tb := fm_of fm_t5 (i := 116) rfl rfl
theorem fm_1145 : (Jvm.Cond.instanceMethod ({ cls := "SixDew", name := "cell", desc := "(III)I" } : Jvm.MethodName)) ∈ dw_Tb := fm_of fm_t5 (i := 117) rfl rfl
theorem fm_1146 : (Jvm.Cond.selects "SixDew" ({ cls := "SixDew", name := "cell", desc := "(III)I" } : Jvm.MethodName) ({ cls := "SixDew", name := "cell", desc := "(III)I" } : Jvm.MethodName)) ∈ dw_Tb := fm_of fm_t5 (i := 118) rfl rfl
theorem fm_1147 : (Jvm.Cond.code ({ cls := "SixDew", name := "cell", desc := "(III)I" } : Jvm.MethodName) prog_1_method_6_code (5 : Nat) (Option.some Jvm.ClassFile.FieldType.int)) ∈ dw_Tb := fm_of fm_t5 (i := 119) rfl rfl
theorem fm_1148 : (Jvm.Cond.classLink "SixDew" (128 : Nat) "java/util/NoSuchElementException") ∈ dw_Tb := fm_of fm_t5 (i := 120) rfl rfl
theorem fm_1192 : (Jvm.Cond.instanceMethod ({ cls := "java/lang/RuntimeException", name := "<init>", desc := "(Ljava/lang/String;)V" } : Jvm.MethodName)) ∈ dw_Tb := fm_of fm_t5 (i := 164) rfl rfl
theorem fm_1193 : (Jvm.Cond.code ({ cls := "java/lang/RuntimeException", name := "<init>", desc := "(Ljava/lang/String;)V" } : Jvm.MethodName) prog_21_method_2_code (2 : Nat) (Option.none : Option Jvm.ClassFile.FieldType)) ∈ dw_Tb := fm_of fm_t5 (i := 165) rfl rfl
theorem fm_1195 : (Jvm.Cond.instanceMethod ({ cls := "java/lang/Exception", name := "<init>", desc := "(Ljava/lang/String;)V" } : Jvm.MethodName)) ∈ dw_Tb := fm_of fm_t5 (i := 167) rfl rfl
theorem fm_1196 : (Jvm.Cond.code ({ cls := "java/lang/Exception", name := "<init>", desc := "(Ljava/lang/String;)V" } : Jvm.MethodName) prog_18_method_2_code (2 : Nat) (Option.none : Option Jvm.ClassFile.FieldType)) ∈ dw_Tb := fm_of fm_t5 (i := 168) rfl rfl
theorem fm_1198 : (Jvm.Cond.instanceMethod ({ cls := "java/lang/Throwable", name := "<init>", desc := "(Ljava/lang/String;)V" } : Jvm.MethodName)) ∈ dw_Tb := fm_of fm_t5 (i := 170) rfl rfl
theorem fm_1199 : (Jvm.Cond.code ({ cls := "java/lang/Throwable", name := "<init>", desc := "(Ljava/lang/String;)V" } : Jvm.MethodName) prog_26_method_2_code (2 : Nat) (Option.none : Option Jvm.ClassFile.FieldType)) ∈ dw_Tb := fm_of fm_t5 (i := 171) rfl rfl
theorem fm_1213 : (Jvm.Cond.methodLink "SixDewLaw" (64 : Nat) ({ cls := "SixDewLaw", name := "is", desc := "(LSixDew;III[J)I" } : Jvm.MethodName)) ∈ dw_Tb := fm_of fm_t5 (i := 185) rfl rfl
theorem fm_1214 : (Jvm.Cond.static ({ cls := "SixDewLaw", name := "is", desc := "(LSixDew;III[J)I" } : Jvm.MethodName)) ∈ dw_Tb := fm_of fm_t5 (i := 186) rfl rfl
theorem fm_1215 : (Jvm.Cond.codeWith ({ cls := "SixDewLaw", name := "is", desc := "(LSixDew;III[J)I" } : Jvm.MethodName) method_4_code (6 : Nat) (Option.some Jvm.ClassFile.FieldType.int) [((0 : Nat), (12 : Nat), (15 : Nat), (13 : Nat))]) ∈ dw_Tb := fm_of fm_t5 (i := 187) rfl rfl
theorem fm_1216 : (Jvm.Cond.methodLink "SixDewLaw" (15 : Nat) ({ cls := "SixDew", name := "is", desc := "(III)I" } : Jvm.MethodName)) ∈ dw_Tb := fm_of fm_t5 (i := 188) rfl rfl
theorem fm_1217 : (Jvm.Cond.instanceMethod ({ cls := "SixDew", name := "is", desc := "(III)I" } : Jvm.MethodName)) ∈ dw_Tb := fm_of fm_t5 (i := 189) rfl rfl
theorem fm_1218 : (Jvm.Cond.selects "SixDew" ({ cls := "SixDew", name := "is", desc := "(III)I" } : Jvm.MethodName) ({ cls := "SixDew", name := "is", desc := "(III)I" } : Jvm.MethodName)) ∈ dw_Tb := fm_of fm_t5 (i := 190) rfl rfl
theorem fm_1219 : (Jvm.Cond.code ({ cls := "SixDew", name := "is", desc := "(III)I" } : Jvm.MethodName) prog_1_method_11_code (5 : Nat) (Option.some Jvm.ClassFile.FieldType.int)) ∈ dw_Tb := fm_of fm_t5 (i := 191) rfl rfl
theorem fm_1221 : (Jvm.Cond.methodLink "SixDew" (179 : Nat) ({ cls := "SixDew$Run", name := "warmthOf", desc := "(I)I" } : Jvm.MethodName)) ∈ dw_Tb := fm_of fm_t5 (i := 193) rfl rfl
theorem fm_1222 : (Jvm.Cond.methodLink "SixDewLaw" (26 : Nat) ({ cls := "SixDewModel", name := "feed", desc := "(IIIII)I" } : Jvm.MethodName)) ∈ dw_Tb := fm_of fm_t5 (i := 194) rfl rfl
theorem fm_1223 : (Jvm.Cond.instanceMethod ({ cls := "SixDewModel", name := "feed", desc := "(IIIII)I" } : Jvm.MethodName)) ∈ dw_Tb := fm_of fm_t5 (i := 195) rfl rfl
theorem fm_1224 : (Jvm.Cond.selects "SixDewModel" ({ cls := "SixDewModel", name := "feed", desc := "(IIIII)I" } : Jvm.MethodName) ({ cls := "SixDewModel", name := "feed", desc := "(IIIII)I" } : Jvm.MethodName)) ∈ dw_Tb := fm_of fm_t5 (i := 196) rfl rfl
theorem fm_1225 : (Jvm.Cond.code ({ cls := "SixDewModel", name := "feed", desc := "(IIIII)I" } : Jvm.MethodName) prog_14_method_3_code (6 : Nat) (Option.some Jvm.ClassFile.FieldType.int)) ∈ dw_Tb := fm_of fm_t5 (i := 197) rfl rfl
theorem fm_1226 : (Jvm.Cond.methodLink "SixDewModel" (10 : Nat) ({ cls := "SixDewModel", name := "four", desc := "(I)V" } : Jvm.MethodName)) ∈ dw_Tb := fm_of fm_t5 (i := 198) rfl rfl
theorem fm_1228 : (Jvm.Cond.instanceMethod ({ cls := "SixDewModel", name := "four", desc := "(I)V" } : Jvm.MethodName)) ∈ dw_Tb := fm_of fm_t5 (i := 200) rfl rfl
theorem fm_1229 : (Jvm.Cond.instantiable "SixDewModel" (57 : Nat)) ∈ dw_Tb := fm_of fm_t5 (i := 201) rfl rfl
theorem fm_1230 : (Jvm.Cond.code ({ cls := "SixDewModel", name := "four", desc := "(I)V" } : Jvm.MethodName) prog_14_method_4_code (3 : Nat) (Option.none : Option Jvm.ClassFile.FieldType)) ∈ dw_Tb := fm_of fm_t5 (i := 202) rfl rfl
theorem fm_1231 : (Jvm.Cond.methodLink "SixDewLaw" (31 : Nat) ({ cls := "SixDewModel", name := "end", desc := "(I)Z" } : Jvm.MethodName)) ∈ dw_Tb := fm_of fm_t5 (i := 203) rfl rfl
theorem fm_1232 : (Jvm.Cond.instanceMethod ({ cls := "SixDewModel", name := "end", desc := "(I)Z" } : Jvm.MethodName)) ∈ dw_Tb := fm_of fm_t5 (i := 204) rfl rfl
theorem fm_1233 : (Jvm.Cond.selects "SixDewModel" ({ cls := "SixDewModel", name := "end", desc := "(I)Z" } : Jvm.MethodName) ({ cls := "SixDewModel", name := "end", desc := "(I)Z" } : Jvm.MethodName)) ∈ dw_Tb := fm_of fm_t5 (i := 205) rfl rfl
theorem fm_1234 : (Jvm.Cond.code ({ cls := "SixDewModel", name := "end", desc := "(I)Z" } : Jvm.MethodName) prog_14_method_5_code (2 : Nat) (Option.some Jvm.ClassFile.FieldType.boolean)) ∈ dw_Tb := fm_of fm_t5 (i := 206) rfl rfl
theorem fm_1235 : (Jvm.Cond.classLink "SixDewLaw" (19 : Nat) "SixDewModel") ∈ dw_Tb := fm_of fm_t5 (i := 207) rfl rfl
theorem fm_1236 : (Jvm.Cond.methodLink "SixDewLaw" (21 : Nat) ({ cls := "SixDewModel", name := "<init>", desc := "()V" } : Jvm.MethodName)) ∈ dw_Tb := fm_of fm_t5 (i := 208) rfl rfl
theorem fm_1237 : (Jvm.Cond.instanceMethod ({ cls := "SixDewModel", name := "<init>", desc := "()V" } : Jvm.MethodName)) ∈ dw_Tb := fm_of fm_t5 (i := 209) rfl rfl
theorem fm_1238 : (Jvm.Cond.code ({ cls := "SixDewModel", name := "<init>", desc := "()V" } : Jvm.MethodName) prog_14_method_10_code (2 : Nat) (Option.none : Option Jvm.ClassFile.FieldType)) ∈ dw_Tb := fm_of fm_t5 (i := 210) rfl rfl
theorem fm_1239 : (Jvm.Cond.methodLink "SixDewModel" (27 : Nat) ({ cls := "java/lang/Object", name := "<init>", desc := "()V" } : Jvm.MethodName)) ∈ dw_Tb := fm_of fm_t5 (i := 211) rfl rfl
theorem fm_1240 : (Jvm.Cond.constantLong "SixDewModel" (120 : Nat) (1802071652 : Int64)) ∈ dw_Tb := fm_of fm_t5 (i := 212) rfl rfl
theorem fm_1241 : (Jvm.Cond.constantLong "SixDewModel" (122 : Nat) (444150998387 : Int64)) ∈ dw_Tb := fm_of fm_t5 (i := 213) rfl rfl
theorem fm_1242 : (Jvm.Cond.constantLong "SixDewModel" (124 : Nat) (7499639 : Int64)) ∈ dw_Tb := fm_of fm_t5 (i := 214) rfl rfl
theorem fm_1243 : (Jvm.Cond.constantLong "SixDewModel" (126 : Nat) (495672452197 : Int64)) ∈ dw_Tb := fm_of fm_t5 (i := 215) rfl rfl
theorem fm_1244 : (Jvm.Cond.constantLong "SixDewModel" (128 : Nat) (512736126322 : Int64)) ∈ dw_Tb := fm_of fm_t5 (i := 216) rfl rfl
theorem fm_1245 : (Jvm.Cond.constantLong "SixDewModel" (130 : Nat) (427021006180 : Int64)) ∈ dw_Tb := fm_of fm_t5 (i := 217) rfl rfl
theorem fm_1246 : (Jvm.Cond.constantLong "SixDewModel" (132 : Nat) (2003398244 : Int64)) ∈ dw_Tb := fm_of fm_t5 (i := 218) rfl rfl
theorem fm_1247 : (Jvm.Cond.constantLong "SixDewModel" (134 : Nat) (6383986 : Int64)) ∈ dw_Tb := fm_of fm_t5 (i := 219) rfl rfl
theorem fm_1248 : (Jvm.Cond.constantLong "SixDewModel" (136 : Nat) (7566702 : Int64)) ∈ dw_Tb := fm_of fm_t5 (i := 220) rfl rfl
theorem fm_1249 : (Jvm.Cond.constantLong "SixDewModel" (138 : Nat) (28526 : Int64)) ∈ dw_Tb := fm_of fm_t5 (i := 221) rfl rfl
theorem fm_1250 : (Jvm.Cond.constantLong "SixDewModel" (140 : Nat) (2003398757 : Int64)) ∈ dw_Tb := fm_of fm_t5 (i := 222) rfl rfl
theorem fm_1251 : (Jvm.Cond.constantLong "SixDewModel" (142 : Nat) (427071792498 : Int64)) ∈ dw_Tb := fm_of fm_t5 (i := 223) rfl rfl
theorem fm_1252 : (Jvm.Cond.constantLong "SixDewModel" (144 : Nat) (1650553445 : Int64)) ∈ dw_Tb := fm_of fm_t5 (i := 224) rfl rfl
theorem fm_1253 : (Jvm.Cond.fieldLink "SixDewModel" (1 : Nat) "SixDewModel" "thrown" "I") ∈ dw_Tb := fm_of fm_t5 (i := 225) rfl rfl
theorem fm_1254 : (Jvm.Cond.fieldLink "SixDewModel" (14 : Nat) "SixDewModel" "tape" "[B") ∈ dw_Tb := fm_of fm_t5 (i := 226) rfl rfl
theorem fm_1255 : (Jvm.Cond.fieldLink "SixDewModel" (7 : Nat) "SixDewModel" "length" "I") ∈ dw_Tb := fm_of fm_t5 (i := 227) rfl rfl
theorem fm_1256 : (Jvm.Cond.fieldLink "SixDewModel" (18 : Nat) "SixDewModel" "size" "I") ∈ dw_Tb := fm_of fm_t5 (i := 228) rfl rfl
theorem fm_1257 : (Jvm.Cond.fieldLink "SixDewModel" (21 : Nat) "SixDewModel" "p" "I") ∈ dw_Tb := fm_of fm_t5 (i := 229) rfl rfl
theorem fm_1258 : (Jvm.Cond.fieldLink "SixDewModel" (24 : Nat) "SixDewModel" "limit" "I") ∈ dw_Tb := fm_of fm_t5 (i := 230) rfl rfl
theorem fm_1259 : (Jvm.Cond.fieldLink "SixDewModel" (33 : Nat) "SixDewModel" "s" "[I") ∈ dw_Tb := fm_of fm_t5 (i := 231) rfl rfl
theorem fm_1260 : (Jvm.Cond.fieldLink "SixDewModel" (37 : Nat) "SixDewModel" "h" "[I") ∈ dw_Tb := fm_of fm_t5 (i := 232) rfl rfl
theorem fm_1261 : (Jvm.Cond.fieldLink "SixDewModel" (40 : Nat) "SixDewModel" "read" "[I") ∈ dw_Tb := fm_of fm_t5 (i := 233) rfl rfl
theorem fm_1262 : (Jvm.Cond.fieldLink "SixDewModel" (43 : Nat) "SixDewModel" "names" "[J") ∈ dw_Tb := fm_of fm_t5 (i := 234) rfl rfl
theorem fm_1263 : (Jvm.Cond.fieldLink "SixDewModel" (47 : Nat) "SixDewModel" "reserved" "[J") ∈ dw_Tb := fm_of fm_t5 (i := 235) rfl rfl
theorem fm_1264 : (Jvm.Cond.fieldLink "SixDewModel" (156 : Nat) "SixDewModel" "token" "I") ∈ dw_Tb := fm_of fm_t5 (i := 236) rfl rfl
theorem fm_1265 : (Jvm.Cond.fieldLink "SixDewModel" (150 : Nat) "SixDewModel" "at" "I") ∈ dw_Tb := fm_of fm_t5 (i := 237) rfl rfl
theorem fm_1266 : (Jvm.Cond.fieldLink "SixDewModel" (153 : Nat) "SixDewModel" "span" "I") ∈ dw_Tb := fm_of fm_t5 (i := 238) rfl rfl
theorem fm_1267 : (Jvm.Cond.fieldLink "SixDewModel" (166 : Nat) "SixDewModel" "number" "I") ∈ dw_Tb := fm_of fm_t5 (i := 239) rfl rfl
theorem fm_1268 : (Jvm.Cond.fieldLink "SixDewModel" (176 : Nat) "SixDewModel" "fault" "I") ∈ dw_Tb := fm_of fm_t6 (i := 0) rfl rfl
theorem fm_1269 : (Jvm.Cond.fieldLink "SixDewModel" (179 : Nat) "SixDewModel" "faultAt" "I") ∈ dw_Tb := fm_of fm_t6 (i := 1) rfl rfl
theorem fm_1270 : (Jvm.Cond.fieldLink "SixDewModel" (169 : Nat) "SixDewModel" "word" "J") ∈ dw_Tb := fm_of fm_t6 (i := 2) rfl rfl
theorem fm_1271 : (Jvm.Cond.fieldLink "SixDewModel" (173 : Nat) "SixDewModel" "tail" "J") ∈ dw_Tb := fm_of fm_t6 (i := 3) rfl rfl
theorem fm_1272 : (Jvm.Cond.fieldLink "SixDewModel" (195 : Nat) "SixDewModel" "got" "I") ∈ dw_Tb := fm_of fm_t6 (i := 4) rfl rfl
theorem fm_1273 : (Jvm.Cond.fieldLink "SixDewModel" (227 : Nat) "SixDewModel" "lines" "I") ∈ dw_Tb := fm_of fm_t6 (i := 5) rfl rfl
theorem fm_1274 : (Jvm.Cond.fieldLink "SixDewModel" (250 : Nat) "SixDewModel" "coming" "I") ∈ dw_Tb := fm_of fm_t6 (i := 6) rfl rfl
theorem fm_1275 : (Jvm.Cond.fieldLink "SixDewModel" (213 : Nat) "SixDewModel" "hasWater" "Z") ∈ dw_Tb := fm_of fm_t6 (i := 7) rfl rfl
theorem fm_1276 : (Jvm.Cond.fieldLink "SixDewModel" (50 : Nat) "SixDewModel" "cloud" "[I") ∈ dw_Tb := fm_of fm_t6 (i := 8) rfl rfl
theorem fm_1277 : (Jvm.Cond.fieldLink "SixDewModel" (53 : Nat) "SixDewModel" "wind" "[I") ∈ dw_Tb := fm_of fm_t6 (i := 9) rfl rfl
theorem fm_1278 : (Jvm.Cond.fieldLink "SixDewModel" (56 : Nat) "SixDewModel" "air" "[I") ∈ dw_Tb := fm_of fm_t6 (i := 10) rfl rfl
theorem fm_1279 : (Jvm.Cond.fieldLink "SixDewModel" (59 : Nat) "SixDewModel" "line" "[I") ∈ dw_Tb := fm_of fm_t6 (i := 11) rfl rfl
theorem fm_1280 : (Jvm.Cond.fieldLink "SixDewModel" (62 : Nat) "SixDewModel" "sun" "[I") ∈ dw_Tb := fm_of fm_t6 (i := 12) rfl rfl
theorem fm_1281 : (Jvm.Cond.fieldLink "SixDewModel" (65 : Nat) "SixDewModel" "warmth" "[I") ∈ dw_Tb := fm_of fm_t6 (i := 13) rfl rfl
theorem fm_1282 : (Jvm.Cond.fieldLink "SixDewModel" (68 : Nat) "SixDewModel" "water" "[I") ∈ dw_Tb := fm_of fm_t6 (i := 14) rfl rfl
theorem fm_1283 : (Jvm.Cond.fieldLink "SixDewModel" (71 : Nat) "SixDewModel" "bare" "[I") ∈ dw_Tb := fm_of fm_t6 (i := 15) rfl rfl
theorem fm_1284 : (Jvm.Cond.fieldLink "SixDewModel" (74 : Nat) "SixDewModel" "kindOf" "[I") ∈ dw_Tb := fm_of fm_t6 (i := 16) rfl rfl
theorem fm_1285 : (Jvm.Cond.fieldLink "SixDewModel" (265 : Nat) "SixDewModel" "stock" "I") ∈ dw_Tb := fm_of fm_t6 (i := 17) rfl rfl
theorem fm_1286 : (Jvm.Cond.fieldLink "SixDewModel" (268 : Nat) "SixDewModel" "given" "I") ∈ dw_Tb := fm_of fm_t6 (i := 18) rfl rfl
theorem fm_1287 : (Jvm.Cond.fieldLink "SixDewModel" (271 : Nat) "SixDewModel" "story" "I") ∈ dw_Tb := fm_of fm_t6 (i := 19) rfl rfl
theorem fm_1288 : (Jvm.Cond.fieldLink "SixDewModel" (274 : Nat) "SixDewModel" "covers" "I") ∈ dw_Tb := fm_of fm_t6 (i := 20) rfl rfl
theorem fm_1289 : (Jvm.Cond.fieldLink "SixDewModel" (280 : Nat) "SixDewModel" "coverFrom" "I") ∈ dw_Tb := fm_of fm_t6 (i := 21) rfl rfl
theorem fm_1290 : (Jvm.Cond.fieldLink "SixDewModel" (283 : Nat) "SixDewModel" "coverTill" "I") ∈ dw_Tb := fm_of fm_t6 (i := 22) rfl rfl
theorem fm_1291 : (Jvm.Cond.fieldLink "SixDewModel" (297 : Nat) "SixDewModel" "runDone" "I") ∈ dw_Tb := fm_of fm_t6 (i := 23) rfl rfl
theorem fm_1292 : (Jvm.Cond.fieldLink "SixDewModel" (77 : Nat) "SixDewModel" "runCovered" "[I") ∈ dw_Tb := fm_of fm_t6 (i := 24) rfl rfl
theorem fm_1293 : (Jvm.Cond.fieldLink "SixDewModel" (80 : Nat) "SixDewModel" "wentAt" "[I") ∈ dw_Tb := fm_of fm_t6 (i := 25) rfl rfl
theorem fm_1294 : (Jvm.Cond.fieldLink "SixDewModel" (312 : Nat) "SixDewModel" "hasGone" "Z") ∈ dw_Tb := fm_of fm_t6 (i := 26) rfl rfl
theorem fm_1295 : (Jvm.Cond.fieldLink "SixDewModel" (83 : Nat) "SixDewModel" "times" "[I") ∈ dw_Tb := fm_of fm_t6 (i := 27) rfl rfl
theorem fm_1296 : (Jvm.Cond.fieldLink "SixDewModel" (86 : Nat) "SixDewModel" "spells" "[I") ∈ dw_Tb := fm_of fm_t6 (i := 28) rfl rfl
theorem fm_1297 : (Jvm.Cond.fieldLink "SixDewModel" (89 : Nat) "SixDewModel" "spellMost" "[I") ∈ dw_Tb := fm_of fm_t6 (i := 29) rfl rfl
theorem fm_1298 : (Jvm.Cond.fieldLink "SixDewModel" (92 : Nat) "SixDewModel" "far" "[I") ∈ dw_Tb := fm_of fm_t6 (i := 30) rfl rfl
theorem fm_1299 : (Jvm.Cond.fieldLink "SixDewModel" (95 : Nat) "SixDewModel" "waterKept" "[I") ∈ dw_Tb := fm_of fm_t6 (i := 31) rfl rfl
theorem fm_1300 : (Jvm.Cond.fieldLink "SixDewModel" (98 : Nat) "SixDewModel" "cameAt" "[I") ∈ dw_Tb := fm_of fm_t6 (i := 32) rfl rfl
theorem fm_1301 : (Jvm.Cond.fieldLink "SixDewModel" (344 : Nat) "SixDewModel" "hasCame" "Z") ∈ dw_Tb := fm_of fm_t6 (i := 33) rfl rfl
theorem fm_1302 : (Jvm.Cond.fieldLink "SixDewModel" (101 : Nat) "SixDewModel" "triedCell" "[I") ∈ dw_Tb := fm_of fm_t6 (i := 34) rfl rfl
theorem fm_1303 : (Jvm.Cond.fieldLink "SixDewModel" (104 : Nat) "SixDewModel" "parts" "[I") ∈ dw_Tb := fm_of fm_t6 (i := 35) rfl rfl
theorem fm_1304 : (Jvm.Cond.fieldLink "SixDewModel" (107 : Nat) "SixDewModel" "told" "[I") ∈ dw_Tb := fm_of fm_t6 (i := 36) rfl rfl
theorem fm_1305 : (Jvm.Cond.fieldLink "SixDewModel" (350 : Nat) "SixDewModel" "seed" "I") ∈ dw_Tb := fm_of fm_t6 (i := 37) rfl rfl
theorem fm_1306 : (Jvm.Cond.fieldLink "SixDewModel" (110 : Nat) "SixDewModel" "drawnAt" "[I") ∈ dw_Tb := fm_of fm_t6 (i := 38) rfl rfl
theorem fm_1307 : (Jvm.Cond.fieldLink "SixDewModel" (354 : Nat) "SixDewModel" "hasDrawn" "Z") ∈ dw_Tb := fm_of fm_t6 (i := 39) rfl rfl
theorem fm_1308 : (Jvm.Cond.fieldLink "SixDewModel" (113 : Nat) "SixDewModel" "kept" "[I") ∈ dw_Tb := fm_of fm_t6 (i := 40) rfl rfl
theorem fm_1309 : (Jvm.Cond.fieldLink "SixDewModel" (116 : Nat) "SixDewModel" "isKept" "[Z") ∈ dw_Tb := fm_of fm_t6 (i := 41) rfl rfl
theorem fm_1427 : (Jvm.Cond.methodLink "SixDewLaw" (36 : Nat) ({ cls := "SixDewModel", name := "ground", desc := "()I" } : Jvm.MethodName)) ∈ dw_Tb := fm_of fm_t6 (i := 159) rfl rfl
theorem fm_1428 : (Jvm.Cond.instanceMethod ({ cls := "SixDewModel", name := "ground", desc := "()I" } : Jvm.MethodName)) ∈ dw_Tb := fm_of fm_t6 (i := 160) rfl rfl
theorem fm_1429 : (Jvm.Cond.selects "SixDewModel" ({ cls := "SixDewModel", name := "ground", desc := "()I" } : Jvm.MethodName) ({ cls := "SixDewModel", name := "ground", desc := "()I" } : Jvm.MethodName)) ∈ dw_Tb := fm_of fm_t6 (i := 161) rfl rfl
theorem fm_1430 : (Jvm.Cond.code ({ cls := "SixDewModel", name := "ground", desc := "()I" } : Jvm.MethodName) prog_14_method_24_code (2 : Nat) (Option.some Jvm.ClassFile.FieldType.int)) ∈ dw_Tb := fm_of fm_t6 (i := 162) rfl rfl
theorem fm_1431 : (Jvm.Cond.methodLink "SixDewModel" (224 : Nat) ({ cls := "SixDewModel", name := "taken", desc := "(I)V" } : Jvm.MethodName)) ∈ dw_Tb := fm_of fm_t6 (i := 163) rfl rfl
theorem fm_1433 : (Jvm.Cond.instanceMethod ({ cls := "SixDewModel", name := "taken", desc := "(I)V" } : Jvm.MethodName)) ∈ dw_Tb := fm_of fm_t6 (i := 165) rfl rfl
theorem fm_1434 : (Jvm.Cond.code ({ cls := "SixDewModel", name := "taken", desc := "(I)V" } : Jvm.MethodName) prog_14_method_6_code (2 : Nat) (Option.none : Option Jvm.ClassFile.FieldType)) ∈ dw_Tb := fm_of fm_t6 (i := 166) rfl rfl
theorem fm_1435 : (Jvm.Cond.methodLink "SixDewModel" (188 : Nat) ({ cls := "SixDewModel", name := "next", desc := "()V" } : Jvm.MethodName)) ∈ dw_Tb := fm_of fm_t6 (i := 167) rfl rfl
theorem fm_1437 : (Jvm.Cond.instanceMethod ({ cls := "SixDewModel", name := "next", desc := "()V" } : Jvm.MethodName)) ∈ dw_Tb := fm_of fm_t6 (i := 169) rfl rfl
theorem fm_1438 : (Jvm.Cond.code ({ cls := "SixDewModel", name := "next", desc := "()V" } : Jvm.MethodName) prog_14_method_14_code (4 : Nat) (Option.none : Option Jvm.ClassFile.FieldType)) ∈ dw_Tb := fm_of fm_t6 (i := 170) rfl rfl
theorem fm_1439 : (Jvm.Cond.methodLink "SixDewModel" (146 : Nat) ({ cls := "SixDewModel", name := "peek", desc := "()I" } : Jvm.MethodName)) ∈ dw_Tb := fm_of fm_t6 (i := 171) rfl rfl
theorem fm_1441 : (Jvm.Cond.instanceMethod ({ cls := "SixDewModel", name := "peek", desc := "()I" } : Jvm.MethodName)) ∈ dw_Tb := fm_of fm_t6 (i := 173) rfl rfl
theorem fm_1442 : (Jvm.Cond.code ({ cls := "SixDewModel", name := "peek", desc := "()I" } : Jvm.MethodName) prog_14_method_11_code (1 : Nat) (Option.some Jvm.ClassFile.FieldType.int)) ∈ dw_Tb := fm_of fm_t6 (i := 174) rfl rfl
theorem fm_1443 : (Jvm.Cond.methodLink "SixDewModel" (159 : Nat) ({ cls := "SixDewModel", name := "isSmall", desc := "(I)Z" } : Jvm.MethodName)) ∈ dw_Tb := fm_of fm_t6 (i := 175) rfl rfl
theorem fm_1444 : (Jvm.Cond.static ({ cls := "SixDewModel", name := "isSmall", desc := "(I)Z" } : Jvm.MethodName)) ∈ dw_Tb := fm_of fm_t6 (i := 176) rfl rfl
theorem fm_1445 : (Jvm.Cond.code ({ cls := "SixDewModel", name := "isSmall", desc := "(I)Z" } : Jvm.MethodName) prog_14_method_12_code (1 : Nat) (Option.some Jvm.ClassFile.FieldType.boolean)) ∈ dw_Tb := fm_of fm_t6 (i := 177) rfl rfl
theorem fm_1446 : (Jvm.Cond.methodLink "SixDewModel" (163 : Nat) ({ cls := "SixDewModel", name := "isDigit", desc := "(I)Z" } : Jvm.MethodName)) ∈ dw_Tb := fm_of fm_t6 (i := 178) rfl rfl
theorem fm_1447 : (Jvm.Cond.static ({ cls := "SixDewModel", name := "isDigit", desc := "(I)Z" } : Jvm.MethodName)) ∈ dw_Tb := fm_of fm_t6 (i := 179) rfl rfl
theorem fm_1448 : (Jvm.Cond.code ({ cls := "SixDewModel", name := "isDigit", desc := "(I)Z" } : Jvm.MethodName) prog_14_method_13_code (1 : Nat) (Option.some Jvm.ClassFile.FieldType.boolean)) ∈ dw_Tb := fm_of fm_t6 (i := 180) rfl rfl
theorem fm_1449 : (Jvm.Cond.methodLink "SixDewModel" (230 : Nat) ({ cls := "SixDewModel", name := "groundLine", desc := "()Z" } : Jvm.MethodName)) ∈ dw_Tb := fm_of fm_t6 (i := 181) rfl rfl
theorem fm_1451 : (Jvm.Cond.instanceMethod ({ cls := "SixDewModel", name := "groundLine", desc := "()Z" } : Jvm.MethodName)) ∈ dw_Tb := fm_of fm_t6 (i := 183) rfl rfl
theorem fm_1452 : (Jvm.Cond.code ({ cls := "SixDewModel", name := "groundLine", desc := "()Z" } : Jvm.MethodName) prog_14_method_21_code (2 : Nat) (Option.some Jvm.ClassFile.FieldType.boolean)) ∈ dw_Tb := fm_of fm_t6 (i := 184) rfl rfl
theorem fm_1453 : (Jvm.Cond.methodLink "SixDewModel" (198 : Nat) ({ cls := "SixDewModel", name := "isWord", desc := "(J)Z" } : Jvm.MethodName)) ∈ dw_Tb := fm_of fm_t6 (i := 185) rfl rfl
theorem fm_1455 : (Jvm.Cond.instanceMethod ({ cls := "SixDewModel", name := "isWord", desc := "(J)Z" } : Jvm.MethodName)) ∈ dw_Tb := fm_of fm_t6 (i := 187) rfl rfl
theorem fm_1456 : (Jvm.Cond.code ({ cls := "SixDewModel", name := "isWord", desc := "(J)Z" } : Jvm.MethodName) prog_14_method_16_code (3 : Nat) (Option.some Jvm.ClassFile.FieldType.boolean)) ∈ dw_Tb := fm_of fm_t6 (i := 188) rfl rfl
theorem fm_1457 : (Jvm.Cond.methodLink "SixDewModel" (202 : Nat) ({ cls := "SixDewModel", name := "readKind", desc := "()Z" } : Jvm.MethodName)) ∈ dw_Tb := fm_of fm_t6 (i := 189) rfl rfl
theorem fm_1459 : (Jvm.Cond.instanceMethod ({ cls := "SixDewModel", name := "readKind", desc := "()Z" } : Jvm.MethodName)) ∈ dw_Tb := fm_of fm_t6 (i := 191) rfl rfl
theorem fm_1460 : (Jvm.Cond.code ({ cls := "SixDewModel", name := "readKind", desc := "()Z" } : Jvm.MethodName) prog_14_method_22_code (3 : Nat) (Option.some Jvm.ClassFile.FieldType.boolean)) ∈ dw_Tb := fm_of fm_t6 (i := 192) rfl rfl
theorem fm_1461 : (Jvm.Cond.methodLink "SixDewModel" (185 : Nat) ({ cls := "SixDewModel", name := "bad", desc := "(I)Z" } : Jvm.MethodName)) ∈ dw_Tb := fm_of fm_t6 (i := 193) rfl rfl
theorem fm_1463 : (Jvm.Cond.instanceMethod ({ cls := "SixDewModel", name := "bad", desc := "(I)Z" } : Jvm.MethodName)) ∈ dw_Tb := fm_of fm_t6 (i := 195) rfl rfl
theorem fm_1464 : (Jvm.Cond.code ({ cls := "SixDewModel", name := "bad", desc := "(I)Z" } : Jvm.MethodName) prog_14_method_15_code (2 : Nat) (Option.some Jvm.ClassFile.FieldType.boolean)) ∈ dw_Tb := fm_of fm_t6 (i := 196) rfl rfl
theorem fm_1465 : (Jvm.Cond.methodLink "SixDewModel" (217 : Nat) ({ cls := "SixDewModel", name := "isName", desc := "()Z" } : Jvm.MethodName)) ∈ dw_Tb := fm_of fm_t6 (i := 197) rfl rfl
theorem fm_1467 : (Jvm.Cond.instanceMethod ({ cls := "SixDewModel", name := "isName", desc := "()Z" } : Jvm.MethodName)) ∈ dw_Tb := fm_of fm_t6 (i := 199) rfl rfl
theorem fm_1468 : (Jvm.Cond.code ({ cls := "SixDewModel", name := "isName", desc := "()Z" } : Jvm.MethodName) prog_14_method_19_code (3 : Nat) (Option.some Jvm.ClassFile.FieldType.boolean)) ∈ dw_Tb := fm_of fm_t6 (i := 200) rfl rfl
theorem fm_1469 : (Jvm.Cond.methodLink "SixDewModel" (209 : Nat) ({ cls := "SixDewModel", name := "takes", desc := "(II)Z" } : Jvm.MethodName)) ∈ dw_Tb := fm_of fm_t6 (i := 201) rfl rfl
theorem fm_1471 : (Jvm.Cond.instanceMethod ({ cls := "SixDewModel", name := "takes", desc := "(II)Z" } : Jvm.MethodName)) ∈ dw_Tb := fm_of fm_t6 (i := 203) rfl rfl
theorem fm_1472 : (Jvm.Cond.code ({ cls := "SixDewModel", name := "takes", desc := "(II)Z" } : Jvm.MethodName) prog_14_method_20_code (3 : Nat) (Option.some Jvm.ClassFile.FieldType.boolean)) ∈ dw_Tb := fm_of fm_t6 (i := 204) rfl rfl
theorem fm_1473 : (Jvm.Cond.methodLink "SixDewModel" (191 : Nat) ({ cls := "SixDewModel", name := "isIn", desc := "(III)Z" } : Jvm.MethodName)) ∈ dw_Tb := fm_of fm_t6 (i := 205) rfl rfl
theorem fm_1474 : (Jvm.Cond.static ({ cls := "SixDewModel", name := "isIn", desc := "(III)Z" } : Jvm.MethodName)) ∈ dw_Tb := fm_of fm_t6 (i := 206) rfl rfl
theorem fm_1475 : (Jvm.Cond.code ({ cls := "SixDewModel", name := "isIn", desc := "(III)Z" } : Jvm.MethodName) prog_14_method_7_code (3 : Nat) (Option.some Jvm.ClassFile.FieldType.boolean)) ∈ dw_Tb := fm_of fm_t6 (i := 207) rfl rfl
theorem fm_1476 : (Jvm.Cond.methodLink "SixDewModel" (206 : Nat) ({ cls := "SixDewModel", name := "readRow", desc := "()Z" } : Jvm.MethodName)) ∈ dw_Tb := fm_of fm_t6 (i := 208) rfl rfl
theorem fm_1478 : (Jvm.Cond.instanceMethod ({ cls := "SixDewModel", name := "readRow", desc := "()Z" } : Jvm.MethodName)) ∈ dw_Tb := fm_of fm_t6 (i := 210) rfl rfl
theorem fm_1479 : (Jvm.Cond.code ({ cls := "SixDewModel", name := "readRow", desc := "()Z" } : Jvm.MethodName) prog_14_method_23_code (4 : Nat) (Option.some Jvm.ClassFile.FieldType.boolean)) ∈ dw_Tb := fm_of fm_t6 (i := 211) rfl rfl
theorem fm_1480 : (Jvm.Cond.methodLink "SixDewModel" (220 : Nat) ({ cls := "SixDewModel", name := "octet", desc := "(I)I" } : Jvm.MethodName)) ∈ dw_Tb := fm_of fm_t6 (i := 212) rfl rfl
theorem fm_1482 : (Jvm.Cond.instanceMethod ({ cls := "SixDewModel", name := "octet", desc := "(I)I" } : Jvm.MethodName)) ∈ dw_Tb := fm_of fm_t6 (i := 214) rfl rfl
theorem fm_1483 : (Jvm.Cond.code ({ cls := "SixDewModel", name := "octet", desc := "(I)I" } : Jvm.MethodName) prog_14_method_9_code (2 : Nat) (Option.some Jvm.ClassFile.FieldType.int)) ∈ dw_Tb := fm_of fm_t6 (i := 215) rfl rfl
theorem fm_1484 : (Jvm.Cond.methodLink "SixDewModel" (233 : Nat) ({ cls := "SixDewModel", name := "sign", desc := "(I)Z" } : Jvm.MethodName)) ∈ dw_Tb := fm_of fm_t6 (i := 216) rfl rfl
theorem fm_1486 : (Jvm.Cond.instanceMethod ({ cls := "SixDewModel", name := "sign", desc := "(I)Z" } : Jvm.MethodName)) ∈ dw_Tb := fm_of fm_t6 (i := 218) rfl rfl
theorem fm_1487 : (Jvm.Cond.code ({ cls := "SixDewModel", name := "sign", desc := "(I)Z" } : Jvm.MethodName) prog_14_method_18_code (2 : Nat) (Option.some Jvm.ClassFile.FieldType.boolean)) ∈ dw_Tb := fm_of fm_t6 (i := 219) rfl rfl
theorem fm_1488 : (Jvm.Cond.methodLink "SixDewModel" (182 : Nat) ({ cls := "SixDewModel", name := "isSign", desc := "(I)Z" } : Jvm.MethodName)) ∈ dw_Tb := fm_of fm_t6 (i := 220) rfl rfl
theorem fm_1490 : (Jvm.Cond.instanceMethod ({ cls := "SixDewModel", name := "isSign", desc := "(I)Z" } : Jvm.MethodName)) ∈ dw_Tb := fm_of fm_t6 (i := 222) rfl rfl
theorem fm_1491 : (Jvm.Cond.code ({ cls := "SixDewModel", name := "isSign", desc := "(I)Z" } : Jvm.MethodName) prog_14_method_17_code (2 : Nat) (Option.some Jvm.ClassFile.FieldType.boolean)) ∈ dw_Tb := fm_of fm_t6 (i := 223) rfl rfl
theorem fm_1492 : (Jvm.Cond.methodLink "SixDewLaw" (40 : Nat) ({ cls := "SixDewModel", name := "fault", desc := "()I" } : Jvm.MethodName)) ∈ dw_Tb := fm_of fm_t6 (i := 224) rfl rfl
theorem fm_1493 : (Jvm.Cond.instanceMethod ({ cls := "SixDewModel", name := "fault", desc := "()I" } : Jvm.MethodName)) ∈ dw_Tb := fm_of fm_t6 (i := 225) rfl rfl
theorem fm_1494 : (Jvm.Cond.selects "SixDewModel" ({ cls := "SixDewModel", name := "fault", desc := "()I" } : Jvm.MethodName) ({ cls := "SixDewModel", name := "fault", desc := "()I" } : Jvm.MethodName)) ∈ dw_Tb := fm_of fm_t6 (i := 226) rfl rfl
theorem fm_1495 : (Jvm.Cond.code ({ cls := "SixDewModel", name := "fault", desc := "()I" } : Jvm.MethodName) prog_14_method_25_code (1 : Nat) (Option.some Jvm.ClassFile.FieldType.int)) ∈ dw_Tb := fm_of fm_t6 (i := 227) rfl rfl
theorem fm_1496 : (Jvm.Cond.methodLink "SixDewLaw" (46 : Nat) ({ cls := "SixDewModel", name := "cell", desc := "(III)I" } : Jvm.MethodName)) ∈ dw_Tb := fm_of fm_t6 (i := 228) rfl rfl
theorem fm_1497 : (Jvm.Cond.instanceMethod ({ cls := "SixDewModel", name := "cell", desc := "(III)I" } : Jvm.MethodName)) ∈ dw_Tb := fm_of fm_t6 (i := 229) rfl rfl
theorem fm_1498 : (Jvm.Cond.selects "SixDewModel" ({ cls := "SixDewModel", name := "cell", desc := "(III)I" } : Jvm.MethodName) ({ cls := "SixDewModel", name := "cell", desc := "(III)I" } : Jvm.MethodName)) ∈ dw_Tb := fm_of fm_t6 (i := 230) rfl rfl
theorem fm_1499 : (Jvm.Cond.code ({ cls := "SixDewModel", name := "cell", desc := "(III)I" } : Jvm.MethodName) prog_14_method_30_code (6 : Nat) (Option.some Jvm.ClassFile.FieldType.int)) ∈ dw_Tb := fm_of fm_t6 (i := 231) rfl rfl
theorem fm_1500 : (Jvm.Cond.methodLink "SixDewModel" (236 : Nat) ({ cls := "SixDewModel", name := "isCell", desc := "(II)Z" } : Jvm.MethodName)) ∈ dw_Tb := fm_of fm_t6 (i := 232) rfl rfl
theorem fm_1502 : (Jvm.Cond.instanceMethod ({ cls := "SixDewModel", name := "isCell", desc := "(II)Z" } : Jvm.MethodName)) ∈ dw_Tb := fm_of fm_t6 (i := 234) rfl rfl
theorem fm_1503 : (Jvm.Cond.code ({ cls := "SixDewModel", name := "isCell", desc := "(II)Z" } : Jvm.MethodName) prog_14_method_27_code (3 : Nat) (Option.some Jvm.ClassFile.FieldType.boolean)) ∈ dw_Tb := fm_of fm_t6 (i := 235) rfl rfl
theorem fm_1504 : (Jvm.Cond.methodLink "SixDewModel" (239 : Nat) ({ cls := "SixDewModel", name := "throwsIf", desc := "(Z)Z" } : Jvm.MethodName)) ∈ dw_Tb := fm_of fm_t6 (i := 236) rfl rfl
theorem fm_1506 : (Jvm.Cond.instanceMethod ({ cls := "SixDewModel", name := "throwsIf", desc := "(Z)Z" } : Jvm.MethodName)) ∈ dw_Tb := fm_of fm_t6 (i := 238) rfl rfl
theorem fm_1507 : (Jvm.Cond.code ({ cls := "SixDewModel", name := "throwsIf", desc := "(Z)Z" } : Jvm.MethodName) prog_14_method_2_code (2 : Nat) (Option.some Jvm.ClassFile.FieldType.boolean)) ∈ dw_Tb := fm_of fm_t6 (i := 239) rfl rfl
theorem fm_1508 : (Jvm.Cond.methodLink "SixDewModel" (243 : Nat) ({ cls := "SixDewModel", name := "numberOf", desc := "(II)I" } : Jvm.MethodName)) ∈ dw_Tb := fm_of fm_t7 (i := 0) rfl rfl
theorem fm_1510 : (Jvm.Cond.instanceMethod ({ cls := "SixDewModel", name := "numberOf", desc := "(II)I" } : Jvm.MethodName)) ∈ dw_Tb := fm_of fm_t7 (i := 2) rfl rfl
theorem fm_1511 : (Jvm.Cond.code ({ cls := "SixDewModel", name := "numberOf", desc := "(II)I" } : Jvm.MethodName) prog_14_method_28_code (3 : Nat) (Option.some Jvm.ClassFile.FieldType.int)) ∈ dw_Tb := fm_of fm_t7 (i := 3) rfl rfl
theorem fm_1512 : (Jvm.Cond.methodLink "SixDewModel" (247 : Nat) ({ cls := "SixDewModel", name := "skyOf", desc := "(I)I" } : Jvm.MethodName)) ∈ dw_Tb := fm_of fm_t7 (i := 4) rfl rfl
theorem fm_1514 : (Jvm.Cond.instanceMethod ({ cls := "SixDewModel", name := "skyOf", desc := "(I)I" } : Jvm.MethodName)) ∈ dw_Tb := fm_of fm_t7 (i := 6) rfl rfl
theorem fm_1515 : (Jvm.Cond.code ({ cls := "SixDewModel", name := "skyOf", desc := "(I)I" } : Jvm.MethodName) prog_14_method_29_code (7 : Nat) (Option.some Jvm.ClassFile.FieldType.int)) ∈ dw_Tb := fm_of fm_t7 (i := 7) rfl rfl
theorem fm_1516 : (Jvm.Cond.methodLink "SixDewLaw" (51 : Nat) ({ cls := "SixDewModel", name := "night", desc := "(I)I" } : Jvm.MethodName)) ∈ dw_Tb := fm_of fm_t7 (i := 8) rfl rfl
theorem fm_1517 : (Jvm.Cond.instanceMethod ({ cls := "SixDewModel", name := "night", desc := "(I)I" } : Jvm.MethodName)) ∈ dw_Tb := fm_of fm_t7 (i := 9) rfl rfl
theorem fm_1518 : (Jvm.Cond.selects "SixDewModel" ({ cls := "SixDewModel", name := "night", desc := "(I)I" } : Jvm.MethodName) ({ cls := "SixDewModel", name := "night", desc := "(I)I" } : Jvm.MethodName)) ∈ dw_Tb := fm_of fm_t7 (i := 10) rfl rfl
theorem fm_1519 : (Jvm.Cond.code ({ cls := "SixDewModel", name := "night", desc := "(I)I" } : Jvm.MethodName) prog_14_method_32_code (3 : Nat) (Option.some Jvm.ClassFile.FieldType.int)) ∈ dw_Tb := fm_of fm_t7 (i := 11) rfl rfl
theorem fm_1520 : (Jvm.Cond.methodLink "SixDewModel" (253 : Nat) ({ cls := "SixDewModel", name := "nightLine", desc := "()Z" } : Jvm.MethodName)) ∈ dw_Tb := fm_of fm_t7 (i := 12) rfl rfl
theorem fm_1522 : (Jvm.Cond.instanceMethod ({ cls := "SixDewModel", name := "nightLine", desc := "()Z" } : Jvm.MethodName)) ∈ dw_Tb := fm_of fm_t7 (i := 14) rfl rfl
theorem fm_1523 : (Jvm.Cond.code ({ cls := "SixDewModel", name := "nightLine", desc := "()Z" } : Jvm.MethodName) prog_14_method_31_code (3 : Nat) (Option.some Jvm.ClassFile.FieldType.boolean)) ∈ dw_Tb := fm_of fm_t7 (i := 15) rfl rfl
theorem fm_1524 : (Jvm.Cond.methodLink "SixDewLaw" (55 : Nat) ({ cls := "SixDewModel", name := "sky", desc := "(III)I" } : Jvm.MethodName)) ∈ dw_Tb := fm_of fm_t7 (i := 16) rfl rfl
theorem fm_1525 : (Jvm.Cond.instanceMethod ({ cls := "SixDewModel", name := "sky", desc := "(III)I" } : Jvm.MethodName)) ∈ dw_Tb := fm_of fm_t7 (i := 17) rfl rfl
theorem fm_1526 : (Jvm.Cond.selects "SixDewModel" ({ cls := "SixDewModel", name := "sky", desc := "(III)I" } : Jvm.MethodName) ({ cls := "SixDewModel", name := "sky", desc := "(III)I" } : Jvm.MethodName)) ∈ dw_Tb := fm_of fm_t7 (i := 18) rfl rfl
theorem fm_1527 : (Jvm.Cond.code ({ cls := "SixDewModel", name := "sky", desc := "(III)I" } : Jvm.MethodName) prog_14_method_36_code (4 : Nat) (Option.some Jvm.ClassFile.FieldType.int)) ∈ dw_Tb := fm_of fm_t7 (i := 19) rfl rfl
theorem fm_1528 : (Jvm.Cond.methodLink "SixDewModel" (256 : Nat) ({ cls := "SixDewModel", name := "isNight", desc := "(I)Z" } : Jvm.MethodName)) ∈ dw_Tb := fm_of fm_t7 (i := 20) rfl rfl
theorem fm_1530 : (Jvm.Cond.instanceMethod ({ cls := "SixDewModel", name := "isNight", desc := "(I)Z" } : Jvm.MethodName)) ∈ dw_Tb := fm_of fm_t7 (i := 22) rfl rfl
theorem fm_1531 : (Jvm.Cond.code ({ cls := "SixDewModel", name := "isNight", desc := "(I)Z" } : Jvm.MethodName) prog_14_method_33_code (2 : Nat) (Option.some Jvm.ClassFile.FieldType.boolean)) ∈ dw_Tb := fm_of fm_t7 (i := 23) rfl rfl
theorem fm_1532 : (Jvm.Cond.methodLink "SixDewModel" (259 : Nat) ({ cls := "SixDewModel", name := "nightAt", desc := "(I)I" } : Jvm.MethodName)) ∈ dw_Tb := fm_of fm_t7 (i := 24) rfl rfl
theorem fm_1534 : (Jvm.Cond.instanceMethod ({ cls := "SixDewModel", name := "nightAt", desc := "(I)I" } : Jvm.MethodName)) ∈ dw_Tb := fm_of fm_t7 (i := 26) rfl rfl
theorem fm_1535 : (Jvm.Cond.code ({ cls := "SixDewModel", name := "nightAt", desc := "(I)I" } : Jvm.MethodName) prog_14_method_34_code (2 : Nat) (Option.some Jvm.ClassFile.FieldType.int)) ∈ dw_Tb := fm_of fm_t7 (i := 27) rfl rfl
theorem fm_1536 : (Jvm.Cond.methodLink "SixDewModel" (262 : Nat) ({ cls := "SixDewModel", name := "sees", desc := "(I)V" } : Jvm.MethodName)) ∈ dw_Tb := fm_of fm_t7 (i := 28) rfl rfl
theorem fm_1538 : (Jvm.Cond.instanceMethod ({ cls := "SixDewModel", name := "sees", desc := "(I)V" } : Jvm.MethodName)) ∈ dw_Tb := fm_of fm_t7 (i := 30) rfl rfl
theorem fm_1539 : (Jvm.Cond.code ({ cls := "SixDewModel", name := "sees", desc := "(I)V" } : Jvm.MethodName) prog_14_method_35_code (10 : Nat) (Option.none : Option Jvm.ClassFile.FieldType)) ∈ dw_Tb := fm_of fm_t7 (i := 31) rfl rfl
theorem fm_1540 : (Jvm.Cond.methodLink "SixDewLaw" (59 : Nat) ({ cls := "SixDewModel", name := "begin", desc := "(I)Z" } : Jvm.MethodName)) ∈ dw_Tb := fm_of fm_t7 (i := 32) rfl rfl
theorem fm_1541 : (Jvm.Cond.instanceMethod ({ cls := "SixDewModel", name := "begin", desc := "(I)Z" } : Jvm.MethodName)) ∈ dw_Tb := fm_of fm_t7 (i := 33) rfl rfl
theorem fm_1542 : (Jvm.Cond.selects "SixDewModel" ({ cls := "SixDewModel", name := "begin", desc := "(I)Z" } : Jvm.MethodName) ({ cls := "SixDewModel", name := "begin", desc := "(I)Z" } : Jvm.MethodName)) ∈ dw_Tb := fm_of fm_t7 (i := 34) rfl rfl
theorem fm_1543 : (Jvm.Cond.code ({ cls := "SixDewModel", name := "begin", desc := "(I)Z" } : Jvm.MethodName) prog_14_method_42_code (3 : Nat) (Option.some Jvm.ClassFile.FieldType.boolean)) ∈ dw_Tb := fm_of fm_t7 (i := 35) rfl rfl
theorem fm_1544 : (Jvm.Cond.methodLink "SixDewModel" (290 : Nat) ({ cls := "SixDewModel", name := "start", desc := "(II)V" } : Jvm.MethodName)) ∈ dw_Tb := fm_of fm_t7 (i := 36) rfl rfl
theorem fm_1546 : (Jvm.Cond.instanceMethod ({ cls := "SixDewModel", name := "start", desc := "(II)V" } : Jvm.MethodName)) ∈ dw_Tb := fm_of fm_t7 (i := 38) rfl rfl
theorem fm_1547 : (Jvm.Cond.code ({ cls := "SixDewModel", name := "start", desc := "(II)V" } : Jvm.MethodName) prog_14_method_37_code (4 : Nat) (Option.none : Option Jvm.ClassFile.FieldType)) ∈ dw_Tb := fm_of fm_t7 (i := 39) rfl rfl
theorem fm_1548 : (Jvm.Cond.methodLink "SixDewModel" (277 : Nat) ({ cls := "SixDewModel", name := "cells", desc := "()I" } : Jvm.MethodName)) ∈ dw_Tb := fm_of fm_t7 (i := 40) rfl rfl
theorem fm_1550 : (Jvm.Cond.instanceMethod ({ cls := "SixDewModel", name := "cells", desc := "()I" } : Jvm.MethodName)) ∈ dw_Tb := fm_of fm_t7 (i := 42) rfl rfl
theorem fm_1551 : (Jvm.Cond.code ({ cls := "SixDewModel", name := "cells", desc := "()I" } : Jvm.MethodName) prog_14_method_26_code (1 : Nat) (Option.some Jvm.ClassFile.FieldType.int)) ∈ dw_Tb := fm_of fm_t7 (i := 43) rfl rfl
theorem fm_1552 : (Jvm.Cond.methodLink "SixDewLaw" (63 : Nat) ({ cls := "SixDewModel", name := "on", desc := "(I)I" } : Jvm.MethodName)) ∈ dw_Tb := fm_of fm_t7 (i := 44) rfl rfl
theorem fm_1553 : (Jvm.Cond.instanceMethod ({ cls := "SixDewModel", name := "on", desc := "(I)I" } : Jvm.MethodName)) ∈ dw_Tb := fm_of fm_t7 (i := 45) rfl rfl
theorem fm_1554 : (Jvm.Cond.selects "SixDewModel" ({ cls := "SixDewModel", name := "on", desc := "(I)I" } : Jvm.MethodName) ({ cls := "SixDewModel", name := "on", desc := "(I)I" } : Jvm.MethodName)) ∈ dw_Tb := fm_of fm_t7 (i := 46) rfl rfl
theorem fm_1555 : (Jvm.Cond.code ({ cls := "SixDewModel", name := "on", desc := "(I)I" } : Jvm.MethodName) prog_14_method_45_code (3 : Nat) (Option.some Jvm.ClassFile.FieldType.int)) ∈ dw_Tb := fm_of fm_t7 (i := 47) rfl rfl
theorem fm_1556 : (Jvm.Cond.methodLink "SixDewModel" (300 : Nat) ({ cls := "SixDewModel", name := "loads", desc := "()V" } : Jvm.MethodName)) ∈ dw_Tb := fm_of fm_t7 (i := 48) rfl rfl
theorem fm_1558 : (Jvm.Cond.instanceMethod ({ cls := "SixDewModel", name := "loads", desc := "()V" } : Jvm.MethodName)) ∈ dw_Tb := fm_of fm_t7 (i := 50) rfl rfl
theorem fm_1559 : (Jvm.Cond.code ({ cls := "SixDewModel", name := "loads", desc := "()V" } : Jvm.MethodName) prog_14_method_43_code (2 : Nat) (Option.none : Option Jvm.ClassFile.FieldType)) ∈ dw_Tb := fm_of fm_t7 (i := 51) rfl rfl
theorem fm_1560 : (Jvm.Cond.methodLink "SixDewModel" (294 : Nat) ({ cls := "SixDewModel", name := "step", desc := "(I)V" } : Jvm.MethodName)) ∈ dw_Tb := fm_of fm_t7 (i := 52) rfl rfl
theorem fm_1562 : (Jvm.Cond.instanceMethod ({ cls := "SixDewModel", name := "step", desc := "(I)V" } : Jvm.MethodName)) ∈ dw_Tb := fm_of fm_t7 (i := 54) rfl rfl
theorem fm_1563 : (Jvm.Cond.code ({ cls := "SixDewModel", name := "step", desc := "(I)V" } : Jvm.MethodName) prog_14_method_38_code (7 : Nat) (Option.none : Option Jvm.ClassFile.FieldType)) ∈ dw_Tb := fm_of fm_t7 (i := 55) rfl rfl
theorem fm_1564 : (Jvm.Cond.methodLink "SixDewModel" (286 : Nat) ({ cls := "SixDewModel", name := "wets", desc := "(IIII)V" } : Jvm.MethodName)) ∈ dw_Tb := fm_of fm_t7 (i := 56) rfl rfl
theorem fm_1566 : (Jvm.Cond.instanceMethod ({ cls := "SixDewModel", name := "wets", desc := "(IIII)V" } : Jvm.MethodName)) ∈ dw_Tb := fm_of fm_t7 (i := 58) rfl rfl
theorem fm_1567 : (Jvm.Cond.code ({ cls := "SixDewModel", name := "wets", desc := "(IIII)V" } : Jvm.MethodName) prog_14_method_39_code (6 : Nat) (Option.none : Option Jvm.ClassFile.FieldType)) ∈ dw_Tb := fm_of fm_t7 (i := 59) rfl rfl
theorem fm_1568 : (Jvm.Cond.methodLink "SixDewModel" (303 : Nat) ({ cls := "SixDewModel", name := "keeps", desc := "()V" } : Jvm.MethodName)) ∈ dw_Tb := fm_of fm_t7 (i := 60) rfl rfl
theorem fm_1570 : (Jvm.Cond.instanceMethod ({ cls := "SixDewModel", name := "keeps", desc := "()V" } : Jvm.MethodName)) ∈ dw_Tb := fm_of fm_t7 (i := 62) rfl rfl
theorem fm_1571 : (Jvm.Cond.code ({ cls := "SixDewModel", name := "keeps", desc := "()V" } : Jvm.MethodName) prog_14_method_44_code (2 : Nat) (Option.none : Option Jvm.ClassFile.FieldType)) ∈ dw_Tb := fm_of fm_t7 (i := 63) rfl rfl
theorem fm_1572 : (Jvm.Cond.methodLink "SixDewLaw" (66 : Nat) ({ cls := "SixDewModel", name := "is", desc := "(III)I" } : Jvm.MethodName)) ∈ dw_Tb := fm_of fm_t7 (i := 64) rfl rfl
theorem fm_1573 : (Jvm.Cond.instanceMethod ({ cls := "SixDewModel", name := "is", desc := "(III)I" } : Jvm.MethodName)) ∈ dw_Tb := fm_of fm_t7 (i := 65) rfl rfl
theorem fm_1574 : (Jvm.Cond.selects "SixDewModel" ({ cls := "SixDewModel", name := "is", desc := "(III)I" } : Jvm.MethodName) ({ cls := "SixDewModel", name := "is", desc := "(III)I" } : Jvm.MethodName)) ∈ dw_Tb := fm_of fm_t7 (i := 66) rfl rfl
theorem fm_1575 : (Jvm.Cond.code ({ cls := "SixDewModel", name := "is", desc := "(III)I" } : Jvm.MethodName) prog_14_method_46_code (4 : Nat) (Option.some Jvm.ClassFile.FieldType.int)) ∈ dw_Tb := fm_of fm_t7 (i := 67) rfl rfl
theorem fm_1576 : (Jvm.Cond.methodLink "SixDewLaw" (70 : Nat) ({ cls := "SixDewModel", name := "now", desc := "(I)I" } : Jvm.MethodName)) ∈ dw_Tb := fm_of fm_t7 (i := 68) rfl rfl
theorem fm_1577 : (Jvm.Cond.instanceMethod ({ cls := "SixDewModel", name := "now", desc := "(I)I" } : Jvm.MethodName)) ∈ dw_Tb := fm_of fm_t7 (i := 69) rfl rfl
theorem fm_1578 : (Jvm.Cond.selects "SixDewModel" ({ cls := "SixDewModel", name := "now", desc := "(I)I" } : Jvm.MethodName) ({ cls := "SixDewModel", name := "now", desc := "(I)I" } : Jvm.MethodName)) ∈ dw_Tb := fm_of fm_t7 (i := 70) rfl rfl
theorem fm_1579 : (Jvm.Cond.code ({ cls := "SixDewModel", name := "now", desc := "(I)I" } : Jvm.MethodName) prog_14_method_47_code (5 : Nat) (Option.some Jvm.ClassFile.FieldType.int)) ∈ dw_Tb := fm_of fm_t7 (i := 71) rfl rfl
theorem fm_1580 : (Jvm.Cond.methodLink "SixDewLaw" (74 : Nat) ({ cls := "SixDewModel", name := "plan", desc := "()I" } : Jvm.MethodName)) ∈ dw_Tb := fm_of fm_t7 (i := 72) rfl rfl
theorem fm_1581 : (Jvm.Cond.instanceMethod ({ cls := "SixDewModel", name := "plan", desc := "()I" } : Jvm.MethodName)) ∈ dw_Tb := fm_of fm_t7 (i := 73) rfl rfl
theorem fm_1582 : (Jvm.Cond.selects "SixDewModel" ({ cls := "SixDewModel", name := "plan", desc := "()I" } : Jvm.MethodName) ({ cls := "SixDewModel", name := "plan", desc := "()I" } : Jvm.MethodName)) ∈ dw_Tb := fm_of fm_t7 (i := 74) rfl rfl
theorem fm_1583 : (Jvm.Cond.code ({ cls := "SixDewModel", name := "plan", desc := "()I" } : Jvm.MethodName) prog_14_method_49_code (2 : Nat) (Option.some Jvm.ClassFile.FieldType.int)) ∈ dw_Tb := fm_of fm_t7 (i := 75) rfl rfl
theorem fm_1584 : (Jvm.Cond.methodLink "SixDewModel" (306 : Nat) ({ cls := "SixDewModel", name := "planLine", desc := "()Z" } : Jvm.MethodName)) ∈ dw_Tb := fm_of fm_t7 (i := 76) rfl rfl
theorem fm_1586 : (Jvm.Cond.instanceMethod ({ cls := "SixDewModel", name := "planLine", desc := "()Z" } : Jvm.MethodName)) ∈ dw_Tb := fm_of fm_t7 (i := 78) rfl rfl
theorem fm_1587 : (Jvm.Cond.code ({ cls := "SixDewModel", name := "planLine", desc := "()Z" } : Jvm.MethodName) prog_14_method_48_code (3 : Nat) (Option.some Jvm.ClassFile.FieldType.boolean)) ∈ dw_Tb := fm_of fm_t7 (i := 79) rfl rfl
theorem fm_1588 : (Jvm.Cond.methodLink "SixDewLaw" (78 : Nat) ({ cls := "SixDewModel", name := "go", desc := "(I)I" } : Jvm.MethodName)) ∈ dw_Tb := fm_of fm_t7 (i := 80) rfl rfl
theorem fm_1589 : (Jvm.Cond.instanceMethod ({ cls := "SixDewModel", name := "go", desc := "(I)I" } : Jvm.MethodName)) ∈ dw_Tb := fm_of fm_t7 (i := 81) rfl rfl
theorem fm_1590 : (Jvm.Cond.selects "SixDewModel" ({ cls := "SixDewModel", name := "go", desc := "(I)I" } : Jvm.MethodName) ({ cls := "SixDewModel", name := "go", desc := "(I)I" } : Jvm.MethodName)) ∈ dw_Tb := fm_of fm_t7 (i := 82) rfl rfl
theorem fm_1591 : (Jvm.Cond.code ({ cls := "SixDewModel", name := "go", desc := "(I)I" } : Jvm.MethodName) prog_14_method_51_code (4 : Nat) (Option.some Jvm.ClassFile.FieldType.int)) ∈ dw_Tb := fm_of fm_t7 (i := 83) rfl rfl
theorem fm_1592 : (Jvm.Cond.methodLink "SixDewModel" (309 : Nat) ({ cls := "SixDewModel", name := "does", desc := "(II)I" } : Jvm.MethodName)) ∈ dw_Tb := fm_of fm_t7 (i := 84) rfl rfl
theorem fm_1594 : (Jvm.Cond.instanceMethod ({ cls := "SixDewModel", name := "does", desc := "(II)I" } : Jvm.MethodName)) ∈ dw_Tb := fm_of fm_t7 (i := 86) rfl rfl
theorem fm_1595 : (Jvm.Cond.code ({ cls := "SixDewModel", name := "does", desc := "(II)I" } : Jvm.MethodName) prog_14_method_50_code (4 : Nat) (Option.some Jvm.ClassFile.FieldType.int)) ∈ dw_Tb := fm_of fm_t7 (i := 87) rfl rfl
theorem fm_1596 : (Jvm.Cond.methodLink "SixDewLaw" (82 : Nat) ({ cls := "SixDewModel", name := "went", desc := "(I)I" } : Jvm.MethodName)) ∈ dw_Tb := fm_of fm_t7 (i := 88) rfl rfl
theorem fm_1597 : (Jvm.Cond.instanceMethod ({ cls := "SixDewModel", name := "went", desc := "(I)I" } : Jvm.MethodName)) ∈ dw_Tb := fm_of fm_t7 (i := 89) rfl rfl
theorem fm_1598 : (Jvm.Cond.selects "SixDewModel" ({ cls := "SixDewModel", name := "went", desc := "(I)I" } : Jvm.MethodName) ({ cls := "SixDewModel", name := "went", desc := "(I)I" } : Jvm.MethodName)) ∈ dw_Tb := fm_of fm_t7 (i := 90) rfl rfl
theorem fm_1599 : (Jvm.Cond.code ({ cls := "SixDewModel", name := "went", desc := "(I)I" } : Jvm.MethodName) prog_14_method_52_code (2 : Nat) (Option.some Jvm.ClassFile.FieldType.int)) ∈ dw_Tb := fm_of fm_t7 (i := 91) rfl rfl
theorem fm_1600 : (Jvm.Cond.methodLink "SixDewLaw" (87 : Nat) ({ cls := "SixDewModel", name := "much", desc := "(IIII)I" } : Jvm.MethodName)) ∈ dw_Tb := fm_of fm_t7 (i := 92) rfl rfl
theorem fm_1601 : (Jvm.Cond.instanceMethod ({ cls := "SixDewModel", name := "much", desc := "(IIII)I" } : Jvm.MethodName)) ∈ dw_Tb := fm_of fm_t7 (i := 93) rfl rfl
theorem fm_1602 : (Jvm.Cond.selects "SixDewModel" ({ cls := "SixDewModel", name := "much", desc := "(IIII)I" } : Jvm.MethodName) ({ cls := "SixDewModel", name := "much", desc := "(IIII)I" } : Jvm.MethodName)) ∈ dw_Tb := fm_of fm_t7 (i := 94) rfl rfl
theorem fm_1603 : (Jvm.Cond.code ({ cls := "SixDewModel", name := "much", desc := "(IIII)I" } : Jvm.MethodName) prog_14_method_53_code (5 : Nat) (Option.some Jvm.ClassFile.FieldType.int)) ∈ dw_Tb := fm_of fm_t7 (i := 95) rfl rfl
theorem fm_1604 : (Jvm.Cond.methodLink "SixDewModel" (315 : Nat) ({ cls := "SixDewModel", name := "isStep", desc := "(I)Z" } : Jvm.MethodName)) ∈ dw_Tb := fm_of fm_t7 (i := 96) rfl rfl
theorem fm_1605 : (Jvm.Cond.static ({ cls := "SixDewModel", name := "isStep", desc := "(I)Z" } : Jvm.MethodName)) ∈ dw_Tb := fm_of fm_t7 (i := 97) rfl rfl
theorem fm_1606 : (Jvm.Cond.code ({ cls := "SixDewModel", name := "isStep", desc := "(I)Z" } : Jvm.MethodName) prog_14_method_41_code (1 : Nat) (Option.some Jvm.ClassFile.FieldType.boolean)) ∈ dw_Tb := fm_of fm_t7 (i := 98) rfl rfl
theorem fm_1607 : (Jvm.Cond.methodLink "SixDewModel" (318 : Nat) ({ cls := "SixDewModel", name := "through", desc := "(III)V" } : Jvm.MethodName)) ∈ dw_Tb := fm_of fm_t7 (i := 99) rfl rfl
theorem fm_1609 : (Jvm.Cond.instanceMethod ({ cls := "SixDewModel", name := "through", desc := "(III)V" } : Jvm.MethodName)) ∈ dw_Tb := fm_of fm_t7 (i := 101) rfl rfl
theorem fm_1610 : (Jvm.Cond.code ({ cls := "SixDewModel", name := "through", desc := "(III)V" } : Jvm.MethodName) prog_14_method_40_code (5 : Nat) (Option.none : Option Jvm.ClassFile.FieldType)) ∈ dw_Tb := fm_of fm_t7 (i := 102) rfl rfl
theorem fm_1611 : (Jvm.Cond.methodLink "SixDewLaw" (91 : Nat) ({ cls := "SixDewModel", name := "where", desc := "(III)I" } : Jvm.MethodName)) ∈ dw_Tb := fm_of fm_t7 (i := 103) rfl rfl
theorem fm_1612 : (Jvm.Cond.instanceMethod ({ cls := "SixDewModel", name := "where", desc := "(III)I" } : Jvm.MethodName)) ∈ dw_Tb := fm_of fm_t7 (i := 104) rfl rfl
theorem fm_1613 : (Jvm.Cond.selects "SixDewModel" ({ cls := "SixDewModel", name := "where", desc := "(III)I" } : Jvm.MethodName) ({ cls := "SixDewModel", name := "where", desc := "(III)I" } : Jvm.MethodName)) ∈ dw_Tb := fm_of fm_t7 (i := 105) rfl rfl
theorem fm_1614 : (Jvm.Cond.code ({ cls := "SixDewModel", name := "where", desc := "(III)I" } : Jvm.MethodName) prog_14_method_54_code (6 : Nat) (Option.some Jvm.ClassFile.FieldType.int)) ∈ dw_Tb := fm_of fm_t7 (i := 106) rfl rfl
theorem fm_1615 : (Jvm.Cond.methodLink "SixDewLaw" (95 : Nat) ({ cls := "SixDewModel", name := "begins", desc := "(III)I" } : Jvm.MethodName)) ∈ dw_Tb := fm_of fm_t7 (i := 107) rfl rfl
theorem fm_1616 : (Jvm.Cond.instanceMethod ({ cls := "SixDewModel", name := "begins", desc := "(III)I" } : Jvm.MethodName)) ∈ dw_Tb := fm_of fm_t7 (i := 108) rfl rfl
theorem fm_1617 : (Jvm.Cond.selects "SixDewModel" ({ cls := "SixDewModel", name := "begins", desc := "(III)I" } : Jvm.MethodName) ({ cls := "SixDewModel", name := "begins", desc := "(III)I" } : Jvm.MethodName)) ∈ dw_Tb := fm_of fm_t7 (i := 109) rfl rfl
theorem fm_1618 : (Jvm.Cond.code ({ cls := "SixDewModel", name := "begins", desc := "(III)I" } : Jvm.MethodName) prog_14_method_57_code (5 : Nat) (Option.some Jvm.ClassFile.FieldType.int)) ∈ dw_Tb := fm_of fm_t7 (i := 110) rfl rfl
theorem fm_1619 : (Jvm.Cond.methodLink "SixDewModel" (325 : Nat) ({ cls := "SixDewModel", name := "asks", desc := "(III)Z" } : Jvm.MethodName)) ∈ dw_Tb := fm_of fm_t7 (i := 111) rfl rfl
theorem fm_1621 : (Jvm.Cond.instanceMethod ({ cls := "SixDewModel", name := "asks", desc := "(III)Z" } : Jvm.MethodName)) ∈ dw_Tb := fm_of fm_t7 (i := 113) rfl rfl
theorem fm_1622 : (Jvm.Cond.code ({ cls := "SixDewModel", name := "asks", desc := "(III)Z" } : Jvm.MethodName) prog_14_method_56_code (4 : Nat) (Option.some Jvm.ClassFile.FieldType.boolean)) ∈ dw_Tb := fm_of fm_t7 (i := 114) rfl rfl
theorem fm_1623 : (Jvm.Cond.methodLink "SixDewModel" (322 : Nat) ({ cls := "SixDewModel", name := "timesOf", desc := "(III)V" } : Jvm.MethodName)) ∈ dw_Tb := fm_of fm_t7 (i := 115) rfl rfl
theorem fm_1625 : (Jvm.Cond.instanceMethod ({ cls := "SixDewModel", name := "timesOf", desc := "(III)V" } : Jvm.MethodName)) ∈ dw_Tb := fm_of fm_t7 (i := 117) rfl rfl
theorem fm_1626 : (Jvm.Cond.code ({ cls := "SixDewModel", name := "timesOf", desc := "(III)V" } : Jvm.MethodName) prog_14_method_55_code (5 : Nat) (Option.none : Option Jvm.ClassFile.FieldType)) ∈ dw_Tb := fm_of fm_t7 (i := 118) rfl rfl
theorem fm_1627 : (Jvm.Cond.methodLink "SixDewLaw" (99 : Nat) ({ cls := "SixDewModel", name := "gone", desc := "(III)I" } : Jvm.MethodName)) ∈ dw_Tb := fm_of fm_t7 (i := 119) rfl rfl
theorem fm_1628 : (Jvm.Cond.instanceMethod ({ cls := "SixDewModel", name := "gone", desc := "(III)I" } : Jvm.MethodName)) ∈ dw_Tb := fm_of fm_t7 (i := 120) rfl rfl
theorem fm_1629 : (Jvm.Cond.selects "SixDewModel" ({ cls := "SixDewModel", name := "gone", desc := "(III)I" } : Jvm.MethodName) ({ cls := "SixDewModel", name := "gone", desc := "(III)I" } : Jvm.MethodName)) ∈ dw_Tb := fm_of fm_t7 (i := 121) rfl rfl
theorem fm_1630 : (Jvm.Cond.code ({ cls := "SixDewModel", name := "gone", desc := "(III)I" } : Jvm.MethodName) prog_14_method_58_code (5 : Nat) (Option.some Jvm.ClassFile.FieldType.int)) ∈ dw_Tb := fm_of fm_t7 (i := 122) rfl rfl
theorem fm_1631 : (Jvm.Cond.methodLink "SixDewLaw" (103 : Nat) ({ cls := "SixDewModel", name := "wet", desc := "(III)I" } : Jvm.MethodName)) ∈ dw_Tb := fm_of fm_t7 (i := 123) rfl rfl
theorem fm_1632 : (Jvm.Cond.instanceMethod ({ cls := "SixDewModel", name := "wet", desc := "(III)I" } : Jvm.MethodName)) ∈ dw_Tb := fm_of fm_t7 (i := 124) rfl rfl
theorem fm_1633 : (Jvm.Cond.selects "SixDewModel" ({ cls := "SixDewModel", name := "wet", desc := "(III)I" } : Jvm.MethodName) ({ cls := "SixDewModel", name := "wet", desc := "(III)I" } : Jvm.MethodName)) ∈ dw_Tb := fm_of fm_t7 (i := 125) rfl rfl
theorem fm_1634 : (Jvm.Cond.code ({ cls := "SixDewModel", name := "wet", desc := "(III)I" } : Jvm.MethodName) prog_14_method_59_code (6 : Nat) (Option.some Jvm.ClassFile.FieldType.int)) ∈ dw_Tb := fm_of fm_t7 (i := 126) rfl rfl
theorem fm_1635 : (Jvm.Cond.methodLink "SixDewLaw" (107 : Nat) ({ cls := "SixDewModel", name := "spell", desc := "(III)I" } : Jvm.MethodName)) ∈ dw_Tb := fm_of fm_t7 (i := 127) rfl rfl
theorem fm_1636 : (Jvm.Cond.instanceMethod ({ cls := "SixDewModel", name := "spell", desc := "(III)I" } : Jvm.MethodName)) ∈ dw_Tb := fm_of fm_t7 (i := 128) rfl rfl
theorem fm_1637 : (Jvm.Cond.selects "SixDewModel" ({ cls := "SixDewModel", name := "spell", desc := "(III)I" } : Jvm.MethodName) ({ cls := "SixDewModel", name := "spell", desc := "(III)I" } : Jvm.MethodName)) ∈ dw_Tb := fm_of fm_t7 (i := 129) rfl rfl
theorem fm_1638 : (Jvm.Cond.code ({ cls := "SixDewModel", name := "spell", desc := "(III)I" } : Jvm.MethodName) prog_14_method_60_code (7 : Nat) (Option.some Jvm.ClassFile.FieldType.int)) ∈ dw_Tb := fm_of fm_t7 (i := 130) rfl rfl
theorem fm_1639 : (Jvm.Cond.methodLink "SixDewLaw" (112 : Nat) ({ cls := "SixDewModel", name := "sick", desc := "(II)I" } : Jvm.MethodName)) ∈ dw_Tb := fm_of fm_t7 (i := 131) rfl rfl
theorem fm_1640 : (Jvm.Cond.instanceMethod ({ cls := "SixDewModel", name := "sick", desc := "(II)I" } : Jvm.MethodName)) ∈ dw_Tb := fm_of fm_t7 (i := 132) rfl rfl
theorem fm_1641 : (Jvm.Cond.selects "SixDewModel" ({ cls := "SixDewModel", name := "sick", desc := "(II)I" } : Jvm.MethodName) ({ cls := "SixDewModel", name := "sick", desc := "(II)I" } : Jvm.MethodName)) ∈ dw_Tb := fm_of fm_t7 (i := 133) rfl rfl
theorem fm_1642 : (Jvm.Cond.code ({ cls := "SixDewModel", name := "sick", desc := "(II)I" } : Jvm.MethodName) prog_14_method_61_code (5 : Nat) (Option.some Jvm.ClassFile.FieldType.int)) ∈ dw_Tb := fm_of fm_t7 (i := 134) rfl rfl
theorem fm_1643 : (Jvm.Cond.methodLink "SixDewLaw" (116 : Nat) ({ cls := "SixDewModel", name := "frost", desc := "(III)I" } : Jvm.MethodName)) ∈ dw_Tb := fm_of fm_t7 (i := 135) rfl rfl
theorem fm_1644 : (Jvm.Cond.instanceMethod ({ cls := "SixDewModel", name := "frost", desc := "(III)I" } : Jvm.MethodName)) ∈ dw_Tb := fm_of fm_t7 (i := 136) rfl rfl
theorem fm_1645 : (Jvm.Cond.selects "SixDewModel" ({ cls := "SixDewModel", name := "frost", desc := "(III)I" } : Jvm.MethodName) ({ cls := "SixDewModel", name := "frost", desc := "(III)I" } : Jvm.MethodName)) ∈ dw_Tb := fm_of fm_t7 (i := 137) rfl rfl
theorem fm_1646 : (Jvm.Cond.code ({ cls := "SixDewModel", name := "frost", desc := "(III)I" } : Jvm.MethodName) prog_14_method_62_code (6 : Nat) (Option.some Jvm.ClassFile.FieldType.int)) ∈ dw_Tb := fm_of fm_t7 (i := 138) rfl rfl
theorem fm_1647 : (Jvm.Cond.methodLink "SixDewLaw" (120 : Nat) ({ cls := "SixDewModel", name := "slugs", desc := "(IIII)I" } : Jvm.MethodName)) ∈ dw_Tb := fm_of fm_t7 (i := 139) rfl rfl
theorem fm_1648 : (Jvm.Cond.instanceMethod ({ cls := "SixDewModel", name := "slugs", desc := "(IIII)I" } : Jvm.MethodName)) ∈ dw_Tb := fm_of fm_t7 (i := 140) rfl rfl
theorem fm_1649 : (Jvm.Cond.selects "SixDewModel" ({ cls := "SixDewModel", name := "slugs", desc := "(IIII)I" } : Jvm.MethodName) ({ cls := "SixDewModel", name := "slugs", desc := "(IIII)I" } : Jvm.MethodName)) ∈ dw_Tb := fm_of fm_t7 (i := 141) rfl rfl
theorem fm_1650 : (Jvm.Cond.code ({ cls := "SixDewModel", name := "slugs", desc := "(IIII)I" } : Jvm.MethodName) prog_14_method_64_code (11 : Nat) (Option.some Jvm.ClassFile.FieldType.int)) ∈ dw_Tb := fm_of fm_t7 (i := 142) rfl rfl
theorem fm_1651 : (Jvm.Cond.methodLink "SixDewModel" (328 : Nat) ({ cls := "SixDewModel", name := "beside", desc := "(II)I" } : Jvm.MethodName)) ∈ dw_Tb := fm_of fm_t7 (i := 143) rfl rfl
theorem fm_1653 : (Jvm.Cond.instanceMethod ({ cls := "SixDewModel", name := "beside", desc := "(II)I" } : Jvm.MethodName)) ∈ dw_Tb := fm_of fm_t7 (i := 145) rfl rfl
theorem fm_1654 : (Jvm.Cond.code ({ cls := "SixDewModel", name := "beside", desc := "(II)I" } : Jvm.MethodName) prog_14_method_63_code (5 : Nat) (Option.some Jvm.ClassFile.FieldType.int)) ∈ dw_Tb := fm_of fm_t7 (i := 146) rfl rfl
theorem fm_1655 : (Jvm.Cond.methodLink "SixDewLaw" (124 : Nat) ({ cls := "SixDewModel", name := "walk", desc := "(IIII)I" } : Jvm.MethodName)) ∈ dw_Tb := fm_of fm_t7 (i := 147) rfl rfl
theorem fm_1656 : (Jvm.Cond.instanceMethod ({ cls := "SixDewModel", name := "walk", desc := "(IIII)I" } : Jvm.MethodName)) ∈ dw_Tb := fm_of fm_t7 (i := 148) rfl rfl
theorem fm_1657 : (Jvm.Cond.selects "SixDewModel" ({ cls := "SixDewModel", name := "walk", desc := "(IIII)I" } : Jvm.MethodName) ({ cls := "SixDewModel", name := "walk", desc := "(IIII)I" } : Jvm.MethodName)) ∈ dw_Tb := fm_of fm_t7 (i := 149) rfl rfl
theorem fm_1658 : (Jvm.Cond.code ({ cls := "SixDewModel", name := "walk", desc := "(IIII)I" } : Jvm.MethodName) prog_14_method_65_code (9 : Nat) (Option.some Jvm.ClassFile.FieldType.int)) ∈ dw_Tb := fm_of fm_t7 (i := 150) rfl rfl
theorem fm_1659 : (Jvm.Cond.constant "SixDewModel" (331 : Nat) (1000000000 : Int32)) ∈ dw_Tb := fm_of fm_t7 (i := 151) rfl rfl
theorem fm_1660 : (Jvm.Cond.methodLink "SixDewLaw" (128 : Nat) ({ cls := "SixDewModel", name := "unlike", desc := "(II)I" } : Jvm.MethodName)) ∈ dw_Tb := fm_of fm_t7 (i := 152) rfl rfl
theorem fm_1661 : (Jvm.Cond.instanceMethod ({ cls := "SixDewModel", name := "unlike", desc := "(II)I" } : Jvm.MethodName)) ∈ dw_Tb := fm_of fm_t7 (i := 153) rfl rfl
theorem fm_1662 : (Jvm.Cond.selects "SixDewModel" ({ cls := "SixDewModel", name := "unlike", desc := "(II)I" } : Jvm.MethodName) ({ cls := "SixDewModel", name := "unlike", desc := "(II)I" } : Jvm.MethodName)) ∈ dw_Tb := fm_of fm_t7 (i := 154) rfl rfl
theorem fm_1663 : (Jvm.Cond.code ({ cls := "SixDewModel", name := "unlike", desc := "(II)I" } : Jvm.MethodName) prog_14_method_66_code (5 : Nat) (Option.some Jvm.ClassFile.FieldType.int)) ∈ dw_Tb := fm_of fm_t7 (i := 155) rfl rfl
theorem fm_1664 : (Jvm.Cond.methodLink "SixDewLaw" (132 : Nat) ({ cls := "SixDewModel", name := "bench", desc := "(II)I" } : Jvm.MethodName)) ∈ dw_Tb := fm_of fm_t7 (i := 156) rfl rfl
theorem fm_1665 : (Jvm.Cond.instanceMethod ({ cls := "SixDewModel", name := "bench", desc := "(II)I" } : Jvm.MethodName)) ∈ dw_Tb := fm_of fm_t7 (i := 157) rfl rfl
theorem fm_1666 : (Jvm.Cond.selects "SixDewModel" ({ cls := "SixDewModel", name := "bench", desc := "(II)I" } : Jvm.MethodName) ({ cls := "SixDewModel", name := "bench", desc := "(II)I" } : Jvm.MethodName)) ∈ dw_Tb := fm_of fm_t7 (i := 158) rfl rfl
theorem fm_1667 : (Jvm.Cond.code ({ cls := "SixDewModel", name := "bench", desc := "(II)I" } : Jvm.MethodName) prog_14_method_68_code (4 : Nat) (Option.some Jvm.ClassFile.FieldType.int)) ∈ dw_Tb := fm_of fm_t7 (i := 159) rfl rfl
theorem fm_1668 : (Jvm.Cond.methodLink "SixDewModel" (332 : Nat) ({ cls := "SixDewModel", name := "isDry", desc := "(III)Z" } : Jvm.MethodName)) ∈ dw_Tb := fm_of fm_t7 (i := 160) rfl rfl
theorem fm_1670 : (Jvm.Cond.instanceMethod ({ cls := "SixDewModel", name := "isDry", desc := "(III)Z" } : Jvm.MethodName)) ∈ dw_Tb := fm_of fm_t7 (i := 162) rfl rfl
theorem fm_1671 : (Jvm.Cond.code ({ cls := "SixDewModel", name := "isDry", desc := "(III)Z" } : Jvm.MethodName) prog_14_method_67_code (5 : Nat) (Option.some Jvm.ClassFile.FieldType.boolean)) ∈ dw_Tb := fm_of fm_t7 (i := 163) rfl rfl
theorem fm_1672 : (Jvm.Cond.methodLink "SixDewLaw" (152 : Nat) ({ cls := "SixDewModel", name := "roof", desc := "(III)I" } : Jvm.MethodName)) ∈ dw_Tb := fm_of fm_t7 (i := 164) rfl rfl
theorem fm_1673 : (Jvm.Cond.instanceMethod ({ cls := "SixDewModel", name := "roof", desc := "(III)I" } : Jvm.MethodName)) ∈ dw_Tb := fm_of fm_t7 (i := 165) rfl rfl
theorem fm_1674 : (Jvm.Cond.selects "SixDewModel" ({ cls := "SixDewModel", name := "roof", desc := "(III)I" } : Jvm.MethodName) ({ cls := "SixDewModel", name := "roof", desc := "(III)I" } : Jvm.MethodName)) ∈ dw_Tb := fm_of fm_t7 (i := 166) rfl rfl
theorem fm_1675 : (Jvm.Cond.code ({ cls := "SixDewModel", name := "roof", desc := "(III)I" } : Jvm.MethodName) prog_14_method_69_code (5 : Nat) (Option.some Jvm.ClassFile.FieldType.int)) ∈ dw_Tb := fm_of fm_t7 (i := 167) rfl rfl
theorem fm_1676 : (Jvm.Cond.methodLink "SixDewLaw" (136 : Nat) ({ cls := "SixDewModel", name := "lawn", desc := "()I" } : Jvm.MethodName)) ∈ dw_Tb := fm_of fm_t7 (i := 168) rfl rfl
theorem fm_1677 : (Jvm.Cond.instanceMethod ({ cls := "SixDewModel", name := "lawn", desc := "()I" } : Jvm.MethodName)) ∈ dw_Tb := fm_of fm_t7 (i := 169) rfl rfl
theorem fm_1678 : (Jvm.Cond.selects "SixDewModel" ({ cls := "SixDewModel", name := "lawn", desc := "()I" } : Jvm.MethodName) ({ cls := "SixDewModel", name := "lawn", desc := "()I" } : Jvm.MethodName)) ∈ dw_Tb := fm_of fm_t7 (i := 170) rfl rfl
theorem fm_1679 : (Jvm.Cond.code ({ cls := "SixDewModel", name := "lawn", desc := "()I" } : Jvm.MethodName) prog_14_method_72_code (3 : Nat) (Option.some Jvm.ClassFile.FieldType.int)) ∈ dw_Tb := fm_of fm_t7 (i := 171) rfl rfl
theorem fm_1680 : (Jvm.Cond.methodLink "SixDewModel" (335 : Nat) ({ cls := "SixDewModel", name := "takesLawn", desc := "()Z" } : Jvm.MethodName)) ∈ dw_Tb := fm_of fm_t7 (i := 172) rfl rfl
theorem fm_1682 : (Jvm.Cond.instanceMethod ({ cls := "SixDewModel", name := "takesLawn", desc := "()Z" } : Jvm.MethodName)) ∈ dw_Tb := fm_of fm_t7 (i := 174) rfl rfl
theorem fm_1683 : (Jvm.Cond.code ({ cls := "SixDewModel", name := "takesLawn", desc := "()Z" } : Jvm.MethodName) prog_14_method_70_code (2 : Nat) (Option.some Jvm.ClassFile.FieldType.boolean)) ∈ dw_Tb := fm_of fm_t7 (i := 175) rfl rfl
theorem fm_1684 : (Jvm.Cond.methodLink "SixDewModel" (338 : Nat) ({ cls := "SixDewModel", name := "isLawn", desc := "()Z" } : Jvm.MethodName)) ∈ dw_Tb := fm_of fm_t7 (i := 176) rfl rfl
theorem fm_1686 : (Jvm.Cond.instanceMethod ({ cls := "SixDewModel", name := "isLawn", desc := "()Z" } : Jvm.MethodName)) ∈ dw_Tb := fm_of fm_t7 (i := 178) rfl rfl
theorem fm_1687 : (Jvm.Cond.code ({ cls := "SixDewModel", name := "isLawn", desc := "()Z" } : Jvm.MethodName) prog_14_method_71_code (2 : Nat) (Option.some Jvm.ClassFile.FieldType.boolean)) ∈ dw_Tb := fm_of fm_t7 (i := 179) rfl rfl
theorem fm_1688 : (Jvm.Cond.methodLink "SixDewLaw" (140 : Nat) ({ cls := "SixDewModel", name := "clouded", desc := "(I)I" } : Jvm.MethodName)) ∈ dw_Tb := fm_of fm_t7 (i := 180) rfl rfl
theorem fm_1689 : (Jvm.Cond.instanceMethod ({ cls := "SixDewModel", name := "clouded", desc := "(I)I" } : Jvm.MethodName)) ∈ dw_Tb := fm_of fm_t7 (i := 181) rfl rfl
theorem fm_1690 : (Jvm.Cond.selects "SixDewModel" ({ cls := "SixDewModel", name := "clouded", desc := "(I)I" } : Jvm.MethodName) ({ cls := "SixDewModel", name := "clouded", desc := "(I)I" } : Jvm.MethodName)) ∈ dw_Tb := fm_of fm_t7 (i := 182) rfl rfl
theorem fm_1691 : (Jvm.Cond.code ({ cls := "SixDewModel", name := "clouded", desc := "(I)I" } : Jvm.MethodName) prog_14_method_74_code (5 : Nat) (Option.some Jvm.ClassFile.FieldType.int)) ∈ dw_Tb := fm_of fm_t7 (i := 183) rfl rfl
theorem fm_1692 : (Jvm.Cond.methodLink "SixDewModel" (341 : Nat) ({ cls := "SixDewModel", name := "clouds", desc := "(I)V" } : Jvm.MethodName)) ∈ dw_Tb := fm_of fm_t7 (i := 184) rfl rfl
theorem fm_1694 : (Jvm.Cond.instanceMethod ({ cls := "SixDewModel", name := "clouds", desc := "(I)V" } : Jvm.MethodName)) ∈ dw_Tb := fm_of fm_t7 (i := 186) rfl rfl
theorem fm_1695 : (Jvm.Cond.code ({ cls := "SixDewModel", name := "clouds", desc := "(I)V" } : Jvm.MethodName) prog_14_method_73_code (3 : Nat) (Option.none : Option Jvm.ClassFile.FieldType)) ∈ dw_Tb := fm_of fm_t7 (i := 187) rfl rfl
theorem fm_1696 : (Jvm.Cond.methodLink "SixDewLaw" (144 : Nat) ({ cls := "SixDewModel", name := "came", desc := "(IIII)I" } : Jvm.MethodName)) ∈ dw_Tb := fm_of fm_t7 (i := 188) rfl rfl
theorem fm_1697 : (Jvm.Cond.instanceMethod ({ cls := "SixDewModel", name := "came", desc := "(IIII)I" } : Jvm.MethodName)) ∈ dw_Tb := fm_of fm_t7 (i := 189) rfl rfl
theorem fm_1698 : (Jvm.Cond.selects "SixDewModel" ({ cls := "SixDewModel", name := "came", desc := "(IIII)I" } : Jvm.MethodName) ({ cls := "SixDewModel", name := "came", desc := "(IIII)I" } : Jvm.MethodName)) ∈ dw_Tb := fm_of fm_t7 (i := 190) rfl rfl
theorem fm_1699 : (Jvm.Cond.code ({ cls := "SixDewModel", name := "came", desc := "(IIII)I" } : Jvm.MethodName) prog_14_method_75_code (9 : Nat) (Option.some Jvm.ClassFile.FieldType.int)) ∈ dw_Tb := fm_of fm_t7 (i := 191) rfl rfl
theorem fm_1700 : (Jvm.Cond.methodLink "SixDewLaw" (148 : Nat) ({ cls := "SixDewModel", name := "cameAt", desc := "(I)I" } : Jvm.MethodName)) ∈ dw_Tb := fm_of fm_t7 (i := 192) rfl rfl
theorem fm_1701 : (Jvm.Cond.instanceMethod ({ cls := "SixDewModel", name := "cameAt", desc := "(I)I" } : Jvm.MethodName)) ∈ dw_Tb := fm_of fm_t7 (i := 193) rfl rfl
theorem fm_1702 : (Jvm.Cond.selects "SixDewModel" ({ cls := "SixDewModel", name := "cameAt", desc := "(I)I" } : Jvm.MethodName) ({ cls := "SixDewModel", name := "cameAt", desc := "(I)I" } : Jvm.MethodName)) ∈ dw_Tb := fm_of fm_t7 (i := 194) rfl rfl
theorem fm_1703 : (Jvm.Cond.code ({ cls := "SixDewModel", name := "cameAt", desc := "(I)I" } : Jvm.MethodName) prog_14_method_76_code (2 : Nat) (Option.some Jvm.ClassFile.FieldType.int)) ∈ dw_Tb := fm_of fm_t7 (i := 195) rfl rfl
theorem fm_1704 : (Jvm.Cond.methodLink "SixDewLaw" (156 : Nat) ({ cls := "SixDewModel", name := "driest", desc := "(II)I" } : Jvm.MethodName)) ∈ dw_Tb := fm_of fm_t7 (i := 196) rfl rfl
theorem fm_1705 : (Jvm.Cond.instanceMethod ({ cls := "SixDewModel", name := "driest", desc := "(II)I" } : Jvm.MethodName)) ∈ dw_Tb := fm_of fm_t7 (i := 197) rfl rfl
theorem fm_1706 : (Jvm.Cond.selects "SixDewModel" ({ cls := "SixDewModel", name := "driest", desc := "(II)I" } : Jvm.MethodName) ({ cls := "SixDewModel", name := "driest", desc := "(II)I" } : Jvm.MethodName)) ∈ dw_Tb := fm_of fm_t7 (i := 198) rfl rfl
theorem fm_1707 : (Jvm.Cond.code ({ cls := "SixDewModel", name := "driest", desc := "(II)I" } : Jvm.MethodName) prog_14_method_77_code (9 : Nat) (Option.some Jvm.ClassFile.FieldType.int)) ∈ dw_Tb := fm_of fm_t7 (i := 199) rfl rfl
theorem fm_1708 : (Jvm.Cond.methodLink "SixDewLaw" (160 : Nat) ({ cls := "SixDewModel", name := "catcher", desc := "(III)I" } : Jvm.MethodName)) ∈ dw_Tb := fm_of fm_t7 (i := 200) rfl rfl
theorem fm_1709 : (Jvm.Cond.instanceMethod ({ cls := "SixDewModel", name := "catcher", desc := "(III)I" } : Jvm.MethodName)) ∈ dw_Tb := fm_of fm_t7 (i := 201) rfl rfl
theorem fm_1710 : (Jvm.Cond.selects "SixDewModel" ({ cls := "SixDewModel", name := "catcher", desc := "(III)I" } : Jvm.MethodName) ({ cls := "SixDewModel", name := "catcher", desc := "(III)I" } : Jvm.MethodName)) ∈ dw_Tb := fm_of fm_t7 (i := 202) rfl rfl
theorem fm_1711 : (Jvm.Cond.code ({ cls := "SixDewModel", name := "catcher", desc := "(III)I" } : Jvm.MethodName) prog_14_method_78_code (9 : Nat) (Option.some Jvm.ClassFile.FieldType.int)) ∈ dw_Tb := fm_of fm_t7 (i := 203) rfl rfl
theorem fm_1712 : (Jvm.Cond.methodLink "SixDewLaw" (164 : Nat) ({ cls := "SixDewModel", name := "story", desc := "(IIIII)I" } : Jvm.MethodName)) ∈ dw_Tb := fm_of fm_t7 (i := 204) rfl rfl
theorem fm_1713 : (Jvm.Cond.instanceMethod ({ cls := "SixDewModel", name := "story", desc := "(IIIII)I" } : Jvm.MethodName)) ∈ dw_Tb := fm_of fm_t7 (i := 205) rfl rfl
theorem fm_1714 : (Jvm.Cond.selects "SixDewModel" ({ cls := "SixDewModel", name := "story", desc := "(IIIII)I" } : Jvm.MethodName) ({ cls := "SixDewModel", name := "story", desc := "(IIIII)I" } : Jvm.MethodName)) ∈ dw_Tb := fm_of fm_t7 (i := 206) rfl rfl
theorem fm_1715 : (Jvm.Cond.code ({ cls := "SixDewModel", name := "story", desc := "(IIIII)I" } : Jvm.MethodName) prog_14_method_79_code (6 : Nat) (Option.some Jvm.ClassFile.FieldType.int)) ∈ dw_Tb := fm_of fm_t7 (i := 207) rfl rfl
theorem fm_1716 : (Jvm.Cond.methodLink "SixDewLaw" (168 : Nat) ({ cls := "SixDewModel", name := "part", desc := "(IIIII)I" } : Jvm.MethodName)) ∈ dw_Tb := fm_of fm_t7 (i := 208) rfl rfl
theorem fm_1717 : (Jvm.Cond.instanceMethod ({ cls := "SixDewModel", name := "part", desc := "(IIIII)I" } : Jvm.MethodName)) ∈ dw_Tb := fm_of fm_t7 (i := 209) rfl rfl
theorem fm_1718 : (Jvm.Cond.selects "SixDewModel" ({ cls := "SixDewModel", name := "part", desc := "(IIIII)I" } : Jvm.MethodName) ({ cls := "SixDewModel", name := "part", desc := "(IIIII)I" } : Jvm.MethodName)) ∈ dw_Tb := fm_of fm_t7 (i := 210) rfl rfl
theorem fm_1719 : (Jvm.Cond.code ({ cls := "SixDewModel", name := "part", desc := "(IIIII)I" } : Jvm.MethodName) prog_14_method_80_code (8 : Nat) (Option.some Jvm.ClassFile.FieldType.int)) ∈ dw_Tb := fm_of fm_t7 (i := 211) rfl rfl
theorem fm_1720 : (Jvm.Cond.methodLink "SixDewLaw" (172 : Nat) ({ cls := "SixDewModel", name := "tries", desc := "(II)I" } : Jvm.MethodName)) ∈ dw_Tb := fm_of fm_t7 (i := 212) rfl rfl
theorem fm_1721 : (Jvm.Cond.instanceMethod ({ cls := "SixDewModel", name := "tries", desc := "(II)I" } : Jvm.MethodName)) ∈ dw_Tb := fm_of fm_t7 (i := 213) rfl rfl
theorem fm_1722 : (Jvm.Cond.selects "SixDewModel" ({ cls := "SixDewModel", name := "tries", desc := "(II)I" } : Jvm.MethodName) ({ cls := "SixDewModel", name := "tries", desc := "(II)I" } : Jvm.MethodName)) ∈ dw_Tb := fm_of fm_t7 (i := 214) rfl rfl
theorem fm_1723 : (Jvm.Cond.code ({ cls := "SixDewModel", name := "tries", desc := "(II)I" } : Jvm.MethodName) prog_14_method_81_code (10 : Nat) (Option.some Jvm.ClassFile.FieldType.int)) ∈ dw_Tb := fm_of fm_t7 (i := 215) rfl rfl
theorem fm_1724 : (Jvm.Cond.methodLink "SixDewModel" (347 : Nat) ({ cls := "SixDewModel", name := "has", desc := "(II)Z" } : Jvm.MethodName)) ∈ dw_Tb := fm_of fm_t7 (i := 216) rfl rfl
theorem fm_1725 : (Jvm.Cond.static ({ cls := "SixDewModel", name := "has", desc := "(II)Z" } : Jvm.MethodName)) ∈ dw_Tb := fm_of fm_t7 (i := 217) rfl rfl
theorem fm_1726 : (Jvm.Cond.code ({ cls := "SixDewModel", name := "has", desc := "(II)Z" } : Jvm.MethodName) prog_14_method_8_code (2 : Nat) (Option.some Jvm.ClassFile.FieldType.boolean)) ∈ dw_Tb := fm_of fm_t7 (i := 218) rfl rfl
theorem fm_1727 : (Jvm.Cond.methodLink "SixDewLaw" (176 : Nat) ({ cls := "SixDewModel", name := "hay", desc := "(II)I" } : Jvm.MethodName)) ∈ dw_Tb := fm_of fm_t7 (i := 219) rfl rfl
theorem fm_1728 : (Jvm.Cond.instanceMethod ({ cls := "SixDewModel", name := "hay", desc := "(II)I" } : Jvm.MethodName)) ∈ dw_Tb := fm_of fm_t7 (i := 220) rfl rfl
theorem fm_1729 : (Jvm.Cond.selects "SixDewModel" ({ cls := "SixDewModel", name := "hay", desc := "(II)I" } : Jvm.MethodName) ({ cls := "SixDewModel", name := "hay", desc := "(II)I" } : Jvm.MethodName)) ∈ dw_Tb := fm_of fm_t7 (i := 221) rfl rfl
theorem fm_1730 : (Jvm.Cond.code ({ cls := "SixDewModel", name := "hay", desc := "(II)I" } : Jvm.MethodName) prog_14_method_82_code (6 : Nat) (Option.some Jvm.ClassFile.FieldType.int)) ∈ dw_Tb := fm_of fm_t7 (i := 222) rfl rfl
theorem fm_1731 : (Jvm.Cond.methodLink "SixDewLaw" (180 : Nat) ({ cls := "SixDewModel", name := "drawn", desc := "(IIIII)I" } : Jvm.MethodName)) ∈ dw_Tb := fm_of fm_t7 (i := 223) rfl rfl
theorem fm_1732 : (Jvm.Cond.instanceMethod ({ cls := "SixDewModel", name := "drawn", desc := "(IIIII)I" } : Jvm.MethodName)) ∈ dw_Tb := fm_of fm_t7 (i := 224) rfl rfl
theorem fm_1733 : (Jvm.Cond.selects "SixDewModel" ({ cls := "SixDewModel", name := "drawn", desc := "(IIIII)I" } : Jvm.MethodName) ({ cls := "SixDewModel", name := "drawn", desc := "(IIIII)I" } : Jvm.MethodName)) ∈ dw_Tb := fm_of fm_t7 (i := 225) rfl rfl
theorem fm_1734 : (Jvm.Cond.code ({ cls := "SixDewModel", name := "drawn", desc := "(IIIII)I" } : Jvm.MethodName) prog_14_method_84_code (9 : Nat) (Option.some Jvm.ClassFile.FieldType.int)) ∈ dw_Tb := fm_of fm_t7 (i := 226) rfl rfl
theorem fm_1735 : (Jvm.Cond.methodLink "SixDewModel" (357 : Nat) ({ cls := "SixDewModel", name := "draw", desc := "(I)I" } : Jvm.MethodName)) ∈ dw_Tb := fm_of fm_t7 (i := 227) rfl rfl
theorem fm_1737 : (Jvm.Cond.instanceMethod ({ cls := "SixDewModel", name := "draw", desc := "(I)I" } : Jvm.MethodName)) ∈ dw_Tb := fm_of fm_t7 (i := 229) rfl rfl
theorem fm_1738 : (Jvm.Cond.code ({ cls := "SixDewModel", name := "draw", desc := "(I)I" } : Jvm.MethodName) prog_14_method_83_code (2 : Nat) (Option.some Jvm.ClassFile.FieldType.int)) ∈ dw_Tb := fm_of fm_t7 (i := 230) rfl rfl
theorem fm_1739 : (Jvm.Cond.constant "SixDewModel" (353 : Nat) (1103515245 : Int32)) ∈ dw_Tb := fm_of fm_t7 (i := 231) rfl rfl
theorem fm_1740 : (Jvm.Cond.methodLink "SixDewLaw" (184 : Nat) ({ cls := "SixDewModel", name := "drawnBy", desc := "(I)I" } : Jvm.MethodName)) ∈ dw_Tb := fm_of fm_t7 (i := 232) rfl rfl
theorem fm_1741 : (Jvm.Cond.instanceMethod ({ cls := "SixDewModel", name := "drawnBy", desc := "(I)I" } : Jvm.MethodName)) ∈ dw_Tb := fm_of fm_t7 (i := 233) rfl rfl
theorem fm_1742 : (Jvm.Cond.selects "SixDewModel" ({ cls := "SixDewModel", name := "drawnBy", desc := "(I)I" } : Jvm.MethodName) ({ cls := "SixDewModel", name := "drawnBy", desc := "(I)I" } : Jvm.MethodName)) ∈ dw_Tb := fm_of fm_t7 (i := 234) rfl rfl
theorem fm_1743 : (Jvm.Cond.code ({ cls := "SixDewModel", name := "drawnBy", desc := "(I)I" } : Jvm.MethodName) prog_14_method_85_code (2 : Nat) (Option.some Jvm.ClassFile.FieldType.int)) ∈ dw_Tb := fm_of fm_t7 (i := 235) rfl rfl
theorem fm_1744 : (Jvm.Cond.methodLink "SixDewLaw" (188 : Nat) ({ cls := "SixDewModel", name := "image", desc := "(I)Z" } : Jvm.MethodName)) ∈ dw_Tb := fm_of fm_t7 (i := 236) rfl rfl
theorem fm_1745 : (Jvm.Cond.instanceMethod ({ cls := "SixDewModel", name := "image", desc := "(I)Z" } : Jvm.MethodName)) ∈ dw_Tb := fm_of fm_t7 (i := 237) rfl rfl
theorem fm_1746 : (Jvm.Cond.selects "SixDewModel" ({ cls := "SixDewModel", name := "image", desc := "(I)Z" } : Jvm.MethodName) ({ cls := "SixDewModel", name := "image", desc := "(I)Z" } : Jvm.MethodName)) ∈ dw_Tb := fm_of fm_t7 (i := 238) rfl rfl
theorem fm_1747 : (Jvm.Cond.code ({ cls := "SixDewModel", name := "image", desc := "(I)Z" } : Jvm.MethodName) prog_14_method_86_code (3 : Nat) (Option.some Jvm.ClassFile.FieldType.boolean)) ∈ dw_Tb := fm_of fm_t7 (i := 239) rfl rfl
theorem fm_1748 : (Jvm.Cond.methodLink "SixDewLaw" (192 : Nat) ({ cls := "SixDewModel", name := "restore", desc := "(I)Z" } : Jvm.MethodName)) ∈ dw_Tb := fm_of fm_t8 (i := 0) rfl rfl
theorem fm_1749 : (Jvm.Cond.instanceMethod ({ cls := "SixDewModel", name := "restore", desc := "(I)Z" } : Jvm.MethodName)) ∈ dw_Tb := fm_of fm_t8 (i := 1) rfl rfl
theorem fm_1750 : (Jvm.Cond.selects "SixDewModel" ({ cls := "SixDewModel", name := "restore", desc := "(I)Z" } : Jvm.MethodName) ({ cls := "SixDewModel", name := "restore", desc := "(I)Z" } : Jvm.MethodName)) ∈ dw_Tb := fm_of fm_t8 (i := 2) rfl rfl
theorem fm_1751 : (Jvm.Cond.code ({ cls := "SixDewModel", name := "restore", desc := "(I)Z" } : Jvm.MethodName) prog_14_method_87_code (3 : Nat) (Option.some Jvm.ClassFile.FieldType.boolean)) ∈ dw_Tb := fm_of fm_t8 (i := 3) rfl rfl
theorem fm_1752 : (Jvm.Cond.methodLink "SixDewLaw" (196 : Nat) ({ cls := "SixDewModel", name := "count", desc := "(I)I" } : Jvm.MethodName)) ∈ dw_Tb := fm_of fm_t8 (i := 4) rfl rfl
theorem fm_1753 : (Jvm.Cond.instanceMethod ({ cls := "SixDewModel", name := "count", desc := "(I)I" } : Jvm.MethodName)) ∈ dw_Tb := fm_of fm_t8 (i := 5) rfl rfl
theorem fm_1754 : (Jvm.Cond.selects "SixDewModel" ({ cls := "SixDewModel", name := "count", desc := "(I)I" } : Jvm.MethodName) ({ cls := "SixDewModel", name := "count", desc := "(I)I" } : Jvm.MethodName)) ∈ dw_Tb := fm_of fm_t8 (i := 6) rfl rfl
theorem fm_1755 : (Jvm.Cond.code ({ cls := "SixDewModel", name := "count", desc := "(I)I" } : Jvm.MethodName) prog_14_method_88_code (4 : Nat) (Option.some Jvm.ClassFile.FieldType.int)) ∈ dw_Tb := fm_of fm_t8 (i := 7) rfl rfl
theorem fm_1773 : (Jvm.Cond.fieldLink "java/lang/String" (9 : Nat) "java/lang/String" "value" "[B") ∈ dw_Tb := fm_of fm_t8 (i := 25) rfl rfl
theorem fm_1774 : (Jvm.Cond.fieldLink "java/lang/String" (15 : Nat) "java/lang/String" "coder" "B") ∈ dw_Tb := fm_of fm_t8 (i := 26) rfl rfl
def fx_T : Nat → List Cond := fun k => match k with
  | 1 => tables_1_1
  | 2 => tables_1_2
  | 3 => tables_1_3
  | 4 => tables_1_4
  | 5 => tables_1_5
  | 6 => tables_1_6
  | 7 => tables_1_7
  | 8 => tables_1_8
  | _ => []
theorem fx_in : ∀ (k : Nat) (w : Cond), w ∈ fx_T k → w ∈ lw_tbl := fun k => match k with
  | 0 => fun _ h => nomatch h
  | 1 => fm_t1
  | 2 => fm_t2
  | 3 => fm_t3
  | 4 => fm_t4
  | 5 => fm_t5
  | 6 => fm_t6
  | 7 => fm_t7
  | 8 => fm_t8
  | _ + 9 => fun _ h => nomatch h
theorem fx_of {l : List Cond} (is : List (Nat × Nat)) (h : (decide (l.map some = is.map fun q => (fx_T q.1)[q.2]?) && l.all goodWord) = true) : ∀ w ∈ l, w ∈ dw_Tb := by
  intro w hw
  rw [Bool.and_eq_true, decide_eq_true_eq] at h
  have h1 : some w ∈ l.map some := List.mem_map.mpr ⟨w, hw, rfl⟩
  rw [h.1] at h1
  obtain ⟨q, -, hq⟩ := List.mem_map.mp h1
  exact List.mem_filter.mpr ⟨fx_in _ _ (List.mem_of_getElem? hq), List.all_eq_true.mp h.2 w hw⟩
theorem dw_in0 : ∀ w ∈ u_ws RX0 TX0 10, w ∈ dw_Tb := fx_of [(1, 124), (1, 126), (1, 128), (1, 130), (1, 132), (1, 134), (1, 136), (1, 138), (1, 140), (1, 142)] (by decide +kernel)
theorem dw_in1 : ∀ w ∈ u_ws RX1 TX1 5, w ∈ dw_Tb := fx_of [(2, 38), (2, 40), (2, 42), (2, 44), (2, 46)] (by decide +kernel)
theorem dw_in2 : ∀ w ∈ u_ws RX2 TX2 2, w ∈ dw_Tb := fx_of [(1, 183), (1, 185)] (by decide +kernel)
theorem dw_in3 : ∀ w ∈ u_ws RX3 TX3 2, w ∈ dw_Tb := fx_of [(2, 60), (2, 62)] (by decide +kernel)
theorem dw_in4 : ∀ w ∈ u_ws RX4 TX4 1, w ∈ dw_Tb := fx_of [(2, 117)] (by decide +kernel)
theorem dw_in5 : ∀ w ∈ u_ws RX5 TX5 2, w ∈ dw_Tb := fx_of [(1, 160), (1, 162)] (by decide +kernel)
theorem dw_in6 : ∀ w ∈ u_ws RX6 TX6 1, w ∈ dw_Tb := fx_of [(2, 75)] (by decide +kernel)
theorem dw_in7 : ∀ w ∈ u_ws RX7 TX7 15, w ∈ dw_Tb := fx_of [(1, 211), (1, 213), (1, 215), (1, 217), (1, 219), (1, 221), (1, 223), (1, 225), (1, 227), (1, 229), (1, 231), (1, 233), (1, 235), (1, 237), (1, 239)] (by decide +kernel)
theorem dw_in8 : ∀ w ∈ u_ws RX8 TX8 5, w ∈ dw_Tb := fx_of [(2, 11), (2, 13), (2, 15), (2, 17), (2, 19)] (by decide +kernel)
theorem dw_in9 : ∀ w ∈ u_ws RX9 TX9 9, w ∈ dw_Tb := fx_of [(1, 58), (1, 60), (1, 62), (1, 64), (1, 66), (1, 68), (1, 70), (1, 72), (1, 74)] (by decide +kernel)
theorem dw_in10 : ∀ w ∈ u_ws RX10 TX10 6, w ∈ dw_Tb := fx_of [(2, 97), (2, 99), (2, 101), (2, 103), (2, 105), (2, 107)] (by decide +kernel)
theorem dw_in11 : ∀ w ∈ u_ws RX11 TX11 18, w ∈ dw_Tb := fx_of [(2, 139), (2, 141), (2, 143), (2, 145), (2, 147), (2, 149), (2, 151), (2, 153), (2, 155), (2, 157), (2, 159), (2, 161), (2, 163), (2, 165), (2, 167), (2, 169), (2, 171), (2, 173)] (by decide +kernel)
theorem dw_in12 : ∀ w ∈ u_ws RX12 TX12 57, w ∈ dw_Tb := fx_of [(6, 42), (6, 44), (6, 46), (6, 48), (6, 50), (6, 52), (6, 54), (6, 56), (6, 58), (6, 60), (6, 62), (6, 64), (6, 66), (6, 68), (6, 70), (6, 72), (6, 74), (6, 76), (6, 78), (6, 80), (6, 82), (6, 84), (6, 86), (6, 88), (6, 90), (6, 92), (6, 94), (6, 96), (6, 98), (6, 100), (6, 102), (6, 104), (6, 106), (6, 108), (6, 110), (6, 112), (6, 114), (6, 116), (6, 118), (6, 120), (6, 122), (6, 124), (6, 126), (6, 128), (6, 130), (6, 132), (6, 134), (6, 136), (6, 138), (6, 140), (6, 142), (6, 144), (6, 146), (6, 148), (6, 150), (6, 152), (6, 154)] (by decide +kernel)
theorem hq_J0_charAt_5068e : yJ0_charAt_5068e.cls ≠ "java/lang/invoke/MethodHandle" ∧ yJ0_charAt_5068e.cls ≠ "java/lang/invoke/VarHandle" ∧ (parseMethodDescriptor yJ0_charAt_5068e.desc).map (fun d => d.parameters.length) = some 1 := ⟨by decide +kernel, by decide +kernel, by decide +kernel⟩
theorem hq_J0_checkIndex_df160 : yJ0_checkIndex_df160.cls ≠ "java/lang/invoke/MethodHandle" ∧ yJ0_checkIndex_df160.cls ≠ "java/lang/invoke/VarHandle" ∧ (parseMethodDescriptor yJ0_checkIndex_df160.desc).map (fun d => d.parameters.length) = some 2 := ⟨by decide +kernel, by decide +kernel, by decide +kernel⟩
theorem hq_J0_coder_7d493 : yJ0_coder_7d493.cls ≠ "java/lang/invoke/MethodHandle" ∧ yJ0_coder_7d493.cls ≠ "java/lang/invoke/VarHandle" ∧ (parseMethodDescriptor yJ0_coder_7d493.desc).map (fun d => d.parameters.length) = some 0 := ⟨by decide +kernel, by decide +kernel, by decide +kernel⟩
theorem hq_J0_isLatin1_aae02 : yJ0_isLatin1_aae02.cls ≠ "java/lang/invoke/MethodHandle" ∧ yJ0_isLatin1_aae02.cls ≠ "java/lang/invoke/VarHandle" ∧ (parseMethodDescriptor yJ0_isLatin1_aae02.desc).map (fun d => d.parameters.length) = some 0 := ⟨by decide +kernel, by decide +kernel, by decide +kernel⟩
theorem hq_J0_length_8abf5 : yJ0_length_8abf5.cls ≠ "java/lang/invoke/MethodHandle" ∧ yJ0_length_8abf5.cls ≠ "java/lang/invoke/VarHandle" ∧ (parseMethodDescriptor yJ0_length_8abf5.desc).map (fun d => d.parameters.length) = some 0 := ⟨by decide +kernel, by decide +kernel, by decide +kernel⟩
theorem hq_J1_charAt_3b067 : yJ1_charAt_3b067.cls ≠ "java/lang/invoke/MethodHandle" ∧ yJ1_charAt_3b067.cls ≠ "java/lang/invoke/VarHandle" ∧ (parseMethodDescriptor yJ1_charAt_3b067.desc).map (fun d => d.parameters.length) = some 2 := ⟨by decide +kernel, by decide +kernel, by decide +kernel⟩
theorem hq_J3_checkIndex_8e157 : yJ3_checkIndex_8e157.cls ≠ "java/lang/invoke/MethodHandle" ∧ yJ3_checkIndex_8e157.cls ≠ "java/lang/invoke/VarHandle" ∧ (parseMethodDescriptor yJ3_checkIndex_8e157.desc).map (fun d => d.parameters.length) = some 3 := ⟨by decide +kernel, by decide +kernel, by decide +kernel⟩
theorem hq_J6_bitCount_0f7a4 : yJ6_bitCount_0f7a4.cls ≠ "java/lang/invoke/MethodHandle" ∧ yJ6_bitCount_0f7a4.cls ≠ "java/lang/invoke/VarHandle" ∧ (parseMethodDescriptor yJ6_bitCount_0f7a4.desc).map (fun d => d.parameters.length) = some 1 := ⟨by decide +kernel, by decide +kernel, by decide +kernel⟩
theorem hq_L_cell : yL_cell.cls ≠ "java/lang/invoke/MethodHandle" ∧ yL_cell.cls ≠ "java/lang/invoke/VarHandle" ∧ (parseMethodDescriptor yL_cell.desc).map (fun d => d.parameters.length) = some 5 := ⟨by decide +kernel, by decide +kernel, by decide +kernel⟩
theorem hq_L_is : yL_is.cls ≠ "java/lang/invoke/MethodHandle" ∧ yL_is.cls ≠ "java/lang/invoke/VarHandle" ∧ (parseMethodDescriptor yL_is.desc).map (fun d => d.parameters.length) = some 5 := ⟨by decide +kernel, by decide +kernel, by decide +kernel⟩
theorem hq_X0_cellAt : yX0_cellAt.cls ≠ "java/lang/invoke/MethodHandle" ∧ yX0_cellAt.cls ≠ "java/lang/invoke/VarHandle" ∧ (parseMethodDescriptor yX0_cellAt.desc).map (fun d => d.parameters.length) = some 2 := ⟨by decide +kernel, by decide +kernel, by decide +kernel⟩
theorem hq_X0_clear : yX0_clear.cls ≠ "java/lang/invoke/MethodHandle" ∧ yX0_clear.cls ≠ "java/lang/invoke/VarHandle" ∧ (parseMethodDescriptor yX0_clear.desc).map (fun d => d.parameters.length) = some 0 := ⟨by decide +kernel, by decide +kernel, by decide +kernel⟩
theorem hq_X0_copyFrom : yX0_copyFrom.cls ≠ "java/lang/invoke/MethodHandle" ∧ yX0_copyFrom.cls ≠ "java/lang/invoke/VarHandle" ∧ (parseMethodDescriptor yX0_copyFrom.desc).map (fun d => d.parameters.length) = some 1 := ⟨by decide +kernel, by decide +kernel, by decide +kernel⟩
theorem hq_X0_init : yX0_init.cls ≠ "java/lang/invoke/MethodHandle" ∧ yX0_init.cls ≠ "java/lang/invoke/VarHandle" ∧ (parseMethodDescriptor yX0_init.desc).map (fun d => d.parameters.length) = some 0 := ⟨by decide +kernel, by decide +kernel, by decide +kernel⟩
theorem hq_X0_ofKind : yX0_ofKind.cls ≠ "java/lang/invoke/MethodHandle" ∧ yX0_ofKind.cls ≠ "java/lang/invoke/VarHandle" ∧ (parseMethodDescriptor yX0_ofKind.desc).map (fun d => d.parameters.length) = some 2 := ⟨by decide +kernel, by decide +kernel, by decide +kernel⟩
theorem hq_X0_placeOf : yX0_placeOf.cls ≠ "java/lang/invoke/MethodHandle" ∧ yX0_placeOf.cls ≠ "java/lang/invoke/VarHandle" ∧ (parseMethodDescriptor yX0_placeOf.desc).map (fun d => d.parameters.length) = some 1 := ⟨by decide +kernel, by decide +kernel, by decide +kernel⟩
theorem hq_X0_size : yX0_size.cls ≠ "java/lang/invoke/MethodHandle" ∧ yX0_size.cls ≠ "java/lang/invoke/VarHandle" ∧ (parseMethodDescriptor yX0_size.desc).map (fun d => d.parameters.length) = some 0 := ⟨by decide +kernel, by decide +kernel, by decide +kernel⟩
theorem hq_X0_tell : yX0_tell.cls ≠ "java/lang/invoke/MethodHandle" ∧ yX0_tell.cls ≠ "java/lang/invoke/VarHandle" ∧ (parseMethodDescriptor yX0_tell.desc).map (fun d => d.parameters.length) = some 2 := ⟨by decide +kernel, by decide +kernel, by decide +kernel⟩
theorem hq_X10_clear : yX10_clear.cls ≠ "java/lang/invoke/MethodHandle" ∧ yX10_clear.cls ≠ "java/lang/invoke/VarHandle" ∧ (parseMethodDescriptor yX10_clear.desc).map (fun d => d.parameters.length) = some 0 := ⟨by decide +kernel, by decide +kernel, by decide +kernel⟩
theorem hq_X10_init : yX10_init.cls ≠ "java/lang/invoke/MethodHandle" ∧ yX10_init.cls ≠ "java/lang/invoke/VarHandle" ∧ (parseMethodDescriptor yX10_init.desc).map (fun d => d.parameters.length) = some 0 := ⟨by decide +kernel, by decide +kernel, by decide +kernel⟩
theorem hq_X10_longSpells : yX10_longSpells.cls ≠ "java/lang/invoke/MethodHandle" ∧ yX10_longSpells.cls ≠ "java/lang/invoke/VarHandle" ∧ (parseMethodDescriptor yX10_longSpells.desc).map (fun d => d.parameters.length) = some 2 := ⟨by decide +kernel, by decide +kernel, by decide +kernel⟩
theorem hq_X10_look : yX10_look.cls ≠ "java/lang/invoke/MethodHandle" ∧ yX10_look.cls ≠ "java/lang/invoke/VarHandle" ∧ (parseMethodDescriptor yX10_look.desc).map (fun d => d.parameters.length) = some 2 := ⟨by decide +kernel, by decide +kernel, by decide +kernel⟩
theorem hq_X10_seeWet : yX10_seeWet.cls ≠ "java/lang/invoke/MethodHandle" ∧ yX10_seeWet.cls ≠ "java/lang/invoke/VarHandle" ∧ (parseMethodDescriptor yX10_seeWet.desc).map (fun d => d.parameters.length) = some 3 := ⟨by decide +kernel, by decide +kernel, by decide +kernel⟩
theorem hq_X10_tell : yX10_tell.cls ≠ "java/lang/invoke/MethodHandle" ∧ yX10_tell.cls ≠ "java/lang/invoke/VarHandle" ∧ (parseMethodDescriptor yX10_tell.desc).map (fun d => d.parameters.length) = some 2 := ⟨by decide +kernel, by decide +kernel, by decide +kernel⟩
theorem hq_X11_areTriedCells : yX11_areTriedCells.cls ≠ "java/lang/invoke/MethodHandle" ∧ yX11_areTriedCells.cls ≠ "java/lang/invoke/VarHandle" ∧ (parseMethodDescriptor yX11_areTriedCells.desc).map (fun d => d.parameters.length) = some 1 := ⟨by decide +kernel, by decide +kernel, by decide +kernel⟩
theorem hq_X11_begin : yX11_begin.cls ≠ "java/lang/invoke/MethodHandle" ∧ yX11_begin.cls ≠ "java/lang/invoke/VarHandle" ∧ (parseMethodDescriptor yX11_begin.desc).map (fun d => d.parameters.length) = some 1 := ⟨by decide +kernel, by decide +kernel, by decide +kernel⟩
theorem hq_X11_begins : yX11_begins.cls ≠ "java/lang/invoke/MethodHandle" ∧ yX11_begins.cls ≠ "java/lang/invoke/VarHandle" ∧ (parseMethodDescriptor yX11_begins.desc).map (fun d => d.parameters.length) = some 3 := ⟨by decide +kernel, by decide +kernel, by decide +kernel⟩
theorem hq_X11_bench : yX11_bench.cls ≠ "java/lang/invoke/MethodHandle" ∧ yX11_bench.cls ≠ "java/lang/invoke/VarHandle" ∧ (parseMethodDescriptor yX11_bench.desc).map (fun d => d.parameters.length) = some 2 := ⟨by decide +kernel, by decide +kernel, by decide +kernel⟩
theorem hq_X11_came : yX11_came.cls ≠ "java/lang/invoke/MethodHandle" ∧ yX11_came.cls ≠ "java/lang/invoke/VarHandle" ∧ (parseMethodDescriptor yX11_came.desc).map (fun d => d.parameters.length) = some 4 := ⟨by decide +kernel, by decide +kernel, by decide +kernel⟩
theorem hq_X11_cameAt : yX11_cameAt.cls ≠ "java/lang/invoke/MethodHandle" ∧ yX11_cameAt.cls ≠ "java/lang/invoke/VarHandle" ∧ (parseMethodDescriptor yX11_cameAt.desc).map (fun d => d.parameters.length) = some 1 := ⟨by decide +kernel, by decide +kernel, by decide +kernel⟩
theorem hq_X11_catcher : yX11_catcher.cls ≠ "java/lang/invoke/MethodHandle" ∧ yX11_catcher.cls ≠ "java/lang/invoke/VarHandle" ∧ (parseMethodDescriptor yX11_catcher.desc).map (fun d => d.parameters.length) = some 3 := ⟨by decide +kernel, by decide +kernel, by decide +kernel⟩
theorem hq_X11_cell : yX11_cell.cls ≠ "java/lang/invoke/MethodHandle" ∧ yX11_cell.cls ≠ "java/lang/invoke/VarHandle" ∧ (parseMethodDescriptor yX11_cell.desc).map (fun d => d.parameters.length) = some 3 := ⟨by decide +kernel, by decide +kernel, by decide +kernel⟩
theorem hq_X11_clouded : yX11_clouded.cls ≠ "java/lang/invoke/MethodHandle" ∧ yX11_clouded.cls ≠ "java/lang/invoke/VarHandle" ∧ (parseMethodDescriptor yX11_clouded.desc).map (fun d => d.parameters.length) = some 1 := ⟨by decide +kernel, by decide +kernel, by decide +kernel⟩
theorem hq_X11_count : yX11_count.cls ≠ "java/lang/invoke/MethodHandle" ∧ yX11_count.cls ≠ "java/lang/invoke/VarHandle" ∧ (parseMethodDescriptor yX11_count.desc).map (fun d => d.parameters.length) = some 1 := ⟨by decide +kernel, by decide +kernel, by decide +kernel⟩
theorem hq_X11_doLine : yX11_doLine.cls ≠ "java/lang/invoke/MethodHandle" ∧ yX11_doLine.cls ≠ "java/lang/invoke/VarHandle" ∧ (parseMethodDescriptor yX11_doLine.desc).map (fun d => d.parameters.length) = some 2 := ⟨by decide +kernel, by decide +kernel, by decide +kernel⟩
theorem hq_X11_drawn : yX11_drawn.cls ≠ "java/lang/invoke/MethodHandle" ∧ yX11_drawn.cls ≠ "java/lang/invoke/VarHandle" ∧ (parseMethodDescriptor yX11_drawn.desc).map (fun d => d.parameters.length) = some 5 := ⟨by decide +kernel, by decide +kernel, by decide +kernel⟩
theorem hq_X11_drawnBy : yX11_drawnBy.cls ≠ "java/lang/invoke/MethodHandle" ∧ yX11_drawnBy.cls ≠ "java/lang/invoke/VarHandle" ∧ (parseMethodDescriptor yX11_drawnBy.desc).map (fun d => d.parameters.length) = some 1 := ⟨by decide +kernel, by decide +kernel, by decide +kernel⟩
theorem hq_X11_driest : yX11_driest.cls ≠ "java/lang/invoke/MethodHandle" ∧ yX11_driest.cls ≠ "java/lang/invoke/VarHandle" ∧ (parseMethodDescriptor yX11_driest.desc).map (fun d => d.parameters.length) = some 2 := ⟨by decide +kernel, by decide +kernel, by decide +kernel⟩
theorem hq_X11_end : yX11_end.cls ≠ "java/lang/invoke/MethodHandle" ∧ yX11_end.cls ≠ "java/lang/invoke/VarHandle" ∧ (parseMethodDescriptor yX11_end.desc).map (fun d => d.parameters.length) = some 1 := ⟨by decide +kernel, by decide +kernel, by decide +kernel⟩
theorem hq_X11_fault : yX11_fault.cls ≠ "java/lang/invoke/MethodHandle" ∧ yX11_fault.cls ≠ "java/lang/invoke/VarHandle" ∧ (parseMethodDescriptor yX11_fault.desc).map (fun d => d.parameters.length) = some 0 := ⟨by decide +kernel, by decide +kernel, by decide +kernel⟩
theorem hq_X11_feed : yX11_feed.cls ≠ "java/lang/invoke/MethodHandle" ∧ yX11_feed.cls ≠ "java/lang/invoke/VarHandle" ∧ (parseMethodDescriptor yX11_feed.desc).map (fun d => d.parameters.length) = some 5 := ⟨by decide +kernel, by decide +kernel, by decide +kernel⟩
theorem hq_X11_fewestParting : yX11_fewestParting.cls ≠ "java/lang/invoke/MethodHandle" ∧ yX11_fewestParting.cls ≠ "java/lang/invoke/VarHandle" ∧ (parseMethodDescriptor yX11_fewestParting.desc).map (fun d => d.parameters.length) = some 1 := ⟨by decide +kernel, by decide +kernel, by decide +kernel⟩
theorem hq_X11_frost : yX11_frost.cls ≠ "java/lang/invoke/MethodHandle" ∧ yX11_frost.cls ≠ "java/lang/invoke/VarHandle" ∧ (parseMethodDescriptor yX11_frost.desc).map (fun d => d.parameters.length) = some 3 := ⟨by decide +kernel, by decide +kernel, by decide +kernel⟩
theorem hq_X11_go : yX11_go.cls ≠ "java/lang/invoke/MethodHandle" ∧ yX11_go.cls ≠ "java/lang/invoke/VarHandle" ∧ (parseMethodDescriptor yX11_go.desc).map (fun d => d.parameters.length) = some 1 := ⟨by decide +kernel, by decide +kernel, by decide +kernel⟩
theorem hq_X11_gone : yX11_gone.cls ≠ "java/lang/invoke/MethodHandle" ∧ yX11_gone.cls ≠ "java/lang/invoke/VarHandle" ∧ (parseMethodDescriptor yX11_gone.desc).map (fun d => d.parameters.length) = some 3 := ⟨by decide +kernel, by decide +kernel, by decide +kernel⟩
theorem hq_X11_ground : yX11_ground.cls ≠ "java/lang/invoke/MethodHandle" ∧ yX11_ground.cls ≠ "java/lang/invoke/VarHandle" ∧ (parseMethodDescriptor yX11_ground.desc).map (fun d => d.parameters.length) = some 0 := ⟨by decide +kernel, by decide +kernel, by decide +kernel⟩
theorem hq_X11_hay : yX11_hay.cls ≠ "java/lang/invoke/MethodHandle" ∧ yX11_hay.cls ≠ "java/lang/invoke/VarHandle" ∧ (parseMethodDescriptor yX11_hay.desc).map (fun d => d.parameters.length) = some 2 := ⟨by decide +kernel, by decide +kernel, by decide +kernel⟩
theorem hq_X11_image : yX11_image.cls ≠ "java/lang/invoke/MethodHandle" ∧ yX11_image.cls ≠ "java/lang/invoke/VarHandle" ∧ (parseMethodDescriptor yX11_image.desc).map (fun d => d.parameters.length) = some 1 := ⟨by decide +kernel, by decide +kernel, by decide +kernel⟩
theorem hq_X11_init : yX11_init.cls ≠ "java/lang/invoke/MethodHandle" ∧ yX11_init.cls ≠ "java/lang/invoke/VarHandle" ∧ (parseMethodDescriptor yX11_init.desc).map (fun d => d.parameters.length) = some 0 := ⟨by decide +kernel, by decide +kernel, by decide +kernel⟩
theorem hq_X11_is : yX11_is.cls ≠ "java/lang/invoke/MethodHandle" ∧ yX11_is.cls ≠ "java/lang/invoke/VarHandle" ∧ (parseMethodDescriptor yX11_is.desc).map (fun d => d.parameters.length) = some 3 := ⟨by decide +kernel, by decide +kernel, by decide +kernel⟩
theorem hq_X11_isLawn : yX11_isLawn.cls ≠ "java/lang/invoke/MethodHandle" ∧ yX11_isLawn.cls ≠ "java/lang/invoke/VarHandle" ∧ (parseMethodDescriptor yX11_isLawn.desc).map (fun d => d.parameters.length) = some 1 := ⟨by decide +kernel, by decide +kernel, by decide +kernel⟩
theorem hq_X11_isStep : yX11_isStep.cls ≠ "java/lang/invoke/MethodHandle" ∧ yX11_isStep.cls ≠ "java/lang/invoke/VarHandle" ∧ (parseMethodDescriptor yX11_isStep.desc).map (fun d => d.parameters.length) = some 1 := ⟨by decide +kernel, by decide +kernel, by decide +kernel⟩
theorem hq_X11_isStory : yX11_isStory.cls ≠ "java/lang/invoke/MethodHandle" ∧ yX11_isStory.cls ≠ "java/lang/invoke/VarHandle" ∧ (parseMethodDescriptor yX11_isStory.desc).map (fun d => d.parameters.length) = some 1 := ⟨by decide +kernel, by decide +kernel, by decide +kernel⟩
theorem hq_X11_lawn : yX11_lawn.cls ≠ "java/lang/invoke/MethodHandle" ∧ yX11_lawn.cls ≠ "java/lang/invoke/VarHandle" ∧ (parseMethodDescriptor yX11_lawn.desc).map (fun d => d.parameters.length) = some 0 := ⟨by decide +kernel, by decide +kernel, by decide +kernel⟩
theorem hq_X11_looksSo : yX11_looksSo.cls ≠ "java/lang/invoke/MethodHandle" ∧ yX11_looksSo.cls ≠ "java/lang/invoke/VarHandle" ∧ (parseMethodDescriptor yX11_looksSo.desc).map (fun d => d.parameters.length) = some 1 := ⟨by decide +kernel, by decide +kernel, by decide +kernel⟩
theorem hq_X11_much : yX11_much.cls ≠ "java/lang/invoke/MethodHandle" ∧ yX11_much.cls ≠ "java/lang/invoke/VarHandle" ∧ (parseMethodDescriptor yX11_much.desc).map (fun d => d.parameters.length) = some 4 := ⟨by decide +kernel, by decide +kernel, by decide +kernel⟩
theorem hq_X11_night : yX11_night.cls ≠ "java/lang/invoke/MethodHandle" ∧ yX11_night.cls ≠ "java/lang/invoke/VarHandle" ∧ (parseMethodDescriptor yX11_night.desc).map (fun d => d.parameters.length) = some 1 := ⟨by decide +kernel, by decide +kernel, by decide +kernel⟩
theorem hq_X11_now : yX11_now.cls ≠ "java/lang/invoke/MethodHandle" ∧ yX11_now.cls ≠ "java/lang/invoke/VarHandle" ∧ (parseMethodDescriptor yX11_now.desc).map (fun d => d.parameters.length) = some 1 := ⟨by decide +kernel, by decide +kernel, by decide +kernel⟩
theorem hq_X11_on : yX11_on.cls ≠ "java/lang/invoke/MethodHandle" ∧ yX11_on.cls ≠ "java/lang/invoke/VarHandle" ∧ (parseMethodDescriptor yX11_on.desc).map (fun d => d.parameters.length) = some 1 := ⟨by decide +kernel, by decide +kernel, by decide +kernel⟩
theorem hq_X11_part : yX11_part.cls ≠ "java/lang/invoke/MethodHandle" ∧ yX11_part.cls ≠ "java/lang/invoke/VarHandle" ∧ (parseMethodDescriptor yX11_part.desc).map (fun d => d.parameters.length) = some 5 := ⟨by decide +kernel, by decide +kernel, by decide +kernel⟩
theorem hq_X11_parts : yX11_parts.cls ≠ "java/lang/invoke/MethodHandle" ∧ yX11_parts.cls ≠ "java/lang/invoke/VarHandle" ∧ (parseMethodDescriptor yX11_parts.desc).map (fun d => d.parameters.length) = some 3 := ⟨by decide +kernel, by decide +kernel, by decide +kernel⟩
theorem hq_X11_plan : yX11_plan.cls ≠ "java/lang/invoke/MethodHandle" ∧ yX11_plan.cls ≠ "java/lang/invoke/VarHandle" ∧ (parseMethodDescriptor yX11_plan.desc).map (fun d => d.parameters.length) = some 0 := ⟨by decide +kernel, by decide +kernel, by decide +kernel⟩
theorem hq_X11_restore : yX11_restore.cls ≠ "java/lang/invoke/MethodHandle" ∧ yX11_restore.cls ≠ "java/lang/invoke/VarHandle" ∧ (parseMethodDescriptor yX11_restore.desc).map (fun d => d.parameters.length) = some 1 := ⟨by decide +kernel, by decide +kernel, by decide +kernel⟩
theorem hq_X11_roof : yX11_roof.cls ≠ "java/lang/invoke/MethodHandle" ∧ yX11_roof.cls ≠ "java/lang/invoke/VarHandle" ∧ (parseMethodDescriptor yX11_roof.desc).map (fun d => d.parameters.length) = some 3 := ⟨by decide +kernel, by decide +kernel, by decide +kernel⟩
theorem hq_X11_runBehind : yX11_runBehind.cls ≠ "java/lang/invoke/MethodHandle" ∧ yX11_runBehind.cls ≠ "java/lang/invoke/VarHandle" ∧ (parseMethodDescriptor yX11_runBehind.desc).map (fun d => d.parameters.length) = some 2 := ⟨by decide +kernel, by decide +kernel, by decide +kernel⟩
theorem hq_X11_sick : yX11_sick.cls ≠ "java/lang/invoke/MethodHandle" ∧ yX11_sick.cls ≠ "java/lang/invoke/VarHandle" ∧ (parseMethodDescriptor yX11_sick.desc).map (fun d => d.parameters.length) = some 2 := ⟨by decide +kernel, by decide +kernel, by decide +kernel⟩
theorem hq_X11_sky : yX11_sky.cls ≠ "java/lang/invoke/MethodHandle" ∧ yX11_sky.cls ≠ "java/lang/invoke/VarHandle" ∧ (parseMethodDescriptor yX11_sky.desc).map (fun d => d.parameters.length) = some 3 := ⟨by decide +kernel, by decide +kernel, by decide +kernel⟩
theorem hq_X11_slugs : yX11_slugs.cls ≠ "java/lang/invoke/MethodHandle" ∧ yX11_slugs.cls ≠ "java/lang/invoke/VarHandle" ∧ (parseMethodDescriptor yX11_slugs.desc).map (fun d => d.parameters.length) = some 4 := ⟨by decide +kernel, by decide +kernel, by decide +kernel⟩
theorem hq_X11_spell : yX11_spell.cls ≠ "java/lang/invoke/MethodHandle" ∧ yX11_spell.cls ≠ "java/lang/invoke/VarHandle" ∧ (parseMethodDescriptor yX11_spell.desc).map (fun d => d.parameters.length) = some 3 := ⟨by decide +kernel, by decide +kernel, by decide +kernel⟩
theorem hq_X11_start : yX11_start.cls ≠ "java/lang/invoke/MethodHandle" ∧ yX11_start.cls ≠ "java/lang/invoke/VarHandle" ∧ (parseMethodDescriptor yX11_start.desc).map (fun d => d.parameters.length) = some 2 := ⟨by decide +kernel, by decide +kernel, by decide +kernel⟩
theorem hq_X11_story : yX11_story.cls ≠ "java/lang/invoke/MethodHandle" ∧ yX11_story.cls ≠ "java/lang/invoke/VarHandle" ∧ (parseMethodDescriptor yX11_story.desc).map (fun d => d.parameters.length) = some 5 := ⟨by decide +kernel, by decide +kernel, by decide +kernel⟩
theorem hq_X11_tries : yX11_tries.cls ≠ "java/lang/invoke/MethodHandle" ∧ yX11_tries.cls ≠ "java/lang/invoke/VarHandle" ∧ (parseMethodDescriptor yX11_tries.desc).map (fun d => d.parameters.length) = some 2 := ⟨by decide +kernel, by decide +kernel, by decide +kernel⟩
theorem hq_X11_unlike : yX11_unlike.cls ≠ "java/lang/invoke/MethodHandle" ∧ yX11_unlike.cls ≠ "java/lang/invoke/VarHandle" ∧ (parseMethodDescriptor yX11_unlike.desc).map (fun d => d.parameters.length) = some 2 := ⟨by decide +kernel, by decide +kernel, by decide +kernel⟩
theorem hq_X11_walk : yX11_walk.cls ≠ "java/lang/invoke/MethodHandle" ∧ yX11_walk.cls ≠ "java/lang/invoke/VarHandle" ∧ (parseMethodDescriptor yX11_walk.desc).map (fun d => d.parameters.length) = some 4 := ⟨by decide +kernel, by decide +kernel, by decide +kernel⟩
theorem hq_X11_watched : yX11_watched.cls ≠ "java/lang/invoke/MethodHandle" ∧ yX11_watched.cls ≠ "java/lang/invoke/VarHandle" ∧ (parseMethodDescriptor yX11_watched.desc).map (fun d => d.parameters.length) = some 1 := ⟨by decide +kernel, by decide +kernel, by decide +kernel⟩
theorem hq_X11_waterOfSquare : yX11_waterOfSquare.cls ≠ "java/lang/invoke/MethodHandle" ∧ yX11_waterOfSquare.cls ≠ "java/lang/invoke/VarHandle" ∧ (parseMethodDescriptor yX11_waterOfSquare.desc).map (fun d => d.parameters.length) = some 3 := ⟨by decide +kernel, by decide +kernel, by decide +kernel⟩
theorem hq_X11_went : yX11_went.cls ≠ "java/lang/invoke/MethodHandle" ∧ yX11_went.cls ≠ "java/lang/invoke/VarHandle" ∧ (parseMethodDescriptor yX11_went.desc).map (fun d => d.parameters.length) = some 1 := ⟨by decide +kernel, by decide +kernel, by decide +kernel⟩
theorem hq_X11_wet : yX11_wet.cls ≠ "java/lang/invoke/MethodHandle" ∧ yX11_wet.cls ≠ "java/lang/invoke/VarHandle" ∧ (parseMethodDescriptor yX11_wet.desc).map (fun d => d.parameters.length) = some 3 := ⟨by decide +kernel, by decide +kernel, by decide +kernel⟩
theorem hq_X11_where : yX11_where.cls ≠ "java/lang/invoke/MethodHandle" ∧ yX11_where.cls ≠ "java/lang/invoke/VarHandle" ∧ (parseMethodDescriptor yX11_where.desc).map (fun d => d.parameters.length) = some 3 := ⟨by decide +kernel, by decide +kernel, by decide +kernel⟩
theorem hq_X12_asks : yX12_asks.cls ≠ "java/lang/invoke/MethodHandle" ∧ yX12_asks.cls ≠ "java/lang/invoke/VarHandle" ∧ (parseMethodDescriptor yX12_asks.desc).map (fun d => d.parameters.length) = some 3 := ⟨by decide +kernel, by decide +kernel, by decide +kernel⟩
theorem hq_X12_bad : yX12_bad.cls ≠ "java/lang/invoke/MethodHandle" ∧ yX12_bad.cls ≠ "java/lang/invoke/VarHandle" ∧ (parseMethodDescriptor yX12_bad.desc).map (fun d => d.parameters.length) = some 1 := ⟨by decide +kernel, by decide +kernel, by decide +kernel⟩
theorem hq_X12_begin : yX12_begin.cls ≠ "java/lang/invoke/MethodHandle" ∧ yX12_begin.cls ≠ "java/lang/invoke/VarHandle" ∧ (parseMethodDescriptor yX12_begin.desc).map (fun d => d.parameters.length) = some 1 := ⟨by decide +kernel, by decide +kernel, by decide +kernel⟩
theorem hq_X12_begins : yX12_begins.cls ≠ "java/lang/invoke/MethodHandle" ∧ yX12_begins.cls ≠ "java/lang/invoke/VarHandle" ∧ (parseMethodDescriptor yX12_begins.desc).map (fun d => d.parameters.length) = some 3 := ⟨by decide +kernel, by decide +kernel, by decide +kernel⟩
theorem hq_X12_bench : yX12_bench.cls ≠ "java/lang/invoke/MethodHandle" ∧ yX12_bench.cls ≠ "java/lang/invoke/VarHandle" ∧ (parseMethodDescriptor yX12_bench.desc).map (fun d => d.parameters.length) = some 2 := ⟨by decide +kernel, by decide +kernel, by decide +kernel⟩
theorem hq_X12_beside : yX12_beside.cls ≠ "java/lang/invoke/MethodHandle" ∧ yX12_beside.cls ≠ "java/lang/invoke/VarHandle" ∧ (parseMethodDescriptor yX12_beside.desc).map (fun d => d.parameters.length) = some 2 := ⟨by decide +kernel, by decide +kernel, by decide +kernel⟩
theorem hq_X12_came : yX12_came.cls ≠ "java/lang/invoke/MethodHandle" ∧ yX12_came.cls ≠ "java/lang/invoke/VarHandle" ∧ (parseMethodDescriptor yX12_came.desc).map (fun d => d.parameters.length) = some 4 := ⟨by decide +kernel, by decide +kernel, by decide +kernel⟩
theorem hq_X12_cameAt : yX12_cameAt.cls ≠ "java/lang/invoke/MethodHandle" ∧ yX12_cameAt.cls ≠ "java/lang/invoke/VarHandle" ∧ (parseMethodDescriptor yX12_cameAt.desc).map (fun d => d.parameters.length) = some 1 := ⟨by decide +kernel, by decide +kernel, by decide +kernel⟩
theorem hq_X12_catcher : yX12_catcher.cls ≠ "java/lang/invoke/MethodHandle" ∧ yX12_catcher.cls ≠ "java/lang/invoke/VarHandle" ∧ (parseMethodDescriptor yX12_catcher.desc).map (fun d => d.parameters.length) = some 3 := ⟨by decide +kernel, by decide +kernel, by decide +kernel⟩
theorem hq_X12_cell : yX12_cell.cls ≠ "java/lang/invoke/MethodHandle" ∧ yX12_cell.cls ≠ "java/lang/invoke/VarHandle" ∧ (parseMethodDescriptor yX12_cell.desc).map (fun d => d.parameters.length) = some 3 := ⟨by decide +kernel, by decide +kernel, by decide +kernel⟩
theorem hq_X12_cells : yX12_cells.cls ≠ "java/lang/invoke/MethodHandle" ∧ yX12_cells.cls ≠ "java/lang/invoke/VarHandle" ∧ (parseMethodDescriptor yX12_cells.desc).map (fun d => d.parameters.length) = some 0 := ⟨by decide +kernel, by decide +kernel, by decide +kernel⟩
theorem hq_X12_clouded : yX12_clouded.cls ≠ "java/lang/invoke/MethodHandle" ∧ yX12_clouded.cls ≠ "java/lang/invoke/VarHandle" ∧ (parseMethodDescriptor yX12_clouded.desc).map (fun d => d.parameters.length) = some 1 := ⟨by decide +kernel, by decide +kernel, by decide +kernel⟩
theorem hq_X12_clouds : yX12_clouds.cls ≠ "java/lang/invoke/MethodHandle" ∧ yX12_clouds.cls ≠ "java/lang/invoke/VarHandle" ∧ (parseMethodDescriptor yX12_clouds.desc).map (fun d => d.parameters.length) = some 1 := ⟨by decide +kernel, by decide +kernel, by decide +kernel⟩
theorem hq_X12_count : yX12_count.cls ≠ "java/lang/invoke/MethodHandle" ∧ yX12_count.cls ≠ "java/lang/invoke/VarHandle" ∧ (parseMethodDescriptor yX12_count.desc).map (fun d => d.parameters.length) = some 1 := ⟨by decide +kernel, by decide +kernel, by decide +kernel⟩
theorem hq_X12_does : yX12_does.cls ≠ "java/lang/invoke/MethodHandle" ∧ yX12_does.cls ≠ "java/lang/invoke/VarHandle" ∧ (parseMethodDescriptor yX12_does.desc).map (fun d => d.parameters.length) = some 2 := ⟨by decide +kernel, by decide +kernel, by decide +kernel⟩
theorem hq_X12_draw : yX12_draw.cls ≠ "java/lang/invoke/MethodHandle" ∧ yX12_draw.cls ≠ "java/lang/invoke/VarHandle" ∧ (parseMethodDescriptor yX12_draw.desc).map (fun d => d.parameters.length) = some 1 := ⟨by decide +kernel, by decide +kernel, by decide +kernel⟩
theorem hq_X12_drawn : yX12_drawn.cls ≠ "java/lang/invoke/MethodHandle" ∧ yX12_drawn.cls ≠ "java/lang/invoke/VarHandle" ∧ (parseMethodDescriptor yX12_drawn.desc).map (fun d => d.parameters.length) = some 5 := ⟨by decide +kernel, by decide +kernel, by decide +kernel⟩
theorem hq_X12_drawnBy : yX12_drawnBy.cls ≠ "java/lang/invoke/MethodHandle" ∧ yX12_drawnBy.cls ≠ "java/lang/invoke/VarHandle" ∧ (parseMethodDescriptor yX12_drawnBy.desc).map (fun d => d.parameters.length) = some 1 := ⟨by decide +kernel, by decide +kernel, by decide +kernel⟩
theorem hq_X12_driest : yX12_driest.cls ≠ "java/lang/invoke/MethodHandle" ∧ yX12_driest.cls ≠ "java/lang/invoke/VarHandle" ∧ (parseMethodDescriptor yX12_driest.desc).map (fun d => d.parameters.length) = some 2 := ⟨by decide +kernel, by decide +kernel, by decide +kernel⟩
theorem hq_X12_end : yX12_end.cls ≠ "java/lang/invoke/MethodHandle" ∧ yX12_end.cls ≠ "java/lang/invoke/VarHandle" ∧ (parseMethodDescriptor yX12_end.desc).map (fun d => d.parameters.length) = some 1 := ⟨by decide +kernel, by decide +kernel, by decide +kernel⟩
theorem hq_X12_fault : yX12_fault.cls ≠ "java/lang/invoke/MethodHandle" ∧ yX12_fault.cls ≠ "java/lang/invoke/VarHandle" ∧ (parseMethodDescriptor yX12_fault.desc).map (fun d => d.parameters.length) = some 0 := ⟨by decide +kernel, by decide +kernel, by decide +kernel⟩
theorem hq_X12_feed : yX12_feed.cls ≠ "java/lang/invoke/MethodHandle" ∧ yX12_feed.cls ≠ "java/lang/invoke/VarHandle" ∧ (parseMethodDescriptor yX12_feed.desc).map (fun d => d.parameters.length) = some 5 := ⟨by decide +kernel, by decide +kernel, by decide +kernel⟩
theorem hq_X12_four : yX12_four.cls ≠ "java/lang/invoke/MethodHandle" ∧ yX12_four.cls ≠ "java/lang/invoke/VarHandle" ∧ (parseMethodDescriptor yX12_four.desc).map (fun d => d.parameters.length) = some 1 := ⟨by decide +kernel, by decide +kernel, by decide +kernel⟩
theorem hq_X12_frost : yX12_frost.cls ≠ "java/lang/invoke/MethodHandle" ∧ yX12_frost.cls ≠ "java/lang/invoke/VarHandle" ∧ (parseMethodDescriptor yX12_frost.desc).map (fun d => d.parameters.length) = some 3 := ⟨by decide +kernel, by decide +kernel, by decide +kernel⟩
theorem hq_X12_go : yX12_go.cls ≠ "java/lang/invoke/MethodHandle" ∧ yX12_go.cls ≠ "java/lang/invoke/VarHandle" ∧ (parseMethodDescriptor yX12_go.desc).map (fun d => d.parameters.length) = some 1 := ⟨by decide +kernel, by decide +kernel, by decide +kernel⟩
theorem hq_X12_gone : yX12_gone.cls ≠ "java/lang/invoke/MethodHandle" ∧ yX12_gone.cls ≠ "java/lang/invoke/VarHandle" ∧ (parseMethodDescriptor yX12_gone.desc).map (fun d => d.parameters.length) = some 3 := ⟨by decide +kernel, by decide +kernel, by decide +kernel⟩
theorem hq_X12_ground : yX12_ground.cls ≠ "java/lang/invoke/MethodHandle" ∧ yX12_ground.cls ≠ "java/lang/invoke/VarHandle" ∧ (parseMethodDescriptor yX12_ground.desc).map (fun d => d.parameters.length) = some 0 := ⟨by decide +kernel, by decide +kernel, by decide +kernel⟩
theorem hq_X12_groundLine : yX12_groundLine.cls ≠ "java/lang/invoke/MethodHandle" ∧ yX12_groundLine.cls ≠ "java/lang/invoke/VarHandle" ∧ (parseMethodDescriptor yX12_groundLine.desc).map (fun d => d.parameters.length) = some 0 := ⟨by decide +kernel, by decide +kernel, by decide +kernel⟩
theorem hq_X12_has : yX12_has.cls ≠ "java/lang/invoke/MethodHandle" ∧ yX12_has.cls ≠ "java/lang/invoke/VarHandle" ∧ (parseMethodDescriptor yX12_has.desc).map (fun d => d.parameters.length) = some 2 := ⟨by decide +kernel, by decide +kernel, by decide +kernel⟩
theorem hq_X12_hay : yX12_hay.cls ≠ "java/lang/invoke/MethodHandle" ∧ yX12_hay.cls ≠ "java/lang/invoke/VarHandle" ∧ (parseMethodDescriptor yX12_hay.desc).map (fun d => d.parameters.length) = some 2 := ⟨by decide +kernel, by decide +kernel, by decide +kernel⟩
theorem hq_X12_image : yX12_image.cls ≠ "java/lang/invoke/MethodHandle" ∧ yX12_image.cls ≠ "java/lang/invoke/VarHandle" ∧ (parseMethodDescriptor yX12_image.desc).map (fun d => d.parameters.length) = some 1 := ⟨by decide +kernel, by decide +kernel, by decide +kernel⟩
theorem hq_X12_init : yX12_init.cls ≠ "java/lang/invoke/MethodHandle" ∧ yX12_init.cls ≠ "java/lang/invoke/VarHandle" ∧ (parseMethodDescriptor yX12_init.desc).map (fun d => d.parameters.length) = some 0 := ⟨by decide +kernel, by decide +kernel, by decide +kernel⟩
theorem hq_X12_is : yX12_is.cls ≠ "java/lang/invoke/MethodHandle" ∧ yX12_is.cls ≠ "java/lang/invoke/VarHandle" ∧ (parseMethodDescriptor yX12_is.desc).map (fun d => d.parameters.length) = some 3 := ⟨by decide +kernel, by decide +kernel, by decide +kernel⟩
theorem hq_X12_isCell : yX12_isCell.cls ≠ "java/lang/invoke/MethodHandle" ∧ yX12_isCell.cls ≠ "java/lang/invoke/VarHandle" ∧ (parseMethodDescriptor yX12_isCell.desc).map (fun d => d.parameters.length) = some 2 := ⟨by decide +kernel, by decide +kernel, by decide +kernel⟩
theorem hq_X12_isDigit : yX12_isDigit.cls ≠ "java/lang/invoke/MethodHandle" ∧ yX12_isDigit.cls ≠ "java/lang/invoke/VarHandle" ∧ (parseMethodDescriptor yX12_isDigit.desc).map (fun d => d.parameters.length) = some 1 := ⟨by decide +kernel, by decide +kernel, by decide +kernel⟩
theorem hq_X12_isDry : yX12_isDry.cls ≠ "java/lang/invoke/MethodHandle" ∧ yX12_isDry.cls ≠ "java/lang/invoke/VarHandle" ∧ (parseMethodDescriptor yX12_isDry.desc).map (fun d => d.parameters.length) = some 3 := ⟨by decide +kernel, by decide +kernel, by decide +kernel⟩
theorem hq_X12_isIn : yX12_isIn.cls ≠ "java/lang/invoke/MethodHandle" ∧ yX12_isIn.cls ≠ "java/lang/invoke/VarHandle" ∧ (parseMethodDescriptor yX12_isIn.desc).map (fun d => d.parameters.length) = some 3 := ⟨by decide +kernel, by decide +kernel, by decide +kernel⟩
theorem hq_X12_isLawn : yX12_isLawn.cls ≠ "java/lang/invoke/MethodHandle" ∧ yX12_isLawn.cls ≠ "java/lang/invoke/VarHandle" ∧ (parseMethodDescriptor yX12_isLawn.desc).map (fun d => d.parameters.length) = some 0 := ⟨by decide +kernel, by decide +kernel, by decide +kernel⟩
theorem hq_X12_isName : yX12_isName.cls ≠ "java/lang/invoke/MethodHandle" ∧ yX12_isName.cls ≠ "java/lang/invoke/VarHandle" ∧ (parseMethodDescriptor yX12_isName.desc).map (fun d => d.parameters.length) = some 0 := ⟨by decide +kernel, by decide +kernel, by decide +kernel⟩
theorem hq_X12_isNight : yX12_isNight.cls ≠ "java/lang/invoke/MethodHandle" ∧ yX12_isNight.cls ≠ "java/lang/invoke/VarHandle" ∧ (parseMethodDescriptor yX12_isNight.desc).map (fun d => d.parameters.length) = some 1 := ⟨by decide +kernel, by decide +kernel, by decide +kernel⟩
theorem hq_X12_isSign : yX12_isSign.cls ≠ "java/lang/invoke/MethodHandle" ∧ yX12_isSign.cls ≠ "java/lang/invoke/VarHandle" ∧ (parseMethodDescriptor yX12_isSign.desc).map (fun d => d.parameters.length) = some 1 := ⟨by decide +kernel, by decide +kernel, by decide +kernel⟩
theorem hq_X12_isSmall : yX12_isSmall.cls ≠ "java/lang/invoke/MethodHandle" ∧ yX12_isSmall.cls ≠ "java/lang/invoke/VarHandle" ∧ (parseMethodDescriptor yX12_isSmall.desc).map (fun d => d.parameters.length) = some 1 := ⟨by decide +kernel, by decide +kernel, by decide +kernel⟩
theorem hq_X12_isStep : yX12_isStep.cls ≠ "java/lang/invoke/MethodHandle" ∧ yX12_isStep.cls ≠ "java/lang/invoke/VarHandle" ∧ (parseMethodDescriptor yX12_isStep.desc).map (fun d => d.parameters.length) = some 1 := ⟨by decide +kernel, by decide +kernel, by decide +kernel⟩
theorem hq_X12_isWord : yX12_isWord.cls ≠ "java/lang/invoke/MethodHandle" ∧ yX12_isWord.cls ≠ "java/lang/invoke/VarHandle" ∧ (parseMethodDescriptor yX12_isWord.desc).map (fun d => d.parameters.length) = some 1 := ⟨by decide +kernel, by decide +kernel, by decide +kernel⟩
theorem hq_X12_keeps : yX12_keeps.cls ≠ "java/lang/invoke/MethodHandle" ∧ yX12_keeps.cls ≠ "java/lang/invoke/VarHandle" ∧ (parseMethodDescriptor yX12_keeps.desc).map (fun d => d.parameters.length) = some 0 := ⟨by decide +kernel, by decide +kernel, by decide +kernel⟩
theorem hq_X12_lawn : yX12_lawn.cls ≠ "java/lang/invoke/MethodHandle" ∧ yX12_lawn.cls ≠ "java/lang/invoke/VarHandle" ∧ (parseMethodDescriptor yX12_lawn.desc).map (fun d => d.parameters.length) = some 0 := ⟨by decide +kernel, by decide +kernel, by decide +kernel⟩
theorem hq_X12_loads : yX12_loads.cls ≠ "java/lang/invoke/MethodHandle" ∧ yX12_loads.cls ≠ "java/lang/invoke/VarHandle" ∧ (parseMethodDescriptor yX12_loads.desc).map (fun d => d.parameters.length) = some 0 := ⟨by decide +kernel, by decide +kernel, by decide +kernel⟩
theorem hq_X12_much : yX12_much.cls ≠ "java/lang/invoke/MethodHandle" ∧ yX12_much.cls ≠ "java/lang/invoke/VarHandle" ∧ (parseMethodDescriptor yX12_much.desc).map (fun d => d.parameters.length) = some 4 := ⟨by decide +kernel, by decide +kernel, by decide +kernel⟩
theorem hq_X12_next : yX12_next.cls ≠ "java/lang/invoke/MethodHandle" ∧ yX12_next.cls ≠ "java/lang/invoke/VarHandle" ∧ (parseMethodDescriptor yX12_next.desc).map (fun d => d.parameters.length) = some 0 := ⟨by decide +kernel, by decide +kernel, by decide +kernel⟩
theorem hq_X12_night : yX12_night.cls ≠ "java/lang/invoke/MethodHandle" ∧ yX12_night.cls ≠ "java/lang/invoke/VarHandle" ∧ (parseMethodDescriptor yX12_night.desc).map (fun d => d.parameters.length) = some 1 := ⟨by decide +kernel, by decide +kernel, by decide +kernel⟩
theorem hq_X12_nightAt : yX12_nightAt.cls ≠ "java/lang/invoke/MethodHandle" ∧ yX12_nightAt.cls ≠ "java/lang/invoke/VarHandle" ∧ (parseMethodDescriptor yX12_nightAt.desc).map (fun d => d.parameters.length) = some 1 := ⟨by decide +kernel, by decide +kernel, by decide +kernel⟩
theorem hq_X12_nightLine : yX12_nightLine.cls ≠ "java/lang/invoke/MethodHandle" ∧ yX12_nightLine.cls ≠ "java/lang/invoke/VarHandle" ∧ (parseMethodDescriptor yX12_nightLine.desc).map (fun d => d.parameters.length) = some 0 := ⟨by decide +kernel, by decide +kernel, by decide +kernel⟩
theorem hq_X12_now : yX12_now.cls ≠ "java/lang/invoke/MethodHandle" ∧ yX12_now.cls ≠ "java/lang/invoke/VarHandle" ∧ (parseMethodDescriptor yX12_now.desc).map (fun d => d.parameters.length) = some 1 := ⟨by decide +kernel, by decide +kernel, by decide +kernel⟩
theorem hq_X12_numberOf : yX12_numberOf.cls ≠ "java/lang/invoke/MethodHandle" ∧ yX12_numberOf.cls ≠ "java/lang/invoke/VarHandle" ∧ (parseMethodDescriptor yX12_numberOf.desc).map (fun d => d.parameters.length) = some 2 := ⟨by decide +kernel, by decide +kernel, by decide +kernel⟩
theorem hq_X12_octet : yX12_octet.cls ≠ "java/lang/invoke/MethodHandle" ∧ yX12_octet.cls ≠ "java/lang/invoke/VarHandle" ∧ (parseMethodDescriptor yX12_octet.desc).map (fun d => d.parameters.length) = some 1 := ⟨by decide +kernel, by decide +kernel, by decide +kernel⟩
theorem hq_X12_on : yX12_on.cls ≠ "java/lang/invoke/MethodHandle" ∧ yX12_on.cls ≠ "java/lang/invoke/VarHandle" ∧ (parseMethodDescriptor yX12_on.desc).map (fun d => d.parameters.length) = some 1 := ⟨by decide +kernel, by decide +kernel, by decide +kernel⟩
theorem hq_X12_part : yX12_part.cls ≠ "java/lang/invoke/MethodHandle" ∧ yX12_part.cls ≠ "java/lang/invoke/VarHandle" ∧ (parseMethodDescriptor yX12_part.desc).map (fun d => d.parameters.length) = some 5 := ⟨by decide +kernel, by decide +kernel, by decide +kernel⟩
theorem hq_X12_peek : yX12_peek.cls ≠ "java/lang/invoke/MethodHandle" ∧ yX12_peek.cls ≠ "java/lang/invoke/VarHandle" ∧ (parseMethodDescriptor yX12_peek.desc).map (fun d => d.parameters.length) = some 0 := ⟨by decide +kernel, by decide +kernel, by decide +kernel⟩
theorem hq_X12_plan : yX12_plan.cls ≠ "java/lang/invoke/MethodHandle" ∧ yX12_plan.cls ≠ "java/lang/invoke/VarHandle" ∧ (parseMethodDescriptor yX12_plan.desc).map (fun d => d.parameters.length) = some 0 := ⟨by decide +kernel, by decide +kernel, by decide +kernel⟩
theorem hq_X12_planLine : yX12_planLine.cls ≠ "java/lang/invoke/MethodHandle" ∧ yX12_planLine.cls ≠ "java/lang/invoke/VarHandle" ∧ (parseMethodDescriptor yX12_planLine.desc).map (fun d => d.parameters.length) = some 0 := ⟨by decide +kernel, by decide +kernel, by decide +kernel⟩
theorem hq_X12_readKind : yX12_readKind.cls ≠ "java/lang/invoke/MethodHandle" ∧ yX12_readKind.cls ≠ "java/lang/invoke/VarHandle" ∧ (parseMethodDescriptor yX12_readKind.desc).map (fun d => d.parameters.length) = some 0 := ⟨by decide +kernel, by decide +kernel, by decide +kernel⟩
theorem hq_X12_readRow : yX12_readRow.cls ≠ "java/lang/invoke/MethodHandle" ∧ yX12_readRow.cls ≠ "java/lang/invoke/VarHandle" ∧ (parseMethodDescriptor yX12_readRow.desc).map (fun d => d.parameters.length) = some 0 := ⟨by decide +kernel, by decide +kernel, by decide +kernel⟩
theorem hq_X12_restore : yX12_restore.cls ≠ "java/lang/invoke/MethodHandle" ∧ yX12_restore.cls ≠ "java/lang/invoke/VarHandle" ∧ (parseMethodDescriptor yX12_restore.desc).map (fun d => d.parameters.length) = some 1 := ⟨by decide +kernel, by decide +kernel, by decide +kernel⟩
theorem hq_X12_roof : yX12_roof.cls ≠ "java/lang/invoke/MethodHandle" ∧ yX12_roof.cls ≠ "java/lang/invoke/VarHandle" ∧ (parseMethodDescriptor yX12_roof.desc).map (fun d => d.parameters.length) = some 3 := ⟨by decide +kernel, by decide +kernel, by decide +kernel⟩
theorem hq_X12_sees : yX12_sees.cls ≠ "java/lang/invoke/MethodHandle" ∧ yX12_sees.cls ≠ "java/lang/invoke/VarHandle" ∧ (parseMethodDescriptor yX12_sees.desc).map (fun d => d.parameters.length) = some 1 := ⟨by decide +kernel, by decide +kernel, by decide +kernel⟩
theorem hq_X12_sick : yX12_sick.cls ≠ "java/lang/invoke/MethodHandle" ∧ yX12_sick.cls ≠ "java/lang/invoke/VarHandle" ∧ (parseMethodDescriptor yX12_sick.desc).map (fun d => d.parameters.length) = some 2 := ⟨by decide +kernel, by decide +kernel, by decide +kernel⟩
theorem hq_X12_sign : yX12_sign.cls ≠ "java/lang/invoke/MethodHandle" ∧ yX12_sign.cls ≠ "java/lang/invoke/VarHandle" ∧ (parseMethodDescriptor yX12_sign.desc).map (fun d => d.parameters.length) = some 1 := ⟨by decide +kernel, by decide +kernel, by decide +kernel⟩
theorem hq_X12_sky : yX12_sky.cls ≠ "java/lang/invoke/MethodHandle" ∧ yX12_sky.cls ≠ "java/lang/invoke/VarHandle" ∧ (parseMethodDescriptor yX12_sky.desc).map (fun d => d.parameters.length) = some 3 := ⟨by decide +kernel, by decide +kernel, by decide +kernel⟩
theorem hq_X12_skyOf : yX12_skyOf.cls ≠ "java/lang/invoke/MethodHandle" ∧ yX12_skyOf.cls ≠ "java/lang/invoke/VarHandle" ∧ (parseMethodDescriptor yX12_skyOf.desc).map (fun d => d.parameters.length) = some 1 := ⟨by decide +kernel, by decide +kernel, by decide +kernel⟩
theorem hq_X12_slugs : yX12_slugs.cls ≠ "java/lang/invoke/MethodHandle" ∧ yX12_slugs.cls ≠ "java/lang/invoke/VarHandle" ∧ (parseMethodDescriptor yX12_slugs.desc).map (fun d => d.parameters.length) = some 4 := ⟨by decide +kernel, by decide +kernel, by decide +kernel⟩
theorem hq_X12_spell : yX12_spell.cls ≠ "java/lang/invoke/MethodHandle" ∧ yX12_spell.cls ≠ "java/lang/invoke/VarHandle" ∧ (parseMethodDescriptor yX12_spell.desc).map (fun d => d.parameters.length) = some 3 := ⟨by decide +kernel, by decide +kernel, by decide +kernel⟩
theorem hq_X12_start : yX12_start.cls ≠ "java/lang/invoke/MethodHandle" ∧ yX12_start.cls ≠ "java/lang/invoke/VarHandle" ∧ (parseMethodDescriptor yX12_start.desc).map (fun d => d.parameters.length) = some 2 := ⟨by decide +kernel, by decide +kernel, by decide +kernel⟩
theorem hq_X12_step : yX12_step.cls ≠ "java/lang/invoke/MethodHandle" ∧ yX12_step.cls ≠ "java/lang/invoke/VarHandle" ∧ (parseMethodDescriptor yX12_step.desc).map (fun d => d.parameters.length) = some 1 := ⟨by decide +kernel, by decide +kernel, by decide +kernel⟩
theorem hq_X12_story : yX12_story.cls ≠ "java/lang/invoke/MethodHandle" ∧ yX12_story.cls ≠ "java/lang/invoke/VarHandle" ∧ (parseMethodDescriptor yX12_story.desc).map (fun d => d.parameters.length) = some 5 := ⟨by decide +kernel, by decide +kernel, by decide +kernel⟩
theorem hq_X12_taken : yX12_taken.cls ≠ "java/lang/invoke/MethodHandle" ∧ yX12_taken.cls ≠ "java/lang/invoke/VarHandle" ∧ (parseMethodDescriptor yX12_taken.desc).map (fun d => d.parameters.length) = some 1 := ⟨by decide +kernel, by decide +kernel, by decide +kernel⟩
theorem hq_X12_takes : yX12_takes.cls ≠ "java/lang/invoke/MethodHandle" ∧ yX12_takes.cls ≠ "java/lang/invoke/VarHandle" ∧ (parseMethodDescriptor yX12_takes.desc).map (fun d => d.parameters.length) = some 2 := ⟨by decide +kernel, by decide +kernel, by decide +kernel⟩
theorem hq_X12_takesLawn : yX12_takesLawn.cls ≠ "java/lang/invoke/MethodHandle" ∧ yX12_takesLawn.cls ≠ "java/lang/invoke/VarHandle" ∧ (parseMethodDescriptor yX12_takesLawn.desc).map (fun d => d.parameters.length) = some 0 := ⟨by decide +kernel, by decide +kernel, by decide +kernel⟩
theorem hq_X12_through : yX12_through.cls ≠ "java/lang/invoke/MethodHandle" ∧ yX12_through.cls ≠ "java/lang/invoke/VarHandle" ∧ (parseMethodDescriptor yX12_through.desc).map (fun d => d.parameters.length) = some 3 := ⟨by decide +kernel, by decide +kernel, by decide +kernel⟩
theorem hq_X12_throwsIf : yX12_throwsIf.cls ≠ "java/lang/invoke/MethodHandle" ∧ yX12_throwsIf.cls ≠ "java/lang/invoke/VarHandle" ∧ (parseMethodDescriptor yX12_throwsIf.desc).map (fun d => d.parameters.length) = some 1 := ⟨by decide +kernel, by decide +kernel, by decide +kernel⟩
theorem hq_X12_timesOf : yX12_timesOf.cls ≠ "java/lang/invoke/MethodHandle" ∧ yX12_timesOf.cls ≠ "java/lang/invoke/VarHandle" ∧ (parseMethodDescriptor yX12_timesOf.desc).map (fun d => d.parameters.length) = some 3 := ⟨by decide +kernel, by decide +kernel, by decide +kernel⟩
theorem hq_X12_tries : yX12_tries.cls ≠ "java/lang/invoke/MethodHandle" ∧ yX12_tries.cls ≠ "java/lang/invoke/VarHandle" ∧ (parseMethodDescriptor yX12_tries.desc).map (fun d => d.parameters.length) = some 2 := ⟨by decide +kernel, by decide +kernel, by decide +kernel⟩
theorem hq_X12_unlike : yX12_unlike.cls ≠ "java/lang/invoke/MethodHandle" ∧ yX12_unlike.cls ≠ "java/lang/invoke/VarHandle" ∧ (parseMethodDescriptor yX12_unlike.desc).map (fun d => d.parameters.length) = some 2 := ⟨by decide +kernel, by decide +kernel, by decide +kernel⟩
theorem hq_X12_walk : yX12_walk.cls ≠ "java/lang/invoke/MethodHandle" ∧ yX12_walk.cls ≠ "java/lang/invoke/VarHandle" ∧ (parseMethodDescriptor yX12_walk.desc).map (fun d => d.parameters.length) = some 4 := ⟨by decide +kernel, by decide +kernel, by decide +kernel⟩
theorem hq_X12_went : yX12_went.cls ≠ "java/lang/invoke/MethodHandle" ∧ yX12_went.cls ≠ "java/lang/invoke/VarHandle" ∧ (parseMethodDescriptor yX12_went.desc).map (fun d => d.parameters.length) = some 1 := ⟨by decide +kernel, by decide +kernel, by decide +kernel⟩
theorem hq_X12_wet : yX12_wet.cls ≠ "java/lang/invoke/MethodHandle" ∧ yX12_wet.cls ≠ "java/lang/invoke/VarHandle" ∧ (parseMethodDescriptor yX12_wet.desc).map (fun d => d.parameters.length) = some 3 := ⟨by decide +kernel, by decide +kernel, by decide +kernel⟩
theorem hq_X12_wets : yX12_wets.cls ≠ "java/lang/invoke/MethodHandle" ∧ yX12_wets.cls ≠ "java/lang/invoke/VarHandle" ∧ (parseMethodDescriptor yX12_wets.desc).map (fun d => d.parameters.length) = some 4 := ⟨by decide +kernel, by decide +kernel, by decide +kernel⟩
theorem hq_X12_where : yX12_where.cls ≠ "java/lang/invoke/MethodHandle" ∧ yX12_where.cls ≠ "java/lang/invoke/VarHandle" ∧ (parseMethodDescriptor yX12_where.desc).map (fun d => d.parameters.length) = some 3 := ⟨by decide +kernel, by decide +kernel, by decide +kernel⟩
theorem hq_X1_hiddenAt : yX1_hiddenAt.cls ≠ "java/lang/invoke/MethodHandle" ∧ yX1_hiddenAt.cls ≠ "java/lang/invoke/VarHandle" ∧ (parseMethodDescriptor yX1_hiddenAt.desc).map (fun d => d.parameters.length) = some 2 := ⟨by decide +kernel, by decide +kernel, by decide +kernel⟩
theorem hq_X1_init : yX1_init.cls ≠ "java/lang/invoke/MethodHandle" ∧ yX1_init.cls ≠ "java/lang/invoke/VarHandle" ∧ (parseMethodDescriptor yX1_init.desc).map (fun d => d.parameters.length) = some 0 := ⟨by decide +kernel, by decide +kernel, by decide +kernel⟩
theorem hq_X1_isNewName : yX1_isNewName.cls ≠ "java/lang/invoke/MethodHandle" ∧ yX1_isNewName.cls ≠ "java/lang/invoke/VarHandle" ∧ (parseMethodDescriptor yX1_isNewName.desc).map (fun d => d.parameters.length) = some 2 := ⟨by decide +kernel, by decide +kernel, by decide +kernel⟩
theorem hq_X1_readKind : yX1_readKind.cls ≠ "java/lang/invoke/MethodHandle" ∧ yX1_readKind.cls ≠ "java/lang/invoke/VarHandle" ∧ (parseMethodDescriptor yX1_readKind.desc).map (fun d => d.parameters.length) = some 1 := ⟨by decide +kernel, by decide +kernel, by decide +kernel⟩
theorem hq_X1_readLine : yX1_readLine.cls ≠ "java/lang/invoke/MethodHandle" ∧ yX1_readLine.cls ≠ "java/lang/invoke/VarHandle" ∧ (parseMethodDescriptor yX1_readLine.desc).map (fun d => d.parameters.length) = some 1 := ⟨by decide +kernel, by decide +kernel, by decide +kernel⟩
theorem hq_X1_readRow : yX1_readRow.cls ≠ "java/lang/invoke/MethodHandle" ∧ yX1_readRow.cls ≠ "java/lang/invoke/VarHandle" ∧ (parseMethodDescriptor yX1_readRow.desc).map (fun d => d.parameters.length) = some 1 := ⟨by decide +kernel, by decide +kernel, by decide +kernel⟩
theorem hq_X1_readShade : yX1_readShade.cls ≠ "java/lang/invoke/MethodHandle" ∧ yX1_readShade.cls ≠ "java/lang/invoke/VarHandle" ∧ (parseMethodDescriptor yX1_readShade.desc).map (fun d => d.parameters.length) = some 1 := ⟨by decide +kernel, by decide +kernel, by decide +kernel⟩
theorem hq_X1_readStock : yX1_readStock.cls ≠ "java/lang/invoke/MethodHandle" ∧ yX1_readStock.cls ≠ "java/lang/invoke/VarHandle" ∧ (parseMethodDescriptor yX1_readStock.desc).map (fun d => d.parameters.length) = some 1 := ⟨by decide +kernel, by decide +kernel, by decide +kernel⟩
theorem hq_X1_readText : yX1_readText.cls ≠ "java/lang/invoke/MethodHandle" ∧ yX1_readText.cls ≠ "java/lang/invoke/VarHandle" ∧ (parseMethodDescriptor yX1_readText.desc).map (fun d => d.parameters.length) = some 1 := ⟨by decide +kernel, by decide +kernel, by decide +kernel⟩
theorem hq_X1_setSky : yX1_setSky.cls ≠ "java/lang/invoke/MethodHandle" ∧ yX1_setSky.cls ≠ "java/lang/invoke/VarHandle" ∧ (parseMethodDescriptor yX1_setSky.desc).map (fun d => d.parameters.length) = some 0 := ⟨by decide +kernel, by decide +kernel, by decide +kernel⟩
theorem hq_X2_clear : yX2_clear.cls ≠ "java/lang/invoke/MethodHandle" ∧ yX2_clear.cls ≠ "java/lang/invoke/VarHandle" ∧ (parseMethodDescriptor yX2_clear.desc).map (fun d => d.parameters.length) = some 0 := ⟨by decide +kernel, by decide +kernel, by decide +kernel⟩
theorem hq_X2_copyFrom : yX2_copyFrom.cls ≠ "java/lang/invoke/MethodHandle" ∧ yX2_copyFrom.cls ≠ "java/lang/invoke/VarHandle" ∧ (parseMethodDescriptor yX2_copyFrom.desc).map (fun d => d.parameters.length) = some 1 := ⟨by decide +kernel, by decide +kernel, by decide +kernel⟩
theorem hq_X2_init : yX2_init.cls ≠ "java/lang/invoke/MethodHandle" ∧ yX2_init.cls ≠ "java/lang/invoke/VarHandle" ∧ (parseMethodDescriptor yX2_init.desc).map (fun d => d.parameters.length) = some 0 := ⟨by decide +kernel, by decide +kernel, by decide +kernel⟩
theorem hq_X2_set : yX2_set.cls ≠ "java/lang/invoke/MethodHandle" ∧ yX2_set.cls ≠ "java/lang/invoke/VarHandle" ∧ (parseMethodDescriptor yX2_set.desc).map (fun d => d.parameters.length) = some 3 := ⟨by decide +kernel, by decide +kernel, by decide +kernel⟩
theorem hq_X2_tell : yX2_tell.cls ≠ "java/lang/invoke/MethodHandle" ∧ yX2_tell.cls ≠ "java/lang/invoke/VarHandle" ∧ (parseMethodDescriptor yX2_tell.desc).map (fun d => d.parameters.length) = some 2 := ⟨by decide +kernel, by decide +kernel, by decide +kernel⟩
theorem hq_X3_init : yX3_init.cls ≠ "java/lang/invoke/MethodHandle" ∧ yX3_init.cls ≠ "java/lang/invoke/VarHandle" ∧ (parseMethodDescriptor yX3_init.desc).map (fun d => d.parameters.length) = some 0 := ⟨by decide +kernel, by decide +kernel, by decide +kernel⟩
theorem hq_X3_mostOf : yX3_mostOf.cls ≠ "java/lang/invoke/MethodHandle" ∧ yX3_mostOf.cls ≠ "java/lang/invoke/VarHandle" ∧ (parseMethodDescriptor yX3_mostOf.desc).map (fun d => d.parameters.length) = some 1 := ⟨by decide +kernel, by decide +kernel, by decide +kernel⟩
theorem hq_X3_readLine : yX3_readLine.cls ≠ "java/lang/invoke/MethodHandle" ∧ yX3_readLine.cls ≠ "java/lang/invoke/VarHandle" ∧ (parseMethodDescriptor yX3_readLine.desc).map (fun d => d.parameters.length) = some 2 := ⟨by decide +kernel, by decide +kernel, by decide +kernel⟩
theorem hq_X3_readText : yX3_readText.cls ≠ "java/lang/invoke/MethodHandle" ∧ yX3_readText.cls ≠ "java/lang/invoke/VarHandle" ∧ (parseMethodDescriptor yX3_readText.desc).map (fun d => d.parameters.length) = some 1 := ⟨by decide +kernel, by decide +kernel, by decide +kernel⟩
theorem hq_X3_whatIsTold : yX3_whatIsTold.cls ≠ "java/lang/invoke/MethodHandle" ∧ yX3_whatIsTold.cls ≠ "java/lang/invoke/VarHandle" ∧ (parseMethodDescriptor yX3_whatIsTold.desc).map (fun d => d.parameters.length) = some 1 := ⟨by decide +kernel, by decide +kernel, by decide +kernel⟩
theorem hq_X4_costAt : yX4_costAt.cls ≠ "java/lang/invoke/MethodHandle" ∧ yX4_costAt.cls ≠ "java/lang/invoke/VarHandle" ∧ (parseMethodDescriptor yX4_costAt.desc).map (fun d => d.parameters.length) = some 3 := ⟨by decide +kernel, by decide +kernel, by decide +kernel⟩
theorem hq_X4_init : yX4_init.cls ≠ "java/lang/invoke/MethodHandle" ∧ yX4_init.cls ≠ "java/lang/invoke/VarHandle" ∧ (parseMethodDescriptor yX4_init.desc).map (fun d => d.parameters.length) = some 0 := ⟨by decide +kernel, by decide +kernel, by decide +kernel⟩
theorem hq_X4_leastBeside : yX4_leastBeside.cls ≠ "java/lang/invoke/MethodHandle" ∧ yX4_leastBeside.cls ≠ "java/lang/invoke/VarHandle" ∧ (parseMethodDescriptor yX4_leastBeside.desc).map (fun d => d.parameters.length) = some 2 := ⟨by decide +kernel, by decide +kernel, by decide +kernel⟩
theorem hq_X4_leastWater : yX4_leastWater.cls ≠ "java/lang/invoke/MethodHandle" ∧ yX4_leastWater.cls ≠ "java/lang/invoke/VarHandle" ∧ (parseMethodDescriptor yX4_leastWater.desc).map (fun d => d.parameters.length) = some 4 := ⟨by decide +kernel, by decide +kernel, by decide +kernel⟩
theorem hq_X4_spread : yX4_spread.cls ≠ "java/lang/invoke/MethodHandle" ∧ yX4_spread.cls ≠ "java/lang/invoke/VarHandle" ∧ (parseMethodDescriptor yX4_spread.desc).map (fun d => d.parameters.length) = some 4 := ⟨by decide +kernel, by decide +kernel, by decide +kernel⟩
theorem hq_X4_wetAround : yX4_wetAround.cls ≠ "java/lang/invoke/MethodHandle" ∧ yX4_wetAround.cls ≠ "java/lang/invoke/VarHandle" ∧ (parseMethodDescriptor yX4_wetAround.desc).map (fun d => d.parameters.length) = some 3 := ⟨by decide +kernel, by decide +kernel, by decide +kernel⟩
theorem hq_X5_copyFrom : yX5_copyFrom.cls ≠ "java/lang/invoke/MethodHandle" ∧ yX5_copyFrom.cls ≠ "java/lang/invoke/VarHandle" ∧ (parseMethodDescriptor yX5_copyFrom.desc).map (fun d => d.parameters.length) = some 1 := ⟨by decide +kernel, by decide +kernel, by decide +kernel⟩
theorem hq_X5_init : yX5_init.cls ≠ "java/lang/invoke/MethodHandle" ∧ yX5_init.cls ≠ "java/lang/invoke/VarHandle" ∧ (parseMethodDescriptor yX5_init.desc).map (fun d => d.parameters.length) = some 0 := ⟨by decide +kernel, by decide +kernel, by decide +kernel⟩
theorem hq_X5_set : yX5_set.cls ≠ "java/lang/invoke/MethodHandle" ∧ yX5_set.cls ≠ "java/lang/invoke/VarHandle" ∧ (parseMethodDescriptor yX5_set.desc).map (fun d => d.parameters.length) = some 3 := ⟨by decide +kernel, by decide +kernel, by decide +kernel⟩
theorem hq_X5_tell : yX5_tell.cls ≠ "java/lang/invoke/MethodHandle" ∧ yX5_tell.cls ≠ "java/lang/invoke/VarHandle" ∧ (parseMethodDescriptor yX5_tell.desc).map (fun d => d.parameters.length) = some 2 := ⟨by decide +kernel, by decide +kernel, by decide +kernel⟩
theorem hq_X6_init : yX6_init.cls ≠ "java/lang/invoke/MethodHandle" ∧ yX6_init.cls ≠ "java/lang/invoke/VarHandle" ∧ (parseMethodDescriptor yX6_init.desc).map (fun d => d.parameters.length) = some 0 := ⟨by decide +kernel, by decide +kernel, by decide +kernel⟩
theorem hq_X6_readLine : yX6_readLine.cls ≠ "java/lang/invoke/MethodHandle" ∧ yX6_readLine.cls ≠ "java/lang/invoke/VarHandle" ∧ (parseMethodDescriptor yX6_readLine.desc).map (fun d => d.parameters.length) = some 3 := ⟨by decide +kernel, by decide +kernel, by decide +kernel⟩
theorem hq_X6_readText : yX6_readText.cls ≠ "java/lang/invoke/MethodHandle" ∧ yX6_readText.cls ≠ "java/lang/invoke/VarHandle" ∧ (parseMethodDescriptor yX6_readText.desc).map (fun d => d.parameters.length) = some 2 := ⟨by decide +kernel, by decide +kernel, by decide +kernel⟩
theorem hq_X6_whatIsDone : yX6_whatIsDone.cls ≠ "java/lang/invoke/MethodHandle" ∧ yX6_whatIsDone.cls ≠ "java/lang/invoke/VarHandle" ∧ (parseMethodDescriptor yX6_whatIsDone.desc).map (fun d => d.parameters.length) = some 1 := ⟨by decide +kernel, by decide +kernel, by decide +kernel⟩
theorem hq_X7_bare : yX7_bare.cls ≠ "java/lang/invoke/MethodHandle" ∧ yX7_bare.cls ≠ "java/lang/invoke/VarHandle" ∧ (parseMethodDescriptor yX7_bare.desc).map (fun d => d.parameters.length) = some 2 := ⟨by decide +kernel, by decide +kernel, by decide +kernel⟩
theorem hq_X7_comeOn : yX7_comeOn.cls ≠ "java/lang/invoke/MethodHandle" ∧ yX7_comeOn.cls ≠ "java/lang/invoke/VarHandle" ∧ (parseMethodDescriptor yX7_comeOn.desc).map (fun d => d.parameters.length) = some 3 := ⟨by decide +kernel, by decide +kernel, by decide +kernel⟩
theorem hq_X7_copyFrom : yX7_copyFrom.cls ≠ "java/lang/invoke/MethodHandle" ∧ yX7_copyFrom.cls ≠ "java/lang/invoke/VarHandle" ∧ (parseMethodDescriptor yX7_copyFrom.desc).map (fun d => d.parameters.length) = some 1 := ⟨by decide +kernel, by decide +kernel, by decide +kernel⟩
theorem hq_X7_cover : yX7_cover.cls ≠ "java/lang/invoke/MethodHandle" ∧ yX7_cover.cls ≠ "java/lang/invoke/VarHandle" ∧ (parseMethodDescriptor yX7_cover.desc).map (fun d => d.parameters.length) = some 1 := ⟨by decide +kernel, by decide +kernel, by decide +kernel⟩
theorem hq_X7_coveredCells : yX7_coveredCells.cls ≠ "java/lang/invoke/MethodHandle" ∧ yX7_coveredCells.cls ≠ "java/lang/invoke/VarHandle" ∧ (parseMethodDescriptor yX7_coveredCells.desc).map (fun d => d.parameters.length) = some 0 := ⟨by decide +kernel, by decide +kernel, by decide +kernel⟩
theorem hq_X7_dryOff : yX7_dryOff.cls ≠ "java/lang/invoke/MethodHandle" ∧ yX7_dryOff.cls ≠ "java/lang/invoke/VarHandle" ∧ (parseMethodDescriptor yX7_dryOff.desc).map (fun d => d.parameters.length) = some 3 := ⟨by decide +kernel, by decide +kernel, by decide +kernel⟩
theorem hq_X7_goBy : yX7_goBy.cls ≠ "java/lang/invoke/MethodHandle" ∧ yX7_goBy.cls ≠ "java/lang/invoke/VarHandle" ∧ (parseMethodDescriptor yX7_goBy.desc).map (fun d => d.parameters.length) = some 1 := ⟨by decide +kernel, by decide +kernel, by decide +kernel⟩
theorem hq_X7_has : yX7_has.cls ≠ "java/lang/invoke/MethodHandle" ∧ yX7_has.cls ≠ "java/lang/invoke/VarHandle" ∧ (parseMethodDescriptor yX7_has.desc).map (fun d => d.parameters.length) = some 1 := ⟨by decide +kernel, by decide +kernel, by decide +kernel⟩
theorem hq_X7_hideSky : yX7_hideSky.cls ≠ "java/lang/invoke/MethodHandle" ∧ yX7_hideSky.cls ≠ "java/lang/invoke/VarHandle" ∧ (parseMethodDescriptor yX7_hideSky.desc).map (fun d => d.parameters.length) = some 2 := ⟨by decide +kernel, by decide +kernel, by decide +kernel⟩
theorem hq_X7_init : yX7_init.cls ≠ "java/lang/invoke/MethodHandle" ∧ yX7_init.cls ≠ "java/lang/invoke/VarHandle" ∧ (parseMethodDescriptor yX7_init.desc).map (fun d => d.parameters.length) = some 0 := ⟨by decide +kernel, by decide +kernel, by decide +kernel⟩
theorem hq_X7_isUnlike : yX7_isUnlike.cls ≠ "java/lang/invoke/MethodHandle" ∧ yX7_isUnlike.cls ≠ "java/lang/invoke/VarHandle" ∧ (parseMethodDescriptor yX7_isUnlike.desc).map (fun d => d.parameters.length) = some 1 := ⟨by decide +kernel, by decide +kernel, by decide +kernel⟩
theorem hq_X7_setKind : yX7_setKind.cls ≠ "java/lang/invoke/MethodHandle" ∧ yX7_setKind.cls ≠ "java/lang/invoke/VarHandle" ∧ (parseMethodDescriptor yX7_setKind.desc).map (fun d => d.parameters.length) = some 3 := ⟨by decide +kernel, by decide +kernel, by decide +kernel⟩
theorem hq_X7_start : yX7_start.cls ≠ "java/lang/invoke/MethodHandle" ∧ yX7_start.cls ≠ "java/lang/invoke/VarHandle" ∧ (parseMethodDescriptor yX7_start.desc).map (fun d => d.parameters.length) = some 2 := ⟨by decide +kernel, by decide +kernel, by decide +kernel⟩
theorem hq_X7_staysDry : yX7_staysDry.cls ≠ "java/lang/invoke/MethodHandle" ∧ yX7_staysDry.cls ≠ "java/lang/invoke/VarHandle" ∧ (parseMethodDescriptor yX7_staysDry.desc).map (fun d => d.parameters.length) = some 1 := ⟨by decide +kernel, by decide +kernel, by decide +kernel⟩
theorem hq_X7_step : yX7_step.cls ≠ "java/lang/invoke/MethodHandle" ∧ yX7_step.cls ≠ "java/lang/invoke/VarHandle" ∧ (parseMethodDescriptor yX7_step.desc).map (fun d => d.parameters.length) = some 0 := ⟨by decide +kernel, by decide +kernel, by decide +kernel⟩
theorem hq_X7_until : yX7_until.cls ≠ "java/lang/invoke/MethodHandle" ∧ yX7_until.cls ≠ "java/lang/invoke/VarHandle" ∧ (parseMethodDescriptor yX7_until.desc).map (fun d => d.parameters.length) = some 1 := ⟨by decide +kernel, by decide +kernel, by decide +kernel⟩
theorem hq_X7_warmer : yX7_warmer.cls ≠ "java/lang/invoke/MethodHandle" ∧ yX7_warmer.cls ≠ "java/lang/invoke/VarHandle" ∧ (parseMethodDescriptor yX7_warmer.desc).map (fun d => d.parameters.length) = some 5 := ⟨by decide +kernel, by decide +kernel, by decide +kernel⟩
theorem hq_X7_warmthOf : yX7_warmthOf.cls ≠ "java/lang/invoke/MethodHandle" ∧ yX7_warmthOf.cls ≠ "java/lang/invoke/VarHandle" ∧ (parseMethodDescriptor yX7_warmthOf.desc).map (fun d => d.parameters.length) = some 1 := ⟨by decide +kernel, by decide +kernel, by decide +kernel⟩
theorem hq_X7_waterOf : yX7_waterOf.cls ≠ "java/lang/invoke/MethodHandle" ∧ yX7_waterOf.cls ≠ "java/lang/invoke/VarHandle" ∧ (parseMethodDescriptor yX7_waterOf.desc).map (fun d => d.parameters.length) = some 1 := ⟨by decide +kernel, by decide +kernel, by decide +kernel⟩
theorem hq_X7_waterOfAll : yX7_waterOfAll.cls ≠ "java/lang/invoke/MethodHandle" ∧ yX7_waterOfAll.cls ≠ "java/lang/invoke/VarHandle" ∧ (parseMethodDescriptor yX7_waterOfAll.desc).map (fun d => d.parameters.length) = some 0 := ⟨by decide +kernel, by decide +kernel, by decide +kernel⟩
theorem hq_X7_wetCells : yX7_wetCells.cls ≠ "java/lang/invoke/MethodHandle" ∧ yX7_wetCells.cls ≠ "java/lang/invoke/VarHandle" ∧ (parseMethodDescriptor yX7_wetCells.desc).map (fun d => d.parameters.length) = some 1 := ⟨by decide +kernel, by decide +kernel, by decide +kernel⟩
theorem hq_X7_wipe : yX7_wipe.cls ≠ "java/lang/invoke/MethodHandle" ∧ yX7_wipe.cls ≠ "java/lang/invoke/VarHandle" ∧ (parseMethodDescriptor yX7_wipe.desc).map (fun d => d.parameters.length) = some 1 := ⟨by decide +kernel, by decide +kernel, by decide +kernel⟩
theorem hq_X8_copyFrom : yX8_copyFrom.cls ≠ "java/lang/invoke/MethodHandle" ∧ yX8_copyFrom.cls ≠ "java/lang/invoke/VarHandle" ∧ (parseMethodDescriptor yX8_copyFrom.desc).map (fun d => d.parameters.length) = some 1 := ⟨by decide +kernel, by decide +kernel, by decide +kernel⟩
theorem hq_X8_init : yX8_init.cls ≠ "java/lang/invoke/MethodHandle" ∧ yX8_init.cls ≠ "java/lang/invoke/VarHandle" ∧ (parseMethodDescriptor yX8_init.desc).map (fun d => d.parameters.length) = some 0 := ⟨by decide +kernel, by decide +kernel, by decide +kernel⟩
theorem hq_X8_nightOf : yX8_nightOf.cls ≠ "java/lang/invoke/MethodHandle" ∧ yX8_nightOf.cls ≠ "java/lang/invoke/VarHandle" ∧ (parseMethodDescriptor yX8_nightOf.desc).map (fun d => d.parameters.length) = some 1 := ⟨by decide +kernel, by decide +kernel, by decide +kernel⟩
theorem hq_X8_slotsWithNight : yX8_slotsWithNight.cls ≠ "java/lang/invoke/MethodHandle" ∧ yX8_slotsWithNight.cls ≠ "java/lang/invoke/VarHandle" ∧ (parseMethodDescriptor yX8_slotsWithNight.desc).map (fun d => d.parameters.length) = some 0 := ⟨by decide +kernel, by decide +kernel, by decide +kernel⟩
theorem hq_X8_take : yX8_take.cls ≠ "java/lang/invoke/MethodHandle" ∧ yX8_take.cls ≠ "java/lang/invoke/VarHandle" ∧ (parseMethodDescriptor yX8_take.desc).map (fun d => d.parameters.length) = some 1 := ⟨by decide +kernel, by decide +kernel, by decide +kernel⟩
theorem hq_X9_add : yX9_add.cls ≠ "java/lang/invoke/MethodHandle" ∧ yX9_add.cls ≠ "java/lang/invoke/VarHandle" ∧ (parseMethodDescriptor yX9_add.desc).map (fun d => d.parameters.length) = some 1 := ⟨by decide +kernel, by decide +kernel, by decide +kernel⟩
theorem hq_X9_byteAt : yX9_byteAt.cls ≠ "java/lang/invoke/MethodHandle" ∧ yX9_byteAt.cls ≠ "java/lang/invoke/VarHandle" ∧ (parseMethodDescriptor yX9_byteAt.desc).map (fun d => d.parameters.length) = some 1 := ⟨by decide +kernel, by decide +kernel, by decide +kernel⟩
theorem hq_X9_fail : yX9_fail.cls ≠ "java/lang/invoke/MethodHandle" ∧ yX9_fail.cls ≠ "java/lang/invoke/VarHandle" ∧ (parseMethodDescriptor yX9_fail.desc).map (fun d => d.parameters.length) = some 1 := ⟨by decide +kernel, by decide +kernel, by decide +kernel⟩
theorem hq_X9_init : yX9_init.cls ≠ "java/lang/invoke/MethodHandle" ∧ yX9_init.cls ≠ "java/lang/invoke/VarHandle" ∧ (parseMethodDescriptor yX9_init.desc).map (fun d => d.parameters.length) = some 0 := ⟨by decide +kernel, by decide +kernel, by decide +kernel⟩
theorem hq_X9_open : yX9_open.cls ≠ "java/lang/invoke/MethodHandle" ∧ yX9_open.cls ≠ "java/lang/invoke/VarHandle" ∧ (parseMethodDescriptor yX9_open.desc).map (fun d => d.parameters.length) = some 1 := ⟨by decide +kernel, by decide +kernel, by decide +kernel⟩
theorem hq_X9_says : yX9_says.cls ≠ "java/lang/invoke/MethodHandle" ∧ yX9_says.cls ≠ "java/lang/invoke/VarHandle" ∧ (parseMethodDescriptor yX9_says.desc).map (fun d => d.parameters.length) = some 1 := ⟨by decide +kernel, by decide +kernel, by decide +kernel⟩
theorem hq_X9_saysAsAt : yX9_saysAsAt.cls ≠ "java/lang/invoke/MethodHandle" ∧ yX9_saysAsAt.cls ≠ "java/lang/invoke/VarHandle" ∧ (parseMethodDescriptor yX9_saysAsAt.desc).map (fun d => d.parameters.length) = some 2 := ⟨by decide +kernel, by decide +kernel, by decide +kernel⟩
theorem hq_X9_saysTold : yX9_saysTold.cls ≠ "java/lang/invoke/MethodHandle" ∧ yX9_saysTold.cls ≠ "java/lang/invoke/VarHandle" ∧ (parseMethodDescriptor yX9_saysTold.desc).map (fun d => d.parameters.length) = some 0 := ⟨by decide +kernel, by decide +kernel, by decide +kernel⟩
theorem hq_X9_take : yX9_take.cls ≠ "java/lang/invoke/MethodHandle" ∧ yX9_take.cls ≠ "java/lang/invoke/VarHandle" ∧ (parseMethodDescriptor yX9_take.desc).map (fun d => d.parameters.length) = some 0 := ⟨by decide +kernel, by decide +kernel, by decide +kernel⟩
theorem hq_X9_takeNumber : yX9_takeNumber.cls ≠ "java/lang/invoke/MethodHandle" ∧ yX9_takeNumber.cls ≠ "java/lang/invoke/VarHandle" ∧ (parseMethodDescriptor yX9_takeNumber.desc).map (fun d => d.parameters.length) = some 2 := ⟨by decide +kernel, by decide +kernel, by decide +kernel⟩
theorem hq_X9_takeStop : yX9_takeStop.cls ≠ "java/lang/invoke/MethodHandle" ∧ yX9_takeStop.cls ≠ "java/lang/invoke/VarHandle" ∧ (parseMethodDescriptor yX9_takeStop.desc).map (fun d => d.parameters.length) = some 0 := ⟨by decide +kernel, by decide +kernel, by decide +kernel⟩
theorem hq_X9_takeWord : yX9_takeWord.cls ≠ "java/lang/invoke/MethodHandle" ∧ yX9_takeWord.cls ≠ "java/lang/invoke/VarHandle" ∧ (parseMethodDescriptor yX9_takeWord.desc).map (fun d => d.parameters.length) = some 0 := ⟨by decide +kernel, by decide +kernel, by decide +kernel⟩
theorem hq_X9_takeWordOrNumber : yX9_takeWordOrNumber.cls ≠ "java/lang/invoke/MethodHandle" ∧ yX9_takeWordOrNumber.cls ≠ "java/lang/invoke/VarHandle" ∧ (parseMethodDescriptor yX9_takeWordOrNumber.desc).map (fun d => d.parameters.length) = some 0 := ⟨by decide +kernel, by decide +kernel, by decide +kernel⟩
theorem hq_X9_tokenSize : yX9_tokenSize.cls ≠ "java/lang/invoke/MethodHandle" ∧ yX9_tokenSize.cls ≠ "java/lang/invoke/VarHandle" ∧ (parseMethodDescriptor yX9_tokenSize.desc).map (fun d => d.parameters.length) = some 0 := ⟨by decide +kernel, by decide +kernel, by decide +kernel⟩
