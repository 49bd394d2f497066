/-! ===== programs as data: op, v, a, b, c, l ===== -/
abbrev dx_I : Type := Nat × Int × Nat × Nat × Nat × List Nat
def dx_bin (k nx : Nat) : dw_Op := match k with
  | 0 => o_iadd nx
  | 1 => o_isub nx
  | 2 => o_imul nx
  | 3 => o_iand nx
  | 4 => o_ior nx
  | 5 => o_ishl nx
  | 6 => o_ishr nx
  | 7 => o_iushr nx
  | 8 => o_idiv nx
  | 9 => o_irem nx
  | 10 => o_max nx
  | 11 => o_min nx
  | _ => o_no
def dx_un (k nx : Nat) : dw_Op := match k with
  | 0 => o_ineg nx
  | 1 => o_i2b nx
  | 2 => o_abs nx
  | _ => o_no
def dx_ic (c tg nx : Nat) : dw_Op := match c with
  | 0 => o_icmp_eq tg nx
  | 1 => o_icmp_ne tg nx
  | 2 => o_icmp_lt tg nx
  | 3 => o_icmp_ge tg nx
  | 4 => o_icmp_gt tg nx
  | 5 => o_icmp_le tg nx
  | _ => o_no
def dx_if (c tg nx : Nat) : dw_Op := match c with
  | 0 => o_if_eq tg nx
  | 1 => o_if_ne tg nx
  | 2 => o_if_lt tg nx
  | 3 => o_if_ge tg nx
  | 4 => o_if_gt tg nx
  | 5 => o_if_le tg nx
  | _ => o_no
def dx_pairs : List Nat → List (Int × Nat)
  | a :: b :: r => ((a : Int) - 2147483648, b) :: dx_pairs r
  | _ => []
def dx_ins (TT : Nat → dw_T) (K : dw_K) (i : dx_I) : dw_Op := match i with
  | (1, v, a, _, _, _) => o_ic (Int32.ofInt v) a
  | (2, v, a, _, _, _) => o_lc (Int64.ofInt v) a
  | (3, _, a, _, _, _) => o_nul a
  | (4, _, a, _, _, _) => o_goto a
  | (5, _, a, b, _, _) => o_ild a b
  | (6, _, a, b, _, _) => o_lld a b
  | (7, _, a, b, _, _) => o_ald a b
  | (8, _, a, b, _, _) => o_ist a b
  | (9, _, a, b, _, _) => o_ast a b
  | (10, v, a, b, _, _) => o_inc a (Int32.ofInt v) b
  | (11, _, a, _, _, _) => o_dup a
  | (12, _, a, _, _, _) => o_dup2 a
  | (13, _, a, _, _, _) => o_pop a
  | (14, _, a, b, _, _) => o_ifnull a b
  | (15, _, a, b, _, _) => o_ifnn a b
  | (16, v, a, _, _, l) => o_tab v (v + (l.length : Int) - 1) l a
  | (17, _, a, _, _, l) => o_look (dx_pairs l) a
  | (18, _, a, b, _, _) => dx_bin a b
  | (19, _, a, b, _, _) => dx_un a b
  | (20, _, a, _, _, _) => o_i2l a
  | (21, _, a, _, _, _) => o_lor a
  | (22, _, a, _, _, _) => o_lshl a
  | (23, _, a, _, _, _) => o_lcmp a
  | (24, _, a, b, c, _) => dx_ic a b c
  | (25, _, a, b, c, _) => dx_if a b c
  | (26, v, a, b, c, _) => o_getf a b v.toNat c
  | (27, v, a, b, c, _) => o_puti a b v.toNat c
  | (28, _, a, b, c, _) => o_putl a b c
  | (29, v, a, _, c, _) => o_xald a v.toNat c
  | (30, v, a, _, c, _) => o_iast a v.toNat c
  | (31, _, a, _, _, _) => o_last a
  | (32, _, a, _, _, _) => o_alen a
  | (33, _, a, _, _, _) => o_copy a
  | (34, _, _, _, _, _) => o_iret K
  | (35, _, _, _, _, _) => o_zret K
  | (36, _, _, _, _, _) => o_vret K
  | (37, _, _, _, _, _) => o_aret K
  | (38, v, a, b, c, _) => o_callV a b 0 0 (TT v.toNat) c
  | (39, v, a, _, c, _) => o_callS a 0 0 (TT v.toNat) c
  | (40, v, a, _, _, _) => o_str v.toNat a
  | _ => o_no
def dx_lf (k : Nat) (i : dx_I) : Nat → dx_I := fun pc => cond (Nat.beq pc k) i (0, 0, 0, 0, 0, [])
def dx_br (k : Nat) (a b : Nat → dx_I) : Nat → dx_I := fun pc => cond (Nat.ble k pc) (b pc) (a pc)
def dx_Is (TT : Nat → dw_T) (K : dw_K) (A : Nat → dw_Op) (a : Nat → dx_I) : Prop := ∀ pc, (a pc).1 = 0 ∨ A pc = dx_ins TT K (a pc)
theorem dx_is_lf {TT : Nat → dw_T} {K : dw_K} {k : Nat} {op : dw_Op} {i : dx_I} (h : op = dx_ins TT K i) : dx_Is TT K (dw_lf k op) (dx_lf k i) := by
  intro pc
  unfold dw_lf dx_lf
  cases Nat.beq pc k with
  | false => exact Or.inl rfl
  | true => exact Or.inr h
theorem dx_is_no {TT : Nat → dw_T} {K : dw_K} {k : Nat} {op : dw_Op} {i : dx_I} (h : i.1 = 0) : dx_Is TT K (dw_lf k op) (dx_lf k i) := by
  intro pc
  unfold dw_lf dx_lf
  cases Nat.beq pc k with
  | false => exact Or.inl rfl
  | true => exact Or.inl h
theorem dx_is_br {TT : Nat → dw_T} {K : dw_K} {k : Nat} {A B : Nat → dw_Op} {a b : Nat → dx_I} (h1 : dx_Is TT K A a) (h2 : dx_Is TT K B b) : dx_Is TT K (dw_br k A B) (dx_br k a b) := by
  intro pc
  unfold dw_br dx_br
  cases Nat.ble k pc with
  | false => exact h1 pc
  | true => exact h2 pc
