/-! ===== programs as data: op, v, a, b, c, l ===== -/
abbrev dx_I : Type := Nat × Int × Nat × Nat × Nat × List Nat
def dx_bin (k nx : Nat) : dw_Op := match k with
  | 0 => o_iadd nx
  | 1 => o_isub nx
  | 2 => o_imul nx
  | 3 => o_iand nx
  | 4 => o_ior nx
  | 5 => o_ishl nx
  | 6 => o_ishr nx
  | 7 => o_iushr nx
  | 8 => o_idiv nx
  | 9 => o_irem nx
  | 10 => o_max nx
  | 11 => o_min nx
  | _ => o_no
def dx_un (k nx : Nat) : dw_Op := match k with
  | 0 => o_ineg nx
  | 1 => o_i2b nx
  | 2 => o_abs nx
  | _ => o_no
def dx_ic (c tg nx : Nat) : dw_Op := match c with
  | 0 => o_icmp_eq tg nx
  | 1 => o_icmp_ne tg nx
  | 2 => o_icmp_lt tg nx
  | 3 => o_icmp_ge tg nx
  | 4 => o_icmp_gt tg nx
  | 5 => o_icmp_le tg nx
  | _ => o_no
def dx_if (c tg nx : Nat) : dw_Op := match c with
  | 0 => o_if_eq tg nx
  | 1 => o_if_ne tg nx
  | 2 => o_if_lt tg nx
  | 3 => o_if_ge tg nx
  | 4 => o_if_gt tg nx
  | 5 => o_if_le tg nx
  | _ => o_no
def dx_pairs : List Nat → List (Int × Nat)
  | a :: b :: r => ((a : Int) - 2147483648, b) :: dx_pairs r
  | _ => []
def dx_ins (TT : Nat → dw_T) (K : dw_K) (i : dx_I) : dw_Op := match i with
  | (1, v, a, _, _, _) => o_ic (Int32.ofInt v) a
  | (2, v, a, _, _, _) => o_lc (Int64.ofInt v) a
  | (3, _, a, _, _, _) => o_nul a
  | (4, _, a, _, _, _) => o_goto a
  | (5, _, a, b, _, _) => o_ild a b
  | (6, _, a, b, _, _) => o_lld a b
  | (7, _, a, b, _, _) => o_ald a b
  | (8, _, a, b, _, _) => o_ist a b
  | (9, _, a, b, _, _) => o_ast a b
  | (10, v, a, b, _, _) => o_inc a (Int32.ofInt v) b
  | (11, _, a, _, _, _) => o_dup a
  | (12, _, a, _, _, _) => o_dup2 a
  | (13, _, a, _, _, _) => o_pop a
  | (14, _, a, b, _, _) => o_ifnull a b
  | (15, _, a, b, _, _) => o_ifnn a b
  | (16, v, a, _, _, l) => o_tab v (v + (l.length : Int) - 1) l a
  | (17, _, a, _, _, l) => o_look (dx_pairs l) a
  | (18, _, a, b, _, _) => dx_bin a b
  | (19, _, a, b, _, _) => dx_un a b
  | (20, _, a, _, _, _) => o_i2l a
  | (21, _, a, _, _, _) => o_lor a
  | (22, _, a, _, _, _) => o_lshl a
  | (23, _, a, _, _, _) => o_lcmp a
  | (24, _, a, b, c, _) => dx_ic a b c
  | (25, _, a, b, c, _) => dx_if a b c
  | (26, v, a, b, c, _) => o_getf a b v.toNat c
  | (27, v, a, b, c, _) => o_puti a b v.toNat c
  | (28, _, a, b, c, _) => o_putl a b c
  | (29, v, a, _, c, _) => o_xald a v.toNat c
  | (30, v, a, _, c, _) => o_iast a v.toNat c
  | (31, _, a, _, _, _) => o_last a
  | (32, _, a, _, _, _) => o_alen a
  | (33, _, a, _, _, _) => o_copy a
  | (34, _, _, _, _, _) => o_iret K
  | (35, _, _, _, _, _) => o_zret K
  | (36, _, _, _, _, _) => o_vret K
  | (37, _, _, _, _, _) => o_aret K
  | (38, v, a, b, c, _) => o_callV a b 0 0 (TT v.toNat) c
  | (39, v, a, _, c, _) => o_callS a 0 0 (TT v.toNat) c
  | (40, v, a, _, _, _) => o_str v.toNat a
  | _ => o_no
def dx_lf (k : Nat) (i : dx_I) : Nat → dx_I := fun pc => cond (Nat.beq pc k) i (0, 0, 0, 0, 0, [])
def dx_br (k : Nat) (a b : Nat → dx_I) : Nat → dx_I := fun pc => cond (Nat.ble k pc) (b pc) (a pc)
def dx_Is (TT : Nat → dw_T) (K : dw_K) (A : Nat → dw_Op) (a : Nat → dx_I) : Prop := ∀ pc, (a pc).1 = 0 ∨ A pc = dx_ins TT K (a pc)
theorem dx_is_lf {TT : Nat → dw_T} {K : dw_K} {k : Nat} {op : dw_Op} {i : dx_I} (h : op = dx_ins TT K i) : dx_Is TT K (dw_lf k op) (dx_lf k i) := by
  intro pc
  unfold dw_lf dx_lf
  cases Nat.beq pc k with
  | false => exact Or.inl rfl
  | true => exact Or.inr h
theorem dx_is_no {TT : Nat → dw_T} {K : dw_K} {k : Nat} {op : dw_Op} {i : dx_I} (h : i.1 = 0) : dx_Is TT K (dw_lf k op) (dx_lf k i) := by
  intro pc
  unfold dw_lf dx_lf
  cases Nat.beq pc k with
  | false => exact Or.inl rfl
  | true => exact Or.inl h
theorem dx_is_br {TT : Nat → dw_T} {K : dw_K} {k : Nat} {A B : Nat → dw_Op} {a b : Nat → dx_I} (h1 : dx_Is TT K A a) (h2 : dx_Is TT K B b) : dx_Is TT K (dw_br k A B) (dx_br k a b) := by
  intro pc
  unfold dw_br dx_br
  cases Nat.ble k pc with
  | false => exact h1 pc
  | true => exact h2 pc
/-! ===== leaves told at once ===== -/
theorem il_4 {TT : Nat → dw_T} {K : dw_K} {k a : Nat} : dx_Is TT K (dw_lf k (o_goto a)) (dx_lf k (4, 0, a, 0, 0, [])) := dx_is_lf rfl
theorem il_11 {TT : Nat → dw_T} {K : dw_K} {k a : Nat} : dx_Is TT K (dw_lf k (o_dup a)) (dx_lf k (11, 0, a, 0, 0, [])) := dx_is_lf rfl
theorem il_12 {TT : Nat → dw_T} {K : dw_K} {k a : Nat} : dx_Is TT K (dw_lf k (o_dup2 a)) (dx_lf k (12, 0, a, 0, 0, [])) := dx_is_lf rfl
theorem il_13 {TT : Nat → dw_T} {K : dw_K} {k a : Nat} : dx_Is TT K (dw_lf k (o_pop a)) (dx_lf k (13, 0, a, 0, 0, [])) := dx_is_lf rfl
theorem il_20 {TT : Nat → dw_T} {K : dw_K} {k a : Nat} : dx_Is TT K (dw_lf k (o_i2l a)) (dx_lf k (20, 0, a, 0, 0, [])) := dx_is_lf rfl
theorem il_21 {TT : Nat → dw_T} {K : dw_K} {k a : Nat} : dx_Is TT K (dw_lf k (o_lor a)) (dx_lf k (21, 0, a, 0, 0, [])) := dx_is_lf rfl
theorem il_22 {TT : Nat → dw_T} {K : dw_K} {k a : Nat} : dx_Is TT K (dw_lf k (o_lshl a)) (dx_lf k (22, 0, a, 0, 0, [])) := dx_is_lf rfl
theorem il_23 {TT : Nat → dw_T} {K : dw_K} {k a : Nat} : dx_Is TT K (dw_lf k (o_lcmp a)) (dx_lf k (23, 0, a, 0, 0, [])) := dx_is_lf rfl
theorem il_31 {TT : Nat → dw_T} {K : dw_K} {k a : Nat} : dx_Is TT K (dw_lf k (o_last a)) (dx_lf k (31, 0, a, 0, 0, [])) := dx_is_lf rfl
theorem il_32 {TT : Nat → dw_T} {K : dw_K} {k a : Nat} : dx_Is TT K (dw_lf k (o_alen a)) (dx_lf k (32, 0, a, 0, 0, [])) := dx_is_lf rfl
theorem il_33 {TT : Nat → dw_T} {K : dw_K} {k a : Nat} : dx_Is TT K (dw_lf k (o_copy a)) (dx_lf k (33, 0, a, 0, 0, [])) := dx_is_lf rfl
theorem il_5 {TT : Nat → dw_T} {K : dw_K} {k a b : Nat} : dx_Is TT K (dw_lf k (o_ild a b)) (dx_lf k (5, 0, a, b, 0, [])) := dx_is_lf rfl
theorem il_6 {TT : Nat → dw_T} {K : dw_K} {k a b : Nat} : dx_Is TT K (dw_lf k (o_lld a b)) (dx_lf k (6, 0, a, b, 0, [])) := dx_is_lf rfl
theorem il_7 {TT : Nat → dw_T} {K : dw_K} {k a b : Nat} : dx_Is TT K (dw_lf k (o_ald a b)) (dx_lf k (7, 0, a, b, 0, [])) := dx_is_lf rfl
theorem il_8 {TT : Nat → dw_T} {K : dw_K} {k a b : Nat} : dx_Is TT K (dw_lf k (o_ist a b)) (dx_lf k (8, 0, a, b, 0, [])) := dx_is_lf rfl
theorem il_9 {TT : Nat → dw_T} {K : dw_K} {k a b : Nat} : dx_Is TT K (dw_lf k (o_ast a b)) (dx_lf k (9, 0, a, b, 0, [])) := dx_is_lf rfl
theorem il_14 {TT : Nat → dw_T} {K : dw_K} {k a b : Nat} : dx_Is TT K (dw_lf k (o_ifnull a b)) (dx_lf k (14, 0, a, b, 0, [])) := dx_is_lf rfl
theorem il_15 {TT : Nat → dw_T} {K : dw_K} {k a b : Nat} : dx_Is TT K (dw_lf k (o_ifnn a b)) (dx_lf k (15, 0, a, b, 0, [])) := dx_is_lf rfl
theorem il_18_0 {TT : Nat → dw_T} {K : dw_K} {k b : Nat} : dx_Is TT K (dw_lf k (o_iadd b)) (dx_lf k (18, 0, 0, b, 0, [])) := dx_is_lf rfl
theorem il_18_1 {TT : Nat → dw_T} {K : dw_K} {k b : Nat} : dx_Is TT K (dw_lf k (o_isub b)) (dx_lf k (18, 0, 1, b, 0, [])) := dx_is_lf rfl
theorem il_18_2 {TT : Nat → dw_T} {K : dw_K} {k b : Nat} : dx_Is TT K (dw_lf k (o_imul b)) (dx_lf k (18, 0, 2, b, 0, [])) := dx_is_lf rfl
theorem il_18_3 {TT : Nat → dw_T} {K : dw_K} {k b : Nat} : dx_Is TT K (dw_lf k (o_iand b)) (dx_lf k (18, 0, 3, b, 0, [])) := dx_is_lf rfl
theorem il_18_4 {TT : Nat → dw_T} {K : dw_K} {k b : Nat} : dx_Is TT K (dw_lf k (o_ior b)) (dx_lf k (18, 0, 4, b, 0, [])) := dx_is_lf rfl
theorem il_18_5 {TT : Nat → dw_T} {K : dw_K} {k b : Nat} : dx_Is TT K (dw_lf k (o_ishl b)) (dx_lf k (18, 0, 5, b, 0, [])) := dx_is_lf rfl
theorem il_18_6 {TT : Nat → dw_T} {K : dw_K} {k b : Nat} : dx_Is TT K (dw_lf k (o_ishr b)) (dx_lf k (18, 0, 6, b, 0, [])) := dx_is_lf rfl
theorem il_18_7 {TT : Nat → dw_T} {K : dw_K} {k b : Nat} : dx_Is TT K (dw_lf k (o_iushr b)) (dx_lf k (18, 0, 7, b, 0, [])) := dx_is_lf rfl
theorem il_18_8 {TT : Nat → dw_T} {K : dw_K} {k b : Nat} : dx_Is TT K (dw_lf k (o_idiv b)) (dx_lf k (18, 0, 8, b, 0, [])) := dx_is_lf rfl
theorem il_18_9 {TT : Nat → dw_T} {K : dw_K} {k b : Nat} : dx_Is TT K (dw_lf k (o_irem b)) (dx_lf k (18, 0, 9, b, 0, [])) := dx_is_lf rfl
theorem il_18_10 {TT : Nat → dw_T} {K : dw_K} {k b : Nat} : dx_Is TT K (dw_lf k (o_max b)) (dx_lf k (18, 0, 10, b, 0, [])) := dx_is_lf rfl
theorem il_18_11 {TT : Nat → dw_T} {K : dw_K} {k b : Nat} : dx_Is TT K (dw_lf k (o_min b)) (dx_lf k (18, 0, 11, b, 0, [])) := dx_is_lf rfl
theorem il_24_0 {TT : Nat → dw_T} {K : dw_K} {k b c : Nat} : dx_Is TT K (dw_lf k (o_icmp_eq b c)) (dx_lf k (24, 0, 0, b, c, [])) := dx_is_lf rfl
theorem il_25_0 {TT : Nat → dw_T} {K : dw_K} {k b c : Nat} : dx_Is TT K (dw_lf k (o_if_eq b c)) (dx_lf k (25, 0, 0, b, c, [])) := dx_is_lf rfl
theorem il_24_1 {TT : Nat → dw_T} {K : dw_K} {k b c : Nat} : dx_Is TT K (dw_lf k (o_icmp_ne b c)) (dx_lf k (24, 0, 1, b, c, [])) := dx_is_lf rfl
theorem il_25_1 {TT : Nat → dw_T} {K : dw_K} {k b c : Nat} : dx_Is TT K (dw_lf k (o_if_ne b c)) (dx_lf k (25, 0, 1, b, c, [])) := dx_is_lf rfl
theorem il_24_2 {TT : Nat → dw_T} {K : dw_K} {k b c : Nat} : dx_Is TT K (dw_lf k (o_icmp_lt b c)) (dx_lf k (24, 0, 2, b, c, [])) := dx_is_lf rfl
theorem il_25_2 {TT : Nat → dw_T} {K : dw_K} {k b c : Nat} : dx_Is TT K (dw_lf k (o_if_lt b c)) (dx_lf k (25, 0, 2, b, c, [])) := dx_is_lf rfl
theorem il_24_3 {TT : Nat → dw_T} {K : dw_K} {k b c : Nat} : dx_Is TT K (dw_lf k (o_icmp_ge b c)) (dx_lf k (24, 0, 3, b, c, [])) := dx_is_lf rfl
theorem il_25_3 {TT : Nat → dw_T} {K : dw_K} {k b c : Nat} : dx_Is TT K (dw_lf k (o_if_ge b c)) (dx_lf k (25, 0, 3, b, c, [])) := dx_is_lf rfl
theorem il_24_4 {TT : Nat → dw_T} {K : dw_K} {k b c : Nat} : dx_Is TT K (dw_lf k (o_icmp_gt b c)) (dx_lf k (24, 0, 4, b, c, [])) := dx_is_lf rfl
theorem il_25_4 {TT : Nat → dw_T} {K : dw_K} {k b c : Nat} : dx_Is TT K (dw_lf k (o_if_gt b c)) (dx_lf k (25, 0, 4, b, c, [])) := dx_is_lf rfl
theorem il_24_5 {TT : Nat → dw_T} {K : dw_K} {k b c : Nat} : dx_Is TT K (dw_lf k (o_icmp_le b c)) (dx_lf k (24, 0, 5, b, c, [])) := dx_is_lf rfl
theorem il_25_5 {TT : Nat → dw_T} {K : dw_K} {k b c : Nat} : dx_Is TT K (dw_lf k (o_if_le b c)) (dx_lf k (25, 0, 5, b, c, [])) := dx_is_lf rfl
theorem il_26_0 {TT : Nat → dw_T} {K : dw_K} {k a b c : Nat} : dx_Is TT K (dw_lf k (o_getf a b 0 c)) (dx_lf k (26, 0, a, b, c, [])) := dx_is_lf rfl
theorem il_27_0 {TT : Nat → dw_T} {K : dw_K} {k a b c : Nat} : dx_Is TT K (dw_lf k (o_puti a b 0 c)) (dx_lf k (27, 0, a, b, c, [])) := dx_is_lf rfl
theorem il_29_0 {TT : Nat → dw_T} {K : dw_K} {k a c : Nat} : dx_Is TT K (dw_lf k (o_xald a 0 c)) (dx_lf k (29, 0, a, 0, c, [])) := dx_is_lf rfl
theorem il_30_0 {TT : Nat → dw_T} {K : dw_K} {k a c : Nat} : dx_Is TT K (dw_lf k (o_iast a 0 c)) (dx_lf k (30, 0, a, 0, c, [])) := dx_is_lf rfl
theorem il_26_1 {TT : Nat → dw_T} {K : dw_K} {k a b c : Nat} : dx_Is TT K (dw_lf k (o_getf a b 1 c)) (dx_lf k (26, 1, a, b, c, [])) := dx_is_lf rfl
theorem il_27_1 {TT : Nat → dw_T} {K : dw_K} {k a b c : Nat} : dx_Is TT K (dw_lf k (o_puti a b 1 c)) (dx_lf k (27, 1, a, b, c, [])) := dx_is_lf rfl
theorem il_29_1 {TT : Nat → dw_T} {K : dw_K} {k a c : Nat} : dx_Is TT K (dw_lf k (o_xald a 1 c)) (dx_lf k (29, 1, a, 0, c, [])) := dx_is_lf rfl
theorem il_30_1 {TT : Nat → dw_T} {K : dw_K} {k a c : Nat} : dx_Is TT K (dw_lf k (o_iast a 1 c)) (dx_lf k (30, 1, a, 0, c, [])) := dx_is_lf rfl
theorem il_26_2 {TT : Nat → dw_T} {K : dw_K} {k a b c : Nat} : dx_Is TT K (dw_lf k (o_getf a b 2 c)) (dx_lf k (26, 2, a, b, c, [])) := dx_is_lf rfl
theorem il_27_2 {TT : Nat → dw_T} {K : dw_K} {k a b c : Nat} : dx_Is TT K (dw_lf k (o_puti a b 2 c)) (dx_lf k (27, 2, a, b, c, [])) := dx_is_lf rfl
theorem il_29_2 {TT : Nat → dw_T} {K : dw_K} {k a c : Nat} : dx_Is TT K (dw_lf k (o_xald a 2 c)) (dx_lf k (29, 2, a, 0, c, [])) := dx_is_lf rfl
theorem il_30_2 {TT : Nat → dw_T} {K : dw_K} {k a c : Nat} : dx_Is TT K (dw_lf k (o_iast a 2 c)) (dx_lf k (30, 2, a, 0, c, [])) := dx_is_lf rfl
theorem il_26_3 {TT : Nat → dw_T} {K : dw_K} {k a b c : Nat} : dx_Is TT K (dw_lf k (o_getf a b 3 c)) (dx_lf k (26, 3, a, b, c, [])) := dx_is_lf rfl
theorem il_27_3 {TT : Nat → dw_T} {K : dw_K} {k a b c : Nat} : dx_Is TT K (dw_lf k (o_puti a b 3 c)) (dx_lf k (27, 3, a, b, c, [])) := dx_is_lf rfl
theorem il_29_3 {TT : Nat → dw_T} {K : dw_K} {k a c : Nat} : dx_Is TT K (dw_lf k (o_xald a 3 c)) (dx_lf k (29, 3, a, 0, c, [])) := dx_is_lf rfl
theorem il_30_3 {TT : Nat → dw_T} {K : dw_K} {k a c : Nat} : dx_Is TT K (dw_lf k (o_iast a 3 c)) (dx_lf k (30, 3, a, 0, c, [])) := dx_is_lf rfl
theorem il_26_4 {TT : Nat → dw_T} {K : dw_K} {k a b c : Nat} : dx_Is TT K (dw_lf k (o_getf a b 4 c)) (dx_lf k (26, 4, a, b, c, [])) := dx_is_lf rfl
theorem il_27_4 {TT : Nat → dw_T} {K : dw_K} {k a b c : Nat} : dx_Is TT K (dw_lf k (o_puti a b 4 c)) (dx_lf k (27, 4, a, b, c, [])) := dx_is_lf rfl
theorem il_29_4 {TT : Nat → dw_T} {K : dw_K} {k a c : Nat} : dx_Is TT K (dw_lf k (o_xald a 4 c)) (dx_lf k (29, 4, a, 0, c, [])) := dx_is_lf rfl
theorem il_30_4 {TT : Nat → dw_T} {K : dw_K} {k a c : Nat} : dx_Is TT K (dw_lf k (o_iast a 4 c)) (dx_lf k (30, 4, a, 0, c, [])) := dx_is_lf rfl
theorem il_28 {TT : Nat → dw_T} {K : dw_K} {k a b c : Nat} : dx_Is TT K (dw_lf k (o_putl a b c)) (dx_lf k (28, 0, a, b, c, [])) := dx_is_lf rfl
theorem il_34 {TT : Nat → dw_T} {K : dw_K} {k : Nat} : dx_Is TT K (dw_lf k (o_iret K)) (dx_lf k (34, 0, 0, 0, 0, [])) := dx_is_lf rfl
theorem il_35 {TT : Nat → dw_T} {K : dw_K} {k : Nat} : dx_Is TT K (dw_lf k (o_zret K)) (dx_lf k (35, 0, 0, 0, 0, [])) := dx_is_lf rfl
theorem il_36 {TT : Nat → dw_T} {K : dw_K} {k : Nat} : dx_Is TT K (dw_lf k (o_vret K)) (dx_lf k (36, 0, 0, 0, 0, [])) := dx_is_lf rfl
theorem il_37 {TT : Nat → dw_T} {K : dw_K} {k : Nat} : dx_Is TT K (dw_lf k (o_aret K)) (dx_lf k (37, 0, 0, 0, 0, [])) := dx_is_lf rfl
