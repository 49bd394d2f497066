section
/-! ===== programs as data: op, v, a, b, c, l ===== -/
abbrev dx_I : Type := Nat × Int × Nat × Nat × Nat × List Nat
def dx_bin (k nx : Nat) : dw_Op := match k with
  | 0 => o_iadd nx
  | 1 => o_isub nx
  | 2 => o_imul nx
  | 3 => o_iand nx
  | 4 => o_ior nx
  | 5 => o_ishl nx
  | 6 => o_ishr nx
  | 7 => o_iushr nx
  | 8 => o_idiv nx
  | 9 => o_irem nx
  | 10 => o_max nx
  | 11 => o_min nx
  | _ => o_no
def dx_un (k nx : Nat) : dw_Op := match k with
  | 0 => o_ineg nx
  | 1 => o_i2b nx
  | 2 => o_abs nx
  | _ => o_no
def dx_ic (c tg nx : Nat) : dw_Op := match c with
  | 0 => o_icmp_eq tg nx
  | 1 => o_icmp_ne tg nx
  | 2 => o_icmp_lt tg nx
  | 3 => o_icmp_ge tg nx
  | 4 => o_icmp_gt tg nx
  | 5 => o_icmp_le tg nx
  | _ => o_no
def dx_if (c tg nx : Nat) : dw_Op := match c with
  | 0 => o_if_eq tg nx
  | 1 => o_if_ne tg nx
  | 2 => o_if_lt tg nx
  | 3 => o_if_ge tg nx
  | 4 => o_if_gt tg nx
  | 5 => o_if_le tg nx
  | _ => o_no
def dx_pairs : List Nat → List (Int × Nat)
  | a :: b :: r => ((a : Int) - 2147483648, b) :: dx_pairs r
  | _ => []
def dx_ins (TT : Nat → dw_T) (K : dw_K) (i : dx_I) : dw_Op := match i with
  | (1, v, a, _, _, _) => o_ic (Int32.ofInt v) a
  | (2, v, a, _, _, _) => o_lc (Int64.ofInt v) a
  | (3, _, a, _, _, _) => o_nul a
  | (4, _, a, _, _, _) => o_goto a
  | (5, _, a, b, _, _) => o_ild a b
  | (6, _, a, b, _, _) => o_lld a b
  | (7, _, a, b, _, _) => o_ald a b
  | (8, _, a, b, _, _) => o_ist a b
  | (9, _, a, b, _, _) => o_ast a b
  | (10, v, a, b, _, _) => o_inc a (Int32.ofInt v) b
  | (11, _, a, _, _, _) => o_dup a
  | (12, _, a, _, _, _) => o_dup2 a
  | (13, _, a, _, _, _) => o_pop a
  | (14, _, a, b, _, _) => o_ifnull a b
  | (15, _, a, b, _, _) => o_ifnn a b
  | (16, v, a, _, _, l) => o_tab v (v + (l.length : Int) - 1) l a
  | (17, _, a, _, _, l) => o_look (dx_pairs l) a
  | (18, _, a, b, _, _) => dx_bin a b
  | (19, _, a, b, _, _) => dx_un a b
  | (20, _, a, _, _, _) => o_i2l a
  | (21, _, a, _, _, _) => o_lor a
  | (22, _, a, _, _, _) => o_lshl a
  | (23, _, a, _, _, _) => o_lcmp a
  | (24, _, a, b, c, _) => dx_ic a b c
  | (25, _, a, b, c, _) => dx_if a b c
  | (26, v, a, b, c, _) => o_getf a b v.toNat c
  | (27, v, a, b, c, _) => o_puti a b v.toNat c
  | (28, _, a, b, c, _) => o_putl a b c
  | (29, v, a, _, c, _) => o_xald a v.toNat c
  | (30, v, a, _, c, _) => o_iast a v.toNat c
  | (31, _, a, _, _, _) => o_last a
  | (32, _, a, _, _, _) => o_alen a
  | (33, _, a, _, _, _) => o_copy a
  | (34, _, _, _, _, _) => o_iret K
  | (35, _, _, _, _, _) => o_zret K
  | (36, _, _, _, _, _) => o_vret K
  | (37, _, _, _, _, _) => o_aret K
  | (38, v, a, b, c, _) => o_callV a b 0 0 (TT v.toNat) c
  | (39, v, a, _, c, _) => o_callS a 0 0 (TT v.toNat) c
  | (40, v, a, _, _, _) => o_str v.toNat a
  | _ => o_no
def dx_lf (k : Nat) (i : dx_I) : Nat → dx_I := fun pc => cond (Nat.beq pc k) i (0, 0, 0, 0, 0, [])
def dx_br (k : Nat) (a b : Nat → dx_I) : Nat → dx_I := fun pc => cond (Nat.ble k pc) (b pc) (a pc)
def dx_Is (TT : Nat → dw_T) (K : dw_K) (A : Nat → dw_Op) (a : Nat → dx_I) : Prop := ∀ pc, (a pc).1 = 0 ∨ A pc = dx_ins TT K (a pc)
theorem dx_is_lf {TT : Nat → dw_T} {K : dw_K} {k : Nat} {op : dw_Op} {i : dx_I} (h : op = dx_ins TT K i) : dx_Is TT K (dw_lf k op) (dx_lf k i) := by
  intro pc
  unfold dw_lf dx_lf
  cases Nat.beq pc k with
  | false => exact Or.inl rfl
  | true => exact Or.inr h
theorem dx_is_no {TT : Nat → dw_T} {K : dw_K} {k : Nat} {op : dw_Op} {i : dx_I} (h : i.1 = 0) : dx_Is TT K (dw_lf k op) (dx_lf k i) := by
  intro pc
  unfold dw_lf dx_lf
  cases Nat.beq pc k with
  | false => exact Or.inl rfl
  | true => exact Or.inl h
theorem dx_is_br {TT : Nat → dw_T} {K : dw_K} {k : Nat} {A B : Nat → dw_Op} {a b : Nat → dx_I} (h1 : dx_Is TT K A a) (h2 : dx_Is TT K B b) : dx_Is TT K (dw_br k A B) (dx_br k a b) := by
  intro pc
  unfold dw_br dx_br
  cases Nat.ble k pc with
  | false => exact h1 pc
  | true => exact h2 pc
/-! ===== leaves told at once ===== -/
theorem il_4 {TT : Nat → dw_T} {K : dw_K} {k a : Nat} : dx_Is TT K (dw_lf k (o_goto a)) (dx_lf k (4, 0, a, 0, 0, [])) := dx_is_lf rfl
theorem il_11 {TT : Nat → dw_T} {K : dw_K} {k a : Nat} : dx_Is TT K (dw_lf k (o_dup a)) (dx_lf k (11, 0, a, 0, 0, [])) := dx_is_lf rfl
theorem il_12 {TT : Nat → dw_T} {K : dw_K} {k a : Nat} : dx_Is TT K (dw_lf k (o_dup2 a)) (dx_lf k (12, 0, a, 0, 0, [])) := dx_is_lf rfl
theorem il_13 {TT : Nat → dw_T} {K : dw_K} {k a : Nat} : dx_Is TT K (dw_lf k (o_pop a)) (dx_lf k (13, 0, a, 0, 0, [])) := dx_is_lf rfl
theorem il_20 {TT : Nat → dw_T} {K : dw_K} {k a : Nat} : dx_Is TT K (dw_lf k (o_i2l a)) (dx_lf k (20, 0, a, 0, 0, [])) := dx_is_lf rfl
theorem il_21 {TT : Nat → dw_T} {K : dw_K} {k a : Nat} : dx_Is TT K (dw_lf k (o_lor a)) (dx_lf k (21, 0, a, 0, 0, [])) := dx_is_lf rfl
theorem il_22 {TT : Nat → dw_T} {K : dw_K} {k a : Nat} : dx_Is TT K (dw_lf k (o_lshl a)) (dx_lf k (22, 0, a, 0, 0, [])) := dx_is_lf rfl
theorem il_23 {TT : Nat → dw_T} {K : dw_K} {k a : Nat} : dx_Is TT K (dw_lf k (o_lcmp a)) (dx_lf k (23, 0, a, 0, 0, [])) := dx_is_lf rfl
theorem il_31 {TT : Nat → dw_T} {K : dw_K} {k a : Nat} : dx_Is TT K (dw_lf k (o_last a)) (dx_lf k (31, 0, a, 0, 0, [])) := dx_is_lf rfl
theorem il_32 {TT : Nat → dw_T} {K : dw_K} {k a : Nat} : dx_Is TT K (dw_lf k (o_alen a)) (dx_lf k (32, 0, a, 0, 0, [])) := dx_is_lf rfl
theorem il_33 {TT : Nat → dw_T} {K : dw_K} {k a : Nat} : dx_Is TT K (dw_lf k (o_copy a)) (dx_lf k (33, 0, a, 0, 0, [])) := dx_is_lf rfl
theorem il_5 {TT : Nat → dw_T} {K : dw_K} {k a b : Nat} : dx_Is TT K (dw_lf k (o_ild a b)) (dx_lf k (5, 0, a, b, 0, [])) := dx_is_lf rfl
theorem il_6 {TT : Nat → dw_T} {K : dw_K} {k a b : Nat} : dx_Is TT K (dw_lf k (o_lld a b)) (dx_lf k (6, 0, a, b, 0, [])) := dx_is_lf rfl
theorem il_7 {TT : Nat → dw_T} {K : dw_K} {k a b : Nat} : dx_Is TT K (dw_lf k (o_ald a b)) (dx_lf k (7, 0, a, b, 0, [])) := dx_is_lf rfl
theorem il_8 {TT : Nat → dw_T} {K : dw_K} {k a b : Nat} : dx_Is TT K (dw_lf k (o_ist a b)) (dx_lf k (8, 0, a, b, 0, [])) := dx_is_lf rfl
theorem il_9 {TT : Nat → dw_T} {K : dw_K} {k a b : Nat} : dx_Is TT K (dw_lf k (o_ast a b)) (dx_lf k (9, 0, a, b, 0, [])) := dx_is_lf rfl
theorem il_14 {TT : Nat → dw_T} {K : dw_K} {k a b : Nat} : dx_Is TT K (dw_lf k (o_ifnull a b)) (dx_lf k (14, 0, a, b, 0, [])) := dx_is_lf rfl
theorem il_15 {TT : Nat → dw_T} {K : dw_K} {k a b : Nat} : dx_Is TT K (dw_lf k (o_ifnn a b)) (dx_lf k (15, 0, a, b, 0, [])) := dx_is_lf rfl
theorem il_18_0 {TT : Nat → dw_T} {K : dw_K} {k b : Nat} : dx_Is TT K (dw_lf k (o_iadd b)) (dx_lf k (18, 0, 0, b, 0, [])) := dx_is_lf rfl
theorem il_18_1 {TT : Nat → dw_T} {K : dw_K} {k b : Nat} : dx_Is TT K (dw_lf k (o_isub b)) (dx_lf k (18, 0, 1, b, 0, [])) := dx_is_lf rfl
theorem il_18_2 {TT : Nat → dw_T} {K : dw_K} {k b : Nat} : dx_Is TT K (dw_lf k (o_imul b)) (dx_lf k (18, 0, 2, b, 0, [])) := dx_is_lf rfl
theorem il_18_3 {TT : Nat → dw_T} {K : dw_K} {k b : Nat} : dx_Is TT K (dw_lf k (o_iand b)) (dx_lf k (18, 0, 3, b, 0, [])) := dx_is_lf rfl
theorem il_18_4 {TT : Nat → dw_T} {K : dw_K} {k b : Nat} : dx_Is TT K (dw_lf k (o_ior b)) (dx_lf k (18, 0, 4, b, 0, [])) := dx_is_lf rfl
theorem il_18_5 {TT : Nat → dw_T} {K : dw_K} {k b : Nat} : dx_Is TT K (dw_lf k (o_ishl b)) (dx_lf k (18, 0, 5, b, 0, [])) := dx_is_lf rfl
theorem il_18_6 {TT : Nat → dw_T} {K : dw_K} {k b : Nat} : dx_Is TT K (dw_lf k (o_ishr b)) (dx_lf k (18, 0, 6, b, 0, [])) := dx_is_lf rfl
theorem il_18_7 {TT : Nat → dw_T} {K : dw_K} {k b : Nat} : dx_Is TT K (dw_lf k (o_iushr b)) (dx_lf k (18, 0, 7, b, 0, [])) := dx_is_lf rfl
theorem il_18_8 {TT : Nat → dw_T} {K : dw_K} {k b : Nat} : dx_Is TT K (dw_lf k (o_idiv b)) (dx_lf k (18, 0, 8, b, 0, [])) := dx_is_lf rfl
theorem il_18_9 {TT : Nat → dw_T} {K : dw_K} {k b : Nat} : dx_Is TT K (dw_lf k (o_irem b)) (dx_lf k (18, 0, 9, b, 0, [])) := dx_is_lf rfl
theorem il_18_10 {TT : Nat → dw_T} {K : dw_K} {k b : Nat} : dx_Is TT K (dw_lf k (o_max b)) (dx_lf k (18, 0, 10, b, 0, [])) := dx_is_lf rfl
theorem il_18_11 {TT : Nat → dw_T} {K : dw_K} {k b : Nat} : dx_Is TT K (dw_lf k (o_min b)) (dx_lf k (18, 0, 11, b, 0, [])) := dx_is_lf rfl
theorem il_24_0 {TT : Nat → dw_T} {K : dw_K} {k b c : Nat} : dx_Is TT K (dw_lf k (o_icmp_eq b c)) (dx_lf k (24, 0, 0, b, c, [])) := dx_is_lf rfl
theorem il_25_0 {TT : Nat → dw_T} {K : dw_K} {k b c : Nat} : dx_Is TT K (dw_lf k (o_if_eq b c)) (dx_lf k (25, 0, 0, b, c, [])) := dx_is_lf rfl
theorem il_24_1 {TT : Nat → dw_T} {K : dw_K} {k b c : Nat} : dx_Is TT K (dw_lf k (o_icmp_ne b c)) (dx_lf k (24, 0, 1, b, c, [])) := dx_is_lf rfl
theorem il_25_1 {TT : Nat → dw_T} {K : dw_K} {k b c : Nat} : dx_Is TT K (dw_lf k (o_if_ne b c)) (dx_lf k (25, 0, 1, b, c, [])) := dx_is_lf rfl
theorem il_24_2 {TT : Nat → dw_T} {K : dw_K} {k b c : Nat} : dx_Is TT K (dw_lf k (o_icmp_lt b c)) (dx_lf k (24, 0, 2, b, c, [])) := dx_is_lf rfl
theorem il_25_2 {TT : Nat → dw_T} {K : dw_K} {k b c : Nat} : dx_Is TT K (dw_lf k (o_if_lt b c)) (dx_lf k (25, 0, 2, b, c, [])) := dx_is_lf rfl
theorem il_24_3 {TT : Nat → dw_T} {K : dw_K} {k b c : Nat} : dx_Is TT K (dw_lf k (o_icmp_ge b c)) (dx_lf k (24, 0, 3, b, c, [])) := dx_is_lf rfl
theorem il_25_3 {TT : Nat → dw_T} {K : dw_K} {k b c : Nat} : dx_Is TT K (dw_lf k (o_if_ge b c)) (dx_lf k (25, 0, 3, b, c, [])) := dx_is_lf rfl
theorem il_24_4 {TT : Nat → dw_T} {K : dw_K} {k b c : Nat} : dx_Is TT K (dw_lf k (o_icmp_gt b c)) (dx_lf k (24, 0, 4, b, c, [])) := dx_is_lf rfl
theorem il_25_4 {TT : Nat → dw_T} {K : dw_K} {k b c : Nat} : dx_Is TT K (dw_lf k (o_if_gt b c)) (dx_lf k (25, 0, 4, b, c, [])) := dx_is_lf rfl
theorem il_24_5 {TT : Nat → dw_T} {K : dw_K} {k b c : Nat} : dx_Is TT K (dw_lf k (o_icmp_le b c)) (dx_lf k (24, 0, 5, b, c, [])) := dx_is_lf rfl
theorem il_25_5 {TT : Nat → dw_T} {K : dw_K} {k b c : Nat} : dx_Is TT K (dw_lf k (o_if_le b c)) (dx_lf k (25, 0, 5, b, c, [])) := dx_is_lf rfl
theorem il_26_0 {TT : Nat → dw_T} {K : dw_K} {k a b c : Nat} : dx_Is TT K (dw_lf k (o_getf a b 0 c)) (dx_lf k (26, 0, a, b, c, [])) := dx_is_lf rfl
theorem il_27_0 {TT : Nat → dw_T} {K : dw_K} {k a b c : Nat} : dx_Is TT K (dw_lf k (o_puti a b 0 c)) (dx_lf k (27, 0, a, b, c, [])) := dx_is_lf rfl
theorem il_29_0 {TT : Nat → dw_T} {K : dw_K} {k a c : Nat} : dx_Is TT K (dw_lf k (o_xald a 0 c)) (dx_lf k (29, 0, a, 0, c, [])) := dx_is_lf rfl
theorem il_30_0 {TT : Nat → dw_T} {K : dw_K} {k a c : Nat} : dx_Is TT K (dw_lf k (o_iast a 0 c)) (dx_lf k (30, 0, a, 0, c, [])) := dx_is_lf rfl
theorem il_26_1 {TT : Nat → dw_T} {K : dw_K} {k a b c : Nat} : dx_Is TT K (dw_lf k (o_getf a b 1 c)) (dx_lf k (26, 1, a, b, c, [])) := dx_is_lf rfl
theorem il_27_1 {TT : Nat → dw_T} {K : dw_K} {k a b c : Nat} : dx_Is TT K (dw_lf k (o_puti a b 1 c)) (dx_lf k (27, 1, a, b, c, [])) := dx_is_lf rfl
theorem il_29_1 {TT : Nat → dw_T} {K : dw_K} {k a c : Nat} : dx_Is TT K (dw_lf k (o_xald a 1 c)) (dx_lf k (29, 1, a, 0, c, [])) := dx_is_lf rfl
theorem il_30_1 {TT : Nat → dw_T} {K : dw_K} {k a c : Nat} : dx_Is TT K (dw_lf k (o_iast a 1 c)) (dx_lf k (30, 1, a, 0, c, [])) := dx_is_lf rfl
theorem il_26_2 {TT : Nat → dw_T} {K : dw_K} {k a b c : Nat} : dx_Is TT K (dw_lf k (o_getf a b 2 c)) (dx_lf k (26, 2, a, b, c, [])) := dx_is_lf rfl
theorem il_27_2 {TT : Nat → dw_T} {K : dw_K} {k a b c : Nat} : dx_Is TT K (dw_lf k (o_puti a b 2 c)) (dx_lf k (27, 2, a, b, c, [])) := dx_is_lf rfl
theorem il_29_2 {TT : Nat → dw_T} {K : dw_K} {k a c : Nat} : dx_Is TT K (dw_lf k (o_xald a 2 c)) (dx_lf k (29, 2, a, 0, c, [])) := dx_is_lf rfl
theorem il_30_2 {TT : Nat → dw_T} {K : dw_K} {k a c : Nat} : dx_Is TT K (dw_lf k (o_iast a 2 c)) (dx_lf k (30, 2, a, 0, c, [])) := dx_is_lf rfl
theorem il_26_3 {TT : Nat → dw_T} {K : dw_K} {k a b c : Nat} : dx_Is TT K (dw_lf k (o_getf a b 3 c)) (dx_lf k (26, 3, a, b, c, [])) := dx_is_lf rfl
theorem il_27_3 {TT : Nat → dw_T} {K : dw_K} {k a b c : Nat} : dx_Is TT K (dw_lf k (o_puti a b 3 c)) (dx_lf k (27, 3, a, b, c, [])) := dx_is_lf rfl
theorem il_29_3 {TT : Nat → dw_T} {K : dw_K} {k a c : Nat} : dx_Is TT K (dw_lf k (o_xald a 3 c)) (dx_lf k (29, 3, a, 0, c, [])) := dx_is_lf rfl
theorem il_30_3 {TT : Nat → dw_T} {K : dw_K} {k a c : Nat} : dx_Is TT K (dw_lf k (o_iast a 3 c)) (dx_lf k (30, 3, a, 0, c, [])) := dx_is_lf rfl
theorem il_26_4 {TT : Nat → dw_T} {K : dw_K} {k a b c : Nat} : dx_Is TT K (dw_lf k (o_getf a b 4 c)) (dx_lf k (26, 4, a, b, c, [])) := dx_is_lf rfl
theorem il_27_4 {TT : Nat → dw_T} {K : dw_K} {k a b c : Nat} : dx_Is TT K (dw_lf k (o_puti a b 4 c)) (dx_lf k (27, 4, a, b, c, [])) := dx_is_lf rfl
theorem il_29_4 {TT : Nat → dw_T} {K : dw_K} {k a c : Nat} : dx_Is TT K (dw_lf k (o_xald a 4 c)) (dx_lf k (29, 4, a, 0, c, [])) := dx_is_lf rfl
theorem il_30_4 {TT : Nat → dw_T} {K : dw_K} {k a c : Nat} : dx_Is TT K (dw_lf k (o_iast a 4 c)) (dx_lf k (30, 4, a, 0, c, [])) := dx_is_lf rfl
theorem il_28 {TT : Nat → dw_T} {K : dw_K} {k a b c : Nat} : dx_Is TT K (dw_lf k (o_putl a b c)) (dx_lf k (28, 0, a, b, c, [])) := dx_is_lf rfl
theorem il_34 {TT : Nat → dw_T} {K : dw_K} {k : Nat} : dx_Is TT K (dw_lf k (o_iret K)) (dx_lf k (34, 0, 0, 0, 0, [])) := dx_is_lf rfl
theorem il_35 {TT : Nat → dw_T} {K : dw_K} {k : Nat} : dx_Is TT K (dw_lf k (o_zret K)) (dx_lf k (35, 0, 0, 0, 0, [])) := dx_is_lf rfl
theorem il_36 {TT : Nat → dw_T} {K : dw_K} {k : Nat} : dx_Is TT K (dw_lf k (o_vret K)) (dx_lf k (36, 0, 0, 0, 0, [])) := dx_is_lf rfl
theorem il_37 {TT : Nat → dw_T} {K : dw_K} {k : Nat} : dx_Is TT K (dw_lf k (o_aret K)) (dx_lf k (37, 0, 0, 0, 0, [])) := dx_is_lf rfl
end
section
/-! ===== intervals ===== -/
theorem dx_bm {n : Int} (h : -2147483648 ≤ n) (h2 : n ≤ 2147483647) : n.bmod (2 ^ 32) = n := Int.bmod_eq_of_le_mul_two (by omega) (by omega)
theorem dx_b1 (x : Int32) : -2147483648 ≤ x.toInt := by have := x.le_toInt; omega
theorem dx_b2 (x : Int32) : x.toInt ≤ 2147483647 := by have := x.toInt_lt; omega
theorem dx_ofI {v : Int} (h : -2147483648 ≤ v) (h2 : v ≤ 2147483647) : (Int32.ofInt v).toInt = v := Int32.toInt_ofInt_of_le (by omega) (by omega)
def dx_full : Int × Int := (-2147483648, 2147483647)
def dx_rg (l h : Int) : Int × Int := if -2147483648 ≤ l ∧ h ≤ 2147483647 then (l, h) else dx_full
def dx_is (r : Int × Int) (x : Int32) : Prop := r.1 ≤ x.toInt ∧ x.toInt ≤ r.2
theorem dx_is_full (x : Int32) : dx_is dx_full x := ⟨dx_b1 x, dx_b2 x⟩
theorem dx_is_rg {l h n : Int} {x : Int32} (hx : x.toInt = n.bmod (2 ^ 32)) (h1 : l ≤ n) (h2 : n ≤ h) : dx_is (dx_rg l h) x := by
  unfold dx_rg
  split
  next q =>
    have e : x.toInt = n := by rw [hx]; exact dx_bm (by omega) (by omega)
    exact ⟨by rw [e]; exact h1, by rw [e]; exact h2⟩
  next => exact dx_is_full x
theorem dx_and {x y : Int32} (hy : 0 ≤ y.toInt) : 0 ≤ (x &&& y).toInt ∧ (x &&& y).toInt ≤ y.toInt := by
  have e1 : (x &&& y).toInt = (x.toBitVec &&& y.toBitVec).toInt := rfl
  have e2 : y.toInt = y.toBitVec.toInt := rfl
  rw [e1]
  rw [e2] at hy ⊢
  rw [BitVec.toInt_eq_toNat_cond] at hy
  rw [BitVec.toInt_eq_toNat_cond, BitVec.toInt_eq_toNat_cond (x := y.toBitVec), BitVec.toNat_and]
  have h1 : x.toBitVec.toNat &&& y.toBitVec.toNat ≤ y.toBitVec.toNat := Nat.and_le_right
  have h2 := y.toBitVec.isLt
  split at hy
  next h =>
    rw [if_pos h, if_pos (by omega)]
    omega
  next h => omega
theorem dx_and2 {x y : Int32} (hx : 0 ≤ x.toInt) : 0 ≤ (x &&& y).toInt ∧ (x &&& y).toInt ≤ x.toInt := by
  rw [Int32.and_comm]
  exact dx_and hx
def dx_bv (k : Nat) (x y : Int32) : Int32 := match k with
  | 0 => x + y
  | 1 => x - y
  | 2 => x * y
  | 3 => x &&& y
  | 4 => x ||| y
  | 5 => x <<< (y &&& 31)
  | 6 => x >>> (y &&& 31)
  | 7 => (x.toUInt32 >>> (y.toUInt32 &&& Int32.toUInt32 31)).toInt32
  | 8 => x / y
  | 9 => x - x / y * y
  | 10 => if x < y then y else x
  | _ => if y < x then y else x
def dx_bi (k : Nat) (lx hx ly hy : Int) : Int × Int := match k with
  | 0 => dx_rg (lx + ly) (hx + hy)
  | 1 => dx_rg (lx - hy) (hx - ly)
  | 2 => if 0 ≤ lx ∧ 0 ≤ ly then dx_rg (lx * ly) (hx * hy) else dx_full
  | 3 => if 0 ≤ ly then (0, hy) else if 0 ≤ lx then (0, hx) else dx_full
  | 8 => if 1 ≤ ly ∧ 0 ≤ lx then (0, hx / ly) else dx_full
  | 9 => if 1 ≤ ly then (if 0 ≤ lx then (0, hy - 1) else (1 - hy, hy - 1)) else dx_full
  | 10 => (max lx ly, max hx hy)
  | 11 => (min lx ly, min hx hy)
  | _ => dx_full
theorem dx_tdiv {X Y H L : Int} (hX : 0 ≤ X) (hH : X ≤ H) (hL : 1 ≤ L) (hY : L ≤ Y) : 0 ≤ X.tdiv Y ∧ X.tdiv Y ≤ H / L ∧ X.tdiv Y ≤ X := by
  rw [Int.tdiv_eq_ediv_of_nonneg hX]
  have h1 : 0 ≤ X / Y := Int.ediv_nonneg hX (by omega)
  have h2 : X / Y * Y ≤ X := Int.ediv_mul_le X (by omega)
  have h3 : X / Y * L ≤ X / Y * Y := Int.mul_le_mul_of_nonneg_left hY h1
  have h4 : X / Y * 1 ≤ X / Y * Y := Int.mul_le_mul_of_nonneg_left (by omega) h1
  exact ⟨h1, Int.le_ediv_of_mul_le (by omega) (by omega), by omega⟩
theorem dx_remv {x y : Int32} : (x - x / y * y).toInt = (x.toInt.tmod y.toInt).bmod (2 ^ 32) := by
  rw [Int32.toInt_sub, Int32.toInt_mul, Int32.toInt_div, Int.sub_bmod_bmod, Int.tmod_def, Int.mul_comm y.toInt]
  rw [← Int.sub_bmod_bmod (y := (x.toInt.tdiv y.toInt).bmod (2 ^ 32) * y.toInt), Int.bmod_mul_bmod, Int.sub_bmod_bmod]
theorem dx_bi_ok {k : Nat} {x y : Int32} {lx hx ly hy : Int} (h1 : lx ≤ x.toInt) (h2 : x.toInt ≤ hx) (h3 : ly ≤ y.toInt) (h4 : y.toInt ≤ hy) : dx_is (dx_bi k lx hx ly hy) (dx_bv k x y) := by
  unfold dx_bi
  split
  · exact dx_is_rg (Int32.toInt_add x y) (by omega) (by omega)
  · exact dx_is_rg (Int32.toInt_sub x y) (by omega) (by omega)
  · split
    next q => exact dx_is_rg (Int32.toInt_mul x y) (Int.mul_le_mul h1 h3 q.2 (by omega)) (Int.mul_le_mul h2 h4 (by omega) (by omega))
    next => exact dx_is_full _
  · split
    next q =>
      have := dx_and (x := x) (y := y) (by omega)
      exact ⟨this.1, Int.le_trans this.2 h4⟩
    next =>
      split
      next q =>
        have := dx_and2 (x := x) (y := y) (by omega)
        exact ⟨this.1, Int.le_trans this.2 h2⟩
      next => exact dx_is_full _
  · split
    next q =>
      have h5 := dx_tdiv (X := x.toInt) (Y := y.toInt) (H := hx) (L := ly) (by omega) h2 q.1 h3
      have h6 := dx_b2 x
      have e : (x / y).toInt = x.toInt.tdiv y.toInt := by rw [Int32.toInt_div]; exact dx_bm (by omega) (by omega)
      exact ⟨by show 0 ≤ (x / y).toInt; rw [e]; exact h5.1, by show (x / y).toInt ≤ _; rw [e]; exact h5.2.1⟩
    next => exact dx_is_full _
  · split
    next q =>
      have h5 := Int.tmod_lt_of_pos x.toInt (b := y.toInt) (by omega)
      have h6 := Int.lt_tmod_of_pos x.toInt (b := y.toInt) (by omega)
      have h7 := dx_b2 y
      have e : (x - x / y * y).toInt = x.toInt.tmod y.toInt := by rw [dx_remv]; exact dx_bm (by omega) (by omega)
      split
      next q2 =>
        have h8 := Int.tmod_nonneg (a := x.toInt) y.toInt (by omega)
        exact ⟨by show 0 ≤ (x - x / y * y).toInt; rw [e]; exact h8, by show (x - x / y * y).toInt ≤ _; rw [e]; show _ ≤ hy - 1; omega⟩
      next => exact ⟨by show _ ≤ (x - x / y * y).toInt; rw [e]; show 1 - hy ≤ _; omega, by show (x - x / y * y).toInt ≤ _; rw [e]; show _ ≤ hy - 1; omega⟩
    next => exact dx_is_full _
  · show dx_is (max lx ly, max hx hy) (if x < y then y else x)
    split
    next q =>
      rw [Int32.lt_iff_toInt_lt] at q
      exact ⟨by show max lx ly ≤ _; omega, by show _ ≤ max hx hy; omega⟩
    next q =>
      rw [Int32.lt_iff_toInt_lt] at q
      exact ⟨by show max lx ly ≤ _; omega, by show _ ≤ max hx hy; omega⟩
  · show dx_is (min lx ly, min hx hy) (if y < x then y else x)
    split
    next q =>
      rw [Int32.lt_iff_toInt_lt] at q
      exact ⟨by show min lx ly ≤ _; omega, by show _ ≤ min hx hy; omega⟩
    next q =>
      rw [Int32.lt_iff_toInt_lt] at q
      exact ⟨by show min lx ly ≤ _; omega, by show _ ≤ min hx hy; omega⟩
  · exact dx_is_full _
def dx_uv (k : Nat) (x : Int32) : Int32 := match k with
  | 0 => -x
  | 1 => x.toInt8.toInt32
  | _ => if 0 ≤ x then x else 0 - x
def dx_ui (k : Nat) (lx hx : Int) : Int × Int := match k with
  | 0 => if -2147483648 < lx then (-hx, -lx) else dx_full
  | 1 => (-128, 127)
  | _ => if -2147483648 < lx then (0, max hx (-lx)) else dx_full
theorem dx_ui_ok {k : Nat} {x : Int32} {lx hx : Int} (h1 : lx ≤ x.toInt) (h2 : x.toInt ≤ hx) : dx_is (dx_ui k lx hx) (dx_uv k x) := by
  have h3 := dx_b2 x
  unfold dx_ui
  split
  · split
    next q =>
      have e : (-x).toInt = - x.toInt := by rw [Int32.toInt_neg]; exact dx_bm (by omega) (by omega)
      exact ⟨by show _ ≤ (-x).toInt; rw [e]; show -hx ≤ _; omega, by show (-x).toInt ≤ _; rw [e]; show _ ≤ -lx; omega⟩
    next => exact dx_is_full _
  · show dx_is (-128, 127) x.toInt8.toInt32
    unfold dx_is
    rw [Int8.toInt_toInt32]
    have h4 := x.toInt8.le_toInt
    have h5 := x.toInt8.toInt_lt
    exact ⟨by show -128 ≤ _; omega, by show _ ≤ 127; omega⟩
  next k0 h0 h1' =>
    split
    next q =>
      have e0 : dx_uv k x = if 0 ≤ x then x else 0 - x := by
        unfold dx_uv
        split
        · exact absurd rfl h0
        · exact absurd rfl h1'
        · rfl
      rw [e0]
      split
      next q2 =>
        rw [Int32.le_iff_toInt_le] at q2
        have e9 : (0 : Int32).toInt = 0 := rfl
        exact ⟨by show 0 ≤ _; omega, by show _ ≤ max hx (-lx); omega⟩
      next q2 =>
        rw [Int32.le_iff_toInt_le] at q2
        have e9 : (0 : Int32).toInt = 0 := rfl
        have e : (0 - x).toInt = - x.toInt := by rw [Int32.toInt_sub, e9, Int.zero_sub]; exact dx_bm (by omega) (by omega)
        exact ⟨by show 0 ≤ (0 - x).toInt; rw [e]; omega, by show (0 - x).toInt ≤ _; rw [e]; show _ ≤ max hx (-lx); omega⟩
    next => exact dx_is_full _
/-- comparisons: 0 eq, 1 ne, 2 lt, 3 ge, 4 gt, 5 le -/
def dx_cp (c : Nat) (x y : Int) : Prop := match c with
  | 0 => x = y
  | 1 => x ≠ y
  | 2 => x < y
  | 3 => y ≤ x
  | 4 => y < x
  | _ => x ≤ y
def dx_ng (c : Nat) : Nat := match c with
  | 0 => 1
  | 1 => 0
  | 2 => 3
  | 3 => 2
  | 4 => 5
  | _ => 4
def dx_cr (c : Nat) (lx hx ly hy : Int) : Int × Int × Int × Int := match c with
  | 0 => (max lx ly, min hx hy, max lx ly, min hx hy)
  | 1 => (if ly = hy ∧ lx = ly then lx + 1 else lx, if ly = hy ∧ hx = ly then hx - 1 else hx, if lx = hx ∧ ly = lx then ly + 1 else ly, if lx = hx ∧ hy = lx then hy - 1 else hy)
  | 2 => (lx, min hx (hy - 1), max ly (lx + 1), hy)
  | 3 => (max lx ly, hx, ly, min hy hx)
  | 4 => (max lx (ly + 1), hx, ly, min hy (hx - 1))
  | _ => (lx, min hx hy, max ly lx, hy)
theorem dx_cr_ok {c : Nat} {x y lx hx ly hy : Int} (h : dx_cp c x y) (h1 : lx ≤ x) (h2 : x ≤ hx) (h3 : ly ≤ y) (h4 : y ≤ hy) :
    (dx_cr c lx hx ly hy).1 ≤ x ∧ x ≤ (dx_cr c lx hx ly hy).2.1 ∧ (dx_cr c lx hx ly hy).2.2.1 ≤ y ∧ y ≤ (dx_cr c lx hx ly hy).2.2.2 := by
  unfold dx_cp at h
  unfold dx_cr
  split at h
  all_goals (refine ⟨?_, ?_, ?_, ?_⟩ <;> simp only [] <;> (try split) <;> omega)
end
section
/-! ===== what is known at a place ===== -/
abbrev dx_V : Type := Nat × Int ⊕ List Nat ⊕ List Nat ⊕ Bool
abbrev dx_C : Type := Nat × Nat × List (Option Nat) × List (Nat × Int × Int)
abbrev dx_C.k (c : dx_C) : Nat := c.1
abbrev dx_C.n (c : dx_C) : Nat := c.2.1
abbrev dx_C.rf (c : dx_C) : List (Option Nat) := c.2.2.1
abbrev dx_C.iv (c : dx_C) : List (Nat × Int × Int) := c.2.2.2
abbrev dx_S : Type := List (Int × Int) × List (Nat × Nat × Int) × List dx_V × List dx_V × List (Nat × Nat × Nat × Int) × List (Nat × Nat × Int)
abbrev dx_S.iv (c : dx_S) : List (Int × Int) := c.1
abbrev dx_S.dc (c : dx_S) : List (Nat × Nat × Int) := c.2.1
abbrev dx_S.ls (c : dx_S) : List dx_V := c.2.2.1
abbrev dx_S.st (c : dx_S) : List dx_V := c.2.2.2.1
abbrev dx_S.fa (c : dx_S) : List (Nat × Nat × Nat × Int) := c.2.2.2.2.1
abbrev dx_S.fl (c : dx_S) : List (Nat × Nat × Int) := c.2.2.2.2.2
/-- what the place is of: shapes, bounds of cells, methods, named properties of the memory and what they speak of -/
abbrev dx_Env : Type := dw_Sh × (Nat → dx_C) × (Nat → dw_T) × (Nat → Int → (Nat → Nat → Int32) → Prop) × (Nat → List (Nat × Nat × Nat))
abbrev dx_Env.SH (E : dx_Env) : dw_Sh := E.1
abbrev dx_Env.ce (E : dx_Env) : Nat → dx_C := E.2.1
abbrev dx_Env.TT (E : dx_Env) : Nat → dw_T := E.2.2.1
abbrev dx_Env.FP (E : dx_Env) : Nat → Int → (Nat → Nat → Int32) → Prop := E.2.2.2.1
abbrev dx_Env.sup (E : dx_Env) : Nat → List (Nat × Nat × Nat) := E.2.2.2.2
abbrev dx_Env.ok (E : dx_Env) : Prop := (∀ a, (E.SH a).1 = (E.ce a).k ∧ (E.SH a).2.1 = (E.ce a).n ∧ ∀ j, (E.SH a).2.2 j = ((E.ce a).rf[j]?).join) ∧ (∀ f x I I', (∀ q ∈ E.sup f, ∀ j, q.2.1 ≤ j → j ≤ q.2.2 → I' q.1 j = I q.1 j) → E.FP f x I → E.FP f x I')
theorem dx_Env.ok.sh {E : dx_Env} (h : dx_Env.ok E) : ∀ a, (E.SH a).1 = (E.ce a).k ∧ (E.SH a).2.1 = (E.ce a).n ∧ ∀ j, (E.SH a).2.2 j = ((E.ce a).rf[j]?).join := h.1
theorem dx_Env.ok.fp {E : dx_Env} (h : dx_Env.ok E) : ∀ f x I I', (∀ q ∈ E.sup f, ∀ j, q.2.1 ≤ j → j ≤ q.2.2 → I' q.1 j = I q.1 j) → E.FP f x I → E.FP f x I' := h.2
def dx_gi : List (Int × Int) → Nat → Int × Int
  | [], _ => dx_full
  | p :: _, 0 => p
  | _ :: r, n + 1 => dx_gi r n
def dx_sv : List (Int × Int) → Nat → Int × Int → List (Int × Int)
  | [], _, _ => []
  | _ :: r, 0, q => q :: r
  | p :: r, n + 1, q => p :: dx_sv r n q
theorem dx_sv_len : ∀ (l : List (Int × Int)) (n : Nat) (q : Int × Int), (dx_sv l n q).length = l.length
  | [], _, _ => rfl
  | _ :: r, 0, _ => rfl
  | _ :: r, n + 1, q => by simp only [dx_sv, List.length_cons, dx_sv_len r n q]
theorem dx_gi_sv : ∀ (l : List (Int × Int)) (n m : Nat) (q : Int × Int), dx_gi (dx_sv l n q) m = if m = n ∧ n < l.length then q else dx_gi l m
  | [], n, m, q => by simp [dx_sv]
  | p :: r, 0, 0, q => by simp [dx_sv, dx_gi]
  | p :: r, 0, m + 1, q => by simp [dx_sv, dx_gi]
  | p :: r, n + 1, 0, q => by simp [dx_sv, dx_gi]
  | p :: r, n + 1, m + 1, q => by
    simp only [dx_sv, dx_gi, dx_gi_sv r n m q, List.length_cons]
    by_cases h : m = n ∧ n < r.length
    · rw [if_pos h, if_pos (by omega)]
    · rw [if_neg h, if_neg (by omega)]
theorem dx_gi_ap : ∀ (l : List (Int × Int)) (q : Int × Int) (m : Nat), dx_gi (l ++ [q]) m = if m = l.length then q else dx_gi l m
  | [], q, 0 => rfl
  | [], q, m + 1 => rfl
  | p :: r, q, 0 => by simp [dx_gi]
  | p :: r, q, m + 1 => by
    simp only [List.cons_append, dx_gi, dx_gi_ap r q m, List.length_cons]
    by_cases h : m = r.length
    · rw [if_pos h, if_pos (by omega)]
    · rw [if_neg h, if_neg (by omega)]
def dx_in (p : Int × Int) (n : Int) : Prop := p.1 ≤ n ∧ n ≤ p.2
def dx_seg : List (Nat × Int × Int) → Nat → Int × Int
  | [], _ => dx_full
  | (c, l, h) :: r, j => if j < c then (l, h) else dx_seg r (j - c)
/-- what lies in the slots l .. h -/
def dx_sgr : List (Nat × Int × Int) → Nat → Nat → Int × Int
  | [], _, _ => dx_full
  | (c, lo, hi) :: r, l, h => if h < c then (lo, hi) else if l < c then (min lo (dx_sgr r 0 (h - c)).1, max hi (dx_sgr r 0 (h - c)).2) else dx_sgr r (l - c) (h - c)
theorem dx_sgr_ok : ∀ (s : List (Nat × Int × Int)) (l h j : Nat) (n : Int), l ≤ j → j ≤ h → dx_in (dx_seg s j) n → dx_in (dx_sgr s l h) n
  | [], _, _, _, _, _, _, h => h
  | (c, lo, hi) :: r, l, h, j, n, h1, h2, h3 => by
    unfold dx_seg at h3
    unfold dx_sgr
    by_cases e : h < c
    · rw [if_pos e]; rw [if_pos (by omega)] at h3; exact h3
    · rw [if_neg e]
      by_cases e2 : l < c
      · rw [if_pos e2]
        by_cases e3 : j < c
        · rw [if_pos e3] at h3
          exact ⟨by show min lo _ ≤ n; have := h3.1; have : lo ≤ n := this; omega, by show n ≤ max hi _; have := h3.2; have : n ≤ hi := this; omega⟩
        · rw [if_neg e3] at h3
          have := dx_sgr_ok r 0 (h - c) (j - c) n (by omega) (by omega) h3
          have t1 := this.1
          have t2 := this.2
          exact ⟨by show min lo _ ≤ n; omega, by show n ≤ max hi _; omega⟩
      · rw [if_neg e2]
        rw [if_neg (by omega)] at h3
        exact dx_sgr_ok r (l - c) (h - c) (j - c) n (by omega) (by omega) h3
/-- may what is in p be written to each of the slots l .. h -/
def dx_sga : List (Nat × Int × Int) → Nat → Nat → Int → Int → Bool
  | [], _, _, _, _ => true
  | (c, lo, hi) :: r, l, h, a, b => (decide (c ≤ l) || (decide (lo ≤ a) && decide (b ≤ hi))) && (decide (h < c) || dx_sga r (l - c) (h - c) a b)
theorem dx_sga_ok : ∀ (s : List (Nat × Int × Int)) (l h j : Nat) (a b n : Int), dx_sga s l h a b = true → l ≤ j → j ≤ h → a ≤ n → n ≤ b → dx_in dx_full n → dx_in (dx_seg s j) n
  | [], _, _, _, _, _, _, _, _, _, _, _, h => h
  | (c, lo, hi) :: r, l, h, j, a, b, n, h0, h1, h2, h3, h4, h5 => by
    unfold dx_sga at h0
    rw [Bool.and_eq_true, Bool.or_eq_true, Bool.or_eq_true, Bool.and_eq_true, decide_eq_true_eq, decide_eq_true_eq, decide_eq_true_eq, decide_eq_true_eq] at h0
    unfold dx_seg
    by_cases e : j < c
    · rw [if_pos e]
      rcases h0.1 with q | q
      · omega
      · exact ⟨by show lo ≤ n; omega, by show n ≤ hi; omega⟩
    · rw [if_neg e]
      rcases h0.2 with q | q
      · omega
      · exact dx_sga_ok r (l - c) (h - c) (j - c) a b n q (by omega) (by omega) h3 h4 h5
def dx_gV (k : Nat) (ν : Nat → Int) : dx_V → Option Value → Prop
  | (.inl (s, o)), x => s < k ∧ ∃ w : Int32, x = some (.int w) ∧ w.toInt = ν s + o
  | (.inr (.inl l)), x => ∃ a, a ∈ l ∧ x = some (.ref a)
  | (.inr (.inr (.inl l))), x => x = some .null ∨ ∃ a, a ∈ l ∧ x = some (.ref a)
  | (.inr (.inr (.inr false))), x => ∃ w, x = some (.long w)
  | (.inr (.inr (.inr true))), x => ∀ v, x = some v → v.category = 1
def dx_gL (k : Nat) (ν : Nat → Int) : List dx_V → dw_L → Prop
  | [], [] => True
  | v :: r, x :: q => dx_gV k ν v x ∧ dx_gL k ν r q
  | [], _ :: _ => False
  | _ :: _, [] => False
theorem dx_gV.ext {k k' : Nat} {ν ν' : Nat → Int} (hk : k ≤ k') (he : ∀ s, s < k → ν' s = ν s) {v : dx_V} {x : Option Value} (h : dx_gV k ν v x) : dx_gV k' ν' v x := by
  rcases v with ⟨s, o⟩ | l | l | _ | _
  · skip
    obtain ⟨h1, w, h2, h3⟩ := h
    exact ⟨by omega, w, h2, by rw [he s h1]; exact h3⟩
  · exact h
  · exact h
  · exact h
  · exact h
theorem dx_gL.ext {k k' : Nat} {ν ν' : Nat → Int} (hk : k ≤ k') (he : ∀ s, s < k → ν' s = ν s) : ∀ {vs : List dx_V} {xs : dw_L}, dx_gL k ν vs xs → dx_gL k' ν' vs xs
  | [], [], _ => trivial
  | v :: r, x :: q, h => ⟨dx_gV.ext hk he h.1, dx_gL.ext hk he h.2⟩
  | [], _ :: _, h => h.elim
  | _ :: _, [], h => h.elim
abbrev dx_g (E : dx_Env) (md : List Nat) (n0 : Nat) (ν0 : Nat → Int) (μ0 : dw_S) (ν : Nat → Int) (σ : dx_S) (ls st : dw_L) (μ : dw_S) : Prop := (μ.2.1 = E.SH) ∧ (∀ a j, dx_in (dx_seg (E.ce a).iv j) (μ.2.2.1 a j).toInt) ∧ (∀ a, a ∉ md → μ.2.2.1 a = μ0.2.2.1 a ∧ μ.2.2.2 a = μ0.2.2.2 a) ∧ (ν 0 = 0) ∧ (n0 ≤ σ.iv.length) ∧ (0 < σ.iv.length) ∧ (∀ s, s < n0 → ν s = ν0 s) ∧ (∀ s, s < σ.iv.length → dx_in (dx_gi σ.iv s) (ν s)) ∧ (∀ q ∈ σ.dc, q.1 < σ.iv.length ∧ q.2.1 < σ.iv.length ∧ ν q.1 - ν q.2.1 ≤ q.2.2) ∧ (dx_gL σ.iv.length ν σ.ls ls) ∧ (dx_gL σ.iv.length ν σ.st st) ∧ (∀ q ∈ σ.fa, q.2.2.1 < σ.iv.length ∧ (μ.2.2.1 q.1 q.2.1).toInt = ν q.2.2.1 + q.2.2.2) ∧ (∀ q ∈ σ.fl, q.2.1 < σ.iv.length ∧ E.FP q.1 (ν q.2.1 + q.2.2) μ.2.2.1)
theorem dx_g.sh {E : dx_Env}{md : List Nat}{n0 : Nat}{ν0 : Nat → Int}{μ0 : dw_S}{ν : Nat → Int}{σ : dx_S}{ls st : dw_L}{μ : dw_S} (h : dx_g E md n0 ν0 μ0 ν σ ls st μ) : μ.2.1 = E.SH := h.1
theorem dx_g.hi {E : dx_Env}{md : List Nat}{n0 : Nat}{ν0 : Nat → Int}{μ0 : dw_S}{ν : Nat → Int}{σ : dx_S}{ls st : dw_L}{μ : dw_S} (h : dx_g E md n0 ν0 μ0 ν σ ls st μ) : ∀ a j, dx_in (dx_seg (E.ce a).iv j) (μ.2.2.1 a j).toInt := h.2.1
theorem dx_g.fr {E : dx_Env}{md : List Nat}{n0 : Nat}{ν0 : Nat → Int}{μ0 : dw_S}{ν : Nat → Int}{σ : dx_S}{ls st : dw_L}{μ : dw_S} (h : dx_g E md n0 ν0 μ0 ν σ ls st μ) : ∀ a, a ∉ md → μ.2.2.1 a = μ0.2.2.1 a ∧ μ.2.2.2 a = μ0.2.2.2 a := h.2.2.1
theorem dx_g.z {E : dx_Env}{md : List Nat}{n0 : Nat}{ν0 : Nat → Int}{μ0 : dw_S}{ν : Nat → Int}{σ : dx_S}{ls st : dw_L}{μ : dw_S} (h : dx_g E md n0 ν0 μ0 ν σ ls st μ) : ν 0 = 0 := h.2.2.2.1
theorem dx_g.k0 {E : dx_Env}{md : List Nat}{n0 : Nat}{ν0 : Nat → Int}{μ0 : dw_S}{ν : Nat → Int}{σ : dx_S}{ls st : dw_L}{μ : dw_S} (h : dx_g E md n0 ν0 μ0 ν σ ls st μ) : n0 ≤ σ.iv.length := h.2.2.2.2.1
theorem dx_g.k1 {E : dx_Env}{md : List Nat}{n0 : Nat}{ν0 : Nat → Int}{μ0 : dw_S}{ν : Nat → Int}{σ : dx_S}{ls st : dw_L}{μ : dw_S} (h : dx_g E md n0 ν0 μ0 ν σ ls st μ) : 0 < σ.iv.length := h.2.2.2.2.2.1
theorem dx_g.ag {E : dx_Env}{md : List Nat}{n0 : Nat}{ν0 : Nat → Int}{μ0 : dw_S}{ν : Nat → Int}{σ : dx_S}{ls st : dw_L}{μ : dw_S} (h : dx_g E md n0 ν0 μ0 ν σ ls st μ) : ∀ s, s < n0 → ν s = ν0 s := h.2.2.2.2.2.2.1
theorem dx_g.iv {E : dx_Env}{md : List Nat}{n0 : Nat}{ν0 : Nat → Int}{μ0 : dw_S}{ν : Nat → Int}{σ : dx_S}{ls st : dw_L}{μ : dw_S} (h : dx_g E md n0 ν0 μ0 ν σ ls st μ) : ∀ s, s < σ.iv.length → dx_in (dx_gi σ.iv s) (ν s) := h.2.2.2.2.2.2.2.1
theorem dx_g.dc {E : dx_Env}{md : List Nat}{n0 : Nat}{ν0 : Nat → Int}{μ0 : dw_S}{ν : Nat → Int}{σ : dx_S}{ls st : dw_L}{μ : dw_S} (h : dx_g E md n0 ν0 μ0 ν σ ls st μ) : ∀ q ∈ σ.dc, q.1 < σ.iv.length ∧ q.2.1 < σ.iv.length ∧ ν q.1 - ν q.2.1 ≤ q.2.2 := h.2.2.2.2.2.2.2.2.1
theorem dx_g.gl {E : dx_Env}{md : List Nat}{n0 : Nat}{ν0 : Nat → Int}{μ0 : dw_S}{ν : Nat → Int}{σ : dx_S}{ls st : dw_L}{μ : dw_S} (h : dx_g E md n0 ν0 μ0 ν σ ls st μ) : dx_gL σ.iv.length ν σ.ls ls := h.2.2.2.2.2.2.2.2.2.1
theorem dx_g.gs {E : dx_Env}{md : List Nat}{n0 : Nat}{ν0 : Nat → Int}{μ0 : dw_S}{ν : Nat → Int}{σ : dx_S}{ls st : dw_L}{μ : dw_S} (h : dx_g E md n0 ν0 μ0 ν σ ls st μ) : dx_gL σ.iv.length ν σ.st st := h.2.2.2.2.2.2.2.2.2.2.1
theorem dx_g.fa {E : dx_Env}{md : List Nat}{n0 : Nat}{ν0 : Nat → Int}{μ0 : dw_S}{ν : Nat → Int}{σ : dx_S}{ls st : dw_L}{μ : dw_S} (h : dx_g E md n0 ν0 μ0 ν σ ls st μ) : ∀ q ∈ σ.fa, q.2.2.1 < σ.iv.length ∧ (μ.2.2.1 q.1 q.2.1).toInt = ν q.2.2.1 + q.2.2.2 := h.2.2.2.2.2.2.2.2.2.2.2.1
theorem dx_g.fl {E : dx_Env}{md : List Nat}{n0 : Nat}{ν0 : Nat → Int}{μ0 : dw_S}{ν : Nat → Int}{σ : dx_S}{ls st : dw_L}{μ : dw_S} (h : dx_g E md n0 ν0 μ0 ν σ ls st μ) : ∀ q ∈ σ.fl, q.2.1 < σ.iv.length ∧ E.FP q.1 (ν q.2.1 + q.2.2) μ.2.2.1 := h.2.2.2.2.2.2.2.2.2.2.2.2
/-- a new unknown -/
def dx_nw (σ : dx_S) (p : Int × Int) : dx_S := (⟨σ.iv ++ [p], dx_S.dc σ, dx_S.ls σ, dx_S.st σ, dx_S.fa σ, dx_S.fl σ⟩ : dx_S)
section
variable {E : dx_Env} {md : List Nat} {n0 : Nat} {ν0 : Nat → Int} {μ0 : dw_S} {ν : Nat → Int} {σ : dx_S} {ls st : dw_L} {μ : dw_S}
def dx_nu (ν : Nat → Int) (k : Nat) (n : Int) : Nat → Int := fun s => if s = k then n else ν s
theorem dx_nu_lt {k s : Nat} {n : Int} (h : s < k) : dx_nu ν k n s = ν s := by unfold dx_nu; rw [if_neg (by omega)]
theorem dx_nu_at {k : Nat} {n : Int} : dx_nu ν k n k = n := by unfold dx_nu; rw [if_pos rfl]
theorem dx_nw_len {p : Int × Int} : (dx_nw σ p).iv.length = σ.iv.length + 1 := by show (σ.iv ++ [p]).length = _; simp
theorem dx_g.nw {p : Int × Int} {n : Int} (h : dx_g E md n0 ν0 μ0 ν σ ls st μ) (hn : dx_in p n) : dx_g E md n0 ν0 μ0 (dx_nu ν σ.iv.length n) (dx_nw σ p) ls st μ := by
  have he : ∀ s, s < σ.iv.length → dx_nu ν σ.iv.length n s = ν s := fun s hs => dx_nu_lt hs
  refine ⟨h.sh, h.hi, h.fr, ?_, ?_, ?_, ?_, ?_, ?_, ?_, ?_, ?_, ?_⟩
  · rw [he 0 h.k1]; exact h.z
  · rw [dx_nw_len]; have := h.k0; omega
  · rw [dx_nw_len]; omega
  · intro s hs; rw [he s (by have := h.k0; omega)]; exact h.ag s hs
  · intro s hs
    rw [dx_nw_len] at hs
    show dx_in (dx_gi (σ.iv ++ [p]) s) _
    rw [dx_gi_ap]
    by_cases e : s = σ.iv.length
    · rw [if_pos e, e, dx_nu_at]; exact hn
    · rw [if_neg e, he s (by omega)]; exact h.iv s (by omega)
  · intro q hq
    have := h.dc q hq
    rw [dx_nw_len, he _ this.1, he _ this.2.1]
    exact ⟨by omega, by omega, this.2.2⟩
  · rw [dx_nw_len]; exact dx_gL.ext (by omega) he h.gl
  · rw [dx_nw_len]; exact dx_gL.ext (by omega) he h.gs
  · intro q hq
    have := h.fa q hq
    rw [dx_nw_len, he _ this.1]
    exact ⟨by omega, this.2⟩
  · intro q hq
    have := h.fl q hq
    rw [dx_nw_len, he _ this.1]
    exact ⟨by omega, this.2⟩
theorem dx_g.stk {st2 : dw_L} {vs : List dx_V} (h : dx_g E md n0 ν0 μ0 ν σ ls st μ) (hs : dx_gL σ.iv.length ν vs st2) : dx_g E md n0 ν0 μ0 ν (⟨dx_S.iv σ, dx_S.dc σ, dx_S.ls σ, vs, dx_S.fa σ, dx_S.fl σ⟩ : dx_S) ls st2 μ :=
  ⟨h.sh, h.hi, h.fr, h.z, h.k0, h.k1, h.ag, h.iv, h.dc, h.gl, hs, h.fa, h.fl⟩
theorem dx_g.lcl {ls2 : dw_L} {vs : List dx_V} (h : dx_g E md n0 ν0 μ0 ν σ ls st μ) (hs : dx_gL σ.iv.length ν vs ls2) : dx_g E md n0 ν0 μ0 ν (⟨dx_S.iv σ, dx_S.dc σ, vs, dx_S.st σ, dx_S.fa σ, dx_S.fl σ⟩ : dx_S) ls2 st μ :=
  ⟨h.sh, h.hi, h.fr, h.z, h.k0, h.k1, h.ag, h.iv, h.dc, hs, h.gs, h.fa, h.fl⟩
theorem dx_g.ivs {iv2 : List (Int × Int)} (h : dx_g E md n0 ν0 μ0 ν σ ls st μ) (hl : iv2.length = σ.iv.length) (hi : ∀ s, s < σ.iv.length → dx_in (dx_gi iv2 s) (ν s)) : dx_g E md n0 ν0 μ0 ν (⟨iv2, dx_S.dc σ, dx_S.ls σ, dx_S.st σ, dx_S.fa σ, dx_S.fl σ⟩ : dx_S) ls st μ := by
  refine ⟨h.sh, h.hi, h.fr, h.z, ?_, ?_, h.ag, ?_, ?_, ?_, ?_, ?_, ?_⟩
  · show n0 ≤ iv2.length; rw [hl]; exact h.k0
  · show 0 < iv2.length; rw [hl]; exact h.k1
  · show ∀ s, s < iv2.length → _; rw [hl]; exact hi
  · show ∀ q ∈ σ.dc, q.1 < iv2.length ∧ q.2.1 < iv2.length ∧ _; rw [hl]; exact h.dc
  · show dx_gL iv2.length _ _ _; rw [hl]; exact h.gl
  · show dx_gL iv2.length _ _ _; rw [hl]; exact h.gs
  · show ∀ q ∈ σ.fa, q.2.2.1 < iv2.length ∧ _; rw [hl]; exact h.fa
  · show ∀ q ∈ σ.fl, q.2.1 < iv2.length ∧ _; rw [hl]; exact h.fl
theorem dx_g.dcs {dc2 : List (Nat × Nat × Int)} (h : dx_g E md n0 ν0 μ0 ν σ ls st μ) (hd : ∀ q ∈ dc2, q.1 < σ.iv.length ∧ q.2.1 < σ.iv.length ∧ ν q.1 - ν q.2.1 ≤ q.2.2) : dx_g E md n0 ν0 μ0 ν (⟨dx_S.iv σ, dc2, dx_S.ls σ, dx_S.st σ, dx_S.fa σ, dx_S.fl σ⟩ : dx_S) ls st μ :=
  ⟨h.sh, h.hi, h.fr, h.z, h.k0, h.k1, h.ag, h.iv, hd, h.gl, h.gs, h.fa, h.fl⟩
theorem dx_g.fas {fa2 : List (Nat × Nat × Nat × Int)} (h : dx_g E md n0 ν0 μ0 ν σ ls st μ) (hf : ∀ q ∈ fa2, q.2.2.1 < σ.iv.length ∧ (μ.2.2.1 q.1 q.2.1).toInt = ν q.2.2.1 + q.2.2.2) : dx_g E md n0 ν0 μ0 ν (⟨dx_S.iv σ, dx_S.dc σ, dx_S.ls σ, dx_S.st σ, fa2, dx_S.fl σ⟩ : dx_S) ls st μ :=
  ⟨h.sh, h.hi, h.fr, h.z, h.k0, h.k1, h.ag, h.iv, h.dc, h.gl, h.gs, hf, h.fl⟩
theorem dx_gL.get : ∀ {vs : List dx_V} {xs : dw_L} {k : Nat} {ν : Nat → Int} {i : Nat} {v : dx_V}, dx_gL k ν vs xs → vs[i]? = some v → ∃ x, xs[i]? = some x ∧ dx_gV k ν v x
  | [], [], _, _, _, _, _, h => by simp at h
  | v :: r, x :: q, k, ν, 0, w, h, h2 => by
    simp only [List.getElem?_cons_zero, Option.some.injEq] at h2
    subst h2
    exact ⟨x, rfl, h.1⟩
  | v :: r, x :: q, k, ν, i + 1, w, h, h2 => by
    simp only [List.getElem?_cons_succ] at h2 ⊢
    exact dx_gL.get h.2 h2
  | [], _ :: _, _, _, _, _, h, _ => h.elim
  | _ :: _, [], _, _, _, _, h, _ => h.elim
theorem dx_gL.set : ∀ {vs : List dx_V} {xs : dw_L} {k : Nat} {ν : Nat → Int} {i : Nat} {v : dx_V} {x : Option Value}, dx_gL k ν vs xs → dx_gV k ν v x → dx_gL k ν (vs.set i v) (xs.set i x)
  | [], [], _, _, _, _, _, h, _ => h
  | v :: r, x :: q, k, ν, 0, w, y, h, h2 => ⟨h2, h.2⟩
  | v :: r, x :: q, k, ν, i + 1, w, y, h, h2 => ⟨h.1, dx_gL.set h.2 h2⟩
  | [], _ :: _, _, _, _, _, _, h, _ => h.elim
  | _ :: _, [], _, _, _, _, _, h, _ => h.elim
theorem dx_gL.len : ∀ {vs : List dx_V} {xs : dw_L} {k : Nat} {ν : Nat → Int}, dx_gL k ν vs xs → vs.length = xs.length
  | [], [], _, _, _ => rfl
  | _ :: r, _ :: q, _, _, h => by simp only [List.length_cons, dx_gL.len h.2]
  | [], _ :: _, _, _, h => h.elim
  | _ :: _, [], _, _, h => h.elim
end
end
