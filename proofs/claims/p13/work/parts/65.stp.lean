/-! ===== one op ===== -/
def dx_ff : List (Nat × Nat × Nat × Int) → Nat → Nat → Option (Nat × Int)
  | [], _, _ => none
  | q :: r, a, j => if Nat.beq q.1 a && Nat.beq q.2.1 j then some (q.2.2.1, q.2.2.2) else dx_ff r a j
def dx_uni (E : dx_Env) : List Nat → Nat → Nat → Int × Int
  | [], _, _ => dx_full
  | [q], j1, j2 => dx_sgr (E.ce q).iv j1 j2
  | q :: r, j1, j2 => (min (dx_sgr (E.ce q).iv j1 j2).1 (dx_uni E r j1 j2).1, max (dx_sgr (E.ce q).iv j1 j2).2 (dx_uni E r j1 j2).2)
def dx_ld (E : dx_Env) (σ : dx_S) (l : List Nat) (j1 j2 : Nat) (r : List dx_V) : dx_S := match l with
  | [q] => if j1 = j2 then (match dx_ff σ.fa q j1 with
      | some (s, o) => if (dx_rg2 σ s o).1 = (dx_rg2 σ s o).2 then (⟨dx_S.iv σ, dx_S.dc σ, dx_S.ls σ, (.inl (0, (dx_rg2 σ s o).1)) :: r, dx_S.fa σ, dx_S.fl σ⟩ : dx_S) else (⟨dx_S.iv σ, dx_S.dc σ, dx_S.ls σ, (.inl (s, o)) :: r, dx_S.fa σ, dx_S.fl σ⟩ : dx_S)
      | none => if (dx_seg (E.ce q).iv j1).1 = (dx_seg (E.ce q).iv j1).2 then (⟨dx_S.iv σ, dx_S.dc σ, dx_S.ls σ, (.inl (0, (dx_seg (E.ce q).iv j1).1)) :: r, dx_S.fa σ, dx_S.fl σ⟩ : dx_S)
        else (⟨dx_S.iv (dx_nw σ (dx_seg (E.ce q).iv j1)), dx_S.dc (dx_nw σ (dx_seg (E.ce q).iv j1)), dx_S.ls (dx_nw σ (dx_seg (E.ce q).iv j1)), (.inl (σ.iv.length, 0)) :: r, (q, j1, σ.iv.length, 0) :: σ.fa, dx_S.fl (dx_nw σ (dx_seg (E.ce q).iv j1))⟩ : dx_S))
    else dx_ph σ (dx_sgr (E.ce q).iv j1 j2) r
  | _ => dx_ph σ (dx_uni E l j1 j2) r
def dx_rv (l : List (Option Nat)) : dx_V := if l.all (fun q => q.isSome) then (.inr (.inl (l.filterMap id))) else (.inr (.inr (.inl (l.filterMap id))))
def dx_tok (t : Nat) (p : Int × Int) : Bool := match t with
  | 3 => decide (0 ≤ p.1) && decide (p.2 ≤ 1)
  | 4 => decide (-128 ≤ p.1) && decide (p.2 ≤ 127)
  | _ => true
/-- writing what (sv, ov) says to slots j1 .. j2 of one of l -/
def dx_stw (E : dx_Env) (md : List Nat) (σ : dx_S) (l : List Nat) (t j1 j2 sv : Nat) (ov : Int) (r : List dx_V) : Option dx_S :=
  if l.all (fun q => dx_mem q md && dx_sga (E.ce q).iv j1 j2 (dx_lb σ sv + ov) (dx_ub σ sv + ov)) && dx_tok t (dx_lb σ sv + ov, dx_ub σ sv + ov) then
    some (⟨dx_S.iv σ, dx_S.dc σ, dx_S.ls σ, r, match l with
      | [q] => if j1 = j2 then (q, j1, sv, ov) :: dx_ka l j1 j2 σ.fa else dx_ka l j1 j2 σ.fa
      | _ => dx_ka l j1 j2 σ.fa, dx_kf E l j1 j2 σ.fl⟩ : dx_S)
  else none
def dx_sm (pc : Nat) (o : Option dx_S) : List (Nat × dx_S) := match o with
  | some σ => [(pc, σ)]
  | none => []
def dx_tb (σ : dx_S) (s : Nat) (o v : Int) : List Nat → List (Nat × dx_S)
  | [] => []
  | t :: r => dx_sm t (dx_rf σ 0 s o 0 v) ++ dx_tb σ s o (v + 1) r
def dx_lk (σ : dx_S) (s : Nat) (o : Int) (df : Nat) : List (Int × Nat) → List (Nat × dx_S)
  | [] => [(df, σ)]
  | (k, t) :: r => dx_sm t (dx_rf σ 0 s o 0 k) ++ (match dx_rf σ 1 s o 0 k with
    | some σ' => dx_lk σ' s o df r
    | none => [])
def dx_bo (σ : dx_S) (k s1 : Nat) (o1 : Int) (s2 : Nat) (o2 : Int) (r : List dx_V) : dx_S :=
  if Nat.beq k 0 && Nat.beq s2 0 && dx_i32 ((dx_rg2 σ s1 o1).1 + o2) && dx_i32 ((dx_rg2 σ s1 o1).2 + o2) then (⟨dx_S.iv σ, dx_S.dc σ, dx_S.ls σ, (.inl (s1, (o1 + o2))) :: r, dx_S.fa σ, dx_S.fl σ⟩ : dx_S)
  else if Nat.beq k 0 && Nat.beq s1 0 && dx_i32 ((dx_rg2 σ s2 o2).1 + o1) && dx_i32 ((dx_rg2 σ s2 o2).2 + o1) then (⟨dx_S.iv σ, dx_S.dc σ, dx_S.ls σ, (.inl (s2, (o1 + o2))) :: r, dx_S.fa σ, dx_S.fl σ⟩ : dx_S)
  else if Nat.beq k 1 && Nat.beq s2 0 && dx_i32 ((dx_rg2 σ s1 o1).1 - o2) && dx_i32 ((dx_rg2 σ s1 o1).2 - o2) then (⟨dx_S.iv σ, dx_S.dc σ, dx_S.ls σ, (.inl (s1, (o1 - o2))) :: r, dx_S.fa σ, dx_S.fl σ⟩ : dx_S)
  else dx_ph σ (dx_bi k (dx_rg2 σ s1 o1).1 (dx_rg2 σ s1 o1).2 (dx_rg2 σ s2 o2).1 (dx_rg2 σ s2 o2).2) r
def dx_stp (E : dx_Env) (md : List Nat) (i : dx_I) (σ : dx_S) : Option (List (Nat × dx_S)) := match i with
  | (1, v, a, _, _, _) => if dx_i32 v then some [(a, (⟨dx_S.iv σ, dx_S.dc σ, dx_S.ls σ, (.inl (0, v)) :: σ.st, dx_S.fa σ, dx_S.fl σ⟩ : dx_S))] else none
  | (2, _, a, _, _, _) => some [(a, (⟨dx_S.iv σ, dx_S.dc σ, dx_S.ls σ, (.inr (.inr (.inr false))) :: σ.st, dx_S.fa σ, dx_S.fl σ⟩ : dx_S))]
  | (3, _, a, _, _, _) => some [(a, (⟨dx_S.iv σ, dx_S.dc σ, dx_S.ls σ, (.inr (.inr (.inl []))) :: σ.st, dx_S.fa σ, dx_S.fl σ⟩ : dx_S))]
  | (4, _, a, _, _, _) => some [(a, σ)]
  | (5, _, a, b, _, _) => match σ.ls[a]? with
    | some ((.inl (s, o))) => if (dx_rg2 σ s o).1 = (dx_rg2 σ s o).2 then some [(b, (⟨dx_S.iv σ, dx_S.dc σ, dx_S.ls σ, (.inl (0, (dx_rg2 σ s o).1)) :: σ.st, dx_S.fa σ, dx_S.fl σ⟩ : dx_S))] else some [(b, (⟨dx_S.iv σ, dx_S.dc σ, dx_S.ls σ, (.inl (s, o)) :: σ.st, dx_S.fa σ, dx_S.fl σ⟩ : dx_S))]
    | _ => none
  | (6, _, a, b, _, _) => match σ.ls[a]? with
    | some (.inr (.inr (.inr false))) => some [(b, (⟨dx_S.iv σ, dx_S.dc σ, dx_S.ls σ, (.inr (.inr (.inr false))) :: σ.st, dx_S.fa σ, dx_S.fl σ⟩ : dx_S))]
    | _ => none
  | (7, _, a, b, _, _) => match σ.ls[a]? with
    | some ((.inr (.inl l))) => some [(b, (⟨dx_S.iv σ, dx_S.dc σ, dx_S.ls σ, (.inr (.inl l)) :: σ.st, dx_S.fa σ, dx_S.fl σ⟩ : dx_S))]
    | some ((.inr (.inr (.inl l)))) => some [(b, (⟨dx_S.iv σ, dx_S.dc σ, dx_S.ls σ, (.inr (.inr (.inl l))) :: σ.st, dx_S.fa σ, dx_S.fl σ⟩ : dx_S))]
    | _ => none
  | (8, _, a, b, _, _) => match σ.st with
    | (.inl (s, o)) :: r => if dx_fr σ.ls a then some [(b, (⟨dx_S.iv σ, dx_S.dc σ, σ.ls.set a ((.inl (s, o))), r, dx_S.fa σ, dx_S.fl σ⟩ : dx_S))] else none
    | _ => none
  | (9, _, a, b, _, _) => match σ.st with
    | (.inr (.inl l)) :: r => if dx_fr σ.ls a then some [(b, (⟨dx_S.iv σ, dx_S.dc σ, σ.ls.set a ((.inr (.inl l))), r, dx_S.fa σ, dx_S.fl σ⟩ : dx_S))] else none
    | (.inr (.inr (.inl l))) :: r => if dx_fr σ.ls a then some [(b, (⟨dx_S.iv σ, dx_S.dc σ, σ.ls.set a ((.inr (.inr (.inl l)))), r, dx_S.fa σ, dx_S.fl σ⟩ : dx_S))] else none
    | _ => none
  | (10, v, a, b, _, _) => match σ.ls[a]? with
    | some ((.inl (s, o))) => if dx_fr σ.ls a && dx_i32 v then (if dx_i32 ((dx_rg2 σ s o).1 + v) && dx_i32 ((dx_rg2 σ s o).2 + v) then some [(b, (⟨dx_S.iv σ, dx_S.dc σ, σ.ls.set a ((.inl (s, (o + v)))), dx_S.st σ, dx_S.fa σ, dx_S.fl σ⟩ : dx_S))]
        else some [(b, (⟨dx_S.iv (dx_nw σ dx_full), dx_S.dc (dx_nw σ dx_full), σ.ls.set a ((.inl (σ.iv.length, 0))), dx_S.st (dx_nw σ dx_full), dx_S.fa (dx_nw σ dx_full), dx_S.fl (dx_nw σ dx_full)⟩ : dx_S))]) else none
    | _ => none
  | (11, _, a, _, _, _) => match σ.st with
    | (.inl (s, o)) :: r => some [(a, (⟨dx_S.iv σ, dx_S.dc σ, dx_S.ls σ, (.inl (s, o)) :: (.inl (s, o)) :: r, dx_S.fa σ, dx_S.fl σ⟩ : dx_S))]
    | (.inr (.inl l)) :: r => some [(a, (⟨dx_S.iv σ, dx_S.dc σ, dx_S.ls σ, (.inr (.inl l)) :: (.inr (.inl l)) :: r, dx_S.fa σ, dx_S.fl σ⟩ : dx_S))]
    | _ => none
  | (12, _, a, _, _, _) => match σ.st with
    | (.inl (s, o)) :: (.inr (.inl l)) :: r => some [(a, (⟨dx_S.iv σ, dx_S.dc σ, dx_S.ls σ, (.inl (s, o)) :: (.inr (.inl l)) :: (.inl (s, o)) :: (.inr (.inl l)) :: r, dx_S.fa σ, dx_S.fl σ⟩ : dx_S))]
    | (.inl (s, o)) :: (.inl (s2, o2)) :: r => some [(a, (⟨dx_S.iv σ, dx_S.dc σ, dx_S.ls σ, (.inl (s, o)) :: (.inl (s2, o2)) :: (.inl (s, o)) :: (.inl (s2, o2)) :: r, dx_S.fa σ, dx_S.fl σ⟩ : dx_S))]
    | _ => none
  | (13, _, a, _, _, _) => match σ.st with
    | (.inl (_, _)) :: r => some [(a, (⟨dx_S.iv σ, dx_S.dc σ, dx_S.ls σ, r, dx_S.fa σ, dx_S.fl σ⟩ : dx_S))]
    | _ => none
  | (14, _, a, b, _, _) => match σ.st with
    | (.inr (.inr (.inl []))) :: r => some [(a, (⟨dx_S.iv σ, dx_S.dc σ, dx_S.ls σ, r, dx_S.fa σ, dx_S.fl σ⟩ : dx_S))]
    | (.inr (.inr (.inl _))) :: r => some [(a, (⟨dx_S.iv σ, dx_S.dc σ, dx_S.ls σ, r, dx_S.fa σ, dx_S.fl σ⟩ : dx_S)), (b, (⟨dx_S.iv σ, dx_S.dc σ, dx_S.ls σ, r, dx_S.fa σ, dx_S.fl σ⟩ : dx_S))]
    | (.inr (.inl _)) :: r => some [(b, (⟨dx_S.iv σ, dx_S.dc σ, dx_S.ls σ, r, dx_S.fa σ, dx_S.fl σ⟩ : dx_S))]
    | _ => none
  | (15, _, a, b, _, _) => match σ.st with
    | (.inr (.inr (.inl []))) :: r => some [(b, (⟨dx_S.iv σ, dx_S.dc σ, dx_S.ls σ, r, dx_S.fa σ, dx_S.fl σ⟩ : dx_S))]
    | (.inr (.inr (.inl _))) :: r => some [(b, (⟨dx_S.iv σ, dx_S.dc σ, dx_S.ls σ, r, dx_S.fa σ, dx_S.fl σ⟩ : dx_S)), (a, (⟨dx_S.iv σ, dx_S.dc σ, dx_S.ls σ, r, dx_S.fa σ, dx_S.fl σ⟩ : dx_S))]
    | (.inr (.inl _)) :: r => some [(a, (⟨dx_S.iv σ, dx_S.dc σ, dx_S.ls σ, r, dx_S.fa σ, dx_S.fl σ⟩ : dx_S))]
    | _ => none
  | (16, v, a, _, _, l) => match σ.st with
    | (.inl (s, o)) :: r => some (dx_sm a (dx_rf (⟨dx_S.iv σ, dx_S.dc σ, dx_S.ls σ, r, dx_S.fa σ, dx_S.fl σ⟩ : dx_S) 2 s o 0 v) ++ dx_sm a (dx_rf (⟨dx_S.iv σ, dx_S.dc σ, dx_S.ls σ, r, dx_S.fa σ, dx_S.fl σ⟩ : dx_S) 4 s o 0 (v + (l.length : Int) - 1)) ++ dx_tb (⟨dx_S.iv σ, dx_S.dc σ, dx_S.ls σ, r, dx_S.fa σ, dx_S.fl σ⟩ : dx_S) s o v l)
    | _ => none
  | (17, _, a, _, _, l) => match σ.st with
    | (.inl (s, o)) :: r => some (dx_lk (⟨dx_S.iv σ, dx_S.dc σ, dx_S.ls σ, r, dx_S.fa σ, dx_S.fl σ⟩ : dx_S) s o a (dx_pairs l))
    | _ => none
  | (18, _, a, b, _, _) => match σ.st with
    | (.inl (s2, o2)) :: (.inl (s1, o1)) :: r => if Nat.ble a 11 && (!(Nat.beq a 8 || Nat.beq a 9) || (decide (0 < (dx_rg2 σ s2 o2).1) || decide ((dx_rg2 σ s2 o2).2 < 0))) && (Nat.ble a 9 || Nat.ble (dx_cats r) 8) then some [(b, dx_bo σ a s1 o1 s2 o2 r)] else none
    | _ => none
  | (19, _, a, b, _, _) => match σ.st with
    | (.inl (s, o)) :: r => if Nat.ble a 2 && (Nat.ble a 1 || Nat.ble (dx_cats r) 8) then some [(b, dx_ph σ (dx_ui a (dx_rg2 σ s o).1 (dx_rg2 σ s o).2) r)] else none
    | _ => none
  | (20, _, a, _, _, _) => match σ.st with
    | (.inl (_, _)) :: r => some [(a, (⟨dx_S.iv σ, dx_S.dc σ, dx_S.ls σ, (.inr (.inr (.inr false))) :: r, dx_S.fa σ, dx_S.fl σ⟩ : dx_S))]
    | _ => none
  | (21, _, a, _, _, _) => match σ.st with
    | (.inr (.inr (.inr false))) :: (.inr (.inr (.inr false))) :: r => some [(a, (⟨dx_S.iv σ, dx_S.dc σ, dx_S.ls σ, (.inr (.inr (.inr false))) :: r, dx_S.fa σ, dx_S.fl σ⟩ : dx_S))]
    | _ => none
  | (22, _, a, _, _, _) => match σ.st with
    | (.inl (_, _)) :: (.inr (.inr (.inr false))) :: r => some [(a, (⟨dx_S.iv σ, dx_S.dc σ, dx_S.ls σ, (.inr (.inr (.inr false))) :: r, dx_S.fa σ, dx_S.fl σ⟩ : dx_S))]
    | _ => none
  | (23, _, a, _, _, _) => match σ.st with
    | (.inr (.inr (.inr false))) :: (.inr (.inr (.inr false))) :: r => some [(a, dx_ph σ (-1, 1) r)]
    | _ => none
  | (24, _, a, b, c, _) => match σ.st with
    | (.inl (s2, o2)) :: (.inl (s1, o1)) :: r => if Nat.ble a 5 then some (dx_sm b (dx_rf (⟨dx_S.iv σ, dx_S.dc σ, dx_S.ls σ, r, dx_S.fa σ, dx_S.fl σ⟩ : dx_S) a s1 o1 s2 o2) ++ dx_sm c (dx_rf (⟨dx_S.iv σ, dx_S.dc σ, dx_S.ls σ, r, dx_S.fa σ, dx_S.fl σ⟩ : dx_S) (dx_ng a) s1 o1 s2 o2)) else none
    | _ => none
  | (25, _, a, b, c, _) => match σ.st with
    | (.inl (s1, o1)) :: r => if Nat.ble a 5 then some (dx_sm b (dx_rf (⟨dx_S.iv σ, dx_S.dc σ, dx_S.ls σ, r, dx_S.fa σ, dx_S.fl σ⟩ : dx_S) a s1 o1 0 0) ++ dx_sm c (dx_rf (⟨dx_S.iv σ, dx_S.dc σ, dx_S.ls σ, r, dx_S.fa σ, dx_S.fl σ⟩ : dx_S) (dx_ng a) s1 o1 0 0)) else none
    | _ => none
  | (26, v, a, b, c, _) => match σ.st with
    | (.inr (.inl l)) :: r => if l.all (fun q => Nat.beq (E.ce q).k a) then (match v.toNat with
      | 1 => some [(c, (⟨dx_S.iv σ, dx_S.dc σ, dx_S.ls σ, (.inr (.inr (.inr false))) :: r, dx_S.fa σ, dx_S.fl σ⟩ : dx_S))]
      | 2 => some [(c, (⟨dx_S.iv σ, dx_S.dc σ, dx_S.ls σ, dx_rv (l.map fun q => ((E.ce q).rf[b]?).join) :: r, dx_S.fa σ, dx_S.fl σ⟩ : dx_S))]
      | _ => some [(c, dx_ld E σ l b b r)]) else none
    | _ => none
  | (27, v, a, b, c, _) => match σ.st with
    | (.inl (s, o)) :: (.inr (.inl l)) :: r => if l.all (fun q => Nat.beq (E.ce q).k a) then (match dx_stw E md σ l v.toNat b b s o r with
      | some σ' => some [(c, σ')]
      | none => none) else none
    | _ => none
  | (28, _, a, _, c, _) => match σ.st with
    | (.inr (.inr (.inr false))) :: (.inr (.inl l)) :: r => if l.all (fun q => Nat.beq (E.ce q).k a && dx_mem q md) then some [(c, (⟨dx_S.iv σ, dx_S.dc σ, dx_S.ls σ, r, dx_S.fa σ, dx_S.fl σ⟩ : dx_S))] else none
    | _ => none
  | (29, v, a, _, c, _) => match σ.st with
    | (.inl (s, o)) :: (.inr (.inl l)) :: r => if decide (0 ≤ (dx_rg2 σ s o).1) && l.all (fun q => Nat.beq (E.ce q).k a && decide ((dx_rg2 σ s o).2 < (E.ce q).n)) then (match v.toNat with
      | 1 => some [(c, (⟨dx_S.iv σ, dx_S.dc σ, dx_S.ls σ, (.inr (.inr (.inr false))) :: r, dx_S.fa σ, dx_S.fl σ⟩ : dx_S))]
      | 2 => some [(c, (⟨dx_S.iv σ, dx_S.dc σ, dx_S.ls σ, dx_rv (l.flatMap fun q => (List.range ((dx_rg2 σ s o).2.toNat + 1 - (dx_rg2 σ s o).1.toNat)).map fun j => ((E.ce q).rf[(dx_rg2 σ s o).1.toNat + j]?).join) :: r, dx_S.fa σ, dx_S.fl σ⟩ : dx_S))]
      | _ => some [(c, dx_ld E σ l (dx_rg2 σ s o).1.toNat (dx_rg2 σ s o).2.toNat r)]) else none
    | _ => none
  | (30, v, a, _, c, _) => match σ.st with
    | (.inl (sv, ov)) :: (.inl (s, o)) :: (.inr (.inl l)) :: r => if decide (0 ≤ (dx_rg2 σ s o).1) && l.all (fun q => Nat.beq (E.ce q).k a && decide ((dx_rg2 σ s o).2 < (E.ce q).n)) then (match dx_stw E md σ l v.toNat (dx_rg2 σ s o).1.toNat (dx_rg2 σ s o).2.toNat sv ov r with
      | some σ' => some [(c, σ')]
      | none => none) else none
    | _ => none
  | (31, _, a, _, _, _) => match σ.st with
    | (.inr (.inr (.inr false))) :: (.inl (s, o)) :: (.inr (.inl l)) :: r => if decide (0 ≤ (dx_rg2 σ s o).1) && l.all (fun q => Nat.beq (E.ce q).k 17 && decide ((dx_rg2 σ s o).2 < (E.ce q).n) && dx_mem q md) then some [(a, (⟨dx_S.iv σ, dx_S.dc σ, dx_S.ls σ, r, dx_S.fa σ, dx_S.fl σ⟩ : dx_S))] else none
    | _ => none
  | (32, _, a, _, _, _) => match σ.st with
    | (.inr (.inl (q0 :: l))) :: r => if dx_i32 (E.ce q0).n && (q0 :: l).all (fun q => !(Nat.beq (E.ce q).k 999) && Nat.ble 16 (E.ce q).k && Nat.beq (E.ce q).n (E.ce q0).n) then some [(a, (⟨dx_S.iv σ, dx_S.dc σ, dx_S.ls σ, (.inl (0, (E.ce q0).n)) :: r, dx_S.fa σ, dx_S.fl σ⟩ : dx_S))] else none
    | _ => none
  | (33, _, a, _, _, _) => match σ.st with
    | (.inl (0, n)) :: (.inl (0, dp)) :: (.inr (.inl l2)) :: (.inl (0, sp)) :: (.inr (.inl l1)) :: r => if Nat.ble (dx_cats r) 8 && decide (1 ≤ n) && decide (0 ≤ dp) && decide (0 ≤ sp) && l1.all (fun q => Nat.beq (E.ce q).k 16 && decide (sp + n ≤ (E.ce q).n)) && l2.all (fun q => Nat.beq (E.ce q).k 16 && decide (dp + n ≤ (E.ce q).n) && dx_mem q md
        && l1.all (fun q1 => dx_sga (E.ce q).iv dp.toNat (dp.toNat + (n.toNat - 1)) (dx_sgr (E.ce q1).iv sp.toNat (sp.toNat + (n.toNat - 1))).1 (dx_sgr (E.ce q1).iv sp.toNat (sp.toNat + (n.toNat - 1))).2)) then
        some [(a, (⟨dx_S.iv σ, dx_S.dc σ, dx_S.ls σ, r, dx_ka l2 dp.toNat (dp.toNat + n.toNat) σ.fa, dx_kf E l2 dp.toNat (dp.toNat + n.toNat) σ.fl⟩ : dx_S))] else none
    | _ => none
  | (40, v, a, _, _, _) => some [(a, (⟨dx_S.iv σ, dx_S.dc σ, dx_S.ls σ, (.inr (.inl [1000001 + v.toNat])) :: σ.st, dx_S.fa σ, dx_S.fl σ⟩ : dx_S))]
  | _ => none
