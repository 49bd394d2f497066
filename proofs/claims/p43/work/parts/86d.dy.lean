/-! ===== lists gone through by List.rec ===== -/
noncomputable def dz_any {α : Type} (p : α → Bool) (l : List α) : Bool := List.rec (motive := fun _ => Bool) false (fun a _ ih => Bool.rec (motive := fun _ => Bool) ih true (p a)) l
noncomputable def dz_all {α : Type} (p : α → Bool) (l : List α) : Bool := List.rec (motive := fun _ => Bool) true (fun a _ ih => Bool.rec (motive := fun _ => Bool) false ih (p a)) l
noncomputable def dz_fil {α : Type} (p : α → Bool) (l : List α) : List α := List.rec (motive := fun _ => List α) [] (fun a _ ih => Bool.rec (motive := fun _ => List α) ih (a :: ih) (p a)) l
noncomputable def dz_map {α β : Type} (f : α → β) (l : List α) : List β := List.rec (motive := fun _ => List β) [] (fun a _ ih => f a :: ih) l
noncomputable def dz_len {α : Type} (l : List α) : Nat := List.rec (motive := fun _ => Nat) 0 (fun _ _ ih => Nat.succ ih) l
noncomputable def dz_get {α : Type} (l : List α) (n : Nat) : Option α := List.rec (motive := fun _ => Nat → Option α) (fun _ => none) (fun a _ ih n => Nat.rec (motive := fun _ => Option α) (some a) (fun k _ => ih k) n) l n
noncomputable def dz_drop {α : Type} (n : Nat) (l : List α) : List α := List.rec (motive := fun _ => Nat → List α) (fun _ => []) (fun a r ih n => Nat.rec (motive := fun _ => List α) (a :: r) (fun k _ => ih k) n) l n
noncomputable def dz_app {α : Type} (l r : List α) : List α := List.rec (motive := fun _ => List α) r (fun a _ ih => a :: ih) l
noncomputable def dz_le (a b : Int) : Bool := Int.rec (motive := fun _ => Bool) (fun m => Int.rec (motive := fun _ => Bool) (fun n => Nat.ble m n) (fun _ => false) b) (fun m => Int.rec (motive := fun _ => Bool) (fun _ => true) (fun n => Nat.ble n m) b) a
noncomputable def dz_lt (a b : Int) : Bool := Bool.rec (motive := fun _ => Bool) true false (dz_le b a)
theorem dz_ble (m n : Nat) : Nat.ble m n = decide (m ≤ n) := by
  by_cases h : m ≤ n
  · rw [decide_eq_true h, Nat.ble_eq_true_of_le h]
  · rw [decide_eq_false h]
    cases e : Nat.ble m n with
    | false => rfl
    | true => exact absurd (Nat.le_of_ble_eq_true e) h
theorem dz_le_eq (a b : Int) : dz_le a b = decide (a ≤ b) := by
  cases a with
  | ofNat m =>
    cases b with
    | ofNat n =>
      refine (dz_ble m n).trans ?_
      exact decide_eq_decide.mpr (by rw [Int.ofNat_eq_natCast, Int.ofNat_eq_natCast]; omega)
    | negSucc n => exact (decide_eq_false (by rw [Int.ofNat_eq_natCast, Int.negSucc_eq]; omega)).symm
  | negSucc m =>
    cases b with
    | ofNat n => exact (decide_eq_true (by rw [Int.ofNat_eq_natCast, Int.negSucc_eq]; omega)).symm
    | negSucc n =>
      refine (dz_ble n m).trans ?_
      exact decide_eq_decide.mpr (by rw [Int.negSucc_eq, Int.negSucc_eq]; omega)
theorem dz_lt_eq (a b : Int) : dz_lt a b = decide (a < b) := by
  unfold dz_lt
  rw [dz_le_eq]
  by_cases h : b ≤ a
  · rw [decide_eq_true h, decide_eq_false (by omega)]
  · rw [decide_eq_false h, decide_eq_true (by omega)]
theorem dz_any_eq {α : Type} (p : α → Bool) : ∀ l : List α, dz_any p l = l.any p
  | [] => rfl
  | a :: l => by
    show Bool.rec (motive := fun _ => Bool) (dz_any p l) true (p a) = _
    rw [List.any_cons, dz_any_eq p l]
    cases p a <;> rfl
theorem dz_all_eq {α : Type} (p : α → Bool) : ∀ l : List α, dz_all p l = l.all p
  | [] => rfl
  | a :: l => by
    show Bool.rec (motive := fun _ => Bool) false (dz_all p l) (p a) = _
    rw [List.all_cons, dz_all_eq p l]
    cases p a <;> rfl
theorem dz_fil_eq {α : Type} (p : α → Bool) : ∀ l : List α, dz_fil p l = l.filter p
  | [] => rfl
  | a :: l => by
    show Bool.rec (motive := fun _ => List α) (dz_fil p l) (a :: dz_fil p l) (p a) = _
    rw [List.filter_cons, dz_fil_eq p l]
    cases p a <;> rfl
theorem dz_map_eq {α β : Type} (f : α → β) : ∀ l : List α, dz_map f l = l.map f
  | [] => rfl
  | a :: l => by
    show f a :: dz_map f l = _
    rw [dz_map_eq f l]
    rfl
theorem dz_len_eq {α : Type} : ∀ l : List α, dz_len l = l.length
  | [] => rfl
  | a :: l => by
    show Nat.succ (dz_len l) = _
    rw [dz_len_eq l]
    rfl
theorem dz_get_eq {α : Type} : ∀ (l : List α) (n : Nat), dz_get l n = l[n]?
  | [], n => rfl
  | a :: l, 0 => rfl
  | a :: l, n + 1 => by
    show dz_get l n = _
    rw [dz_get_eq l n, List.getElem?_cons_succ]
theorem dz_drop_eq {α : Type} : ∀ (n : Nat) (l : List α), dz_drop n l = l.drop n
  | 0, [] => rfl
  | n + 1, [] => rfl
  | 0, a :: l => rfl
  | n + 1, a :: l => by
    show dz_drop n l = _
    rw [dz_drop_eq n l]
    rfl
theorem dz_app_eq {α : Type} (r : List α) : ∀ l : List α, dz_app l r = l ++ r
  | [] => rfl
  | a :: l => by
    show a :: dz_app l r = _
    rw [dz_app_eq r l]
    rfl
noncomputable def dy_gi (l : List (Int × Int)) (n : Nat) : Int × Int := List.rec (motive := fun _ => Nat → Int × Int) (fun _ => dx_full) (fun p _ ih n => Nat.rec (motive := fun _ => Int × Int) p (fun k _ => ih k) n) l n
theorem fe_gi : @dy_gi = @dx_gi := by
  funext l n
  induction l generalizing n with
  | nil => rfl
  | cons a r ih =>
    cases n with
    | zero => rfl
    | succ n => exact ih n
noncomputable def dy_sv (l : List (Int × Int)) (n : Nat) (q : Int × Int) : List (Int × Int) := List.rec (motive := fun _ => Nat → List (Int × Int)) (fun _ => []) (fun p r ih n => Nat.rec (motive := fun _ => List (Int × Int)) (q :: r) (fun k _ => p :: ih k) n) l n
theorem fe_sv : @dy_sv = @dx_sv := by
  funext l n q
  induction l generalizing n with
  | nil => rfl
  | cons a r ih =>
    cases n with
    | zero => rfl
    | succ n => exact congrArg (List.cons a) (ih n)
noncomputable def dy_mem (a : Nat) (l : List Nat) : Bool := (dz_any (fun b => Nat.beq a b) l)
theorem fe_mem : @dy_mem = @dx_mem := by
  delta dy_mem dx_mem
  simp only [dz_any_eq, dz_all_eq, dz_fil_eq, dz_map_eq, dz_len_eq, dz_get_eq, dz_drop_eq, dz_app_eq, dz_le_eq, dz_lt_eq] <;> rfl
noncomputable def dy_rg2 (σ : dx_S) (s : Nat) (o : Int) : Int × Int := ((dy_gi σ.iv s).1 + o, (dy_gi σ.iv s).2 + o)
theorem fe_rg2 : @dy_rg2 = @dx_rg2 := by
  delta dy_rg2 dx_rg2
  simp only [dz_any_eq, dz_all_eq, dz_fil_eq, dz_map_eq, dz_len_eq, dz_get_eq, dz_drop_eq, dz_app_eq, dz_le_eq, dz_lt_eq, fe_gi] <;> rfl
noncomputable def dy_ph (σ : dx_S) (p : Int × Int) (r : List dx_V) : dx_S := if p.1 = p.2 then (⟨dx_S.iv σ, dx_S.dc σ, dx_S.ls σ, (.inl (0, p.1)) :: r, dx_S.fa σ, dx_S.fl σ⟩ : dx_S) else (⟨dx_S.iv (dx_nw σ p), dx_S.dc (dx_nw σ p), dx_S.ls (dx_nw σ p), (.inl ((dz_len σ.iv), 0)) :: r, dx_S.fa (dx_nw σ p), dx_S.fl (dx_nw σ p)⟩ : dx_S)
theorem fe_ph : @dy_ph = @dx_ph := by
  delta dy_ph dx_ph
  simp only [dz_any_eq, dz_all_eq, dz_fil_eq, dz_map_eq, dz_len_eq, dz_get_eq, dz_drop_eq, dz_app_eq, dz_le_eq, dz_lt_eq] <;> rfl
noncomputable def dy_fr (ls : List dx_V) (i : Nat) : Bool := match i with
  | 0 => true
  | i + 1 => match (dz_get ls i) with
    | some (.inr (.inr (.inr false))) => false
    | _ => true
theorem fe_fr : @dy_fr = @dx_fr := by
  delta dy_fr dx_fr
  simp only [dz_any_eq, dz_all_eq, dz_fil_eq, dz_map_eq, dz_len_eq, dz_get_eq, dz_drop_eq, dz_app_eq, dz_le_eq, dz_lt_eq] <;> rfl
noncomputable def dy_kf (E : dx_Env) (l : List Nat) (j1 j2 : Nat) (fl : List (Nat × Nat × Int)) : List (Nat × Nat × Int) := (dz_fil (fun f => !(dz_any (fun q => dy_mem q.1 l && (Nat.ble j1 q.2.2 && Nat.ble q.2.1 j2)) (E.sup f.1))) fl)
theorem fe_kf : @dy_kf = @dx_kf := by
  delta dy_kf dx_kf
  simp only [dz_any_eq, dz_all_eq, dz_fil_eq, dz_map_eq, dz_len_eq, dz_get_eq, dz_drop_eq, dz_app_eq, dz_le_eq, dz_lt_eq, fe_mem] <;> rfl
noncomputable def dy_kc (E : dx_Env) (l : List Nat) (fl : List (Nat × Nat × Int)) : List (Nat × Nat × Int) := (dz_fil (fun f => !(dz_any (fun q => dy_mem q.1 l) (E.sup f.1))) fl)
theorem fe_kc : @dy_kc = @dx_kc := by
  delta dy_kc dx_kc
  simp only [dz_any_eq, dz_all_eq, dz_fil_eq, dz_map_eq, dz_len_eq, dz_get_eq, dz_drop_eq, dz_app_eq, dz_le_eq, dz_lt_eq, fe_mem] <;> rfl
noncomputable def dy_ka (l : List Nat) (j1 j2 : Nat) (fa : List (Nat × Nat × Nat × Int)) : List (Nat × Nat × Nat × Int) := (dz_fil (fun q => !(dy_mem q.1 l && (Nat.ble j1 q.2.1 && Nat.ble q.2.1 j2))) fa)
theorem fe_ka : @dy_ka = @dx_ka := by
  delta dy_ka dx_ka
  simp only [dz_any_eq, dz_all_eq, dz_fil_eq, dz_map_eq, dz_len_eq, dz_get_eq, dz_drop_eq, dz_app_eq, dz_le_eq, dz_lt_eq, fe_mem] <;> rfl
noncomputable def dy_ub (cur : dx_S) (s : Nat) : Int := List.rec (motive := fun _ => Int → Int) (fun m => m) (fun q _ ih m => ih (Bool.rec (motive := fun _ => Int) m (min m ((dy_gi cur.iv q.2.1).2 + q.2.2)) (Nat.beq q.1 s))) cur.dc (dy_gi cur.iv s).2
theorem fe_ub : @dy_ub = @dx_ub := by
  funext cur s
  have h : ∀ (l : List (Nat × Nat × Int)) (m : Int), List.rec (motive := fun _ => Int → Int) (fun m => m) (fun q _ ih m => ih (Bool.rec (motive := fun _ => Int) m (min m ((dy_gi cur.iv q.2.1).2 + q.2.2)) (Nat.beq q.1 s))) l m = l.foldl (fun m q => if Nat.beq q.1 s then min m ((dy_gi cur.iv q.2.1).2 + q.2.2) else m) m := by
    intro l
    induction l with
    | nil => intro m; rfl
    | cons q r ih =>
      intro m
      refine (ih (Bool.rec (motive := fun _ => Int) m (min m ((dy_gi cur.iv q.2.1).2 + q.2.2)) (Nat.beq q.1 s))).trans ?_
      rw [List.foldl_cons]
      cases Nat.beq q.1 s <;> rfl
  show List.rec (motive := fun _ => Int → Int) (fun m => m) (fun q _ ih m => ih (Bool.rec (motive := fun _ => Int) m (min m ((dy_gi cur.iv q.2.1).2 + q.2.2)) (Nat.beq q.1 s))) cur.dc (dy_gi cur.iv s).2 = _
  rw [h]
  simp only [fe_gi]
  rfl
noncomputable def dy_lb (cur : dx_S) (s : Nat) : Int := List.rec (motive := fun _ => Int → Int) (fun m => m) (fun q _ ih m => ih (Bool.rec (motive := fun _ => Int) m (max m ((dy_gi cur.iv q.1).1 - q.2.2)) (Nat.beq q.2.1 s))) cur.dc (dy_gi cur.iv s).1
theorem fe_lb : @dy_lb = @dx_lb := by
  funext cur s
  have h : ∀ (l : List (Nat × Nat × Int)) (m : Int), List.rec (motive := fun _ => Int → Int) (fun m => m) (fun q _ ih m => ih (Bool.rec (motive := fun _ => Int) m (max m ((dy_gi cur.iv q.1).1 - q.2.2)) (Nat.beq q.2.1 s))) l m = l.foldl (fun m q => if Nat.beq q.2.1 s then max m ((dy_gi cur.iv q.1).1 - q.2.2) else m) m := by
    intro l
    induction l with
    | nil => intro m; rfl
    | cons q r ih =>
      intro m
      refine (ih (Bool.rec (motive := fun _ => Int) m (max m ((dy_gi cur.iv q.1).1 - q.2.2)) (Nat.beq q.2.1 s))).trans ?_
      rw [List.foldl_cons]
      cases Nat.beq q.2.1 s <;> rfl
  show List.rec (motive := fun _ => Int → Int) (fun m => m) (fun q _ ih m => ih (Bool.rec (motive := fun _ => Int) m (max m ((dy_gi cur.iv q.1).1 - q.2.2)) (Nat.beq q.2.1 s))) cur.dc (dy_gi cur.iv s).1 = _
  rw [h]
  simp only [fe_gi]
  rfl
noncomputable def dy_dl (d : List (Nat × Nat × Int)) (s1 s2 : Nat) (m : Int) : Int := List.rec (motive := fun _ => Int → Int) (fun m => m) (fun q _ ih m => ih (Bool.rec (motive := fun _ => Int) m (Bool.rec (motive := fun _ => Int) m (min m q.2.2) (Nat.beq q.2.1 s2)) (Nat.beq q.1 s1))) d m
theorem fe_dl : @dy_dl = @dx_dl := by
  funext d s1 s2 m
  induction d generalizing m with
  | nil => rfl
  | cons q r ih =>
    show dy_dl r s1 s2 (Bool.rec (motive := fun _ => Int) m (Bool.rec (motive := fun _ => Int) m (min m q.2.2) (Nat.beq q.2.1 s2)) (Nat.beq q.1 s1)) = _
    rw [ih, dx_dl]
    cases Nat.beq q.1 s1 <;> cases Nat.beq q.2.1 s2 <;> rfl
noncomputable def dy_df (σ : dx_S) (s1 s2 : Nat) : Int := if s1 = s2 then 0 else dy_dl σ.dc s1 s2 (dy_ub σ s1 - dy_lb σ s2)
theorem fe_df : @dy_df = @dx_df := by
  delta dy_df dx_df
  simp only [dz_any_eq, dz_all_eq, dz_fil_eq, dz_map_eq, dz_len_eq, dz_get_eq, dz_drop_eq, dz_app_eq, dz_le_eq, dz_lt_eq, fe_dl, fe_lb, fe_ub] <;> rfl
noncomputable def dy_rf (σ : dx_S) (c s1 : Nat) (o1 : Int) (s2 : Nat) (o2 : Int) : Option dx_S :=
  let p := dy_rg2 σ s1 o1
  let q := dy_rg2 σ s2 o2
  let r := dx_cr c p.1 p.2 q.1 q.2
  if dz_lt r.2.1 r.1 || dz_lt r.2.2.2 r.2.2.1 || dx_no c (dy_df σ s1 s2 + o1 - o2) (dy_df σ s2 s1 + o2 - o1) then none
  else some (⟨dy_sv (dy_sv σ.iv s1 (r.1 - o1, r.2.1 - o1)) s2 (r.2.2.1 - o2, r.2.2.2 - o2), if s1 = 0 ∨ s2 = 0 ∨ s1 = s2 then σ.dc else dx_ad c s1 o1 s2 o2 σ.dc, dx_S.ls σ, dx_S.st σ, dx_S.fa σ, dx_S.fl σ⟩ : dx_S)
theorem fe_rf : @dy_rf = @dx_rf := by
  delta dy_rf dx_rf
  simp only [dz_any_eq, dz_all_eq, dz_fil_eq, dz_map_eq, dz_len_eq, dz_get_eq, dz_drop_eq, dz_app_eq, dz_le_eq, dz_lt_eq, fe_df, fe_rg2, fe_sv] <;> rfl
noncomputable def dy_ff (l : List (Nat × Nat × Nat × Int)) (a j : Nat) : Option (Nat × Int) := List.rec (motive := fun _ => Option (Nat × Int)) none (fun q _ ih => Bool.rec (motive := fun _ => Option (Nat × Int)) ih (Bool.rec (motive := fun _ => Option (Nat × Int)) ih (some (q.2.2.1, q.2.2.2)) (Nat.beq q.2.1 j)) (Nat.beq q.1 a)) l
theorem fe_ff : @dy_ff = @dx_ff := by
  funext l a j
  induction l with
  | nil => rfl
  | cons q r ih =>
    show Bool.rec (motive := fun _ => Option (Nat × Int)) (dy_ff r a j) (Bool.rec (motive := fun _ => Option (Nat × Int)) (dy_ff r a j) (some (q.2.2.1, q.2.2.2)) (Nat.beq q.2.1 j)) (Nat.beq q.1 a) = _
    rw [ih, dx_ff]
    cases Nat.beq q.1 a <;> cases Nat.beq q.2.1 j <;> rfl
noncomputable def dy_ld (E : dx_Env) (σ : dx_S) (l : List Nat) (j1 j2 : Nat) (r : List dx_V) : dx_S := match l with
  | [q] => if j1 = j2 then (match dy_ff σ.fa q j1 with
      | some (s, o) => if (dy_rg2 σ s o).1 = (dy_rg2 σ s o).2 then (⟨dx_S.iv σ, dx_S.dc σ, dx_S.ls σ, (.inl (0, (dy_rg2 σ s o).1)) :: r, dx_S.fa σ, dx_S.fl σ⟩ : dx_S) else (⟨dx_S.iv σ, dx_S.dc σ, dx_S.ls σ, (.inl (s, o)) :: r, dx_S.fa σ, dx_S.fl σ⟩ : dx_S)
      | none => if (dx_seg (E.ce q).iv j1).1 = (dx_seg (E.ce q).iv j1).2 then (⟨dx_S.iv σ, dx_S.dc σ, dx_S.ls σ, (.inl (0, (dx_seg (E.ce q).iv j1).1)) :: r, dx_S.fa σ, dx_S.fl σ⟩ : dx_S)
        else (⟨dx_S.iv (dx_nw σ (dx_seg (E.ce q).iv j1)), dx_S.dc (dx_nw σ (dx_seg (E.ce q).iv j1)), dx_S.ls (dx_nw σ (dx_seg (E.ce q).iv j1)), (.inl ((dz_len σ.iv), 0)) :: r, (q, j1, (dz_len σ.iv), 0) :: σ.fa, dx_S.fl (dx_nw σ (dx_seg (E.ce q).iv j1))⟩ : dx_S))
    else dy_ph σ (dx_sgr (E.ce q).iv j1 j2) r
  | _ => dy_ph σ (dx_uni E l j1 j2) r
theorem fe_ld : @dy_ld = @dx_ld := by
  delta dy_ld dx_ld
  simp only [dz_any_eq, dz_all_eq, dz_fil_eq, dz_map_eq, dz_len_eq, dz_get_eq, dz_drop_eq, dz_app_eq, dz_le_eq, dz_lt_eq, fe_ff, fe_ph, fe_rg2] <;> rfl
noncomputable def dy_rv (l : List (Option Nat)) : dx_V := if (dz_all (fun q => q.isSome) l) then (.inr (.inl (l.filterMap id))) else (.inr (.inr (.inl (l.filterMap id))))
theorem fe_rv : @dy_rv = @dx_rv := by
  delta dy_rv dx_rv
  simp only [dz_any_eq, dz_all_eq, dz_fil_eq, dz_map_eq, dz_len_eq, dz_get_eq, dz_drop_eq, dz_app_eq, dz_le_eq, dz_lt_eq] <;> rfl
noncomputable def dy_stw (E : dx_Env) (md : List Nat) (σ : dx_S) (l : List Nat) (t j1 j2 sv : Nat) (ov : Int) (r : List dx_V) : Option dx_S :=
  if (dz_all (fun q => dy_mem q md && dx_sga (E.ce q).iv j1 j2 (dy_lb σ sv + ov) (dy_ub σ sv + ov)) l) && dx_tok t (dy_lb σ sv + ov, dy_ub σ sv + ov) then
    some (⟨dx_S.iv σ, dx_S.dc σ, dx_S.ls σ, r, match l with
      | [q] => if j1 = j2 then (q, j1, sv, ov) :: dy_ka l j1 j2 σ.fa else dy_ka l j1 j2 σ.fa
      | _ => dy_ka l j1 j2 σ.fa, dy_kf E l j1 j2 σ.fl⟩ : dx_S)
  else none
theorem fe_stw : @dy_stw = @dx_stw := by
  delta dy_stw dx_stw
  simp only [dz_any_eq, dz_all_eq, dz_fil_eq, dz_map_eq, dz_len_eq, dz_get_eq, dz_drop_eq, dz_app_eq, dz_le_eq, dz_lt_eq, fe_ka, fe_kf, fe_lb, fe_mem, fe_ub] <;> rfl
noncomputable def dy_tb (σ : dx_S) (s : Nat) (o v : Int) : List Nat → List (Nat × dx_S)
  | [] => []
  | t :: r => dx_sm t (dy_rf σ 0 s o 0 v) ++ dy_tb σ s o (v + 1) r
theorem fe_tb : @dy_tb = @dx_tb := by
  funext σ s o v l
  induction l generalizing v with
  | nil => rfl
  | cons a r ih =>
    simp only [dy_tb, dx_tb, dz_any_eq, dz_all_eq, dz_fil_eq, dz_map_eq, dz_len_eq, dz_get_eq, dz_drop_eq, dz_app_eq, dz_le_eq, dz_lt_eq, fe_rf, ih] <;> rfl
noncomputable def dy_lk (σ : dx_S) (s : Nat) (o : Int) (df : Nat) : List (Int × Nat) → List (Nat × dx_S)
  | [] => [(df, σ)]
  | (k, t) :: r => dx_sm t (dy_rf σ 0 s o 0 k) ++ (match dy_rf σ 1 s o 0 k with
    | some σ' => dy_lk σ' s o df r
    | none => [])
theorem fe_lk : @dy_lk = @dx_lk := by
  funext σ s o d l
  induction l generalizing σ with
  | nil => rfl
  | cons a r ih =>
    obtain ⟨k1, t1⟩ := a
    simp only [dy_lk, dx_lk, dz_any_eq, dz_all_eq, dz_fil_eq, dz_map_eq, dz_len_eq, dz_get_eq, dz_drop_eq, dz_app_eq, dz_le_eq, dz_lt_eq, fe_rf, ih] <;> rfl
noncomputable def dy_bo (σ : dx_S) (k s1 : Nat) (o1 : Int) (s2 : Nat) (o2 : Int) (r : List dx_V) : dx_S :=
  if Nat.beq k 0 && Nat.beq s2 0 && dx_i32 ((dy_rg2 σ s1 o1).1 + o2) && dx_i32 ((dy_rg2 σ s1 o1).2 + o2) then (⟨dx_S.iv σ, dx_S.dc σ, dx_S.ls σ, (.inl (s1, (o1 + o2))) :: r, dx_S.fa σ, dx_S.fl σ⟩ : dx_S)
  else if Nat.beq k 0 && Nat.beq s1 0 && dx_i32 ((dy_rg2 σ s2 o2).1 + o1) && dx_i32 ((dy_rg2 σ s2 o2).2 + o1) then (⟨dx_S.iv σ, dx_S.dc σ, dx_S.ls σ, (.inl (s2, (o1 + o2))) :: r, dx_S.fa σ, dx_S.fl σ⟩ : dx_S)
  else if Nat.beq k 1 && Nat.beq s2 0 && dx_i32 ((dy_rg2 σ s1 o1).1 - o2) && dx_i32 ((dy_rg2 σ s1 o1).2 - o2) then (⟨dx_S.iv σ, dx_S.dc σ, dx_S.ls σ, (.inl (s1, (o1 - o2))) :: r, dx_S.fa σ, dx_S.fl σ⟩ : dx_S)
  else dy_ph σ (dx_bi k (dy_rg2 σ s1 o1).1 (dy_rg2 σ s1 o1).2 (dy_rg2 σ s2 o2).1 (dy_rg2 σ s2 o2).2) r
theorem fe_bo : @dy_bo = @dx_bo := by
  delta dy_bo dx_bo
  simp only [dz_any_eq, dz_all_eq, dz_fil_eq, dz_map_eq, dz_len_eq, dz_get_eq, dz_drop_eq, dz_app_eq, dz_le_eq, dz_lt_eq, fe_ph, fe_rg2] <;> rfl
noncomputable def dy_stp (E : dx_Env) (md : List Nat) (i : dx_I) (σ : dx_S) : Option (List (Nat × dx_S)) := match i with
  | (1, v, a, _, _, _) => if dx_i32 v then some [(a, (⟨dx_S.iv σ, dx_S.dc σ, dx_S.ls σ, (.inl (0, v)) :: σ.st, dx_S.fa σ, dx_S.fl σ⟩ : dx_S))] else none
  | (2, _, a, _, _, _) => some [(a, (⟨dx_S.iv σ, dx_S.dc σ, dx_S.ls σ, (.inr (.inr (.inr false))) :: σ.st, dx_S.fa σ, dx_S.fl σ⟩ : dx_S))]
  | (3, _, a, _, _, _) => some [(a, (⟨dx_S.iv σ, dx_S.dc σ, dx_S.ls σ, (.inr (.inr (.inl []))) :: σ.st, dx_S.fa σ, dx_S.fl σ⟩ : dx_S))]
  | (4, _, a, _, _, _) => some [(a, σ)]
  | (5, _, a, b, _, _) => match (dz_get σ.ls a) with
    | some ((.inl (s, o))) => if (dy_rg2 σ s o).1 = (dy_rg2 σ s o).2 then some [(b, (⟨dx_S.iv σ, dx_S.dc σ, dx_S.ls σ, (.inl (0, (dy_rg2 σ s o).1)) :: σ.st, dx_S.fa σ, dx_S.fl σ⟩ : dx_S))] else some [(b, (⟨dx_S.iv σ, dx_S.dc σ, dx_S.ls σ, (.inl (s, o)) :: σ.st, dx_S.fa σ, dx_S.fl σ⟩ : dx_S))]
    | _ => none
  | (6, _, a, b, _, _) => match (dz_get σ.ls a) with
    | some (.inr (.inr (.inr false))) => some [(b, (⟨dx_S.iv σ, dx_S.dc σ, dx_S.ls σ, (.inr (.inr (.inr false))) :: σ.st, dx_S.fa σ, dx_S.fl σ⟩ : dx_S))]
    | _ => none
  | (7, _, a, b, _, _) => match (dz_get σ.ls a) with
    | some ((.inr (.inl l))) => some [(b, (⟨dx_S.iv σ, dx_S.dc σ, dx_S.ls σ, (.inr (.inl l)) :: σ.st, dx_S.fa σ, dx_S.fl σ⟩ : dx_S))]
    | some ((.inr (.inr (.inl l)))) => some [(b, (⟨dx_S.iv σ, dx_S.dc σ, dx_S.ls σ, (.inr (.inr (.inl l))) :: σ.st, dx_S.fa σ, dx_S.fl σ⟩ : dx_S))]
    | _ => none
  | (8, _, a, b, _, _) => match σ.st with
    | (.inl (s, o)) :: r => if dy_fr σ.ls a then some [(b, (⟨dx_S.iv σ, dx_S.dc σ, σ.ls.set a ((.inl (s, o))), r, dx_S.fa σ, dx_S.fl σ⟩ : dx_S))] else none
    | _ => none
  | (9, _, a, b, _, _) => match σ.st with
    | (.inr (.inl l)) :: r => if dy_fr σ.ls a then some [(b, (⟨dx_S.iv σ, dx_S.dc σ, σ.ls.set a ((.inr (.inl l))), r, dx_S.fa σ, dx_S.fl σ⟩ : dx_S))] else none
    | (.inr (.inr (.inl l))) :: r => if dy_fr σ.ls a then some [(b, (⟨dx_S.iv σ, dx_S.dc σ, σ.ls.set a ((.inr (.inr (.inl l)))), r, dx_S.fa σ, dx_S.fl σ⟩ : dx_S))] else none
    | _ => none
  | (10, v, a, b, _, _) => match (dz_get σ.ls a) with
    | some ((.inl (s, o))) => if dy_fr σ.ls a && dx_i32 v then (if dx_i32 ((dy_rg2 σ s o).1 + v) && dx_i32 ((dy_rg2 σ s o).2 + v) then some [(b, (⟨dx_S.iv σ, dx_S.dc σ, σ.ls.set a ((.inl (s, (o + v)))), dx_S.st σ, dx_S.fa σ, dx_S.fl σ⟩ : dx_S))]
        else some [(b, (⟨dx_S.iv (dx_nw σ dx_full), dx_S.dc (dx_nw σ dx_full), σ.ls.set a ((.inl ((dz_len σ.iv), 0))), dx_S.st (dx_nw σ dx_full), dx_S.fa (dx_nw σ dx_full), dx_S.fl (dx_nw σ dx_full)⟩ : dx_S))]) else none
    | _ => none
  | (11, _, a, _, _, _) => match σ.st with
    | (.inl (s, o)) :: r => some [(a, (⟨dx_S.iv σ, dx_S.dc σ, dx_S.ls σ, (.inl (s, o)) :: (.inl (s, o)) :: r, dx_S.fa σ, dx_S.fl σ⟩ : dx_S))]
    | (.inr (.inl l)) :: r => some [(a, (⟨dx_S.iv σ, dx_S.dc σ, dx_S.ls σ, (.inr (.inl l)) :: (.inr (.inl l)) :: r, dx_S.fa σ, dx_S.fl σ⟩ : dx_S))]
    | _ => none
  | (12, _, a, _, _, _) => match σ.st with
    | (.inl (s, o)) :: (.inr (.inl l)) :: r => some [(a, (⟨dx_S.iv σ, dx_S.dc σ, dx_S.ls σ, (.inl (s, o)) :: (.inr (.inl l)) :: (.inl (s, o)) :: (.inr (.inl l)) :: r, dx_S.fa σ, dx_S.fl σ⟩ : dx_S))]
    | (.inl (s, o)) :: (.inl (s2, o2)) :: r => some [(a, (⟨dx_S.iv σ, dx_S.dc σ, dx_S.ls σ, (.inl (s, o)) :: (.inl (s2, o2)) :: (.inl (s, o)) :: (.inl (s2, o2)) :: r, dx_S.fa σ, dx_S.fl σ⟩ : dx_S))]
    | _ => none
  | (13, _, a, _, _, _) => match σ.st with
    | (.inl (_, _)) :: r => some [(a, (⟨dx_S.iv σ, dx_S.dc σ, dx_S.ls σ, r, dx_S.fa σ, dx_S.fl σ⟩ : dx_S))]
    | _ => none
  | (14, _, a, b, _, _) => match σ.st with
    | (.inr (.inr (.inl []))) :: r => some [(a, (⟨dx_S.iv σ, dx_S.dc σ, dx_S.ls σ, r, dx_S.fa σ, dx_S.fl σ⟩ : dx_S))]
    | (.inr (.inr (.inl _))) :: r => some [(a, (⟨dx_S.iv σ, dx_S.dc σ, dx_S.ls σ, r, dx_S.fa σ, dx_S.fl σ⟩ : dx_S)), (b, (⟨dx_S.iv σ, dx_S.dc σ, dx_S.ls σ, r, dx_S.fa σ, dx_S.fl σ⟩ : dx_S))]
    | (.inr (.inl _)) :: r => some [(b, (⟨dx_S.iv σ, dx_S.dc σ, dx_S.ls σ, r, dx_S.fa σ, dx_S.fl σ⟩ : dx_S))]
    | _ => none
  | (15, _, a, b, _, _) => match σ.st with
    | (.inr (.inr (.inl []))) :: r => some [(b, (⟨dx_S.iv σ, dx_S.dc σ, dx_S.ls σ, r, dx_S.fa σ, dx_S.fl σ⟩ : dx_S))]
    | (.inr (.inr (.inl _))) :: r => some [(b, (⟨dx_S.iv σ, dx_S.dc σ, dx_S.ls σ, r, dx_S.fa σ, dx_S.fl σ⟩ : dx_S)), (a, (⟨dx_S.iv σ, dx_S.dc σ, dx_S.ls σ, r, dx_S.fa σ, dx_S.fl σ⟩ : dx_S))]
    | (.inr (.inl _)) :: r => some [(a, (⟨dx_S.iv σ, dx_S.dc σ, dx_S.ls σ, r, dx_S.fa σ, dx_S.fl σ⟩ : dx_S))]
    | _ => none
  | (16, v, a, _, _, l) => match σ.st with
    | (.inl (s, o)) :: r => some (dx_sm a (dy_rf (⟨dx_S.iv σ, dx_S.dc σ, dx_S.ls σ, r, dx_S.fa σ, dx_S.fl σ⟩ : dx_S) 2 s o 0 v) ++ dx_sm a (dy_rf (⟨dx_S.iv σ, dx_S.dc σ, dx_S.ls σ, r, dx_S.fa σ, dx_S.fl σ⟩ : dx_S) 4 s o 0 (v + ((dz_len l) : Int) - 1)) ++ dy_tb (⟨dx_S.iv σ, dx_S.dc σ, dx_S.ls σ, r, dx_S.fa σ, dx_S.fl σ⟩ : dx_S) s o v l)
    | _ => none
  | (17, _, a, _, _, l) => match σ.st with
    | (.inl (s, o)) :: r => some (dy_lk (⟨dx_S.iv σ, dx_S.dc σ, dx_S.ls σ, r, dx_S.fa σ, dx_S.fl σ⟩ : dx_S) s o a (dx_pairs l))
    | _ => none
  | (18, _, a, b, _, _) => match σ.st with
    | (.inl (s2, o2)) :: (.inl (s1, o1)) :: r => if Nat.ble a 11 && (!(Nat.beq a 8 || Nat.beq a 9) || (decide (0 < (dy_rg2 σ s2 o2).1) || decide ((dy_rg2 σ s2 o2).2 < 0))) && (Nat.ble a 9 || Nat.ble (dx_cats r) 8) then some [(b, dy_bo σ a s1 o1 s2 o2 r)] else none
    | _ => none
  | (19, _, a, b, _, _) => match σ.st with
    | (.inl (s, o)) :: r => if Nat.ble a 2 && (Nat.ble a 1 || Nat.ble (dx_cats r) 8) then some [(b, dy_ph σ (dx_ui a (dy_rg2 σ s o).1 (dy_rg2 σ s o).2) r)] else none
    | _ => none
  | (20, _, a, _, _, _) => match σ.st with
    | (.inl (_, _)) :: r => some [(a, (⟨dx_S.iv σ, dx_S.dc σ, dx_S.ls σ, (.inr (.inr (.inr false))) :: r, dx_S.fa σ, dx_S.fl σ⟩ : dx_S))]
    | _ => none
  | (21, _, a, _, _, _) => match σ.st with
    | (.inr (.inr (.inr false))) :: (.inr (.inr (.inr false))) :: r => some [(a, (⟨dx_S.iv σ, dx_S.dc σ, dx_S.ls σ, (.inr (.inr (.inr false))) :: r, dx_S.fa σ, dx_S.fl σ⟩ : dx_S))]
    | _ => none
  | (22, _, a, _, _, _) => match σ.st with
    | (.inl (_, _)) :: (.inr (.inr (.inr false))) :: r => some [(a, (⟨dx_S.iv σ, dx_S.dc σ, dx_S.ls σ, (.inr (.inr (.inr false))) :: r, dx_S.fa σ, dx_S.fl σ⟩ : dx_S))]
    | _ => none
  | (23, _, a, _, _, _) => match σ.st with
    | (.inr (.inr (.inr false))) :: (.inr (.inr (.inr false))) :: r => some [(a, dy_ph σ (-1, 1) r)]
    | _ => none
  | (24, _, a, b, c, _) => match σ.st with
    | (.inl (s2, o2)) :: (.inl (s1, o1)) :: r => if Nat.ble a 5 then some (dx_sm b (dy_rf (⟨dx_S.iv σ, dx_S.dc σ, dx_S.ls σ, r, dx_S.fa σ, dx_S.fl σ⟩ : dx_S) a s1 o1 s2 o2) ++ dx_sm c (dy_rf (⟨dx_S.iv σ, dx_S.dc σ, dx_S.ls σ, r, dx_S.fa σ, dx_S.fl σ⟩ : dx_S) (dx_ng a) s1 o1 s2 o2)) else none
    | _ => none
  | (25, _, a, b, c, _) => match σ.st with
    | (.inl (s1, o1)) :: r => if Nat.ble a 5 then some (dx_sm b (dy_rf (⟨dx_S.iv σ, dx_S.dc σ, dx_S.ls σ, r, dx_S.fa σ, dx_S.fl σ⟩ : dx_S) a s1 o1 0 0) ++ dx_sm c (dy_rf (⟨dx_S.iv σ, dx_S.dc σ, dx_S.ls σ, r, dx_S.fa σ, dx_S.fl σ⟩ : dx_S) (dx_ng a) s1 o1 0 0)) else none
    | _ => none
  | (26, v, a, b, c, _) => match σ.st with
    | (.inr (.inl l)) :: r => if (dz_all (fun q => Nat.beq (E.ce q).k a) l) then (match v.toNat with
      | 1 => some [(c, (⟨dx_S.iv σ, dx_S.dc σ, dx_S.ls σ, (.inr (.inr (.inr false))) :: r, dx_S.fa σ, dx_S.fl σ⟩ : dx_S))]
      | 2 => some [(c, (⟨dx_S.iv σ, dx_S.dc σ, dx_S.ls σ, dy_rv ((dz_map (fun q => ((E.ce q).rf[b]?).join) l)) :: r, dx_S.fa σ, dx_S.fl σ⟩ : dx_S))]
      | _ => some [(c, dy_ld E σ l b b r)]) else none
    | _ => none
  | (27, v, a, b, c, _) => match σ.st with
    | (.inl (s, o)) :: (.inr (.inl l)) :: r => if (dz_all (fun q => Nat.beq (E.ce q).k a) l) then (match dy_stw E md σ l v.toNat b b s o r with
      | some σ' => some [(c, σ')]
      | none => none) else none
    | _ => none
  | (28, _, a, _, c, _) => match σ.st with
    | (.inr (.inr (.inr false))) :: (.inr (.inl l)) :: r => if (dz_all (fun q => Nat.beq (E.ce q).k a && dy_mem q md) l) then some [(c, (⟨dx_S.iv σ, dx_S.dc σ, dx_S.ls σ, r, dx_S.fa σ, dx_S.fl σ⟩ : dx_S))] else none
    | _ => none
  | (29, v, a, _, c, _) => match σ.st with
    | (.inl (s, o)) :: (.inr (.inl l)) :: r => if decide (0 ≤ (dy_rg2 σ s o).1) && (dz_all (fun q => Nat.beq (E.ce q).k a && decide ((dy_rg2 σ s o).2 < (E.ce q).n)) l) then (match v.toNat with
      | 1 => some [(c, (⟨dx_S.iv σ, dx_S.dc σ, dx_S.ls σ, (.inr (.inr (.inr false))) :: r, dx_S.fa σ, dx_S.fl σ⟩ : dx_S))]
      | 2 => some [(c, (⟨dx_S.iv σ, dx_S.dc σ, dx_S.ls σ, dy_rv (l.flatMap fun q => (dz_map (fun j => ((E.ce q).rf[(dy_rg2 σ s o).1.toNat + j]?).join) (List.range ((dy_rg2 σ s o).2.toNat + 1 - (dy_rg2 σ s o).1.toNat)))) :: r, dx_S.fa σ, dx_S.fl σ⟩ : dx_S))]
      | _ => some [(c, dy_ld E σ l (dy_rg2 σ s o).1.toNat (dy_rg2 σ s o).2.toNat r)]) else none
    | _ => none
  | (30, v, a, _, c, _) => match σ.st with
    | (.inl (sv, ov)) :: (.inl (s, o)) :: (.inr (.inl l)) :: r => if decide (0 ≤ (dy_rg2 σ s o).1) && (dz_all (fun q => Nat.beq (E.ce q).k a && decide ((dy_rg2 σ s o).2 < (E.ce q).n)) l) then (match dy_stw E md σ l v.toNat (dy_rg2 σ s o).1.toNat (dy_rg2 σ s o).2.toNat sv ov r with
      | some σ' => some [(c, σ')]
      | none => none) else none
    | _ => none
  | (31, _, a, _, _, _) => match σ.st with
    | (.inr (.inr (.inr false))) :: (.inl (s, o)) :: (.inr (.inl l)) :: r => if decide (0 ≤ (dy_rg2 σ s o).1) && (dz_all (fun q => Nat.beq (E.ce q).k 17 && decide ((dy_rg2 σ s o).2 < (E.ce q).n) && dy_mem q md) l) then some [(a, (⟨dx_S.iv σ, dx_S.dc σ, dx_S.ls σ, r, dx_S.fa σ, dx_S.fl σ⟩ : dx_S))] else none
    | _ => none
  | (32, _, a, _, _, _) => match σ.st with
    | (.inr (.inl (q0 :: l))) :: r => if dx_i32 (E.ce q0).n && (dz_all (fun q => !(Nat.beq (E.ce q).k 999) && Nat.ble 16 (E.ce q).k && Nat.beq (E.ce q).n (E.ce q0).n) (q0 :: l)) then some [(a, (⟨dx_S.iv σ, dx_S.dc σ, dx_S.ls σ, (.inl (0, (E.ce q0).n)) :: r, dx_S.fa σ, dx_S.fl σ⟩ : dx_S))] else none
    | _ => none
  | (33, _, a, _, _, _) => match σ.st with
    | (.inl (0, n)) :: (.inl (0, dp)) :: (.inr (.inl l2)) :: (.inl (0, sp)) :: (.inr (.inl l1)) :: r => if Nat.ble (dx_cats r) 8 && decide (1 ≤ n) && decide (0 ≤ dp) && decide (0 ≤ sp) && (dz_all (fun q => Nat.beq (E.ce q).k 16 && decide (sp + n ≤ (E.ce q).n)) l1) && (dz_all (fun q => Nat.beq (E.ce q).k 16 && decide (dp + n ≤ (E.ce q).n) && dy_mem q md
        && (dz_all (fun q1 => dx_sga (E.ce q).iv dp.toNat (dp.toNat + (n.toNat - 1)) (dx_sgr (E.ce q1).iv sp.toNat (sp.toNat + (n.toNat - 1))).1 (dx_sgr (E.ce q1).iv sp.toNat (sp.toNat + (n.toNat - 1))).2) l1)) l2) then
        some [(a, (⟨dx_S.iv σ, dx_S.dc σ, dx_S.ls σ, r, dy_ka l2 dp.toNat (dp.toNat + n.toNat) σ.fa, dy_kf E l2 dp.toNat (dp.toNat + n.toNat) σ.fl⟩ : dx_S))] else none
    | _ => none
  | (40, v, a, _, _, _) => some [(a, (⟨dx_S.iv σ, dx_S.dc σ, dx_S.ls σ, (.inr (.inl [1000001 + v.toNat])) :: σ.st, dx_S.fa σ, dx_S.fl σ⟩ : dx_S))]
  | _ => none
theorem fe_stp : @dy_stp = @dx_stp := by
  delta dy_stp dx_stp
  simp only [dz_any_eq, dz_all_eq, dz_fil_eq, dz_map_eq, dz_len_eq, dz_get_eq, dz_drop_eq, dz_app_eq, dz_le_eq, dz_lt_eq, fe_bo, fe_fr, fe_ka, fe_kf, fe_ld, fe_lk, fe_mem, fe_ph, fe_rf, fe_rg2, fe_rv, fe_stw, fe_tb] <;> rfl
noncomputable def dy_u1 (cur : dx_S) (b : List (Nat × Int)) (t : Nat) (o' : Int) (s : Nat) (o : Int) : Option (List (Nat × Int)) := match (dz_get b t) with
  | some (s1, o1) => if dz_le (dy_df cur s s1 + o - o1 - o') 0 && dz_le (dy_df cur s1 s + o1 + o' - o) 0 then some b else none
  | none => if t = (dz_len b) then some (b ++ [(s, o - o')]) else none
theorem fe_u1 : @dy_u1 = @dx_u1 := by
  delta dy_u1 dx_u1
  simp only [dz_any_eq, dz_all_eq, dz_fil_eq, dz_map_eq, dz_len_eq, dz_get_eq, dz_drop_eq, dz_app_eq, dz_le_eq, dz_lt_eq, fe_df] <;> rfl
noncomputable def dy_sb (l l2 : List Nat) : Bool := (dz_all (fun a => dy_mem a l2) l)
theorem fe_sb : @dy_sb = @dx_sb := by
  delta dy_sb dx_sb
  simp only [dz_any_eq, dz_all_eq, dz_fil_eq, dz_map_eq, dz_len_eq, dz_get_eq, dz_drop_eq, dz_app_eq, dz_le_eq, dz_lt_eq, fe_mem] <;> rfl
noncomputable def dy_mV (cur : dx_S) (b : List (Nat × Int)) : dx_V → dx_V → Option (List (Nat × Int))
  | (.inr (.inr (.inr true))), (.inr (.inr (.inr false))) => none
  | (.inr (.inr (.inr true))), _ => some b
  | (.inl (t, o')), (.inl (s, o)) => dy_u1 cur b t o' s o
  | (.inr (.inl l)), (.inr (.inl l2)) => if dy_sb l2 l then some b else none
  | (.inr (.inr (.inl l))), (.inr (.inl l2)) => if dy_sb l2 l then some b else none
  | (.inr (.inr (.inl l))), (.inr (.inr (.inl l2))) => if dy_sb l2 l then some b else none
  | (.inr (.inr (.inr false))), (.inr (.inr (.inr false))) => some b
  | _, _ => none
theorem fe_mV : @dy_mV = @dx_mV := by
  delta dy_mV dx_mV
  simp only [dz_any_eq, dz_all_eq, dz_fil_eq, dz_map_eq, dz_len_eq, dz_get_eq, dz_drop_eq, dz_app_eq, dz_le_eq, dz_lt_eq, fe_sb, fe_u1] <;> rfl
noncomputable def dy_mL (cur : dx_S) : List (Nat × Int) → List dx_V → List dx_V → Option (List (Nat × Int))
  | b, [], [] => some b
  | b, t :: r, c :: q => match dy_mV cur b t c with
    | some b' => dy_mL cur b' r q
    | none => none
  | _, _, _ => none
theorem fe_mL : @dy_mL = @dx_mL := by
  funext cur b l k
  induction l generalizing b k with
  | nil => cases k <;> rfl
  | cons a r ih =>
    cases k with
    | nil => rfl
    | cons p q => simp only [dy_mL, dx_mL, dz_any_eq, dz_all_eq, dz_fil_eq, dz_map_eq, dz_len_eq, dz_get_eq, dz_drop_eq, dz_app_eq, dz_le_eq, dz_lt_eq, fe_mV, ih] <;> rfl
noncomputable def dy_mF (cur : dx_S) : List (Nat × Int) → List (Nat × Nat × Nat × Int) → Option (List (Nat × Int))
  | b, [] => some b
  | b, q :: r => match dy_ff cur.fa q.1 q.2.1 with
    | some (s, o) => (match dy_u1 cur b q.2.2.1 q.2.2.2 s o with
      | some b' => dy_mF cur b' r
      | none => none)
    | none => none
theorem fe_mF : @dy_mF = @dx_mF := by
  funext cur b l
  induction l generalizing b with
  | nil => rfl
  | cons a r ih =>
    simp only [dy_mF, dx_mF, dz_any_eq, dz_all_eq, dz_fil_eq, dz_map_eq, dz_len_eq, dz_get_eq, dz_drop_eq, dz_app_eq, dz_le_eq, dz_lt_eq, fe_ff, fe_u1, ih] <;> rfl
noncomputable def dy_m1 (E : dx_Env) (cur : dx_S) (a j : Nat) : dx_S := match dy_ff cur.fa a j with
  | some _ => cur
  | none => (⟨dx_S.iv (dx_nw cur (dx_seg (E.ce a).iv j)), dx_S.dc (dx_nw cur (dx_seg (E.ce a).iv j)), dx_S.ls (dx_nw cur (dx_seg (E.ce a).iv j)), dx_S.st (dx_nw cur (dx_seg (E.ce a).iv j)), (a, j, (dz_len cur.iv), 0) :: cur.fa, dx_S.fl (dx_nw cur (dx_seg (E.ce a).iv j))⟩ : dx_S)
theorem fe_m1 : @dy_m1 = @dx_m1 := by
  delta dy_m1 dx_m1
  simp only [dz_any_eq, dz_all_eq, dz_fil_eq, dz_map_eq, dz_len_eq, dz_get_eq, dz_drop_eq, dz_app_eq, dz_le_eq, dz_lt_eq, fe_ff] <;> rfl
noncomputable def dy_mm (E : dx_Env) (cur : dx_S) : List (Nat × Nat × Nat × Int) → dx_S
  | [] => cur
  | q :: r => dy_mm E (dy_m1 E cur q.1 q.2.1) r
theorem fe_mm : @dy_mm = @dx_mm := by
  funext E cur l
  induction l generalizing cur with
  | nil => rfl
  | cons a r ih =>
    simp only [dy_mm, dx_mm, dz_any_eq, dz_all_eq, dz_fil_eq, dz_map_eq, dz_len_eq, dz_get_eq, dz_drop_eq, dz_app_eq, dz_le_eq, dz_lt_eq, fe_m1, ih] <;> rfl
noncomputable def dy_mI (cur : dx_S) : List (Nat × Int) → List (Int × Int) → Bool
  | [], [] => true
  | (s, o) :: b, p :: r => dz_le p.1 (dy_lb cur s + o) && dz_le (dy_ub cur s + o) p.2 && dy_mI cur b r
  | _, _ => false
theorem fe_mI : @dy_mI = @dx_mI := by
  funext cur b l
  induction b generalizing l with
  | nil => cases l <;> rfl
  | cons a r ih =>
    obtain ⟨k1, t1⟩ := a
    cases l with
    | nil => rfl
    | cons p q => simp only [dy_mI, dx_mI, dz_any_eq, dz_all_eq, dz_fil_eq, dz_map_eq, dz_len_eq, dz_get_eq, dz_drop_eq, dz_app_eq, dz_le_eq, dz_lt_eq, fe_lb, fe_ub, ih] <;> rfl
noncomputable def dy_mD (cur : dx_S) (b : List (Nat × Int)) (d : List (Nat × Nat × Int)) : Bool := (dz_all (fun q => match (dz_get b q.1), (dz_get b q.2.1) with
  | some (s1, o1), some (s2, o2) => dz_le (dy_df cur s1 s2 + o1 - o2) q.2.2
  | _, _ => false) d)
theorem fe_mD : @dy_mD = @dx_mD := by
  delta dy_mD dx_mD
  simp only [dz_any_eq, dz_all_eq, dz_fil_eq, dz_map_eq, dz_len_eq, dz_get_eq, dz_drop_eq, dz_app_eq, dz_le_eq, dz_lt_eq, fe_df] <;> rfl
noncomputable def dy_g1 (cur : dx_S) (b : List (Nat × Int)) (f t : Nat) (o' : Int) : List (Nat × Nat × Int) → Option (List (Nat × Int))
  | [] => none
  | q :: r => if Nat.beq q.1 f then (match dy_u1 cur b t o' q.2.1 q.2.2 with
    | some b' => some b'
    | none => dy_g1 cur b f t o' r) else dy_g1 cur b f t o' r
theorem fe_g1 : @dy_g1 = @dx_g1 := by
  funext cur b f t o l
  induction l with
  | nil => rfl
  | cons a r ih =>
    simp only [dy_g1, dx_g1, dz_any_eq, dz_all_eq, dz_fil_eq, dz_map_eq, dz_len_eq, dz_get_eq, dz_drop_eq, dz_app_eq, dz_le_eq, dz_lt_eq, fe_u1, ih] <;> rfl
noncomputable def dy_mG (cur : dx_S) : List (Nat × Int) → List (Nat × Nat × Int) → Option (List (Nat × Int))
  | b, [] => some b
  | b, q :: r => match dy_g1 cur b q.1 q.2.1 q.2.2 cur.fl with
    | some b' => dy_mG cur b' r
    | none => none
theorem fe_mG : @dy_mG = @dx_mG := by
  funext cur b l
  induction l generalizing b with
  | nil => rfl
  | cons a r ih =>
    simp only [dy_mG, dx_mG, dz_any_eq, dz_all_eq, dz_fil_eq, dz_map_eq, dz_len_eq, dz_get_eq, dz_drop_eq, dz_app_eq, dz_le_eq, dz_lt_eq, fe_g1, ih] <;> rfl
noncomputable def dy_mat (cur : dx_S) (b0 : List (Nat × Int)) (tgt : dx_S) : Option (List (Nat × Int)) := match dy_mL cur b0 tgt.ls cur.ls with
  | some b1 => (match dy_mL cur b1 tgt.st cur.st with
    | some b2 => (match dy_mF cur b2 tgt.fa with
      | some b3 => (match dy_mG cur b3 tgt.fl with
        | some b => if dy_mI cur b tgt.iv && dy_mD cur b tgt.dc then some b else none
        | none => none)
      | none => none)
    | none => none)
  | none => none
theorem fe_mat : @dy_mat = @dx_mat := by
  delta dy_mat dx_mat
  simp only [dz_any_eq, dz_all_eq, dz_fil_eq, dz_map_eq, dz_len_eq, dz_get_eq, dz_drop_eq, dz_app_eq, dz_le_eq, dz_lt_eq, fe_mD, fe_mF, fe_mG, fe_mI, fe_mL] <;> rfl
noncomputable def dy_idn (n : Nat) : List (Nat × Int) := (dz_map (fun t => (t, 0)) (List.range n))
theorem fe_idn : @dy_idn = @dx_idn := by
  delta dy_idn dx_idn
  simp only [dz_any_eq, dz_all_eq, dz_fil_eq, dz_map_eq, dz_len_eq, dz_get_eq, dz_drop_eq, dz_app_eq, dz_le_eq, dz_lt_eq] <;> rfl
noncomputable def dy_lw (σ : dx_S) : List (Nat × Int) → Int
  | [] => 0
  | (s, k) :: r => (if 0 ≤ k then k * (dy_gi σ.iv s).1 else k * (dy_gi σ.iv s).2) + dy_lw σ r
theorem fe_lw : @dy_lw = @dx_lw := by
  funext σ l
  induction l with
  | nil => rfl
  | cons a r ih =>
    obtain ⟨k1, t1⟩ := a
    simp only [dy_lw, dx_lw, dz_any_eq, dz_all_eq, dz_fil_eq, dz_map_eq, dz_len_eq, dz_get_eq, dz_drop_eq, dz_app_eq, dz_le_eq, dz_lt_eq, fe_gi, ih] <;> rfl
noncomputable def dy_dm (b : List (Nat × Int)) : List (Nat × Int) → dx_M → Option dx_M
  | [], m => some m
  | (t, k) :: r, m => match (dz_get b t) with
    | some (s, o) => dy_dm b r (dx_am s (-k) m.1, m.2 - k * o)
    | none => none
theorem fe_dm : @dy_dm = @dx_dm := by
  funext b l m
  induction l generalizing m with
  | nil => rfl
  | cons a r ih =>
    obtain ⟨k1, t1⟩ := a
    simp only [dy_dm, dx_dm, dz_any_eq, dz_all_eq, dz_fil_eq, dz_map_eq, dz_len_eq, dz_get_eq, dz_drop_eq, dz_app_eq, dz_le_eq, dz_lt_eq, ih] <;> rfl
noncomputable def dy_lp (σ : dx_S) : Nat → List (Nat × Int) → Int
  | 0, l => dy_lw σ l
  | _ + 1, [] => 0
  | n + 1, (s, k) :: r => match dx_op k r with
    | some (s2, r') => max ((if 0 ≤ k then k * (dy_gi σ.iv s).1 else k * (dy_gi σ.iv s).2) + dy_lp σ n r) ((if 0 ≤ k then k * -(dy_df σ s2 s) else -k * -(dy_df σ s s2)) + dy_lp σ n r')
    | none => (if 0 ≤ k then k * (dy_gi σ.iv s).1 else k * (dy_gi σ.iv s).2) + dy_lp σ n r
theorem fe_lp : @dy_lp = @dx_lp := by
  funext σ n l
  induction n generalizing l with
  | zero => simp only [dy_lp, dx_lp, dz_any_eq, dz_all_eq, dz_fil_eq, dz_map_eq, dz_len_eq, dz_get_eq, dz_drop_eq, dz_app_eq, dz_le_eq, dz_lt_eq, fe_df, fe_gi, fe_lw]
  | succ n ih =>
    cases l with
    | nil => simp only [dy_lp, dx_lp]
    | cons a r =>
      obtain ⟨k1, t1⟩ := a
      simp only [dy_lp, dx_lp, dz_any_eq, dz_all_eq, dz_fil_eq, dz_map_eq, dz_len_eq, dz_get_eq, dz_drop_eq, dz_app_eq, dz_le_eq, dz_lt_eq, fe_df, fe_gi, fe_lw, ih] <;> rfl
noncomputable def dy_lm (σ : dx_S) (m : dx_M) : Int := dy_lp σ 6 ((dz_fil (fun q => decide (q.2 ≠ 0)) m.1)) + m.2
theorem fe_lm : @dy_lm = @dx_lm := by
  delta dy_lm dx_lm
  simp only [dz_any_eq, dz_all_eq, dz_fil_eq, dz_map_eq, dz_len_eq, dz_get_eq, dz_drop_eq, dz_app_eq, dz_le_eq, dz_lt_eq, fe_lp] <;> rfl
noncomputable def dy_qk (σ : dx_S) (fa : List (Nat × Nat × Nat × Int)) : Bool := (dz_all (fun f => !(Nat.beq f.2.2.1 0) || (match dy_ff σ.fa f.1 f.2.1 with
  | some (s, o) => dz_le (dy_rg2 σ s o).1 f.2.2.2 && dz_le f.2.2.2 (dy_rg2 σ s o).2
  | none => true)) fa)
theorem fe_qk : @dy_qk = @dx_qk := by
  delta dy_qk dx_qk
  simp only [dz_any_eq, dz_all_eq, dz_fil_eq, dz_map_eq, dz_len_eq, dz_get_eq, dz_drop_eq, dz_app_eq, dz_le_eq, dz_lt_eq, fe_ff, fe_rg2] <;> rfl
noncomputable def dy_edge0 (X : dx_X) (M : Option dx_M) (σ : dx_S) (nd : dx_S × dx_M) : Bool := match dy_mat (dy_mm X.E σ nd.1.fa) (dy_idn (dz_len X.q.pre.iv)) nd.1 with
  | some b => (match M with
    | none => true
    | some m => (match dy_dm b nd.2.1 (m.1, m.2 - nd.2.2) with
      | some d => decide (1 ≤ dy_lm (dy_mm X.E σ nd.1.fa) d)
      | none => false))
  | none => false
theorem fe_edge0 : @dy_edge0 = @dx_edge0 := by
  delta dy_edge0 dx_edge0
  simp only [dz_any_eq, dz_all_eq, dz_fil_eq, dz_map_eq, dz_len_eq, dz_get_eq, dz_drop_eq, dz_app_eq, dz_le_eq, dz_lt_eq, fe_dm, fe_idn, fe_lm, fe_mat, fe_mm] <;> rfl
noncomputable def dy_edge (X : dx_X) (M : Option dx_M) (σ : dx_S) (nd : dx_S × dx_M) : Bool := dy_qk σ nd.1.fa && dy_edge0 X M σ nd
theorem fe_edge : @dy_edge = @dx_edge := by
  delta dy_edge dx_edge
  simp only [dz_any_eq, dz_all_eq, dz_fil_eq, dz_map_eq, dz_len_eq, dz_get_eq, dz_drop_eq, dz_app_eq, dz_le_eq, dz_lt_eq, fe_edge0, fe_qk] <;> rfl
noncomputable def dy_post (X : dx_X) (σ : dx_S) (r : List dx_V) : Bool := (dz_any (fun P => match dy_mat (dy_mm X.E (⟨dx_S.iv σ, dx_S.dc σ, r, [], dx_S.fa σ, dx_S.fl σ⟩ : dx_S) P.fa) (dy_idn (dz_len X.q.pre.iv)) P with
  | some _ => true
  | none => false) X.q.po)
theorem fe_post : @dy_post = @dx_post := by
  delta dy_post dx_post
  simp only [dz_any_eq, dz_all_eq, dz_fil_eq, dz_map_eq, dz_len_eq, dz_get_eq, dz_drop_eq, dz_app_eq, dz_le_eq, dz_lt_eq, fe_idn, fe_mat, fe_mm] <;> rfl
theorem dz_svgi : ∀ (l : List (Int × Int)) (s : Nat), dx_sv l s (dx_gi l s) = l
  | [], _ => rfl
  | _ :: _, 0 => rfl
  | p :: l, s + 1 => congrArg (List.cons p) (dz_svgi l s)
noncomputable def dz_up (iv : List (Int × Int)) (s : Nat) (l h : Int) : List (Int × Int) := Bool.rec (motive := fun _ => List (Int × Int)) (dy_sv iv s (max (dy_gi iv s).1 l, min (dy_gi iv s).2 h)) (Bool.rec (motive := fun _ => List (Int × Int)) (dy_sv iv s (max (dy_gi iv s).1 l, min (dy_gi iv s).2 h)) iv (dz_le (dy_gi iv s).2 h)) (dz_le l (dy_gi iv s).1)
noncomputable def dz_uh (iv : List (Int × Int)) (s : Nat) (h : Int) : List (Int × Int) := Bool.rec (motive := fun _ => List (Int × Int)) (dy_sv iv s ((dy_gi iv s).1, min (dy_gi iv s).2 h)) iv (dz_le (dy_gi iv s).2 h)
noncomputable def dz_ul (iv : List (Int × Int)) (s : Nat) (l : Int) : List (Int × Int) := Bool.rec (motive := fun _ => List (Int × Int)) (dy_sv iv s (max (dy_gi iv s).1 l, (dy_gi iv s).2)) iv (dz_le l (dy_gi iv s).1)
theorem dz_up_eq (iv : List (Int × Int)) (s : Nat) (l h : Int) : dz_up iv s l h = dx_sv iv s (max (dx_gi iv s).1 l, min (dx_gi iv s).2 h) := by
  unfold dz_up
  rw [fe_gi, fe_sv, dz_le_eq, dz_le_eq]
  by_cases e : l ≤ (dx_gi iv s).1
  · by_cases e2 : (dx_gi iv s).2 ≤ h
    · rw [decide_eq_true e, decide_eq_true e2, Int.max_eq_left e, Int.min_eq_left e2]
      exact (dz_svgi iv s).symm
    · rw [decide_eq_true e, decide_eq_false e2] <;> rfl
  · rw [decide_eq_false e] <;> rfl
theorem dz_uh_eq (iv : List (Int × Int)) (s : Nat) (h : Int) : dz_uh iv s h = dx_sv iv s ((dx_gi iv s).1, min (dx_gi iv s).2 h) := by
  unfold dz_uh
  rw [fe_gi, fe_sv, dz_le_eq]
  by_cases e : (dx_gi iv s).2 ≤ h
  · rw [decide_eq_true e, Int.min_eq_left e]
    exact (dz_svgi iv s).symm
  · rw [decide_eq_false e] <;> rfl
theorem dz_ul_eq (iv : List (Int × Int)) (s : Nat) (l : Int) : dz_ul iv s l = dx_sv iv s (max (dx_gi iv s).1 l, (dx_gi iv s).2) := by
  unfold dz_ul
  rw [fe_gi, fe_sv, dz_le_eq]
  by_cases e : l ≤ (dx_gi iv s).1
  · rw [decide_eq_true e, Int.max_eq_left e]
    exact (dz_svgi iv s).symm
  · rw [decide_eq_false e] <;> rfl
noncomputable def dy_ri (iv : List (Int × Int)) : List (Nat × Int) → List (Int × Int) → List (Int × Int)
  | (s, o) :: b, p :: r => dy_ri (dz_up iv s (p.1 - o) (p.2 - o)) b r
  | _, _ => iv
theorem fe_ri : @dy_ri = @dx_ri := by
  funext iv b l
  induction b generalizing iv l with
  | nil => cases l <;> rfl
  | cons a r ih =>
    obtain ⟨k1, t1⟩ := a
    cases l with
    | nil => rfl
    | cons p q => simp only [dy_ri, dx_ri, dz_any_eq, dz_all_eq, dz_fil_eq, dz_map_eq, dz_len_eq, dz_get_eq, dz_drop_eq, dz_app_eq, dz_le_eq, dz_lt_eq, fe_gi, fe_sv, dz_up_eq, dz_uh_eq, dz_ul_eq, ih] <;> rfl
noncomputable def dy_tg : List (Nat × Nat × Int) → List (Int × Int) → List (Int × Int)
  | [], iv => iv
  | (a, b, c) :: r, iv => dy_tg r (let iv1 := dz_uh iv a ((dy_gi iv b).2 + c); dz_ul iv1 b ((dy_gi iv1 a).1 - c))
theorem fe_tg : @dy_tg = @dx_tg := by
  funext l iv
  induction l generalizing iv with
  | nil => rfl
  | cons a r ih =>
    obtain ⟨k1, t1, u1⟩ := a
    simp only [dy_tg, dx_tg, dz_any_eq, dz_all_eq, dz_fil_eq, dz_map_eq, dz_len_eq, dz_get_eq, dz_drop_eq, dz_app_eq, dz_le_eq, dz_lt_eq, fe_gi, fe_sv, dz_up_eq, dz_uh_eq, dz_ul_eq, ih] <;> rfl
noncomputable def dy_emp (iv : List (Int × Int)) : Bool := (dz_any (fun p => dz_lt p.2 p.1) iv)
theorem fe_emp : @dy_emp = @dx_emp := by
  delta dy_emp dx_emp
  simp only [dz_any_eq, dz_all_eq, dz_fil_eq, dz_map_eq, dz_len_eq, dz_get_eq, dz_drop_eq, dz_app_eq, dz_le_eq, dz_lt_eq] <;> rfl
noncomputable def dy_inf (σ : dx_S) : Bool := dy_emp σ.iv || (dz_any (fun q => dz_lt (dy_df σ q.2.1 q.1 + q.2.2) 0) σ.dc)
theorem fe_inf : @dy_inf = @dx_inf := by
  delta dy_inf dx_inf
  simp only [dz_any_eq, dz_all_eq, dz_fil_eq, dz_map_eq, dz_len_eq, dz_get_eq, dz_drop_eq, dz_app_eq, dz_le_eq, dz_lt_eq, fe_df, fe_emp] <;> rfl
noncomputable def dy_bs (b : List (Nat × Int)) (s : Nat) (o : Int) : Nat × Int := match (dz_get b s) with
  | some (s', o') => (s', o' + o)
  | none => (0, 0)
theorem fe_bs : @dy_bs = @dx_bs := by
  delta dy_bs dx_bs
  simp only [dz_any_eq, dz_all_eq, dz_fil_eq, dz_map_eq, dz_len_eq, dz_get_eq, dz_drop_eq, dz_app_eq, dz_le_eq, dz_lt_eq] <;> rfl
noncomputable def dy_vb (b : List (Nat × Int)) : dx_V → dx_V
  | (.inl (s, o)) => (.inl ((dy_bs b s o).1, (dy_bs b s o).2))
  | v => v
theorem fe_vb : @dy_vb = @dx_vb := by
  delta dy_vb dx_vb
  simp only [dz_any_eq, dz_all_eq, dz_fil_eq, dz_map_eq, dz_len_eq, dz_get_eq, dz_drop_eq, dz_app_eq, dz_le_eq, dz_lt_eq, fe_bs] <;> rfl
noncomputable def dy_ap (E : dx_Env) (cur : dx_S) (ls rest : List dx_V) (b : List (Nat × Int)) (q : dx_Inst) (P : dx_S) : dx_S :=
  let k := (dz_len cur.iv)
  let bb := b ++ (dz_map (fun t => (k + t, (0 : Int))) (List.range ((dz_len P.iv) - (dz_len b))))
  (⟨dy_tg ((dz_map (fun d => ((dy_bs bb d.1 0).1, (dy_bs bb d.2.1 0).1, d.2.2 - (dy_bs bb d.1 0).2 + (dy_bs bb d.2.1 0).2)) P.dc)) (dy_ri cur.iv b P.iv ++ (dz_drop (dz_len b) P.iv)), (dz_map (fun d => ((dy_bs bb d.1 0).1, (dy_bs bb d.2.1 0).1, d.2.2 - (dy_bs bb d.1 0).2 + (dy_bs bb d.2.1 0).2)) P.dc) ++ cur.dc, ls, (dz_map (dy_vb bb) P.ls) ++ rest, (dz_map (fun f => (f.1, f.2.1, (dy_bs bb f.2.2.1 f.2.2.2).1, (dy_bs bb f.2.2.1 f.2.2.2).2)) P.fa) ++ (dz_fil (fun f => !(dy_mem f.1 q.md)) cur.fa), (dz_map (fun f => (f.1, (dy_bs bb f.2.1 f.2.2).1, (dy_bs bb f.2.1 f.2.2).2)) P.fl) ++ dy_kc E q.md cur.fl⟩ : dx_S)
theorem fe_ap : @dy_ap = @dx_ap := by
  delta dy_ap dx_ap
  simp only [dz_any_eq, dz_all_eq, dz_fil_eq, dz_map_eq, dz_len_eq, dz_get_eq, dz_drop_eq, dz_app_eq, dz_le_eq, dz_lt_eq, fe_bs, fe_kc, fe_mem, fe_ri, fe_tg, fe_vb] <;> rfl
noncomputable def dy_call0 (X : dx_X) (j m n nx : Nat) (ci : Option Nat) (k : Nat → dx_S → Bool) (σ : dx_S) : Bool :=
  Nat.blt j X.i && Nat.beq (X.Is j).m m && Nat.ble n (dz_len σ.st) && Nat.ble (dx_cats ((dz_drop n σ.st))) 8 && dy_sb (X.Is j).md X.q.md &&
  (match ci, (σ.st.take n).reverse with
    | none, _ => true
    | some ci, (.inr (.inl l)) :: _ => (dz_all (fun a => Nat.beq (X.E.ce a).k ci) l)
    | some _, _ => false) &&
  (match dy_mat (dy_mm X.E (⟨dx_S.iv σ, dx_S.dc σ, (σ.st.take n).reverse, [], dx_S.fa σ, dx_S.fl σ⟩ : dx_S) (X.Is j).pre.fa) [(0, 0)] (X.Is j).pre with
    | some b => (dz_all (fun P => dy_inf (dy_ap X.E (dy_mm X.E (⟨dx_S.iv σ, dx_S.dc σ, (σ.st.take n).reverse, [], dx_S.fa σ, dx_S.fl σ⟩ : dx_S) (X.Is j).pre.fa) σ.ls ((dz_drop n σ.st)) b (X.Is j) P) || k nx (dy_ap X.E (dy_mm X.E (⟨dx_S.iv σ, dx_S.dc σ, (σ.st.take n).reverse, [], dx_S.fa σ, dx_S.fl σ⟩ : dx_S) (X.Is j).pre.fa) σ.ls ((dz_drop n σ.st)) b (X.Is j) P)) (X.Is j).po)
    | none => false)
theorem fe_call0 : @dy_call0 = @dx_call0 := by
  delta dy_call0 dx_call0
  simp only [dz_any_eq, dz_all_eq, dz_fil_eq, dz_map_eq, dz_len_eq, dz_get_eq, dz_drop_eq, dz_app_eq, dz_le_eq, dz_lt_eq, fe_ap, fe_inf, fe_mat, fe_mm, fe_sb] <;> rfl
noncomputable def dy_call (X : dx_X) (j m n nx : Nat) (ci : Option Nat) (k : Nat → dx_S → Bool) (σ : dx_S) : Bool := dy_qk σ (X.Is j).pre.fa && dy_call0 X j m n nx ci k σ
theorem fe_call : @dy_call = @dx_call := by
  delta dy_call dx_call
  simp only [dz_any_eq, dz_all_eq, dz_fil_eq, dz_map_eq, dz_len_eq, dz_get_eq, dz_drop_eq, dz_app_eq, dz_le_eq, dz_lt_eq, fe_call0, fe_qk] <;> rfl
noncomputable def dy_at (X : dx_X) (k : Nat → dx_S → Bool) (pc : Nat) (σ : dx_S) : Bool := match X.pg pc with
  | (34, _) => (match σ.st with
    | [(.inl (s, o))] => dy_post X σ [(.inl (s, o))]
    | _ => false)
  | (35, _) => (match σ.st with
    | [(.inl (s, o))] => decide (0 ≤ (dy_rg2 σ s o).1) && decide ((dy_rg2 σ s o).2 ≤ 1) && dy_post X σ [(.inl (s, o))]
    | _ => false)
  | (36, _) => (match σ.st with
    | [] => dy_post X σ []
    | _ => false)
  | (37, _) => (match σ.st with
    | [(.inr (.inl l))] => dy_post X σ [(.inr (.inl l))]
    | [(.inr (.inr (.inl l)))] => dy_post X σ [(.inr (.inr (.inl l)))]
    | _ => false)
  | (38, v, a, b, c, _) => (match dx_fnd pc X.q.cl with
    | some js => (dz_any (fun j => dy_call X j v.toNat b c (some a) k σ) js)
    | none => false)
  | (39, v, a, _, c, _) => (match dx_fnd pc X.q.cl with
    | some js => (dz_any (fun j => dy_call X j v.toNat a c none k σ) js)
    | none => false)
  | i => (match dy_stp X.E X.q.md i σ with
    | some out => (dz_all (fun p => k p.1 p.2) out)
    | none => false)
theorem fe_at : @dy_at = @dx_at := by
  delta dy_at dx_at
  simp only [dz_any_eq, dz_all_eq, dz_fil_eq, dz_map_eq, dz_len_eq, dz_get_eq, dz_drop_eq, dz_app_eq, dz_le_eq, dz_lt_eq, fe_call, fe_post, fe_rg2, fe_stp] <;> rfl
noncomputable def dy_lx (ls : List dx_V) : List Nat → Option (List dx_V)
  | [] => some []
  | i :: r => match (dz_get ls i), dy_lx ls r with
    | some v, some vs => some (v :: vs)
    | _, _ => none
theorem fe_lx : @dy_lx = @dx_lx := by
  funext ls l
  induction l with
  | nil => rfl
  | cons a r ih =>
    simp only [dy_lx, dx_lx, dz_any_eq, dz_all_eq, dz_fil_eq, dz_map_eq, dz_len_eq, dz_get_eq, dz_drop_eq, dz_app_eq, dz_le_eq, dz_lt_eq, ih] <;> rfl
noncomputable def dy_sg10 (X : dx_X) (k : Nat → dx_S → Bool) (σ : dx_S) (g : dx_Sg) : Bool :=
  Nat.ble g.n (dz_len σ.st) && Nat.ble (dx_cats ((dz_drop g.n σ.st))) 4 && dy_sb g.q.md X.q.md &&
  (match dy_lx σ.ls g.lx with
    | some vs => (match dy_mat (dy_mm X.E (⟨dx_S.iv σ, dx_S.dc σ, vs ++ (σ.st.take g.n).reverse, [], dx_S.fa σ, dx_S.fl σ⟩ : dx_S) g.q.pre.fa) [(0, 0)] g.q.pre with
      | some b => (dz_all (fun p => dy_inf (dy_ap X.E (dy_mm X.E (⟨dx_S.iv σ, dx_S.dc σ, vs ++ (σ.st.take g.n).reverse, [], dx_S.fa σ, dx_S.fl σ⟩ : dx_S) g.q.pre.fa) (dx_clb σ.ls (dx_cb g)) ((dz_drop g.n σ.st)) b g.q p.2) || k p.1 (dy_ap X.E (dy_mm X.E (⟨dx_S.iv σ, dx_S.dc σ, vs ++ (σ.st.take g.n).reverse, [], dx_S.fa σ, dx_S.fl σ⟩ : dx_S) g.q.pre.fa) (dx_clb σ.ls (dx_cb g)) ((dz_drop g.n σ.st)) b g.q p.2)) (g.pcs.zip g.q.po))
      | none => false)
    | none => false)
theorem fe_sg10 : @dy_sg10 = @dx_sg10 := by
  delta dy_sg10 dx_sg10
  simp only [dz_any_eq, dz_all_eq, dz_fil_eq, dz_map_eq, dz_len_eq, dz_get_eq, dz_drop_eq, dz_app_eq, dz_le_eq, dz_lt_eq, fe_ap, fe_inf, fe_lx, fe_mat, fe_mm, fe_sb] <;> rfl
noncomputable def dy_sg1 (X : dx_X) (k : Nat → dx_S → Bool) (σ : dx_S) (g : dx_Sg) : Bool := dy_qk σ g.q.pre.fa && dy_sg10 X k σ g
theorem fe_sg1 : @dy_sg1 = @dx_sg1 := by
  delta dy_sg1 dx_sg1
  simp only [dz_any_eq, dz_all_eq, dz_fil_eq, dz_map_eq, dz_len_eq, dz_get_eq, dz_drop_eq, dz_app_eq, dz_le_eq, dz_lt_eq, fe_qk, fe_sg10] <;> rfl
noncomputable def dy_cut (k : dx_S → Bool) (σ : dx_S) (s : Nat) (o : Int) : List Int → Bool
  | [] => k σ
  | c :: r => (match dy_rf σ 5 s o 0 c with
    | some σ' => k σ'
    | none => true) && (match dy_rf σ 4 s o 0 c with
    | some σ' => dy_cut k σ' s o r
    | none => true)
theorem fe_cut : @dy_cut = @dx_cut := by
  funext k σ s o l
  induction l generalizing σ with
  | nil => rfl
  | cons a r ih =>
    simp only [dy_cut, dx_cut, dz_any_eq, dz_all_eq, dz_fil_eq, dz_map_eq, dz_len_eq, dz_get_eq, dz_drop_eq, dz_app_eq, dz_le_eq, dz_lt_eq, fe_rf, ih] <;> rfl
noncomputable def dy_spl (X : dx_X) (k : dx_S → Bool) (pc : Nat) (σ : dx_S) : Bool := match dx_fnd pc X.q.sp with
  | none => k σ
  | some (0, a, j, cs) => (match dy_ff (dy_m1 X.E σ a j).fa a j with
    | some (s, o) => dy_cut k (dy_m1 X.E σ a j) s o cs
    | none => false)
  | some (_, a, _, cs) => (match (dz_get σ.ls a) with
    | some ((.inl (s, o))) => dy_cut k σ s o cs
    | _ => false)
theorem fe_spl : @dy_spl = @dx_spl := by
  delta dy_spl dx_spl
  simp only [dz_any_eq, dz_all_eq, dz_fil_eq, dz_map_eq, dz_len_eq, dz_get_eq, dz_drop_eq, dz_app_eq, dz_le_eq, dz_lt_eq, fe_cut, fe_ff, fe_m1] <;> rfl
noncomputable def dy_go (X : dx_X) (M : Option dx_M) : Nat → Nat → dx_S → Bool
  | 0, _, _ => false
  | f + 1, pc, σ => dy_spl X (fun σ => (dz_any (fun p => dy_sg1 X (fun pc' σ' => match (dz_fil (fun nd => Nat.beq nd.1 pc') X.q.nd) with
      | [] => dy_go X M f pc' σ'
      | nds => (dz_any (fun nd => dy_edge X M σ' nd.2) nds)) σ p.2) ((dz_fil (fun p => Nat.beq p.1 pc) X.sg))) ||
    dy_at X (fun pc' σ' => match (dz_fil (fun nd => Nat.beq nd.1 pc') X.q.nd) with
      | [] => dy_go X M f pc' σ'
      | nds => (dz_any (fun nd => dy_edge X M σ' nd.2) nds)) pc σ) pc σ
theorem fe_go : @dy_go = @dx_go := by
  funext X M f pc σ
  induction f generalizing pc σ with
  | zero => rfl
  | succ f ih => simp only [dy_go, dx_go, dz_any_eq, dz_all_eq, dz_fil_eq, dz_map_eq, dz_len_eq, dz_get_eq, dz_drop_eq, dz_app_eq, dz_le_eq, dz_lt_eq, fe_at, fe_edge, fe_sg1, fe_spl, ih] <;> rfl
noncomputable def dy_chk1 (X : dx_X) (nL fuel : Nat) : Bool := Nat.ble (dz_len (dx_inl X.q.pre.ls)) nL && dy_go X none fuel 0 (⟨dx_S.iv X.q.pre, dx_S.dc X.q.pre, dx_pad nL (dx_inl X.q.pre.ls), dx_S.st X.q.pre, dx_S.fa X.q.pre, dx_S.fl X.q.pre⟩ : dx_S)
theorem fe_chk1 : @dy_chk1 = @dx_chk1 := by
  delta dy_chk1 dx_chk1
  simp only [dz_any_eq, dz_all_eq, dz_fil_eq, dz_map_eq, dz_len_eq, dz_get_eq, dz_drop_eq, dz_app_eq, dz_le_eq, dz_lt_eq, fe_go] <;> rfl
noncomputable def dy_chkn (X : dx_X) (fuel : Nat) (nd : Nat × dx_S × dx_M) : Bool := decide (0 ≤ dy_lw nd.2.1 nd.2.2.1 + nd.2.2.2) && (dz_all (fun t => decide (t.1 < (dz_len nd.2.1.iv))) nd.2.2.1) && dy_go X (some nd.2.2) fuel nd.1 nd.2.1
theorem fe_chkn : @dy_chkn = @dx_chkn := by
  delta dy_chkn dx_chkn
  simp only [dz_any_eq, dz_all_eq, dz_fil_eq, dz_map_eq, dz_len_eq, dz_get_eq, dz_drop_eq, dz_app_eq, dz_le_eq, dz_lt_eq, fe_go, fe_lw] <;> rfl
noncomputable def dy_chk (X : dx_X) (nL fuel : Nat) : Bool := dy_chk1 X nL fuel && (dz_all (dy_chkn X fuel) X.q.nd)
theorem fe_chk : @dy_chk = @dx_chk := by
  delta dy_chk dx_chk
  simp only [dz_any_eq, dz_all_eq, dz_fil_eq, dz_map_eq, dz_len_eq, dz_get_eq, dz_drop_eq, dz_app_eq, dz_le_eq, dz_lt_eq, fe_chk1, fe_chkn] <;> rfl
noncomputable def dy_chks (X : dx_X) (fuel a n : Nat) : Bool := (dz_all (dy_chkn X fuel) (((dz_drop a X.q.nd)).take n))
theorem fe_chks : @dy_chks = @dx_chks := by
  delta dy_chks dx_chks
  simp only [dz_any_eq, dz_all_eq, dz_fil_eq, dz_map_eq, dz_len_eq, dz_get_eq, dz_drop_eq, dz_app_eq, dz_le_eq, dz_lt_eq, fe_chkn] <;> rfl
theorem dy_ck {X : dx_X} {nL fuel : Nat} (h : dy_chk X nL fuel = true) : dx_chk X nL fuel = true := by
  rw [← fe_chk]
  exact h
theorem dy_ck1 {X : dx_X} {nL fuel : Nat} (h : dy_chk1 X nL fuel = true) : dx_chk1 X nL fuel = true := by
  rw [← fe_chk1]
  exact h
theorem dy_cks {X : dx_X} {fuel a n : Nat} (h : dy_chks X fuel a n = true) : dx_chks X fuel a n = true := by
  rw [← fe_chks]
  exact h
