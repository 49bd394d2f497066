/-! ===== going through a method by what is known ===== -/
abbrev dx_M : Type := List (Nat × Int) × Int
abbrev dx_Inst : Type := Nat × dx_S × List dx_S × List Nat × List (Nat × dx_S × dx_M) × List (Nat × Nat × Nat × Nat × List Int) × List (Nat × List Nat)
abbrev dx_Inst.m (q : dx_Inst) : Nat := q.1
abbrev dx_Inst.pre (q : dx_Inst) : dx_S := q.2.1
abbrev dx_Inst.po (q : dx_Inst) : List dx_S := q.2.2.1
abbrev dx_Inst.md (q : dx_Inst) : List Nat := q.2.2.2.1
abbrev dx_Inst.nd (q : dx_Inst) : List (Nat × dx_S × dx_M) := q.2.2.2.2.1
abbrev dx_Inst.sp (q : dx_Inst) : List (Nat × Nat × Nat × Nat × List Int) := q.2.2.2.2.2.1
abbrev dx_Inst.cl (q : dx_Inst) : List (Nat × List Nat) := q.2.2.2.2.2.2
/-- a piece of a method that is looked at by hand: the locals that it wants, how many it takes from the stack, where it goes on -/
abbrev dx_Sg : Type := List Nat × Nat × dx_Inst × List Nat
abbrev dx_Sg.lx (g : dx_Sg) : List Nat := g.1
abbrev dx_Sg.n (g : dx_Sg) : Nat := g.2.1
abbrev dx_Sg.q (g : dx_Sg) : dx_Inst := g.2.2.1
abbrev dx_Sg.pcs (g : dx_Sg) : List Nat := g.2.2.2
abbrev dx_X : Type := dx_Env × (Nat → dx_I) × dx_Inst × Nat × (Nat → dx_Inst) × List (Nat × dx_Sg)
abbrev dx_X.E (X : dx_X) : dx_Env := X.1
abbrev dx_X.pg (X : dx_X) : Nat → dx_I := X.2.1
abbrev dx_X.q (X : dx_X) : dx_Inst := X.2.2.1
abbrev dx_X.i (X : dx_X) : Nat := X.2.2.2.1
abbrev dx_X.Is (X : dx_X) : Nat → dx_Inst := X.2.2.2.2.1
abbrev dx_X.sg (X : dx_X) : List (Nat × dx_Sg) := X.2.2.2.2.2
def dx_idn (n : Nat) : List (Nat × Int) := (List.range n).map (fun t => (t, 0))
def dx_fnd {α : Type} (pc : Nat) : List (Nat × α) → Option α
  | [] => none
  | q :: r => if Nat.beq q.1 pc then some q.2 else dx_fnd pc r
/-- sums of unknowns -/
def dx_am (s : Nat) (k : Int) : List (Nat × Int) → List (Nat × Int)
  | [] => [(s, k)]
  | q :: r => if Nat.beq q.1 s then (s, q.2 + k) :: r else q :: dx_am s k r
def dx_lw (σ : dx_S) : List (Nat × Int) → Int
  | [] => 0
  | (s, k) :: r => (if 0 ≤ k then k * (dx_gi σ.iv s).1 else k * (dx_gi σ.iv s).2) + dx_lw σ r
/-- what the measure falls by, at the least -/
def dx_dm (b : List (Nat × Int)) : List (Nat × Int) → dx_M → Option dx_M
  | [], m => some m
  | (t, k) :: r, m => match b[t]? with
    | some (s, o) => dx_dm b r (dx_am s (-k) m.1, m.2 - k * o)
    | none => none
def dx_op (k : Int) : List (Nat × Int) → Option (Nat × List (Nat × Int))
  | [] => none
  | q :: r => if q.2 = -k then some (q.1, r) else match dx_op k r with
    | some (s, r') => some (s, q :: r')
    | none => none
def dx_lp (σ : dx_S) : Nat → List (Nat × Int) → Int
  | 0, l => dx_lw σ l
  | _ + 1, [] => 0
  | n + 1, (s, k) :: r => match dx_op k r with
    | some (s2, r') => max ((if 0 ≤ k then k * (dx_gi σ.iv s).1 else k * (dx_gi σ.iv s).2) + dx_lp σ n r) ((if 0 ≤ k then k * -(dx_df σ s2 s) else -k * -(dx_df σ s s2)) + dx_lp σ n r')
    | none => (if 0 ≤ k then k * (dx_gi σ.iv s).1 else k * (dx_gi σ.iv s).2) + dx_lp σ n r
def dx_lm (σ : dx_S) (m : dx_M) : Int := dx_lp σ 6 (m.1.filter (fun q => decide (q.2 ≠ 0))) + m.2
/-- a look ahead: what must be exactly so, may be so -/
def dx_qk (σ : dx_S) (fa : List (Nat × Nat × Nat × Int)) : Bool := fa.all (fun f => !(Nat.beq f.2.2.1 0) || (match dx_ff σ.fa f.1 f.2.1 with
  | some (s, o) => decide ((dx_rg2 σ s o).1 ≤ f.2.2.2) && decide (f.2.2.2 ≤ (dx_rg2 σ s o).2)
  | none => true))
def dx_edge0 (X : dx_X) (M : Option dx_M) (σ : dx_S) (nd : dx_S × dx_M) : Bool := match dx_mat (dx_mm X.E σ nd.1.fa) (dx_idn X.q.pre.iv.length) nd.1 with
  | some b => (match M with
    | none => true
    | some m => (match dx_dm b nd.2.1 (m.1, m.2 - nd.2.2) with
      | some d => decide (1 ≤ dx_lm (dx_mm X.E σ nd.1.fa) d)
      | none => false))
  | none => false
def dx_edge (X : dx_X) (M : Option dx_M) (σ : dx_S) (nd : dx_S × dx_M) : Bool := dx_qk σ nd.1.fa && dx_edge0 X M σ nd
def dx_post (X : dx_X) (σ : dx_S) (r : List dx_V) : Bool := X.q.po.any (fun P => match dx_mat (dx_mm X.E (⟨dx_S.iv σ, dx_S.dc σ, r, [], dx_S.fa σ, dx_S.fl σ⟩ : dx_S) P.fa) (dx_idn X.q.pre.iv.length) P with
  | some _ => true
  | none => false)
/-- behind a call -/
def dx_ri (iv : List (Int × Int)) : List (Nat × Int) → List (Int × Int) → List (Int × Int)
  | (s, o) :: b, p :: r => dx_ri (dx_sv iv s (max (dx_gi iv s).1 (p.1 - o), min (dx_gi iv s).2 (p.2 - o))) b r
  | _, _ => iv
def dx_tg : List (Nat × Nat × Int) → List (Int × Int) → List (Int × Int)
  | [], iv => iv
  | (a, b, c) :: r, iv => dx_tg r (let iv1 := dx_sv iv a ((dx_gi iv a).1, min (dx_gi iv a).2 ((dx_gi iv b).2 + c)); dx_sv iv1 b (max (dx_gi iv1 b).1 ((dx_gi iv1 a).1 - c), (dx_gi iv1 b).2))
def dx_emp (iv : List (Int × Int)) : Bool := iv.any (fun p => decide (p.2 < p.1))
def dx_inf (σ : dx_S) : Bool := dx_emp σ.iv || σ.dc.any (fun q => decide (dx_df σ q.2.1 q.1 + q.2.2 < 0))
def dx_bs (b : List (Nat × Int)) (s : Nat) (o : Int) : Nat × Int := match b[s]? with
  | some (s', o') => (s', o' + o)
  | none => (0, 0)
def dx_vb (b : List (Nat × Int)) : dx_V → dx_V
  | (.inl (s, o)) => (.inl ((dx_bs b s o).1, (dx_bs b s o).2))
  | v => v
def dx_ap (E : dx_Env) (cur : dx_S) (ls rest : List dx_V) (b : List (Nat × Int)) (q : dx_Inst) (P : dx_S) : dx_S :=
  let k := cur.iv.length
  let bb := b ++ (List.range (P.iv.length - b.length)).map (fun t => (k + t, (0 : Int)))
  (⟨dx_tg (P.dc.map (fun d => ((dx_bs bb d.1 0).1, (dx_bs bb d.2.1 0).1, d.2.2 - (dx_bs bb d.1 0).2 + (dx_bs bb d.2.1 0).2))) (dx_ri cur.iv b P.iv ++ P.iv.drop b.length), P.dc.map (fun d => ((dx_bs bb d.1 0).1, (dx_bs bb d.2.1 0).1, d.2.2 - (dx_bs bb d.1 0).2 + (dx_bs bb d.2.1 0).2)) ++ cur.dc, ls, P.ls.map (dx_vb bb) ++ rest, P.fa.map (fun f => (f.1, f.2.1, (dx_bs bb f.2.2.1 f.2.2.2).1, (dx_bs bb f.2.2.1 f.2.2.2).2)) ++ cur.fa.filter (fun f => !(dx_mem f.1 q.md)), P.fl.map (fun f => (f.1, (dx_bs bb f.2.1 f.2.2).1, (dx_bs bb f.2.1 f.2.2).2)) ++ dx_kc E q.md cur.fl⟩ : dx_S)
def dx_call0 (X : dx_X) (j m n nx : Nat) (ci : Option Nat) (k : Nat → dx_S → Bool) (σ : dx_S) : Bool :=
  Nat.blt j X.i && Nat.beq (X.Is j).m m && Nat.ble n σ.st.length && Nat.ble (dx_cats (σ.st.drop n)) 8 && dx_sb (X.Is j).md X.q.md &&
  (match ci, (σ.st.take n).reverse with
    | none, _ => true
    | some ci, (.inr (.inl l)) :: _ => l.all (fun a => Nat.beq (X.E.ce a).k ci)
    | some _, _ => false) &&
  (match dx_mat (dx_mm X.E (⟨dx_S.iv σ, dx_S.dc σ, (σ.st.take n).reverse, [], dx_S.fa σ, dx_S.fl σ⟩ : dx_S) (X.Is j).pre.fa) [(0, 0)] (X.Is j).pre with
    | some b => (X.Is j).po.all (fun P => dx_inf (dx_ap X.E (dx_mm X.E (⟨dx_S.iv σ, dx_S.dc σ, (σ.st.take n).reverse, [], dx_S.fa σ, dx_S.fl σ⟩ : dx_S) (X.Is j).pre.fa) σ.ls (σ.st.drop n) b (X.Is j) P) || k nx (dx_ap X.E (dx_mm X.E (⟨dx_S.iv σ, dx_S.dc σ, (σ.st.take n).reverse, [], dx_S.fa σ, dx_S.fl σ⟩ : dx_S) (X.Is j).pre.fa) σ.ls (σ.st.drop n) b (X.Is j) P))
    | none => false)
def dx_call (X : dx_X) (j m n nx : Nat) (ci : Option Nat) (k : Nat → dx_S → Bool) (σ : dx_S) : Bool := dx_qk σ (X.Is j).pre.fa && dx_call0 X j m n nx ci k σ
def dx_at (X : dx_X) (k : Nat → dx_S → Bool) (pc : Nat) (σ : dx_S) : Bool := match X.pg pc with
  | (34, _) => (match σ.st with
    | [(.inl (s, o))] => dx_post X σ [(.inl (s, o))]
    | _ => false)
  | (35, _) => (match σ.st with
    | [(.inl (s, o))] => decide (0 ≤ (dx_rg2 σ s o).1) && decide ((dx_rg2 σ s o).2 ≤ 1) && dx_post X σ [(.inl (s, o))]
    | _ => false)
  | (36, _) => (match σ.st with
    | [] => dx_post X σ []
    | _ => false)
  | (37, _) => (match σ.st with
    | [(.inr (.inl l))] => dx_post X σ [(.inr (.inl l))]
    | [(.inr (.inr (.inl l)))] => dx_post X σ [(.inr (.inr (.inl l)))]
    | _ => false)
  | (38, v, a, b, c, _) => (match dx_fnd pc X.q.cl with
    | some js => js.any (fun j => dx_call X j v.toNat b c (some a) k σ)
    | none => false)
  | (39, v, a, _, c, _) => (match dx_fnd pc X.q.cl with
    | some js => js.any (fun j => dx_call X j v.toNat a c none k σ)
    | none => false)
  | i => (match dx_stp X.E X.q.md i σ with
    | some out => out.all (fun p => k p.1 p.2)
    | none => false)
def dx_lx (ls : List dx_V) : List Nat → Option (List dx_V)
  | [] => some []
  | i :: r => match ls[i]?, dx_lx ls r with
    | some v, some vs => some (v :: vs)
    | _, _ => none
def dx_clb : List dx_V → List Nat → List dx_V
  | ls, [] => ls
  | ls, i :: r => dx_clb (ls.set i (.inr (.inr (.inr true)))) r
def dw_clb : dw_L → List (Nat × Int32) → dw_L
  | ls, [] => ls
  | ls, z :: r => dw_clb (ls.set z.1 (some (.int z.2))) r
/-- the locals that a piece writes over (kept where a contract has its calls) -/
def dx_cb (g : dx_Sg) : List Nat := match g.q.cl with
  | (_, l) :: _ => l
  | [] => []
def dx_sg10 (X : dx_X) (k : Nat → dx_S → Bool) (σ : dx_S) (g : dx_Sg) : Bool :=
  Nat.ble g.n σ.st.length && Nat.ble (dx_cats (σ.st.drop g.n)) 4 && dx_sb g.q.md X.q.md &&
  (match dx_lx σ.ls g.lx with
    | some vs => (match dx_mat (dx_mm X.E (⟨dx_S.iv σ, dx_S.dc σ, vs ++ (σ.st.take g.n).reverse, [], dx_S.fa σ, dx_S.fl σ⟩ : dx_S) g.q.pre.fa) [(0, 0)] g.q.pre with
      | some b => (g.pcs.zip g.q.po).all (fun p => dx_inf (dx_ap X.E (dx_mm X.E (⟨dx_S.iv σ, dx_S.dc σ, vs ++ (σ.st.take g.n).reverse, [], dx_S.fa σ, dx_S.fl σ⟩ : dx_S) g.q.pre.fa) (dx_clb σ.ls (dx_cb g)) (σ.st.drop g.n) b g.q p.2) || k p.1 (dx_ap X.E (dx_mm X.E (⟨dx_S.iv σ, dx_S.dc σ, vs ++ (σ.st.take g.n).reverse, [], dx_S.fa σ, dx_S.fl σ⟩ : dx_S) g.q.pre.fa) (dx_clb σ.ls (dx_cb g)) (σ.st.drop g.n) b g.q p.2))
      | none => false)
    | none => false)
def dx_sg1 (X : dx_X) (k : Nat → dx_S → Bool) (σ : dx_S) (g : dx_Sg) : Bool := dx_qk σ g.q.pre.fa && dx_sg10 X k σ g
def dx_cut (k : dx_S → Bool) (σ : dx_S) (s : Nat) (o : Int) : List Int → Bool
  | [] => k σ
  | c :: r => (match dx_rf σ 5 s o 0 c with
    | some σ' => k σ'
    | none => true) && (match dx_rf σ 4 s o 0 c with
    | some σ' => dx_cut k σ' s o r
    | none => true)
def dx_spl (X : dx_X) (k : dx_S → Bool) (pc : Nat) (σ : dx_S) : Bool := match dx_fnd pc X.q.sp with
  | none => k σ
  | some (0, a, j, cs) => (match dx_ff (dx_m1 X.E σ a j).fa a j with
    | some (s, o) => dx_cut k (dx_m1 X.E σ a j) s o cs
    | none => false)
  | some (_, a, _, cs) => (match σ.ls[a]? with
    | some ((.inl (s, o))) => dx_cut k σ s o cs
    | _ => false)
def dx_go (X : dx_X) (M : Option dx_M) : Nat → Nat → dx_S → Bool
  | 0, _, _ => false
  | f + 1, pc, σ => dx_spl X (fun σ => (X.sg.filter (fun p => Nat.beq p.1 pc)).any (fun p => dx_sg1 X (fun pc' σ' => match X.q.nd.filter (fun nd => Nat.beq nd.1 pc') with
      | [] => dx_go X M f pc' σ'
      | nds => nds.any (fun nd => dx_edge X M σ' nd.2)) σ p.2) ||
    dx_at X (fun pc' σ' => match X.q.nd.filter (fun nd => Nat.beq nd.1 pc') with
      | [] => dx_go X M f pc' σ'
      | nds => nds.any (fun nd => dx_edge X M σ' nd.2)) pc σ) pc σ
def dx_pad : Nat → List dx_V → List dx_V
  | 0, _ => []
  | n + 1, [] => (.inr (.inr (.inr true))) :: dx_pad n []
  | n + 1, a :: r => a :: dx_pad n r
def dx_inl : List dx_V → List dx_V
  | [] => []
  | (.inr (.inr (.inr false))) :: r => (.inr (.inr (.inr false))) :: (.inr (.inr (.inr true))) :: dx_inl r
  | v :: r => v :: dx_inl r
/-- the whole check of one method from one start -/
def dx_chk1 (X : dx_X) (nL fuel : Nat) : Bool := Nat.ble (dx_inl X.q.pre.ls).length nL && dx_go X none fuel 0 (⟨dx_S.iv X.q.pre, dx_S.dc X.q.pre, dx_pad nL (dx_inl X.q.pre.ls), dx_S.st X.q.pre, dx_S.fa X.q.pre, dx_S.fl X.q.pre⟩ : dx_S)
def dx_chkn (X : dx_X) (fuel : Nat) (nd : Nat × dx_S × dx_M) : Bool := decide (0 ≤ dx_lw nd.2.1 nd.2.2.1 + nd.2.2.2) && nd.2.2.1.all (fun t => decide (t.1 < nd.2.1.iv.length)) && dx_go X (some nd.2.2) fuel nd.1 nd.2.1
def dx_chk (X : dx_X) (nL fuel : Nat) : Bool := dx_chk1 X nL fuel && X.q.nd.all (dx_chkn X fuel)
/-- some of the loop heads -/
def dx_chks (X : dx_X) (fuel a n : Nat) : Bool := ((X.q.nd.drop a).take n).all (dx_chkn X fuel)
theorem dx_chks_nil {X : dx_X} {fuel a : Nat} (h : X.q.nd.length ≤ a) : (X.q.nd.drop a).all (dx_chkn X fuel) = true := by
  rw [List.drop_eq_nil_of_le h]; rfl
theorem dx_chks_app {X : dx_X} {fuel a n : Nat} (h : dx_chks X fuel a n = true) (h2 : (X.q.nd.drop (a + n)).all (dx_chkn X fuel) = true) : (X.q.nd.drop a).all (dx_chkn X fuel) = true := by
  have e : X.q.nd.drop a = (X.q.nd.drop a).take n ++ X.q.nd.drop (a + n) := by
    rw [← List.drop_drop, List.take_append_drop]
  rw [e, List.all_append, Bool.and_eq_true]
  exact ⟨h, h2⟩
theorem dx_chk_parts {X : dx_X} {nL fuel : Nat} (h1 : dx_chk1 X nL fuel = true) (h2 : (X.q.nd.drop 0).all (dx_chkn X fuel) = true) : dx_chk X nL fuel = true := by
  unfold dx_chk
  rw [h1, Bool.true_and]
  exact h2
/-- what a method keeps from a start like this -/
def dx_OK (E : dx_Env) (q : dx_Inst) : Prop := ∀ (ν : Nat → Int) (as : List Value) (μ : dw_S) (K : dw_K), dx_g E q.md q.pre.iv.length ν μ ν q.pre (as.map some) [] μ →
  (∀ (r : Option Value) (μ' : dw_S) (ν' : Nat → Int) (P : dx_S), P ∈ q.po → dx_g E q.md q.pre.iv.length ν μ ν' P (r.toList.map some) [] μ' → K r μ') → E.TT q.m as μ K
/-- a piece by hand is right -/
def dx_SOK (E : dx_Env) (pr : Nat → dw_Op) (pc : Nat) (g : dx_Sg) : Prop := ∀ (ν : Nat → Int) (ls vs : dw_L) (args rest : List Value) (μ : dw_S) (bc bs : Nat), g.lx.map (fun i => ls[i]?) = vs.map some → args.length = g.n → dw_cats rest ≤ 4 →
  dx_g E g.q.md g.q.pre.iv.length ν μ ν g.q.pre (vs ++ args.map some) [] μ →
  (∀ (pc' : Nat) (P : dx_S) (ν' : Nat → Int) (r : List Value) (μ' : dw_S), (pc', P) ∈ g.pcs.zip g.q.po → dx_g E g.q.md g.q.pre.iv.length ν μ ν' P (r.map some) [] μ' → dw_ok pr pc' bc bs ls (r ++ rest) μ') → dw_ok pr pc bc bs ls (args.reverse ++ rest) μ
/-- a piece by hand that may write over locals -/
def dx_SOKc (E : dx_Env) (pr : Nat → dw_Op) (pc : Nat) (g : dx_Sg) : Prop := ∀ (ν : Nat → Int) (ls vs : dw_L) (args rest : List Value) (μ : dw_S) (bc bs : Nat), g.lx.map (fun i => ls[i]?) = vs.map some → args.length = g.n → dw_cats rest ≤ 4 →
  dx_g E g.q.md g.q.pre.iv.length ν μ ν g.q.pre (vs ++ args.map some) [] μ →
  (∀ (pc' : Nat) (P : dx_S) (ν' : Nat → Int) (r : List Value) (zs : List (Nat × Int32)) (μ' : dw_S), zs.map (·.1) = dx_cb g → (pc', P) ∈ g.pcs.zip g.q.po → dx_g E g.q.md g.q.pre.iv.length ν μ ν' P (r.map some) [] μ' → dw_ok pr pc' bc bs (dw_clb ls zs) (r ++ rest) μ') → dw_ok pr pc bc bs ls (args.reverse ++ rest) μ
theorem dx_SOK.c {E : dx_Env} {pr : Nat → dw_Op} {pc : Nat} {g : dx_Sg} (h : dx_SOK E pr pc g) (hc : dx_cb g = []) : dx_SOKc E pr pc g :=
  fun ν ls vs args rest μ bc bs h1 h2 h3 h4 hk => h ν ls vs args rest μ bc bs h1 h2 h3 h4 (fun pc' P ν' r μ' m p => hk pc' P ν' r [] μ' (by rw [hc]; rfl) m p)
