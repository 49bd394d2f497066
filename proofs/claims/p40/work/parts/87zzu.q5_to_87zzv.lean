section
/-! ===== a RUN with something changed ===== -/
def gCs (R : Nat → Int32) (k : Nat) (v : Int32) : Nat → rC := fun c => if c = k then ((gC R c).1, (gC R c).2.1, (gC R c).2.2.1, v) else gC R c
def gCk (R : Nat → Int32) (k q : Nat) : Nat → rC := fun c => if c = k then (R (5 + q), R (13 + q), R (21 + q), skI R c) else gC R c
set_option maxRecDepth 8000 in
theorem gCs_at {R : Nat → Int32} {k : Nat} {v : Int32} : gCs R k v k = ((gC R k).1, (gC R k).2.1, (gC R k).2.2.1, v) := if_pos rfl
set_option maxRecDepth 8000 in
theorem gCs_ne {R : Nat → Int32} {k c : Nat} {v : Int32} (h : c ≠ k) : gCs R k v c = gC R c := if_neg h
set_option maxRecDepth 8000 in
theorem gCk_at {R : Nat → Int32} {k q : Nat} : gCk R k q k = (R (5 + q), R (13 + q), R (21 + q), skI R k) := if_pos rfl
set_option maxRecDepth 8000 in
theorem gCk_ne {R : Nat → Int32} {k q c : Nat} (h : c ≠ k) : gCk R k q c = gC R c := if_neg h
set_option maxRecDepth 8000 in
theorem gCs_ok {R : Nat → Int32} {k : Nat} {v : Int32} (hG : GOK R) (hv : 0 ≤ v.toInt ∧ v.toInt ≤ 100) : ∀ c, c < Nn R → cOK (gCs R k v c) := fun c hc => by
  have q := gok_c hG hc
  by_cases e : c = k
  · rw [e] at q ⊢
    rw [gCs_at]
    exact ⟨q.1, q.2.1, q.2.2.1, hv⟩
  · rw [gCs_ne e]; exact q
set_option maxRecDepth 8000 in
theorem gCk_ok {R : Nat → Int32} {k q : Nat} (hG : GOK R) (hq : (q : Int) < (R 2).toInt) : ∀ c, c < Nn R → cOK (gCk R k q c) := fun c hc => by
  have p := gok_c hG hc
  obtain ⟨h1, h2, h3⟩ := hG.2.2.2.1 q hq
  by_cases e : c = k
  · rw [e] at p ⊢
    rw [gCk_at]
    exact ⟨h1, h2, h3, p.2.2.2⟩
  · rw [gCk_ne e]; exact p
set_option maxRecDepth 8000 in
theorem tn_row {I I' : Nat → Nat → Int32} {A t : Nat} (h0 : I' A = I A) (h : ∀ w, w < 5 → I' (A + 1 + 2 + w) = I (A + 1 + 2 + w)) : tnC I' A t = tnC I A t := by
  unfold tnC
  rw [h0, h 0 (by decide), h 1 (by decide), h 2 (by decide), h 3 (by decide), h 4 (by decide)]
set_option maxRecDepth 8000 in
theorem csk_mk {I I' : Nat → Nat → Int32} {A st : Nat} {R S : Nat → Int32} {C' : Nat → rC} {T' : Nat → rN} (h : CST I A R S) (hc : ∀ c, c < Nn R → cfC I' A c = C' c) (ht : ∀ t, t < 144 → tnC I' A t = T' t) (h13 : I' (A + 13) = I (A + 13)) (h14 : I' (A + 14) = I (A + 14)) (h1 : I' A 1 = I A 1) (h2 : I' A 2 = I A 2) (h3 : I' A 3 = I A 3) (h4 : I' A 4 = I A 4) (h5 : (I' A 5).toInt = st) (hok : ∀ c, c < Nn R → cOK (C' c)) : CSK I' A (Nn R) st (fun _ => C') T' (g0S R S) 0 0 := by
  have e3 : srC I' A = srC I A := by
    unfold srC
    rw [h13, h14, h3, h4]
  refine ⟨fun τ _ _ c hcN => hc c hcN, fun t _ htt => ht t htt, by rw [e3]; exact h.2.2.1, by rw [h1]; exact h.2.2.2.1, h5, by rw [h2]; exact h.2.2.2.2.2, fun c hcN => ?_⟩
  have e : I' (A + 8) c = (C' c).1 := congrArg (·.1) (hc c hcN)
  obtain ⟨⟨a, b⟩, -⟩ := hok c hcN
  rw [e]
  exact ⟨a, by omega⟩
set_option maxRecDepth 8000 in
theorem csk_sky {I : Nat → Nat → Int32} {A k : Nat} {v : Int32} {R S : Nat → Int32} (hG : GOK R) (h : CST I A R S) (hv : 0 ≤ v.toInt ∧ v.toInt ≤ 100) : CSK (dw_up I (A + 11) k v) A (Nn R) 0 (fun _ => gCs R k v) (gT S) (g0S R S) 0 0 := by
  have r : ∀ a, a ≠ A + 11 → dw_up I (A + 11) k v a = I a := fun a ha => up_row ha
  have r0 := r A (by omega)
  refine csk_mk h (fun c hc => ?_) (fun t ht => ?_) (r _ (by omega)) (r _ (by omega)) (congrFun r0 1) (congrFun r0 2) (congrFun r0 3) (congrFun r0 4) (by rw [r0]; exact h.2.2.2.2.1) (gCs_ok hG hv)
  · have q := h.1 c hc
    have q1 : I (A + 8) c = (gC R c).1 := congrArg (·.1) q
    have q2 : I (A + 9) c = (gC R c).2.1 := congrArg (·.2.1) q
    have q3 : I (A + 10) c = (gC R c).2.2.1 := congrArg (·.2.2.1) q
    unfold cfC
    rw [r (A + 8) (by omega), r (A + 9) (by omega), r (A + 10) (by omega)]
    by_cases e : c = k
    · rw [q1, q2, q3, e, gCs_at, up_same]
    · rw [gCs_ne e, up_fld e]; exact q
  · rw [tn_row r0 (fun w hw => r _ (by omega))]; exact h.2.1 t ht
set_option maxRecDepth 8000 in
theorem csk_run {I : Nat → Nat → Int32} {A N st : Nat} {C : Nat → Nat → rC} {T : Nat → rN} {s0 : rS} (h : CSK I A N st C T s0 0 0) (k : Nat) (hk : k ≤ 144) : rEq N (ruF st N (fun _ => cfC I A) (tnC I A) 0 k (srC I A)) (ruF st N C T 0 k s0) :=
  ruF_eq k (fun i hi c hc => h.1 (0 + i) (by omega) (by omega) c hc) (fun i hi => h.2.1 (0 + i) (by omega) (by omega)) h.2.2.1
set_option maxRecDepth 8000 in
theorem msk_mk {I I' : Nat → Nat → Int32} {st : Nat} {R S : Nat → Int32} {C' : Nat → Nat → rC} {T' : Nat → rN} (h : MSK I (Nn R) st (fun _ => gC R) (gT S) (g0S R S) 0 0) (hc : ∀ τ, τ < 144 → ∀ c, c < Nn R → cfM I' τ c = C' τ c) (ht : ∀ t, t < 144 → tnM I' t = T' t) (h416 : I' 416 = I 416) (h417 : I' 417 = I 417) (h406 : I' 406 = I 406) (h32 : I' 404 32 = I 404 32) (h33 : I' 404 33 = I 404 33) (h34 : I' 404 34 = I 404 34) (hkd : ∀ c, c < Nn R → 0 ≤ (I' 419 c).toInt ∧ (I' 419 c).toInt < 8) : MSK I' (Nn R) st C' T' (g0S R S) 0 0 := by
  have e3 : srM I' = srM I := by
    unfold srM
    rw [h416, h417, h32, h33]
  exact ⟨fun τ _ hτ c hcN => hc τ hτ c hcN, fun t _ htt => ht t htt, by rw [e3]; exact h.2.2.1, by rw [h406]; exact h.2.2.2.1, by rw [h34]; exact h.2.2.2.2.1, hkd⟩
set_option maxRecDepth 8000 in
theorem fs_none {p : Nat → Bool} : ∀ (f t : Nat), (∀ i, i < f → p (t + i) = false) → fsF p t f = -1
  | 0, _, _ => rfl
  | f + 1, t, h => by
    have e : p t = false := h 0 (by omega)
    rw [fs_n e]
    exact fs_none f (t + 1) (fun i hi => by rw [show t + 1 + i = t + (i + 1) by omega]; exact h (i + 1) (by omega))
set_option maxRecDepth 8000 in
theorem fs_some {p : Nat → Bool} : ∀ (f t : Nat), (∃ i, i < f ∧ p (t + i) = true) → fsF p t f ≠ -1
  | 0, _, h => by obtain ⟨i, hi, -⟩ := h; exact absurd hi (Nat.not_lt_zero i)
  | f + 1, t, h => by
    by_cases e : p t = true
    · rw [fs_y e]; omega
    · have e2 : p t = false := by
        cases q : p t with
        | false => rfl
        | true => exact absurd q e
      rw [fs_n e2]
      obtain ⟨i, hi, q⟩ := h
      refine fs_some f (t + 1) ?_
      by_cases z : i = 0
      · rw [z, Nat.add_zero] at q; exact absurd q e
      · exact ⟨i - 1, by omega, by rw [show t + 1 + (i - 1) = t + i by omega]; exact q⟩
/-- the water of CELL k, its sky v, behind STEP t -/
def drW (R S : Nat → Int32) (k : Nat) (v : Int32) : Nat → Int32 := fun t => (ruF 0 (Nn R) (fun _ => gCs R k v) (gT S) 0 (t + 1) (g0S R S)).2.1 k
/-- it stays dry until six -/
def drP (R S : Nat → Int32) (k : Nat) (v : Int32) : Bool := decide (fsF (pW (drW R S k v)) 0 72 = -1)
set_option maxRecDepth 8000 in
theorem dr_y {R S : Nat → Int32} {k : Nat} {v : Int32} (h : fsF (pW (drW R S k v)) 0 72 = -1) : drP R S k v = true := decide_eq_true h
set_option maxRecDepth 8000 in
theorem dr_n {R S : Nat → Int32} {k : Nat} {v : Int32} (h : ¬ fsF (pW (drW R S k v)) 0 72 = -1) : drP R S k v = false := decide_eq_false h
/-- the sky with so much hidden -/
def slV (R : Nat → Int32) (k : Nat) (l : Int32) : Int32 := fi_max 0 (skI R k - l)
set_option maxRecDepth 8000 in
theorem sl_b {R : Nat → Int32} {k : Nat} {l : Int32} (hG : GOK R) (h0 : 0 ≤ l.toInt) (h1 : l.toInt ≤ 100) : 0 ≤ (slV R k l).toInt ∧ (slV R k l).toInt ≤ 100 ∧ (skI R k - l).toInt = (skI R k).toInt - l.toInt := by
  have k0 : (0 : Int32).toInt = 0 := rfl
  have q := sk_b (j := k) hG.1
  have e := skI_t (c := k) hG
  have e2 : (skI R k - l).toInt = (skI R k).toInt - l.toInt := i_sub (by omega) (by omega)
  unfold slV
  rw [fi_max_i]
  omega
set_option maxRecDepth 8000 in
theorem v_dryR {n : Nat} {I : Nat → Nat → Int32} {J : Nat → Nat → Int64} {K : dw_K} {k : Nat} {c v : Int32} {R S : Nat → Int32} (hN9 : Nn R ≤ 144) (hc : c.toInt = k) (hl : k < Nn R) (hM : CSK I 164 (Nn R) 0 (fun _ => gCs R k v) (gT S) (g0S R S) 0 0)
    (hk : ∀ (w : Int32) (I' : Nat → Nat → Int32), (∀ a, a ≠ 164 → a ≠ 164 + 13 → a ≠ 164 + 14 → I' a = I a) → (w = 1 ∧ drP R S k v = true) ∨ (w = 0 ∧ drP R S k v = false) → K (some (.int w)) (n, SH1, I', J)) : t_X7_staysDry [.ref 164, .int c] (n, SH1, I, J) K := by
  have e : ∀ t, t < 72 → ((ruF 0 (Nn R) (fun _ => cfC I 164) (tnC I 164) 0 (t + 1) (srC I 164)).2.1 k).toInt = (drW R S k v t).toInt := fun t ht => congrArg Int32.toInt ((csk_run hM (t + 1) (by omega)).2.1 k hl)
  refine v_staysDry (st := 0) (N := Nn R) (k := k) (rt_ok (by decide)) hc hM.2.2.2.1 hN9 hl hM.2.2.2.2.1 hM.2.2.2.2.2.1 hM.2.2.2.2.2.2 (fun h I' g => hk 0 I' g (Or.inr ⟨rfl, dr_n (fs_some 72 0 ?_)⟩)) (fun h I' g => hk 1 I' g (Or.inl ⟨rfl, dr_y (fs_none 72 0 (fun i hi => ?_))⟩))
  · obtain ⟨t, ht, q⟩ := h
    exact ⟨t, ht, by rw [Nat.zero_add]; exact pw_y (by rw [← e t ht]; exact q)⟩
  · rw [Nat.zero_add]
    exact pw_n (by rw [← e i hi]; exact h i hi)
set_option maxRecDepth 8000 in
theorem mid_loop {n : Nat} {J : Nat → Nat → Int64} {K : dw_K} {R S : Nat → Int32} {x c l v : Int32} {cc : Nat} (hG : GOK R) (hS : NOK S) (hv : 0 ≤ v.toInt ∧ v.toInt ≤ 100) (hc : c.toInt = cc) (hl : cc < Nn R)
    (hk : ∀ (w : Int32) (I' : Nat → Nat → Int32), I' 406 = R → (w = 1 ∧ drP R S cc v = true) ∨ (w = 0 ∧ drP R S cc v = false) → K (some (.int w)) (n, SH1, I', J)) :
    ∀ (f k : Nat) (t : Int32) (I : Nat → Nat → Int32), k + f = 72 → t.toInt = k → fsF (pW (drW R S cc v)) 0 72 = fsF (pW (drW R S cc v)) k f → I 406 = R → MSK I (Nn R) 0 (fun _ => gCs R cc v) (gT S) (g0S R S) 0 k → dw_ok (pr_X12_isDry K) 37 0 0 [some (.ref 404), some (.int x), some (.int c), some (.int l), some (.int t)] [] (n, SH1, I, J) := by
  have cm1 : (-1 : Int32).toInt = -1 := rfl
  have k0 : (0 : Int32).toInt = 0 := rfl
  have k1 : (1 : Int32).toInt = 1 := rfl
  have hN9 := (gok_N hG).2
  have hcc : c.toInt.toNat = cc := by omega
  have hP : PUR (Nn R) (fun _ => gCs R cc v) (gT S) (g0S R S) 0 := ⟨hN9, fun _ _ _ c hc => gCs_ok hG hv c hc, fun t _ ht => hS.2 t ht, g0_ok hG hS⟩
  intro f
  induction f with
  | zero =>
    intro k t I hf ht hp hR hM
    refine q_ild rfl rfl ?_
    refine q_ic rfl ?_
    refine q_icmp (c := 4) rfl (by decide) (fun y1 => ?_) (fun h => absurd (show (t).toInt ≤ (71 : Int) from h) (by omega))
    have y1 : (71 : Int) < (t).toInt := y1
    refine q_ic rfl ?_
    exact q_zret rfl (Or.inr rfl) (hk 1 I hR (Or.inl ⟨rfl, dr_y hp⟩))
  | succ f ih =>
    intro k t I hf ht hp hR hM
    refine q_ild rfl rfl ?_
    refine q_ic rfl ?_
    refine q_icmp (c := 4) rfl (by decide) (fun h => absurd (show (71 : Int) < (t).toInt from h) (by omega)) (fun y2 => ?_)
    have y2 : (t).toInt ≤ (71 : Int) := y2
    refine q_ald rfl rfl ?_
    refine q_ild rfl rfl ?_
    refine q_callV (as := [.int t]) (rest := []) rfl rfl sk_404 rfl (Nat.le_of_ble_eq_true rfl) ?_
    refine v_mstepR hP hM (by omega) (by omega) (fun I1 g1 g2 hM1 => ?_)
    show dw_ok (pr_X12_isDry K) 50 0 0 [some (.ref 404), some (.int x), some (.int c), some (.int l), some (.int t)] [] (n, SH1, I1, J)
    have eI1 : I1 406 = R := (g1 406 (by decide) (by decide) (by decide)).trans hR
    have ewt : (I1 417 cc).toInt = (drW R S cc v k).toInt := congrArg Int32.toInt (hM1.2.2.1.2.1 cc hl)
    show dw_ok (pr_X12_isDry K) 50 0 0 [some (.ref 404), some (.int x), some (.int c), some (.int l), some (.int t)] [] (n, SH1, I1, J)
    refine q_ald rfl rfl ?_
    refine q_getr rfl sk_404 sr_404_29 ?_
    refine q_ild rfl rfl ?_
    refine q_xald rfl (Or.inl rfl) sk_417 sn_417 (by omega) (by omega) ?_
    show dw_ok (pr_X12_isDry K) 56 0 0 [some (.ref 404), some (.int x), some (.int c), some (.int l), some (.int t)] [.int (I1 417 (c).toInt.toNat)] (n, SH1, I1, J)
    rw [hcc]
    refine q_if (c := 5) rfl (by decide) (fun y3 => ?_) (fun y3 => ?_)
    · have y3 : ((I1 417 cc)).toInt ≤ 0 := y3
      refine q_inc rfl rfl rfl ?_
      show dw_ok (pr_X12_isDry K) 64 0 0 [some (.ref 404), some (.int x), some (.int c), some (.int l), some (.int (t + 1))] [] (n, SH1, I1, J)
      show dw_ok (pr_X12_isDry K) 64 0 0 [some (.ref 404), some (.int x), some (.int c), some (.int l), some (.int (t + 1))] [] (n, SH1, I1, J)
      obtain ⟨tx, htx⟩ : ∃ z, z = (t + 1) := ⟨_, rfl⟩
      rw [← htx]
      have etx : tx.toInt = ((k + 1 : Nat) : Int) := by rw [htx]; exact ix_1 ht (by omega)
      refine q_goto rfl ?_
      exact ih (k + 1) tx I1 (by omega) etx (by rw [hp, fs_n (pw_n (by omega))]) eI1 hM1
    · have y3 : 0 < ((I1 417 cc)).toInt := y3
      refine q_ic rfl ?_
      refine q_zret rfl (Or.inl rfl) (hk 0 I1 eI1 (Or.inr ⟨rfl, dr_n ?_⟩))
      rw [hp, fs_y (pw_y (by omega))]
      omega
set_option maxRecDepth 8000 in
/-- the model's CELLS with a sky changed -/
theorem msk_sky {I : Nat → Nat → Int32} {k : Nat} {v : Int32} {R S : Nat → Int32} (h : MSK I (Nn R) 0 (fun _ => gC R) (gT S) (g0S R S) 0 0) (h35 : I 404 35 = -1) : MSK (dw_up I 418 k v) (Nn R) 0 (fun _ => gCs R k v) (gT S) (g0S R S) 0 0 := by
  have cM1 : (-1 : Int32).toInt = -1 := rfl
  have r : ∀ a, a ≠ 418 → dw_up I 418 k v a = I a := fun a ha => up_row ha
  have r4 := r 404 (by decide)
  refine msk_mk h (fun τ hτ c hc => ?_) (fun t ht => ?_) (r 416 (by decide)) (r 417 (by decide)) (r 406 (by decide)) (congrFun r4 32) (congrFun r4 33) (congrFun r4 34) (fun c hc => by rw [r 419 (by decide)]; exact h.2.2.2.2.2 c hc)
  · have q := h.1 τ (Nat.zero_le τ) hτ c hc
    have sy : ∀ I' : Nat → Nat → Int32, I' 404 35 = -1 → ∀ c : Nat, syM I' τ c = I' 418 c := fun I' h c => by
      unfold syM
      rw [h, if_neg (fun q => by rw [cM1] at q; omega)]
    unfold cfM at q ⊢
    rw [sy I h35] at q
    rw [sy _ ((congrFun r4 35).trans h35), r 406 (by decide), r 419 (by decide)]
    by_cases e : c = k
    · have q1 := congrArg (fun z : rC => z.1) q
      have q2 := congrArg (fun z : rC => z.2.1) q
      have q3 := congrArg (fun z : rC => z.2.2.1) q
      rw [e] at q1 q2 q3 ⊢
      rw [gCs_at, up_same]
      exact Prod.ext q1 (Prod.ext q2 (Prod.ext q3 rfl))
    · rw [gCs_ne e, up_fld e]; exact q
  · rw [show tnM (dw_up I 418 k v) t = tnM I t by unfold tnM; rw [r 411 (by decide), r 412 (by decide), r 413 (by decide), r 414 (by decide), r 415 (by decide)]]
    exact h.2.1 t (Nat.zero_le t) ht
set_option maxRecDepth 8000 in
theorem v_isDry {n : Nat} {I : Nat → Nat → Int32} {J : Nat → Nat → Int64} {K : dw_K} {x c l : Int32} {R : Nat → Int32} {cc : Nat} (hR : I 406 = R) (hG : GOK R) (hx : okS R x) (hS : NOK (nX R x)) (hc : c.toInt = cc) (hl : cc < Nn R) (h0 : 0 ≤ l.toInt) (h1 : l.toInt ≤ 100)
    (hk : ∀ (w : Int32) (I' : Nat → Nat → Int32), I' 406 = R → (w = 1 ∧ drP R (nX R x) cc (slV R cc l) = true) ∨ (w = 0 ∧ drP R (nX R x) cc (slV R cc l) = false) → K (some (.int w)) (n, SH1, I', J)) : t_X12_isDry [.ref 404, .int x, .int c, .int l] (n, SH1, I, J) K := by
  have k0 : (0 : Int32).toInt = 0 := rfl
  have hN9 := (gok_N hG).2
  have hcc : c.toInt.toNat = cc := by omega
  have sb := sl_b (k := cc) hG h0 h1
  refine q_body (Nat.le_of_ble_eq_true rfl) ?_
  refine q_ald rfl rfl ?_
  refine q_ild rfl rfl ?_
  refine q_ic rfl ?_
  refine q_callV (as := [.int x, .int (0 : Int32)]) (rest := []) rfl rfl sk_404 rfl (Nat.le_of_ble_eq_true rfl) ?_
  refine v_mstartR (st := 0) hR hG hx hS rfl (fun I9 g0 _ h35 hM hB => ?_)
  show dw_ok (pr_X12_isDry K) 6 0 0 [some (.ref 404), some (.int x), some (.int c), some (.int l), none] [] (n, SH1, I9, J)
  have e9 : I9 406 = R := (g0 406 (by decide) (by decide)).trans hR
  have eb : I9 418 cc = skI R cc := (hB cc hl).1
  have ebt : (I9 418 cc).toInt = (skI R cc).toInt := congrArg Int32.toInt eb
  show dw_ok (pr_X12_isDry K) 6 0 0 [some (.ref 404), some (.int x), some (.int c), some (.int l), none] [] (n, SH1, I9, J)
  refine q_ald rfl rfl ?_
  refine q_getr rfl sk_404 sr_404_30 ?_
  refine q_ild rfl rfl ?_
  refine q_ald rfl rfl ?_
  refine q_getr rfl sk_404 sr_404_30 ?_
  refine q_ild rfl rfl ?_
  refine q_xald rfl (Or.inl rfl) sk_418 sn_418 (by omega) (by omega) ?_
  show dw_ok (pr_X12_isDry K) 17 0 0 [some (.ref 404), some (.int x), some (.int c), some (.int l), none] [.int (I9 418 (c).toInt.toNat), .int c, .ref 418] (n, SH1, I9, J)
  rw [hcc]
  refine q_ild rfl rfl ?_
  refine q_icmp (c := 5) rfl (by decide) (fun y1 => ?_) (fun y1 => ?_)
  · have y1 : ((I9 418 cc)).toInt ≤ (l).toInt := y1
    refine q_ic rfl ?_
    refine q_iast rfl sk_418 sn_418 (by omega) (by omega) ?_
    show dw_ok (pr_X12_isDry K) 34 0 0 [some (.ref 404), some (.int x), some (.int c), some (.int l), none] [] (n, SH1, (dw_up I9 418 (c).toInt.toNat (0 : Int32)), J)
    rw [hcc]
    refine q_ic rfl ?_
    refine q_ist rfl rfl ?_
    show dw_ok (pr_X12_isDry K) 37 0 0 [some (.ref 404), some (.int x), some (.int c), some (.int l), some (.int (0 : Int32))] [] (n, SH1, (dw_up I9 418 cc (0 : Int32)), J)
    have ev : (0 : Int32) = slV R cc l := by
      unfold slV
      rw [fmx_l (by omega)]
    rw [show (dw_up I9 418 cc (0 : Int32)) = dw_up I9 418 cc (slV R cc l) from congrArg (dw_up I9 418 cc) ev]
    exact mid_loop (S := nX R x) hG hS ⟨sb.1, sb.2.1⟩ hc hl hk 72 0 0 (dw_up I9 418 cc (slV R cc l)) rfl rfl rfl ((up_row (by decide)).trans e9) (msk_sky hM h35)
  · have y1 : (l).toInt < ((I9 418 cc)).toInt := y1
    refine q_ald rfl rfl ?_
    refine q_getr rfl sk_404 sr_404_30 ?_
    refine q_ild rfl rfl ?_
    refine q_xald rfl (Or.inl rfl) sk_418 sn_418 (by omega) (by omega) ?_
    show dw_ok (pr_X12_isDry K) 27 0 0 [some (.ref 404), some (.int x), some (.int c), some (.int l), none] [.int (I9 418 (c).toInt.toNat), .int c, .ref 418] (n, SH1, I9, J)
    rw [hcc]
    refine q_ild rfl rfl ?_
    refine q_sub rfl ?_
    refine q_goto rfl ?_
    refine q_iast rfl sk_418 sn_418 (by omega) (by omega) ?_
    show dw_ok (pr_X12_isDry K) 34 0 0 [some (.ref 404), some (.int x), some (.int c), some (.int l), none] [] (n, SH1, (dw_up I9 418 (c).toInt.toNat ((I9 418 cc) - l)), J)
    rw [hcc]
    refine q_ic rfl ?_
    refine q_ist rfl rfl ?_
    show dw_ok (pr_X12_isDry K) 37 0 0 [some (.ref 404), some (.int x), some (.int c), some (.int l), some (.int (0 : Int32))] [] (n, SH1, (dw_up I9 418 cc ((I9 418 cc) - l)), J)
    have ev : ((I9 418 cc) - l) = slV R cc l := by
      unfold slV
      rw [fmx_r (by omega), eb]
    rw [show (dw_up I9 418 cc ((I9 418 cc) - l)) = dw_up I9 418 cc (slV R cc l) from congrArg (dw_up I9 418 cc) ev]
    exact mid_loop (S := nX R x) hG hS ⟨sb.1, sb.2.1⟩ hc hl hk 72 0 0 (dw_up I9 418 cc (slV R cc l)) rfl rfl rfl ((up_row (by decide)).trans e9) (msk_sky hM h35)
def rfP (R S : Nat → Int32) (c : Nat) : Nat → Bool := fun l => drP R S c (slV R c (Int32.ofNat l))
def aRoof (R : Nat → Int32) (s x y : Int32) : Int := if okS R s ∧ okC R x y then fsF (rfP R (nX R s) (cN R x y)) 0 101 else -1
def bnP (R S : Nat → Int32) (l : Int32) : Nat → Bool := fun c => drP R S c (slV R c l)
/-- a CELL's place -/
def plcF (R : Nat → Int32) (c : Int32) : Int32 := 100 * (c / R 0) + (c - c / R 0 * R 0)
def aBench (R : Nat → Int32) (s l : Int32) : Int := if okS R s ∧ 0 ≤ l.toInt ∧ l.toInt ≤ 100 then (if fsF (bnP R (nX R s) l) 0 (Nn R) = -1 then -1 else (plcF R (Int32.ofNat (fsF (bnP R (nX R s) l) 0 (Nn R)).toNat)).toInt) else -1
set_option maxRecDepth 8000 in
/-- fsF gives a place within -/
theorem fs_b {p : Nat → Bool} {t f : Nat} (h : p t = true) : fsF p t (f + 1) ≠ -1 ∧ (fsF p t (f + 1)).toNat = t := by
  rw [fs_y h]
  omega
set_option maxRecDepth 8000 in
theorem roof_loop {n : Nat} {J : Nat → Nat → Int64} {K : dw_K} {R : Nat → Int32} {a1 a2 a3 c : Int32} {cc : Nat} (oS : okS R a1) (hc : c.toInt = cc) (hl : cc < Nn R) (hk : ∀ (w : Int32) (I' : Nat → Nat → Int32), w.toInt = fsF (rfP R (nX R a1) cc) 0 101 → K (some (.int w)) (n, SH1, I', J)) :
    ∀ (f k : Nat) (m : Int32) (I : Nat → Nat → Int32), k + f = 101 → m.toInt = k → fsF (rfP R (nX R a1) cc) 0 101 = fsF (rfP R (nX R a1) cc) k f → SREL I 3 R → dw_ok (pr_X11_roof K) 25 0 0 [some (.ref 0), some (.int a1), some (.int a2), some (.int a3), some (.int c), some (.int m)] [] (n, SH1, I, J) := by
  have cm1 : (-1 : Int32).toInt = -1 := rfl
  have k0 : (0 : Int32).toInt = 0 := rfl
  have k1 : (1 : Int32).toInt = 1 := rfl
  intro f
  induction f with
  | zero =>
    intro k m I hf hm hp hR
    refine q_ild rfl rfl ?_
    refine q_ic rfl ?_
    refine q_icmp (c := 4) rfl (by decide) (fun y1 => ?_) (fun h => absurd (show (m).toInt ≤ (100 : Int) from h) (by omega))
    have y1 : (100 : Int) < (m).toInt := y1
    refine q_ic rfl ?_
    exact q_iret rfl (hk _ I (cm1.trans hp.symm))
  | succ f ih =>
    intro k m I hf hm hp hR
    have hG := hR.1
    have hN9 := (gok_N hG).2
    have em := of_nat hm (by omega)
    refine q_ild rfl rfl ?_
    refine q_ic rfl ?_
    refine q_icmp (c := 4) rfl (by decide) (fun h => absurd (show (100 : Int) < (m).toInt from h) (by omega)) (fun y2 => ?_)
    have y2 : (m).toInt ≤ (100 : Int) := y2
    refine q_ald rfl rfl ?_
    refine q_ald rfl rfl ?_
    refine q_getr rfl sk_0 sr_0_6 ?_
    refine q_ild rfl rfl ?_
    refine q_callV (as := [.ref 164, .int a1]) (rest := []) rfl rfl sk_0 rfl (Nat.le_of_ble_eq_true rfl) ?_
    refine v_startR hR (Or.inr (Or.inl rfl)) (fun s hs hxs hS I1 q0 _ hC _ _ _ => ?_) (fun hno => absurd oS (okS_no hno))
    obtain ⟨-, eS⟩ := okS_of hs hxs hS
    rw [← eS] at hC
    show dw_ok (pr_X11_roof K) 41 0 0 [some (.ref 0), some (.int a1), some (.int a2), some (.int a3), some (.int c), some (.int m)] [.int (1 : Int32)] (n, SH1, I1, J)
    refine q_if (c := 1) rfl (by decide) (fun y3 => ?_) (fun h => absurd (show (1 : Int) = 0 from h) (by decide))
    have y3 : (1 : Int) ≠ 0 := y3
    refine q_ald rfl rfl ?_
    refine q_getr rfl sk_0 sr_0_6 ?_
    refine q_ild rfl rfl ?_
    refine q_ild rfl rfl ?_
    refine q_callV (as := [.int c, .int m]) (rest := []) rfl rfl sk_164 rfl (Nat.le_of_ble_eq_true rfl) ?_
    refine v_hideSky (A := 164) (N := Nn R) (k := cc) (rt_ok (by decide)) hc hC.2.2.2.1 hN9 hl (l := m) ?_
    show dw_ok (pr_X11_roof K) 57 0 0 [some (.ref 0), some (.int a1), some (.int a2), some (.int a3), some (.int c), some (.int m)] [] (n, SH1, (dw_up I1 (164 + 11) cc (fi_max 0 (I1 (164 + 11) cc - m))), J)
    have e11 : I1 (164 + 11) cc = skI R cc := congrArg (·.2.2.2) (hC.1 cc hl)
    rw [e11]
    have sb := sl_b (k := cc) hG (l := m) (by omega) (by omega)
    have hM := csk_sky (k := cc) (v := slV R cc m) hG hC ⟨sb.1, sb.2.1⟩
    show dw_ok (pr_X11_roof K) 57 0 0 [some (.ref 0), some (.int a1), some (.int a2), some (.int a3), some (.int c), some (.int m)] [] (n, SH1, (dw_up I1 (164 + 11) cc (slV R cc m)), J)
    refine q_ald rfl rfl ?_
    refine q_getr rfl sk_0 sr_0_6 ?_
    refine q_ild rfl rfl ?_
    refine q_callV (as := [.int c]) (rest := []) rfl rfl sk_164 rfl (Nat.le_of_ble_eq_true rfl) ?_
    refine v_dryR (k := cc) hN9 hc hl hM (fun w_ I2 g hw => ?_)
    have hR2 : SREL I2 3 R := srel_fr (S := 3) (fun a p q => (g a (by omega) (by omega) (by omega)).trans ((up_row (by omega)).trans (q0 a (by omega)))) (fun _ _ => rfl) hR
    rcases hw with ⟨rfl, hw⟩ | ⟨rfl, hw⟩
    · show dw_ok (pr_X11_roof K) 66 0 0 [some (.ref 0), some (.int a1), some (.int a2), some (.int a3), some (.int c), some (.int m)] [.int (1 : Int32)] (n, SH1, I2, J)
      refine q_if (c := 0) rfl (by decide) (fun h => absurd (show (1 : Int) = 0 from h) (by decide)) (fun y4 => ?_)
      have y4 : (1 : Int) ≠ 0 := y4
      refine q_ild rfl rfl ?_
      have hq : rfP R (nX R a1) cc k = true := by
        show drP R (nX R a1) cc (slV R cc (Int32.ofNat k)) = true
        rw [← em]; exact hw
      exact q_iret rfl (hk _ I2 (by rw [hp, fs_y hq, hm]))
    · show dw_ok (pr_X11_roof K) 66 0 0 [some (.ref 0), some (.int a1), some (.int a2), some (.int a3), some (.int c), some (.int m)] [.int (0 : Int32)] (n, SH1, I2, J)
      refine q_if (c := 0) rfl (by decide) (fun y5 => ?_) (fun h => absurd (show (0 : Int) ≠ 0 from h) (by decide))
      have y5 : (0 : Int) = 0 := y5
      refine q_inc rfl rfl rfl ?_
      show dw_ok (pr_X11_roof K) 75 0 0 [some (.ref 0), some (.int a1), some (.int a2), some (.int a3), some (.int c), some (.int (m + 1))] [] (n, SH1, I2, J)
      show dw_ok (pr_X11_roof K) 75 0 0 [some (.ref 0), some (.int a1), some (.int a2), some (.int a3), some (.int c), some (.int (m + 1))] [] (n, SH1, I2, J)
      obtain ⟨mx, hmx⟩ : ∃ z, z = (m + 1) := ⟨_, rfl⟩
      rw [← hmx]
      have emx : mx.toInt = ((k + 1 : Nat) : Int) := by rw [hmx]; exact ix_1 hm (by omega)
      refine q_goto rfl ?_
      have hq : rfP R (nX R a1) cc k = false := by
        show drP R (nX R a1) cc (slV R cc (Int32.ofNat k)) = false
        rw [← em]; exact hw
      exact ih (k + 1) mx I2 (by omega) emx (by rw [hp, fs_n hq]) hR2
set_option maxRecDepth 8000 in
theorem v_croof {n : Nat} {I : Nat → Nat → Int32} {J : Nat → Nat → Int64} {K : dw_K} {R : Nat → Int32} (hR : SREL I 3 R) {a1 a2 a3 : Int32} (hk : ∀ (w : Int32) (I' : Nat → Nat → Int32), w.toInt = aRoof R a1 a2 a3 → K (some (.int w)) (n, SH1, I', J)) : t_X11_roof [.ref 0, .int a1, .int a2, .int a3] (n, SH1, I, J) K := by
  have cm1 : (-1 : Int32).toInt = -1 := rfl
  have k0 : (0 : Int32).toInt = 0 := rfl
  have k1 : (1 : Int32).toInt = 1 := rfl
  refine q_body (Nat.le_of_ble_eq_true rfl) ?_
  refine q_ald rfl rfl ?_
  refine q_getr rfl sk_0 sr_0_1 ?_
  refine q_getr rfl sk_3 sr_3_1 ?_
  refine q_ild rfl rfl ?_
  refine q_ild rfl rfl ?_
  refine q_callV (as := [.int a2, .int a3]) (rest := []) rfl rfl sk_4 rfl (Nat.le_of_ble_eq_true rfl) ?_
  refine v_cellAt2 (R := R) hR.1 ((rg_3 hR).1 0 (by decide)) ((rg_3 hR).1 1 (by decide)) (fun k2 c1 ec1 => ?_) (fun k2 => ?_)
  · show dw_ok (pr_X11_roof K) 12 0 0 [some (.ref 0), some (.int a1), some (.int a2), some (.int a3), none, none] [.int c1] (n, SH1, I, J)
    refine q_ist rfl rfl ?_
    show dw_ok (pr_X11_roof K) 14 0 0 [some (.ref 0), some (.int a1), some (.int a2), some (.int a3), some (.int c1), none] [] (n, SH1, I, J)
    refine q_ild rfl rfl ?_
    refine q_ic rfl ?_
    refine q_icmp (c := 1) rfl (by decide) (fun y3 => ?_) (fun h => absurd (show (c1).toInt = (-1 : Int) from h) (by have := ec1; omega))
    have y3 : (c1).toInt ≠ (-1 : Int) := y3
    refine q_ic rfl ?_
    refine q_ist rfl rfl ?_
    show dw_ok (pr_X11_roof K) 25 0 0 [some (.ref 0), some (.int a1), some (.int a2), some (.int a3), some (.int c1), some (.int (0 : Int32))] [] (n, SH1, I, J)
    by_cases oS : okS R a1
    · exact roof_loop oS ec1 (cN_lt k2) (fun w I' hw => hk w I' (by unfold aRoof; rw [if_pos ⟨oS, k2⟩]; exact hw)) 101 0 0 I rfl rfl rfl hR
    · show dw_ok (pr_X11_roof K) 25 0 0 [some (.ref 0), some (.int a1), some (.int a2), some (.int a3), some (.int c1), some (.int (0 : Int32))] [] (n, SH1, I, J)
      refine q_ild rfl rfl ?_
      refine q_ic rfl ?_
      refine q_icmp (c := 4) rfl (by decide) (fun h => absurd (show (100 : Int) < (0 : Int) from h) (by decide)) (fun y4 => ?_)
      have y4 : (0 : Int) ≤ (100 : Int) := y4
      refine q_ald rfl rfl ?_
      refine q_ald rfl rfl ?_
      refine q_getr rfl sk_0 sr_0_6 ?_
      refine q_ild rfl rfl ?_
      refine q_callV (as := [.ref 164, .int a1]) (rest := []) rfl rfl sk_0 rfl (Nat.le_of_ble_eq_true rfl) ?_
      refine v_startR hR (Or.inr (Or.inl rfl)) (fun s hs hxs hS _ _ _ _ _ _ _ => absurd (okS_of hs hxs hS).1 oS) (fun hno => ?_)
      show dw_ok (pr_X11_roof K) 41 0 0 [some (.ref 0), some (.int a1), some (.int a2), some (.int a3), some (.int c1), some (.int (0 : Int32))] [.int (0 : Int32)] (n, SH1, I, J)
      refine q_if (c := 1) rfl (by decide) (fun h => absurd (show (0 : Int) ≠ 0 from h) (by decide)) (fun y5 => ?_)
      have y5 : (0 : Int) = 0 := y5
      refine q_ic rfl ?_
      refine q_iret rfl (hk _ _ ?_)
      unfold aRoof
      rw [if_neg (fun q => oS q.1)]
      exact cm1
  · show dw_ok (pr_X11_roof K) 12 0 0 [some (.ref 0), some (.int a1), some (.int a2), some (.int a3), none, none] [.int (-1 : Int32)] (n, SH1, I, J)
    refine q_ist rfl rfl ?_
    show dw_ok (pr_X11_roof K) 14 0 0 [some (.ref 0), some (.int a1), some (.int a2), some (.int a3), some (.int (-1 : Int32)), none] [] (n, SH1, I, J)
    refine q_ild rfl rfl ?_
    refine q_ic rfl ?_
    refine q_icmp (c := 1) rfl (by decide) (fun h => absurd (show (-1 : Int) ≠ (-1 : Int) from h) (by omega)) (fun y6 => ?_)
    have y6 : (-1 : Int) = (-1 : Int) := y6
    refine q_ic rfl ?_
    refine q_iret rfl (hk _ _ ?_)
    unfold aRoof
    rw [if_neg (fun q => k2 q.2)]
    exact cm1
set_option maxRecDepth 8000 in
theorem mrf_loop {n : Nat} {J : Nat → Nat → Int64} {K : dw_K} {R : Nat → Int32} {a1 a2 a3 : Int32} (hG : GOK R) (oS : okS R a1) (hS : NOK (nX R a1)) (oC : okC R a2 a3) (hk : ∀ (w : Int32) (I' : Nat → Nat → Int32), w.toInt = fsF (rfP R (nX R a1) (cN R a2 a3)) 0 101 → K (some (.int w)) (n, SH1, I', J)) :
    ∀ (f k : Nat) (m : Int32) (I : Nat → Nat → Int32), k + f = 101 → m.toInt = k → fsF (rfP R (nX R a1) (cN R a2 a3)) 0 101 = fsF (rfP R (nX R a1) (cN R a2 a3)) k f → I 406 = R → dw_ok (pr_X12_roof K) 27 0 0 [some (.ref 404), some (.int a1), some (.int a2), some (.int a3), some (.int m)] [] (n, SH1, I, J) := by
  have cm1 : (-1 : Int32).toInt = -1 := rfl
  have k0 : (0 : Int32).toInt = 0 := rfl
  have k1 : (1 : Int32).toInt = 1 := rfl
  intro f
  induction f with
  | zero =>
    intro k m I hf hm hp hR
    refine q_ild rfl rfl ?_
    refine q_ic rfl ?_
    refine q_icmp (c := 4) rfl (by decide) (fun y1 => ?_) (fun h => absurd (show (m).toInt ≤ (100 : Int) from h) (by omega))
    have y1 : (100 : Int) < (m).toInt := y1
    refine q_ic rfl ?_
    exact q_iret rfl (hk _ I (cm1.trans hp.symm))
  | succ f ih =>
    intro k m I hf hm hp hR
    have em := of_nat hm (by omega)
    refine q_ild rfl rfl ?_
    refine q_ic rfl ?_
    refine q_icmp (c := 4) rfl (by decide) (fun h => absurd (show (100 : Int) < (m).toInt from h) (by omega)) (fun y2 => ?_)
    have y2 : (m).toInt ≤ (100 : Int) := y2
    refine q_ald rfl rfl ?_
    refine q_ild rfl rfl ?_
    refine q_ald rfl rfl ?_
    refine q_ild rfl rfl ?_
    refine q_ild rfl rfl ?_
    refine q_callV (as := [.int a2, .int a3]) (rest := [.int a1, .ref 404]) rfl rfl sk_404 rfl (Nat.le_of_ble_eq_true rfl) ?_
    refine v_numberOf ?_
    show dw_ok (pr_X12_roof K) 42 0 0 [some (.ref 404), some (.int a1), some (.int a2), some (.int a3), some (.int m)] [.int (I 406 0 * a3 + a2), .int a1, .ref 404] (n, SH1, I, J)
    rw [hR]
    have en : (R 0 * a3 + a2).toInt.toNat = cN R a2 a3 := by rw [(cN_i hG oC).2]; rfl
    have el := cN_lt oC
    have el9 := (gok_N hG).2
    have ei : (R 0 * a3 + a2).toInt = (cN R a2 a3 : Nat) := (cN_i hG oC).2
    show dw_ok (pr_X12_roof K) 42 0 0 [some (.ref 404), some (.int a1), some (.int a2), some (.int a3), some (.int m)] [.int (R 0 * a3 + a2), .int a1, .ref 404] (n, SH1, I, J)
    refine q_ild rfl rfl ?_
    refine q_callV (as := [.int a1, .int (R 0 * a3 + a2), .int m]) (rest := []) rfl rfl sk_404 rfl (Nat.le_of_ble_eq_true rfl) ?_
    refine v_isDry (cc := (cN R a2 a3)) (c := (R 0 * a3 + a2)) (l := m) hR hG oS hS ei el (by omega) (by omega) (fun w_ I2 eI2 hw => ?_)
    rcases hw with ⟨rfl, hw⟩ | ⟨rfl, hw⟩
    · show dw_ok (pr_X12_roof K) 47 0 0 [some (.ref 404), some (.int a1), some (.int a2), some (.int a3), some (.int m)] [.int (1 : Int32)] (n, SH1, I2, J)
      refine q_if (c := 0) rfl (by decide) (fun h => absurd (show (1 : Int) = 0 from h) (by decide)) (fun y3 => ?_)
      have y3 : (1 : Int) ≠ 0 := y3
      refine q_ild rfl rfl ?_
      have hq : rfP R (nX R a1) (cN R a2 a3) k = true := by
        show drP R (nX R a1) (cN R a2 a3) (slV R (cN R a2 a3) (Int32.ofNat k)) = true
        rw [← em]; exact hw
      exact q_iret rfl (hk _ I2 (by rw [hp, fs_y hq, hm]))
    · show dw_ok (pr_X12_roof K) 47 0 0 [some (.ref 404), some (.int a1), some (.int a2), some (.int a3), some (.int m)] [.int (0 : Int32)] (n, SH1, I2, J)
      refine q_if (c := 0) rfl (by decide) (fun y4 => ?_) (fun h => absurd (show (0 : Int) ≠ 0 from h) (by decide))
      have y4 : (0 : Int) = 0 := y4
      refine q_inc rfl rfl rfl ?_
      show dw_ok (pr_X12_roof K) 56 0 0 [some (.ref 404), some (.int a1), some (.int a2), some (.int a3), some (.int (m + 1))] [] (n, SH1, I2, J)
      show dw_ok (pr_X12_roof K) 56 0 0 [some (.ref 404), some (.int a1), some (.int a2), some (.int a3), some (.int (m + 1))] [] (n, SH1, I2, J)
      obtain ⟨mx, hmx⟩ : ∃ z, z = (m + 1) := ⟨_, rfl⟩
      rw [← hmx]
      have emx : mx.toInt = ((k + 1 : Nat) : Int) := by rw [hmx]; exact ix_1 hm (by omega)
      refine q_goto rfl ?_
      have hq : rfP R (nX R a1) (cN R a2 a3) k = false := by
        show drP R (nX R a1) (cN R a2 a3) (slV R (cN R a2 a3) (Int32.ofNat k)) = false
        rw [← em]; exact hw
      exact ih (k + 1) mx I2 (by omega) emx (by rw [hp, fs_n hq]) eI2
set_option maxRecDepth 8000 in
set_option maxHeartbeats 4000000 in
theorem v_mroof {n : Nat} {I : Nat → Nat → Int32} {J : Nat → Nat → Int64} {K : dw_K} {R : Nat → Int32} (hR : I 406 = R) (hG : GOK R) {a1 a2 a3 : Int32} (hN : okS R a1 → NOK (nX R a1)) (hk : ∀ (w : Int32) (I' : Nat → Nat → Int32), w.toInt = aRoof R a1 a2 a3 → K (some (.int w)) (n, SH1, I', J)) : t_X12_roof [.ref 404, .int a1, .int a2, .int a3] (n, SH1, I, J) K := by
  have cm1 : (-1 : Int32).toInt = -1 := rfl
  have k0 : (0 : Int32).toInt = 0 := rfl
  have k1 : (1 : Int32).toInt = 1 := rfl
  have k2 : (2 : Int32).toInt = 2 := rfl
  refine q_body (Nat.le_of_ble_eq_true rfl) ?_
  refine q_ald rfl rfl ?_
  refine q_ic rfl ?_
  refine q_puti rfl sk_404 ?_
  show dw_ok (pr_X12_roof K) 5 0 0 [some (.ref 404), some (.int a1), some (.int a2), some (.int a3), none] [] (n, SH1, (dw_up I 404 0 (0 : Int32)), J)
  refine q_ald rfl rfl ?_
  refine q_ild rfl rfl ?_
  refine q_callV (as := [.int a1]) (rest := []) rfl rfl sk_404 rfl (Nat.le_of_ble_eq_true rfl) ?_
  obtain ⟨I1, hI1⟩ : ∃ X, X = (dw_up I 404 0 (0 : Int32)) := ⟨_, rfl⟩
  rw [← hI1]
  have eI1 : I1 406 = R := by rw [hI1]; exact ((up_row (by decide)).trans (hR))
  refine v_isNight (fun w_ oS => ?_)
  rcases oS with ⟨rfl, oS⟩ | ⟨rfl, oS⟩
  · show dw_ok (pr_X12_roof K) 10 0 0 [some (.ref 404), some (.int a1), some (.int a2), some (.int a3), none] [.int (1 : Int32)] (n, SH1, I1, J)
    refine q_if (c := 0) rfl (by decide) (fun h => absurd (show (1 : Int) = 0 from h) (by decide)) (fun y2 => ?_)
    have y2 : (1 : Int) ≠ 0 := y2
    refine q_ald rfl rfl ?_
    refine q_ild rfl rfl ?_
    refine q_ild rfl rfl ?_
    refine q_callV (as := [.int a2, .int a3]) (rest := []) rfl rfl sk_404 rfl (Nat.le_of_ble_eq_true rfl) ?_
    refine v_misCell (C := Cn R) (R := Rn R) (by rw [eI1]; exact hG.1.1) (by rw [eI1]; exact hG.1.2.1) (fun w_ oC => ?_)
    rcases oC with ⟨rfl, oC⟩ | ⟨rfl, oC⟩
    · show dw_ok (pr_X12_roof K) 19 0 0 [some (.ref 404), some (.int a1), some (.int a2), some (.int a3), none] [.int (1 : Int32)] (n, SH1, I1, J)
      refine q_if (c := 1) rfl (by decide) (fun y3 => ?_) (fun h => absurd (show (1 : Int) = 0 from h) (by decide))
      have y3 : (1 : Int) ≠ 0 := y3
      refine q_ic rfl ?_
      refine q_ist rfl rfl ?_
      show dw_ok (pr_X12_roof K) 27 0 0 [some (.ref 404), some (.int a1), some (.int a2), some (.int a3), some (.int (0 : Int32))] [] (n, SH1, I1, J)
      rw [eI1] at oS
      exact mrf_loop hG oS (hN oS) oC (fun w I' hw => hk w I' (by unfold aRoof; rw [if_pos ⟨oS, oC⟩]; exact hw)) 101 0 0 _ rfl rfl rfl eI1
    · show dw_ok (pr_X12_roof K) 19 0 0 [some (.ref 404), some (.int a1), some (.int a2), some (.int a3), none] [.int (0 : Int32)] (n, SH1, I1, J)
      refine q_if (c := 1) rfl (by decide) (fun h => absurd (show (0 : Int) ≠ 0 from h) (by decide)) (fun y4 => ?_)
      have y4 : (0 : Int) = 0 := y4
      refine q_ic rfl ?_
      refine q_iret rfl (hk _ _ ?_)
      unfold aRoof
      rw [if_neg (fun q => oC q.2)]
      exact cm1
  · show dw_ok (pr_X12_roof K) 10 0 0 [some (.ref 404), some (.int a1), some (.int a2), some (.int a3), none] [.int (0 : Int32)] (n, SH1, I1, J)
    refine q_if (c := 0) rfl (by decide) (fun y5 => ?_) (fun h => absurd (show (0 : Int) ≠ 0 from h) (by decide))
    have y5 : (0 : Int) = 0 := y5
    refine q_ic rfl ?_
    refine q_iret rfl (hk _ _ ?_)
    unfold aRoof
    rw [if_neg (by rw [eI1] at oS; exact fun q => oS q.1)]
    exact cm1
set_option maxRecDepth 8000 in
theorem v_placeOf {n : Nat} {I : Nat → Nat → Int32} {J : Nat → Nat → Int64} {K : dw_K} {c : Int32} {R : Nat → Int32} (h0 : I 4 0 = R 0) (hp : 0 < (R 0).toInt) (hk : K (some (.int (plcF R c))) (n, SH1, I, J)) : t_X0_placeOf [.ref 4, .int c] (n, SH1, I, J) K := by
  have nz : R 0 ≠ 0 := fun q => by rw [q] at hp; exact absurd hp (by decide)
  refine q_body (Nat.le_of_ble_eq_true rfl) ?_
  refine q_ald rfl rfl ?_
  refine q_geti rfl sk_4 ?_
  show dw_ok (pr_X0_placeOf K) 4 0 0 [some (.ref 4), some (.int c)] [.int (I 4 0)] (n, SH1, I, J)
  rw [h0]
  refine q_if (c := 5) rfl (by decide) (fun h => absurd (show (R 0).toInt ≤ 0 from h) (by omega)) (fun _ => ?_)
  refine q_ic rfl ?_
  refine q_ild rfl rfl ?_
  refine q_ald rfl rfl ?_
  refine q_geti rfl sk_4 ?_
  show dw_ok (pr_X0_placeOf K) 14 0 0 [some (.ref 4), some (.int c)] [.int (I 4 0), .int c, .int 100] (n, SH1, I, J)
  rw [h0]
  refine q_div rfl nz ?_
  refine q_mul rfl ?_
  refine q_ild rfl rfl ?_
  refine q_ald rfl rfl ?_
  refine q_geti rfl sk_4 ?_
  show dw_ok (pr_X0_placeOf K) 21 0 0 [some (.ref 4), some (.int c)] [.int (I 4 0), .int c, .int (100 * (c / R 0))] (n, SH1, I, J)
  rw [h0]
  refine q_rem rfl nz ?_
  refine q_add rfl ?_
  refine q_goto rfl ?_
  exact q_iret rfl hk
set_option maxRecDepth 8000 in
theorem cn_pos {R : Nat → Int32} {c : Nat} (hG : GOK R) (hc : c < Nn R) : 0 < (R 0).toInt := by
  have e : (R 0).toInt = Cn R := hG.1.1
  have q : Cn R ≠ 0 := fun q => by
    have : Nn R = 0 := by
      show Cn R * Rn R = 0
      rw [q, Nat.zero_mul]
    omega
  omega
/-- the answer of bench, from where it looks on -/
def bnA (R : Nat → Int32) (f : Int) : Int := if f = -1 then -1 else (plcF R (Int32.ofNat f.toNat)).toInt
set_option maxRecDepth 8000 in
theorem bench_y {R : Nat → Int32} {s l : Int32} (h : okS R s ∧ 0 ≤ l.toInt ∧ l.toInt ≤ 100) : aBench R s l = bnA R (fsF (bnP R (nX R s) l) 0 (Nn R)) := if_pos h
set_option maxRecDepth 8000 in
theorem bnA_k {R : Nat → Int32} {k : Nat} : bnA R ((k : Nat) : Int) = (plcF R (Int32.ofNat k)).toInt := by
  unfold bnA
  rw [if_neg (by omega), Int.toNat_natCast]
set_option maxRecDepth 8000 in
theorem bench_loop {n : Nat} {J : Nat → Nat → Int64} {K : dw_K} {R : Nat → Int32} {a1 a2 nv : Int32} (oS : okS R a1) (h0 : 0 ≤ a2.toInt) (h1 : a2.toInt ≤ 100) (hn : nv.toInt = Nn R) (hk : ∀ (w : Int32) (I' : Nat → Nat → Int32), w.toInt = bnA R (fsF (bnP R (nX R a1) a2) 0 (Nn R)) → K (some (.int w)) (n, SH1, I', J)) :
    ∀ (f k : Nat) (c : Int32) (I : Nat → Nat → Int32), k + f = Nn R → c.toInt = k → fsF (bnP R (nX R a1) a2) 0 (Nn R) = fsF (bnP R (nX R a1) a2) k f → SREL I 3 R → dw_ok (pr_X11_bench K) 26 0 0 [some (.ref 0), some (.int a1), some (.int a2), some (.int nv), some (.int c)] [] (n, SH1, I, J) := by
  have cm1 : (-1 : Int32).toInt = -1 := rfl
  have k0 : (0 : Int32).toInt = 0 := rfl
  have k1 : (1 : Int32).toInt = 1 := rfl
  intro f
  induction f with
  | zero =>
    intro k c I hf hc hp hR
    refine q_ild rfl rfl ?_
    refine q_ild rfl rfl ?_
    refine q_icmp (c := 3) rfl (by decide) (fun y1 => ?_) (fun h => absurd (show (c).toInt < (nv).toInt from h) (by omega))
    have y1 : (nv).toInt ≤ (c).toInt := y1
    refine q_ic rfl ?_
    exact q_iret rfl (hk _ I (by rw [hp]; exact cm1.trans (if_pos rfl).symm))
  | succ f ih =>
    intro k c I hf hc hp hR
    have hG := hR.1
    have hN9 := (gok_N hG).2
    have hl : k < Nn R := by omega
    have ec := of_nat hc (by omega)
    refine q_ild rfl rfl ?_
    refine q_ild rfl rfl ?_
    refine q_icmp (c := 3) rfl (by decide) (fun h => absurd (show (nv).toInt ≤ (c).toInt from h) (by omega)) (fun y2 => ?_)
    have y2 : (c).toInt < (nv).toInt := y2
    refine q_ald rfl rfl ?_
    refine q_ald rfl rfl ?_
    refine q_getr rfl sk_0 sr_0_6 ?_
    refine q_ild rfl rfl ?_
    refine q_callV (as := [.ref 164, .int a1]) (rest := []) rfl rfl sk_0 rfl (Nat.le_of_ble_eq_true rfl) ?_
    refine v_startR hR (Or.inr (Or.inl rfl)) (fun s hs hxs hS I1 q0 _ hC _ _ _ => ?_) (fun hno => absurd oS (okS_no hno))
    obtain ⟨-, eS⟩ := okS_of hs hxs hS
    rw [← eS] at hC
    show dw_ok (pr_X11_bench K) 41 0 0 [some (.ref 0), some (.int a1), some (.int a2), some (.int nv), some (.int c)] [.int (1 : Int32)] (n, SH1, I1, J)
    refine q_if (c := 1) rfl (by decide) (fun y3 => ?_) (fun h => absurd (show (1 : Int) = 0 from h) (by decide))
    have y3 : (1 : Int) ≠ 0 := y3
    refine q_ald rfl rfl ?_
    refine q_getr rfl sk_0 sr_0_6 ?_
    refine q_ild rfl rfl ?_
    refine q_ild rfl rfl ?_
    refine q_callV (as := [.int c, .int a2]) (rest := []) rfl rfl sk_164 rfl (Nat.le_of_ble_eq_true rfl) ?_
    refine v_hideSky (A := 164) (N := Nn R) (k := k) (rt_ok (by decide)) hc hC.2.2.2.1 hN9 hl (l := a2) ?_
    show dw_ok (pr_X11_bench K) 56 0 0 [some (.ref 0), some (.int a1), some (.int a2), some (.int nv), some (.int c)] [] (n, SH1, (dw_up I1 (164 + 11) k (fi_max 0 (I1 (164 + 11) k - a2))), J)
    have e11 : I1 (164 + 11) k = skI R k := congrArg (·.2.2.2) (hC.1 k hl)
    rw [e11]
    have sb := sl_b (k := k) hG (l := a2) h0 h1
    have hM := csk_sky (k := k) (v := slV R k a2) hG hC ⟨sb.1, sb.2.1⟩
    show dw_ok (pr_X11_bench K) 56 0 0 [some (.ref 0), some (.int a1), some (.int a2), some (.int nv), some (.int c)] [] (n, SH1, (dw_up I1 (164 + 11) k (slV R k a2)), J)
    refine q_ald rfl rfl ?_
    refine q_getr rfl sk_0 sr_0_6 ?_
    refine q_ild rfl rfl ?_
    refine q_callV (as := [.int c]) (rest := []) rfl rfl sk_164 rfl (Nat.le_of_ble_eq_true rfl) ?_
    refine v_dryR (k := k) hN9 hc hl hM (fun w_ I2 g hw => ?_)
    have hR2 : SREL I2 3 R := srel_fr (S := 3) (fun a p q => (g a (by omega) (by omega) (by omega)).trans ((up_row (by omega)).trans (q0 a (by omega)))) (fun _ _ => rfl) hR
    rcases hw with ⟨rfl, hw⟩ | ⟨rfl, hw⟩
    · show dw_ok (pr_X11_bench K) 65 0 0 [some (.ref 0), some (.int a1), some (.int a2), some (.int nv), some (.int c)] [.int (1 : Int32)] (n, SH1, I2, J)
      refine q_if (c := 0) rfl (by decide) (fun h => absurd (show (1 : Int) = 0 from h) (by decide)) (fun y4 => ?_)
      have y4 : (1 : Int) ≠ 0 := y4
      refine q_ald rfl rfl ?_
      refine q_getr rfl sk_0 sr_0_1 ?_
      refine q_getr rfl sk_3 sr_3_1 ?_
      refine q_ild rfl rfl ?_
      refine q_callV (as := [.int c]) (rest := []) rfl rfl sk_4 rfl (Nat.le_of_ble_eq_true rfl) ?_
      refine v_placeOf (R := R) ((rg_3 hR2).1 0 (by decide)) (cn_pos hG hl) ?_
      show dw_ok (pr_X11_bench K) 80 0 0 [some (.ref 0), some (.int a1), some (.int a2), some (.int nv), some (.int c)] [.int (plcF R c)] (n, SH1, I2, J)
      have hq : bnP R (nX R a1) a2 k = true := hw
      exact q_iret rfl (hk _ I2 (by rw [hp, fs_y hq, bnA_k, ec]))
    · show dw_ok (pr_X11_bench K) 65 0 0 [some (.ref 0), some (.int a1), some (.int a2), some (.int nv), some (.int c)] [.int (0 : Int32)] (n, SH1, I2, J)
      refine q_if (c := 0) rfl (by decide) (fun y5 => ?_) (fun h => absurd (show (0 : Int) ≠ 0 from h) (by decide))
      have y5 : (0 : Int) = 0 := y5
      refine q_inc rfl rfl rfl ?_
      show dw_ok (pr_X11_bench K) 84 0 0 [some (.ref 0), some (.int a1), some (.int a2), some (.int nv), some (.int (c + 1))] [] (n, SH1, I2, J)
      show dw_ok (pr_X11_bench K) 84 0 0 [some (.ref 0), some (.int a1), some (.int a2), some (.int nv), some (.int (c + 1))] [] (n, SH1, I2, J)
      obtain ⟨cx, hcx⟩ : ∃ z, z = (c + 1) := ⟨_, rfl⟩
      rw [← hcx]
      have ecx : cx.toInt = ((k + 1 : Nat) : Int) := by rw [hcx]; exact ix_1 hc (by omega)
      refine q_goto rfl ?_
      have hq : bnP R (nX R a1) a2 k = false := hw
      exact ih (k + 1) cx I2 (by omega) ecx (by rw [hp, fs_n hq]) hR2
set_option maxRecDepth 8000 in
theorem v_cbench {n : Nat} {I : Nat → Nat → Int32} {J : Nat → Nat → Int64} {K : dw_K} {R : Nat → Int32} (hR : SREL I 3 R) {a1 a2 : Int32} (hk : ∀ (w : Int32) (I' : Nat → Nat → Int32), w.toInt = aBench R a1 a2 → K (some (.int w)) (n, SH1, I', J)) : t_X11_bench [.ref 0, .int a1, .int a2] (n, SH1, I, J) K := by
  have cm1 : (-1 : Int32).toInt = -1 := rfl
  have k0 : (0 : Int32).toInt = 0 := rfl
  have k1 : (1 : Int32).toInt = 1 := rfl
  refine q_body (Nat.le_of_ble_eq_true rfl) ?_
  refine q_ild rfl rfl ?_
  refine q_if (c := 2) rfl (by decide) (fun y1 => ?_) (fun y1 => ?_)
  · have y1 : (a2).toInt < 0 := y1
    refine q_ic rfl ?_
    refine q_iret rfl (hk _ _ ?_)
    unfold aBench
    rw [if_neg (fun q => by omega)]
    exact cm1
  · have y1 : 0 ≤ (a2).toInt := y1
    refine q_ild rfl rfl ?_
    refine q_ic rfl ?_
    refine q_icmp (c := 5) rfl (by decide) (fun y2 => ?_) (fun y2 => ?_)
    · have y2 : (a2).toInt ≤ (100 : Int) := y2
      refine q_ald rfl rfl ?_
      refine q_getr rfl sk_0 sr_0_1 ?_
      refine q_getr rfl sk_3 sr_3_1 ?_
      refine q_callV (as := []) (rest := []) rfl rfl sk_4 rfl (Nat.le_of_ble_eq_true rfl) ?_
      refine v_gsize ?_
      show dw_ok (pr_X11_bench K) 22 0 0 [some (.ref 0), some (.int a1), some (.int a2), none, none] [.int (I 4 0 * I 4 1)] (n, SH1, I, J)
      rw [show I 4 0 = R 0 from (rg_3 hR).1 0 (by decide), show I 4 1 = R 1 from (rg_3 hR).1 1 (by decide)]
      obtain ⟨nv, hnv⟩ : ∃ z, z = R 0 * R 1 := ⟨_, rfl⟩
      rw [← hnv]
      have env : nv.toInt = Nn R := by rw [hnv]; exact (gok_N hR.1).1
      show dw_ok (pr_X11_bench K) 22 0 0 [some (.ref 0), some (.int a1), some (.int a2), none, none] [.int nv] (n, SH1, I, J)
      refine q_ist rfl rfl ?_
      show dw_ok (pr_X11_bench K) 23 0 0 [some (.ref 0), some (.int a1), some (.int a2), some (.int nv), none] [] (n, SH1, I, J)
      refine q_ic rfl ?_
      refine q_ist rfl rfl ?_
      show dw_ok (pr_X11_bench K) 26 0 0 [some (.ref 0), some (.int a1), some (.int a2), some (.int nv), some (.int (0 : Int32))] [] (n, SH1, I, J)
      by_cases oS : okS R a1
      · exact bench_loop oS (by omega) (by omega) env (fun w I' hw => hk w I' (by rw [bench_y ⟨oS, by omega, by omega⟩]; exact hw)) (Nn R) 0 0 I (by omega) rfl rfl hR
      · show dw_ok (pr_X11_bench K) 26 0 0 [some (.ref 0), some (.int a1), some (.int a2), some (.int nv), some (.int (0 : Int32))] [] (n, SH1, I, J)
        refine q_ild rfl rfl ?_
        refine q_ild rfl rfl ?_
        refine q_icmp (c := 3) rfl (by decide) (fun y3 => ?_) (fun y3 => ?_)
        · have y3 : (nv).toInt ≤ (0 : Int) := y3
          refine q_ic rfl ?_
          refine q_iret rfl (hk _ _ ?_)
          unfold aBench
          rw [if_neg (fun q => oS q.1)]
          exact cm1
        · have y3 : (0 : Int) < (nv).toInt := y3
          refine q_ald rfl rfl ?_
          refine q_ald rfl rfl ?_
          refine q_getr rfl sk_0 sr_0_6 ?_
          refine q_ild rfl rfl ?_
          refine q_callV (as := [.ref 164, .int a1]) (rest := []) rfl rfl sk_0 rfl (Nat.le_of_ble_eq_true rfl) ?_
          refine v_startR hR (Or.inr (Or.inl rfl)) (fun s hs hxs hS _ _ _ _ _ _ _ => absurd (okS_of hs hxs hS).1 oS) (fun hno => ?_)
          show dw_ok (pr_X11_bench K) 41 0 0 [some (.ref 0), some (.int a1), some (.int a2), some (.int nv), some (.int (0 : Int32))] [.int (0 : Int32)] (n, SH1, I, J)
          refine q_if (c := 1) rfl (by decide) (fun h => absurd (show (0 : Int) ≠ 0 from h) (by decide)) (fun y4 => ?_)
          have y4 : (0 : Int) = 0 := y4
          refine q_ic rfl ?_
          refine q_iret rfl (hk _ _ ?_)
          unfold aBench
          rw [if_neg (fun q => oS q.1)]
          exact cm1
    · have y2 : (100 : Int) < (a2).toInt := y2
      refine q_ic rfl ?_
      refine q_iret rfl (hk _ _ ?_)
      unfold aBench
      rw [if_neg (fun q => by omega)]
      exact cm1
set_option maxRecDepth 8000 in
theorem mbn_loop {n : Nat} {J : Nat → Nat → Int64} {K : dw_K} {R : Nat → Int32} {a1 a2 : Int32} (hG : GOK R) (oS : okS R a1) (hS : NOK (nX R a1)) (h0 : 0 ≤ a2.toInt) (h1 : a2.toInt ≤ 100) (hk : ∀ (w : Int32) (I' : Nat → Nat → Int32), w.toInt = bnA R (fsF (bnP R (nX R a1) a2) 0 (Nn R)) → K (some (.int w)) (n, SH1, I', J)) :
    ∀ (f k : Nat) (c : Int32) (I : Nat → Nat → Int32), k + f = Nn R → c.toInt = k → fsF (bnP R (nX R a1) a2) 0 (Nn R) = fsF (bnP R (nX R a1) a2) k f → I 406 = R → dw_ok (pr_X12_bench K) 27 0 0 [some (.ref 404), some (.int a1), some (.int a2), some (.int c)] [] (n, SH1, I, J) := by
  have cm1 : (-1 : Int32).toInt = -1 := rfl
  have k0 : (0 : Int32).toInt = 0 := rfl
  have k1 : (1 : Int32).toInt = 1 := rfl
  obtain ⟨hN, hN9⟩ := gok_N hG
  intro f
  induction f with
  | zero =>
    intro k c I hf hc hp hR
    refine q_ild rfl rfl ?_
    refine q_ald rfl rfl ?_
    refine q_callV (as := []) (rest := [.int c]) rfl rfl sk_404 rfl (Nat.le_of_ble_eq_true rfl) ?_
    refine v_mcells ?_
    show dw_ok (pr_X12_bench K) 32 0 0 [some (.ref 404), some (.int a1), some (.int a2), some (.int c)] [.int (I 406 0 * I 406 1), .int c] (n, SH1, I, J)
    rw [show I 406 = R from hR]
    obtain ⟨nv1, hnv1⟩ : ∃ z, z = R 0 * R 1 := ⟨_, rfl⟩
    rw [← hnv1]
    have env1 : nv1.toInt = Nn R := by rw [hnv1]; exact hN
    show dw_ok (pr_X12_bench K) 32 0 0 [some (.ref 404), some (.int a1), some (.int a2), some (.int c)] [.int nv1, .int c] (n, SH1, I, J)
    refine q_icmp (c := 3) rfl (by decide) (fun y2 => ?_) (fun h => absurd (show (c).toInt < (nv1).toInt from h) (by omega))
    have y2 : (nv1).toInt ≤ (c).toInt := y2
    refine q_ic rfl ?_
    exact q_iret rfl (hk _ I (by rw [hp]; exact cm1.trans (if_pos rfl).symm))
  | succ f ih =>
    intro k c I hf hc hp hR
    have ec := of_nat hc (by omega)
    have nz : R 0 ≠ 0 := fun q => by
      have z := cn_pos (c := k) hG (by omega)
      rw [q] at z; exact absurd z (by decide)
    refine q_ild rfl rfl ?_
    refine q_ald rfl rfl ?_
    refine q_callV (as := []) (rest := [.int c]) rfl rfl sk_404 rfl (Nat.le_of_ble_eq_true rfl) ?_
    refine v_mcells ?_
    show dw_ok (pr_X12_bench K) 32 0 0 [some (.ref 404), some (.int a1), some (.int a2), some (.int c)] [.int (I 406 0 * I 406 1), .int c] (n, SH1, I, J)
    rw [show I 406 = R from hR]
    obtain ⟨nv3, hnv3⟩ : ∃ z, z = R 0 * R 1 := ⟨_, rfl⟩
    rw [← hnv3]
    have env3 : nv3.toInt = Nn R := by rw [hnv3]; exact hN
    show dw_ok (pr_X12_bench K) 32 0 0 [some (.ref 404), some (.int a1), some (.int a2), some (.int c)] [.int nv3, .int c] (n, SH1, I, J)
    refine q_icmp (c := 3) rfl (by decide) (fun h => absurd (show (nv3).toInt ≤ (c).toInt from h) (by omega)) (fun y4 => ?_)
    have y4 : (c).toInt < (nv3).toInt := y4
    refine q_ald rfl rfl ?_
    refine q_ild rfl rfl ?_
    refine q_ild rfl rfl ?_
    refine q_ild rfl rfl ?_
    refine q_callV (as := [.int a1, .int c, .int a2]) (rest := []) rfl rfl sk_404 rfl (Nat.le_of_ble_eq_true rfl) ?_
    refine v_isDry (cc := k) (c := c) (l := a2) hR hG oS hS hc (by omega) h0 h1 (fun w_ I2 eI2 hw => ?_)
    rcases hw with ⟨rfl, hw⟩ | ⟨rfl, hw⟩
    · show dw_ok (pr_X12_bench K) 42 0 0 [some (.ref 404), some (.int a1), some (.int a2), some (.int c)] [.int (1 : Int32)] (n, SH1, I2, J)
      refine q_if (c := 0) rfl (by decide) (fun h => absurd (show (1 : Int) = 0 from h) (by decide)) (fun y5 => ?_)
      have y5 : (1 : Int) ≠ 0 := y5
      refine q_ic rfl ?_
      refine q_ild rfl rfl ?_
      refine q_ald rfl rfl ?_
      refine q_getr rfl sk_404 sr_404_6 ?_
      refine q_ic rfl ?_
      refine q_xald rfl (Or.inl rfl) sk_406 sn_406 (by decide) (by decide) ?_
      refine q_div rfl (show I2 406 0 ≠ 0 by rw [eI2]; exact nz) ?_
      refine q_mul rfl ?_
      refine q_ild rfl rfl ?_
      refine q_ald rfl rfl ?_
      refine q_getr rfl sk_404 sr_404_6 ?_
      refine q_ic rfl ?_
      refine q_xald rfl (Or.inl rfl) sk_406 sn_406 (by decide) (by decide) ?_
      refine q_rem rfl (show I2 406 0 ≠ 0 by rw [eI2]; exact nz) ?_
      refine q_add rfl ?_
      have hq : bnP R (nX R a1) a2 k = true := hw
      refine q_iret rfl (hk (((100 : Int32) * (c / (I2 406 0))) + (c - c / (I2 406 0) * (I2 406 0))) I2 ?_)
      rw [hp, fs_y hq, bnA_k, ← ec, eI2]
      rfl
    · show dw_ok (pr_X12_bench K) 42 0 0 [some (.ref 404), some (.int a1), some (.int a2), some (.int c)] [.int (0 : Int32)] (n, SH1, I2, J)
      refine q_if (c := 0) rfl (by decide) (fun y6 => ?_) (fun h => absurd (show (0 : Int) ≠ 0 from h) (by decide))
      have y6 : (0 : Int) = 0 := y6
      refine q_inc rfl rfl rfl ?_
      show dw_ok (pr_X12_bench K) 69 0 0 [some (.ref 404), some (.int a1), some (.int a2), some (.int (c + 1))] [] (n, SH1, I2, J)
      show dw_ok (pr_X12_bench K) 69 0 0 [some (.ref 404), some (.int a1), some (.int a2), some (.int (c + 1))] [] (n, SH1, I2, J)
      obtain ⟨cx, hcx⟩ : ∃ z, z = (c + 1) := ⟨_, rfl⟩
      rw [← hcx]
      have ecx : cx.toInt = ((k + 1 : Nat) : Int) := by rw [hcx]; exact ix_1 hc (by omega)
      refine q_goto rfl ?_
      have hq : bnP R (nX R a1) a2 k = false := hw
      exact ih (k + 1) cx I2 (by omega) ecx (by rw [hp, fs_n hq]) eI2
set_option maxRecDepth 8000 in
set_option maxHeartbeats 4000000 in
theorem v_mbench {n : Nat} {I : Nat → Nat → Int32} {J : Nat → Nat → Int64} {K : dw_K} {R : Nat → Int32} (hR : I 406 = R) (hG : GOK R) {a1 a2 : Int32} (hN : okS R a1 → NOK (nX R a1)) (hk : ∀ (w : Int32) (I' : Nat → Nat → Int32), w.toInt = aBench R a1 a2 → K (some (.int w)) (n, SH1, I', J)) : t_X12_bench [.ref 404, .int a1, .int a2] (n, SH1, I, J) K := by
  have cm1 : (-1 : Int32).toInt = -1 := rfl
  have k0 : (0 : Int32).toInt = 0 := rfl
  have k1 : (1 : Int32).toInt = 1 := rfl
  have k2 : (2 : Int32).toInt = 2 := rfl
  refine q_body (Nat.le_of_ble_eq_true rfl) ?_
  refine q_ald rfl rfl ?_
  refine q_ic rfl ?_
  refine q_puti rfl sk_404 ?_
  show dw_ok (pr_X12_bench K) 5 0 0 [some (.ref 404), some (.int a1), some (.int a2), none] [] (n, SH1, (dw_up I 404 0 (0 : Int32)), J)
  refine q_ald rfl rfl ?_
  refine q_ild rfl rfl ?_
  refine q_callV (as := [.int a1]) (rest := []) rfl rfl sk_404 rfl (Nat.le_of_ble_eq_true rfl) ?_
  obtain ⟨I1, hI1⟩ : ∃ X, X = (dw_up I 404 0 (0 : Int32)) := ⟨_, rfl⟩
  rw [← hI1]
  have eI1 : I1 406 = R := by rw [hI1]; exact ((up_row (by decide)).trans (hR))
  refine v_isNight (fun w_ oS => ?_)
  rcases oS with ⟨rfl, oS⟩ | ⟨rfl, oS⟩
  · show dw_ok (pr_X12_bench K) 10 0 0 [some (.ref 404), some (.int a1), some (.int a2), none] [.int (1 : Int32)] (n, SH1, I1, J)
    refine q_if (c := 0) rfl (by decide) (fun h => absurd (show (1 : Int) = 0 from h) (by decide)) (fun y2 => ?_)
    have y2 : (1 : Int) ≠ 0 := y2
    refine q_ild rfl rfl ?_
    refine q_ic rfl ?_
    refine q_ic rfl ?_
    refine q_callS (as := [.int a2, .int (0 : Int32), .int (100 : Int32)]) (rest := []) rfl rfl rfl rfl ?_
    refine v_isIn (fun w_ oI => ?_)
    rcases oI with ⟨rfl, oI⟩ | ⟨rfl, oI⟩
    · have oI : (0 ≤ a2.toInt ∧ a2.toInt ≤ 100) := oI
      show dw_ok (pr_X12_bench K) 20 0 0 [some (.ref 404), some (.int a1), some (.int a2), none] [.int (1 : Int32)] (n, SH1, I1, J)
      refine q_if (c := 1) rfl (by decide) (fun y3 => ?_) (fun h => absurd (show (1 : Int) = 0 from h) (by decide))
      have y3 : (1 : Int) ≠ 0 := y3
      refine q_ic rfl ?_
      refine q_ist rfl rfl ?_
      show dw_ok (pr_X12_bench K) 27 0 0 [some (.ref 404), some (.int a1), some (.int a2), some (.int (0 : Int32))] [] (n, SH1, I1, J)
      rw [eI1] at oS
      exact mbn_loop hG oS (hN oS) oI.1 oI.2 (fun w I' hw => hk w I' (by rw [bench_y ⟨oS, oI⟩]; exact hw)) (Nn R) 0 0 _ (by omega) rfl rfl eI1
    · have oI : ¬ (0 ≤ a2.toInt ∧ a2.toInt ≤ 100) := oI
      show dw_ok (pr_X12_bench K) 20 0 0 [some (.ref 404), some (.int a1), some (.int a2), none] [.int (0 : Int32)] (n, SH1, I1, J)
      refine q_if (c := 1) rfl (by decide) (fun h => absurd (show (0 : Int) ≠ 0 from h) (by decide)) (fun y4 => ?_)
      have y4 : (0 : Int) = 0 := y4
      refine q_ic rfl ?_
      refine q_iret rfl (hk _ _ ?_)
      unfold aBench
      rw [if_neg (fun q => oI q.2)]
      exact cm1
  · show dw_ok (pr_X12_bench K) 10 0 0 [some (.ref 404), some (.int a1), some (.int a2), none] [.int (0 : Int32)] (n, SH1, I1, J)
    refine q_if (c := 0) rfl (by decide) (fun y5 => ?_) (fun h => absurd (show (0 : Int) ≠ 0 from h) (by decide))
    have y5 : (0 : Int) = 0 := y5
    refine q_ic rfl ?_
    refine q_iret rfl (hk _ _ ?_)
    unfold aBench
    rw [if_neg (by rw [eI1] at oS; exact fun q => oS q.1)]
    exact cm1
/-- what a CELL has at six as another KIND -/
def ctW (R S : Nat → Int32) (k q : Nat) : Int32 := (ruF 0 (Nn R) (fun _ => gCk R k q) (gT S) 0 72 (g0S R S)).2.1 k
/-- the first that gives most, and how much -/
def ctF (W : Nat → Int32) : Nat → Int32 × Int32
  | 0 => (-1, -1)
  | k + 1 => if (ctF W k).2.toInt < (W k).toInt then (Int32.ofNat k, W k) else ctF W k
set_option maxRecDepth 8000 in
theorem ct_y {W : Nat → Int32} {k : Nat} (h : (ctF W k).2.toInt < (W k).toInt) : ctF W (k + 1) = (Int32.ofNat k, W k) := if_pos h
set_option maxRecDepth 8000 in
theorem ct_n {W : Nat → Int32} {k : Nat} (h : ¬ (ctF W k).2.toInt < (W k).toInt) : ctF W (k + 1) = ctF W k := if_neg h
abbrev kN (R : Nat → Int32) : Nat := (R 2).toInt.toNat
def aCatcher (R : Nat → Int32) (s x y : Int32) : Int := if okS R s ∧ okC R x y then (ctF (ctW R (nX R s) (cN R x y)) (kN R)).1.toInt else -1
set_option maxRecDepth 8000 in
theorem csk_kind {I : Nat → Nat → Int32} {A k q : Nat} {R S : Nat → Int32} (hG : GOK R) (h : CST I A R S) (hq : (q : Int) < (R 2).toInt) (e5 : I 5 q = R (5 + q)) (e6 : I 6 q = R (13 + q)) (e7 : I 7 q = R (21 + q)) : CSK (dw_up (dw_up (dw_up I (A + 8) k (I 5 q)) (A + 9) k (I 6 q)) (A + 10) k (I 7 q)) A (Nn R) 0 (fun _ => gCk R k q) (gT S) (g0S R S) 0 0 := by
  have r : ∀ a, a ≠ A + 8 → a ≠ A + 9 → a ≠ A + 10 → dw_up (dw_up (dw_up I (A + 8) k (I 5 q)) (A + 9) k (I 6 q)) (A + 10) k (I 7 q) a = I a := fun a h1 h2 h3 => (up_row h3).trans ((up_row h2).trans (up_row h1))
  have r0 := r A (by omega) (by omega) (by omega)
  refine csk_mk h (fun c hc => ?_) (fun t ht => ?_) (r _ (by omega) (by omega) (by omega)) (r _ (by omega) (by omega) (by omega)) (congrFun r0 1) (congrFun r0 2) (congrFun r0 3) (congrFun r0 4) (by rw [r0]; exact h.2.2.2.2.1) (gCk_ok hG hq)
  · have p := h.1 c hc
    have p4 : I (A + 11) c = (gC R c).2.2.2 := congrArg (·.2.2.2) p
    unfold cfC
    rw [r (A + 11) (by omega) (by omega) (by omega)]
    by_cases e : c = k
    · rw [p4, e, gCk_at, up_same, congrFun (up_row (show A + 9 ≠ A + 10 by omega)) k, up_same, congrFun (up_row (show A + 8 ≠ A + 10 by omega)) k, congrFun (up_row (show A + 8 ≠ A + 9 by omega)) k, up_same, e5, e6, e7]
      rfl
    · rw [gCk_ne e, up_fld e, up_fld e, up_fld e, up_fld e, up_fld e, up_fld e, up_fld e, up_fld e, up_fld e]; exact p
  · rw [tn_row r0 (fun w hw => r _ (by omega) (by omega) (by omega))]; exact h.2.1 t ht
set_option maxRecDepth 8000 in
theorem msk_kind {I : Nat → Nat → Int32} {k q : Nat} {v : Int32} {R S : Nat → Int32} (hR : I 406 = R) (h : MSK I (Nn R) 0 (fun _ => gC R) (gT S) (g0S R S) 0 0) (h35 : I 404 35 = -1) (hB : ∀ c, c < Nn R → I 418 c = skI R c) (hv : v.toInt = q) (hq8 : q < 8) : MSK (dw_up I 419 k v) (Nn R) 0 (fun _ => gCk R k q) (gT S) (g0S R S) 0 0 := by
  have cM1 : (-1 : Int32).toInt = -1 := rfl
  have r : ∀ a, a ≠ 419 → dw_up I 419 k v a = I a := fun a ha => up_row ha
  have r4 := r 404 (by decide)
  refine msk_mk h (fun τ hτ c hc => ?_) (fun t ht => ?_) (r 416 (by decide)) (r 417 (by decide)) (r 406 (by decide)) (congrFun r4 32) (congrFun r4 33) (congrFun r4 34) (fun c hc => ?_)
  · have p := h.1 τ (Nat.zero_le τ) hτ c hc
    have sy : ∀ I' : Nat → Nat → Int32, I' 404 35 = -1 → ∀ c : Nat, syM I' τ c = I' 418 c := fun I' h c => by
      unfold syM
      rw [h, if_neg (fun q => by rw [cM1] at q; omega)]
    unfold cfM at p ⊢
    rw [sy I h35] at p
    rw [sy _ ((congrFun r4 35).trans h35), r 406 (by decide), r 418 (by decide)]
    by_cases e : c = k
    · rw [e, gCk_at, up_same, hR, hB k (by omega), show v.toInt.toNat = q by omega]
    · rw [gCk_ne e, up_fld e]; exact p
  · rw [show tnM (dw_up I 419 k v) t = tnM I t by unfold tnM; rw [r 411 (by decide), r 412 (by decide), r 413 (by decide), r 414 (by decide), r 415 (by decide)]]
    exact h.2.1 t (Nat.zero_le t) ht
  · by_cases e : c = k
    · rw [e, up_same]; omega
    · rw [up_fld e]; exact h.2.2.2.2.2 c hc
set_option maxRecDepth 8000 in
theorem cat_loop {n : Nat} {J : Nat → Nat → Int64} {K : dw_K} {R : Nat → Int32} {a1 a2 a3 c : Int32} {cc : Nat} (oS : okS R a1) (hc : c.toInt = cc) (hl : cc < Nn R) (hk : ∀ I' : Nat → Nat → Int32, K (some (.int (ctF (ctW R (nX R a1) cc) (kN R)).1)) (n, SH1, I', J)) :
    ∀ (f k : Nat) (b mo q : Int32) (I : Nat → Nat → Int32), k + f = kN R → q.toInt = k → b = (ctF (ctW R (nX R a1) cc) k).1 → mo = (ctF (ctW R (nX R a1) cc) k).2 → SREL I 3 R → dw_ok (pr_X11_catcher K) 31 0 0 [some (.ref 0), some (.int a1), some (.int a2), some (.int a3), some (.int c), some (.int b), some (.int mo), some (.int q)] [] (n, SH1, I, J) := by
  have cm1 : (-1 : Int32).toInt = -1 := rfl
  have k0 : (0 : Int32).toInt = 0 := rfl
  have k1 : (1 : Int32).toInt = 1 := rfl
  intro f
  induction f with
  | zero =>
    intro k b mo q I hf hq hb hm hR
    have e2 : (I 4 2).toInt = (R 2).toInt := congrArg Int32.toInt ((rg_3 hR).1 2 (by decide))
    obtain ⟨⟨r0, r8⟩, -⟩ := hR.1.2.2
    have ek : ((kN R : Nat) : Int) = (R 2).toInt := Int.toNat_of_nonneg r0
    obtain rfl : k = kN R := by omega
    refine q_ild rfl rfl ?_
    refine q_ald rfl rfl ?_
    refine q_getr rfl sk_0 sr_0_1 ?_
    refine q_getr rfl sk_3 sr_3_1 ?_
    refine q_geti rfl sk_4 ?_
    refine q_icmp (c := 3) rfl (by decide) (fun y1 => ?_) (fun h => absurd (show (q).toInt < ((I 4 2)).toInt from h) (by omega))
    have y1 : ((I 4 2)).toInt ≤ (q).toInt := y1
    refine q_ild rfl rfl ?_
    rw [hb]
    exact q_iret rfl (hk I)
  | succ f ih =>
    intro k b mo q I hf hq hb hm hR
    have hG := hR.1
    have hN9 := (gok_N hG).2
    have e2 : (I 4 2).toInt = (R 2).toInt := congrArg Int32.toInt ((rg_3 hR).1 2 (by decide))
    obtain ⟨⟨r0, r8⟩, -⟩ := hR.1.2.2
    have ek : ((kN R : Nat) : Int) = (R 2).toInt := Int.toNat_of_nonneg r0
    have hq2 : (k : Int) < (R 2).toInt := by omega
    have eq := of_nat hq (by omega)
    refine q_ild rfl rfl ?_
    refine q_ald rfl rfl ?_
    refine q_getr rfl sk_0 sr_0_1 ?_
    refine q_getr rfl sk_3 sr_3_1 ?_
    refine q_geti rfl sk_4 ?_
    refine q_icmp (c := 3) rfl (by decide) (fun h => absurd (show ((I 4 2)).toInt ≤ (q).toInt from h) (by omega)) (fun y2 => ?_)
    have y2 : (q).toInt < ((I 4 2)).toInt := y2
    refine q_ald rfl rfl ?_
    refine q_ald rfl rfl ?_
    refine q_getr rfl sk_0 sr_0_6 ?_
    refine q_ild rfl rfl ?_
    refine q_callV (as := [.ref 164, .int a1]) (rest := []) rfl rfl sk_0 rfl (Nat.le_of_ble_eq_true rfl) ?_
    refine v_startR hR (Or.inr (Or.inl rfl)) (fun s hs hxs hS I1 q0 _ hC _ _ _ => ?_) (fun hno => absurd oS (okS_no hno))
    obtain ⟨-, eS⟩ := okS_of hs hxs hS
    rw [← eS] at hC
    show dw_ok (pr_X11_catcher K) 55 0 0 [some (.ref 0), some (.int a1), some (.int a2), some (.int a3), some (.int c), some (.int b), some (.int mo), some (.int q)] [.int (1 : Int32)] (n, SH1, I1, J)
    refine q_if (c := 1) rfl (by decide) (fun y3 => ?_) (fun h => absurd (show (1 : Int) = 0 from h) (by decide))
    have y3 : (1 : Int) ≠ 0 := y3
    refine q_ald rfl rfl ?_
    refine q_getr rfl sk_0 sr_0_6 ?_
    refine q_ild rfl rfl ?_
    refine q_ald rfl rfl ?_
    refine q_getr rfl sk_0 sr_0_1 ?_
    refine q_getr rfl sk_3 sr_3_1 ?_
    refine q_ild rfl rfl ?_
    refine q_callV (as := [.int c, .ref 4, .int q]) (rest := []) rfl rfl sk_164 rfl (Nat.le_of_ble_eq_true rfl) ?_
    obtain ⟨e5, e6, e7⟩ := (rg_3 hR).2.1 k hq2
    have f5 : I1 5 k = R (5 + k) := by rw [q0 5 (by decide)]; exact e5
    have f6 : I1 6 k = R (13 + k) := by rw [q0 6 (by decide)]; exact e6
    have f7 : I1 7 k = R (21 + k) := by rw [q0 7 (by decide)]; exact e7
    refine v_setKind (A := 164) (N := Nn R) (k := cc) (rt_ok (by decide)) hc hC.2.2.2.1 hN9 hl (by decide) (q := k) hq (by omega) ?_
    have hM := csk_kind (k := cc) hG hC hq2 f5 f6 f7
    show dw_ok (pr_X11_catcher K) 78 0 0 [some (.ref 0), some (.int a1), some (.int a2), some (.int a3), some (.int c), some (.int b), some (.int mo), some (.int q)] [] (n, SH1, (dw_up (dw_up (dw_up I1 (164 + 8) cc (I1 5 k)) (164 + 9) cc (I1 6 k)) (164 + 10) cc (I1 7 k)), J)
    refine q_ald rfl rfl ?_
    refine q_getr rfl sk_0 sr_0_6 ?_
    refine q_ic rfl ?_
    refine q_callV (as := [.int (72 : Int32)]) (rest := []) rfl rfl sk_164 rfl (Nat.le_of_ble_eq_true rfl) ?_
    refine v_untilR (A := 164) (j := 72) (rt_ok (by decide)) hM (by decide) hN9 (Or.inl (show (72 : Int32).toInt = ((0 + 0 + 72 : Nat) : Int) from rfl)) (fun I2 g1 _ hK => ?_)
    show dw_ok (pr_X11_catcher K) 87 0 0 [some (.ref 0), some (.int a1), some (.int a2), some (.int a3), some (.int c), some (.int b), some (.int mo), some (.int q)] [] (n, SH1, I2, J)
    have hR2 : SREL I2 3 R := srel_fr (S := 3) (fun a p q => (g1 a (by omega) (by omega) (by omega)).trans ((up_row (by omega)).trans ((up_row (by omega)).trans ((up_row (by omega)).trans (q0 a (by omega)))))) (fun _ _ => rfl) hR
    have ew : I2 (164 + 14) cc = ctW R (nX R a1) cc k := hK.2.2.1.2.1 cc hl
    show dw_ok (pr_X11_catcher K) 87 0 0 [some (.ref 0), some (.int a1), some (.int a2), some (.int a3), some (.int c), some (.int b), some (.int mo), some (.int q)] [] (n, SH1, I2, J)
    refine q_ald rfl rfl ?_
    refine q_getr rfl sk_0 sr_0_6 ?_
    refine q_ild rfl rfl ?_
    refine q_callV (as := [.int c]) (rest := []) rfl rfl sk_164 rfl (Nat.le_of_ble_eq_true rfl) ?_
    refine v_waterOf (A := 164) (N := Nn R) (k := cc) (rt_ok (by decide)) hc hK.2.2.2.1 hN9 hl ?_
    show dw_ok (pr_X11_catcher K) 96 0 0 [some (.ref 0), some (.int a1), some (.int a2), some (.int a3), some (.int c), some (.int b), some (.int mo), some (.int q)] [.int (I2 (164 + 14) cc)] (n, SH1, I2, J)
    rw [ew]
    show dw_ok (pr_X11_catcher K) 96 0 0 [some (.ref 0), some (.int a1), some (.int a2), some (.int a3), some (.int c), some (.int b), some (.int mo), some (.int q)] [.int (ctW R (nX R a1) cc k)] (n, SH1, I2, J)
    refine q_ild rfl rfl ?_
    refine q_icmp (c := 5) rfl (by decide) (fun y4 => ?_) (fun y4 => ?_)
    · have y4 : ((ctW R (nX R a1) cc k)).toInt ≤ (mo).toInt := y4
      refine q_inc rfl rfl rfl ?_
      show dw_ok (pr_X11_catcher K) 119 0 0 [some (.ref 0), some (.int a1), some (.int a2), some (.int a3), some (.int c), some (.int b), some (.int mo), some (.int (q + 1))] [] (n, SH1, I2, J)
      show dw_ok (pr_X11_catcher K) 119 0 0 [some (.ref 0), some (.int a1), some (.int a2), some (.int a3), some (.int c), some (.int b), some (.int mo), some (.int (q + 1))] [] (n, SH1, I2, J)
      obtain ⟨qx, hqx⟩ : ∃ z, z = (q + 1) := ⟨_, rfl⟩
      rw [← hqx]
      have eqx : qx.toInt = ((k + 1 : Nat) : Int) := by rw [hqx]; exact ix_1 hq (by omega)
      refine q_goto rfl ?_
      have hs := ct_n (W := ctW R (nX R a1) cc) (k := k) (by rw [← hm]; omega)
      exact ih (k + 1) b mo qx I2 (by omega) eqx (hb.trans (congrArg Prod.fst hs).symm) (hm.trans (congrArg Prod.snd hs).symm) hR2
    · have y4 : (mo).toInt < ((ctW R (nX R a1) cc k)).toInt := y4
      refine q_ild rfl rfl ?_
      refine q_ist rfl rfl ?_
      show dw_ok (pr_X11_catcher K) 105 0 0 [some (.ref 0), some (.int a1), some (.int a2), some (.int a3), some (.int c), some (.int q), some (.int mo), some (.int q)] [] (n, SH1, I2, J)
      refine q_ald rfl rfl ?_
      refine q_getr rfl sk_0 sr_0_6 ?_
      refine q_ild rfl rfl ?_
      refine q_callV (as := [.int c]) (rest := []) rfl rfl sk_164 rfl (Nat.le_of_ble_eq_true rfl) ?_
      refine v_waterOf (A := 164) (N := Nn R) (k := cc) (rt_ok (by decide)) hc hK.2.2.2.1 hN9 hl ?_
      show dw_ok (pr_X11_catcher K) 114 0 0 [some (.ref 0), some (.int a1), some (.int a2), some (.int a3), some (.int c), some (.int q), some (.int mo), some (.int q)] [.int (I2 (164 + 14) cc)] (n, SH1, I2, J)
      rw [ew]
      show dw_ok (pr_X11_catcher K) 114 0 0 [some (.ref 0), some (.int a1), some (.int a2), some (.int a3), some (.int c), some (.int q), some (.int mo), some (.int q)] [.int (ctW R (nX R a1) cc k)] (n, SH1, I2, J)
      refine q_ist rfl rfl ?_
      show dw_ok (pr_X11_catcher K) 116 0 0 [some (.ref 0), some (.int a1), some (.int a2), some (.int a3), some (.int c), some (.int q), some (.int (ctW R (nX R a1) cc k)), some (.int q)] [] (n, SH1, I2, J)
      refine q_inc rfl rfl rfl ?_
      show dw_ok (pr_X11_catcher K) 119 0 0 [some (.ref 0), some (.int a1), some (.int a2), some (.int a3), some (.int c), some (.int q), some (.int (ctW R (nX R a1) cc k)), some (.int (q + 1))] [] (n, SH1, I2, J)
      show dw_ok (pr_X11_catcher K) 119 0 0 [some (.ref 0), some (.int a1), some (.int a2), some (.int a3), some (.int c), some (.int q), some (.int (ctW R (nX R a1) cc k)), some (.int (q + 1))] [] (n, SH1, I2, J)
      obtain ⟨qx, hqx⟩ : ∃ z, z = (q + 1) := ⟨_, rfl⟩
      rw [← hqx]
      have eqx : qx.toInt = ((k + 1 : Nat) : Int) := by rw [hqx]; exact ix_1 hq (by omega)
      refine q_goto rfl ?_
      have hs := ct_y (W := ctW R (nX R a1) cc) (k := k) (by rw [← hm]; omega)
      exact ih (k + 1) q (ctW R (nX R a1) cc k) qx I2 (by omega) eqx (eq.trans (congrArg Prod.fst hs).symm) ((congrArg Prod.snd hs).symm) hR2
set_option maxRecDepth 8000 in
theorem v_ccatcher {n : Nat} {I : Nat → Nat → Int32} {J : Nat → Nat → Int64} {K : dw_K} {R : Nat → Int32} (hR : SREL I 3 R) {a1 a2 a3 : Int32} (hk : ∀ (w : Int32) (I' : Nat → Nat → Int32), w.toInt = aCatcher R a1 a2 a3 → K (some (.int w)) (n, SH1, I', J)) : t_X11_catcher [.ref 0, .int a1, .int a2, .int a3] (n, SH1, I, J) K := by
  have cm1 : (-1 : Int32).toInt = -1 := rfl
  have k0 : (0 : Int32).toInt = 0 := rfl
  have k1 : (1 : Int32).toInt = 1 := rfl
  refine q_body (Nat.le_of_ble_eq_true rfl) ?_
  refine q_ald rfl rfl ?_
  refine q_getr rfl sk_0 sr_0_1 ?_
  refine q_getr rfl sk_3 sr_3_1 ?_
  refine q_ild rfl rfl ?_
  refine q_ild rfl rfl ?_
  refine q_callV (as := [.int a2, .int a3]) (rest := []) rfl rfl sk_4 rfl (Nat.le_of_ble_eq_true rfl) ?_
  refine v_cellAt2 (R := R) hR.1 ((rg_3 hR).1 0 (by decide)) ((rg_3 hR).1 1 (by decide)) (fun k2 c1 ec1 => ?_) (fun k2 => ?_)
  · show dw_ok (pr_X11_catcher K) 12 0 0 [some (.ref 0), some (.int a1), some (.int a2), some (.int a3), none, none, none, none] [.int c1] (n, SH1, I, J)
    refine q_ist rfl rfl ?_
    show dw_ok (pr_X11_catcher K) 14 0 0 [some (.ref 0), some (.int a1), some (.int a2), some (.int a3), some (.int c1), none, none, none] [] (n, SH1, I, J)
    refine q_ild rfl rfl ?_
    refine q_ic rfl ?_
    refine q_icmp (c := 1) rfl (by decide) (fun y3 => ?_) (fun h => absurd (show (c1).toInt = (-1 : Int) from h) (by have := ec1; omega))
    have y3 : (c1).toInt ≠ (-1 : Int) := y3
    refine q_ic rfl ?_
    refine q_ist rfl rfl ?_
    show dw_ok (pr_X11_catcher K) 25 0 0 [some (.ref 0), some (.int a1), some (.int a2), some (.int a3), some (.int c1), some (.int (-1 : Int32)), none, none] [] (n, SH1, I, J)
    refine q_ic rfl ?_
    refine q_ist rfl rfl ?_
    show dw_ok (pr_X11_catcher K) 28 0 0 [some (.ref 0), some (.int a1), some (.int a2), some (.int a3), some (.int c1), some (.int (-1 : Int32)), some (.int (-1 : Int32)), none] [] (n, SH1, I, J)
    refine q_ic rfl ?_
    refine q_ist rfl rfl ?_
    show dw_ok (pr_X11_catcher K) 31 0 0 [some (.ref 0), some (.int a1), some (.int a2), some (.int a3), some (.int c1), some (.int (-1 : Int32)), some (.int (-1 : Int32)), some (.int (0 : Int32))] [] (n, SH1, I, J)
    by_cases oS : okS R a1
    · exact cat_loop oS ec1 (cN_lt k2) (fun I' => hk _ I' (by unfold aCatcher; rw [if_pos ⟨oS, k2⟩])) (kN R) 0 (-1) (-1) 0 I (by omega) rfl rfl rfl hR
    · show dw_ok (pr_X11_catcher K) 31 0 0 [some (.ref 0), some (.int a1), some (.int a2), some (.int a3), some (.int c1), some (.int (-1 : Int32)), some (.int (-1 : Int32)), some (.int (0 : Int32))] [] (n, SH1, I, J)
      have e2 : (I 4 2).toInt = (R 2).toInt := congrArg Int32.toInt ((rg_3 hR).1 2 (by decide))
      refine q_ild rfl rfl ?_
      refine q_ald rfl rfl ?_
      refine q_getr rfl sk_0 sr_0_1 ?_
      refine q_getr rfl sk_3 sr_3_1 ?_
      refine q_geti rfl sk_4 ?_
      refine q_icmp (c := 3) rfl (by decide) (fun y4 => ?_) (fun y4 => ?_)
      · have y4 : ((I 4 2)).toInt ≤ (0 : Int) := y4
        refine q_ild rfl rfl ?_
        refine q_iret rfl (hk _ _ ?_)
        unfold aCatcher
        rw [if_neg (fun q => oS q.1)]
        exact cm1
      · have y4 : (0 : Int) < ((I 4 2)).toInt := y4
        refine q_ald rfl rfl ?_
        refine q_ald rfl rfl ?_
        refine q_getr rfl sk_0 sr_0_6 ?_
        refine q_ild rfl rfl ?_
        refine q_callV (as := [.ref 164, .int a1]) (rest := []) rfl rfl sk_0 rfl (Nat.le_of_ble_eq_true rfl) ?_
        refine v_startR hR (Or.inr (Or.inl rfl)) (fun s hs hxs hS _ _ _ _ _ _ _ => absurd (okS_of hs hxs hS).1 oS) (fun hno => ?_)
        show dw_ok (pr_X11_catcher K) 55 0 0 [some (.ref 0), some (.int a1), some (.int a2), some (.int a3), some (.int c1), some (.int (-1 : Int32)), some (.int (-1 : Int32)), some (.int (0 : Int32))] [.int (0 : Int32)] (n, SH1, I, J)
        refine q_if (c := 1) rfl (by decide) (fun h => absurd (show (0 : Int) ≠ 0 from h) (by decide)) (fun y5 => ?_)
        have y5 : (0 : Int) = 0 := y5
        refine q_ic rfl ?_
        refine q_iret rfl (hk _ _ ?_)
        unfold aCatcher
        rw [if_neg (fun q => oS q.1)]
        exact cm1
  · show dw_ok (pr_X11_catcher K) 12 0 0 [some (.ref 0), some (.int a1), some (.int a2), some (.int a3), none, none, none, none] [.int (-1 : Int32)] (n, SH1, I, J)
    refine q_ist rfl rfl ?_
    show dw_ok (pr_X11_catcher K) 14 0 0 [some (.ref 0), some (.int a1), some (.int a2), some (.int a3), some (.int (-1 : Int32)), none, none, none] [] (n, SH1, I, J)
    refine q_ild rfl rfl ?_
    refine q_ic rfl ?_
    refine q_icmp (c := 1) rfl (by decide) (fun h => absurd (show (-1 : Int) ≠ (-1 : Int) from h) (by omega)) (fun y6 => ?_)
    have y6 : (-1 : Int) = (-1 : Int) := y6
    refine q_ic rfl ?_
    refine q_iret rfl (hk _ _ ?_)
    unfold aCatcher
    rw [if_neg (fun q => k2 q.2)]
    exact cm1
set_option maxRecDepth 8000 in
theorem mcs_loop {n : Nat} {J : Nat → Nat → Int64} {K : dw_K} {R S : Nat → Int32} {I0 : Nat → Nat → Int32} {T : Nat → rN} {a1 a2 a3 c b mo q : Int32} {cc kk : Nat} (hP : PUR (Nn R) (fun _ => gCk R cc kk) T (g0S R S) 0)
    (hk : ∀ (t : Int32) (I' : Nat → Nat → Int32), I' 406 = R → (∀ a, a ≠ 404 → a ≠ 416 → a ≠ 417 → I' a = I0 a) → (∀ j, j ≠ 32 → j ≠ 33 → I' 404 j = I0 404 j) → MSK I' (Nn R) 0 (fun _ => gCk R cc kk) T (g0S R S) 0 72 → dw_ok (pr_X12_catcher K) 89 0 0 [some (.ref 404), some (.int a1), some (.int a2), some (.int a3), some (.int c), some (.int b), some (.int mo), some (.int q), some (.int t)] [] (n, SH1, I', J)) :
    ∀ (f k : Nat) (t : Int32) (I : Nat → Nat → Int32), k + f = 72 → t.toInt = k → I 406 = R → (∀ a, a ≠ 404 → a ≠ 416 → a ≠ 417 → I a = I0 a) → (∀ j, j ≠ 32 → j ≠ 33 → I 404 j = I0 404 j) → MSK I (Nn R) 0 (fun _ => gCk R cc kk) T (g0S R S) 0 k → dw_ok (pr_X12_catcher K) 70 0 0 [some (.ref 404), some (.int a1), some (.int a2), some (.int a3), some (.int c), some (.int b), some (.int mo), some (.int q), some (.int t)] [] (n, SH1, I, J) := by
  have cm1 : (-1 : Int32).toInt = -1 := rfl
  have k0 : (0 : Int32).toInt = 0 := rfl
  have k1 : (1 : Int32).toInt = 1 := rfl
  intro f
  induction f with
  | zero =>
    intro k t I hf ht hR hF hF4 hM
    obtain rfl : k = 72 := by omega
    refine q_ild rfl rfl ?_
    refine q_ic rfl ?_
    refine q_icmp (c := 4) rfl (by decide) (fun y1 => ?_) (fun h => absurd (show (t).toInt ≤ (71 : Int) from h) (by omega))
    have y1 : (71 : Int) < (t).toInt := y1
    exact hk t I hR hF hF4 hM
  | succ f ih =>
    intro k t I hf ht hR hF hF4 hM
    refine q_ild rfl rfl ?_
    refine q_ic rfl ?_
    refine q_icmp (c := 4) rfl (by decide) (fun h => absurd (show (71 : Int) < (t).toInt from h) (by omega)) (fun y2 => ?_)
    have y2 : (t).toInt ≤ (71 : Int) := y2
    refine q_ald rfl rfl ?_
    refine q_ild rfl rfl ?_
    refine q_callV (as := [.int t]) (rest := []) rfl rfl sk_404 rfl (Nat.le_of_ble_eq_true rfl) ?_
    refine v_mstepR hP hM (by omega) (by omega) (fun I1 g1 g2 hM1 => ?_)
    show dw_ok (pr_X12_catcher K) 83 0 0 [some (.ref 404), some (.int a1), some (.int a2), some (.int a3), some (.int c), some (.int b), some (.int mo), some (.int q), some (.int t)] [] (n, SH1, I1, J)
    refine q_inc rfl rfl rfl ?_
    show dw_ok (pr_X12_catcher K) 86 0 0 [some (.ref 404), some (.int a1), some (.int a2), some (.int a3), some (.int c), some (.int b), some (.int mo), some (.int q), some (.int (t + 1))] [] (n, SH1, I1, J)
    show dw_ok (pr_X12_catcher K) 86 0 0 [some (.ref 404), some (.int a1), some (.int a2), some (.int a3), some (.int c), some (.int b), some (.int mo), some (.int q), some (.int (t + 1))] [] (n, SH1, I1, J)
    obtain ⟨tx, htx⟩ : ∃ z, z = (t + 1) := ⟨_, rfl⟩
    rw [← htx]
    have etx : tx.toInt = ((k + 1 : Nat) : Int) := by rw [htx]; exact ix_1 ht (by omega)
    refine q_goto rfl ?_
    exact ih (k + 1) tx I1 (by omega) etx ((g1 406 (by decide) (by decide) (by decide)).trans hR) (fun a q1 q2 q3 => (g1 a q1 q2 q3).trans (hF a q1 q2 q3)) (fun j q1 q2 => (g2 j q1 q2).trans (hF4 j q1 q2)) hM1
set_option maxRecDepth 8000 in
theorem mcat_loop {n : Nat} {J : Nat → Nat → Int64} {K : dw_K} {R : Nat → Int32} {a1 a2 a3 c : Int32} {cc : Nat} (hG : GOK R) (oS : okS R a1) (hS : NOK (nX R a1)) (hc : c.toInt = cc) (hl : cc < Nn R) (hk : ∀ I' : Nat → Nat → Int32, K (some (.int (ctF (ctW R (nX R a1) cc) (kN R)).1)) (n, SH1, I', J)) :
    ∀ (f k : Nat) (b mo q : Int32) (v : Option Value) (I : Nat → Nat → Int32), k + f = kN R → q.toInt = k → b = (ctF (ctW R (nX R a1) cc) k).1 → mo = (ctF (ctW R (nX R a1) cc) k).2 → I 406 = R → dw_ok (pr_X12_catcher K) 41 0 0 [some (.ref 404), some (.int a1), some (.int a2), some (.int a3), some (.int c), some (.int b), some (.int mo), some (.int q), v] [] (n, SH1, I, J) := by
  have cm1 : (-1 : Int32).toInt = -1 := rfl
  have k0 : (0 : Int32).toInt = 0 := rfl
  have k1 : (1 : Int32).toInt = 1 := rfl
  have hN9 := (gok_N hG).2
  have hcc : c.toInt.toNat = cc := by omega
  obtain ⟨⟨r0, r8⟩, -⟩ := hG.2.2
  have ek : ((kN R : Nat) : Int) = (R 2).toInt := Int.toNat_of_nonneg r0
  intro f
  induction f with
  | zero =>
    intro k b mo q v I hf hq hb hm hR
    have e2 : (I 406 2).toInt = (R 2).toInt := by rw [hR]
    obtain rfl : k = kN R := by omega
    refine q_ild rfl rfl ?_
    refine q_ald rfl rfl ?_
    refine q_getr rfl sk_404 sr_404_6 ?_
    refine q_ic rfl ?_
    refine q_xald rfl (Or.inl rfl) sk_406 sn_406 (by decide) (by decide) ?_
    refine q_icmp (c := 3) rfl (by decide) (fun y1 => ?_) (fun h => absurd (show (q).toInt < ((I 406 2)).toInt from h) (by omega))
    have y1 : ((I 406 2)).toInt ≤ (q).toInt := y1
    refine q_ild rfl rfl ?_
    rw [hb]
    exact q_iret rfl (hk I)
  | succ f ih =>
    intro k b mo q v I hf hq hb hm hR
    have e2 : (I 406 2).toInt = (R 2).toInt := by rw [hR]
    have hq2 : (k : Int) < (R 2).toInt := by omega
    have eq := of_nat hq (by omega)
    refine q_ild rfl rfl ?_
    refine q_ald rfl rfl ?_
    refine q_getr rfl sk_404 sr_404_6 ?_
    refine q_ic rfl ?_
    refine q_xald rfl (Or.inl rfl) sk_406 sn_406 (by decide) (by decide) ?_
    refine q_icmp (c := 3) rfl (by decide) (fun h => absurd (show ((I 406 2)).toInt ≤ (q).toInt from h) (by omega)) (fun y2 => ?_)
    have y2 : (q).toInt < ((I 406 2)).toInt := y2
    refine q_ald rfl rfl ?_
    refine q_ild rfl rfl ?_
    refine q_ic rfl ?_
    refine q_callV (as := [.int a1, .int (0 : Int32)]) (rest := []) rfl rfl sk_404 rfl (Nat.le_of_ble_eq_true rfl) ?_
    refine v_mstartR (st := 0) hR hG oS hS rfl (fun I9 g0 _ h35 hM hB => ?_)
    show dw_ok (pr_X12_catcher K) 58 0 0 [some (.ref 404), some (.int a1), some (.int a2), some (.int a3), some (.int c), some (.int b), some (.int mo), some (.int q), v] [] (n, SH1, I9, J)
    have e9 : I9 406 = R := (g0 406 (by decide) (by decide)).trans hR
    show dw_ok (pr_X12_catcher K) 58 0 0 [some (.ref 404), some (.int a1), some (.int a2), some (.int a3), some (.int c), some (.int b), some (.int mo), some (.int q), v] [] (n, SH1, I9, J)
    refine q_ald rfl rfl ?_
    refine q_getr rfl sk_404 sr_404_31 ?_
    refine q_ild rfl rfl ?_
    refine q_ild rfl rfl ?_
    refine q_iast rfl sk_419 sn_419 (by omega) (by omega) ?_
    show dw_ok (pr_X12_catcher K) 67 0 0 [some (.ref 404), some (.int a1), some (.int a2), some (.int a3), some (.int c), some (.int b), some (.int mo), some (.int q), v] [] (n, SH1, (dw_up I9 419 (c).toInt.toNat q), J)
    rw [hcc]
    refine q_ic rfl ?_
    refine q_ist rfl rfl ?_
    show dw_ok (pr_X12_catcher K) 70 0 0 [some (.ref 404), some (.int a1), some (.int a2), some (.int a3), some (.int c), some (.int b), some (.int mo), some (.int q), some (.int (0 : Int32))] [] (n, SH1, (dw_up I9 419 cc q), J)
    have hM2 := msk_kind (k := cc) (q := k) (v := q) e9 hM h35 (fun c hc => (hB c hc).1) hq (by omega)
    have hP : PUR (Nn R) (fun _ => gCk R cc k) (gT (nX R a1)) (g0S R (nX R a1)) 0 := ⟨hN9, fun _ _ _ c hc => gCk_ok hG hq2 c hc, fun t _ ht => hS.2 t ht, g0_ok hG hS⟩
    refine mcs_loop (cc := cc) (kk := k) (I0 := (dw_up I9 419 cc q)) hP (fun t I2 eI2 _ _ hK => ?_) 72 0 0 _ rfl rfl ((up_row (by decide)).trans e9) (fun _ _ _ _ => rfl) (fun _ _ _ => rfl) hM2
    have ew : I2 417 cc = ctW R (nX R a1) cc k := hK.2.2.1.2.1 cc hl
    have ewt : (I2 417 cc).toInt = (ctW R (nX R a1) cc k).toInt := congrArg Int32.toInt ew
    show dw_ok (pr_X12_catcher K) 89 0 0 [some (.ref 404), some (.int a1), some (.int a2), some (.int a3), some (.int c), some (.int b), some (.int mo), some (.int q), some (.int t)] [] (n, SH1, I2, J)
    refine q_ald rfl rfl ?_
    refine q_getr rfl sk_404 sr_404_29 ?_
    refine q_ild rfl rfl ?_
    refine q_xald rfl (Or.inl rfl) sk_417 sn_417 (by omega) (by omega) ?_
    show dw_ok (pr_X12_catcher K) 96 0 0 [some (.ref 404), some (.int a1), some (.int a2), some (.int a3), some (.int c), some (.int b), some (.int mo), some (.int q), some (.int t)] [.int (I2 417 (c).toInt.toNat)] (n, SH1, I2, J)
    rw [hcc]
    refine q_ild rfl rfl ?_
    refine q_icmp (c := 4) rfl (by decide) (fun y3 => ?_) (fun y3 => ?_)
    · have y3 : (mo).toInt < ((I2 417 cc)).toInt := y3
      refine q_ald rfl rfl ?_
      refine q_getr rfl sk_404 sr_404_29 ?_
      refine q_ild rfl rfl ?_
      refine q_xald rfl (Or.inl rfl) sk_417 sn_417 (by omega) (by omega) ?_
      show dw_ok (pr_X12_catcher K) 111 0 0 [some (.ref 404), some (.int a1), some (.int a2), some (.int a3), some (.int c), some (.int b), some (.int mo), some (.int q), some (.int t)] [.int (I2 417 (c).toInt.toNat)] (n, SH1, I2, J)
      rw [hcc]
      refine q_ist rfl rfl ?_
      show dw_ok (pr_X12_catcher K) 113 0 0 [some (.ref 404), some (.int a1), some (.int a2), some (.int a3), some (.int c), some (.int b), some (.int (I2 417 cc)), some (.int q), some (.int t)] [] (n, SH1, I2, J)
      refine q_ild rfl rfl ?_
      refine q_ist rfl rfl ?_
      show dw_ok (pr_X12_catcher K) 117 0 0 [some (.ref 404), some (.int a1), some (.int a2), some (.int a3), some (.int c), some (.int q), some (.int (I2 417 cc)), some (.int q), some (.int t)] [] (n, SH1, I2, J)
      refine q_inc rfl rfl rfl ?_
      show dw_ok (pr_X12_catcher K) 120 0 0 [some (.ref 404), some (.int a1), some (.int a2), some (.int a3), some (.int c), some (.int q), some (.int (I2 417 cc)), some (.int (q + 1)), some (.int t)] [] (n, SH1, I2, J)
      show dw_ok (pr_X12_catcher K) 120 0 0 [some (.ref 404), some (.int a1), some (.int a2), some (.int a3), some (.int c), some (.int q), some (.int (I2 417 cc)), some (.int (q + 1)), some (.int t)] [] (n, SH1, I2, J)
      obtain ⟨qx, hqx⟩ : ∃ z, z = (q + 1) := ⟨_, rfl⟩
      rw [← hqx]
      have eqx : qx.toInt = ((k + 1 : Nat) : Int) := by rw [hqx]; exact ix_1 hq (by omega)
      refine q_goto rfl ?_
      have hs := ct_y (W := ctW R (nX R a1) cc) (k := k) (by rw [← hm]; omega)
      exact ih (k + 1) q (I2 417 cc) qx _ I2 (by omega) eqx (eq.trans (congrArg Prod.fst hs).symm) (ew.trans (congrArg Prod.snd hs).symm) eI2
    · have y3 : ((I2 417 cc)).toInt ≤ (mo).toInt := y3
      refine q_goto rfl ?_
      refine q_inc rfl rfl rfl ?_
      show dw_ok (pr_X12_catcher K) 120 0 0 [some (.ref 404), some (.int a1), some (.int a2), some (.int a3), some (.int c), some (.int b), some (.int mo), some (.int (q + 1)), some (.int t)] [] (n, SH1, I2, J)
      show dw_ok (pr_X12_catcher K) 120 0 0 [some (.ref 404), some (.int a1), some (.int a2), some (.int a3), some (.int c), some (.int b), some (.int mo), some (.int (q + 1)), some (.int t)] [] (n, SH1, I2, J)
      obtain ⟨qx, hqx⟩ : ∃ z, z = (q + 1) := ⟨_, rfl⟩
      rw [← hqx]
      have eqx : qx.toInt = ((k + 1 : Nat) : Int) := by rw [hqx]; exact ix_1 hq (by omega)
      refine q_goto rfl ?_
      have hs := ct_n (W := ctW R (nX R a1) cc) (k := k) (by rw [← hm]; omega)
      exact ih (k + 1) b mo qx _ I2 (by omega) eqx (hb.trans (congrArg Prod.fst hs).symm) (hm.trans (congrArg Prod.snd hs).symm) eI2
set_option maxRecDepth 8000 in
set_option maxHeartbeats 4000000 in
theorem v_mcatcher {n : Nat} {I : Nat → Nat → Int32} {J : Nat → Nat → Int64} {K : dw_K} {R : Nat → Int32} (hR : I 406 = R) (hG : GOK R) {a1 a2 a3 : Int32} (hN : okS R a1 → NOK (nX R a1)) (hk : ∀ (w : Int32) (I' : Nat → Nat → Int32), w.toInt = aCatcher R a1 a2 a3 → K (some (.int w)) (n, SH1, I', J)) : t_X12_catcher [.ref 404, .int a1, .int a2, .int a3] (n, SH1, I, J) K := by
  have cm1 : (-1 : Int32).toInt = -1 := rfl
  have k0 : (0 : Int32).toInt = 0 := rfl
  have k1 : (1 : Int32).toInt = 1 := rfl
  have k2 : (2 : Int32).toInt = 2 := rfl
  refine q_body (Nat.le_of_ble_eq_true rfl) ?_
  refine q_ald rfl rfl ?_
  refine q_ic rfl ?_
  refine q_puti rfl sk_404 ?_
  show dw_ok (pr_X12_catcher K) 5 0 0 [some (.ref 404), some (.int a1), some (.int a2), some (.int a3), none, none, none, none, none] [] (n, SH1, (dw_up I 404 0 (0 : Int32)), J)
  refine q_ald rfl rfl ?_
  refine q_ild rfl rfl ?_
  refine q_callV (as := [.int a1]) (rest := []) rfl rfl sk_404 rfl (Nat.le_of_ble_eq_true rfl) ?_
  obtain ⟨I1, hI1⟩ : ∃ X, X = (dw_up I 404 0 (0 : Int32)) := ⟨_, rfl⟩
  rw [← hI1]
  have eI1 : I1 406 = R := by rw [hI1]; exact ((up_row (by decide)).trans (hR))
  refine v_isNight (fun w_ oS => ?_)
  rcases oS with ⟨rfl, oS⟩ | ⟨rfl, oS⟩
  · show dw_ok (pr_X12_catcher K) 10 0 0 [some (.ref 404), some (.int a1), some (.int a2), some (.int a3), none, none, none, none, none] [.int (1 : Int32)] (n, SH1, I1, J)
    refine q_if (c := 0) rfl (by decide) (fun h => absurd (show (1 : Int) = 0 from h) (by decide)) (fun y2 => ?_)
    have y2 : (1 : Int) ≠ 0 := y2
    refine q_ald rfl rfl ?_
    refine q_ild rfl rfl ?_
    refine q_ild rfl rfl ?_
    refine q_callV (as := [.int a2, .int a3]) (rest := []) rfl rfl sk_404 rfl (Nat.le_of_ble_eq_true rfl) ?_
    refine v_misCell (C := Cn R) (R := Rn R) (by rw [eI1]; exact hG.1.1) (by rw [eI1]; exact hG.1.2.1) (fun w_ oC => ?_)
    rcases oC with ⟨rfl, oC⟩ | ⟨rfl, oC⟩
    · show dw_ok (pr_X12_catcher K) 19 0 0 [some (.ref 404), some (.int a1), some (.int a2), some (.int a3), none, none, none, none, none] [.int (1 : Int32)] (n, SH1, I1, J)
      refine q_if (c := 1) rfl (by decide) (fun y3 => ?_) (fun h => absurd (show (1 : Int) = 0 from h) (by decide))
      have y3 : (1 : Int) ≠ 0 := y3
      refine q_ald rfl rfl ?_
      refine q_ild rfl rfl ?_
      refine q_ild rfl rfl ?_
      refine q_callV (as := [.int a2, .int a3]) (rest := []) rfl rfl sk_404 rfl (Nat.le_of_ble_eq_true rfl) ?_
      refine v_numberOf ?_
      show dw_ok (pr_X12_catcher K) 30 0 0 [some (.ref 404), some (.int a1), some (.int a2), some (.int a3), none, none, none, none, none] [.int (I1 406 0 * a3 + a2)] (n, SH1, I1, J)
      rw [eI1]
      have en : (R 0 * a3 + a2).toInt.toNat = cN R a2 a3 := by rw [(cN_i hG oC).2]; rfl
      have el := cN_lt oC
      have el9 := (gok_N hG).2
      have ei : (R 0 * a3 + a2).toInt = (cN R a2 a3 : Nat) := (cN_i hG oC).2
      show dw_ok (pr_X12_catcher K) 30 0 0 [some (.ref 404), some (.int a1), some (.int a2), some (.int a3), none, none, none, none, none] [.int (R 0 * a3 + a2)] (n, SH1, I1, J)
      refine q_ist rfl rfl ?_
      show dw_ok (pr_X12_catcher K) 32 0 0 [some (.ref 404), some (.int a1), some (.int a2), some (.int a3), some (.int (R 0 * a3 + a2)), none, none, none, none] [] (n, SH1, I1, J)
      show dw_ok (pr_X12_catcher K) 32 0 0 [some (.ref 404), some (.int a1), some (.int a2), some (.int a3), some (.int (R 0 * a3 + a2)), none, none, none, none] [] (n, SH1, I1, J)
      obtain ⟨c4, hc4⟩ : ∃ z, z = (R 0 * a3 + a2) := ⟨_, rfl⟩
      rw [← hc4]
      have ec4 : c4.toInt = ((cN R a2 a3 : Nat) : Int) := by rw [hc4]; exact ei
      refine q_ic rfl ?_
      refine q_ist rfl rfl ?_
      show dw_ok (pr_X12_catcher K) 35 0 0 [some (.ref 404), some (.int a1), some (.int a2), some (.int a3), some (.int c4), some (.int (-1 : Int32)), none, none, none] [] (n, SH1, I1, J)
      refine q_ic rfl ?_
      refine q_ist rfl rfl ?_
      show dw_ok (pr_X12_catcher K) 38 0 0 [some (.ref 404), some (.int a1), some (.int a2), some (.int a3), some (.int c4), some (.int (-1 : Int32)), some (.int (-1 : Int32)), none, none] [] (n, SH1, I1, J)
      refine q_ic rfl ?_
      refine q_ist rfl rfl ?_
      show dw_ok (pr_X12_catcher K) 41 0 0 [some (.ref 404), some (.int a1), some (.int a2), some (.int a3), some (.int c4), some (.int (-1 : Int32)), some (.int (-1 : Int32)), some (.int (0 : Int32)), none] [] (n, SH1, I1, J)
      rw [eI1] at oS
      exact mcat_loop hG oS (hN oS) ec4 el (fun I' => hk _ I' (by unfold aCatcher; rw [if_pos ⟨oS, oC⟩])) (kN R) 0 (-1) (-1) 0 _ _ (by omega) rfl rfl rfl eI1
    · show dw_ok (pr_X12_catcher K) 19 0 0 [some (.ref 404), some (.int a1), some (.int a2), some (.int a3), none, none, none, none, none] [.int (0 : Int32)] (n, SH1, I1, J)
      refine q_if (c := 1) rfl (by decide) (fun h => absurd (show (0 : Int) ≠ 0 from h) (by decide)) (fun y4 => ?_)
      have y4 : (0 : Int) = 0 := y4
      refine q_ic rfl ?_
      refine q_iret rfl (hk _ _ ?_)
      unfold aCatcher
      rw [if_neg (fun q => oC q.2)]
      exact cm1
  · show dw_ok (pr_X12_catcher K) 10 0 0 [some (.ref 404), some (.int a1), some (.int a2), some (.int a3), none, none, none, none, none] [.int (0 : Int32)] (n, SH1, I1, J)
    refine q_if (c := 0) rfl (by decide) (fun y5 => ?_) (fun h => absurd (show (0 : Int) ≠ 0 from h) (by decide))
    have y5 : (0 : Int) = 0 := y5
    refine q_ic rfl ?_
    refine q_iret rfl (hk _ _ ?_)
    unfold aCatcher
    rw [if_neg (by rw [eI1] at oS; exact fun q => oS q.1)]
    exact cm1
set_option maxRecDepth 8000 in
set_option maxHeartbeats 8000000 in
theorem v_cstartT {n : Nat} {I : Nat → Nat → Int32} {J : Nat → Nat → Int64} {K : dw_K} {A B N : Nat} (hA : RT A) (h43 : 43 ≤ A) (hB : NT B) (hAB : A + 1 + 7 ≤ B ∨ B + 7 ≤ A) (hBA : B ≠ A) (hz : I B 0 = 0 ∨ I B 0 = 1) (hN : (I 4 0 * I 4 1).toInt = N) (hN9 : N ≤ 144) (hkd : ∀ j, j < N → 0 ≤ (I 8 j).toInt ∧ (I 8 j).toInt < 8)
    (hk : ∀ I' : Nat → Nat → Int32, (∀ a, (a < A ∨ A + 14 < a) → I' a = I a) → I' A 0 = 1 → I' A 1 = I 4 0 * I 4 1 → I' A 2 = 0 → I' A 3 = I 4 4 → I' A 4 = 0 → I' A 5 = 0 → I' A 6 = 0 → I' (A + 1) 0 = I B 0 → (∀ w, w < 5 → ∀ t, t < 144 → I' (A + 1 + 2 + w) t = I (B + 2 + w) t) → (∀ j, j < N → I' (A + 8) j = I 5 (I 8 j).toInt.toNat ∧ I' (A + 9) j = I 6 (I 8 j).toInt.toNat ∧ I' (A + 10) j = I 7 (I 8 j).toInt.toNat ∧ I' (A + 11) j = I 9 j ∧ I' (A + 12) j = 0 ∧ I' (A + 13) j = 100 * I (B + 2 + 2) 0 ∧ I' (A + 14) j = 0) → K none (n, SH1, I', J)) : t_X7_start [.ref A, .ref 4, .ref B] (n, SH1, I, J) K := by
  have hA0 := hA
  obtain ⟨kA, ⟨rA7, rA8, rA9, rA10, rA11, rA12, rA13, rA14⟩, ⟨kA8, kA9, kA10, kA11, kA12, kA13, kA14⟩, ⟨nA8, nA9, nA10, nA11, nA12, nA13, nA14⟩, hNT⟩ := hA
  have k144 : (144 : Int32).toInt = 144 := rfl
  have emn : fi_min 144 (I 4 0 * I 4 1) = I 4 0 * I 4 1 := i_eq (by rw [fi_min_i, k144]; omega)
  refine q_body (Nat.le_of_ble_eq_true rfl) ?_
  refine q_ald rfl rfl ?_
  refine q_ic rfl ?_
  refine q_putz rfl kA (Or.inr rfl) ?_
  show dw_ok (pr_X7_start K) 5 0 0 [some (.ref A), some (.ref 4), some (.ref B), none] [] (n, SH1, (dw_up I A 0 (1 : Int32)), J)
  refine q_ald rfl rfl ?_
  refine q_ic rfl ?_
  refine q_ald rfl rfl ?_
  refine q_callV (as := []) (rest := [.int (144 : Int32), .ref A]) rfl rfl sk_4 rfl (Nat.le_of_ble_eq_true rfl) ?_
  refine v_gsize ?_
  show dw_ok (pr_X7_start K) 13 0 0 [some (.ref A), some (.ref 4), some (.ref B), none] [.int ((dw_up I A 0 (1 : Int32)) 4 0 * (dw_up I A 0 (1 : Int32)) 4 1), .int (144 : Int32), .ref A] (n, SH1, (dw_up I A 0 (1 : Int32)), J)
  rw [show (dw_up I A 0 (1 : Int32)) 4 = I 4 from (up_row (by omega))]
  show dw_ok (pr_X7_start K) 13 0 0 [some (.ref A), some (.ref 4), some (.ref B), none] [.int (I 4 0 * I 4 1), .int (144 : Int32), .ref A] (n, SH1, (dw_up I A 0 (1 : Int32)), J)
  refine q_min rfl rfl ?_
  show dw_ok (pr_X7_start K) 16 0 0 [some (.ref A), some (.ref 4), some (.ref B), none] [.int (fi_min (144 : Int32) (I 4 0 * I 4 1)), .ref A] (n, SH1, (dw_up I A 0 (1 : Int32)), J)
  rw [emn]
  refine q_puti rfl kA ?_
  show dw_ok (pr_X7_start K) 19 0 0 [some (.ref A), some (.ref 4), some (.ref B), none] [] (n, SH1, (dw_up (dw_up I A 0 (1 : Int32)) A 1 (I 4 0 * I 4 1)), J)
  refine q_ald rfl rfl ?_
  refine q_ic rfl ?_
  refine q_puti rfl kA ?_
  show dw_ok (pr_X7_start K) 24 0 0 [some (.ref A), some (.ref 4), some (.ref B), none] [] (n, SH1, (dw_up (dw_up (dw_up I A 0 (1 : Int32)) A 1 (I 4 0 * I 4 1)) A 2 (0 : Int32)), J)
  refine q_ald rfl rfl ?_
  refine q_ald rfl rfl ?_
  refine q_geti rfl sk_4 ?_
  show dw_ok (pr_X7_start K) 29 0 0 [some (.ref A), some (.ref 4), some (.ref B), none] [.int ((dw_up (dw_up (dw_up I A 0 (1 : Int32)) A 1 (I 4 0 * I 4 1)) A 2 (0 : Int32)) 4 4), .ref A] (n, SH1, (dw_up (dw_up (dw_up I A 0 (1 : Int32)) A 1 (I 4 0 * I 4 1)) A 2 (0 : Int32)), J)
  rw [show ((dw_up (dw_up (dw_up I A 0 (1 : Int32)) A 1 (I 4 0 * I 4 1)) A 2 (0 : Int32)) 4 4) = (I 4 4) from ((up_ne (Or.inl (by omega))).trans ((up_ne (Or.inl (by omega))).trans (up_ne (Or.inl (by omega)))))]
  refine q_puti rfl kA ?_
  show dw_ok (pr_X7_start K) 32 0 0 [some (.ref A), some (.ref 4), some (.ref B), none] [] (n, SH1, (dw_up (dw_up (dw_up (dw_up I A 0 (1 : Int32)) A 1 (I 4 0 * I 4 1)) A 2 (0 : Int32)) A 3 (I 4 4)), J)
  refine q_ald rfl rfl ?_
  refine q_ic rfl ?_
  refine q_puti rfl kA ?_
  show dw_ok (pr_X7_start K) 37 0 0 [some (.ref A), some (.ref 4), some (.ref B), none] [] (n, SH1, (dw_up (dw_up (dw_up (dw_up (dw_up I A 0 (1 : Int32)) A 1 (I 4 0 * I 4 1)) A 2 (0 : Int32)) A 3 (I 4 4)) A 4 (0 : Int32)), J)
  refine q_ald rfl rfl ?_
  refine q_ic rfl ?_
  refine q_puti rfl kA ?_
  show dw_ok (pr_X7_start K) 42 0 0 [some (.ref A), some (.ref 4), some (.ref B), none] [] (n, SH1, (dw_up (dw_up (dw_up (dw_up (dw_up (dw_up I A 0 (1 : Int32)) A 1 (I 4 0 * I 4 1)) A 2 (0 : Int32)) A 3 (I 4 4)) A 4 (0 : Int32)) A 5 (0 : Int32)), J)
  refine q_ald rfl rfl ?_
  refine q_ic rfl ?_
  refine q_puti rfl kA ?_
  show dw_ok (pr_X7_start K) 47 0 0 [some (.ref A), some (.ref 4), some (.ref B), none] [] (n, SH1, (dw_up (dw_up (dw_up (dw_up (dw_up (dw_up (dw_up I A 0 (1 : Int32)) A 1 (I 4 0 * I 4 1)) A 2 (0 : Int32)) A 3 (I 4 4)) A 4 (0 : Int32)) A 5 (0 : Int32)) A 6 (0 : Int32)), J)
  obtain ⟨I1, hI1⟩ : ∃ X, X = (dw_up (dw_up (dw_up (dw_up (dw_up (dw_up (dw_up I A 0 (1 : Int32)) A 1 (I 4 0 * I 4 1)) A 2 (0 : Int32)) A 3 (I 4 4)) A 4 (0 : Int32)) A 5 (0 : Int32)) A 6 (0 : Int32)) := ⟨_, rfl⟩
  show dw_ok (pr_X7_start K) 47 0 0 [some (.ref A), some (.ref 4), some (.ref B), none] [] (n, SH1, (dw_up (dw_up (dw_up (dw_up (dw_up (dw_up (dw_up I A 0 (1 : Int32)) A 1 (I 4 0 * I 4 1)) A 2 (0 : Int32)) A 3 (I 4 4)) A 4 (0 : Int32)) A 5 (0 : Int32)) A 6 (0 : Int32)), J)
  rw [← hI1]
  have rI1 : ∀ a, a ≠ A → I1 a = I a := fun a q0 => by rw [hI1]; exact ((up_row q0).trans ((up_row q0).trans ((up_row q0).trans ((up_row q0).trans ((up_row q0).trans ((up_row q0).trans (up_row q0)))))))
  have fI1_0 : ∀ j, j ≠ 0 → j ≠ 1 → j ≠ 2 → j ≠ 3 → j ≠ 4 → j ≠ 5 → j ≠ 6 → I1 A j = I A j := fun j p0 p1 p2 p3 p4 p5 p6 => by rw [hI1]; exact ((up_fld p6).trans ((up_fld p5).trans ((up_fld p4).trans ((up_fld p3).trans ((up_fld p2).trans ((up_fld p1).trans (up_fld p0)))))))
  have sI1_0_0 : I1 A 0 = (1 : Int32) := by rw [hI1]; exact ((up_fld (by decide)).trans ((up_fld (by decide)).trans ((up_fld (by decide)).trans ((up_fld (by decide)).trans ((up_fld (by decide)).trans ((up_fld (by decide)).trans (up_same)))))))
  have sI1_0_1 : I1 A 1 = (I 4 0 * I 4 1) := by rw [hI1]; exact ((up_fld (by decide)).trans ((up_fld (by decide)).trans ((up_fld (by decide)).trans ((up_fld (by decide)).trans ((up_fld (by decide)).trans (up_same))))))
  have sI1_0_2 : I1 A 2 = (0 : Int32) := by rw [hI1]; exact ((up_fld (by decide)).trans ((up_fld (by decide)).trans ((up_fld (by decide)).trans ((up_fld (by decide)).trans (up_same)))))
  have sI1_0_3 : I1 A 3 = (I 4 4) := by rw [hI1]; exact ((up_fld (by decide)).trans ((up_fld (by decide)).trans ((up_fld (by decide)).trans (up_same))))
  have sI1_0_4 : I1 A 4 = (0 : Int32) := by rw [hI1]; exact ((up_fld (by decide)).trans ((up_fld (by decide)).trans (up_same)))
  have sI1_0_5 : I1 A 5 = (0 : Int32) := by rw [hI1]; exact ((up_fld (by decide)).trans (up_same))
  have sI1_0_6 : I1 A 6 = (0 : Int32) := by rw [hI1]; exact (up_same)
  refine q_ald rfl rfl ?_
  refine q_getr rfl kA rA7 ?_
  refine q_ald rfl rfl ?_
  refine q_callV (as := [.ref B]) (rest := []) rfl rfl hNT.1 rfl (Nat.le_of_ble_eq_true rfl) ?_
  refine v_ncopy hNT hB (by omega) (by rw [rI1 B (by omega)]; exact hz) (fun I2 g1 g2 g3 g4 => ?_)
  show dw_ok (pr_X7_start K) 55 0 0 [some (.ref A), some (.ref 4), some (.ref B), none] [] (n, SH1, I2, J)
  refine q_ic rfl ?_
  refine q_ist rfl rfl ?_
  show dw_ok (pr_X7_start K) 57 0 0 [some (.ref A), some (.ref 4), some (.ref B), some (.int (0 : Int32))] [] (n, SH1, I2, J)
  have gA : I2 A = I1 A := g1 A (by omega) (by omega)
  have lo : ∀ a, a < 43 → I2 a = I a := fun a ha => (g1 a (by omega) (by omega)).trans (rI1 a (by omega))
  refine cs_loop (I0 := I2) (N := N) hA0 h43 (by rw [gA, sI1_0_1]; exact hN) hN9 (by rw [lo 8 (by decide)]; exact hkd) (fun I' q1 q2 => ?_) N 0 0 I2 (by omega) rfl (fun _ _ => rfl) (fun j hj => absurd hj (Nat.not_lt_zero j))
  rw [lo 5 (by decide), lo 6 (by decide), lo 7 (by decide), lo 8 (by decide), lo 9 (by decide)] at q2
  have qA : I' A = I1 A := (q1 A (by omega)).trans gA
  have air : I2 (A + 1 + 2 + 2) 0 = I (B + 2 + 2) 0 := (g4 2 (by decide) 0 (by decide)).trans (congrFun (rI1 (B + 2 + 2) (by omega)) 0)
  rw [air] at q2
  refine hk I' (fun a ha => ?_) ?_ ?_ ?_ ?_ ?_ ?_ ?_ ?_ (fun w hw t ht => ?_) q2
  · rw [q1 a (by omega), g1 a (by omega) (by omega)]; exact rI1 a (by omega)
  · rw [qA]; exact sI1_0_0
  · rw [qA]; exact sI1_0_1
  · rw [qA]; exact sI1_0_2
  · rw [qA]; exact sI1_0_3
  · rw [qA]; exact sI1_0_4
  · rw [qA]; exact sI1_0_5
  · rw [qA]; exact sI1_0_6
  · rw [q1 (A + 1) (by omega), g3]; exact congrFun (rI1 B (by omega)) 0
  · rw [q1 (A + 1 + 2 + w) (by omega), g4 w hw t ht]; exact congrFun (rI1 (B + 2 + w) (by omega)) t
set_option maxRecDepth 8000 in
theorem v_startT {n : Nat} {I : Nat → Nat → Int32} {J : Nat → Nat → Int64} {K : dw_K} {A N : Nat} {x : Int32} (hA : RT A) (hA2 : A = 43 ∨ A = 164 ∨ A = 179) (hz : ∀ s, s < 6 → I (58 + 7 * s) 0 = 0 ∨ I (58 + 7 * s) 0 = 1) (hN : (I 4 0 * I 4 1).toInt = N) (hN9 : N ≤ 144) (hkd : ∀ j, j < N → 0 ≤ (I 8 j).toInt ∧ (I 8 j).toInt < 8)
    (h1 : ∀ s : Nat, s < 6 → x.toInt = s → I (58 + 7 * s) 0 = 1 → ∀ I' : Nat → Nat → Int32, (∀ a, (a < A ∨ A + 14 < a) → I' a = I a) → I' A 0 = 1 → I' A 1 = I 4 0 * I 4 1 → I' A 2 = 0 → I' A 3 = I 4 4 → I' A 4 = 0 → I' A 5 = 0 → I' A 6 = 0 → I' (A + 1) 0 = 1 → (∀ w, w < 5 → ∀ t, t < 144 → I' (A + 1 + 2 + w) t = I (58 + 7 * s + 2 + w) t) → (∀ j, j < N → I' (A + 8) j = I 5 (I 8 j).toInt.toNat ∧ I' (A + 9) j = I 6 (I 8 j).toInt.toNat ∧ I' (A + 10) j = I 7 (I 8 j).toInt.toNat ∧ I' (A + 11) j = I 9 j ∧ I' (A + 12) j = 0 ∧ I' (A + 13) j = 100 * I (58 + 7 * s + 2 + 2) 0 ∧ I' (A + 14) j = 0) → K (some (.int 1)) (n, SH1, I', J)) (h2 : (∀ s : Nat, s < 6 → x.toInt = s → I (58 + 7 * s) 0 = 0) → K (some (.int 0)) (n, SH1, I, J)) : t_X11_start [.ref 0, .ref A, .int x] (n, SH1, I, J) K := by
  refine q_body (Nat.le_of_ble_eq_true rfl) ?_
  refine q_ald rfl rfl ?_
  refine q_getr rfl sk_0 sr_0_1 ?_
  refine q_ild rfl rfl ?_
  refine q_callV (as := [.int x]) (rest := []) rfl rfl sk_3 rfl (Nat.le_of_ble_eq_true rfl) ?_
  refine v_nightOf (fun s hs hx => ?_) (fun hno => ?_)
  · obtain ⟨-, hB⟩ := no_ref hs
    show dw_ok (pr_X11_start K) 8 0 0 [some (.ref 0), some (.ref A), some (.int x), none] [.ref (58 + 7 * s)] (n, SH1, I, J)
    refine q_ast rfl rfl ?_
    refine q_ald rfl rfl ?_
    refine q_ifnull_r rfl ?_
    refine q_ald rfl rfl ?_
    refine q_getz rfl hB.1 ?_
    rcases hz s hs with e | e
    · refine q_if (c := 1) rfl (by decide) (fun g => absurd (show (I (58 + 7 * s) 0).toInt = 0 by rw [e]; rfl) g) (fun _ => ?_)
      refine q_ic rfl ?_
      exact q_zret rfl (Or.inl rfl) (h2 (fun s' hs' hx' => by rw [show s' = s by omega]; exact e))
    · refine q_if (c := 1) rfl (by decide) (fun _ => ?_) (fun g => absurd (show (I (58 + 7 * s) 0).toInt = 0 from g) (by rw [e]; decide))
      refine q_ald rfl rfl ?_
      refine q_ald rfl rfl ?_
      refine q_getr rfl sk_0 sr_0_1 ?_
      refine q_getr rfl sk_3 sr_3_1 ?_
      refine q_ald rfl rfl ?_
      refine q_callV (as := [.ref 4, .ref (58 + 7 * s)]) (rest := []) rfl rfl hA.1 rfl (Nat.le_of_ble_eq_true rfl) ?_
      refine v_cstartT (N := N) hA (by omega) hB (by omega) (by omega) (hz s hs) hN hN9 hkd (fun I' g0 g1 g2 g3 g4 g5 g6 g7 gz g8 g9 => ?_)
      show dw_ok (pr_X11_start K) 34 0 0 [some (.ref 0), some (.ref A), some (.int x), some (.ref (58 + 7 * s))] [] (n, SH1, I', J)
      refine q_ic rfl ?_
      exact q_zret rfl (Or.inr rfl) (h1 s hs hx e I' g0 g1 g2 g3 g4 g5 g6 g7 (gz.trans e) g8 g9)
  · show dw_ok (pr_X11_start K) 8 0 0 [some (.ref 0), some (.ref A), some (.int x), none] [.null] (n, SH1, I, J)
    refine q_astn rfl rfl ?_
    refine q_aldn rfl rfl ?_
    refine q_ifnull_n rfl ?_
    refine q_ic rfl ?_
    exact q_zret rfl (Or.inl rfl) (h2 (fun s hs hx => absurd (show 0 ≤ x.toInt ∧ x.toInt ≤ 5 by omega) hno))
set_option maxRecDepth 8000 in
theorem v_startRT {n : Nat} {I : Nat → Nat → Int32} {J : Nat → Nat → Int64} {K : dw_K} {A : Nat} {x : Int32} {R : Nat → Int32} (hR : SREL I 3 R) (hA2 : A = 43 ∨ A = 164 ∨ A = 179)
    (h1 : ∀ s : Nat, s < 6 → x.toInt = s → NOK (nS R s) → ∀ I' : Nat → Nat → Int32, (∀ a, (a < A ∨ A + 14 < a) → I' a = I a) → I' A 0 = 1 → CST I' A R (nS R s) → I' A 6 = 0 → I' (A + 1) 0 = 1 → (∀ w, w < 5 → ∀ t, t < 144 → I' (A + 1 + 2 + w) t = ndF (nU (nS R s)) w t) → (∀ c, c < Nn R → I' (A + 12) c = 0) → K (some (.int 1)) (n, SH1, I', J))
    (h2 : (∀ s : Nat, s < 6 → x.toInt = s → (nS R s 0).toInt < 0) → K (some (.int 0)) (n, SH1, I, J)) : t_X11_start [.ref 0, .ref A, .int x] (n, SH1, I, J) K := by
  have hG := hR.1
  have hg := rg_3 hR
  obtain ⟨hN, hN9⟩ := gok_N hG
  have f0 : I 4 0 = R 0 := hg.1 0 (by decide)
  have f1 : I 4 1 = R 1 := hg.1 1 (by decide)
  have f4 : I 4 4 = R 4 := hg.1 4 (by decide)
  have hRT : RT A := by
    rcases hA2 with rfl | rfl | rfl
    · exact rt_ok (by decide)
    · exact rt_ok (by decide)
    · exact rt_ok (by decide)
  refine v_startT (N := Nn R) hRT hA2 (fun s hs => ?_) (by rw [f0, f1]; exact hN) hN9 (fun j hj => ?_) (fun s hs hx e I' q0 q1 q2 q3 q4 q5 q6 q7 qz q8 q9 => ?_) (fun hno => h2 (fun s hs hx => ?_))
  · rcases rn_3 hR hs with ⟨e, -⟩ | ⟨e, -⟩
    · exact Or.inl e
    · exact Or.inr e
  · rw [show I 8 j = R (29 + j) from (hg.2.2 j hj).1]
    obtain ⟨k1, k2, -⟩ := gok_k hG hj
    exact ⟨k1, k2⟩
  · rcases rn_3 hR hs with ⟨e', -⟩ | ⟨-, hS, hB⟩
    · rw [e] at e'; exact absurd e' (by decide)
    · have hn : ∀ w, w < 5 → ∀ t, t < 144 → I' (A + 1 + 2 + w) t = ndF (nU (nS R s)) w t := fun w hw t ht => (q8 w hw t ht).trans (hB w hw t ht)
      refine h1 s hs hx hS I' q0 q1 ⟨cst_C hG hg (fun j hj => ?_), fun t ht => cst_T q7 q8 hB ht, ⟨fun c hc => ?_, fun c hc => ?_, ?_, ?_⟩, ?_, ?_, ?_⟩ q7 qz hn (fun c hc => (q9 c hc).2.2.2.2.1)
      · obtain ⟨b1, b2, b3, b4, -⟩ := q9 j hj
        exact ⟨b1, b2, b3, b4⟩
      · show I' (A + 13) c = 100 * ndF (nU (nS R s)) 2 0
        rw [(q9 c hc).2.2.2.2.2.1, hB 2 (by decide) 0 (by decide)]
      · exact (q9 c hc).2.2.2.2.2.2
      · exact q4.trans f4
      · exact q5
      · rw [q2, f0, f1]; exact hN
      · rw [q6]; rfl
      · rw [q3]; rfl
  · rcases rn_3 hR hs with ⟨-, e⟩ | ⟨e, -⟩
    · exact e
    · rw [hno s hs hx] at e; exact absurd e (by decide)
/-- covered from STEP f on -/
def cmC (R : Nat → Int32) (k f : Nat) : Nat → Nat → rC := fun τ => if f ≤ τ then gCs R k 0 else gC R
/-- .. until six -/
def cmD (R : Nat → Int32) (k f : Nat) : Nat → Nat → rC := fun τ => if f ≤ τ ∧ τ ≤ 71 then gCs R k 0 else gC R
set_option maxRecDepth 8000 in
theorem cmC_y {R : Nat → Int32} {k f τ : Nat} (h : f ≤ τ) : cmC R k f τ = gCs R k 0 := if_pos h
set_option maxRecDepth 8000 in
theorem cmC_n {R : Nat → Int32} {k f τ : Nat} (h : ¬ f ≤ τ) : cmC R k f τ = gC R := if_neg h
set_option maxRecDepth 8000 in
theorem cmD_y {R : Nat → Int32} {k f τ : Nat} (h : f ≤ τ ∧ τ ≤ 71) : cmD R k f τ = gCs R k 0 := if_pos h
set_option maxRecDepth 8000 in
theorem cmD_n {R : Nat → Int32} {k f τ : Nat} (h : ¬ (f ≤ τ ∧ τ ≤ 71)) : cmD R k f τ = gC R := if_neg h
set_option maxRecDepth 8000 in
theorem cmD_ok {R : Nat → Int32} {k f τ : Nat} (hG : GOK R) : ∀ c, c < Nn R → cOK (cmD R k f τ c) := fun c hc => by
  by_cases h : f ≤ τ ∧ τ ≤ 71
  · rw [cmD_y h]; exact gCs_ok (v := (0 : Int32)) hG ⟨by decide, by decide⟩ c hc
  · rw [cmD_n h]; exact gok_c hG hc
/-- its water at six -/
def cmW (R S : Nat → Int32) (k f : Nat) : Int32 := (ruF 0 (Nn R) (cmC R k f) (gT S) 0 72 (g0S R S)).2.1 k
set_option maxRecDepth 8000 in
theorem cmW_D {R S : Nat → Int32} {k f : Nat} (hk : k < Nn R) : (ruF 0 (Nn R) (cmD R k f) (gT S) 0 72 (g0S R S)).2.1 k = cmW R S k f := by
  refine (ruF_eq 72 (fun i hi c hc => ?_) (fun _ _ => rfl) (rEq.rfl' (n := Nn R))).2.1 k hk
  by_cases h : f ≤ 0 + i
  · rw [cmD_y ⟨h, by omega⟩, cmC_y h]
  · rw [cmD_n (fun q => h q.1), cmC_n h]
/-- how many below k -/
def cnF (p : Nat → Bool) : Nat → Nat
  | 0 => 0
  | k + 1 => cnF p k + (if p k = true then 1 else 0)
set_option maxRecDepth 8000 in
theorem cn_le {p : Nat → Bool} : ∀ k : Nat, cnF p k ≤ k
  | 0 => Nat.le_refl 0
  | k + 1 => by
    have := cn_le (p := p) k
    show cnF p k + (if p k = true then 1 else 0) ≤ k + 1
    by_cases h : p k = true
    · rw [if_pos h]; omega
    · rw [if_neg h]; omega
set_option maxRecDepth 8000 in
theorem cn_y {p : Nat → Bool} {k : Nat} (h : p k = true) : cnF p (k + 1) = cnF p k + 1 := by
  show cnF p k + (if p k = true then 1 else 0) = _
  rw [if_pos h]
set_option maxRecDepth 8000 in
theorem cn_n {p : Nat → Bool} {k : Nat} (h : p k = false) : cnF p (k + 1) = cnF p k := by
  show cnF p k + (if p k = true then 1 else 0) = _
  rw [if_neg (by rw [h]; decide), Nat.add_zero]
def cmP (R S : Nat → Int32) (k : Nat) (m : Int32) : Nat → Bool := fun f => decide ((cmW R S k f).toInt = m.toInt)
set_option maxRecDepth 8000 in
theorem cmP_y {R S : Nat → Int32} {k f : Nat} {m : Int32} (h : (cmW R S k f).toInt = m.toInt) : cmP R S k m f = true := decide_eq_true h
set_option maxRecDepth 8000 in
theorem cmP_n {R S : Nat → Int32} {k f : Nat} {m : Int32} (h : ¬ (cmW R S k f).toInt = m.toInt) : cmP R S k m f = false := decide_eq_false h
def aCame (R : Nat → Int32) (s x y m : Int32) : Int := if okS R s ∧ okC R x y then (cnF (cmP R (nX R s) (cN R x y) m) 73 : Nat) else -1
set_option maxRecDepth 8000 in
theorem came_y {R : Nat → Int32} {s x y m : Int32} (h : okS R s ∧ okC R x y) : aCame R s x y m = (cnF (cmP R (nX R s) (cN R x y) m) 73 : Nat) := if_pos h
set_option maxRecDepth 8000 in
/-- a RUN copied -/
theorem csk_cp {I I' : Nat → Nat → Int32} {N st d k : Nat} {C : Nat → Nat → rC} {T : Nat → rN} {s0 : rS} (hN9 : N ≤ 144) (h0 : ∀ j, j < 7 → I' 179 j = I 164 j) (hw : ∀ w, w < 5 → ∀ t, t < 144 → I' (179 + 3 + w) t = I (164 + 3 + w) t) (hr : ∀ i, 8 ≤ i → i ≤ 14 → ∀ j, j < 144 → I' (179 + i) j = I (164 + i) j) (h : CSK I 164 N st C T s0 d k) : CSK I' 179 N st C T s0 d k := by
  obtain ⟨h1, h2, h3, h4, h5, h6, h7⟩ := h
  have e1 : ∀ c, c < N → cfC I' 179 c = cfC I 164 c := fun c hc => by
    unfold cfC
    rw [hr 8 (by decide) (by decide) c (by omega), hr 9 (by decide) (by decide) c (by omega), hr 10 (by decide) (by decide) c (by omega), hr 11 (by decide) (by decide) c (by omega)]
  have e2 : ∀ t, t < 144 → tnC I' 179 t = tnC I 164 t := fun t ht => by
    have w0 : I' (179 + 1 + 2 + 0) t = I (164 + 1 + 2 + 0) t := hw 0 (by decide) t ht
    have w1 : I' (179 + 1 + 2 + 1) t = I (164 + 1 + 2 + 1) t := hw 1 (by decide) t ht
    have w2 : I' (179 + 1 + 2 + 2) t = I (164 + 1 + 2 + 2) t := hw 2 (by decide) t ht
    have w3 : I' (179 + 1 + 2 + 3) t = I (164 + 1 + 2 + 3) t := hw 3 (by decide) t ht
    have w4 : I' (179 + 1 + 2 + 4) t = I (164 + 1 + 2 + 4) t := hw 4 (by decide) t ht
    unfold tnC
    rw [h0 6 (by decide), w0, w1, w2, w3, w4]
  refine ⟨fun τ a b c hc => by rw [e1 c hc]; exact h1 τ a b c hc, fun t a b => by rw [e2 t b]; exact h2 t a b, ⟨fun c hc => ?_, fun c hc => ?_, ?_, ?_⟩, by rw [h0 1 (by decide)]; exact h4, by rw [h0 5 (by decide)]; exact h5, by rw [h0 2 (by decide)]; exact h6, fun c hc => by rw [hr 8 (by decide) (by decide) c (by omega)]; exact h7 c hc⟩
  · exact (hr 13 (by decide) (by decide) c (by omega)).trans (h3.1 c hc)
  · exact (hr 14 (by decide) (by decide) c (by omega)).trans (h3.2.1 c hc)
  · exact (h0 3 (by decide)).trans h3.2.2.1
  · exact (h0 4 (by decide)).trans h3.2.2.2
set_option maxRecDepth 8000 in
/-- it is covered now -/
theorem csk_cov {I : Nat → Nat → Int32} {k f : Nat} {R S : Nat → Int32} (hf : f < 144) (h : CSK I 179 (Nn R) 0 (fun _ => gC R) (gT S) (g0S R S) 0 f) : CSK (dw_up I (179 + 11) k 0) 179 (Nn R) 0 (cmC R k f) (gT S) (g0S R S) 0 f := by
  have r : ∀ a, a ≠ 179 + 11 → dw_up I (179 + 11) k 0 a = I a := fun a ha => up_row ha
  have r0 := r 179 (by decide)
  obtain ⟨h1, h2, h3, h4, h5, h6, h7⟩ := h
  refine ⟨fun τ a b c hc => ?_, fun t a b => ?_, ?_, by rw [r0]; exact h4, by rw [r0]; exact h5, by rw [r0]; exact h6, fun c hc => by rw [r (179 + 8) (by decide)]; exact h7 c hc⟩
  · rw [cmC_y (by omega)]
    have q := h1 τ a b c hc
    have q1 : I (179 + 8) c = (gC R c).1 := congrArg (·.1) q
    have q2 : I (179 + 9) c = (gC R c).2.1 := congrArg (·.2.1) q
    have q3 : I (179 + 10) c = (gC R c).2.2.1 := congrArg (·.2.2.1) q
    unfold cfC
    rw [r (179 + 8) (by decide), r (179 + 9) (by decide), r (179 + 10) (by decide)]
    by_cases e : c = k
    · rw [q1, q2, q3, e, gCs_at, up_same]
    · rw [gCs_ne e, up_fld e]; exact q
  · rw [tn_row r0 (fun w hw => r _ (by omega))]; exact h2 t a b
  · have e3 : srC (dw_up I (179 + 11) k 0) 179 = srC I 179 := by
      unfold srC
      rw [r (179 + 13) (by decide), r (179 + 14) (by decide), r0]
    rw [e3]
    refine h3.trans (ruF_eq f (fun i hi c hc => ?_) (fun _ _ => rfl) rEq.rfl')
    rw [cmC_n (by omega)]
set_option maxRecDepth 8000 in
theorem came_loop {n : Nat} {J : Nat → Nat → Int64} {K : dw_K} {R S : Nat → Int32} {a1 a2 a3 a4 c : Int32} {cc : Nat} (hG : GOK R) (hc : c.toInt = cc) (hl : cc < Nn R) (hk : ∀ (w : Int32) (I' : Nat → Nat → Int32), w.toInt = (cnF (cmP R S cc a4) 73 : Nat) → K (some (.int w)) (n, SH1, I', J)) :
    ∀ (f k : Nat) (m t : Int32) (I : Nat → Nat → Int32), k + f = 73 → t.toInt = k → m.toInt = cnF (cmP R S cc a4) k → (I 164 0 = 0 ∨ I 164 0 = 1) → (I 165 0 = 0 ∨ I 165 0 = 1) → CSK I 164 (Nn R) 0 (fun _ => gC R) (gT S) (g0S R S) 0 k → dw_ok (pr_X11_came K) 50 0 0 [some (.ref 0), some (.int a1), some (.int a2), some (.int a3), some (.int a4), some (.int c), some (.int m), some (.int t)] [] (n, SH1, I, J) := by
  have cm1 : (-1 : Int32).toInt = -1 := rfl
  have k0 : (0 : Int32).toInt = 0 := rfl
  have k1 : (1 : Int32).toInt = 1 := rfl
  have k100 : (100 : Int32).toInt = 100 := rfl
  have hN9 := (gok_N hG).2
  intro f
  induction f with
  | zero =>
    intro k m t I hf ht hm z0 z1 hM
    obtain rfl : k = 73 := by omega
    refine q_ild rfl rfl ?_
    refine q_ic rfl ?_
    refine q_icmp (c := 4) rfl (by decide) (fun y1 => ?_) (fun h => absurd (show (t).toInt ≤ (72 : Int) from h) (by omega))
    have y1 : (72 : Int) < (t).toInt := y1
    refine q_ild rfl rfl ?_
    exact q_iret rfl (hk _ I hm)
  | succ f ih =>
    intro k m t I hf ht hm z0 z1 hM
    have hcl := cn_le (p := (cmP R S cc a4)) k
    refine q_ild rfl rfl ?_
    refine q_ic rfl ?_
    refine q_icmp (c := 4) rfl (by decide) (fun h => absurd (show (72 : Int) < (t).toInt from h) (by omega)) (fun y2 => ?_)
    have y2 : (t).toInt ≤ (72 : Int) := y2
    refine q_ald rfl rfl ?_
    refine q_getr rfl sk_0 sr_0_7 ?_
    refine q_ald rfl rfl ?_
    refine q_getr rfl sk_0 sr_0_6 ?_
    refine q_callV (as := [.ref 164]) (rest := []) rfl rfl sk_179 rfl (Nat.le_of_ble_eq_true rfl) ?_
    refine v_rcopy (A := 179) (B := 164) (rt_ok (by decide)) (rt_ok (by decide)) (by decide) z0 z1 (fun I1 c1 c2 c3 c4 c5 => ?_)
    show dw_ok (pr_X11_came K) 68 0 0 [some (.ref 0), some (.int a1), some (.int a2), some (.int a3), some (.int a4), some (.int c), some (.int m), some (.int t)] [] (n, SH1, I1, J)
    have hB := csk_cp hN9 c2 c4 c5 hM
    show dw_ok (pr_X11_came K) 68 0 0 [some (.ref 0), some (.int a1), some (.int a2), some (.int a3), some (.int a4), some (.int c), some (.int m), some (.int t)] [] (n, SH1, I1, J)
    refine q_ald rfl rfl ?_
    refine q_getr rfl sk_0 sr_0_7 ?_
    refine q_ild rfl rfl ?_
    refine q_ic rfl ?_
    refine q_callV (as := [.int c, .int (100 : Int32)]) (rest := []) rfl rfl sk_179 rfl (Nat.le_of_ble_eq_true rfl) ?_
    refine v_hideSky (A := 179) (N := Nn R) (k := cc) (rt_ok (by decide)) hc hB.2.2.2.1 hN9 hl (l := 100) ?_
    show dw_ok (pr_X11_came K) 79 0 0 [some (.ref 0), some (.int a1), some (.int a2), some (.int a3), some (.int a4), some (.int c), some (.int m), some (.int t)] [] (n, SH1, (dw_up I1 (179 + 11) cc (fi_max 0 (I1 (179 + 11) cc - 100))), J)
    have e11 : I1 (179 + 11) cc = skI R cc := congrArg (·.2.2.2) (hB.1 k (by omega) (by omega) cc hl)
    have sb := sl_b (k := cc) hG (l := 100) (by decide) (by decide)
    have skb := sk_b (j := cc) hG.1
    have ske := skI_t (c := cc) hG
    rw [e11, fmx_l (show (skI R cc - 100).toInt ≤ (0 : Int32).toInt by omega)]
    have hB2 := csk_cov (k := cc) (show k < 144 by omega) hB
    show dw_ok (pr_X11_came K) 79 0 0 [some (.ref 0), some (.int a1), some (.int a2), some (.int a3), some (.int a4), some (.int c), some (.int m), some (.int t)] [] (n, SH1, (dw_up I1 (179 + 11) cc 0), J)
    refine q_ald rfl rfl ?_
    refine q_getr rfl sk_0 sr_0_7 ?_
    refine q_ic rfl ?_
    refine q_callV (as := [.int (72 : Int32)]) (rest := []) rfl rfl sk_179 rfl (Nat.le_of_ble_eq_true rfl) ?_
    refine v_untilR (A := 179) (j := 72 - k) (rt_ok (by decide)) hB2 (by omega) hN9 (Or.inl (by rw [show (72 : Int32).toInt = 72 from rfl]; omega)) (fun I2 g1 _ hK => ?_)
    show dw_ok (pr_X11_came K) 88 0 0 [some (.ref 0), some (.int a1), some (.int a2), some (.int a3), some (.int a4), some (.int c), some (.int m), some (.int t)] [] (n, SH1, I2, J)
    rw [show k + (72 - k) = 72 by omega] at hK
    have hM2 := csk_fr (I' := I2) (fun a p q => (g1 a (by omega) (by omega) (by omega)).trans ((up_row (by omega)).trans (c1 a (by omega)))) hM
    have w0 : I2 164 0 = 0 ∨ I2 164 0 = 1 := by rw [show I2 164 = I 164 from (g1 164 (by decide) (by decide) (by decide)).trans ((up_row (by decide)).trans (c1 164 (by decide)))]; exact z0
    have w1 : I2 165 0 = 0 ∨ I2 165 0 = 1 := by rw [show I2 165 = I 165 from (g1 165 (by decide) (by decide) (by decide)).trans ((up_row (by decide)).trans (c1 165 (by decide)))]; exact z1
    have ew : I2 (179 + 14) cc = cmW R S cc k := hK.2.2.1.2.1 cc hl
    show dw_ok (pr_X11_came K) 88 0 0 [some (.ref 0), some (.int a1), some (.int a2), some (.int a3), some (.int a4), some (.int c), some (.int m), some (.int t)] [] (n, SH1, I2, J)
    refine q_ald rfl rfl ?_
    refine q_getr rfl sk_0 sr_0_7 ?_
    refine q_ild rfl rfl ?_
    refine q_callV (as := [.int c]) (rest := []) rfl rfl sk_179 rfl (Nat.le_of_ble_eq_true rfl) ?_
    refine v_waterOf (A := 179) (N := Nn R) (k := cc) (rt_ok (by decide)) hc hK.2.2.2.1 hN9 hl ?_
    show dw_ok (pr_X11_came K) 97 0 0 [some (.ref 0), some (.int a1), some (.int a2), some (.int a3), some (.int a4), some (.int c), some (.int m), some (.int t)] [.int (I2 (179 + 14) cc)] (n, SH1, I2, J)
    rw [ew]
    show dw_ok (pr_X11_came K) 97 0 0 [some (.ref 0), some (.int a1), some (.int a2), some (.int a3), some (.int a4), some (.int c), some (.int m), some (.int t)] [.int (cmW R S cc k)] (n, SH1, I2, J)
    refine q_ild rfl rfl ?_
    refine q_icmp (c := 1) rfl (by decide) (fun y3 => ?_) (fun y3 => ?_)
    · have y3 : ((cmW R S cc k)).toInt ≠ (a4).toInt := y3
      refine q_ald rfl rfl ?_
      refine q_getr rfl sk_0 sr_0_6 ?_
      refine q_callV (as := []) (rest := []) rfl rfl sk_164 rfl (Nat.le_of_ble_eq_true rfl) ?_
      obtain ⟨I3, hI3⟩ : ∃ X, X = I2 := ⟨_, rfl⟩
      rw [← hI3]
      have r3 : ∀ a, a ≠ 0 → I3 a = I2 a := (fun a p => by rw [hI3])
      have hM3 := csk_fr (I' := I3) (fun a p q => r3 a (by omega)) hM2
      refine v_stepR (A := 164) (rt_ok (by decide)) hM3 (by omega) hN9 (fun I4 h1 h2 hM4 => ?_)
      show dw_ok (pr_X11_came K) 136 0 0 [some (.ref 0), some (.int a1), some (.int a2), some (.int a3), some (.int a4), some (.int c), some (.int m), some (.int t)] [] (n, SH1, I4, J)
      refine q_inc rfl rfl rfl ?_
      show dw_ok (pr_X11_came K) 139 0 0 [some (.ref 0), some (.int a1), some (.int a2), some (.int a3), some (.int a4), some (.int c), some (.int m), some (.int (t + 1))] [] (n, SH1, I4, J)
      show dw_ok (pr_X11_came K) 139 0 0 [some (.ref 0), some (.int a1), some (.int a2), some (.int a3), some (.int a4), some (.int c), some (.int m), some (.int (t + 1))] [] (n, SH1, I4, J)
      obtain ⟨tx, htx⟩ : ∃ z, z = (t + 1) := ⟨_, rfl⟩
      rw [← htx]
      have etx : tx.toInt = ((k + 1 : Nat) : Int) := by rw [htx]; exact ix_1 ht (by omega)
      refine q_goto rfl ?_
      exact ih (k + 1) m tx I4 (by omega) etx (by rw [cn_n (cmP_n y3)]; exact hm) (by rw [h2 0 (by decide) (by decide) (by decide), r3 164 (by decide)]; exact w0) (by rw [h1 165 (by decide) (by decide) (by decide), r3 165 (by decide)]; exact w1) hM4
    · have y3 : ((cmW R S cc k)).toInt = (a4).toInt := y3
      refine q_ald rfl rfl ?_
      refine q_ild rfl rfl ?_
      refine q_if (c := 1) rfl (by decide) (fun y4 => ?_) (fun y4 => ?_)
      · have y4 : (m).toInt ≠ 0 := y4
        refine q_ald rfl rfl ?_
        refine q_geti rfl sk_0 ?_
        refine q_puti rfl sk_0 ?_
        show dw_ok (pr_X11_came K) 120 0 0 [some (.ref 0), some (.int a1), some (.int a2), some (.int a3), some (.int a4), some (.int c), some (.int m), some (.int t)] [] (n, SH1, (dw_up I2 0 14 (I2 0 14)), J)
        refine q_ald rfl rfl ?_
        refine q_ild rfl rfl ?_
        refine q_puti rfl sk_0 ?_
        show dw_ok (pr_X11_came K) 126 0 0 [some (.ref 0), some (.int a1), some (.int a2), some (.int a3), some (.int a4), some (.int c), some (.int m), some (.int t)] [] (n, SH1, (dw_up (dw_up I2 0 14 (I2 0 14)) 0 15 t), J)
        refine q_inc rfl rfl rfl ?_
        show dw_ok (pr_X11_came K) 129 0 0 [some (.ref 0), some (.int a1), some (.int a2), some (.int a3), some (.int a4), some (.int c), some (.int (m + 1)), some (.int t)] [] (n, SH1, (dw_up (dw_up I2 0 14 (I2 0 14)) 0 15 t), J)
        refine q_ald rfl rfl ?_
        refine q_getr rfl sk_0 sr_0_6 ?_
        refine q_callV (as := []) (rest := []) rfl rfl sk_164 rfl (Nat.le_of_ble_eq_true rfl) ?_
        obtain ⟨I3, hI3⟩ : ∃ X, X = (dw_up (dw_up I2 0 14 (I2 0 14)) 0 15 t) := ⟨_, rfl⟩
        rw [← hI3]
        have r3 : ∀ a, a ≠ 0 → I3 a = I2 a := (fun a p => by rw [hI3]; exact (up_row p).trans (up_row p))
        have hM3 := csk_fr (I' := I3) (fun a p q => r3 a (by omega)) hM2
        refine v_stepR (A := 164) (rt_ok (by decide)) hM3 (by omega) hN9 (fun I4 h1 h2 hM4 => ?_)
        show dw_ok (pr_X11_came K) 136 0 0 [some (.ref 0), some (.int a1), some (.int a2), some (.int a3), some (.int a4), some (.int c), some (.int (m + 1)), some (.int t)] [] (n, SH1, I4, J)
        refine q_inc rfl rfl rfl ?_
        show dw_ok (pr_X11_came K) 139 0 0 [some (.ref 0), some (.int a1), some (.int a2), some (.int a3), some (.int a4), some (.int c), some (.int (m + 1)), some (.int (t + 1))] [] (n, SH1, I4, J)
        show dw_ok (pr_X11_came K) 139 0 0 [some (.ref 0), some (.int a1), some (.int a2), some (.int a3), some (.int a4), some (.int c), some (.int (m + 1)), some (.int (t + 1))] [] (n, SH1, I4, J)
        obtain ⟨tx, htx⟩ : ∃ z, z = (t + 1) := ⟨_, rfl⟩
        rw [← htx]
        have etx : tx.toInt = ((k + 1 : Nat) : Int) := by rw [htx]; exact ix_1 ht (by omega)
        refine q_goto rfl ?_
        exact ih (k + 1) (m + 1) tx I4 (by omega) etx (by rw [cn_y (cmP_y y3), i_add (by rw [hm, k1]; omega) (by rw [hm, k1]; omega), hm, k1]; omega) (by rw [h2 0 (by decide) (by decide) (by decide), r3 164 (by decide)]; exact w0) (by rw [h1 165 (by decide) (by decide) (by decide), r3 165 (by decide)]; exact w1) hM4
      · have y4 : (m).toInt = 0 := y4
        refine q_ild rfl rfl ?_
        refine q_goto rfl ?_
        refine q_puti rfl sk_0 ?_
        show dw_ok (pr_X11_came K) 120 0 0 [some (.ref 0), some (.int a1), some (.int a2), some (.int a3), some (.int a4), some (.int c), some (.int m), some (.int t)] [] (n, SH1, (dw_up I2 0 14 t), J)
        refine q_ald rfl rfl ?_
        refine q_ild rfl rfl ?_
        refine q_puti rfl sk_0 ?_
        show dw_ok (pr_X11_came K) 126 0 0 [some (.ref 0), some (.int a1), some (.int a2), some (.int a3), some (.int a4), some (.int c), some (.int m), some (.int t)] [] (n, SH1, (dw_up (dw_up I2 0 14 t) 0 15 t), J)
        refine q_inc rfl rfl rfl ?_
        show dw_ok (pr_X11_came K) 129 0 0 [some (.ref 0), some (.int a1), some (.int a2), some (.int a3), some (.int a4), some (.int c), some (.int (m + 1)), some (.int t)] [] (n, SH1, (dw_up (dw_up I2 0 14 t) 0 15 t), J)
        refine q_ald rfl rfl ?_
        refine q_getr rfl sk_0 sr_0_6 ?_
        refine q_callV (as := []) (rest := []) rfl rfl sk_164 rfl (Nat.le_of_ble_eq_true rfl) ?_
        obtain ⟨I3, hI3⟩ : ∃ X, X = (dw_up (dw_up I2 0 14 t) 0 15 t) := ⟨_, rfl⟩
        rw [← hI3]
        have r3 : ∀ a, a ≠ 0 → I3 a = I2 a := (fun a p => by rw [hI3]; exact (up_row p).trans (up_row p))
        have hM3 := csk_fr (I' := I3) (fun a p q => r3 a (by omega)) hM2
        refine v_stepR (A := 164) (rt_ok (by decide)) hM3 (by omega) hN9 (fun I4 h1 h2 hM4 => ?_)
        show dw_ok (pr_X11_came K) 136 0 0 [some (.ref 0), some (.int a1), some (.int a2), some (.int a3), some (.int a4), some (.int c), some (.int (m + 1)), some (.int t)] [] (n, SH1, I4, J)
        refine q_inc rfl rfl rfl ?_
        show dw_ok (pr_X11_came K) 139 0 0 [some (.ref 0), some (.int a1), some (.int a2), some (.int a3), some (.int a4), some (.int c), some (.int (m + 1)), some (.int (t + 1))] [] (n, SH1, I4, J)
        show dw_ok (pr_X11_came K) 139 0 0 [some (.ref 0), some (.int a1), some (.int a2), some (.int a3), some (.int a4), some (.int c), some (.int (m + 1)), some (.int (t + 1))] [] (n, SH1, I4, J)
        obtain ⟨tx, htx⟩ : ∃ z, z = (t + 1) := ⟨_, rfl⟩
        rw [← htx]
        have etx : tx.toInt = ((k + 1 : Nat) : Int) := by rw [htx]; exact ix_1 ht (by omega)
        refine q_goto rfl ?_
        exact ih (k + 1) (m + 1) tx I4 (by omega) etx (by rw [cn_y (cmP_y y3), i_add (by rw [hm, k1]; omega) (by rw [hm, k1]; omega), hm, k1]; omega) (by rw [h2 0 (by decide) (by decide) (by decide), r3 164 (by decide)]; exact w0) (by rw [h1 165 (by decide) (by decide) (by decide), r3 165 (by decide)]; exact w1) hM4
set_option maxRecDepth 8000 in
theorem v_ccame {n : Nat} {I : Nat → Nat → Int32} {J : Nat → Nat → Int64} {K : dw_K} {R : Nat → Int32} (hR : SREL I 3 R) {a1 a2 a3 a4 : Int32} (hk : ∀ (w : Int32) (I' : Nat → Nat → Int32), w.toInt = aCame R a1 a2 a3 a4 → K (some (.int w)) (n, SH1, I', J)) : t_X11_came [.ref 0, .int a1, .int a2, .int a3, .int a4] (n, SH1, I, J) K := by
  have cm1 : (-1 : Int32).toInt = -1 := rfl
  have k0 : (0 : Int32).toInt = 0 := rfl
  have k1 : (1 : Int32).toInt = 1 := rfl
  refine q_body (Nat.le_of_ble_eq_true rfl) ?_
  refine q_ald rfl rfl ?_
  refine q_getr rfl sk_0 sr_0_1 ?_
  refine q_getr rfl sk_3 sr_3_1 ?_
  refine q_ild rfl rfl ?_
  refine q_ild rfl rfl ?_
  refine q_callV (as := [.int a2, .int a3]) (rest := []) rfl rfl sk_4 rfl (Nat.le_of_ble_eq_true rfl) ?_
  refine v_cellAt2 (R := R) hR.1 ((rg_3 hR).1 0 (by decide)) ((rg_3 hR).1 1 (by decide)) (fun k2 c1 ec1 => ?_) (fun k2 => ?_)
  · show dw_ok (pr_X11_came K) 12 0 0 [some (.ref 0), some (.int a1), some (.int a2), some (.int a3), some (.int a4), none, none, none] [.int c1] (n, SH1, I, J)
    refine q_ist rfl rfl ?_
    show dw_ok (pr_X11_came K) 14 0 0 [some (.ref 0), some (.int a1), some (.int a2), some (.int a3), some (.int a4), some (.int c1), none, none] [] (n, SH1, I, J)
    refine q_ild rfl rfl ?_
    refine q_ic rfl ?_
    refine q_icmp (c := 0) rfl (by decide) (fun h => absurd (show (c1).toInt = (-1 : Int) from h) (by have := ec1; omega)) (fun y3 => ?_)
    have y3 : (c1).toInt ≠ (-1 : Int) := y3
    refine q_ald rfl rfl ?_
    refine q_ald rfl rfl ?_
    refine q_getr rfl sk_0 sr_0_6 ?_
    refine q_ild rfl rfl ?_
    refine q_callV (as := [.ref 164, .int a1]) (rest := []) rfl rfl sk_0 rfl (Nat.le_of_ble_eq_true rfl) ?_
    refine v_startRT hR (Or.inr (Or.inl rfl)) (fun s hs hxs hS I1 q0 q1 hC _ qz _ _ => ?_) (fun hno => ?_)
    · show dw_ok (pr_X11_came K) 29 0 0 [some (.ref 0), some (.int a1), some (.int a2), some (.int a3), some (.int a4), some (.int c1), none, none] [.int (1 : Int32)] (n, SH1, I1, J)
      refine q_if (c := 1) rfl (by decide) (fun y4 => ?_) (fun h => absurd (show (1 : Int) = 0 from h) (by decide))
      have y4 : (1 : Int) ≠ 0 := y4
      refine q_ald rfl rfl ?_
      refine q_ic rfl ?_
      refine q_puti rfl sk_0 ?_
      show dw_ok (pr_X11_came K) 39 0 0 [some (.ref 0), some (.int a1), some (.int a2), some (.int a3), some (.int a4), some (.int c1), none, none] [] (n, SH1, (dw_up I1 0 14 (-1 : Int32)), J)
      refine q_ald rfl rfl ?_
      refine q_ic rfl ?_
      refine q_puti rfl sk_0 ?_
      show dw_ok (pr_X11_came K) 44 0 0 [some (.ref 0), some (.int a1), some (.int a2), some (.int a3), some (.int a4), some (.int c1), none, none] [] (n, SH1, (dw_up (dw_up I1 0 14 (-1 : Int32)) 0 15 (-1 : Int32)), J)
      refine q_ic rfl ?_
      refine q_ist rfl rfl ?_
      show dw_ok (pr_X11_came K) 47 0 0 [some (.ref 0), some (.int a1), some (.int a2), some (.int a3), some (.int a4), some (.int c1), some (.int (0 : Int32)), none] [] (n, SH1, (dw_up (dw_up I1 0 14 (-1 : Int32)) 0 15 (-1 : Int32)), J)
      refine q_ic rfl ?_
      refine q_ist rfl rfl ?_
      show dw_ok (pr_X11_came K) 50 0 0 [some (.ref 0), some (.int a1), some (.int a2), some (.int a3), some (.int a4), some (.int c1), some (.int (0 : Int32)), some (.int (0 : Int32))] [] (n, SH1, (dw_up (dw_up I1 0 14 (-1 : Int32)) 0 15 (-1 : Int32)), J)
      obtain ⟨oS, eS⟩ := okS_of hs hxs hS
      have r2 : ∀ a, a ≠ 0 → (dw_up (dw_up I1 0 14 (-1 : Int32)) 0 15 (-1 : Int32)) a = I1 a := fun a p => (up_row p).trans (up_row p)
      exact came_loop (S := nS R s) hR.1 ec1 (cN_lt k2) (fun w I' hw => hk w I' (by rw [came_y ⟨oS, k2⟩, eS]; exact hw)) 73 0 0 0 _ rfl rfl rfl (by rw [r2 164 (by decide)]; exact Or.inr q1) (by rw [r2 165 (by decide)]; exact Or.inr qz) (csk_fr (fun a p q => r2 a (by omega)) (cst_k hR.1 hC))
    · show dw_ok (pr_X11_came K) 29 0 0 [some (.ref 0), some (.int a1), some (.int a2), some (.int a3), some (.int a4), some (.int c1), none, none] [.int (0 : Int32)] (n, SH1, I, J)
      refine q_if (c := 1) rfl (by decide) (fun h => absurd (show (0 : Int) ≠ 0 from h) (by decide)) (fun y5 => ?_)
      have y5 : (0 : Int) = 0 := y5
      refine q_ic rfl ?_
      refine q_iret rfl (hk _ _ ?_)
      unfold aCame
      rw [if_neg (fun q => okS_no hno q.1)]
      exact cm1
  · show dw_ok (pr_X11_came K) 12 0 0 [some (.ref 0), some (.int a1), some (.int a2), some (.int a3), some (.int a4), none, none, none] [.int (-1 : Int32)] (n, SH1, I, J)
    refine q_ist rfl rfl ?_
    show dw_ok (pr_X11_came K) 14 0 0 [some (.ref 0), some (.int a1), some (.int a2), some (.int a3), some (.int a4), some (.int (-1 : Int32)), none, none] [] (n, SH1, I, J)
    refine q_ild rfl rfl ?_
    refine q_ic rfl ?_
    refine q_icmp (c := 0) rfl (by decide) (fun y6 => ?_) (fun h => absurd (show (-1 : Int) ≠ (-1 : Int) from h) (by omega))
    have y6 : (-1 : Int) = (-1 : Int) := y6
    refine q_ic rfl ?_
    refine q_iret rfl (hk _ _ ?_)
    unfold aCame
    rw [if_neg (fun q => k2 q.2)]
    exact cm1
set_option maxRecDepth 8000 in
theorem mcm_loop {n : Nat} {J : Nat → Nat → Int64} {K : dw_K} {R S : Nat → Int32} {I0 : Nat → Nat → Int32} {T : Nat → rN} {a1 a2 a3 a4 c m fr : Int32} {cc ff : Nat} (hP : PUR (Nn R) (cmD R cc ff) T (g0S R S) 0)
    (hk : ∀ (t : Int32) (I' : Nat → Nat → Int32), I' 406 = R → (∀ a, a ≠ 404 → a ≠ 416 → a ≠ 417 → I' a = I0 a) → (∀ j, j ≠ 32 → j ≠ 33 → I' 404 j = I0 404 j) → MSK I' (Nn R) 0 (cmD R cc ff) T (g0S R S) 0 72 → dw_ok (pr_X12_came K) 110 0 0 [some (.ref 404), some (.int a1), some (.int a2), some (.int a3), some (.int a4), some (.int c), some (.int m), some (.int fr), some (.int t)] [] (n, SH1, I', J)) :
    ∀ (f k : Nat) (t : Int32) (I : Nat → Nat → Int32), k + f = 72 → t.toInt = k → I 406 = R → (∀ a, a ≠ 404 → a ≠ 416 → a ≠ 417 → I a = I0 a) → (∀ j, j ≠ 32 → j ≠ 33 → I 404 j = I0 404 j) → MSK I (Nn R) 0 (cmD R cc ff) T (g0S R S) 0 k → dw_ok (pr_X12_came K) 91 0 0 [some (.ref 404), some (.int a1), some (.int a2), some (.int a3), some (.int a4), some (.int c), some (.int m), some (.int fr), some (.int t)] [] (n, SH1, I, J) := by
  have cm1 : (-1 : Int32).toInt = -1 := rfl
  have k0 : (0 : Int32).toInt = 0 := rfl
  have k1 : (1 : Int32).toInt = 1 := rfl
  intro f
  induction f with
  | zero =>
    intro k t I hf ht hR hF hF4 hM
    obtain rfl : k = 72 := by omega
    refine q_ild rfl rfl ?_
    refine q_ic rfl ?_
    refine q_icmp (c := 4) rfl (by decide) (fun y1 => ?_) (fun h => absurd (show (t).toInt ≤ (71 : Int) from h) (by omega))
    have y1 : (71 : Int) < (t).toInt := y1
    exact hk t I hR hF hF4 hM
  | succ f ih =>
    intro k t I hf ht hR hF hF4 hM
    refine q_ild rfl rfl ?_
    refine q_ic rfl ?_
    refine q_icmp (c := 4) rfl (by decide) (fun h => absurd (show (71 : Int) < (t).toInt from h) (by omega)) (fun y2 => ?_)
    have y2 : (t).toInt ≤ (71 : Int) := y2
    refine q_ald rfl rfl ?_
    refine q_ild rfl rfl ?_
    refine q_callV (as := [.int t]) (rest := []) rfl rfl sk_404 rfl (Nat.le_of_ble_eq_true rfl) ?_
    refine v_mstepR hP hM (by omega) (by omega) (fun I1 g1 g2 hM1 => ?_)
    show dw_ok (pr_X12_came K) 104 0 0 [some (.ref 404), some (.int a1), some (.int a2), some (.int a3), some (.int a4), some (.int c), some (.int m), some (.int fr), some (.int t)] [] (n, SH1, I1, J)
    refine q_inc rfl rfl rfl ?_
    show dw_ok (pr_X12_came K) 107 0 0 [some (.ref 404), some (.int a1), some (.int a2), some (.int a3), some (.int a4), some (.int c), some (.int m), some (.int fr), some (.int (t + 1))] [] (n, SH1, I1, J)
    show dw_ok (pr_X12_came K) 107 0 0 [some (.ref 404), some (.int a1), some (.int a2), some (.int a3), some (.int a4), some (.int c), some (.int m), some (.int fr), some (.int (t + 1))] [] (n, SH1, I1, J)
    obtain ⟨tx, htx⟩ : ∃ z, z = (t + 1) := ⟨_, rfl⟩
    rw [← htx]
    have etx : tx.toInt = ((k + 1 : Nat) : Int) := by rw [htx]; exact ix_1 ht (by omega)
    refine q_goto rfl ?_
    exact ih (k + 1) tx I1 (by omega) etx ((g1 406 (by decide) (by decide) (by decide)).trans hR) (fun a q1 q2 q3 => (g1 a q1 q2 q3).trans (hF a q1 q2 q3)) (fun j q1 q2 => (g2 j q1 q2).trans (hF4 j q1 q2)) hM1
set_option maxRecDepth 8000 in
theorem mcame_loop {n : Nat} {J : Nat → Nat → Int64} {K : dw_K} {R : Nat → Int32} {a1 a2 a3 a4 c : Int32} {cc : Nat} (hG : GOK R) (oS : okS R a1) (hS : NOK (nX R a1)) (hc : c.toInt = cc) (hl : cc < Nn R) (hk : ∀ (w : Int32) (I' : Nat → Nat → Int32), w.toInt = (cnF (cmP R (nX R a1) cc a4) 73 : Nat) → K (some (.int w)) (n, SH1, I', J)) :
    ∀ (f k : Nat) (m fr : Int32) (v : Option Value) (I : Nat → Nat → Int32), k + f = 73 → fr.toInt = k → m.toInt = cnF (cmP R (nX R a1) cc a4) k → I 406 = R → dw_ok (pr_X12_came K) 57 0 0 [some (.ref 404), some (.int a1), some (.int a2), some (.int a3), some (.int a4), some (.int c), some (.int m), some (.int fr), v] [] (n, SH1, I, J) := by
  have cm1 : (-1 : Int32).toInt = -1 := rfl
  have k0 : (0 : Int32).toInt = 0 := rfl
  have k1 : (1 : Int32).toInt = 1 := rfl
  have cM1 : (-1 : Int32).toInt = -1 := rfl
  have k71 : (71 : Int32).toInt = 71 := rfl
  have hN9 := (gok_N hG).2
  have hcc : c.toInt.toNat = cc := by omega
  intro f
  induction f with
  | zero =>
    intro k m fr v I hf ht hm hR
    obtain rfl : k = 73 := by omega
    refine q_ild rfl rfl ?_
    refine q_ic rfl ?_
    refine q_icmp (c := 4) rfl (by decide) (fun y1 => ?_) (fun h => absurd (show (fr).toInt ≤ (72 : Int) from h) (by omega))
    have y1 : (72 : Int) < (fr).toInt := y1
    refine q_ild rfl rfl ?_
    exact q_iret rfl (hk _ I hm)
  | succ f ih =>
    intro k m fr v I hf ht hm hR
    have hcl := cn_le (p := (cmP R (nX R a1) cc a4)) k
    refine q_ild rfl rfl ?_
    refine q_ic rfl ?_
    refine q_icmp (c := 4) rfl (by decide) (fun h => absurd (show (72 : Int) < (fr).toInt from h) (by omega)) (fun y2 => ?_)
    have y2 : (fr).toInt ≤ (72 : Int) := y2
    refine q_ald rfl rfl ?_
    refine q_ild rfl rfl ?_
    refine q_ic rfl ?_
    refine q_callV (as := [.int a1, .int (0 : Int32)]) (rest := []) rfl rfl sk_404 rfl (Nat.le_of_ble_eq_true rfl) ?_
    refine v_mstartR (st := 0) hR hG oS hS rfl (fun I9 g0 _ h35 hM hB => ?_)
    show dw_ok (pr_X12_came K) 70 0 0 [some (.ref 404), some (.int a1), some (.int a2), some (.int a3), some (.int a4), some (.int c), some (.int m), some (.int fr), v] [] (n, SH1, I9, J)
    have e9 : I9 406 = R := (g0 406 (by decide) (by decide)).trans hR
    show dw_ok (pr_X12_came K) 70 0 0 [some (.ref 404), some (.int a1), some (.int a2), some (.int a3), some (.int a4), some (.int c), some (.int m), some (.int fr), v] [] (n, SH1, I9, J)
    refine q_ald rfl rfl ?_
    refine q_ild rfl rfl ?_
    refine q_puti rfl sk_404 ?_
    show dw_ok (pr_X12_came K) 76 0 0 [some (.ref 404), some (.int a1), some (.int a2), some (.int a3), some (.int a4), some (.int c), some (.int m), some (.int fr), v] [] (n, SH1, (dw_up I9 404 35 c), J)
    refine q_ald rfl rfl ?_
    refine q_ild rfl rfl ?_
    refine q_puti rfl sk_404 ?_
    show dw_ok (pr_X12_came K) 82 0 0 [some (.ref 404), some (.int a1), some (.int a2), some (.int a3), some (.int a4), some (.int c), some (.int m), some (.int fr), v] [] (n, SH1, (dw_up (dw_up I9 404 35 c) 404 36 fr), J)
    refine q_ald rfl rfl ?_
    refine q_ic rfl ?_
    refine q_puti rfl sk_404 ?_
    show dw_ok (pr_X12_came K) 88 0 0 [some (.ref 404), some (.int a1), some (.int a2), some (.int a3), some (.int a4), some (.int c), some (.int m), some (.int fr), v] [] (n, SH1, (dw_up (dw_up (dw_up I9 404 35 c) 404 36 fr) 404 37 (71 : Int32)), J)
    refine q_ic rfl ?_
    refine q_ist rfl rfl ?_
    show dw_ok (pr_X12_came K) 91 0 0 [some (.ref 404), some (.int a1), some (.int a2), some (.int a3), some (.int a4), some (.int c), some (.int m), some (.int fr), some (.int (0 : Int32))] [] (n, SH1, (dw_up (dw_up (dw_up I9 404 35 c) 404 36 fr) 404 37 (71 : Int32)), J)
    obtain ⟨I5, hI5⟩ : ∃ X, X = (dw_up (dw_up (dw_up I9 404 35 c) 404 36 fr) 404 37 (71 : Int32)) := ⟨_, rfl⟩
    rw [← hI5]
    have r5 : ∀ a, a ≠ 404 → I5 a = I9 a := fun a p => by rw [hI5]; exact (up_row p).trans ((up_row p).trans (up_row p))
    have f5 : ∀ j, j ≠ 35 → j ≠ 36 → j ≠ 37 → I5 404 j = I9 404 j := fun j p q r => by rw [hI5]; exact (up_fld r).trans ((up_fld q).trans (up_fld p))
    have s35 : (I5 404 35).toInt = cc := by rw [hI5, show (dw_up (dw_up (dw_up I9 404 35 c) 404 36 fr) 404 37 (71 : Int32)) 404 35 = c from (up_fld (by decide)).trans ((up_fld (by decide)).trans up_same)]; exact hc
    have s36 : (I5 404 36).toInt = k := by rw [hI5, show (dw_up (dw_up (dw_up I9 404 35 c) 404 36 fr) 404 37 (71 : Int32)) 404 36 = fr from (up_fld (by decide)).trans up_same]; exact ht
    have s37 : (I5 404 37).toInt = 71 := by rw [hI5]; exact congrArg Int32.toInt up_same
    have e5 : I5 406 = R := (r5 406 (by decide)).trans e9
    have hM2 : MSK I5 (Nn R) 0 (cmD R cc k) (gT (nX R a1)) (g0S R (nX R a1)) 0 0 := by
      refine msk_mk hM (fun τ hτ j hj => ?_) (fun t ht => ?_) (r5 416 (by decide)) (r5 417 (by decide)) (r5 406 (by decide)) (f5 32 (by decide) (by decide) (by decide)) (f5 33 (by decide) (by decide) (by decide)) (f5 34 (by decide) (by decide) (by decide)) (fun j hj => by rw [r5 419 (by decide)]; exact hM.2.2.2.2.2 j hj)
      · have q := hM.1 τ (Nat.zero_le τ) hτ j hj
        have q1 := congrArg (fun z : rC => z.1) q
        have q2 := congrArg (fun z : rC => z.2.1) q
        have q3 := congrArg (fun z : rC => z.2.2.1) q
        have q4 : I9 418 j = skI R j := (hB j hj).1
        unfold cfM syM
        unfold cfM at q1 q2 q3
        rw [r5 406 (by decide), r5 419 (by decide), r5 418 (by decide), s35, s36, s37]
        by_cases e : j = cc
        · by_cases h : k ≤ τ ∧ τ ≤ 71
          · rw [cmD_y h, if_pos ⟨by omega, by omega, by omega⟩]
            rw [e] at q1 q2 q3 ⊢
            rw [gCs_at]
            exact Prod.ext q1 (Prod.ext q2 (Prod.ext q3 rfl))
          · rw [cmD_n h, if_neg (fun z => h ⟨by omega, by omega⟩), q4]
            exact Prod.ext q1 (Prod.ext q2 (Prod.ext q3 rfl))
        · rw [if_neg (fun z => e (by omega)), q4]
          have ec : cmD R cc k τ j = gC R j := by
            by_cases h : k ≤ τ ∧ τ ≤ 71
            · rw [cmD_y h, gCs_ne e]
            · rw [cmD_n h]
          rw [ec]
          exact Prod.ext q1 (Prod.ext q2 (Prod.ext q3 rfl))
      · rw [show tnM I5 t = tnM I9 t by unfold tnM; rw [r5 411 (by decide), r5 412 (by decide), r5 413 (by decide), r5 414 (by decide), r5 415 (by decide)]]
        exact hM.2.1 t (Nat.zero_le t) ht
    have hP : PUR (Nn R) (cmD R cc k) (gT (nX R a1)) (g0S R (nX R a1)) 0 := ⟨hN9, fun τ _ _ c hc => cmD_ok hG c hc, fun t _ ht => hS.2 t ht, g0_ok hG hS⟩
    refine mcm_loop (cc := cc) (ff := k) (I0 := I5) hP (fun t I2 eI2 _ _ hK => ?_) 72 0 0 I5 rfl rfl e5 (fun _ _ _ _ => rfl) (fun _ _ _ => rfl) hM2
    have ew : I2 417 cc = cmW R (nX R a1) cc k := (hK.2.2.1.2.1 cc hl).trans (cmW_D hl)
    have ewt : (I2 417 cc).toInt = (cmW R (nX R a1) cc k).toInt := congrArg Int32.toInt ew
    show dw_ok (pr_X12_came K) 110 0 0 [some (.ref 404), some (.int a1), some (.int a2), some (.int a3), some (.int a4), some (.int c), some (.int m), some (.int fr), some (.int t)] [] (n, SH1, I2, J)
    refine q_ald rfl rfl ?_
    refine q_getr rfl sk_404 sr_404_29 ?_
    refine q_ild rfl rfl ?_
    refine q_xald rfl (Or.inl rfl) sk_417 sn_417 (by omega) (by omega) ?_
    show dw_ok (pr_X12_came K) 117 0 0 [some (.ref 404), some (.int a1), some (.int a2), some (.int a3), some (.int a4), some (.int c), some (.int m), some (.int fr), some (.int t)] [.int (I2 417 (c).toInt.toNat)] (n, SH1, I2, J)
    rw [hcc]
    refine q_ild rfl rfl ?_
    refine q_icmp (c := 0) rfl (by decide) (fun y3 => ?_) (fun y3 => ?_)
    · have y3 : ((I2 417 cc)).toInt = (a4).toInt := y3
      refine q_ild rfl rfl ?_
      refine q_if (c := 1) rfl (by decide) (fun y4 => ?_) (fun y4 => ?_)
      · have y4 : (m).toInt ≠ 0 := y4
        refine q_ald rfl rfl ?_
        refine q_getr rfl sk_404 sr_404_47 ?_
        refine q_ic rfl ?_
        refine q_ild rfl rfl ?_
        refine q_iast rfl sk_427 sn_427 (by decide) (by decide) ?_
        show dw_ok (pr_X12_came K) 146 0 0 [some (.ref 404), some (.int a1), some (.int a2), some (.int a3), some (.int a4), some (.int c), some (.int m), some (.int fr), some (.int t)] [] (n, SH1, (dw_up I2 427 1 fr), J)
        refine q_inc rfl rfl rfl ?_
        show dw_ok (pr_X12_came K) 149 0 0 [some (.ref 404), some (.int a1), some (.int a2), some (.int a3), some (.int a4), some (.int c), some (.int (m + 1)), some (.int fr), some (.int t)] [] (n, SH1, (dw_up I2 427 1 fr), J)
        refine q_inc rfl rfl rfl ?_
        show dw_ok (pr_X12_came K) 152 0 0 [some (.ref 404), some (.int a1), some (.int a2), some (.int a3), some (.int a4), some (.int c), some (.int (m + 1)), some (.int (fr + 1)), some (.int t)] [] (n, SH1, (dw_up I2 427 1 fr), J)
        show dw_ok (pr_X12_came K) 152 0 0 [some (.ref 404), some (.int a1), some (.int a2), some (.int a3), some (.int a4), some (.int c), some (.int (m + 1)), some (.int (fr + 1)), some (.int t)] [] (n, SH1, (dw_up I2 427 1 fr), J)
        obtain ⟨fx, hfx⟩ : ∃ z, z = (fr + 1) := ⟨_, rfl⟩
        rw [← hfx]
        have efx : fx.toInt = ((k + 1 : Nat) : Int) := by rw [hfx]; exact ix_1 ht (by omega)
        refine q_goto rfl ?_
        exact ih (k + 1) (m + 1) fx _ (dw_up I2 427 1 fr) (by omega) efx (by rw [cn_y (cmP_y (by omega)), i_add (by rw [hm, k1]; omega) (by rw [hm, k1]; omega), hm, k1]; omega) ((up_row (by decide)).trans (eI2))
      · have y4 : (m).toInt = 0 := y4
        refine q_ald rfl rfl ?_
        refine q_getr rfl sk_404 sr_404_47 ?_
        refine q_ic rfl ?_
        refine q_ild rfl rfl ?_
        refine q_iast rfl sk_427 sn_427 (by decide) (by decide) ?_
        show dw_ok (pr_X12_came K) 138 0 0 [some (.ref 404), some (.int a1), some (.int a2), some (.int a3), some (.int a4), some (.int c), some (.int m), some (.int fr), some (.int t)] [] (n, SH1, (dw_up I2 427 0 fr), J)
        refine q_ald rfl rfl ?_
        refine q_getr rfl sk_404 sr_404_47 ?_
        refine q_ic rfl ?_
        refine q_ild rfl rfl ?_
        refine q_iast rfl sk_427 sn_427 (by decide) (by decide) ?_
        show dw_ok (pr_X12_came K) 146 0 0 [some (.ref 404), some (.int a1), some (.int a2), some (.int a3), some (.int a4), some (.int c), some (.int m), some (.int fr), some (.int t)] [] (n, SH1, (dw_up (dw_up I2 427 0 fr) 427 1 fr), J)
        refine q_inc rfl rfl rfl ?_
        show dw_ok (pr_X12_came K) 149 0 0 [some (.ref 404), some (.int a1), some (.int a2), some (.int a3), some (.int a4), some (.int c), some (.int (m + 1)), some (.int fr), some (.int t)] [] (n, SH1, (dw_up (dw_up I2 427 0 fr) 427 1 fr), J)
        refine q_inc rfl rfl rfl ?_
        show dw_ok (pr_X12_came K) 152 0 0 [some (.ref 404), some (.int a1), some (.int a2), some (.int a3), some (.int a4), some (.int c), some (.int (m + 1)), some (.int (fr + 1)), some (.int t)] [] (n, SH1, (dw_up (dw_up I2 427 0 fr) 427 1 fr), J)
        show dw_ok (pr_X12_came K) 152 0 0 [some (.ref 404), some (.int a1), some (.int a2), some (.int a3), some (.int a4), some (.int c), some (.int (m + 1)), some (.int (fr + 1)), some (.int t)] [] (n, SH1, (dw_up (dw_up I2 427 0 fr) 427 1 fr), J)
        obtain ⟨fx, hfx⟩ : ∃ z, z = (fr + 1) := ⟨_, rfl⟩
        rw [← hfx]
        have efx : fx.toInt = ((k + 1 : Nat) : Int) := by rw [hfx]; exact ix_1 ht (by omega)
        refine q_goto rfl ?_
        exact ih (k + 1) (m + 1) fx _ (dw_up (dw_up I2 427 0 fr) 427 1 fr) (by omega) efx (by rw [cn_y (cmP_y (by omega)), i_add (by rw [hm, k1]; omega) (by rw [hm, k1]; omega), hm, k1]; omega) ((up_row (by decide)).trans ((up_row (by decide)).trans (eI2)))
    · have y3 : ((I2 417 cc)).toInt ≠ (a4).toInt := y3
      refine q_goto rfl ?_
      refine q_inc rfl rfl rfl ?_
      show dw_ok (pr_X12_came K) 152 0 0 [some (.ref 404), some (.int a1), some (.int a2), some (.int a3), some (.int a4), some (.int c), some (.int m), some (.int (fr + 1)), some (.int t)] [] (n, SH1, I2, J)
      show dw_ok (pr_X12_came K) 152 0 0 [some (.ref 404), some (.int a1), some (.int a2), some (.int a3), some (.int a4), some (.int c), some (.int m), some (.int (fr + 1)), some (.int t)] [] (n, SH1, I2, J)
      obtain ⟨fx, hfx⟩ : ∃ z, z = (fr + 1) := ⟨_, rfl⟩
      rw [← hfx]
      have efx : fx.toInt = ((k + 1 : Nat) : Int) := by rw [hfx]; exact ix_1 ht (by omega)
      refine q_goto rfl ?_
      exact ih (k + 1) m fx _ I2 (by omega) efx (by rw [cn_n (cmP_n (by omega))]; exact hm) eI2
set_option maxRecDepth 8000 in
set_option maxHeartbeats 4000000 in
theorem v_mcame {n : Nat} {I : Nat → Nat → Int32} {J : Nat → Nat → Int64} {K : dw_K} {R : Nat → Int32} (hR : I 406 = R) (hG : GOK R) {a1 a2 a3 a4 : Int32} (hN : okS R a1 → NOK (nX R a1)) (hk : ∀ (w : Int32) (I' : Nat → Nat → Int32), w.toInt = aCame R a1 a2 a3 a4 → K (some (.int w)) (n, SH1, I', J)) : t_X12_came [.ref 404, .int a1, .int a2, .int a3, .int a4] (n, SH1, I, J) K := by
  have cm1 : (-1 : Int32).toInt = -1 := rfl
  have k0 : (0 : Int32).toInt = 0 := rfl
  have k1 : (1 : Int32).toInt = 1 := rfl
  have k2 : (2 : Int32).toInt = 2 := rfl
  refine q_body (Nat.le_of_ble_eq_true rfl) ?_
  refine q_ald rfl rfl ?_
  refine q_ic rfl ?_
  refine q_puti rfl sk_404 ?_
  show dw_ok (pr_X12_came K) 5 0 0 [some (.ref 404), some (.int a1), some (.int a2), some (.int a3), some (.int a4), none, none, none, none] [] (n, SH1, (dw_up I 404 0 (0 : Int32)), J)
  refine q_ald rfl rfl ?_
  refine q_ild rfl rfl ?_
  refine q_callV (as := [.int a1]) (rest := []) rfl rfl sk_404 rfl (Nat.le_of_ble_eq_true rfl) ?_
  obtain ⟨I1, hI1⟩ : ∃ X, X = (dw_up I 404 0 (0 : Int32)) := ⟨_, rfl⟩
  rw [← hI1]
  have eI1 : I1 406 = R := by rw [hI1]; exact ((up_row (by decide)).trans (hR))
  refine v_isNight (fun w_ oS => ?_)
  rcases oS with ⟨rfl, oS⟩ | ⟨rfl, oS⟩
  · show dw_ok (pr_X12_came K) 10 0 0 [some (.ref 404), some (.int a1), some (.int a2), some (.int a3), some (.int a4), none, none, none, none] [.int (1 : Int32)] (n, SH1, I1, J)
    refine q_if (c := 0) rfl (by decide) (fun h => absurd (show (1 : Int) = 0 from h) (by decide)) (fun y2 => ?_)
    have y2 : (1 : Int) ≠ 0 := y2
    refine q_ald rfl rfl ?_
    refine q_ild rfl rfl ?_
    refine q_ild rfl rfl ?_
    refine q_callV (as := [.int a2, .int a3]) (rest := []) rfl rfl sk_404 rfl (Nat.le_of_ble_eq_true rfl) ?_
    refine v_misCell (C := Cn R) (R := Rn R) (by rw [eI1]; exact hG.1.1) (by rw [eI1]; exact hG.1.2.1) (fun w_ oC => ?_)
    rcases oC with ⟨rfl, oC⟩ | ⟨rfl, oC⟩
    · show dw_ok (pr_X12_came K) 19 0 0 [some (.ref 404), some (.int a1), some (.int a2), some (.int a3), some (.int a4), none, none, none, none] [.int (1 : Int32)] (n, SH1, I1, J)
      refine q_if (c := 1) rfl (by decide) (fun y3 => ?_) (fun h => absurd (show (1 : Int) = 0 from h) (by decide))
      have y3 : (1 : Int) ≠ 0 := y3
      refine q_ald rfl rfl ?_
      refine q_ild rfl rfl ?_
      refine q_ild rfl rfl ?_
      refine q_callV (as := [.int a2, .int a3]) (rest := []) rfl rfl sk_404 rfl (Nat.le_of_ble_eq_true rfl) ?_
      refine v_numberOf ?_
      show dw_ok (pr_X12_came K) 30 0 0 [some (.ref 404), some (.int a1), some (.int a2), some (.int a3), some (.int a4), none, none, none, none] [.int (I1 406 0 * a3 + a2)] (n, SH1, I1, J)
      rw [eI1]
      have en : (R 0 * a3 + a2).toInt.toNat = cN R a2 a3 := by rw [(cN_i hG oC).2]; rfl
      have el := cN_lt oC
      have el9 := (gok_N hG).2
      have ei : (R 0 * a3 + a2).toInt = (cN R a2 a3 : Nat) := (cN_i hG oC).2
      show dw_ok (pr_X12_came K) 30 0 0 [some (.ref 404), some (.int a1), some (.int a2), some (.int a3), some (.int a4), none, none, none, none] [.int (R 0 * a3 + a2)] (n, SH1, I1, J)
      refine q_ist rfl rfl ?_
      show dw_ok (pr_X12_came K) 32 0 0 [some (.ref 404), some (.int a1), some (.int a2), some (.int a3), some (.int a4), some (.int (R 0 * a3 + a2)), none, none, none] [] (n, SH1, I1, J)
      show dw_ok (pr_X12_came K) 32 0 0 [some (.ref 404), some (.int a1), some (.int a2), some (.int a3), some (.int a4), some (.int (R 0 * a3 + a2)), none, none, none] [] (n, SH1, I1, J)
      obtain ⟨c5, hc5⟩ : ∃ z, z = (R 0 * a3 + a2) := ⟨_, rfl⟩
      rw [← hc5]
      have ec5 : c5.toInt = ((cN R a2 a3 : Nat) : Int) := by rw [hc5]; exact ei
      refine q_ic rfl ?_
      refine q_ist rfl rfl ?_
      show dw_ok (pr_X12_came K) 35 0 0 [some (.ref 404), some (.int a1), some (.int a2), some (.int a3), some (.int a4), some (.int c5), some (.int (0 : Int32)), none, none] [] (n, SH1, I1, J)
      refine q_ald rfl rfl ?_
      refine q_getr rfl sk_404 sr_404_47 ?_
      refine q_ic rfl ?_
      refine q_ic rfl ?_
      refine q_iast rfl sk_427 sn_427 (by decide) (by decide) ?_
      show dw_ok (pr_X12_came K) 42 0 0 [some (.ref 404), some (.int a1), some (.int a2), some (.int a3), some (.int a4), some (.int c5), some (.int (0 : Int32)), none, none] [] (n, SH1, (dw_up I1 427 0 (-1 : Int32)), J)
      refine q_ald rfl rfl ?_
      refine q_getr rfl sk_404 sr_404_47 ?_
      refine q_ic rfl ?_
      refine q_ic rfl ?_
      refine q_iast rfl sk_427 sn_427 (by decide) (by decide) ?_
      show dw_ok (pr_X12_came K) 49 0 0 [some (.ref 404), some (.int a1), some (.int a2), some (.int a3), some (.int a4), some (.int c5), some (.int (0 : Int32)), none, none] [] (n, SH1, (dw_up (dw_up I1 427 0 (-1 : Int32)) 427 1 (-1 : Int32)), J)
      refine q_ald rfl rfl ?_
      refine q_ic rfl ?_
      refine q_putz rfl sk_404 (Or.inr rfl) ?_
      show dw_ok (pr_X12_came K) 54 0 0 [some (.ref 404), some (.int a1), some (.int a2), some (.int a3), some (.int a4), some (.int c5), some (.int (0 : Int32)), none, none] [] (n, SH1, (dw_up (dw_up (dw_up I1 427 0 (-1 : Int32)) 427 1 (-1 : Int32)) 404 48 (1 : Int32)), J)
      refine q_ic rfl ?_
      refine q_ist rfl rfl ?_
      show dw_ok (pr_X12_came K) 57 0 0 [some (.ref 404), some (.int a1), some (.int a2), some (.int a3), some (.int a4), some (.int c5), some (.int (0 : Int32)), some (.int (0 : Int32)), none] [] (n, SH1, (dw_up (dw_up (dw_up I1 427 0 (-1 : Int32)) 427 1 (-1 : Int32)) 404 48 (1 : Int32)), J)
      rw [eI1] at oS
      exact mcame_loop hG oS (hN oS) ec5 el (fun w I' hw => hk w I' (by rw [came_y ⟨oS, oC⟩]; exact hw)) 73 0 0 0 _ _ rfl rfl rfl ((up_row (by decide)).trans ((up_row (by decide)).trans ((up_row (by decide)).trans (eI1))))
    · show dw_ok (pr_X12_came K) 19 0 0 [some (.ref 404), some (.int a1), some (.int a2), some (.int a3), some (.int a4), none, none, none, none] [.int (0 : Int32)] (n, SH1, I1, J)
      refine q_if (c := 1) rfl (by decide) (fun h => absurd (show (0 : Int) ≠ 0 from h) (by decide)) (fun y4 => ?_)
      have y4 : (0 : Int) = 0 := y4
      refine q_ic rfl ?_
      refine q_iret rfl (hk _ _ ?_)
      unfold aCame
      rw [if_neg (fun q => oC q.2)]
      exact cm1
  · show dw_ok (pr_X12_came K) 10 0 0 [some (.ref 404), some (.int a1), some (.int a2), some (.int a3), some (.int a4), none, none, none, none] [.int (0 : Int32)] (n, SH1, I1, J)
    refine q_if (c := 0) rfl (by decide) (fun y5 => ?_) (fun h => absurd (show (0 : Int) ≠ 0 from h) (by decide))
    have y5 : (0 : Int) = 0 := y5
    refine q_ic rfl ?_
    refine q_iret rfl (hk _ _ ?_)
    unfold aCame
    rw [if_neg (by rw [eI1] at oS; exact fun q => oS q.1)]
    exact cm1
end
section
/-! ===== a lawn told ===== -/
def alF (p : Nat → Bool) : Nat → Bool
  | 0 => true
  | k + 1 => alF p k && p k
set_option maxRecDepth 8000 in
theorem al_y {p : Nat → Bool} : ∀ {k : Nat}, (∀ c, c < k → p c = true) → alF p k = true
  | 0, _ => rfl
  | k + 1, h => by
    show (alF p k && p k) = true
    rw [al_y (fun c hc => h c (by omega)), h k (by omega), Bool.and_true]
set_option maxRecDepth 8000 in
theorem al_n {p : Nat → Bool} : ∀ {k : Nat}, (∃ c, c < k ∧ p c = false) → alF p k = false
  | 0, h => by obtain ⟨c, hc, -⟩ := h; exact absurd hc (Nat.not_lt_zero c)
  | k + 1, h => by
    show (alF p k && p k) = false
    obtain ⟨c, hc, q⟩ := h
    by_cases e : c = k
    · rw [← e, q, Bool.and_false]
    · rw [al_n ⟨c, by omega, q⟩, Bool.false_and]
set_option maxRecDepth 8000 in
theorem al_eq {p q : Nat → Bool} : ∀ {k : Nat}, (∀ c, c < k → p c = q c) → alF p k = alF q k
  | 0, _ => rfl
  | k + 1, h => by
    show (alF p k && p k) = (alF q k && q k)
    rw [al_eq (fun c hc => h c (by omega)), h k (by omega)]
def lwP (b : Nat → Int32) : Nat → Bool := fun c => decide ((b c).toInt ≤ 2)
def lkP (b W : Nat → Int32) : Nat → Bool := fun c => decide ((b c).toInt = 2 ∨ (b c).toInt = (if 0 < (W c).toInt then 1 else 0))
set_option maxRecDepth 8000 in
theorem lwP_y {b : Nat → Int32} {c : Nat} (h : (b c).toInt ≤ 2) : lwP b c = true := decide_eq_true h
set_option maxRecDepth 8000 in
theorem lwP_n {b : Nat → Int32} {c : Nat} (h : ¬ (b c).toInt ≤ 2) : lwP b c = false := decide_eq_false h
set_option maxRecDepth 8000 in
theorem lkP_y {b W : Nat → Int32} {c : Nat} (h : (b c).toInt = 2 ∨ (b c).toInt = (if 0 < (W c).toInt then 1 else 0)) : lkP b W c = true := decide_eq_true h
set_option maxRecDepth 8000 in
theorem lkP_n {b W : Nat → Int32} {c : Nat} (h : ¬ ((b c).toInt = 2 ∨ (b c).toInt = (if 0 < (W c).toInt then 1 else 0))) : lkP b W c = false := decide_eq_false h
set_option maxRecDepth 8000 in
theorem lk_w {W : Nat → Int32} {c : Nat} : (0 < (W c).toInt → (if 0 < (W c).toInt then (1 : Int) else 0) = 1) ∧ (¬ 0 < (W c).toInt → (if 0 < (W c).toInt then (1 : Int) else 0) = 0) := ⟨fun h => if_pos h, fun h => if_neg h⟩
/-- the bytes tell a lawn -/
def lwOK (R b : Nat → Int32) (sz : Int) : Prop := sz = Nn R ∧ alF (lwP b) (Nn R) = true
set_option maxRecDepth 8000 in
theorem v_byteC {n : Nat} {I : Nat → Nat → Int32} {J : Nat → Nat → Int64} {K : dw_K} {i : Int32} {k : Nat} (hi : i.toInt = k) (h1 : k < 940) (hk : K (some (.int (I 2 k))) (n, SH1, I, J)) : t_X9_byteAt [.ref 1, .int i] (n, SH1, I, J) K := by
  refine v_byteAt (by omega) (by omega) ?_
  rw [show i.toInt.toNat = k by omega]; exact hk
set_option maxRecDepth 8000 in
theorem v_octM {n : Nat} {I : Nat → Nat → Int32} {J : Nat → Nat → Int64} {K : dw_K} {i : Int32} {k : Nat} (hi : i.toInt = k) (h1 : k < 940) (hk : K (some (.int (I 405 k &&& 255))) (n, SH1, I, J)) : t_X12_octet [.ref 404, .int i] (n, SH1, I, J) K := by
  refine v_octet (by omega) (by omega) ?_
  rw [show i.toInt.toNat = k by omega]; exact hk
set_option maxRecDepth 8000 in
theorem isl_loop {n : Nat} {I : Nat → Nat → Int32} {J : Nat → Nat → Int64} {K : dw_K} {sz : Int32} {N : Nat} {b : Nat → Int32} (hs : sz.toInt = N) (hN9 : N ≤ 144) (hb : ∀ c, c < N → I 2 c = b c)
    (hk : ∀ w : Int32, (w = 1 ∧ alF (lwP b) N = true) ∨ (w = 0 ∧ alF (lwP b) N = false) → K (some (.int w)) (n, SH1, I, J)) :
    ∀ (f k : Nat) (c : Int32), k + f = N → c.toInt = k → (∀ j, j < k → lwP b j = true) → dw_ok (pr_X11_isLawn K) 18 0 0 [some (.ref 0), some (.int sz), some (.int c)] [] (n, SH1, I, J) := by
  have k2 : (2 : Int32).toInt = 2 := rfl
  intro f
  induction f with
  | zero =>
    intro k c hf hc hp
    refine q_ild rfl rfl ?_
    refine q_ild rfl rfl ?_
    refine q_icmp (c := 3) rfl (by decide) (fun y1 => ?_) (fun h => absurd (show (c).toInt < (sz).toInt from h) (by omega))
    have y1 : (sz).toInt ≤ (c).toInt := y1
    refine q_ic rfl ?_
    exact q_zret rfl (Or.inr rfl) (hk 1 (Or.inl ⟨rfl, al_y (fun j hj => hp j (by omega))⟩))
  | succ f ih =>
    intro k c hf hc hp
    have eb : (I 2 k).toInt = (b k).toInt := by rw [hb k (by omega)]
    refine q_ild rfl rfl ?_
    refine q_ild rfl rfl ?_
    refine q_icmp (c := 3) rfl (by decide) (fun h => absurd (show (sz).toInt ≤ (c).toInt from h) (by omega)) (fun y2 => ?_)
    have y2 : (c).toInt < (sz).toInt := y2
    refine q_ald rfl rfl ?_
    refine q_getr rfl sk_0 sr_0_0 ?_
    refine q_ild rfl rfl ?_
    refine q_callV (as := [.int c]) (rest := []) rfl rfl sk_1 rfl (Nat.le_of_ble_eq_true rfl) ?_
    refine v_byteC (k := k) hc (by omega) ?_
    show dw_ok (pr_X11_isLawn K) 31 0 0 [some (.ref 0), some (.int sz), some (.int c)] [.int (I 2 k)] (n, SH1, I, J)
    refine q_ic rfl ?_
    refine q_icmp (c := 5) rfl (by decide) (fun y3 => ?_) (fun y3 => ?_)
    · have y3 : ((I 2 k)).toInt ≤ (2 : Int) := y3
      refine q_inc rfl rfl rfl ?_
      show dw_ok (pr_X11_isLawn K) 40 0 0 [some (.ref 0), some (.int sz), some (.int (c + 1))] [] (n, SH1, I, J)
      show dw_ok (pr_X11_isLawn K) 40 0 0 [some (.ref 0), some (.int sz), some (.int (c + 1))] [] (n, SH1, I, J)
      obtain ⟨cx, hcx⟩ : ∃ z, z = (c + 1) := ⟨_, rfl⟩
      rw [← hcx]
      have ecx : cx.toInt = ((k + 1 : Nat) : Int) := by rw [hcx]; exact ix_1 hc (by omega)
      refine q_goto rfl ?_
      refine ih (k + 1) cx (by omega) ecx (fun j hj => ?_)
      by_cases e : j = k
      · rw [e]; exact lwP_y (by omega)
      · exact hp j (by omega)
    · have y3 : (2 : Int) < ((I 2 k)).toInt := y3
      refine q_ic rfl ?_
      exact q_zret rfl (Or.inl rfl) (hk 0 (Or.inr ⟨rfl, al_n ⟨k, by omega, lwP_n (by omega)⟩⟩))
set_option maxRecDepth 8000 in
theorem v_isLawnC {n : Nat} {I : Nat → Nat → Int32} {J : Nat → Nat → Int64} {K : dw_K} {R b : Nat → Int32} (hG : GOK R) (h40 : I 4 0 = R 0) (h41 : I 4 1 = R 1) {sz : Int32} (hb : ∀ c, c < Nn R → I 2 c = b c) (hk : ∀ w : Int32, (w = 1 ∧ lwOK R b sz.toInt) ∨ (w = 0 ∧ ¬ lwOK R b sz.toInt) → K (some (.int w)) (n, SH1, I, J)) : t_X11_isLawn [.ref 0, .int sz] (n, SH1, I, J) K := by
  refine q_body (Nat.le_of_ble_eq_true rfl) ?_
  refine q_ild rfl rfl ?_
  refine q_ald rfl rfl ?_
  refine q_getr rfl sk_0 sr_0_1 ?_
  refine q_getr rfl sk_3 sr_3_1 ?_
  refine q_callV (as := []) (rest := [.int sz]) rfl rfl sk_4 rfl (Nat.le_of_ble_eq_true rfl) ?_
  refine v_gsize ?_
  show dw_ok (pr_X11_isLawn K) 11 0 0 [some (.ref 0), some (.int sz), none] [.int (I 4 0 * I 4 1), .int sz] (n, SH1, I, J)
  rw [show I 4 0 = R 0 from h40, show I 4 1 = R 1 from h41]
  obtain ⟨nv, hnv⟩ : ∃ z, z = R 0 * R 1 := ⟨_, rfl⟩
  rw [← hnv]
  have env : nv.toInt = Nn R := by rw [hnv]; exact (gok_N hG).1
  show dw_ok (pr_X11_isLawn K) 11 0 0 [some (.ref 0), some (.int sz), none] [.int nv, .int sz] (n, SH1, I, J)
  refine q_icmp (c := 0) rfl (by decide) (fun y1 => ?_) (fun y1 => ?_)
  · have y1 : (sz).toInt = (nv).toInt := y1
    refine q_ic rfl ?_
    refine q_ist rfl rfl ?_
    show dw_ok (pr_X11_isLawn K) 18 0 0 [some (.ref 0), some (.int sz), some (.int (0 : Int32))] [] (n, SH1, I, J)
    have hs : sz.toInt = Nn R := by omega
    refine isl_loop (b := b) hs (gok_N hG).2 hb (fun w hw => hk w ?_) (Nn R) 0 0 (by omega) rfl (fun j hj => absurd hj (Nat.not_lt_zero j))
    rcases hw with ⟨e, q⟩ | ⟨e, q⟩
    · exact Or.inl ⟨e, hs, q⟩
    · exact Or.inr ⟨e, fun z => by rw [z.2] at q; exact absurd q (by decide)⟩
  · have y1 : (sz).toInt ≠ (nv).toInt := y1
    refine q_ic rfl ?_
    exact q_zret rfl (Or.inl rfl) (hk 0 (Or.inr ⟨rfl, fun q => by have := q.1; omega⟩))
set_option maxRecDepth 8000 in
theorem lks_loop {n : Nat} {I : Nat → Nat → Int32} {J : Nat → Nat → Int64} {K : dw_K} {nv : Int32} {N : Nat} {b W : Nat → Int32} (hs : nv.toInt = N) (hN9 : N ≤ 144) (hn : (I 164 1).toInt = N) (hb : ∀ c, c < N → I 2 c = b c) (hW : ∀ c, c < N → I (164 + 14) c = W c)
    (hk : ∀ w : Int32, (w = 1 ∧ alF (lkP b W) N = true) ∨ (w = 0 ∧ alF (lkP b W) N = false) → K (some (.int w)) (n, SH1, I, J)) :
    ∀ (f k : Nat) (c : Int32) (u v : Option Value), k + f = N → c.toInt = k → (∀ j, j < k → lkP b W j = true) → dw_ok (pr_X11_looksSo K) 13 0 0 [some (.ref 0), some (.ref 164), some (.int nv), some (.int c), u, v] [] (n, SH1, I, J) := by
  have k2 : (2 : Int32).toInt = 2 := rfl
  have k1 : (1 : Int32).toInt = 1 := rfl
  have k0 : (0 : Int32).toInt = 0 := rfl
  intro f
  induction f with
  | zero =>
    intro k c u v hf hc hp
    refine q_ild rfl rfl ?_
    refine q_ild rfl rfl ?_
    refine q_icmp (c := 3) rfl (by decide) (fun y1 => ?_) (fun h => absurd (show (c).toInt < (nv).toInt from h) (by omega))
    have y1 : (nv).toInt ≤ (c).toInt := y1
    refine q_ic rfl ?_
    exact q_zret rfl (Or.inr rfl) (hk 1 (Or.inl ⟨rfl, al_y (fun j hj => hp j (by omega))⟩))
  | succ f ih =>
    intro k c u v hf hc hp
    have eb : (I 2 k).toInt = (b k).toInt := by rw [hb k (by omega)]
    have eW : (I (164 + 14) k).toInt = (W k).toInt := by rw [hW k (by omega)]
    refine q_ild rfl rfl ?_
    refine q_ild rfl rfl ?_
    refine q_icmp (c := 3) rfl (by decide) (fun h => absurd (show (nv).toInt ≤ (c).toInt from h) (by omega)) (fun y2 => ?_)
    have y2 : (c).toInt < (nv).toInt := y2
    refine q_ald rfl rfl ?_
    refine q_getr rfl sk_0 sr_0_0 ?_
    refine q_ild rfl rfl ?_
    refine q_callV (as := [.int c]) (rest := []) rfl rfl sk_1 rfl (Nat.le_of_ble_eq_true rfl) ?_
    refine v_byteC (k := k) hc (by omega) ?_
    show dw_ok (pr_X11_looksSo K) 26 0 0 [some (.ref 0), some (.ref 164), some (.int nv), some (.int c), u, v] [.int (I 2 k)] (n, SH1, I, J)
    refine q_ist rfl rfl ?_
    show dw_ok (pr_X11_looksSo K) 28 0 0 [some (.ref 0), some (.ref 164), some (.int nv), some (.int c), some (.int (I 2 k)), v] [] (n, SH1, I, J)
    refine q_ald rfl rfl ?_
    refine q_ild rfl rfl ?_
    refine q_callV (as := [.int c]) (rest := []) rfl rfl sk_164 rfl (Nat.le_of_ble_eq_true rfl) ?_
    refine v_waterOf (A := 164) (N := N) (k := k) (rt_ok (by decide)) hc hn hN9 (by omega) ?_
    show dw_ok (pr_X11_looksSo K) 33 0 0 [some (.ref 0), some (.ref 164), some (.int nv), some (.int c), some (.int (I 2 k)), v] [.int (I (164 + 14) k)] (n, SH1, I, J)
    refine q_if (c := 5) rfl (by decide) (fun y3 => ?_) (fun y3 => ?_)
    · have y3 : ((I (164 + 14) k)).toInt ≤ 0 := y3
      refine q_ic rfl ?_
      refine q_ist rfl rfl ?_
      show dw_ok (pr_X11_looksSo K) 43 0 0 [some (.ref 0), some (.ref 164), some (.int nv), some (.int c), some (.int (I 2 k)), some (.int (0 : Int32))] [] (n, SH1, I, J)
      refine q_ild rfl rfl ?_
      refine q_ic rfl ?_
      refine q_icmp (c := 0) rfl (by decide) (fun y4 => ?_) (fun y4 => ?_)
      · have y4 : ((I 2 k)).toInt = (2 : Int) := y4
        refine q_inc rfl rfl rfl ?_
        show dw_ok (pr_X11_looksSo K) 61 0 0 [some (.ref 0), some (.ref 164), some (.int nv), some (.int (c + 1)), some (.int (I 2 k)), some (.int (0 : Int32))] [] (n, SH1, I, J)
        show dw_ok (pr_X11_looksSo K) 61 0 0 [some (.ref 0), some (.ref 164), some (.int nv), some (.int (c + 1)), some (.int (I 2 k)), some (.int (0 : Int32))] [] (n, SH1, I, J)
        obtain ⟨cx, hcx⟩ : ∃ z, z = (c + 1) := ⟨_, rfl⟩
        rw [← hcx]
        have ecx : cx.toInt = ((k + 1 : Nat) : Int) := by rw [hcx]; exact ix_1 hc (by omega)
        refine q_goto rfl ?_
        have lw := (lk_w (W := W) (c := k)).2 (by omega)
        refine ih (k + 1) cx _ _ (by omega) ecx (fun j hj => ?_)
        by_cases e : j = k
        · rw [e]; exact lkP_y (by rw [lw]; omega)
        · exact hp j (by omega)
      · have y4 : ((I 2 k)).toInt ≠ (2 : Int) := y4
        refine q_ild rfl rfl ?_
        refine q_ild rfl rfl ?_
        refine q_icmp (c := 0) rfl (by decide) (fun y5 => ?_) (fun y5 => ?_)
        · have y5 : ((I 2 k)).toInt = (0 : Int) := y5
          refine q_inc rfl rfl rfl ?_
          show dw_ok (pr_X11_looksSo K) 61 0 0 [some (.ref 0), some (.ref 164), some (.int nv), some (.int (c + 1)), some (.int (I 2 k)), some (.int (0 : Int32))] [] (n, SH1, I, J)
          show dw_ok (pr_X11_looksSo K) 61 0 0 [some (.ref 0), some (.ref 164), some (.int nv), some (.int (c + 1)), some (.int (I 2 k)), some (.int (0 : Int32))] [] (n, SH1, I, J)
          obtain ⟨cx, hcx⟩ : ∃ z, z = (c + 1) := ⟨_, rfl⟩
          rw [← hcx]
          have ecx : cx.toInt = ((k + 1 : Nat) : Int) := by rw [hcx]; exact ix_1 hc (by omega)
          refine q_goto rfl ?_
          have lw := (lk_w (W := W) (c := k)).2 (by omega)
          refine ih (k + 1) cx _ _ (by omega) ecx (fun j hj => ?_)
          by_cases e : j = k
          · rw [e]; exact lkP_y (by rw [lw]; omega)
          · exact hp j (by omega)
        · have y5 : ((I 2 k)).toInt ≠ (0 : Int) := y5
          refine q_ic rfl ?_
          have lw := (lk_w (W := W) (c := k)).2 (by omega)
          exact q_zret rfl (Or.inl rfl) (hk 0 (Or.inr ⟨rfl, al_n ⟨k, by omega, lkP_n (by rw [lw]; omega)⟩⟩))
    · have y3 : 0 < ((I (164 + 14) k)).toInt := y3
      refine q_ic rfl ?_
      refine q_goto rfl ?_
      refine q_ist rfl rfl ?_
      show dw_ok (pr_X11_looksSo K) 43 0 0 [some (.ref 0), some (.ref 164), some (.int nv), some (.int c), some (.int (I 2 k)), some (.int (1 : Int32))] [] (n, SH1, I, J)
      refine q_ild rfl rfl ?_
      refine q_ic rfl ?_
      refine q_icmp (c := 0) rfl (by decide) (fun y6 => ?_) (fun y6 => ?_)
      · have y6 : ((I 2 k)).toInt = (2 : Int) := y6
        refine q_inc rfl rfl rfl ?_
        show dw_ok (pr_X11_looksSo K) 61 0 0 [some (.ref 0), some (.ref 164), some (.int nv), some (.int (c + 1)), some (.int (I 2 k)), some (.int (1 : Int32))] [] (n, SH1, I, J)
        show dw_ok (pr_X11_looksSo K) 61 0 0 [some (.ref 0), some (.ref 164), some (.int nv), some (.int (c + 1)), some (.int (I 2 k)), some (.int (1 : Int32))] [] (n, SH1, I, J)
        obtain ⟨cx, hcx⟩ : ∃ z, z = (c + 1) := ⟨_, rfl⟩
        rw [← hcx]
        have ecx : cx.toInt = ((k + 1 : Nat) : Int) := by rw [hcx]; exact ix_1 hc (by omega)
        refine q_goto rfl ?_
        have lw := (lk_w (W := W) (c := k)).1 (by omega)
        refine ih (k + 1) cx _ _ (by omega) ecx (fun j hj => ?_)
        by_cases e : j = k
        · rw [e]; exact lkP_y (by rw [lw]; omega)
        · exact hp j (by omega)
      · have y6 : ((I 2 k)).toInt ≠ (2 : Int) := y6
        refine q_ild rfl rfl ?_
        refine q_ild rfl rfl ?_
        refine q_icmp (c := 0) rfl (by decide) (fun y7 => ?_) (fun y7 => ?_)
        · have y7 : ((I 2 k)).toInt = (1 : Int) := y7
          refine q_inc rfl rfl rfl ?_
          show dw_ok (pr_X11_looksSo K) 61 0 0 [some (.ref 0), some (.ref 164), some (.int nv), some (.int (c + 1)), some (.int (I 2 k)), some (.int (1 : Int32))] [] (n, SH1, I, J)
          show dw_ok (pr_X11_looksSo K) 61 0 0 [some (.ref 0), some (.ref 164), some (.int nv), some (.int (c + 1)), some (.int (I 2 k)), some (.int (1 : Int32))] [] (n, SH1, I, J)
          obtain ⟨cx, hcx⟩ : ∃ z, z = (c + 1) := ⟨_, rfl⟩
          rw [← hcx]
          have ecx : cx.toInt = ((k + 1 : Nat) : Int) := by rw [hcx]; exact ix_1 hc (by omega)
          refine q_goto rfl ?_
          have lw := (lk_w (W := W) (c := k)).1 (by omega)
          refine ih (k + 1) cx _ _ (by omega) ecx (fun j hj => ?_)
          by_cases e : j = k
          · rw [e]; exact lkP_y (by rw [lw]; omega)
          · exact hp j (by omega)
        · have y7 : ((I 2 k)).toInt ≠ (1 : Int) := y7
          refine q_ic rfl ?_
          have lw := (lk_w (W := W) (c := k)).1 (by omega)
          exact q_zret rfl (Or.inl rfl) (hk 0 (Or.inr ⟨rfl, al_n ⟨k, by omega, lkP_n (by rw [lw]; omega)⟩⟩))
set_option maxRecDepth 8000 in
theorem v_looksSo {n : Nat} {I : Nat → Nat → Int32} {J : Nat → Nat → Int64} {K : dw_K} {R b W : Nat → Int32} (hG : GOK R) (h40 : I 4 0 = R 0) (h41 : I 4 1 = R 1) (hn : (I 164 1).toInt = Nn R) (hb : ∀ c, c < Nn R → I 2 c = b c) (hW : ∀ c, c < Nn R → I (164 + 14) c = W c) (hk : ∀ w : Int32, (w = 1 ∧ alF (lkP b W) (Nn R) = true) ∨ (w = 0 ∧ alF (lkP b W) (Nn R) = false) → K (some (.int w)) (n, SH1, I, J)) : t_X11_looksSo [.ref 0, .ref 164] (n, SH1, I, J) K := by
  refine q_body (Nat.le_of_ble_eq_true rfl) ?_
  refine q_ald rfl rfl ?_
  refine q_getr rfl sk_0 sr_0_1 ?_
  refine q_getr rfl sk_3 sr_3_1 ?_
  refine q_callV (as := []) (rest := []) rfl rfl sk_4 rfl (Nat.le_of_ble_eq_true rfl) ?_
  refine v_gsize ?_
  show dw_ok (pr_X11_looksSo K) 10 0 0 [some (.ref 0), some (.ref 164), none, none, none, none] [.int (I 4 0 * I 4 1)] (n, SH1, I, J)
  rw [show I 4 0 = R 0 from h40, show I 4 1 = R 1 from h41]
  obtain ⟨nv, hnv⟩ : ∃ z, z = R 0 * R 1 := ⟨_, rfl⟩
  rw [← hnv]
  have env : nv.toInt = Nn R := by rw [hnv]; exact (gok_N hG).1
  show dw_ok (pr_X11_looksSo K) 10 0 0 [some (.ref 0), some (.ref 164), none, none, none, none] [.int nv] (n, SH1, I, J)
  refine q_ist rfl rfl ?_
  show dw_ok (pr_X11_looksSo K) 11 0 0 [some (.ref 0), some (.ref 164), some (.int nv), none, none, none] [] (n, SH1, I, J)
  refine q_ic rfl ?_
  refine q_ist rfl rfl ?_
  show dw_ok (pr_X11_looksSo K) 13 0 0 [some (.ref 0), some (.ref 164), some (.int nv), some (.int (0 : Int32)), none, none] [] (n, SH1, I, J)
  exact lks_loop env (gok_N hG).2 hn hb hW hk (Nn R) 0 0 _ _ (by omega) rfl (fun j hj => absurd hj (Nat.not_lt_zero j))
set_option maxRecDepth 8000 in
theorem mtl_loop {n : Nat} {I : Nat → Nat → Int32} {J : Nat → Nat → Int64} {K : dw_K} {N : Nat} {b : Nat → Int32} (hs : (I 404 3).toInt = N) (hN9 : N ≤ 144) (hb : ∀ c, c < N → I 405 c &&& 255 = b c)
    (hk : ∀ w : Int32, (w = 1 ∧ alF (lwP b) N = true) ∨ (w = 0 ∧ alF (lwP b) N = false) → K (some (.int w)) (n, SH1, I, J)) :
    ∀ (f k : Nat) (c : Int32), k + f = N → c.toInt = k → (∀ j, j < k → lwP b j = true) → dw_ok (pr_X12_takesLawn K) 22 0 0 [some (.ref 404), some (.int c)] [] (n, SH1, I, J) := by
  have k2 : (2 : Int32).toInt = 2 := rfl
  intro f
  induction f with
  | zero =>
    intro k c hf hc hp
    refine q_ild rfl rfl ?_
    refine q_ald rfl rfl ?_
    refine q_geti rfl sk_404 ?_
    refine q_icmp (c := 3) rfl (by decide) (fun y1 => ?_) (fun h => absurd (show (c).toInt < ((I 404 3)).toInt from h) (by omega))
    have y1 : ((I 404 3)).toInt ≤ (c).toInt := y1
    refine q_ic rfl ?_
    exact q_zret rfl (Or.inr rfl) (hk 1 (Or.inl ⟨rfl, al_y (fun j hj => hp j (by omega))⟩))
  | succ f ih =>
    intro k c hf hc hp
    refine q_ild rfl rfl ?_
    refine q_ald rfl rfl ?_
    refine q_geti rfl sk_404 ?_
    refine q_icmp (c := 3) rfl (by decide) (fun h => absurd (show ((I 404 3)).toInt ≤ (c).toInt from h) (by omega)) (fun y2 => ?_)
    have y2 : (c).toInt < ((I 404 3)).toInt := y2
    refine q_ald rfl rfl ?_
    refine q_ild rfl rfl ?_
    refine q_callV (as := [.int c]) (rest := []) rfl rfl sk_404 rfl (Nat.le_of_ble_eq_true rfl) ?_
    refine v_octM (k := k) hc (by omega) ?_
    show dw_ok (pr_X12_takesLawn K) 35 0 0 [some (.ref 404), some (.int c)] [.int (I 405 k &&& 255)] (n, SH1, I, J)
    rw [hb k (by omega)]
    show dw_ok (pr_X12_takesLawn K) 35 0 0 [some (.ref 404), some (.int c)] [.int (b k)] (n, SH1, I, J)
    refine q_ic rfl ?_
    refine q_icmp (c := 5) rfl (by decide) (fun y3 => ?_) (fun y3 => ?_)
    · have y3 : ((b k)).toInt ≤ (2 : Int) := y3
      refine q_inc rfl rfl rfl ?_
      show dw_ok (pr_X12_takesLawn K) 44 0 0 [some (.ref 404), some (.int (c + 1))] [] (n, SH1, I, J)
      show dw_ok (pr_X12_takesLawn K) 44 0 0 [some (.ref 404), some (.int (c + 1))] [] (n, SH1, I, J)
      obtain ⟨cx, hcx⟩ : ∃ z, z = (c + 1) := ⟨_, rfl⟩
      rw [← hcx]
      have ecx : cx.toInt = ((k + 1 : Nat) : Int) := by rw [hcx]; exact ix_1 hc (by omega)
      refine q_goto rfl ?_
      refine ih (k + 1) cx (by omega) ecx (fun j hj => ?_)
      by_cases e : j = k
      · rw [e]; exact lwP_y (by omega)
      · exact hp j (by omega)
    · have y3 : (2 : Int) < ((b k)).toInt := y3
      refine q_ic rfl ?_
      exact q_zret rfl (Or.inl rfl) (hk 0 (Or.inr ⟨rfl, al_n ⟨k, by omega, lwP_n (by omega)⟩⟩))
set_option maxRecDepth 8000 in
theorem v_takesLawn {n : Nat} {I : Nat → Nat → Int32} {J : Nat → Nat → Int64} {K : dw_K} {R b : Nat → Int32} (hR : I 406 = R) (hG : GOK R) (hb : ∀ c, c < Nn R → I 405 c &&& 255 = b c) (hk : ∀ (w : Int32) (I' : Nat → Nat → Int32), (∀ a, a ≠ 404 → I' a = I a) → (w = 1 ∧ lwOK R b (I 404 2).toInt) ∨ (w = 0 ∧ ¬ lwOK R b (I 404 2).toInt) → K (some (.int w)) (n, SH1, I', J)) : t_X12_takesLawn [.ref 404] (n, SH1, I, J) K := by
  refine q_body (Nat.le_of_ble_eq_true rfl) ?_
  refine q_ald rfl rfl ?_
  refine q_ic rfl ?_
  refine q_callV (as := [.int (940 : Int32)]) (rest := []) rfl rfl sk_404 rfl (Nat.le_of_ble_eq_true rfl) ?_
  refine v_taken ?_
  show dw_ok (pr_X12_takesLawn K) 7 0 0 [some (.ref 404), none] [] (n, SH1, (dw_up (dw_up (dw_up (dw_up I 404 3 (I 404 2)) 404 2 0) 404 4 0) 404 5 (940 : Int32)), J)
  obtain ⟨I1, hI1⟩ : ∃ X, X = (dw_up (dw_up (dw_up (dw_up I 404 3 (I 404 2)) 404 2 0) 404 4 0) 404 5 (940 : Int32)) := ⟨_, rfl⟩
  rw [← hI1]
  have r1 : ∀ a, a ≠ 404 → I1 a = I a := fun a p => by rw [hI1]; exact (up_row p).trans ((up_row p).trans ((up_row p).trans (up_row p)))
  have s3 : I1 404 3 = I 404 2 := by rw [hI1]; exact (up_fld (by decide)).trans ((up_fld (by decide)).trans ((up_fld (by decide)).trans up_same))
  have e1 : I1 406 = R := (r1 406 (by decide)).trans hR
  have hN := (gok_N hG).1
  show dw_ok (pr_X12_takesLawn K) 7 0 0 [some (.ref 404), none] [] (n, SH1, I1, J)
  refine q_ald rfl rfl ?_
  refine q_geti rfl sk_404 ?_
  refine q_ald rfl rfl ?_
  refine q_callV (as := []) (rest := [.int (I1 404 3)]) rfl rfl sk_404 rfl (Nat.le_of_ble_eq_true rfl) ?_
  refine v_mcells ?_
  show dw_ok (pr_X12_takesLawn K) 15 0 0 [some (.ref 404), none] [.int (I1 406 0 * I1 406 1), .int (I1 404 3)] (n, SH1, I1, J)
  rw [show I1 406 = R from e1]
  obtain ⟨nv1, hnv1⟩ : ∃ z, z = R 0 * R 1 := ⟨_, rfl⟩
  rw [← hnv1]
  have env1 : nv1.toInt = Nn R := by rw [hnv1]; exact hN
  show dw_ok (pr_X12_takesLawn K) 15 0 0 [some (.ref 404), none] [.int nv1, .int (I1 404 3)] (n, SH1, I1, J)
  refine q_icmp (c := 0) rfl (by decide) (fun y2 => ?_) (fun y2 => ?_)
  · have y2 : ((I1 404 3)).toInt = (nv1).toInt := y2
    refine q_ic rfl ?_
    refine q_ist rfl rfl ?_
    show dw_ok (pr_X12_takesLawn K) 22 0 0 [some (.ref 404), some (.int (0 : Int32))] [] (n, SH1, I1, J)
    have s4 := congrArg Int32.toInt s3
    have hs : (I1 404 3).toInt = Nn R := by omega
    refine mtl_loop (b := b) hs (gok_N hG).2 (fun c hc => by rw [r1 405 (by decide)]; exact hb c hc) (fun w hw => hk w I1 r1 ?_) (Nn R) 0 0 (by omega) rfl (fun j hj => absurd hj (Nat.not_lt_zero j))
    rcases hw with ⟨e, q⟩ | ⟨e, q⟩
    · exact Or.inl ⟨e, by rw [← s4]; exact hs, q⟩
    · exact Or.inr ⟨e, fun z => by rw [z.2] at q; exact absurd q (by decide)⟩
  · have y2 : ((I1 404 3)).toInt ≠ (nv1).toInt := y2
    refine q_ic rfl ?_
    exact q_zret rfl (Or.inl rfl) (hk 0 I1 r1 (Or.inr ⟨rfl, fun q => by have := q.1; have := congrArg Int32.toInt s3; omega⟩))
set_option maxRecDepth 8000 in
theorem alw2 {b : Nat → Int32} : ∀ {N k : Nat}, alF (lwP b) N = true → k < N → (b k).toInt ≤ 2
  | 0, _, _, hk => absurd hk (Nat.not_lt_zero _)
  | N + 1, k, h, hk => by
    have h : (alF (lwP b) N && lwP b N) = true := h
    rw [Bool.and_eq_true] at h
    by_cases e : k = N
    · rw [e]; exact of_decide_eq_true h.2
    · exact alw2 h.1 (by omega)
set_option maxRecDepth 8000 in
theorem mil_loop {n : Nat} {I : Nat → Nat → Int32} {J : Nat → Nat → Int64} {K : dw_K} {R b W : Nat → Int32} (e1 : I 406 = R) (hG : GOK R) (hb : ∀ c, c < Nn R → I 405 c &&& 255 = b c) (hW : ∀ c, c < Nn R → I 417 c = W c) (h2 : alF (lwP b) (Nn R) = true)
    (hk : ∀ w : Int32, (w = 1 ∧ alF (lkP b W) (Nn R) = true) ∨ (w = 0 ∧ alF (lkP b W) (Nn R) = false) → K (some (.int w)) (n, SH1, I, J)) :
    ∀ (f k : Nat) (c : Int32), k + f = Nn R → c.toInt = k → (∀ j, j < k → lkP b W j = true) → dw_ok (pr_X12_isLawn K) 2 0 0 [some (.ref 404), some (.int c)] [] (n, SH1, I, J) := by
  obtain ⟨hN, hN9⟩ := gok_N hG
  have k2 : (2 : Int32).toInt = 2 := rfl
  have k1 : (1 : Int32).toInt = 1 := rfl
  have k0 : (0 : Int32).toInt = 0 := rfl
  intro f
  induction f with
  | zero =>
    intro k c hf hc hp
    refine q_ild rfl rfl ?_
    refine q_ald rfl rfl ?_
    refine q_callV (as := []) (rest := [.int c]) rfl rfl sk_404 rfl (Nat.le_of_ble_eq_true rfl) ?_
    refine v_mcells ?_
    show dw_ok (pr_X12_isLawn K) 7 0 0 [some (.ref 404), some (.int c)] [.int (I 406 0 * I 406 1), .int c] (n, SH1, I, J)
    rw [show I 406 = R from e1]
    obtain ⟨nv1, hnv1⟩ : ∃ z, z = R 0 * R 1 := ⟨_, rfl⟩
    rw [← hnv1]
    have env1 : nv1.toInt = Nn R := by rw [hnv1]; exact hN
    show dw_ok (pr_X12_isLawn K) 7 0 0 [some (.ref 404), some (.int c)] [.int nv1, .int c] (n, SH1, I, J)
    refine q_icmp (c := 3) rfl (by decide) (fun y2 => ?_) (fun h => absurd (show (c).toInt < (nv1).toInt from h) (by omega))
    have y2 : (nv1).toInt ≤ (c).toInt := y2
    refine q_ic rfl ?_
    exact q_zret rfl (Or.inr rfl) (hk 1 (Or.inl ⟨rfl, al_y (fun j hj => hp j (by omega))⟩))
  | succ f ih =>
    intro k c hf hc hp
    have hcn : c.toInt.toNat = k := by omega
    have b2 : (b k).toInt ≤ 2 := alw2 h2 (by omega)
    have eW : (I 417 k).toInt = (W k).toInt := by rw [hW k (by omega)]
    refine q_ild rfl rfl ?_
    refine q_ald rfl rfl ?_
    refine q_callV (as := []) (rest := [.int c]) rfl rfl sk_404 rfl (Nat.le_of_ble_eq_true rfl) ?_
    refine v_mcells ?_
    show dw_ok (pr_X12_isLawn K) 7 0 0 [some (.ref 404), some (.int c)] [.int (I 406 0 * I 406 1), .int c] (n, SH1, I, J)
    rw [show I 406 = R from e1]
    obtain ⟨nv3, hnv3⟩ : ∃ z, z = R 0 * R 1 := ⟨_, rfl⟩
    rw [← hnv3]
    have env3 : nv3.toInt = Nn R := by rw [hnv3]; exact hN
    show dw_ok (pr_X12_isLawn K) 7 0 0 [some (.ref 404), some (.int c)] [.int nv3, .int c] (n, SH1, I, J)
    refine q_icmp (c := 3) rfl (by decide) (fun h => absurd (show (nv3).toInt ≤ (c).toInt from h) (by omega)) (fun y4 => ?_)
    have y4 : (c).toInt < (nv3).toInt := y4
    refine q_ald rfl rfl ?_
    refine q_ild rfl rfl ?_
    refine q_callV (as := [.int c]) (rest := []) rfl rfl sk_404 rfl (Nat.le_of_ble_eq_true rfl) ?_
    refine v_octM (k := k) hc (by omega) ?_
    show dw_ok (pr_X12_isLawn K) 15 0 0 [some (.ref 404), some (.int c)] [.int (I 405 k &&& 255)] (n, SH1, I, J)
    rw [hb k (by omega)]
    show dw_ok (pr_X12_isLawn K) 15 0 0 [some (.ref 404), some (.int c)] [.int (b k)] (n, SH1, I, J)
    refine q_ic rfl ?_
    refine q_icmp (c := 3) rfl (by decide) (fun y5 => ?_) (fun y5 => ?_)
    · have y5 : (2 : Int) ≤ ((b k)).toInt := y5
      refine q_inc rfl rfl rfl ?_
      show dw_ok (pr_X12_isLawn K) 46 0 0 [some (.ref 404), some (.int (c + 1))] [] (n, SH1, I, J)
      show dw_ok (pr_X12_isLawn K) 46 0 0 [some (.ref 404), some (.int (c + 1))] [] (n, SH1, I, J)
      obtain ⟨cx, hcx⟩ : ∃ z, z = (c + 1) := ⟨_, rfl⟩
      rw [← hcx]
      have ecx : cx.toInt = ((k + 1 : Nat) : Int) := by rw [hcx]; exact ix_1 hc (by omega)
      refine q_goto rfl ?_
      refine ih (k + 1) cx (by omega) ecx (fun j hj => ?_)
      by_cases e : j = k
      · rw [e]; exact lkP_y (Or.inl (by omega))
      · exact hp j (by omega)
    · have y5 : ((b k)).toInt < (2 : Int) := y5
      refine q_ald rfl rfl ?_
      refine q_ild rfl rfl ?_
      refine q_callV (as := [.int c]) (rest := []) rfl rfl sk_404 rfl (Nat.le_of_ble_eq_true rfl) ?_
      refine v_octM (k := k) hc (by omega) ?_
      show dw_ok (pr_X12_isLawn K) 24 0 0 [some (.ref 404), some (.int c)] [.int (I 405 k &&& 255)] (n, SH1, I, J)
      rw [hb k (by omega)]
      show dw_ok (pr_X12_isLawn K) 24 0 0 [some (.ref 404), some (.int c)] [.int (b k)] (n, SH1, I, J)
      refine q_ald rfl rfl ?_
      refine q_getr rfl sk_404 sr_404_29 ?_
      refine q_ild rfl rfl ?_
      refine q_xald rfl (Or.inl rfl) sk_417 sn_417 (by omega) (by omega) ?_
      show dw_ok (pr_X12_isLawn K) 30 0 0 [some (.ref 404), some (.int c)] [.int (I 417 (c).toInt.toNat), .int (b k)] (n, SH1, I, J)
      rw [hcn]
      refine q_if (c := 5) rfl (by decide) (fun y6 => ?_) (fun y6 => ?_)
      · have y6 : ((I 417 k)).toInt ≤ 0 := y6
        refine q_ic rfl ?_
        refine q_icmp (c := 0) rfl (by decide) (fun y7 => ?_) (fun y7 => ?_)
        · have y7 : ((b k)).toInt = (0 : Int) := y7
          refine q_inc rfl rfl rfl ?_
          show dw_ok (pr_X12_isLawn K) 46 0 0 [some (.ref 404), some (.int (c + 1))] [] (n, SH1, I, J)
          show dw_ok (pr_X12_isLawn K) 46 0 0 [some (.ref 404), some (.int (c + 1))] [] (n, SH1, I, J)
          obtain ⟨cx, hcx⟩ : ∃ z, z = (c + 1) := ⟨_, rfl⟩
          rw [← hcx]
          have ecx : cx.toInt = ((k + 1 : Nat) : Int) := by rw [hcx]; exact ix_1 hc (by omega)
          refine q_goto rfl ?_
          have lw := (lk_w (W := W) (c := k)).2 (by omega)
          refine ih (k + 1) cx (by omega) ecx (fun j hj => ?_)
          by_cases e : j = k
          · rw [e]; exact lkP_y (by rw [lw]; omega)
          · exact hp j (by omega)
        · have y7 : ((b k)).toInt ≠ (0 : Int) := y7
          refine q_ic rfl ?_
          have lw := (lk_w (W := W) (c := k)).2 (by omega)
          exact q_zret rfl (Or.inl rfl) (hk 0 (Or.inr ⟨rfl, al_n ⟨k, by omega, lkP_n (by rw [lw]; omega)⟩⟩))
      · have y6 : 0 < ((I 417 k)).toInt := y6
        refine q_ic rfl ?_
        refine q_goto rfl ?_
        refine q_icmp (c := 0) rfl (by decide) (fun y8 => ?_) (fun y8 => ?_)
        · have y8 : ((b k)).toInt = (1 : Int) := y8
          refine q_inc rfl rfl rfl ?_
          show dw_ok (pr_X12_isLawn K) 46 0 0 [some (.ref 404), some (.int (c + 1))] [] (n, SH1, I, J)
          show dw_ok (pr_X12_isLawn K) 46 0 0 [some (.ref 404), some (.int (c + 1))] [] (n, SH1, I, J)
          obtain ⟨cx, hcx⟩ : ∃ z, z = (c + 1) := ⟨_, rfl⟩
          rw [← hcx]
          have ecx : cx.toInt = ((k + 1 : Nat) : Int) := by rw [hcx]; exact ix_1 hc (by omega)
          refine q_goto rfl ?_
          have lw := (lk_w (W := W) (c := k)).1 (by omega)
          refine ih (k + 1) cx (by omega) ecx (fun j hj => ?_)
          by_cases e : j = k
          · rw [e]; exact lkP_y (by rw [lw]; omega)
          · exact hp j (by omega)
        · have y8 : ((b k)).toInt ≠ (1 : Int) := y8
          refine q_ic rfl ?_
          have lw := (lk_w (W := W) (c := k)).1 (by omega)
          exact q_zret rfl (Or.inl rfl) (hk 0 (Or.inr ⟨rfl, al_n ⟨k, by omega, lkP_n (by rw [lw]; omega)⟩⟩))
set_option maxRecDepth 8000 in
theorem v_misLawn {n : Nat} {I : Nat → Nat → Int32} {J : Nat → Nat → Int64} {K : dw_K} {R b W : Nat → Int32} (e1 : I 406 = R) (hG : GOK R) (hb : ∀ c, c < Nn R → I 405 c &&& 255 = b c) (hW : ∀ c, c < Nn R → I 417 c = W c) (h2 : alF (lwP b) (Nn R) = true)
    (hk : ∀ w : Int32, (w = 1 ∧ alF (lkP b W) (Nn R) = true) ∨ (w = 0 ∧ alF (lkP b W) (Nn R) = false) → K (some (.int w)) (n, SH1, I, J)) : t_X12_isLawn [.ref 404] (n, SH1, I, J) K := by
  refine q_body (Nat.le_of_ble_eq_true rfl) ?_
  refine q_ic rfl ?_
  refine q_ist rfl rfl ?_
  exact mil_loop e1 hG hb hW h2 hk (Nn R) 0 0 (by omega) rfl (fun j hj => absurd hj (Nat.not_lt_zero j))
/-- which SLOTS look so at six: the first k -/
def lsB (R b : Nat → Int32) (s : Nat) : Prop := 0 ≤ (R (221 + 97 * s)).toInt ∧ alF (lkP b (runW R (nS R s) 0 72).2.1) (Nn R) = true
noncomputable def lsW (R b : Nat → Int32) : Nat → Int32
  | 0 => 0
  | k + 1 => @ite Int32 (lsB R b k) (Classical.propDecidable _) (lsW R b k ||| (1 : Int32) <<< (Int32.ofNat k &&& 31)) (lsW R b k)
set_option maxRecDepth 8000 in
theorem ls_y {R b : Nat → Int32} {k : Nat} (h : lsB R b k) : lsW R b (k + 1) = lsW R b k ||| (1 : Int32) <<< (Int32.ofNat k &&& 31) := by
  show @ite Int32 (lsB R b k) (Classical.propDecidable _) _ _ = _
  rw [if_pos h]
set_option maxRecDepth 8000 in
theorem ls_n {R b : Nat → Int32} {k : Nat} (h : ¬ lsB R b k) : lsW R b (k + 1) = lsW R b k := by
  show @ite Int32 (lsB R b k) (Classical.propDecidable _) _ _ = _
  rw [if_neg h]
noncomputable def aLawn (R b : Nat → Int32) (sz : Int) : Int := @ite Int (lwOK R b sz) (Classical.propDecidable _) (lsW R b 6).toInt (-1)
set_option maxRecDepth 8000 in
theorem lawn_y {R b : Nat → Int32} {sz : Int} (h : lwOK R b sz) : aLawn R b sz = (lsW R b 6).toInt := by
  unfold aLawn
  rw [if_pos h]
set_option maxRecDepth 8000 in
theorem lawn_n {R b : Nat → Int32} {sz : Int} (h : ¬ lwOK R b sz) : aLawn R b sz = -1 := by
  unfold aLawn
  rw [if_neg h]
set_option maxRecDepth 8000 in
theorem nok_0 {R : Nat → Int32} {s : Nat} (h : NOK (nS R s)) : 0 ≤ (R (221 + 97 * s)).toInt := by
  have q2 : (R (221 + 97 * s + 0)).toInt = _ := h.1.1
  rw [Nat.add_zero] at q2
  omega
set_option maxRecDepth 8000 in
theorem lawn_loop {n : Nat} {J : Nat → Nat → Int64} {K : dw_K} {R b : Nat → Int32} {sz : Int32} (hG : GOK R) (hk : ∀ I' : Nat → Nat → Int32, K (some (.int (lsW R b 6))) (n, SH1, I', J)) :
    ∀ (f k : Nat) (v t : Int32) (I : Nat → Nat → Int32), k + f = 6 → t.toInt = k → v = lsW R b k → SREL I 3 R → (∀ c, c < Nn R → I 2 c = b c) → dw_ok (pr_X11_lawn K) 30 0 0 [some (.ref 0), some (.int sz), some (.int v), some (.int t)] [] (n, SH1, I, J) := by
  have cm1 : (-1 : Int32).toInt = -1 := rfl
  have k0 : (0 : Int32).toInt = 0 := rfl
  have k1 : (1 : Int32).toInt = 1 := rfl
  have k71 : (71 : Int32).toInt = 71 := rfl
  intro f
  induction f with
  | zero =>
    intro k v t I hf ht hv hR hb
    obtain rfl : k = 6 := by omega
    refine q_ild rfl rfl ?_
    refine q_ic rfl ?_
    refine q_icmp (c := 3) rfl (by decide) (fun y1 => ?_) (fun h => absurd (show (t).toInt < (6 : Int) from h) (by omega))
    have y1 : (6 : Int) ≤ (t).toInt := y1
    refine q_ild rfl rfl ?_
    rw [hv]
    exact q_iret rfl (hk I)
  | succ f ih =>
    intro k v t I hf ht hv hR hb
    have eo := of_nat ht (by omega)
    refine q_ild rfl rfl ?_
    refine q_ic rfl ?_
    refine q_icmp (c := 3) rfl (by decide) (fun h => absurd (show (6 : Int) ≤ (t).toInt from h) (by omega)) (fun y2 => ?_)
    have y2 : (t).toInt < (6 : Int) := y2
    refine q_ald rfl rfl ?_
    refine q_ild rfl rfl ?_
    refine q_ic rfl ?_
    refine q_callV (as := [.int t, .int (71 : Int32)]) (rest := []) rfl rfl sk_0 rfl (Nat.le_of_ble_eq_true rfl) ?_
    refine v_behind hR (fun s k2 hs hxs htk hk9 hS I1 q0 q1 q2 => ?_) (fun hno I1 eI1 => ?_)
    · have e2 : k2 = 71 := by omega
      have es : s = k := by omega
      rw [e2, es] at q2
      rw [es] at hS
      have th := nok_0 hS
      have hR2 : SREL I1 3 R := srel_fr (S := 3) (fun a p q => q0 a (by omega)) (fun _ _ => rfl) hR
      have hb2 : ∀ c, c < Nn R → I1 2 c = b c := fun c hc => by rw [q0 2 (by decide)]; exact hb c hc
      show dw_ok (pr_X11_lawn K) 43 0 0 [some (.ref 0), some (.int sz), some (.int v), some (.int t)] [.int (1 : Int32)] (n, SH1, I1, J)
      refine q_if (c := 0) rfl (by decide) (fun h => absurd (show (1 : Int) = 0 from h) (by decide)) (fun y3 => ?_)
      have y3 : (1 : Int) ≠ 0 := y3
      refine q_ald rfl rfl ?_
      refine q_ald rfl rfl ?_
      refine q_getr rfl sk_0 sr_0_6 ?_
      refine q_callV (as := [.ref 164]) (rest := []) rfl rfl sk_0 rfl (Nat.le_of_ble_eq_true rfl) ?_
      refine v_looksSo (R := R) (b := b) (W := (runW R (nS R k) 0 72).2.1) hG (by rw [q0 4 (by decide)]; exact (rg_3 hR).1 0 (by decide)) (by rw [q0 4 (by decide)]; exact (rg_3 hR).1 1 (by decide)) q1 hb2 (fun c hc => q2.2.1 c hc) (fun w_ hw => ?_)
      rcases hw with ⟨rfl, hw⟩ | ⟨rfl, hw⟩
      · show dw_ok (pr_X11_lawn K) 54 0 0 [some (.ref 0), some (.int sz), some (.int v), some (.int t)] [.int (1 : Int32)] (n, SH1, I1, J)
        refine q_if (c := 0) rfl (by decide) (fun h => absurd (show (1 : Int) = 0 from h) (by decide)) (fun y4 => ?_)
        have y4 : (1 : Int) ≠ 0 := y4
        refine q_ild rfl rfl ?_
        refine q_ic rfl ?_
        refine q_ild rfl rfl ?_
        refine q_ishl rfl ?_
        refine q_ior rfl ?_
        refine q_ist rfl rfl ?_
        show dw_ok (pr_X11_lawn K) 63 0 0 [some (.ref 0), some (.int sz), some (.int (v ||| ((1 : Int32) <<< (t &&& 31)))), some (.int t)] [] (n, SH1, I1, J)
        refine q_inc rfl rfl rfl ?_
        show dw_ok (pr_X11_lawn K) 66 0 0 [some (.ref 0), some (.int sz), some (.int (v ||| ((1 : Int32) <<< (t &&& 31)))), some (.int (t + 1))] [] (n, SH1, I1, J)
        show dw_ok (pr_X11_lawn K) 66 0 0 [some (.ref 0), some (.int sz), some (.int (v ||| ((1 : Int32) <<< (t &&& 31)))), some (.int (t + 1))] [] (n, SH1, I1, J)
        obtain ⟨tx, htx⟩ : ∃ z, z = (t + 1) := ⟨_, rfl⟩
        rw [← htx]
        have etx : tx.toInt = ((k + 1 : Nat) : Int) := by rw [htx]; exact ix_1 ht (by omega)
        refine q_goto rfl ?_
        exact ih (k + 1) (v ||| ((1 : Int32) <<< (t &&& 31))) tx I1 (by omega) etx (by rw [ls_y ⟨th, hw⟩, hv, eo]) hR2 hb2
      · show dw_ok (pr_X11_lawn K) 54 0 0 [some (.ref 0), some (.int sz), some (.int v), some (.int t)] [.int (0 : Int32)] (n, SH1, I1, J)
        refine q_if (c := 0) rfl (by decide) (fun y5 => ?_) (fun h => absurd (show (0 : Int) ≠ 0 from h) (by decide))
        have y5 : (0 : Int) = 0 := y5
        refine q_inc rfl rfl rfl ?_
        show dw_ok (pr_X11_lawn K) 66 0 0 [some (.ref 0), some (.int sz), some (.int v), some (.int (t + 1))] [] (n, SH1, I1, J)
        show dw_ok (pr_X11_lawn K) 66 0 0 [some (.ref 0), some (.int sz), some (.int v), some (.int (t + 1))] [] (n, SH1, I1, J)
        obtain ⟨tx, htx⟩ : ∃ z, z = (t + 1) := ⟨_, rfl⟩
        rw [← htx]
        have etx : tx.toInt = ((k + 1 : Nat) : Int) := by rw [htx]; exact ix_1 ht (by omega)
        refine q_goto rfl ?_
        exact ih (k + 1) v tx I1 (by omega) etx (by rw [ls_n (fun z => by rw [z.2] at hw; exact absurd hw (by decide))]; exact hv) hR2 hb2
    · subst eI1
      have th : ¬ 0 ≤ (R (221 + 97 * k)).toInt := fun z => hno.elim (fun g => g ⟨by omega, by omega⟩) (fun g => by
        have q : (R (221 + 97 * k + 0)).toInt < 0 := g k (by omega) ht
        rw [Nat.add_zero] at q; omega)
      show dw_ok (pr_X11_lawn K) 43 0 0 [some (.ref 0), some (.int sz), some (.int v), some (.int t)] [.int (0 : Int32)] (n, SH1, I1, J)
      refine q_if (c := 0) rfl (by decide) (fun y6 => ?_) (fun h => absurd (show (0 : Int) ≠ 0 from h) (by decide))
      have y6 : (0 : Int) = 0 := y6
      refine q_inc rfl rfl rfl ?_
      show dw_ok (pr_X11_lawn K) 66 0 0 [some (.ref 0), some (.int sz), some (.int v), some (.int (t + 1))] [] (n, SH1, I1, J)
      show dw_ok (pr_X11_lawn K) 66 0 0 [some (.ref 0), some (.int sz), some (.int v), some (.int (t + 1))] [] (n, SH1, I1, J)
      obtain ⟨tx, htx⟩ : ∃ z, z = (t + 1) := ⟨_, rfl⟩
      rw [← htx]
      have etx : tx.toInt = ((k + 1 : Nat) : Int) := by rw [htx]; exact ix_1 ht (by omega)
      refine q_goto rfl ?_
      exact ih (k + 1) v tx I1 (by omega) etx (by rw [ls_n (fun z => th z.1)]; exact hv) hR hb
set_option maxRecDepth 8000 in
theorem v_clawn {n : Nat} {I : Nat → Nat → Int32} {J : Nat → Nat → Int64} {K : dw_K} {R : Nat → Int32} (hR : SREL I 3 R) {b : Nat → Int32} (hb : ∀ c, c < Nn R → (c : Int) < (I 1 1).toInt → I 2 c = b c) (hk : ∀ (w : Int32) (I' : Nat → Nat → Int32), w.toInt = aLawn R b (I 1 1).toInt → K (some (.int w)) (n, SH1, I', J)) : t_X11_lawn [.ref 0] (n, SH1, I, J) K := by
  have cm1 : (-1 : Int32).toInt = -1 := rfl
  have k0 : (0 : Int32).toInt = 0 := rfl
  have k1 : (1 : Int32).toInt = 1 := rfl
  refine q_body (Nat.le_of_ble_eq_true rfl) ?_
  refine q_ald rfl rfl ?_
  refine q_getr rfl sk_0 sr_0_0 ?_
  refine q_geti rfl sk_1 ?_
  refine q_ist rfl rfl ?_
  show dw_ok (pr_X11_lawn K) 8 0 0 [some (.ref 0), some (.int (I 1 1)), none, none] [] (n, SH1, I, J)
  refine q_ald rfl rfl ?_
  refine q_getr rfl sk_0 sr_0_0 ?_
  refine q_ic rfl ?_
  refine q_puti rfl sk_1 ?_
  show dw_ok (pr_X11_lawn K) 16 0 0 [some (.ref 0), some (.int (I 1 1)), none, none] [] (n, SH1, (dw_up I 1 1 (0 : Int32)), J)
  refine q_ald rfl rfl ?_
  refine q_ild rfl rfl ?_
  refine q_callV (as := [.int (I 1 1)]) (rest := []) rfl rfl sk_0 rfl (Nat.le_of_ble_eq_true rfl) ?_
  obtain ⟨I0, hI0⟩ : ∃ X, X = (dw_up I 1 1 (0 : Int32)) := ⟨_, rfl⟩
  rw [← hI0]
  have r0 : ∀ a, a ≠ 1 → I0 a = I a := fun a p => by rw [hI0]; exact up_row p
  have hR0 : SREL I0 3 R := srel_fr (S := 3) (fun a p q => r0 a (by omega)) (fun _ _ => rfl) hR
  obtain ⟨b', hb'⟩ : ∃ b' : Nat → Int32, b' = I0 2 := ⟨_, rfl⟩
  refine v_isLawnC (R := R) (b := b') hR.1 ((rg_3 hR0).1 0 (by decide)) ((rg_3 hR0).1 1 (by decide)) (fun c _ => by rw [hb']) (fun w_ hw => ?_)
  have ebb : (I 1 1).toInt = Nn R → ∀ c, c < Nn R → b' c = b c := fun e c hc => by rw [hb', r0 2 (by decide)]; exact hb c hc (by omega)
  have eok : lwOK R b' (I 1 1).toInt ↔ lwOK R b (I 1 1).toInt := ⟨fun z => ⟨z.1, (al_eq (fun c hc => by unfold lwP; rw [ebb z.1 c hc])).symm.trans z.2⟩, fun z => ⟨z.1, (al_eq (fun c hc => by unfold lwP; rw [ebb z.1 c hc])).trans z.2⟩⟩
  rcases hw with ⟨rfl, hw⟩ | ⟨rfl, hw⟩
  · show dw_ok (pr_X11_lawn K) 21 0 0 [some (.ref 0), some (.int (I 1 1)), none, none] [.int (1 : Int32)] (n, SH1, I0, J)
    refine q_if (c := 1) rfl (by decide) (fun y1 => ?_) (fun h => absurd (show (1 : Int) = 0 from h) (by decide))
    have y1 : (1 : Int) ≠ 0 := y1
    refine q_ic rfl ?_
    refine q_ist rfl rfl ?_
    show dw_ok (pr_X11_lawn K) 28 0 0 [some (.ref 0), some (.int (I 1 1)), some (.int (0 : Int32)), none] [] (n, SH1, I0, J)
    refine q_ic rfl ?_
    refine q_ist rfl rfl ?_
    show dw_ok (pr_X11_lawn K) 30 0 0 [some (.ref 0), some (.int (I 1 1)), some (.int (0 : Int32)), some (.int (0 : Int32))] [] (n, SH1, I0, J)
    have ok := eok.mp hw
    exact lawn_loop (b := b) hR.1 (fun I' => hk _ I' (lawn_y ok).symm) 6 0 0 0 I0 rfl rfl rfl hR0 (fun c hc => by rw [← hb']; exact ebb hw.1 c hc)
  · show dw_ok (pr_X11_lawn K) 21 0 0 [some (.ref 0), some (.int (I 1 1)), none, none] [.int (0 : Int32)] (n, SH1, I0, J)
    refine q_if (c := 1) rfl (by decide) (fun h => absurd (show (0 : Int) ≠ 0 from h) (by decide)) (fun y2 => ?_)
    have y2 : (0 : Int) = 0 := y2
    refine q_ic rfl ?_
    exact q_iret rfl (hk _ I0 (cm1.trans (lawn_n (fun z => hw (eok.mpr z))).symm))
set_option maxRecDepth 8000 in
theorem mth_loopF {n : Nat} {J : Nat → Nat → Int64} {K : dw_K} {R : Nat → Int32} {N st m : Nat} {C : Nat → Nat → rC} {T : Nat → rN} {s0 : rS} {x wh tl : Int32} {I0 : Nat → Nat → Int32} (hP : PUR N C T s0 0) (htl : tl.toInt + 1 = m) (hm : m ≤ 144)
    (hk : ∀ I' : Nat → Nat → Int32, I' 406 = R → (∀ a, a ≠ 404 → (a < 411 ∨ 419 < a) → I' a = I0 a) → MSK I' N st C T s0 0 m → K none (n, SH1, I', J)) :
    ∀ (f k : Nat) (t : Int32) (I : Nat → Nat → Int32), k + f = m → t.toInt = k → I 406 = R → (∀ a, a ≠ 404 → (a < 411 ∨ 419 < a) → I a = I0 a) → MSK I N st C T s0 0 k → dw_ok (pr_X12_through K) 9 0 0 [some (.ref 404), some (.int x), some (.int wh), some (.int tl), some (.int t)] [] (n, SH1, I, J) := by
  have k1 : (1 : Int32).toInt = 1 := rfl
  intro f
  induction f with
  | zero =>
    intro k t I hf ht hR hF hM
    refine q_ild rfl rfl ?_
    refine q_ild rfl rfl ?_
    refine q_icmp (c := 4) rfl (by decide) (fun _ => ?_) (fun h => absurd (show t.toInt ≤ tl.toInt from h) (by omega))
    obtain rfl : k = m := by omega
    exact q_vret rfl (hk I hR hF hM)
  | succ f ih =>
    intro k t I hf ht hR hF hM
    refine q_ild rfl rfl ?_
    refine q_ild rfl rfl ?_
    refine q_icmp (c := 4) rfl (by decide) (fun h => absurd (show tl.toInt < t.toInt from h) (by omega)) (fun _ => ?_)
    refine q_ald rfl rfl ?_
    refine q_ild rfl rfl ?_
    refine q_callV (as := [.int t]) (rest := []) rfl rfl sk_404 rfl (Nat.le_of_ble_eq_true rfl) ?_
    refine v_mstepR hP hM (by omega) (by omega) (fun I' g1 _ g3 => ?_)
    show dw_ok (pr_X12_through K) 21 0 0 [some (.ref 404), some (.int x), some (.int wh), some (.int tl), some (.int t)] [] (n, SH1, I', J)
    refine q_inc rfl rfl rfl ?_
    refine q_goto rfl ?_
    exact ih (k + 1) (t + 1) I' (by omega) (by rw [i_add (by omega) (by omega), k1, ht]; omega) ((g1 406 (by decide) (by decide) (by decide)).trans hR) (fun a p q => (g1 a p (by omega) (by omega)).trans (hF a p q)) g3
set_option maxRecDepth 8000 in
theorem v_throughF {n : Nat} {I : Nat → Nat → Int32} {J : Nat → Nat → Int64} {K : dw_K} {x wh tl : Int32} {R : Nat → Int32} {st : Nat} (hR : I 406 = R) (hG : GOK R) (hx : okS R x) (hS : NOK (nX R x)) (hst : wh.toInt = st) (ht : okT tl)
    (hk : ∀ I' : Nat → Nat → Int32, I' 406 = R → (∀ a, a ≠ 404 → (a < 411 ∨ 419 < a) → I' a = I a) → rEq (Nn R) (srM I') (runW R (nX R x) st (tl.toInt.toNat + 1)) → K none (n, SH1, I', J)) : t_X12_through [.ref 404, .int x, .int wh, .int tl] (n, SH1, I, J) K := by
  obtain ⟨t0, t9⟩ := id ht
  refine q_body (Nat.le_of_ble_eq_true rfl) ?_
  refine q_ald rfl rfl ?_
  refine q_ild rfl rfl ?_
  refine q_ild rfl rfl ?_
  refine q_callV (as := [.int x, .int wh]) (rest := []) rfl rfl sk_404 rfl (Nat.le_of_ble_eq_true rfl) ?_
  refine v_mstartR hR hG hx hS hst (fun I1 g0 _ _ hM _ => ?_)
  show dw_ok (pr_X12_through K) 6 0 0 [some (.ref 404), some (.int x), some (.int wh), some (.int tl), none] [] (n, SH1, I1, J)
  refine q_ic rfl ?_
  refine q_ist rfl rfl ?_
  exact mth_loopF (m := tl.toInt.toNat + 1) (I0 := I) (pur_0 hG hS) (by omega) (by omega) (fun I' h1 hF h2 => hk I' h1 hF h2.2.2.1) (tl.toInt.toNat + 1) 0 0 I1 (by omega) rfl ((g0 406 (by decide) (by decide)).trans hR) (fun a p q => g0 a p q) hM
set_option maxRecDepth 8000 in
theorem mlw_loop {n : Nat} {J : Nat → Nat → Int64} {K : dw_K} {R b : Nat → Int32} (hG : GOK R) (hNN : ∀ x : Int32, okS R x → NOK (nX R x)) (h2 : alF (lwP b) (Nn R) = true) (hk : ∀ I' : Nat → Nat → Int32, K (some (.int (lsW R b 6))) (n, SH1, I', J)) :
    ∀ (f k : Nat) (v t : Int32) (I : Nat → Nat → Int32), k + f = 6 → t.toInt = k → v = lsW R b k → I 406 = R → (∀ c, c < Nn R → I 405 c &&& 255 = b c) → dw_ok (pr_X12_lawn K) 18 0 0 [some (.ref 404), some (.int v), some (.int t)] [] (n, SH1, I, J) := by
  have cm1 : (-1 : Int32).toInt = -1 := rfl
  have k0 : (0 : Int32).toInt = 0 := rfl
  have k1 : (1 : Int32).toInt = 1 := rfl
  have k71 : (71 : Int32).toInt = 71 := rfl
  intro f
  induction f with
  | zero =>
    intro k v t I hf ht hv hR hb
    obtain rfl : k = 6 := by omega
    refine q_ild rfl rfl ?_
    refine q_ic rfl ?_
    refine q_icmp (c := 3) rfl (by decide) (fun y1 => ?_) (fun h => absurd (show (t).toInt < (6 : Int) from h) (by omega))
    have y1 : (6 : Int) ≤ (t).toInt := y1
    refine q_ild rfl rfl ?_
    rw [hv]
    exact q_iret rfl (hk I)
  | succ f ih =>
    intro k v t I hf ht hv hR hb
    have eo := of_nat ht (by omega)
    have htn : t.toInt.toNat = k := by omega
    refine q_ild rfl rfl ?_
    refine q_ic rfl ?_
    refine q_icmp (c := 3) rfl (by decide) (fun h => absurd (show (6 : Int) ≤ (t).toInt from h) (by omega)) (fun y2 => ?_)
    have y2 : (t).toInt < (6 : Int) := y2
    refine q_ald rfl rfl ?_
    refine q_ild rfl rfl ?_
    refine q_callV (as := [.int t]) (rest := []) rfl rfl sk_404 rfl (Nat.le_of_ble_eq_true rfl) ?_
    refine v_isNight (fun w_ oS => ?_)
    rw [hR] at oS
    rcases oS with ⟨rfl, oS⟩ | ⟨rfl, oS⟩
    · show dw_ok (pr_X12_lawn K) 29 0 0 [some (.ref 404), some (.int v), some (.int t)] [.int (1 : Int32)] (n, SH1, I, J)
      refine q_if (c := 1) rfl (by decide) (fun y3 => ?_) (fun h => absurd (show (1 : Int) = 0 from h) (by decide))
      have y3 : (1 : Int) ≠ 0 := y3
      refine q_ald rfl rfl ?_
      refine q_ild rfl rfl ?_
      refine q_ic rfl ?_
      refine q_ic rfl ?_
      refine q_callV (as := [.int t, .int (0 : Int32), .int (71 : Int32)]) (rest := []) rfl rfl sk_404 rfl (Nat.le_of_ble_eq_true rfl) ?_
      refine v_throughF (st := 0) hR hG oS (hNN t oS) rfl ⟨by omega, by omega⟩ (fun I1 e1 qF q1 => ?_)
      show dw_ok (pr_X12_lawn K) 43 0 0 [some (.ref 404), some (.int v), some (.int t)] [] (n, SH1, I1, J)
      have e405 : ∀ c, c < Nn R → I1 405 c &&& 255 = b c := fun c hc => by rw [qF 405 (by decide) (by decide)]; exact hb c hc
      have eW : ∀ c, c < Nn R → I1 417 c = (runW R (nS R k) 0 72).2.1 c := fun c hc => by
        have q := q1.2.1 c hc
        rw [show (71 : Int32).toInt.toNat + 1 = 72 from rfl] at q
        rw [show nX R t = nS R k from congrArg (nS R) htn] at q
        exact q
      have th : 0 ≤ (R (221 + 97 * k)).toInt := by have z := oS.2; rw [htn] at z; exact z
      show dw_ok (pr_X12_lawn K) 43 0 0 [some (.ref 404), some (.int v), some (.int t)] [] (n, SH1, I1, J)
      refine q_ild rfl rfl ?_
      refine q_ald rfl rfl ?_
      refine q_callV (as := []) (rest := [.int v]) rfl rfl sk_404 rfl (Nat.le_of_ble_eq_true rfl) ?_
      refine v_misLawn (R := R) (b := b) (W := (runW R (nS R k) 0 72).2.1) e1 hG e405 eW h2 (fun w_ hw => ?_)
      rcases hw with ⟨rfl, hw⟩ | ⟨rfl, hw⟩
      · show dw_ok (pr_X12_lawn K) 48 0 0 [some (.ref 404), some (.int v), some (.int t)] [.int (1 : Int32), .int v] (n, SH1, I1, J)
        refine q_if (c := 0) rfl (by decide) (fun h => absurd (show (1 : Int) = 0 from h) (by decide)) (fun y4 => ?_)
        have y4 : (1 : Int) ≠ 0 := y4
        refine q_ic rfl ?_
        refine q_ild rfl rfl ?_
        refine q_ishl rfl ?_
        refine q_goto rfl ?_
        refine q_ior rfl ?_
        refine q_ist rfl rfl ?_
        show dw_ok (pr_X12_lawn K) 60 0 0 [some (.ref 404), some (.int (v ||| ((1 : Int32) <<< (t &&& 31)))), some (.int t)] [] (n, SH1, I1, J)
        refine q_inc rfl rfl rfl ?_
        show dw_ok (pr_X12_lawn K) 63 0 0 [some (.ref 404), some (.int (v ||| ((1 : Int32) <<< (t &&& 31)))), some (.int (t + 1))] [] (n, SH1, I1, J)
        show dw_ok (pr_X12_lawn K) 63 0 0 [some (.ref 404), some (.int (v ||| ((1 : Int32) <<< (t &&& 31)))), some (.int (t + 1))] [] (n, SH1, I1, J)
        obtain ⟨tx, htx⟩ : ∃ z, z = (t + 1) := ⟨_, rfl⟩
        rw [← htx]
        have etx : tx.toInt = ((k + 1 : Nat) : Int) := by rw [htx]; exact ix_1 ht (by omega)
        refine q_goto rfl ?_
        exact ih (k + 1) (v ||| ((1 : Int32) <<< (t &&& 31))) tx I1 (by omega) etx (by rw [ls_y ⟨th, hw⟩, hv, eo]) e1 e405
      · show dw_ok (pr_X12_lawn K) 48 0 0 [some (.ref 404), some (.int v), some (.int t)] [.int (0 : Int32), .int v] (n, SH1, I1, J)
        refine q_if (c := 0) rfl (by decide) (fun y5 => ?_) (fun h => absurd (show (0 : Int) ≠ 0 from h) (by decide))
        have y5 : (0 : Int) = 0 := y5
        refine q_ic rfl ?_
        refine q_ior rfl ?_
        refine q_ist rfl rfl ?_
        show dw_ok (pr_X12_lawn K) 60 0 0 [some (.ref 404), some (.int (v ||| (0 : Int32))), some (.int t)] [] (n, SH1, I1, J)
        refine q_inc rfl rfl rfl ?_
        show dw_ok (pr_X12_lawn K) 63 0 0 [some (.ref 404), some (.int (v ||| (0 : Int32))), some (.int (t + 1))] [] (n, SH1, I1, J)
        show dw_ok (pr_X12_lawn K) 63 0 0 [some (.ref 404), some (.int (v ||| (0 : Int32))), some (.int (t + 1))] [] (n, SH1, I1, J)
        obtain ⟨tx, htx⟩ : ∃ z, z = (t + 1) := ⟨_, rfl⟩
        rw [← htx]
        have etx : tx.toInt = ((k + 1 : Nat) : Int) := by rw [htx]; exact ix_1 ht (by omega)
        refine q_goto rfl ?_
        exact ih (k + 1) (v ||| (0 : Int32)) tx I1 (by omega) etx (by rw [ls_n (fun z => by rw [z.2] at hw; exact absurd hw (by decide)), hv]; exact Int32.or_zero) e1 e405
    · show dw_ok (pr_X12_lawn K) 29 0 0 [some (.ref 404), some (.int v), some (.int t)] [.int (0 : Int32)] (n, SH1, I, J)
      refine q_if (c := 1) rfl (by decide) (fun h => absurd (show (0 : Int) ≠ 0 from h) (by decide)) (fun y6 => ?_)
      have y6 : (0 : Int) = 0 := y6
      refine q_goto rfl ?_
      refine q_inc rfl rfl rfl ?_
      show dw_ok (pr_X12_lawn K) 63 0 0 [some (.ref 404), some (.int v), some (.int (t + 1))] [] (n, SH1, I, J)
      show dw_ok (pr_X12_lawn K) 63 0 0 [some (.ref 404), some (.int v), some (.int (t + 1))] [] (n, SH1, I, J)
      obtain ⟨tx, htx⟩ : ∃ z, z = (t + 1) := ⟨_, rfl⟩
      rw [← htx]
      have etx : tx.toInt = ((k + 1 : Nat) : Int) := by rw [htx]; exact ix_1 ht (by omega)
      refine q_goto rfl ?_
      exact ih (k + 1) v tx I (by omega) etx (by rw [ls_n (fun z => oS ⟨⟨by omega, by omega⟩, by rw [htn]; exact z.1⟩)]; exact hv) hR hb
set_option maxRecDepth 8000 in
set_option maxHeartbeats 4000000 in
theorem v_mlawn {n : Nat} {I : Nat → Nat → Int32} {J : Nat → Nat → Int64} {K : dw_K} {R b : Nat → Int32} (hR : I 406 = R) (hG : GOK R) (hNN : ∀ x : Int32, okS R x → NOK (nX R x)) (hb : ∀ c, c < Nn R → (c : Int) < (I 404 2).toInt → I 405 c &&& 255 = b c) (hk : ∀ (w : Int32) (I' : Nat → Nat → Int32), w.toInt = aLawn R b (I 404 2).toInt → K (some (.int w)) (n, SH1, I', J)) : t_X12_lawn [.ref 404] (n, SH1, I, J) K := by
  have cm1 : (-1 : Int32).toInt = -1 := rfl
  have k0 : (0 : Int32).toInt = 0 := rfl
  have k1 : (1 : Int32).toInt = 1 := rfl
  refine q_body (Nat.le_of_ble_eq_true rfl) ?_
  refine q_ald rfl rfl ?_
  refine q_ic rfl ?_
  refine q_puti rfl sk_404 ?_
  show dw_ok (pr_X12_lawn K) 5 0 0 [some (.ref 404), none, none] [] (n, SH1, (dw_up I 404 0 (0 : Int32)), J)
  refine q_ald rfl rfl ?_
  refine q_callV (as := []) (rest := []) rfl rfl sk_404 rfl (Nat.le_of_ble_eq_true rfl) ?_
  obtain ⟨I0, hI0⟩ : ∃ X, X = (dw_up I 404 0 (0 : Int32)) := ⟨_, rfl⟩
  rw [← hI0]
  have r0 : ∀ a, a ≠ 404 → I0 a = I a := fun a p => by rw [hI0]; exact up_row p
  have s2 : I0 404 2 = I 404 2 := by rw [hI0]; exact up_fld (by decide)
  obtain ⟨b', hb'⟩ : ∃ b' : Nat → Int32, b' = fun c => I0 405 c &&& 255 := ⟨_, rfl⟩
  refine v_takesLawn (R := R) (b := b') ((r0 406 (by decide)).trans hR) hG (fun c _ => by rw [hb']) (fun w_ I1 r1 hw => ?_)
  rw [s2] at hw
  have e1 : I1 406 = R := (r1 406 (by decide)).trans ((r0 406 (by decide)).trans hR)
  have ebb : (I 404 2).toInt = Nn R → ∀ c, c < Nn R → b' c = b c := fun e c hc => by rw [hb']; show I0 405 c &&& 255 = b c; rw [r0 405 (by decide)]; exact hb c hc (by omega)
  have eok : lwOK R b' (I 404 2).toInt ↔ lwOK R b (I 404 2).toInt := ⟨fun z => ⟨z.1, (al_eq (fun c hc => by unfold lwP; rw [ebb z.1 c hc])).symm.trans z.2⟩, fun z => ⟨z.1, (al_eq (fun c hc => by unfold lwP; rw [ebb z.1 c hc])).trans z.2⟩⟩
  rcases hw with ⟨rfl, hw⟩ | ⟨rfl, hw⟩
  · have ok := eok.mp hw
    have e405 : ∀ c, c < Nn R → I1 405 c &&& 255 = b c := fun c hc => by rw [r1 405 (by decide), r0 405 (by decide)]; exact hb c hc (by have := ok.1; omega)
    show dw_ok (pr_X12_lawn K) 9 0 0 [some (.ref 404), none, none] [.int (1 : Int32)] (n, SH1, I1, J)
    refine q_if (c := 1) rfl (by decide) (fun y1 => ?_) (fun h => absurd (show (1 : Int) = 0 from h) (by decide))
    have y1 : (1 : Int) ≠ 0 := y1
    refine q_ic rfl ?_
    refine q_ist rfl rfl ?_
    show dw_ok (pr_X12_lawn K) 16 0 0 [some (.ref 404), some (.int (0 : Int32)), none] [] (n, SH1, I1, J)
    refine q_ic rfl ?_
    refine q_ist rfl rfl ?_
    show dw_ok (pr_X12_lawn K) 18 0 0 [some (.ref 404), some (.int (0 : Int32)), some (.int (0 : Int32))] [] (n, SH1, I1, J)
    exact mlw_loop hG hNN ok.2 (fun I' => hk _ I' (lawn_y ok).symm) 6 0 0 0 I1 rfl rfl rfl e1 e405
  · show dw_ok (pr_X12_lawn K) 9 0 0 [some (.ref 404), none, none] [.int (0 : Int32)] (n, SH1, I1, J)
    refine q_if (c := 1) rfl (by decide) (fun h => absurd (show (0 : Int) ≠ 0 from h) (by decide)) (fun y2 => ?_)
    have y2 : (0 : Int) = 0 := y2
    refine q_ic rfl ?_
    exact q_iret rfl (hk _ I1 (cm1.trans (lawn_n (fun z => hw (eok.mpr z))).symm))
set_option maxRecDepth 8000 in
theorem hi_dec : (List.range 12).all (fun h => (List.range 72).all (fun d => decide (((((1 : Int32) <<< (Int32.ofNat h &&& 31)) >>> ((Int32.ofNat d / 6) &&& 31)) &&& 1).toInt = 1) == decide (d / 6 = h))) = true := by decide +kernel
set_option maxRecDepth 8000 in
theorem hi_1 {h d : Nat} (hh : h < 12) : hiF ((1 : Int32) <<< (Int32.ofNat h &&& 31)) d ↔ (d < 72 ∧ d / 6 = h) := by
  constructor
  · rintro ⟨h1, h2⟩
    have q := List.all_eq_true.mp (List.all_eq_true.mp hi_dec h (List.mem_range.mpr hh)) d (List.mem_range.mpr h1)
    rw [decide_eq_true h2] at q
    exact ⟨h1, of_decide_eq_true (eq_of_beq q).symm⟩
  · rintro ⟨h1, h2⟩
    have q := List.all_eq_true.mp (List.all_eq_true.mp hi_dec h (List.mem_range.mpr hh)) d (List.mem_range.mpr h1)
    rw [decide_eq_true h2] at q
    exact ⟨h1, of_decide_eq_true (eq_of_beq q)⟩
/-- with a cloud in hour h -/
def clT (S : Nat → Int32) (h : Nat) : Nat → rN := fun t => if t < 72 ∧ t / 6 = h then (100, (gT S t).2) else gT S t
set_option maxRecDepth 8000 in
theorem clT_y {S : Nat → Int32} {h t : Nat} (q : t < 72 ∧ t / 6 = h) : clT S h t = (100, (gT S t).2) := if_pos q
set_option maxRecDepth 8000 in
theorem clT_n {S : Nat → Int32} {h t : Nat} (q : ¬ (t < 72 ∧ t / 6 = h)) : clT S h t = gT S t := if_neg q
set_option maxRecDepth 8000 in
theorem clT_ok {S : Nat → Int32} {h : Nat} (hS : NOK S) : ∀ t, t < 144 → nOK (clT S h t) := fun t ht => by
  have q := hS.2 t ht
  by_cases e : t < 72 ∧ t / 6 = h
  · rw [clT_y e]; exact ⟨⟨show 0 ≤ (100 : Int32).toInt by decide, show (100 : Int32).toInt ≤ 100 by decide⟩, q.2⟩
  · rw [clT_n e]; exact q
def clW (R S : Nat → Int32) (h : Nat) : Nat → Int32 := (ruF 0 (Nn R) (fun _ => gC R) (clT S h) 0 72 (g0S R S)).2.1
def cdW (R S b : Nat → Int32) : Nat → Int32
  | 0 => 0
  | k + 1 => if alF (lkP b (clW R S k)) (Nn R) = true then cdW R S b k ||| (1 : Int32) <<< (Int32.ofNat k &&& 31) else cdW R S b k
set_option maxRecDepth 8000 in
theorem cd_y {R S b : Nat → Int32} {k : Nat} (h : alF (lkP b (clW R S k)) (Nn R) = true) : cdW R S b (k + 1) = cdW R S b k ||| (1 : Int32) <<< (Int32.ofNat k &&& 31) := if_pos h
set_option maxRecDepth 8000 in
theorem cd_n {R S b : Nat → Int32} {k : Nat} (h : alF (lkP b (clW R S k)) (Nn R) = false) : cdW R S b (k + 1) = cdW R S b k := if_neg (by rw [h]; decide)
noncomputable def aClouded (R b : Nat → Int32) (sz : Int) (s : Int32) : Int := @ite Int (lwOK R b sz ∧ okS R s) (Classical.propDecidable _) (cdW R (nX R s) b 12).toInt (-1)
set_option maxRecDepth 8000 in
theorem cld_y {R b : Nat → Int32} {sz : Int} {s : Int32} (h : lwOK R b sz ∧ okS R s) : aClouded R b sz s = (cdW R (nX R s) b 12).toInt := by
  unfold aClouded
  rw [if_pos h]
set_option maxRecDepth 8000 in
theorem cld_n {R b : Nat → Int32} {sz : Int} {s : Int32} (h : ¬ (lwOK R b sz ∧ okS R s)) : aClouded R b sz s = -1 := by
  unfold aClouded
  rw [if_neg h]
set_option maxRecDepth 8000 in
theorem csk_cloud {I : Nat → Nat → Int32} {h : Nat} {R S : Nat → Int32} (hG : GOK R) (hC : CST I 164 R S) (h6 : I 164 6 = 0) (hh : h < 12) : CSK (dw_up I 164 6 ((1 : Int32) <<< (Int32.ofNat h &&& 31))) 164 (Nn R) 0 (fun _ => gC R) (clT S h) (g0S R S) 0 0 := by
  have r : ∀ a, a ≠ 164 → dw_up I 164 6 ((1 : Int32) <<< (Int32.ofNat h &&& 31)) a = I a := fun a ha => up_row ha
  have f : ∀ j, j ≠ 6 → dw_up I 164 6 ((1 : Int32) <<< (Int32.ofNat h &&& 31)) 164 j = I 164 j := fun j hj => up_fld hj
  refine csk_mk hC (fun c hc => ?_) (fun t ht => ?_) (r _ (by decide)) (r _ (by decide)) (f 1 (by decide)) (f 2 (by decide)) (f 3 (by decide)) (f 4 (by decide)) (by rw [f 5 (by decide)]; exact hC.2.2.2.2.1) (fun c hc => gok_c hG hc)
  · have q := hC.1 c hc
    unfold cfC at q ⊢
    rw [r (164 + 8) (by decide), r (164 + 9) (by decide), r (164 + 10) (by decide), r (164 + 11) (by decide)]
    exact q
  · have q := hC.2.1 t ht
    unfold tnC at q ⊢
    rw [h6, if_neg hi_0] at q
    rw [up_same, r (164 + 1 + 2 + 0) (by decide), r (164 + 1 + 2 + 1) (by decide), r (164 + 1 + 2 + 2) (by decide), r (164 + 1 + 2 + 3) (by decide), r (164 + 1 + 2 + 4) (by decide)]
    have q2 := congrArg (fun z : rN => z.2) q
    by_cases e : t < 72 ∧ t / 6 = h
    · rw [clT_y e, if_pos ((hi_1 hh).mpr e)]
      exact Prod.ext rfl q2
    · rw [clT_n e, if_neg (fun z => e ((hi_1 hh).mp z))]
      exact q
set_option maxRecDepth 8000 in
theorem cld_loop {n : Nat} {J : Nat → Nat → Int64} {K : dw_K} {R b : Nat → Int32} {s sz : Int32} (hG : GOK R) (oS : okS R s) (hk : ∀ I' : Nat → Nat → Int32, K (some (.int (cdW R (nX R s) b 12))) (n, SH1, I', J)) :
    ∀ (f k : Nat) (v hr : Int32) (I : Nat → Nat → Int32), k + f = 12 → hr.toInt = k → v = cdW R (nX R s) b k → SREL I 3 R → (∀ c, c < Nn R → I 2 c = b c) → dw_ok (pr_X11_clouded K) 31 0 0 [some (.ref 0), some (.int s), some (.int sz), some (.int v), some (.int hr)] [] (n, SH1, I, J) := by
  have cm1 : (-1 : Int32).toInt = -1 := rfl
  have k0 : (0 : Int32).toInt = 0 := rfl
  have k1 : (1 : Int32).toInt = 1 := rfl
  have hN9 := (gok_N hG).2
  intro f
  induction f with
  | zero =>
    intro k v hr I hf hh hv hR hb
    obtain rfl : k = 12 := by omega
    refine q_ild rfl rfl ?_
    refine q_ic rfl ?_
    refine q_icmp (c := 3) rfl (by decide) (fun y1 => ?_) (fun h => absurd (show (hr).toInt < (12 : Int) from h) (by omega))
    have y1 : (12 : Int) ≤ (hr).toInt := y1
    refine q_ild rfl rfl ?_
    rw [hv]
    exact q_iret rfl (hk I)
  | succ f ih =>
    intro k v hr I hf hh hv hR hb
    have eo := of_nat hh (by omega)
    refine q_ild rfl rfl ?_
    refine q_ic rfl ?_
    refine q_icmp (c := 3) rfl (by decide) (fun h => absurd (show (12 : Int) ≤ (hr).toInt from h) (by omega)) (fun y2 => ?_)
    have y2 : (hr).toInt < (12 : Int) := y2
    refine q_ald rfl rfl ?_
    refine q_ald rfl rfl ?_
    refine q_getr rfl sk_0 sr_0_6 ?_
    refine q_ild rfl rfl ?_
    refine q_callV (as := [.ref 164, .int s]) (rest := []) rfl rfl sk_0 rfl (Nat.le_of_ble_eq_true rfl) ?_
    refine v_startR hR (Or.inr (Or.inl rfl)) (fun s1 hs hxs hS I1 q0 _ hC h6 _ _ => ?_) (fun hno => absurd oS (okS_no hno))
    obtain ⟨-, eS⟩ := okS_of hs hxs hS
    rw [← eS] at hC
    show dw_ok (pr_X11_clouded K) 47 0 0 [some (.ref 0), some (.int s), some (.int sz), some (.int v), some (.int hr)] [.int (1 : Int32)] (n, SH1, I1, J)
    refine q_if (c := 1) rfl (by decide) (fun y3 => ?_) (fun h => absurd (show (1 : Int) = 0 from h) (by decide))
    have y3 : (1 : Int) ≠ 0 := y3
    refine q_ald rfl rfl ?_
    refine q_getr rfl sk_0 sr_0_6 ?_
    refine q_ic rfl ?_
    refine q_ild rfl rfl ?_
    refine q_ishl rfl ?_
    refine q_puti rfl sk_164 ?_
    show dw_ok (pr_X11_clouded K) 63 0 0 [some (.ref 0), some (.int s), some (.int sz), some (.int v), some (.int hr)] [] (n, SH1, (dw_up I1 164 6 ((1 : Int32) <<< (hr &&& 31))), J)
    refine q_ald rfl rfl ?_
    refine q_getr rfl sk_0 sr_0_6 ?_
    refine q_ic rfl ?_
    refine q_callV (as := [.int (72 : Int32)]) (rest := []) rfl rfl sk_164 rfl (Nat.le_of_ble_eq_true rfl) ?_
    have hM : CSK (dw_up I1 164 6 ((1 : Int32) <<< (hr &&& 31))) 164 (Nn R) 0 (fun _ => gC R) (clT (nX R s) k) (g0S R (nX R s)) 0 0 := by
      have q := csk_cloud (h := k) hG hC h6 (by omega)
      rw [← eo] at q; exact q
    refine v_untilR (A := 164) (j := 72) (rt_ok (by decide)) hM (by decide) hN9 (Or.inl (show (72 : Int32).toInt = ((0 + 0 + 72 : Nat) : Int) from rfl)) (fun I2 g1 _ hK => ?_)
    show dw_ok (pr_X11_clouded K) 72 0 0 [some (.ref 0), some (.int s), some (.int sz), some (.int v), some (.int hr)] [] (n, SH1, I2, J)
    have r2 : ∀ a, a < 164 → I2 a = I a := fun a p => (g1 a (by omega) (by omega) (by omega)).trans ((up_row (by omega)).trans (q0 a (by omega)))
    have hR2 : SREL I2 3 R := srel_fr (S := 3) (fun a p q => r2 a (by omega)) (fun _ _ => rfl) hR
    have hb2 : ∀ c, c < Nn R → I2 2 c = b c := fun c hc => by rw [r2 2 (by decide)]; exact hb c hc
    show dw_ok (pr_X11_clouded K) 72 0 0 [some (.ref 0), some (.int s), some (.int sz), some (.int v), some (.int hr)] [] (n, SH1, I2, J)
    refine q_ald rfl rfl ?_
    refine q_ald rfl rfl ?_
    refine q_getr rfl sk_0 sr_0_6 ?_
    refine q_callV (as := [.ref 164]) (rest := []) rfl rfl sk_0 rfl (Nat.le_of_ble_eq_true rfl) ?_
    refine v_looksSo (R := R) (b := b) (W := clW R (nX R s) k) hG ((rg_3 hR2).1 0 (by decide)) ((rg_3 hR2).1 1 (by decide)) hK.2.2.2.1 hb2 (fun c hc => hK.2.2.1.2.1 c hc) (fun w_ hw => ?_)
    rcases hw with ⟨rfl, hw⟩ | ⟨rfl, hw⟩
    · show dw_ok (pr_X11_clouded K) 80 0 0 [some (.ref 0), some (.int s), some (.int sz), some (.int v), some (.int hr)] [.int (1 : Int32)] (n, SH1, I2, J)
      refine q_if (c := 0) rfl (by decide) (fun h => absurd (show (1 : Int) = 0 from h) (by decide)) (fun y4 => ?_)
      have y4 : (1 : Int) ≠ 0 := y4
      refine q_ild rfl rfl ?_
      refine q_ic rfl ?_
      refine q_ild rfl rfl ?_
      refine q_ishl rfl ?_
      refine q_ior rfl ?_
      refine q_ist rfl rfl ?_
      show dw_ok (pr_X11_clouded K) 90 0 0 [some (.ref 0), some (.int s), some (.int sz), some (.int (v ||| ((1 : Int32) <<< (hr &&& 31)))), some (.int hr)] [] (n, SH1, I2, J)
      refine q_inc rfl rfl rfl ?_
      show dw_ok (pr_X11_clouded K) 93 0 0 [some (.ref 0), some (.int s), some (.int sz), some (.int (v ||| ((1 : Int32) <<< (hr &&& 31)))), some (.int (hr + 1))] [] (n, SH1, I2, J)
      show dw_ok (pr_X11_clouded K) 93 0 0 [some (.ref 0), some (.int s), some (.int sz), some (.int (v ||| ((1 : Int32) <<< (hr &&& 31)))), some (.int (hr + 1))] [] (n, SH1, I2, J)
      obtain ⟨hx, hhx⟩ : ∃ z, z = (hr + 1) := ⟨_, rfl⟩
      rw [← hhx]
      have ehx : hx.toInt = ((k + 1 : Nat) : Int) := by rw [hhx]; exact ix_1 hh (by omega)
      refine q_goto rfl ?_
      exact ih (k + 1) (v ||| ((1 : Int32) <<< (hr &&& 31))) hx I2 (by omega) ehx (by rw [cd_y hw, hv, ← eo]) hR2 hb2
    · show dw_ok (pr_X11_clouded K) 80 0 0 [some (.ref 0), some (.int s), some (.int sz), some (.int v), some (.int hr)] [.int (0 : Int32)] (n, SH1, I2, J)
      refine q_if (c := 0) rfl (by decide) (fun y5 => ?_) (fun h => absurd (show (0 : Int) ≠ 0 from h) (by decide))
      have y5 : (0 : Int) = 0 := y5
      refine q_inc rfl rfl rfl ?_
      show dw_ok (pr_X11_clouded K) 93 0 0 [some (.ref 0), some (.int s), some (.int sz), some (.int v), some (.int (hr + 1))] [] (n, SH1, I2, J)
      show dw_ok (pr_X11_clouded K) 93 0 0 [some (.ref 0), some (.int s), some (.int sz), some (.int v), some (.int (hr + 1))] [] (n, SH1, I2, J)
      obtain ⟨hx, hhx⟩ : ∃ z, z = (hr + 1) := ⟨_, rfl⟩
      rw [← hhx]
      have ehx : hx.toInt = ((k + 1 : Nat) : Int) := by rw [hhx]; exact ix_1 hh (by omega)
      refine q_goto rfl ?_
      exact ih (k + 1) v hx I2 (by omega) ehx (by rw [cd_n hw]; exact hv) hR2 hb2
set_option maxRecDepth 8000 in
theorem v_cclouded {n : Nat} {I : Nat → Nat → Int32} {J : Nat → Nat → Int64} {K : dw_K} {R : Nat → Int32} (hR : SREL I 3 R) {b : Nat → Int32} {a1 : Int32} (hb : ∀ c, c < Nn R → (c : Int) < (I 1 1).toInt → I 2 c = b c) (hk : ∀ (w : Int32) (I' : Nat → Nat → Int32), w.toInt = aClouded R b (I 1 1).toInt a1 → K (some (.int w)) (n, SH1, I', J)) : t_X11_clouded [.ref 0, .int a1] (n, SH1, I, J) K := by
  have cm1 : (-1 : Int32).toInt = -1 := rfl
  have k0 : (0 : Int32).toInt = 0 := rfl
  have k1 : (1 : Int32).toInt = 1 := rfl
  refine q_body (Nat.le_of_ble_eq_true rfl) ?_
  refine q_ald rfl rfl ?_
  refine q_getr rfl sk_0 sr_0_0 ?_
  refine q_geti rfl sk_1 ?_
  refine q_ist rfl rfl ?_
  show dw_ok (pr_X11_clouded K) 8 0 0 [some (.ref 0), some (.int a1), some (.int (I 1 1)), none, none] [] (n, SH1, I, J)
  refine q_ald rfl rfl ?_
  refine q_getr rfl sk_0 sr_0_0 ?_
  refine q_ic rfl ?_
  refine q_puti rfl sk_1 ?_
  show dw_ok (pr_X11_clouded K) 16 0 0 [some (.ref 0), some (.int a1), some (.int (I 1 1)), none, none] [] (n, SH1, (dw_up I 1 1 (0 : Int32)), J)
  refine q_ald rfl rfl ?_
  refine q_ild rfl rfl ?_
  refine q_callV (as := [.int (I 1 1)]) (rest := []) rfl rfl sk_0 rfl (Nat.le_of_ble_eq_true rfl) ?_
  obtain ⟨I0, hI0⟩ : ∃ X, X = (dw_up I 1 1 (0 : Int32)) := ⟨_, rfl⟩
  rw [← hI0]
  have r0 : ∀ a, a ≠ 1 → I0 a = I a := fun a p => by rw [hI0]; exact up_row p
  have hR0 : SREL I0 3 R := srel_fr (S := 3) (fun a p q => r0 a (by omega)) (fun _ _ => rfl) hR
  obtain ⟨b', hb'⟩ : ∃ b' : Nat → Int32, b' = I0 2 := ⟨_, rfl⟩
  refine v_isLawnC (R := R) (b := b') hR.1 ((rg_3 hR0).1 0 (by decide)) ((rg_3 hR0).1 1 (by decide)) (fun c _ => by rw [hb']) (fun w_ hw => ?_)
  have ebb : (I 1 1).toInt = Nn R → ∀ c, c < Nn R → b' c = b c := fun e c hc => by rw [hb', r0 2 (by decide)]; exact hb c hc (by omega)
  have eok : lwOK R b' (I 1 1).toInt ↔ lwOK R b (I 1 1).toInt := ⟨fun z => ⟨z.1, (al_eq (fun c hc => by unfold lwP; rw [ebb z.1 c hc])).symm.trans z.2⟩, fun z => ⟨z.1, (al_eq (fun c hc => by unfold lwP; rw [ebb z.1 c hc])).trans z.2⟩⟩
  rcases hw with ⟨rfl, hw⟩ | ⟨rfl, hw⟩
  · show dw_ok (pr_X11_clouded K) 21 0 0 [some (.ref 0), some (.int a1), some (.int (I 1 1)), none, none] [.int (1 : Int32)] (n, SH1, I0, J)
    refine q_if (c := 1) rfl (by decide) (fun y1 => ?_) (fun h => absurd (show (1 : Int) = 0 from h) (by decide))
    have y1 : (1 : Int) ≠ 0 := y1
    refine q_ic rfl ?_
    refine q_ist rfl rfl ?_
    show dw_ok (pr_X11_clouded K) 28 0 0 [some (.ref 0), some (.int a1), some (.int (I 1 1)), some (.int (0 : Int32)), none] [] (n, SH1, I0, J)
    refine q_ic rfl ?_
    refine q_ist rfl rfl ?_
    show dw_ok (pr_X11_clouded K) 31 0 0 [some (.ref 0), some (.int a1), some (.int (I 1 1)), some (.int (0 : Int32)), some (.int (0 : Int32))] [] (n, SH1, I0, J)
    have ok := eok.mp hw
    by_cases oS : okS R a1
    · exact cld_loop (b := b) hR.1 oS (fun I' => hk _ I' (cld_y ⟨ok, oS⟩).symm) 12 0 0 0 I0 rfl rfl rfl hR0 (fun c hc => by rw [← hb']; exact ebb hw.1 c hc)
    · show dw_ok (pr_X11_clouded K) 31 0 0 [some (.ref 0), some (.int a1), some (.int (I 1 1)), some (.int (0 : Int32)), some (.int (0 : Int32))] [] (n, SH1, I0, J)
      refine q_ild rfl rfl ?_
      refine q_ic rfl ?_
      refine q_icmp (c := 3) rfl (by decide) (fun h => absurd (show (12 : Int) ≤ (0 : Int) from h) (by decide)) (fun y2 => ?_)
      have y2 : (0 : Int) < (12 : Int) := y2
      refine q_ald rfl rfl ?_
      refine q_ald rfl rfl ?_
      refine q_getr rfl sk_0 sr_0_6 ?_
      refine q_ild rfl rfl ?_
      refine q_callV (as := [.ref 164, .int a1]) (rest := []) rfl rfl sk_0 rfl (Nat.le_of_ble_eq_true rfl) ?_
      refine v_startR hR0 (Or.inr (Or.inl rfl)) (fun s hs hxs hS _ _ _ _ _ _ _ => absurd (okS_of hs hxs hS).1 oS) (fun hno => ?_)
      show dw_ok (pr_X11_clouded K) 47 0 0 [some (.ref 0), some (.int a1), some (.int (I 1 1)), some (.int (0 : Int32)), some (.int (0 : Int32))] [.int (0 : Int32)] (n, SH1, I0, J)
      refine q_if (c := 1) rfl (by decide) (fun h => absurd (show (0 : Int) ≠ 0 from h) (by decide)) (fun y3 => ?_)
      have y3 : (0 : Int) = 0 := y3
      refine q_ic rfl ?_
      exact q_iret rfl (hk _ I0 (cm1.trans (cld_n (fun z => oS z.2)).symm))
  · show dw_ok (pr_X11_clouded K) 21 0 0 [some (.ref 0), some (.int a1), some (.int (I 1 1)), none, none] [.int (0 : Int32)] (n, SH1, I0, J)
    refine q_if (c := 1) rfl (by decide) (fun h => absurd (show (0 : Int) ≠ 0 from h) (by decide)) (fun y4 => ?_)
    have y4 : (0 : Int) = 0 := y4
    refine q_ic rfl ?_
    exact q_iret rfl (hk _ I0 (cm1.trans (cld_n (fun z => hw (eok.mpr z.1))).symm))
set_option maxRecDepth 8000 in
theorem mcl_loop {n : Nat} {J : Nat → Nat → Int64} {K : dw_K} {x : Int32} {h : Nat} {I0 : Nat → Nat → Int32} (hx : x.toInt = h) (hh : h < 12)
    (hk : ∀ I' : Nat → Nat → Int32, (∀ a, a ≠ 411 → I' a = I0 a) → (∀ t, I' 411 t = if 6 * h ≤ t ∧ t < 6 * h + 6 then 100 else I0 411 t) → K none (n, SH1, I', J)) :
    ∀ (f k : Nat) (t : Int32) (I : Nat → Nat → Int32), k + f = 6 → t.toInt = ((6 * h + k : Nat) : Int) → (∀ a, a ≠ 411 → I a = I0 a) → (∀ t, I 411 t = if 6 * h ≤ t ∧ t < 6 * h + k then 100 else I0 411 t) → dw_ok (pr_X12_clouds K) 5 0 0 [some (.ref 404), some (.int x), some (.int t)] [] (n, SH1, I, J) := by
  have k6 : (6 : Int32).toInt = 6 := rfl
  have k1 : (1 : Int32).toInt = 1 := rfl
  intro f
  induction f with
  | zero =>
    intro k t I hf ht hfr hT
    obtain rfl : k = 6 := by omega
    refine q_ild rfl rfl ?_
    refine q_ic rfl ?_
    refine q_ild rfl rfl ?_
    refine q_mul rfl ?_
    refine q_ic rfl ?_
    refine q_add rfl ?_
    show dw_ok (pr_X12_clouds K) 13 0 0 [some (.ref 404), some (.int x), some (.int t)] [.int (((6 : Int32) * x) + (6 : Int32)), .int t] (n, SH1, I, J)
    obtain ⟨e6, he6⟩ : ∃ z, z = (((6 : Int32) * x) + (6 : Int32)) := ⟨_, rfl⟩
    rw [← he6]
    have ee6 : e6.toInt = ((6 * h + 6 : Nat) : Int) := by rw [he6]; exact ix_a (a := 6 * h) (m := 6) (ix_m (m := 6) hx rfl (by omega)) rfl (by omega)
    refine q_icmp (c := 3) rfl (by decide) (fun y1 => ?_) (fun h => absurd (show (t).toInt < (e6).toInt from h) (by omega))
    have y1 : (e6).toInt ≤ (t).toInt := y1
    exact q_vret rfl (hk I hfr hT)
  | succ f ih =>
    intro k t I hf ht hfr hT
    have htn : t.toInt.toNat = 6 * h + k := by omega
    refine q_ild rfl rfl ?_
    refine q_ic rfl ?_
    refine q_ild rfl rfl ?_
    refine q_mul rfl ?_
    refine q_ic rfl ?_
    refine q_add rfl ?_
    show dw_ok (pr_X12_clouds K) 13 0 0 [some (.ref 404), some (.int x), some (.int t)] [.int (((6 : Int32) * x) + (6 : Int32)), .int t] (n, SH1, I, J)
    obtain ⟨e6, he6⟩ : ∃ z, z = (((6 : Int32) * x) + (6 : Int32)) := ⟨_, rfl⟩
    rw [← he6]
    have ee6 : e6.toInt = ((6 * h + 6 : Nat) : Int) := by rw [he6]; exact ix_a (a := 6 * h) (m := 6) (ix_m (m := 6) hx rfl (by omega)) rfl (by omega)
    refine q_icmp (c := 3) rfl (by decide) (fun h => absurd (show (e6).toInt ≤ (t).toInt from h) (by omega)) (fun y2 => ?_)
    have y2 : (t).toInt < (e6).toInt := y2
    refine q_ald rfl rfl ?_
    refine q_getr rfl sk_404 sr_404_23 ?_
    refine q_ild rfl rfl ?_
    refine q_ic rfl ?_
    refine q_iast rfl sk_411 sn_411 (by omega) (by omega) ?_
    show dw_ok (pr_X12_clouds K) 24 0 0 [some (.ref 404), some (.int x), some (.int t)] [] (n, SH1, (dw_up I 411 (t).toInt.toNat (100 : Int32)), J)
    rw [htn]
    refine q_inc rfl rfl rfl ?_
    show dw_ok (pr_X12_clouds K) 27 0 0 [some (.ref 404), some (.int x), some (.int (t + 1))] [] (n, SH1, (dw_up I 411 (6 * h + k) (100 : Int32)), J)
    show dw_ok (pr_X12_clouds K) 27 0 0 [some (.ref 404), some (.int x), some (.int (t + 1))] [] (n, SH1, (dw_up I 411 (6 * h + k) (100 : Int32)), J)
    obtain ⟨tx, htx⟩ : ∃ z, z = (t + 1) := ⟨_, rfl⟩
    rw [← htx]
    have etx : tx.toInt = ((6 * h + (k + 1) : Nat) : Int) := by rw [htx]; exact ix_a (a := 6 * h + k) (m := 1) ht rfl (by omega)
    refine q_goto rfl ?_
    refine ih (k + 1) tx (dw_up I 411 (6 * h + k) (100 : Int32)) (by omega) etx (fun a ha => (up_row ha).trans (hfr a ha)) (fun t' => ?_)
    by_cases e : t' = 6 * h + k
    · rw [e, up_same, if_pos ⟨by omega, by omega⟩]
    · rw [up_fld e, hT t']
      by_cases q : 6 * h ≤ t' ∧ t' < 6 * h + k
      · rw [if_pos q, if_pos ⟨q.1, by omega⟩]
      · rw [if_neg q, if_neg (fun z => q ⟨z.1, by omega⟩)]
set_option maxRecDepth 8000 in
theorem v_clouds {n : Nat} {I : Nat → Nat → Int32} {J : Nat → Nat → Int64} {K : dw_K} {x : Int32} {h : Nat} (hx : x.toInt = h) (hh : h < 12)
    (hk : ∀ I' : Nat → Nat → Int32, (∀ a, a ≠ 411 → I' a = I a) → (∀ t, I' 411 t = if 6 * h ≤ t ∧ t < 6 * h + 6 then 100 else I 411 t) → K none (n, SH1, I', J)) : t_X12_clouds [.ref 404, .int x] (n, SH1, I, J) K := by
  refine q_body (Nat.le_of_ble_eq_true rfl) ?_
  refine q_ic rfl ?_
  refine q_ild rfl rfl ?_
  refine q_mul rfl ?_
  refine q_ist rfl rfl ?_
  exact mcl_loop (I0 := I) hx hh hk 6 0 (6 * x) I rfl (by rw [ix_m (m := 6) hx rfl (by omega)]; omega) (fun _ _ => rfl) (fun t => (if_neg (fun q => by omega)).symm)
set_option maxRecDepth 8000 in
/-- the model's STEPS with a cloud -/
theorem msk_cloud {I I' : Nat → Nat → Int32} {h : Nat} {R S : Nat → Int32} (hM : MSK I (Nn R) 0 (fun _ => gC R) (gT S) (g0S R S) 0 0) (hh : h < 12) (r : ∀ a, a ≠ 411 → I' a = I a) (h411 : ∀ t, I' 411 t = if 6 * h ≤ t ∧ t < 6 * h + 6 then 100 else I 411 t) : MSK I' (Nn R) 0 (fun _ => gC R) (clT S h) (g0S R S) 0 0 := by
  have r4 := r 404 (by decide)
  refine msk_mk hM (fun τ hτ c hc => ?_) (fun t ht => ?_) (r 416 (by decide)) (r 417 (by decide)) (r 406 (by decide)) (congrFun r4 32) (congrFun r4 33) (congrFun r4 34) (fun c hc => by rw [r 419 (by decide)]; exact hM.2.2.2.2.2 c hc)
  · rw [show cfM I' τ c = cfM I τ c by unfold cfM syM; rw [r 406 (by decide), r 419 (by decide), r 418 (by decide), r 404 (by decide)]]
    exact hM.1 τ (Nat.zero_le τ) hτ c hc
  · have q := hM.2.1 t (Nat.zero_le t) ht
    have q2 := congrArg (fun z : rN => z.2) q
    have q1 := congrArg (fun z : rN => z.1) q
    unfold tnM at q1 q2 ⊢
    rw [r 412 (by decide), r 413 (by decide), r 414 (by decide), r 415 (by decide), h411]
    by_cases e : t < 72 ∧ t / 6 = h
    · rw [clT_y e, if_pos ⟨by omega, by omega⟩]
      exact Prod.ext rfl q2
    · rw [clT_n e, if_neg (fun z => e ⟨by omega, by omega⟩)]
      exact Prod.ext q1 q2
set_option maxRecDepth 8000 in
theorem mcd_loop {n : Nat} {J : Nat → Nat → Int64} {K : dw_K} {R S : Nat → Int32} {I0 : Nat → Nat → Int32} {T : Nat → rN} {s v hr : Int32} (hP : PUR (Nn R) (fun _ => gC R) T (g0S R S) 0)
    (hk : ∀ (t : Int32) (I' : Nat → Nat → Int32), I' 406 = R → (∀ a, a ≠ 404 → a ≠ 416 → a ≠ 417 → I' a = I0 a) → (∀ j, j ≠ 32 → j ≠ 33 → I' 404 j = I0 404 j) → MSK I' (Nn R) 0 (fun _ => gC R) T (g0S R S) 0 72 → dw_ok (pr_X12_clouded K) 65 0 0 [some (.ref 404), some (.int s), some (.int v), some (.int hr), some (.int t)] [] (n, SH1, I', J)) :
    ∀ (f k : Nat) (t : Int32) (I : Nat → Nat → Int32), k + f = 72 → t.toInt = k → I 406 = R → (∀ a, a ≠ 404 → a ≠ 416 → a ≠ 417 → I a = I0 a) → (∀ j, j ≠ 32 → j ≠ 33 → I 404 j = I0 404 j) → MSK I (Nn R) 0 (fun _ => gC R) T (g0S R S) 0 k → dw_ok (pr_X12_clouded K) 46 0 0 [some (.ref 404), some (.int s), some (.int v), some (.int hr), some (.int t)] [] (n, SH1, I, J) := by
  have cm1 : (-1 : Int32).toInt = -1 := rfl
  have k0 : (0 : Int32).toInt = 0 := rfl
  have k1 : (1 : Int32).toInt = 1 := rfl
  intro f
  induction f with
  | zero =>
    intro k t I hf ht hR hF hF4 hM
    obtain rfl : k = 72 := by omega
    refine q_ild rfl rfl ?_
    refine q_ic rfl ?_
    refine q_icmp (c := 4) rfl (by decide) (fun y1 => ?_) (fun h => absurd (show (t).toInt ≤ (71 : Int) from h) (by omega))
    have y1 : (71 : Int) < (t).toInt := y1
    exact hk t I hR hF hF4 hM
  | succ f ih =>
    intro k t I hf ht hR hF hF4 hM
    refine q_ild rfl rfl ?_
    refine q_ic rfl ?_
    refine q_icmp (c := 4) rfl (by decide) (fun h => absurd (show (71 : Int) < (t).toInt from h) (by omega)) (fun y2 => ?_)
    have y2 : (t).toInt ≤ (71 : Int) := y2
    refine q_ald rfl rfl ?_
    refine q_ild rfl rfl ?_
    refine q_callV (as := [.int t]) (rest := []) rfl rfl sk_404 rfl (Nat.le_of_ble_eq_true rfl) ?_
    refine v_mstepR hP hM (by omega) (by omega) (fun I1 g1 g2 hM1 => ?_)
    show dw_ok (pr_X12_clouded K) 59 0 0 [some (.ref 404), some (.int s), some (.int v), some (.int hr), some (.int t)] [] (n, SH1, I1, J)
    refine q_inc rfl rfl rfl ?_
    show dw_ok (pr_X12_clouded K) 62 0 0 [some (.ref 404), some (.int s), some (.int v), some (.int hr), some (.int (t + 1))] [] (n, SH1, I1, J)
    show dw_ok (pr_X12_clouded K) 62 0 0 [some (.ref 404), some (.int s), some (.int v), some (.int hr), some (.int (t + 1))] [] (n, SH1, I1, J)
    obtain ⟨tx, htx⟩ : ∃ z, z = (t + 1) := ⟨_, rfl⟩
    rw [← htx]
    have etx : tx.toInt = ((k + 1 : Nat) : Int) := by rw [htx]; exact ix_1 ht (by omega)
    refine q_goto rfl ?_
    exact ih (k + 1) tx I1 (by omega) etx ((g1 406 (by decide) (by decide) (by decide)).trans hR) (fun a q1 q2 q3 => (g1 a q1 q2 q3).trans (hF a q1 q2 q3)) (fun j q1 q2 => (g2 j q1 q2).trans (hF4 j q1 q2)) hM1
set_option maxRecDepth 8000 in
theorem mcld_loop {n : Nat} {J : Nat → Nat → Int64} {K : dw_K} {R b : Nat → Int32} {s : Int32} (hG : GOK R) (oS : okS R s) (hS : NOK (nX R s)) (h2 : alF (lwP b) (Nn R) = true) (hk : ∀ I' : Nat → Nat → Int32, K (some (.int (cdW R (nX R s) b 12))) (n, SH1, I', J)) :
    ∀ (f k : Nat) (v hr : Int32) (u : Option Value) (I : Nat → Nat → Int32), k + f = 12 → hr.toInt = k → v = cdW R (nX R s) b k → I 406 = R → (∀ c, c < Nn R → I 405 c &&& 255 = b c) → dw_ok (pr_X12_clouded K) 26 0 0 [some (.ref 404), some (.int s), some (.int v), some (.int hr), u] [] (n, SH1, I, J) := by
  have cm1 : (-1 : Int32).toInt = -1 := rfl
  have k0 : (0 : Int32).toInt = 0 := rfl
  have k1 : (1 : Int32).toInt = 1 := rfl
  have hN9 := (gok_N hG).2
  intro f
  induction f with
  | zero =>
    intro k v hr u I hf hh hv hR hb
    obtain rfl : k = 12 := by omega
    refine q_ild rfl rfl ?_
    refine q_ic rfl ?_
    refine q_icmp (c := 3) rfl (by decide) (fun y1 => ?_) (fun h => absurd (show (hr).toInt < (12 : Int) from h) (by omega))
    have y1 : (12 : Int) ≤ (hr).toInt := y1
    refine q_ild rfl rfl ?_
    rw [hv]
    exact q_iret rfl (hk I)
  | succ f ih =>
    intro k v hr u I hf hh hv hR hb
    have eo := of_nat hh (by omega)
    refine q_ild rfl rfl ?_
    refine q_ic rfl ?_
    refine q_icmp (c := 3) rfl (by decide) (fun h => absurd (show (12 : Int) ≤ (hr).toInt from h) (by omega)) (fun y2 => ?_)
    have y2 : (hr).toInt < (12 : Int) := y2
    refine q_ald rfl rfl ?_
    refine q_ild rfl rfl ?_
    refine q_ic rfl ?_
    refine q_callV (as := [.int s, .int (0 : Int32)]) (rest := []) rfl rfl sk_404 rfl (Nat.le_of_ble_eq_true rfl) ?_
    refine v_mstartR (st := 0) hR hG oS hS rfl (fun I9 g0 _ h35 hM hB => ?_)
    show dw_ok (pr_X12_clouded K) 38 0 0 [some (.ref 404), some (.int s), some (.int v), some (.int hr), u] [] (n, SH1, I9, J)
    refine q_ald rfl rfl ?_
    refine q_ild rfl rfl ?_
    refine q_callV (as := [.int hr]) (rest := []) rfl rfl sk_404 rfl (Nat.le_of_ble_eq_true rfl) ?_
    refine v_clouds hh (by omega) (fun I3 r3 t3 => ?_)
    show dw_ok (pr_X12_clouded K) 43 0 0 [some (.ref 404), some (.int s), some (.int v), some (.int hr), u] [] (n, SH1, I3, J)
    refine q_ic rfl ?_
    refine q_ist rfl rfl ?_
    show dw_ok (pr_X12_clouded K) 46 0 0 [some (.ref 404), some (.int s), some (.int v), some (.int hr), some (.int (0 : Int32))] [] (n, SH1, I3, J)
    have hM2 := msk_cloud hM (show k < 12 by omega) r3 t3
    have e3 : I3 406 = R := (r3 406 (by decide)).trans ((g0 406 (by decide) (by decide)).trans hR)
    have hP : PUR (Nn R) (fun _ => gC R) (clT (nX R s) k) (g0S R (nX R s)) 0 := ⟨hN9, fun _ _ _ c hc => gok_c hG hc, fun t _ ht => clT_ok hS t ht, g0_ok hG hS⟩
    refine mcd_loop (I0 := I3) hP (fun t I2 eI2 fr _ hK => ?_) 72 0 0 I3 rfl rfl e3 (fun _ _ _ _ => rfl) (fun _ _ _ => rfl) hM2
    have e405 : ∀ c, c < Nn R → I2 405 c &&& 255 = b c := fun c hc => by rw [fr 405 (by decide) (by decide) (by decide), r3 405 (by decide), g0 405 (by decide) (by decide)]; exact hb c hc
    show dw_ok (pr_X12_clouded K) 65 0 0 [some (.ref 404), some (.int s), some (.int v), some (.int hr), some (.int t)] [] (n, SH1, I2, J)
    refine q_ild rfl rfl ?_
    refine q_ald rfl rfl ?_
    refine q_callV (as := []) (rest := [.int v]) rfl rfl sk_404 rfl (Nat.le_of_ble_eq_true rfl) ?_
    refine v_misLawn (R := R) (b := b) (W := clW R (nX R s) k) eI2 hG e405 (fun c hc => hK.2.2.1.2.1 c hc) h2 (fun w_ hw => ?_)
    rcases hw with ⟨rfl, hw⟩ | ⟨rfl, hw⟩
    · show dw_ok (pr_X12_clouded K) 70 0 0 [some (.ref 404), some (.int s), some (.int v), some (.int hr), some (.int t)] [.int (1 : Int32), .int v] (n, SH1, I2, J)
      refine q_if (c := 0) rfl (by decide) (fun h => absurd (show (1 : Int) = 0 from h) (by decide)) (fun y3 => ?_)
      have y3 : (1 : Int) ≠ 0 := y3
      refine q_ic rfl ?_
      refine q_ild rfl rfl ?_
      refine q_ishl rfl ?_
      refine q_goto rfl ?_
      refine q_ior rfl ?_
      refine q_ist rfl rfl ?_
      show dw_ok (pr_X12_clouded K) 82 0 0 [some (.ref 404), some (.int s), some (.int (v ||| ((1 : Int32) <<< (hr &&& 31)))), some (.int hr), some (.int t)] [] (n, SH1, I2, J)
      refine q_inc rfl rfl rfl ?_
      show dw_ok (pr_X12_clouded K) 85 0 0 [some (.ref 404), some (.int s), some (.int (v ||| ((1 : Int32) <<< (hr &&& 31)))), some (.int (hr + 1)), some (.int t)] [] (n, SH1, I2, J)
      show dw_ok (pr_X12_clouded K) 85 0 0 [some (.ref 404), some (.int s), some (.int (v ||| ((1 : Int32) <<< (hr &&& 31)))), some (.int (hr + 1)), some (.int t)] [] (n, SH1, I2, J)
      obtain ⟨hx, hhx⟩ : ∃ z, z = (hr + 1) := ⟨_, rfl⟩
      rw [← hhx]
      have ehx : hx.toInt = ((k + 1 : Nat) : Int) := by rw [hhx]; exact ix_1 hh (by omega)
      refine q_goto rfl ?_
      exact ih (k + 1) (v ||| ((1 : Int32) <<< (hr &&& 31))) hx _ I2 (by omega) ehx (by rw [cd_y hw, hv, ← eo]) eI2 e405
    · show dw_ok (pr_X12_clouded K) 70 0 0 [some (.ref 404), some (.int s), some (.int v), some (.int hr), some (.int t)] [.int (0 : Int32), .int v] (n, SH1, I2, J)
      refine q_if (c := 0) rfl (by decide) (fun y4 => ?_) (fun h => absurd (show (0 : Int) ≠ 0 from h) (by decide))
      have y4 : (0 : Int) = 0 := y4
      refine q_ic rfl ?_
      refine q_ior rfl ?_
      refine q_ist rfl rfl ?_
      show dw_ok (pr_X12_clouded K) 82 0 0 [some (.ref 404), some (.int s), some (.int (v ||| (0 : Int32))), some (.int hr), some (.int t)] [] (n, SH1, I2, J)
      refine q_inc rfl rfl rfl ?_
      show dw_ok (pr_X12_clouded K) 85 0 0 [some (.ref 404), some (.int s), some (.int (v ||| (0 : Int32))), some (.int (hr + 1)), some (.int t)] [] (n, SH1, I2, J)
      show dw_ok (pr_X12_clouded K) 85 0 0 [some (.ref 404), some (.int s), some (.int (v ||| (0 : Int32))), some (.int (hr + 1)), some (.int t)] [] (n, SH1, I2, J)
      obtain ⟨hx, hhx⟩ : ∃ z, z = (hr + 1) := ⟨_, rfl⟩
      rw [← hhx]
      have ehx : hx.toInt = ((k + 1 : Nat) : Int) := by rw [hhx]; exact ix_1 hh (by omega)
      refine q_goto rfl ?_
      exact ih (k + 1) (v ||| (0 : Int32)) hx _ I2 (by omega) ehx (by rw [cd_n hw, hv]; exact Int32.or_zero) eI2 e405
set_option maxRecDepth 8000 in
set_option maxHeartbeats 4000000 in
theorem v_mclouded {n : Nat} {I : Nat → Nat → Int32} {J : Nat → Nat → Int64} {K : dw_K} {R b : Nat → Int32} {a1 : Int32} (hR : I 406 = R) (hG : GOK R) (hNN : ∀ x : Int32, okS R x → NOK (nX R x)) (hb : ∀ c, c < Nn R → (c : Int) < (I 404 2).toInt → I 405 c &&& 255 = b c) (hk : ∀ (w : Int32) (I' : Nat → Nat → Int32), w.toInt = aClouded R b (I 404 2).toInt a1 → K (some (.int w)) (n, SH1, I', J)) : t_X12_clouded [.ref 404, .int a1] (n, SH1, I, J) K := by
  have cm1 : (-1 : Int32).toInt = -1 := rfl
  have k0 : (0 : Int32).toInt = 0 := rfl
  have k1 : (1 : Int32).toInt = 1 := rfl
  refine q_body (Nat.le_of_ble_eq_true rfl) ?_
  refine q_ald rfl rfl ?_
  refine q_ic rfl ?_
  refine q_puti rfl sk_404 ?_
  show dw_ok (pr_X12_clouded K) 5 0 0 [some (.ref 404), some (.int a1), none, none, none] [] (n, SH1, (dw_up I 404 0 (0 : Int32)), J)
  refine q_ald rfl rfl ?_
  refine q_callV (as := []) (rest := []) rfl rfl sk_404 rfl (Nat.le_of_ble_eq_true rfl) ?_
  obtain ⟨I0, hI0⟩ : ∃ X, X = (dw_up I 404 0 (0 : Int32)) := ⟨_, rfl⟩
  rw [← hI0]
  have r0 : ∀ a, a ≠ 404 → I0 a = I a := fun a p => by rw [hI0]; exact up_row p
  have s2 : I0 404 2 = I 404 2 := by rw [hI0]; exact up_fld (by decide)
  obtain ⟨b', hb'⟩ : ∃ b' : Nat → Int32, b' = fun c => I0 405 c &&& 255 := ⟨_, rfl⟩
  refine v_takesLawn (R := R) (b := b') ((r0 406 (by decide)).trans hR) hG (fun c _ => by rw [hb']) (fun w_ I1 r1 hw => ?_)
  rw [s2] at hw
  have e1 : I1 406 = R := (r1 406 (by decide)).trans ((r0 406 (by decide)).trans hR)
  have ebb : (I 404 2).toInt = Nn R → ∀ c, c < Nn R → b' c = b c := fun e c hc => by rw [hb']; show I0 405 c &&& 255 = b c; rw [r0 405 (by decide)]; exact hb c hc (by omega)
  have eok : lwOK R b' (I 404 2).toInt ↔ lwOK R b (I 404 2).toInt := ⟨fun z => ⟨z.1, (al_eq (fun c hc => by unfold lwP; rw [ebb z.1 c hc])).symm.trans z.2⟩, fun z => ⟨z.1, (al_eq (fun c hc => by unfold lwP; rw [ebb z.1 c hc])).trans z.2⟩⟩
  rcases hw with ⟨rfl, hw⟩ | ⟨rfl, hw⟩
  · have ok := eok.mp hw
    have e405 : ∀ c, c < Nn R → I1 405 c &&& 255 = b c := fun c hc => by rw [r1 405 (by decide), r0 405 (by decide)]; exact hb c hc (by have := ok.1; omega)
    show dw_ok (pr_X12_clouded K) 9 0 0 [some (.ref 404), some (.int a1), none, none, none] [.int (1 : Int32)] (n, SH1, I1, J)
    refine q_if (c := 0) rfl (by decide) (fun h => absurd (show (1 : Int) = 0 from h) (by decide)) (fun y1 => ?_)
    have y1 : (1 : Int) ≠ 0 := y1
    refine q_ald rfl rfl ?_
    refine q_ild rfl rfl ?_
    refine q_callV (as := [.int a1]) (rest := []) rfl rfl sk_404 rfl (Nat.le_of_ble_eq_true rfl) ?_
    refine v_isNight (fun w_ oS => ?_)
    rw [e1] at oS
    rcases oS with ⟨rfl, oS⟩ | ⟨rfl, oS⟩
    · show dw_ok (pr_X12_clouded K) 17 0 0 [some (.ref 404), some (.int a1), none, none, none] [.int (1 : Int32)] (n, SH1, I1, J)
      refine q_if (c := 1) rfl (by decide) (fun y2 => ?_) (fun h => absurd (show (1 : Int) = 0 from h) (by decide))
      have y2 : (1 : Int) ≠ 0 := y2
      refine q_ic rfl ?_
      refine q_ist rfl rfl ?_
      show dw_ok (pr_X12_clouded K) 24 0 0 [some (.ref 404), some (.int a1), some (.int (0 : Int32)), none, none] [] (n, SH1, I1, J)
      refine q_ic rfl ?_
      refine q_ist rfl rfl ?_
      show dw_ok (pr_X12_clouded K) 26 0 0 [some (.ref 404), some (.int a1), some (.int (0 : Int32)), some (.int (0 : Int32)), none] [] (n, SH1, I1, J)
      exact mcld_loop hG oS (hNN a1 oS) ok.2 (fun I' => hk _ I' (cld_y ⟨ok, oS⟩).symm) 12 0 0 0 _ I1 rfl rfl rfl e1 e405
    · show dw_ok (pr_X12_clouded K) 17 0 0 [some (.ref 404), some (.int a1), none, none, none] [.int (0 : Int32)] (n, SH1, I1, J)
      refine q_if (c := 1) rfl (by decide) (fun h => absurd (show (0 : Int) ≠ 0 from h) (by decide)) (fun y3 => ?_)
      have y3 : (0 : Int) = 0 := y3
      refine q_ic rfl ?_
      exact q_iret rfl (hk _ I1 (cm1.trans (cld_n (fun z => oS z.2)).symm))
  · show dw_ok (pr_X12_clouded K) 9 0 0 [some (.ref 404), some (.int a1), none, none, none] [.int (0 : Int32)] (n, SH1, I1, J)
    refine q_if (c := 0) rfl (by decide) (fun y4 => ?_) (fun h => absurd (show (0 : Int) ≠ 0 from h) (by decide))
    have y4 : (0 : Int) = 0 := y4
    refine q_ic rfl ?_
    exact q_iret rfl (hk _ I1 (cm1.trans (cld_n (fun z => hw (eok.mpr z.1))).symm))
end
