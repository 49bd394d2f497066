/-! ===== does: the loop over the steps, by hand ===== -/
section
variable {pr : Nat → dw_Op} {pc bc bs nx : Nat} {ls : dw_L} {st : List Value} {μ : dw_S}
theorem q_ist {i : Nat} {x : Int32} (ho : pr pc = o_ist i nx) (hf : dw_free ls i = true) (k : dw_ok pr nx bc bs (ls.set i (some (.int x))) st μ) : dw_ok pr pc bc bs ls (.int x :: st) μ := dw_ok.step (by rw [ho]; unfold o_ist; simp only []; rw [hf]; exact k)
theorem q_inc {i : Nat} {n x : Int32} (ho : pr pc = o_inc i n nx) (hl : ls[i]? = some (some (.int x))) (hf : dw_free ls i = true) (k : dw_ok pr nx bc bs (ls.set i (some (.int (x + n)))) st μ) : dw_ok pr pc bc bs ls st μ := dw_ok.step (by rw [ho]; unfold o_inc; rw [hl]; simp only []; rw [hf]; exact k)
theorem q_callV2 {ci a : Nat} {v : Value} {T : dw_T} (ho : pr pc = o_callV ci 2 0 0 T nx) (hk : (μ.2.1 a).1 = ci) (hc : dw_cats st ≤ 8) (k : T [.ref a, v] μ (fun r μ' => dw_ok pr nx bc bs ls (r.toList ++ st) μ')) : dw_ok pr pc bc bs ls (v :: .ref a :: st) μ :=
  dw_ok.step (by
    rw [ho]
    show (if (μ.2.1 a).1 = ci ∧ [v].length + 1 = 2 ∧ dw_cats st ≤ 8 ∧ 0 ≤ bc ∧ 0 ≤ bs then T [.ref a, v] μ (fun r μ' => dw_ok pr nx (bc - 0) (bs - 0) ls (r.toList ++ st) μ') else False)
    rw [if_pos ⟨hk, rfl, hc, Nat.zero_le _, Nat.zero_le _⟩]
    exact k)
end
def iStep (m : Nat) : dx_Inst := ⟨m, ⟨[(0, 0), (0, 143), (0, 12), (0, 12), (0, 8), (0, 12), (0, 144), (0, 940), (0, 144)], [], [(.inr (.inl [404])), (.inl (1, 0))], [], [(406, 0, 2, 0), (406, 1, 3, 0), (406, 2, 4, 0), (406, 3, 5, 0), (404, 38, 6, 0), (404, 2, 7, 0)], [(4, 8, 0), (5, 8, 0)]⟩,
  [⟨[(0, 0), (0, 143), (0, 12), (0, 12), (0, 8), (0, 12), (0, 144), (0, 940), (0, 144)], [], [], [], [(404, 38, 6, 0), (404, 2, 7, 0)], [(5, 8, 0), (4, 8, 0)]⟩], [404, 416, 417], [], [], []⟩
def dnν (a b c d e f g h : Int) : Nat → Int
  | 1 => a
  | 2 => b
  | 3 => c
  | 4 => d
  | 5 => e
  | 6 => f
  | 7 => g
  | 8 => h
  | _ => 0
theorem hi_406_4 : dx_seg (dx_ce 406).iv 0 = (0, 12) ∧ dx_seg (dx_ce 406).iv 1 = (0, 12) ∧ dx_seg (dx_ce 406).iv 2 = (0, 8) ∧ dx_seg (dx_ce 406).iv 3 = (0, 12) ∧ dx_seg (dx_ce 404).iv 38 = (0, 144) ∧ dx_seg (dx_ce 404).iv 2 = (0, 940) := by
  refine ⟨?_, ?_, ?_, ?_, ?_, ?_⟩ <;> decide +kernel
theorem does_step {SH : dw_Sh} {TT : Nat → dw_T} {m : Nat} (hT : TT m = t_X12_step) (hS : dx_OK (EE SH TT) (iStep m)) {μ : dw_S} {K : dw_K} {k : Int32} {x : Int} (hsh : μ.2.1 = SH) (hhi : ∀ a j, dx_in (dx_seg (dx_ce a).iv j) (μ.2.2.1 a j).toInt) (hk0 : 0 ≤ k.toInt) (hk1 : k.toInt ≤ 143)
    (hx : 0 ≤ x ∧ x ≤ 144) (f4 : fl_P 4 x μ.2.2.1) (f5 : fl_P 5 x μ.2.2.1)
    (hK : ∀ μ' : dw_S, μ'.2.1 = SH → (∀ a j, dx_in (dx_seg (dx_ce a).iv j) (μ'.2.2.1 a j).toInt) → (∀ a, a ∉ [404, 416, 417] → μ'.2.2.1 a = μ.2.2.1 a ∧ μ'.2.2.2 a = μ.2.2.2 a) → (μ'.2.2.1 404 38).toInt = (μ.2.2.1 404 38).toInt → (μ'.2.2.1 404 2).toInt = (μ.2.2.1 404 2).toInt → fl_P 4 x μ'.2.2.1 → fl_P 5 x μ'.2.2.1 → K none μ') : t_X12_step [.ref 404, .int k] μ K := by
  rw [← hT]
  obtain ⟨e0, e1, e2, e3, e38, e42⟩ := hi_406_4
  have i0 := hhi 406 0; rw [e0] at i0
  have i1 := hhi 406 1; rw [e1] at i1
  have i2 := hhi 406 2; rw [e2] at i2
  have i3 := hhi 406 3; rw [e3] at i3
  have i4 := hhi 404 38; rw [e38] at i4
  have i5 := hhi 404 2; rw [e42] at i5
  refine hS (dnν k.toInt (μ.2.2.1 406 0).toInt (μ.2.2.1 406 1).toInt (μ.2.2.1 406 2).toInt (μ.2.2.1 406 3).toInt (μ.2.2.1 404 38).toInt (μ.2.2.1 404 2).toInt x) [.ref 404, .int k] μ K ⟨hsh, hhi, fun _ _ => ⟨rfl, rfl⟩, rfl, Nat.le_refl _, Nat.le_of_ble_eq_true rfl, fun _ _ => rfl, ?_, fun q hq => absurd hq List.not_mem_nil, ?_, trivial, ?_, ?_⟩ ?_
  · intro s hs
    have hs8 : s < 9 := hs
    match s, hs8 with
    | 0, _ => exact ⟨Int.le_refl 0, Int.le_refl 0⟩
    | 1, _ => exact ⟨hk0, hk1⟩
    | 2, _ => exact i0
    | 3, _ => exact i1
    | 4, _ => exact i2
    | 5, _ => exact i3
    | 6, _ => exact i4
    | 7, _ => exact i5
    | 8, _ => exact hx
  · exact ⟨⟨404, List.Mem.head _, rfl⟩, ⟨Nat.le_of_ble_eq_true rfl, k, rfl, by show k.toInt = k.toInt + 0; omega⟩, trivial⟩
  · refine dx_aL.all (P := fun q => q.2.2.1 < 9 ∧ (μ.2.2.1 q.1 q.2.1).toInt = dnν k.toInt (μ.2.2.1 406 0).toInt (μ.2.2.1 406 1).toInt (μ.2.2.1 406 2).toInt (μ.2.2.1 406 3).toInt (μ.2.2.1 404 38).toInt (μ.2.2.1 404 2).toInt x q.2.2.1 + q.2.2.2) (l := [(406, 0, 2, 0), (406, 1, 3, 0), (406, 2, 4, 0), (406, 3, 5, 0), (404, 38, 6, 0), (404, 2, 7, 0)]) ?_
    refine ⟨⟨by decide, ?_⟩, ⟨by decide, ?_⟩, ⟨by decide, ?_⟩, ⟨by decide, ?_⟩, ⟨by decide, ?_⟩, ⟨by decide, ?_⟩, trivial⟩ <;> exact (Int.add_zero _).symm
  · refine dx_aL.all (P := fun q => q.2.1 < 9 ∧ fl_P q.1 (dnν k.toInt (μ.2.2.1 406 0).toInt (μ.2.2.1 406 1).toInt (μ.2.2.1 406 2).toInt (μ.2.2.1 406 3).toInt (μ.2.2.1 404 38).toInt (μ.2.2.1 404 2).toInt x q.2.1 + q.2.2) μ.2.2.1) (l := [(4, 8, 0), (5, 8, 0)]) ?_
    refine ⟨⟨by decide, ?_⟩, ⟨by decide, ?_⟩, trivial⟩
    · show fl_P 4 (x + 0) μ.2.2.1; rw [Int.add_zero]; exact f4
    · show fl_P 5 (x + 0) μ.2.2.1; rw [Int.add_zero]; exact f5
  · intro r μ' ν' P hP g'
    obtain rfl := List.mem_singleton.mp hP
    have hr : r = none := by
      have gl := g'.gl
      match r, gl with
      | none, _ => rfl
      | some _, gl => exact gl.elim
    subst hr
    have a6 : ν' 6 = (μ.2.2.1 404 38).toInt := g'.ag 6 (Nat.le_of_ble_eq_true rfl)
    have a7 : ν' 8 = x := g'.ag 8 (Nat.le_of_ble_eq_true rfl)
    have a8 : ν' 7 = (μ.2.2.1 404 2).toInt := g'.ag 7 (Nat.le_of_ble_eq_true rfl)
    have b2 : (μ'.2.2.1 404 2).toInt = ν' 7 + 0 := (g'.fa _ (List.Mem.tail _ (List.Mem.head _))).2
    have b38 : (μ'.2.2.1 404 38).toInt = ν' 6 + 0 := (g'.fa _ (List.Mem.head _)).2
    have b5 : fl_P 5 (ν' 8 + 0) μ'.2.2.1 := (g'.fl _ (List.Mem.head _)).2
    have b4 : fl_P 4 (ν' 8 + 0) μ'.2.2.1 := (g'.fl _ (List.Mem.tail _ (List.Mem.head _))).2
    rw [a7, Int.add_zero] at b4 b5
    exact hK μ' g'.sh g'.hi g'.fr (by omega) (by omega) b4 b5
theorem does_loop {SH : dw_Sh} {TT : Nat → dw_T} {K : dw_K} {m : Nat} (hT : TT m = t_X12_step) (hS : dx_OK (EE SH TT) (iStep m)) (k404 : (SH 404).1 = 12) {ls : dw_L} {rest : List Value} {n : Int32} {x : Int} {bc bs : Nat} (e0 : ls[0]? = some (some (.ref 404))) (e2 : ls[2]? = some (some (.int n))) (hl : 3 < ls.length) (hn : n.toInt ≤ 144) (hcat : dw_cats rest ≤ 4) (hx : 0 ≤ x ∧ x ≤ 144) (μ : dw_S)
    (hk : ∀ (i : Int32) (μ' : dw_S), μ'.2.1 = SH → (∀ a j, dx_in (dx_seg (dx_ce a).iv j) (μ'.2.2.1 a j).toInt) → (∀ a, a ∉ [404, 416, 417] → μ'.2.2.1 a = μ.2.2.1 a ∧ μ'.2.2.2 a = μ.2.2.2 a) → (μ'.2.2.1 404 2).toInt = (μ.2.2.1 404 2).toInt → dw_ok (pr_X12_does K) 49 bc bs (ls.set 3 (some (.int i))) rest μ') :
    ∀ (r : Nat) (i : Int32) (μ' : dw_S), (n.toInt - i.toInt).toNat ≤ r → 0 ≤ i.toInt → (i.toInt ≤ n.toInt ∨ i.toInt = 0) → (μ'.2.2.1 404 38).toInt + (n.toInt - i.toInt) ≤ 144 → fl_P 4 x μ'.2.2.1 → fl_P 5 x μ'.2.2.1 → μ'.2.1 = SH → (∀ a j, dx_in (dx_seg (dx_ce a).iv j) (μ'.2.2.1 a j).toInt) → (∀ a, a ∉ [404, 416, 417] → μ'.2.2.1 a = μ.2.2.1 a ∧ μ'.2.2.2 a = μ.2.2.2 a) → (μ'.2.2.1 404 2).toInt = (μ.2.2.1 404 2).toInt → dw_ok (pr_X12_does K) 20 bc bs (ls.set 3 (some (.int i))) rest μ' := by
  intro r
  induction r with
  | zero =>
    intro i μ' hr hi0 hi1 h38 f4 f5 hsh hhi hfr hz2
    refine q_ild rfl (by rw [List.getElem?_set_self hl]) ?_
    refine q_ild rfl (by rw [List.getElem?_set_ne (by decide)]; exact e2) ?_
    refine q_icmp (c := 3) rfl (by decide) (fun _ => hk i μ' hsh hhi hfr hz2) (fun hc => ?_)
    have hc' : i.toInt < n.toInt := hc
    omega
  | succ r ih =>
    intro i μ' hr hi0 hi1 h38 f4 f5 hsh hhi hfr hz2
    have fr2 : dw_free (ls.set 3 (some (.int i))) 3 = true := by
      show (match (ls.set 3 (some (.int i)))[2]? with | some (some v) => v.category == 1 | _ => true) = true
      rw [List.getElem?_set_ne (by decide), e2]; rfl
    refine q_ild rfl (by rw [List.getElem?_set_self hl]) ?_
    refine q_ild rfl (by rw [List.getElem?_set_ne (by decide)]; exact e2) ?_
    refine q_icmp (c := 3) rfl (by decide) (fun _ => hk i μ' hsh hhi hfr hz2) (fun hc => ?_)
    have hc' : i.toInt < n.toInt := hc
    have e0' : (ls.set 3 (some (.int i)))[0]? = some (some (.ref 404)) := by rw [List.getElem?_set_ne (by decide)]; exact e0
    have i38 := hhi 404 38
    rw [hi_406_4.2.2.2.2.1] at i38
    have i381 : (0 : Int) ≤ (μ'.2.2.1 404 38).toInt := i38.1
    refine q_ald rfl e0' ?_
    refine q_ald rfl e0' ?_
    refine q_geti rfl (by rw [hsh]; exact k404) ?_
    refine q_callV2 rfl (by rw [hsh]; exact k404) (by omega) ?_
    refine does_step hT hS hsh hhi i381 (by omega) hx f4 f5 (fun μ2 s2 hi2 fr2' e38 e42 f42 f52 => ?_)
    refine q_ald rfl e0' ?_
    refine q_dup rfl ?_
    refine q_geti rfl (by rw [s2]; exact k404) ?_
    refine q_ic rfl ?_
    refine q_add rfl ?_
    have c1 : (1 : Int32).toInt = 1 := rfl
    have t1 : (μ2.2.2.1 404 38 + 1).toInt = (μ2.2.2.1 404 38).toInt + 1 := by rw [i_add (by omega) (by omega)]; omega
    have t2 : (i + 1).toInt = i.toInt + 1 := by rw [i_add (by omega) (by omega)]; omega
    refine q_puti rfl (by rw [s2]; exact k404) ?_
    refine q_inc rfl (by rw [List.getElem?_set_self hl]) fr2 ?_
    rw [List.set_set]
    refine q_goto rfl ?_
    refine ih (i + 1) (dw_si μ2 404 38 (μ2.2.2.1 404 38 + 1)) (by omega) (by omega) (by omega) ?_ (up_keep 38 38 (Nat.le_refl _) (Nat.le_refl _) (by decide) f42) (up_keep 38 38 (Nat.le_refl _) (Nat.le_refl _) (by decide) f52) s2 ?_ ?_ ?_
    · show (dw_up μ2.2.2.1 404 38 (μ2.2.2.1 404 38 + 1) 404 38).toInt + _ ≤ 144
      rw [up_at]; omega
    · exact up_hi (E := EE SH TT) (μ := μ2) hi2 (by show dx_in (dx_seg (dx_ce 404).iv 38) _; rw [hi_406_4.2.2.2.2.1]; exact ⟨by show (0 : Int) ≤ _; omega, by show _ ≤ (144 : Int); omega⟩)
    · intro a ha
      have u1 := up_fr (μ := μ2) (a := 404) (j := 38) (x := μ2.2.2.1 404 38 + 1) (md := [404, 416, 417]) (List.Mem.head _) a ha
      have u2 := fr2' a ha
      have u3 := hfr a ha
      exact ⟨u1.1.trans (u2.1.trans u3.1), u1.2.trans (u2.2.trans u3.2)⟩
    · show (dw_up μ2.2.2.1 404 38 (μ2.2.2.1 404 38 + 1) 404 2).toInt = _
      rw [up_ne (Or.inr (by decide))]; omega
theorem sp_doesOn {SH : dw_Sh} {TT : Nat → dw_T} {K : dw_K} {m : Nat} (hE : (EE SH TT).ok) (hT : TT m = t_X12_step) (hS : dx_OK (EE SH TT) (iStep m)) : dx_SOKc (EE SH TT) (pr_X12_does K) 18 sg_doesOn := by
  intro ν ls vs args rest μ bc bs hvs hargs hcat g hk
  obtain ⟨v0, v1, v2, rfl, e0, e1, e3⟩ := vs3 (f := fun i => ls[i]?) (a := 0) (b := 2) (c := 3) hvs
  obtain rfl := ar0 hargs
  obtain ⟨g0, g1, -, -⟩ := g.gl
  rw [show v0 = some (.ref 404) from gV_th g0] at e0
  obtain ⟨-, w1, h1, q1⟩ := g1
  rw [h1] at e1
  have b1 : (0 : Int) ≤ ν 1 ∧ ν 1 ≤ 144 := g.iv 1 (by decide)
  have b7 : (0 : Int) ≤ ν 8 ∧ ν 8 ≤ 144 := g.iv 8 (by decide)
  have f2 : (μ.2.2.1 404 2).toInt = ν 7 + 0 := (g.fa _ (List.Mem.tail _ (List.Mem.tail _ (List.Mem.tail _ (List.Mem.tail _ (List.Mem.tail _ (List.Mem.head _))))))).2
  have p0 : fl_P 24 (ν 1 + 0) μ.2.2.1 := (g.fl _ (List.Mem.head _)).2
  have p1 : (μ.2.2.1 404 38).toInt + (ν 1 + 0) ≤ 144 := p0
  have p5 : fl_P 5 (ν 8 + 0) μ.2.2.1 := (g.fl _ (List.Mem.tail _ (List.Mem.head _))).2
  have p4 : fl_P 4 (ν 8 + 0) μ.2.2.1 := (g.fl _ (List.Mem.tail _ (List.Mem.tail _ (List.Mem.head _)))).2
  have z0 : ν 0 = 0 := g.z
  have hsh : μ.2.1 = SH := g.sh
  have k404 : (SH 404).1 = 12 := (hE.sh 404).1
  have c0 : (0 : Int32).toInt = 0 := rfl
  have fr : dw_free ls 3 = true := by
    show (match ls[2]? with | some (some v) => v.category == 1 | _ => true) = true
    rw [show ls[2]? = some (some (.int w1)) from e1]; rfl
  show dw_ok (pr_X12_does K) 18 bc bs ls rest μ
  refine q_ic rfl ?_
  refine q_ist rfl fr ?_
  have fin : ∀ (i : Int32) (μ' : dw_S), μ'.2.1 = SH → (∀ a j, dx_in (dx_seg (dx_ce a).iv j) (μ'.2.2.1 a j).toInt) → (∀ a, a ∉ [404, 416, 417] → μ'.2.2.1 a = μ.2.2.1 a ∧ μ'.2.2.2 a = μ.2.2.2 a) → (μ'.2.2.1 404 2).toInt = (μ.2.2.1 404 2).toInt → dw_ok (pr_X12_does K) 49 bc bs (ls.set 3 (some (.int i))) rest μ' := by
    intro i μ' s2 hi2 fr2 hz2
    have i38 := hi2 404 38
    rw [hi_406_4.2.2.2.2.1] at i38
    obtain ⟨ν', hag, hn⟩ := nu1 ν 9 (μ'.2.2.1 404 38).toInt
    refine hk 49 _ ν' [] [(3, i)] μ' rfl (List.Mem.head _) (post_mk g (s2.trans hsh.symm) hi2 fr2 (by decide) (by decide) hag ⟨?_, ?_, ?_, ?_, ?_, ?_, ?_, ?_, ?_, ?_, trivial⟩ trivial trivial rfl ⟨⟨by decide, ?_⟩, ⟨by decide, ?_⟩, trivial⟩ trivial)
    · rw [hag 0 (by decide)]; exact g.iv 0 (by decide)
    · rw [hag 1 (by decide)]; exact g.iv 1 (by decide)
    · rw [hag 2 (by decide)]; exact g.iv 2 (by decide)
    · rw [hag 3 (by decide)]; exact g.iv 3 (by decide)
    · rw [hag 4 (by decide)]; exact g.iv 4 (by decide)
    · rw [hag 5 (by decide)]; exact g.iv 5 (by decide)
    · rw [hag 6 (by decide)]; exact g.iv 6 (by decide)
    · rw [hag 7 (by decide)]; exact g.iv 7 (by decide)
    · rw [hag 8 (by decide)]; exact g.iv 8 (by decide)
    · rw [hn]; exact i38
    · rw [hn]; exact (Int.add_zero _).symm
    · rw [hag 7 (by decide), hz2]; exact f2
  rw [Int.add_zero] at p4 p5
  have hlen : 3 < ls.length := by
    have e3' : ls[3]? = some v2 := e3
    rw [List.getElem?_eq_some_iff] at e3'
    exact e3'.1
  exact does_loop hT hS k404 e0 e1 hlen (by omega) hcat b7 μ fin (w1.toInt).toNat 0 μ (by omega) (by omega) (Or.inr c0) (by omega) p4 p5 hsh g.hi (fun _ _ => ⟨rfl, rfl⟩) rfl
