section
/-! ===== the law's start: from the pure law to the walk ===== -/
def dw_s0 : dw_S := (0, fun _ => (999, 0, fun _ => none), fun _ _ => 0, fun _ _ => 0)
theorem dw_R0 {D : va_G} {aC : Nat → ClassId} {ex : Nat → Nat} {H : Heap} : dw_R D aC H.size ex H dw_s0 H :=
  ⟨rfl, fun _ _ => rfl, fun _ _ => rfl, rfl, fun k hk => absurd hk (Nat.not_lt_zero k), fun _ _ => rfl⟩
theorem dw_start {p : Program} {e : Env} {s : State} {m : MethodId} {below : List Frame} {meth : Method} {c : Code} (l : Launch) (hflags : l.flags = flags0) {b L : Nat} {xs : Nat → Int32} (C0 : lw_At p s m meth c b L xs)
    (hok : dw_ok (pr_law L xs) 0 601024 7293034 (dw_pad 7 (dw_inl [.ref 1000000])) [] dw_s0) : W p l e room_1 s m #[Value.ref b] below meth c s.heap [] 0 0 (lw_Z below #[Value.ref b] s) (entryFrame m ([Value.ref b] : List Value).toArray 7) := by
  obtain ⟨h1, h2, h3, h4, h5, h6, h7, h8, h9, h10⟩ := C0
  obtain ⟨D, aC, ex, hE, hex⟩ := dw_env h6 h10
  have hst : l.stackTraces = false := by
    unfold Launch.stackTraces
    rw [hflags]
    decide
  have htb : ∀ w ∈ dw_Tb, w.before #[Value.ref b] s = true := fun w hw => h6 w (List.mem_filter.mp hw).1
  have hg := dw_ok.sound (sp_law (below := below) (e := e) hst ⟨h1, h2, h4, h5, htb⟩ hE h7 h8 hex h3 h9) hok
  have hl := dw_Lo.ini (b0 := s.heap.size) (ex := ex) (n := 7) [.ref 1000000] (by decide)
  have ht : dw_tr s.heap.size ex (.ref 1000000) = .ref b := by
    rw [← hex]
    rfl
  rw [lg_entry_eq]
  have := hg s.heap [] _ 0 0 dw_R0 (fun q h => by cases h) hl (Nat.zero_add _) (Nat.zero_add _)
  simp only [List.map_cons, List.map_nil, ht] at this
  exact this
end
section
/-! ===== the fresh state; the whole run ===== -/
theorem seg0 : ∀ (l : List (Nat × Int × Int)) (j : Nat), l.all (fun q => decide (q.2.1 ≤ 0) && decide (0 ≤ q.2.2)) = true → dx_in (dx_seg l j) 0
  | [], _, _ => ⟨show (-2147483648 : Int) ≤ 0 by decide, show (0 : Int) ≤ 2147483647 by decide⟩
  | (c, lo, hi) :: r, j, h => by
    rw [List.all_cons, Bool.and_eq_true, Bool.and_eq_true, decide_eq_true_eq, decide_eq_true_eq] at h
    unfold dx_seg
    by_cases e : j < c
    · rw [if_pos e]; exact h.1
    · rw [if_neg e]; exact seg0 r (j - c) h.2
theorem ce_0 : (List.range 435).all (fun a => (dx_ce a).iv.all (fun q => decide (q.2.1 ≤ 0) && decide (0 ≤ q.2.2))) = true := by decide +kernel
def dx_hb (I : Nat → Nat → Int32) : Prop := ∀ a j, dx_in (dx_seg (dx_ce a).iv j) (I a j).toInt
theorem hb_0 : dx_hb I00 := by
  intro a j
  show dx_in (dx_seg (dx_ce a).iv j) 0
  by_cases ha : a < 435
  · exact seg0 _ j (List.all_eq_true.mp ce_0 a (List.mem_range.mpr ha))
  · rw [ce_ge (by omega)]
    exact seg0 [] j rfl
theorem hb_up {I : Nat → Nat → Int32} {a j : Nat} {v : Int32} (h : dx_hb I) (hv : (dx_seg (dx_ce a).iv j).1 ≤ v.toInt ∧ v.toInt ≤ (dx_seg (dx_ce a).iv j).2) : dx_hb (dw_up I a j v) := by
  intro a' j'
  by_cases e : a' = a ∧ j' = j
  · obtain ⟨rfl, rfl⟩ := e
    rw [up_at]
    exact hv
  · rw [up_ne (by omega)]
    exact h a' j'
theorem hb_X0 {n a : Nat} {I : Nat → Nat → Int32} (h : dx_hb I) (hv : (dx_seg (dx_ce a).iv 4).1 ≤ (500 : Int32).toInt ∧ (500 : Int32).toInt ≤ (dx_seg (dx_ce a).iv 4).2) : dx_hb (g_X0_init n I a) := hb_up h hv
theorem hb_IN0 : dx_hb IN0 :=
  hb_X0 (n := 309) (a := 308) (hb_X0 (n := 212) (a := 211) (hb_up (a := 0) (j := 15) (hb_up (a := 0) (j := 14) (hb_X0 (n := 103) (a := 102) (hb_X0 (n := 5) (a := 4) hb_0 (by decide +kernel)) (by decide +kernel)) (by decide +kernel)) (by decide +kernel)) (by decide +kernel)) (by decide +kernel)
theorem hb_IN1 : dx_hb IN1 :=
  hb_up (a := 406) (j := 706) (hb_up (a := 406) (j := 609) (hb_up (a := 406) (j := 512) (hb_up (a := 406) (j := 415) (hb_up (a := 406) (j := 318) (hb_up (a := 406) (j := 221) (hb_up (a := 406) (j := 4) hb_IN0 (by decide +kernel)) (by decide +kernel)) (by decide +kernel)) (by decide +kernel)) (by decide +kernel)) (by decide +kernel)) (by decide +kernel)
theorem in_kinds : (List.range 144).all (fun c => decide (IN1 406 (0 + 29 + c) = 0)) = true := by decide +kernel
theorem in_few : IN1 406 1 = 0 ∧ IN1 406 2 = 0 ∧ IN1 406 803 = 0 ∧ IN1 433 0 = 0 ∧ IN1 433 1 = 0 := by decide +kernel
theorem inv_0 : INV (435, SH1, IN1, JN1) := by
  have c0 : (0 : Int32).toInt = 0 := rfl
  refine ⟨rfl, hb_IN1, ⟨fun k _ hk => ?_, fun c hc => Or.inl ?_, fun h => ?_⟩, fun i _ hi => ?_, fun h => ?_, fun h => ?_⟩
  · have h2 : (k : Int) < (IN1 406 2).toInt := hk
    rw [in_few.2.1, c0] at h2
    omega
  · have := List.all_eq_true.mp in_kinds c (List.mem_range.mpr hc)
    rw [decide_eq_true_eq] at this
    show (IN1 406 (0 + 29 + c)).toInt = 0
    rw [this]
    rfl
  · exact absurd (show (IN1 406 (0 + 1)).toInt = 0 by rw [show IN1 406 (0 + 1) = 0 from in_few.1]; rfl) h
  · have h2 : (i : Int) < (IN1 406 803).toInt := hi
    rw [in_few.2.2.1, c0] at h2
    omega
  · have h1 : (IN1 433 0).toInt = 1 := h
    rw [in_few.2.2.2.1, c0] at h1
    omega
  · have h1 : (IN1 433 1).toInt = 1 := h
    rw [in_few.2.2.2.2, c0] at h1
    omega
theorem z_0 : (IN1 1 1).toInt = (IN1 404 2).toInt ∧ (IN1 210 0).toInt = (IN1 433 0).toInt ∧ (IN1 307 0).toInt = (IN1 433 1).toInt := by decide +kernel
theorem t_0 : tbC IN1 = tbL IN1 ∧ mRes JN1 := by
  have hr : (List.range 13).all (fun i => decide (wlF (dw_sb (i + 1)) (dw_sb (i + 1)).length = (JN1 410 i).toInt)) = true := by decide +kernel
  refine ⟨?_, fun i hi => by have := List.all_eq_true.mp hr i (List.mem_range.mpr hi); rw [decide_eq_true_eq] at this; exact this⟩
  have h1 : (IN1 1 1).toInt = 0 := by decide +kernel
  have h2 : (IN1 404 2).toInt = 0 := by decide +kernel
  funext k
  unfold tbC tbL
  rw [if_neg (by omega), if_neg (by omega)]
/-! ===== the states alike, at the start ===== -/
theorem in_zero : (List.range 1427).all (fun j => Nat.blt j 221 || decide (IN1 406 j = 0) || (List.range 6).any (fun k => Nat.beq j (221 + 97 * k))) = true := by decide +kernel
theorem in_m1 : (List.range 6).all (fun k => decide (IN1 406 (221 + 97 * k) = -1) && decide (IN1 (58 + 7 * k) 0 = 0)) = true := by decide +kernel
theorem in_hd : (IN1 406 0 = 0 ∧ IN1 406 1 = 0 ∧ IN1 406 2 = 0 ∧ IN1 406 3 = 0 ∧ IN1 406 4 = 500) ∧ (IN1 4 0 = 0 ∧ IN1 4 1 = 0 ∧ IN1 4 2 = 0 ∧ IN1 4 3 = 0 ∧ IN1 4 4 = 500) ∧ IN1 11 0 = 0 ∧ IN1 43 0 = 0 := by decide +kernel
theorem rel_0 : REL IN1 := by
  obtain ⟨⟨a0, a1, a2, a3, a4⟩, ⟨b0, b1, b2, b3, b4⟩, hp, hr⟩ := in_hd
  have g : ∀ k, k < 6 → IN1 406 (221 + 97 * k) = -1 ∧ IN1 (58 + 7 * k) 0 = 0 := fun k hk => by
    have q := List.all_eq_true.mp in_m1 k (List.mem_range.mpr hk)
    rw [Bool.and_eq_true, decide_eq_true_eq, decide_eq_true_eq] at q
    exact q
  refine ⟨srel_ground (b := fun _ => 0) (N := 0) (s := g0) ⟨⟨?_, ?_, ?_, ?_, a4⟩, fun i hi => absurd hi (Nat.not_lt_zero i), fun y hy => absurd hy (Nat.not_lt_zero y), fun i hi => absurd hi (Nat.not_lt_zero i)⟩ ⟨by decide, by decide, by decide, by decide, fun x hx => absurd hx List.not_mem_nil, fun x hx => absurd hx List.not_mem_nil⟩ gBd_0 ⟨⟨?_, ?_, ?_, ?_, b4⟩, fun i hi => absurd hi (Nat.not_lt_zero i), fun y hy => absurd hy (Nat.not_lt_zero y)⟩ (fun q hq => (g q hq).2) hp hr (fun j q1 q2 q3 => ?_) (fun k hk => (g k hk).1), fun q => absurd in_few.2.2.2.1 q, fun q => absurd in_few.2.2.2.2 q⟩
  · rw [a0]; rfl
  · rw [a1]; rfl
  · rw [a2]; rfl
  · rw [a3]; rfl
  · rw [b0]; rfl
  · rw [b1]; rfl
  · rw [b2]; rfl
  · rw [b3]; rfl
  · have q := List.all_eq_true.mp in_zero j (List.mem_range.mpr q2)
    rw [Bool.or_eq_true, Bool.or_eq_true, decide_eq_true_eq] at q
    rcases q with (q | q) | q
    · have q := Nat.le_of_ble_eq_true q
      omega
    · exact q
    · obtain ⟨k, hk, e⟩ := List.any_eq_true.mp q
      exact absurd (Nat.eq_of_beq_eq_true e) (q3 k (List.mem_range.mp hk))
theorem t_1 : tbC IN1 = tbL IN1 ∧ mRes JN1 ∧ REL IN1 := ⟨t_0.1, t_0.2, rel_0⟩
theorem law_ok {L : Nat} {xs : Nat → Int32} (hL : L ≤ 3072) : dw_ok (pr_law L xs) 0 601024 7293034 (dw_pad 7 (dw_inl [.ref 1000000])) [] dw_s0 := by
  refine law_a ?_
  have c0 : (0 : Int32).toInt = 0 := rfl
  exact law_loop hL 512 0 none none 600589 7238097 (435, SH1, IN1, JN1) inv_0 z_0 t_1 (by omega) (by omega) (by omega) (by omega)
end
