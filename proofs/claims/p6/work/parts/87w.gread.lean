/-! ===== the class's reader of a GROUND: helpers ===== -/
section
variable {pr : Nat → dw_Op} {K : dw_K} {pc nx bc bs n : Nat} {ls : dw_L} {J : Nat → Nat → Int64} {I0 I : Nat → Nat → Int32} {Inv : (Nat → Nat → Int32) → Prop} {N m p : Nat}
set_option maxRecDepth 8000 in
theorem tw_step (ho : pr pc = o_callV 9 1 0 0 t_X9_takeWord nx) (hT : TapeInv I0 Inv) (hI : Inv I) (hN : (I0 1 1).toInt = N) (hN9 : N ≤ 940) (hm : (I0 1 2).toInt = m) (h3 : (I 1 3).toInt = p) (hp : p ≤ N)
    (k1 : (tkF (tbC I0) N m p).1 = 1 → ∀ I1 : Nat → Nat → Int32, Inv I1 → (I1 1 3).toInt = (tkF (tbC I0) N m p).2.2.1 → (I1 1 4).toInt = (tkF (tbC I0) N m p).2.1 → (I1 1 5).toInt = (tkF (tbC I0) N m p).1 → dw_ok pr nx bc bs ls [.int 1] (n, SH1, I1, J))
    (k0 : (tkF (tbC I0) N m p).1 ≠ 1 → ∀ I1 : Nat → Nat → Int32, Inv I1 → (I1 1 7).toInt = 1 → (I1 1 8).toInt = (tkF (tbC I0) N m p).2.1 → dw_ok pr nx bc bs ls [.int 0] (n, SH1, I1, J)) :
    dw_ok pr pc bc bs ls [.ref 1] (n, SH1, I, J) := by
  obtain ⟨e1, e2, e3⟩ := hT.2 I hI
  have hb : tbC I = tbC I0 := tbC_eq e1 e3
  refine q_callV (as := []) (rest := []) ho rfl sk_1 rfl (Nat.le_of_ble_eq_true rfl) ?_
  refine v_takeWord (p := p) (N := N) (m := m) (by rw [e1]; exact hN) hN9 (by rw [e2]; exact hm) h3 hp (fun I1 w hA hF hy hn => ?_)
  rw [hb] at hy hn
  have hI1 := hT.1 I I1 hI hA hF
  show dw_ok pr nx bc bs ls [.int w] (n, SH1, I1, J)
  by_cases e : (tkF (tbC I0) N m p).1 = 1
  · obtain ⟨rfl, g3, g4, g5, -⟩ := hy (st_e.mpr e)
    exact k1 e I1 hI1 g3 g4 g5
  · have s1 := st_1 e
    obtain ⟨rfl, g7, g8⟩ := hn (by rw [s1]; decide)
    rw [s1] at g7
    exact k0 e I1 hI1 g7 g8
set_option maxRecDepth 8000 in
theorem tk_step (ho : pr pc = o_callV 9 1 0 0 t_X9_take nx) (hT : TapeInv I0 Inv) (hI : Inv I) (hN : (I0 1 1).toInt = N) (hN9 : N ≤ 940) (hm : (I0 1 2).toInt = m) (h3 : (I 1 3).toInt = p) (hp : p ≤ N)
    (k1 : ∀ I1 : Nat → Nat → Int32, Inv I1 → (I1 1 3).toInt = (tkF (tbC I0) N m p).2.2.1 → (I1 1 4).toInt = (tkF (tbC I0) N m p).2.1 → (I1 1 5).toInt = (tkF (tbC I0) N m p).1 → dw_ok pr nx bc bs ls [] (n, SH1, I1, J)) :
    dw_ok pr pc bc bs ls [.ref 1] (n, SH1, I, J) := by
  obtain ⟨e1, e2, e3⟩ := hT.2 I hI
  have hb : tbC I = tbC I0 := tbC_eq e1 e3
  refine q_callV (as := []) (rest := []) ho rfl sk_1 rfl (Nat.le_of_ble_eq_true rfl) ?_
  refine v_take (p := p) (N := N) (m := m) (by rw [e1]; exact hN) hN9 (by rw [e2]; exact hm) h3 hp (fun I1 hA hF g3 g4 g5 _ => ?_)
  rw [hb] at g3 g4 g5
  exact k1 I1 (hT.1 I I1 hI hA (fun j hj => hF j (by omega) (by omega) (by omega) (by omega))) g3 g4 g5
set_option maxRecDepth 8000 in
/-- a fault, answered through a branch -/
theorem fb_step {c : Int32} (ho : pr pc = o_callV 9 2 0 0 t_X9_fail nx) (hT : TapeInv I0 Inv) (hI : Inv I)
    (k0 : ∀ I1 : Nat → Nat → Int32, Inv I1 → (I1 1 7).toInt = c.toInt → (I1 1 8).toInt = (I 1 4).toInt → dw_ok pr nx bc bs ls [.int 0] (n, SH1, I1, J)) :
    dw_ok pr pc bc bs ls [.int c, .ref 1] (n, SH1, I, J) := by
  refine q_callV (as := [.int c]) (rest := []) ho rfl sk_1 rfl (Nat.le_of_ble_eq_true rfl) ?_
  refine v_fail ?_
  refine k0 _ (hT.1 I _ hI (fun a ha => ?_) (fun j hj => ?_)) rfl rfl
  · exact (up_row ha).trans (up_row ha)
  · exact (up_fld (by omega)).trans (up_fld (by omega))
end
set_option maxRecDepth 8000 in
theorem at_mem {α : Type} {d : α} : ∀ {L : List α} {i : Nat}, i < L.length → atF d L i ∈ L
  | [], i, h => absurd h (Nat.not_lt_zero i)
  | x :: r, i, h => by
    by_cases e : i = r.length
    · rw [e, at_hd]; exact List.Mem.head _
    · rw [at_tl e]
      have h : i < r.length + 1 := h
      exact List.Mem.tail _ (at_mem (by omega))
set_option maxRecDepth 8000 in
theorem nm_iff {b : fB} {T : fT} : ∀ {L : List gK}, nmF b T L ↔ ∃ i, i < L.length ∧ asF b T (atF (0, 0, 0, 0, 0) L i).1 (atF (0, 0, 0, 0, 0) L i).2.1
  | [] => ⟨fun h => h.elim, fun ⟨i, h, _⟩ => absurd h (Nat.not_lt_zero i)⟩
  | x :: r => by
    constructor
    · intro h
      rcases h with h | h
      · exact ⟨r.length, Nat.lt_succ_self _, by rw [at_hd]; exact h⟩
      · obtain ⟨i, hi, h⟩ := nm_iff.mp h
        exact ⟨i, Nat.lt_succ_of_lt hi, by rw [at_tl (by omega)]; exact h⟩
    · rintro ⟨i, hi, h⟩
      have hi : i < r.length + 1 := hi
      by_cases e : i = r.length
      · rw [e, at_hd] at h; exact Or.inl h
      · rw [at_tl e] at h; exact Or.inr (nm_iff.mpr ⟨i, by omega, h⟩)
set_option maxRecDepth 8000 in
theorem sa_loop {n : Nat} {I : Nat → Nat → Int32} {J : Nat → Nat → Int64} {K : dw_K} {bc bs N q k : Nat} {T : fT} {pl ln : Int32} (hN : (I 1 1).toInt = N) (hN9 : N ≤ 940) (hp : pl.toInt = q) (hl : ln.toInt = k) (hq : q + k ≤ N)
    (h4 : (I 1 4).toInt = T.2.1) (hT1 : T.1 = 1) (hTl : T.2.2.1 = T.2.1 + k) (hTN : T.2.2.1 ≤ N)
    (hk : ∀ v : Int32, (v = 1 ∧ asF (tbC I) T q k) ∨ (v = 0 ∧ ¬ asF (tbC I) T q k) → K (some (.int v)) (n, SH1, I, J)) :
    ∀ (f i : Nat) (x : Int32), x.toInt = i → i ≤ k → k - i ≤ f → (∀ j, j < i → tbC I (T.2.1 + j) = tbC I (q + j)) → dw_ok (pr_X9_saysAsAt K) 20 bc bs [some (.ref 1), some (.int pl), some (.int ln), some (.int x)] [] (n, SH1, I, J) := by
  have c1 : (1 : Int32).toInt = 1 := rfl
  intro f
  induction f with
  | zero =>
    intro i x hx hi hf hall
    refine q_ild rfl rfl ?_
    refine q_ild rfl rfl ?_
    refine q_icmp (c := 3) rfl (by decide) (fun _ => ?_) (fun h => absurd (show x.toInt < ln.toInt from h) (by omega))
    refine q_ic rfl ?_
    exact q_zret rfl (Or.inr rfl) (hk 1 (Or.inl ⟨rfl, hT1, hTl, fun j hj => hall j (by omega)⟩))
  | succ f ih =>
    intro i x hx hi hf hall
    refine q_ild rfl rfl ?_
    refine q_ild rfl rfl ?_
    refine q_icmp (c := 3) rfl (by decide) (fun g => ?_) (fun g => ?_)
    · have g : ln.toInt ≤ x.toInt := g
      refine q_ic rfl ?_
      exact q_zret rfl (Or.inr rfl) (hk 1 (Or.inl ⟨rfl, hT1, hTl, fun j hj => hall j (by omega)⟩))
    have g : x.toInt < ln.toInt := g
    have t1 : (I 1 4 + x).toInt = (I 1 4).toInt + x.toInt := i_add (by omega) (by omega)
    have t3 : (pl + x).toInt = pl.toInt + x.toInt := i_add (by omega) (by omega)
    have t2 : (x + 1).toInt = x.toInt + 1 := by rw [i_add (by omega) (by omega), c1]
    refine q_ald rfl rfl ?_
    refine q_ald rfl rfl ?_
    refine q_geti rfl sk_1 ?_
    refine q_ild rfl rfl ?_
    refine q_add rfl ?_
    refine q_callV (as := [.int (I 1 4 + x)]) (rest := []) rfl rfl sk_1 rfl (Nat.le_of_ble_eq_true rfl) ?_
    refine v_byteAt (by omega) (by omega) ?_
    show dw_ok (pr_X9_saysAsAt K) 35 bc bs [some (.ref 1), some (.int pl), some (.int ln), some (.int x)] [.int (I 2 (I 1 4 + x).toInt.toNat)] (n, SH1, I, J)
    refine q_ald rfl rfl ?_
    refine q_ild rfl rfl ?_
    refine q_ild rfl rfl ?_
    refine q_add rfl ?_
    refine q_callV (as := [.int (pl + x)]) (rest := [.int (I 2 (I 1 4 + x).toInt.toNat)]) rfl rfl sk_1 rfl (Nat.le_of_ble_eq_true rfl) ?_
    refine v_byteAt (by omega) (by omega) ?_
    show dw_ok (pr_X9_saysAsAt K) 42 bc bs [some (.ref 1), some (.int pl), some (.int ln), some (.int x)] [.int (I 2 (pl + x).toInt.toNat), .int (I 2 (I 1 4 + x).toInt.toNat)] (n, SH1, I, J)
    have eb : I 2 (I 1 4 + x).toInt.toNat = tbC I (T.2.1 + i) := by rw [tbC_in (by omega), show (I 1 4 + x).toInt.toNat = T.2.1 + i by omega]
    have ew : I 2 (pl + x).toInt.toNat = tbC I (q + i) := by rw [tbC_in (by omega), show (pl + x).toInt.toNat = q + i by omega]
    rw [eb, ew]
    refine q_icmp (c := 0) rfl (by decide) (fun g2 => ?_) (fun g2 => ?_)
    · have g2 : tbC I (T.2.1 + i) = tbC I (q + i) := i_eq g2
      refine q_inc rfl rfl rfl ?_
      refine q_goto rfl ?_
      refine ih (i + 1) (x + 1) (by omega) (by omega) (by omega) (fun j hj => ?_)
      by_cases e : j = i
      · rw [e]; exact g2
      · exact hall j (by omega)
    · have g2 : (tbC I (T.2.1 + i)).toInt ≠ (tbC I (q + i)).toInt := g2
      refine q_ic rfl ?_
      exact q_zret rfl (Or.inl rfl) (hk 0 (Or.inr ⟨rfl, fun h => g2 (by rw [h.2.2 i (by omega)])⟩))
set_option maxRecDepth 8000 in
theorem v_saysAsAt {n : Nat} {I : Nat → Nat → Int32} {J : Nat → Nat → Int64} {K : dw_K} {N q k : Nat} {T : fT} {pl ln : Int32} (hN : (I 1 1).toInt = N) (hN9 : N ≤ 940) (hp : pl.toInt = q) (hl : ln.toInt = k) (hq : q + k ≤ N)
    (h3 : (I 1 3).toInt = T.2.2.1) (h4 : (I 1 4).toInt = T.2.1) (h5 : (I 1 5).toInt = T.1) (hTN : T.2.2.1 ≤ N) (hT2 : T.2.1 ≤ N)
    (hk : ∀ v : Int32, (v = 1 ∧ asF (tbC I) T q k) ∨ (v = 0 ∧ ¬ asF (tbC I) T q k) → K (some (.int v)) (n, SH1, I, J)) : t_X9_saysAsAt [.ref 1, .int pl, .int ln] (n, SH1, I, J) K := by
  have c1 : (1 : Int32).toInt = 1 := rfl
  have ts : (I 1 3 - I 1 4).toInt = (I 1 3).toInt - (I 1 4).toInt := i_sub (by omega) (by omega)
  refine q_body (Nat.le_of_ble_eq_true rfl) ?_
  refine q_ald rfl rfl ?_
  refine q_geti rfl sk_1 ?_
  refine q_ic rfl ?_
  refine q_icmp (c := 1) rfl (by decide) (fun g => ?_) (fun g => ?_)
  · have g : (I 1 5).toInt ≠ 1 := g
    refine q_ic rfl ?_
    exact q_zret rfl (Or.inl rfl) (hk 0 (Or.inr ⟨rfl, fun h => by have := h.1; omega⟩))
  have g : (I 1 5).toInt = 1 := g
  refine q_ald rfl rfl ?_
  refine q_callV (as := []) (rest := []) rfl rfl sk_1 rfl (Nat.le_of_ble_eq_true rfl) ?_
  refine v_tokenSize ?_
  show dw_ok (pr_X9_saysAsAt K) 12 0 0 [some (.ref 1), some (.int pl), some (.int ln), none] [.int (I 1 3 - I 1 4)] (n, SH1, I, J)
  refine q_ild rfl rfl ?_
  refine q_icmp (c := 0) rfl (by decide) (fun g2 => ?_) (fun g2 => ?_)
  · have g2 : (I 1 3 - I 1 4).toInt = ln.toInt := g2
    refine q_ic rfl ?_
    refine q_ist rfl rfl ?_
    exact sa_loop hN hN9 hp hl hq h4 (by omega) (by omega) hTN hk k 0 0 rfl (Nat.zero_le _) (Nat.le_refl _) (fun j hj => absurd hj (Nat.not_lt_zero j))
  · have g2 : (I 1 3 - I 1 4).toInt ≠ ln.toInt := g2
    refine q_ic rfl ?_
    exact q_zret rfl (Or.inl rfl) (hk 0 (Or.inr ⟨rfl, fun h => by have := h.2.1; omega⟩))
set_option maxRecDepth 8000 in
/-- told kinds stay where a row of theirs is written further on -/
theorem GR_k {I0 I : Nat → Nat → Int32} {s : gS} {row j : Nat} {v : Int32} (h : GRp I0 I s) (hr : row = 103 ∨ row = 104 ∨ row = 105 ∨ row = 108 ∨ row = 109) (hj : s.1.length ≤ j) : GRp I0 (dw_up I row j v) s := by
  obtain ⟨h1, h2, h3, h4, h5, h6, h7⟩ := h
  refine ⟨fun a e1 e2 => (up_row (by omega)).trans (h1 a e1 e2), fun i hi => ?_, ?_, ?_, fun i hi => ?_, fun y hy x hx => ?_, fun i hi => ?_⟩
  · rw [up_row (show 1 ≠ row by omega)]; exact h2 i hi
  · rw [up_row (show 102 ≠ row by omega)]; exact h3
  · rw [up_row (show 101 ≠ row by omega)]; exact h4
  · rw [up_ne (show 108 ≠ row ∨ i ≠ j by omega), up_ne (show 109 ≠ row ∨ i ≠ j by omega), up_ne (show 103 ≠ row ∨ i ≠ j by omega), up_ne (show 104 ≠ row ∨ i ≠ j by omega), up_ne (show 105 ≠ row ∨ i ≠ j by omega)]
    exact h5 i hi
  · rw [up_row (show 106 ≠ row by omega)]; exact h6 y hy x hx
  · rw [up_row (show 111 + i ≠ row by omega)]; exact h7 i hi
/-- a kind being told: its name, then what it holds, then what it gives and its gift -/
def GKp (I0 I : Nat → Nat → Int32) (s : gS) (x : gK) (c : Nat) : Prop :=
  GRp I0 I s ∧ ((I 108 s.1.length).toInt = x.1 ∧ (I 109 s.1.length).toInt = x.2.1) ∧ (1 ≤ c → I 103 s.1.length = x.2.2.1) ∧ (2 ≤ c → I 104 s.1.length = x.2.2.2.1 ∧ I 105 s.1.length = x.2.2.2.2)
set_option maxRecDepth 8000 in
theorem gkT {I0 : Nat → Nat → Int32} {s : gS} {x : gK} {c : Nat} : TapeInv I0 (fun I => GKp I0 I s x c) := by
  refine ⟨fun I I1 h hA hF => ?_, fun I h => grT.2 I h.1⟩
  obtain ⟨h1, h2, h3, h4⟩ := h
  refine ⟨GR_tape h1 hA hF, ?_, ?_, ?_⟩
  · rw [hA 108 (by decide), hA 109 (by decide)]; exact h2
  · rw [hA 103 (by decide)]; exact h3
  · rw [hA 104 (by decide), hA 105 (by decide)]; exact h4
set_option maxRecDepth 8000 in
theorem GK_done {I0 I : Nat → Nat → Int32} {s : gS} {x : gK} {v : Int32} (h : GKp I0 I s x 2) (hv : v.toInt = (s.1.length + 1 : Nat)) : GRp I0 (dw_up I 102 2 v) (x :: s.1, s.2) := by
  obtain ⟨⟨h1, h2, h3, h4, h5, h6, h7⟩, g1, g2, g3⟩ := h
  refine ⟨fun a e1 e2 => (up_row (by omega)).trans (h1 a e1 e2), fun i hi => ?_, ?_, ?_, fun i hi => ?_, fun y hy x hx => ?_, fun i hi => ?_⟩
  · rw [up_row (by decide)]; exact h2 i hi
  · exact ⟨(congrArg Int32.toInt (up_fld (by decide))).trans h3.1, (congrArg Int32.toInt (up_fld (by decide))).trans h3.2.1, (congrArg Int32.toInt up_same).trans hv, (congrArg Int32.toInt (up_fld (by decide))).trans h3.2.2.2.1, (up_fld (by decide)).trans h3.2.2.2.2⟩
  · rw [up_row (by decide)]; exact h4
  · have hi : i < s.1.length + 1 := hi
    rw [up_row (show 108 ≠ 102 by decide), up_row (show 109 ≠ 102 by decide), up_row (show 103 ≠ 102 by decide), up_row (show 104 ≠ 102 by decide), up_row (show 105 ≠ 102 by decide)]
    by_cases e : i = s.1.length
    · rw [e]
      show (I 108 s.1.length).toInt = (atF (0, 0, 0, 0, 0) (x :: s.1) s.1.length).1 ∧ (I 109 s.1.length).toInt = (atF (0, 0, 0, 0, 0) (x :: s.1) s.1.length).2.1 ∧ I 103 s.1.length = (atF (0, 0, 0, 0, 0) (x :: s.1) s.1.length).2.2.1 ∧ I 104 s.1.length = (atF (0, 0, 0, 0, 0) (x :: s.1) s.1.length).2.2.2.1 ∧ I 105 s.1.length = (atF (0, 0, 0, 0, 0) (x :: s.1) s.1.length).2.2.2.2
      rw [at_hd]
      exact ⟨g1.1, g1.2, g2 (by decide), (g3 (by decide)).1, (g3 (by decide)).2⟩
    · show (I 108 i).toInt = (atF (0, 0, 0, 0, 0) (x :: s.1) i).1 ∧ (I 109 i).toInt = (atF (0, 0, 0, 0, 0) (x :: s.1) i).2.1 ∧ I 103 i = (atF (0, 0, 0, 0, 0) (x :: s.1) i).2.2.1 ∧ I 104 i = (atF (0, 0, 0, 0, 0) (x :: s.1) i).2.2.2.1 ∧ I 105 i = (atF (0, 0, 0, 0, 0) (x :: s.1) i).2.2.2.2
      rw [at_tl e]
      exact h5 i (by omega)
  · rw [up_row (by decide)]; exact h6 y hy x hx
  · rw [up_row (show 111 + i ≠ 102 by omega)]; exact h7 i hi
set_option maxRecDepth 8000 in
theorem gs_ref {w : Nat} (hw : w < 12) : (SH1 110).2.2 w = some (111 + w) ∧ (SH1 (111 + w)).1 = 16 ∧ (SH1 (111 + w)).2.1 = 4 := by
  match w, hw with
  | 0, _ => exact ⟨sr_110_0, sk_111, sn_111⟩
  | 1, _ => exact ⟨sr_110_1, sk_112, sn_112⟩
  | 2, _ => exact ⟨sr_110_2, sk_113, sn_113⟩
  | 3, _ => exact ⟨sr_110_3, sk_114, sn_114⟩
  | 4, _ => exact ⟨sr_110_4, sk_115, sn_115⟩
  | 5, _ => exact ⟨sr_110_5, sk_116, sn_116⟩
  | 6, _ => exact ⟨sr_110_6, sk_117, sn_117⟩
  | 7, _ => exact ⟨sr_110_7, sk_118, sn_118⟩
  | 8, _ => exact ⟨sr_110_8, sk_119, sn_119⟩
  | 9, _ => exact ⟨sr_110_9, sk_120, sn_120⟩
  | 10, _ => exact ⟨sr_110_10, sk_121, sn_121⟩
  | 11, _ => exact ⟨sr_110_11, sk_122, sn_122⟩
  | k + 12, h => exact absurd h (by omega)
set_option maxRecDepth 8000 in
theorem idx_lt {y R x C : Nat} (hy : y < R) (hx : x < C) : y * C + x < R * C := by
  have h : (y + 1) * C ≤ R * C := Nat.mul_le_mul_right C hy
  rw [Nat.add_mul, Nat.one_mul] at h
  omega
set_option maxRecDepth 8000 in
theorem GR_106 {I0 I : Nat → Nat → Int32} {s : gS} {j : Nat} {v : Int32} (h : GRp I0 I s) (hj : s.2.2.1.length * s.2.1 ≤ j) : GRp I0 (dw_up I 106 j v) s := by
  obtain ⟨h1, h2, h3, h4, h5, h6, h7⟩ := h
  refine ⟨fun a e1 e2 => (up_row (by omega)).trans (h1 a e1 e2), fun i hi => ?_, ?_, ?_, fun i hi => ?_, fun y hy x hx => ?_, fun i hi => ?_⟩
  · rw [up_row (by decide)]; exact h2 i hi
  · rw [up_row (by decide)]; exact h3
  · rw [up_row (by decide)]; exact h4
  · rw [up_row (show 108 ≠ 106 by decide), up_row (show 109 ≠ 106 by decide), up_row (show 103 ≠ 106 by decide), up_row (show 104 ≠ 106 by decide), up_row (show 105 ≠ 106 by decide)]
    exact h5 i hi
  · have q := idx_lt hy hx
    rw [up_fld (by omega)]; exact h6 y hy x hx
  · rw [up_row (show 111 + i ≠ 106 by omega)]; exact h7 i hi
set_option maxRecDepth 8000 in
/-- a row told: its columns, its number -/
theorem GR_row {I0 I : Nat → Nat → Int32} {s : gS} {q Ln : Nat} {lt rv : Int32} (h : GRp I0 I s) (hlt : lt.toInt = Ln) (hrv : rv.toInt = (s.2.2.1.length + 1 : Nat)) (hC : s.2.2.1.length = 0 ∨ Ln = s.2.1)
    (hrow : ∀ x, x < Ln → (I 106 (s.2.2.1.length * Ln + x)).toInt = (tbC I0 (q + x)).toInt - 97) : GRp I0 (dw_up (dw_up I 102 0 lt) 102 1 rv) (s.1, Ln, q :: s.2.2.1, s.2.2.2) := by
  obtain ⟨h1, h2, h3, h4, h5, h6, h7⟩ := h
  have er : ∀ a, a ≠ 102 → dw_up (dw_up I 102 0 lt) 102 1 rv a = I a := fun a ha => (up_row ha).trans (up_row ha)
  have ef : ∀ j, j ≠ 0 → j ≠ 1 → dw_up (dw_up I 102 0 lt) 102 1 rv 102 j = I 102 j := fun j g0 g1 => (up_fld g1).trans (up_fld g0)
  have e0 : dw_up (dw_up I 102 0 lt) 102 1 rv 102 0 = lt := (up_fld (by decide)).trans up_same
  have e1 : dw_up (dw_up I 102 0 lt) 102 1 rv 102 1 = rv := up_same
  generalize dw_up (dw_up I 102 0 lt) 102 1 rv = I2 at er ef e0 e1 ⊢
  refine ⟨fun a g1 g2 => (er a (by omega)).trans (h1 a g1 g2), fun i hi => ?_, ?_, ?_, fun i hi => ?_, fun y hy x hx => ?_, fun i hi => ?_⟩
  · rw [er 1 (by decide)]; exact h2 i hi
  · rw [e0, e1, ef 2 (by decide) (by decide), ef 3 (by decide) (by decide), ef 4 (by decide) (by decide)]
    exact ⟨hlt, hrv, h3.2.2⟩
  · rw [er 101 (by decide)]; exact h4
  · rw [er 108 (by decide), er 109 (by decide), er 103 (by decide), er 104 (by decide), er 105 (by decide)]
    exact h5 i hi
  · rw [er 106 (by decide)]
    have hy : y < s.2.2.1.length + 1 := hy
    have hx : x < Ln := hx
    show (I 106 (y * Ln + x)).toInt = (tbC I0 (atF 0 (q :: s.2.2.1) y + x)).toInt - 97
    by_cases e : y = s.2.2.1.length
    · rw [e, at_hd]; exact hrow x hx
    · rw [at_tl e]
      rcases hC with g | g
      · omega
      · rw [g]; exact h6 y (by omega) x (by omega)
  · rw [er (111 + i) (by omega)]; exact h7 i hi
set_option maxRecDepth 8000 in
/-- shades told stay where a later one is written -/
theorem GR_s {I0 I : Nat → Nat → Int32} {s : gS} {w j : Nat} {v : Int32} (h : GRp I0 I s) (hw : s.2.2.2.1.length ≤ w) (hw12 : w < 12) : GRp I0 (dw_up I (111 + w) j v) s := by
  obtain ⟨h1, h2, h3, h4, h5, h6, h7⟩ := h
  have er : ∀ a, a ≠ 111 + w → dw_up I (111 + w) j v a = I a := fun a ha => up_row ha
  generalize dw_up I (111 + w) j v = I2 at er ⊢
  refine ⟨fun a g1 g2 => (er a (by omega)).trans (h1 a g1 g2), fun i hi => ?_, ?_, ?_, fun i hi => ?_, fun y hy x hx => ?_, fun i hi => ?_⟩
  · rw [er 1 (by omega)]; exact h2 i hi
  · rw [er 102 (by omega)]; exact h3
  · rw [er 101 (by omega)]; exact h4
  · rw [er 108 (by omega), er 109 (by omega), er 103 (by omega), er 104 (by omega), er 105 (by omega)]
    exact h5 i hi
  · rw [er 106 (by omega)]; exact h6 y hy x hx
  · rw [er (111 + i) (by omega)]; exact h7 i hi
/-- a shade being told -/
def GSp (I0 I : Nat → Nat → Int32) (s : gS) (v : Int32 × Int32 × Int32 × Int32) (c : Nat) : Prop :=
  GRp I0 I s ∧ (1 ≤ c → I (111 + s.2.2.2.1.length) 0 = v.1) ∧ (2 ≤ c → I (111 + s.2.2.2.1.length) 1 = v.2.1) ∧ (3 ≤ c → I (111 + s.2.2.2.1.length) 2 = v.2.2.1) ∧ (4 ≤ c → I (111 + s.2.2.2.1.length) 3 = v.2.2.2)
set_option maxRecDepth 8000 in
theorem gsT {I0 : Nat → Nat → Int32} {s : gS} {v : Int32 × Int32 × Int32 × Int32} {c : Nat} : TapeInv I0 (fun I => GSp I0 I s v c) := by
  refine ⟨fun I I1 h hA hF => ?_, fun I h => grT.2 I h.1⟩
  obtain ⟨h1, h2⟩ := h
  refine ⟨GR_tape h1 hA hF, ?_⟩
  rw [hA (111 + s.2.2.2.1.length) (by omega)]; exact h2
set_option maxRecDepth 8000 in
theorem GS_done {I0 I : Nat → Nat → Int32} {s : gS} {v : Int32 × Int32 × Int32 × Int32} {x : Int32} (h : GSp I0 I s v 4) (hx : x.toInt = (s.2.2.2.1.length + 1 : Nat)) : GRp I0 (dw_up I 102 3 x) (s.1, s.2.1, s.2.2.1, v :: s.2.2.2.1, s.2.2.2.2) := by
  obtain ⟨⟨h1, h2, h3, h4, h5, h6, h7⟩, g1, g2, g3, g4⟩ := h
  have er : ∀ a, a ≠ 102 → dw_up I 102 3 x a = I a := fun a ha => up_row ha
  have ef : ∀ j, j ≠ 3 → dw_up I 102 3 x 102 j = I 102 j := fun j g => up_fld g
  have e3 : dw_up I 102 3 x 102 3 = x := up_same
  generalize dw_up I 102 3 x = I2 at er ef e3 ⊢
  refine ⟨fun a g1 g2 => (er a (by omega)).trans (h1 a g1 g2), fun i hi => ?_, ?_, ?_, fun i hi => ?_, fun y hy x hx => ?_, fun i hi => ?_⟩
  · rw [er 1 (by decide)]; exact h2 i hi
  · rw [e3, ef 0 (by decide), ef 1 (by decide), ef 2 (by decide), ef 4 (by decide)]
    exact ⟨h3.1, h3.2.1, h3.2.2.1, hx, h3.2.2.2.2⟩
  · rw [er 101 (by decide)]; exact h4
  · rw [er 108 (by decide), er 109 (by decide), er 103 (by decide), er 104 (by decide), er 105 (by decide)]
    exact h5 i hi
  · rw [er 106 (by decide)]; exact h6 y hy x hx
  · have hi : i < s.2.2.2.1.length + 1 := hi
    rw [er (111 + i) (by omega)]
    show I (111 + i) 0 = (atF (0, 0, 0, 0) (v :: s.2.2.2.1) i).1 ∧ I (111 + i) 1 = (atF (0, 0, 0, 0) (v :: s.2.2.2.1) i).2.1 ∧ I (111 + i) 2 = (atF (0, 0, 0, 0) (v :: s.2.2.2.1) i).2.2.1 ∧ I (111 + i) 3 = (atF (0, 0, 0, 0) (v :: s.2.2.2.1) i).2.2.2
    by_cases e : i = s.2.2.2.1.length
    · rw [e, at_hd]; exact ⟨g1 (by decide), g2 (by decide), g3 (by decide), g4 (by decide)⟩
    · rw [at_tl e]; exact h7 i (by omega)
set_option maxRecDepth 8000 in
/-- the stock told -/
theorem GR_stock {I0 I : Nat → Nat → Int32} {s : gS} {v : Int32} (h : GRp I0 I s) : GRp I0 (dw_up (dw_up I 101 4 1) 102 4 v) (s.1, s.2.1, s.2.2.1, s.2.2.2.1, some v) := by
  obtain ⟨h1, h2, h3, h4, h5, h6, h7⟩ := h
  have er : ∀ a, a ≠ 102 → a ≠ 101 → dw_up (dw_up I 101 4 1) 102 4 v a = I a := fun a ha hb => (up_row ha).trans (up_row hb)
  have ef : ∀ j, j ≠ 4 → dw_up (dw_up I 101 4 1) 102 4 v 102 j = I 102 j := fun j g => (up_fld g).trans (congrFun (up_row (by decide)) j)
  have e4 : dw_up (dw_up I 101 4 1) 102 4 v 102 4 = v := up_same
  have e5 : dw_up (dw_up I 101 4 1) 102 4 v 101 4 = 1 := (congrFun (up_row (by decide)) 4).trans up_same
  generalize dw_up (dw_up I 101 4 1) 102 4 v = I2 at er ef e4 e5 ⊢
  refine ⟨fun a g1 g2 => (er a (by omega) (by omega)).trans (h1 a g1 g2), fun i hi => ?_, ?_, ?_, fun i hi => ?_, fun y hy x hx => ?_, fun i hi => ?_⟩
  · rw [er 1 (by decide) (by decide)]; exact h2 i hi
  · rw [e4, ef 0 (by decide), ef 1 (by decide), ef 2 (by decide), ef 3 (by decide)]
    exact ⟨h3.1, h3.2.1, h3.2.2.1, h3.2.2.2.1, rfl⟩
  · rw [e5]; rfl
  · rw [er 108 (by decide) (by decide), er 109 (by decide) (by decide), er 103 (by decide) (by decide), er 104 (by decide) (by decide), er 105 (by decide) (by decide)]
    exact h5 i hi
  · rw [er 106 (by decide) (by decide)]; exact h6 y hy x hx
  · rw [er (111 + i) (by omega) (by omega)]; exact h7 i hi
set_option maxRecDepth 8000 in
theorem gk_kind {b : fB} {N m : Nat} {T : fT} {s : gS} (h : (gkF b N m T s).1 = 0) : T.1 = 1 := by
  unfold gkF at h
  by_cases c1 : sayF b T (dw_sb 0)
  · exact c1.1
  rw [if_neg c1] at h
  by_cases c2 : sayF b T (dw_sb 15)
  · exact c2.1
  rw [if_neg c2] at h
  by_cases c3 : sayF b T (dw_sb 16)
  · exact c3.1
  rw [if_neg c3] at h
  by_cases c4 : sayF b T (dw_sb 17)
  · exact c4.1
  rw [if_neg c4] at h
  exact absurd h (nn rfl)
