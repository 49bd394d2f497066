/-! ===== a reader's steps on the class's tape, whatever else it keeps ===== -/
set_option maxRecDepth 8000 in
theorem nb_2 {t : fT} {lo hi : Int} (h : nbF t lo hi = 0) : t.1 = 2 := by
  unfold nbF at h
  by_cases g : t.1 = 2
  · exact g
  · rw [if_neg g] at h; exact absurd h (nn rfl)
set_option maxRecDepth 8000 in
theorem nb_r {t : fT} {lo hi : Int} (h : nbF t lo hi = 0) : lo ≤ t.2.2.2.toInt ∧ t.2.2.2.toInt ≤ hi := by
  have h2 := nb_2 h
  unfold nbF at h
  rw [if_pos h2] at h
  by_cases g : lo ≤ t.2.2.2.toInt ∧ t.2.2.2.toInt ≤ hi
  · exact g
  · rw [if_neg g] at h; exact absurd h (nn rfl)
set_option maxRecDepth 8000 in
theorem st_e {t : fT} {k : Nat} : stF t k = 0 ↔ t.1 = k := by
  unfold stF
  by_cases g : t.1 = k
  · rw [if_pos g]; exact ⟨fun _ => g, fun _ => rfl⟩
  · rw [if_neg g]; exact ⟨fun h => absurd h (nn rfl), fun h => absurd h g⟩
set_option maxRecDepth 8000 in
theorem st_1 {t : fT} {k : Nat} (g : t.1 ≠ k) : stF t k = 1 := if_neg g
def TapeInv (I0 : Nat → Nat → Int32) (Inv : (Nat → Nat → Int32) → Prop) : Prop :=
  (∀ I I1, Inv I → (∀ a, a ≠ 1 → I1 a = I a) → (∀ j, j < 3 → I1 1 j = I 1 j) → Inv I1) ∧ ∀ I, Inv I → I 1 1 = I0 1 1 ∧ I 1 2 = I0 1 2 ∧ I 2 = I0 2
section
variable {pr : Nat → dw_Op} {K : dw_K} {pc nx cont z1 z2 bc bs n : Nat} {ls : dw_L} {J : Nat → Nat → Int64} {I0 I : Nat → Nat → Int32} {Inv : (Nat → Nat → Int32) → Prop} {N m p : Nat}
set_option maxRecDepth 8000 in
theorem tn_step {lo hi : Int32} (ho : pr pc = o_callV 9 3 0 0 t_X9_takeNumber nx) (ho1 : pr nx = o_if_ne cont z1) (ho2 : pr z1 = o_ic 0 z2) (ho3 : pr z2 = o_zret K) (hT : TapeInv I0 Inv) (hI : Inv I) (hN : (I0 1 1).toInt = N) (hN9 : N ≤ 940) (hm : (I0 1 2).toInt = m) (h3 : (I 1 3).toInt = p) (hp : p ≤ N)
    (k1 : nbF (tkF (tbC I0) N m p) lo.toInt hi.toInt = 0 → ∀ I1 : Nat → Nat → Int32, Inv I1 → (I1 1 3).toInt = (tkF (tbC I0) N m p).2.2.1 → I1 1 6 = (tkF (tbC I0) N m p).2.2.2 → dw_ok pr cont bc bs ls [] (n, SH1, I1, J))
    (k0 : nbF (tkF (tbC I0) N m p) lo.toInt hi.toInt ≠ 0 → ∀ I1 : Nat → Nat → Int32, Inv I1 → (I1 1 7).toInt = nbF (tkF (tbC I0) N m p) lo.toInt hi.toInt → (I1 1 8).toInt = (tkF (tbC I0) N m p).2.1 → K (some (.int 0)) (n, SH1, I1, J)) :
    dw_ok pr pc bc bs ls [.int hi, .int lo, .ref 1] (n, SH1, I, J) := by
  obtain ⟨e1, e2, e3⟩ := hT.2 I hI
  have hb : tbC I = tbC I0 := tbC_eq e1 e3
  refine q_callV (as := [.int lo, .int hi]) (rest := []) ho rfl sk_1 rfl (Nat.le_of_ble_eq_true rfl) ?_
  refine v_takeNumber (p := p) (N := N) (m := m) (by rw [e1]; exact hN) hN9 (by rw [e2]; exact hm) h3 hp (fun I1 w hA hF hy hn => ?_)
  rw [hb] at hy hn
  have hI1 := hT.1 I I1 hI hA hF
  show dw_ok pr nx bc bs ls [.int w] (n, SH1, I1, J)
  by_cases e : nbF (tkF (tbC I0) N m p) lo.toInt hi.toInt = 0
  · obtain ⟨rfl, g3, g4, g5, g6⟩ := hy e
    exact q_if (c := 1) ho1 (by decide) (fun _ => k1 e I1 hI1 g3 (g6 (nb_2 e))) (fun h => absurd (show (1 : Int32).toInt = 0 from h) (by decide))
  · obtain ⟨rfl, g7, g8⟩ := hn e
    refine q_if (c := 1) ho1 (by decide) (fun h => absurd rfl h) (fun _ => ?_)
    refine q_ic ho2 ?_
    exact q_zret ho3 (Or.inl rfl) (k0 e I1 hI1 g7 g8)
set_option maxRecDepth 8000 in
theorem ts_step (ho : pr pc = o_callV 9 1 0 0 t_X9_takeStop nx) (ho1 : pr nx = o_zret K) (hT : TapeInv I0 Inv) (hI : Inv I) (hN : (I0 1 1).toInt = N) (hN9 : N ≤ 940) (hm : (I0 1 2).toInt = m) (h3 : (I 1 3).toInt = p) (hp : p ≤ N)
    (k1 : (tkF (tbC I0) N m p).1 = 3 → ∀ I1 : Nat → Nat → Int32, Inv I1 → (I1 1 3).toInt = (tkF (tbC I0) N m p).2.2.1 → K (some (.int 1)) (n, SH1, I1, J))
    (k0 : (tkF (tbC I0) N m p).1 ≠ 3 → ∀ I1 : Nat → Nat → Int32, Inv I1 → (I1 1 7).toInt = 1 → (I1 1 8).toInt = (tkF (tbC I0) N m p).2.1 → K (some (.int 0)) (n, SH1, I1, J)) :
    dw_ok pr pc bc bs ls [.ref 1] (n, SH1, I, J) := by
  obtain ⟨e1, e2, e3⟩ := hT.2 I hI
  have hb : tbC I = tbC I0 := tbC_eq e1 e3
  refine q_callV (as := []) (rest := []) ho rfl sk_1 rfl (Nat.le_of_ble_eq_true rfl) ?_
  refine v_takeStop (p := p) (N := N) (m := m) (by rw [e1]; exact hN) hN9 (by rw [e2]; exact hm) h3 hp (fun I1 w hA hF hy hn => ?_)
  rw [hb] at hy hn
  have hI1 := hT.1 I I1 hI hA hF
  show dw_ok pr nx bc bs ls [.int w] (n, SH1, I1, J)
  by_cases e : (tkF (tbC I0) N m p).1 = 3
  · obtain ⟨rfl, g3, -⟩ := hy (st_e.mpr e)
    exact q_zret ho1 (Or.inr rfl) (k1 e I1 hI1 g3)
  · have s1 := st_1 e
    obtain ⟨rfl, g7, g8⟩ := hn (by rw [s1]; decide)
    rw [s1] at g7
    exact q_zret ho1 (Or.inl rfl) (k0 e I1 hI1 g7 g8)
set_option maxRecDepth 8000 in
theorem fl_step {c : Int32} (ho : pr pc = o_callV 9 2 0 0 t_X9_fail nx) (ho1 : pr nx = o_zret K) (hT : TapeInv I0 Inv) (hI : Inv I)
    (k0 : ∀ I1 : Nat → Nat → Int32, Inv I1 → (I1 1 7).toInt = c.toInt → (I1 1 8).toInt = (I 1 4).toInt → K (some (.int 0)) (n, SH1, I1, J)) :
    dw_ok pr pc bc bs ls [.int c, .ref 1] (n, SH1, I, J) := by
  refine q_callV (as := [.int c]) (rest := []) ho rfl sk_1 rfl (Nat.le_of_ble_eq_true rfl) ?_
  refine v_fail ?_
  refine q_zret ho1 (Or.inl rfl) (k0 _ (hT.1 I _ hI (fun a ha => ?_) (fun j hj => ?_)) rfl rfl)
  · exact (up_row ha).trans (up_row ha)
  · exact (up_fld (by omega)).trans (up_fld (by omega))
end
set_option maxRecDepth 8000 in
theorem nrT {I0 : Nat → Nat → Int32} {lat : Int32} {U : List (Nat × Nat × Int32)} : TapeInv I0 (fun I => NRp I0 I lat U) :=
  ⟨fun _ _ h hA hF => NR_tape h hA hF, fun _ h => ⟨h.2.1 1 (by decide), h.2.1 2 (by decide), h.1 2 (by decide) (by decide) (by decide)⟩⟩
