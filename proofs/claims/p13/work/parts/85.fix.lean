/-! ===== contracts by hand: octet, peek, cells ===== -/
theorem ar1 {as : List Value} (h : as.length = 1) : ∃ x, as = [x] := by
  match as, h with
  | [x], _ => exact ⟨x, rfl⟩
theorem g_as1 {E : dx_Env} {md : List Nat} {n : Nat} {ν : Nat → Int} {μ : dw_S} {pre : dx_S} {as : List Value} {a : Nat} (g : dx_g E md n ν μ ν pre (as.map some) [] μ) (h : pre.ls = [(.inr (.inl [a]))]) : as = [.ref a] := by
  have gl := g.gl
  rw [h] at gl
  match as, gl with
  | [x], gl => rw [Option.some.inj (gV_th gl.1)]
theorem g_as2 {E : dx_Env} {md : List Nat} {n : Nat} {ν : Nat → Int} {μ : dw_S} {pre : dx_S} {as : List Value} {a s : Nat} {o : Int} (g : dx_g E md n ν μ ν pre (as.map some) [] μ) (h : pre.ls = [(.inr (.inl [a])), (.inl (s, o))]) : ∃ w : Int32, as = [.ref a, .int w] ∧ w.toInt = ν s + o := by
  have gl := g.gl
  rw [h] at gl
  match as, gl with
  | [x, y], gl =>
    obtain ⟨-, w, h1, h2⟩ := gl.2.1
    exact ⟨w, by rw [Option.some.inj (gV_th gl.1), Option.some.inj h1], h2⟩
theorem t_octet {μ : dw_S} {K : dw_K} {x : Int32} (k1 : (μ.2.1 404).1 = 12) (r1 : (μ.2.1 404).2.2 1 = some 405) (k2 : (μ.2.1 405).1 = 18) (n2 : (μ.2.1 405).2.1 = 940) (h0 : 0 ≤ x.toInt) (h1 : x.toInt < 940) (k : K (some (.int (μ.2.2.1 405 x.toInt.toNat &&& 255))) μ) : t_X12_octet [.ref 404, .int x] μ K := by
  refine q_body (Nat.le_refl 2) ?_
  refine q_ald rfl rfl ?_
  refine q_getr rfl k1 r1 ?_
  refine q_ild rfl rfl ?_
  refine q_xald rfl (Or.inr (Or.inr rfl)) k2 n2 h0 h1 ?_
  refine q_ic rfl ?_
  refine q_and rfl ?_
  exact q_iret rfl k
theorem t_cells {μ : dw_S} {K : dw_K} (k1 : (μ.2.1 404).1 = 12) (r1 : (μ.2.1 404).2.2 6 = some 406) (k2 : (μ.2.1 406).1 = 16) (n2 : (μ.2.1 406).2.1 = 1427) (k : K (some (.int (μ.2.2.1 406 0 * μ.2.2.1 406 1))) μ) : t_X12_cells [.ref 404] μ K := by
  refine q_body (Nat.le_refl 1) ?_
  refine q_ald rfl rfl ?_
  refine q_getr rfl k1 r1 ?_
  refine q_ic rfl ?_
  refine q_xald rfl (Or.inl rfl) k2 n2 (by decide) (by decide) ?_
  refine q_ald rfl rfl ?_
  refine q_getr rfl k1 r1 ?_
  refine q_ic rfl ?_
  refine q_xald rfl (Or.inl rfl) k2 n2 (by decide) (by decide) ?_
  refine q_mul rfl ?_
  exact q_iret rfl k
theorem t_peek {μ : dw_S} {K : dw_K} (k1 : (μ.2.1 404).1 = 12) (r1 : (μ.2.1 404).2.2 1 = some 405) (k2 : (μ.2.1 405).1 = 18) (n2 : (μ.2.1 405).2.1 = 940) (h0 : 0 ≤ (μ.2.2.1 404 4).toInt) (h1 : (μ.2.2.1 404 3).toInt ≤ 940)
    (ka : (μ.2.2.1 404 4).toInt < (μ.2.2.1 404 3).toInt → K (some (.int (μ.2.2.1 405 (μ.2.2.1 404 4).toInt.toNat &&& 255))) μ) (kb : ¬ (μ.2.2.1 404 4).toInt < (μ.2.2.1 404 3).toInt → K (some (.int (-1))) μ) : t_X12_peek [.ref 404] μ K := by
  refine q_body (Nat.le_refl 1) ?_
  refine q_ald rfl rfl ?_
  refine q_geti rfl k1 ?_
  refine q_ald rfl rfl ?_
  refine q_geti rfl k1 ?_
  refine q_icmp (c := 3) rfl (by decide) (fun hc => ?_) (fun hc => ?_)
  · have hc' : (μ.2.2.1 404 3).toInt ≤ (μ.2.2.1 404 4).toInt := hc
    refine q_ic rfl ?_
    exact q_iret rfl (kb (by omega))
  · have hc' : (μ.2.2.1 404 4).toInt < (μ.2.2.1 404 3).toInt := hc
    refine q_ald rfl rfl ?_
    refine q_getr rfl k1 r1 ?_
    refine q_ald rfl rfl ?_
    refine q_geti rfl k1 ?_
    refine q_xald rfl (Or.inr (Or.inr rfl)) k2 n2 h0 (by omega) ?_
    refine q_ic rfl ?_
    refine q_and rfl ?_
    refine q_goto rfl ?_
    exact q_iret rfl (ka hc')
section
variable {SH : dw_Sh} {TT : Nat → dw_T}
theorem e_404 (hE : (EE SH TT).ok) : (SH 404).1 = 12 ∧ (SH 404).2.2 1 = some 405 ∧ (SH 404).2.2 6 = some 406 ∧ (SH 405).1 = 18 ∧ (SH 405).2.1 = 940 ∧ (SH 406).1 = 16 ∧ (SH 406).2.1 = 1427 :=
  ⟨(hE.sh 404).1, (hE.sh 404).2.2 1, (hE.sh 404).2.2 6, (hE.sh 405).1, (hE.sh 405).2.1, (hE.sh 406).1, (hE.sh 406).2.1⟩
def oA (m j : Nat) : dx_Inst := ⟨m, ⟨[(0, 0), (-2147483648, 2147483647)], [], [(.inr (.inl [404])), (.inl (0, (j : Int)))], [], [], [(200 + j, 1, 0)]⟩, [⟨[(0, 0), (0, 255)], [], [(.inl (1, 0))], [], [], [(200 + j, 1, 0)]⟩], [], [], [], []⟩
def oB (m j : Nat) : dx_Inst := ⟨m, ⟨[(0, 0)], [], [(.inr (.inl [404])), (.inl (0, (j : Int)))], [], [], []⟩, [⟨[(0, 0), (0, 255)], [], [(.inl (1, 0))], [], [], [(200 + j, 1, 0)]⟩], [], [], [], []⟩
theorem ok_oA {m j : Nat} (hE : (EE SH TT).ok) (hT : TT m = t_X12_octet) (hj : j ≤ 15) : dx_OK (EE SH TT) (oA m j) := by
  intro ν as μ K g hK
  obtain ⟨w, rfl, hw⟩ := g_as2 g rfl
  have z0 := g.z
  have hw' : w.toInt = ν 0 + j := hw
  show TT m _ μ K
  rw [hT]
  obtain ⟨c1, c2, c3, c4, c5, c6, c7⟩ := e_404 hE
  have hs : μ.2.1 = SH := g.sh
  have p0 : fl_P (200 + j) (ν 1 + 0) μ.2.2.1 := (g.fl _ (List.Mem.head _)).2
  have p1 := (fl_oc2 hj).mp p0
  have ho := oc_rng μ.2.2.1 j
  refine t_octet (by rw [hs]; exact c1) (by rw [hs]; exact c2) (by rw [hs]; exact c4) (by rw [hs]; exact c5) (by omega) (by omega) ?_
  rw [show w.toInt.toNat = j by omega]
  refine hK (some (.int _)) μ ν _ (List.Mem.head _) (post_mk g rfl g.hi (fun _ _ => ⟨rfl, rfl⟩) (Nat.le_of_ble_eq_true rfl) (Nat.le_of_ble_eq_true rfl) (fun _ _ => rfl) ⟨(show (0 : Int) ≤ ν 0 ∧ ν 0 ≤ 0 from ⟨by omega, by omega⟩), (show (0 : Int) ≤ ν 1 ∧ ν 1 ≤ 255 from ⟨by omega, by omega⟩), trivial⟩ trivial ⟨⟨Nat.lt_succ_self 1, _, rfl, (show fl_oc μ.2.2.1 j = ν 1 + 0 by omega)⟩, trivial⟩ rfl trivial ⟨⟨Nat.lt_succ_self 1, p0⟩, trivial⟩)
theorem ok_oB {m j : Nat} (hE : (EE SH TT).ok) (hT : TT m = t_X12_octet) (hj : j ≤ 15) : dx_OK (EE SH TT) (oB m j) := by
  intro ν as μ K g hK
  obtain ⟨w, rfl, hw⟩ := g_as2 g rfl
  have z0 := g.z
  have hw' : w.toInt = ν 0 + j := hw
  show TT m _ μ K
  rw [hT]
  obtain ⟨c1, c2, c3, c4, c5, c6, c7⟩ := e_404 hE
  have hs : μ.2.1 = SH := g.sh
  have ho := oc_rng μ.2.2.1 j
  refine t_octet (by rw [hs]; exact c1) (by rw [hs]; exact c2) (by rw [hs]; exact c4) (by rw [hs]; exact c5) (by omega) (by omega) ?_
  rw [show w.toInt.toNat = j by omega]
  obtain ⟨ν', hag, hn⟩ := nu1 ν 1 (fl_oc μ.2.2.1 j)
  have a0 := hag 0 (by decide)
  refine hK (some (.int _)) μ ν' _ (List.Mem.head _) (post_mk g rfl g.hi (fun _ _ => ⟨rfl, rfl⟩) (Nat.le_of_ble_eq_true rfl) (Nat.le_of_ble_eq_true rfl) hag ⟨(show (0 : Int) ≤ ν' 0 ∧ ν' 0 ≤ 0 from ⟨by omega, by omega⟩), (show (0 : Int) ≤ ν' 1 ∧ ν' 1 ≤ 255 from ⟨by omega, by omega⟩), trivial⟩ trivial ⟨⟨Nat.lt_succ_self 1, _, rfl, (show fl_oc μ.2.2.1 j = ν' 1 + 0 by omega)⟩, trivial⟩ rfl trivial ⟨⟨Nat.lt_succ_self 1, (show fl_P (200 + j) (ν' 1 + 0) μ.2.2.1 from (fl_oc2 hj).mpr (by omega))⟩, trivial⟩)
def pA (m : Nat) : dx_Inst := ⟨m, ⟨[(0, 0), (-2147483648, 2147483647)], [], [(.inr (.inl [404]))], [], [], [(21, 1, 0)]⟩, [⟨[(0, 0), (-1, 255)], [], [(.inl (1, 0))], [], [], [(21, 1, 0)]⟩], [], [], [], []⟩
def pB (m : Nat) : dx_Inst := ⟨m, ⟨[(0, 0), (0, 940), (0, 940)], [], [(.inr (.inl [404]))], [], [(404, 4, 1, 0), (404, 3, 2, 0)], []⟩, [⟨[(0, 0), (0, 940), (0, 940)], [(2, 1, 0)], [(.inl (0, (-1)))], [], [], [(21, 0, -1)]⟩, ⟨[(0, 0), (0, 939), (0, 940), (0, 255)], [(1, 2, -1)], [(.inl (3, 0))], [], [], [(21, 3, 0)]⟩], [], [], [], []⟩
theorem hi_404_34 : dx_seg (dx_ce 404).iv 4 = (0, 940) ∧ dx_seg (dx_ce 404).iv 3 = (0, 940) := by constructor <;> decide +kernel
theorem ok_pA {m : Nat} (hE : (EE SH TT).ok) (hT : TT m = t_X12_peek) : dx_OK (EE SH TT) (pA m) := by
  intro ν as μ K g hK
  obtain rfl := g_as1 g rfl
  have z0 := g.z
  show TT m _ μ K
  rw [hT]
  obtain ⟨c1, c2, c3, c4, c5, c6, c7⟩ := e_404 hE
  have hs : μ.2.1 = SH := g.sh
  have h4 : dx_in (dx_seg (dx_ce 404).iv 4) (μ.2.2.1 404 4).toInt := g.hi 404 4
  have h3 : dx_in (dx_seg (dx_ce 404).iv 3) (μ.2.2.1 404 3).toInt := g.hi 404 3
  rw [hi_404_34.1] at h4
  rw [hi_404_34.2] at h3
  have h41 : (0 : Int) ≤ (μ.2.2.1 404 4).toInt := h4.1
  have h32 : (μ.2.2.1 404 3).toInt ≤ (940 : Int) := h3.2
  have p0 : fl_P 21 (ν 1 + 0) μ.2.2.1 := (g.fl _ (List.Mem.head _)).2
  have p1 : ((μ.2.2.1 404 4).toInt < (μ.2.2.1 404 3).toInt → (μ.2.2.1 404 4).toInt.toNat < 940 → ν 1 + 0 = fl_oc μ.2.2.1 (μ.2.2.1 404 4).toInt.toNat) ∧ (¬ (μ.2.2.1 404 4).toInt < (μ.2.2.1 404 3).toInt → ν 1 + 0 = -1) := p0
  refine t_peek (by rw [hs]; exact c1) (by rw [hs]; exact c2) (by rw [hs]; exact c4) (by rw [hs]; exact c5) h41 h32 (fun hl => ?_) (fun hl => ?_)
  · have ho := oc_rng μ.2.2.1 (μ.2.2.1 404 4).toInt.toNat
    have e := p1.1 hl (by omega)
    exact hK (some (.int _)) μ ν _ (List.Mem.head _) (post_mk g rfl g.hi (fun _ _ => ⟨rfl, rfl⟩) (Nat.le_of_ble_eq_true rfl) (Nat.le_of_ble_eq_true rfl) (fun _ _ => rfl) ⟨(show (0 : Int) ≤ ν 0 ∧ ν 0 ≤ 0 from ⟨by omega, by omega⟩), (show (-1 : Int) ≤ ν 1 ∧ ν 1 ≤ 255 from ⟨by omega, by omega⟩), trivial⟩ trivial ⟨⟨Nat.lt_succ_self 1, _, rfl, (show fl_oc μ.2.2.1 (μ.2.2.1 404 4).toInt.toNat = ν 1 + 0 by omega)⟩, trivial⟩ rfl trivial ⟨⟨Nat.lt_succ_self 1, p0⟩, trivial⟩)
  · have e := p1.2 hl
    exact hK (some (.int _)) μ ν _ (List.Mem.head _) (post_mk g rfl g.hi (fun _ _ => ⟨rfl, rfl⟩) (Nat.le_of_ble_eq_true rfl) (Nat.le_of_ble_eq_true rfl) (fun _ _ => rfl) ⟨(show (0 : Int) ≤ ν 0 ∧ ν 0 ≤ 0 from ⟨by omega, by omega⟩), (show (-1 : Int) ≤ ν 1 ∧ ν 1 ≤ 255 from ⟨by omega, by omega⟩), trivial⟩ trivial ⟨⟨Nat.lt_succ_self 1, _, rfl, (show (-1 : Int32).toInt = ν 1 + 0 by rw [e]; rfl)⟩, trivial⟩ rfl trivial ⟨⟨Nat.lt_succ_self 1, p0⟩, trivial⟩)
theorem ok_pB {m : Nat} (hE : (EE SH TT).ok) (hT : TT m = t_X12_peek) : dx_OK (EE SH TT) (pB m) := by
  intro ν as μ K g hK
  obtain rfl := g_as1 g rfl
  have z0 := g.z
  show TT m _ μ K
  rw [hT]
  obtain ⟨c1, c2, c3, c4, c5, c6, c7⟩ := e_404 hE
  have hs : μ.2.1 = SH := g.sh
  have f4 : (μ.2.2.1 404 4).toInt = ν 1 + 0 := (g.fa _ (List.Mem.head _)).2
  have f3 : (μ.2.2.1 404 3).toInt = ν 2 + 0 := (g.fa _ (List.Mem.tail _ (List.Mem.head _))).2
  have b1 : (0 : Int) ≤ ν 1 ∧ ν 1 ≤ 940 := g.iv 1 (Nat.le_of_ble_eq_true rfl)
  have b2 : (0 : Int) ≤ ν 2 ∧ ν 2 ≤ 940 := g.iv 2 (Nat.le_of_ble_eq_true rfl)
  refine t_peek (by rw [hs]; exact c1) (by rw [hs]; exact c2) (by rw [hs]; exact c4) (by rw [hs]; exact c5) (by omega) (by omega) (fun hl => ?_) (fun hl => ?_)
  · have ho := oc_rng μ.2.2.1 (μ.2.2.1 404 4).toInt.toNat
    obtain ⟨ν', hag, hn⟩ := nu1 ν 3 (fl_oc μ.2.2.1 (μ.2.2.1 404 4).toInt.toNat)
    have a0 := hag 0 (by decide)
    have a1 := hag 1 (by decide)
    have a2 := hag 2 (by decide)
    exact hK (some (.int _)) μ ν' _ (List.Mem.tail _ (List.Mem.head _)) (post_mk g rfl g.hi (fun _ _ => ⟨rfl, rfl⟩) (Nat.le_of_ble_eq_true rfl) (Nat.le_of_ble_eq_true rfl) hag ⟨(show (0 : Int) ≤ ν' 0 ∧ ν' 0 ≤ 0 from ⟨by omega, by omega⟩), (show (0 : Int) ≤ ν' 1 ∧ ν' 1 ≤ 939 from ⟨by omega, by omega⟩), (show (0 : Int) ≤ ν' 2 ∧ ν' 2 ≤ 940 from ⟨by omega, by omega⟩), (show (0 : Int) ≤ ν' 3 ∧ ν' 3 ≤ 255 from ⟨by omega, by omega⟩), trivial⟩ ⟨⟨by decide, by decide, (show ν' 1 - ν' 2 ≤ -1 by omega)⟩, trivial⟩ ⟨⟨by decide, _, rfl, (show fl_oc μ.2.2.1 (μ.2.2.1 404 4).toInt.toNat = ν' 3 + 0 by omega)⟩, trivial⟩ rfl trivial ⟨⟨by decide, (⟨fun _ _ => by show ν' 3 + 0 = _; omega, fun q => absurd hl q⟩ : fl_P 21 (ν' 3 + 0) μ.2.2.1)⟩, trivial⟩)
  · exact hK (some (.int _)) μ ν _ (List.Mem.head _) (post_mk g rfl g.hi (fun _ _ => ⟨rfl, rfl⟩) (Nat.le_of_ble_eq_true rfl) (Nat.le_of_ble_eq_true rfl) (fun _ _ => rfl) ⟨(show (0 : Int) ≤ ν 0 ∧ ν 0 ≤ 0 from ⟨by omega, by omega⟩), b1, b2, trivial⟩ ⟨⟨by decide, by decide, (show ν 2 - ν 1 ≤ 0 by omega)⟩, trivial⟩ ⟨⟨by decide, _, rfl, (show (-1 : Int32).toInt = ν 0 + -1 by rw [z0]; rfl)⟩, trivial⟩ rfl trivial ⟨⟨by decide, (⟨fun q => absurd q hl, fun _ => by show ν 0 + -1 = -1; omega⟩ : fl_P 21 (ν 0 + -1) μ.2.2.1)⟩, trivial⟩)
def cA (m : Nat) : dx_Inst := ⟨m, ⟨[(0, 0), (-2147483648, 2147483647)], [], [(.inr (.inl [404]))], [], [], [(5, 1, 0)]⟩, [⟨[(0, 0), (0, 144)], [], [(.inl (1, 0))], [], [], [(5, 1, 0)]⟩], [], [], [], []⟩
def cB (m : Nat) : dx_Inst := ⟨m, ⟨[(0, 0), (1, 12), (0, 12)], [], [(.inr (.inl [404]))], [], [(406, 0, 1, 0), (406, 1, 2, 0)], []⟩, [⟨[(0, 0), (1, 12), (0, 12), (0, 144)], [], [(.inl (3, 0))], [], [(406, 0, 1, 0), (406, 1, 2, 0)], [(5, 3, 0)]⟩], [], [], [], []⟩
theorem hi_406_01 : dx_seg (dx_ce 406).iv 0 = (0, 12) ∧ dx_seg (dx_ce 406).iv 1 = (0, 12) := by constructor <;> decide +kernel
theorem pr_144 {x y : Int32} (h1 : 0 ≤ x.toInt ∧ x.toInt ≤ 12) (h2 : 0 ≤ y.toInt ∧ y.toInt ≤ 12) : (x * y).toInt = x.toInt * y.toInt ∧ 0 ≤ x.toInt * y.toInt ∧ x.toInt * y.toInt ≤ 144 := by
  have m1 := Int.mul_nonneg h1.1 h2.1
  have m2 := Int.mul_le_mul h1.2 h2.2 h2.1 (by omega : (0 : Int) ≤ 12)
  exact ⟨i_mul rfl (by omega) (by omega), m1, by omega⟩
theorem ok_cA {m : Nat} (hE : (EE SH TT).ok) (hT : TT m = t_X12_cells) : dx_OK (EE SH TT) (cA m) := by
  intro ν as μ K g hK
  obtain rfl := g_as1 g rfl
  have z0 := g.z
  show TT m _ μ K
  rw [hT]
  obtain ⟨c1, c2, c3, c4, c5, c6, c7⟩ := e_404 hE
  have hs : μ.2.1 = SH := g.sh
  have h0 : dx_in (dx_seg (dx_ce 406).iv 0) (μ.2.2.1 406 0).toInt := g.hi 406 0
  have h1 : dx_in (dx_seg (dx_ce 406).iv 1) (μ.2.2.1 406 1).toInt := g.hi 406 1
  rw [hi_406_01.1] at h0
  rw [hi_406_01.2] at h1
  obtain ⟨e1, e2, e3⟩ := pr_144 h0 h1
  have p0 : fl_P 5 (ν 1 + 0) μ.2.2.1 := (g.fl _ (List.Mem.head _)).2
  have p1 : ν 1 + 0 = (μ.2.2.1 406 0).toInt * (μ.2.2.1 406 1).toInt := p0
  refine t_cells (by rw [hs]; exact c1) (by rw [hs]; exact c3) (by rw [hs]; exact c6) (by rw [hs]; exact c7) ?_
  exact hK (some (.int _)) μ ν _ (List.Mem.head _) (post_mk g rfl g.hi (fun _ _ => ⟨rfl, rfl⟩) (Nat.le_of_ble_eq_true rfl) (Nat.le_of_ble_eq_true rfl) (fun _ _ => rfl) ⟨(show (0 : Int) ≤ ν 0 ∧ ν 0 ≤ 0 from ⟨by omega, by omega⟩), (show (0 : Int) ≤ ν 1 ∧ ν 1 ≤ 144 from ⟨by omega, by omega⟩), trivial⟩ trivial ⟨⟨Nat.lt_succ_self 1, _, rfl, (by rw [e1]; omega)⟩, trivial⟩ rfl trivial ⟨⟨Nat.lt_succ_self 1, p0⟩, trivial⟩)
theorem ok_cB {m : Nat} (hE : (EE SH TT).ok) (hT : TT m = t_X12_cells) : dx_OK (EE SH TT) (cB m) := by
  intro ν as μ K g hK
  obtain rfl := g_as1 g rfl
  have z0 := g.z
  show TT m _ μ K
  rw [hT]
  obtain ⟨c1, c2, c3, c4, c5, c6, c7⟩ := e_404 hE
  have hs : μ.2.1 = SH := g.sh
  have f0 : (μ.2.2.1 406 0).toInt = ν 1 + 0 := (g.fa _ (List.Mem.head _)).2
  have f1 : (μ.2.2.1 406 1).toInt = ν 2 + 0 := (g.fa _ (List.Mem.tail _ (List.Mem.head _))).2
  have b1 : (1 : Int) ≤ ν 1 ∧ ν 1 ≤ 12 := g.iv 1 (Nat.le_of_ble_eq_true rfl)
  have b2 : (0 : Int) ≤ ν 2 ∧ ν 2 ≤ 12 := g.iv 2 (Nat.le_of_ble_eq_true rfl)
  obtain ⟨e1, e2, e3⟩ := pr_144 (x := μ.2.2.1 406 0) (y := μ.2.2.1 406 1) ⟨by omega, by omega⟩ ⟨by omega, by omega⟩
  obtain ⟨ν', hag, hn⟩ := nu1 ν 3 ((μ.2.2.1 406 0).toInt * (μ.2.2.1 406 1).toInt)
  have a0 := hag 0 (by decide)
  have a1 := hag 1 (by decide)
  have a2 := hag 2 (by decide)
  refine t_cells (by rw [hs]; exact c1) (by rw [hs]; exact c3) (by rw [hs]; exact c6) (by rw [hs]; exact c7) ?_
  exact hK (some (.int _)) μ ν' _ (List.Mem.head _) (post_mk g rfl g.hi (fun _ _ => ⟨rfl, rfl⟩) (Nat.le_of_ble_eq_true rfl) (Nat.le_of_ble_eq_true rfl) hag ⟨(show (0 : Int) ≤ ν' 0 ∧ ν' 0 ≤ 0 from ⟨by omega, by omega⟩), (show (1 : Int) ≤ ν' 1 ∧ ν' 1 ≤ 12 from ⟨by omega, by omega⟩), (show (0 : Int) ≤ ν' 2 ∧ ν' 2 ≤ 12 from ⟨by omega, by omega⟩), (show (0 : Int) ≤ ν' 3 ∧ ν' 3 ≤ 144 from ⟨by omega, by omega⟩), trivial⟩ trivial ⟨⟨by decide, _, rfl, (by rw [e1]; omega)⟩, trivial⟩ rfl ⟨⟨by decide, (show (μ.2.2.1 406 0).toInt = ν' 1 + 0 by omega)⟩, ⟨by decide, (show (μ.2.2.1 406 1).toInt = ν' 2 + 0 by omega)⟩, trivial⟩ ⟨⟨by decide, (show ν' 3 + 0 = (μ.2.2.1 406 0).toInt * (μ.2.2.1 406 1).toInt by omega)⟩, trivial⟩)
end
theorem isS_len : dw_strs.length = 28 := by decide +kernel
theorem isS (i : Nat) (h : i < 26) : dw_isS (1000001 + i) := ⟨Nat.le_add_right _ _, by rw [isS_len]; omega⟩
