/-! ===== whole calls ===== -/
abbrev INV (μ : dw_S) : Prop := μ.2.1 = SH1 ∧ (∀ a j, dx_in (dx_seg (dx_ce a).iv j) (μ.2.2.1 a j).toInt) ∧ fl_P 0 0 μ.2.2.1 ∧ fl_P 6 0 μ.2.2.1 ∧ fl_P 2 0 μ.2.2.1 ∧ fl_P 3 0 μ.2.2.1
theorem keepf {f : Nat} {md : List Nat} {μ μ' : dw_S} (h : (fl_s f).all (fun q => decide (q.1 ∉ md)) = true) (fr : ∀ a, a ∉ md → μ'.2.2.1 a = μ.2.2.1 a ∧ μ'.2.2.2 a = μ.2.2.2 a) (g : fl_P f 0 μ.2.2.1) : fl_P f 0 μ'.2.2.1 := by
  refine fl_fp (fun q hq j _ _ => ?_) g
  have := List.all_eq_true.mp h q hq
  rw [decide_eq_true_eq] at this
  rw [(fr q.1 this).1]
def iv2 : List (Int × Int) → List Int → Prop
  | [], _ => True
  | p :: r, v :: q => dx_in p v ∧ iv2 r q
  | _ :: _, [] => False
theorem iv2_ok : ∀ {iv : List (Int × Int)} {vs : List Int}, iv2 iv vs → ∀ s, s < iv.length → dx_in (dx_gi iv s) (vs.getD s 0)
  | [], _, _, s, h => absurd h (Nat.not_lt_zero s)
  | p :: r, v :: q, h, 0, _ => h.1
  | p :: r, v :: q, h, s + 1, hs => iv2_ok (iv := r) (vs := q) h.2 s (Nat.lt_of_succ_lt_succ hs)
  | _ :: _, [], h, _, _ => h.elim
theorem r_int {k : Nat} {ν : Nat → Int} {r : Option Value} {s : Nat} {d : Int} (h : dx_gL k ν [.inl (s, d)] (r.toList.map some)) : ∃ w : Int32, r = some (.int w) ∧ w.toInt = ν s + d := by
  match r, h with
  | some v, h =>
    obtain ⟨⟨-, w, h1, h2⟩, -⟩ := h
    exact ⟨w, by rw [Option.some.inj h1], h2⟩
abbrev ck_X11_begin (a1 : Int32) (μ : dw_S) (r : Option Value) (w : Int32) (μ' : dw_S) : Prop := (INV μ') ∧ (r = some (.int w)) ∧ ((μ'.2.2.1 1 1).toInt = (μ.2.2.1 1 1).toInt ∧ (μ'.2.2.1 210 0).toInt = (μ.2.2.1 210 0).toInt ∧ (μ'.2.2.1 307 0).toInt = (μ.2.2.1 307 0).toInt) ∧ ((μ'.2.2.1 404 2).toInt = (μ.2.2.1 404 2).toInt ∧ (μ'.2.2.1 433 0).toInt = (μ.2.2.1 433 0).toInt ∧ (μ'.2.2.1 433 1).toInt = (μ.2.2.1 433 1).toInt) ∧ (∀ a, a ∉ [43, 44, 46, 47, 48, 49, 50, 51, 52, 53, 54, 55, 56, 57] → μ'.2.2.1 a = μ.2.2.1 a ∧ μ'.2.2.2 a = μ.2.2.2 a)
theorem sgc_0 : dx_seg (dx_ce 1).iv 1 = (0, 940) := by decide +kernel
theorem kn_X11_begin_0 : (fl_s 0).all (fun q => decide (q.1 ∉ ([43, 44, 46, 47, 48, 49, 50, 51, 52, 53, 54, 55, 56, 57] : List Nat))) = true := by decide
theorem kn_X11_begin_6 : (fl_s 6).all (fun q => decide (q.1 ∉ ([43, 44, 46, 47, 48, 49, 50, 51, 52, 53, 54, 55, 56, 57] : List Nat))) = true := by decide
theorem kn_X11_begin_2 : (fl_s 2).all (fun q => decide (q.1 ∉ ([43, 44, 46, 47, 48, 49, 50, 51, 52, 53, 54, 55, 56, 57] : List Nat))) = true := by decide
theorem kn_X11_begin_3 : (fl_s 3).all (fun q => decide (q.1 ∉ ([43, 44, 46, 47, 48, 49, 50, 51, 52, 53, 54, 55, 56, 57] : List Nat))) = true := by decide
theorem nc_X11_begin_1 : 1 ∉ ([43, 44, 46, 47, 48, 49, 50, 51, 52, 53, 54, 55, 56, 57] : List Nat) := by decide
theorem nc_X11_begin_210 : 210 ∉ ([43, 44, 46, 47, 48, 49, 50, 51, 52, 53, 54, 55, 56, 57] : List Nat) := by decide
theorem nc_X11_begin_307 : 307 ∉ ([43, 44, 46, 47, 48, 49, 50, 51, 52, 53, 54, 55, 56, 57] : List Nat) := by decide
theorem nc_X11_begin_404 : 404 ∉ ([43, 44, 46, 47, 48, 49, 50, 51, 52, 53, 54, 55, 56, 57] : List Nat) := by decide
theorem nc_X11_begin_433 : 433 ∉ ([43, 44, 46, 47, 48, 49, 50, 51, 52, 53, 54, 55, 56, 57] : List Nat) := by decide
theorem cl_X11_begin {μ : dw_S} {K : dw_K} {a1 : Int32} (hI : INV μ) (hK : ∀ (r : Option Value) (w : Int32) (μ' : dw_S), ck_X11_begin a1 μ r w μ' → K r μ') : t_X11_begin [.ref 0, .int a1] μ K := by
  have h_1_1 := hI.2.1 1 1
  rw [sgc_0] at h_1_1
  refine al_364 48 (by decide) (fun s => [(0 : Int), (a1.toInt : Int), ((μ.2.2.1 1 1).toInt : Int)].getD s (0 : Int)) [.ref 0, .int a1] μ K ⟨hI.1, hI.2.1, fun _ _ => ⟨rfl, rfl⟩, rfl, Nat.le_refl _, Nat.le_of_ble_eq_true rfl, fun _ _ => rfl, ?_, fun q hq => absurd hq List.not_mem_nil, ?_, trivial, ?_, ?_⟩ ?_
  · exact iv2_ok (iv := (in_48).pre.iv) (vs := [(0 : Int), (a1.toInt : Int), ((μ.2.2.1 1 1).toInt : Int)]) ⟨⟨Int.le_refl 0, Int.le_refl 0⟩, ⟨dx_b1 _, dx_b2 _⟩, h_1_1, trivial⟩
  · exact ⟨⟨0, List.Mem.head _, rfl⟩, ⟨Nat.le_of_ble_eq_true rfl, a1, rfl, (Int.add_zero _).symm⟩, trivial⟩
  · exact dx_aL.all (l := (in_48).pre.fa) ⟨⟨Nat.le_of_ble_eq_true rfl, (Int.add_zero _).symm⟩, trivial⟩
  · exact dx_aL.all (l := (in_48).pre.fl) trivial
  · intro r μ' ν' P hP g'
    rcases List.mem_cons.mp hP with rfl | hP
    · obtain ⟨w, rfl, hw⟩ := r_int g'.gl
      have n0 : ν' 0 = 0 := g'.ag 0 (Nat.le_of_ble_eq_true rfl)
      have n1 : ν' 1 = a1.toInt := g'.ag 1 (Nat.le_of_ble_eq_true rfl)
      have n2 : ν' 2 = (μ.2.2.1 1 1).toInt := g'.ag 2 (Nat.le_of_ble_eq_true rfl)
      have sz0 : (μ'.2.2.1 1 1).toInt = (μ.2.2.1 1 1).toInt := by rw [(g'.fr 1 nc_X11_begin_1).1]
      have sz1 : (μ'.2.2.1 210 0).toInt = (μ.2.2.1 210 0).toInt := by rw [(g'.fr 210 nc_X11_begin_210).1]
      have sz2 : (μ'.2.2.1 307 0).toInt = (μ.2.2.1 307 0).toInt := by rw [(g'.fr 307 nc_X11_begin_307).1]
      have sz3 : (μ'.2.2.1 404 2).toInt = (μ.2.2.1 404 2).toInt := by rw [(g'.fr 404 nc_X11_begin_404).1]
      have sz4 : (μ'.2.2.1 433 0).toInt = (μ.2.2.1 433 0).toInt := by rw [(g'.fr 433 nc_X11_begin_433).1]
      have sz5 : (μ'.2.2.1 433 1).toInt = (μ.2.2.1 433 1).toInt := by rw [(g'.fr 433 nc_X11_begin_433).1]
      have hw' : w.toInt = ν' 0 + 1 := hw
      have i1 : (0 : Int) ≤ ν' 1 ∧ ν' 1 ≤ 5 := g'.iv 1 (Nat.le_of_ble_eq_true rfl)
      exact hK _ w μ' ⟨⟨g'.sh, g'.hi, keepf (md := [43, 44, 46, 47, 48, 49, 50, 51, 52, 53, 54, 55, 56, 57]) kn_X11_begin_0 g'.fr hI.2.2.1, keepf (md := [43, 44, 46, 47, 48, 49, 50, 51, 52, 53, 54, 55, 56, 57]) kn_X11_begin_6 g'.fr hI.2.2.2.1, keepf (md := [43, 44, 46, 47, 48, 49, 50, 51, 52, 53, 54, 55, 56, 57]) kn_X11_begin_2 g'.fr hI.2.2.2.2.1, keepf (md := [43, 44, 46, 47, 48, 49, 50, 51, 52, 53, 54, 55, 56, 57]) kn_X11_begin_3 g'.fr hI.2.2.2.2.2⟩, rfl, by omega, ⟨sz3, sz4, sz5⟩, g'.fr⟩
    rcases List.mem_cons.mp hP with rfl | hP
    · obtain ⟨w, rfl, hw⟩ := r_int g'.gl
      have n0 : ν' 0 = 0 := g'.ag 0 (Nat.le_of_ble_eq_true rfl)
      have n1 : ν' 1 = a1.toInt := g'.ag 1 (Nat.le_of_ble_eq_true rfl)
      have n2 : ν' 2 = (μ.2.2.1 1 1).toInt := g'.ag 2 (Nat.le_of_ble_eq_true rfl)
      have sz0 : (μ'.2.2.1 1 1).toInt = (μ.2.2.1 1 1).toInt := by rw [(g'.fr 1 nc_X11_begin_1).1]
      have sz1 : (μ'.2.2.1 210 0).toInt = (μ.2.2.1 210 0).toInt := by rw [(g'.fr 210 nc_X11_begin_210).1]
      have sz2 : (μ'.2.2.1 307 0).toInt = (μ.2.2.1 307 0).toInt := by rw [(g'.fr 307 nc_X11_begin_307).1]
      have sz3 : (μ'.2.2.1 404 2).toInt = (μ.2.2.1 404 2).toInt := by rw [(g'.fr 404 nc_X11_begin_404).1]
      have sz4 : (μ'.2.2.1 433 0).toInt = (μ.2.2.1 433 0).toInt := by rw [(g'.fr 433 nc_X11_begin_433).1]
      have sz5 : (μ'.2.2.1 433 1).toInt = (μ.2.2.1 433 1).toInt := by rw [(g'.fr 433 nc_X11_begin_433).1]
      have hw' : w.toInt = ν' 0 + 0 := hw
      exact hK _ w μ' ⟨⟨g'.sh, g'.hi, keepf (md := [43, 44, 46, 47, 48, 49, 50, 51, 52, 53, 54, 55, 56, 57]) kn_X11_begin_0 g'.fr hI.2.2.1, keepf (md := [43, 44, 46, 47, 48, 49, 50, 51, 52, 53, 54, 55, 56, 57]) kn_X11_begin_6 g'.fr hI.2.2.2.1, keepf (md := [43, 44, 46, 47, 48, 49, 50, 51, 52, 53, 54, 55, 56, 57]) kn_X11_begin_2 g'.fr hI.2.2.2.2.1, keepf (md := [43, 44, 46, 47, 48, 49, 50, 51, 52, 53, 54, 55, 56, 57]) kn_X11_begin_3 g'.fr hI.2.2.2.2.2⟩, rfl, by omega, ⟨sz3, sz4, sz5⟩, g'.fr⟩
    exact absurd hP List.not_mem_nil
abbrev ck_X11_begins (a1 a2 a3 : Int32) (μ : dw_S) (r : Option Value) (w : Int32) (μ' : dw_S) : Prop := (INV μ') ∧ (r = some (.int w)) ∧ ((μ'.2.2.1 1 1).toInt = (μ.2.2.1 1 1).toInt ∧ (μ'.2.2.1 210 0).toInt = (μ.2.2.1 210 0).toInt ∧ (μ'.2.2.1 307 0).toInt = (μ.2.2.1 307 0).toInt) ∧ ((μ'.2.2.1 404 2).toInt = (μ.2.2.1 404 2).toInt ∧ (μ'.2.2.1 433 0).toInt = (μ.2.2.1 433 0).toInt ∧ (μ'.2.2.1 433 1).toInt = (μ.2.2.1 433 1).toInt) ∧ (∀ a, a ∉ [164, 165, 167, 168, 169, 170, 171, 172, 173, 174, 175, 176, 177, 178, 195, 196, 197, 198, 199, 200] → μ'.2.2.1 a = μ.2.2.1 a ∧ μ'.2.2.2 a = μ.2.2.2 a)
theorem kn_X11_begins_0 : (fl_s 0).all (fun q => decide (q.1 ∉ ([164, 165, 167, 168, 169, 170, 171, 172, 173, 174, 175, 176, 177, 178, 195, 196, 197, 198, 199, 200] : List Nat))) = true := by decide
theorem kn_X11_begins_6 : (fl_s 6).all (fun q => decide (q.1 ∉ ([164, 165, 167, 168, 169, 170, 171, 172, 173, 174, 175, 176, 177, 178, 195, 196, 197, 198, 199, 200] : List Nat))) = true := by decide
theorem kn_X11_begins_2 : (fl_s 2).all (fun q => decide (q.1 ∉ ([164, 165, 167, 168, 169, 170, 171, 172, 173, 174, 175, 176, 177, 178, 195, 196, 197, 198, 199, 200] : List Nat))) = true := by decide
theorem kn_X11_begins_3 : (fl_s 3).all (fun q => decide (q.1 ∉ ([164, 165, 167, 168, 169, 170, 171, 172, 173, 174, 175, 176, 177, 178, 195, 196, 197, 198, 199, 200] : List Nat))) = true := by decide
theorem nc_X11_begins_1 : 1 ∉ ([164, 165, 167, 168, 169, 170, 171, 172, 173, 174, 175, 176, 177, 178, 195, 196, 197, 198, 199, 200] : List Nat) := by decide
theorem nc_X11_begins_210 : 210 ∉ ([164, 165, 167, 168, 169, 170, 171, 172, 173, 174, 175, 176, 177, 178, 195, 196, 197, 198, 199, 200] : List Nat) := by decide
theorem nc_X11_begins_307 : 307 ∉ ([164, 165, 167, 168, 169, 170, 171, 172, 173, 174, 175, 176, 177, 178, 195, 196, 197, 198, 199, 200] : List Nat) := by decide
theorem nc_X11_begins_404 : 404 ∉ ([164, 165, 167, 168, 169, 170, 171, 172, 173, 174, 175, 176, 177, 178, 195, 196, 197, 198, 199, 200] : List Nat) := by decide
theorem nc_X11_begins_433 : 433 ∉ ([164, 165, 167, 168, 169, 170, 171, 172, 173, 174, 175, 176, 177, 178, 195, 196, 197, 198, 199, 200] : List Nat) := by decide
theorem cl_X11_begins {μ : dw_S} {K : dw_K} {a1 a2 a3 : Int32} (hI : INV μ) (hK : ∀ (r : Option Value) (w : Int32) (μ' : dw_S), ck_X11_begins a1 a2 a3 μ r w μ' → K r μ') : t_X11_begins [.ref 0, .int a1, .int a2, .int a3] μ K := by
  have h_1_1 := hI.2.1 1 1
  rw [sgc_0] at h_1_1
  refine al_364 67 (by decide) (fun s => [(0 : Int), (a1.toInt : Int), (a2.toInt : Int), (a3.toInt : Int), ((μ.2.2.1 1 1).toInt : Int)].getD s (0 : Int)) [.ref 0, .int a1, .int a2, .int a3] μ K ⟨hI.1, hI.2.1, fun _ _ => ⟨rfl, rfl⟩, rfl, Nat.le_refl _, Nat.le_of_ble_eq_true rfl, fun _ _ => rfl, ?_, fun q hq => absurd hq List.not_mem_nil, ?_, trivial, ?_, ?_⟩ ?_
  · exact iv2_ok (iv := (in_67).pre.iv) (vs := [(0 : Int), (a1.toInt : Int), (a2.toInt : Int), (a3.toInt : Int), ((μ.2.2.1 1 1).toInt : Int)]) ⟨⟨Int.le_refl 0, Int.le_refl 0⟩, ⟨dx_b1 _, dx_b2 _⟩, ⟨dx_b1 _, dx_b2 _⟩, ⟨dx_b1 _, dx_b2 _⟩, h_1_1, trivial⟩
  · exact ⟨⟨0, List.Mem.head _, rfl⟩, ⟨Nat.le_of_ble_eq_true rfl, a1, rfl, (Int.add_zero _).symm⟩, ⟨Nat.le_of_ble_eq_true rfl, a2, rfl, (Int.add_zero _).symm⟩, ⟨Nat.le_of_ble_eq_true rfl, a3, rfl, (Int.add_zero _).symm⟩, trivial⟩
  · exact dx_aL.all (l := (in_67).pre.fa) ⟨⟨Nat.le_of_ble_eq_true rfl, (Int.add_zero _).symm⟩, trivial⟩
  · exact dx_aL.all (l := (in_67).pre.fl) trivial
  · intro r μ' ν' P hP g'
    rcases List.mem_cons.mp hP with rfl | hP
    · obtain ⟨w, rfl, hw⟩ := r_int g'.gl
      have n0 : ν' 0 = 0 := g'.ag 0 (Nat.le_of_ble_eq_true rfl)
      have n1 : ν' 1 = a1.toInt := g'.ag 1 (Nat.le_of_ble_eq_true rfl)
      have n2 : ν' 2 = a2.toInt := g'.ag 2 (Nat.le_of_ble_eq_true rfl)
      have n3 : ν' 3 = a3.toInt := g'.ag 3 (Nat.le_of_ble_eq_true rfl)
      have n4 : ν' 4 = (μ.2.2.1 1 1).toInt := g'.ag 4 (Nat.le_of_ble_eq_true rfl)
      have sz0 : (μ'.2.2.1 1 1).toInt = (μ.2.2.1 1 1).toInt := by rw [(g'.fr 1 nc_X11_begins_1).1]
      have sz1 : (μ'.2.2.1 210 0).toInt = (μ.2.2.1 210 0).toInt := by rw [(g'.fr 210 nc_X11_begins_210).1]
      have sz2 : (μ'.2.2.1 307 0).toInt = (μ.2.2.1 307 0).toInt := by rw [(g'.fr 307 nc_X11_begins_307).1]
      have sz3 : (μ'.2.2.1 404 2).toInt = (μ.2.2.1 404 2).toInt := by rw [(g'.fr 404 nc_X11_begins_404).1]
      have sz4 : (μ'.2.2.1 433 0).toInt = (μ.2.2.1 433 0).toInt := by rw [(g'.fr 433 nc_X11_begins_433).1]
      have sz5 : (μ'.2.2.1 433 1).toInt = (μ.2.2.1 433 1).toInt := by rw [(g'.fr 433 nc_X11_begins_433).1]
      have hw' : w.toInt = ν' 0 + (-1) := hw
      exact hK _ w μ' ⟨⟨g'.sh, g'.hi, keepf (md := [164, 165, 167, 168, 169, 170, 171, 172, 173, 174, 175, 176, 177, 178, 195, 196, 197, 198, 199, 200]) kn_X11_begins_0 g'.fr hI.2.2.1, keepf (md := [164, 165, 167, 168, 169, 170, 171, 172, 173, 174, 175, 176, 177, 178, 195, 196, 197, 198, 199, 200]) kn_X11_begins_6 g'.fr hI.2.2.2.1, keepf (md := [164, 165, 167, 168, 169, 170, 171, 172, 173, 174, 175, 176, 177, 178, 195, 196, 197, 198, 199, 200]) kn_X11_begins_2 g'.fr hI.2.2.2.2.1, keepf (md := [164, 165, 167, 168, 169, 170, 171, 172, 173, 174, 175, 176, 177, 178, 195, 196, 197, 198, 199, 200]) kn_X11_begins_3 g'.fr hI.2.2.2.2.2⟩, rfl, by omega, ⟨sz3, sz4, sz5⟩, g'.fr⟩
    rcases List.mem_cons.mp hP with rfl | hP
    · obtain ⟨w, rfl, hw⟩ := r_int g'.gl
      have n0 : ν' 0 = 0 := g'.ag 0 (Nat.le_of_ble_eq_true rfl)
      have n1 : ν' 1 = a1.toInt := g'.ag 1 (Nat.le_of_ble_eq_true rfl)
      have n2 : ν' 2 = a2.toInt := g'.ag 2 (Nat.le_of_ble_eq_true rfl)
      have n3 : ν' 3 = a3.toInt := g'.ag 3 (Nat.le_of_ble_eq_true rfl)
      have n4 : ν' 4 = (μ.2.2.1 1 1).toInt := g'.ag 4 (Nat.le_of_ble_eq_true rfl)
      have sz0 : (μ'.2.2.1 1 1).toInt = (μ.2.2.1 1 1).toInt := by rw [(g'.fr 1 nc_X11_begins_1).1]
      have sz1 : (μ'.2.2.1 210 0).toInt = (μ.2.2.1 210 0).toInt := by rw [(g'.fr 210 nc_X11_begins_210).1]
      have sz2 : (μ'.2.2.1 307 0).toInt = (μ.2.2.1 307 0).toInt := by rw [(g'.fr 307 nc_X11_begins_307).1]
      have sz3 : (μ'.2.2.1 404 2).toInt = (μ.2.2.1 404 2).toInt := by rw [(g'.fr 404 nc_X11_begins_404).1]
      have sz4 : (μ'.2.2.1 433 0).toInt = (μ.2.2.1 433 0).toInt := by rw [(g'.fr 433 nc_X11_begins_433).1]
      have sz5 : (μ'.2.2.1 433 1).toInt = (μ.2.2.1 433 1).toInt := by rw [(g'.fr 433 nc_X11_begins_433).1]
      have hw' : w.toInt = ν' 5 + 0 := hw
      have i1 : (0 : Int) ≤ ν' 1 ∧ ν' 1 ≤ 5 := g'.iv 1 (Nat.le_of_ble_eq_true rfl)
      have i2 : (0 : Int) ≤ ν' 2 ∧ ν' 2 ≤ 939 := g'.iv 2 (Nat.le_of_ble_eq_true rfl)
      have i3 : (0 : Int) ≤ ν' 3 ∧ ν' 3 ≤ 11 := g'.iv 3 (Nat.le_of_ble_eq_true rfl)
      exact hK _ w μ' ⟨⟨g'.sh, g'.hi, keepf (md := [164, 165, 167, 168, 169, 170, 171, 172, 173, 174, 175, 176, 177, 178, 195, 196, 197, 198, 199, 200]) kn_X11_begins_0 g'.fr hI.2.2.1, keepf (md := [164, 165, 167, 168, 169, 170, 171, 172, 173, 174, 175, 176, 177, 178, 195, 196, 197, 198, 199, 200]) kn_X11_begins_6 g'.fr hI.2.2.2.1, keepf (md := [164, 165, 167, 168, 169, 170, 171, 172, 173, 174, 175, 176, 177, 178, 195, 196, 197, 198, 199, 200]) kn_X11_begins_2 g'.fr hI.2.2.2.2.1, keepf (md := [164, 165, 167, 168, 169, 170, 171, 172, 173, 174, 175, 176, 177, 178, 195, 196, 197, 198, 199, 200]) kn_X11_begins_3 g'.fr hI.2.2.2.2.2⟩, rfl, by omega, ⟨sz3, sz4, sz5⟩, g'.fr⟩
    exact absurd hP List.not_mem_nil
abbrev ck_X11_bench (a1 a2 : Int32) (μ : dw_S) (r : Option Value) (w : Int32) (μ' : dw_S) : Prop := (INV μ') ∧ (r = some (.int w)) ∧ ((μ'.2.2.1 1 1).toInt = (μ.2.2.1 1 1).toInt ∧ (μ'.2.2.1 210 0).toInt = (μ.2.2.1 210 0).toInt ∧ (μ'.2.2.1 307 0).toInt = (μ.2.2.1 307 0).toInt) ∧ ((μ'.2.2.1 404 2).toInt = (μ.2.2.1 404 2).toInt ∧ (μ'.2.2.1 433 0).toInt = (μ.2.2.1 433 0).toInt ∧ (μ'.2.2.1 433 1).toInt = (μ.2.2.1 433 1).toInt) ∧ (∀ a, a ∉ [164, 165, 167, 168, 169, 170, 171, 172, 173, 174, 175, 176, 177, 178] → μ'.2.2.1 a = μ.2.2.1 a ∧ μ'.2.2.2 a = μ.2.2.2 a)
theorem kn_X11_bench_0 : (fl_s 0).all (fun q => decide (q.1 ∉ ([164, 165, 167, 168, 169, 170, 171, 172, 173, 174, 175, 176, 177, 178] : List Nat))) = true := by decide
theorem kn_X11_bench_6 : (fl_s 6).all (fun q => decide (q.1 ∉ ([164, 165, 167, 168, 169, 170, 171, 172, 173, 174, 175, 176, 177, 178] : List Nat))) = true := by decide
theorem kn_X11_bench_2 : (fl_s 2).all (fun q => decide (q.1 ∉ ([164, 165, 167, 168, 169, 170, 171, 172, 173, 174, 175, 176, 177, 178] : List Nat))) = true := by decide
theorem kn_X11_bench_3 : (fl_s 3).all (fun q => decide (q.1 ∉ ([164, 165, 167, 168, 169, 170, 171, 172, 173, 174, 175, 176, 177, 178] : List Nat))) = true := by decide
theorem nc_X11_bench_1 : 1 ∉ ([164, 165, 167, 168, 169, 170, 171, 172, 173, 174, 175, 176, 177, 178] : List Nat) := by decide
theorem nc_X11_bench_210 : 210 ∉ ([164, 165, 167, 168, 169, 170, 171, 172, 173, 174, 175, 176, 177, 178] : List Nat) := by decide
theorem nc_X11_bench_307 : 307 ∉ ([164, 165, 167, 168, 169, 170, 171, 172, 173, 174, 175, 176, 177, 178] : List Nat) := by decide
theorem nc_X11_bench_404 : 404 ∉ ([164, 165, 167, 168, 169, 170, 171, 172, 173, 174, 175, 176, 177, 178] : List Nat) := by decide
theorem nc_X11_bench_433 : 433 ∉ ([164, 165, 167, 168, 169, 170, 171, 172, 173, 174, 175, 176, 177, 178] : List Nat) := by decide
theorem cl_X11_bench {μ : dw_S} {K : dw_K} {a1 a2 : Int32} (hI : INV μ) (hK : ∀ (r : Option Value) (w : Int32) (μ' : dw_S), ck_X11_bench a1 a2 μ r w μ' → K r μ') : t_X11_bench [.ref 0, .int a1, .int a2] μ K := by
  have h_1_1 := hI.2.1 1 1
  rw [sgc_0] at h_1_1
  refine al_364 71 (by decide) (fun s => [(0 : Int), (a1.toInt : Int), (a2.toInt : Int), ((μ.2.2.1 1 1).toInt : Int)].getD s (0 : Int)) [.ref 0, .int a1, .int a2] μ K ⟨hI.1, hI.2.1, fun _ _ => ⟨rfl, rfl⟩, rfl, Nat.le_refl _, Nat.le_of_ble_eq_true rfl, fun _ _ => rfl, ?_, fun q hq => absurd hq List.not_mem_nil, ?_, trivial, ?_, ?_⟩ ?_
  · exact iv2_ok (iv := (in_71).pre.iv) (vs := [(0 : Int), (a1.toInt : Int), (a2.toInt : Int), ((μ.2.2.1 1 1).toInt : Int)]) ⟨⟨Int.le_refl 0, Int.le_refl 0⟩, ⟨dx_b1 _, dx_b2 _⟩, ⟨dx_b1 _, dx_b2 _⟩, h_1_1, trivial⟩
  · exact ⟨⟨0, List.Mem.head _, rfl⟩, ⟨Nat.le_of_ble_eq_true rfl, a1, rfl, (Int.add_zero _).symm⟩, ⟨Nat.le_of_ble_eq_true rfl, a2, rfl, (Int.add_zero _).symm⟩, trivial⟩
  · exact dx_aL.all (l := (in_71).pre.fa) ⟨⟨Nat.le_of_ble_eq_true rfl, (Int.add_zero _).symm⟩, trivial⟩
  · exact dx_aL.all (l := (in_71).pre.fl) trivial
  · intro r μ' ν' P hP g'
    rcases List.mem_cons.mp hP with rfl | hP
    · obtain ⟨w, rfl, hw⟩ := r_int g'.gl
      have n0 : ν' 0 = 0 := g'.ag 0 (Nat.le_of_ble_eq_true rfl)
      have n1 : ν' 1 = a1.toInt := g'.ag 1 (Nat.le_of_ble_eq_true rfl)
      have n2 : ν' 2 = a2.toInt := g'.ag 2 (Nat.le_of_ble_eq_true rfl)
      have n3 : ν' 3 = (μ.2.2.1 1 1).toInt := g'.ag 3 (Nat.le_of_ble_eq_true rfl)
      have sz0 : (μ'.2.2.1 1 1).toInt = (μ.2.2.1 1 1).toInt := by rw [(g'.fr 1 nc_X11_bench_1).1]
      have sz1 : (μ'.2.2.1 210 0).toInt = (μ.2.2.1 210 0).toInt := by rw [(g'.fr 210 nc_X11_bench_210).1]
      have sz2 : (μ'.2.2.1 307 0).toInt = (μ.2.2.1 307 0).toInt := by rw [(g'.fr 307 nc_X11_bench_307).1]
      have sz3 : (μ'.2.2.1 404 2).toInt = (μ.2.2.1 404 2).toInt := by rw [(g'.fr 404 nc_X11_bench_404).1]
      have sz4 : (μ'.2.2.1 433 0).toInt = (μ.2.2.1 433 0).toInt := by rw [(g'.fr 433 nc_X11_bench_433).1]
      have sz5 : (μ'.2.2.1 433 1).toInt = (μ.2.2.1 433 1).toInt := by rw [(g'.fr 433 nc_X11_bench_433).1]
      have hw' : w.toInt = ν' 0 + (-1) := hw
      exact hK _ w μ' ⟨⟨g'.sh, g'.hi, keepf (md := [164, 165, 167, 168, 169, 170, 171, 172, 173, 174, 175, 176, 177, 178]) kn_X11_bench_0 g'.fr hI.2.2.1, keepf (md := [164, 165, 167, 168, 169, 170, 171, 172, 173, 174, 175, 176, 177, 178]) kn_X11_bench_6 g'.fr hI.2.2.2.1, keepf (md := [164, 165, 167, 168, 169, 170, 171, 172, 173, 174, 175, 176, 177, 178]) kn_X11_bench_2 g'.fr hI.2.2.2.2.1, keepf (md := [164, 165, 167, 168, 169, 170, 171, 172, 173, 174, 175, 176, 177, 178]) kn_X11_bench_3 g'.fr hI.2.2.2.2.2⟩, rfl, by omega, ⟨sz3, sz4, sz5⟩, g'.fr⟩
    rcases List.mem_cons.mp hP with rfl | hP
    · obtain ⟨w, rfl, hw⟩ := r_int g'.gl
      have n0 : ν' 0 = 0 := g'.ag 0 (Nat.le_of_ble_eq_true rfl)
      have n1 : ν' 1 = a1.toInt := g'.ag 1 (Nat.le_of_ble_eq_true rfl)
      have n2 : ν' 2 = a2.toInt := g'.ag 2 (Nat.le_of_ble_eq_true rfl)
      have n3 : ν' 3 = (μ.2.2.1 1 1).toInt := g'.ag 3 (Nat.le_of_ble_eq_true rfl)
      have sz0 : (μ'.2.2.1 1 1).toInt = (μ.2.2.1 1 1).toInt := by rw [(g'.fr 1 nc_X11_bench_1).1]
      have sz1 : (μ'.2.2.1 210 0).toInt = (μ.2.2.1 210 0).toInt := by rw [(g'.fr 210 nc_X11_bench_210).1]
      have sz2 : (μ'.2.2.1 307 0).toInt = (μ.2.2.1 307 0).toInt := by rw [(g'.fr 307 nc_X11_bench_307).1]
      have sz3 : (μ'.2.2.1 404 2).toInt = (μ.2.2.1 404 2).toInt := by rw [(g'.fr 404 nc_X11_bench_404).1]
      have sz4 : (μ'.2.2.1 433 0).toInt = (μ.2.2.1 433 0).toInt := by rw [(g'.fr 433 nc_X11_bench_433).1]
      have sz5 : (μ'.2.2.1 433 1).toInt = (μ.2.2.1 433 1).toInt := by rw [(g'.fr 433 nc_X11_bench_433).1]
      have hw' : w.toInt = ν' 4 + 0 := hw
      have i1 : (0 : Int) ≤ ν' 1 ∧ ν' 1 ≤ 5 := g'.iv 1 (Nat.le_of_ble_eq_true rfl)
      have i2 : (0 : Int) ≤ ν' 2 ∧ ν' 2 ≤ 100 := g'.iv 2 (Nat.le_of_ble_eq_true rfl)
      exact hK _ w μ' ⟨⟨g'.sh, g'.hi, keepf (md := [164, 165, 167, 168, 169, 170, 171, 172, 173, 174, 175, 176, 177, 178]) kn_X11_bench_0 g'.fr hI.2.2.1, keepf (md := [164, 165, 167, 168, 169, 170, 171, 172, 173, 174, 175, 176, 177, 178]) kn_X11_bench_6 g'.fr hI.2.2.2.1, keepf (md := [164, 165, 167, 168, 169, 170, 171, 172, 173, 174, 175, 176, 177, 178]) kn_X11_bench_2 g'.fr hI.2.2.2.2.1, keepf (md := [164, 165, 167, 168, 169, 170, 171, 172, 173, 174, 175, 176, 177, 178]) kn_X11_bench_3 g'.fr hI.2.2.2.2.2⟩, rfl, by omega, ⟨sz3, sz4, sz5⟩, g'.fr⟩
    exact absurd hP List.not_mem_nil
abbrev ck_X11_came (a1 a2 a3 a4 : Int32) (μ : dw_S) (r : Option Value) (w : Int32) (μ' : dw_S) : Prop := (INV μ') ∧ (r = some (.int w)) ∧ ((μ'.2.2.1 1 1).toInt = (μ.2.2.1 1 1).toInt ∧ (μ'.2.2.1 210 0).toInt = (μ.2.2.1 210 0).toInt ∧ (μ'.2.2.1 307 0).toInt = (μ.2.2.1 307 0).toInt) ∧ ((μ'.2.2.1 404 2).toInt = (μ.2.2.1 404 2).toInt ∧ (μ'.2.2.1 433 0).toInt = (μ.2.2.1 433 0).toInt ∧ (μ'.2.2.1 433 1).toInt = (μ.2.2.1 433 1).toInt) ∧ (∀ a, a ∉ [0, 164, 165, 167, 168, 169, 170, 171, 172, 173, 174, 175, 176, 177, 178, 179, 180, 182, 183, 184, 185, 186, 187, 188, 189, 190, 191, 192, 193] → μ'.2.2.1 a = μ.2.2.1 a ∧ μ'.2.2.2 a = μ.2.2.2 a)
theorem kn_X11_came_0 : (fl_s 0).all (fun q => decide (q.1 ∉ ([0, 164, 165, 167, 168, 169, 170, 171, 172, 173, 174, 175, 176, 177, 178, 179, 180, 182, 183, 184, 185, 186, 187, 188, 189, 190, 191, 192, 193] : List Nat))) = true := by decide
theorem kn_X11_came_6 : (fl_s 6).all (fun q => decide (q.1 ∉ ([0, 164, 165, 167, 168, 169, 170, 171, 172, 173, 174, 175, 176, 177, 178, 179, 180, 182, 183, 184, 185, 186, 187, 188, 189, 190, 191, 192, 193] : List Nat))) = true := by decide
theorem kn_X11_came_2 : (fl_s 2).all (fun q => decide (q.1 ∉ ([0, 164, 165, 167, 168, 169, 170, 171, 172, 173, 174, 175, 176, 177, 178, 179, 180, 182, 183, 184, 185, 186, 187, 188, 189, 190, 191, 192, 193] : List Nat))) = true := by decide
theorem kn_X11_came_3 : (fl_s 3).all (fun q => decide (q.1 ∉ ([0, 164, 165, 167, 168, 169, 170, 171, 172, 173, 174, 175, 176, 177, 178, 179, 180, 182, 183, 184, 185, 186, 187, 188, 189, 190, 191, 192, 193] : List Nat))) = true := by decide
theorem nc_X11_came_1 : 1 ∉ ([0, 164, 165, 167, 168, 169, 170, 171, 172, 173, 174, 175, 176, 177, 178, 179, 180, 182, 183, 184, 185, 186, 187, 188, 189, 190, 191, 192, 193] : List Nat) := by decide
theorem nc_X11_came_210 : 210 ∉ ([0, 164, 165, 167, 168, 169, 170, 171, 172, 173, 174, 175, 176, 177, 178, 179, 180, 182, 183, 184, 185, 186, 187, 188, 189, 190, 191, 192, 193] : List Nat) := by decide
theorem nc_X11_came_307 : 307 ∉ ([0, 164, 165, 167, 168, 169, 170, 171, 172, 173, 174, 175, 176, 177, 178, 179, 180, 182, 183, 184, 185, 186, 187, 188, 189, 190, 191, 192, 193] : List Nat) := by decide
theorem nc_X11_came_404 : 404 ∉ ([0, 164, 165, 167, 168, 169, 170, 171, 172, 173, 174, 175, 176, 177, 178, 179, 180, 182, 183, 184, 185, 186, 187, 188, 189, 190, 191, 192, 193] : List Nat) := by decide
theorem nc_X11_came_433 : 433 ∉ ([0, 164, 165, 167, 168, 169, 170, 171, 172, 173, 174, 175, 176, 177, 178, 179, 180, 182, 183, 184, 185, 186, 187, 188, 189, 190, 191, 192, 193] : List Nat) := by decide
theorem cl_X11_came {μ : dw_S} {K : dw_K} {a1 a2 a3 a4 : Int32} (hI : INV μ) (hK : ∀ (r : Option Value) (w : Int32) (μ' : dw_S), ck_X11_came a1 a2 a3 a4 μ r w μ' → K r μ') : t_X11_came [.ref 0, .int a1, .int a2, .int a3, .int a4] μ K := by
  have h_1_1 := hI.2.1 1 1
  rw [sgc_0] at h_1_1
  refine al_364 83 (by decide) (fun s => [(0 : Int), (a1.toInt : Int), (a2.toInt : Int), (a3.toInt : Int), (a4.toInt : Int), ((μ.2.2.1 1 1).toInt : Int)].getD s (0 : Int)) [.ref 0, .int a1, .int a2, .int a3, .int a4] μ K ⟨hI.1, hI.2.1, fun _ _ => ⟨rfl, rfl⟩, rfl, Nat.le_refl _, Nat.le_of_ble_eq_true rfl, fun _ _ => rfl, ?_, fun q hq => absurd hq List.not_mem_nil, ?_, trivial, ?_, ?_⟩ ?_
  · exact iv2_ok (iv := (in_83).pre.iv) (vs := [(0 : Int), (a1.toInt : Int), (a2.toInt : Int), (a3.toInt : Int), (a4.toInt : Int), ((μ.2.2.1 1 1).toInt : Int)]) ⟨⟨Int.le_refl 0, Int.le_refl 0⟩, ⟨dx_b1 _, dx_b2 _⟩, ⟨dx_b1 _, dx_b2 _⟩, ⟨dx_b1 _, dx_b2 _⟩, ⟨dx_b1 _, dx_b2 _⟩, h_1_1, trivial⟩
  · exact ⟨⟨0, List.Mem.head _, rfl⟩, ⟨Nat.le_of_ble_eq_true rfl, a1, rfl, (Int.add_zero _).symm⟩, ⟨Nat.le_of_ble_eq_true rfl, a2, rfl, (Int.add_zero _).symm⟩, ⟨Nat.le_of_ble_eq_true rfl, a3, rfl, (Int.add_zero _).symm⟩, ⟨Nat.le_of_ble_eq_true rfl, a4, rfl, (Int.add_zero _).symm⟩, trivial⟩
  · exact dx_aL.all (l := (in_83).pre.fa) ⟨⟨Nat.le_of_ble_eq_true rfl, (Int.add_zero _).symm⟩, trivial⟩
  · exact dx_aL.all (l := (in_83).pre.fl) trivial
  · intro r μ' ν' P hP g'
    rcases List.mem_cons.mp hP with rfl | hP
    · obtain ⟨w, rfl, hw⟩ := r_int g'.gl
      have n0 : ν' 0 = 0 := g'.ag 0 (Nat.le_of_ble_eq_true rfl)
      have n1 : ν' 1 = a1.toInt := g'.ag 1 (Nat.le_of_ble_eq_true rfl)
      have n2 : ν' 2 = a2.toInt := g'.ag 2 (Nat.le_of_ble_eq_true rfl)
      have n3 : ν' 3 = a3.toInt := g'.ag 3 (Nat.le_of_ble_eq_true rfl)
      have n4 : ν' 4 = a4.toInt := g'.ag 4 (Nat.le_of_ble_eq_true rfl)
      have n5 : ν' 5 = (μ.2.2.1 1 1).toInt := g'.ag 5 (Nat.le_of_ble_eq_true rfl)
      have sz0 : (μ'.2.2.1 1 1).toInt = (μ.2.2.1 1 1).toInt := by rw [(g'.fr 1 nc_X11_came_1).1]
      have sz1 : (μ'.2.2.1 210 0).toInt = (μ.2.2.1 210 0).toInt := by rw [(g'.fr 210 nc_X11_came_210).1]
      have sz2 : (μ'.2.2.1 307 0).toInt = (μ.2.2.1 307 0).toInt := by rw [(g'.fr 307 nc_X11_came_307).1]
      have sz3 : (μ'.2.2.1 404 2).toInt = (μ.2.2.1 404 2).toInt := by rw [(g'.fr 404 nc_X11_came_404).1]
      have sz4 : (μ'.2.2.1 433 0).toInt = (μ.2.2.1 433 0).toInt := by rw [(g'.fr 433 nc_X11_came_433).1]
      have sz5 : (μ'.2.2.1 433 1).toInt = (μ.2.2.1 433 1).toInt := by rw [(g'.fr 433 nc_X11_came_433).1]
      have hw' : w.toInt = ν' 0 + (-1) := hw
      exact hK _ w μ' ⟨⟨g'.sh, g'.hi, keepf (md := [0, 164, 165, 167, 168, 169, 170, 171, 172, 173, 174, 175, 176, 177, 178, 179, 180, 182, 183, 184, 185, 186, 187, 188, 189, 190, 191, 192, 193]) kn_X11_came_0 g'.fr hI.2.2.1, keepf (md := [0, 164, 165, 167, 168, 169, 170, 171, 172, 173, 174, 175, 176, 177, 178, 179, 180, 182, 183, 184, 185, 186, 187, 188, 189, 190, 191, 192, 193]) kn_X11_came_6 g'.fr hI.2.2.2.1, keepf (md := [0, 164, 165, 167, 168, 169, 170, 171, 172, 173, 174, 175, 176, 177, 178, 179, 180, 182, 183, 184, 185, 186, 187, 188, 189, 190, 191, 192, 193]) kn_X11_came_2 g'.fr hI.2.2.2.2.1, keepf (md := [0, 164, 165, 167, 168, 169, 170, 171, 172, 173, 174, 175, 176, 177, 178, 179, 180, 182, 183, 184, 185, 186, 187, 188, 189, 190, 191, 192, 193]) kn_X11_came_3 g'.fr hI.2.2.2.2.2⟩, rfl, by omega, ⟨sz3, sz4, sz5⟩, g'.fr⟩
    rcases List.mem_cons.mp hP with rfl | hP
    · obtain ⟨w, rfl, hw⟩ := r_int g'.gl
      have n0 : ν' 0 = 0 := g'.ag 0 (Nat.le_of_ble_eq_true rfl)
      have n1 : ν' 1 = a1.toInt := g'.ag 1 (Nat.le_of_ble_eq_true rfl)
      have n2 : ν' 2 = a2.toInt := g'.ag 2 (Nat.le_of_ble_eq_true rfl)
      have n3 : ν' 3 = a3.toInt := g'.ag 3 (Nat.le_of_ble_eq_true rfl)
      have n4 : ν' 4 = a4.toInt := g'.ag 4 (Nat.le_of_ble_eq_true rfl)
      have n5 : ν' 5 = (μ.2.2.1 1 1).toInt := g'.ag 5 (Nat.le_of_ble_eq_true rfl)
      have sz0 : (μ'.2.2.1 1 1).toInt = (μ.2.2.1 1 1).toInt := by rw [(g'.fr 1 nc_X11_came_1).1]
      have sz1 : (μ'.2.2.1 210 0).toInt = (μ.2.2.1 210 0).toInt := by rw [(g'.fr 210 nc_X11_came_210).1]
      have sz2 : (μ'.2.2.1 307 0).toInt = (μ.2.2.1 307 0).toInt := by rw [(g'.fr 307 nc_X11_came_307).1]
      have sz3 : (μ'.2.2.1 404 2).toInt = (μ.2.2.1 404 2).toInt := by rw [(g'.fr 404 nc_X11_came_404).1]
      have sz4 : (μ'.2.2.1 433 0).toInt = (μ.2.2.1 433 0).toInt := by rw [(g'.fr 433 nc_X11_came_433).1]
      have sz5 : (μ'.2.2.1 433 1).toInt = (μ.2.2.1 433 1).toInt := by rw [(g'.fr 433 nc_X11_came_433).1]
      have hw' : w.toInt = ν' 6 + 0 := hw
      have i1 : (0 : Int) ≤ ν' 1 ∧ ν' 1 ≤ 5 := g'.iv 1 (Nat.le_of_ble_eq_true rfl)
      have i2 : (0 : Int) ≤ ν' 2 ∧ ν' 2 ≤ 939 := g'.iv 2 (Nat.le_of_ble_eq_true rfl)
      have i3 : (0 : Int) ≤ ν' 3 ∧ ν' 3 ≤ 11 := g'.iv 3 (Nat.le_of_ble_eq_true rfl)
      exact hK _ w μ' ⟨⟨g'.sh, g'.hi, keepf (md := [0, 164, 165, 167, 168, 169, 170, 171, 172, 173, 174, 175, 176, 177, 178, 179, 180, 182, 183, 184, 185, 186, 187, 188, 189, 190, 191, 192, 193]) kn_X11_came_0 g'.fr hI.2.2.1, keepf (md := [0, 164, 165, 167, 168, 169, 170, 171, 172, 173, 174, 175, 176, 177, 178, 179, 180, 182, 183, 184, 185, 186, 187, 188, 189, 190, 191, 192, 193]) kn_X11_came_6 g'.fr hI.2.2.2.1, keepf (md := [0, 164, 165, 167, 168, 169, 170, 171, 172, 173, 174, 175, 176, 177, 178, 179, 180, 182, 183, 184, 185, 186, 187, 188, 189, 190, 191, 192, 193]) kn_X11_came_2 g'.fr hI.2.2.2.2.1, keepf (md := [0, 164, 165, 167, 168, 169, 170, 171, 172, 173, 174, 175, 176, 177, 178, 179, 180, 182, 183, 184, 185, 186, 187, 188, 189, 190, 191, 192, 193]) kn_X11_came_3 g'.fr hI.2.2.2.2.2⟩, rfl, by omega, ⟨sz3, sz4, sz5⟩, g'.fr⟩
    exact absurd hP List.not_mem_nil
abbrev ck_X11_cameAt (a1 : Int32) (μ : dw_S) (r : Option Value) (w : Int32) (μ' : dw_S) : Prop := (INV μ') ∧ (r = some (.int w)) ∧ ((μ'.2.2.1 1 1).toInt = (μ.2.2.1 1 1).toInt ∧ (μ'.2.2.1 210 0).toInt = (μ.2.2.1 210 0).toInt ∧ (μ'.2.2.1 307 0).toInt = (μ.2.2.1 307 0).toInt) ∧ ((μ'.2.2.1 404 2).toInt = (μ.2.2.1 404 2).toInt ∧ (μ'.2.2.1 433 0).toInt = (μ.2.2.1 433 0).toInt ∧ (μ'.2.2.1 433 1).toInt = (μ.2.2.1 433 1).toInt) ∧ (∀ a, a ∉ [] → μ'.2.2.1 a = μ.2.2.1 a ∧ μ'.2.2.2 a = μ.2.2.2 a)
theorem kn_X11_cameAt_0 : (fl_s 0).all (fun q => decide (q.1 ∉ ([] : List Nat))) = true := by decide
theorem kn_X11_cameAt_6 : (fl_s 6).all (fun q => decide (q.1 ∉ ([] : List Nat))) = true := by decide
theorem kn_X11_cameAt_2 : (fl_s 2).all (fun q => decide (q.1 ∉ ([] : List Nat))) = true := by decide
theorem kn_X11_cameAt_3 : (fl_s 3).all (fun q => decide (q.1 ∉ ([] : List Nat))) = true := by decide
theorem nc_X11_cameAt_1 : 1 ∉ ([] : List Nat) := by decide
theorem nc_X11_cameAt_210 : 210 ∉ ([] : List Nat) := by decide
theorem nc_X11_cameAt_307 : 307 ∉ ([] : List Nat) := by decide
theorem nc_X11_cameAt_404 : 404 ∉ ([] : List Nat) := by decide
theorem nc_X11_cameAt_433 : 433 ∉ ([] : List Nat) := by decide
theorem cl_X11_cameAt {μ : dw_S} {K : dw_K} {a1 : Int32} (hI : INV μ) (hK : ∀ (r : Option Value) (w : Int32) (μ' : dw_S), ck_X11_cameAt a1 μ r w μ' → K r μ') : t_X11_cameAt [.ref 0, .int a1] μ K := by
  have h_1_1 := hI.2.1 1 1
  rw [sgc_0] at h_1_1
  refine al_364 84 (by decide) (fun s => [(0 : Int), (a1.toInt : Int), ((μ.2.2.1 1 1).toInt : Int)].getD s (0 : Int)) [.ref 0, .int a1] μ K ⟨hI.1, hI.2.1, fun _ _ => ⟨rfl, rfl⟩, rfl, Nat.le_refl _, Nat.le_of_ble_eq_true rfl, fun _ _ => rfl, ?_, fun q hq => absurd hq List.not_mem_nil, ?_, trivial, ?_, ?_⟩ ?_
  · exact iv2_ok (iv := (in_84).pre.iv) (vs := [(0 : Int), (a1.toInt : Int), ((μ.2.2.1 1 1).toInt : Int)]) ⟨⟨Int.le_refl 0, Int.le_refl 0⟩, ⟨dx_b1 _, dx_b2 _⟩, h_1_1, trivial⟩
  · exact ⟨⟨0, List.Mem.head _, rfl⟩, ⟨Nat.le_of_ble_eq_true rfl, a1, rfl, (Int.add_zero _).symm⟩, trivial⟩
  · exact dx_aL.all (l := (in_84).pre.fa) ⟨⟨Nat.le_of_ble_eq_true rfl, (Int.add_zero _).symm⟩, trivial⟩
  · exact dx_aL.all (l := (in_84).pre.fl) trivial
  · intro r μ' ν' P hP g'
    rcases List.mem_cons.mp hP with rfl | hP
    · obtain ⟨w, rfl, hw⟩ := r_int g'.gl
      have n0 : ν' 0 = 0 := g'.ag 0 (Nat.le_of_ble_eq_true rfl)
      have n1 : ν' 1 = a1.toInt := g'.ag 1 (Nat.le_of_ble_eq_true rfl)
      have n2 : ν' 2 = (μ.2.2.1 1 1).toInt := g'.ag 2 (Nat.le_of_ble_eq_true rfl)
      have sz0 : (μ'.2.2.1 1 1).toInt = (μ.2.2.1 1 1).toInt := by rw [(g'.fr 1 nc_X11_cameAt_1).1]
      have sz1 : (μ'.2.2.1 210 0).toInt = (μ.2.2.1 210 0).toInt := by rw [(g'.fr 210 nc_X11_cameAt_210).1]
      have sz2 : (μ'.2.2.1 307 0).toInt = (μ.2.2.1 307 0).toInt := by rw [(g'.fr 307 nc_X11_cameAt_307).1]
      have sz3 : (μ'.2.2.1 404 2).toInt = (μ.2.2.1 404 2).toInt := by rw [(g'.fr 404 nc_X11_cameAt_404).1]
      have sz4 : (μ'.2.2.1 433 0).toInt = (μ.2.2.1 433 0).toInt := by rw [(g'.fr 433 nc_X11_cameAt_433).1]
      have sz5 : (μ'.2.2.1 433 1).toInt = (μ.2.2.1 433 1).toInt := by rw [(g'.fr 433 nc_X11_cameAt_433).1]
      have hw' : w.toInt = ν' 0 + (-1) := hw
      exact hK _ w μ' ⟨⟨g'.sh, g'.hi, keepf (md := []) kn_X11_cameAt_0 g'.fr hI.2.2.1, keepf (md := []) kn_X11_cameAt_6 g'.fr hI.2.2.2.1, keepf (md := []) kn_X11_cameAt_2 g'.fr hI.2.2.2.2.1, keepf (md := []) kn_X11_cameAt_3 g'.fr hI.2.2.2.2.2⟩, rfl, by omega, ⟨sz3, sz4, sz5⟩, g'.fr⟩
    rcases List.mem_cons.mp hP with rfl | hP
    · obtain ⟨w, rfl, hw⟩ := r_int g'.gl
      have n0 : ν' 0 = 0 := g'.ag 0 (Nat.le_of_ble_eq_true rfl)
      have n1 : ν' 1 = a1.toInt := g'.ag 1 (Nat.le_of_ble_eq_true rfl)
      have n2 : ν' 2 = (μ.2.2.1 1 1).toInt := g'.ag 2 (Nat.le_of_ble_eq_true rfl)
      have sz0 : (μ'.2.2.1 1 1).toInt = (μ.2.2.1 1 1).toInt := by rw [(g'.fr 1 nc_X11_cameAt_1).1]
      have sz1 : (μ'.2.2.1 210 0).toInt = (μ.2.2.1 210 0).toInt := by rw [(g'.fr 210 nc_X11_cameAt_210).1]
      have sz2 : (μ'.2.2.1 307 0).toInt = (μ.2.2.1 307 0).toInt := by rw [(g'.fr 307 nc_X11_cameAt_307).1]
      have sz3 : (μ'.2.2.1 404 2).toInt = (μ.2.2.1 404 2).toInt := by rw [(g'.fr 404 nc_X11_cameAt_404).1]
      have sz4 : (μ'.2.2.1 433 0).toInt = (μ.2.2.1 433 0).toInt := by rw [(g'.fr 433 nc_X11_cameAt_433).1]
      have sz5 : (μ'.2.2.1 433 1).toInt = (μ.2.2.1 433 1).toInt := by rw [(g'.fr 433 nc_X11_cameAt_433).1]
      have hw' : w.toInt = ν' 3 + 0 := hw
      have i1 : (0 : Int) ≤ ν' 1 ∧ ν' 1 ≤ 1 := g'.iv 1 (Nat.le_of_ble_eq_true rfl)
      exact hK _ w μ' ⟨⟨g'.sh, g'.hi, keepf (md := []) kn_X11_cameAt_0 g'.fr hI.2.2.1, keepf (md := []) kn_X11_cameAt_6 g'.fr hI.2.2.2.1, keepf (md := []) kn_X11_cameAt_2 g'.fr hI.2.2.2.2.1, keepf (md := []) kn_X11_cameAt_3 g'.fr hI.2.2.2.2.2⟩, rfl, by omega, ⟨sz3, sz4, sz5⟩, g'.fr⟩
    exact absurd hP List.not_mem_nil
abbrev ck_X11_catcher (a1 a2 a3 : Int32) (μ : dw_S) (r : Option Value) (w : Int32) (μ' : dw_S) : Prop := (INV μ') ∧ (r = some (.int w)) ∧ ((μ'.2.2.1 1 1).toInt = (μ.2.2.1 1 1).toInt ∧ (μ'.2.2.1 210 0).toInt = (μ.2.2.1 210 0).toInt ∧ (μ'.2.2.1 307 0).toInt = (μ.2.2.1 307 0).toInt) ∧ ((μ'.2.2.1 404 2).toInt = (μ.2.2.1 404 2).toInt ∧ (μ'.2.2.1 433 0).toInt = (μ.2.2.1 433 0).toInt ∧ (μ'.2.2.1 433 1).toInt = (μ.2.2.1 433 1).toInt) ∧ (∀ a, a ∉ [164, 165, 167, 168, 169, 170, 171, 172, 173, 174, 175, 176, 177, 178] → μ'.2.2.1 a = μ.2.2.1 a ∧ μ'.2.2.2 a = μ.2.2.2 a)
theorem kn_X11_catcher_0 : (fl_s 0).all (fun q => decide (q.1 ∉ ([164, 165, 167, 168, 169, 170, 171, 172, 173, 174, 175, 176, 177, 178] : List Nat))) = true := by decide
theorem kn_X11_catcher_6 : (fl_s 6).all (fun q => decide (q.1 ∉ ([164, 165, 167, 168, 169, 170, 171, 172, 173, 174, 175, 176, 177, 178] : List Nat))) = true := by decide
theorem kn_X11_catcher_2 : (fl_s 2).all (fun q => decide (q.1 ∉ ([164, 165, 167, 168, 169, 170, 171, 172, 173, 174, 175, 176, 177, 178] : List Nat))) = true := by decide
theorem kn_X11_catcher_3 : (fl_s 3).all (fun q => decide (q.1 ∉ ([164, 165, 167, 168, 169, 170, 171, 172, 173, 174, 175, 176, 177, 178] : List Nat))) = true := by decide
theorem nc_X11_catcher_1 : 1 ∉ ([164, 165, 167, 168, 169, 170, 171, 172, 173, 174, 175, 176, 177, 178] : List Nat) := by decide
theorem nc_X11_catcher_210 : 210 ∉ ([164, 165, 167, 168, 169, 170, 171, 172, 173, 174, 175, 176, 177, 178] : List Nat) := by decide
theorem nc_X11_catcher_307 : 307 ∉ ([164, 165, 167, 168, 169, 170, 171, 172, 173, 174, 175, 176, 177, 178] : List Nat) := by decide
theorem nc_X11_catcher_404 : 404 ∉ ([164, 165, 167, 168, 169, 170, 171, 172, 173, 174, 175, 176, 177, 178] : List Nat) := by decide
theorem nc_X11_catcher_433 : 433 ∉ ([164, 165, 167, 168, 169, 170, 171, 172, 173, 174, 175, 176, 177, 178] : List Nat) := by decide
theorem cl_X11_catcher {μ : dw_S} {K : dw_K} {a1 a2 a3 : Int32} (hI : INV μ) (hK : ∀ (r : Option Value) (w : Int32) (μ' : dw_S), ck_X11_catcher a1 a2 a3 μ r w μ' → K r μ') : t_X11_catcher [.ref 0, .int a1, .int a2, .int a3] μ K := by
  have h_1_1 := hI.2.1 1 1
  rw [sgc_0] at h_1_1
  refine al_364 86 (by decide) (fun s => [(0 : Int), (a1.toInt : Int), (a2.toInt : Int), (a3.toInt : Int), ((μ.2.2.1 1 1).toInt : Int)].getD s (0 : Int)) [.ref 0, .int a1, .int a2, .int a3] μ K ⟨hI.1, hI.2.1, fun _ _ => ⟨rfl, rfl⟩, rfl, Nat.le_refl _, Nat.le_of_ble_eq_true rfl, fun _ _ => rfl, ?_, fun q hq => absurd hq List.not_mem_nil, ?_, trivial, ?_, ?_⟩ ?_
  · exact iv2_ok (iv := (in_86).pre.iv) (vs := [(0 : Int), (a1.toInt : Int), (a2.toInt : Int), (a3.toInt : Int), ((μ.2.2.1 1 1).toInt : Int)]) ⟨⟨Int.le_refl 0, Int.le_refl 0⟩, ⟨dx_b1 _, dx_b2 _⟩, ⟨dx_b1 _, dx_b2 _⟩, ⟨dx_b1 _, dx_b2 _⟩, h_1_1, trivial⟩
  · exact ⟨⟨0, List.Mem.head _, rfl⟩, ⟨Nat.le_of_ble_eq_true rfl, a1, rfl, (Int.add_zero _).symm⟩, ⟨Nat.le_of_ble_eq_true rfl, a2, rfl, (Int.add_zero _).symm⟩, ⟨Nat.le_of_ble_eq_true rfl, a3, rfl, (Int.add_zero _).symm⟩, trivial⟩
  · exact dx_aL.all (l := (in_86).pre.fa) ⟨⟨Nat.le_of_ble_eq_true rfl, (Int.add_zero _).symm⟩, trivial⟩
  · exact dx_aL.all (l := (in_86).pre.fl) trivial
  · intro r μ' ν' P hP g'
    rcases List.mem_cons.mp hP with rfl | hP
    · obtain ⟨w, rfl, hw⟩ := r_int g'.gl
      have n0 : ν' 0 = 0 := g'.ag 0 (Nat.le_of_ble_eq_true rfl)
      have n1 : ν' 1 = a1.toInt := g'.ag 1 (Nat.le_of_ble_eq_true rfl)
      have n2 : ν' 2 = a2.toInt := g'.ag 2 (Nat.le_of_ble_eq_true rfl)
      have n3 : ν' 3 = a3.toInt := g'.ag 3 (Nat.le_of_ble_eq_true rfl)
      have n4 : ν' 4 = (μ.2.2.1 1 1).toInt := g'.ag 4 (Nat.le_of_ble_eq_true rfl)
      have sz0 : (μ'.2.2.1 1 1).toInt = (μ.2.2.1 1 1).toInt := by rw [(g'.fr 1 nc_X11_catcher_1).1]
      have sz1 : (μ'.2.2.1 210 0).toInt = (μ.2.2.1 210 0).toInt := by rw [(g'.fr 210 nc_X11_catcher_210).1]
      have sz2 : (μ'.2.2.1 307 0).toInt = (μ.2.2.1 307 0).toInt := by rw [(g'.fr 307 nc_X11_catcher_307).1]
      have sz3 : (μ'.2.2.1 404 2).toInt = (μ.2.2.1 404 2).toInt := by rw [(g'.fr 404 nc_X11_catcher_404).1]
      have sz4 : (μ'.2.2.1 433 0).toInt = (μ.2.2.1 433 0).toInt := by rw [(g'.fr 433 nc_X11_catcher_433).1]
      have sz5 : (μ'.2.2.1 433 1).toInt = (μ.2.2.1 433 1).toInt := by rw [(g'.fr 433 nc_X11_catcher_433).1]
      have hw' : w.toInt = ν' 0 + (-1) := hw
      exact hK _ w μ' ⟨⟨g'.sh, g'.hi, keepf (md := [164, 165, 167, 168, 169, 170, 171, 172, 173, 174, 175, 176, 177, 178]) kn_X11_catcher_0 g'.fr hI.2.2.1, keepf (md := [164, 165, 167, 168, 169, 170, 171, 172, 173, 174, 175, 176, 177, 178]) kn_X11_catcher_6 g'.fr hI.2.2.2.1, keepf (md := [164, 165, 167, 168, 169, 170, 171, 172, 173, 174, 175, 176, 177, 178]) kn_X11_catcher_2 g'.fr hI.2.2.2.2.1, keepf (md := [164, 165, 167, 168, 169, 170, 171, 172, 173, 174, 175, 176, 177, 178]) kn_X11_catcher_3 g'.fr hI.2.2.2.2.2⟩, rfl, by omega, ⟨sz3, sz4, sz5⟩, g'.fr⟩
    rcases List.mem_cons.mp hP with rfl | hP
    · obtain ⟨w, rfl, hw⟩ := r_int g'.gl
      have n0 : ν' 0 = 0 := g'.ag 0 (Nat.le_of_ble_eq_true rfl)
      have n1 : ν' 1 = a1.toInt := g'.ag 1 (Nat.le_of_ble_eq_true rfl)
      have n2 : ν' 2 = a2.toInt := g'.ag 2 (Nat.le_of_ble_eq_true rfl)
      have n3 : ν' 3 = a3.toInt := g'.ag 3 (Nat.le_of_ble_eq_true rfl)
      have n4 : ν' 4 = (μ.2.2.1 1 1).toInt := g'.ag 4 (Nat.le_of_ble_eq_true rfl)
      have sz0 : (μ'.2.2.1 1 1).toInt = (μ.2.2.1 1 1).toInt := by rw [(g'.fr 1 nc_X11_catcher_1).1]
      have sz1 : (μ'.2.2.1 210 0).toInt = (μ.2.2.1 210 0).toInt := by rw [(g'.fr 210 nc_X11_catcher_210).1]
      have sz2 : (μ'.2.2.1 307 0).toInt = (μ.2.2.1 307 0).toInt := by rw [(g'.fr 307 nc_X11_catcher_307).1]
      have sz3 : (μ'.2.2.1 404 2).toInt = (μ.2.2.1 404 2).toInt := by rw [(g'.fr 404 nc_X11_catcher_404).1]
      have sz4 : (μ'.2.2.1 433 0).toInt = (μ.2.2.1 433 0).toInt := by rw [(g'.fr 433 nc_X11_catcher_433).1]
      have sz5 : (μ'.2.2.1 433 1).toInt = (μ.2.2.1 433 1).toInt := by rw [(g'.fr 433 nc_X11_catcher_433).1]
      have hw' : w.toInt = ν' 5 + 0 := hw
      have i2 : (0 : Int) ≤ ν' 2 ∧ ν' 2 ≤ 939 := g'.iv 2 (Nat.le_of_ble_eq_true rfl)
      have i3 : (0 : Int) ≤ ν' 3 ∧ ν' 3 ≤ 11 := g'.iv 3 (Nat.le_of_ble_eq_true rfl)
      exact hK _ w μ' ⟨⟨g'.sh, g'.hi, keepf (md := [164, 165, 167, 168, 169, 170, 171, 172, 173, 174, 175, 176, 177, 178]) kn_X11_catcher_0 g'.fr hI.2.2.1, keepf (md := [164, 165, 167, 168, 169, 170, 171, 172, 173, 174, 175, 176, 177, 178]) kn_X11_catcher_6 g'.fr hI.2.2.2.1, keepf (md := [164, 165, 167, 168, 169, 170, 171, 172, 173, 174, 175, 176, 177, 178]) kn_X11_catcher_2 g'.fr hI.2.2.2.2.1, keepf (md := [164, 165, 167, 168, 169, 170, 171, 172, 173, 174, 175, 176, 177, 178]) kn_X11_catcher_3 g'.fr hI.2.2.2.2.2⟩, rfl, by omega, ⟨sz3, sz4, sz5⟩, g'.fr⟩
    exact absurd hP List.not_mem_nil
abbrev ck_X11_clouded (a1 : Int32) (μ : dw_S) (r : Option Value) (w : Int32) (μ' : dw_S) : Prop := (INV μ') ∧ (r = some (.int w)) ∧ ((μ'.2.2.1 1 1).toInt = 0 ∧ (μ'.2.2.1 210 0).toInt = (μ.2.2.1 210 0).toInt ∧ (μ'.2.2.1 307 0).toInt = (μ.2.2.1 307 0).toInt) ∧ ((μ'.2.2.1 404 2).toInt = (μ.2.2.1 404 2).toInt ∧ (μ'.2.2.1 433 0).toInt = (μ.2.2.1 433 0).toInt ∧ (μ'.2.2.1 433 1).toInt = (μ.2.2.1 433 1).toInt) ∧ (∀ a, a ∉ [1, 164, 165, 167, 168, 169, 170, 171, 172, 173, 174, 175, 176, 177, 178] → μ'.2.2.1 a = μ.2.2.1 a ∧ μ'.2.2.2 a = μ.2.2.2 a)
theorem kn_X11_clouded_0 : (fl_s 0).all (fun q => decide (q.1 ∉ ([1, 164, 165, 167, 168, 169, 170, 171, 172, 173, 174, 175, 176, 177, 178] : List Nat))) = true := by decide
theorem kn_X11_clouded_6 : (fl_s 6).all (fun q => decide (q.1 ∉ ([1, 164, 165, 167, 168, 169, 170, 171, 172, 173, 174, 175, 176, 177, 178] : List Nat))) = true := by decide
theorem kn_X11_clouded_2 : (fl_s 2).all (fun q => decide (q.1 ∉ ([1, 164, 165, 167, 168, 169, 170, 171, 172, 173, 174, 175, 176, 177, 178] : List Nat))) = true := by decide
theorem kn_X11_clouded_3 : (fl_s 3).all (fun q => decide (q.1 ∉ ([1, 164, 165, 167, 168, 169, 170, 171, 172, 173, 174, 175, 176, 177, 178] : List Nat))) = true := by decide
theorem nc_X11_clouded_210 : 210 ∉ ([1, 164, 165, 167, 168, 169, 170, 171, 172, 173, 174, 175, 176, 177, 178] : List Nat) := by decide
theorem nc_X11_clouded_307 : 307 ∉ ([1, 164, 165, 167, 168, 169, 170, 171, 172, 173, 174, 175, 176, 177, 178] : List Nat) := by decide
theorem nc_X11_clouded_404 : 404 ∉ ([1, 164, 165, 167, 168, 169, 170, 171, 172, 173, 174, 175, 176, 177, 178] : List Nat) := by decide
theorem nc_X11_clouded_433 : 433 ∉ ([1, 164, 165, 167, 168, 169, 170, 171, 172, 173, 174, 175, 176, 177, 178] : List Nat) := by decide
theorem cl_X11_clouded {μ : dw_S} {K : dw_K} {a1 : Int32} (hI : INV μ) (hK : ∀ (r : Option Value) (w : Int32) (μ' : dw_S), ck_X11_clouded a1 μ r w μ' → K r μ') : t_X11_clouded [.ref 0, .int a1] μ K := by
  have h_1_1 := hI.2.1 1 1
  rw [sgc_0] at h_1_1
  refine al_364 90 (by decide) (fun s => [(0 : Int), (a1.toInt : Int), ((μ.2.2.1 1 1).toInt : Int)].getD s (0 : Int)) [.ref 0, .int a1] μ K ⟨hI.1, hI.2.1, fun _ _ => ⟨rfl, rfl⟩, rfl, Nat.le_refl _, Nat.le_of_ble_eq_true rfl, fun _ _ => rfl, ?_, fun q hq => absurd hq List.not_mem_nil, ?_, trivial, ?_, ?_⟩ ?_
  · exact iv2_ok (iv := (in_90).pre.iv) (vs := [(0 : Int), (a1.toInt : Int), ((μ.2.2.1 1 1).toInt : Int)]) ⟨⟨Int.le_refl 0, Int.le_refl 0⟩, ⟨dx_b1 _, dx_b2 _⟩, h_1_1, trivial⟩
  · exact ⟨⟨0, List.Mem.head _, rfl⟩, ⟨Nat.le_of_ble_eq_true rfl, a1, rfl, (Int.add_zero _).symm⟩, trivial⟩
  · exact dx_aL.all (l := (in_90).pre.fa) ⟨⟨Nat.le_of_ble_eq_true rfl, (Int.add_zero _).symm⟩, trivial⟩
  · exact dx_aL.all (l := (in_90).pre.fl) trivial
  · intro r μ' ν' P hP g'
    rcases List.mem_cons.mp hP with rfl | hP
    · obtain ⟨w, rfl, hw⟩ := r_int g'.gl
      have n0 : ν' 0 = 0 := g'.ag 0 (Nat.le_of_ble_eq_true rfl)
      have n1 : ν' 1 = a1.toInt := g'.ag 1 (Nat.le_of_ble_eq_true rfl)
      have n2 : ν' 2 = (μ.2.2.1 1 1).toInt := g'.ag 2 (Nat.le_of_ble_eq_true rfl)
      have sz0 : (μ'.2.2.1 1 1).toInt = ν' 0 + 0 := (g'.fa _ (List.Mem.head _)).2
      have sz1 : (μ'.2.2.1 210 0).toInt = (μ.2.2.1 210 0).toInt := by rw [(g'.fr 210 nc_X11_clouded_210).1]
      have sz2 : (μ'.2.2.1 307 0).toInt = (μ.2.2.1 307 0).toInt := by rw [(g'.fr 307 nc_X11_clouded_307).1]
      have sz3 : (μ'.2.2.1 404 2).toInt = (μ.2.2.1 404 2).toInt := by rw [(g'.fr 404 nc_X11_clouded_404).1]
      have sz4 : (μ'.2.2.1 433 0).toInt = (μ.2.2.1 433 0).toInt := by rw [(g'.fr 433 nc_X11_clouded_433).1]
      have sz5 : (μ'.2.2.1 433 1).toInt = (μ.2.2.1 433 1).toInt := by rw [(g'.fr 433 nc_X11_clouded_433).1]
      have hw' : w.toInt = ν' 0 + (-1) := hw
      exact hK _ w μ' ⟨⟨g'.sh, g'.hi, keepf (md := [1, 164, 165, 167, 168, 169, 170, 171, 172, 173, 174, 175, 176, 177, 178]) kn_X11_clouded_0 g'.fr hI.2.2.1, keepf (md := [1, 164, 165, 167, 168, 169, 170, 171, 172, 173, 174, 175, 176, 177, 178]) kn_X11_clouded_6 g'.fr hI.2.2.2.1, keepf (md := [1, 164, 165, 167, 168, 169, 170, 171, 172, 173, 174, 175, 176, 177, 178]) kn_X11_clouded_2 g'.fr hI.2.2.2.2.1, keepf (md := [1, 164, 165, 167, 168, 169, 170, 171, 172, 173, 174, 175, 176, 177, 178]) kn_X11_clouded_3 g'.fr hI.2.2.2.2.2⟩, rfl, by omega, ⟨sz3, sz4, sz5⟩, g'.fr⟩
    rcases List.mem_cons.mp hP with rfl | hP
    · obtain ⟨w, rfl, hw⟩ := r_int g'.gl
      have n0 : ν' 0 = 0 := g'.ag 0 (Nat.le_of_ble_eq_true rfl)
      have n1 : ν' 1 = a1.toInt := g'.ag 1 (Nat.le_of_ble_eq_true rfl)
      have n2 : ν' 2 = (μ.2.2.1 1 1).toInt := g'.ag 2 (Nat.le_of_ble_eq_true rfl)
      have sz0 : (μ'.2.2.1 1 1).toInt = ν' 0 + 0 := (g'.fa _ (List.Mem.head _)).2
      have sz1 : (μ'.2.2.1 210 0).toInt = (μ.2.2.1 210 0).toInt := by rw [(g'.fr 210 nc_X11_clouded_210).1]
      have sz2 : (μ'.2.2.1 307 0).toInt = (μ.2.2.1 307 0).toInt := by rw [(g'.fr 307 nc_X11_clouded_307).1]
      have sz3 : (μ'.2.2.1 404 2).toInt = (μ.2.2.1 404 2).toInt := by rw [(g'.fr 404 nc_X11_clouded_404).1]
      have sz4 : (μ'.2.2.1 433 0).toInt = (μ.2.2.1 433 0).toInt := by rw [(g'.fr 433 nc_X11_clouded_433).1]
      have sz5 : (μ'.2.2.1 433 1).toInt = (μ.2.2.1 433 1).toInt := by rw [(g'.fr 433 nc_X11_clouded_433).1]
      have hw' : w.toInt = ν' 3 + 0 := hw
      exact hK _ w μ' ⟨⟨g'.sh, g'.hi, keepf (md := [1, 164, 165, 167, 168, 169, 170, 171, 172, 173, 174, 175, 176, 177, 178]) kn_X11_clouded_0 g'.fr hI.2.2.1, keepf (md := [1, 164, 165, 167, 168, 169, 170, 171, 172, 173, 174, 175, 176, 177, 178]) kn_X11_clouded_6 g'.fr hI.2.2.2.1, keepf (md := [1, 164, 165, 167, 168, 169, 170, 171, 172, 173, 174, 175, 176, 177, 178]) kn_X11_clouded_2 g'.fr hI.2.2.2.2.1, keepf (md := [1, 164, 165, 167, 168, 169, 170, 171, 172, 173, 174, 175, 176, 177, 178]) kn_X11_clouded_3 g'.fr hI.2.2.2.2.2⟩, rfl, by omega, ⟨sz3, sz4, sz5⟩, g'.fr⟩
    exact absurd hP List.not_mem_nil
abbrev ck_X11_count (a1 : Int32) (μ : dw_S) (r : Option Value) (w : Int32) (μ' : dw_S) : Prop := (INV μ') ∧ (r = some (.int w)) ∧ ((μ'.2.2.1 1 1).toInt = (μ.2.2.1 1 1).toInt ∧ (μ'.2.2.1 210 0).toInt = (μ.2.2.1 210 0).toInt ∧ (μ'.2.2.1 307 0).toInt = (μ.2.2.1 307 0).toInt) ∧ ((μ'.2.2.1 404 2).toInt = (μ.2.2.1 404 2).toInt ∧ (μ'.2.2.1 433 0).toInt = (μ.2.2.1 433 0).toInt ∧ (μ'.2.2.1 433 1).toInt = (μ.2.2.1 433 1).toInt) ∧ (∀ a, a ∉ [] → μ'.2.2.1 a = μ.2.2.1 a ∧ μ'.2.2.2 a = μ.2.2.2 a)
theorem kn_X11_count_0 : (fl_s 0).all (fun q => decide (q.1 ∉ ([] : List Nat))) = true := by decide
theorem kn_X11_count_6 : (fl_s 6).all (fun q => decide (q.1 ∉ ([] : List Nat))) = true := by decide
theorem kn_X11_count_2 : (fl_s 2).all (fun q => decide (q.1 ∉ ([] : List Nat))) = true := by decide
theorem kn_X11_count_3 : (fl_s 3).all (fun q => decide (q.1 ∉ ([] : List Nat))) = true := by decide
theorem nc_X11_count_1 : 1 ∉ ([] : List Nat) := by decide
theorem nc_X11_count_210 : 210 ∉ ([] : List Nat) := by decide
theorem nc_X11_count_307 : 307 ∉ ([] : List Nat) := by decide
theorem nc_X11_count_404 : 404 ∉ ([] : List Nat) := by decide
theorem nc_X11_count_433 : 433 ∉ ([] : List Nat) := by decide
theorem cl_X11_count {μ : dw_S} {K : dw_K} {a1 : Int32} (hI : INV μ) (hK : ∀ (r : Option Value) (w : Int32) (μ' : dw_S), ck_X11_count a1 μ r w μ' → K r μ') : t_X11_count [.ref 0, .int a1] μ K := by
  have h_1_1 := hI.2.1 1 1
  rw [sgc_0] at h_1_1
  refine al_364 92 (by decide) (fun s => [(0 : Int), (a1.toInt : Int), ((μ.2.2.1 1 1).toInt : Int)].getD s (0 : Int)) [.ref 0, .int a1] μ K ⟨hI.1, hI.2.1, fun _ _ => ⟨rfl, rfl⟩, rfl, Nat.le_refl _, Nat.le_of_ble_eq_true rfl, fun _ _ => rfl, ?_, fun q hq => absurd hq List.not_mem_nil, ?_, trivial, ?_, ?_⟩ ?_
  · exact iv2_ok (iv := (in_92).pre.iv) (vs := [(0 : Int), (a1.toInt : Int), ((μ.2.2.1 1 1).toInt : Int)]) ⟨⟨Int.le_refl 0, Int.le_refl 0⟩, ⟨dx_b1 _, dx_b2 _⟩, h_1_1, trivial⟩
  · exact ⟨⟨0, List.Mem.head _, rfl⟩, ⟨Nat.le_of_ble_eq_true rfl, a1, rfl, (Int.add_zero _).symm⟩, trivial⟩
  · exact dx_aL.all (l := (in_92).pre.fa) ⟨⟨Nat.le_of_ble_eq_true rfl, (Int.add_zero _).symm⟩, trivial⟩
  · exact dx_aL.all (l := (in_92).pre.fl) trivial
  · intro r μ' ν' P hP g'
    rcases List.mem_cons.mp hP with rfl | hP
    · obtain ⟨w, rfl, hw⟩ := r_int g'.gl
      have n0 : ν' 0 = 0 := g'.ag 0 (Nat.le_of_ble_eq_true rfl)
      have n1 : ν' 1 = a1.toInt := g'.ag 1 (Nat.le_of_ble_eq_true rfl)
      have n2 : ν' 2 = (μ.2.2.1 1 1).toInt := g'.ag 2 (Nat.le_of_ble_eq_true rfl)
      have sz0 : (μ'.2.2.1 1 1).toInt = (μ.2.2.1 1 1).toInt := by rw [(g'.fr 1 nc_X11_count_1).1]
      have sz1 : (μ'.2.2.1 210 0).toInt = (μ.2.2.1 210 0).toInt := by rw [(g'.fr 210 nc_X11_count_210).1]
      have sz2 : (μ'.2.2.1 307 0).toInt = (μ.2.2.1 307 0).toInt := by rw [(g'.fr 307 nc_X11_count_307).1]
      have sz3 : (μ'.2.2.1 404 2).toInt = (μ.2.2.1 404 2).toInt := by rw [(g'.fr 404 nc_X11_count_404).1]
      have sz4 : (μ'.2.2.1 433 0).toInt = (μ.2.2.1 433 0).toInt := by rw [(g'.fr 433 nc_X11_count_433).1]
      have sz5 : (μ'.2.2.1 433 1).toInt = (μ.2.2.1 433 1).toInt := by rw [(g'.fr 433 nc_X11_count_433).1]
      have hw' : w.toInt = ν' 3 + 0 := hw
      have i1 : (0 : Int) ≤ ν' 1 ∧ ν' 1 ≤ 7 := g'.iv 1 (Nat.le_of_ble_eq_true rfl)
      exact hK _ w μ' ⟨⟨g'.sh, g'.hi, keepf (md := []) kn_X11_count_0 g'.fr hI.2.2.1, keepf (md := []) kn_X11_count_6 g'.fr hI.2.2.2.1, keepf (md := []) kn_X11_count_2 g'.fr hI.2.2.2.2.1, keepf (md := []) kn_X11_count_3 g'.fr hI.2.2.2.2.2⟩, rfl, by omega, ⟨sz3, sz4, sz5⟩, g'.fr⟩
    rcases List.mem_cons.mp hP with rfl | hP
    · obtain ⟨w, rfl, hw⟩ := r_int g'.gl
      have n0 : ν' 0 = 0 := g'.ag 0 (Nat.le_of_ble_eq_true rfl)
      have n1 : ν' 1 = a1.toInt := g'.ag 1 (Nat.le_of_ble_eq_true rfl)
      have n2 : ν' 2 = (μ.2.2.1 1 1).toInt := g'.ag 2 (Nat.le_of_ble_eq_true rfl)
      have sz0 : (μ'.2.2.1 1 1).toInt = (μ.2.2.1 1 1).toInt := by rw [(g'.fr 1 nc_X11_count_1).1]
      have sz1 : (μ'.2.2.1 210 0).toInt = (μ.2.2.1 210 0).toInt := by rw [(g'.fr 210 nc_X11_count_210).1]
      have sz2 : (μ'.2.2.1 307 0).toInt = (μ.2.2.1 307 0).toInt := by rw [(g'.fr 307 nc_X11_count_307).1]
      have sz3 : (μ'.2.2.1 404 2).toInt = (μ.2.2.1 404 2).toInt := by rw [(g'.fr 404 nc_X11_count_404).1]
      have sz4 : (μ'.2.2.1 433 0).toInt = (μ.2.2.1 433 0).toInt := by rw [(g'.fr 433 nc_X11_count_433).1]
      have sz5 : (μ'.2.2.1 433 1).toInt = (μ.2.2.1 433 1).toInt := by rw [(g'.fr 433 nc_X11_count_433).1]
      have hw' : w.toInt = ν' 0 + (-1) := hw
      exact hK _ w μ' ⟨⟨g'.sh, g'.hi, keepf (md := []) kn_X11_count_0 g'.fr hI.2.2.1, keepf (md := []) kn_X11_count_6 g'.fr hI.2.2.2.1, keepf (md := []) kn_X11_count_2 g'.fr hI.2.2.2.2.1, keepf (md := []) kn_X11_count_3 g'.fr hI.2.2.2.2.2⟩, rfl, by omega, ⟨sz3, sz4, sz5⟩, g'.fr⟩
    exact absurd hP List.not_mem_nil
abbrev ck_X11_drawn (a1 a2 a3 a4 a5 : Int32) (μ : dw_S) (r : Option Value) (w : Int32) (μ' : dw_S) : Prop := (INV μ') ∧ (r = some (.int w)) ∧ ((μ'.2.2.1 1 1).toInt = (μ.2.2.1 1 1).toInt ∧ (μ'.2.2.1 210 0).toInt = (μ.2.2.1 210 0).toInt ∧ (μ'.2.2.1 307 0).toInt = (μ.2.2.1 307 0).toInt) ∧ ((μ'.2.2.1 404 2).toInt = (μ.2.2.1 404 2).toInt ∧ (μ'.2.2.1 433 0).toInt = (μ.2.2.1 433 0).toInt ∧ (μ'.2.2.1 433 1).toInt = (μ.2.2.1 433 1).toInt) ∧ (∀ a, a ∉ [0, 164, 165, 167, 168, 169, 170, 171, 172, 173, 174, 175, 176, 177, 178, 209] → μ'.2.2.1 a = μ.2.2.1 a ∧ μ'.2.2.2 a = μ.2.2.2 a)
theorem kn_X11_drawn_0 : (fl_s 0).all (fun q => decide (q.1 ∉ ([0, 164, 165, 167, 168, 169, 170, 171, 172, 173, 174, 175, 176, 177, 178, 209] : List Nat))) = true := by decide
theorem kn_X11_drawn_6 : (fl_s 6).all (fun q => decide (q.1 ∉ ([0, 164, 165, 167, 168, 169, 170, 171, 172, 173, 174, 175, 176, 177, 178, 209] : List Nat))) = true := by decide
theorem kn_X11_drawn_2 : (fl_s 2).all (fun q => decide (q.1 ∉ ([0, 164, 165, 167, 168, 169, 170, 171, 172, 173, 174, 175, 176, 177, 178, 209] : List Nat))) = true := by decide
theorem kn_X11_drawn_3 : (fl_s 3).all (fun q => decide (q.1 ∉ ([0, 164, 165, 167, 168, 169, 170, 171, 172, 173, 174, 175, 176, 177, 178, 209] : List Nat))) = true := by decide
theorem nc_X11_drawn_1 : 1 ∉ ([0, 164, 165, 167, 168, 169, 170, 171, 172, 173, 174, 175, 176, 177, 178, 209] : List Nat) := by decide
theorem nc_X11_drawn_210 : 210 ∉ ([0, 164, 165, 167, 168, 169, 170, 171, 172, 173, 174, 175, 176, 177, 178, 209] : List Nat) := by decide
theorem nc_X11_drawn_307 : 307 ∉ ([0, 164, 165, 167, 168, 169, 170, 171, 172, 173, 174, 175, 176, 177, 178, 209] : List Nat) := by decide
theorem nc_X11_drawn_404 : 404 ∉ ([0, 164, 165, 167, 168, 169, 170, 171, 172, 173, 174, 175, 176, 177, 178, 209] : List Nat) := by decide
theorem nc_X11_drawn_433 : 433 ∉ ([0, 164, 165, 167, 168, 169, 170, 171, 172, 173, 174, 175, 176, 177, 178, 209] : List Nat) := by decide
theorem cl_X11_drawn {μ : dw_S} {K : dw_K} {a1 a2 a3 a4 a5 : Int32} (hI : INV μ) (hK : ∀ (r : Option Value) (w : Int32) (μ' : dw_S), ck_X11_drawn a1 a2 a3 a4 a5 μ r w μ' → K r μ') : t_X11_drawn [.ref 0, .int a1, .int a2, .int a3, .int a4, .int a5] μ K := by
  have h_1_1 := hI.2.1 1 1
  rw [sgc_0] at h_1_1
  refine al_364 93 (by decide) (fun s => [(0 : Int), (a1.toInt : Int), (a2.toInt : Int), (a3.toInt : Int), (a4.toInt : Int), (a5.toInt : Int), ((μ.2.2.1 1 1).toInt : Int)].getD s (0 : Int)) [.ref 0, .int a1, .int a2, .int a3, .int a4, .int a5] μ K ⟨hI.1, hI.2.1, fun _ _ => ⟨rfl, rfl⟩, rfl, Nat.le_refl _, Nat.le_of_ble_eq_true rfl, fun _ _ => rfl, ?_, fun q hq => absurd hq List.not_mem_nil, ?_, trivial, ?_, ?_⟩ ?_
  · exact iv2_ok (iv := (in_93).pre.iv) (vs := [(0 : Int), (a1.toInt : Int), (a2.toInt : Int), (a3.toInt : Int), (a4.toInt : Int), (a5.toInt : Int), ((μ.2.2.1 1 1).toInt : Int)]) ⟨⟨Int.le_refl 0, Int.le_refl 0⟩, ⟨dx_b1 _, dx_b2 _⟩, ⟨dx_b1 _, dx_b2 _⟩, ⟨dx_b1 _, dx_b2 _⟩, ⟨dx_b1 _, dx_b2 _⟩, ⟨dx_b1 _, dx_b2 _⟩, h_1_1, trivial⟩
  · exact ⟨⟨0, List.Mem.head _, rfl⟩, ⟨Nat.le_of_ble_eq_true rfl, a1, rfl, (Int.add_zero _).symm⟩, ⟨Nat.le_of_ble_eq_true rfl, a2, rfl, (Int.add_zero _).symm⟩, ⟨Nat.le_of_ble_eq_true rfl, a3, rfl, (Int.add_zero _).symm⟩, ⟨Nat.le_of_ble_eq_true rfl, a4, rfl, (Int.add_zero _).symm⟩, ⟨Nat.le_of_ble_eq_true rfl, a5, rfl, (Int.add_zero _).symm⟩, trivial⟩
  · exact dx_aL.all (l := (in_93).pre.fa) ⟨⟨Nat.le_of_ble_eq_true rfl, (Int.add_zero _).symm⟩, trivial⟩
  · exact dx_aL.all (l := (in_93).pre.fl) trivial
  · intro r μ' ν' P hP g'
    rcases List.mem_cons.mp hP with rfl | hP
    · obtain ⟨w, rfl, hw⟩ := r_int g'.gl
      have n0 : ν' 0 = 0 := g'.ag 0 (Nat.le_of_ble_eq_true rfl)
      have n1 : ν' 1 = a1.toInt := g'.ag 1 (Nat.le_of_ble_eq_true rfl)
      have n2 : ν' 2 = a2.toInt := g'.ag 2 (Nat.le_of_ble_eq_true rfl)
      have n3 : ν' 3 = a3.toInt := g'.ag 3 (Nat.le_of_ble_eq_true rfl)
      have n4 : ν' 4 = a4.toInt := g'.ag 4 (Nat.le_of_ble_eq_true rfl)
      have n5 : ν' 5 = a5.toInt := g'.ag 5 (Nat.le_of_ble_eq_true rfl)
      have n6 : ν' 6 = (μ.2.2.1 1 1).toInt := g'.ag 6 (Nat.le_of_ble_eq_true rfl)
      have sz0 : (μ'.2.2.1 1 1).toInt = (μ.2.2.1 1 1).toInt := by rw [(g'.fr 1 nc_X11_drawn_1).1]
      have sz1 : (μ'.2.2.1 210 0).toInt = (μ.2.2.1 210 0).toInt := by rw [(g'.fr 210 nc_X11_drawn_210).1]
      have sz2 : (μ'.2.2.1 307 0).toInt = (μ.2.2.1 307 0).toInt := by rw [(g'.fr 307 nc_X11_drawn_307).1]
      have sz3 : (μ'.2.2.1 404 2).toInt = (μ.2.2.1 404 2).toInt := by rw [(g'.fr 404 nc_X11_drawn_404).1]
      have sz4 : (μ'.2.2.1 433 0).toInt = (μ.2.2.1 433 0).toInt := by rw [(g'.fr 433 nc_X11_drawn_433).1]
      have sz5 : (μ'.2.2.1 433 1).toInt = (μ.2.2.1 433 1).toInt := by rw [(g'.fr 433 nc_X11_drawn_433).1]
      have hw' : w.toInt = ν' 0 + (-1) := hw
      exact hK _ w μ' ⟨⟨g'.sh, g'.hi, keepf (md := [0, 164, 165, 167, 168, 169, 170, 171, 172, 173, 174, 175, 176, 177, 178, 209]) kn_X11_drawn_0 g'.fr hI.2.2.1, keepf (md := [0, 164, 165, 167, 168, 169, 170, 171, 172, 173, 174, 175, 176, 177, 178, 209]) kn_X11_drawn_6 g'.fr hI.2.2.2.1, keepf (md := [0, 164, 165, 167, 168, 169, 170, 171, 172, 173, 174, 175, 176, 177, 178, 209]) kn_X11_drawn_2 g'.fr hI.2.2.2.2.1, keepf (md := [0, 164, 165, 167, 168, 169, 170, 171, 172, 173, 174, 175, 176, 177, 178, 209]) kn_X11_drawn_3 g'.fr hI.2.2.2.2.2⟩, rfl, by omega, ⟨sz3, sz4, sz5⟩, g'.fr⟩
    rcases List.mem_cons.mp hP with rfl | hP
    · obtain ⟨w, rfl, hw⟩ := r_int g'.gl
      have n0 : ν' 0 = 0 := g'.ag 0 (Nat.le_of_ble_eq_true rfl)
      have n1 : ν' 1 = a1.toInt := g'.ag 1 (Nat.le_of_ble_eq_true rfl)
      have n2 : ν' 2 = a2.toInt := g'.ag 2 (Nat.le_of_ble_eq_true rfl)
      have n3 : ν' 3 = a3.toInt := g'.ag 3 (Nat.le_of_ble_eq_true rfl)
      have n4 : ν' 4 = a4.toInt := g'.ag 4 (Nat.le_of_ble_eq_true rfl)
      have n5 : ν' 5 = a5.toInt := g'.ag 5 (Nat.le_of_ble_eq_true rfl)
      have n6 : ν' 6 = (μ.2.2.1 1 1).toInt := g'.ag 6 (Nat.le_of_ble_eq_true rfl)
      have sz0 : (μ'.2.2.1 1 1).toInt = (μ.2.2.1 1 1).toInt := by rw [(g'.fr 1 nc_X11_drawn_1).1]
      have sz1 : (μ'.2.2.1 210 0).toInt = (μ.2.2.1 210 0).toInt := by rw [(g'.fr 210 nc_X11_drawn_210).1]
      have sz2 : (μ'.2.2.1 307 0).toInt = (μ.2.2.1 307 0).toInt := by rw [(g'.fr 307 nc_X11_drawn_307).1]
      have sz3 : (μ'.2.2.1 404 2).toInt = (μ.2.2.1 404 2).toInt := by rw [(g'.fr 404 nc_X11_drawn_404).1]
      have sz4 : (μ'.2.2.1 433 0).toInt = (μ.2.2.1 433 0).toInt := by rw [(g'.fr 433 nc_X11_drawn_433).1]
      have sz5 : (μ'.2.2.1 433 1).toInt = (μ.2.2.1 433 1).toInt := by rw [(g'.fr 433 nc_X11_drawn_433).1]
      have hw' : w.toInt = ν' 7 + 0 := hw
      have i1 : (0 : Int) ≤ ν' 1 ∧ ν' 1 ≤ 5 := g'.iv 1 (Nat.le_of_ble_eq_true rfl)
      have i2 : (0 : Int) ≤ ν' 2 ∧ ν' 2 ≤ 939 := g'.iv 2 (Nat.le_of_ble_eq_true rfl)
      have i3 : (0 : Int) ≤ ν' 3 ∧ ν' 3 ≤ 11 := g'.iv 3 (Nat.le_of_ble_eq_true rfl)
      have i4 : (1 : Int) ≤ ν' 4 ∧ ν' 4 ≤ 30 := g'.iv 4 (Nat.le_of_ble_eq_true rfl)
      exact hK _ w μ' ⟨⟨g'.sh, g'.hi, keepf (md := [0, 164, 165, 167, 168, 169, 170, 171, 172, 173, 174, 175, 176, 177, 178, 209]) kn_X11_drawn_0 g'.fr hI.2.2.1, keepf (md := [0, 164, 165, 167, 168, 169, 170, 171, 172, 173, 174, 175, 176, 177, 178, 209]) kn_X11_drawn_6 g'.fr hI.2.2.2.1, keepf (md := [0, 164, 165, 167, 168, 169, 170, 171, 172, 173, 174, 175, 176, 177, 178, 209]) kn_X11_drawn_2 g'.fr hI.2.2.2.2.1, keepf (md := [0, 164, 165, 167, 168, 169, 170, 171, 172, 173, 174, 175, 176, 177, 178, 209]) kn_X11_drawn_3 g'.fr hI.2.2.2.2.2⟩, rfl, by omega, ⟨sz3, sz4, sz5⟩, g'.fr⟩
    exact absurd hP List.not_mem_nil
abbrev ck_X11_drawnBy (a1 : Int32) (μ : dw_S) (r : Option Value) (w : Int32) (μ' : dw_S) : Prop := (INV μ') ∧ (r = some (.int w)) ∧ ((μ'.2.2.1 1 1).toInt = (μ.2.2.1 1 1).toInt ∧ (μ'.2.2.1 210 0).toInt = (μ.2.2.1 210 0).toInt ∧ (μ'.2.2.1 307 0).toInt = (μ.2.2.1 307 0).toInt) ∧ ((μ'.2.2.1 404 2).toInt = (μ.2.2.1 404 2).toInt ∧ (μ'.2.2.1 433 0).toInt = (μ.2.2.1 433 0).toInt ∧ (μ'.2.2.1 433 1).toInt = (μ.2.2.1 433 1).toInt) ∧ (∀ a, a ∉ [] → μ'.2.2.1 a = μ.2.2.1 a ∧ μ'.2.2.2 a = μ.2.2.2 a)
theorem kn_X11_drawnBy_0 : (fl_s 0).all (fun q => decide (q.1 ∉ ([] : List Nat))) = true := by decide
theorem kn_X11_drawnBy_6 : (fl_s 6).all (fun q => decide (q.1 ∉ ([] : List Nat))) = true := by decide
theorem kn_X11_drawnBy_2 : (fl_s 2).all (fun q => decide (q.1 ∉ ([] : List Nat))) = true := by decide
theorem kn_X11_drawnBy_3 : (fl_s 3).all (fun q => decide (q.1 ∉ ([] : List Nat))) = true := by decide
theorem nc_X11_drawnBy_1 : 1 ∉ ([] : List Nat) := by decide
theorem nc_X11_drawnBy_210 : 210 ∉ ([] : List Nat) := by decide
theorem nc_X11_drawnBy_307 : 307 ∉ ([] : List Nat) := by decide
theorem nc_X11_drawnBy_404 : 404 ∉ ([] : List Nat) := by decide
theorem nc_X11_drawnBy_433 : 433 ∉ ([] : List Nat) := by decide
theorem cl_X11_drawnBy {μ : dw_S} {K : dw_K} {a1 : Int32} (hI : INV μ) (hK : ∀ (r : Option Value) (w : Int32) (μ' : dw_S), ck_X11_drawnBy a1 μ r w μ' → K r μ') : t_X11_drawnBy [.ref 0, .int a1] μ K := by
  have h_1_1 := hI.2.1 1 1
  rw [sgc_0] at h_1_1
  refine al_364 94 (by decide) (fun s => [(0 : Int), (a1.toInt : Int), ((μ.2.2.1 1 1).toInt : Int)].getD s (0 : Int)) [.ref 0, .int a1] μ K ⟨hI.1, hI.2.1, fun _ _ => ⟨rfl, rfl⟩, rfl, Nat.le_refl _, Nat.le_of_ble_eq_true rfl, fun _ _ => rfl, ?_, fun q hq => absurd hq List.not_mem_nil, ?_, trivial, ?_, ?_⟩ ?_
  · exact iv2_ok (iv := (in_94).pre.iv) (vs := [(0 : Int), (a1.toInt : Int), ((μ.2.2.1 1 1).toInt : Int)]) ⟨⟨Int.le_refl 0, Int.le_refl 0⟩, ⟨dx_b1 _, dx_b2 _⟩, h_1_1, trivial⟩
  · exact ⟨⟨0, List.Mem.head _, rfl⟩, ⟨Nat.le_of_ble_eq_true rfl, a1, rfl, (Int.add_zero _).symm⟩, trivial⟩
  · exact dx_aL.all (l := (in_94).pre.fa) ⟨⟨Nat.le_of_ble_eq_true rfl, (Int.add_zero _).symm⟩, trivial⟩
  · exact dx_aL.all (l := (in_94).pre.fl) trivial
  · intro r μ' ν' P hP g'
    rcases List.mem_cons.mp hP with rfl | hP
    · obtain ⟨w, rfl, hw⟩ := r_int g'.gl
      have n0 : ν' 0 = 0 := g'.ag 0 (Nat.le_of_ble_eq_true rfl)
      have n1 : ν' 1 = a1.toInt := g'.ag 1 (Nat.le_of_ble_eq_true rfl)
      have n2 : ν' 2 = (μ.2.2.1 1 1).toInt := g'.ag 2 (Nat.le_of_ble_eq_true rfl)
      have sz0 : (μ'.2.2.1 1 1).toInt = (μ.2.2.1 1 1).toInt := by rw [(g'.fr 1 nc_X11_drawnBy_1).1]
      have sz1 : (μ'.2.2.1 210 0).toInt = (μ.2.2.1 210 0).toInt := by rw [(g'.fr 210 nc_X11_drawnBy_210).1]
      have sz2 : (μ'.2.2.1 307 0).toInt = (μ.2.2.1 307 0).toInt := by rw [(g'.fr 307 nc_X11_drawnBy_307).1]
      have sz3 : (μ'.2.2.1 404 2).toInt = (μ.2.2.1 404 2).toInt := by rw [(g'.fr 404 nc_X11_drawnBy_404).1]
      have sz4 : (μ'.2.2.1 433 0).toInt = (μ.2.2.1 433 0).toInt := by rw [(g'.fr 433 nc_X11_drawnBy_433).1]
      have sz5 : (μ'.2.2.1 433 1).toInt = (μ.2.2.1 433 1).toInt := by rw [(g'.fr 433 nc_X11_drawnBy_433).1]
      have hw' : w.toInt = ν' 0 + (-1) := hw
      exact hK _ w μ' ⟨⟨g'.sh, g'.hi, keepf (md := []) kn_X11_drawnBy_0 g'.fr hI.2.2.1, keepf (md := []) kn_X11_drawnBy_6 g'.fr hI.2.2.2.1, keepf (md := []) kn_X11_drawnBy_2 g'.fr hI.2.2.2.2.1, keepf (md := []) kn_X11_drawnBy_3 g'.fr hI.2.2.2.2.2⟩, rfl, by omega, ⟨sz3, sz4, sz5⟩, g'.fr⟩
    rcases List.mem_cons.mp hP with rfl | hP
    · obtain ⟨w, rfl, hw⟩ := r_int g'.gl
      have n0 : ν' 0 = 0 := g'.ag 0 (Nat.le_of_ble_eq_true rfl)
      have n1 : ν' 1 = a1.toInt := g'.ag 1 (Nat.le_of_ble_eq_true rfl)
      have n2 : ν' 2 = (μ.2.2.1 1 1).toInt := g'.ag 2 (Nat.le_of_ble_eq_true rfl)
      have sz0 : (μ'.2.2.1 1 1).toInt = (μ.2.2.1 1 1).toInt := by rw [(g'.fr 1 nc_X11_drawnBy_1).1]
      have sz1 : (μ'.2.2.1 210 0).toInt = (μ.2.2.1 210 0).toInt := by rw [(g'.fr 210 nc_X11_drawnBy_210).1]
      have sz2 : (μ'.2.2.1 307 0).toInt = (μ.2.2.1 307 0).toInt := by rw [(g'.fr 307 nc_X11_drawnBy_307).1]
      have sz3 : (μ'.2.2.1 404 2).toInt = (μ.2.2.1 404 2).toInt := by rw [(g'.fr 404 nc_X11_drawnBy_404).1]
      have sz4 : (μ'.2.2.1 433 0).toInt = (μ.2.2.1 433 0).toInt := by rw [(g'.fr 433 nc_X11_drawnBy_433).1]
      have sz5 : (μ'.2.2.1 433 1).toInt = (μ.2.2.1 433 1).toInt := by rw [(g'.fr 433 nc_X11_drawnBy_433).1]
      have hw' : w.toInt = ν' 3 + 0 := hw
      have i1 : (0 : Int) ≤ ν' 1 ∧ ν' 1 ≤ 2 := g'.iv 1 (Nat.le_of_ble_eq_true rfl)
      exact hK _ w μ' ⟨⟨g'.sh, g'.hi, keepf (md := []) kn_X11_drawnBy_0 g'.fr hI.2.2.1, keepf (md := []) kn_X11_drawnBy_6 g'.fr hI.2.2.2.1, keepf (md := []) kn_X11_drawnBy_2 g'.fr hI.2.2.2.2.1, keepf (md := []) kn_X11_drawnBy_3 g'.fr hI.2.2.2.2.2⟩, rfl, by omega, ⟨sz3, sz4, sz5⟩, g'.fr⟩
    exact absurd hP List.not_mem_nil
abbrev ck_X11_driest (a1 a2 : Int32) (μ : dw_S) (r : Option Value) (w : Int32) (μ' : dw_S) : Prop := (INV μ') ∧ (r = some (.int w)) ∧ ((μ'.2.2.1 1 1).toInt = (μ.2.2.1 1 1).toInt ∧ (μ'.2.2.1 210 0).toInt = (μ.2.2.1 210 0).toInt ∧ (μ'.2.2.1 307 0).toInt = (μ.2.2.1 307 0).toInt) ∧ ((μ'.2.2.1 404 2).toInt = (μ.2.2.1 404 2).toInt ∧ (μ'.2.2.1 433 0).toInt = (μ.2.2.1 433 0).toInt ∧ (μ'.2.2.1 433 1).toInt = (μ.2.2.1 433 1).toInt) ∧ (∀ a, a ∉ [164, 165, 167, 168, 169, 170, 171, 172, 173, 174, 175, 176, 177, 178] → μ'.2.2.1 a = μ.2.2.1 a ∧ μ'.2.2.2 a = μ.2.2.2 a)
theorem kn_X11_driest_0 : (fl_s 0).all (fun q => decide (q.1 ∉ ([164, 165, 167, 168, 169, 170, 171, 172, 173, 174, 175, 176, 177, 178] : List Nat))) = true := by decide
theorem kn_X11_driest_6 : (fl_s 6).all (fun q => decide (q.1 ∉ ([164, 165, 167, 168, 169, 170, 171, 172, 173, 174, 175, 176, 177, 178] : List Nat))) = true := by decide
theorem kn_X11_driest_2 : (fl_s 2).all (fun q => decide (q.1 ∉ ([164, 165, 167, 168, 169, 170, 171, 172, 173, 174, 175, 176, 177, 178] : List Nat))) = true := by decide
theorem kn_X11_driest_3 : (fl_s 3).all (fun q => decide (q.1 ∉ ([164, 165, 167, 168, 169, 170, 171, 172, 173, 174, 175, 176, 177, 178] : List Nat))) = true := by decide
theorem nc_X11_driest_1 : 1 ∉ ([164, 165, 167, 168, 169, 170, 171, 172, 173, 174, 175, 176, 177, 178] : List Nat) := by decide
theorem nc_X11_driest_210 : 210 ∉ ([164, 165, 167, 168, 169, 170, 171, 172, 173, 174, 175, 176, 177, 178] : List Nat) := by decide
theorem nc_X11_driest_307 : 307 ∉ ([164, 165, 167, 168, 169, 170, 171, 172, 173, 174, 175, 176, 177, 178] : List Nat) := by decide
theorem nc_X11_driest_404 : 404 ∉ ([164, 165, 167, 168, 169, 170, 171, 172, 173, 174, 175, 176, 177, 178] : List Nat) := by decide
theorem nc_X11_driest_433 : 433 ∉ ([164, 165, 167, 168, 169, 170, 171, 172, 173, 174, 175, 176, 177, 178] : List Nat) := by decide
theorem cl_X11_driest {μ : dw_S} {K : dw_K} {a1 a2 : Int32} (hI : INV μ) (hK : ∀ (r : Option Value) (w : Int32) (μ' : dw_S), ck_X11_driest a1 a2 μ r w μ' → K r μ') : t_X11_driest [.ref 0, .int a1, .int a2] μ K := by
  have h_1_1 := hI.2.1 1 1
  rw [sgc_0] at h_1_1
  refine al_364 97 (by decide) (fun s => [(0 : Int), (a1.toInt : Int), (a2.toInt : Int), ((μ.2.2.1 1 1).toInt : Int)].getD s (0 : Int)) [.ref 0, .int a1, .int a2] μ K ⟨hI.1, hI.2.1, fun _ _ => ⟨rfl, rfl⟩, rfl, Nat.le_refl _, Nat.le_of_ble_eq_true rfl, fun _ _ => rfl, ?_, fun q hq => absurd hq List.not_mem_nil, ?_, trivial, ?_, ?_⟩ ?_
  · exact iv2_ok (iv := (in_97).pre.iv) (vs := [(0 : Int), (a1.toInt : Int), (a2.toInt : Int), ((μ.2.2.1 1 1).toInt : Int)]) ⟨⟨Int.le_refl 0, Int.le_refl 0⟩, ⟨dx_b1 _, dx_b2 _⟩, ⟨dx_b1 _, dx_b2 _⟩, h_1_1, trivial⟩
  · exact ⟨⟨0, List.Mem.head _, rfl⟩, ⟨Nat.le_of_ble_eq_true rfl, a1, rfl, (Int.add_zero _).symm⟩, ⟨Nat.le_of_ble_eq_true rfl, a2, rfl, (Int.add_zero _).symm⟩, trivial⟩
  · exact dx_aL.all (l := (in_97).pre.fa) ⟨⟨Nat.le_of_ble_eq_true rfl, (Int.add_zero _).symm⟩, trivial⟩
  · exact dx_aL.all (l := (in_97).pre.fl) trivial
  · intro r μ' ν' P hP g'
    rcases List.mem_cons.mp hP with rfl | hP
    · obtain ⟨w, rfl, hw⟩ := r_int g'.gl
      have n0 : ν' 0 = 0 := g'.ag 0 (Nat.le_of_ble_eq_true rfl)
      have n1 : ν' 1 = a1.toInt := g'.ag 1 (Nat.le_of_ble_eq_true rfl)
      have n2 : ν' 2 = a2.toInt := g'.ag 2 (Nat.le_of_ble_eq_true rfl)
      have n3 : ν' 3 = (μ.2.2.1 1 1).toInt := g'.ag 3 (Nat.le_of_ble_eq_true rfl)
      have sz0 : (μ'.2.2.1 1 1).toInt = (μ.2.2.1 1 1).toInt := by rw [(g'.fr 1 nc_X11_driest_1).1]
      have sz1 : (μ'.2.2.1 210 0).toInt = (μ.2.2.1 210 0).toInt := by rw [(g'.fr 210 nc_X11_driest_210).1]
      have sz2 : (μ'.2.2.1 307 0).toInt = (μ.2.2.1 307 0).toInt := by rw [(g'.fr 307 nc_X11_driest_307).1]
      have sz3 : (μ'.2.2.1 404 2).toInt = (μ.2.2.1 404 2).toInt := by rw [(g'.fr 404 nc_X11_driest_404).1]
      have sz4 : (μ'.2.2.1 433 0).toInt = (μ.2.2.1 433 0).toInt := by rw [(g'.fr 433 nc_X11_driest_433).1]
      have sz5 : (μ'.2.2.1 433 1).toInt = (μ.2.2.1 433 1).toInt := by rw [(g'.fr 433 nc_X11_driest_433).1]
      have hw' : w.toInt = ν' 0 + (-1) := hw
      exact hK _ w μ' ⟨⟨g'.sh, g'.hi, keepf (md := [164, 165, 167, 168, 169, 170, 171, 172, 173, 174, 175, 176, 177, 178]) kn_X11_driest_0 g'.fr hI.2.2.1, keepf (md := [164, 165, 167, 168, 169, 170, 171, 172, 173, 174, 175, 176, 177, 178]) kn_X11_driest_6 g'.fr hI.2.2.2.1, keepf (md := [164, 165, 167, 168, 169, 170, 171, 172, 173, 174, 175, 176, 177, 178]) kn_X11_driest_2 g'.fr hI.2.2.2.2.1, keepf (md := [164, 165, 167, 168, 169, 170, 171, 172, 173, 174, 175, 176, 177, 178]) kn_X11_driest_3 g'.fr hI.2.2.2.2.2⟩, rfl, by omega, ⟨sz3, sz4, sz5⟩, g'.fr⟩
    rcases List.mem_cons.mp hP with rfl | hP
    · obtain ⟨w, rfl, hw⟩ := r_int g'.gl
      have n0 : ν' 0 = 0 := g'.ag 0 (Nat.le_of_ble_eq_true rfl)
      have n1 : ν' 1 = a1.toInt := g'.ag 1 (Nat.le_of_ble_eq_true rfl)
      have n2 : ν' 2 = a2.toInt := g'.ag 2 (Nat.le_of_ble_eq_true rfl)
      have n3 : ν' 3 = (μ.2.2.1 1 1).toInt := g'.ag 3 (Nat.le_of_ble_eq_true rfl)
      have sz0 : (μ'.2.2.1 1 1).toInt = (μ.2.2.1 1 1).toInt := by rw [(g'.fr 1 nc_X11_driest_1).1]
      have sz1 : (μ'.2.2.1 210 0).toInt = (μ.2.2.1 210 0).toInt := by rw [(g'.fr 210 nc_X11_driest_210).1]
      have sz2 : (μ'.2.2.1 307 0).toInt = (μ.2.2.1 307 0).toInt := by rw [(g'.fr 307 nc_X11_driest_307).1]
      have sz3 : (μ'.2.2.1 404 2).toInt = (μ.2.2.1 404 2).toInt := by rw [(g'.fr 404 nc_X11_driest_404).1]
      have sz4 : (μ'.2.2.1 433 0).toInt = (μ.2.2.1 433 0).toInt := by rw [(g'.fr 433 nc_X11_driest_433).1]
      have sz5 : (μ'.2.2.1 433 1).toInt = (μ.2.2.1 433 1).toInt := by rw [(g'.fr 433 nc_X11_driest_433).1]
      have hw' : w.toInt = ν' 4 + 0 := hw
      have i1 : (0 : Int) ≤ ν' 1 ∧ ν' 1 ≤ 5 := g'.iv 1 (Nat.le_of_ble_eq_true rfl)
      have i2 : (1 : Int) ≤ ν' 2 ∧ ν' 2 ≤ 12 := g'.iv 2 (Nat.le_of_ble_eq_true rfl)
      exact hK _ w μ' ⟨⟨g'.sh, g'.hi, keepf (md := [164, 165, 167, 168, 169, 170, 171, 172, 173, 174, 175, 176, 177, 178]) kn_X11_driest_0 g'.fr hI.2.2.1, keepf (md := [164, 165, 167, 168, 169, 170, 171, 172, 173, 174, 175, 176, 177, 178]) kn_X11_driest_6 g'.fr hI.2.2.2.1, keepf (md := [164, 165, 167, 168, 169, 170, 171, 172, 173, 174, 175, 176, 177, 178]) kn_X11_driest_2 g'.fr hI.2.2.2.2.1, keepf (md := [164, 165, 167, 168, 169, 170, 171, 172, 173, 174, 175, 176, 177, 178]) kn_X11_driest_3 g'.fr hI.2.2.2.2.2⟩, rfl, by omega, ⟨sz3, sz4, sz5⟩, g'.fr⟩
    exact absurd hP List.not_mem_nil
abbrev ck_X11_end (a1 : Int32) (μ : dw_S) (r : Option Value) (w : Int32) (μ' : dw_S) : Prop := (INV μ') ∧ (r = some (.int w)) ∧ ((((μ.2.2.1 1 1).toInt < a1.toInt ∧ w.toInt = 0 ∧ (μ'.2.2.1 1 1).toInt = (μ.2.2.1 1 1).toInt) ∨ (0 ≤ a1.toInt ∧ a1.toInt ≤ (μ.2.2.1 1 1).toInt ∧ w.toInt = 1 ∧ (μ'.2.2.1 1 1).toInt = a1.toInt) ∨ (a1.toInt < 0 ∧ w.toInt = 0 ∧ (μ'.2.2.1 1 1).toInt = (μ.2.2.1 1 1).toInt)) ∧ (μ'.2.2.1 210 0).toInt = (μ.2.2.1 210 0).toInt ∧ (μ'.2.2.1 307 0).toInt = (μ.2.2.1 307 0).toInt) ∧ ((μ'.2.2.1 404 2).toInt = (μ.2.2.1 404 2).toInt ∧ (μ'.2.2.1 433 0).toInt = (μ.2.2.1 433 0).toInt ∧ (μ'.2.2.1 433 1).toInt = (μ.2.2.1 433 1).toInt) ∧ (∀ a, a ∉ [1] → μ'.2.2.1 a = μ.2.2.1 a ∧ μ'.2.2.2 a = μ.2.2.2 a)
theorem kn_X11_end_0 : (fl_s 0).all (fun q => decide (q.1 ∉ ([1] : List Nat))) = true := by decide
theorem kn_X11_end_6 : (fl_s 6).all (fun q => decide (q.1 ∉ ([1] : List Nat))) = true := by decide
theorem kn_X11_end_2 : (fl_s 2).all (fun q => decide (q.1 ∉ ([1] : List Nat))) = true := by decide
theorem kn_X11_end_3 : (fl_s 3).all (fun q => decide (q.1 ∉ ([1] : List Nat))) = true := by decide
theorem nc_X11_end_210 : 210 ∉ ([1] : List Nat) := by decide
theorem nc_X11_end_307 : 307 ∉ ([1] : List Nat) := by decide
theorem nc_X11_end_404 : 404 ∉ ([1] : List Nat) := by decide
theorem nc_X11_end_433 : 433 ∉ ([1] : List Nat) := by decide
theorem cl_X11_end {μ : dw_S} {K : dw_K} {a1 : Int32} (hI : INV μ) (hK : ∀ (r : Option Value) (w : Int32) (μ' : dw_S), ck_X11_end a1 μ r w μ' → K r μ') : t_X11_end [.ref 0, .int a1] μ K := by
  have h_1_1 := hI.2.1 1 1
  rw [sgc_0] at h_1_1
  refine al_364 98 (by decide) (fun s => [(0 : Int), (a1.toInt : Int), ((μ.2.2.1 1 1).toInt : Int)].getD s (0 : Int)) [.ref 0, .int a1] μ K ⟨hI.1, hI.2.1, fun _ _ => ⟨rfl, rfl⟩, rfl, Nat.le_refl _, Nat.le_of_ble_eq_true rfl, fun _ _ => rfl, ?_, fun q hq => absurd hq List.not_mem_nil, ?_, trivial, ?_, ?_⟩ ?_
  · exact iv2_ok (iv := (in_98).pre.iv) (vs := [(0 : Int), (a1.toInt : Int), ((μ.2.2.1 1 1).toInt : Int)]) ⟨⟨Int.le_refl 0, Int.le_refl 0⟩, ⟨dx_b1 _, dx_b2 _⟩, h_1_1, trivial⟩
  · exact ⟨⟨0, List.Mem.head _, rfl⟩, ⟨Nat.le_of_ble_eq_true rfl, a1, rfl, (Int.add_zero _).symm⟩, trivial⟩
  · exact dx_aL.all (l := (in_98).pre.fa) ⟨⟨Nat.le_of_ble_eq_true rfl, (Int.add_zero _).symm⟩, trivial⟩
  · exact dx_aL.all (l := (in_98).pre.fl) trivial
  · intro r μ' ν' P hP g'
    rcases List.mem_cons.mp hP with rfl | hP
    · obtain ⟨w, rfl, hw⟩ := r_int g'.gl
      have n0 : ν' 0 = 0 := g'.ag 0 (Nat.le_of_ble_eq_true rfl)
      have n1 : ν' 1 = a1.toInt := g'.ag 1 (Nat.le_of_ble_eq_true rfl)
      have n2 : ν' 2 = (μ.2.2.1 1 1).toInt := g'.ag 2 (Nat.le_of_ble_eq_true rfl)
      have sz0 : (μ'.2.2.1 1 1).toInt = ν' 2 + 0 := (g'.fa _ (List.Mem.head _)).2
      have sz1 : (μ'.2.2.1 210 0).toInt = (μ.2.2.1 210 0).toInt := by rw [(g'.fr 210 nc_X11_end_210).1]
      have sz2 : (μ'.2.2.1 307 0).toInt = (μ.2.2.1 307 0).toInt := by rw [(g'.fr 307 nc_X11_end_307).1]
      have sz3 : (μ'.2.2.1 404 2).toInt = (μ.2.2.1 404 2).toInt := by rw [(g'.fr 404 nc_X11_end_404).1]
      have sz4 : (μ'.2.2.1 433 0).toInt = (μ.2.2.1 433 0).toInt := by rw [(g'.fr 433 nc_X11_end_433).1]
      have sz5 : (μ'.2.2.1 433 1).toInt = (μ.2.2.1 433 1).toInt := by rw [(g'.fr 433 nc_X11_end_433).1]
      have hw' : w.toInt = ν' 0 + 0 := hw
      have i1 : (1 : Int) ≤ ν' 1 ∧ ν' 1 ≤ 2147483647 := g'.iv 1 (Nat.le_of_ble_eq_true rfl)
      have i2 : (0 : Int) ≤ ν' 2 ∧ ν' 2 ≤ 940 := g'.iv 2 (Nat.le_of_ble_eq_true rfl)
      have d0 : ν' 2 - ν' 1 ≤ (-1) := (g'.dc _ (List.Mem.head _)).2.2
      exact hK _ w μ' ⟨⟨g'.sh, g'.hi, keepf (md := [1]) kn_X11_end_0 g'.fr hI.2.2.1, keepf (md := [1]) kn_X11_end_6 g'.fr hI.2.2.2.1, keepf (md := [1]) kn_X11_end_2 g'.fr hI.2.2.2.2.1, keepf (md := [1]) kn_X11_end_3 g'.fr hI.2.2.2.2.2⟩, rfl, by omega, ⟨sz3, sz4, sz5⟩, g'.fr⟩
    rcases List.mem_cons.mp hP with rfl | hP
    · obtain ⟨w, rfl, hw⟩ := r_int g'.gl
      have n0 : ν' 0 = 0 := g'.ag 0 (Nat.le_of_ble_eq_true rfl)
      have n1 : ν' 1 = a1.toInt := g'.ag 1 (Nat.le_of_ble_eq_true rfl)
      have n2 : ν' 2 = (μ.2.2.1 1 1).toInt := g'.ag 2 (Nat.le_of_ble_eq_true rfl)
      have sz0 : (μ'.2.2.1 1 1).toInt = ν' 1 + 0 := (g'.fa _ (List.Mem.head _)).2
      have sz1 : (μ'.2.2.1 210 0).toInt = (μ.2.2.1 210 0).toInt := by rw [(g'.fr 210 nc_X11_end_210).1]
      have sz2 : (μ'.2.2.1 307 0).toInt = (μ.2.2.1 307 0).toInt := by rw [(g'.fr 307 nc_X11_end_307).1]
      have sz3 : (μ'.2.2.1 404 2).toInt = (μ.2.2.1 404 2).toInt := by rw [(g'.fr 404 nc_X11_end_404).1]
      have sz4 : (μ'.2.2.1 433 0).toInt = (μ.2.2.1 433 0).toInt := by rw [(g'.fr 433 nc_X11_end_433).1]
      have sz5 : (μ'.2.2.1 433 1).toInt = (μ.2.2.1 433 1).toInt := by rw [(g'.fr 433 nc_X11_end_433).1]
      have hw' : w.toInt = ν' 0 + 1 := hw
      have i1 : (0 : Int) ≤ ν' 1 ∧ ν' 1 ≤ 940 := g'.iv 1 (Nat.le_of_ble_eq_true rfl)
      have i2 : (0 : Int) ≤ ν' 2 ∧ ν' 2 ≤ 940 := g'.iv 2 (Nat.le_of_ble_eq_true rfl)
      have d0 : ν' 1 - ν' 2 ≤ 0 := (g'.dc _ (List.Mem.head _)).2.2
      exact hK _ w μ' ⟨⟨g'.sh, g'.hi, keepf (md := [1]) kn_X11_end_0 g'.fr hI.2.2.1, keepf (md := [1]) kn_X11_end_6 g'.fr hI.2.2.2.1, keepf (md := [1]) kn_X11_end_2 g'.fr hI.2.2.2.2.1, keepf (md := [1]) kn_X11_end_3 g'.fr hI.2.2.2.2.2⟩, rfl, by omega, ⟨sz3, sz4, sz5⟩, g'.fr⟩
    rcases List.mem_cons.mp hP with rfl | hP
    · obtain ⟨w, rfl, hw⟩ := r_int g'.gl
      have n0 : ν' 0 = 0 := g'.ag 0 (Nat.le_of_ble_eq_true rfl)
      have n1 : ν' 1 = a1.toInt := g'.ag 1 (Nat.le_of_ble_eq_true rfl)
      have n2 : ν' 2 = (μ.2.2.1 1 1).toInt := g'.ag 2 (Nat.le_of_ble_eq_true rfl)
      have sz0 : (μ'.2.2.1 1 1).toInt = ν' 2 + 0 := (g'.fa _ (List.Mem.head _)).2
      have sz1 : (μ'.2.2.1 210 0).toInt = (μ.2.2.1 210 0).toInt := by rw [(g'.fr 210 nc_X11_end_210).1]
      have sz2 : (μ'.2.2.1 307 0).toInt = (μ.2.2.1 307 0).toInt := by rw [(g'.fr 307 nc_X11_end_307).1]
      have sz3 : (μ'.2.2.1 404 2).toInt = (μ.2.2.1 404 2).toInt := by rw [(g'.fr 404 nc_X11_end_404).1]
      have sz4 : (μ'.2.2.1 433 0).toInt = (μ.2.2.1 433 0).toInt := by rw [(g'.fr 433 nc_X11_end_433).1]
      have sz5 : (μ'.2.2.1 433 1).toInt = (μ.2.2.1 433 1).toInt := by rw [(g'.fr 433 nc_X11_end_433).1]
      have hw' : w.toInt = ν' 0 + 0 := hw
      have i1 : (-2147483648 : Int) ≤ ν' 1 ∧ ν' 1 ≤ -1 := g'.iv 1 (Nat.le_of_ble_eq_true rfl)
      have i2 : (0 : Int) ≤ ν' 2 ∧ ν' 2 ≤ 940 := g'.iv 2 (Nat.le_of_ble_eq_true rfl)
      exact hK _ w μ' ⟨⟨g'.sh, g'.hi, keepf (md := [1]) kn_X11_end_0 g'.fr hI.2.2.1, keepf (md := [1]) kn_X11_end_6 g'.fr hI.2.2.2.1, keepf (md := [1]) kn_X11_end_2 g'.fr hI.2.2.2.2.1, keepf (md := [1]) kn_X11_end_3 g'.fr hI.2.2.2.2.2⟩, rfl, by omega, ⟨sz3, sz4, sz5⟩, g'.fr⟩
    exact absurd hP List.not_mem_nil
abbrev ck_X11_fault (μ : dw_S) (r : Option Value) (w : Int32) (μ' : dw_S) : Prop := (INV μ') ∧ (r = some (.int w)) ∧ ((μ'.2.2.1 1 1).toInt = (μ.2.2.1 1 1).toInt ∧ (μ'.2.2.1 210 0).toInt = (μ.2.2.1 210 0).toInt ∧ (μ'.2.2.1 307 0).toInt = (μ.2.2.1 307 0).toInt) ∧ ((μ'.2.2.1 404 2).toInt = (μ.2.2.1 404 2).toInt ∧ (μ'.2.2.1 433 0).toInt = (μ.2.2.1 433 0).toInt ∧ (μ'.2.2.1 433 1).toInt = (μ.2.2.1 433 1).toInt) ∧ (∀ a, a ∉ [] → μ'.2.2.1 a = μ.2.2.1 a ∧ μ'.2.2.2 a = μ.2.2.2 a)
theorem kn_X11_fault_0 : (fl_s 0).all (fun q => decide (q.1 ∉ ([] : List Nat))) = true := by decide
theorem kn_X11_fault_6 : (fl_s 6).all (fun q => decide (q.1 ∉ ([] : List Nat))) = true := by decide
theorem kn_X11_fault_2 : (fl_s 2).all (fun q => decide (q.1 ∉ ([] : List Nat))) = true := by decide
theorem kn_X11_fault_3 : (fl_s 3).all (fun q => decide (q.1 ∉ ([] : List Nat))) = true := by decide
theorem nc_X11_fault_1 : 1 ∉ ([] : List Nat) := by decide
theorem nc_X11_fault_210 : 210 ∉ ([] : List Nat) := by decide
theorem nc_X11_fault_307 : 307 ∉ ([] : List Nat) := by decide
theorem nc_X11_fault_404 : 404 ∉ ([] : List Nat) := by decide
theorem nc_X11_fault_433 : 433 ∉ ([] : List Nat) := by decide
theorem cl_X11_fault {μ : dw_S} {K : dw_K} (hI : INV μ) (hK : ∀ (r : Option Value) (w : Int32) (μ' : dw_S), ck_X11_fault μ r w μ' → K r μ') : t_X11_fault [.ref 0] μ K := by
  have h_1_1 := hI.2.1 1 1
  rw [sgc_0] at h_1_1
  refine al_364 99 (by decide) (fun s => [(0 : Int), ((μ.2.2.1 1 1).toInt : Int)].getD s (0 : Int)) [.ref 0] μ K ⟨hI.1, hI.2.1, fun _ _ => ⟨rfl, rfl⟩, rfl, Nat.le_refl _, Nat.le_of_ble_eq_true rfl, fun _ _ => rfl, ?_, fun q hq => absurd hq List.not_mem_nil, ?_, trivial, ?_, ?_⟩ ?_
  · exact iv2_ok (iv := (in_99).pre.iv) (vs := [(0 : Int), ((μ.2.2.1 1 1).toInt : Int)]) ⟨⟨Int.le_refl 0, Int.le_refl 0⟩, h_1_1, trivial⟩
  · exact ⟨⟨0, List.Mem.head _, rfl⟩, trivial⟩
  · exact dx_aL.all (l := (in_99).pre.fa) ⟨⟨Nat.le_of_ble_eq_true rfl, (Int.add_zero _).symm⟩, trivial⟩
  · exact dx_aL.all (l := (in_99).pre.fl) trivial
  · intro r μ' ν' P hP g'
    rcases List.mem_cons.mp hP with rfl | hP
    · obtain ⟨w, rfl, hw⟩ := r_int g'.gl
      have n0 : ν' 0 = 0 := g'.ag 0 (Nat.le_of_ble_eq_true rfl)
      have n1 : ν' 1 = (μ.2.2.1 1 1).toInt := g'.ag 1 (Nat.le_of_ble_eq_true rfl)
      have sz0 : (μ'.2.2.1 1 1).toInt = (μ.2.2.1 1 1).toInt := by rw [(g'.fr 1 nc_X11_fault_1).1]
      have sz1 : (μ'.2.2.1 210 0).toInt = (μ.2.2.1 210 0).toInt := by rw [(g'.fr 210 nc_X11_fault_210).1]
      have sz2 : (μ'.2.2.1 307 0).toInt = (μ.2.2.1 307 0).toInt := by rw [(g'.fr 307 nc_X11_fault_307).1]
      have sz3 : (μ'.2.2.1 404 2).toInt = (μ.2.2.1 404 2).toInt := by rw [(g'.fr 404 nc_X11_fault_404).1]
      have sz4 : (μ'.2.2.1 433 0).toInt = (μ.2.2.1 433 0).toInt := by rw [(g'.fr 433 nc_X11_fault_433).1]
      have sz5 : (μ'.2.2.1 433 1).toInt = (μ.2.2.1 433 1).toInt := by rw [(g'.fr 433 nc_X11_fault_433).1]
      have hw' : w.toInt = ν' 2 + 0 := hw
      exact hK _ w μ' ⟨⟨g'.sh, g'.hi, keepf (md := []) kn_X11_fault_0 g'.fr hI.2.2.1, keepf (md := []) kn_X11_fault_6 g'.fr hI.2.2.2.1, keepf (md := []) kn_X11_fault_2 g'.fr hI.2.2.2.2.1, keepf (md := []) kn_X11_fault_3 g'.fr hI.2.2.2.2.2⟩, rfl, by omega, ⟨sz3, sz4, sz5⟩, g'.fr⟩
    exact absurd hP List.not_mem_nil
abbrev ck_X11_feed (a1 a2 a3 a4 a5 : Int32) (μ : dw_S) (r : Option Value) (w : Int32) (μ' : dw_S) : Prop := (INV μ') ∧ (r = some (.int w)) ∧ (((921 ≤ (μ.2.2.1 1 1).toInt ∧ w.toInt = -1 ∧ (μ'.2.2.1 1 1).toInt = (μ.2.2.1 1 1).toInt) ∨ ((μ.2.2.1 1 1).toInt ≤ 920 ∧ w.toInt = (μ.2.2.1 1 1).toInt + 20 ∧ (μ'.2.2.1 1 1).toInt = (μ.2.2.1 1 1).toInt + 20)) ∧ (μ'.2.2.1 210 0).toInt = (μ.2.2.1 210 0).toInt ∧ (μ'.2.2.1 307 0).toInt = (μ.2.2.1 307 0).toInt) ∧ ((μ'.2.2.1 404 2).toInt = (μ.2.2.1 404 2).toInt ∧ (μ'.2.2.1 433 0).toInt = (μ.2.2.1 433 0).toInt ∧ (μ'.2.2.1 433 1).toInt = (μ.2.2.1 433 1).toInt) ∧ (∀ a, a ∉ [1, 2] → μ'.2.2.1 a = μ.2.2.1 a ∧ μ'.2.2.2 a = μ.2.2.2 a)
theorem kn_X11_feed_0 : (fl_s 0).all (fun q => decide (q.1 ∉ ([1, 2] : List Nat))) = true := by decide
theorem kn_X11_feed_6 : (fl_s 6).all (fun q => decide (q.1 ∉ ([1, 2] : List Nat))) = true := by decide
theorem kn_X11_feed_2 : (fl_s 2).all (fun q => decide (q.1 ∉ ([1, 2] : List Nat))) = true := by decide
theorem kn_X11_feed_3 : (fl_s 3).all (fun q => decide (q.1 ∉ ([1, 2] : List Nat))) = true := by decide
theorem nc_X11_feed_210 : 210 ∉ ([1, 2] : List Nat) := by decide
theorem nc_X11_feed_307 : 307 ∉ ([1, 2] : List Nat) := by decide
theorem nc_X11_feed_404 : 404 ∉ ([1, 2] : List Nat) := by decide
theorem nc_X11_feed_433 : 433 ∉ ([1, 2] : List Nat) := by decide
theorem cl_X11_feed {μ : dw_S} {K : dw_K} {a1 a2 a3 a4 a5 : Int32} (hI : INV μ) (hK : ∀ (r : Option Value) (w : Int32) (μ' : dw_S), ck_X11_feed a1 a2 a3 a4 a5 μ r w μ' → K r μ') : t_X11_feed [.ref 0, .int a1, .int a2, .int a3, .int a4, .int a5] μ K := by
  have h_1_1 := hI.2.1 1 1
  rw [sgc_0] at h_1_1
  refine al_364 105 (by decide) (fun s => [(0 : Int), (a1.toInt : Int), (a2.toInt : Int), (a3.toInt : Int), (a4.toInt : Int), (a5.toInt : Int), ((μ.2.2.1 1 1).toInt : Int)].getD s (0 : Int)) [.ref 0, .int a1, .int a2, .int a3, .int a4, .int a5] μ K ⟨hI.1, hI.2.1, fun _ _ => ⟨rfl, rfl⟩, rfl, Nat.le_refl _, Nat.le_of_ble_eq_true rfl, fun _ _ => rfl, ?_, fun q hq => absurd hq List.not_mem_nil, ?_, trivial, ?_, ?_⟩ ?_
  · exact iv2_ok (iv := (in_105).pre.iv) (vs := [(0 : Int), (a1.toInt : Int), (a2.toInt : Int), (a3.toInt : Int), (a4.toInt : Int), (a5.toInt : Int), ((μ.2.2.1 1 1).toInt : Int)]) ⟨⟨Int.le_refl 0, Int.le_refl 0⟩, ⟨dx_b1 _, dx_b2 _⟩, ⟨dx_b1 _, dx_b2 _⟩, ⟨dx_b1 _, dx_b2 _⟩, ⟨dx_b1 _, dx_b2 _⟩, ⟨dx_b1 _, dx_b2 _⟩, h_1_1, trivial⟩
  · exact ⟨⟨0, List.Mem.head _, rfl⟩, ⟨Nat.le_of_ble_eq_true rfl, a1, rfl, (Int.add_zero _).symm⟩, ⟨Nat.le_of_ble_eq_true rfl, a2, rfl, (Int.add_zero _).symm⟩, ⟨Nat.le_of_ble_eq_true rfl, a3, rfl, (Int.add_zero _).symm⟩, ⟨Nat.le_of_ble_eq_true rfl, a4, rfl, (Int.add_zero _).symm⟩, ⟨Nat.le_of_ble_eq_true rfl, a5, rfl, (Int.add_zero _).symm⟩, trivial⟩
  · exact dx_aL.all (l := (in_105).pre.fa) ⟨⟨Nat.le_of_ble_eq_true rfl, (Int.add_zero _).symm⟩, trivial⟩
  · exact dx_aL.all (l := (in_105).pre.fl) trivial
  · intro r μ' ν' P hP g'
    rcases List.mem_cons.mp hP with rfl | hP
    · obtain ⟨w, rfl, hw⟩ := r_int g'.gl
      have n0 : ν' 0 = 0 := g'.ag 0 (Nat.le_of_ble_eq_true rfl)
      have n1 : ν' 1 = a1.toInt := g'.ag 1 (Nat.le_of_ble_eq_true rfl)
      have n2 : ν' 2 = a2.toInt := g'.ag 2 (Nat.le_of_ble_eq_true rfl)
      have n3 : ν' 3 = a3.toInt := g'.ag 3 (Nat.le_of_ble_eq_true rfl)
      have n4 : ν' 4 = a4.toInt := g'.ag 4 (Nat.le_of_ble_eq_true rfl)
      have n5 : ν' 5 = a5.toInt := g'.ag 5 (Nat.le_of_ble_eq_true rfl)
      have n6 : ν' 6 = (μ.2.2.1 1 1).toInt := g'.ag 6 (Nat.le_of_ble_eq_true rfl)
      have sz0 : (μ'.2.2.1 1 1).toInt = ν' 6 + 0 := (g'.fa _ (List.Mem.head _)).2
      have sz1 : (μ'.2.2.1 210 0).toInt = (μ.2.2.1 210 0).toInt := by rw [(g'.fr 210 nc_X11_feed_210).1]
      have sz2 : (μ'.2.2.1 307 0).toInt = (μ.2.2.1 307 0).toInt := by rw [(g'.fr 307 nc_X11_feed_307).1]
      have sz3 : (μ'.2.2.1 404 2).toInt = (μ.2.2.1 404 2).toInt := by rw [(g'.fr 404 nc_X11_feed_404).1]
      have sz4 : (μ'.2.2.1 433 0).toInt = (μ.2.2.1 433 0).toInt := by rw [(g'.fr 433 nc_X11_feed_433).1]
      have sz5 : (μ'.2.2.1 433 1).toInt = (μ.2.2.1 433 1).toInt := by rw [(g'.fr 433 nc_X11_feed_433).1]
      have hw' : w.toInt = ν' 0 + (-1) := hw
      have i1 : (-2147483648 : Int) ≤ ν' 1 ∧ ν' 1 ≤ 2147483647 := g'.iv 1 (Nat.le_of_ble_eq_true rfl)
      have i2 : (-2147483648 : Int) ≤ ν' 2 ∧ ν' 2 ≤ 2147483647 := g'.iv 2 (Nat.le_of_ble_eq_true rfl)
      have i3 : (-2147483648 : Int) ≤ ν' 3 ∧ ν' 3 ≤ 2147483647 := g'.iv 3 (Nat.le_of_ble_eq_true rfl)
      have i4 : (-2147483648 : Int) ≤ ν' 4 ∧ ν' 4 ≤ 2147483647 := g'.iv 4 (Nat.le_of_ble_eq_true rfl)
      have i5 : (-2147483648 : Int) ≤ ν' 5 ∧ ν' 5 ≤ 2147483647 := g'.iv 5 (Nat.le_of_ble_eq_true rfl)
      have i6 : (921 : Int) ≤ ν' 6 ∧ ν' 6 ≤ 940 := g'.iv 6 (Nat.le_of_ble_eq_true rfl)
      exact hK _ w μ' ⟨⟨g'.sh, g'.hi, keepf (md := [1, 2]) kn_X11_feed_0 g'.fr hI.2.2.1, keepf (md := [1, 2]) kn_X11_feed_6 g'.fr hI.2.2.2.1, keepf (md := [1, 2]) kn_X11_feed_2 g'.fr hI.2.2.2.2.1, keepf (md := [1, 2]) kn_X11_feed_3 g'.fr hI.2.2.2.2.2⟩, rfl, by omega, ⟨sz3, sz4, sz5⟩, g'.fr⟩
    rcases List.mem_cons.mp hP with rfl | hP
    · obtain ⟨w, rfl, hw⟩ := r_int g'.gl
      have n0 : ν' 0 = 0 := g'.ag 0 (Nat.le_of_ble_eq_true rfl)
      have n1 : ν' 1 = a1.toInt := g'.ag 1 (Nat.le_of_ble_eq_true rfl)
      have n2 : ν' 2 = a2.toInt := g'.ag 2 (Nat.le_of_ble_eq_true rfl)
      have n3 : ν' 3 = a3.toInt := g'.ag 3 (Nat.le_of_ble_eq_true rfl)
      have n4 : ν' 4 = a4.toInt := g'.ag 4 (Nat.le_of_ble_eq_true rfl)
      have n5 : ν' 5 = a5.toInt := g'.ag 5 (Nat.le_of_ble_eq_true rfl)
      have n6 : ν' 6 = (μ.2.2.1 1 1).toInt := g'.ag 6 (Nat.le_of_ble_eq_true rfl)
      have sz0 : (μ'.2.2.1 1 1).toInt = ν' 6 + 20 := (g'.fa _ (List.Mem.head _)).2
      have sz1 : (μ'.2.2.1 210 0).toInt = (μ.2.2.1 210 0).toInt := by rw [(g'.fr 210 nc_X11_feed_210).1]
      have sz2 : (μ'.2.2.1 307 0).toInt = (μ.2.2.1 307 0).toInt := by rw [(g'.fr 307 nc_X11_feed_307).1]
      have sz3 : (μ'.2.2.1 404 2).toInt = (μ.2.2.1 404 2).toInt := by rw [(g'.fr 404 nc_X11_feed_404).1]
      have sz4 : (μ'.2.2.1 433 0).toInt = (μ.2.2.1 433 0).toInt := by rw [(g'.fr 433 nc_X11_feed_433).1]
      have sz5 : (μ'.2.2.1 433 1).toInt = (μ.2.2.1 433 1).toInt := by rw [(g'.fr 433 nc_X11_feed_433).1]
      have hw' : w.toInt = ν' 6 + 20 := hw
      have i1 : (-2147483648 : Int) ≤ ν' 1 ∧ ν' 1 ≤ 2147483647 := g'.iv 1 (Nat.le_of_ble_eq_true rfl)
      have i2 : (-2147483648 : Int) ≤ ν' 2 ∧ ν' 2 ≤ 2147483647 := g'.iv 2 (Nat.le_of_ble_eq_true rfl)
      have i3 : (-2147483648 : Int) ≤ ν' 3 ∧ ν' 3 ≤ 2147483647 := g'.iv 3 (Nat.le_of_ble_eq_true rfl)
      have i4 : (-2147483648 : Int) ≤ ν' 4 ∧ ν' 4 ≤ 2147483647 := g'.iv 4 (Nat.le_of_ble_eq_true rfl)
      have i5 : (-2147483648 : Int) ≤ ν' 5 ∧ ν' 5 ≤ 2147483647 := g'.iv 5 (Nat.le_of_ble_eq_true rfl)
      have i6 : (0 : Int) ≤ ν' 6 ∧ ν' 6 ≤ 920 := g'.iv 6 (Nat.le_of_ble_eq_true rfl)
      exact hK _ w μ' ⟨⟨g'.sh, g'.hi, keepf (md := [1, 2]) kn_X11_feed_0 g'.fr hI.2.2.1, keepf (md := [1, 2]) kn_X11_feed_6 g'.fr hI.2.2.2.1, keepf (md := [1, 2]) kn_X11_feed_2 g'.fr hI.2.2.2.2.1, keepf (md := [1, 2]) kn_X11_feed_3 g'.fr hI.2.2.2.2.2⟩, rfl, by omega, ⟨sz3, sz4, sz5⟩, g'.fr⟩
    exact absurd hP List.not_mem_nil
abbrev ck_X11_frost (a1 a2 a3 : Int32) (μ : dw_S) (r : Option Value) (w : Int32) (μ' : dw_S) : Prop := (INV μ') ∧ (r = some (.int w)) ∧ ((μ'.2.2.1 1 1).toInt = (μ.2.2.1 1 1).toInt ∧ (μ'.2.2.1 210 0).toInt = (μ.2.2.1 210 0).toInt ∧ (μ'.2.2.1 307 0).toInt = (μ.2.2.1 307 0).toInt) ∧ ((μ'.2.2.1 404 2).toInt = (μ.2.2.1 404 2).toInt ∧ (μ'.2.2.1 433 0).toInt = (μ.2.2.1 433 0).toInt ∧ (μ'.2.2.1 433 1).toInt = (μ.2.2.1 433 1).toInt) ∧ (∀ a, a ∉ [164, 165, 167, 168, 169, 170, 171, 172, 173, 174, 175, 176, 177, 178, 195, 196, 197, 198, 199, 200] → μ'.2.2.1 a = μ.2.2.1 a ∧ μ'.2.2.2 a = μ.2.2.2 a)
theorem kn_X11_frost_0 : (fl_s 0).all (fun q => decide (q.1 ∉ ([164, 165, 167, 168, 169, 170, 171, 172, 173, 174, 175, 176, 177, 178, 195, 196, 197, 198, 199, 200] : List Nat))) = true := by decide
theorem kn_X11_frost_6 : (fl_s 6).all (fun q => decide (q.1 ∉ ([164, 165, 167, 168, 169, 170, 171, 172, 173, 174, 175, 176, 177, 178, 195, 196, 197, 198, 199, 200] : List Nat))) = true := by decide
theorem kn_X11_frost_2 : (fl_s 2).all (fun q => decide (q.1 ∉ ([164, 165, 167, 168, 169, 170, 171, 172, 173, 174, 175, 176, 177, 178, 195, 196, 197, 198, 199, 200] : List Nat))) = true := by decide
theorem kn_X11_frost_3 : (fl_s 3).all (fun q => decide (q.1 ∉ ([164, 165, 167, 168, 169, 170, 171, 172, 173, 174, 175, 176, 177, 178, 195, 196, 197, 198, 199, 200] : List Nat))) = true := by decide
theorem nc_X11_frost_1 : 1 ∉ ([164, 165, 167, 168, 169, 170, 171, 172, 173, 174, 175, 176, 177, 178, 195, 196, 197, 198, 199, 200] : List Nat) := by decide
theorem nc_X11_frost_210 : 210 ∉ ([164, 165, 167, 168, 169, 170, 171, 172, 173, 174, 175, 176, 177, 178, 195, 196, 197, 198, 199, 200] : List Nat) := by decide
theorem nc_X11_frost_307 : 307 ∉ ([164, 165, 167, 168, 169, 170, 171, 172, 173, 174, 175, 176, 177, 178, 195, 196, 197, 198, 199, 200] : List Nat) := by decide
theorem nc_X11_frost_404 : 404 ∉ ([164, 165, 167, 168, 169, 170, 171, 172, 173, 174, 175, 176, 177, 178, 195, 196, 197, 198, 199, 200] : List Nat) := by decide
theorem nc_X11_frost_433 : 433 ∉ ([164, 165, 167, 168, 169, 170, 171, 172, 173, 174, 175, 176, 177, 178, 195, 196, 197, 198, 199, 200] : List Nat) := by decide
theorem cl_X11_frost {μ : dw_S} {K : dw_K} {a1 a2 a3 : Int32} (hI : INV μ) (hK : ∀ (r : Option Value) (w : Int32) (μ' : dw_S), ck_X11_frost a1 a2 a3 μ r w μ' → K r μ') : t_X11_frost [.ref 0, .int a1, .int a2, .int a3] μ K := by
  have h_1_1 := hI.2.1 1 1
  rw [sgc_0] at h_1_1
  refine al_364 107 (by decide) (fun s => [(0 : Int), (a1.toInt : Int), (a2.toInt : Int), (a3.toInt : Int), ((μ.2.2.1 1 1).toInt : Int)].getD s (0 : Int)) [.ref 0, .int a1, .int a2, .int a3] μ K ⟨hI.1, hI.2.1, fun _ _ => ⟨rfl, rfl⟩, rfl, Nat.le_refl _, Nat.le_of_ble_eq_true rfl, fun _ _ => rfl, ?_, fun q hq => absurd hq List.not_mem_nil, ?_, trivial, ?_, ?_⟩ ?_
  · exact iv2_ok (iv := (in_107).pre.iv) (vs := [(0 : Int), (a1.toInt : Int), (a2.toInt : Int), (a3.toInt : Int), ((μ.2.2.1 1 1).toInt : Int)]) ⟨⟨Int.le_refl 0, Int.le_refl 0⟩, ⟨dx_b1 _, dx_b2 _⟩, ⟨dx_b1 _, dx_b2 _⟩, ⟨dx_b1 _, dx_b2 _⟩, h_1_1, trivial⟩
  · exact ⟨⟨0, List.Mem.head _, rfl⟩, ⟨Nat.le_of_ble_eq_true rfl, a1, rfl, (Int.add_zero _).symm⟩, ⟨Nat.le_of_ble_eq_true rfl, a2, rfl, (Int.add_zero _).symm⟩, ⟨Nat.le_of_ble_eq_true rfl, a3, rfl, (Int.add_zero _).symm⟩, trivial⟩
  · exact dx_aL.all (l := (in_107).pre.fa) ⟨⟨Nat.le_of_ble_eq_true rfl, (Int.add_zero _).symm⟩, trivial⟩
  · exact dx_aL.all (l := (in_107).pre.fl) trivial
  · intro r μ' ν' P hP g'
    rcases List.mem_cons.mp hP with rfl | hP
    · obtain ⟨w, rfl, hw⟩ := r_int g'.gl
      have n0 : ν' 0 = 0 := g'.ag 0 (Nat.le_of_ble_eq_true rfl)
      have n1 : ν' 1 = a1.toInt := g'.ag 1 (Nat.le_of_ble_eq_true rfl)
      have n2 : ν' 2 = a2.toInt := g'.ag 2 (Nat.le_of_ble_eq_true rfl)
      have n3 : ν' 3 = a3.toInt := g'.ag 3 (Nat.le_of_ble_eq_true rfl)
      have n4 : ν' 4 = (μ.2.2.1 1 1).toInt := g'.ag 4 (Nat.le_of_ble_eq_true rfl)
      have sz0 : (μ'.2.2.1 1 1).toInt = (μ.2.2.1 1 1).toInt := by rw [(g'.fr 1 nc_X11_frost_1).1]
      have sz1 : (μ'.2.2.1 210 0).toInt = (μ.2.2.1 210 0).toInt := by rw [(g'.fr 210 nc_X11_frost_210).1]
      have sz2 : (μ'.2.2.1 307 0).toInt = (μ.2.2.1 307 0).toInt := by rw [(g'.fr 307 nc_X11_frost_307).1]
      have sz3 : (μ'.2.2.1 404 2).toInt = (μ.2.2.1 404 2).toInt := by rw [(g'.fr 404 nc_X11_frost_404).1]
      have sz4 : (μ'.2.2.1 433 0).toInt = (μ.2.2.1 433 0).toInt := by rw [(g'.fr 433 nc_X11_frost_433).1]
      have sz5 : (μ'.2.2.1 433 1).toInt = (μ.2.2.1 433 1).toInt := by rw [(g'.fr 433 nc_X11_frost_433).1]
      have hw' : w.toInt = ν' 0 + (-1) := hw
      exact hK _ w μ' ⟨⟨g'.sh, g'.hi, keepf (md := [164, 165, 167, 168, 169, 170, 171, 172, 173, 174, 175, 176, 177, 178, 195, 196, 197, 198, 199, 200]) kn_X11_frost_0 g'.fr hI.2.2.1, keepf (md := [164, 165, 167, 168, 169, 170, 171, 172, 173, 174, 175, 176, 177, 178, 195, 196, 197, 198, 199, 200]) kn_X11_frost_6 g'.fr hI.2.2.2.1, keepf (md := [164, 165, 167, 168, 169, 170, 171, 172, 173, 174, 175, 176, 177, 178, 195, 196, 197, 198, 199, 200]) kn_X11_frost_2 g'.fr hI.2.2.2.2.1, keepf (md := [164, 165, 167, 168, 169, 170, 171, 172, 173, 174, 175, 176, 177, 178, 195, 196, 197, 198, 199, 200]) kn_X11_frost_3 g'.fr hI.2.2.2.2.2⟩, rfl, by omega, ⟨sz3, sz4, sz5⟩, g'.fr⟩
    rcases List.mem_cons.mp hP with rfl | hP
    · obtain ⟨w, rfl, hw⟩ := r_int g'.gl
      have n0 : ν' 0 = 0 := g'.ag 0 (Nat.le_of_ble_eq_true rfl)
      have n1 : ν' 1 = a1.toInt := g'.ag 1 (Nat.le_of_ble_eq_true rfl)
      have n2 : ν' 2 = a2.toInt := g'.ag 2 (Nat.le_of_ble_eq_true rfl)
      have n3 : ν' 3 = a3.toInt := g'.ag 3 (Nat.le_of_ble_eq_true rfl)
      have n4 : ν' 4 = (μ.2.2.1 1 1).toInt := g'.ag 4 (Nat.le_of_ble_eq_true rfl)
      have sz0 : (μ'.2.2.1 1 1).toInt = (μ.2.2.1 1 1).toInt := by rw [(g'.fr 1 nc_X11_frost_1).1]
      have sz1 : (μ'.2.2.1 210 0).toInt = (μ.2.2.1 210 0).toInt := by rw [(g'.fr 210 nc_X11_frost_210).1]
      have sz2 : (μ'.2.2.1 307 0).toInt = (μ.2.2.1 307 0).toInt := by rw [(g'.fr 307 nc_X11_frost_307).1]
      have sz3 : (μ'.2.2.1 404 2).toInt = (μ.2.2.1 404 2).toInt := by rw [(g'.fr 404 nc_X11_frost_404).1]
      have sz4 : (μ'.2.2.1 433 0).toInt = (μ.2.2.1 433 0).toInt := by rw [(g'.fr 433 nc_X11_frost_433).1]
      have sz5 : (μ'.2.2.1 433 1).toInt = (μ.2.2.1 433 1).toInt := by rw [(g'.fr 433 nc_X11_frost_433).1]
      have hw' : w.toInt = ν' 5 + 0 := hw
      have i1 : (0 : Int) ≤ ν' 1 ∧ ν' 1 ≤ 5 := g'.iv 1 (Nat.le_of_ble_eq_true rfl)
      have i2 : (0 : Int) ≤ ν' 2 ∧ ν' 2 ≤ 939 := g'.iv 2 (Nat.le_of_ble_eq_true rfl)
      have i3 : (0 : Int) ≤ ν' 3 ∧ ν' 3 ≤ 11 := g'.iv 3 (Nat.le_of_ble_eq_true rfl)
      exact hK _ w μ' ⟨⟨g'.sh, g'.hi, keepf (md := [164, 165, 167, 168, 169, 170, 171, 172, 173, 174, 175, 176, 177, 178, 195, 196, 197, 198, 199, 200]) kn_X11_frost_0 g'.fr hI.2.2.1, keepf (md := [164, 165, 167, 168, 169, 170, 171, 172, 173, 174, 175, 176, 177, 178, 195, 196, 197, 198, 199, 200]) kn_X11_frost_6 g'.fr hI.2.2.2.1, keepf (md := [164, 165, 167, 168, 169, 170, 171, 172, 173, 174, 175, 176, 177, 178, 195, 196, 197, 198, 199, 200]) kn_X11_frost_2 g'.fr hI.2.2.2.2.1, keepf (md := [164, 165, 167, 168, 169, 170, 171, 172, 173, 174, 175, 176, 177, 178, 195, 196, 197, 198, 199, 200]) kn_X11_frost_3 g'.fr hI.2.2.2.2.2⟩, rfl, by omega, ⟨sz3, sz4, sz5⟩, g'.fr⟩
    exact absurd hP List.not_mem_nil
abbrev ck_X11_go (a1 : Int32) (μ : dw_S) (r : Option Value) (w : Int32) (μ' : dw_S) : Prop := (INV μ') ∧ (r = some (.int w)) ∧ ((μ'.2.2.1 1 1).toInt = (μ.2.2.1 1 1).toInt ∧ (μ'.2.2.1 210 0).toInt = (μ.2.2.1 210 0).toInt ∧ (μ'.2.2.1 307 0).toInt = (μ.2.2.1 307 0).toInt) ∧ ((μ'.2.2.1 404 2).toInt = (μ.2.2.1 404 2).toInt ∧ (μ'.2.2.1 433 0).toInt = (μ.2.2.1 433 0).toInt ∧ (μ'.2.2.1 433 1).toInt = (μ.2.2.1 433 1).toInt) ∧ (∀ a, a ∉ [0, 43, 54, 55, 56, 57, 164, 165, 167, 168, 169, 170, 171, 172, 173, 174, 175, 176, 177, 178, 208] → μ'.2.2.1 a = μ.2.2.1 a ∧ μ'.2.2.2 a = μ.2.2.2 a)
theorem kn_X11_go_0 : (fl_s 0).all (fun q => decide (q.1 ∉ ([0, 43, 54, 55, 56, 57, 164, 165, 167, 168, 169, 170, 171, 172, 173, 174, 175, 176, 177, 178, 208] : List Nat))) = true := by decide
theorem kn_X11_go_6 : (fl_s 6).all (fun q => decide (q.1 ∉ ([0, 43, 54, 55, 56, 57, 164, 165, 167, 168, 169, 170, 171, 172, 173, 174, 175, 176, 177, 178, 208] : List Nat))) = true := by decide
theorem kn_X11_go_2 : (fl_s 2).all (fun q => decide (q.1 ∉ ([0, 43, 54, 55, 56, 57, 164, 165, 167, 168, 169, 170, 171, 172, 173, 174, 175, 176, 177, 178, 208] : List Nat))) = true := by decide
theorem kn_X11_go_3 : (fl_s 3).all (fun q => decide (q.1 ∉ ([0, 43, 54, 55, 56, 57, 164, 165, 167, 168, 169, 170, 171, 172, 173, 174, 175, 176, 177, 178, 208] : List Nat))) = true := by decide
theorem nc_X11_go_1 : 1 ∉ ([0, 43, 54, 55, 56, 57, 164, 165, 167, 168, 169, 170, 171, 172, 173, 174, 175, 176, 177, 178, 208] : List Nat) := by decide
theorem nc_X11_go_210 : 210 ∉ ([0, 43, 54, 55, 56, 57, 164, 165, 167, 168, 169, 170, 171, 172, 173, 174, 175, 176, 177, 178, 208] : List Nat) := by decide
theorem nc_X11_go_307 : 307 ∉ ([0, 43, 54, 55, 56, 57, 164, 165, 167, 168, 169, 170, 171, 172, 173, 174, 175, 176, 177, 178, 208] : List Nat) := by decide
theorem nc_X11_go_404 : 404 ∉ ([0, 43, 54, 55, 56, 57, 164, 165, 167, 168, 169, 170, 171, 172, 173, 174, 175, 176, 177, 178, 208] : List Nat) := by decide
theorem nc_X11_go_433 : 433 ∉ ([0, 43, 54, 55, 56, 57, 164, 165, 167, 168, 169, 170, 171, 172, 173, 174, 175, 176, 177, 178, 208] : List Nat) := by decide
theorem cl_X11_go {μ : dw_S} {K : dw_K} {a1 : Int32} (hI : INV μ) (hK : ∀ (r : Option Value) (w : Int32) (μ' : dw_S), ck_X11_go a1 μ r w μ' → K r μ') : t_X11_go [.ref 0, .int a1] μ K := by
  have h_1_1 := hI.2.1 1 1
  rw [sgc_0] at h_1_1
  refine al_364 127 (by decide) (fun s => [(0 : Int), (a1.toInt : Int), ((μ.2.2.1 1 1).toInt : Int)].getD s (0 : Int)) [.ref 0, .int a1] μ K ⟨hI.1, hI.2.1, fun _ _ => ⟨rfl, rfl⟩, rfl, Nat.le_refl _, Nat.le_of_ble_eq_true rfl, fun _ _ => rfl, ?_, fun q hq => absurd hq List.not_mem_nil, ?_, trivial, ?_, ?_⟩ ?_
  · exact iv2_ok (iv := (in_127).pre.iv) (vs := [(0 : Int), (a1.toInt : Int), ((μ.2.2.1 1 1).toInt : Int)]) ⟨⟨Int.le_refl 0, Int.le_refl 0⟩, ⟨dx_b1 _, dx_b2 _⟩, h_1_1, trivial⟩
  · exact ⟨⟨0, List.Mem.head _, rfl⟩, ⟨Nat.le_of_ble_eq_true rfl, a1, rfl, (Int.add_zero _).symm⟩, trivial⟩
  · exact dx_aL.all (l := (in_127).pre.fa) ⟨⟨Nat.le_of_ble_eq_true rfl, (Int.add_zero _).symm⟩, trivial⟩
  · exact dx_aL.all (l := (in_127).pre.fl) trivial
  · intro r μ' ν' P hP g'
    rcases List.mem_cons.mp hP with rfl | hP
    · obtain ⟨w, rfl, hw⟩ := r_int g'.gl
      have n0 : ν' 0 = 0 := g'.ag 0 (Nat.le_of_ble_eq_true rfl)
      have n1 : ν' 1 = a1.toInt := g'.ag 1 (Nat.le_of_ble_eq_true rfl)
      have n2 : ν' 2 = (μ.2.2.1 1 1).toInt := g'.ag 2 (Nat.le_of_ble_eq_true rfl)
      have sz0 : (μ'.2.2.1 1 1).toInt = (μ.2.2.1 1 1).toInt := by rw [(g'.fr 1 nc_X11_go_1).1]
      have sz1 : (μ'.2.2.1 210 0).toInt = (μ.2.2.1 210 0).toInt := by rw [(g'.fr 210 nc_X11_go_210).1]
      have sz2 : (μ'.2.2.1 307 0).toInt = (μ.2.2.1 307 0).toInt := by rw [(g'.fr 307 nc_X11_go_307).1]
      have sz3 : (μ'.2.2.1 404 2).toInt = (μ.2.2.1 404 2).toInt := by rw [(g'.fr 404 nc_X11_go_404).1]
      have sz4 : (μ'.2.2.1 433 0).toInt = (μ.2.2.1 433 0).toInt := by rw [(g'.fr 433 nc_X11_go_433).1]
      have sz5 : (μ'.2.2.1 433 1).toInt = (μ.2.2.1 433 1).toInt := by rw [(g'.fr 433 nc_X11_go_433).1]
      have hw' : w.toInt = ν' 0 + (-2) := hw
      exact hK _ w μ' ⟨⟨g'.sh, g'.hi, keepf (md := [0, 43, 54, 55, 56, 57, 164, 165, 167, 168, 169, 170, 171, 172, 173, 174, 175, 176, 177, 178, 208]) kn_X11_go_0 g'.fr hI.2.2.1, keepf (md := [0, 43, 54, 55, 56, 57, 164, 165, 167, 168, 169, 170, 171, 172, 173, 174, 175, 176, 177, 178, 208]) kn_X11_go_6 g'.fr hI.2.2.2.1, keepf (md := [0, 43, 54, 55, 56, 57, 164, 165, 167, 168, 169, 170, 171, 172, 173, 174, 175, 176, 177, 178, 208]) kn_X11_go_2 g'.fr hI.2.2.2.2.1, keepf (md := [0, 43, 54, 55, 56, 57, 164, 165, 167, 168, 169, 170, 171, 172, 173, 174, 175, 176, 177, 178, 208]) kn_X11_go_3 g'.fr hI.2.2.2.2.2⟩, rfl, by omega, ⟨sz3, sz4, sz5⟩, g'.fr⟩
    rcases List.mem_cons.mp hP with rfl | hP
    · obtain ⟨w, rfl, hw⟩ := r_int g'.gl
      have n0 : ν' 0 = 0 := g'.ag 0 (Nat.le_of_ble_eq_true rfl)
      have n1 : ν' 1 = a1.toInt := g'.ag 1 (Nat.le_of_ble_eq_true rfl)
      have n2 : ν' 2 = (μ.2.2.1 1 1).toInt := g'.ag 2 (Nat.le_of_ble_eq_true rfl)
      have sz0 : (μ'.2.2.1 1 1).toInt = (μ.2.2.1 1 1).toInt := by rw [(g'.fr 1 nc_X11_go_1).1]
      have sz1 : (μ'.2.2.1 210 0).toInt = (μ.2.2.1 210 0).toInt := by rw [(g'.fr 210 nc_X11_go_210).1]
      have sz2 : (μ'.2.2.1 307 0).toInt = (μ.2.2.1 307 0).toInt := by rw [(g'.fr 307 nc_X11_go_307).1]
      have sz3 : (μ'.2.2.1 404 2).toInt = (μ.2.2.1 404 2).toInt := by rw [(g'.fr 404 nc_X11_go_404).1]
      have sz4 : (μ'.2.2.1 433 0).toInt = (μ.2.2.1 433 0).toInt := by rw [(g'.fr 433 nc_X11_go_433).1]
      have sz5 : (μ'.2.2.1 433 1).toInt = (μ.2.2.1 433 1).toInt := by rw [(g'.fr 433 nc_X11_go_433).1]
      have hw' : w.toInt = ν' 3 + 0 := hw
      have i1 : (0 : Int) ≤ ν' 1 ∧ ν' 1 ≤ 1 := g'.iv 1 (Nat.le_of_ble_eq_true rfl)
      exact hK _ w μ' ⟨⟨g'.sh, g'.hi, keepf (md := [0, 43, 54, 55, 56, 57, 164, 165, 167, 168, 169, 170, 171, 172, 173, 174, 175, 176, 177, 178, 208]) kn_X11_go_0 g'.fr hI.2.2.1, keepf (md := [0, 43, 54, 55, 56, 57, 164, 165, 167, 168, 169, 170, 171, 172, 173, 174, 175, 176, 177, 178, 208]) kn_X11_go_6 g'.fr hI.2.2.2.1, keepf (md := [0, 43, 54, 55, 56, 57, 164, 165, 167, 168, 169, 170, 171, 172, 173, 174, 175, 176, 177, 178, 208]) kn_X11_go_2 g'.fr hI.2.2.2.2.1, keepf (md := [0, 43, 54, 55, 56, 57, 164, 165, 167, 168, 169, 170, 171, 172, 173, 174, 175, 176, 177, 178, 208]) kn_X11_go_3 g'.fr hI.2.2.2.2.2⟩, rfl, by omega, ⟨sz3, sz4, sz5⟩, g'.fr⟩
    exact absurd hP List.not_mem_nil
abbrev ck_X11_gone (a1 a2 a3 : Int32) (μ : dw_S) (r : Option Value) (w : Int32) (μ' : dw_S) : Prop := (INV μ') ∧ (r = some (.int w)) ∧ ((μ'.2.2.1 1 1).toInt = (μ.2.2.1 1 1).toInt ∧ (μ'.2.2.1 210 0).toInt = (μ.2.2.1 210 0).toInt ∧ (μ'.2.2.1 307 0).toInt = (μ.2.2.1 307 0).toInt) ∧ ((μ'.2.2.1 404 2).toInt = (μ.2.2.1 404 2).toInt ∧ (μ'.2.2.1 433 0).toInt = (μ.2.2.1 433 0).toInt ∧ (μ'.2.2.1 433 1).toInt = (μ.2.2.1 433 1).toInt) ∧ (∀ a, a ∉ [164, 165, 167, 168, 169, 170, 171, 172, 173, 174, 175, 176, 177, 178, 195, 196, 197, 198, 199, 200] → μ'.2.2.1 a = μ.2.2.1 a ∧ μ'.2.2.2 a = μ.2.2.2 a)
theorem kn_X11_gone_0 : (fl_s 0).all (fun q => decide (q.1 ∉ ([164, 165, 167, 168, 169, 170, 171, 172, 173, 174, 175, 176, 177, 178, 195, 196, 197, 198, 199, 200] : List Nat))) = true := by decide
theorem kn_X11_gone_6 : (fl_s 6).all (fun q => decide (q.1 ∉ ([164, 165, 167, 168, 169, 170, 171, 172, 173, 174, 175, 176, 177, 178, 195, 196, 197, 198, 199, 200] : List Nat))) = true := by decide
theorem kn_X11_gone_2 : (fl_s 2).all (fun q => decide (q.1 ∉ ([164, 165, 167, 168, 169, 170, 171, 172, 173, 174, 175, 176, 177, 178, 195, 196, 197, 198, 199, 200] : List Nat))) = true := by decide
theorem kn_X11_gone_3 : (fl_s 3).all (fun q => decide (q.1 ∉ ([164, 165, 167, 168, 169, 170, 171, 172, 173, 174, 175, 176, 177, 178, 195, 196, 197, 198, 199, 200] : List Nat))) = true := by decide
theorem nc_X11_gone_1 : 1 ∉ ([164, 165, 167, 168, 169, 170, 171, 172, 173, 174, 175, 176, 177, 178, 195, 196, 197, 198, 199, 200] : List Nat) := by decide
theorem nc_X11_gone_210 : 210 ∉ ([164, 165, 167, 168, 169, 170, 171, 172, 173, 174, 175, 176, 177, 178, 195, 196, 197, 198, 199, 200] : List Nat) := by decide
theorem nc_X11_gone_307 : 307 ∉ ([164, 165, 167, 168, 169, 170, 171, 172, 173, 174, 175, 176, 177, 178, 195, 196, 197, 198, 199, 200] : List Nat) := by decide
theorem nc_X11_gone_404 : 404 ∉ ([164, 165, 167, 168, 169, 170, 171, 172, 173, 174, 175, 176, 177, 178, 195, 196, 197, 198, 199, 200] : List Nat) := by decide
theorem nc_X11_gone_433 : 433 ∉ ([164, 165, 167, 168, 169, 170, 171, 172, 173, 174, 175, 176, 177, 178, 195, 196, 197, 198, 199, 200] : List Nat) := by decide
theorem cl_X11_gone {μ : dw_S} {K : dw_K} {a1 a2 a3 : Int32} (hI : INV μ) (hK : ∀ (r : Option Value) (w : Int32) (μ' : dw_S), ck_X11_gone a1 a2 a3 μ r w μ' → K r μ') : t_X11_gone [.ref 0, .int a1, .int a2, .int a3] μ K := by
  have h_1_1 := hI.2.1 1 1
  rw [sgc_0] at h_1_1
  refine al_364 129 (by decide) (fun s => [(0 : Int), (a1.toInt : Int), (a2.toInt : Int), (a3.toInt : Int), ((μ.2.2.1 1 1).toInt : Int)].getD s (0 : Int)) [.ref 0, .int a1, .int a2, .int a3] μ K ⟨hI.1, hI.2.1, fun _ _ => ⟨rfl, rfl⟩, rfl, Nat.le_refl _, Nat.le_of_ble_eq_true rfl, fun _ _ => rfl, ?_, fun q hq => absurd hq List.not_mem_nil, ?_, trivial, ?_, ?_⟩ ?_
  · exact iv2_ok (iv := (in_129).pre.iv) (vs := [(0 : Int), (a1.toInt : Int), (a2.toInt : Int), (a3.toInt : Int), ((μ.2.2.1 1 1).toInt : Int)]) ⟨⟨Int.le_refl 0, Int.le_refl 0⟩, ⟨dx_b1 _, dx_b2 _⟩, ⟨dx_b1 _, dx_b2 _⟩, ⟨dx_b1 _, dx_b2 _⟩, h_1_1, trivial⟩
  · exact ⟨⟨0, List.Mem.head _, rfl⟩, ⟨Nat.le_of_ble_eq_true rfl, a1, rfl, (Int.add_zero _).symm⟩, ⟨Nat.le_of_ble_eq_true rfl, a2, rfl, (Int.add_zero _).symm⟩, ⟨Nat.le_of_ble_eq_true rfl, a3, rfl, (Int.add_zero _).symm⟩, trivial⟩
  · exact dx_aL.all (l := (in_129).pre.fa) ⟨⟨Nat.le_of_ble_eq_true rfl, (Int.add_zero _).symm⟩, trivial⟩
  · exact dx_aL.all (l := (in_129).pre.fl) trivial
  · intro r μ' ν' P hP g'
    rcases List.mem_cons.mp hP with rfl | hP
    · obtain ⟨w, rfl, hw⟩ := r_int g'.gl
      have n0 : ν' 0 = 0 := g'.ag 0 (Nat.le_of_ble_eq_true rfl)
      have n1 : ν' 1 = a1.toInt := g'.ag 1 (Nat.le_of_ble_eq_true rfl)
      have n2 : ν' 2 = a2.toInt := g'.ag 2 (Nat.le_of_ble_eq_true rfl)
      have n3 : ν' 3 = a3.toInt := g'.ag 3 (Nat.le_of_ble_eq_true rfl)
      have n4 : ν' 4 = (μ.2.2.1 1 1).toInt := g'.ag 4 (Nat.le_of_ble_eq_true rfl)
      have sz0 : (μ'.2.2.1 1 1).toInt = (μ.2.2.1 1 1).toInt := by rw [(g'.fr 1 nc_X11_gone_1).1]
      have sz1 : (μ'.2.2.1 210 0).toInt = (μ.2.2.1 210 0).toInt := by rw [(g'.fr 210 nc_X11_gone_210).1]
      have sz2 : (μ'.2.2.1 307 0).toInt = (μ.2.2.1 307 0).toInt := by rw [(g'.fr 307 nc_X11_gone_307).1]
      have sz3 : (μ'.2.2.1 404 2).toInt = (μ.2.2.1 404 2).toInt := by rw [(g'.fr 404 nc_X11_gone_404).1]
      have sz4 : (μ'.2.2.1 433 0).toInt = (μ.2.2.1 433 0).toInt := by rw [(g'.fr 433 nc_X11_gone_433).1]
      have sz5 : (μ'.2.2.1 433 1).toInt = (μ.2.2.1 433 1).toInt := by rw [(g'.fr 433 nc_X11_gone_433).1]
      have hw' : w.toInt = ν' 0 + (-1) := hw
      exact hK _ w μ' ⟨⟨g'.sh, g'.hi, keepf (md := [164, 165, 167, 168, 169, 170, 171, 172, 173, 174, 175, 176, 177, 178, 195, 196, 197, 198, 199, 200]) kn_X11_gone_0 g'.fr hI.2.2.1, keepf (md := [164, 165, 167, 168, 169, 170, 171, 172, 173, 174, 175, 176, 177, 178, 195, 196, 197, 198, 199, 200]) kn_X11_gone_6 g'.fr hI.2.2.2.1, keepf (md := [164, 165, 167, 168, 169, 170, 171, 172, 173, 174, 175, 176, 177, 178, 195, 196, 197, 198, 199, 200]) kn_X11_gone_2 g'.fr hI.2.2.2.2.1, keepf (md := [164, 165, 167, 168, 169, 170, 171, 172, 173, 174, 175, 176, 177, 178, 195, 196, 197, 198, 199, 200]) kn_X11_gone_3 g'.fr hI.2.2.2.2.2⟩, rfl, by omega, ⟨sz3, sz4, sz5⟩, g'.fr⟩
    rcases List.mem_cons.mp hP with rfl | hP
    · obtain ⟨w, rfl, hw⟩ := r_int g'.gl
      have n0 : ν' 0 = 0 := g'.ag 0 (Nat.le_of_ble_eq_true rfl)
      have n1 : ν' 1 = a1.toInt := g'.ag 1 (Nat.le_of_ble_eq_true rfl)
      have n2 : ν' 2 = a2.toInt := g'.ag 2 (Nat.le_of_ble_eq_true rfl)
      have n3 : ν' 3 = a3.toInt := g'.ag 3 (Nat.le_of_ble_eq_true rfl)
      have n4 : ν' 4 = (μ.2.2.1 1 1).toInt := g'.ag 4 (Nat.le_of_ble_eq_true rfl)
      have sz0 : (μ'.2.2.1 1 1).toInt = (μ.2.2.1 1 1).toInt := by rw [(g'.fr 1 nc_X11_gone_1).1]
      have sz1 : (μ'.2.2.1 210 0).toInt = (μ.2.2.1 210 0).toInt := by rw [(g'.fr 210 nc_X11_gone_210).1]
      have sz2 : (μ'.2.2.1 307 0).toInt = (μ.2.2.1 307 0).toInt := by rw [(g'.fr 307 nc_X11_gone_307).1]
      have sz3 : (μ'.2.2.1 404 2).toInt = (μ.2.2.1 404 2).toInt := by rw [(g'.fr 404 nc_X11_gone_404).1]
      have sz4 : (μ'.2.2.1 433 0).toInt = (μ.2.2.1 433 0).toInt := by rw [(g'.fr 433 nc_X11_gone_433).1]
      have sz5 : (μ'.2.2.1 433 1).toInt = (μ.2.2.1 433 1).toInt := by rw [(g'.fr 433 nc_X11_gone_433).1]
      have hw' : w.toInt = ν' 5 + 0 := hw
      have i1 : (0 : Int) ≤ ν' 1 ∧ ν' 1 ≤ 5 := g'.iv 1 (Nat.le_of_ble_eq_true rfl)
      have i2 : (0 : Int) ≤ ν' 2 ∧ ν' 2 ≤ 939 := g'.iv 2 (Nat.le_of_ble_eq_true rfl)
      have i3 : (0 : Int) ≤ ν' 3 ∧ ν' 3 ≤ 11 := g'.iv 3 (Nat.le_of_ble_eq_true rfl)
      exact hK _ w μ' ⟨⟨g'.sh, g'.hi, keepf (md := [164, 165, 167, 168, 169, 170, 171, 172, 173, 174, 175, 176, 177, 178, 195, 196, 197, 198, 199, 200]) kn_X11_gone_0 g'.fr hI.2.2.1, keepf (md := [164, 165, 167, 168, 169, 170, 171, 172, 173, 174, 175, 176, 177, 178, 195, 196, 197, 198, 199, 200]) kn_X11_gone_6 g'.fr hI.2.2.2.1, keepf (md := [164, 165, 167, 168, 169, 170, 171, 172, 173, 174, 175, 176, 177, 178, 195, 196, 197, 198, 199, 200]) kn_X11_gone_2 g'.fr hI.2.2.2.2.1, keepf (md := [164, 165, 167, 168, 169, 170, 171, 172, 173, 174, 175, 176, 177, 178, 195, 196, 197, 198, 199, 200]) kn_X11_gone_3 g'.fr hI.2.2.2.2.2⟩, rfl, by omega, ⟨sz3, sz4, sz5⟩, g'.fr⟩
    exact absurd hP List.not_mem_nil
abbrev ck_X11_ground (μ : dw_S) (r : Option Value) (w : Int32) (μ' : dw_S) : Prop := (INV μ') ∧ (r = some (.int w)) ∧ ((μ'.2.2.1 1 1).toInt = 0 ∧ (μ'.2.2.1 210 0).toInt = (μ.2.2.1 210 0).toInt ∧ (μ'.2.2.1 307 0).toInt = (μ.2.2.1 307 0).toInt) ∧ ((μ'.2.2.1 404 2).toInt = (μ.2.2.1 404 2).toInt ∧ (μ'.2.2.1 433 0).toInt = (μ.2.2.1 433 0).toInt ∧ (μ'.2.2.1 433 1).toInt = (μ.2.2.1 433 1).toInt) ∧ (∀ a, a ∉ [1, 4, 5, 6, 7, 8, 9, 11, 43, 58, 65, 72, 79, 86, 93, 101, 102, 103, 104, 105, 106, 107, 108, 109, 111, 112, 113, 114, 115, 116, 117, 118, 119, 120, 121, 122] → μ'.2.2.1 a = μ.2.2.1 a ∧ μ'.2.2.2 a = μ.2.2.2 a)
theorem kn_X11_ground_0 : (fl_s 0).all (fun q => decide (q.1 ∉ ([1, 4, 5, 6, 7, 8, 9, 11, 43, 58, 65, 72, 79, 86, 93, 101, 102, 103, 104, 105, 106, 107, 108, 109, 111, 112, 113, 114, 115, 116, 117, 118, 119, 120, 121, 122] : List Nat))) = true := by decide
theorem kn_X11_ground_6 : (fl_s 6).all (fun q => decide (q.1 ∉ ([1, 4, 5, 6, 7, 8, 9, 11, 43, 58, 65, 72, 79, 86, 93, 101, 102, 103, 104, 105, 106, 107, 108, 109, 111, 112, 113, 114, 115, 116, 117, 118, 119, 120, 121, 122] : List Nat))) = true := by decide
theorem kn_X11_ground_2 : (fl_s 2).all (fun q => decide (q.1 ∉ ([1, 4, 5, 6, 7, 8, 9, 11, 43, 58, 65, 72, 79, 86, 93, 101, 102, 103, 104, 105, 106, 107, 108, 109, 111, 112, 113, 114, 115, 116, 117, 118, 119, 120, 121, 122] : List Nat))) = true := by decide
theorem kn_X11_ground_3 : (fl_s 3).all (fun q => decide (q.1 ∉ ([1, 4, 5, 6, 7, 8, 9, 11, 43, 58, 65, 72, 79, 86, 93, 101, 102, 103, 104, 105, 106, 107, 108, 109, 111, 112, 113, 114, 115, 116, 117, 118, 119, 120, 121, 122] : List Nat))) = true := by decide
theorem nc_X11_ground_210 : 210 ∉ ([1, 4, 5, 6, 7, 8, 9, 11, 43, 58, 65, 72, 79, 86, 93, 101, 102, 103, 104, 105, 106, 107, 108, 109, 111, 112, 113, 114, 115, 116, 117, 118, 119, 120, 121, 122] : List Nat) := by decide
theorem nc_X11_ground_307 : 307 ∉ ([1, 4, 5, 6, 7, 8, 9, 11, 43, 58, 65, 72, 79, 86, 93, 101, 102, 103, 104, 105, 106, 107, 108, 109, 111, 112, 113, 114, 115, 116, 117, 118, 119, 120, 121, 122] : List Nat) := by decide
theorem nc_X11_ground_404 : 404 ∉ ([1, 4, 5, 6, 7, 8, 9, 11, 43, 58, 65, 72, 79, 86, 93, 101, 102, 103, 104, 105, 106, 107, 108, 109, 111, 112, 113, 114, 115, 116, 117, 118, 119, 120, 121, 122] : List Nat) := by decide
theorem nc_X11_ground_433 : 433 ∉ ([1, 4, 5, 6, 7, 8, 9, 11, 43, 58, 65, 72, 79, 86, 93, 101, 102, 103, 104, 105, 106, 107, 108, 109, 111, 112, 113, 114, 115, 116, 117, 118, 119, 120, 121, 122] : List Nat) := by decide
theorem cl_X11_ground {μ : dw_S} {K : dw_K} (hI : INV μ) (hK : ∀ (r : Option Value) (w : Int32) (μ' : dw_S), ck_X11_ground μ r w μ' → K r μ') : t_X11_ground [.ref 0] μ K := by
  have h_1_1 := hI.2.1 1 1
  rw [sgc_0] at h_1_1
  refine al_364 170 (by decide) (fun s => [(0 : Int), ((μ.2.2.1 1 1).toInt : Int)].getD s (0 : Int)) [.ref 0] μ K ⟨hI.1, hI.2.1, fun _ _ => ⟨rfl, rfl⟩, rfl, Nat.le_refl _, Nat.le_of_ble_eq_true rfl, fun _ _ => rfl, ?_, fun q hq => absurd hq List.not_mem_nil, ?_, trivial, ?_, ?_⟩ ?_
  · exact iv2_ok (iv := (in_170).pre.iv) (vs := [(0 : Int), ((μ.2.2.1 1 1).toInt : Int)]) ⟨⟨Int.le_refl 0, Int.le_refl 0⟩, h_1_1, trivial⟩
  · exact ⟨⟨0, List.Mem.head _, rfl⟩, trivial⟩
  · exact dx_aL.all (l := (in_170).pre.fa) ⟨⟨Nat.le_of_ble_eq_true rfl, (Int.add_zero _).symm⟩, trivial⟩
  · exact dx_aL.all (l := (in_170).pre.fl) trivial
  · intro r μ' ν' P hP g'
    rcases List.mem_cons.mp hP with rfl | hP
    · obtain ⟨w, rfl, hw⟩ := r_int g'.gl
      have n0 : ν' 0 = 0 := g'.ag 0 (Nat.le_of_ble_eq_true rfl)
      have n1 : ν' 1 = (μ.2.2.1 1 1).toInt := g'.ag 1 (Nat.le_of_ble_eq_true rfl)
      have sz0 : (μ'.2.2.1 1 1).toInt = ν' 0 + 0 := (g'.fa _ (List.Mem.head _)).2
      have sz1 : (μ'.2.2.1 210 0).toInt = (μ.2.2.1 210 0).toInt := by rw [(g'.fr 210 nc_X11_ground_210).1]
      have sz2 : (μ'.2.2.1 307 0).toInt = (μ.2.2.1 307 0).toInt := by rw [(g'.fr 307 nc_X11_ground_307).1]
      have sz3 : (μ'.2.2.1 404 2).toInt = (μ.2.2.1 404 2).toInt := by rw [(g'.fr 404 nc_X11_ground_404).1]
      have sz4 : (μ'.2.2.1 433 0).toInt = (μ.2.2.1 433 0).toInt := by rw [(g'.fr 433 nc_X11_ground_433).1]
      have sz5 : (μ'.2.2.1 433 1).toInt = (μ.2.2.1 433 1).toInt := by rw [(g'.fr 433 nc_X11_ground_433).1]
      have hw' : w.toInt = ν' 2 + 0 := hw
      exact hK _ w μ' ⟨⟨g'.sh, g'.hi, keepf (md := [1, 4, 5, 6, 7, 8, 9, 11, 43, 58, 65, 72, 79, 86, 93, 101, 102, 103, 104, 105, 106, 107, 108, 109, 111, 112, 113, 114, 115, 116, 117, 118, 119, 120, 121, 122]) kn_X11_ground_0 g'.fr hI.2.2.1, keepf (md := [1, 4, 5, 6, 7, 8, 9, 11, 43, 58, 65, 72, 79, 86, 93, 101, 102, 103, 104, 105, 106, 107, 108, 109, 111, 112, 113, 114, 115, 116, 117, 118, 119, 120, 121, 122]) kn_X11_ground_6 g'.fr hI.2.2.2.1, keepf (md := [1, 4, 5, 6, 7, 8, 9, 11, 43, 58, 65, 72, 79, 86, 93, 101, 102, 103, 104, 105, 106, 107, 108, 109, 111, 112, 113, 114, 115, 116, 117, 118, 119, 120, 121, 122]) kn_X11_ground_2 g'.fr hI.2.2.2.2.1, keepf (md := [1, 4, 5, 6, 7, 8, 9, 11, 43, 58, 65, 72, 79, 86, 93, 101, 102, 103, 104, 105, 106, 107, 108, 109, 111, 112, 113, 114, 115, 116, 117, 118, 119, 120, 121, 122]) kn_X11_ground_3 g'.fr hI.2.2.2.2.2⟩, rfl, by omega, ⟨sz3, sz4, sz5⟩, g'.fr⟩
    exact absurd hP List.not_mem_nil
abbrev ck_X11_hay (a1 a2 : Int32) (μ : dw_S) (r : Option Value) (w : Int32) (μ' : dw_S) : Prop := (INV μ') ∧ (r = some (.int w)) ∧ ((μ'.2.2.1 1 1).toInt = (μ.2.2.1 1 1).toInt ∧ (μ'.2.2.1 210 0).toInt = (μ.2.2.1 210 0).toInt ∧ (μ'.2.2.1 307 0).toInt = (μ.2.2.1 307 0).toInt) ∧ ((μ'.2.2.1 404 2).toInt = (μ.2.2.1 404 2).toInt ∧ (μ'.2.2.1 433 0).toInt = (μ.2.2.1 433 0).toInt ∧ (μ'.2.2.1 433 1).toInt = (μ.2.2.1 433 1).toInt) ∧ (∀ a, a ∉ [164, 165, 167, 168, 169, 170, 171, 172, 173, 174, 175, 176, 177, 178] → μ'.2.2.1 a = μ.2.2.1 a ∧ μ'.2.2.2 a = μ.2.2.2 a)
theorem kn_X11_hay_0 : (fl_s 0).all (fun q => decide (q.1 ∉ ([164, 165, 167, 168, 169, 170, 171, 172, 173, 174, 175, 176, 177, 178] : List Nat))) = true := by decide
theorem kn_X11_hay_6 : (fl_s 6).all (fun q => decide (q.1 ∉ ([164, 165, 167, 168, 169, 170, 171, 172, 173, 174, 175, 176, 177, 178] : List Nat))) = true := by decide
theorem kn_X11_hay_2 : (fl_s 2).all (fun q => decide (q.1 ∉ ([164, 165, 167, 168, 169, 170, 171, 172, 173, 174, 175, 176, 177, 178] : List Nat))) = true := by decide
theorem kn_X11_hay_3 : (fl_s 3).all (fun q => decide (q.1 ∉ ([164, 165, 167, 168, 169, 170, 171, 172, 173, 174, 175, 176, 177, 178] : List Nat))) = true := by decide
theorem nc_X11_hay_1 : 1 ∉ ([164, 165, 167, 168, 169, 170, 171, 172, 173, 174, 175, 176, 177, 178] : List Nat) := by decide
theorem nc_X11_hay_210 : 210 ∉ ([164, 165, 167, 168, 169, 170, 171, 172, 173, 174, 175, 176, 177, 178] : List Nat) := by decide
theorem nc_X11_hay_307 : 307 ∉ ([164, 165, 167, 168, 169, 170, 171, 172, 173, 174, 175, 176, 177, 178] : List Nat) := by decide
theorem nc_X11_hay_404 : 404 ∉ ([164, 165, 167, 168, 169, 170, 171, 172, 173, 174, 175, 176, 177, 178] : List Nat) := by decide
theorem nc_X11_hay_433 : 433 ∉ ([164, 165, 167, 168, 169, 170, 171, 172, 173, 174, 175, 176, 177, 178] : List Nat) := by decide
theorem cl_X11_hay {μ : dw_S} {K : dw_K} {a1 a2 : Int32} (hI : INV μ) (hK : ∀ (r : Option Value) (w : Int32) (μ' : dw_S), ck_X11_hay a1 a2 μ r w μ' → K r μ') : t_X11_hay [.ref 0, .int a1, .int a2] μ K := by
  have h_1_1 := hI.2.1 1 1
  rw [sgc_0] at h_1_1
  refine al_364 172 (by decide) (fun s => [(0 : Int), (a1.toInt : Int), (a2.toInt : Int), ((μ.2.2.1 1 1).toInt : Int)].getD s (0 : Int)) [.ref 0, .int a1, .int a2] μ K ⟨hI.1, hI.2.1, fun _ _ => ⟨rfl, rfl⟩, rfl, Nat.le_refl _, Nat.le_of_ble_eq_true rfl, fun _ _ => rfl, ?_, fun q hq => absurd hq List.not_mem_nil, ?_, trivial, ?_, ?_⟩ ?_
  · exact iv2_ok (iv := (in_172).pre.iv) (vs := [(0 : Int), (a1.toInt : Int), (a2.toInt : Int), ((μ.2.2.1 1 1).toInt : Int)]) ⟨⟨Int.le_refl 0, Int.le_refl 0⟩, ⟨dx_b1 _, dx_b2 _⟩, ⟨dx_b1 _, dx_b2 _⟩, h_1_1, trivial⟩
  · exact ⟨⟨0, List.Mem.head _, rfl⟩, ⟨Nat.le_of_ble_eq_true rfl, a1, rfl, (Int.add_zero _).symm⟩, ⟨Nat.le_of_ble_eq_true rfl, a2, rfl, (Int.add_zero _).symm⟩, trivial⟩
  · exact dx_aL.all (l := (in_172).pre.fa) ⟨⟨Nat.le_of_ble_eq_true rfl, (Int.add_zero _).symm⟩, trivial⟩
  · exact dx_aL.all (l := (in_172).pre.fl) trivial
  · intro r μ' ν' P hP g'
    rcases List.mem_cons.mp hP with rfl | hP
    · obtain ⟨w, rfl, hw⟩ := r_int g'.gl
      have n0 : ν' 0 = 0 := g'.ag 0 (Nat.le_of_ble_eq_true rfl)
      have n1 : ν' 1 = a1.toInt := g'.ag 1 (Nat.le_of_ble_eq_true rfl)
      have n2 : ν' 2 = a2.toInt := g'.ag 2 (Nat.le_of_ble_eq_true rfl)
      have n3 : ν' 3 = (μ.2.2.1 1 1).toInt := g'.ag 3 (Nat.le_of_ble_eq_true rfl)
      have sz0 : (μ'.2.2.1 1 1).toInt = (μ.2.2.1 1 1).toInt := by rw [(g'.fr 1 nc_X11_hay_1).1]
      have sz1 : (μ'.2.2.1 210 0).toInt = (μ.2.2.1 210 0).toInt := by rw [(g'.fr 210 nc_X11_hay_210).1]
      have sz2 : (μ'.2.2.1 307 0).toInt = (μ.2.2.1 307 0).toInt := by rw [(g'.fr 307 nc_X11_hay_307).1]
      have sz3 : (μ'.2.2.1 404 2).toInt = (μ.2.2.1 404 2).toInt := by rw [(g'.fr 404 nc_X11_hay_404).1]
      have sz4 : (μ'.2.2.1 433 0).toInt = (μ.2.2.1 433 0).toInt := by rw [(g'.fr 433 nc_X11_hay_433).1]
      have sz5 : (μ'.2.2.1 433 1).toInt = (μ.2.2.1 433 1).toInt := by rw [(g'.fr 433 nc_X11_hay_433).1]
      have hw' : w.toInt = ν' 0 + (-1) := hw
      exact hK _ w μ' ⟨⟨g'.sh, g'.hi, keepf (md := [164, 165, 167, 168, 169, 170, 171, 172, 173, 174, 175, 176, 177, 178]) kn_X11_hay_0 g'.fr hI.2.2.1, keepf (md := [164, 165, 167, 168, 169, 170, 171, 172, 173, 174, 175, 176, 177, 178]) kn_X11_hay_6 g'.fr hI.2.2.2.1, keepf (md := [164, 165, 167, 168, 169, 170, 171, 172, 173, 174, 175, 176, 177, 178]) kn_X11_hay_2 g'.fr hI.2.2.2.2.1, keepf (md := [164, 165, 167, 168, 169, 170, 171, 172, 173, 174, 175, 176, 177, 178]) kn_X11_hay_3 g'.fr hI.2.2.2.2.2⟩, rfl, by omega, ⟨sz3, sz4, sz5⟩, g'.fr⟩
    rcases List.mem_cons.mp hP with rfl | hP
    · obtain ⟨w, rfl, hw⟩ := r_int g'.gl
      have n0 : ν' 0 = 0 := g'.ag 0 (Nat.le_of_ble_eq_true rfl)
      have n1 : ν' 1 = a1.toInt := g'.ag 1 (Nat.le_of_ble_eq_true rfl)
      have n2 : ν' 2 = a2.toInt := g'.ag 2 (Nat.le_of_ble_eq_true rfl)
      have n3 : ν' 3 = (μ.2.2.1 1 1).toInt := g'.ag 3 (Nat.le_of_ble_eq_true rfl)
      have sz0 : (μ'.2.2.1 1 1).toInt = (μ.2.2.1 1 1).toInt := by rw [(g'.fr 1 nc_X11_hay_1).1]
      have sz1 : (μ'.2.2.1 210 0).toInt = (μ.2.2.1 210 0).toInt := by rw [(g'.fr 210 nc_X11_hay_210).1]
      have sz2 : (μ'.2.2.1 307 0).toInt = (μ.2.2.1 307 0).toInt := by rw [(g'.fr 307 nc_X11_hay_307).1]
      have sz3 : (μ'.2.2.1 404 2).toInt = (μ.2.2.1 404 2).toInt := by rw [(g'.fr 404 nc_X11_hay_404).1]
      have sz4 : (μ'.2.2.1 433 0).toInt = (μ.2.2.1 433 0).toInt := by rw [(g'.fr 433 nc_X11_hay_433).1]
      have sz5 : (μ'.2.2.1 433 1).toInt = (μ.2.2.1 433 1).toInt := by rw [(g'.fr 433 nc_X11_hay_433).1]
      have hw' : w.toInt = ν' 4 + 0 := hw
      have i1 : (0 : Int) ≤ ν' 1 ∧ ν' 1 ≤ 5 := g'.iv 1 (Nat.le_of_ble_eq_true rfl)
      have i2 : (0 : Int) ≤ ν' 2 ∧ ν' 2 ≤ 9999 := g'.iv 2 (Nat.le_of_ble_eq_true rfl)
      exact hK _ w μ' ⟨⟨g'.sh, g'.hi, keepf (md := [164, 165, 167, 168, 169, 170, 171, 172, 173, 174, 175, 176, 177, 178]) kn_X11_hay_0 g'.fr hI.2.2.1, keepf (md := [164, 165, 167, 168, 169, 170, 171, 172, 173, 174, 175, 176, 177, 178]) kn_X11_hay_6 g'.fr hI.2.2.2.1, keepf (md := [164, 165, 167, 168, 169, 170, 171, 172, 173, 174, 175, 176, 177, 178]) kn_X11_hay_2 g'.fr hI.2.2.2.2.1, keepf (md := [164, 165, 167, 168, 169, 170, 171, 172, 173, 174, 175, 176, 177, 178]) kn_X11_hay_3 g'.fr hI.2.2.2.2.2⟩, rfl, by omega, ⟨sz3, sz4, sz5⟩, g'.fr⟩
    exact absurd hP List.not_mem_nil
abbrev ck_X11_image (a1 : Int32) (μ : dw_S) (r : Option Value) (w : Int32) (μ' : dw_S) : Prop := (INV μ') ∧ (r = some (.int w)) ∧ (((1 < a1.toInt ∧ w.toInt = 0 ∧ (μ'.2.2.1 210 0).toInt = (μ.2.2.1 210 0).toInt ∧ (μ'.2.2.1 307 0).toInt = (μ.2.2.1 307 0).toInt) ∨ (a1.toInt < 0 ∧ w.toInt = 0 ∧ (μ'.2.2.1 210 0).toInt = (μ.2.2.1 210 0).toInt ∧ (μ'.2.2.1 307 0).toInt = (μ.2.2.1 307 0).toInt) ∨ (a1.toInt = 0 ∧ w.toInt = 1 ∧ (μ'.2.2.1 210 0).toInt = 1 ∧ (μ'.2.2.1 307 0).toInt = (μ.2.2.1 307 0).toInt) ∨ (a1.toInt = 1 ∧ w.toInt = 1 ∧ (μ'.2.2.1 210 0).toInt = (μ.2.2.1 210 0).toInt ∧ (μ'.2.2.1 307 0).toInt = 1)) ∧ (μ'.2.2.1 1 1).toInt = (μ.2.2.1 1 1).toInt) ∧ ((μ'.2.2.1 404 2).toInt = (μ.2.2.1 404 2).toInt ∧ (μ'.2.2.1 433 0).toInt = (μ.2.2.1 433 0).toInt ∧ (μ'.2.2.1 433 1).toInt = (μ.2.2.1 433 1).toInt) ∧ (∀ a, a ∉ [210, 211, 212, 213, 214, 215, 216, 218, 220, 221, 222, 223, 224, 225, 226, 227, 228, 229, 230, 231, 232, 233, 234, 235, 236, 237, 238, 239, 240, 241, 242, 243, 244, 245, 246, 247, 248, 249, 250, 251, 253, 254, 255, 256, 257, 258, 259, 260, 261, 262, 263, 264, 265, 267, 268, 269, 270, 271, 272, 274, 275, 276, 277, 278, 279, 281, 282, 283, 284, 285, 286, 288, 289, 290, 291, 292, 293, 295, 296, 297, 298, 299, 300, 302, 303, 304, 305, 306, 307, 308, 309, 310, 311, 312, 313, 315, 317, 318, 319, 320, 321, 322, 323, 324, 325, 326, 327, 328, 329, 330, 331, 332, 333, 334, 335, 336, 337, 338, 339, 340, 341, 342, 343, 344, 345, 346, 347, 348, 350, 351, 352, 353, 354, 355, 356, 357, 358, 359, 360, 361, 362, 364, 365, 366, 367, 368, 369, 371, 372, 373, 374, 375, 376, 378, 379, 380, 381, 382, 383, 385, 386, 387, 388, 389, 390, 392, 393, 394, 395, 396, 397, 399, 400, 401, 402, 403] → μ'.2.2.1 a = μ.2.2.1 a ∧ μ'.2.2.2 a = μ.2.2.2 a)
theorem sgc_1 : dx_seg (dx_ce 210).iv 0 = (0, 1) := by decide +kernel
theorem sgc_2 : dx_seg (dx_ce 307).iv 0 = (0, 1) := by decide +kernel
theorem kn_X11_image_0 : (fl_s 0).all (fun q => decide (q.1 ∉ ([210, 211, 212, 213, 214, 215, 216, 218, 220, 221, 222, 223, 224, 225, 226, 227, 228, 229, 230, 231, 232, 233, 234, 235, 236, 237, 238, 239, 240, 241, 242, 243, 244, 245, 246, 247, 248, 249, 250, 251, 253, 254, 255, 256, 257, 258, 259, 260, 261, 262, 263, 264, 265, 267, 268, 269, 270, 271, 272, 274, 275, 276, 277, 278, 279, 281, 282, 283, 284, 285, 286, 288, 289, 290, 291, 292, 293, 295, 296, 297, 298, 299, 300, 302, 303, 304, 305, 306, 307, 308, 309, 310, 311, 312, 313, 315, 317, 318, 319, 320, 321, 322, 323, 324, 325, 326, 327, 328, 329, 330, 331, 332, 333, 334, 335, 336, 337, 338, 339, 340, 341, 342, 343, 344, 345, 346, 347, 348, 350, 351, 352, 353, 354, 355, 356, 357, 358, 359, 360, 361, 362, 364, 365, 366, 367, 368, 369, 371, 372, 373, 374, 375, 376, 378, 379, 380, 381, 382, 383, 385, 386, 387, 388, 389, 390, 392, 393, 394, 395, 396, 397, 399, 400, 401, 402, 403] : List Nat))) = true := by decide
theorem kn_X11_image_6 : (fl_s 6).all (fun q => decide (q.1 ∉ ([210, 211, 212, 213, 214, 215, 216, 218, 220, 221, 222, 223, 224, 225, 226, 227, 228, 229, 230, 231, 232, 233, 234, 235, 236, 237, 238, 239, 240, 241, 242, 243, 244, 245, 246, 247, 248, 249, 250, 251, 253, 254, 255, 256, 257, 258, 259, 260, 261, 262, 263, 264, 265, 267, 268, 269, 270, 271, 272, 274, 275, 276, 277, 278, 279, 281, 282, 283, 284, 285, 286, 288, 289, 290, 291, 292, 293, 295, 296, 297, 298, 299, 300, 302, 303, 304, 305, 306, 307, 308, 309, 310, 311, 312, 313, 315, 317, 318, 319, 320, 321, 322, 323, 324, 325, 326, 327, 328, 329, 330, 331, 332, 333, 334, 335, 336, 337, 338, 339, 340, 341, 342, 343, 344, 345, 346, 347, 348, 350, 351, 352, 353, 354, 355, 356, 357, 358, 359, 360, 361, 362, 364, 365, 366, 367, 368, 369, 371, 372, 373, 374, 375, 376, 378, 379, 380, 381, 382, 383, 385, 386, 387, 388, 389, 390, 392, 393, 394, 395, 396, 397, 399, 400, 401, 402, 403] : List Nat))) = true := by decide
theorem kn_X11_image_2 : (fl_s 2).all (fun q => decide (q.1 ∉ ([210, 211, 212, 213, 214, 215, 216, 218, 220, 221, 222, 223, 224, 225, 226, 227, 228, 229, 230, 231, 232, 233, 234, 235, 236, 237, 238, 239, 240, 241, 242, 243, 244, 245, 246, 247, 248, 249, 250, 251, 253, 254, 255, 256, 257, 258, 259, 260, 261, 262, 263, 264, 265, 267, 268, 269, 270, 271, 272, 274, 275, 276, 277, 278, 279, 281, 282, 283, 284, 285, 286, 288, 289, 290, 291, 292, 293, 295, 296, 297, 298, 299, 300, 302, 303, 304, 305, 306, 307, 308, 309, 310, 311, 312, 313, 315, 317, 318, 319, 320, 321, 322, 323, 324, 325, 326, 327, 328, 329, 330, 331, 332, 333, 334, 335, 336, 337, 338, 339, 340, 341, 342, 343, 344, 345, 346, 347, 348, 350, 351, 352, 353, 354, 355, 356, 357, 358, 359, 360, 361, 362, 364, 365, 366, 367, 368, 369, 371, 372, 373, 374, 375, 376, 378, 379, 380, 381, 382, 383, 385, 386, 387, 388, 389, 390, 392, 393, 394, 395, 396, 397, 399, 400, 401, 402, 403] : List Nat))) = true := by decide
theorem kn_X11_image_3 : (fl_s 3).all (fun q => decide (q.1 ∉ ([210, 211, 212, 213, 214, 215, 216, 218, 220, 221, 222, 223, 224, 225, 226, 227, 228, 229, 230, 231, 232, 233, 234, 235, 236, 237, 238, 239, 240, 241, 242, 243, 244, 245, 246, 247, 248, 249, 250, 251, 253, 254, 255, 256, 257, 258, 259, 260, 261, 262, 263, 264, 265, 267, 268, 269, 270, 271, 272, 274, 275, 276, 277, 278, 279, 281, 282, 283, 284, 285, 286, 288, 289, 290, 291, 292, 293, 295, 296, 297, 298, 299, 300, 302, 303, 304, 305, 306, 307, 308, 309, 310, 311, 312, 313, 315, 317, 318, 319, 320, 321, 322, 323, 324, 325, 326, 327, 328, 329, 330, 331, 332, 333, 334, 335, 336, 337, 338, 339, 340, 341, 342, 343, 344, 345, 346, 347, 348, 350, 351, 352, 353, 354, 355, 356, 357, 358, 359, 360, 361, 362, 364, 365, 366, 367, 368, 369, 371, 372, 373, 374, 375, 376, 378, 379, 380, 381, 382, 383, 385, 386, 387, 388, 389, 390, 392, 393, 394, 395, 396, 397, 399, 400, 401, 402, 403] : List Nat))) = true := by decide
theorem nc_X11_image_1 : 1 ∉ ([210, 211, 212, 213, 214, 215, 216, 218, 220, 221, 222, 223, 224, 225, 226, 227, 228, 229, 230, 231, 232, 233, 234, 235, 236, 237, 238, 239, 240, 241, 242, 243, 244, 245, 246, 247, 248, 249, 250, 251, 253, 254, 255, 256, 257, 258, 259, 260, 261, 262, 263, 264, 265, 267, 268, 269, 270, 271, 272, 274, 275, 276, 277, 278, 279, 281, 282, 283, 284, 285, 286, 288, 289, 290, 291, 292, 293, 295, 296, 297, 298, 299, 300, 302, 303, 304, 305, 306, 307, 308, 309, 310, 311, 312, 313, 315, 317, 318, 319, 320, 321, 322, 323, 324, 325, 326, 327, 328, 329, 330, 331, 332, 333, 334, 335, 336, 337, 338, 339, 340, 341, 342, 343, 344, 345, 346, 347, 348, 350, 351, 352, 353, 354, 355, 356, 357, 358, 359, 360, 361, 362, 364, 365, 366, 367, 368, 369, 371, 372, 373, 374, 375, 376, 378, 379, 380, 381, 382, 383, 385, 386, 387, 388, 389, 390, 392, 393, 394, 395, 396, 397, 399, 400, 401, 402, 403] : List Nat) := by decide
theorem nc_X11_image_404 : 404 ∉ ([210, 211, 212, 213, 214, 215, 216, 218, 220, 221, 222, 223, 224, 225, 226, 227, 228, 229, 230, 231, 232, 233, 234, 235, 236, 237, 238, 239, 240, 241, 242, 243, 244, 245, 246, 247, 248, 249, 250, 251, 253, 254, 255, 256, 257, 258, 259, 260, 261, 262, 263, 264, 265, 267, 268, 269, 270, 271, 272, 274, 275, 276, 277, 278, 279, 281, 282, 283, 284, 285, 286, 288, 289, 290, 291, 292, 293, 295, 296, 297, 298, 299, 300, 302, 303, 304, 305, 306, 307, 308, 309, 310, 311, 312, 313, 315, 317, 318, 319, 320, 321, 322, 323, 324, 325, 326, 327, 328, 329, 330, 331, 332, 333, 334, 335, 336, 337, 338, 339, 340, 341, 342, 343, 344, 345, 346, 347, 348, 350, 351, 352, 353, 354, 355, 356, 357, 358, 359, 360, 361, 362, 364, 365, 366, 367, 368, 369, 371, 372, 373, 374, 375, 376, 378, 379, 380, 381, 382, 383, 385, 386, 387, 388, 389, 390, 392, 393, 394, 395, 396, 397, 399, 400, 401, 402, 403] : List Nat) := by decide
theorem nc_X11_image_433 : 433 ∉ ([210, 211, 212, 213, 214, 215, 216, 218, 220, 221, 222, 223, 224, 225, 226, 227, 228, 229, 230, 231, 232, 233, 234, 235, 236, 237, 238, 239, 240, 241, 242, 243, 244, 245, 246, 247, 248, 249, 250, 251, 253, 254, 255, 256, 257, 258, 259, 260, 261, 262, 263, 264, 265, 267, 268, 269, 270, 271, 272, 274, 275, 276, 277, 278, 279, 281, 282, 283, 284, 285, 286, 288, 289, 290, 291, 292, 293, 295, 296, 297, 298, 299, 300, 302, 303, 304, 305, 306, 307, 308, 309, 310, 311, 312, 313, 315, 317, 318, 319, 320, 321, 322, 323, 324, 325, 326, 327, 328, 329, 330, 331, 332, 333, 334, 335, 336, 337, 338, 339, 340, 341, 342, 343, 344, 345, 346, 347, 348, 350, 351, 352, 353, 354, 355, 356, 357, 358, 359, 360, 361, 362, 364, 365, 366, 367, 368, 369, 371, 372, 373, 374, 375, 376, 378, 379, 380, 381, 382, 383, 385, 386, 387, 388, 389, 390, 392, 393, 394, 395, 396, 397, 399, 400, 401, 402, 403] : List Nat) := by decide
theorem cl_X11_image {μ : dw_S} {K : dw_K} {a1 : Int32} (hI : INV μ) (hK : ∀ (r : Option Value) (w : Int32) (μ' : dw_S), ck_X11_image a1 μ r w μ' → K r μ') : t_X11_image [.ref 0, .int a1] μ K := by
  have h_1_1 := hI.2.1 1 1
  rw [sgc_0] at h_1_1
  have h_210_0 := hI.2.1 210 0
  rw [sgc_1] at h_210_0
  have h_307_0 := hI.2.1 307 0
  rw [sgc_2] at h_307_0
  refine al_364 187 (by decide) (fun s => [(0 : Int), (a1.toInt : Int), ((μ.2.2.1 1 1).toInt : Int), ((μ.2.2.1 210 0).toInt : Int), ((μ.2.2.1 307 0).toInt : Int)].getD s (0 : Int)) [.ref 0, .int a1] μ K ⟨hI.1, hI.2.1, fun _ _ => ⟨rfl, rfl⟩, rfl, Nat.le_refl _, Nat.le_of_ble_eq_true rfl, fun _ _ => rfl, ?_, fun q hq => absurd hq List.not_mem_nil, ?_, trivial, ?_, ?_⟩ ?_
  · exact iv2_ok (iv := (in_187).pre.iv) (vs := [(0 : Int), (a1.toInt : Int), ((μ.2.2.1 1 1).toInt : Int), ((μ.2.2.1 210 0).toInt : Int), ((μ.2.2.1 307 0).toInt : Int)]) ⟨⟨Int.le_refl 0, Int.le_refl 0⟩, ⟨dx_b1 _, dx_b2 _⟩, h_1_1, h_210_0, h_307_0, trivial⟩
  · exact ⟨⟨0, List.Mem.head _, rfl⟩, ⟨Nat.le_of_ble_eq_true rfl, a1, rfl, (Int.add_zero _).symm⟩, trivial⟩
  · exact dx_aL.all (l := (in_187).pre.fa) ⟨⟨Nat.le_of_ble_eq_true rfl, (Int.add_zero _).symm⟩, ⟨Nat.le_of_ble_eq_true rfl, (Int.add_zero _).symm⟩, ⟨Nat.le_of_ble_eq_true rfl, (Int.add_zero _).symm⟩, trivial⟩
  · exact dx_aL.all (l := (in_187).pre.fl) trivial
  · intro r μ' ν' P hP g'
    rcases List.mem_cons.mp hP with rfl | hP
    · obtain ⟨w, rfl, hw⟩ := r_int g'.gl
      have n0 : ν' 0 = 0 := g'.ag 0 (Nat.le_of_ble_eq_true rfl)
      have n1 : ν' 1 = a1.toInt := g'.ag 1 (Nat.le_of_ble_eq_true rfl)
      have n2 : ν' 2 = (μ.2.2.1 1 1).toInt := g'.ag 2 (Nat.le_of_ble_eq_true rfl)
      have n3 : ν' 3 = (μ.2.2.1 210 0).toInt := g'.ag 3 (Nat.le_of_ble_eq_true rfl)
      have n4 : ν' 4 = (μ.2.2.1 307 0).toInt := g'.ag 4 (Nat.le_of_ble_eq_true rfl)
      have sz0 : (μ'.2.2.1 1 1).toInt = (μ.2.2.1 1 1).toInt := by rw [(g'.fr 1 nc_X11_image_1).1]
      have sz1 : (μ'.2.2.1 210 0).toInt = ν' 3 + 0 := (g'.fa _ (List.Mem.head _)).2
      have sz2 : (μ'.2.2.1 307 0).toInt = ν' 4 + 0 := (g'.fa _ (List.Mem.tail _ (List.Mem.head _))).2
      have sz3 : (μ'.2.2.1 404 2).toInt = (μ.2.2.1 404 2).toInt := by rw [(g'.fr 404 nc_X11_image_404).1]
      have sz4 : (μ'.2.2.1 433 0).toInt = (μ.2.2.1 433 0).toInt := by rw [(g'.fr 433 nc_X11_image_433).1]
      have sz5 : (μ'.2.2.1 433 1).toInt = (μ.2.2.1 433 1).toInt := by rw [(g'.fr 433 nc_X11_image_433).1]
      have hw' : w.toInt = ν' 0 + 0 := hw
      have i1 : (2 : Int) ≤ ν' 1 ∧ ν' 1 ≤ 2147483647 := g'.iv 1 (Nat.le_of_ble_eq_true rfl)
      have i2 : (0 : Int) ≤ ν' 2 ∧ ν' 2 ≤ 940 := g'.iv 2 (Nat.le_of_ble_eq_true rfl)
      have i3 : (0 : Int) ≤ ν' 3 ∧ ν' 3 ≤ 1 := g'.iv 3 (Nat.le_of_ble_eq_true rfl)
      have i4 : (0 : Int) ≤ ν' 4 ∧ ν' 4 ≤ 1 := g'.iv 4 (Nat.le_of_ble_eq_true rfl)
      exact hK _ w μ' ⟨⟨g'.sh, g'.hi, keepf (md := [210, 211, 212, 213, 214, 215, 216, 218, 220, 221, 222, 223, 224, 225, 226, 227, 228, 229, 230, 231, 232, 233, 234, 235, 236, 237, 238, 239, 240, 241, 242, 243, 244, 245, 246, 247, 248, 249, 250, 251, 253, 254, 255, 256, 257, 258, 259, 260, 261, 262, 263, 264, 265, 267, 268, 269, 270, 271, 272, 274, 275, 276, 277, 278, 279, 281, 282, 283, 284, 285, 286, 288, 289, 290, 291, 292, 293, 295, 296, 297, 298, 299, 300, 302, 303, 304, 305, 306, 307, 308, 309, 310, 311, 312, 313, 315, 317, 318, 319, 320, 321, 322, 323, 324, 325, 326, 327, 328, 329, 330, 331, 332, 333, 334, 335, 336, 337, 338, 339, 340, 341, 342, 343, 344, 345, 346, 347, 348, 350, 351, 352, 353, 354, 355, 356, 357, 358, 359, 360, 361, 362, 364, 365, 366, 367, 368, 369, 371, 372, 373, 374, 375, 376, 378, 379, 380, 381, 382, 383, 385, 386, 387, 388, 389, 390, 392, 393, 394, 395, 396, 397, 399, 400, 401, 402, 403]) kn_X11_image_0 g'.fr hI.2.2.1, keepf (md := [210, 211, 212, 213, 214, 215, 216, 218, 220, 221, 222, 223, 224, 225, 226, 227, 228, 229, 230, 231, 232, 233, 234, 235, 236, 237, 238, 239, 240, 241, 242, 243, 244, 245, 246, 247, 248, 249, 250, 251, 253, 254, 255, 256, 257, 258, 259, 260, 261, 262, 263, 264, 265, 267, 268, 269, 270, 271, 272, 274, 275, 276, 277, 278, 279, 281, 282, 283, 284, 285, 286, 288, 289, 290, 291, 292, 293, 295, 296, 297, 298, 299, 300, 302, 303, 304, 305, 306, 307, 308, 309, 310, 311, 312, 313, 315, 317, 318, 319, 320, 321, 322, 323, 324, 325, 326, 327, 328, 329, 330, 331, 332, 333, 334, 335, 336, 337, 338, 339, 340, 341, 342, 343, 344, 345, 346, 347, 348, 350, 351, 352, 353, 354, 355, 356, 357, 358, 359, 360, 361, 362, 364, 365, 366, 367, 368, 369, 371, 372, 373, 374, 375, 376, 378, 379, 380, 381, 382, 383, 385, 386, 387, 388, 389, 390, 392, 393, 394, 395, 396, 397, 399, 400, 401, 402, 403]) kn_X11_image_6 g'.fr hI.2.2.2.1, keepf (md := [210, 211, 212, 213, 214, 215, 216, 218, 220, 221, 222, 223, 224, 225, 226, 227, 228, 229, 230, 231, 232, 233, 234, 235, 236, 237, 238, 239, 240, 241, 242, 243, 244, 245, 246, 247, 248, 249, 250, 251, 253, 254, 255, 256, 257, 258, 259, 260, 261, 262, 263, 264, 265, 267, 268, 269, 270, 271, 272, 274, 275, 276, 277, 278, 279, 281, 282, 283, 284, 285, 286, 288, 289, 290, 291, 292, 293, 295, 296, 297, 298, 299, 300, 302, 303, 304, 305, 306, 307, 308, 309, 310, 311, 312, 313, 315, 317, 318, 319, 320, 321, 322, 323, 324, 325, 326, 327, 328, 329, 330, 331, 332, 333, 334, 335, 336, 337, 338, 339, 340, 341, 342, 343, 344, 345, 346, 347, 348, 350, 351, 352, 353, 354, 355, 356, 357, 358, 359, 360, 361, 362, 364, 365, 366, 367, 368, 369, 371, 372, 373, 374, 375, 376, 378, 379, 380, 381, 382, 383, 385, 386, 387, 388, 389, 390, 392, 393, 394, 395, 396, 397, 399, 400, 401, 402, 403]) kn_X11_image_2 g'.fr hI.2.2.2.2.1, keepf (md := [210, 211, 212, 213, 214, 215, 216, 218, 220, 221, 222, 223, 224, 225, 226, 227, 228, 229, 230, 231, 232, 233, 234, 235, 236, 237, 238, 239, 240, 241, 242, 243, 244, 245, 246, 247, 248, 249, 250, 251, 253, 254, 255, 256, 257, 258, 259, 260, 261, 262, 263, 264, 265, 267, 268, 269, 270, 271, 272, 274, 275, 276, 277, 278, 279, 281, 282, 283, 284, 285, 286, 288, 289, 290, 291, 292, 293, 295, 296, 297, 298, 299, 300, 302, 303, 304, 305, 306, 307, 308, 309, 310, 311, 312, 313, 315, 317, 318, 319, 320, 321, 322, 323, 324, 325, 326, 327, 328, 329, 330, 331, 332, 333, 334, 335, 336, 337, 338, 339, 340, 341, 342, 343, 344, 345, 346, 347, 348, 350, 351, 352, 353, 354, 355, 356, 357, 358, 359, 360, 361, 362, 364, 365, 366, 367, 368, 369, 371, 372, 373, 374, 375, 376, 378, 379, 380, 381, 382, 383, 385, 386, 387, 388, 389, 390, 392, 393, 394, 395, 396, 397, 399, 400, 401, 402, 403]) kn_X11_image_3 g'.fr hI.2.2.2.2.2⟩, rfl, by omega, ⟨sz3, sz4, sz5⟩, g'.fr⟩
    rcases List.mem_cons.mp hP with rfl | hP
    · obtain ⟨w, rfl, hw⟩ := r_int g'.gl
      have n0 : ν' 0 = 0 := g'.ag 0 (Nat.le_of_ble_eq_true rfl)
      have n1 : ν' 1 = a1.toInt := g'.ag 1 (Nat.le_of_ble_eq_true rfl)
      have n2 : ν' 2 = (μ.2.2.1 1 1).toInt := g'.ag 2 (Nat.le_of_ble_eq_true rfl)
      have n3 : ν' 3 = (μ.2.2.1 210 0).toInt := g'.ag 3 (Nat.le_of_ble_eq_true rfl)
      have n4 : ν' 4 = (μ.2.2.1 307 0).toInt := g'.ag 4 (Nat.le_of_ble_eq_true rfl)
      have sz0 : (μ'.2.2.1 1 1).toInt = (μ.2.2.1 1 1).toInt := by rw [(g'.fr 1 nc_X11_image_1).1]
      have sz1 : (μ'.2.2.1 210 0).toInt = ν' 3 + 0 := (g'.fa _ (List.Mem.head _)).2
      have sz2 : (μ'.2.2.1 307 0).toInt = ν' 0 + 1 := (g'.fa _ (List.Mem.tail _ (List.Mem.head _))).2
      have sz3 : (μ'.2.2.1 404 2).toInt = (μ.2.2.1 404 2).toInt := by rw [(g'.fr 404 nc_X11_image_404).1]
      have sz4 : (μ'.2.2.1 433 0).toInt = (μ.2.2.1 433 0).toInt := by rw [(g'.fr 433 nc_X11_image_433).1]
      have sz5 : (μ'.2.2.1 433 1).toInt = (μ.2.2.1 433 1).toInt := by rw [(g'.fr 433 nc_X11_image_433).1]
      have hw' : w.toInt = ν' 0 + 1 := hw
      have i1 : (1 : Int) ≤ ν' 1 ∧ ν' 1 ≤ 1 := g'.iv 1 (Nat.le_of_ble_eq_true rfl)
      have i2 : (0 : Int) ≤ ν' 2 ∧ ν' 2 ≤ 940 := g'.iv 2 (Nat.le_of_ble_eq_true rfl)
      have i3 : (0 : Int) ≤ ν' 3 ∧ ν' 3 ≤ 1 := g'.iv 3 (Nat.le_of_ble_eq_true rfl)
      have i4 : (0 : Int) ≤ ν' 4 ∧ ν' 4 ≤ 1 := g'.iv 4 (Nat.le_of_ble_eq_true rfl)
      exact hK _ w μ' ⟨⟨g'.sh, g'.hi, keepf (md := [210, 211, 212, 213, 214, 215, 216, 218, 220, 221, 222, 223, 224, 225, 226, 227, 228, 229, 230, 231, 232, 233, 234, 235, 236, 237, 238, 239, 240, 241, 242, 243, 244, 245, 246, 247, 248, 249, 250, 251, 253, 254, 255, 256, 257, 258, 259, 260, 261, 262, 263, 264, 265, 267, 268, 269, 270, 271, 272, 274, 275, 276, 277, 278, 279, 281, 282, 283, 284, 285, 286, 288, 289, 290, 291, 292, 293, 295, 296, 297, 298, 299, 300, 302, 303, 304, 305, 306, 307, 308, 309, 310, 311, 312, 313, 315, 317, 318, 319, 320, 321, 322, 323, 324, 325, 326, 327, 328, 329, 330, 331, 332, 333, 334, 335, 336, 337, 338, 339, 340, 341, 342, 343, 344, 345, 346, 347, 348, 350, 351, 352, 353, 354, 355, 356, 357, 358, 359, 360, 361, 362, 364, 365, 366, 367, 368, 369, 371, 372, 373, 374, 375, 376, 378, 379, 380, 381, 382, 383, 385, 386, 387, 388, 389, 390, 392, 393, 394, 395, 396, 397, 399, 400, 401, 402, 403]) kn_X11_image_0 g'.fr hI.2.2.1, keepf (md := [210, 211, 212, 213, 214, 215, 216, 218, 220, 221, 222, 223, 224, 225, 226, 227, 228, 229, 230, 231, 232, 233, 234, 235, 236, 237, 238, 239, 240, 241, 242, 243, 244, 245, 246, 247, 248, 249, 250, 251, 253, 254, 255, 256, 257, 258, 259, 260, 261, 262, 263, 264, 265, 267, 268, 269, 270, 271, 272, 274, 275, 276, 277, 278, 279, 281, 282, 283, 284, 285, 286, 288, 289, 290, 291, 292, 293, 295, 296, 297, 298, 299, 300, 302, 303, 304, 305, 306, 307, 308, 309, 310, 311, 312, 313, 315, 317, 318, 319, 320, 321, 322, 323, 324, 325, 326, 327, 328, 329, 330, 331, 332, 333, 334, 335, 336, 337, 338, 339, 340, 341, 342, 343, 344, 345, 346, 347, 348, 350, 351, 352, 353, 354, 355, 356, 357, 358, 359, 360, 361, 362, 364, 365, 366, 367, 368, 369, 371, 372, 373, 374, 375, 376, 378, 379, 380, 381, 382, 383, 385, 386, 387, 388, 389, 390, 392, 393, 394, 395, 396, 397, 399, 400, 401, 402, 403]) kn_X11_image_6 g'.fr hI.2.2.2.1, keepf (md := [210, 211, 212, 213, 214, 215, 216, 218, 220, 221, 222, 223, 224, 225, 226, 227, 228, 229, 230, 231, 232, 233, 234, 235, 236, 237, 238, 239, 240, 241, 242, 243, 244, 245, 246, 247, 248, 249, 250, 251, 253, 254, 255, 256, 257, 258, 259, 260, 261, 262, 263, 264, 265, 267, 268, 269, 270, 271, 272, 274, 275, 276, 277, 278, 279, 281, 282, 283, 284, 285, 286, 288, 289, 290, 291, 292, 293, 295, 296, 297, 298, 299, 300, 302, 303, 304, 305, 306, 307, 308, 309, 310, 311, 312, 313, 315, 317, 318, 319, 320, 321, 322, 323, 324, 325, 326, 327, 328, 329, 330, 331, 332, 333, 334, 335, 336, 337, 338, 339, 340, 341, 342, 343, 344, 345, 346, 347, 348, 350, 351, 352, 353, 354, 355, 356, 357, 358, 359, 360, 361, 362, 364, 365, 366, 367, 368, 369, 371, 372, 373, 374, 375, 376, 378, 379, 380, 381, 382, 383, 385, 386, 387, 388, 389, 390, 392, 393, 394, 395, 396, 397, 399, 400, 401, 402, 403]) kn_X11_image_2 g'.fr hI.2.2.2.2.1, keepf (md := [210, 211, 212, 213, 214, 215, 216, 218, 220, 221, 222, 223, 224, 225, 226, 227, 228, 229, 230, 231, 232, 233, 234, 235, 236, 237, 238, 239, 240, 241, 242, 243, 244, 245, 246, 247, 248, 249, 250, 251, 253, 254, 255, 256, 257, 258, 259, 260, 261, 262, 263, 264, 265, 267, 268, 269, 270, 271, 272, 274, 275, 276, 277, 278, 279, 281, 282, 283, 284, 285, 286, 288, 289, 290, 291, 292, 293, 295, 296, 297, 298, 299, 300, 302, 303, 304, 305, 306, 307, 308, 309, 310, 311, 312, 313, 315, 317, 318, 319, 320, 321, 322, 323, 324, 325, 326, 327, 328, 329, 330, 331, 332, 333, 334, 335, 336, 337, 338, 339, 340, 341, 342, 343, 344, 345, 346, 347, 348, 350, 351, 352, 353, 354, 355, 356, 357, 358, 359, 360, 361, 362, 364, 365, 366, 367, 368, 369, 371, 372, 373, 374, 375, 376, 378, 379, 380, 381, 382, 383, 385, 386, 387, 388, 389, 390, 392, 393, 394, 395, 396, 397, 399, 400, 401, 402, 403]) kn_X11_image_3 g'.fr hI.2.2.2.2.2⟩, rfl, by omega, ⟨sz3, sz4, sz5⟩, g'.fr⟩
    rcases List.mem_cons.mp hP with rfl | hP
    · obtain ⟨w, rfl, hw⟩ := r_int g'.gl
      have n0 : ν' 0 = 0 := g'.ag 0 (Nat.le_of_ble_eq_true rfl)
      have n1 : ν' 1 = a1.toInt := g'.ag 1 (Nat.le_of_ble_eq_true rfl)
      have n2 : ν' 2 = (μ.2.2.1 1 1).toInt := g'.ag 2 (Nat.le_of_ble_eq_true rfl)
      have n3 : ν' 3 = (μ.2.2.1 210 0).toInt := g'.ag 3 (Nat.le_of_ble_eq_true rfl)
      have n4 : ν' 4 = (μ.2.2.1 307 0).toInt := g'.ag 4 (Nat.le_of_ble_eq_true rfl)
      have sz0 : (μ'.2.2.1 1 1).toInt = (μ.2.2.1 1 1).toInt := by rw [(g'.fr 1 nc_X11_image_1).1]
      have sz1 : (μ'.2.2.1 210 0).toInt = ν' 0 + 1 := (g'.fa _ (List.Mem.head _)).2
      have sz2 : (μ'.2.2.1 307 0).toInt = ν' 4 + 0 := (g'.fa _ (List.Mem.tail _ (List.Mem.head _))).2
      have sz3 : (μ'.2.2.1 404 2).toInt = (μ.2.2.1 404 2).toInt := by rw [(g'.fr 404 nc_X11_image_404).1]
      have sz4 : (μ'.2.2.1 433 0).toInt = (μ.2.2.1 433 0).toInt := by rw [(g'.fr 433 nc_X11_image_433).1]
      have sz5 : (μ'.2.2.1 433 1).toInt = (μ.2.2.1 433 1).toInt := by rw [(g'.fr 433 nc_X11_image_433).1]
      have hw' : w.toInt = ν' 0 + 1 := hw
      have i1 : (0 : Int) ≤ ν' 1 ∧ ν' 1 ≤ 0 := g'.iv 1 (Nat.le_of_ble_eq_true rfl)
      have i2 : (0 : Int) ≤ ν' 2 ∧ ν' 2 ≤ 940 := g'.iv 2 (Nat.le_of_ble_eq_true rfl)
      have i3 : (0 : Int) ≤ ν' 3 ∧ ν' 3 ≤ 1 := g'.iv 3 (Nat.le_of_ble_eq_true rfl)
      have i4 : (0 : Int) ≤ ν' 4 ∧ ν' 4 ≤ 1 := g'.iv 4 (Nat.le_of_ble_eq_true rfl)
      exact hK _ w μ' ⟨⟨g'.sh, g'.hi, keepf (md := [210, 211, 212, 213, 214, 215, 216, 218, 220, 221, 222, 223, 224, 225, 226, 227, 228, 229, 230, 231, 232, 233, 234, 235, 236, 237, 238, 239, 240, 241, 242, 243, 244, 245, 246, 247, 248, 249, 250, 251, 253, 254, 255, 256, 257, 258, 259, 260, 261, 262, 263, 264, 265, 267, 268, 269, 270, 271, 272, 274, 275, 276, 277, 278, 279, 281, 282, 283, 284, 285, 286, 288, 289, 290, 291, 292, 293, 295, 296, 297, 298, 299, 300, 302, 303, 304, 305, 306, 307, 308, 309, 310, 311, 312, 313, 315, 317, 318, 319, 320, 321, 322, 323, 324, 325, 326, 327, 328, 329, 330, 331, 332, 333, 334, 335, 336, 337, 338, 339, 340, 341, 342, 343, 344, 345, 346, 347, 348, 350, 351, 352, 353, 354, 355, 356, 357, 358, 359, 360, 361, 362, 364, 365, 366, 367, 368, 369, 371, 372, 373, 374, 375, 376, 378, 379, 380, 381, 382, 383, 385, 386, 387, 388, 389, 390, 392, 393, 394, 395, 396, 397, 399, 400, 401, 402, 403]) kn_X11_image_0 g'.fr hI.2.2.1, keepf (md := [210, 211, 212, 213, 214, 215, 216, 218, 220, 221, 222, 223, 224, 225, 226, 227, 228, 229, 230, 231, 232, 233, 234, 235, 236, 237, 238, 239, 240, 241, 242, 243, 244, 245, 246, 247, 248, 249, 250, 251, 253, 254, 255, 256, 257, 258, 259, 260, 261, 262, 263, 264, 265, 267, 268, 269, 270, 271, 272, 274, 275, 276, 277, 278, 279, 281, 282, 283, 284, 285, 286, 288, 289, 290, 291, 292, 293, 295, 296, 297, 298, 299, 300, 302, 303, 304, 305, 306, 307, 308, 309, 310, 311, 312, 313, 315, 317, 318, 319, 320, 321, 322, 323, 324, 325, 326, 327, 328, 329, 330, 331, 332, 333, 334, 335, 336, 337, 338, 339, 340, 341, 342, 343, 344, 345, 346, 347, 348, 350, 351, 352, 353, 354, 355, 356, 357, 358, 359, 360, 361, 362, 364, 365, 366, 367, 368, 369, 371, 372, 373, 374, 375, 376, 378, 379, 380, 381, 382, 383, 385, 386, 387, 388, 389, 390, 392, 393, 394, 395, 396, 397, 399, 400, 401, 402, 403]) kn_X11_image_6 g'.fr hI.2.2.2.1, keepf (md := [210, 211, 212, 213, 214, 215, 216, 218, 220, 221, 222, 223, 224, 225, 226, 227, 228, 229, 230, 231, 232, 233, 234, 235, 236, 237, 238, 239, 240, 241, 242, 243, 244, 245, 246, 247, 248, 249, 250, 251, 253, 254, 255, 256, 257, 258, 259, 260, 261, 262, 263, 264, 265, 267, 268, 269, 270, 271, 272, 274, 275, 276, 277, 278, 279, 281, 282, 283, 284, 285, 286, 288, 289, 290, 291, 292, 293, 295, 296, 297, 298, 299, 300, 302, 303, 304, 305, 306, 307, 308, 309, 310, 311, 312, 313, 315, 317, 318, 319, 320, 321, 322, 323, 324, 325, 326, 327, 328, 329, 330, 331, 332, 333, 334, 335, 336, 337, 338, 339, 340, 341, 342, 343, 344, 345, 346, 347, 348, 350, 351, 352, 353, 354, 355, 356, 357, 358, 359, 360, 361, 362, 364, 365, 366, 367, 368, 369, 371, 372, 373, 374, 375, 376, 378, 379, 380, 381, 382, 383, 385, 386, 387, 388, 389, 390, 392, 393, 394, 395, 396, 397, 399, 400, 401, 402, 403]) kn_X11_image_2 g'.fr hI.2.2.2.2.1, keepf (md := [210, 211, 212, 213, 214, 215, 216, 218, 220, 221, 222, 223, 224, 225, 226, 227, 228, 229, 230, 231, 232, 233, 234, 235, 236, 237, 238, 239, 240, 241, 242, 243, 244, 245, 246, 247, 248, 249, 250, 251, 253, 254, 255, 256, 257, 258, 259, 260, 261, 262, 263, 264, 265, 267, 268, 269, 270, 271, 272, 274, 275, 276, 277, 278, 279, 281, 282, 283, 284, 285, 286, 288, 289, 290, 291, 292, 293, 295, 296, 297, 298, 299, 300, 302, 303, 304, 305, 306, 307, 308, 309, 310, 311, 312, 313, 315, 317, 318, 319, 320, 321, 322, 323, 324, 325, 326, 327, 328, 329, 330, 331, 332, 333, 334, 335, 336, 337, 338, 339, 340, 341, 342, 343, 344, 345, 346, 347, 348, 350, 351, 352, 353, 354, 355, 356, 357, 358, 359, 360, 361, 362, 364, 365, 366, 367, 368, 369, 371, 372, 373, 374, 375, 376, 378, 379, 380, 381, 382, 383, 385, 386, 387, 388, 389, 390, 392, 393, 394, 395, 396, 397, 399, 400, 401, 402, 403]) kn_X11_image_3 g'.fr hI.2.2.2.2.2⟩, rfl, by omega, ⟨sz3, sz4, sz5⟩, g'.fr⟩
    rcases List.mem_cons.mp hP with rfl | hP
    · obtain ⟨w, rfl, hw⟩ := r_int g'.gl
      have n0 : ν' 0 = 0 := g'.ag 0 (Nat.le_of_ble_eq_true rfl)
      have n1 : ν' 1 = a1.toInt := g'.ag 1 (Nat.le_of_ble_eq_true rfl)
      have n2 : ν' 2 = (μ.2.2.1 1 1).toInt := g'.ag 2 (Nat.le_of_ble_eq_true rfl)
      have n3 : ν' 3 = (μ.2.2.1 210 0).toInt := g'.ag 3 (Nat.le_of_ble_eq_true rfl)
      have n4 : ν' 4 = (μ.2.2.1 307 0).toInt := g'.ag 4 (Nat.le_of_ble_eq_true rfl)
      have sz0 : (μ'.2.2.1 1 1).toInt = (μ.2.2.1 1 1).toInt := by rw [(g'.fr 1 nc_X11_image_1).1]
      have sz1 : (μ'.2.2.1 210 0).toInt = ν' 3 + 0 := (g'.fa _ (List.Mem.head _)).2
      have sz2 : (μ'.2.2.1 307 0).toInt = ν' 4 + 0 := (g'.fa _ (List.Mem.tail _ (List.Mem.head _))).2
      have sz3 : (μ'.2.2.1 404 2).toInt = (μ.2.2.1 404 2).toInt := by rw [(g'.fr 404 nc_X11_image_404).1]
      have sz4 : (μ'.2.2.1 433 0).toInt = (μ.2.2.1 433 0).toInt := by rw [(g'.fr 433 nc_X11_image_433).1]
      have sz5 : (μ'.2.2.1 433 1).toInt = (μ.2.2.1 433 1).toInt := by rw [(g'.fr 433 nc_X11_image_433).1]
      have hw' : w.toInt = ν' 0 + 0 := hw
      have i1 : (-2147483648 : Int) ≤ ν' 1 ∧ ν' 1 ≤ -1 := g'.iv 1 (Nat.le_of_ble_eq_true rfl)
      have i2 : (0 : Int) ≤ ν' 2 ∧ ν' 2 ≤ 940 := g'.iv 2 (Nat.le_of_ble_eq_true rfl)
      have i3 : (0 : Int) ≤ ν' 3 ∧ ν' 3 ≤ 1 := g'.iv 3 (Nat.le_of_ble_eq_true rfl)
      have i4 : (0 : Int) ≤ ν' 4 ∧ ν' 4 ≤ 1 := g'.iv 4 (Nat.le_of_ble_eq_true rfl)
      exact hK _ w μ' ⟨⟨g'.sh, g'.hi, keepf (md := [210, 211, 212, 213, 214, 215, 216, 218, 220, 221, 222, 223, 224, 225, 226, 227, 228, 229, 230, 231, 232, 233, 234, 235, 236, 237, 238, 239, 240, 241, 242, 243, 244, 245, 246, 247, 248, 249, 250, 251, 253, 254, 255, 256, 257, 258, 259, 260, 261, 262, 263, 264, 265, 267, 268, 269, 270, 271, 272, 274, 275, 276, 277, 278, 279, 281, 282, 283, 284, 285, 286, 288, 289, 290, 291, 292, 293, 295, 296, 297, 298, 299, 300, 302, 303, 304, 305, 306, 307, 308, 309, 310, 311, 312, 313, 315, 317, 318, 319, 320, 321, 322, 323, 324, 325, 326, 327, 328, 329, 330, 331, 332, 333, 334, 335, 336, 337, 338, 339, 340, 341, 342, 343, 344, 345, 346, 347, 348, 350, 351, 352, 353, 354, 355, 356, 357, 358, 359, 360, 361, 362, 364, 365, 366, 367, 368, 369, 371, 372, 373, 374, 375, 376, 378, 379, 380, 381, 382, 383, 385, 386, 387, 388, 389, 390, 392, 393, 394, 395, 396, 397, 399, 400, 401, 402, 403]) kn_X11_image_0 g'.fr hI.2.2.1, keepf (md := [210, 211, 212, 213, 214, 215, 216, 218, 220, 221, 222, 223, 224, 225, 226, 227, 228, 229, 230, 231, 232, 233, 234, 235, 236, 237, 238, 239, 240, 241, 242, 243, 244, 245, 246, 247, 248, 249, 250, 251, 253, 254, 255, 256, 257, 258, 259, 260, 261, 262, 263, 264, 265, 267, 268, 269, 270, 271, 272, 274, 275, 276, 277, 278, 279, 281, 282, 283, 284, 285, 286, 288, 289, 290, 291, 292, 293, 295, 296, 297, 298, 299, 300, 302, 303, 304, 305, 306, 307, 308, 309, 310, 311, 312, 313, 315, 317, 318, 319, 320, 321, 322, 323, 324, 325, 326, 327, 328, 329, 330, 331, 332, 333, 334, 335, 336, 337, 338, 339, 340, 341, 342, 343, 344, 345, 346, 347, 348, 350, 351, 352, 353, 354, 355, 356, 357, 358, 359, 360, 361, 362, 364, 365, 366, 367, 368, 369, 371, 372, 373, 374, 375, 376, 378, 379, 380, 381, 382, 383, 385, 386, 387, 388, 389, 390, 392, 393, 394, 395, 396, 397, 399, 400, 401, 402, 403]) kn_X11_image_6 g'.fr hI.2.2.2.1, keepf (md := [210, 211, 212, 213, 214, 215, 216, 218, 220, 221, 222, 223, 224, 225, 226, 227, 228, 229, 230, 231, 232, 233, 234, 235, 236, 237, 238, 239, 240, 241, 242, 243, 244, 245, 246, 247, 248, 249, 250, 251, 253, 254, 255, 256, 257, 258, 259, 260, 261, 262, 263, 264, 265, 267, 268, 269, 270, 271, 272, 274, 275, 276, 277, 278, 279, 281, 282, 283, 284, 285, 286, 288, 289, 290, 291, 292, 293, 295, 296, 297, 298, 299, 300, 302, 303, 304, 305, 306, 307, 308, 309, 310, 311, 312, 313, 315, 317, 318, 319, 320, 321, 322, 323, 324, 325, 326, 327, 328, 329, 330, 331, 332, 333, 334, 335, 336, 337, 338, 339, 340, 341, 342, 343, 344, 345, 346, 347, 348, 350, 351, 352, 353, 354, 355, 356, 357, 358, 359, 360, 361, 362, 364, 365, 366, 367, 368, 369, 371, 372, 373, 374, 375, 376, 378, 379, 380, 381, 382, 383, 385, 386, 387, 388, 389, 390, 392, 393, 394, 395, 396, 397, 399, 400, 401, 402, 403]) kn_X11_image_2 g'.fr hI.2.2.2.2.1, keepf (md := [210, 211, 212, 213, 214, 215, 216, 218, 220, 221, 222, 223, 224, 225, 226, 227, 228, 229, 230, 231, 232, 233, 234, 235, 236, 237, 238, 239, 240, 241, 242, 243, 244, 245, 246, 247, 248, 249, 250, 251, 253, 254, 255, 256, 257, 258, 259, 260, 261, 262, 263, 264, 265, 267, 268, 269, 270, 271, 272, 274, 275, 276, 277, 278, 279, 281, 282, 283, 284, 285, 286, 288, 289, 290, 291, 292, 293, 295, 296, 297, 298, 299, 300, 302, 303, 304, 305, 306, 307, 308, 309, 310, 311, 312, 313, 315, 317, 318, 319, 320, 321, 322, 323, 324, 325, 326, 327, 328, 329, 330, 331, 332, 333, 334, 335, 336, 337, 338, 339, 340, 341, 342, 343, 344, 345, 346, 347, 348, 350, 351, 352, 353, 354, 355, 356, 357, 358, 359, 360, 361, 362, 364, 365, 366, 367, 368, 369, 371, 372, 373, 374, 375, 376, 378, 379, 380, 381, 382, 383, 385, 386, 387, 388, 389, 390, 392, 393, 394, 395, 396, 397, 399, 400, 401, 402, 403]) kn_X11_image_3 g'.fr hI.2.2.2.2.2⟩, rfl, by omega, ⟨sz3, sz4, sz5⟩, g'.fr⟩
    exact absurd hP List.not_mem_nil
abbrev ck_X11_lawn (μ : dw_S) (r : Option Value) (w : Int32) (μ' : dw_S) : Prop := (INV μ') ∧ (r = some (.int w)) ∧ ((μ'.2.2.1 1 1).toInt = 0 ∧ (μ'.2.2.1 210 0).toInt = (μ.2.2.1 210 0).toInt ∧ (μ'.2.2.1 307 0).toInt = (μ.2.2.1 307 0).toInt) ∧ ((μ'.2.2.1 404 2).toInt = (μ.2.2.1 404 2).toInt ∧ (μ'.2.2.1 433 0).toInt = (μ.2.2.1 433 0).toInt ∧ (μ'.2.2.1 433 1).toInt = (μ.2.2.1 433 1).toInt) ∧ (∀ a, a ∉ [1, 164, 165, 167, 168, 169, 170, 171, 172, 173, 174, 175, 176, 177, 178] → μ'.2.2.1 a = μ.2.2.1 a ∧ μ'.2.2.2 a = μ.2.2.2 a)
theorem kn_X11_lawn_0 : (fl_s 0).all (fun q => decide (q.1 ∉ ([1, 164, 165, 167, 168, 169, 170, 171, 172, 173, 174, 175, 176, 177, 178] : List Nat))) = true := by decide
theorem kn_X11_lawn_6 : (fl_s 6).all (fun q => decide (q.1 ∉ ([1, 164, 165, 167, 168, 169, 170, 171, 172, 173, 174, 175, 176, 177, 178] : List Nat))) = true := by decide
theorem kn_X11_lawn_2 : (fl_s 2).all (fun q => decide (q.1 ∉ ([1, 164, 165, 167, 168, 169, 170, 171, 172, 173, 174, 175, 176, 177, 178] : List Nat))) = true := by decide
theorem kn_X11_lawn_3 : (fl_s 3).all (fun q => decide (q.1 ∉ ([1, 164, 165, 167, 168, 169, 170, 171, 172, 173, 174, 175, 176, 177, 178] : List Nat))) = true := by decide
theorem nc_X11_lawn_210 : 210 ∉ ([1, 164, 165, 167, 168, 169, 170, 171, 172, 173, 174, 175, 176, 177, 178] : List Nat) := by decide
theorem nc_X11_lawn_307 : 307 ∉ ([1, 164, 165, 167, 168, 169, 170, 171, 172, 173, 174, 175, 176, 177, 178] : List Nat) := by decide
theorem nc_X11_lawn_404 : 404 ∉ ([1, 164, 165, 167, 168, 169, 170, 171, 172, 173, 174, 175, 176, 177, 178] : List Nat) := by decide
theorem nc_X11_lawn_433 : 433 ∉ ([1, 164, 165, 167, 168, 169, 170, 171, 172, 173, 174, 175, 176, 177, 178] : List Nat) := by decide
theorem cl_X11_lawn {μ : dw_S} {K : dw_K} (hI : INV μ) (hK : ∀ (r : Option Value) (w : Int32) (μ' : dw_S), ck_X11_lawn μ r w μ' → K r μ') : t_X11_lawn [.ref 0] μ K := by
  have h_1_1 := hI.2.1 1 1
  rw [sgc_0] at h_1_1
  refine al_364 188 (by decide) (fun s => [(0 : Int), ((μ.2.2.1 1 1).toInt : Int)].getD s (0 : Int)) [.ref 0] μ K ⟨hI.1, hI.2.1, fun _ _ => ⟨rfl, rfl⟩, rfl, Nat.le_refl _, Nat.le_of_ble_eq_true rfl, fun _ _ => rfl, ?_, fun q hq => absurd hq List.not_mem_nil, ?_, trivial, ?_, ?_⟩ ?_
  · exact iv2_ok (iv := (in_188).pre.iv) (vs := [(0 : Int), ((μ.2.2.1 1 1).toInt : Int)]) ⟨⟨Int.le_refl 0, Int.le_refl 0⟩, h_1_1, trivial⟩
  · exact ⟨⟨0, List.Mem.head _, rfl⟩, trivial⟩
  · exact dx_aL.all (l := (in_188).pre.fa) ⟨⟨Nat.le_of_ble_eq_true rfl, (Int.add_zero _).symm⟩, trivial⟩
  · exact dx_aL.all (l := (in_188).pre.fl) trivial
  · intro r μ' ν' P hP g'
    rcases List.mem_cons.mp hP with rfl | hP
    · obtain ⟨w, rfl, hw⟩ := r_int g'.gl
      have n0 : ν' 0 = 0 := g'.ag 0 (Nat.le_of_ble_eq_true rfl)
      have n1 : ν' 1 = (μ.2.2.1 1 1).toInt := g'.ag 1 (Nat.le_of_ble_eq_true rfl)
      have sz0 : (μ'.2.2.1 1 1).toInt = ν' 0 + 0 := (g'.fa _ (List.Mem.head _)).2
      have sz1 : (μ'.2.2.1 210 0).toInt = (μ.2.2.1 210 0).toInt := by rw [(g'.fr 210 nc_X11_lawn_210).1]
      have sz2 : (μ'.2.2.1 307 0).toInt = (μ.2.2.1 307 0).toInt := by rw [(g'.fr 307 nc_X11_lawn_307).1]
      have sz3 : (μ'.2.2.1 404 2).toInt = (μ.2.2.1 404 2).toInt := by rw [(g'.fr 404 nc_X11_lawn_404).1]
      have sz4 : (μ'.2.2.1 433 0).toInt = (μ.2.2.1 433 0).toInt := by rw [(g'.fr 433 nc_X11_lawn_433).1]
      have sz5 : (μ'.2.2.1 433 1).toInt = (μ.2.2.1 433 1).toInt := by rw [(g'.fr 433 nc_X11_lawn_433).1]
      have hw' : w.toInt = ν' 0 + (-1) := hw
      exact hK _ w μ' ⟨⟨g'.sh, g'.hi, keepf (md := [1, 164, 165, 167, 168, 169, 170, 171, 172, 173, 174, 175, 176, 177, 178]) kn_X11_lawn_0 g'.fr hI.2.2.1, keepf (md := [1, 164, 165, 167, 168, 169, 170, 171, 172, 173, 174, 175, 176, 177, 178]) kn_X11_lawn_6 g'.fr hI.2.2.2.1, keepf (md := [1, 164, 165, 167, 168, 169, 170, 171, 172, 173, 174, 175, 176, 177, 178]) kn_X11_lawn_2 g'.fr hI.2.2.2.2.1, keepf (md := [1, 164, 165, 167, 168, 169, 170, 171, 172, 173, 174, 175, 176, 177, 178]) kn_X11_lawn_3 g'.fr hI.2.2.2.2.2⟩, rfl, by omega, ⟨sz3, sz4, sz5⟩, g'.fr⟩
    rcases List.mem_cons.mp hP with rfl | hP
    · obtain ⟨w, rfl, hw⟩ := r_int g'.gl
      have n0 : ν' 0 = 0 := g'.ag 0 (Nat.le_of_ble_eq_true rfl)
      have n1 : ν' 1 = (μ.2.2.1 1 1).toInt := g'.ag 1 (Nat.le_of_ble_eq_true rfl)
      have sz0 : (μ'.2.2.1 1 1).toInt = ν' 0 + 0 := (g'.fa _ (List.Mem.head _)).2
      have sz1 : (μ'.2.2.1 210 0).toInt = (μ.2.2.1 210 0).toInt := by rw [(g'.fr 210 nc_X11_lawn_210).1]
      have sz2 : (μ'.2.2.1 307 0).toInt = (μ.2.2.1 307 0).toInt := by rw [(g'.fr 307 nc_X11_lawn_307).1]
      have sz3 : (μ'.2.2.1 404 2).toInt = (μ.2.2.1 404 2).toInt := by rw [(g'.fr 404 nc_X11_lawn_404).1]
      have sz4 : (μ'.2.2.1 433 0).toInt = (μ.2.2.1 433 0).toInt := by rw [(g'.fr 433 nc_X11_lawn_433).1]
      have sz5 : (μ'.2.2.1 433 1).toInt = (μ.2.2.1 433 1).toInt := by rw [(g'.fr 433 nc_X11_lawn_433).1]
      have hw' : w.toInt = ν' 2 + 0 := hw
      exact hK _ w μ' ⟨⟨g'.sh, g'.hi, keepf (md := [1, 164, 165, 167, 168, 169, 170, 171, 172, 173, 174, 175, 176, 177, 178]) kn_X11_lawn_0 g'.fr hI.2.2.1, keepf (md := [1, 164, 165, 167, 168, 169, 170, 171, 172, 173, 174, 175, 176, 177, 178]) kn_X11_lawn_6 g'.fr hI.2.2.2.1, keepf (md := [1, 164, 165, 167, 168, 169, 170, 171, 172, 173, 174, 175, 176, 177, 178]) kn_X11_lawn_2 g'.fr hI.2.2.2.2.1, keepf (md := [1, 164, 165, 167, 168, 169, 170, 171, 172, 173, 174, 175, 176, 177, 178]) kn_X11_lawn_3 g'.fr hI.2.2.2.2.2⟩, rfl, by omega, ⟨sz3, sz4, sz5⟩, g'.fr⟩
    exact absurd hP List.not_mem_nil
abbrev ck_X11_much (a1 a2 a3 a4 : Int32) (μ : dw_S) (r : Option Value) (w : Int32) (μ' : dw_S) : Prop := (INV μ') ∧ (r = some (.int w)) ∧ ((μ'.2.2.1 1 1).toInt = (μ.2.2.1 1 1).toInt ∧ (μ'.2.2.1 210 0).toInt = (μ.2.2.1 210 0).toInt ∧ (μ'.2.2.1 307 0).toInt = (μ.2.2.1 307 0).toInt) ∧ ((μ'.2.2.1 404 2).toInt = (μ.2.2.1 404 2).toInt ∧ (μ'.2.2.1 433 0).toInt = (μ.2.2.1 433 0).toInt ∧ (μ'.2.2.1 433 1).toInt = (μ.2.2.1 433 1).toInt) ∧ (∀ a, a ∉ [164, 165, 167, 168, 169, 170, 171, 172, 173, 174, 175, 176, 177, 178] → μ'.2.2.1 a = μ.2.2.1 a ∧ μ'.2.2.2 a = μ.2.2.2 a)
theorem kn_X11_much_0 : (fl_s 0).all (fun q => decide (q.1 ∉ ([164, 165, 167, 168, 169, 170, 171, 172, 173, 174, 175, 176, 177, 178] : List Nat))) = true := by decide
theorem kn_X11_much_6 : (fl_s 6).all (fun q => decide (q.1 ∉ ([164, 165, 167, 168, 169, 170, 171, 172, 173, 174, 175, 176, 177, 178] : List Nat))) = true := by decide
theorem kn_X11_much_2 : (fl_s 2).all (fun q => decide (q.1 ∉ ([164, 165, 167, 168, 169, 170, 171, 172, 173, 174, 175, 176, 177, 178] : List Nat))) = true := by decide
theorem kn_X11_much_3 : (fl_s 3).all (fun q => decide (q.1 ∉ ([164, 165, 167, 168, 169, 170, 171, 172, 173, 174, 175, 176, 177, 178] : List Nat))) = true := by decide
theorem nc_X11_much_1 : 1 ∉ ([164, 165, 167, 168, 169, 170, 171, 172, 173, 174, 175, 176, 177, 178] : List Nat) := by decide
theorem nc_X11_much_210 : 210 ∉ ([164, 165, 167, 168, 169, 170, 171, 172, 173, 174, 175, 176, 177, 178] : List Nat) := by decide
theorem nc_X11_much_307 : 307 ∉ ([164, 165, 167, 168, 169, 170, 171, 172, 173, 174, 175, 176, 177, 178] : List Nat) := by decide
theorem nc_X11_much_404 : 404 ∉ ([164, 165, 167, 168, 169, 170, 171, 172, 173, 174, 175, 176, 177, 178] : List Nat) := by decide
theorem nc_X11_much_433 : 433 ∉ ([164, 165, 167, 168, 169, 170, 171, 172, 173, 174, 175, 176, 177, 178] : List Nat) := by decide
theorem cl_X11_much {μ : dw_S} {K : dw_K} {a1 a2 a3 a4 : Int32} (hI : INV μ) (hK : ∀ (r : Option Value) (w : Int32) (μ' : dw_S), ck_X11_much a1 a2 a3 a4 μ r w μ' → K r μ') : t_X11_much [.ref 0, .int a1, .int a2, .int a3, .int a4] μ K := by
  have h_1_1 := hI.2.1 1 1
  rw [sgc_0] at h_1_1
  refine al_364 189 (by decide) (fun s => [(0 : Int), (a1.toInt : Int), (a2.toInt : Int), (a3.toInt : Int), (a4.toInt : Int), ((μ.2.2.1 1 1).toInt : Int)].getD s (0 : Int)) [.ref 0, .int a1, .int a2, .int a3, .int a4] μ K ⟨hI.1, hI.2.1, fun _ _ => ⟨rfl, rfl⟩, rfl, Nat.le_refl _, Nat.le_of_ble_eq_true rfl, fun _ _ => rfl, ?_, fun q hq => absurd hq List.not_mem_nil, ?_, trivial, ?_, ?_⟩ ?_
  · exact iv2_ok (iv := (in_189).pre.iv) (vs := [(0 : Int), (a1.toInt : Int), (a2.toInt : Int), (a3.toInt : Int), (a4.toInt : Int), ((μ.2.2.1 1 1).toInt : Int)]) ⟨⟨Int.le_refl 0, Int.le_refl 0⟩, ⟨dx_b1 _, dx_b2 _⟩, ⟨dx_b1 _, dx_b2 _⟩, ⟨dx_b1 _, dx_b2 _⟩, ⟨dx_b1 _, dx_b2 _⟩, h_1_1, trivial⟩
  · exact ⟨⟨0, List.Mem.head _, rfl⟩, ⟨Nat.le_of_ble_eq_true rfl, a1, rfl, (Int.add_zero _).symm⟩, ⟨Nat.le_of_ble_eq_true rfl, a2, rfl, (Int.add_zero _).symm⟩, ⟨Nat.le_of_ble_eq_true rfl, a3, rfl, (Int.add_zero _).symm⟩, ⟨Nat.le_of_ble_eq_true rfl, a4, rfl, (Int.add_zero _).symm⟩, trivial⟩
  · exact dx_aL.all (l := (in_189).pre.fa) ⟨⟨Nat.le_of_ble_eq_true rfl, (Int.add_zero _).symm⟩, trivial⟩
  · exact dx_aL.all (l := (in_189).pre.fl) trivial
  · intro r μ' ν' P hP g'
    rcases List.mem_cons.mp hP with rfl | hP
    · obtain ⟨w, rfl, hw⟩ := r_int g'.gl
      have n0 : ν' 0 = 0 := g'.ag 0 (Nat.le_of_ble_eq_true rfl)
      have n1 : ν' 1 = a1.toInt := g'.ag 1 (Nat.le_of_ble_eq_true rfl)
      have n2 : ν' 2 = a2.toInt := g'.ag 2 (Nat.le_of_ble_eq_true rfl)
      have n3 : ν' 3 = a3.toInt := g'.ag 3 (Nat.le_of_ble_eq_true rfl)
      have n4 : ν' 4 = a4.toInt := g'.ag 4 (Nat.le_of_ble_eq_true rfl)
      have n5 : ν' 5 = (μ.2.2.1 1 1).toInt := g'.ag 5 (Nat.le_of_ble_eq_true rfl)
      have sz0 : (μ'.2.2.1 1 1).toInt = (μ.2.2.1 1 1).toInt := by rw [(g'.fr 1 nc_X11_much_1).1]
      have sz1 : (μ'.2.2.1 210 0).toInt = (μ.2.2.1 210 0).toInt := by rw [(g'.fr 210 nc_X11_much_210).1]
      have sz2 : (μ'.2.2.1 307 0).toInt = (μ.2.2.1 307 0).toInt := by rw [(g'.fr 307 nc_X11_much_307).1]
      have sz3 : (μ'.2.2.1 404 2).toInt = (μ.2.2.1 404 2).toInt := by rw [(g'.fr 404 nc_X11_much_404).1]
      have sz4 : (μ'.2.2.1 433 0).toInt = (μ.2.2.1 433 0).toInt := by rw [(g'.fr 433 nc_X11_much_433).1]
      have sz5 : (μ'.2.2.1 433 1).toInt = (μ.2.2.1 433 1).toInt := by rw [(g'.fr 433 nc_X11_much_433).1]
      have hw' : w.toInt = ν' 0 + (-1) := hw
      exact hK _ w μ' ⟨⟨g'.sh, g'.hi, keepf (md := [164, 165, 167, 168, 169, 170, 171, 172, 173, 174, 175, 176, 177, 178]) kn_X11_much_0 g'.fr hI.2.2.1, keepf (md := [164, 165, 167, 168, 169, 170, 171, 172, 173, 174, 175, 176, 177, 178]) kn_X11_much_6 g'.fr hI.2.2.2.1, keepf (md := [164, 165, 167, 168, 169, 170, 171, 172, 173, 174, 175, 176, 177, 178]) kn_X11_much_2 g'.fr hI.2.2.2.2.1, keepf (md := [164, 165, 167, 168, 169, 170, 171, 172, 173, 174, 175, 176, 177, 178]) kn_X11_much_3 g'.fr hI.2.2.2.2.2⟩, rfl, by omega, ⟨sz3, sz4, sz5⟩, g'.fr⟩
    rcases List.mem_cons.mp hP with rfl | hP
    · obtain ⟨w, rfl, hw⟩ := r_int g'.gl
      have n0 : ν' 0 = 0 := g'.ag 0 (Nat.le_of_ble_eq_true rfl)
      have n1 : ν' 1 = a1.toInt := g'.ag 1 (Nat.le_of_ble_eq_true rfl)
      have n2 : ν' 2 = a2.toInt := g'.ag 2 (Nat.le_of_ble_eq_true rfl)
      have n3 : ν' 3 = a3.toInt := g'.ag 3 (Nat.le_of_ble_eq_true rfl)
      have n4 : ν' 4 = a4.toInt := g'.ag 4 (Nat.le_of_ble_eq_true rfl)
      have n5 : ν' 5 = (μ.2.2.1 1 1).toInt := g'.ag 5 (Nat.le_of_ble_eq_true rfl)
      have sz0 : (μ'.2.2.1 1 1).toInt = (μ.2.2.1 1 1).toInt := by rw [(g'.fr 1 nc_X11_much_1).1]
      have sz1 : (μ'.2.2.1 210 0).toInt = (μ.2.2.1 210 0).toInt := by rw [(g'.fr 210 nc_X11_much_210).1]
      have sz2 : (μ'.2.2.1 307 0).toInt = (μ.2.2.1 307 0).toInt := by rw [(g'.fr 307 nc_X11_much_307).1]
      have sz3 : (μ'.2.2.1 404 2).toInt = (μ.2.2.1 404 2).toInt := by rw [(g'.fr 404 nc_X11_much_404).1]
      have sz4 : (μ'.2.2.1 433 0).toInt = (μ.2.2.1 433 0).toInt := by rw [(g'.fr 433 nc_X11_much_433).1]
      have sz5 : (μ'.2.2.1 433 1).toInt = (μ.2.2.1 433 1).toInt := by rw [(g'.fr 433 nc_X11_much_433).1]
      have hw' : w.toInt = ν' 6 + 0 := hw
      have i1 : (0 : Int) ≤ ν' 1 ∧ ν' 1 ≤ 5 := g'.iv 1 (Nat.le_of_ble_eq_true rfl)
      have i2 : (0 : Int) ≤ ν' 2 ∧ ν' 2 ≤ 939 := g'.iv 2 (Nat.le_of_ble_eq_true rfl)
      have i3 : (0 : Int) ≤ ν' 3 ∧ ν' 3 ≤ 11 := g'.iv 3 (Nat.le_of_ble_eq_true rfl)
      have i4 : (0 : Int) ≤ ν' 4 ∧ ν' 4 ≤ 143 := g'.iv 4 (Nat.le_of_ble_eq_true rfl)
      exact hK _ w μ' ⟨⟨g'.sh, g'.hi, keepf (md := [164, 165, 167, 168, 169, 170, 171, 172, 173, 174, 175, 176, 177, 178]) kn_X11_much_0 g'.fr hI.2.2.1, keepf (md := [164, 165, 167, 168, 169, 170, 171, 172, 173, 174, 175, 176, 177, 178]) kn_X11_much_6 g'.fr hI.2.2.2.1, keepf (md := [164, 165, 167, 168, 169, 170, 171, 172, 173, 174, 175, 176, 177, 178]) kn_X11_much_2 g'.fr hI.2.2.2.2.1, keepf (md := [164, 165, 167, 168, 169, 170, 171, 172, 173, 174, 175, 176, 177, 178]) kn_X11_much_3 g'.fr hI.2.2.2.2.2⟩, rfl, by omega, ⟨sz3, sz4, sz5⟩, g'.fr⟩
    rcases List.mem_cons.mp hP with rfl | hP
    · obtain ⟨w, rfl, hw⟩ := r_int g'.gl
      have n0 : ν' 0 = 0 := g'.ag 0 (Nat.le_of_ble_eq_true rfl)
      have n1 : ν' 1 = a1.toInt := g'.ag 1 (Nat.le_of_ble_eq_true rfl)
      have n2 : ν' 2 = a2.toInt := g'.ag 2 (Nat.le_of_ble_eq_true rfl)
      have n3 : ν' 3 = a3.toInt := g'.ag 3 (Nat.le_of_ble_eq_true rfl)
      have n4 : ν' 4 = a4.toInt := g'.ag 4 (Nat.le_of_ble_eq_true rfl)
      have n5 : ν' 5 = (μ.2.2.1 1 1).toInt := g'.ag 5 (Nat.le_of_ble_eq_true rfl)
      have sz0 : (μ'.2.2.1 1 1).toInt = (μ.2.2.1 1 1).toInt := by rw [(g'.fr 1 nc_X11_much_1).1]
      have sz1 : (μ'.2.2.1 210 0).toInt = (μ.2.2.1 210 0).toInt := by rw [(g'.fr 210 nc_X11_much_210).1]
      have sz2 : (μ'.2.2.1 307 0).toInt = (μ.2.2.1 307 0).toInt := by rw [(g'.fr 307 nc_X11_much_307).1]
      have sz3 : (μ'.2.2.1 404 2).toInt = (μ.2.2.1 404 2).toInt := by rw [(g'.fr 404 nc_X11_much_404).1]
      have sz4 : (μ'.2.2.1 433 0).toInt = (μ.2.2.1 433 0).toInt := by rw [(g'.fr 433 nc_X11_much_433).1]
      have sz5 : (μ'.2.2.1 433 1).toInt = (μ.2.2.1 433 1).toInt := by rw [(g'.fr 433 nc_X11_much_433).1]
      have hw' : w.toInt = ν' 0 + 0 := hw
      have i1 : (0 : Int) ≤ ν' 1 ∧ ν' 1 ≤ 5 := g'.iv 1 (Nat.le_of_ble_eq_true rfl)
      have i2 : (0 : Int) ≤ ν' 2 ∧ ν' 2 ≤ 939 := g'.iv 2 (Nat.le_of_ble_eq_true rfl)
      have i3 : (0 : Int) ≤ ν' 3 ∧ ν' 3 ≤ 11 := g'.iv 3 (Nat.le_of_ble_eq_true rfl)
      have i4 : (0 : Int) ≤ ν' 4 ∧ ν' 4 ≤ 143 := g'.iv 4 (Nat.le_of_ble_eq_true rfl)
      exact hK _ w μ' ⟨⟨g'.sh, g'.hi, keepf (md := [164, 165, 167, 168, 169, 170, 171, 172, 173, 174, 175, 176, 177, 178]) kn_X11_much_0 g'.fr hI.2.2.1, keepf (md := [164, 165, 167, 168, 169, 170, 171, 172, 173, 174, 175, 176, 177, 178]) kn_X11_much_6 g'.fr hI.2.2.2.1, keepf (md := [164, 165, 167, 168, 169, 170, 171, 172, 173, 174, 175, 176, 177, 178]) kn_X11_much_2 g'.fr hI.2.2.2.2.1, keepf (md := [164, 165, 167, 168, 169, 170, 171, 172, 173, 174, 175, 176, 177, 178]) kn_X11_much_3 g'.fr hI.2.2.2.2.2⟩, rfl, by omega, ⟨sz3, sz4, sz5⟩, g'.fr⟩
    exact absurd hP List.not_mem_nil
abbrev ck_X11_night (a1 : Int32) (μ : dw_S) (r : Option Value) (w : Int32) (μ' : dw_S) : Prop := (INV μ') ∧ (r = some (.int w)) ∧ ((μ'.2.2.1 1 1).toInt = 0 ∧ (μ'.2.2.1 210 0).toInt = (μ.2.2.1 210 0).toInt ∧ (μ'.2.2.1 307 0).toInt = (μ.2.2.1 307 0).toInt) ∧ ((μ'.2.2.1 404 2).toInt = (μ.2.2.1 404 2).toInt ∧ (μ'.2.2.1 433 0).toInt = (μ.2.2.1 433 0).toInt ∧ (μ'.2.2.1 433 1).toInt = (μ.2.2.1 433 1).toInt) ∧ (∀ a, a ∉ [1, 58, 60, 61, 62, 63, 64, 65, 67, 68, 69, 70, 71, 72, 74, 75, 76, 77, 78, 79, 81, 82, 83, 84, 85, 86, 88, 89, 90, 91, 92, 93, 95, 96, 97, 98, 99, 123, 124, 126, 127, 128, 129, 130] → μ'.2.2.1 a = μ.2.2.1 a ∧ μ'.2.2.2 a = μ.2.2.2 a)
theorem kn_X11_night_0 : (fl_s 0).all (fun q => decide (q.1 ∉ ([1, 58, 60, 61, 62, 63, 64, 65, 67, 68, 69, 70, 71, 72, 74, 75, 76, 77, 78, 79, 81, 82, 83, 84, 85, 86, 88, 89, 90, 91, 92, 93, 95, 96, 97, 98, 99, 123, 124, 126, 127, 128, 129, 130] : List Nat))) = true := by decide
theorem kn_X11_night_6 : (fl_s 6).all (fun q => decide (q.1 ∉ ([1, 58, 60, 61, 62, 63, 64, 65, 67, 68, 69, 70, 71, 72, 74, 75, 76, 77, 78, 79, 81, 82, 83, 84, 85, 86, 88, 89, 90, 91, 92, 93, 95, 96, 97, 98, 99, 123, 124, 126, 127, 128, 129, 130] : List Nat))) = true := by decide
theorem kn_X11_night_2 : (fl_s 2).all (fun q => decide (q.1 ∉ ([1, 58, 60, 61, 62, 63, 64, 65, 67, 68, 69, 70, 71, 72, 74, 75, 76, 77, 78, 79, 81, 82, 83, 84, 85, 86, 88, 89, 90, 91, 92, 93, 95, 96, 97, 98, 99, 123, 124, 126, 127, 128, 129, 130] : List Nat))) = true := by decide
theorem kn_X11_night_3 : (fl_s 3).all (fun q => decide (q.1 ∉ ([1, 58, 60, 61, 62, 63, 64, 65, 67, 68, 69, 70, 71, 72, 74, 75, 76, 77, 78, 79, 81, 82, 83, 84, 85, 86, 88, 89, 90, 91, 92, 93, 95, 96, 97, 98, 99, 123, 124, 126, 127, 128, 129, 130] : List Nat))) = true := by decide
theorem nc_X11_night_210 : 210 ∉ ([1, 58, 60, 61, 62, 63, 64, 65, 67, 68, 69, 70, 71, 72, 74, 75, 76, 77, 78, 79, 81, 82, 83, 84, 85, 86, 88, 89, 90, 91, 92, 93, 95, 96, 97, 98, 99, 123, 124, 126, 127, 128, 129, 130] : List Nat) := by decide
theorem nc_X11_night_307 : 307 ∉ ([1, 58, 60, 61, 62, 63, 64, 65, 67, 68, 69, 70, 71, 72, 74, 75, 76, 77, 78, 79, 81, 82, 83, 84, 85, 86, 88, 89, 90, 91, 92, 93, 95, 96, 97, 98, 99, 123, 124, 126, 127, 128, 129, 130] : List Nat) := by decide
theorem nc_X11_night_404 : 404 ∉ ([1, 58, 60, 61, 62, 63, 64, 65, 67, 68, 69, 70, 71, 72, 74, 75, 76, 77, 78, 79, 81, 82, 83, 84, 85, 86, 88, 89, 90, 91, 92, 93, 95, 96, 97, 98, 99, 123, 124, 126, 127, 128, 129, 130] : List Nat) := by decide
theorem nc_X11_night_433 : 433 ∉ ([1, 58, 60, 61, 62, 63, 64, 65, 67, 68, 69, 70, 71, 72, 74, 75, 76, 77, 78, 79, 81, 82, 83, 84, 85, 86, 88, 89, 90, 91, 92, 93, 95, 96, 97, 98, 99, 123, 124, 126, 127, 128, 129, 130] : List Nat) := by decide
theorem cl_X11_night {μ : dw_S} {K : dw_K} {a1 : Int32} (hI : INV μ) (hK : ∀ (r : Option Value) (w : Int32) (μ' : dw_S), ck_X11_night a1 μ r w μ' → K r μ') : t_X11_night [.ref 0, .int a1] μ K := by
  have h_1_1 := hI.2.1 1 1
  rw [sgc_0] at h_1_1
  refine al_364 201 (by decide) (fun s => [(0 : Int), (a1.toInt : Int), ((μ.2.2.1 1 1).toInt : Int)].getD s (0 : Int)) [.ref 0, .int a1] μ K ⟨hI.1, hI.2.1, fun _ _ => ⟨rfl, rfl⟩, rfl, Nat.le_refl _, Nat.le_of_ble_eq_true rfl, fun _ _ => rfl, ?_, fun q hq => absurd hq List.not_mem_nil, ?_, trivial, ?_, ?_⟩ ?_
  · exact iv2_ok (iv := (in_201).pre.iv) (vs := [(0 : Int), (a1.toInt : Int), ((μ.2.2.1 1 1).toInt : Int)]) ⟨⟨Int.le_refl 0, Int.le_refl 0⟩, ⟨dx_b1 _, dx_b2 _⟩, h_1_1, trivial⟩
  · exact ⟨⟨0, List.Mem.head _, rfl⟩, ⟨Nat.le_of_ble_eq_true rfl, a1, rfl, (Int.add_zero _).symm⟩, trivial⟩
  · exact dx_aL.all (l := (in_201).pre.fa) ⟨⟨Nat.le_of_ble_eq_true rfl, (Int.add_zero _).symm⟩, trivial⟩
  · exact dx_aL.all (l := (in_201).pre.fl) trivial
  · intro r μ' ν' P hP g'
    rcases List.mem_cons.mp hP with rfl | hP
    · obtain ⟨w, rfl, hw⟩ := r_int g'.gl
      have n0 : ν' 0 = 0 := g'.ag 0 (Nat.le_of_ble_eq_true rfl)
      have n1 : ν' 1 = a1.toInt := g'.ag 1 (Nat.le_of_ble_eq_true rfl)
      have n2 : ν' 2 = (μ.2.2.1 1 1).toInt := g'.ag 2 (Nat.le_of_ble_eq_true rfl)
      have sz0 : (μ'.2.2.1 1 1).toInt = ν' 0 + 0 := (g'.fa _ (List.Mem.head _)).2
      have sz1 : (μ'.2.2.1 210 0).toInt = (μ.2.2.1 210 0).toInt := by rw [(g'.fr 210 nc_X11_night_210).1]
      have sz2 : (μ'.2.2.1 307 0).toInt = (μ.2.2.1 307 0).toInt := by rw [(g'.fr 307 nc_X11_night_307).1]
      have sz3 : (μ'.2.2.1 404 2).toInt = (μ.2.2.1 404 2).toInt := by rw [(g'.fr 404 nc_X11_night_404).1]
      have sz4 : (μ'.2.2.1 433 0).toInt = (μ.2.2.1 433 0).toInt := by rw [(g'.fr 433 nc_X11_night_433).1]
      have sz5 : (μ'.2.2.1 433 1).toInt = (μ.2.2.1 433 1).toInt := by rw [(g'.fr 433 nc_X11_night_433).1]
      have hw' : w.toInt = ν' 0 + (-1001) := hw
      exact hK _ w μ' ⟨⟨g'.sh, g'.hi, keepf (md := [1, 58, 60, 61, 62, 63, 64, 65, 67, 68, 69, 70, 71, 72, 74, 75, 76, 77, 78, 79, 81, 82, 83, 84, 85, 86, 88, 89, 90, 91, 92, 93, 95, 96, 97, 98, 99, 123, 124, 126, 127, 128, 129, 130]) kn_X11_night_0 g'.fr hI.2.2.1, keepf (md := [1, 58, 60, 61, 62, 63, 64, 65, 67, 68, 69, 70, 71, 72, 74, 75, 76, 77, 78, 79, 81, 82, 83, 84, 85, 86, 88, 89, 90, 91, 92, 93, 95, 96, 97, 98, 99, 123, 124, 126, 127, 128, 129, 130]) kn_X11_night_6 g'.fr hI.2.2.2.1, keepf (md := [1, 58, 60, 61, 62, 63, 64, 65, 67, 68, 69, 70, 71, 72, 74, 75, 76, 77, 78, 79, 81, 82, 83, 84, 85, 86, 88, 89, 90, 91, 92, 93, 95, 96, 97, 98, 99, 123, 124, 126, 127, 128, 129, 130]) kn_X11_night_2 g'.fr hI.2.2.2.2.1, keepf (md := [1, 58, 60, 61, 62, 63, 64, 65, 67, 68, 69, 70, 71, 72, 74, 75, 76, 77, 78, 79, 81, 82, 83, 84, 85, 86, 88, 89, 90, 91, 92, 93, 95, 96, 97, 98, 99, 123, 124, 126, 127, 128, 129, 130]) kn_X11_night_3 g'.fr hI.2.2.2.2.2⟩, rfl, by omega, ⟨sz3, sz4, sz5⟩, g'.fr⟩
    rcases List.mem_cons.mp hP with rfl | hP
    · obtain ⟨w, rfl, hw⟩ := r_int g'.gl
      have n0 : ν' 0 = 0 := g'.ag 0 (Nat.le_of_ble_eq_true rfl)
      have n1 : ν' 1 = a1.toInt := g'.ag 1 (Nat.le_of_ble_eq_true rfl)
      have n2 : ν' 2 = (μ.2.2.1 1 1).toInt := g'.ag 2 (Nat.le_of_ble_eq_true rfl)
      have sz0 : (μ'.2.2.1 1 1).toInt = ν' 0 + 0 := (g'.fa _ (List.Mem.head _)).2
      have sz1 : (μ'.2.2.1 210 0).toInt = (μ.2.2.1 210 0).toInt := by rw [(g'.fr 210 nc_X11_night_210).1]
      have sz2 : (μ'.2.2.1 307 0).toInt = (μ.2.2.1 307 0).toInt := by rw [(g'.fr 307 nc_X11_night_307).1]
      have sz3 : (μ'.2.2.1 404 2).toInt = (μ.2.2.1 404 2).toInt := by rw [(g'.fr 404 nc_X11_night_404).1]
      have sz4 : (μ'.2.2.1 433 0).toInt = (μ.2.2.1 433 0).toInt := by rw [(g'.fr 433 nc_X11_night_433).1]
      have sz5 : (μ'.2.2.1 433 1).toInt = (μ.2.2.1 433 1).toInt := by rw [(g'.fr 433 nc_X11_night_433).1]
      have hw' : w.toInt = ν' 3 + 0 := hw
      have i1 : (0 : Int) ≤ ν' 1 ∧ ν' 1 ≤ 5 := g'.iv 1 (Nat.le_of_ble_eq_true rfl)
      exact hK _ w μ' ⟨⟨g'.sh, g'.hi, keepf (md := [1, 58, 60, 61, 62, 63, 64, 65, 67, 68, 69, 70, 71, 72, 74, 75, 76, 77, 78, 79, 81, 82, 83, 84, 85, 86, 88, 89, 90, 91, 92, 93, 95, 96, 97, 98, 99, 123, 124, 126, 127, 128, 129, 130]) kn_X11_night_0 g'.fr hI.2.2.1, keepf (md := [1, 58, 60, 61, 62, 63, 64, 65, 67, 68, 69, 70, 71, 72, 74, 75, 76, 77, 78, 79, 81, 82, 83, 84, 85, 86, 88, 89, 90, 91, 92, 93, 95, 96, 97, 98, 99, 123, 124, 126, 127, 128, 129, 130]) kn_X11_night_6 g'.fr hI.2.2.2.1, keepf (md := [1, 58, 60, 61, 62, 63, 64, 65, 67, 68, 69, 70, 71, 72, 74, 75, 76, 77, 78, 79, 81, 82, 83, 84, 85, 86, 88, 89, 90, 91, 92, 93, 95, 96, 97, 98, 99, 123, 124, 126, 127, 128, 129, 130]) kn_X11_night_2 g'.fr hI.2.2.2.2.1, keepf (md := [1, 58, 60, 61, 62, 63, 64, 65, 67, 68, 69, 70, 71, 72, 74, 75, 76, 77, 78, 79, 81, 82, 83, 84, 85, 86, 88, 89, 90, 91, 92, 93, 95, 96, 97, 98, 99, 123, 124, 126, 127, 128, 129, 130]) kn_X11_night_3 g'.fr hI.2.2.2.2.2⟩, rfl, by omega, ⟨sz3, sz4, sz5⟩, g'.fr⟩
    exact absurd hP List.not_mem_nil
abbrev ck_X11_now (a1 : Int32) (μ : dw_S) (r : Option Value) (w : Int32) (μ' : dw_S) : Prop := (INV μ') ∧ (r = some (.int w)) ∧ ((μ'.2.2.1 1 1).toInt = (μ.2.2.1 1 1).toInt ∧ (μ'.2.2.1 210 0).toInt = (μ.2.2.1 210 0).toInt ∧ (μ'.2.2.1 307 0).toInt = (μ.2.2.1 307 0).toInt) ∧ ((μ'.2.2.1 404 2).toInt = (μ.2.2.1 404 2).toInt ∧ (μ'.2.2.1 433 0).toInt = (μ.2.2.1 433 0).toInt ∧ (μ'.2.2.1 433 1).toInt = (μ.2.2.1 433 1).toInt) ∧ (∀ a, a ∉ [] → μ'.2.2.1 a = μ.2.2.1 a ∧ μ'.2.2.2 a = μ.2.2.2 a)
theorem kn_X11_now_0 : (fl_s 0).all (fun q => decide (q.1 ∉ ([] : List Nat))) = true := by decide
theorem kn_X11_now_6 : (fl_s 6).all (fun q => decide (q.1 ∉ ([] : List Nat))) = true := by decide
theorem kn_X11_now_2 : (fl_s 2).all (fun q => decide (q.1 ∉ ([] : List Nat))) = true := by decide
theorem kn_X11_now_3 : (fl_s 3).all (fun q => decide (q.1 ∉ ([] : List Nat))) = true := by decide
theorem nc_X11_now_1 : 1 ∉ ([] : List Nat) := by decide
theorem nc_X11_now_210 : 210 ∉ ([] : List Nat) := by decide
theorem nc_X11_now_307 : 307 ∉ ([] : List Nat) := by decide
theorem nc_X11_now_404 : 404 ∉ ([] : List Nat) := by decide
theorem nc_X11_now_433 : 433 ∉ ([] : List Nat) := by decide
theorem cl_X11_now {μ : dw_S} {K : dw_K} {a1 : Int32} (hI : INV μ) (hK : ∀ (r : Option Value) (w : Int32) (μ' : dw_S), ck_X11_now a1 μ r w μ' → K r μ') : t_X11_now [.ref 0, .int a1] μ K := by
  have h_1_1 := hI.2.1 1 1
  rw [sgc_0] at h_1_1
  refine al_364 204 (by decide) (fun s => [(0 : Int), (a1.toInt : Int), ((μ.2.2.1 1 1).toInt : Int)].getD s (0 : Int)) [.ref 0, .int a1] μ K ⟨hI.1, hI.2.1, fun _ _ => ⟨rfl, rfl⟩, rfl, Nat.le_refl _, Nat.le_of_ble_eq_true rfl, fun _ _ => rfl, ?_, fun q hq => absurd hq List.not_mem_nil, ?_, trivial, ?_, ?_⟩ ?_
  · exact iv2_ok (iv := (in_204).pre.iv) (vs := [(0 : Int), (a1.toInt : Int), ((μ.2.2.1 1 1).toInt : Int)]) ⟨⟨Int.le_refl 0, Int.le_refl 0⟩, ⟨dx_b1 _, dx_b2 _⟩, h_1_1, trivial⟩
  · exact ⟨⟨0, List.Mem.head _, rfl⟩, ⟨Nat.le_of_ble_eq_true rfl, a1, rfl, (Int.add_zero _).symm⟩, trivial⟩
  · exact dx_aL.all (l := (in_204).pre.fa) ⟨⟨Nat.le_of_ble_eq_true rfl, (Int.add_zero _).symm⟩, trivial⟩
  · exact dx_aL.all (l := (in_204).pre.fl) trivial
  · intro r μ' ν' P hP g'
    rcases List.mem_cons.mp hP with rfl | hP
    · obtain ⟨w, rfl, hw⟩ := r_int g'.gl
      have n0 : ν' 0 = 0 := g'.ag 0 (Nat.le_of_ble_eq_true rfl)
      have n1 : ν' 1 = a1.toInt := g'.ag 1 (Nat.le_of_ble_eq_true rfl)
      have n2 : ν' 2 = (μ.2.2.1 1 1).toInt := g'.ag 2 (Nat.le_of_ble_eq_true rfl)
      have sz0 : (μ'.2.2.1 1 1).toInt = (μ.2.2.1 1 1).toInt := by rw [(g'.fr 1 nc_X11_now_1).1]
      have sz1 : (μ'.2.2.1 210 0).toInt = (μ.2.2.1 210 0).toInt := by rw [(g'.fr 210 nc_X11_now_210).1]
      have sz2 : (μ'.2.2.1 307 0).toInt = (μ.2.2.1 307 0).toInt := by rw [(g'.fr 307 nc_X11_now_307).1]
      have sz3 : (μ'.2.2.1 404 2).toInt = (μ.2.2.1 404 2).toInt := by rw [(g'.fr 404 nc_X11_now_404).1]
      have sz4 : (μ'.2.2.1 433 0).toInt = (μ.2.2.1 433 0).toInt := by rw [(g'.fr 433 nc_X11_now_433).1]
      have sz5 : (μ'.2.2.1 433 1).toInt = (μ.2.2.1 433 1).toInt := by rw [(g'.fr 433 nc_X11_now_433).1]
      have hw' : w.toInt = ν' 0 + (-1) := hw
      exact hK _ w μ' ⟨⟨g'.sh, g'.hi, keepf (md := []) kn_X11_now_0 g'.fr hI.2.2.1, keepf (md := []) kn_X11_now_6 g'.fr hI.2.2.2.1, keepf (md := []) kn_X11_now_2 g'.fr hI.2.2.2.2.1, keepf (md := []) kn_X11_now_3 g'.fr hI.2.2.2.2.2⟩, rfl, by omega, ⟨sz3, sz4, sz5⟩, g'.fr⟩
    rcases List.mem_cons.mp hP with rfl | hP
    · obtain ⟨w, rfl, hw⟩ := r_int g'.gl
      have n0 : ν' 0 = 0 := g'.ag 0 (Nat.le_of_ble_eq_true rfl)
      have n1 : ν' 1 = a1.toInt := g'.ag 1 (Nat.le_of_ble_eq_true rfl)
      have n2 : ν' 2 = (μ.2.2.1 1 1).toInt := g'.ag 2 (Nat.le_of_ble_eq_true rfl)
      have sz0 : (μ'.2.2.1 1 1).toInt = (μ.2.2.1 1 1).toInt := by rw [(g'.fr 1 nc_X11_now_1).1]
      have sz1 : (μ'.2.2.1 210 0).toInt = (μ.2.2.1 210 0).toInt := by rw [(g'.fr 210 nc_X11_now_210).1]
      have sz2 : (μ'.2.2.1 307 0).toInt = (μ.2.2.1 307 0).toInt := by rw [(g'.fr 307 nc_X11_now_307).1]
      have sz3 : (μ'.2.2.1 404 2).toInt = (μ.2.2.1 404 2).toInt := by rw [(g'.fr 404 nc_X11_now_404).1]
      have sz4 : (μ'.2.2.1 433 0).toInt = (μ.2.2.1 433 0).toInt := by rw [(g'.fr 433 nc_X11_now_433).1]
      have sz5 : (μ'.2.2.1 433 1).toInt = (μ.2.2.1 433 1).toInt := by rw [(g'.fr 433 nc_X11_now_433).1]
      have hw' : w.toInt = ν' 3 + 0 := hw
      have i1 : (0 : Int) ≤ ν' 1 ∧ ν' 1 ≤ 4 := g'.iv 1 (Nat.le_of_ble_eq_true rfl)
      exact hK _ w μ' ⟨⟨g'.sh, g'.hi, keepf (md := []) kn_X11_now_0 g'.fr hI.2.2.1, keepf (md := []) kn_X11_now_6 g'.fr hI.2.2.2.1, keepf (md := []) kn_X11_now_2 g'.fr hI.2.2.2.2.1, keepf (md := []) kn_X11_now_3 g'.fr hI.2.2.2.2.2⟩, rfl, by omega, ⟨sz3, sz4, sz5⟩, g'.fr⟩
    exact absurd hP List.not_mem_nil
abbrev ck_X11_on (a1 : Int32) (μ : dw_S) (r : Option Value) (w : Int32) (μ' : dw_S) : Prop := (INV μ') ∧ (r = some (.int w)) ∧ ((μ'.2.2.1 1 1).toInt = (μ.2.2.1 1 1).toInt ∧ (μ'.2.2.1 210 0).toInt = (μ.2.2.1 210 0).toInt ∧ (μ'.2.2.1 307 0).toInt = (μ.2.2.1 307 0).toInt) ∧ ((μ'.2.2.1 404 2).toInt = (μ.2.2.1 404 2).toInt ∧ (μ'.2.2.1 433 0).toInt = (μ.2.2.1 433 0).toInt ∧ (μ'.2.2.1 433 1).toInt = (μ.2.2.1 433 1).toInt) ∧ (∀ a, a ∉ [43, 56, 57] → μ'.2.2.1 a = μ.2.2.1 a ∧ μ'.2.2.2 a = μ.2.2.2 a)
theorem kn_X11_on_0 : (fl_s 0).all (fun q => decide (q.1 ∉ ([43, 56, 57] : List Nat))) = true := by decide
theorem kn_X11_on_6 : (fl_s 6).all (fun q => decide (q.1 ∉ ([43, 56, 57] : List Nat))) = true := by decide
theorem kn_X11_on_2 : (fl_s 2).all (fun q => decide (q.1 ∉ ([43, 56, 57] : List Nat))) = true := by decide
theorem kn_X11_on_3 : (fl_s 3).all (fun q => decide (q.1 ∉ ([43, 56, 57] : List Nat))) = true := by decide
theorem nc_X11_on_1 : 1 ∉ ([43, 56, 57] : List Nat) := by decide
theorem nc_X11_on_210 : 210 ∉ ([43, 56, 57] : List Nat) := by decide
theorem nc_X11_on_307 : 307 ∉ ([43, 56, 57] : List Nat) := by decide
theorem nc_X11_on_404 : 404 ∉ ([43, 56, 57] : List Nat) := by decide
theorem nc_X11_on_433 : 433 ∉ ([43, 56, 57] : List Nat) := by decide
theorem cl_X11_on {μ : dw_S} {K : dw_K} {a1 : Int32} (hI : INV μ) (hK : ∀ (r : Option Value) (w : Int32) (μ' : dw_S), ck_X11_on a1 μ r w μ' → K r μ') : t_X11_on [.ref 0, .int a1] μ K := by
  have h_1_1 := hI.2.1 1 1
  rw [sgc_0] at h_1_1
  refine al_364 210 (by decide) (fun s => [(0 : Int), (a1.toInt : Int), ((μ.2.2.1 1 1).toInt : Int)].getD s (0 : Int)) [.ref 0, .int a1] μ K ⟨hI.1, hI.2.1, fun _ _ => ⟨rfl, rfl⟩, rfl, Nat.le_refl _, Nat.le_of_ble_eq_true rfl, fun _ _ => rfl, ?_, fun q hq => absurd hq List.not_mem_nil, ?_, trivial, ?_, ?_⟩ ?_
  · exact iv2_ok (iv := (in_210).pre.iv) (vs := [(0 : Int), (a1.toInt : Int), ((μ.2.2.1 1 1).toInt : Int)]) ⟨⟨Int.le_refl 0, Int.le_refl 0⟩, ⟨dx_b1 _, dx_b2 _⟩, h_1_1, trivial⟩
  · exact ⟨⟨0, List.Mem.head _, rfl⟩, ⟨Nat.le_of_ble_eq_true rfl, a1, rfl, (Int.add_zero _).symm⟩, trivial⟩
  · exact dx_aL.all (l := (in_210).pre.fa) ⟨⟨Nat.le_of_ble_eq_true rfl, (Int.add_zero _).symm⟩, trivial⟩
  · exact dx_aL.all (l := (in_210).pre.fl) trivial
  · intro r μ' ν' P hP g'
    rcases List.mem_cons.mp hP with rfl | hP
    · obtain ⟨w, rfl, hw⟩ := r_int g'.gl
      have n0 : ν' 0 = 0 := g'.ag 0 (Nat.le_of_ble_eq_true rfl)
      have n1 : ν' 1 = a1.toInt := g'.ag 1 (Nat.le_of_ble_eq_true rfl)
      have n2 : ν' 2 = (μ.2.2.1 1 1).toInt := g'.ag 2 (Nat.le_of_ble_eq_true rfl)
      have sz0 : (μ'.2.2.1 1 1).toInt = (μ.2.2.1 1 1).toInt := by rw [(g'.fr 1 nc_X11_on_1).1]
      have sz1 : (μ'.2.2.1 210 0).toInt = (μ.2.2.1 210 0).toInt := by rw [(g'.fr 210 nc_X11_on_210).1]
      have sz2 : (μ'.2.2.1 307 0).toInt = (μ.2.2.1 307 0).toInt := by rw [(g'.fr 307 nc_X11_on_307).1]
      have sz3 : (μ'.2.2.1 404 2).toInt = (μ.2.2.1 404 2).toInt := by rw [(g'.fr 404 nc_X11_on_404).1]
      have sz4 : (μ'.2.2.1 433 0).toInt = (μ.2.2.1 433 0).toInt := by rw [(g'.fr 433 nc_X11_on_433).1]
      have sz5 : (μ'.2.2.1 433 1).toInt = (μ.2.2.1 433 1).toInt := by rw [(g'.fr 433 nc_X11_on_433).1]
      have hw' : w.toInt = ν' 0 + (-1) := hw
      exact hK _ w μ' ⟨⟨g'.sh, g'.hi, keepf (md := [43, 56, 57]) kn_X11_on_0 g'.fr hI.2.2.1, keepf (md := [43, 56, 57]) kn_X11_on_6 g'.fr hI.2.2.2.1, keepf (md := [43, 56, 57]) kn_X11_on_2 g'.fr hI.2.2.2.2.1, keepf (md := [43, 56, 57]) kn_X11_on_3 g'.fr hI.2.2.2.2.2⟩, rfl, by omega, ⟨sz3, sz4, sz5⟩, g'.fr⟩
    rcases List.mem_cons.mp hP with rfl | hP
    · obtain ⟨w, rfl, hw⟩ := r_int g'.gl
      have n0 : ν' 0 = 0 := g'.ag 0 (Nat.le_of_ble_eq_true rfl)
      have n1 : ν' 1 = a1.toInt := g'.ag 1 (Nat.le_of_ble_eq_true rfl)
      have n2 : ν' 2 = (μ.2.2.1 1 1).toInt := g'.ag 2 (Nat.le_of_ble_eq_true rfl)
      have sz0 : (μ'.2.2.1 1 1).toInt = (μ.2.2.1 1 1).toInt := by rw [(g'.fr 1 nc_X11_on_1).1]
      have sz1 : (μ'.2.2.1 210 0).toInt = (μ.2.2.1 210 0).toInt := by rw [(g'.fr 210 nc_X11_on_210).1]
      have sz2 : (μ'.2.2.1 307 0).toInt = (μ.2.2.1 307 0).toInt := by rw [(g'.fr 307 nc_X11_on_307).1]
      have sz3 : (μ'.2.2.1 404 2).toInt = (μ.2.2.1 404 2).toInt := by rw [(g'.fr 404 nc_X11_on_404).1]
      have sz4 : (μ'.2.2.1 433 0).toInt = (μ.2.2.1 433 0).toInt := by rw [(g'.fr 433 nc_X11_on_433).1]
      have sz5 : (μ'.2.2.1 433 1).toInt = (μ.2.2.1 433 1).toInt := by rw [(g'.fr 433 nc_X11_on_433).1]
      have hw' : w.toInt = ν' 3 + 0 := hw
      have i1 : (0 : Int) ≤ ν' 1 ∧ ν' 1 ≤ 144 := g'.iv 1 (Nat.le_of_ble_eq_true rfl)
      exact hK _ w μ' ⟨⟨g'.sh, g'.hi, keepf (md := [43, 56, 57]) kn_X11_on_0 g'.fr hI.2.2.1, keepf (md := [43, 56, 57]) kn_X11_on_6 g'.fr hI.2.2.2.1, keepf (md := [43, 56, 57]) kn_X11_on_2 g'.fr hI.2.2.2.2.1, keepf (md := [43, 56, 57]) kn_X11_on_3 g'.fr hI.2.2.2.2.2⟩, rfl, by omega, ⟨sz3, sz4, sz5⟩, g'.fr⟩
    exact absurd hP List.not_mem_nil
abbrev ck_X11_part (a1 a2 a3 a4 a5 : Int32) (μ : dw_S) (r : Option Value) (w : Int32) (μ' : dw_S) : Prop := (INV μ') ∧ (r = some (.int w)) ∧ ((μ'.2.2.1 1 1).toInt = (μ.2.2.1 1 1).toInt ∧ (μ'.2.2.1 210 0).toInt = (μ.2.2.1 210 0).toInt ∧ (μ'.2.2.1 307 0).toInt = (μ.2.2.1 307 0).toInt) ∧ ((μ'.2.2.1 404 2).toInt = (μ.2.2.1 404 2).toInt ∧ (μ'.2.2.1 433 0).toInt = (μ.2.2.1 433 0).toInt ∧ (μ'.2.2.1 433 1).toInt = (μ.2.2.1 433 1).toInt) ∧ (∀ a, a ∉ [164, 165, 167, 168, 169, 170, 171, 172, 173, 174, 175, 176, 177, 178, 179, 180, 182, 183, 184, 185, 186, 187, 188, 189, 190, 191, 192, 193] → μ'.2.2.1 a = μ.2.2.1 a ∧ μ'.2.2.2 a = μ.2.2.2 a)
theorem kn_X11_part_0 : (fl_s 0).all (fun q => decide (q.1 ∉ ([164, 165, 167, 168, 169, 170, 171, 172, 173, 174, 175, 176, 177, 178, 179, 180, 182, 183, 184, 185, 186, 187, 188, 189, 190, 191, 192, 193] : List Nat))) = true := by decide
theorem kn_X11_part_6 : (fl_s 6).all (fun q => decide (q.1 ∉ ([164, 165, 167, 168, 169, 170, 171, 172, 173, 174, 175, 176, 177, 178, 179, 180, 182, 183, 184, 185, 186, 187, 188, 189, 190, 191, 192, 193] : List Nat))) = true := by decide
theorem kn_X11_part_2 : (fl_s 2).all (fun q => decide (q.1 ∉ ([164, 165, 167, 168, 169, 170, 171, 172, 173, 174, 175, 176, 177, 178, 179, 180, 182, 183, 184, 185, 186, 187, 188, 189, 190, 191, 192, 193] : List Nat))) = true := by decide
theorem kn_X11_part_3 : (fl_s 3).all (fun q => decide (q.1 ∉ ([164, 165, 167, 168, 169, 170, 171, 172, 173, 174, 175, 176, 177, 178, 179, 180, 182, 183, 184, 185, 186, 187, 188, 189, 190, 191, 192, 193] : List Nat))) = true := by decide
theorem nc_X11_part_1 : 1 ∉ ([164, 165, 167, 168, 169, 170, 171, 172, 173, 174, 175, 176, 177, 178, 179, 180, 182, 183, 184, 185, 186, 187, 188, 189, 190, 191, 192, 193] : List Nat) := by decide
theorem nc_X11_part_210 : 210 ∉ ([164, 165, 167, 168, 169, 170, 171, 172, 173, 174, 175, 176, 177, 178, 179, 180, 182, 183, 184, 185, 186, 187, 188, 189, 190, 191, 192, 193] : List Nat) := by decide
theorem nc_X11_part_307 : 307 ∉ ([164, 165, 167, 168, 169, 170, 171, 172, 173, 174, 175, 176, 177, 178, 179, 180, 182, 183, 184, 185, 186, 187, 188, 189, 190, 191, 192, 193] : List Nat) := by decide
theorem nc_X11_part_404 : 404 ∉ ([164, 165, 167, 168, 169, 170, 171, 172, 173, 174, 175, 176, 177, 178, 179, 180, 182, 183, 184, 185, 186, 187, 188, 189, 190, 191, 192, 193] : List Nat) := by decide
theorem nc_X11_part_433 : 433 ∉ ([164, 165, 167, 168, 169, 170, 171, 172, 173, 174, 175, 176, 177, 178, 179, 180, 182, 183, 184, 185, 186, 187, 188, 189, 190, 191, 192, 193] : List Nat) := by decide
theorem cl_X11_part {μ : dw_S} {K : dw_K} {a1 a2 a3 a4 a5 : Int32} (hI : INV μ) (hK : ∀ (r : Option Value) (w : Int32) (μ' : dw_S), ck_X11_part a1 a2 a3 a4 a5 μ r w μ' → K r μ') : t_X11_part [.ref 0, .int a1, .int a2, .int a3, .int a4, .int a5] μ K := by
  have h_1_1 := hI.2.1 1 1
  rw [sgc_0] at h_1_1
  refine al_364 216 (by decide) (fun s => [(0 : Int), (a1.toInt : Int), (a2.toInt : Int), (a3.toInt : Int), (a4.toInt : Int), (a5.toInt : Int), ((μ.2.2.1 1 1).toInt : Int)].getD s (0 : Int)) [.ref 0, .int a1, .int a2, .int a3, .int a4, .int a5] μ K ⟨hI.1, hI.2.1, fun _ _ => ⟨rfl, rfl⟩, rfl, Nat.le_refl _, Nat.le_of_ble_eq_true rfl, fun _ _ => rfl, ?_, fun q hq => absurd hq List.not_mem_nil, ?_, trivial, ?_, ?_⟩ ?_
  · exact iv2_ok (iv := (in_216).pre.iv) (vs := [(0 : Int), (a1.toInt : Int), (a2.toInt : Int), (a3.toInt : Int), (a4.toInt : Int), (a5.toInt : Int), ((μ.2.2.1 1 1).toInt : Int)]) ⟨⟨Int.le_refl 0, Int.le_refl 0⟩, ⟨dx_b1 _, dx_b2 _⟩, ⟨dx_b1 _, dx_b2 _⟩, ⟨dx_b1 _, dx_b2 _⟩, ⟨dx_b1 _, dx_b2 _⟩, ⟨dx_b1 _, dx_b2 _⟩, h_1_1, trivial⟩
  · exact ⟨⟨0, List.Mem.head _, rfl⟩, ⟨Nat.le_of_ble_eq_true rfl, a1, rfl, (Int.add_zero _).symm⟩, ⟨Nat.le_of_ble_eq_true rfl, a2, rfl, (Int.add_zero _).symm⟩, ⟨Nat.le_of_ble_eq_true rfl, a3, rfl, (Int.add_zero _).symm⟩, ⟨Nat.le_of_ble_eq_true rfl, a4, rfl, (Int.add_zero _).symm⟩, ⟨Nat.le_of_ble_eq_true rfl, a5, rfl, (Int.add_zero _).symm⟩, trivial⟩
  · exact dx_aL.all (l := (in_216).pre.fa) ⟨⟨Nat.le_of_ble_eq_true rfl, (Int.add_zero _).symm⟩, trivial⟩
  · exact dx_aL.all (l := (in_216).pre.fl) trivial
  · intro r μ' ν' P hP g'
    rcases List.mem_cons.mp hP with rfl | hP
    · obtain ⟨w, rfl, hw⟩ := r_int g'.gl
      have n0 : ν' 0 = 0 := g'.ag 0 (Nat.le_of_ble_eq_true rfl)
      have n1 : ν' 1 = a1.toInt := g'.ag 1 (Nat.le_of_ble_eq_true rfl)
      have n2 : ν' 2 = a2.toInt := g'.ag 2 (Nat.le_of_ble_eq_true rfl)
      have n3 : ν' 3 = a3.toInt := g'.ag 3 (Nat.le_of_ble_eq_true rfl)
      have n4 : ν' 4 = a4.toInt := g'.ag 4 (Nat.le_of_ble_eq_true rfl)
      have n5 : ν' 5 = a5.toInt := g'.ag 5 (Nat.le_of_ble_eq_true rfl)
      have n6 : ν' 6 = (μ.2.2.1 1 1).toInt := g'.ag 6 (Nat.le_of_ble_eq_true rfl)
      have sz0 : (μ'.2.2.1 1 1).toInt = (μ.2.2.1 1 1).toInt := by rw [(g'.fr 1 nc_X11_part_1).1]
      have sz1 : (μ'.2.2.1 210 0).toInt = (μ.2.2.1 210 0).toInt := by rw [(g'.fr 210 nc_X11_part_210).1]
      have sz2 : (μ'.2.2.1 307 0).toInt = (μ.2.2.1 307 0).toInt := by rw [(g'.fr 307 nc_X11_part_307).1]
      have sz3 : (μ'.2.2.1 404 2).toInt = (μ.2.2.1 404 2).toInt := by rw [(g'.fr 404 nc_X11_part_404).1]
      have sz4 : (μ'.2.2.1 433 0).toInt = (μ.2.2.1 433 0).toInt := by rw [(g'.fr 433 nc_X11_part_433).1]
      have sz5 : (μ'.2.2.1 433 1).toInt = (μ.2.2.1 433 1).toInt := by rw [(g'.fr 433 nc_X11_part_433).1]
      have hw' : w.toInt = ν' 0 + (-1) := hw
      exact hK _ w μ' ⟨⟨g'.sh, g'.hi, keepf (md := [164, 165, 167, 168, 169, 170, 171, 172, 173, 174, 175, 176, 177, 178, 179, 180, 182, 183, 184, 185, 186, 187, 188, 189, 190, 191, 192, 193]) kn_X11_part_0 g'.fr hI.2.2.1, keepf (md := [164, 165, 167, 168, 169, 170, 171, 172, 173, 174, 175, 176, 177, 178, 179, 180, 182, 183, 184, 185, 186, 187, 188, 189, 190, 191, 192, 193]) kn_X11_part_6 g'.fr hI.2.2.2.1, keepf (md := [164, 165, 167, 168, 169, 170, 171, 172, 173, 174, 175, 176, 177, 178, 179, 180, 182, 183, 184, 185, 186, 187, 188, 189, 190, 191, 192, 193]) kn_X11_part_2 g'.fr hI.2.2.2.2.1, keepf (md := [164, 165, 167, 168, 169, 170, 171, 172, 173, 174, 175, 176, 177, 178, 179, 180, 182, 183, 184, 185, 186, 187, 188, 189, 190, 191, 192, 193]) kn_X11_part_3 g'.fr hI.2.2.2.2.2⟩, rfl, by omega, ⟨sz3, sz4, sz5⟩, g'.fr⟩
    rcases List.mem_cons.mp hP with rfl | hP
    · obtain ⟨w, rfl, hw⟩ := r_int g'.gl
      have n0 : ν' 0 = 0 := g'.ag 0 (Nat.le_of_ble_eq_true rfl)
      have n1 : ν' 1 = a1.toInt := g'.ag 1 (Nat.le_of_ble_eq_true rfl)
      have n2 : ν' 2 = a2.toInt := g'.ag 2 (Nat.le_of_ble_eq_true rfl)
      have n3 : ν' 3 = a3.toInt := g'.ag 3 (Nat.le_of_ble_eq_true rfl)
      have n4 : ν' 4 = a4.toInt := g'.ag 4 (Nat.le_of_ble_eq_true rfl)
      have n5 : ν' 5 = a5.toInt := g'.ag 5 (Nat.le_of_ble_eq_true rfl)
      have n6 : ν' 6 = (μ.2.2.1 1 1).toInt := g'.ag 6 (Nat.le_of_ble_eq_true rfl)
      have sz0 : (μ'.2.2.1 1 1).toInt = (μ.2.2.1 1 1).toInt := by rw [(g'.fr 1 nc_X11_part_1).1]
      have sz1 : (μ'.2.2.1 210 0).toInt = (μ.2.2.1 210 0).toInt := by rw [(g'.fr 210 nc_X11_part_210).1]
      have sz2 : (μ'.2.2.1 307 0).toInt = (μ.2.2.1 307 0).toInt := by rw [(g'.fr 307 nc_X11_part_307).1]
      have sz3 : (μ'.2.2.1 404 2).toInt = (μ.2.2.1 404 2).toInt := by rw [(g'.fr 404 nc_X11_part_404).1]
      have sz4 : (μ'.2.2.1 433 0).toInt = (μ.2.2.1 433 0).toInt := by rw [(g'.fr 433 nc_X11_part_433).1]
      have sz5 : (μ'.2.2.1 433 1).toInt = (μ.2.2.1 433 1).toInt := by rw [(g'.fr 433 nc_X11_part_433).1]
      have hw' : w.toInt = ν' 7 + 0 := hw
      have i1 : (0 : Int) ≤ ν' 1 ∧ ν' 1 ≤ 5 := g'.iv 1 (Nat.le_of_ble_eq_true rfl)
      have i2 : (0 : Int) ≤ ν' 2 ∧ ν' 2 ≤ 939 := g'.iv 2 (Nat.le_of_ble_eq_true rfl)
      have i3 : (0 : Int) ≤ ν' 3 ∧ ν' 3 ≤ 11 := g'.iv 3 (Nat.le_of_ble_eq_true rfl)
      have i4 : (0 : Int) ≤ ν' 4 ∧ ν' 4 ≤ 2 := g'.iv 4 (Nat.le_of_ble_eq_true rfl)
      have i5 : (0 : Int) ≤ ν' 5 ∧ ν' 5 ≤ 2 := g'.iv 5 (Nat.le_of_ble_eq_true rfl)
      exact hK _ w μ' ⟨⟨g'.sh, g'.hi, keepf (md := [164, 165, 167, 168, 169, 170, 171, 172, 173, 174, 175, 176, 177, 178, 179, 180, 182, 183, 184, 185, 186, 187, 188, 189, 190, 191, 192, 193]) kn_X11_part_0 g'.fr hI.2.2.1, keepf (md := [164, 165, 167, 168, 169, 170, 171, 172, 173, 174, 175, 176, 177, 178, 179, 180, 182, 183, 184, 185, 186, 187, 188, 189, 190, 191, 192, 193]) kn_X11_part_6 g'.fr hI.2.2.2.1, keepf (md := [164, 165, 167, 168, 169, 170, 171, 172, 173, 174, 175, 176, 177, 178, 179, 180, 182, 183, 184, 185, 186, 187, 188, 189, 190, 191, 192, 193]) kn_X11_part_2 g'.fr hI.2.2.2.2.1, keepf (md := [164, 165, 167, 168, 169, 170, 171, 172, 173, 174, 175, 176, 177, 178, 179, 180, 182, 183, 184, 185, 186, 187, 188, 189, 190, 191, 192, 193]) kn_X11_part_3 g'.fr hI.2.2.2.2.2⟩, rfl, by omega, ⟨sz3, sz4, sz5⟩, g'.fr⟩
    exact absurd hP List.not_mem_nil
abbrev ck_X11_plan (μ : dw_S) (r : Option Value) (w : Int32) (μ' : dw_S) : Prop := (INV μ') ∧ (r = some (.int w)) ∧ ((μ'.2.2.1 1 1).toInt = 0 ∧ (μ'.2.2.1 210 0).toInt = (μ.2.2.1 210 0).toInt ∧ (μ'.2.2.1 307 0).toInt = (μ.2.2.1 307 0).toInt) ∧ ((μ'.2.2.1 404 2).toInt = (μ.2.2.1 404 2).toInt ∧ (μ'.2.2.1 433 0).toInt = (μ.2.2.1 433 0).toInt ∧ (μ'.2.2.1 433 1).toInt = (μ.2.2.1 433 1).toInt) ∧ (∀ a, a ∉ [1, 11, 13, 14, 15, 16, 17, 18, 19, 20, 21, 22, 23, 24, 25, 26, 27, 28, 29, 30, 31, 32, 33, 34, 35, 36, 37, 38, 39, 40, 41, 42, 132, 134, 135, 136, 137, 138, 139, 140, 141, 142, 143, 144, 145, 146, 147, 148, 149, 150, 151, 152, 153, 154, 155, 156, 157, 158, 159, 160, 161, 162, 163] → μ'.2.2.1 a = μ.2.2.1 a ∧ μ'.2.2.2 a = μ.2.2.2 a)
theorem kn_X11_plan_0 : (fl_s 0).all (fun q => decide (q.1 ∉ ([1, 11, 13, 14, 15, 16, 17, 18, 19, 20, 21, 22, 23, 24, 25, 26, 27, 28, 29, 30, 31, 32, 33, 34, 35, 36, 37, 38, 39, 40, 41, 42, 132, 134, 135, 136, 137, 138, 139, 140, 141, 142, 143, 144, 145, 146, 147, 148, 149, 150, 151, 152, 153, 154, 155, 156, 157, 158, 159, 160, 161, 162, 163] : List Nat))) = true := by decide
theorem kn_X11_plan_6 : (fl_s 6).all (fun q => decide (q.1 ∉ ([1, 11, 13, 14, 15, 16, 17, 18, 19, 20, 21, 22, 23, 24, 25, 26, 27, 28, 29, 30, 31, 32, 33, 34, 35, 36, 37, 38, 39, 40, 41, 42, 132, 134, 135, 136, 137, 138, 139, 140, 141, 142, 143, 144, 145, 146, 147, 148, 149, 150, 151, 152, 153, 154, 155, 156, 157, 158, 159, 160, 161, 162, 163] : List Nat))) = true := by decide
theorem kn_X11_plan_2 : (fl_s 2).all (fun q => decide (q.1 ∉ ([1, 11, 13, 14, 15, 16, 17, 18, 19, 20, 21, 22, 23, 24, 25, 26, 27, 28, 29, 30, 31, 32, 33, 34, 35, 36, 37, 38, 39, 40, 41, 42, 132, 134, 135, 136, 137, 138, 139, 140, 141, 142, 143, 144, 145, 146, 147, 148, 149, 150, 151, 152, 153, 154, 155, 156, 157, 158, 159, 160, 161, 162, 163] : List Nat))) = true := by decide
theorem kn_X11_plan_3 : (fl_s 3).all (fun q => decide (q.1 ∉ ([1, 11, 13, 14, 15, 16, 17, 18, 19, 20, 21, 22, 23, 24, 25, 26, 27, 28, 29, 30, 31, 32, 33, 34, 35, 36, 37, 38, 39, 40, 41, 42, 132, 134, 135, 136, 137, 138, 139, 140, 141, 142, 143, 144, 145, 146, 147, 148, 149, 150, 151, 152, 153, 154, 155, 156, 157, 158, 159, 160, 161, 162, 163] : List Nat))) = true := by decide
theorem nc_X11_plan_210 : 210 ∉ ([1, 11, 13, 14, 15, 16, 17, 18, 19, 20, 21, 22, 23, 24, 25, 26, 27, 28, 29, 30, 31, 32, 33, 34, 35, 36, 37, 38, 39, 40, 41, 42, 132, 134, 135, 136, 137, 138, 139, 140, 141, 142, 143, 144, 145, 146, 147, 148, 149, 150, 151, 152, 153, 154, 155, 156, 157, 158, 159, 160, 161, 162, 163] : List Nat) := by decide
theorem nc_X11_plan_307 : 307 ∉ ([1, 11, 13, 14, 15, 16, 17, 18, 19, 20, 21, 22, 23, 24, 25, 26, 27, 28, 29, 30, 31, 32, 33, 34, 35, 36, 37, 38, 39, 40, 41, 42, 132, 134, 135, 136, 137, 138, 139, 140, 141, 142, 143, 144, 145, 146, 147, 148, 149, 150, 151, 152, 153, 154, 155, 156, 157, 158, 159, 160, 161, 162, 163] : List Nat) := by decide
theorem nc_X11_plan_404 : 404 ∉ ([1, 11, 13, 14, 15, 16, 17, 18, 19, 20, 21, 22, 23, 24, 25, 26, 27, 28, 29, 30, 31, 32, 33, 34, 35, 36, 37, 38, 39, 40, 41, 42, 132, 134, 135, 136, 137, 138, 139, 140, 141, 142, 143, 144, 145, 146, 147, 148, 149, 150, 151, 152, 153, 154, 155, 156, 157, 158, 159, 160, 161, 162, 163] : List Nat) := by decide
theorem nc_X11_plan_433 : 433 ∉ ([1, 11, 13, 14, 15, 16, 17, 18, 19, 20, 21, 22, 23, 24, 25, 26, 27, 28, 29, 30, 31, 32, 33, 34, 35, 36, 37, 38, 39, 40, 41, 42, 132, 134, 135, 136, 137, 138, 139, 140, 141, 142, 143, 144, 145, 146, 147, 148, 149, 150, 151, 152, 153, 154, 155, 156, 157, 158, 159, 160, 161, 162, 163] : List Nat) := by decide
theorem cl_X11_plan {μ : dw_S} {K : dw_K} (hI : INV μ) (hK : ∀ (r : Option Value) (w : Int32) (μ' : dw_S), ck_X11_plan μ r w μ' → K r μ') : t_X11_plan [.ref 0] μ K := by
  have h_1_1 := hI.2.1 1 1
  rw [sgc_0] at h_1_1
  refine al_364 226 (by decide) (fun s => [(0 : Int), ((μ.2.2.1 1 1).toInt : Int)].getD s (0 : Int)) [.ref 0] μ K ⟨hI.1, hI.2.1, fun _ _ => ⟨rfl, rfl⟩, rfl, Nat.le_refl _, Nat.le_of_ble_eq_true rfl, fun _ _ => rfl, ?_, fun q hq => absurd hq List.not_mem_nil, ?_, trivial, ?_, ?_⟩ ?_
  · exact iv2_ok (iv := (in_226).pre.iv) (vs := [(0 : Int), ((μ.2.2.1 1 1).toInt : Int)]) ⟨⟨Int.le_refl 0, Int.le_refl 0⟩, h_1_1, trivial⟩
  · exact ⟨⟨0, List.Mem.head _, rfl⟩, trivial⟩
  · exact dx_aL.all (l := (in_226).pre.fa) ⟨⟨Nat.le_of_ble_eq_true rfl, (Int.add_zero _).symm⟩, trivial⟩
  · exact dx_aL.all (l := (in_226).pre.fl) trivial
  · intro r μ' ν' P hP g'
    rcases List.mem_cons.mp hP with rfl | hP
    · obtain ⟨w, rfl, hw⟩ := r_int g'.gl
      have n0 : ν' 0 = 0 := g'.ag 0 (Nat.le_of_ble_eq_true rfl)
      have n1 : ν' 1 = (μ.2.2.1 1 1).toInt := g'.ag 1 (Nat.le_of_ble_eq_true rfl)
      have sz0 : (μ'.2.2.1 1 1).toInt = ν' 0 + 0 := (g'.fa _ (List.Mem.head _)).2
      have sz1 : (μ'.2.2.1 210 0).toInt = (μ.2.2.1 210 0).toInt := by rw [(g'.fr 210 nc_X11_plan_210).1]
      have sz2 : (μ'.2.2.1 307 0).toInt = (μ.2.2.1 307 0).toInt := by rw [(g'.fr 307 nc_X11_plan_307).1]
      have sz3 : (μ'.2.2.1 404 2).toInt = (μ.2.2.1 404 2).toInt := by rw [(g'.fr 404 nc_X11_plan_404).1]
      have sz4 : (μ'.2.2.1 433 0).toInt = (μ.2.2.1 433 0).toInt := by rw [(g'.fr 433 nc_X11_plan_433).1]
      have sz5 : (μ'.2.2.1 433 1).toInt = (μ.2.2.1 433 1).toInt := by rw [(g'.fr 433 nc_X11_plan_433).1]
      have hw' : w.toInt = ν' 2 + 0 := hw
      exact hK _ w μ' ⟨⟨g'.sh, g'.hi, keepf (md := [1, 11, 13, 14, 15, 16, 17, 18, 19, 20, 21, 22, 23, 24, 25, 26, 27, 28, 29, 30, 31, 32, 33, 34, 35, 36, 37, 38, 39, 40, 41, 42, 132, 134, 135, 136, 137, 138, 139, 140, 141, 142, 143, 144, 145, 146, 147, 148, 149, 150, 151, 152, 153, 154, 155, 156, 157, 158, 159, 160, 161, 162, 163]) kn_X11_plan_0 g'.fr hI.2.2.1, keepf (md := [1, 11, 13, 14, 15, 16, 17, 18, 19, 20, 21, 22, 23, 24, 25, 26, 27, 28, 29, 30, 31, 32, 33, 34, 35, 36, 37, 38, 39, 40, 41, 42, 132, 134, 135, 136, 137, 138, 139, 140, 141, 142, 143, 144, 145, 146, 147, 148, 149, 150, 151, 152, 153, 154, 155, 156, 157, 158, 159, 160, 161, 162, 163]) kn_X11_plan_6 g'.fr hI.2.2.2.1, keepf (md := [1, 11, 13, 14, 15, 16, 17, 18, 19, 20, 21, 22, 23, 24, 25, 26, 27, 28, 29, 30, 31, 32, 33, 34, 35, 36, 37, 38, 39, 40, 41, 42, 132, 134, 135, 136, 137, 138, 139, 140, 141, 142, 143, 144, 145, 146, 147, 148, 149, 150, 151, 152, 153, 154, 155, 156, 157, 158, 159, 160, 161, 162, 163]) kn_X11_plan_2 g'.fr hI.2.2.2.2.1, keepf (md := [1, 11, 13, 14, 15, 16, 17, 18, 19, 20, 21, 22, 23, 24, 25, 26, 27, 28, 29, 30, 31, 32, 33, 34, 35, 36, 37, 38, 39, 40, 41, 42, 132, 134, 135, 136, 137, 138, 139, 140, 141, 142, 143, 144, 145, 146, 147, 148, 149, 150, 151, 152, 153, 154, 155, 156, 157, 158, 159, 160, 161, 162, 163]) kn_X11_plan_3 g'.fr hI.2.2.2.2.2⟩, rfl, by omega, ⟨sz3, sz4, sz5⟩, g'.fr⟩
    exact absurd hP List.not_mem_nil
abbrev ck_X11_restore (a1 : Int32) (μ : dw_S) (r : Option Value) (w : Int32) (μ' : dw_S) : Prop := (INV μ') ∧ (r = some (.int w)) ∧ (((1 < a1.toInt ∧ w.toInt = 0) ∨ (a1.toInt < 0 ∧ w.toInt = 0) ∨ (a1.toInt = 0 ∧ w.toInt = (μ.2.2.1 210 0).toInt) ∨ (a1.toInt = 1 ∧ w.toInt = (μ.2.2.1 307 0).toInt)) ∧ (μ'.2.2.1 1 1).toInt = (μ.2.2.1 1 1).toInt ∧ (μ'.2.2.1 210 0).toInt = (μ.2.2.1 210 0).toInt ∧ (μ'.2.2.1 307 0).toInt = (μ.2.2.1 307 0).toInt) ∧ ((μ'.2.2.1 404 2).toInt = (μ.2.2.1 404 2).toInt ∧ (μ'.2.2.1 433 0).toInt = (μ.2.2.1 433 0).toInt ∧ (μ'.2.2.1 433 1).toInt = (μ.2.2.1 433 1).toInt) ∧ (∀ a, a ∉ [4, 5, 6, 7, 8, 9, 11, 13, 14, 15, 16, 17, 18, 19, 20, 21, 22, 23, 24, 25, 26, 27, 28, 29, 30, 31, 32, 33, 34, 35, 36, 37, 38, 39, 40, 41, 42, 43, 44, 46, 47, 48, 49, 50, 51, 52, 53, 54, 55, 56, 57, 58, 60, 61, 62, 63, 64, 65, 67, 68, 69, 70, 71, 72, 74, 75, 76, 77, 78, 79, 81, 82, 83, 84, 85, 86, 88, 89, 90, 91, 92, 93, 95, 96, 97, 98, 99] → μ'.2.2.1 a = μ.2.2.1 a ∧ μ'.2.2.2 a = μ.2.2.2 a)
theorem kn_X11_restore_0 : (fl_s 0).all (fun q => decide (q.1 ∉ ([4, 5, 6, 7, 8, 9, 11, 13, 14, 15, 16, 17, 18, 19, 20, 21, 22, 23, 24, 25, 26, 27, 28, 29, 30, 31, 32, 33, 34, 35, 36, 37, 38, 39, 40, 41, 42, 43, 44, 46, 47, 48, 49, 50, 51, 52, 53, 54, 55, 56, 57, 58, 60, 61, 62, 63, 64, 65, 67, 68, 69, 70, 71, 72, 74, 75, 76, 77, 78, 79, 81, 82, 83, 84, 85, 86, 88, 89, 90, 91, 92, 93, 95, 96, 97, 98, 99] : List Nat))) = true := by decide
theorem kn_X11_restore_6 : (fl_s 6).all (fun q => decide (q.1 ∉ ([4, 5, 6, 7, 8, 9, 11, 13, 14, 15, 16, 17, 18, 19, 20, 21, 22, 23, 24, 25, 26, 27, 28, 29, 30, 31, 32, 33, 34, 35, 36, 37, 38, 39, 40, 41, 42, 43, 44, 46, 47, 48, 49, 50, 51, 52, 53, 54, 55, 56, 57, 58, 60, 61, 62, 63, 64, 65, 67, 68, 69, 70, 71, 72, 74, 75, 76, 77, 78, 79, 81, 82, 83, 84, 85, 86, 88, 89, 90, 91, 92, 93, 95, 96, 97, 98, 99] : List Nat))) = true := by decide
theorem kn_X11_restore_2 : (fl_s 2).all (fun q => decide (q.1 ∉ ([4, 5, 6, 7, 8, 9, 11, 13, 14, 15, 16, 17, 18, 19, 20, 21, 22, 23, 24, 25, 26, 27, 28, 29, 30, 31, 32, 33, 34, 35, 36, 37, 38, 39, 40, 41, 42, 43, 44, 46, 47, 48, 49, 50, 51, 52, 53, 54, 55, 56, 57, 58, 60, 61, 62, 63, 64, 65, 67, 68, 69, 70, 71, 72, 74, 75, 76, 77, 78, 79, 81, 82, 83, 84, 85, 86, 88, 89, 90, 91, 92, 93, 95, 96, 97, 98, 99] : List Nat))) = true := by decide
theorem kn_X11_restore_3 : (fl_s 3).all (fun q => decide (q.1 ∉ ([4, 5, 6, 7, 8, 9, 11, 13, 14, 15, 16, 17, 18, 19, 20, 21, 22, 23, 24, 25, 26, 27, 28, 29, 30, 31, 32, 33, 34, 35, 36, 37, 38, 39, 40, 41, 42, 43, 44, 46, 47, 48, 49, 50, 51, 52, 53, 54, 55, 56, 57, 58, 60, 61, 62, 63, 64, 65, 67, 68, 69, 70, 71, 72, 74, 75, 76, 77, 78, 79, 81, 82, 83, 84, 85, 86, 88, 89, 90, 91, 92, 93, 95, 96, 97, 98, 99] : List Nat))) = true := by decide
theorem nc_X11_restore_1 : 1 ∉ ([4, 5, 6, 7, 8, 9, 11, 13, 14, 15, 16, 17, 18, 19, 20, 21, 22, 23, 24, 25, 26, 27, 28, 29, 30, 31, 32, 33, 34, 35, 36, 37, 38, 39, 40, 41, 42, 43, 44, 46, 47, 48, 49, 50, 51, 52, 53, 54, 55, 56, 57, 58, 60, 61, 62, 63, 64, 65, 67, 68, 69, 70, 71, 72, 74, 75, 76, 77, 78, 79, 81, 82, 83, 84, 85, 86, 88, 89, 90, 91, 92, 93, 95, 96, 97, 98, 99] : List Nat) := by decide
theorem nc_X11_restore_210 : 210 ∉ ([4, 5, 6, 7, 8, 9, 11, 13, 14, 15, 16, 17, 18, 19, 20, 21, 22, 23, 24, 25, 26, 27, 28, 29, 30, 31, 32, 33, 34, 35, 36, 37, 38, 39, 40, 41, 42, 43, 44, 46, 47, 48, 49, 50, 51, 52, 53, 54, 55, 56, 57, 58, 60, 61, 62, 63, 64, 65, 67, 68, 69, 70, 71, 72, 74, 75, 76, 77, 78, 79, 81, 82, 83, 84, 85, 86, 88, 89, 90, 91, 92, 93, 95, 96, 97, 98, 99] : List Nat) := by decide
theorem nc_X11_restore_307 : 307 ∉ ([4, 5, 6, 7, 8, 9, 11, 13, 14, 15, 16, 17, 18, 19, 20, 21, 22, 23, 24, 25, 26, 27, 28, 29, 30, 31, 32, 33, 34, 35, 36, 37, 38, 39, 40, 41, 42, 43, 44, 46, 47, 48, 49, 50, 51, 52, 53, 54, 55, 56, 57, 58, 60, 61, 62, 63, 64, 65, 67, 68, 69, 70, 71, 72, 74, 75, 76, 77, 78, 79, 81, 82, 83, 84, 85, 86, 88, 89, 90, 91, 92, 93, 95, 96, 97, 98, 99] : List Nat) := by decide
theorem nc_X11_restore_404 : 404 ∉ ([4, 5, 6, 7, 8, 9, 11, 13, 14, 15, 16, 17, 18, 19, 20, 21, 22, 23, 24, 25, 26, 27, 28, 29, 30, 31, 32, 33, 34, 35, 36, 37, 38, 39, 40, 41, 42, 43, 44, 46, 47, 48, 49, 50, 51, 52, 53, 54, 55, 56, 57, 58, 60, 61, 62, 63, 64, 65, 67, 68, 69, 70, 71, 72, 74, 75, 76, 77, 78, 79, 81, 82, 83, 84, 85, 86, 88, 89, 90, 91, 92, 93, 95, 96, 97, 98, 99] : List Nat) := by decide
theorem nc_X11_restore_433 : 433 ∉ ([4, 5, 6, 7, 8, 9, 11, 13, 14, 15, 16, 17, 18, 19, 20, 21, 22, 23, 24, 25, 26, 27, 28, 29, 30, 31, 32, 33, 34, 35, 36, 37, 38, 39, 40, 41, 42, 43, 44, 46, 47, 48, 49, 50, 51, 52, 53, 54, 55, 56, 57, 58, 60, 61, 62, 63, 64, 65, 67, 68, 69, 70, 71, 72, 74, 75, 76, 77, 78, 79, 81, 82, 83, 84, 85, 86, 88, 89, 90, 91, 92, 93, 95, 96, 97, 98, 99] : List Nat) := by decide
theorem cl_X11_restore {μ : dw_S} {K : dw_K} {a1 : Int32} (hI : INV μ) (hK : ∀ (r : Option Value) (w : Int32) (μ' : dw_S), ck_X11_restore a1 μ r w μ' → K r μ') : t_X11_restore [.ref 0, .int a1] μ K := by
  have h_1_1 := hI.2.1 1 1
  rw [sgc_0] at h_1_1
  have h_210_0 := hI.2.1 210 0
  rw [sgc_1] at h_210_0
  have h_307_0 := hI.2.1 307 0
  rw [sgc_2] at h_307_0
  refine al_364 239 (by decide) (fun s => [(0 : Int), (a1.toInt : Int), ((μ.2.2.1 1 1).toInt : Int), ((μ.2.2.1 210 0).toInt : Int), ((μ.2.2.1 307 0).toInt : Int)].getD s (0 : Int)) [.ref 0, .int a1] μ K ⟨hI.1, hI.2.1, fun _ _ => ⟨rfl, rfl⟩, rfl, Nat.le_refl _, Nat.le_of_ble_eq_true rfl, fun _ _ => rfl, ?_, fun q hq => absurd hq List.not_mem_nil, ?_, trivial, ?_, ?_⟩ ?_
  · exact iv2_ok (iv := (in_239).pre.iv) (vs := [(0 : Int), (a1.toInt : Int), ((μ.2.2.1 1 1).toInt : Int), ((μ.2.2.1 210 0).toInt : Int), ((μ.2.2.1 307 0).toInt : Int)]) ⟨⟨Int.le_refl 0, Int.le_refl 0⟩, ⟨dx_b1 _, dx_b2 _⟩, h_1_1, h_210_0, h_307_0, trivial⟩
  · exact ⟨⟨0, List.Mem.head _, rfl⟩, ⟨Nat.le_of_ble_eq_true rfl, a1, rfl, (Int.add_zero _).symm⟩, trivial⟩
  · exact dx_aL.all (l := (in_239).pre.fa) ⟨⟨Nat.le_of_ble_eq_true rfl, (Int.add_zero _).symm⟩, ⟨Nat.le_of_ble_eq_true rfl, (Int.add_zero _).symm⟩, ⟨Nat.le_of_ble_eq_true rfl, (Int.add_zero _).symm⟩, trivial⟩
  · exact dx_aL.all (l := (in_239).pre.fl) trivial
  · intro r μ' ν' P hP g'
    rcases List.mem_cons.mp hP with rfl | hP
    · obtain ⟨w, rfl, hw⟩ := r_int g'.gl
      have n0 : ν' 0 = 0 := g'.ag 0 (Nat.le_of_ble_eq_true rfl)
      have n1 : ν' 1 = a1.toInt := g'.ag 1 (Nat.le_of_ble_eq_true rfl)
      have n2 : ν' 2 = (μ.2.2.1 1 1).toInt := g'.ag 2 (Nat.le_of_ble_eq_true rfl)
      have n3 : ν' 3 = (μ.2.2.1 210 0).toInt := g'.ag 3 (Nat.le_of_ble_eq_true rfl)
      have n4 : ν' 4 = (μ.2.2.1 307 0).toInt := g'.ag 4 (Nat.le_of_ble_eq_true rfl)
      have sz0 : (μ'.2.2.1 1 1).toInt = (μ.2.2.1 1 1).toInt := by rw [(g'.fr 1 nc_X11_restore_1).1]
      have sz1 : (μ'.2.2.1 210 0).toInt = (μ.2.2.1 210 0).toInt := by rw [(g'.fr 210 nc_X11_restore_210).1]
      have sz2 : (μ'.2.2.1 307 0).toInt = (μ.2.2.1 307 0).toInt := by rw [(g'.fr 307 nc_X11_restore_307).1]
      have sz3 : (μ'.2.2.1 404 2).toInt = (μ.2.2.1 404 2).toInt := by rw [(g'.fr 404 nc_X11_restore_404).1]
      have sz4 : (μ'.2.2.1 433 0).toInt = (μ.2.2.1 433 0).toInt := by rw [(g'.fr 433 nc_X11_restore_433).1]
      have sz5 : (μ'.2.2.1 433 1).toInt = (μ.2.2.1 433 1).toInt := by rw [(g'.fr 433 nc_X11_restore_433).1]
      have hw' : w.toInt = ν' 0 + 0 := hw
      have i1 : (2 : Int) ≤ ν' 1 ∧ ν' 1 ≤ 2147483647 := g'.iv 1 (Nat.le_of_ble_eq_true rfl)
      have i2 : (0 : Int) ≤ ν' 2 ∧ ν' 2 ≤ 940 := g'.iv 2 (Nat.le_of_ble_eq_true rfl)
      have i3 : (0 : Int) ≤ ν' 3 ∧ ν' 3 ≤ 1 := g'.iv 3 (Nat.le_of_ble_eq_true rfl)
      have i4 : (0 : Int) ≤ ν' 4 ∧ ν' 4 ≤ 1 := g'.iv 4 (Nat.le_of_ble_eq_true rfl)
      exact hK _ w μ' ⟨⟨g'.sh, g'.hi, keepf (md := [4, 5, 6, 7, 8, 9, 11, 13, 14, 15, 16, 17, 18, 19, 20, 21, 22, 23, 24, 25, 26, 27, 28, 29, 30, 31, 32, 33, 34, 35, 36, 37, 38, 39, 40, 41, 42, 43, 44, 46, 47, 48, 49, 50, 51, 52, 53, 54, 55, 56, 57, 58, 60, 61, 62, 63, 64, 65, 67, 68, 69, 70, 71, 72, 74, 75, 76, 77, 78, 79, 81, 82, 83, 84, 85, 86, 88, 89, 90, 91, 92, 93, 95, 96, 97, 98, 99]) kn_X11_restore_0 g'.fr hI.2.2.1, keepf (md := [4, 5, 6, 7, 8, 9, 11, 13, 14, 15, 16, 17, 18, 19, 20, 21, 22, 23, 24, 25, 26, 27, 28, 29, 30, 31, 32, 33, 34, 35, 36, 37, 38, 39, 40, 41, 42, 43, 44, 46, 47, 48, 49, 50, 51, 52, 53, 54, 55, 56, 57, 58, 60, 61, 62, 63, 64, 65, 67, 68, 69, 70, 71, 72, 74, 75, 76, 77, 78, 79, 81, 82, 83, 84, 85, 86, 88, 89, 90, 91, 92, 93, 95, 96, 97, 98, 99]) kn_X11_restore_6 g'.fr hI.2.2.2.1, keepf (md := [4, 5, 6, 7, 8, 9, 11, 13, 14, 15, 16, 17, 18, 19, 20, 21, 22, 23, 24, 25, 26, 27, 28, 29, 30, 31, 32, 33, 34, 35, 36, 37, 38, 39, 40, 41, 42, 43, 44, 46, 47, 48, 49, 50, 51, 52, 53, 54, 55, 56, 57, 58, 60, 61, 62, 63, 64, 65, 67, 68, 69, 70, 71, 72, 74, 75, 76, 77, 78, 79, 81, 82, 83, 84, 85, 86, 88, 89, 90, 91, 92, 93, 95, 96, 97, 98, 99]) kn_X11_restore_2 g'.fr hI.2.2.2.2.1, keepf (md := [4, 5, 6, 7, 8, 9, 11, 13, 14, 15, 16, 17, 18, 19, 20, 21, 22, 23, 24, 25, 26, 27, 28, 29, 30, 31, 32, 33, 34, 35, 36, 37, 38, 39, 40, 41, 42, 43, 44, 46, 47, 48, 49, 50, 51, 52, 53, 54, 55, 56, 57, 58, 60, 61, 62, 63, 64, 65, 67, 68, 69, 70, 71, 72, 74, 75, 76, 77, 78, 79, 81, 82, 83, 84, 85, 86, 88, 89, 90, 91, 92, 93, 95, 96, 97, 98, 99]) kn_X11_restore_3 g'.fr hI.2.2.2.2.2⟩, rfl, by omega, ⟨sz3, sz4, sz5⟩, g'.fr⟩
    rcases List.mem_cons.mp hP with rfl | hP
    · obtain ⟨w, rfl, hw⟩ := r_int g'.gl
      have n0 : ν' 0 = 0 := g'.ag 0 (Nat.le_of_ble_eq_true rfl)
      have n1 : ν' 1 = a1.toInt := g'.ag 1 (Nat.le_of_ble_eq_true rfl)
      have n2 : ν' 2 = (μ.2.2.1 1 1).toInt := g'.ag 2 (Nat.le_of_ble_eq_true rfl)
      have n3 : ν' 3 = (μ.2.2.1 210 0).toInt := g'.ag 3 (Nat.le_of_ble_eq_true rfl)
      have n4 : ν' 4 = (μ.2.2.1 307 0).toInt := g'.ag 4 (Nat.le_of_ble_eq_true rfl)
      have sz0 : (μ'.2.2.1 1 1).toInt = (μ.2.2.1 1 1).toInt := by rw [(g'.fr 1 nc_X11_restore_1).1]
      have sz1 : (μ'.2.2.1 210 0).toInt = (μ.2.2.1 210 0).toInt := by rw [(g'.fr 210 nc_X11_restore_210).1]
      have sz2 : (μ'.2.2.1 307 0).toInt = (μ.2.2.1 307 0).toInt := by rw [(g'.fr 307 nc_X11_restore_307).1]
      have sz3 : (μ'.2.2.1 404 2).toInt = (μ.2.2.1 404 2).toInt := by rw [(g'.fr 404 nc_X11_restore_404).1]
      have sz4 : (μ'.2.2.1 433 0).toInt = (μ.2.2.1 433 0).toInt := by rw [(g'.fr 433 nc_X11_restore_433).1]
      have sz5 : (μ'.2.2.1 433 1).toInt = (μ.2.2.1 433 1).toInt := by rw [(g'.fr 433 nc_X11_restore_433).1]
      have hw' : w.toInt = ν' 0 + 0 := hw
      have i1 : (1 : Int) ≤ ν' 1 ∧ ν' 1 ≤ 1 := g'.iv 1 (Nat.le_of_ble_eq_true rfl)
      have i2 : (0 : Int) ≤ ν' 2 ∧ ν' 2 ≤ 940 := g'.iv 2 (Nat.le_of_ble_eq_true rfl)
      have i3 : (0 : Int) ≤ ν' 3 ∧ ν' 3 ≤ 1 := g'.iv 3 (Nat.le_of_ble_eq_true rfl)
      have i4 : (0 : Int) ≤ ν' 4 ∧ ν' 4 ≤ 0 := g'.iv 4 (Nat.le_of_ble_eq_true rfl)
      exact hK _ w μ' ⟨⟨g'.sh, g'.hi, keepf (md := [4, 5, 6, 7, 8, 9, 11, 13, 14, 15, 16, 17, 18, 19, 20, 21, 22, 23, 24, 25, 26, 27, 28, 29, 30, 31, 32, 33, 34, 35, 36, 37, 38, 39, 40, 41, 42, 43, 44, 46, 47, 48, 49, 50, 51, 52, 53, 54, 55, 56, 57, 58, 60, 61, 62, 63, 64, 65, 67, 68, 69, 70, 71, 72, 74, 75, 76, 77, 78, 79, 81, 82, 83, 84, 85, 86, 88, 89, 90, 91, 92, 93, 95, 96, 97, 98, 99]) kn_X11_restore_0 g'.fr hI.2.2.1, keepf (md := [4, 5, 6, 7, 8, 9, 11, 13, 14, 15, 16, 17, 18, 19, 20, 21, 22, 23, 24, 25, 26, 27, 28, 29, 30, 31, 32, 33, 34, 35, 36, 37, 38, 39, 40, 41, 42, 43, 44, 46, 47, 48, 49, 50, 51, 52, 53, 54, 55, 56, 57, 58, 60, 61, 62, 63, 64, 65, 67, 68, 69, 70, 71, 72, 74, 75, 76, 77, 78, 79, 81, 82, 83, 84, 85, 86, 88, 89, 90, 91, 92, 93, 95, 96, 97, 98, 99]) kn_X11_restore_6 g'.fr hI.2.2.2.1, keepf (md := [4, 5, 6, 7, 8, 9, 11, 13, 14, 15, 16, 17, 18, 19, 20, 21, 22, 23, 24, 25, 26, 27, 28, 29, 30, 31, 32, 33, 34, 35, 36, 37, 38, 39, 40, 41, 42, 43, 44, 46, 47, 48, 49, 50, 51, 52, 53, 54, 55, 56, 57, 58, 60, 61, 62, 63, 64, 65, 67, 68, 69, 70, 71, 72, 74, 75, 76, 77, 78, 79, 81, 82, 83, 84, 85, 86, 88, 89, 90, 91, 92, 93, 95, 96, 97, 98, 99]) kn_X11_restore_2 g'.fr hI.2.2.2.2.1, keepf (md := [4, 5, 6, 7, 8, 9, 11, 13, 14, 15, 16, 17, 18, 19, 20, 21, 22, 23, 24, 25, 26, 27, 28, 29, 30, 31, 32, 33, 34, 35, 36, 37, 38, 39, 40, 41, 42, 43, 44, 46, 47, 48, 49, 50, 51, 52, 53, 54, 55, 56, 57, 58, 60, 61, 62, 63, 64, 65, 67, 68, 69, 70, 71, 72, 74, 75, 76, 77, 78, 79, 81, 82, 83, 84, 85, 86, 88, 89, 90, 91, 92, 93, 95, 96, 97, 98, 99]) kn_X11_restore_3 g'.fr hI.2.2.2.2.2⟩, rfl, by omega, ⟨sz3, sz4, sz5⟩, g'.fr⟩
    rcases List.mem_cons.mp hP with rfl | hP
    · obtain ⟨w, rfl, hw⟩ := r_int g'.gl
      have n0 : ν' 0 = 0 := g'.ag 0 (Nat.le_of_ble_eq_true rfl)
      have n1 : ν' 1 = a1.toInt := g'.ag 1 (Nat.le_of_ble_eq_true rfl)
      have n2 : ν' 2 = (μ.2.2.1 1 1).toInt := g'.ag 2 (Nat.le_of_ble_eq_true rfl)
      have n3 : ν' 3 = (μ.2.2.1 210 0).toInt := g'.ag 3 (Nat.le_of_ble_eq_true rfl)
      have n4 : ν' 4 = (μ.2.2.1 307 0).toInt := g'.ag 4 (Nat.le_of_ble_eq_true rfl)
      have sz0 : (μ'.2.2.1 1 1).toInt = (μ.2.2.1 1 1).toInt := by rw [(g'.fr 1 nc_X11_restore_1).1]
      have sz1 : (μ'.2.2.1 210 0).toInt = (μ.2.2.1 210 0).toInt := by rw [(g'.fr 210 nc_X11_restore_210).1]
      have sz2 : (μ'.2.2.1 307 0).toInt = (μ.2.2.1 307 0).toInt := by rw [(g'.fr 307 nc_X11_restore_307).1]
      have sz3 : (μ'.2.2.1 404 2).toInt = (μ.2.2.1 404 2).toInt := by rw [(g'.fr 404 nc_X11_restore_404).1]
      have sz4 : (μ'.2.2.1 433 0).toInt = (μ.2.2.1 433 0).toInt := by rw [(g'.fr 433 nc_X11_restore_433).1]
      have sz5 : (μ'.2.2.1 433 1).toInt = (μ.2.2.1 433 1).toInt := by rw [(g'.fr 433 nc_X11_restore_433).1]
      have hw' : w.toInt = ν' 0 + 1 := hw
      have i1 : (1 : Int) ≤ ν' 1 ∧ ν' 1 ≤ 1 := g'.iv 1 (Nat.le_of_ble_eq_true rfl)
      have i2 : (0 : Int) ≤ ν' 2 ∧ ν' 2 ≤ 940 := g'.iv 2 (Nat.le_of_ble_eq_true rfl)
      have i3 : (0 : Int) ≤ ν' 3 ∧ ν' 3 ≤ 1 := g'.iv 3 (Nat.le_of_ble_eq_true rfl)
      have i4 : (1 : Int) ≤ ν' 4 ∧ ν' 4 ≤ 1 := g'.iv 4 (Nat.le_of_ble_eq_true rfl)
      exact hK _ w μ' ⟨⟨g'.sh, g'.hi, keepf (md := [4, 5, 6, 7, 8, 9, 11, 13, 14, 15, 16, 17, 18, 19, 20, 21, 22, 23, 24, 25, 26, 27, 28, 29, 30, 31, 32, 33, 34, 35, 36, 37, 38, 39, 40, 41, 42, 43, 44, 46, 47, 48, 49, 50, 51, 52, 53, 54, 55, 56, 57, 58, 60, 61, 62, 63, 64, 65, 67, 68, 69, 70, 71, 72, 74, 75, 76, 77, 78, 79, 81, 82, 83, 84, 85, 86, 88, 89, 90, 91, 92, 93, 95, 96, 97, 98, 99]) kn_X11_restore_0 g'.fr hI.2.2.1, keepf (md := [4, 5, 6, 7, 8, 9, 11, 13, 14, 15, 16, 17, 18, 19, 20, 21, 22, 23, 24, 25, 26, 27, 28, 29, 30, 31, 32, 33, 34, 35, 36, 37, 38, 39, 40, 41, 42, 43, 44, 46, 47, 48, 49, 50, 51, 52, 53, 54, 55, 56, 57, 58, 60, 61, 62, 63, 64, 65, 67, 68, 69, 70, 71, 72, 74, 75, 76, 77, 78, 79, 81, 82, 83, 84, 85, 86, 88, 89, 90, 91, 92, 93, 95, 96, 97, 98, 99]) kn_X11_restore_6 g'.fr hI.2.2.2.1, keepf (md := [4, 5, 6, 7, 8, 9, 11, 13, 14, 15, 16, 17, 18, 19, 20, 21, 22, 23, 24, 25, 26, 27, 28, 29, 30, 31, 32, 33, 34, 35, 36, 37, 38, 39, 40, 41, 42, 43, 44, 46, 47, 48, 49, 50, 51, 52, 53, 54, 55, 56, 57, 58, 60, 61, 62, 63, 64, 65, 67, 68, 69, 70, 71, 72, 74, 75, 76, 77, 78, 79, 81, 82, 83, 84, 85, 86, 88, 89, 90, 91, 92, 93, 95, 96, 97, 98, 99]) kn_X11_restore_2 g'.fr hI.2.2.2.2.1, keepf (md := [4, 5, 6, 7, 8, 9, 11, 13, 14, 15, 16, 17, 18, 19, 20, 21, 22, 23, 24, 25, 26, 27, 28, 29, 30, 31, 32, 33, 34, 35, 36, 37, 38, 39, 40, 41, 42, 43, 44, 46, 47, 48, 49, 50, 51, 52, 53, 54, 55, 56, 57, 58, 60, 61, 62, 63, 64, 65, 67, 68, 69, 70, 71, 72, 74, 75, 76, 77, 78, 79, 81, 82, 83, 84, 85, 86, 88, 89, 90, 91, 92, 93, 95, 96, 97, 98, 99]) kn_X11_restore_3 g'.fr hI.2.2.2.2.2⟩, rfl, by omega, ⟨sz3, sz4, sz5⟩, g'.fr⟩
    rcases List.mem_cons.mp hP with rfl | hP
    · obtain ⟨w, rfl, hw⟩ := r_int g'.gl
      have n0 : ν' 0 = 0 := g'.ag 0 (Nat.le_of_ble_eq_true rfl)
      have n1 : ν' 1 = a1.toInt := g'.ag 1 (Nat.le_of_ble_eq_true rfl)
      have n2 : ν' 2 = (μ.2.2.1 1 1).toInt := g'.ag 2 (Nat.le_of_ble_eq_true rfl)
      have n3 : ν' 3 = (μ.2.2.1 210 0).toInt := g'.ag 3 (Nat.le_of_ble_eq_true rfl)
      have n4 : ν' 4 = (μ.2.2.1 307 0).toInt := g'.ag 4 (Nat.le_of_ble_eq_true rfl)
      have sz0 : (μ'.2.2.1 1 1).toInt = (μ.2.2.1 1 1).toInt := by rw [(g'.fr 1 nc_X11_restore_1).1]
      have sz1 : (μ'.2.2.1 210 0).toInt = (μ.2.2.1 210 0).toInt := by rw [(g'.fr 210 nc_X11_restore_210).1]
      have sz2 : (μ'.2.2.1 307 0).toInt = (μ.2.2.1 307 0).toInt := by rw [(g'.fr 307 nc_X11_restore_307).1]
      have sz3 : (μ'.2.2.1 404 2).toInt = (μ.2.2.1 404 2).toInt := by rw [(g'.fr 404 nc_X11_restore_404).1]
      have sz4 : (μ'.2.2.1 433 0).toInt = (μ.2.2.1 433 0).toInt := by rw [(g'.fr 433 nc_X11_restore_433).1]
      have sz5 : (μ'.2.2.1 433 1).toInt = (μ.2.2.1 433 1).toInt := by rw [(g'.fr 433 nc_X11_restore_433).1]
      have hw' : w.toInt = ν' 0 + 0 := hw
      have i1 : (0 : Int) ≤ ν' 1 ∧ ν' 1 ≤ 0 := g'.iv 1 (Nat.le_of_ble_eq_true rfl)
      have i2 : (0 : Int) ≤ ν' 2 ∧ ν' 2 ≤ 940 := g'.iv 2 (Nat.le_of_ble_eq_true rfl)
      have i3 : (0 : Int) ≤ ν' 3 ∧ ν' 3 ≤ 0 := g'.iv 3 (Nat.le_of_ble_eq_true rfl)
      have i4 : (0 : Int) ≤ ν' 4 ∧ ν' 4 ≤ 1 := g'.iv 4 (Nat.le_of_ble_eq_true rfl)
      exact hK _ w μ' ⟨⟨g'.sh, g'.hi, keepf (md := [4, 5, 6, 7, 8, 9, 11, 13, 14, 15, 16, 17, 18, 19, 20, 21, 22, 23, 24, 25, 26, 27, 28, 29, 30, 31, 32, 33, 34, 35, 36, 37, 38, 39, 40, 41, 42, 43, 44, 46, 47, 48, 49, 50, 51, 52, 53, 54, 55, 56, 57, 58, 60, 61, 62, 63, 64, 65, 67, 68, 69, 70, 71, 72, 74, 75, 76, 77, 78, 79, 81, 82, 83, 84, 85, 86, 88, 89, 90, 91, 92, 93, 95, 96, 97, 98, 99]) kn_X11_restore_0 g'.fr hI.2.2.1, keepf (md := [4, 5, 6, 7, 8, 9, 11, 13, 14, 15, 16, 17, 18, 19, 20, 21, 22, 23, 24, 25, 26, 27, 28, 29, 30, 31, 32, 33, 34, 35, 36, 37, 38, 39, 40, 41, 42, 43, 44, 46, 47, 48, 49, 50, 51, 52, 53, 54, 55, 56, 57, 58, 60, 61, 62, 63, 64, 65, 67, 68, 69, 70, 71, 72, 74, 75, 76, 77, 78, 79, 81, 82, 83, 84, 85, 86, 88, 89, 90, 91, 92, 93, 95, 96, 97, 98, 99]) kn_X11_restore_6 g'.fr hI.2.2.2.1, keepf (md := [4, 5, 6, 7, 8, 9, 11, 13, 14, 15, 16, 17, 18, 19, 20, 21, 22, 23, 24, 25, 26, 27, 28, 29, 30, 31, 32, 33, 34, 35, 36, 37, 38, 39, 40, 41, 42, 43, 44, 46, 47, 48, 49, 50, 51, 52, 53, 54, 55, 56, 57, 58, 60, 61, 62, 63, 64, 65, 67, 68, 69, 70, 71, 72, 74, 75, 76, 77, 78, 79, 81, 82, 83, 84, 85, 86, 88, 89, 90, 91, 92, 93, 95, 96, 97, 98, 99]) kn_X11_restore_2 g'.fr hI.2.2.2.2.1, keepf (md := [4, 5, 6, 7, 8, 9, 11, 13, 14, 15, 16, 17, 18, 19, 20, 21, 22, 23, 24, 25, 26, 27, 28, 29, 30, 31, 32, 33, 34, 35, 36, 37, 38, 39, 40, 41, 42, 43, 44, 46, 47, 48, 49, 50, 51, 52, 53, 54, 55, 56, 57, 58, 60, 61, 62, 63, 64, 65, 67, 68, 69, 70, 71, 72, 74, 75, 76, 77, 78, 79, 81, 82, 83, 84, 85, 86, 88, 89, 90, 91, 92, 93, 95, 96, 97, 98, 99]) kn_X11_restore_3 g'.fr hI.2.2.2.2.2⟩, rfl, by omega, ⟨sz3, sz4, sz5⟩, g'.fr⟩
    rcases List.mem_cons.mp hP with rfl | hP
    · obtain ⟨w, rfl, hw⟩ := r_int g'.gl
      have n0 : ν' 0 = 0 := g'.ag 0 (Nat.le_of_ble_eq_true rfl)
      have n1 : ν' 1 = a1.toInt := g'.ag 1 (Nat.le_of_ble_eq_true rfl)
      have n2 : ν' 2 = (μ.2.2.1 1 1).toInt := g'.ag 2 (Nat.le_of_ble_eq_true rfl)
      have n3 : ν' 3 = (μ.2.2.1 210 0).toInt := g'.ag 3 (Nat.le_of_ble_eq_true rfl)
      have n4 : ν' 4 = (μ.2.2.1 307 0).toInt := g'.ag 4 (Nat.le_of_ble_eq_true rfl)
      have sz0 : (μ'.2.2.1 1 1).toInt = (μ.2.2.1 1 1).toInt := by rw [(g'.fr 1 nc_X11_restore_1).1]
      have sz1 : (μ'.2.2.1 210 0).toInt = (μ.2.2.1 210 0).toInt := by rw [(g'.fr 210 nc_X11_restore_210).1]
      have sz2 : (μ'.2.2.1 307 0).toInt = (μ.2.2.1 307 0).toInt := by rw [(g'.fr 307 nc_X11_restore_307).1]
      have sz3 : (μ'.2.2.1 404 2).toInt = (μ.2.2.1 404 2).toInt := by rw [(g'.fr 404 nc_X11_restore_404).1]
      have sz4 : (μ'.2.2.1 433 0).toInt = (μ.2.2.1 433 0).toInt := by rw [(g'.fr 433 nc_X11_restore_433).1]
      have sz5 : (μ'.2.2.1 433 1).toInt = (μ.2.2.1 433 1).toInt := by rw [(g'.fr 433 nc_X11_restore_433).1]
      have hw' : w.toInt = ν' 0 + 1 := hw
      have i1 : (0 : Int) ≤ ν' 1 ∧ ν' 1 ≤ 0 := g'.iv 1 (Nat.le_of_ble_eq_true rfl)
      have i2 : (0 : Int) ≤ ν' 2 ∧ ν' 2 ≤ 940 := g'.iv 2 (Nat.le_of_ble_eq_true rfl)
      have i3 : (1 : Int) ≤ ν' 3 ∧ ν' 3 ≤ 1 := g'.iv 3 (Nat.le_of_ble_eq_true rfl)
      have i4 : (0 : Int) ≤ ν' 4 ∧ ν' 4 ≤ 1 := g'.iv 4 (Nat.le_of_ble_eq_true rfl)
      exact hK _ w μ' ⟨⟨g'.sh, g'.hi, keepf (md := [4, 5, 6, 7, 8, 9, 11, 13, 14, 15, 16, 17, 18, 19, 20, 21, 22, 23, 24, 25, 26, 27, 28, 29, 30, 31, 32, 33, 34, 35, 36, 37, 38, 39, 40, 41, 42, 43, 44, 46, 47, 48, 49, 50, 51, 52, 53, 54, 55, 56, 57, 58, 60, 61, 62, 63, 64, 65, 67, 68, 69, 70, 71, 72, 74, 75, 76, 77, 78, 79, 81, 82, 83, 84, 85, 86, 88, 89, 90, 91, 92, 93, 95, 96, 97, 98, 99]) kn_X11_restore_0 g'.fr hI.2.2.1, keepf (md := [4, 5, 6, 7, 8, 9, 11, 13, 14, 15, 16, 17, 18, 19, 20, 21, 22, 23, 24, 25, 26, 27, 28, 29, 30, 31, 32, 33, 34, 35, 36, 37, 38, 39, 40, 41, 42, 43, 44, 46, 47, 48, 49, 50, 51, 52, 53, 54, 55, 56, 57, 58, 60, 61, 62, 63, 64, 65, 67, 68, 69, 70, 71, 72, 74, 75, 76, 77, 78, 79, 81, 82, 83, 84, 85, 86, 88, 89, 90, 91, 92, 93, 95, 96, 97, 98, 99]) kn_X11_restore_6 g'.fr hI.2.2.2.1, keepf (md := [4, 5, 6, 7, 8, 9, 11, 13, 14, 15, 16, 17, 18, 19, 20, 21, 22, 23, 24, 25, 26, 27, 28, 29, 30, 31, 32, 33, 34, 35, 36, 37, 38, 39, 40, 41, 42, 43, 44, 46, 47, 48, 49, 50, 51, 52, 53, 54, 55, 56, 57, 58, 60, 61, 62, 63, 64, 65, 67, 68, 69, 70, 71, 72, 74, 75, 76, 77, 78, 79, 81, 82, 83, 84, 85, 86, 88, 89, 90, 91, 92, 93, 95, 96, 97, 98, 99]) kn_X11_restore_2 g'.fr hI.2.2.2.2.1, keepf (md := [4, 5, 6, 7, 8, 9, 11, 13, 14, 15, 16, 17, 18, 19, 20, 21, 22, 23, 24, 25, 26, 27, 28, 29, 30, 31, 32, 33, 34, 35, 36, 37, 38, 39, 40, 41, 42, 43, 44, 46, 47, 48, 49, 50, 51, 52, 53, 54, 55, 56, 57, 58, 60, 61, 62, 63, 64, 65, 67, 68, 69, 70, 71, 72, 74, 75, 76, 77, 78, 79, 81, 82, 83, 84, 85, 86, 88, 89, 90, 91, 92, 93, 95, 96, 97, 98, 99]) kn_X11_restore_3 g'.fr hI.2.2.2.2.2⟩, rfl, by omega, ⟨sz3, sz4, sz5⟩, g'.fr⟩
    rcases List.mem_cons.mp hP with rfl | hP
    · obtain ⟨w, rfl, hw⟩ := r_int g'.gl
      have n0 : ν' 0 = 0 := g'.ag 0 (Nat.le_of_ble_eq_true rfl)
      have n1 : ν' 1 = a1.toInt := g'.ag 1 (Nat.le_of_ble_eq_true rfl)
      have n2 : ν' 2 = (μ.2.2.1 1 1).toInt := g'.ag 2 (Nat.le_of_ble_eq_true rfl)
      have n3 : ν' 3 = (μ.2.2.1 210 0).toInt := g'.ag 3 (Nat.le_of_ble_eq_true rfl)
      have n4 : ν' 4 = (μ.2.2.1 307 0).toInt := g'.ag 4 (Nat.le_of_ble_eq_true rfl)
      have sz0 : (μ'.2.2.1 1 1).toInt = (μ.2.2.1 1 1).toInt := by rw [(g'.fr 1 nc_X11_restore_1).1]
      have sz1 : (μ'.2.2.1 210 0).toInt = (μ.2.2.1 210 0).toInt := by rw [(g'.fr 210 nc_X11_restore_210).1]
      have sz2 : (μ'.2.2.1 307 0).toInt = (μ.2.2.1 307 0).toInt := by rw [(g'.fr 307 nc_X11_restore_307).1]
      have sz3 : (μ'.2.2.1 404 2).toInt = (μ.2.2.1 404 2).toInt := by rw [(g'.fr 404 nc_X11_restore_404).1]
      have sz4 : (μ'.2.2.1 433 0).toInt = (μ.2.2.1 433 0).toInt := by rw [(g'.fr 433 nc_X11_restore_433).1]
      have sz5 : (μ'.2.2.1 433 1).toInt = (μ.2.2.1 433 1).toInt := by rw [(g'.fr 433 nc_X11_restore_433).1]
      have hw' : w.toInt = ν' 0 + 0 := hw
      have i1 : (-2147483648 : Int) ≤ ν' 1 ∧ ν' 1 ≤ -1 := g'.iv 1 (Nat.le_of_ble_eq_true rfl)
      have i2 : (0 : Int) ≤ ν' 2 ∧ ν' 2 ≤ 940 := g'.iv 2 (Nat.le_of_ble_eq_true rfl)
      have i3 : (0 : Int) ≤ ν' 3 ∧ ν' 3 ≤ 1 := g'.iv 3 (Nat.le_of_ble_eq_true rfl)
      have i4 : (0 : Int) ≤ ν' 4 ∧ ν' 4 ≤ 1 := g'.iv 4 (Nat.le_of_ble_eq_true rfl)
      exact hK _ w μ' ⟨⟨g'.sh, g'.hi, keepf (md := [4, 5, 6, 7, 8, 9, 11, 13, 14, 15, 16, 17, 18, 19, 20, 21, 22, 23, 24, 25, 26, 27, 28, 29, 30, 31, 32, 33, 34, 35, 36, 37, 38, 39, 40, 41, 42, 43, 44, 46, 47, 48, 49, 50, 51, 52, 53, 54, 55, 56, 57, 58, 60, 61, 62, 63, 64, 65, 67, 68, 69, 70, 71, 72, 74, 75, 76, 77, 78, 79, 81, 82, 83, 84, 85, 86, 88, 89, 90, 91, 92, 93, 95, 96, 97, 98, 99]) kn_X11_restore_0 g'.fr hI.2.2.1, keepf (md := [4, 5, 6, 7, 8, 9, 11, 13, 14, 15, 16, 17, 18, 19, 20, 21, 22, 23, 24, 25, 26, 27, 28, 29, 30, 31, 32, 33, 34, 35, 36, 37, 38, 39, 40, 41, 42, 43, 44, 46, 47, 48, 49, 50, 51, 52, 53, 54, 55, 56, 57, 58, 60, 61, 62, 63, 64, 65, 67, 68, 69, 70, 71, 72, 74, 75, 76, 77, 78, 79, 81, 82, 83, 84, 85, 86, 88, 89, 90, 91, 92, 93, 95, 96, 97, 98, 99]) kn_X11_restore_6 g'.fr hI.2.2.2.1, keepf (md := [4, 5, 6, 7, 8, 9, 11, 13, 14, 15, 16, 17, 18, 19, 20, 21, 22, 23, 24, 25, 26, 27, 28, 29, 30, 31, 32, 33, 34, 35, 36, 37, 38, 39, 40, 41, 42, 43, 44, 46, 47, 48, 49, 50, 51, 52, 53, 54, 55, 56, 57, 58, 60, 61, 62, 63, 64, 65, 67, 68, 69, 70, 71, 72, 74, 75, 76, 77, 78, 79, 81, 82, 83, 84, 85, 86, 88, 89, 90, 91, 92, 93, 95, 96, 97, 98, 99]) kn_X11_restore_2 g'.fr hI.2.2.2.2.1, keepf (md := [4, 5, 6, 7, 8, 9, 11, 13, 14, 15, 16, 17, 18, 19, 20, 21, 22, 23, 24, 25, 26, 27, 28, 29, 30, 31, 32, 33, 34, 35, 36, 37, 38, 39, 40, 41, 42, 43, 44, 46, 47, 48, 49, 50, 51, 52, 53, 54, 55, 56, 57, 58, 60, 61, 62, 63, 64, 65, 67, 68, 69, 70, 71, 72, 74, 75, 76, 77, 78, 79, 81, 82, 83, 84, 85, 86, 88, 89, 90, 91, 92, 93, 95, 96, 97, 98, 99]) kn_X11_restore_3 g'.fr hI.2.2.2.2.2⟩, rfl, by omega, ⟨sz3, sz4, sz5⟩, g'.fr⟩
    exact absurd hP List.not_mem_nil
abbrev ck_X11_roof (a1 a2 a3 : Int32) (μ : dw_S) (r : Option Value) (w : Int32) (μ' : dw_S) : Prop := (INV μ') ∧ (r = some (.int w)) ∧ ((μ'.2.2.1 1 1).toInt = (μ.2.2.1 1 1).toInt ∧ (μ'.2.2.1 210 0).toInt = (μ.2.2.1 210 0).toInt ∧ (μ'.2.2.1 307 0).toInt = (μ.2.2.1 307 0).toInt) ∧ ((μ'.2.2.1 404 2).toInt = (μ.2.2.1 404 2).toInt ∧ (μ'.2.2.1 433 0).toInt = (μ.2.2.1 433 0).toInt ∧ (μ'.2.2.1 433 1).toInt = (μ.2.2.1 433 1).toInt) ∧ (∀ a, a ∉ [164, 165, 167, 168, 169, 170, 171, 172, 173, 174, 175, 176, 177, 178] → μ'.2.2.1 a = μ.2.2.1 a ∧ μ'.2.2.2 a = μ.2.2.2 a)
theorem kn_X11_roof_0 : (fl_s 0).all (fun q => decide (q.1 ∉ ([164, 165, 167, 168, 169, 170, 171, 172, 173, 174, 175, 176, 177, 178] : List Nat))) = true := by decide
theorem kn_X11_roof_6 : (fl_s 6).all (fun q => decide (q.1 ∉ ([164, 165, 167, 168, 169, 170, 171, 172, 173, 174, 175, 176, 177, 178] : List Nat))) = true := by decide
theorem kn_X11_roof_2 : (fl_s 2).all (fun q => decide (q.1 ∉ ([164, 165, 167, 168, 169, 170, 171, 172, 173, 174, 175, 176, 177, 178] : List Nat))) = true := by decide
theorem kn_X11_roof_3 : (fl_s 3).all (fun q => decide (q.1 ∉ ([164, 165, 167, 168, 169, 170, 171, 172, 173, 174, 175, 176, 177, 178] : List Nat))) = true := by decide
theorem nc_X11_roof_1 : 1 ∉ ([164, 165, 167, 168, 169, 170, 171, 172, 173, 174, 175, 176, 177, 178] : List Nat) := by decide
theorem nc_X11_roof_210 : 210 ∉ ([164, 165, 167, 168, 169, 170, 171, 172, 173, 174, 175, 176, 177, 178] : List Nat) := by decide
theorem nc_X11_roof_307 : 307 ∉ ([164, 165, 167, 168, 169, 170, 171, 172, 173, 174, 175, 176, 177, 178] : List Nat) := by decide
theorem nc_X11_roof_404 : 404 ∉ ([164, 165, 167, 168, 169, 170, 171, 172, 173, 174, 175, 176, 177, 178] : List Nat) := by decide
theorem nc_X11_roof_433 : 433 ∉ ([164, 165, 167, 168, 169, 170, 171, 172, 173, 174, 175, 176, 177, 178] : List Nat) := by decide
theorem cl_X11_roof {μ : dw_S} {K : dw_K} {a1 a2 a3 : Int32} (hI : INV μ) (hK : ∀ (r : Option Value) (w : Int32) (μ' : dw_S), ck_X11_roof a1 a2 a3 μ r w μ' → K r μ') : t_X11_roof [.ref 0, .int a1, .int a2, .int a3] μ K := by
  have h_1_1 := hI.2.1 1 1
  rw [sgc_0] at h_1_1
  refine al_364 240 (by decide) (fun s => [(0 : Int), (a1.toInt : Int), (a2.toInt : Int), (a3.toInt : Int), ((μ.2.2.1 1 1).toInt : Int)].getD s (0 : Int)) [.ref 0, .int a1, .int a2, .int a3] μ K ⟨hI.1, hI.2.1, fun _ _ => ⟨rfl, rfl⟩, rfl, Nat.le_refl _, Nat.le_of_ble_eq_true rfl, fun _ _ => rfl, ?_, fun q hq => absurd hq List.not_mem_nil, ?_, trivial, ?_, ?_⟩ ?_
  · exact iv2_ok (iv := (in_240).pre.iv) (vs := [(0 : Int), (a1.toInt : Int), (a2.toInt : Int), (a3.toInt : Int), ((μ.2.2.1 1 1).toInt : Int)]) ⟨⟨Int.le_refl 0, Int.le_refl 0⟩, ⟨dx_b1 _, dx_b2 _⟩, ⟨dx_b1 _, dx_b2 _⟩, ⟨dx_b1 _, dx_b2 _⟩, h_1_1, trivial⟩
  · exact ⟨⟨0, List.Mem.head _, rfl⟩, ⟨Nat.le_of_ble_eq_true rfl, a1, rfl, (Int.add_zero _).symm⟩, ⟨Nat.le_of_ble_eq_true rfl, a2, rfl, (Int.add_zero _).symm⟩, ⟨Nat.le_of_ble_eq_true rfl, a3, rfl, (Int.add_zero _).symm⟩, trivial⟩
  · exact dx_aL.all (l := (in_240).pre.fa) ⟨⟨Nat.le_of_ble_eq_true rfl, (Int.add_zero _).symm⟩, trivial⟩
  · exact dx_aL.all (l := (in_240).pre.fl) trivial
  · intro r μ' ν' P hP g'
    rcases List.mem_cons.mp hP with rfl | hP
    · obtain ⟨w, rfl, hw⟩ := r_int g'.gl
      have n0 : ν' 0 = 0 := g'.ag 0 (Nat.le_of_ble_eq_true rfl)
      have n1 : ν' 1 = a1.toInt := g'.ag 1 (Nat.le_of_ble_eq_true rfl)
      have n2 : ν' 2 = a2.toInt := g'.ag 2 (Nat.le_of_ble_eq_true rfl)
      have n3 : ν' 3 = a3.toInt := g'.ag 3 (Nat.le_of_ble_eq_true rfl)
      have n4 : ν' 4 = (μ.2.2.1 1 1).toInt := g'.ag 4 (Nat.le_of_ble_eq_true rfl)
      have sz0 : (μ'.2.2.1 1 1).toInt = (μ.2.2.1 1 1).toInt := by rw [(g'.fr 1 nc_X11_roof_1).1]
      have sz1 : (μ'.2.2.1 210 0).toInt = (μ.2.2.1 210 0).toInt := by rw [(g'.fr 210 nc_X11_roof_210).1]
      have sz2 : (μ'.2.2.1 307 0).toInt = (μ.2.2.1 307 0).toInt := by rw [(g'.fr 307 nc_X11_roof_307).1]
      have sz3 : (μ'.2.2.1 404 2).toInt = (μ.2.2.1 404 2).toInt := by rw [(g'.fr 404 nc_X11_roof_404).1]
      have sz4 : (μ'.2.2.1 433 0).toInt = (μ.2.2.1 433 0).toInt := by rw [(g'.fr 433 nc_X11_roof_433).1]
      have sz5 : (μ'.2.2.1 433 1).toInt = (μ.2.2.1 433 1).toInt := by rw [(g'.fr 433 nc_X11_roof_433).1]
      have hw' : w.toInt = ν' 0 + (-1) := hw
      exact hK _ w μ' ⟨⟨g'.sh, g'.hi, keepf (md := [164, 165, 167, 168, 169, 170, 171, 172, 173, 174, 175, 176, 177, 178]) kn_X11_roof_0 g'.fr hI.2.2.1, keepf (md := [164, 165, 167, 168, 169, 170, 171, 172, 173, 174, 175, 176, 177, 178]) kn_X11_roof_6 g'.fr hI.2.2.2.1, keepf (md := [164, 165, 167, 168, 169, 170, 171, 172, 173, 174, 175, 176, 177, 178]) kn_X11_roof_2 g'.fr hI.2.2.2.2.1, keepf (md := [164, 165, 167, 168, 169, 170, 171, 172, 173, 174, 175, 176, 177, 178]) kn_X11_roof_3 g'.fr hI.2.2.2.2.2⟩, rfl, by omega, ⟨sz3, sz4, sz5⟩, g'.fr⟩
    rcases List.mem_cons.mp hP with rfl | hP
    · obtain ⟨w, rfl, hw⟩ := r_int g'.gl
      have n0 : ν' 0 = 0 := g'.ag 0 (Nat.le_of_ble_eq_true rfl)
      have n1 : ν' 1 = a1.toInt := g'.ag 1 (Nat.le_of_ble_eq_true rfl)
      have n2 : ν' 2 = a2.toInt := g'.ag 2 (Nat.le_of_ble_eq_true rfl)
      have n3 : ν' 3 = a3.toInt := g'.ag 3 (Nat.le_of_ble_eq_true rfl)
      have n4 : ν' 4 = (μ.2.2.1 1 1).toInt := g'.ag 4 (Nat.le_of_ble_eq_true rfl)
      have sz0 : (μ'.2.2.1 1 1).toInt = (μ.2.2.1 1 1).toInt := by rw [(g'.fr 1 nc_X11_roof_1).1]
      have sz1 : (μ'.2.2.1 210 0).toInt = (μ.2.2.1 210 0).toInt := by rw [(g'.fr 210 nc_X11_roof_210).1]
      have sz2 : (μ'.2.2.1 307 0).toInt = (μ.2.2.1 307 0).toInt := by rw [(g'.fr 307 nc_X11_roof_307).1]
      have sz3 : (μ'.2.2.1 404 2).toInt = (μ.2.2.1 404 2).toInt := by rw [(g'.fr 404 nc_X11_roof_404).1]
      have sz4 : (μ'.2.2.1 433 0).toInt = (μ.2.2.1 433 0).toInt := by rw [(g'.fr 433 nc_X11_roof_433).1]
      have sz5 : (μ'.2.2.1 433 1).toInt = (μ.2.2.1 433 1).toInt := by rw [(g'.fr 433 nc_X11_roof_433).1]
      have hw' : w.toInt = ν' 5 + 0 := hw
      have i1 : (0 : Int) ≤ ν' 1 ∧ ν' 1 ≤ 5 := g'.iv 1 (Nat.le_of_ble_eq_true rfl)
      have i2 : (0 : Int) ≤ ν' 2 ∧ ν' 2 ≤ 939 := g'.iv 2 (Nat.le_of_ble_eq_true rfl)
      have i3 : (0 : Int) ≤ ν' 3 ∧ ν' 3 ≤ 11 := g'.iv 3 (Nat.le_of_ble_eq_true rfl)
      exact hK _ w μ' ⟨⟨g'.sh, g'.hi, keepf (md := [164, 165, 167, 168, 169, 170, 171, 172, 173, 174, 175, 176, 177, 178]) kn_X11_roof_0 g'.fr hI.2.2.1, keepf (md := [164, 165, 167, 168, 169, 170, 171, 172, 173, 174, 175, 176, 177, 178]) kn_X11_roof_6 g'.fr hI.2.2.2.1, keepf (md := [164, 165, 167, 168, 169, 170, 171, 172, 173, 174, 175, 176, 177, 178]) kn_X11_roof_2 g'.fr hI.2.2.2.2.1, keepf (md := [164, 165, 167, 168, 169, 170, 171, 172, 173, 174, 175, 176, 177, 178]) kn_X11_roof_3 g'.fr hI.2.2.2.2.2⟩, rfl, by omega, ⟨sz3, sz4, sz5⟩, g'.fr⟩
    exact absurd hP List.not_mem_nil
abbrev ck_X11_sick (a1 a2 : Int32) (μ : dw_S) (r : Option Value) (w : Int32) (μ' : dw_S) : Prop := (INV μ') ∧ (r = some (.int w)) ∧ ((μ'.2.2.1 1 1).toInt = (μ.2.2.1 1 1).toInt ∧ (μ'.2.2.1 210 0).toInt = (μ.2.2.1 210 0).toInt ∧ (μ'.2.2.1 307 0).toInt = (μ.2.2.1 307 0).toInt) ∧ ((μ'.2.2.1 404 2).toInt = (μ.2.2.1 404 2).toInt ∧ (μ'.2.2.1 433 0).toInt = (μ.2.2.1 433 0).toInt ∧ (μ'.2.2.1 433 1).toInt = (μ.2.2.1 433 1).toInt) ∧ (∀ a, a ∉ [164, 165, 167, 168, 169, 170, 171, 172, 173, 174, 175, 176, 177, 178, 195, 196, 197, 198, 199, 200] → μ'.2.2.1 a = μ.2.2.1 a ∧ μ'.2.2.2 a = μ.2.2.2 a)
theorem kn_X11_sick_0 : (fl_s 0).all (fun q => decide (q.1 ∉ ([164, 165, 167, 168, 169, 170, 171, 172, 173, 174, 175, 176, 177, 178, 195, 196, 197, 198, 199, 200] : List Nat))) = true := by decide
theorem kn_X11_sick_6 : (fl_s 6).all (fun q => decide (q.1 ∉ ([164, 165, 167, 168, 169, 170, 171, 172, 173, 174, 175, 176, 177, 178, 195, 196, 197, 198, 199, 200] : List Nat))) = true := by decide
theorem kn_X11_sick_2 : (fl_s 2).all (fun q => decide (q.1 ∉ ([164, 165, 167, 168, 169, 170, 171, 172, 173, 174, 175, 176, 177, 178, 195, 196, 197, 198, 199, 200] : List Nat))) = true := by decide
theorem kn_X11_sick_3 : (fl_s 3).all (fun q => decide (q.1 ∉ ([164, 165, 167, 168, 169, 170, 171, 172, 173, 174, 175, 176, 177, 178, 195, 196, 197, 198, 199, 200] : List Nat))) = true := by decide
theorem nc_X11_sick_1 : 1 ∉ ([164, 165, 167, 168, 169, 170, 171, 172, 173, 174, 175, 176, 177, 178, 195, 196, 197, 198, 199, 200] : List Nat) := by decide
theorem nc_X11_sick_210 : 210 ∉ ([164, 165, 167, 168, 169, 170, 171, 172, 173, 174, 175, 176, 177, 178, 195, 196, 197, 198, 199, 200] : List Nat) := by decide
theorem nc_X11_sick_307 : 307 ∉ ([164, 165, 167, 168, 169, 170, 171, 172, 173, 174, 175, 176, 177, 178, 195, 196, 197, 198, 199, 200] : List Nat) := by decide
theorem nc_X11_sick_404 : 404 ∉ ([164, 165, 167, 168, 169, 170, 171, 172, 173, 174, 175, 176, 177, 178, 195, 196, 197, 198, 199, 200] : List Nat) := by decide
theorem nc_X11_sick_433 : 433 ∉ ([164, 165, 167, 168, 169, 170, 171, 172, 173, 174, 175, 176, 177, 178, 195, 196, 197, 198, 199, 200] : List Nat) := by decide
theorem cl_X11_sick {μ : dw_S} {K : dw_K} {a1 a2 : Int32} (hI : INV μ) (hK : ∀ (r : Option Value) (w : Int32) (μ' : dw_S), ck_X11_sick a1 a2 μ r w μ' → K r μ') : t_X11_sick [.ref 0, .int a1, .int a2] μ K := by
  have h_1_1 := hI.2.1 1 1
  rw [sgc_0] at h_1_1
  refine al_364 242 (by decide) (fun s => [(0 : Int), (a1.toInt : Int), (a2.toInt : Int), ((μ.2.2.1 1 1).toInt : Int)].getD s (0 : Int)) [.ref 0, .int a1, .int a2] μ K ⟨hI.1, hI.2.1, fun _ _ => ⟨rfl, rfl⟩, rfl, Nat.le_refl _, Nat.le_of_ble_eq_true rfl, fun _ _ => rfl, ?_, fun q hq => absurd hq List.not_mem_nil, ?_, trivial, ?_, ?_⟩ ?_
  · exact iv2_ok (iv := (in_242).pre.iv) (vs := [(0 : Int), (a1.toInt : Int), (a2.toInt : Int), ((μ.2.2.1 1 1).toInt : Int)]) ⟨⟨Int.le_refl 0, Int.le_refl 0⟩, ⟨dx_b1 _, dx_b2 _⟩, ⟨dx_b1 _, dx_b2 _⟩, h_1_1, trivial⟩
  · exact ⟨⟨0, List.Mem.head _, rfl⟩, ⟨Nat.le_of_ble_eq_true rfl, a1, rfl, (Int.add_zero _).symm⟩, ⟨Nat.le_of_ble_eq_true rfl, a2, rfl, (Int.add_zero _).symm⟩, trivial⟩
  · exact dx_aL.all (l := (in_242).pre.fa) ⟨⟨Nat.le_of_ble_eq_true rfl, (Int.add_zero _).symm⟩, trivial⟩
  · exact dx_aL.all (l := (in_242).pre.fl) trivial
  · intro r μ' ν' P hP g'
    rcases List.mem_cons.mp hP with rfl | hP
    · obtain ⟨w, rfl, hw⟩ := r_int g'.gl
      have n0 : ν' 0 = 0 := g'.ag 0 (Nat.le_of_ble_eq_true rfl)
      have n1 : ν' 1 = a1.toInt := g'.ag 1 (Nat.le_of_ble_eq_true rfl)
      have n2 : ν' 2 = a2.toInt := g'.ag 2 (Nat.le_of_ble_eq_true rfl)
      have n3 : ν' 3 = (μ.2.2.1 1 1).toInt := g'.ag 3 (Nat.le_of_ble_eq_true rfl)
      have sz0 : (μ'.2.2.1 1 1).toInt = (μ.2.2.1 1 1).toInt := by rw [(g'.fr 1 nc_X11_sick_1).1]
      have sz1 : (μ'.2.2.1 210 0).toInt = (μ.2.2.1 210 0).toInt := by rw [(g'.fr 210 nc_X11_sick_210).1]
      have sz2 : (μ'.2.2.1 307 0).toInt = (μ.2.2.1 307 0).toInt := by rw [(g'.fr 307 nc_X11_sick_307).1]
      have sz3 : (μ'.2.2.1 404 2).toInt = (μ.2.2.1 404 2).toInt := by rw [(g'.fr 404 nc_X11_sick_404).1]
      have sz4 : (μ'.2.2.1 433 0).toInt = (μ.2.2.1 433 0).toInt := by rw [(g'.fr 433 nc_X11_sick_433).1]
      have sz5 : (μ'.2.2.1 433 1).toInt = (μ.2.2.1 433 1).toInt := by rw [(g'.fr 433 nc_X11_sick_433).1]
      have hw' : w.toInt = ν' 4 + 0 := hw
      have i1 : (0 : Int) ≤ ν' 1 ∧ ν' 1 ≤ 5 := g'.iv 1 (Nat.le_of_ble_eq_true rfl)
      have i2 : (1 : Int) ≤ ν' 2 ∧ ν' 2 ≤ 144 := g'.iv 2 (Nat.le_of_ble_eq_true rfl)
      exact hK _ w μ' ⟨⟨g'.sh, g'.hi, keepf (md := [164, 165, 167, 168, 169, 170, 171, 172, 173, 174, 175, 176, 177, 178, 195, 196, 197, 198, 199, 200]) kn_X11_sick_0 g'.fr hI.2.2.1, keepf (md := [164, 165, 167, 168, 169, 170, 171, 172, 173, 174, 175, 176, 177, 178, 195, 196, 197, 198, 199, 200]) kn_X11_sick_6 g'.fr hI.2.2.2.1, keepf (md := [164, 165, 167, 168, 169, 170, 171, 172, 173, 174, 175, 176, 177, 178, 195, 196, 197, 198, 199, 200]) kn_X11_sick_2 g'.fr hI.2.2.2.2.1, keepf (md := [164, 165, 167, 168, 169, 170, 171, 172, 173, 174, 175, 176, 177, 178, 195, 196, 197, 198, 199, 200]) kn_X11_sick_3 g'.fr hI.2.2.2.2.2⟩, rfl, by omega, ⟨sz3, sz4, sz5⟩, g'.fr⟩
    rcases List.mem_cons.mp hP with rfl | hP
    · obtain ⟨w, rfl, hw⟩ := r_int g'.gl
      have n0 : ν' 0 = 0 := g'.ag 0 (Nat.le_of_ble_eq_true rfl)
      have n1 : ν' 1 = a1.toInt := g'.ag 1 (Nat.le_of_ble_eq_true rfl)
      have n2 : ν' 2 = a2.toInt := g'.ag 2 (Nat.le_of_ble_eq_true rfl)
      have n3 : ν' 3 = (μ.2.2.1 1 1).toInt := g'.ag 3 (Nat.le_of_ble_eq_true rfl)
      have sz0 : (μ'.2.2.1 1 1).toInt = (μ.2.2.1 1 1).toInt := by rw [(g'.fr 1 nc_X11_sick_1).1]
      have sz1 : (μ'.2.2.1 210 0).toInt = (μ.2.2.1 210 0).toInt := by rw [(g'.fr 210 nc_X11_sick_210).1]
      have sz2 : (μ'.2.2.1 307 0).toInt = (μ.2.2.1 307 0).toInt := by rw [(g'.fr 307 nc_X11_sick_307).1]
      have sz3 : (μ'.2.2.1 404 2).toInt = (μ.2.2.1 404 2).toInt := by rw [(g'.fr 404 nc_X11_sick_404).1]
      have sz4 : (μ'.2.2.1 433 0).toInt = (μ.2.2.1 433 0).toInt := by rw [(g'.fr 433 nc_X11_sick_433).1]
      have sz5 : (μ'.2.2.1 433 1).toInt = (μ.2.2.1 433 1).toInt := by rw [(g'.fr 433 nc_X11_sick_433).1]
      have hw' : w.toInt = ν' 0 + (-1) := hw
      exact hK _ w μ' ⟨⟨g'.sh, g'.hi, keepf (md := [164, 165, 167, 168, 169, 170, 171, 172, 173, 174, 175, 176, 177, 178, 195, 196, 197, 198, 199, 200]) kn_X11_sick_0 g'.fr hI.2.2.1, keepf (md := [164, 165, 167, 168, 169, 170, 171, 172, 173, 174, 175, 176, 177, 178, 195, 196, 197, 198, 199, 200]) kn_X11_sick_6 g'.fr hI.2.2.2.1, keepf (md := [164, 165, 167, 168, 169, 170, 171, 172, 173, 174, 175, 176, 177, 178, 195, 196, 197, 198, 199, 200]) kn_X11_sick_2 g'.fr hI.2.2.2.2.1, keepf (md := [164, 165, 167, 168, 169, 170, 171, 172, 173, 174, 175, 176, 177, 178, 195, 196, 197, 198, 199, 200]) kn_X11_sick_3 g'.fr hI.2.2.2.2.2⟩, rfl, by omega, ⟨sz3, sz4, sz5⟩, g'.fr⟩
    exact absurd hP List.not_mem_nil
abbrev ck_X11_sky (a1 a2 a3 : Int32) (μ : dw_S) (r : Option Value) (w : Int32) (μ' : dw_S) : Prop := (INV μ') ∧ (r = some (.int w)) ∧ ((μ'.2.2.1 1 1).toInt = (μ.2.2.1 1 1).toInt ∧ (μ'.2.2.1 210 0).toInt = (μ.2.2.1 210 0).toInt ∧ (μ'.2.2.1 307 0).toInt = (μ.2.2.1 307 0).toInt) ∧ ((μ'.2.2.1 404 2).toInt = (μ.2.2.1 404 2).toInt ∧ (μ'.2.2.1 433 0).toInt = (μ.2.2.1 433 0).toInt ∧ (μ'.2.2.1 433 1).toInt = (μ.2.2.1 433 1).toInt) ∧ (∀ a, a ∉ [] → μ'.2.2.1 a = μ.2.2.1 a ∧ μ'.2.2.2 a = μ.2.2.2 a)
theorem kn_X11_sky_0 : (fl_s 0).all (fun q => decide (q.1 ∉ ([] : List Nat))) = true := by decide
theorem kn_X11_sky_6 : (fl_s 6).all (fun q => decide (q.1 ∉ ([] : List Nat))) = true := by decide
theorem kn_X11_sky_2 : (fl_s 2).all (fun q => decide (q.1 ∉ ([] : List Nat))) = true := by decide
theorem kn_X11_sky_3 : (fl_s 3).all (fun q => decide (q.1 ∉ ([] : List Nat))) = true := by decide
theorem nc_X11_sky_1 : 1 ∉ ([] : List Nat) := by decide
theorem nc_X11_sky_210 : 210 ∉ ([] : List Nat) := by decide
theorem nc_X11_sky_307 : 307 ∉ ([] : List Nat) := by decide
theorem nc_X11_sky_404 : 404 ∉ ([] : List Nat) := by decide
theorem nc_X11_sky_433 : 433 ∉ ([] : List Nat) := by decide
theorem cl_X11_sky {μ : dw_S} {K : dw_K} {a1 a2 a3 : Int32} (hI : INV μ) (hK : ∀ (r : Option Value) (w : Int32) (μ' : dw_S), ck_X11_sky a1 a2 a3 μ r w μ' → K r μ') : t_X11_sky [.ref 0, .int a1, .int a2, .int a3] μ K := by
  have h_1_1 := hI.2.1 1 1
  rw [sgc_0] at h_1_1
  refine al_364 244 (by decide) (fun s => [(0 : Int), (a1.toInt : Int), (a2.toInt : Int), (a3.toInt : Int), ((μ.2.2.1 1 1).toInt : Int)].getD s (0 : Int)) [.ref 0, .int a1, .int a2, .int a3] μ K ⟨hI.1, hI.2.1, fun _ _ => ⟨rfl, rfl⟩, rfl, Nat.le_refl _, Nat.le_of_ble_eq_true rfl, fun _ _ => rfl, ?_, fun q hq => absurd hq List.not_mem_nil, ?_, trivial, ?_, ?_⟩ ?_
  · exact iv2_ok (iv := (in_244).pre.iv) (vs := [(0 : Int), (a1.toInt : Int), (a2.toInt : Int), (a3.toInt : Int), ((μ.2.2.1 1 1).toInt : Int)]) ⟨⟨Int.le_refl 0, Int.le_refl 0⟩, ⟨dx_b1 _, dx_b2 _⟩, ⟨dx_b1 _, dx_b2 _⟩, ⟨dx_b1 _, dx_b2 _⟩, h_1_1, trivial⟩
  · exact ⟨⟨0, List.Mem.head _, rfl⟩, ⟨Nat.le_of_ble_eq_true rfl, a1, rfl, (Int.add_zero _).symm⟩, ⟨Nat.le_of_ble_eq_true rfl, a2, rfl, (Int.add_zero _).symm⟩, ⟨Nat.le_of_ble_eq_true rfl, a3, rfl, (Int.add_zero _).symm⟩, trivial⟩
  · exact dx_aL.all (l := (in_244).pre.fa) ⟨⟨Nat.le_of_ble_eq_true rfl, (Int.add_zero _).symm⟩, trivial⟩
  · exact dx_aL.all (l := (in_244).pre.fl) trivial
  · intro r μ' ν' P hP g'
    rcases List.mem_cons.mp hP with rfl | hP
    · obtain ⟨w, rfl, hw⟩ := r_int g'.gl
      have n0 : ν' 0 = 0 := g'.ag 0 (Nat.le_of_ble_eq_true rfl)
      have n1 : ν' 1 = a1.toInt := g'.ag 1 (Nat.le_of_ble_eq_true rfl)
      have n2 : ν' 2 = a2.toInt := g'.ag 2 (Nat.le_of_ble_eq_true rfl)
      have n3 : ν' 3 = a3.toInt := g'.ag 3 (Nat.le_of_ble_eq_true rfl)
      have n4 : ν' 4 = (μ.2.2.1 1 1).toInt := g'.ag 4 (Nat.le_of_ble_eq_true rfl)
      have sz0 : (μ'.2.2.1 1 1).toInt = (μ.2.2.1 1 1).toInt := by rw [(g'.fr 1 nc_X11_sky_1).1]
      have sz1 : (μ'.2.2.1 210 0).toInt = (μ.2.2.1 210 0).toInt := by rw [(g'.fr 210 nc_X11_sky_210).1]
      have sz2 : (μ'.2.2.1 307 0).toInt = (μ.2.2.1 307 0).toInt := by rw [(g'.fr 307 nc_X11_sky_307).1]
      have sz3 : (μ'.2.2.1 404 2).toInt = (μ.2.2.1 404 2).toInt := by rw [(g'.fr 404 nc_X11_sky_404).1]
      have sz4 : (μ'.2.2.1 433 0).toInt = (μ.2.2.1 433 0).toInt := by rw [(g'.fr 433 nc_X11_sky_433).1]
      have sz5 : (μ'.2.2.1 433 1).toInt = (μ.2.2.1 433 1).toInt := by rw [(g'.fr 433 nc_X11_sky_433).1]
      have hw' : w.toInt = ν' 0 + (-1) := hw
      exact hK _ w μ' ⟨⟨g'.sh, g'.hi, keepf (md := []) kn_X11_sky_0 g'.fr hI.2.2.1, keepf (md := []) kn_X11_sky_6 g'.fr hI.2.2.2.1, keepf (md := []) kn_X11_sky_2 g'.fr hI.2.2.2.2.1, keepf (md := []) kn_X11_sky_3 g'.fr hI.2.2.2.2.2⟩, rfl, by omega, ⟨sz3, sz4, sz5⟩, g'.fr⟩
    rcases List.mem_cons.mp hP with rfl | hP
    · obtain ⟨w, rfl, hw⟩ := r_int g'.gl
      have n0 : ν' 0 = 0 := g'.ag 0 (Nat.le_of_ble_eq_true rfl)
      have n1 : ν' 1 = a1.toInt := g'.ag 1 (Nat.le_of_ble_eq_true rfl)
      have n2 : ν' 2 = a2.toInt := g'.ag 2 (Nat.le_of_ble_eq_true rfl)
      have n3 : ν' 3 = a3.toInt := g'.ag 3 (Nat.le_of_ble_eq_true rfl)
      have n4 : ν' 4 = (μ.2.2.1 1 1).toInt := g'.ag 4 (Nat.le_of_ble_eq_true rfl)
      have sz0 : (μ'.2.2.1 1 1).toInt = (μ.2.2.1 1 1).toInt := by rw [(g'.fr 1 nc_X11_sky_1).1]
      have sz1 : (μ'.2.2.1 210 0).toInt = (μ.2.2.1 210 0).toInt := by rw [(g'.fr 210 nc_X11_sky_210).1]
      have sz2 : (μ'.2.2.1 307 0).toInt = (μ.2.2.1 307 0).toInt := by rw [(g'.fr 307 nc_X11_sky_307).1]
      have sz3 : (μ'.2.2.1 404 2).toInt = (μ.2.2.1 404 2).toInt := by rw [(g'.fr 404 nc_X11_sky_404).1]
      have sz4 : (μ'.2.2.1 433 0).toInt = (μ.2.2.1 433 0).toInt := by rw [(g'.fr 433 nc_X11_sky_433).1]
      have sz5 : (μ'.2.2.1 433 1).toInt = (μ.2.2.1 433 1).toInt := by rw [(g'.fr 433 nc_X11_sky_433).1]
      have hw' : w.toInt = ν' 5 + 0 := hw
      have i1 : (0 : Int) ≤ ν' 1 ∧ ν' 1 ≤ 5 := g'.iv 1 (Nat.le_of_ble_eq_true rfl)
      have i2 : (0 : Int) ≤ ν' 2 ∧ ν' 2 ≤ 143 := g'.iv 2 (Nat.le_of_ble_eq_true rfl)
      have i3 : (0 : Int) ≤ ν' 3 ∧ ν' 3 ≤ 4 := g'.iv 3 (Nat.le_of_ble_eq_true rfl)
      exact hK _ w μ' ⟨⟨g'.sh, g'.hi, keepf (md := []) kn_X11_sky_0 g'.fr hI.2.2.1, keepf (md := []) kn_X11_sky_6 g'.fr hI.2.2.2.1, keepf (md := []) kn_X11_sky_2 g'.fr hI.2.2.2.2.1, keepf (md := []) kn_X11_sky_3 g'.fr hI.2.2.2.2.2⟩, rfl, by omega, ⟨sz3, sz4, sz5⟩, g'.fr⟩
    rcases List.mem_cons.mp hP with rfl | hP
    · obtain ⟨w, rfl, hw⟩ := r_int g'.gl
      have n0 : ν' 0 = 0 := g'.ag 0 (Nat.le_of_ble_eq_true rfl)
      have n1 : ν' 1 = a1.toInt := g'.ag 1 (Nat.le_of_ble_eq_true rfl)
      have n2 : ν' 2 = a2.toInt := g'.ag 2 (Nat.le_of_ble_eq_true rfl)
      have n3 : ν' 3 = a3.toInt := g'.ag 3 (Nat.le_of_ble_eq_true rfl)
      have n4 : ν' 4 = (μ.2.2.1 1 1).toInt := g'.ag 4 (Nat.le_of_ble_eq_true rfl)
      have sz0 : (μ'.2.2.1 1 1).toInt = (μ.2.2.1 1 1).toInt := by rw [(g'.fr 1 nc_X11_sky_1).1]
      have sz1 : (μ'.2.2.1 210 0).toInt = (μ.2.2.1 210 0).toInt := by rw [(g'.fr 210 nc_X11_sky_210).1]
      have sz2 : (μ'.2.2.1 307 0).toInt = (μ.2.2.1 307 0).toInt := by rw [(g'.fr 307 nc_X11_sky_307).1]
      have sz3 : (μ'.2.2.1 404 2).toInt = (μ.2.2.1 404 2).toInt := by rw [(g'.fr 404 nc_X11_sky_404).1]
      have sz4 : (μ'.2.2.1 433 0).toInt = (μ.2.2.1 433 0).toInt := by rw [(g'.fr 433 nc_X11_sky_433).1]
      have sz5 : (μ'.2.2.1 433 1).toInt = (μ.2.2.1 433 1).toInt := by rw [(g'.fr 433 nc_X11_sky_433).1]
      have hw' : w.toInt = ν' 0 + 0 := hw
      have i1 : (0 : Int) ≤ ν' 1 ∧ ν' 1 ≤ 5 := g'.iv 1 (Nat.le_of_ble_eq_true rfl)
      have i2 : (0 : Int) ≤ ν' 2 ∧ ν' 2 ≤ 143 := g'.iv 2 (Nat.le_of_ble_eq_true rfl)
      have i3 : (0 : Int) ≤ ν' 3 ∧ ν' 3 ≤ 4 := g'.iv 3 (Nat.le_of_ble_eq_true rfl)
      exact hK _ w μ' ⟨⟨g'.sh, g'.hi, keepf (md := []) kn_X11_sky_0 g'.fr hI.2.2.1, keepf (md := []) kn_X11_sky_6 g'.fr hI.2.2.2.1, keepf (md := []) kn_X11_sky_2 g'.fr hI.2.2.2.2.1, keepf (md := []) kn_X11_sky_3 g'.fr hI.2.2.2.2.2⟩, rfl, by omega, ⟨sz3, sz4, sz5⟩, g'.fr⟩
    exact absurd hP List.not_mem_nil
abbrev ck_X11_slugs (a1 a2 a3 a4 : Int32) (μ : dw_S) (r : Option Value) (w : Int32) (μ' : dw_S) : Prop := (INV μ') ∧ (r = some (.int w)) ∧ ((μ'.2.2.1 1 1).toInt = (μ.2.2.1 1 1).toInt ∧ (μ'.2.2.1 210 0).toInt = (μ.2.2.1 210 0).toInt ∧ (μ'.2.2.1 307 0).toInt = (μ.2.2.1 307 0).toInt) ∧ ((μ'.2.2.1 404 2).toInt = (μ.2.2.1 404 2).toInt ∧ (μ'.2.2.1 433 0).toInt = (μ.2.2.1 433 0).toInt ∧ (μ'.2.2.1 433 1).toInt = (μ.2.2.1 433 1).toInt) ∧ (∀ a, a ∉ [164, 165, 167, 168, 169, 170, 171, 172, 173, 174, 175, 176, 177, 178, 202] → μ'.2.2.1 a = μ.2.2.1 a ∧ μ'.2.2.2 a = μ.2.2.2 a)
theorem kn_X11_slugs_0 : (fl_s 0).all (fun q => decide (q.1 ∉ ([164, 165, 167, 168, 169, 170, 171, 172, 173, 174, 175, 176, 177, 178, 202] : List Nat))) = true := by decide
theorem kn_X11_slugs_6 : (fl_s 6).all (fun q => decide (q.1 ∉ ([164, 165, 167, 168, 169, 170, 171, 172, 173, 174, 175, 176, 177, 178, 202] : List Nat))) = true := by decide
theorem kn_X11_slugs_2 : (fl_s 2).all (fun q => decide (q.1 ∉ ([164, 165, 167, 168, 169, 170, 171, 172, 173, 174, 175, 176, 177, 178, 202] : List Nat))) = true := by decide
theorem kn_X11_slugs_3 : (fl_s 3).all (fun q => decide (q.1 ∉ ([164, 165, 167, 168, 169, 170, 171, 172, 173, 174, 175, 176, 177, 178, 202] : List Nat))) = true := by decide
theorem nc_X11_slugs_1 : 1 ∉ ([164, 165, 167, 168, 169, 170, 171, 172, 173, 174, 175, 176, 177, 178, 202] : List Nat) := by decide
theorem nc_X11_slugs_210 : 210 ∉ ([164, 165, 167, 168, 169, 170, 171, 172, 173, 174, 175, 176, 177, 178, 202] : List Nat) := by decide
theorem nc_X11_slugs_307 : 307 ∉ ([164, 165, 167, 168, 169, 170, 171, 172, 173, 174, 175, 176, 177, 178, 202] : List Nat) := by decide
theorem nc_X11_slugs_404 : 404 ∉ ([164, 165, 167, 168, 169, 170, 171, 172, 173, 174, 175, 176, 177, 178, 202] : List Nat) := by decide
theorem nc_X11_slugs_433 : 433 ∉ ([164, 165, 167, 168, 169, 170, 171, 172, 173, 174, 175, 176, 177, 178, 202] : List Nat) := by decide
theorem cl_X11_slugs {μ : dw_S} {K : dw_K} {a1 a2 a3 a4 : Int32} (hI : INV μ) (hK : ∀ (r : Option Value) (w : Int32) (μ' : dw_S), ck_X11_slugs a1 a2 a3 a4 μ r w μ' → K r μ') : t_X11_slugs [.ref 0, .int a1, .int a2, .int a3, .int a4] μ K := by
  have h_1_1 := hI.2.1 1 1
  rw [sgc_0] at h_1_1
  refine al_364 249 (by decide) (fun s => [(0 : Int), (a1.toInt : Int), (a2.toInt : Int), (a3.toInt : Int), (a4.toInt : Int), ((μ.2.2.1 1 1).toInt : Int)].getD s (0 : Int)) [.ref 0, .int a1, .int a2, .int a3, .int a4] μ K ⟨hI.1, hI.2.1, fun _ _ => ⟨rfl, rfl⟩, rfl, Nat.le_refl _, Nat.le_of_ble_eq_true rfl, fun _ _ => rfl, ?_, fun q hq => absurd hq List.not_mem_nil, ?_, trivial, ?_, ?_⟩ ?_
  · exact iv2_ok (iv := (in_249).pre.iv) (vs := [(0 : Int), (a1.toInt : Int), (a2.toInt : Int), (a3.toInt : Int), (a4.toInt : Int), ((μ.2.2.1 1 1).toInt : Int)]) ⟨⟨Int.le_refl 0, Int.le_refl 0⟩, ⟨dx_b1 _, dx_b2 _⟩, ⟨dx_b1 _, dx_b2 _⟩, ⟨dx_b1 _, dx_b2 _⟩, ⟨dx_b1 _, dx_b2 _⟩, h_1_1, trivial⟩
  · exact ⟨⟨0, List.Mem.head _, rfl⟩, ⟨Nat.le_of_ble_eq_true rfl, a1, rfl, (Int.add_zero _).symm⟩, ⟨Nat.le_of_ble_eq_true rfl, a2, rfl, (Int.add_zero _).symm⟩, ⟨Nat.le_of_ble_eq_true rfl, a3, rfl, (Int.add_zero _).symm⟩, ⟨Nat.le_of_ble_eq_true rfl, a4, rfl, (Int.add_zero _).symm⟩, trivial⟩
  · exact dx_aL.all (l := (in_249).pre.fa) ⟨⟨Nat.le_of_ble_eq_true rfl, (Int.add_zero _).symm⟩, trivial⟩
  · exact dx_aL.all (l := (in_249).pre.fl) trivial
  · intro r μ' ν' P hP g'
    rcases List.mem_cons.mp hP with rfl | hP
    · obtain ⟨w, rfl, hw⟩ := r_int g'.gl
      have n0 : ν' 0 = 0 := g'.ag 0 (Nat.le_of_ble_eq_true rfl)
      have n1 : ν' 1 = a1.toInt := g'.ag 1 (Nat.le_of_ble_eq_true rfl)
      have n2 : ν' 2 = a2.toInt := g'.ag 2 (Nat.le_of_ble_eq_true rfl)
      have n3 : ν' 3 = a3.toInt := g'.ag 3 (Nat.le_of_ble_eq_true rfl)
      have n4 : ν' 4 = a4.toInt := g'.ag 4 (Nat.le_of_ble_eq_true rfl)
      have n5 : ν' 5 = (μ.2.2.1 1 1).toInt := g'.ag 5 (Nat.le_of_ble_eq_true rfl)
      have sz0 : (μ'.2.2.1 1 1).toInt = (μ.2.2.1 1 1).toInt := by rw [(g'.fr 1 nc_X11_slugs_1).1]
      have sz1 : (μ'.2.2.1 210 0).toInt = (μ.2.2.1 210 0).toInt := by rw [(g'.fr 210 nc_X11_slugs_210).1]
      have sz2 : (μ'.2.2.1 307 0).toInt = (μ.2.2.1 307 0).toInt := by rw [(g'.fr 307 nc_X11_slugs_307).1]
      have sz3 : (μ'.2.2.1 404 2).toInt = (μ.2.2.1 404 2).toInt := by rw [(g'.fr 404 nc_X11_slugs_404).1]
      have sz4 : (μ'.2.2.1 433 0).toInt = (μ.2.2.1 433 0).toInt := by rw [(g'.fr 433 nc_X11_slugs_433).1]
      have sz5 : (μ'.2.2.1 433 1).toInt = (μ.2.2.1 433 1).toInt := by rw [(g'.fr 433 nc_X11_slugs_433).1]
      have hw' : w.toInt = ν' 0 + (-1) := hw
      exact hK _ w μ' ⟨⟨g'.sh, g'.hi, keepf (md := [164, 165, 167, 168, 169, 170, 171, 172, 173, 174, 175, 176, 177, 178, 202]) kn_X11_slugs_0 g'.fr hI.2.2.1, keepf (md := [164, 165, 167, 168, 169, 170, 171, 172, 173, 174, 175, 176, 177, 178, 202]) kn_X11_slugs_6 g'.fr hI.2.2.2.1, keepf (md := [164, 165, 167, 168, 169, 170, 171, 172, 173, 174, 175, 176, 177, 178, 202]) kn_X11_slugs_2 g'.fr hI.2.2.2.2.1, keepf (md := [164, 165, 167, 168, 169, 170, 171, 172, 173, 174, 175, 176, 177, 178, 202]) kn_X11_slugs_3 g'.fr hI.2.2.2.2.2⟩, rfl, by omega, ⟨sz3, sz4, sz5⟩, g'.fr⟩
    rcases List.mem_cons.mp hP with rfl | hP
    · obtain ⟨w, rfl, hw⟩ := r_int g'.gl
      have n0 : ν' 0 = 0 := g'.ag 0 (Nat.le_of_ble_eq_true rfl)
      have n1 : ν' 1 = a1.toInt := g'.ag 1 (Nat.le_of_ble_eq_true rfl)
      have n2 : ν' 2 = a2.toInt := g'.ag 2 (Nat.le_of_ble_eq_true rfl)
      have n3 : ν' 3 = a3.toInt := g'.ag 3 (Nat.le_of_ble_eq_true rfl)
      have n4 : ν' 4 = a4.toInt := g'.ag 4 (Nat.le_of_ble_eq_true rfl)
      have n5 : ν' 5 = (μ.2.2.1 1 1).toInt := g'.ag 5 (Nat.le_of_ble_eq_true rfl)
      have sz0 : (μ'.2.2.1 1 1).toInt = (μ.2.2.1 1 1).toInt := by rw [(g'.fr 1 nc_X11_slugs_1).1]
      have sz1 : (μ'.2.2.1 210 0).toInt = (μ.2.2.1 210 0).toInt := by rw [(g'.fr 210 nc_X11_slugs_210).1]
      have sz2 : (μ'.2.2.1 307 0).toInt = (μ.2.2.1 307 0).toInt := by rw [(g'.fr 307 nc_X11_slugs_307).1]
      have sz3 : (μ'.2.2.1 404 2).toInt = (μ.2.2.1 404 2).toInt := by rw [(g'.fr 404 nc_X11_slugs_404).1]
      have sz4 : (μ'.2.2.1 433 0).toInt = (μ.2.2.1 433 0).toInt := by rw [(g'.fr 433 nc_X11_slugs_433).1]
      have sz5 : (μ'.2.2.1 433 1).toInt = (μ.2.2.1 433 1).toInt := by rw [(g'.fr 433 nc_X11_slugs_433).1]
      have hw' : w.toInt = ν' 6 + 0 := hw
      have i1 : (0 : Int) ≤ ν' 1 ∧ ν' 1 ≤ 5 := g'.iv 1 (Nat.le_of_ble_eq_true rfl)
      have i2 : (0 : Int) ≤ ν' 2 ∧ ν' 2 ≤ 143 := g'.iv 2 (Nat.le_of_ble_eq_true rfl)
      have i3 : (0 : Int) ≤ ν' 3 ∧ ν' 3 ≤ 939 := g'.iv 3 (Nat.le_of_ble_eq_true rfl)
      have i4 : (0 : Int) ≤ ν' 4 ∧ ν' 4 ≤ 11 := g'.iv 4 (Nat.le_of_ble_eq_true rfl)
      exact hK _ w μ' ⟨⟨g'.sh, g'.hi, keepf (md := [164, 165, 167, 168, 169, 170, 171, 172, 173, 174, 175, 176, 177, 178, 202]) kn_X11_slugs_0 g'.fr hI.2.2.1, keepf (md := [164, 165, 167, 168, 169, 170, 171, 172, 173, 174, 175, 176, 177, 178, 202]) kn_X11_slugs_6 g'.fr hI.2.2.2.1, keepf (md := [164, 165, 167, 168, 169, 170, 171, 172, 173, 174, 175, 176, 177, 178, 202]) kn_X11_slugs_2 g'.fr hI.2.2.2.2.1, keepf (md := [164, 165, 167, 168, 169, 170, 171, 172, 173, 174, 175, 176, 177, 178, 202]) kn_X11_slugs_3 g'.fr hI.2.2.2.2.2⟩, rfl, by omega, ⟨sz3, sz4, sz5⟩, g'.fr⟩
    rcases List.mem_cons.mp hP with rfl | hP
    · obtain ⟨w, rfl, hw⟩ := r_int g'.gl
      have n0 : ν' 0 = 0 := g'.ag 0 (Nat.le_of_ble_eq_true rfl)
      have n1 : ν' 1 = a1.toInt := g'.ag 1 (Nat.le_of_ble_eq_true rfl)
      have n2 : ν' 2 = a2.toInt := g'.ag 2 (Nat.le_of_ble_eq_true rfl)
      have n3 : ν' 3 = a3.toInt := g'.ag 3 (Nat.le_of_ble_eq_true rfl)
      have n4 : ν' 4 = a4.toInt := g'.ag 4 (Nat.le_of_ble_eq_true rfl)
      have n5 : ν' 5 = (μ.2.2.1 1 1).toInt := g'.ag 5 (Nat.le_of_ble_eq_true rfl)
      have sz0 : (μ'.2.2.1 1 1).toInt = (μ.2.2.1 1 1).toInt := by rw [(g'.fr 1 nc_X11_slugs_1).1]
      have sz1 : (μ'.2.2.1 210 0).toInt = (μ.2.2.1 210 0).toInt := by rw [(g'.fr 210 nc_X11_slugs_210).1]
      have sz2 : (μ'.2.2.1 307 0).toInt = (μ.2.2.1 307 0).toInt := by rw [(g'.fr 307 nc_X11_slugs_307).1]
      have sz3 : (μ'.2.2.1 404 2).toInt = (μ.2.2.1 404 2).toInt := by rw [(g'.fr 404 nc_X11_slugs_404).1]
      have sz4 : (μ'.2.2.1 433 0).toInt = (μ.2.2.1 433 0).toInt := by rw [(g'.fr 433 nc_X11_slugs_433).1]
      have sz5 : (μ'.2.2.1 433 1).toInt = (μ.2.2.1 433 1).toInt := by rw [(g'.fr 433 nc_X11_slugs_433).1]
      have hw' : w.toInt = ν' 0 + 0 := hw
      have i1 : (0 : Int) ≤ ν' 1 ∧ ν' 1 ≤ 5 := g'.iv 1 (Nat.le_of_ble_eq_true rfl)
      have i2 : (0 : Int) ≤ ν' 2 ∧ ν' 2 ≤ 143 := g'.iv 2 (Nat.le_of_ble_eq_true rfl)
      have i3 : (0 : Int) ≤ ν' 3 ∧ ν' 3 ≤ 939 := g'.iv 3 (Nat.le_of_ble_eq_true rfl)
      have i4 : (0 : Int) ≤ ν' 4 ∧ ν' 4 ≤ 11 := g'.iv 4 (Nat.le_of_ble_eq_true rfl)
      exact hK _ w μ' ⟨⟨g'.sh, g'.hi, keepf (md := [164, 165, 167, 168, 169, 170, 171, 172, 173, 174, 175, 176, 177, 178, 202]) kn_X11_slugs_0 g'.fr hI.2.2.1, keepf (md := [164, 165, 167, 168, 169, 170, 171, 172, 173, 174, 175, 176, 177, 178, 202]) kn_X11_slugs_6 g'.fr hI.2.2.2.1, keepf (md := [164, 165, 167, 168, 169, 170, 171, 172, 173, 174, 175, 176, 177, 178, 202]) kn_X11_slugs_2 g'.fr hI.2.2.2.2.1, keepf (md := [164, 165, 167, 168, 169, 170, 171, 172, 173, 174, 175, 176, 177, 178, 202]) kn_X11_slugs_3 g'.fr hI.2.2.2.2.2⟩, rfl, by omega, ⟨sz3, sz4, sz5⟩, g'.fr⟩
    exact absurd hP List.not_mem_nil
abbrev ck_X11_spell (a1 a2 a3 : Int32) (μ : dw_S) (r : Option Value) (w : Int32) (μ' : dw_S) : Prop := (INV μ') ∧ (r = some (.int w)) ∧ ((μ'.2.2.1 1 1).toInt = (μ.2.2.1 1 1).toInt ∧ (μ'.2.2.1 210 0).toInt = (μ.2.2.1 210 0).toInt ∧ (μ'.2.2.1 307 0).toInt = (μ.2.2.1 307 0).toInt) ∧ ((μ'.2.2.1 404 2).toInt = (μ.2.2.1 404 2).toInt ∧ (μ'.2.2.1 433 0).toInt = (μ.2.2.1 433 0).toInt ∧ (μ'.2.2.1 433 1).toInt = (μ.2.2.1 433 1).toInt) ∧ (∀ a, a ∉ [164, 165, 167, 168, 169, 170, 171, 172, 173, 174, 175, 176, 177, 178, 195, 196, 197, 198, 199, 200] → μ'.2.2.1 a = μ.2.2.1 a ∧ μ'.2.2.2 a = μ.2.2.2 a)
theorem kn_X11_spell_0 : (fl_s 0).all (fun q => decide (q.1 ∉ ([164, 165, 167, 168, 169, 170, 171, 172, 173, 174, 175, 176, 177, 178, 195, 196, 197, 198, 199, 200] : List Nat))) = true := by decide
theorem kn_X11_spell_6 : (fl_s 6).all (fun q => decide (q.1 ∉ ([164, 165, 167, 168, 169, 170, 171, 172, 173, 174, 175, 176, 177, 178, 195, 196, 197, 198, 199, 200] : List Nat))) = true := by decide
theorem kn_X11_spell_2 : (fl_s 2).all (fun q => decide (q.1 ∉ ([164, 165, 167, 168, 169, 170, 171, 172, 173, 174, 175, 176, 177, 178, 195, 196, 197, 198, 199, 200] : List Nat))) = true := by decide
theorem kn_X11_spell_3 : (fl_s 3).all (fun q => decide (q.1 ∉ ([164, 165, 167, 168, 169, 170, 171, 172, 173, 174, 175, 176, 177, 178, 195, 196, 197, 198, 199, 200] : List Nat))) = true := by decide
theorem nc_X11_spell_1 : 1 ∉ ([164, 165, 167, 168, 169, 170, 171, 172, 173, 174, 175, 176, 177, 178, 195, 196, 197, 198, 199, 200] : List Nat) := by decide
theorem nc_X11_spell_210 : 210 ∉ ([164, 165, 167, 168, 169, 170, 171, 172, 173, 174, 175, 176, 177, 178, 195, 196, 197, 198, 199, 200] : List Nat) := by decide
theorem nc_X11_spell_307 : 307 ∉ ([164, 165, 167, 168, 169, 170, 171, 172, 173, 174, 175, 176, 177, 178, 195, 196, 197, 198, 199, 200] : List Nat) := by decide
theorem nc_X11_spell_404 : 404 ∉ ([164, 165, 167, 168, 169, 170, 171, 172, 173, 174, 175, 176, 177, 178, 195, 196, 197, 198, 199, 200] : List Nat) := by decide
theorem nc_X11_spell_433 : 433 ∉ ([164, 165, 167, 168, 169, 170, 171, 172, 173, 174, 175, 176, 177, 178, 195, 196, 197, 198, 199, 200] : List Nat) := by decide
theorem cl_X11_spell {μ : dw_S} {K : dw_K} {a1 a2 a3 : Int32} (hI : INV μ) (hK : ∀ (r : Option Value) (w : Int32) (μ' : dw_S), ck_X11_spell a1 a2 a3 μ r w μ' → K r μ') : t_X11_spell [.ref 0, .int a1, .int a2, .int a3] μ K := by
  have h_1_1 := hI.2.1 1 1
  rw [sgc_0] at h_1_1
  refine al_364 251 (by decide) (fun s => [(0 : Int), (a1.toInt : Int), (a2.toInt : Int), (a3.toInt : Int), ((μ.2.2.1 1 1).toInt : Int)].getD s (0 : Int)) [.ref 0, .int a1, .int a2, .int a3] μ K ⟨hI.1, hI.2.1, fun _ _ => ⟨rfl, rfl⟩, rfl, Nat.le_refl _, Nat.le_of_ble_eq_true rfl, fun _ _ => rfl, ?_, fun q hq => absurd hq List.not_mem_nil, ?_, trivial, ?_, ?_⟩ ?_
  · exact iv2_ok (iv := (in_251).pre.iv) (vs := [(0 : Int), (a1.toInt : Int), (a2.toInt : Int), (a3.toInt : Int), ((μ.2.2.1 1 1).toInt : Int)]) ⟨⟨Int.le_refl 0, Int.le_refl 0⟩, ⟨dx_b1 _, dx_b2 _⟩, ⟨dx_b1 _, dx_b2 _⟩, ⟨dx_b1 _, dx_b2 _⟩, h_1_1, trivial⟩
  · exact ⟨⟨0, List.Mem.head _, rfl⟩, ⟨Nat.le_of_ble_eq_true rfl, a1, rfl, (Int.add_zero _).symm⟩, ⟨Nat.le_of_ble_eq_true rfl, a2, rfl, (Int.add_zero _).symm⟩, ⟨Nat.le_of_ble_eq_true rfl, a3, rfl, (Int.add_zero _).symm⟩, trivial⟩
  · exact dx_aL.all (l := (in_251).pre.fa) ⟨⟨Nat.le_of_ble_eq_true rfl, (Int.add_zero _).symm⟩, trivial⟩
  · exact dx_aL.all (l := (in_251).pre.fl) trivial
  · intro r μ' ν' P hP g'
    rcases List.mem_cons.mp hP with rfl | hP
    · obtain ⟨w, rfl, hw⟩ := r_int g'.gl
      have n0 : ν' 0 = 0 := g'.ag 0 (Nat.le_of_ble_eq_true rfl)
      have n1 : ν' 1 = a1.toInt := g'.ag 1 (Nat.le_of_ble_eq_true rfl)
      have n2 : ν' 2 = a2.toInt := g'.ag 2 (Nat.le_of_ble_eq_true rfl)
      have n3 : ν' 3 = a3.toInt := g'.ag 3 (Nat.le_of_ble_eq_true rfl)
      have n4 : ν' 4 = (μ.2.2.1 1 1).toInt := g'.ag 4 (Nat.le_of_ble_eq_true rfl)
      have sz0 : (μ'.2.2.1 1 1).toInt = (μ.2.2.1 1 1).toInt := by rw [(g'.fr 1 nc_X11_spell_1).1]
      have sz1 : (μ'.2.2.1 210 0).toInt = (μ.2.2.1 210 0).toInt := by rw [(g'.fr 210 nc_X11_spell_210).1]
      have sz2 : (μ'.2.2.1 307 0).toInt = (μ.2.2.1 307 0).toInt := by rw [(g'.fr 307 nc_X11_spell_307).1]
      have sz3 : (μ'.2.2.1 404 2).toInt = (μ.2.2.1 404 2).toInt := by rw [(g'.fr 404 nc_X11_spell_404).1]
      have sz4 : (μ'.2.2.1 433 0).toInt = (μ.2.2.1 433 0).toInt := by rw [(g'.fr 433 nc_X11_spell_433).1]
      have sz5 : (μ'.2.2.1 433 1).toInt = (μ.2.2.1 433 1).toInt := by rw [(g'.fr 433 nc_X11_spell_433).1]
      have hw' : w.toInt = ν' 0 + (-1) := hw
      exact hK _ w μ' ⟨⟨g'.sh, g'.hi, keepf (md := [164, 165, 167, 168, 169, 170, 171, 172, 173, 174, 175, 176, 177, 178, 195, 196, 197, 198, 199, 200]) kn_X11_spell_0 g'.fr hI.2.2.1, keepf (md := [164, 165, 167, 168, 169, 170, 171, 172, 173, 174, 175, 176, 177, 178, 195, 196, 197, 198, 199, 200]) kn_X11_spell_6 g'.fr hI.2.2.2.1, keepf (md := [164, 165, 167, 168, 169, 170, 171, 172, 173, 174, 175, 176, 177, 178, 195, 196, 197, 198, 199, 200]) kn_X11_spell_2 g'.fr hI.2.2.2.2.1, keepf (md := [164, 165, 167, 168, 169, 170, 171, 172, 173, 174, 175, 176, 177, 178, 195, 196, 197, 198, 199, 200]) kn_X11_spell_3 g'.fr hI.2.2.2.2.2⟩, rfl, by omega, ⟨sz3, sz4, sz5⟩, g'.fr⟩
    rcases List.mem_cons.mp hP with rfl | hP
    · obtain ⟨w, rfl, hw⟩ := r_int g'.gl
      have n0 : ν' 0 = 0 := g'.ag 0 (Nat.le_of_ble_eq_true rfl)
      have n1 : ν' 1 = a1.toInt := g'.ag 1 (Nat.le_of_ble_eq_true rfl)
      have n2 : ν' 2 = a2.toInt := g'.ag 2 (Nat.le_of_ble_eq_true rfl)
      have n3 : ν' 3 = a3.toInt := g'.ag 3 (Nat.le_of_ble_eq_true rfl)
      have n4 : ν' 4 = (μ.2.2.1 1 1).toInt := g'.ag 4 (Nat.le_of_ble_eq_true rfl)
      have sz0 : (μ'.2.2.1 1 1).toInt = (μ.2.2.1 1 1).toInt := by rw [(g'.fr 1 nc_X11_spell_1).1]
      have sz1 : (μ'.2.2.1 210 0).toInt = (μ.2.2.1 210 0).toInt := by rw [(g'.fr 210 nc_X11_spell_210).1]
      have sz2 : (μ'.2.2.1 307 0).toInt = (μ.2.2.1 307 0).toInt := by rw [(g'.fr 307 nc_X11_spell_307).1]
      have sz3 : (μ'.2.2.1 404 2).toInt = (μ.2.2.1 404 2).toInt := by rw [(g'.fr 404 nc_X11_spell_404).1]
      have sz4 : (μ'.2.2.1 433 0).toInt = (μ.2.2.1 433 0).toInt := by rw [(g'.fr 433 nc_X11_spell_433).1]
      have sz5 : (μ'.2.2.1 433 1).toInt = (μ.2.2.1 433 1).toInt := by rw [(g'.fr 433 nc_X11_spell_433).1]
      have hw' : w.toInt = ν' 5 + 0 := hw
      have i1 : (0 : Int) ≤ ν' 1 ∧ ν' 1 ≤ 5 := g'.iv 1 (Nat.le_of_ble_eq_true rfl)
      have i2 : (0 : Int) ≤ ν' 2 ∧ ν' 2 ≤ 939 := g'.iv 2 (Nat.le_of_ble_eq_true rfl)
      have i3 : (0 : Int) ≤ ν' 3 ∧ ν' 3 ≤ 11 := g'.iv 3 (Nat.le_of_ble_eq_true rfl)
      exact hK _ w μ' ⟨⟨g'.sh, g'.hi, keepf (md := [164, 165, 167, 168, 169, 170, 171, 172, 173, 174, 175, 176, 177, 178, 195, 196, 197, 198, 199, 200]) kn_X11_spell_0 g'.fr hI.2.2.1, keepf (md := [164, 165, 167, 168, 169, 170, 171, 172, 173, 174, 175, 176, 177, 178, 195, 196, 197, 198, 199, 200]) kn_X11_spell_6 g'.fr hI.2.2.2.1, keepf (md := [164, 165, 167, 168, 169, 170, 171, 172, 173, 174, 175, 176, 177, 178, 195, 196, 197, 198, 199, 200]) kn_X11_spell_2 g'.fr hI.2.2.2.2.1, keepf (md := [164, 165, 167, 168, 169, 170, 171, 172, 173, 174, 175, 176, 177, 178, 195, 196, 197, 198, 199, 200]) kn_X11_spell_3 g'.fr hI.2.2.2.2.2⟩, rfl, by omega, ⟨sz3, sz4, sz5⟩, g'.fr⟩
    exact absurd hP List.not_mem_nil
abbrev ck_X11_story (a1 a2 a3 a4 a5 : Int32) (μ : dw_S) (r : Option Value) (w : Int32) (μ' : dw_S) : Prop := (INV μ') ∧ (r = some (.int w)) ∧ ((μ'.2.2.1 1 1).toInt = (μ.2.2.1 1 1).toInt ∧ (μ'.2.2.1 210 0).toInt = (μ.2.2.1 210 0).toInt ∧ (μ'.2.2.1 307 0).toInt = (μ.2.2.1 307 0).toInt) ∧ ((μ'.2.2.1 404 2).toInt = (μ.2.2.1 404 2).toInt ∧ (μ'.2.2.1 433 0).toInt = (μ.2.2.1 433 0).toInt ∧ (μ'.2.2.1 433 1).toInt = (μ.2.2.1 433 1).toInt) ∧ (∀ a, a ∉ [164, 165, 167, 168, 169, 170, 171, 172, 173, 174, 175, 176, 177, 178] → μ'.2.2.1 a = μ.2.2.1 a ∧ μ'.2.2.2 a = μ.2.2.2 a)
theorem kn_X11_story_0 : (fl_s 0).all (fun q => decide (q.1 ∉ ([164, 165, 167, 168, 169, 170, 171, 172, 173, 174, 175, 176, 177, 178] : List Nat))) = true := by decide
theorem kn_X11_story_6 : (fl_s 6).all (fun q => decide (q.1 ∉ ([164, 165, 167, 168, 169, 170, 171, 172, 173, 174, 175, 176, 177, 178] : List Nat))) = true := by decide
theorem kn_X11_story_2 : (fl_s 2).all (fun q => decide (q.1 ∉ ([164, 165, 167, 168, 169, 170, 171, 172, 173, 174, 175, 176, 177, 178] : List Nat))) = true := by decide
theorem kn_X11_story_3 : (fl_s 3).all (fun q => decide (q.1 ∉ ([164, 165, 167, 168, 169, 170, 171, 172, 173, 174, 175, 176, 177, 178] : List Nat))) = true := by decide
theorem nc_X11_story_1 : 1 ∉ ([164, 165, 167, 168, 169, 170, 171, 172, 173, 174, 175, 176, 177, 178] : List Nat) := by decide
theorem nc_X11_story_210 : 210 ∉ ([164, 165, 167, 168, 169, 170, 171, 172, 173, 174, 175, 176, 177, 178] : List Nat) := by decide
theorem nc_X11_story_307 : 307 ∉ ([164, 165, 167, 168, 169, 170, 171, 172, 173, 174, 175, 176, 177, 178] : List Nat) := by decide
theorem nc_X11_story_404 : 404 ∉ ([164, 165, 167, 168, 169, 170, 171, 172, 173, 174, 175, 176, 177, 178] : List Nat) := by decide
theorem nc_X11_story_433 : 433 ∉ ([164, 165, 167, 168, 169, 170, 171, 172, 173, 174, 175, 176, 177, 178] : List Nat) := by decide
theorem cl_X11_story {μ : dw_S} {K : dw_K} {a1 a2 a3 a4 a5 : Int32} (hI : INV μ) (hK : ∀ (r : Option Value) (w : Int32) (μ' : dw_S), ck_X11_story a1 a2 a3 a4 a5 μ r w μ' → K r μ') : t_X11_story [.ref 0, .int a1, .int a2, .int a3, .int a4, .int a5] μ K := by
  have h_1_1 := hI.2.1 1 1
  rw [sgc_0] at h_1_1
  refine al_364 252 (by decide) (fun s => [(0 : Int), (a1.toInt : Int), (a2.toInt : Int), (a3.toInt : Int), (a4.toInt : Int), (a5.toInt : Int), ((μ.2.2.1 1 1).toInt : Int)].getD s (0 : Int)) [.ref 0, .int a1, .int a2, .int a3, .int a4, .int a5] μ K ⟨hI.1, hI.2.1, fun _ _ => ⟨rfl, rfl⟩, rfl, Nat.le_refl _, Nat.le_of_ble_eq_true rfl, fun _ _ => rfl, ?_, fun q hq => absurd hq List.not_mem_nil, ?_, trivial, ?_, ?_⟩ ?_
  · exact iv2_ok (iv := (in_252).pre.iv) (vs := [(0 : Int), (a1.toInt : Int), (a2.toInt : Int), (a3.toInt : Int), (a4.toInt : Int), (a5.toInt : Int), ((μ.2.2.1 1 1).toInt : Int)]) ⟨⟨Int.le_refl 0, Int.le_refl 0⟩, ⟨dx_b1 _, dx_b2 _⟩, ⟨dx_b1 _, dx_b2 _⟩, ⟨dx_b1 _, dx_b2 _⟩, ⟨dx_b1 _, dx_b2 _⟩, ⟨dx_b1 _, dx_b2 _⟩, h_1_1, trivial⟩
  · exact ⟨⟨0, List.Mem.head _, rfl⟩, ⟨Nat.le_of_ble_eq_true rfl, a1, rfl, (Int.add_zero _).symm⟩, ⟨Nat.le_of_ble_eq_true rfl, a2, rfl, (Int.add_zero _).symm⟩, ⟨Nat.le_of_ble_eq_true rfl, a3, rfl, (Int.add_zero _).symm⟩, ⟨Nat.le_of_ble_eq_true rfl, a4, rfl, (Int.add_zero _).symm⟩, ⟨Nat.le_of_ble_eq_true rfl, a5, rfl, (Int.add_zero _).symm⟩, trivial⟩
  · exact dx_aL.all (l := (in_252).pre.fa) ⟨⟨Nat.le_of_ble_eq_true rfl, (Int.add_zero _).symm⟩, trivial⟩
  · exact dx_aL.all (l := (in_252).pre.fl) trivial
  · intro r μ' ν' P hP g'
    rcases List.mem_cons.mp hP with rfl | hP
    · obtain ⟨w, rfl, hw⟩ := r_int g'.gl
      have n0 : ν' 0 = 0 := g'.ag 0 (Nat.le_of_ble_eq_true rfl)
      have n1 : ν' 1 = a1.toInt := g'.ag 1 (Nat.le_of_ble_eq_true rfl)
      have n2 : ν' 2 = a2.toInt := g'.ag 2 (Nat.le_of_ble_eq_true rfl)
      have n3 : ν' 3 = a3.toInt := g'.ag 3 (Nat.le_of_ble_eq_true rfl)
      have n4 : ν' 4 = a4.toInt := g'.ag 4 (Nat.le_of_ble_eq_true rfl)
      have n5 : ν' 5 = a5.toInt := g'.ag 5 (Nat.le_of_ble_eq_true rfl)
      have n6 : ν' 6 = (μ.2.2.1 1 1).toInt := g'.ag 6 (Nat.le_of_ble_eq_true rfl)
      have sz0 : (μ'.2.2.1 1 1).toInt = (μ.2.2.1 1 1).toInt := by rw [(g'.fr 1 nc_X11_story_1).1]
      have sz1 : (μ'.2.2.1 210 0).toInt = (μ.2.2.1 210 0).toInt := by rw [(g'.fr 210 nc_X11_story_210).1]
      have sz2 : (μ'.2.2.1 307 0).toInt = (μ.2.2.1 307 0).toInt := by rw [(g'.fr 307 nc_X11_story_307).1]
      have sz3 : (μ'.2.2.1 404 2).toInt = (μ.2.2.1 404 2).toInt := by rw [(g'.fr 404 nc_X11_story_404).1]
      have sz4 : (μ'.2.2.1 433 0).toInt = (μ.2.2.1 433 0).toInt := by rw [(g'.fr 433 nc_X11_story_433).1]
      have sz5 : (μ'.2.2.1 433 1).toInt = (μ.2.2.1 433 1).toInt := by rw [(g'.fr 433 nc_X11_story_433).1]
      have hw' : w.toInt = ν' 0 + (-1) := hw
      exact hK _ w μ' ⟨⟨g'.sh, g'.hi, keepf (md := [164, 165, 167, 168, 169, 170, 171, 172, 173, 174, 175, 176, 177, 178]) kn_X11_story_0 g'.fr hI.2.2.1, keepf (md := [164, 165, 167, 168, 169, 170, 171, 172, 173, 174, 175, 176, 177, 178]) kn_X11_story_6 g'.fr hI.2.2.2.1, keepf (md := [164, 165, 167, 168, 169, 170, 171, 172, 173, 174, 175, 176, 177, 178]) kn_X11_story_2 g'.fr hI.2.2.2.2.1, keepf (md := [164, 165, 167, 168, 169, 170, 171, 172, 173, 174, 175, 176, 177, 178]) kn_X11_story_3 g'.fr hI.2.2.2.2.2⟩, rfl, by omega, ⟨sz3, sz4, sz5⟩, g'.fr⟩
    rcases List.mem_cons.mp hP with rfl | hP
    · obtain ⟨w, rfl, hw⟩ := r_int g'.gl
      have n0 : ν' 0 = 0 := g'.ag 0 (Nat.le_of_ble_eq_true rfl)
      have n1 : ν' 1 = a1.toInt := g'.ag 1 (Nat.le_of_ble_eq_true rfl)
      have n2 : ν' 2 = a2.toInt := g'.ag 2 (Nat.le_of_ble_eq_true rfl)
      have n3 : ν' 3 = a3.toInt := g'.ag 3 (Nat.le_of_ble_eq_true rfl)
      have n4 : ν' 4 = a4.toInt := g'.ag 4 (Nat.le_of_ble_eq_true rfl)
      have n5 : ν' 5 = a5.toInt := g'.ag 5 (Nat.le_of_ble_eq_true rfl)
      have n6 : ν' 6 = (μ.2.2.1 1 1).toInt := g'.ag 6 (Nat.le_of_ble_eq_true rfl)
      have sz0 : (μ'.2.2.1 1 1).toInt = (μ.2.2.1 1 1).toInt := by rw [(g'.fr 1 nc_X11_story_1).1]
      have sz1 : (μ'.2.2.1 210 0).toInt = (μ.2.2.1 210 0).toInt := by rw [(g'.fr 210 nc_X11_story_210).1]
      have sz2 : (μ'.2.2.1 307 0).toInt = (μ.2.2.1 307 0).toInt := by rw [(g'.fr 307 nc_X11_story_307).1]
      have sz3 : (μ'.2.2.1 404 2).toInt = (μ.2.2.1 404 2).toInt := by rw [(g'.fr 404 nc_X11_story_404).1]
      have sz4 : (μ'.2.2.1 433 0).toInt = (μ.2.2.1 433 0).toInt := by rw [(g'.fr 433 nc_X11_story_433).1]
      have sz5 : (μ'.2.2.1 433 1).toInt = (μ.2.2.1 433 1).toInt := by rw [(g'.fr 433 nc_X11_story_433).1]
      have hw' : w.toInt = ν' 7 + 0 := hw
      have i1 : (0 : Int) ≤ ν' 1 ∧ ν' 1 ≤ 5 := g'.iv 1 (Nat.le_of_ble_eq_true rfl)
      have i2 : (0 : Int) ≤ ν' 2 ∧ ν' 2 ≤ 939 := g'.iv 2 (Nat.le_of_ble_eq_true rfl)
      have i3 : (0 : Int) ≤ ν' 3 ∧ ν' 3 ≤ 11 := g'.iv 3 (Nat.le_of_ble_eq_true rfl)
      have i4 : (0 : Int) ≤ ν' 4 ∧ ν' 4 ≤ 143 := g'.iv 4 (Nat.le_of_ble_eq_true rfl)
      have i5 : (0 : Int) ≤ ν' 5 ∧ ν' 5 ≤ 2 := g'.iv 5 (Nat.le_of_ble_eq_true rfl)
      exact hK _ w μ' ⟨⟨g'.sh, g'.hi, keepf (md := [164, 165, 167, 168, 169, 170, 171, 172, 173, 174, 175, 176, 177, 178]) kn_X11_story_0 g'.fr hI.2.2.1, keepf (md := [164, 165, 167, 168, 169, 170, 171, 172, 173, 174, 175, 176, 177, 178]) kn_X11_story_6 g'.fr hI.2.2.2.1, keepf (md := [164, 165, 167, 168, 169, 170, 171, 172, 173, 174, 175, 176, 177, 178]) kn_X11_story_2 g'.fr hI.2.2.2.2.1, keepf (md := [164, 165, 167, 168, 169, 170, 171, 172, 173, 174, 175, 176, 177, 178]) kn_X11_story_3 g'.fr hI.2.2.2.2.2⟩, rfl, by omega, ⟨sz3, sz4, sz5⟩, g'.fr⟩
    rcases List.mem_cons.mp hP with rfl | hP
    · obtain ⟨w, rfl, hw⟩ := r_int g'.gl
      have n0 : ν' 0 = 0 := g'.ag 0 (Nat.le_of_ble_eq_true rfl)
      have n1 : ν' 1 = a1.toInt := g'.ag 1 (Nat.le_of_ble_eq_true rfl)
      have n2 : ν' 2 = a2.toInt := g'.ag 2 (Nat.le_of_ble_eq_true rfl)
      have n3 : ν' 3 = a3.toInt := g'.ag 3 (Nat.le_of_ble_eq_true rfl)
      have n4 : ν' 4 = a4.toInt := g'.ag 4 (Nat.le_of_ble_eq_true rfl)
      have n5 : ν' 5 = a5.toInt := g'.ag 5 (Nat.le_of_ble_eq_true rfl)
      have n6 : ν' 6 = (μ.2.2.1 1 1).toInt := g'.ag 6 (Nat.le_of_ble_eq_true rfl)
      have sz0 : (μ'.2.2.1 1 1).toInt = (μ.2.2.1 1 1).toInt := by rw [(g'.fr 1 nc_X11_story_1).1]
      have sz1 : (μ'.2.2.1 210 0).toInt = (μ.2.2.1 210 0).toInt := by rw [(g'.fr 210 nc_X11_story_210).1]
      have sz2 : (μ'.2.2.1 307 0).toInt = (μ.2.2.1 307 0).toInt := by rw [(g'.fr 307 nc_X11_story_307).1]
      have sz3 : (μ'.2.2.1 404 2).toInt = (μ.2.2.1 404 2).toInt := by rw [(g'.fr 404 nc_X11_story_404).1]
      have sz4 : (μ'.2.2.1 433 0).toInt = (μ.2.2.1 433 0).toInt := by rw [(g'.fr 433 nc_X11_story_433).1]
      have sz5 : (μ'.2.2.1 433 1).toInt = (μ.2.2.1 433 1).toInt := by rw [(g'.fr 433 nc_X11_story_433).1]
      have hw' : w.toInt = ν' 0 + 0 := hw
      have i1 : (0 : Int) ≤ ν' 1 ∧ ν' 1 ≤ 5 := g'.iv 1 (Nat.le_of_ble_eq_true rfl)
      have i2 : (0 : Int) ≤ ν' 2 ∧ ν' 2 ≤ 939 := g'.iv 2 (Nat.le_of_ble_eq_true rfl)
      have i3 : (0 : Int) ≤ ν' 3 ∧ ν' 3 ≤ 11 := g'.iv 3 (Nat.le_of_ble_eq_true rfl)
      have i4 : (0 : Int) ≤ ν' 4 ∧ ν' 4 ≤ 143 := g'.iv 4 (Nat.le_of_ble_eq_true rfl)
      have i5 : (0 : Int) ≤ ν' 5 ∧ ν' 5 ≤ 2 := g'.iv 5 (Nat.le_of_ble_eq_true rfl)
      exact hK _ w μ' ⟨⟨g'.sh, g'.hi, keepf (md := [164, 165, 167, 168, 169, 170, 171, 172, 173, 174, 175, 176, 177, 178]) kn_X11_story_0 g'.fr hI.2.2.1, keepf (md := [164, 165, 167, 168, 169, 170, 171, 172, 173, 174, 175, 176, 177, 178]) kn_X11_story_6 g'.fr hI.2.2.2.1, keepf (md := [164, 165, 167, 168, 169, 170, 171, 172, 173, 174, 175, 176, 177, 178]) kn_X11_story_2 g'.fr hI.2.2.2.2.1, keepf (md := [164, 165, 167, 168, 169, 170, 171, 172, 173, 174, 175, 176, 177, 178]) kn_X11_story_3 g'.fr hI.2.2.2.2.2⟩, rfl, by omega, ⟨sz3, sz4, sz5⟩, g'.fr⟩
    exact absurd hP List.not_mem_nil
abbrev ck_X11_tries (a1 a2 : Int32) (μ : dw_S) (r : Option Value) (w : Int32) (μ' : dw_S) : Prop := (INV μ') ∧ (r = some (.int w)) ∧ ((μ'.2.2.1 1 1).toInt = 0 ∧ (μ'.2.2.1 210 0).toInt = (μ.2.2.1 210 0).toInt ∧ (μ'.2.2.1 307 0).toInt = (μ.2.2.1 307 0).toInt) ∧ ((μ'.2.2.1 404 2).toInt = (μ.2.2.1 404 2).toInt ∧ (μ'.2.2.1 433 0).toInt = (μ.2.2.1 433 0).toInt ∧ (μ'.2.2.1 433 1).toInt = (μ.2.2.1 433 1).toInt) ∧ (∀ a, a ∉ [1, 164, 165, 167, 168, 169, 170, 171, 172, 173, 174, 175, 176, 177, 178, 203, 205, 206, 207] → μ'.2.2.1 a = μ.2.2.1 a ∧ μ'.2.2.2 a = μ.2.2.2 a)
theorem kn_X11_tries_0 : (fl_s 0).all (fun q => decide (q.1 ∉ ([1, 164, 165, 167, 168, 169, 170, 171, 172, 173, 174, 175, 176, 177, 178, 203, 205, 206, 207] : List Nat))) = true := by decide
theorem kn_X11_tries_6 : (fl_s 6).all (fun q => decide (q.1 ∉ ([1, 164, 165, 167, 168, 169, 170, 171, 172, 173, 174, 175, 176, 177, 178, 203, 205, 206, 207] : List Nat))) = true := by decide
theorem kn_X11_tries_2 : (fl_s 2).all (fun q => decide (q.1 ∉ ([1, 164, 165, 167, 168, 169, 170, 171, 172, 173, 174, 175, 176, 177, 178, 203, 205, 206, 207] : List Nat))) = true := by decide
theorem kn_X11_tries_3 : (fl_s 3).all (fun q => decide (q.1 ∉ ([1, 164, 165, 167, 168, 169, 170, 171, 172, 173, 174, 175, 176, 177, 178, 203, 205, 206, 207] : List Nat))) = true := by decide
theorem nc_X11_tries_210 : 210 ∉ ([1, 164, 165, 167, 168, 169, 170, 171, 172, 173, 174, 175, 176, 177, 178, 203, 205, 206, 207] : List Nat) := by decide
theorem nc_X11_tries_307 : 307 ∉ ([1, 164, 165, 167, 168, 169, 170, 171, 172, 173, 174, 175, 176, 177, 178, 203, 205, 206, 207] : List Nat) := by decide
theorem nc_X11_tries_404 : 404 ∉ ([1, 164, 165, 167, 168, 169, 170, 171, 172, 173, 174, 175, 176, 177, 178, 203, 205, 206, 207] : List Nat) := by decide
theorem nc_X11_tries_433 : 433 ∉ ([1, 164, 165, 167, 168, 169, 170, 171, 172, 173, 174, 175, 176, 177, 178, 203, 205, 206, 207] : List Nat) := by decide
theorem cl_X11_tries {μ : dw_S} {K : dw_K} {a1 a2 : Int32} (hI : INV μ) (hK : ∀ (r : Option Value) (w : Int32) (μ' : dw_S), ck_X11_tries a1 a2 μ r w μ' → K r μ') : t_X11_tries [.ref 0, .int a1, .int a2] μ K := by
  have h_1_1 := hI.2.1 1 1
  rw [sgc_0] at h_1_1
  refine al_364 257 (by decide) (fun s => [(0 : Int), (a1.toInt : Int), (a2.toInt : Int), ((μ.2.2.1 1 1).toInt : Int)].getD s (0 : Int)) [.ref 0, .int a1, .int a2] μ K ⟨hI.1, hI.2.1, fun _ _ => ⟨rfl, rfl⟩, rfl, Nat.le_refl _, Nat.le_of_ble_eq_true rfl, fun _ _ => rfl, ?_, fun q hq => absurd hq List.not_mem_nil, ?_, trivial, ?_, ?_⟩ ?_
  · exact iv2_ok (iv := (in_257).pre.iv) (vs := [(0 : Int), (a1.toInt : Int), (a2.toInt : Int), ((μ.2.2.1 1 1).toInt : Int)]) ⟨⟨Int.le_refl 0, Int.le_refl 0⟩, ⟨dx_b1 _, dx_b2 _⟩, ⟨dx_b1 _, dx_b2 _⟩, h_1_1, trivial⟩
  · exact ⟨⟨0, List.Mem.head _, rfl⟩, ⟨Nat.le_of_ble_eq_true rfl, a1, rfl, (Int.add_zero _).symm⟩, ⟨Nat.le_of_ble_eq_true rfl, a2, rfl, (Int.add_zero _).symm⟩, trivial⟩
  · exact dx_aL.all (l := (in_257).pre.fa) ⟨⟨Nat.le_of_ble_eq_true rfl, (Int.add_zero _).symm⟩, trivial⟩
  · exact dx_aL.all (l := (in_257).pre.fl) trivial
  · intro r μ' ν' P hP g'
    rcases List.mem_cons.mp hP with rfl | hP
    · obtain ⟨w, rfl, hw⟩ := r_int g'.gl
      have n0 : ν' 0 = 0 := g'.ag 0 (Nat.le_of_ble_eq_true rfl)
      have n1 : ν' 1 = a1.toInt := g'.ag 1 (Nat.le_of_ble_eq_true rfl)
      have n2 : ν' 2 = a2.toInt := g'.ag 2 (Nat.le_of_ble_eq_true rfl)
      have n3 : ν' 3 = (μ.2.2.1 1 1).toInt := g'.ag 3 (Nat.le_of_ble_eq_true rfl)
      have sz0 : (μ'.2.2.1 1 1).toInt = ν' 0 + 0 := (g'.fa _ (List.Mem.head _)).2
      have sz1 : (μ'.2.2.1 210 0).toInt = (μ.2.2.1 210 0).toInt := by rw [(g'.fr 210 nc_X11_tries_210).1]
      have sz2 : (μ'.2.2.1 307 0).toInt = (μ.2.2.1 307 0).toInt := by rw [(g'.fr 307 nc_X11_tries_307).1]
      have sz3 : (μ'.2.2.1 404 2).toInt = (μ.2.2.1 404 2).toInt := by rw [(g'.fr 404 nc_X11_tries_404).1]
      have sz4 : (μ'.2.2.1 433 0).toInt = (μ.2.2.1 433 0).toInt := by rw [(g'.fr 433 nc_X11_tries_433).1]
      have sz5 : (μ'.2.2.1 433 1).toInt = (μ.2.2.1 433 1).toInt := by rw [(g'.fr 433 nc_X11_tries_433).1]
      have hw' : w.toInt = ν' 0 + (-1) := hw
      exact hK _ w μ' ⟨⟨g'.sh, g'.hi, keepf (md := [1, 164, 165, 167, 168, 169, 170, 171, 172, 173, 174, 175, 176, 177, 178, 203, 205, 206, 207]) kn_X11_tries_0 g'.fr hI.2.2.1, keepf (md := [1, 164, 165, 167, 168, 169, 170, 171, 172, 173, 174, 175, 176, 177, 178, 203, 205, 206, 207]) kn_X11_tries_6 g'.fr hI.2.2.2.1, keepf (md := [1, 164, 165, 167, 168, 169, 170, 171, 172, 173, 174, 175, 176, 177, 178, 203, 205, 206, 207]) kn_X11_tries_2 g'.fr hI.2.2.2.2.1, keepf (md := [1, 164, 165, 167, 168, 169, 170, 171, 172, 173, 174, 175, 176, 177, 178, 203, 205, 206, 207]) kn_X11_tries_3 g'.fr hI.2.2.2.2.2⟩, rfl, by omega, ⟨sz3, sz4, sz5⟩, g'.fr⟩
    rcases List.mem_cons.mp hP with rfl | hP
    · obtain ⟨w, rfl, hw⟩ := r_int g'.gl
      have n0 : ν' 0 = 0 := g'.ag 0 (Nat.le_of_ble_eq_true rfl)
      have n1 : ν' 1 = a1.toInt := g'.ag 1 (Nat.le_of_ble_eq_true rfl)
      have n2 : ν' 2 = a2.toInt := g'.ag 2 (Nat.le_of_ble_eq_true rfl)
      have n3 : ν' 3 = (μ.2.2.1 1 1).toInt := g'.ag 3 (Nat.le_of_ble_eq_true rfl)
      have sz0 : (μ'.2.2.1 1 1).toInt = ν' 0 + 0 := (g'.fa _ (List.Mem.head _)).2
      have sz1 : (μ'.2.2.1 210 0).toInt = (μ.2.2.1 210 0).toInt := by rw [(g'.fr 210 nc_X11_tries_210).1]
      have sz2 : (μ'.2.2.1 307 0).toInt = (μ.2.2.1 307 0).toInt := by rw [(g'.fr 307 nc_X11_tries_307).1]
      have sz3 : (μ'.2.2.1 404 2).toInt = (μ.2.2.1 404 2).toInt := by rw [(g'.fr 404 nc_X11_tries_404).1]
      have sz4 : (μ'.2.2.1 433 0).toInt = (μ.2.2.1 433 0).toInt := by rw [(g'.fr 433 nc_X11_tries_433).1]
      have sz5 : (μ'.2.2.1 433 1).toInt = (μ.2.2.1 433 1).toInt := by rw [(g'.fr 433 nc_X11_tries_433).1]
      have hw' : w.toInt = ν' 4 + 0 := hw
      have i2 : (0 : Int) ≤ ν' 2 ∧ ν' 2 ≤ 143 := g'.iv 2 (Nat.le_of_ble_eq_true rfl)
      have i3 : (2 : Int) ≤ ν' 3 ∧ ν' 3 ≤ 16 := g'.iv 3 (Nat.le_of_ble_eq_true rfl)
      exact hK _ w μ' ⟨⟨g'.sh, g'.hi, keepf (md := [1, 164, 165, 167, 168, 169, 170, 171, 172, 173, 174, 175, 176, 177, 178, 203, 205, 206, 207]) kn_X11_tries_0 g'.fr hI.2.2.1, keepf (md := [1, 164, 165, 167, 168, 169, 170, 171, 172, 173, 174, 175, 176, 177, 178, 203, 205, 206, 207]) kn_X11_tries_6 g'.fr hI.2.2.2.1, keepf (md := [1, 164, 165, 167, 168, 169, 170, 171, 172, 173, 174, 175, 176, 177, 178, 203, 205, 206, 207]) kn_X11_tries_2 g'.fr hI.2.2.2.2.1, keepf (md := [1, 164, 165, 167, 168, 169, 170, 171, 172, 173, 174, 175, 176, 177, 178, 203, 205, 206, 207]) kn_X11_tries_3 g'.fr hI.2.2.2.2.2⟩, rfl, by omega, ⟨sz3, sz4, sz5⟩, g'.fr⟩
    exact absurd hP List.not_mem_nil
abbrev ck_X11_unlike (a1 a2 : Int32) (μ : dw_S) (r : Option Value) (w : Int32) (μ' : dw_S) : Prop := (INV μ') ∧ (r = some (.int w)) ∧ ((μ'.2.2.1 1 1).toInt = (μ.2.2.1 1 1).toInt ∧ (μ'.2.2.1 210 0).toInt = (μ.2.2.1 210 0).toInt ∧ (μ'.2.2.1 307 0).toInt = (μ.2.2.1 307 0).toInt) ∧ ((μ'.2.2.1 404 2).toInt = (μ.2.2.1 404 2).toInt ∧ (μ'.2.2.1 433 0).toInt = (μ.2.2.1 433 0).toInt ∧ (μ'.2.2.1 433 1).toInt = (μ.2.2.1 433 1).toInt) ∧ (∀ a, a ∉ [164, 165, 167, 168, 169, 170, 171, 172, 173, 174, 175, 176, 177, 178, 179, 180, 182, 183, 184, 185, 186, 187, 188, 189, 190, 191, 192, 193] → μ'.2.2.1 a = μ.2.2.1 a ∧ μ'.2.2.2 a = μ.2.2.2 a)
theorem kn_X11_unlike_0 : (fl_s 0).all (fun q => decide (q.1 ∉ ([164, 165, 167, 168, 169, 170, 171, 172, 173, 174, 175, 176, 177, 178, 179, 180, 182, 183, 184, 185, 186, 187, 188, 189, 190, 191, 192, 193] : List Nat))) = true := by decide
theorem kn_X11_unlike_6 : (fl_s 6).all (fun q => decide (q.1 ∉ ([164, 165, 167, 168, 169, 170, 171, 172, 173, 174, 175, 176, 177, 178, 179, 180, 182, 183, 184, 185, 186, 187, 188, 189, 190, 191, 192, 193] : List Nat))) = true := by decide
theorem kn_X11_unlike_2 : (fl_s 2).all (fun q => decide (q.1 ∉ ([164, 165, 167, 168, 169, 170, 171, 172, 173, 174, 175, 176, 177, 178, 179, 180, 182, 183, 184, 185, 186, 187, 188, 189, 190, 191, 192, 193] : List Nat))) = true := by decide
theorem kn_X11_unlike_3 : (fl_s 3).all (fun q => decide (q.1 ∉ ([164, 165, 167, 168, 169, 170, 171, 172, 173, 174, 175, 176, 177, 178, 179, 180, 182, 183, 184, 185, 186, 187, 188, 189, 190, 191, 192, 193] : List Nat))) = true := by decide
theorem nc_X11_unlike_1 : 1 ∉ ([164, 165, 167, 168, 169, 170, 171, 172, 173, 174, 175, 176, 177, 178, 179, 180, 182, 183, 184, 185, 186, 187, 188, 189, 190, 191, 192, 193] : List Nat) := by decide
theorem nc_X11_unlike_210 : 210 ∉ ([164, 165, 167, 168, 169, 170, 171, 172, 173, 174, 175, 176, 177, 178, 179, 180, 182, 183, 184, 185, 186, 187, 188, 189, 190, 191, 192, 193] : List Nat) := by decide
theorem nc_X11_unlike_307 : 307 ∉ ([164, 165, 167, 168, 169, 170, 171, 172, 173, 174, 175, 176, 177, 178, 179, 180, 182, 183, 184, 185, 186, 187, 188, 189, 190, 191, 192, 193] : List Nat) := by decide
theorem nc_X11_unlike_404 : 404 ∉ ([164, 165, 167, 168, 169, 170, 171, 172, 173, 174, 175, 176, 177, 178, 179, 180, 182, 183, 184, 185, 186, 187, 188, 189, 190, 191, 192, 193] : List Nat) := by decide
theorem nc_X11_unlike_433 : 433 ∉ ([164, 165, 167, 168, 169, 170, 171, 172, 173, 174, 175, 176, 177, 178, 179, 180, 182, 183, 184, 185, 186, 187, 188, 189, 190, 191, 192, 193] : List Nat) := by decide
theorem cl_X11_unlike {μ : dw_S} {K : dw_K} {a1 a2 : Int32} (hI : INV μ) (hK : ∀ (r : Option Value) (w : Int32) (μ' : dw_S), ck_X11_unlike a1 a2 μ r w μ' → K r μ') : t_X11_unlike [.ref 0, .int a1, .int a2] μ K := by
  have h_1_1 := hI.2.1 1 1
  rw [sgc_0] at h_1_1
  refine al_364 259 (by decide) (fun s => [(0 : Int), (a1.toInt : Int), (a2.toInt : Int), ((μ.2.2.1 1 1).toInt : Int)].getD s (0 : Int)) [.ref 0, .int a1, .int a2] μ K ⟨hI.1, hI.2.1, fun _ _ => ⟨rfl, rfl⟩, rfl, Nat.le_refl _, Nat.le_of_ble_eq_true rfl, fun _ _ => rfl, ?_, fun q hq => absurd hq List.not_mem_nil, ?_, trivial, ?_, ?_⟩ ?_
  · exact iv2_ok (iv := (in_259).pre.iv) (vs := [(0 : Int), (a1.toInt : Int), (a2.toInt : Int), ((μ.2.2.1 1 1).toInt : Int)]) ⟨⟨Int.le_refl 0, Int.le_refl 0⟩, ⟨dx_b1 _, dx_b2 _⟩, ⟨dx_b1 _, dx_b2 _⟩, h_1_1, trivial⟩
  · exact ⟨⟨0, List.Mem.head _, rfl⟩, ⟨Nat.le_of_ble_eq_true rfl, a1, rfl, (Int.add_zero _).symm⟩, ⟨Nat.le_of_ble_eq_true rfl, a2, rfl, (Int.add_zero _).symm⟩, trivial⟩
  · exact dx_aL.all (l := (in_259).pre.fa) ⟨⟨Nat.le_of_ble_eq_true rfl, (Int.add_zero _).symm⟩, trivial⟩
  · exact dx_aL.all (l := (in_259).pre.fl) trivial
  · intro r μ' ν' P hP g'
    rcases List.mem_cons.mp hP with rfl | hP
    · obtain ⟨w, rfl, hw⟩ := r_int g'.gl
      have n0 : ν' 0 = 0 := g'.ag 0 (Nat.le_of_ble_eq_true rfl)
      have n1 : ν' 1 = a1.toInt := g'.ag 1 (Nat.le_of_ble_eq_true rfl)
      have n2 : ν' 2 = a2.toInt := g'.ag 2 (Nat.le_of_ble_eq_true rfl)
      have n3 : ν' 3 = (μ.2.2.1 1 1).toInt := g'.ag 3 (Nat.le_of_ble_eq_true rfl)
      have sz0 : (μ'.2.2.1 1 1).toInt = (μ.2.2.1 1 1).toInt := by rw [(g'.fr 1 nc_X11_unlike_1).1]
      have sz1 : (μ'.2.2.1 210 0).toInt = (μ.2.2.1 210 0).toInt := by rw [(g'.fr 210 nc_X11_unlike_210).1]
      have sz2 : (μ'.2.2.1 307 0).toInt = (μ.2.2.1 307 0).toInt := by rw [(g'.fr 307 nc_X11_unlike_307).1]
      have sz3 : (μ'.2.2.1 404 2).toInt = (μ.2.2.1 404 2).toInt := by rw [(g'.fr 404 nc_X11_unlike_404).1]
      have sz4 : (μ'.2.2.1 433 0).toInt = (μ.2.2.1 433 0).toInt := by rw [(g'.fr 433 nc_X11_unlike_433).1]
      have sz5 : (μ'.2.2.1 433 1).toInt = (μ.2.2.1 433 1).toInt := by rw [(g'.fr 433 nc_X11_unlike_433).1]
      have hw' : w.toInt = ν' 0 + (-1) := hw
      exact hK _ w μ' ⟨⟨g'.sh, g'.hi, keepf (md := [164, 165, 167, 168, 169, 170, 171, 172, 173, 174, 175, 176, 177, 178, 179, 180, 182, 183, 184, 185, 186, 187, 188, 189, 190, 191, 192, 193]) kn_X11_unlike_0 g'.fr hI.2.2.1, keepf (md := [164, 165, 167, 168, 169, 170, 171, 172, 173, 174, 175, 176, 177, 178, 179, 180, 182, 183, 184, 185, 186, 187, 188, 189, 190, 191, 192, 193]) kn_X11_unlike_6 g'.fr hI.2.2.2.1, keepf (md := [164, 165, 167, 168, 169, 170, 171, 172, 173, 174, 175, 176, 177, 178, 179, 180, 182, 183, 184, 185, 186, 187, 188, 189, 190, 191, 192, 193]) kn_X11_unlike_2 g'.fr hI.2.2.2.2.1, keepf (md := [164, 165, 167, 168, 169, 170, 171, 172, 173, 174, 175, 176, 177, 178, 179, 180, 182, 183, 184, 185, 186, 187, 188, 189, 190, 191, 192, 193]) kn_X11_unlike_3 g'.fr hI.2.2.2.2.2⟩, rfl, by omega, ⟨sz3, sz4, sz5⟩, g'.fr⟩
    rcases List.mem_cons.mp hP with rfl | hP
    · obtain ⟨w, rfl, hw⟩ := r_int g'.gl
      have n0 : ν' 0 = 0 := g'.ag 0 (Nat.le_of_ble_eq_true rfl)
      have n1 : ν' 1 = a1.toInt := g'.ag 1 (Nat.le_of_ble_eq_true rfl)
      have n2 : ν' 2 = a2.toInt := g'.ag 2 (Nat.le_of_ble_eq_true rfl)
      have n3 : ν' 3 = (μ.2.2.1 1 1).toInt := g'.ag 3 (Nat.le_of_ble_eq_true rfl)
      have sz0 : (μ'.2.2.1 1 1).toInt = (μ.2.2.1 1 1).toInt := by rw [(g'.fr 1 nc_X11_unlike_1).1]
      have sz1 : (μ'.2.2.1 210 0).toInt = (μ.2.2.1 210 0).toInt := by rw [(g'.fr 210 nc_X11_unlike_210).1]
      have sz2 : (μ'.2.2.1 307 0).toInt = (μ.2.2.1 307 0).toInt := by rw [(g'.fr 307 nc_X11_unlike_307).1]
      have sz3 : (μ'.2.2.1 404 2).toInt = (μ.2.2.1 404 2).toInt := by rw [(g'.fr 404 nc_X11_unlike_404).1]
      have sz4 : (μ'.2.2.1 433 0).toInt = (μ.2.2.1 433 0).toInt := by rw [(g'.fr 433 nc_X11_unlike_433).1]
      have sz5 : (μ'.2.2.1 433 1).toInt = (μ.2.2.1 433 1).toInt := by rw [(g'.fr 433 nc_X11_unlike_433).1]
      have hw' : w.toInt = ν' 4 + 0 := hw
      have i1 : (0 : Int) ≤ ν' 1 ∧ ν' 1 ≤ 5 := g'.iv 1 (Nat.le_of_ble_eq_true rfl)
      have i2 : (0 : Int) ≤ ν' 2 ∧ ν' 2 ≤ 5 := g'.iv 2 (Nat.le_of_ble_eq_true rfl)
      exact hK _ w μ' ⟨⟨g'.sh, g'.hi, keepf (md := [164, 165, 167, 168, 169, 170, 171, 172, 173, 174, 175, 176, 177, 178, 179, 180, 182, 183, 184, 185, 186, 187, 188, 189, 190, 191, 192, 193]) kn_X11_unlike_0 g'.fr hI.2.2.1, keepf (md := [164, 165, 167, 168, 169, 170, 171, 172, 173, 174, 175, 176, 177, 178, 179, 180, 182, 183, 184, 185, 186, 187, 188, 189, 190, 191, 192, 193]) kn_X11_unlike_6 g'.fr hI.2.2.2.1, keepf (md := [164, 165, 167, 168, 169, 170, 171, 172, 173, 174, 175, 176, 177, 178, 179, 180, 182, 183, 184, 185, 186, 187, 188, 189, 190, 191, 192, 193]) kn_X11_unlike_2 g'.fr hI.2.2.2.2.1, keepf (md := [164, 165, 167, 168, 169, 170, 171, 172, 173, 174, 175, 176, 177, 178, 179, 180, 182, 183, 184, 185, 186, 187, 188, 189, 190, 191, 192, 193]) kn_X11_unlike_3 g'.fr hI.2.2.2.2.2⟩, rfl, by omega, ⟨sz3, sz4, sz5⟩, g'.fr⟩
    exact absurd hP List.not_mem_nil
abbrev ck_X11_walk (a1 a2 a3 a4 : Int32) (μ : dw_S) (r : Option Value) (w : Int32) (μ' : dw_S) : Prop := (INV μ') ∧ (r = some (.int w)) ∧ ((μ'.2.2.1 1 1).toInt = (μ.2.2.1 1 1).toInt ∧ (μ'.2.2.1 210 0).toInt = (μ.2.2.1 210 0).toInt ∧ (μ'.2.2.1 307 0).toInt = (μ.2.2.1 307 0).toInt) ∧ ((μ'.2.2.1 404 2).toInt = (μ.2.2.1 404 2).toInt ∧ (μ'.2.2.1 433 0).toInt = (μ.2.2.1 433 0).toInt ∧ (μ'.2.2.1 433 1).toInt = (μ.2.2.1 433 1).toInt) ∧ (∀ a, a ∉ [164, 165, 167, 168, 169, 170, 171, 172, 173, 174, 175, 176, 177, 178, 202] → μ'.2.2.1 a = μ.2.2.1 a ∧ μ'.2.2.2 a = μ.2.2.2 a)
theorem kn_X11_walk_0 : (fl_s 0).all (fun q => decide (q.1 ∉ ([164, 165, 167, 168, 169, 170, 171, 172, 173, 174, 175, 176, 177, 178, 202] : List Nat))) = true := by decide
theorem kn_X11_walk_6 : (fl_s 6).all (fun q => decide (q.1 ∉ ([164, 165, 167, 168, 169, 170, 171, 172, 173, 174, 175, 176, 177, 178, 202] : List Nat))) = true := by decide
theorem kn_X11_walk_2 : (fl_s 2).all (fun q => decide (q.1 ∉ ([164, 165, 167, 168, 169, 170, 171, 172, 173, 174, 175, 176, 177, 178, 202] : List Nat))) = true := by decide
theorem kn_X11_walk_3 : (fl_s 3).all (fun q => decide (q.1 ∉ ([164, 165, 167, 168, 169, 170, 171, 172, 173, 174, 175, 176, 177, 178, 202] : List Nat))) = true := by decide
theorem nc_X11_walk_1 : 1 ∉ ([164, 165, 167, 168, 169, 170, 171, 172, 173, 174, 175, 176, 177, 178, 202] : List Nat) := by decide
theorem nc_X11_walk_210 : 210 ∉ ([164, 165, 167, 168, 169, 170, 171, 172, 173, 174, 175, 176, 177, 178, 202] : List Nat) := by decide
theorem nc_X11_walk_307 : 307 ∉ ([164, 165, 167, 168, 169, 170, 171, 172, 173, 174, 175, 176, 177, 178, 202] : List Nat) := by decide
theorem nc_X11_walk_404 : 404 ∉ ([164, 165, 167, 168, 169, 170, 171, 172, 173, 174, 175, 176, 177, 178, 202] : List Nat) := by decide
theorem nc_X11_walk_433 : 433 ∉ ([164, 165, 167, 168, 169, 170, 171, 172, 173, 174, 175, 176, 177, 178, 202] : List Nat) := by decide
theorem cl_X11_walk {μ : dw_S} {K : dw_K} {a1 a2 a3 a4 : Int32} (hI : INV μ) (hK : ∀ (r : Option Value) (w : Int32) (μ' : dw_S), ck_X11_walk a1 a2 a3 a4 μ r w μ' → K r μ') : t_X11_walk [.ref 0, .int a1, .int a2, .int a3, .int a4] μ K := by
  have h_1_1 := hI.2.1 1 1
  rw [sgc_0] at h_1_1
  refine al_364 261 (by decide) (fun s => [(0 : Int), (a1.toInt : Int), (a2.toInt : Int), (a3.toInt : Int), (a4.toInt : Int), ((μ.2.2.1 1 1).toInt : Int)].getD s (0 : Int)) [.ref 0, .int a1, .int a2, .int a3, .int a4] μ K ⟨hI.1, hI.2.1, fun _ _ => ⟨rfl, rfl⟩, rfl, Nat.le_refl _, Nat.le_of_ble_eq_true rfl, fun _ _ => rfl, ?_, fun q hq => absurd hq List.not_mem_nil, ?_, trivial, ?_, ?_⟩ ?_
  · exact iv2_ok (iv := (in_261).pre.iv) (vs := [(0 : Int), (a1.toInt : Int), (a2.toInt : Int), (a3.toInt : Int), (a4.toInt : Int), ((μ.2.2.1 1 1).toInt : Int)]) ⟨⟨Int.le_refl 0, Int.le_refl 0⟩, ⟨dx_b1 _, dx_b2 _⟩, ⟨dx_b1 _, dx_b2 _⟩, ⟨dx_b1 _, dx_b2 _⟩, ⟨dx_b1 _, dx_b2 _⟩, h_1_1, trivial⟩
  · exact ⟨⟨0, List.Mem.head _, rfl⟩, ⟨Nat.le_of_ble_eq_true rfl, a1, rfl, (Int.add_zero _).symm⟩, ⟨Nat.le_of_ble_eq_true rfl, a2, rfl, (Int.add_zero _).symm⟩, ⟨Nat.le_of_ble_eq_true rfl, a3, rfl, (Int.add_zero _).symm⟩, ⟨Nat.le_of_ble_eq_true rfl, a4, rfl, (Int.add_zero _).symm⟩, trivial⟩
  · exact dx_aL.all (l := (in_261).pre.fa) ⟨⟨Nat.le_of_ble_eq_true rfl, (Int.add_zero _).symm⟩, trivial⟩
  · exact dx_aL.all (l := (in_261).pre.fl) trivial
  · intro r μ' ν' P hP g'
    rcases List.mem_cons.mp hP with rfl | hP
    · obtain ⟨w, rfl, hw⟩ := r_int g'.gl
      have n0 : ν' 0 = 0 := g'.ag 0 (Nat.le_of_ble_eq_true rfl)
      have n1 : ν' 1 = a1.toInt := g'.ag 1 (Nat.le_of_ble_eq_true rfl)
      have n2 : ν' 2 = a2.toInt := g'.ag 2 (Nat.le_of_ble_eq_true rfl)
      have n3 : ν' 3 = a3.toInt := g'.ag 3 (Nat.le_of_ble_eq_true rfl)
      have n4 : ν' 4 = a4.toInt := g'.ag 4 (Nat.le_of_ble_eq_true rfl)
      have n5 : ν' 5 = (μ.2.2.1 1 1).toInt := g'.ag 5 (Nat.le_of_ble_eq_true rfl)
      have sz0 : (μ'.2.2.1 1 1).toInt = (μ.2.2.1 1 1).toInt := by rw [(g'.fr 1 nc_X11_walk_1).1]
      have sz1 : (μ'.2.2.1 210 0).toInt = (μ.2.2.1 210 0).toInt := by rw [(g'.fr 210 nc_X11_walk_210).1]
      have sz2 : (μ'.2.2.1 307 0).toInt = (μ.2.2.1 307 0).toInt := by rw [(g'.fr 307 nc_X11_walk_307).1]
      have sz3 : (μ'.2.2.1 404 2).toInt = (μ.2.2.1 404 2).toInt := by rw [(g'.fr 404 nc_X11_walk_404).1]
      have sz4 : (μ'.2.2.1 433 0).toInt = (μ.2.2.1 433 0).toInt := by rw [(g'.fr 433 nc_X11_walk_433).1]
      have sz5 : (μ'.2.2.1 433 1).toInt = (μ.2.2.1 433 1).toInt := by rw [(g'.fr 433 nc_X11_walk_433).1]
      have hw' : w.toInt = ν' 0 + (-1) := hw
      exact hK _ w μ' ⟨⟨g'.sh, g'.hi, keepf (md := [164, 165, 167, 168, 169, 170, 171, 172, 173, 174, 175, 176, 177, 178, 202]) kn_X11_walk_0 g'.fr hI.2.2.1, keepf (md := [164, 165, 167, 168, 169, 170, 171, 172, 173, 174, 175, 176, 177, 178, 202]) kn_X11_walk_6 g'.fr hI.2.2.2.1, keepf (md := [164, 165, 167, 168, 169, 170, 171, 172, 173, 174, 175, 176, 177, 178, 202]) kn_X11_walk_2 g'.fr hI.2.2.2.2.1, keepf (md := [164, 165, 167, 168, 169, 170, 171, 172, 173, 174, 175, 176, 177, 178, 202]) kn_X11_walk_3 g'.fr hI.2.2.2.2.2⟩, rfl, by omega, ⟨sz3, sz4, sz5⟩, g'.fr⟩
    rcases List.mem_cons.mp hP with rfl | hP
    · obtain ⟨w, rfl, hw⟩ := r_int g'.gl
      have n0 : ν' 0 = 0 := g'.ag 0 (Nat.le_of_ble_eq_true rfl)
      have n1 : ν' 1 = a1.toInt := g'.ag 1 (Nat.le_of_ble_eq_true rfl)
      have n2 : ν' 2 = a2.toInt := g'.ag 2 (Nat.le_of_ble_eq_true rfl)
      have n3 : ν' 3 = a3.toInt := g'.ag 3 (Nat.le_of_ble_eq_true rfl)
      have n4 : ν' 4 = a4.toInt := g'.ag 4 (Nat.le_of_ble_eq_true rfl)
      have n5 : ν' 5 = (μ.2.2.1 1 1).toInt := g'.ag 5 (Nat.le_of_ble_eq_true rfl)
      have sz0 : (μ'.2.2.1 1 1).toInt = (μ.2.2.1 1 1).toInt := by rw [(g'.fr 1 nc_X11_walk_1).1]
      have sz1 : (μ'.2.2.1 210 0).toInt = (μ.2.2.1 210 0).toInt := by rw [(g'.fr 210 nc_X11_walk_210).1]
      have sz2 : (μ'.2.2.1 307 0).toInt = (μ.2.2.1 307 0).toInt := by rw [(g'.fr 307 nc_X11_walk_307).1]
      have sz3 : (μ'.2.2.1 404 2).toInt = (μ.2.2.1 404 2).toInt := by rw [(g'.fr 404 nc_X11_walk_404).1]
      have sz4 : (μ'.2.2.1 433 0).toInt = (μ.2.2.1 433 0).toInt := by rw [(g'.fr 433 nc_X11_walk_433).1]
      have sz5 : (μ'.2.2.1 433 1).toInt = (μ.2.2.1 433 1).toInt := by rw [(g'.fr 433 nc_X11_walk_433).1]
      have hw' : w.toInt = ν' 6 + 0 := hw
      have i1 : (0 : Int) ≤ ν' 1 ∧ ν' 1 ≤ 5 := g'.iv 1 (Nat.le_of_ble_eq_true rfl)
      have i2 : (0 : Int) ≤ ν' 2 ∧ ν' 2 ≤ 143 := g'.iv 2 (Nat.le_of_ble_eq_true rfl)
      have i3 : (0 : Int) ≤ ν' 3 ∧ ν' 3 ≤ 2147483646 := g'.iv 3 (Nat.le_of_ble_eq_true rfl)
      have i4 : (0 : Int) ≤ ν' 4 ∧ ν' 4 ≤ 143 := g'.iv 4 (Nat.le_of_ble_eq_true rfl)
      exact hK _ w μ' ⟨⟨g'.sh, g'.hi, keepf (md := [164, 165, 167, 168, 169, 170, 171, 172, 173, 174, 175, 176, 177, 178, 202]) kn_X11_walk_0 g'.fr hI.2.2.1, keepf (md := [164, 165, 167, 168, 169, 170, 171, 172, 173, 174, 175, 176, 177, 178, 202]) kn_X11_walk_6 g'.fr hI.2.2.2.1, keepf (md := [164, 165, 167, 168, 169, 170, 171, 172, 173, 174, 175, 176, 177, 178, 202]) kn_X11_walk_2 g'.fr hI.2.2.2.2.1, keepf (md := [164, 165, 167, 168, 169, 170, 171, 172, 173, 174, 175, 176, 177, 178, 202]) kn_X11_walk_3 g'.fr hI.2.2.2.2.2⟩, rfl, by omega, ⟨sz3, sz4, sz5⟩, g'.fr⟩
    exact absurd hP List.not_mem_nil
abbrev ck_X11_went (a1 : Int32) (μ : dw_S) (r : Option Value) (w : Int32) (μ' : dw_S) : Prop := (INV μ') ∧ (r = some (.int w)) ∧ ((μ'.2.2.1 1 1).toInt = (μ.2.2.1 1 1).toInt ∧ (μ'.2.2.1 210 0).toInt = (μ.2.2.1 210 0).toInt ∧ (μ'.2.2.1 307 0).toInt = (μ.2.2.1 307 0).toInt) ∧ ((μ'.2.2.1 404 2).toInt = (μ.2.2.1 404 2).toInt ∧ (μ'.2.2.1 433 0).toInt = (μ.2.2.1 433 0).toInt ∧ (μ'.2.2.1 433 1).toInt = (μ.2.2.1 433 1).toInt) ∧ (∀ a, a ∉ [] → μ'.2.2.1 a = μ.2.2.1 a ∧ μ'.2.2.2 a = μ.2.2.2 a)
theorem kn_X11_went_0 : (fl_s 0).all (fun q => decide (q.1 ∉ ([] : List Nat))) = true := by decide
theorem kn_X11_went_6 : (fl_s 6).all (fun q => decide (q.1 ∉ ([] : List Nat))) = true := by decide
theorem kn_X11_went_2 : (fl_s 2).all (fun q => decide (q.1 ∉ ([] : List Nat))) = true := by decide
theorem kn_X11_went_3 : (fl_s 3).all (fun q => decide (q.1 ∉ ([] : List Nat))) = true := by decide
theorem nc_X11_went_1 : 1 ∉ ([] : List Nat) := by decide
theorem nc_X11_went_210 : 210 ∉ ([] : List Nat) := by decide
theorem nc_X11_went_307 : 307 ∉ ([] : List Nat) := by decide
theorem nc_X11_went_404 : 404 ∉ ([] : List Nat) := by decide
theorem nc_X11_went_433 : 433 ∉ ([] : List Nat) := by decide
theorem cl_X11_went {μ : dw_S} {K : dw_K} {a1 : Int32} (hI : INV μ) (hK : ∀ (r : Option Value) (w : Int32) (μ' : dw_S), ck_X11_went a1 μ r w μ' → K r μ') : t_X11_went [.ref 0, .int a1] μ K := by
  have h_1_1 := hI.2.1 1 1
  rw [sgc_0] at h_1_1
  refine al_364 262 (by decide) (fun s => [(0 : Int), (a1.toInt : Int), ((μ.2.2.1 1 1).toInt : Int)].getD s (0 : Int)) [.ref 0, .int a1] μ K ⟨hI.1, hI.2.1, fun _ _ => ⟨rfl, rfl⟩, rfl, Nat.le_refl _, Nat.le_of_ble_eq_true rfl, fun _ _ => rfl, ?_, fun q hq => absurd hq List.not_mem_nil, ?_, trivial, ?_, ?_⟩ ?_
  · exact iv2_ok (iv := (in_262).pre.iv) (vs := [(0 : Int), (a1.toInt : Int), ((μ.2.2.1 1 1).toInt : Int)]) ⟨⟨Int.le_refl 0, Int.le_refl 0⟩, ⟨dx_b1 _, dx_b2 _⟩, h_1_1, trivial⟩
  · exact ⟨⟨0, List.Mem.head _, rfl⟩, ⟨Nat.le_of_ble_eq_true rfl, a1, rfl, (Int.add_zero _).symm⟩, trivial⟩
  · exact dx_aL.all (l := (in_262).pre.fa) ⟨⟨Nat.le_of_ble_eq_true rfl, (Int.add_zero _).symm⟩, trivial⟩
  · exact dx_aL.all (l := (in_262).pre.fl) trivial
  · intro r μ' ν' P hP g'
    rcases List.mem_cons.mp hP with rfl | hP
    · obtain ⟨w, rfl, hw⟩ := r_int g'.gl
      have n0 : ν' 0 = 0 := g'.ag 0 (Nat.le_of_ble_eq_true rfl)
      have n1 : ν' 1 = a1.toInt := g'.ag 1 (Nat.le_of_ble_eq_true rfl)
      have n2 : ν' 2 = (μ.2.2.1 1 1).toInt := g'.ag 2 (Nat.le_of_ble_eq_true rfl)
      have sz0 : (μ'.2.2.1 1 1).toInt = (μ.2.2.1 1 1).toInt := by rw [(g'.fr 1 nc_X11_went_1).1]
      have sz1 : (μ'.2.2.1 210 0).toInt = (μ.2.2.1 210 0).toInt := by rw [(g'.fr 210 nc_X11_went_210).1]
      have sz2 : (μ'.2.2.1 307 0).toInt = (μ.2.2.1 307 0).toInt := by rw [(g'.fr 307 nc_X11_went_307).1]
      have sz3 : (μ'.2.2.1 404 2).toInt = (μ.2.2.1 404 2).toInt := by rw [(g'.fr 404 nc_X11_went_404).1]
      have sz4 : (μ'.2.2.1 433 0).toInt = (μ.2.2.1 433 0).toInt := by rw [(g'.fr 433 nc_X11_went_433).1]
      have sz5 : (μ'.2.2.1 433 1).toInt = (μ.2.2.1 433 1).toInt := by rw [(g'.fr 433 nc_X11_went_433).1]
      have hw' : w.toInt = ν' 0 + (-1) := hw
      exact hK _ w μ' ⟨⟨g'.sh, g'.hi, keepf (md := []) kn_X11_went_0 g'.fr hI.2.2.1, keepf (md := []) kn_X11_went_6 g'.fr hI.2.2.2.1, keepf (md := []) kn_X11_went_2 g'.fr hI.2.2.2.2.1, keepf (md := []) kn_X11_went_3 g'.fr hI.2.2.2.2.2⟩, rfl, by omega, ⟨sz3, sz4, sz5⟩, g'.fr⟩
    rcases List.mem_cons.mp hP with rfl | hP
    · obtain ⟨w, rfl, hw⟩ := r_int g'.gl
      have n0 : ν' 0 = 0 := g'.ag 0 (Nat.le_of_ble_eq_true rfl)
      have n1 : ν' 1 = a1.toInt := g'.ag 1 (Nat.le_of_ble_eq_true rfl)
      have n2 : ν' 2 = (μ.2.2.1 1 1).toInt := g'.ag 2 (Nat.le_of_ble_eq_true rfl)
      have sz0 : (μ'.2.2.1 1 1).toInt = (μ.2.2.1 1 1).toInt := by rw [(g'.fr 1 nc_X11_went_1).1]
      have sz1 : (μ'.2.2.1 210 0).toInt = (μ.2.2.1 210 0).toInt := by rw [(g'.fr 210 nc_X11_went_210).1]
      have sz2 : (μ'.2.2.1 307 0).toInt = (μ.2.2.1 307 0).toInt := by rw [(g'.fr 307 nc_X11_went_307).1]
      have sz3 : (μ'.2.2.1 404 2).toInt = (μ.2.2.1 404 2).toInt := by rw [(g'.fr 404 nc_X11_went_404).1]
      have sz4 : (μ'.2.2.1 433 0).toInt = (μ.2.2.1 433 0).toInt := by rw [(g'.fr 433 nc_X11_went_433).1]
      have sz5 : (μ'.2.2.1 433 1).toInt = (μ.2.2.1 433 1).toInt := by rw [(g'.fr 433 nc_X11_went_433).1]
      have hw' : w.toInt = ν' 3 + 0 := hw
      have i1 : (0 : Int) ≤ ν' 1 ∧ ν' 1 ≤ 4 := g'.iv 1 (Nat.le_of_ble_eq_true rfl)
      exact hK _ w μ' ⟨⟨g'.sh, g'.hi, keepf (md := []) kn_X11_went_0 g'.fr hI.2.2.1, keepf (md := []) kn_X11_went_6 g'.fr hI.2.2.2.1, keepf (md := []) kn_X11_went_2 g'.fr hI.2.2.2.2.1, keepf (md := []) kn_X11_went_3 g'.fr hI.2.2.2.2.2⟩, rfl, by omega, ⟨sz3, sz4, sz5⟩, g'.fr⟩
    exact absurd hP List.not_mem_nil
abbrev ck_X11_wet (a1 a2 a3 : Int32) (μ : dw_S) (r : Option Value) (w : Int32) (μ' : dw_S) : Prop := (INV μ') ∧ (r = some (.int w)) ∧ ((μ'.2.2.1 1 1).toInt = (μ.2.2.1 1 1).toInt ∧ (μ'.2.2.1 210 0).toInt = (μ.2.2.1 210 0).toInt ∧ (μ'.2.2.1 307 0).toInt = (μ.2.2.1 307 0).toInt) ∧ ((μ'.2.2.1 404 2).toInt = (μ.2.2.1 404 2).toInt ∧ (μ'.2.2.1 433 0).toInt = (μ.2.2.1 433 0).toInt ∧ (μ'.2.2.1 433 1).toInt = (μ.2.2.1 433 1).toInt) ∧ (∀ a, a ∉ [164, 165, 167, 168, 169, 170, 171, 172, 173, 174, 175, 176, 177, 178, 195, 196, 197, 198, 199, 200] → μ'.2.2.1 a = μ.2.2.1 a ∧ μ'.2.2.2 a = μ.2.2.2 a)
theorem kn_X11_wet_0 : (fl_s 0).all (fun q => decide (q.1 ∉ ([164, 165, 167, 168, 169, 170, 171, 172, 173, 174, 175, 176, 177, 178, 195, 196, 197, 198, 199, 200] : List Nat))) = true := by decide
theorem kn_X11_wet_6 : (fl_s 6).all (fun q => decide (q.1 ∉ ([164, 165, 167, 168, 169, 170, 171, 172, 173, 174, 175, 176, 177, 178, 195, 196, 197, 198, 199, 200] : List Nat))) = true := by decide
theorem kn_X11_wet_2 : (fl_s 2).all (fun q => decide (q.1 ∉ ([164, 165, 167, 168, 169, 170, 171, 172, 173, 174, 175, 176, 177, 178, 195, 196, 197, 198, 199, 200] : List Nat))) = true := by decide
theorem kn_X11_wet_3 : (fl_s 3).all (fun q => decide (q.1 ∉ ([164, 165, 167, 168, 169, 170, 171, 172, 173, 174, 175, 176, 177, 178, 195, 196, 197, 198, 199, 200] : List Nat))) = true := by decide
theorem nc_X11_wet_1 : 1 ∉ ([164, 165, 167, 168, 169, 170, 171, 172, 173, 174, 175, 176, 177, 178, 195, 196, 197, 198, 199, 200] : List Nat) := by decide
theorem nc_X11_wet_210 : 210 ∉ ([164, 165, 167, 168, 169, 170, 171, 172, 173, 174, 175, 176, 177, 178, 195, 196, 197, 198, 199, 200] : List Nat) := by decide
theorem nc_X11_wet_307 : 307 ∉ ([164, 165, 167, 168, 169, 170, 171, 172, 173, 174, 175, 176, 177, 178, 195, 196, 197, 198, 199, 200] : List Nat) := by decide
theorem nc_X11_wet_404 : 404 ∉ ([164, 165, 167, 168, 169, 170, 171, 172, 173, 174, 175, 176, 177, 178, 195, 196, 197, 198, 199, 200] : List Nat) := by decide
theorem nc_X11_wet_433 : 433 ∉ ([164, 165, 167, 168, 169, 170, 171, 172, 173, 174, 175, 176, 177, 178, 195, 196, 197, 198, 199, 200] : List Nat) := by decide
theorem cl_X11_wet {μ : dw_S} {K : dw_K} {a1 a2 a3 : Int32} (hI : INV μ) (hK : ∀ (r : Option Value) (w : Int32) (μ' : dw_S), ck_X11_wet a1 a2 a3 μ r w μ' → K r μ') : t_X11_wet [.ref 0, .int a1, .int a2, .int a3] μ K := by
  have h_1_1 := hI.2.1 1 1
  rw [sgc_0] at h_1_1
  refine al_364 264 (by decide) (fun s => [(0 : Int), (a1.toInt : Int), (a2.toInt : Int), (a3.toInt : Int), ((μ.2.2.1 1 1).toInt : Int)].getD s (0 : Int)) [.ref 0, .int a1, .int a2, .int a3] μ K ⟨hI.1, hI.2.1, fun _ _ => ⟨rfl, rfl⟩, rfl, Nat.le_refl _, Nat.le_of_ble_eq_true rfl, fun _ _ => rfl, ?_, fun q hq => absurd hq List.not_mem_nil, ?_, trivial, ?_, ?_⟩ ?_
  · exact iv2_ok (iv := (in_264).pre.iv) (vs := [(0 : Int), (a1.toInt : Int), (a2.toInt : Int), (a3.toInt : Int), ((μ.2.2.1 1 1).toInt : Int)]) ⟨⟨Int.le_refl 0, Int.le_refl 0⟩, ⟨dx_b1 _, dx_b2 _⟩, ⟨dx_b1 _, dx_b2 _⟩, ⟨dx_b1 _, dx_b2 _⟩, h_1_1, trivial⟩
  · exact ⟨⟨0, List.Mem.head _, rfl⟩, ⟨Nat.le_of_ble_eq_true rfl, a1, rfl, (Int.add_zero _).symm⟩, ⟨Nat.le_of_ble_eq_true rfl, a2, rfl, (Int.add_zero _).symm⟩, ⟨Nat.le_of_ble_eq_true rfl, a3, rfl, (Int.add_zero _).symm⟩, trivial⟩
  · exact dx_aL.all (l := (in_264).pre.fa) ⟨⟨Nat.le_of_ble_eq_true rfl, (Int.add_zero _).symm⟩, trivial⟩
  · exact dx_aL.all (l := (in_264).pre.fl) trivial
  · intro r μ' ν' P hP g'
    rcases List.mem_cons.mp hP with rfl | hP
    · obtain ⟨w, rfl, hw⟩ := r_int g'.gl
      have n0 : ν' 0 = 0 := g'.ag 0 (Nat.le_of_ble_eq_true rfl)
      have n1 : ν' 1 = a1.toInt := g'.ag 1 (Nat.le_of_ble_eq_true rfl)
      have n2 : ν' 2 = a2.toInt := g'.ag 2 (Nat.le_of_ble_eq_true rfl)
      have n3 : ν' 3 = a3.toInt := g'.ag 3 (Nat.le_of_ble_eq_true rfl)
      have n4 : ν' 4 = (μ.2.2.1 1 1).toInt := g'.ag 4 (Nat.le_of_ble_eq_true rfl)
      have sz0 : (μ'.2.2.1 1 1).toInt = (μ.2.2.1 1 1).toInt := by rw [(g'.fr 1 nc_X11_wet_1).1]
      have sz1 : (μ'.2.2.1 210 0).toInt = (μ.2.2.1 210 0).toInt := by rw [(g'.fr 210 nc_X11_wet_210).1]
      have sz2 : (μ'.2.2.1 307 0).toInt = (μ.2.2.1 307 0).toInt := by rw [(g'.fr 307 nc_X11_wet_307).1]
      have sz3 : (μ'.2.2.1 404 2).toInt = (μ.2.2.1 404 2).toInt := by rw [(g'.fr 404 nc_X11_wet_404).1]
      have sz4 : (μ'.2.2.1 433 0).toInt = (μ.2.2.1 433 0).toInt := by rw [(g'.fr 433 nc_X11_wet_433).1]
      have sz5 : (μ'.2.2.1 433 1).toInt = (μ.2.2.1 433 1).toInt := by rw [(g'.fr 433 nc_X11_wet_433).1]
      have hw' : w.toInt = ν' 0 + (-1) := hw
      exact hK _ w μ' ⟨⟨g'.sh, g'.hi, keepf (md := [164, 165, 167, 168, 169, 170, 171, 172, 173, 174, 175, 176, 177, 178, 195, 196, 197, 198, 199, 200]) kn_X11_wet_0 g'.fr hI.2.2.1, keepf (md := [164, 165, 167, 168, 169, 170, 171, 172, 173, 174, 175, 176, 177, 178, 195, 196, 197, 198, 199, 200]) kn_X11_wet_6 g'.fr hI.2.2.2.1, keepf (md := [164, 165, 167, 168, 169, 170, 171, 172, 173, 174, 175, 176, 177, 178, 195, 196, 197, 198, 199, 200]) kn_X11_wet_2 g'.fr hI.2.2.2.2.1, keepf (md := [164, 165, 167, 168, 169, 170, 171, 172, 173, 174, 175, 176, 177, 178, 195, 196, 197, 198, 199, 200]) kn_X11_wet_3 g'.fr hI.2.2.2.2.2⟩, rfl, by omega, ⟨sz3, sz4, sz5⟩, g'.fr⟩
    rcases List.mem_cons.mp hP with rfl | hP
    · obtain ⟨w, rfl, hw⟩ := r_int g'.gl
      have n0 : ν' 0 = 0 := g'.ag 0 (Nat.le_of_ble_eq_true rfl)
      have n1 : ν' 1 = a1.toInt := g'.ag 1 (Nat.le_of_ble_eq_true rfl)
      have n2 : ν' 2 = a2.toInt := g'.ag 2 (Nat.le_of_ble_eq_true rfl)
      have n3 : ν' 3 = a3.toInt := g'.ag 3 (Nat.le_of_ble_eq_true rfl)
      have n4 : ν' 4 = (μ.2.2.1 1 1).toInt := g'.ag 4 (Nat.le_of_ble_eq_true rfl)
      have sz0 : (μ'.2.2.1 1 1).toInt = (μ.2.2.1 1 1).toInt := by rw [(g'.fr 1 nc_X11_wet_1).1]
      have sz1 : (μ'.2.2.1 210 0).toInt = (μ.2.2.1 210 0).toInt := by rw [(g'.fr 210 nc_X11_wet_210).1]
      have sz2 : (μ'.2.2.1 307 0).toInt = (μ.2.2.1 307 0).toInt := by rw [(g'.fr 307 nc_X11_wet_307).1]
      have sz3 : (μ'.2.2.1 404 2).toInt = (μ.2.2.1 404 2).toInt := by rw [(g'.fr 404 nc_X11_wet_404).1]
      have sz4 : (μ'.2.2.1 433 0).toInt = (μ.2.2.1 433 0).toInt := by rw [(g'.fr 433 nc_X11_wet_433).1]
      have sz5 : (μ'.2.2.1 433 1).toInt = (μ.2.2.1 433 1).toInt := by rw [(g'.fr 433 nc_X11_wet_433).1]
      have hw' : w.toInt = ν' 5 + 0 := hw
      have i1 : (0 : Int) ≤ ν' 1 ∧ ν' 1 ≤ 5 := g'.iv 1 (Nat.le_of_ble_eq_true rfl)
      have i2 : (0 : Int) ≤ ν' 2 ∧ ν' 2 ≤ 939 := g'.iv 2 (Nat.le_of_ble_eq_true rfl)
      have i3 : (0 : Int) ≤ ν' 3 ∧ ν' 3 ≤ 11 := g'.iv 3 (Nat.le_of_ble_eq_true rfl)
      exact hK _ w μ' ⟨⟨g'.sh, g'.hi, keepf (md := [164, 165, 167, 168, 169, 170, 171, 172, 173, 174, 175, 176, 177, 178, 195, 196, 197, 198, 199, 200]) kn_X11_wet_0 g'.fr hI.2.2.1, keepf (md := [164, 165, 167, 168, 169, 170, 171, 172, 173, 174, 175, 176, 177, 178, 195, 196, 197, 198, 199, 200]) kn_X11_wet_6 g'.fr hI.2.2.2.1, keepf (md := [164, 165, 167, 168, 169, 170, 171, 172, 173, 174, 175, 176, 177, 178, 195, 196, 197, 198, 199, 200]) kn_X11_wet_2 g'.fr hI.2.2.2.2.1, keepf (md := [164, 165, 167, 168, 169, 170, 171, 172, 173, 174, 175, 176, 177, 178, 195, 196, 197, 198, 199, 200]) kn_X11_wet_3 g'.fr hI.2.2.2.2.2⟩, rfl, by omega, ⟨sz3, sz4, sz5⟩, g'.fr⟩
    exact absurd hP List.not_mem_nil
abbrev ck_X11_where (a1 a2 a3 : Int32) (μ : dw_S) (r : Option Value) (w : Int32) (μ' : dw_S) : Prop := (INV μ') ∧ (r = some (.int w)) ∧ ((μ'.2.2.1 1 1).toInt = (μ.2.2.1 1 1).toInt ∧ (μ'.2.2.1 210 0).toInt = (μ.2.2.1 210 0).toInt ∧ (μ'.2.2.1 307 0).toInt = (μ.2.2.1 307 0).toInt) ∧ ((μ'.2.2.1 404 2).toInt = (μ.2.2.1 404 2).toInt ∧ (μ'.2.2.1 433 0).toInt = (μ.2.2.1 433 0).toInt ∧ (μ'.2.2.1 433 1).toInt = (μ.2.2.1 433 1).toInt) ∧ (∀ a, a ∉ [164, 165, 167, 168, 169, 170, 171, 172, 173, 174, 175, 176, 177, 178] → μ'.2.2.1 a = μ.2.2.1 a ∧ μ'.2.2.2 a = μ.2.2.2 a)
theorem kn_X11_where_0 : (fl_s 0).all (fun q => decide (q.1 ∉ ([164, 165, 167, 168, 169, 170, 171, 172, 173, 174, 175, 176, 177, 178] : List Nat))) = true := by decide
theorem kn_X11_where_6 : (fl_s 6).all (fun q => decide (q.1 ∉ ([164, 165, 167, 168, 169, 170, 171, 172, 173, 174, 175, 176, 177, 178] : List Nat))) = true := by decide
theorem kn_X11_where_2 : (fl_s 2).all (fun q => decide (q.1 ∉ ([164, 165, 167, 168, 169, 170, 171, 172, 173, 174, 175, 176, 177, 178] : List Nat))) = true := by decide
theorem kn_X11_where_3 : (fl_s 3).all (fun q => decide (q.1 ∉ ([164, 165, 167, 168, 169, 170, 171, 172, 173, 174, 175, 176, 177, 178] : List Nat))) = true := by decide
theorem nc_X11_where_1 : 1 ∉ ([164, 165, 167, 168, 169, 170, 171, 172, 173, 174, 175, 176, 177, 178] : List Nat) := by decide
theorem nc_X11_where_210 : 210 ∉ ([164, 165, 167, 168, 169, 170, 171, 172, 173, 174, 175, 176, 177, 178] : List Nat) := by decide
theorem nc_X11_where_307 : 307 ∉ ([164, 165, 167, 168, 169, 170, 171, 172, 173, 174, 175, 176, 177, 178] : List Nat) := by decide
theorem nc_X11_where_404 : 404 ∉ ([164, 165, 167, 168, 169, 170, 171, 172, 173, 174, 175, 176, 177, 178] : List Nat) := by decide
theorem nc_X11_where_433 : 433 ∉ ([164, 165, 167, 168, 169, 170, 171, 172, 173, 174, 175, 176, 177, 178] : List Nat) := by decide
theorem cl_X11_where {μ : dw_S} {K : dw_K} {a1 a2 a3 : Int32} (hI : INV μ) (hK : ∀ (r : Option Value) (w : Int32) (μ' : dw_S), ck_X11_where a1 a2 a3 μ r w μ' → K r μ') : t_X11_where [.ref 0, .int a1, .int a2, .int a3] μ K := by
  have h_1_1 := hI.2.1 1 1
  rw [sgc_0] at h_1_1
  refine al_364 265 (by decide) (fun s => [(0 : Int), (a1.toInt : Int), (a2.toInt : Int), (a3.toInt : Int), ((μ.2.2.1 1 1).toInt : Int)].getD s (0 : Int)) [.ref 0, .int a1, .int a2, .int a3] μ K ⟨hI.1, hI.2.1, fun _ _ => ⟨rfl, rfl⟩, rfl, Nat.le_refl _, Nat.le_of_ble_eq_true rfl, fun _ _ => rfl, ?_, fun q hq => absurd hq List.not_mem_nil, ?_, trivial, ?_, ?_⟩ ?_
  · exact iv2_ok (iv := (in_265).pre.iv) (vs := [(0 : Int), (a1.toInt : Int), (a2.toInt : Int), (a3.toInt : Int), ((μ.2.2.1 1 1).toInt : Int)]) ⟨⟨Int.le_refl 0, Int.le_refl 0⟩, ⟨dx_b1 _, dx_b2 _⟩, ⟨dx_b1 _, dx_b2 _⟩, ⟨dx_b1 _, dx_b2 _⟩, h_1_1, trivial⟩
  · exact ⟨⟨0, List.Mem.head _, rfl⟩, ⟨Nat.le_of_ble_eq_true rfl, a1, rfl, (Int.add_zero _).symm⟩, ⟨Nat.le_of_ble_eq_true rfl, a2, rfl, (Int.add_zero _).symm⟩, ⟨Nat.le_of_ble_eq_true rfl, a3, rfl, (Int.add_zero _).symm⟩, trivial⟩
  · exact dx_aL.all (l := (in_265).pre.fa) ⟨⟨Nat.le_of_ble_eq_true rfl, (Int.add_zero _).symm⟩, trivial⟩
  · exact dx_aL.all (l := (in_265).pre.fl) trivial
  · intro r μ' ν' P hP g'
    rcases List.mem_cons.mp hP with rfl | hP
    · obtain ⟨w, rfl, hw⟩ := r_int g'.gl
      have n0 : ν' 0 = 0 := g'.ag 0 (Nat.le_of_ble_eq_true rfl)
      have n1 : ν' 1 = a1.toInt := g'.ag 1 (Nat.le_of_ble_eq_true rfl)
      have n2 : ν' 2 = a2.toInt := g'.ag 2 (Nat.le_of_ble_eq_true rfl)
      have n3 : ν' 3 = a3.toInt := g'.ag 3 (Nat.le_of_ble_eq_true rfl)
      have n4 : ν' 4 = (μ.2.2.1 1 1).toInt := g'.ag 4 (Nat.le_of_ble_eq_true rfl)
      have sz0 : (μ'.2.2.1 1 1).toInt = (μ.2.2.1 1 1).toInt := by rw [(g'.fr 1 nc_X11_where_1).1]
      have sz1 : (μ'.2.2.1 210 0).toInt = (μ.2.2.1 210 0).toInt := by rw [(g'.fr 210 nc_X11_where_210).1]
      have sz2 : (μ'.2.2.1 307 0).toInt = (μ.2.2.1 307 0).toInt := by rw [(g'.fr 307 nc_X11_where_307).1]
      have sz3 : (μ'.2.2.1 404 2).toInt = (μ.2.2.1 404 2).toInt := by rw [(g'.fr 404 nc_X11_where_404).1]
      have sz4 : (μ'.2.2.1 433 0).toInt = (μ.2.2.1 433 0).toInt := by rw [(g'.fr 433 nc_X11_where_433).1]
      have sz5 : (μ'.2.2.1 433 1).toInt = (μ.2.2.1 433 1).toInt := by rw [(g'.fr 433 nc_X11_where_433).1]
      have hw' : w.toInt = ν' 5 + 0 := hw
      have i1 : (0 : Int) ≤ ν' 1 ∧ ν' 1 ≤ 5 := g'.iv 1 (Nat.le_of_ble_eq_true rfl)
      have i2 : (0 : Int) ≤ ν' 2 ∧ ν' 2 ≤ 143 := g'.iv 2 (Nat.le_of_ble_eq_true rfl)
      have i3 : (1 : Int) ≤ ν' 3 ∧ ν' 3 ≤ 9999 := g'.iv 3 (Nat.le_of_ble_eq_true rfl)
      exact hK _ w μ' ⟨⟨g'.sh, g'.hi, keepf (md := [164, 165, 167, 168, 169, 170, 171, 172, 173, 174, 175, 176, 177, 178]) kn_X11_where_0 g'.fr hI.2.2.1, keepf (md := [164, 165, 167, 168, 169, 170, 171, 172, 173, 174, 175, 176, 177, 178]) kn_X11_where_6 g'.fr hI.2.2.2.1, keepf (md := [164, 165, 167, 168, 169, 170, 171, 172, 173, 174, 175, 176, 177, 178]) kn_X11_where_2 g'.fr hI.2.2.2.2.1, keepf (md := [164, 165, 167, 168, 169, 170, 171, 172, 173, 174, 175, 176, 177, 178]) kn_X11_where_3 g'.fr hI.2.2.2.2.2⟩, rfl, by omega, ⟨sz3, sz4, sz5⟩, g'.fr⟩
    rcases List.mem_cons.mp hP with rfl | hP
    · obtain ⟨w, rfl, hw⟩ := r_int g'.gl
      have n0 : ν' 0 = 0 := g'.ag 0 (Nat.le_of_ble_eq_true rfl)
      have n1 : ν' 1 = a1.toInt := g'.ag 1 (Nat.le_of_ble_eq_true rfl)
      have n2 : ν' 2 = a2.toInt := g'.ag 2 (Nat.le_of_ble_eq_true rfl)
      have n3 : ν' 3 = a3.toInt := g'.ag 3 (Nat.le_of_ble_eq_true rfl)
      have n4 : ν' 4 = (μ.2.2.1 1 1).toInt := g'.ag 4 (Nat.le_of_ble_eq_true rfl)
      have sz0 : (μ'.2.2.1 1 1).toInt = (μ.2.2.1 1 1).toInt := by rw [(g'.fr 1 nc_X11_where_1).1]
      have sz1 : (μ'.2.2.1 210 0).toInt = (μ.2.2.1 210 0).toInt := by rw [(g'.fr 210 nc_X11_where_210).1]
      have sz2 : (μ'.2.2.1 307 0).toInt = (μ.2.2.1 307 0).toInt := by rw [(g'.fr 307 nc_X11_where_307).1]
      have sz3 : (μ'.2.2.1 404 2).toInt = (μ.2.2.1 404 2).toInt := by rw [(g'.fr 404 nc_X11_where_404).1]
      have sz4 : (μ'.2.2.1 433 0).toInt = (μ.2.2.1 433 0).toInt := by rw [(g'.fr 433 nc_X11_where_433).1]
      have sz5 : (μ'.2.2.1 433 1).toInt = (μ.2.2.1 433 1).toInt := by rw [(g'.fr 433 nc_X11_where_433).1]
      have hw' : w.toInt = ν' 0 + (-1) := hw
      exact hK _ w μ' ⟨⟨g'.sh, g'.hi, keepf (md := [164, 165, 167, 168, 169, 170, 171, 172, 173, 174, 175, 176, 177, 178]) kn_X11_where_0 g'.fr hI.2.2.1, keepf (md := [164, 165, 167, 168, 169, 170, 171, 172, 173, 174, 175, 176, 177, 178]) kn_X11_where_6 g'.fr hI.2.2.2.1, keepf (md := [164, 165, 167, 168, 169, 170, 171, 172, 173, 174, 175, 176, 177, 178]) kn_X11_where_2 g'.fr hI.2.2.2.2.1, keepf (md := [164, 165, 167, 168, 169, 170, 171, 172, 173, 174, 175, 176, 177, 178]) kn_X11_where_3 g'.fr hI.2.2.2.2.2⟩, rfl, by omega, ⟨sz3, sz4, sz5⟩, g'.fr⟩
    exact absurd hP List.not_mem_nil
abbrev ck_X12_begin (a1 : Int32) (μ : dw_S) (r : Option Value) (w : Int32) (μ' : dw_S) : Prop := (INV μ') ∧ (r = some (.int w)) ∧ ((μ'.2.2.1 404 2).toInt = (μ.2.2.1 404 2).toInt ∧ (μ'.2.2.1 433 0).toInt = (μ.2.2.1 433 0).toInt ∧ (μ'.2.2.1 433 1).toInt = (μ.2.2.1 433 1).toInt) ∧ ((μ'.2.2.1 1 1).toInt = (μ.2.2.1 1 1).toInt ∧ (μ'.2.2.1 210 0).toInt = (μ.2.2.1 210 0).toInt ∧ (μ'.2.2.1 307 0).toInt = (μ.2.2.1 307 0).toInt) ∧ (∀ a, a ∉ [404, 406, 411, 412, 413, 414, 415, 416, 417, 418, 419] → μ'.2.2.1 a = μ.2.2.1 a ∧ μ'.2.2.2 a = μ.2.2.2 a)
theorem sgc_3 : dx_seg (dx_ce 406).iv 0 = (0, 12) := by decide +kernel
theorem sgc_4 : dx_seg (dx_ce 406).iv 1 = (0, 12) := by decide +kernel
theorem sgc_5 : dx_seg (dx_ce 406).iv 2 = (0, 8) := by decide +kernel
theorem sgc_6 : dx_seg (dx_ce 406).iv 3 = (0, 12) := by decide +kernel
theorem sgc_7 : dx_seg (dx_ce 404).iv 38 = (0, 144) := by decide +kernel
theorem sgc_8 : dx_seg (dx_ce 404).iv 2 = (0, 940) := by decide +kernel
theorem nc_X12_begin_433 : 433 ∉ ([404, 406, 411, 412, 413, 414, 415, 416, 417, 418, 419] : List Nat) := by decide
theorem nc_X12_begin_1 : 1 ∉ ([404, 406, 411, 412, 413, 414, 415, 416, 417, 418, 419] : List Nat) := by decide
theorem nc_X12_begin_210 : 210 ∉ ([404, 406, 411, 412, 413, 414, 415, 416, 417, 418, 419] : List Nat) := by decide
theorem nc_X12_begin_307 : 307 ∉ ([404, 406, 411, 412, 413, 414, 415, 416, 417, 418, 419] : List Nat) := by decide
theorem cl_X12_begin {μ : dw_S} {K : dw_K} {a1 : Int32} (hI : INV μ) (hK : ∀ (r : Option Value) (w : Int32) (μ' : dw_S), ck_X12_begin a1 μ r w μ' → K r μ') : t_X12_begin [.ref 404, .int a1] μ K := by
  have h_406_0 := hI.2.1 406 0
  rw [sgc_3] at h_406_0
  have h_406_1 := hI.2.1 406 1
  rw [sgc_4] at h_406_1
  have h_406_2 := hI.2.1 406 2
  rw [sgc_5] at h_406_2
  have h_406_3 := hI.2.1 406 3
  rw [sgc_6] at h_406_3
  have h_404_38 := hI.2.1 404 38
  rw [sgc_7] at h_404_38
  have h_404_2 := hI.2.1 404 2
  rw [sgc_8] at h_404_2
  refine al_364 278 (by decide) (fun s => [(0 : Int), (a1.toInt : Int), ((μ.2.2.1 406 0).toInt : Int), ((μ.2.2.1 406 1).toInt : Int), ((μ.2.2.1 406 2).toInt : Int), ((μ.2.2.1 406 3).toInt : Int), ((μ.2.2.1 404 38).toInt : Int), ((μ.2.2.1 404 2).toInt : Int)].getD s (0 : Int)) [.ref 404, .int a1] μ K ⟨hI.1, hI.2.1, fun _ _ => ⟨rfl, rfl⟩, rfl, Nat.le_refl _, Nat.le_of_ble_eq_true rfl, fun _ _ => rfl, ?_, fun q hq => absurd hq List.not_mem_nil, ?_, trivial, ?_, ?_⟩ ?_
  · exact iv2_ok (iv := (in_278).pre.iv) (vs := [(0 : Int), (a1.toInt : Int), ((μ.2.2.1 406 0).toInt : Int), ((μ.2.2.1 406 1).toInt : Int), ((μ.2.2.1 406 2).toInt : Int), ((μ.2.2.1 406 3).toInt : Int), ((μ.2.2.1 404 38).toInt : Int), ((μ.2.2.1 404 2).toInt : Int)]) ⟨⟨Int.le_refl 0, Int.le_refl 0⟩, ⟨dx_b1 _, dx_b2 _⟩, h_406_0, h_406_1, h_406_2, h_406_3, h_404_38, h_404_2, trivial⟩
  · exact ⟨⟨404, List.Mem.head _, rfl⟩, ⟨Nat.le_of_ble_eq_true rfl, a1, rfl, (Int.add_zero _).symm⟩, trivial⟩
  · exact dx_aL.all (l := (in_278).pre.fa) ⟨⟨Nat.le_of_ble_eq_true rfl, (Int.add_zero _).symm⟩, ⟨Nat.le_of_ble_eq_true rfl, (Int.add_zero _).symm⟩, ⟨Nat.le_of_ble_eq_true rfl, (Int.add_zero _).symm⟩, ⟨Nat.le_of_ble_eq_true rfl, (Int.add_zero _).symm⟩, ⟨Nat.le_of_ble_eq_true rfl, (Int.add_zero _).symm⟩, ⟨Nat.le_of_ble_eq_true rfl, (Int.add_zero _).symm⟩, trivial⟩
  · exact dx_aL.all (l := (in_278).pre.fl) ⟨⟨Nat.le_of_ble_eq_true rfl, hI.2.2.1⟩, ⟨Nat.le_of_ble_eq_true rfl, hI.2.2.2.1⟩, ⟨Nat.le_of_ble_eq_true rfl, hI.2.2.2.2.1⟩, ⟨Nat.le_of_ble_eq_true rfl, hI.2.2.2.2.2⟩, trivial⟩
  · intro r μ' ν' P hP g'
    rcases List.mem_cons.mp hP with rfl | hP
    · obtain ⟨w, rfl, hw⟩ := r_int g'.gl
      have n0 : ν' 0 = 0 := g'.ag 0 (Nat.le_of_ble_eq_true rfl)
      have n1 : ν' 1 = a1.toInt := g'.ag 1 (Nat.le_of_ble_eq_true rfl)
      have n2 : ν' 2 = (μ.2.2.1 406 0).toInt := g'.ag 2 (Nat.le_of_ble_eq_true rfl)
      have n3 : ν' 3 = (μ.2.2.1 406 1).toInt := g'.ag 3 (Nat.le_of_ble_eq_true rfl)
      have n4 : ν' 4 = (μ.2.2.1 406 2).toInt := g'.ag 4 (Nat.le_of_ble_eq_true rfl)
      have n5 : ν' 5 = (μ.2.2.1 406 3).toInt := g'.ag 5 (Nat.le_of_ble_eq_true rfl)
      have n6 : ν' 6 = (μ.2.2.1 404 38).toInt := g'.ag 6 (Nat.le_of_ble_eq_true rfl)
      have n7 : ν' 7 = (μ.2.2.1 404 2).toInt := g'.ag 7 (Nat.le_of_ble_eq_true rfl)
      have sz0 : (μ'.2.2.1 404 2).toInt = ν' 7 + 0 := (g'.fa _ (List.Mem.tail _ (List.Mem.tail _ (List.Mem.tail _ (List.Mem.tail _ (List.Mem.tail _ (List.Mem.head _))))))).2
      have sz1 : (μ'.2.2.1 433 0).toInt = (μ.2.2.1 433 0).toInt := by rw [(g'.fr 433 nc_X12_begin_433).1]
      have sz2 : (μ'.2.2.1 433 1).toInt = (μ.2.2.1 433 1).toInt := by rw [(g'.fr 433 nc_X12_begin_433).1]
      have sz3 : (μ'.2.2.1 1 1).toInt = (μ.2.2.1 1 1).toInt := by rw [(g'.fr 1 nc_X12_begin_1).1]
      have sz4 : (μ'.2.2.1 210 0).toInt = (μ.2.2.1 210 0).toInt := by rw [(g'.fr 210 nc_X12_begin_210).1]
      have sz5 : (μ'.2.2.1 307 0).toInt = (μ.2.2.1 307 0).toInt := by rw [(g'.fr 307 nc_X12_begin_307).1]
      have hw' : w.toInt = ν' 0 + 0 := hw
      exact hK _ w μ' ⟨⟨g'.sh, g'.hi, (g'.fl _ (List.Mem.head _)).2, (g'.fl _ (List.Mem.tail _ (List.Mem.head _))).2, (g'.fl _ (List.Mem.tail _ (List.Mem.tail _ (List.Mem.head _)))).2, (g'.fl _ (List.Mem.tail _ (List.Mem.tail _ (List.Mem.tail _ (List.Mem.head _))))).2⟩, rfl, by omega, ⟨sz3, sz4, sz5⟩, g'.fr⟩
    rcases List.mem_cons.mp hP with rfl | hP
    · obtain ⟨w, rfl, hw⟩ := r_int g'.gl
      have n0 : ν' 0 = 0 := g'.ag 0 (Nat.le_of_ble_eq_true rfl)
      have n1 : ν' 1 = a1.toInt := g'.ag 1 (Nat.le_of_ble_eq_true rfl)
      have n2 : ν' 2 = (μ.2.2.1 406 0).toInt := g'.ag 2 (Nat.le_of_ble_eq_true rfl)
      have n3 : ν' 3 = (μ.2.2.1 406 1).toInt := g'.ag 3 (Nat.le_of_ble_eq_true rfl)
      have n4 : ν' 4 = (μ.2.2.1 406 2).toInt := g'.ag 4 (Nat.le_of_ble_eq_true rfl)
      have n5 : ν' 5 = (μ.2.2.1 406 3).toInt := g'.ag 5 (Nat.le_of_ble_eq_true rfl)
      have n6 : ν' 6 = (μ.2.2.1 404 38).toInt := g'.ag 6 (Nat.le_of_ble_eq_true rfl)
      have n7 : ν' 7 = (μ.2.2.1 404 2).toInt := g'.ag 7 (Nat.le_of_ble_eq_true rfl)
      have sz0 : (μ'.2.2.1 404 2).toInt = ν' 7 + 0 := (g'.fa _ (List.Mem.tail _ (List.Mem.tail _ (List.Mem.tail _ (List.Mem.tail _ (List.Mem.tail _ (List.Mem.head _))))))).2
      have sz1 : (μ'.2.2.1 433 0).toInt = (μ.2.2.1 433 0).toInt := by rw [(g'.fr 433 nc_X12_begin_433).1]
      have sz2 : (μ'.2.2.1 433 1).toInt = (μ.2.2.1 433 1).toInt := by rw [(g'.fr 433 nc_X12_begin_433).1]
      have sz3 : (μ'.2.2.1 1 1).toInt = (μ.2.2.1 1 1).toInt := by rw [(g'.fr 1 nc_X12_begin_1).1]
      have sz4 : (μ'.2.2.1 210 0).toInt = (μ.2.2.1 210 0).toInt := by rw [(g'.fr 210 nc_X12_begin_210).1]
      have sz5 : (μ'.2.2.1 307 0).toInt = (μ.2.2.1 307 0).toInt := by rw [(g'.fr 307 nc_X12_begin_307).1]
      have hw' : w.toInt = ν' 0 + 1 := hw
      have i1 : (0 : Int) ≤ ν' 1 ∧ ν' 1 ≤ 5 := g'.iv 1 (Nat.le_of_ble_eq_true rfl)
      exact hK _ w μ' ⟨⟨g'.sh, g'.hi, (g'.fl _ (List.Mem.tail _ (List.Mem.tail _ (List.Mem.head _)))).2, (g'.fl _ (List.Mem.tail _ (List.Mem.tail _ (List.Mem.tail _ (List.Mem.head _))))).2, (g'.fl _ (List.Mem.tail _ (List.Mem.tail _ (List.Mem.tail _ (List.Mem.tail _ (List.Mem.head _)))))).2, (g'.fl _ (List.Mem.tail _ (List.Mem.tail _ (List.Mem.tail _ (List.Mem.tail _ (List.Mem.tail _ (List.Mem.head _))))))).2⟩, rfl, by omega, ⟨sz3, sz4, sz5⟩, g'.fr⟩
    exact absurd hP List.not_mem_nil
abbrev ck_X12_begins (a1 a2 a3 : Int32) (μ : dw_S) (r : Option Value) (w : Int32) (μ' : dw_S) : Prop := (INV μ') ∧ (r = some (.int w)) ∧ ((μ'.2.2.1 404 2).toInt = (μ.2.2.1 404 2).toInt ∧ (μ'.2.2.1 433 0).toInt = (μ.2.2.1 433 0).toInt ∧ (μ'.2.2.1 433 1).toInt = (μ.2.2.1 433 1).toInt) ∧ ((μ'.2.2.1 1 1).toInt = (μ.2.2.1 1 1).toInt ∧ (μ'.2.2.1 210 0).toInt = (μ.2.2.1 210 0).toInt ∧ (μ'.2.2.1 307 0).toInt = (μ.2.2.1 307 0).toInt) ∧ (∀ a, a ∉ [404, 411, 412, 413, 414, 415, 416, 417, 418, 419, 422] → μ'.2.2.1 a = μ.2.2.1 a ∧ μ'.2.2.2 a = μ.2.2.2 a)
theorem nc_X12_begins_433 : 433 ∉ ([404, 411, 412, 413, 414, 415, 416, 417, 418, 419, 422] : List Nat) := by decide
theorem nc_X12_begins_1 : 1 ∉ ([404, 411, 412, 413, 414, 415, 416, 417, 418, 419, 422] : List Nat) := by decide
theorem nc_X12_begins_210 : 210 ∉ ([404, 411, 412, 413, 414, 415, 416, 417, 418, 419, 422] : List Nat) := by decide
theorem nc_X12_begins_307 : 307 ∉ ([404, 411, 412, 413, 414, 415, 416, 417, 418, 419, 422] : List Nat) := by decide
theorem cl_X12_begins {μ : dw_S} {K : dw_K} {a1 a2 a3 : Int32} (hI : INV μ) (hK : ∀ (r : Option Value) (w : Int32) (μ' : dw_S), ck_X12_begins a1 a2 a3 μ r w μ' → K r μ') : t_X12_begins [.ref 404, .int a1, .int a2, .int a3] μ K := by
  have h_406_0 := hI.2.1 406 0
  rw [sgc_3] at h_406_0
  have h_406_1 := hI.2.1 406 1
  rw [sgc_4] at h_406_1
  have h_406_2 := hI.2.1 406 2
  rw [sgc_5] at h_406_2
  have h_406_3 := hI.2.1 406 3
  rw [sgc_6] at h_406_3
  have h_404_38 := hI.2.1 404 38
  rw [sgc_7] at h_404_38
  have h_404_2 := hI.2.1 404 2
  rw [sgc_8] at h_404_2
  refine al_364 285 (by decide) (fun s => [(0 : Int), (a1.toInt : Int), (a2.toInt : Int), (a3.toInt : Int), ((μ.2.2.1 406 0).toInt : Int), ((μ.2.2.1 406 1).toInt : Int), ((μ.2.2.1 406 2).toInt : Int), ((μ.2.2.1 406 3).toInt : Int), ((μ.2.2.1 404 38).toInt : Int), ((μ.2.2.1 404 2).toInt : Int)].getD s (0 : Int)) [.ref 404, .int a1, .int a2, .int a3] μ K ⟨hI.1, hI.2.1, fun _ _ => ⟨rfl, rfl⟩, rfl, Nat.le_refl _, Nat.le_of_ble_eq_true rfl, fun _ _ => rfl, ?_, fun q hq => absurd hq List.not_mem_nil, ?_, trivial, ?_, ?_⟩ ?_
  · exact iv2_ok (iv := (in_285).pre.iv) (vs := [(0 : Int), (a1.toInt : Int), (a2.toInt : Int), (a3.toInt : Int), ((μ.2.2.1 406 0).toInt : Int), ((μ.2.2.1 406 1).toInt : Int), ((μ.2.2.1 406 2).toInt : Int), ((μ.2.2.1 406 3).toInt : Int), ((μ.2.2.1 404 38).toInt : Int), ((μ.2.2.1 404 2).toInt : Int)]) ⟨⟨Int.le_refl 0, Int.le_refl 0⟩, ⟨dx_b1 _, dx_b2 _⟩, ⟨dx_b1 _, dx_b2 _⟩, ⟨dx_b1 _, dx_b2 _⟩, h_406_0, h_406_1, h_406_2, h_406_3, h_404_38, h_404_2, trivial⟩
  · exact ⟨⟨404, List.Mem.head _, rfl⟩, ⟨Nat.le_of_ble_eq_true rfl, a1, rfl, (Int.add_zero _).symm⟩, ⟨Nat.le_of_ble_eq_true rfl, a2, rfl, (Int.add_zero _).symm⟩, ⟨Nat.le_of_ble_eq_true rfl, a3, rfl, (Int.add_zero _).symm⟩, trivial⟩
  · exact dx_aL.all (l := (in_285).pre.fa) ⟨⟨Nat.le_of_ble_eq_true rfl, (Int.add_zero _).symm⟩, ⟨Nat.le_of_ble_eq_true rfl, (Int.add_zero _).symm⟩, ⟨Nat.le_of_ble_eq_true rfl, (Int.add_zero _).symm⟩, ⟨Nat.le_of_ble_eq_true rfl, (Int.add_zero _).symm⟩, ⟨Nat.le_of_ble_eq_true rfl, (Int.add_zero _).symm⟩, ⟨Nat.le_of_ble_eq_true rfl, (Int.add_zero _).symm⟩, trivial⟩
  · exact dx_aL.all (l := (in_285).pre.fl) ⟨⟨Nat.le_of_ble_eq_true rfl, hI.2.2.1⟩, ⟨Nat.le_of_ble_eq_true rfl, hI.2.2.2.1⟩, ⟨Nat.le_of_ble_eq_true rfl, hI.2.2.2.2.1⟩, ⟨Nat.le_of_ble_eq_true rfl, hI.2.2.2.2.2⟩, trivial⟩
  · intro r μ' ν' P hP g'
    rcases List.mem_cons.mp hP with rfl | hP
    · obtain ⟨w, rfl, hw⟩ := r_int g'.gl
      have n0 : ν' 0 = 0 := g'.ag 0 (Nat.le_of_ble_eq_true rfl)
      have n1 : ν' 1 = a1.toInt := g'.ag 1 (Nat.le_of_ble_eq_true rfl)
      have n2 : ν' 2 = a2.toInt := g'.ag 2 (Nat.le_of_ble_eq_true rfl)
      have n3 : ν' 3 = a3.toInt := g'.ag 3 (Nat.le_of_ble_eq_true rfl)
      have n4 : ν' 4 = (μ.2.2.1 406 0).toInt := g'.ag 4 (Nat.le_of_ble_eq_true rfl)
      have n5 : ν' 5 = (μ.2.2.1 406 1).toInt := g'.ag 5 (Nat.le_of_ble_eq_true rfl)
      have n6 : ν' 6 = (μ.2.2.1 406 2).toInt := g'.ag 6 (Nat.le_of_ble_eq_true rfl)
      have n7 : ν' 7 = (μ.2.2.1 406 3).toInt := g'.ag 7 (Nat.le_of_ble_eq_true rfl)
      have n8 : ν' 8 = (μ.2.2.1 404 38).toInt := g'.ag 8 (Nat.le_of_ble_eq_true rfl)
      have n9 : ν' 9 = (μ.2.2.1 404 2).toInt := g'.ag 9 (Nat.le_of_ble_eq_true rfl)
      have sz0 : (μ'.2.2.1 404 2).toInt = ν' 9 + 0 := (g'.fa _ (List.Mem.tail _ (List.Mem.head _))).2
      have sz1 : (μ'.2.2.1 433 0).toInt = (μ.2.2.1 433 0).toInt := by rw [(g'.fr 433 nc_X12_begins_433).1]
      have sz2 : (μ'.2.2.1 433 1).toInt = (μ.2.2.1 433 1).toInt := by rw [(g'.fr 433 nc_X12_begins_433).1]
      have sz3 : (μ'.2.2.1 1 1).toInt = (μ.2.2.1 1 1).toInt := by rw [(g'.fr 1 nc_X12_begins_1).1]
      have sz4 : (μ'.2.2.1 210 0).toInt = (μ.2.2.1 210 0).toInt := by rw [(g'.fr 210 nc_X12_begins_210).1]
      have sz5 : (μ'.2.2.1 307 0).toInt = (μ.2.2.1 307 0).toInt := by rw [(g'.fr 307 nc_X12_begins_307).1]
      have hw' : w.toInt = ν' 0 + (-1) := hw
      exact hK _ w μ' ⟨⟨g'.sh, g'.hi, (g'.fl _ (List.Mem.head _)).2, (g'.fl _ (List.Mem.tail _ (List.Mem.head _))).2, (g'.fl _ (List.Mem.tail _ (List.Mem.tail _ (List.Mem.head _)))).2, (g'.fl _ (List.Mem.tail _ (List.Mem.tail _ (List.Mem.tail _ (List.Mem.head _))))).2⟩, rfl, by omega, ⟨sz3, sz4, sz5⟩, g'.fr⟩
    rcases List.mem_cons.mp hP with rfl | hP
    · obtain ⟨w, rfl, hw⟩ := r_int g'.gl
      have n0 : ν' 0 = 0 := g'.ag 0 (Nat.le_of_ble_eq_true rfl)
      have n1 : ν' 1 = a1.toInt := g'.ag 1 (Nat.le_of_ble_eq_true rfl)
      have n2 : ν' 2 = a2.toInt := g'.ag 2 (Nat.le_of_ble_eq_true rfl)
      have n3 : ν' 3 = a3.toInt := g'.ag 3 (Nat.le_of_ble_eq_true rfl)
      have n4 : ν' 4 = (μ.2.2.1 406 0).toInt := g'.ag 4 (Nat.le_of_ble_eq_true rfl)
      have n5 : ν' 5 = (μ.2.2.1 406 1).toInt := g'.ag 5 (Nat.le_of_ble_eq_true rfl)
      have n6 : ν' 6 = (μ.2.2.1 406 2).toInt := g'.ag 6 (Nat.le_of_ble_eq_true rfl)
      have n7 : ν' 7 = (μ.2.2.1 406 3).toInt := g'.ag 7 (Nat.le_of_ble_eq_true rfl)
      have n8 : ν' 8 = (μ.2.2.1 404 38).toInt := g'.ag 8 (Nat.le_of_ble_eq_true rfl)
      have n9 : ν' 9 = (μ.2.2.1 404 2).toInt := g'.ag 9 (Nat.le_of_ble_eq_true rfl)
      have sz0 : (μ'.2.2.1 404 2).toInt = ν' 9 + 0 := (g'.fa _ (List.Mem.tail _ (List.Mem.head _))).2
      have sz1 : (μ'.2.2.1 433 0).toInt = (μ.2.2.1 433 0).toInt := by rw [(g'.fr 433 nc_X12_begins_433).1]
      have sz2 : (μ'.2.2.1 433 1).toInt = (μ.2.2.1 433 1).toInt := by rw [(g'.fr 433 nc_X12_begins_433).1]
      have sz3 : (μ'.2.2.1 1 1).toInt = (μ.2.2.1 1 1).toInt := by rw [(g'.fr 1 nc_X12_begins_1).1]
      have sz4 : (μ'.2.2.1 210 0).toInt = (μ.2.2.1 210 0).toInt := by rw [(g'.fr 210 nc_X12_begins_210).1]
      have sz5 : (μ'.2.2.1 307 0).toInt = (μ.2.2.1 307 0).toInt := by rw [(g'.fr 307 nc_X12_begins_307).1]
      have hw' : w.toInt = ν' 10 + 0 := hw
      have i1 : (0 : Int) ≤ ν' 1 ∧ ν' 1 ≤ 5 := g'.iv 1 (Nat.le_of_ble_eq_true rfl)
      have i2 : (0 : Int) ≤ ν' 2 ∧ ν' 2 ≤ 11 := g'.iv 2 (Nat.le_of_ble_eq_true rfl)
      have i3 : (0 : Int) ≤ ν' 3 ∧ ν' 3 ≤ 11 := g'.iv 3 (Nat.le_of_ble_eq_true rfl)
      have i4 : (1 : Int) ≤ ν' 4 ∧ ν' 4 ≤ 12 := g'.iv 4 (Nat.le_of_ble_eq_true rfl)
      have i5 : (1 : Int) ≤ ν' 5 ∧ ν' 5 ≤ 12 := g'.iv 5 (Nat.le_of_ble_eq_true rfl)
      have d0 : ν' 2 - ν' 4 ≤ (-1) := (g'.dc _ (List.Mem.head _)).2.2
      have d1 : ν' 3 - ν' 5 ≤ (-1) := (g'.dc _ (List.Mem.tail _ (List.Mem.head _))).2.2
      exact hK _ w μ' ⟨⟨g'.sh, g'.hi, (g'.fl _ (List.Mem.tail _ (List.Mem.tail _ (List.Mem.head _)))).2, (g'.fl _ (List.Mem.tail _ (List.Mem.tail _ (List.Mem.tail _ (List.Mem.head _))))).2, (g'.fl _ (List.Mem.tail _ (List.Mem.tail _ (List.Mem.tail _ (List.Mem.tail _ (List.Mem.head _)))))).2, (g'.fl _ (List.Mem.tail _ (List.Mem.tail _ (List.Mem.tail _ (List.Mem.tail _ (List.Mem.tail _ (List.Mem.head _))))))).2⟩, rfl, by omega, ⟨sz3, sz4, sz5⟩, g'.fr⟩
    exact absurd hP List.not_mem_nil
abbrev ck_X12_bench (a1 a2 : Int32) (μ : dw_S) (r : Option Value) (w : Int32) (μ' : dw_S) : Prop := (INV μ') ∧ (r = some (.int w)) ∧ ((μ'.2.2.1 404 2).toInt = (μ.2.2.1 404 2).toInt ∧ (μ'.2.2.1 433 0).toInt = (μ.2.2.1 433 0).toInt ∧ (μ'.2.2.1 433 1).toInt = (μ.2.2.1 433 1).toInt) ∧ ((μ'.2.2.1 1 1).toInt = (μ.2.2.1 1 1).toInt ∧ (μ'.2.2.1 210 0).toInt = (μ.2.2.1 210 0).toInt ∧ (μ'.2.2.1 307 0).toInt = (μ.2.2.1 307 0).toInt) ∧ (∀ a, a ∉ [404, 411, 412, 413, 414, 415, 416, 417, 418, 419] → μ'.2.2.1 a = μ.2.2.1 a ∧ μ'.2.2.2 a = μ.2.2.2 a)
theorem nc_X12_bench_433 : 433 ∉ ([404, 411, 412, 413, 414, 415, 416, 417, 418, 419] : List Nat) := by decide
theorem nc_X12_bench_1 : 1 ∉ ([404, 411, 412, 413, 414, 415, 416, 417, 418, 419] : List Nat) := by decide
theorem nc_X12_bench_210 : 210 ∉ ([404, 411, 412, 413, 414, 415, 416, 417, 418, 419] : List Nat) := by decide
theorem nc_X12_bench_307 : 307 ∉ ([404, 411, 412, 413, 414, 415, 416, 417, 418, 419] : List Nat) := by decide
theorem cl_X12_bench {μ : dw_S} {K : dw_K} {a1 a2 : Int32} (hI : INV μ) (hK : ∀ (r : Option Value) (w : Int32) (μ' : dw_S), ck_X12_bench a1 a2 μ r w μ' → K r μ') : t_X12_bench [.ref 404, .int a1, .int a2] μ K := by
  have h_406_0 := hI.2.1 406 0
  rw [sgc_3] at h_406_0
  have h_406_1 := hI.2.1 406 1
  rw [sgc_4] at h_406_1
  have h_406_2 := hI.2.1 406 2
  rw [sgc_5] at h_406_2
  have h_406_3 := hI.2.1 406 3
  rw [sgc_6] at h_406_3
  have h_404_38 := hI.2.1 404 38
  rw [sgc_7] at h_404_38
  have h_404_2 := hI.2.1 404 2
  rw [sgc_8] at h_404_2
  refine al_364 288 (by decide) (fun s => [(0 : Int), (a1.toInt : Int), (a2.toInt : Int), ((μ.2.2.1 406 0).toInt : Int), ((μ.2.2.1 406 1).toInt : Int), ((μ.2.2.1 406 2).toInt : Int), ((μ.2.2.1 406 3).toInt : Int), ((μ.2.2.1 404 38).toInt : Int), ((μ.2.2.1 404 2).toInt : Int)].getD s (0 : Int)) [.ref 404, .int a1, .int a2] μ K ⟨hI.1, hI.2.1, fun _ _ => ⟨rfl, rfl⟩, rfl, Nat.le_refl _, Nat.le_of_ble_eq_true rfl, fun _ _ => rfl, ?_, fun q hq => absurd hq List.not_mem_nil, ?_, trivial, ?_, ?_⟩ ?_
  · exact iv2_ok (iv := (in_288).pre.iv) (vs := [(0 : Int), (a1.toInt : Int), (a2.toInt : Int), ((μ.2.2.1 406 0).toInt : Int), ((μ.2.2.1 406 1).toInt : Int), ((μ.2.2.1 406 2).toInt : Int), ((μ.2.2.1 406 3).toInt : Int), ((μ.2.2.1 404 38).toInt : Int), ((μ.2.2.1 404 2).toInt : Int)]) ⟨⟨Int.le_refl 0, Int.le_refl 0⟩, ⟨dx_b1 _, dx_b2 _⟩, ⟨dx_b1 _, dx_b2 _⟩, h_406_0, h_406_1, h_406_2, h_406_3, h_404_38, h_404_2, trivial⟩
  · exact ⟨⟨404, List.Mem.head _, rfl⟩, ⟨Nat.le_of_ble_eq_true rfl, a1, rfl, (Int.add_zero _).symm⟩, ⟨Nat.le_of_ble_eq_true rfl, a2, rfl, (Int.add_zero _).symm⟩, trivial⟩
  · exact dx_aL.all (l := (in_288).pre.fa) ⟨⟨Nat.le_of_ble_eq_true rfl, (Int.add_zero _).symm⟩, ⟨Nat.le_of_ble_eq_true rfl, (Int.add_zero _).symm⟩, ⟨Nat.le_of_ble_eq_true rfl, (Int.add_zero _).symm⟩, ⟨Nat.le_of_ble_eq_true rfl, (Int.add_zero _).symm⟩, ⟨Nat.le_of_ble_eq_true rfl, (Int.add_zero _).symm⟩, ⟨Nat.le_of_ble_eq_true rfl, (Int.add_zero _).symm⟩, trivial⟩
  · exact dx_aL.all (l := (in_288).pre.fl) ⟨⟨Nat.le_of_ble_eq_true rfl, hI.2.2.1⟩, ⟨Nat.le_of_ble_eq_true rfl, hI.2.2.2.1⟩, ⟨Nat.le_of_ble_eq_true rfl, hI.2.2.2.2.1⟩, ⟨Nat.le_of_ble_eq_true rfl, hI.2.2.2.2.2⟩, trivial⟩
  · intro r μ' ν' P hP g'
    rcases List.mem_cons.mp hP with rfl | hP
    · obtain ⟨w, rfl, hw⟩ := r_int g'.gl
      have n0 : ν' 0 = 0 := g'.ag 0 (Nat.le_of_ble_eq_true rfl)
      have n1 : ν' 1 = a1.toInt := g'.ag 1 (Nat.le_of_ble_eq_true rfl)
      have n2 : ν' 2 = a2.toInt := g'.ag 2 (Nat.le_of_ble_eq_true rfl)
      have n3 : ν' 3 = (μ.2.2.1 406 0).toInt := g'.ag 3 (Nat.le_of_ble_eq_true rfl)
      have n4 : ν' 4 = (μ.2.2.1 406 1).toInt := g'.ag 4 (Nat.le_of_ble_eq_true rfl)
      have n5 : ν' 5 = (μ.2.2.1 406 2).toInt := g'.ag 5 (Nat.le_of_ble_eq_true rfl)
      have n6 : ν' 6 = (μ.2.2.1 406 3).toInt := g'.ag 6 (Nat.le_of_ble_eq_true rfl)
      have n7 : ν' 7 = (μ.2.2.1 404 38).toInt := g'.ag 7 (Nat.le_of_ble_eq_true rfl)
      have n8 : ν' 8 = (μ.2.2.1 404 2).toInt := g'.ag 8 (Nat.le_of_ble_eq_true rfl)
      have sz0 : (μ'.2.2.1 404 2).toInt = ν' 8 + 0 := (g'.fa _ (List.Mem.tail _ (List.Mem.head _))).2
      have sz1 : (μ'.2.2.1 433 0).toInt = (μ.2.2.1 433 0).toInt := by rw [(g'.fr 433 nc_X12_bench_433).1]
      have sz2 : (μ'.2.2.1 433 1).toInt = (μ.2.2.1 433 1).toInt := by rw [(g'.fr 433 nc_X12_bench_433).1]
      have sz3 : (μ'.2.2.1 1 1).toInt = (μ.2.2.1 1 1).toInt := by rw [(g'.fr 1 nc_X12_bench_1).1]
      have sz4 : (μ'.2.2.1 210 0).toInt = (μ.2.2.1 210 0).toInt := by rw [(g'.fr 210 nc_X12_bench_210).1]
      have sz5 : (μ'.2.2.1 307 0).toInt = (μ.2.2.1 307 0).toInt := by rw [(g'.fr 307 nc_X12_bench_307).1]
      have hw' : w.toInt = ν' 0 + (-1) := hw
      exact hK _ w μ' ⟨⟨g'.sh, g'.hi, (g'.fl _ (List.Mem.head _)).2, (g'.fl _ (List.Mem.tail _ (List.Mem.head _))).2, (g'.fl _ (List.Mem.tail _ (List.Mem.tail _ (List.Mem.head _)))).2, (g'.fl _ (List.Mem.tail _ (List.Mem.tail _ (List.Mem.tail _ (List.Mem.head _))))).2⟩, rfl, by omega, ⟨sz3, sz4, sz5⟩, g'.fr⟩
    rcases List.mem_cons.mp hP with rfl | hP
    · obtain ⟨w, rfl, hw⟩ := r_int g'.gl
      have n0 : ν' 0 = 0 := g'.ag 0 (Nat.le_of_ble_eq_true rfl)
      have n1 : ν' 1 = a1.toInt := g'.ag 1 (Nat.le_of_ble_eq_true rfl)
      have n2 : ν' 2 = a2.toInt := g'.ag 2 (Nat.le_of_ble_eq_true rfl)
      have n3 : ν' 3 = (μ.2.2.1 406 0).toInt := g'.ag 3 (Nat.le_of_ble_eq_true rfl)
      have n4 : ν' 4 = (μ.2.2.1 406 1).toInt := g'.ag 4 (Nat.le_of_ble_eq_true rfl)
      have n5 : ν' 5 = (μ.2.2.1 406 2).toInt := g'.ag 5 (Nat.le_of_ble_eq_true rfl)
      have n6 : ν' 6 = (μ.2.2.1 406 3).toInt := g'.ag 6 (Nat.le_of_ble_eq_true rfl)
      have n7 : ν' 7 = (μ.2.2.1 404 38).toInt := g'.ag 7 (Nat.le_of_ble_eq_true rfl)
      have n8 : ν' 8 = (μ.2.2.1 404 2).toInt := g'.ag 8 (Nat.le_of_ble_eq_true rfl)
      have sz0 : (μ'.2.2.1 404 2).toInt = ν' 8 + 0 := (g'.fa _ (List.Mem.tail _ (List.Mem.head _))).2
      have sz1 : (μ'.2.2.1 433 0).toInt = (μ.2.2.1 433 0).toInt := by rw [(g'.fr 433 nc_X12_bench_433).1]
      have sz2 : (μ'.2.2.1 433 1).toInt = (μ.2.2.1 433 1).toInt := by rw [(g'.fr 433 nc_X12_bench_433).1]
      have sz3 : (μ'.2.2.1 1 1).toInt = (μ.2.2.1 1 1).toInt := by rw [(g'.fr 1 nc_X12_bench_1).1]
      have sz4 : (μ'.2.2.1 210 0).toInt = (μ.2.2.1 210 0).toInt := by rw [(g'.fr 210 nc_X12_bench_210).1]
      have sz5 : (μ'.2.2.1 307 0).toInt = (μ.2.2.1 307 0).toInt := by rw [(g'.fr 307 nc_X12_bench_307).1]
      have hw' : w.toInt = ν' 9 + 0 := hw
      have i1 : (0 : Int) ≤ ν' 1 ∧ ν' 1 ≤ 5 := g'.iv 1 (Nat.le_of_ble_eq_true rfl)
      have i2 : (0 : Int) ≤ ν' 2 ∧ ν' 2 ≤ 100 := g'.iv 2 (Nat.le_of_ble_eq_true rfl)
      have i3 : (1 : Int) ≤ ν' 3 ∧ ν' 3 ≤ 12 := g'.iv 3 (Nat.le_of_ble_eq_true rfl)
      exact hK _ w μ' ⟨⟨g'.sh, g'.hi, (g'.fl _ (List.Mem.tail _ (List.Mem.tail _ (List.Mem.head _)))).2, (g'.fl _ (List.Mem.tail _ (List.Mem.tail _ (List.Mem.tail _ (List.Mem.head _))))).2, (g'.fl _ (List.Mem.tail _ (List.Mem.tail _ (List.Mem.tail _ (List.Mem.tail _ (List.Mem.head _)))))).2, (g'.fl _ (List.Mem.tail _ (List.Mem.tail _ (List.Mem.tail _ (List.Mem.tail _ (List.Mem.tail _ (List.Mem.head _))))))).2⟩, rfl, by omega, ⟨sz3, sz4, sz5⟩, g'.fr⟩
    exact absurd hP List.not_mem_nil
abbrev ck_X12_came (a1 a2 a3 a4 : Int32) (μ : dw_S) (r : Option Value) (w : Int32) (μ' : dw_S) : Prop := (INV μ') ∧ (r = some (.int w)) ∧ ((μ'.2.2.1 404 2).toInt = (μ.2.2.1 404 2).toInt ∧ (μ'.2.2.1 433 0).toInt = (μ.2.2.1 433 0).toInt ∧ (μ'.2.2.1 433 1).toInt = (μ.2.2.1 433 1).toInt) ∧ ((μ'.2.2.1 1 1).toInt = (μ.2.2.1 1 1).toInt ∧ (μ'.2.2.1 210 0).toInt = (μ.2.2.1 210 0).toInt ∧ (μ'.2.2.1 307 0).toInt = (μ.2.2.1 307 0).toInt) ∧ (∀ a, a ∉ [404, 411, 412, 413, 414, 415, 416, 417, 418, 419, 427] → μ'.2.2.1 a = μ.2.2.1 a ∧ μ'.2.2.2 a = μ.2.2.2 a)
theorem nc_X12_came_433 : 433 ∉ ([404, 411, 412, 413, 414, 415, 416, 417, 418, 419, 427] : List Nat) := by decide
theorem nc_X12_came_1 : 1 ∉ ([404, 411, 412, 413, 414, 415, 416, 417, 418, 419, 427] : List Nat) := by decide
theorem nc_X12_came_210 : 210 ∉ ([404, 411, 412, 413, 414, 415, 416, 417, 418, 419, 427] : List Nat) := by decide
theorem nc_X12_came_307 : 307 ∉ ([404, 411, 412, 413, 414, 415, 416, 417, 418, 419, 427] : List Nat) := by decide
theorem cl_X12_came {μ : dw_S} {K : dw_K} {a1 a2 a3 a4 : Int32} (hI : INV μ) (hK : ∀ (r : Option Value) (w : Int32) (μ' : dw_S), ck_X12_came a1 a2 a3 a4 μ r w μ' → K r μ') : t_X12_came [.ref 404, .int a1, .int a2, .int a3, .int a4] μ K := by
  have h_406_0 := hI.2.1 406 0
  rw [sgc_3] at h_406_0
  have h_406_1 := hI.2.1 406 1
  rw [sgc_4] at h_406_1
  have h_406_2 := hI.2.1 406 2
  rw [sgc_5] at h_406_2
  have h_406_3 := hI.2.1 406 3
  rw [sgc_6] at h_406_3
  have h_404_38 := hI.2.1 404 38
  rw [sgc_7] at h_404_38
  have h_404_2 := hI.2.1 404 2
  rw [sgc_8] at h_404_2
  refine al_364 289 (by decide) (fun s => [(0 : Int), (a1.toInt : Int), (a2.toInt : Int), (a3.toInt : Int), (a4.toInt : Int), ((μ.2.2.1 406 0).toInt : Int), ((μ.2.2.1 406 1).toInt : Int), ((μ.2.2.1 406 2).toInt : Int), ((μ.2.2.1 406 3).toInt : Int), ((μ.2.2.1 404 38).toInt : Int), ((μ.2.2.1 404 2).toInt : Int)].getD s (0 : Int)) [.ref 404, .int a1, .int a2, .int a3, .int a4] μ K ⟨hI.1, hI.2.1, fun _ _ => ⟨rfl, rfl⟩, rfl, Nat.le_refl _, Nat.le_of_ble_eq_true rfl, fun _ _ => rfl, ?_, fun q hq => absurd hq List.not_mem_nil, ?_, trivial, ?_, ?_⟩ ?_
  · exact iv2_ok (iv := (in_289).pre.iv) (vs := [(0 : Int), (a1.toInt : Int), (a2.toInt : Int), (a3.toInt : Int), (a4.toInt : Int), ((μ.2.2.1 406 0).toInt : Int), ((μ.2.2.1 406 1).toInt : Int), ((μ.2.2.1 406 2).toInt : Int), ((μ.2.2.1 406 3).toInt : Int), ((μ.2.2.1 404 38).toInt : Int), ((μ.2.2.1 404 2).toInt : Int)]) ⟨⟨Int.le_refl 0, Int.le_refl 0⟩, ⟨dx_b1 _, dx_b2 _⟩, ⟨dx_b1 _, dx_b2 _⟩, ⟨dx_b1 _, dx_b2 _⟩, ⟨dx_b1 _, dx_b2 _⟩, h_406_0, h_406_1, h_406_2, h_406_3, h_404_38, h_404_2, trivial⟩
  · exact ⟨⟨404, List.Mem.head _, rfl⟩, ⟨Nat.le_of_ble_eq_true rfl, a1, rfl, (Int.add_zero _).symm⟩, ⟨Nat.le_of_ble_eq_true rfl, a2, rfl, (Int.add_zero _).symm⟩, ⟨Nat.le_of_ble_eq_true rfl, a3, rfl, (Int.add_zero _).symm⟩, ⟨Nat.le_of_ble_eq_true rfl, a4, rfl, (Int.add_zero _).symm⟩, trivial⟩
  · exact dx_aL.all (l := (in_289).pre.fa) ⟨⟨Nat.le_of_ble_eq_true rfl, (Int.add_zero _).symm⟩, ⟨Nat.le_of_ble_eq_true rfl, (Int.add_zero _).symm⟩, ⟨Nat.le_of_ble_eq_true rfl, (Int.add_zero _).symm⟩, ⟨Nat.le_of_ble_eq_true rfl, (Int.add_zero _).symm⟩, ⟨Nat.le_of_ble_eq_true rfl, (Int.add_zero _).symm⟩, ⟨Nat.le_of_ble_eq_true rfl, (Int.add_zero _).symm⟩, trivial⟩
  · exact dx_aL.all (l := (in_289).pre.fl) ⟨⟨Nat.le_of_ble_eq_true rfl, hI.2.2.1⟩, ⟨Nat.le_of_ble_eq_true rfl, hI.2.2.2.1⟩, ⟨Nat.le_of_ble_eq_true rfl, hI.2.2.2.2.1⟩, ⟨Nat.le_of_ble_eq_true rfl, hI.2.2.2.2.2⟩, trivial⟩
  · intro r μ' ν' P hP g'
    rcases List.mem_cons.mp hP with rfl | hP
    · obtain ⟨w, rfl, hw⟩ := r_int g'.gl
      have n0 : ν' 0 = 0 := g'.ag 0 (Nat.le_of_ble_eq_true rfl)
      have n1 : ν' 1 = a1.toInt := g'.ag 1 (Nat.le_of_ble_eq_true rfl)
      have n2 : ν' 2 = a2.toInt := g'.ag 2 (Nat.le_of_ble_eq_true rfl)
      have n3 : ν' 3 = a3.toInt := g'.ag 3 (Nat.le_of_ble_eq_true rfl)
      have n4 : ν' 4 = a4.toInt := g'.ag 4 (Nat.le_of_ble_eq_true rfl)
      have n5 : ν' 5 = (μ.2.2.1 406 0).toInt := g'.ag 5 (Nat.le_of_ble_eq_true rfl)
      have n6 : ν' 6 = (μ.2.2.1 406 1).toInt := g'.ag 6 (Nat.le_of_ble_eq_true rfl)
      have n7 : ν' 7 = (μ.2.2.1 406 2).toInt := g'.ag 7 (Nat.le_of_ble_eq_true rfl)
      have n8 : ν' 8 = (μ.2.2.1 406 3).toInt := g'.ag 8 (Nat.le_of_ble_eq_true rfl)
      have n9 : ν' 9 = (μ.2.2.1 404 38).toInt := g'.ag 9 (Nat.le_of_ble_eq_true rfl)
      have n10 : ν' 10 = (μ.2.2.1 404 2).toInt := g'.ag 10 (Nat.le_of_ble_eq_true rfl)
      have sz0 : (μ'.2.2.1 404 2).toInt = ν' 10 + 0 := (g'.fa _ (List.Mem.tail _ (List.Mem.head _))).2
      have sz1 : (μ'.2.2.1 433 0).toInt = (μ.2.2.1 433 0).toInt := by rw [(g'.fr 433 nc_X12_came_433).1]
      have sz2 : (μ'.2.2.1 433 1).toInt = (μ.2.2.1 433 1).toInt := by rw [(g'.fr 433 nc_X12_came_433).1]
      have sz3 : (μ'.2.2.1 1 1).toInt = (μ.2.2.1 1 1).toInt := by rw [(g'.fr 1 nc_X12_came_1).1]
      have sz4 : (μ'.2.2.1 210 0).toInt = (μ.2.2.1 210 0).toInt := by rw [(g'.fr 210 nc_X12_came_210).1]
      have sz5 : (μ'.2.2.1 307 0).toInt = (μ.2.2.1 307 0).toInt := by rw [(g'.fr 307 nc_X12_came_307).1]
      have hw' : w.toInt = ν' 0 + (-1) := hw
      exact hK _ w μ' ⟨⟨g'.sh, g'.hi, (g'.fl _ (List.Mem.head _)).2, (g'.fl _ (List.Mem.tail _ (List.Mem.head _))).2, (g'.fl _ (List.Mem.tail _ (List.Mem.tail _ (List.Mem.head _)))).2, (g'.fl _ (List.Mem.tail _ (List.Mem.tail _ (List.Mem.tail _ (List.Mem.head _))))).2⟩, rfl, by omega, ⟨sz3, sz4, sz5⟩, g'.fr⟩
    rcases List.mem_cons.mp hP with rfl | hP
    · obtain ⟨w, rfl, hw⟩ := r_int g'.gl
      have n0 : ν' 0 = 0 := g'.ag 0 (Nat.le_of_ble_eq_true rfl)
      have n1 : ν' 1 = a1.toInt := g'.ag 1 (Nat.le_of_ble_eq_true rfl)
      have n2 : ν' 2 = a2.toInt := g'.ag 2 (Nat.le_of_ble_eq_true rfl)
      have n3 : ν' 3 = a3.toInt := g'.ag 3 (Nat.le_of_ble_eq_true rfl)
      have n4 : ν' 4 = a4.toInt := g'.ag 4 (Nat.le_of_ble_eq_true rfl)
      have n5 : ν' 5 = (μ.2.2.1 406 0).toInt := g'.ag 5 (Nat.le_of_ble_eq_true rfl)
      have n6 : ν' 6 = (μ.2.2.1 406 1).toInt := g'.ag 6 (Nat.le_of_ble_eq_true rfl)
      have n7 : ν' 7 = (μ.2.2.1 406 2).toInt := g'.ag 7 (Nat.le_of_ble_eq_true rfl)
      have n8 : ν' 8 = (μ.2.2.1 406 3).toInt := g'.ag 8 (Nat.le_of_ble_eq_true rfl)
      have n9 : ν' 9 = (μ.2.2.1 404 38).toInt := g'.ag 9 (Nat.le_of_ble_eq_true rfl)
      have n10 : ν' 10 = (μ.2.2.1 404 2).toInt := g'.ag 10 (Nat.le_of_ble_eq_true rfl)
      have sz0 : (μ'.2.2.1 404 2).toInt = ν' 10 + 0 := (g'.fa _ (List.Mem.tail _ (List.Mem.head _))).2
      have sz1 : (μ'.2.2.1 433 0).toInt = (μ.2.2.1 433 0).toInt := by rw [(g'.fr 433 nc_X12_came_433).1]
      have sz2 : (μ'.2.2.1 433 1).toInt = (μ.2.2.1 433 1).toInt := by rw [(g'.fr 433 nc_X12_came_433).1]
      have sz3 : (μ'.2.2.1 1 1).toInt = (μ.2.2.1 1 1).toInt := by rw [(g'.fr 1 nc_X12_came_1).1]
      have sz4 : (μ'.2.2.1 210 0).toInt = (μ.2.2.1 210 0).toInt := by rw [(g'.fr 210 nc_X12_came_210).1]
      have sz5 : (μ'.2.2.1 307 0).toInt = (μ.2.2.1 307 0).toInt := by rw [(g'.fr 307 nc_X12_came_307).1]
      have hw' : w.toInt = ν' 11 + 0 := hw
      have i1 : (0 : Int) ≤ ν' 1 ∧ ν' 1 ≤ 5 := g'.iv 1 (Nat.le_of_ble_eq_true rfl)
      have i2 : (0 : Int) ≤ ν' 2 ∧ ν' 2 ≤ 11 := g'.iv 2 (Nat.le_of_ble_eq_true rfl)
      have i3 : (0 : Int) ≤ ν' 3 ∧ ν' 3 ≤ 11 := g'.iv 3 (Nat.le_of_ble_eq_true rfl)
      have i5 : (1 : Int) ≤ ν' 5 ∧ ν' 5 ≤ 12 := g'.iv 5 (Nat.le_of_ble_eq_true rfl)
      have i6 : (1 : Int) ≤ ν' 6 ∧ ν' 6 ≤ 12 := g'.iv 6 (Nat.le_of_ble_eq_true rfl)
      have d0 : ν' 2 - ν' 5 ≤ (-1) := (g'.dc _ (List.Mem.head _)).2.2
      have d1 : ν' 3 - ν' 6 ≤ (-1) := (g'.dc _ (List.Mem.tail _ (List.Mem.head _))).2.2
      exact hK _ w μ' ⟨⟨g'.sh, g'.hi, (g'.fl _ (List.Mem.head _)).2, (g'.fl _ (List.Mem.tail _ (List.Mem.head _))).2, (g'.fl _ (List.Mem.tail _ (List.Mem.tail _ (List.Mem.head _)))).2, (g'.fl _ (List.Mem.tail _ (List.Mem.tail _ (List.Mem.tail _ (List.Mem.head _))))).2⟩, rfl, by omega, ⟨sz3, sz4, sz5⟩, g'.fr⟩
    exact absurd hP List.not_mem_nil
abbrev ck_X12_cameAt (a1 : Int32) (μ : dw_S) (r : Option Value) (w : Int32) (μ' : dw_S) : Prop := (INV μ') ∧ (r = some (.int w)) ∧ ((μ'.2.2.1 404 2).toInt = (μ.2.2.1 404 2).toInt ∧ (μ'.2.2.1 433 0).toInt = (μ.2.2.1 433 0).toInt ∧ (μ'.2.2.1 433 1).toInt = (μ.2.2.1 433 1).toInt) ∧ ((μ'.2.2.1 1 1).toInt = (μ.2.2.1 1 1).toInt ∧ (μ'.2.2.1 210 0).toInt = (μ.2.2.1 210 0).toInt ∧ (μ'.2.2.1 307 0).toInt = (μ.2.2.1 307 0).toInt) ∧ (∀ a, a ∉ [404] → μ'.2.2.1 a = μ.2.2.1 a ∧ μ'.2.2.2 a = μ.2.2.2 a)
theorem kn_X12_cameAt_0 : (fl_s 0).all (fun q => decide (q.1 ∉ ([404] : List Nat))) = true := by decide
theorem kn_X12_cameAt_6 : (fl_s 6).all (fun q => decide (q.1 ∉ ([404] : List Nat))) = true := by decide
theorem kn_X12_cameAt_2 : (fl_s 2).all (fun q => decide (q.1 ∉ ([404] : List Nat))) = true := by decide
theorem kn_X12_cameAt_3 : (fl_s 3).all (fun q => decide (q.1 ∉ ([404] : List Nat))) = true := by decide
theorem nc_X12_cameAt_433 : 433 ∉ ([404] : List Nat) := by decide
theorem nc_X12_cameAt_1 : 1 ∉ ([404] : List Nat) := by decide
theorem nc_X12_cameAt_210 : 210 ∉ ([404] : List Nat) := by decide
theorem nc_X12_cameAt_307 : 307 ∉ ([404] : List Nat) := by decide
theorem cl_X12_cameAt {μ : dw_S} {K : dw_K} {a1 : Int32} (hI : INV μ) (hK : ∀ (r : Option Value) (w : Int32) (μ' : dw_S), ck_X12_cameAt a1 μ r w μ' → K r μ') : t_X12_cameAt [.ref 404, .int a1] μ K := by
  have h_406_0 := hI.2.1 406 0
  rw [sgc_3] at h_406_0
  have h_406_1 := hI.2.1 406 1
  rw [sgc_4] at h_406_1
  have h_406_2 := hI.2.1 406 2
  rw [sgc_5] at h_406_2
  have h_406_3 := hI.2.1 406 3
  rw [sgc_6] at h_406_3
  have h_404_38 := hI.2.1 404 38
  rw [sgc_7] at h_404_38
  have h_404_2 := hI.2.1 404 2
  rw [sgc_8] at h_404_2
  refine al_364 290 (by decide) (fun s => [(0 : Int), (a1.toInt : Int), ((μ.2.2.1 406 0).toInt : Int), ((μ.2.2.1 406 1).toInt : Int), ((μ.2.2.1 406 2).toInt : Int), ((μ.2.2.1 406 3).toInt : Int), ((μ.2.2.1 404 38).toInt : Int), ((μ.2.2.1 404 2).toInt : Int)].getD s (0 : Int)) [.ref 404, .int a1] μ K ⟨hI.1, hI.2.1, fun _ _ => ⟨rfl, rfl⟩, rfl, Nat.le_refl _, Nat.le_of_ble_eq_true rfl, fun _ _ => rfl, ?_, fun q hq => absurd hq List.not_mem_nil, ?_, trivial, ?_, ?_⟩ ?_
  · exact iv2_ok (iv := (in_290).pre.iv) (vs := [(0 : Int), (a1.toInt : Int), ((μ.2.2.1 406 0).toInt : Int), ((μ.2.2.1 406 1).toInt : Int), ((μ.2.2.1 406 2).toInt : Int), ((μ.2.2.1 406 3).toInt : Int), ((μ.2.2.1 404 38).toInt : Int), ((μ.2.2.1 404 2).toInt : Int)]) ⟨⟨Int.le_refl 0, Int.le_refl 0⟩, ⟨dx_b1 _, dx_b2 _⟩, h_406_0, h_406_1, h_406_2, h_406_3, h_404_38, h_404_2, trivial⟩
  · exact ⟨⟨404, List.Mem.head _, rfl⟩, ⟨Nat.le_of_ble_eq_true rfl, a1, rfl, (Int.add_zero _).symm⟩, trivial⟩
  · exact dx_aL.all (l := (in_290).pre.fa) ⟨⟨Nat.le_of_ble_eq_true rfl, (Int.add_zero _).symm⟩, ⟨Nat.le_of_ble_eq_true rfl, (Int.add_zero _).symm⟩, ⟨Nat.le_of_ble_eq_true rfl, (Int.add_zero _).symm⟩, ⟨Nat.le_of_ble_eq_true rfl, (Int.add_zero _).symm⟩, ⟨Nat.le_of_ble_eq_true rfl, (Int.add_zero _).symm⟩, ⟨Nat.le_of_ble_eq_true rfl, (Int.add_zero _).symm⟩, trivial⟩
  · exact dx_aL.all (l := (in_290).pre.fl) trivial
  · intro r μ' ν' P hP g'
    rcases List.mem_cons.mp hP with rfl | hP
    · obtain ⟨w, rfl, hw⟩ := r_int g'.gl
      have n0 : ν' 0 = 0 := g'.ag 0 (Nat.le_of_ble_eq_true rfl)
      have n1 : ν' 1 = a1.toInt := g'.ag 1 (Nat.le_of_ble_eq_true rfl)
      have n2 : ν' 2 = (μ.2.2.1 406 0).toInt := g'.ag 2 (Nat.le_of_ble_eq_true rfl)
      have n3 : ν' 3 = (μ.2.2.1 406 1).toInt := g'.ag 3 (Nat.le_of_ble_eq_true rfl)
      have n4 : ν' 4 = (μ.2.2.1 406 2).toInt := g'.ag 4 (Nat.le_of_ble_eq_true rfl)
      have n5 : ν' 5 = (μ.2.2.1 406 3).toInt := g'.ag 5 (Nat.le_of_ble_eq_true rfl)
      have n6 : ν' 6 = (μ.2.2.1 404 38).toInt := g'.ag 6 (Nat.le_of_ble_eq_true rfl)
      have n7 : ν' 7 = (μ.2.2.1 404 2).toInt := g'.ag 7 (Nat.le_of_ble_eq_true rfl)
      have sz0 : (μ'.2.2.1 404 2).toInt = ν' 7 + 0 := (g'.fa _ (List.Mem.tail _ (List.Mem.head _))).2
      have sz1 : (μ'.2.2.1 433 0).toInt = (μ.2.2.1 433 0).toInt := by rw [(g'.fr 433 nc_X12_cameAt_433).1]
      have sz2 : (μ'.2.2.1 433 1).toInt = (μ.2.2.1 433 1).toInt := by rw [(g'.fr 433 nc_X12_cameAt_433).1]
      have sz3 : (μ'.2.2.1 1 1).toInt = (μ.2.2.1 1 1).toInt := by rw [(g'.fr 1 nc_X12_cameAt_1).1]
      have sz4 : (μ'.2.2.1 210 0).toInt = (μ.2.2.1 210 0).toInt := by rw [(g'.fr 210 nc_X12_cameAt_210).1]
      have sz5 : (μ'.2.2.1 307 0).toInt = (μ.2.2.1 307 0).toInt := by rw [(g'.fr 307 nc_X12_cameAt_307).1]
      have hw' : w.toInt = ν' 0 + (-1) := hw
      exact hK _ w μ' ⟨⟨g'.sh, g'.hi, keepf (md := [404]) kn_X12_cameAt_0 g'.fr hI.2.2.1, keepf (md := [404]) kn_X12_cameAt_6 g'.fr hI.2.2.2.1, keepf (md := [404]) kn_X12_cameAt_2 g'.fr hI.2.2.2.2.1, keepf (md := [404]) kn_X12_cameAt_3 g'.fr hI.2.2.2.2.2⟩, rfl, by omega, ⟨sz3, sz4, sz5⟩, g'.fr⟩
    rcases List.mem_cons.mp hP with rfl | hP
    · obtain ⟨w, rfl, hw⟩ := r_int g'.gl
      have n0 : ν' 0 = 0 := g'.ag 0 (Nat.le_of_ble_eq_true rfl)
      have n1 : ν' 1 = a1.toInt := g'.ag 1 (Nat.le_of_ble_eq_true rfl)
      have n2 : ν' 2 = (μ.2.2.1 406 0).toInt := g'.ag 2 (Nat.le_of_ble_eq_true rfl)
      have n3 : ν' 3 = (μ.2.2.1 406 1).toInt := g'.ag 3 (Nat.le_of_ble_eq_true rfl)
      have n4 : ν' 4 = (μ.2.2.1 406 2).toInt := g'.ag 4 (Nat.le_of_ble_eq_true rfl)
      have n5 : ν' 5 = (μ.2.2.1 406 3).toInt := g'.ag 5 (Nat.le_of_ble_eq_true rfl)
      have n6 : ν' 6 = (μ.2.2.1 404 38).toInt := g'.ag 6 (Nat.le_of_ble_eq_true rfl)
      have n7 : ν' 7 = (μ.2.2.1 404 2).toInt := g'.ag 7 (Nat.le_of_ble_eq_true rfl)
      have sz0 : (μ'.2.2.1 404 2).toInt = ν' 7 + 0 := (g'.fa _ (List.Mem.tail _ (List.Mem.head _))).2
      have sz1 : (μ'.2.2.1 433 0).toInt = (μ.2.2.1 433 0).toInt := by rw [(g'.fr 433 nc_X12_cameAt_433).1]
      have sz2 : (μ'.2.2.1 433 1).toInt = (μ.2.2.1 433 1).toInt := by rw [(g'.fr 433 nc_X12_cameAt_433).1]
      have sz3 : (μ'.2.2.1 1 1).toInt = (μ.2.2.1 1 1).toInt := by rw [(g'.fr 1 nc_X12_cameAt_1).1]
      have sz4 : (μ'.2.2.1 210 0).toInt = (μ.2.2.1 210 0).toInt := by rw [(g'.fr 210 nc_X12_cameAt_210).1]
      have sz5 : (μ'.2.2.1 307 0).toInt = (μ.2.2.1 307 0).toInt := by rw [(g'.fr 307 nc_X12_cameAt_307).1]
      have hw' : w.toInt = ν' 8 + 0 := hw
      have i1 : (0 : Int) ≤ ν' 1 ∧ ν' 1 ≤ 1 := g'.iv 1 (Nat.le_of_ble_eq_true rfl)
      exact hK _ w μ' ⟨⟨g'.sh, g'.hi, keepf (md := [404]) kn_X12_cameAt_0 g'.fr hI.2.2.1, keepf (md := [404]) kn_X12_cameAt_6 g'.fr hI.2.2.2.1, keepf (md := [404]) kn_X12_cameAt_2 g'.fr hI.2.2.2.2.1, keepf (md := [404]) kn_X12_cameAt_3 g'.fr hI.2.2.2.2.2⟩, rfl, by omega, ⟨sz3, sz4, sz5⟩, g'.fr⟩
    exact absurd hP List.not_mem_nil
abbrev ck_X12_catcher (a1 a2 a3 : Int32) (μ : dw_S) (r : Option Value) (w : Int32) (μ' : dw_S) : Prop := (INV μ') ∧ (r = some (.int w)) ∧ ((μ'.2.2.1 404 2).toInt = (μ.2.2.1 404 2).toInt ∧ (μ'.2.2.1 433 0).toInt = (μ.2.2.1 433 0).toInt ∧ (μ'.2.2.1 433 1).toInt = (μ.2.2.1 433 1).toInt) ∧ ((μ'.2.2.1 1 1).toInt = (μ.2.2.1 1 1).toInt ∧ (μ'.2.2.1 210 0).toInt = (μ.2.2.1 210 0).toInt ∧ (μ'.2.2.1 307 0).toInt = (μ.2.2.1 307 0).toInt) ∧ (∀ a, a ∉ [404, 411, 412, 413, 414, 415, 416, 417, 418, 419] → μ'.2.2.1 a = μ.2.2.1 a ∧ μ'.2.2.2 a = μ.2.2.2 a)
theorem nc_X12_catcher_433 : 433 ∉ ([404, 411, 412, 413, 414, 415, 416, 417, 418, 419] : List Nat) := by decide
theorem nc_X12_catcher_1 : 1 ∉ ([404, 411, 412, 413, 414, 415, 416, 417, 418, 419] : List Nat) := by decide
theorem nc_X12_catcher_210 : 210 ∉ ([404, 411, 412, 413, 414, 415, 416, 417, 418, 419] : List Nat) := by decide
theorem nc_X12_catcher_307 : 307 ∉ ([404, 411, 412, 413, 414, 415, 416, 417, 418, 419] : List Nat) := by decide
theorem cl_X12_catcher {μ : dw_S} {K : dw_K} {a1 a2 a3 : Int32} (hI : INV μ) (hK : ∀ (r : Option Value) (w : Int32) (μ' : dw_S), ck_X12_catcher a1 a2 a3 μ r w μ' → K r μ') : t_X12_catcher [.ref 404, .int a1, .int a2, .int a3] μ K := by
  have h_406_0 := hI.2.1 406 0
  rw [sgc_3] at h_406_0
  have h_406_1 := hI.2.1 406 1
  rw [sgc_4] at h_406_1
  have h_406_2 := hI.2.1 406 2
  rw [sgc_5] at h_406_2
  have h_406_3 := hI.2.1 406 3
  rw [sgc_6] at h_406_3
  have h_404_38 := hI.2.1 404 38
  rw [sgc_7] at h_404_38
  have h_404_2 := hI.2.1 404 2
  rw [sgc_8] at h_404_2
  refine al_364 291 (by decide) (fun s => [(0 : Int), (a1.toInt : Int), (a2.toInt : Int), (a3.toInt : Int), ((μ.2.2.1 406 0).toInt : Int), ((μ.2.2.1 406 1).toInt : Int), ((μ.2.2.1 406 2).toInt : Int), ((μ.2.2.1 406 3).toInt : Int), ((μ.2.2.1 404 38).toInt : Int), ((μ.2.2.1 404 2).toInt : Int)].getD s (0 : Int)) [.ref 404, .int a1, .int a2, .int a3] μ K ⟨hI.1, hI.2.1, fun _ _ => ⟨rfl, rfl⟩, rfl, Nat.le_refl _, Nat.le_of_ble_eq_true rfl, fun _ _ => rfl, ?_, fun q hq => absurd hq List.not_mem_nil, ?_, trivial, ?_, ?_⟩ ?_
  · exact iv2_ok (iv := (in_291).pre.iv) (vs := [(0 : Int), (a1.toInt : Int), (a2.toInt : Int), (a3.toInt : Int), ((μ.2.2.1 406 0).toInt : Int), ((μ.2.2.1 406 1).toInt : Int), ((μ.2.2.1 406 2).toInt : Int), ((μ.2.2.1 406 3).toInt : Int), ((μ.2.2.1 404 38).toInt : Int), ((μ.2.2.1 404 2).toInt : Int)]) ⟨⟨Int.le_refl 0, Int.le_refl 0⟩, ⟨dx_b1 _, dx_b2 _⟩, ⟨dx_b1 _, dx_b2 _⟩, ⟨dx_b1 _, dx_b2 _⟩, h_406_0, h_406_1, h_406_2, h_406_3, h_404_38, h_404_2, trivial⟩
  · exact ⟨⟨404, List.Mem.head _, rfl⟩, ⟨Nat.le_of_ble_eq_true rfl, a1, rfl, (Int.add_zero _).symm⟩, ⟨Nat.le_of_ble_eq_true rfl, a2, rfl, (Int.add_zero _).symm⟩, ⟨Nat.le_of_ble_eq_true rfl, a3, rfl, (Int.add_zero _).symm⟩, trivial⟩
  · exact dx_aL.all (l := (in_291).pre.fa) ⟨⟨Nat.le_of_ble_eq_true rfl, (Int.add_zero _).symm⟩, ⟨Nat.le_of_ble_eq_true rfl, (Int.add_zero _).symm⟩, ⟨Nat.le_of_ble_eq_true rfl, (Int.add_zero _).symm⟩, ⟨Nat.le_of_ble_eq_true rfl, (Int.add_zero _).symm⟩, ⟨Nat.le_of_ble_eq_true rfl, (Int.add_zero _).symm⟩, ⟨Nat.le_of_ble_eq_true rfl, (Int.add_zero _).symm⟩, trivial⟩
  · exact dx_aL.all (l := (in_291).pre.fl) ⟨⟨Nat.le_of_ble_eq_true rfl, hI.2.2.1⟩, ⟨Nat.le_of_ble_eq_true rfl, hI.2.2.2.1⟩, ⟨Nat.le_of_ble_eq_true rfl, hI.2.2.2.2.1⟩, ⟨Nat.le_of_ble_eq_true rfl, hI.2.2.2.2.2⟩, trivial⟩
  · intro r μ' ν' P hP g'
    rcases List.mem_cons.mp hP with rfl | hP
    · obtain ⟨w, rfl, hw⟩ := r_int g'.gl
      have n0 : ν' 0 = 0 := g'.ag 0 (Nat.le_of_ble_eq_true rfl)
      have n1 : ν' 1 = a1.toInt := g'.ag 1 (Nat.le_of_ble_eq_true rfl)
      have n2 : ν' 2 = a2.toInt := g'.ag 2 (Nat.le_of_ble_eq_true rfl)
      have n3 : ν' 3 = a3.toInt := g'.ag 3 (Nat.le_of_ble_eq_true rfl)
      have n4 : ν' 4 = (μ.2.2.1 406 0).toInt := g'.ag 4 (Nat.le_of_ble_eq_true rfl)
      have n5 : ν' 5 = (μ.2.2.1 406 1).toInt := g'.ag 5 (Nat.le_of_ble_eq_true rfl)
      have n6 : ν' 6 = (μ.2.2.1 406 2).toInt := g'.ag 6 (Nat.le_of_ble_eq_true rfl)
      have n7 : ν' 7 = (μ.2.2.1 406 3).toInt := g'.ag 7 (Nat.le_of_ble_eq_true rfl)
      have n8 : ν' 8 = (μ.2.2.1 404 38).toInt := g'.ag 8 (Nat.le_of_ble_eq_true rfl)
      have n9 : ν' 9 = (μ.2.2.1 404 2).toInt := g'.ag 9 (Nat.le_of_ble_eq_true rfl)
      have sz0 : (μ'.2.2.1 404 2).toInt = ν' 9 + 0 := (g'.fa _ (List.Mem.tail _ (List.Mem.head _))).2
      have sz1 : (μ'.2.2.1 433 0).toInt = (μ.2.2.1 433 0).toInt := by rw [(g'.fr 433 nc_X12_catcher_433).1]
      have sz2 : (μ'.2.2.1 433 1).toInt = (μ.2.2.1 433 1).toInt := by rw [(g'.fr 433 nc_X12_catcher_433).1]
      have sz3 : (μ'.2.2.1 1 1).toInt = (μ.2.2.1 1 1).toInt := by rw [(g'.fr 1 nc_X12_catcher_1).1]
      have sz4 : (μ'.2.2.1 210 0).toInt = (μ.2.2.1 210 0).toInt := by rw [(g'.fr 210 nc_X12_catcher_210).1]
      have sz5 : (μ'.2.2.1 307 0).toInt = (μ.2.2.1 307 0).toInt := by rw [(g'.fr 307 nc_X12_catcher_307).1]
      have hw' : w.toInt = ν' 0 + (-1) := hw
      exact hK _ w μ' ⟨⟨g'.sh, g'.hi, (g'.fl _ (List.Mem.head _)).2, (g'.fl _ (List.Mem.tail _ (List.Mem.head _))).2, (g'.fl _ (List.Mem.tail _ (List.Mem.tail _ (List.Mem.head _)))).2, (g'.fl _ (List.Mem.tail _ (List.Mem.tail _ (List.Mem.tail _ (List.Mem.head _))))).2⟩, rfl, by omega, ⟨sz3, sz4, sz5⟩, g'.fr⟩
    rcases List.mem_cons.mp hP with rfl | hP
    · obtain ⟨w, rfl, hw⟩ := r_int g'.gl
      have n0 : ν' 0 = 0 := g'.ag 0 (Nat.le_of_ble_eq_true rfl)
      have n1 : ν' 1 = a1.toInt := g'.ag 1 (Nat.le_of_ble_eq_true rfl)
      have n2 : ν' 2 = a2.toInt := g'.ag 2 (Nat.le_of_ble_eq_true rfl)
      have n3 : ν' 3 = a3.toInt := g'.ag 3 (Nat.le_of_ble_eq_true rfl)
      have n4 : ν' 4 = (μ.2.2.1 406 0).toInt := g'.ag 4 (Nat.le_of_ble_eq_true rfl)
      have n5 : ν' 5 = (μ.2.2.1 406 1).toInt := g'.ag 5 (Nat.le_of_ble_eq_true rfl)
      have n6 : ν' 6 = (μ.2.2.1 406 2).toInt := g'.ag 6 (Nat.le_of_ble_eq_true rfl)
      have n7 : ν' 7 = (μ.2.2.1 406 3).toInt := g'.ag 7 (Nat.le_of_ble_eq_true rfl)
      have n8 : ν' 8 = (μ.2.2.1 404 38).toInt := g'.ag 8 (Nat.le_of_ble_eq_true rfl)
      have n9 : ν' 9 = (μ.2.2.1 404 2).toInt := g'.ag 9 (Nat.le_of_ble_eq_true rfl)
      have sz0 : (μ'.2.2.1 404 2).toInt = ν' 9 + 0 := (g'.fa _ (List.Mem.tail _ (List.Mem.head _))).2
      have sz1 : (μ'.2.2.1 433 0).toInt = (μ.2.2.1 433 0).toInt := by rw [(g'.fr 433 nc_X12_catcher_433).1]
      have sz2 : (μ'.2.2.1 433 1).toInt = (μ.2.2.1 433 1).toInt := by rw [(g'.fr 433 nc_X12_catcher_433).1]
      have sz3 : (μ'.2.2.1 1 1).toInt = (μ.2.2.1 1 1).toInt := by rw [(g'.fr 1 nc_X12_catcher_1).1]
      have sz4 : (μ'.2.2.1 210 0).toInt = (μ.2.2.1 210 0).toInt := by rw [(g'.fr 210 nc_X12_catcher_210).1]
      have sz5 : (μ'.2.2.1 307 0).toInt = (μ.2.2.1 307 0).toInt := by rw [(g'.fr 307 nc_X12_catcher_307).1]
      have hw' : w.toInt = ν' 10 + 0 := hw
      have i1 : (0 : Int) ≤ ν' 1 ∧ ν' 1 ≤ 5 := g'.iv 1 (Nat.le_of_ble_eq_true rfl)
      have i2 : (0 : Int) ≤ ν' 2 ∧ ν' 2 ≤ 11 := g'.iv 2 (Nat.le_of_ble_eq_true rfl)
      have i3 : (0 : Int) ≤ ν' 3 ∧ ν' 3 ≤ 11 := g'.iv 3 (Nat.le_of_ble_eq_true rfl)
      have i4 : (1 : Int) ≤ ν' 4 ∧ ν' 4 ≤ 12 := g'.iv 4 (Nat.le_of_ble_eq_true rfl)
      have i5 : (1 : Int) ≤ ν' 5 ∧ ν' 5 ≤ 12 := g'.iv 5 (Nat.le_of_ble_eq_true rfl)
      have d0 : ν' 2 - ν' 4 ≤ (-1) := (g'.dc _ (List.Mem.head _)).2.2
      have d1 : ν' 3 - ν' 5 ≤ (-1) := (g'.dc _ (List.Mem.tail _ (List.Mem.head _))).2.2
      exact hK _ w μ' ⟨⟨g'.sh, g'.hi, (g'.fl _ (List.Mem.head _)).2, (g'.fl _ (List.Mem.tail _ (List.Mem.head _))).2, (g'.fl _ (List.Mem.tail _ (List.Mem.tail _ (List.Mem.head _)))).2, (g'.fl _ (List.Mem.tail _ (List.Mem.tail _ (List.Mem.tail _ (List.Mem.head _))))).2⟩, rfl, by omega, ⟨sz3, sz4, sz5⟩, g'.fr⟩
    exact absurd hP List.not_mem_nil
abbrev ck_X12_cell (a1 a2 a3 : Int32) (μ : dw_S) (r : Option Value) (w : Int32) (μ' : dw_S) : Prop := (INV μ') ∧ (r = some (.int w)) ∧ ((μ'.2.2.1 404 2).toInt = (μ.2.2.1 404 2).toInt ∧ (μ'.2.2.1 433 0).toInt = (μ.2.2.1 433 0).toInt ∧ (μ'.2.2.1 433 1).toInt = (μ.2.2.1 433 1).toInt) ∧ ((μ'.2.2.1 1 1).toInt = (μ.2.2.1 1 1).toInt ∧ (μ'.2.2.1 210 0).toInt = (μ.2.2.1 210 0).toInt ∧ (μ'.2.2.1 307 0).toInt = (μ.2.2.1 307 0).toInt) ∧ (∀ a, a ∉ [404] → μ'.2.2.1 a = μ.2.2.1 a ∧ μ'.2.2.2 a = μ.2.2.2 a)
theorem kn_X12_cell_0 : (fl_s 0).all (fun q => decide (q.1 ∉ ([404] : List Nat))) = true := by decide
theorem kn_X12_cell_6 : (fl_s 6).all (fun q => decide (q.1 ∉ ([404] : List Nat))) = true := by decide
theorem kn_X12_cell_2 : (fl_s 2).all (fun q => decide (q.1 ∉ ([404] : List Nat))) = true := by decide
theorem kn_X12_cell_3 : (fl_s 3).all (fun q => decide (q.1 ∉ ([404] : List Nat))) = true := by decide
theorem nc_X12_cell_433 : 433 ∉ ([404] : List Nat) := by decide
theorem nc_X12_cell_1 : 1 ∉ ([404] : List Nat) := by decide
theorem nc_X12_cell_210 : 210 ∉ ([404] : List Nat) := by decide
theorem nc_X12_cell_307 : 307 ∉ ([404] : List Nat) := by decide
theorem cl_X12_cell {μ : dw_S} {K : dw_K} {a1 a2 a3 : Int32} (hI : INV μ) (hK : ∀ (r : Option Value) (w : Int32) (μ' : dw_S), ck_X12_cell a1 a2 a3 μ r w μ' → K r μ') : t_X12_cell [.ref 404, .int a1, .int a2, .int a3] μ K := by
  have h_406_0 := hI.2.1 406 0
  rw [sgc_3] at h_406_0
  have h_406_1 := hI.2.1 406 1
  rw [sgc_4] at h_406_1
  have h_406_2 := hI.2.1 406 2
  rw [sgc_5] at h_406_2
  have h_406_3 := hI.2.1 406 3
  rw [sgc_6] at h_406_3
  have h_404_38 := hI.2.1 404 38
  rw [sgc_7] at h_404_38
  have h_404_2 := hI.2.1 404 2
  rw [sgc_8] at h_404_2
  refine al_364 293 (by decide) (fun s => [(0 : Int), (a1.toInt : Int), (a2.toInt : Int), (a3.toInt : Int), ((μ.2.2.1 406 0).toInt : Int), ((μ.2.2.1 406 1).toInt : Int), ((μ.2.2.1 406 2).toInt : Int), ((μ.2.2.1 406 3).toInt : Int), ((μ.2.2.1 404 38).toInt : Int), ((μ.2.2.1 404 2).toInt : Int)].getD s (0 : Int)) [.ref 404, .int a1, .int a2, .int a3] μ K ⟨hI.1, hI.2.1, fun _ _ => ⟨rfl, rfl⟩, rfl, Nat.le_refl _, Nat.le_of_ble_eq_true rfl, fun _ _ => rfl, ?_, fun q hq => absurd hq List.not_mem_nil, ?_, trivial, ?_, ?_⟩ ?_
  · exact iv2_ok (iv := (in_293).pre.iv) (vs := [(0 : Int), (a1.toInt : Int), (a2.toInt : Int), (a3.toInt : Int), ((μ.2.2.1 406 0).toInt : Int), ((μ.2.2.1 406 1).toInt : Int), ((μ.2.2.1 406 2).toInt : Int), ((μ.2.2.1 406 3).toInt : Int), ((μ.2.2.1 404 38).toInt : Int), ((μ.2.2.1 404 2).toInt : Int)]) ⟨⟨Int.le_refl 0, Int.le_refl 0⟩, ⟨dx_b1 _, dx_b2 _⟩, ⟨dx_b1 _, dx_b2 _⟩, ⟨dx_b1 _, dx_b2 _⟩, h_406_0, h_406_1, h_406_2, h_406_3, h_404_38, h_404_2, trivial⟩
  · exact ⟨⟨404, List.Mem.head _, rfl⟩, ⟨Nat.le_of_ble_eq_true rfl, a1, rfl, (Int.add_zero _).symm⟩, ⟨Nat.le_of_ble_eq_true rfl, a2, rfl, (Int.add_zero _).symm⟩, ⟨Nat.le_of_ble_eq_true rfl, a3, rfl, (Int.add_zero _).symm⟩, trivial⟩
  · exact dx_aL.all (l := (in_293).pre.fa) ⟨⟨Nat.le_of_ble_eq_true rfl, (Int.add_zero _).symm⟩, ⟨Nat.le_of_ble_eq_true rfl, (Int.add_zero _).symm⟩, ⟨Nat.le_of_ble_eq_true rfl, (Int.add_zero _).symm⟩, ⟨Nat.le_of_ble_eq_true rfl, (Int.add_zero _).symm⟩, ⟨Nat.le_of_ble_eq_true rfl, (Int.add_zero _).symm⟩, ⟨Nat.le_of_ble_eq_true rfl, (Int.add_zero _).symm⟩, trivial⟩
  · exact dx_aL.all (l := (in_293).pre.fl) trivial
  · intro r μ' ν' P hP g'
    rcases List.mem_cons.mp hP with rfl | hP
    · obtain ⟨w, rfl, hw⟩ := r_int g'.gl
      have n0 : ν' 0 = 0 := g'.ag 0 (Nat.le_of_ble_eq_true rfl)
      have n1 : ν' 1 = a1.toInt := g'.ag 1 (Nat.le_of_ble_eq_true rfl)
      have n2 : ν' 2 = a2.toInt := g'.ag 2 (Nat.le_of_ble_eq_true rfl)
      have n3 : ν' 3 = a3.toInt := g'.ag 3 (Nat.le_of_ble_eq_true rfl)
      have n4 : ν' 4 = (μ.2.2.1 406 0).toInt := g'.ag 4 (Nat.le_of_ble_eq_true rfl)
      have n5 : ν' 5 = (μ.2.2.1 406 1).toInt := g'.ag 5 (Nat.le_of_ble_eq_true rfl)
      have n6 : ν' 6 = (μ.2.2.1 406 2).toInt := g'.ag 6 (Nat.le_of_ble_eq_true rfl)
      have n7 : ν' 7 = (μ.2.2.1 406 3).toInt := g'.ag 7 (Nat.le_of_ble_eq_true rfl)
      have n8 : ν' 8 = (μ.2.2.1 404 38).toInt := g'.ag 8 (Nat.le_of_ble_eq_true rfl)
      have n9 : ν' 9 = (μ.2.2.1 404 2).toInt := g'.ag 9 (Nat.le_of_ble_eq_true rfl)
      have sz0 : (μ'.2.2.1 404 2).toInt = ν' 9 + 0 := (g'.fa _ (List.Mem.tail _ (List.Mem.head _))).2
      have sz1 : (μ'.2.2.1 433 0).toInt = (μ.2.2.1 433 0).toInt := by rw [(g'.fr 433 nc_X12_cell_433).1]
      have sz2 : (μ'.2.2.1 433 1).toInt = (μ.2.2.1 433 1).toInt := by rw [(g'.fr 433 nc_X12_cell_433).1]
      have sz3 : (μ'.2.2.1 1 1).toInt = (μ.2.2.1 1 1).toInt := by rw [(g'.fr 1 nc_X12_cell_1).1]
      have sz4 : (μ'.2.2.1 210 0).toInt = (μ.2.2.1 210 0).toInt := by rw [(g'.fr 210 nc_X12_cell_210).1]
      have sz5 : (μ'.2.2.1 307 0).toInt = (μ.2.2.1 307 0).toInt := by rw [(g'.fr 307 nc_X12_cell_307).1]
      have hw' : w.toInt = ν' 0 + 0 := hw
      exact hK _ w μ' ⟨⟨g'.sh, g'.hi, keepf (md := [404]) kn_X12_cell_0 g'.fr hI.2.2.1, keepf (md := [404]) kn_X12_cell_6 g'.fr hI.2.2.2.1, keepf (md := [404]) kn_X12_cell_2 g'.fr hI.2.2.2.2.1, keepf (md := [404]) kn_X12_cell_3 g'.fr hI.2.2.2.2.2⟩, rfl, by omega, ⟨sz3, sz4, sz5⟩, g'.fr⟩
    rcases List.mem_cons.mp hP with rfl | hP
    · obtain ⟨w, rfl, hw⟩ := r_int g'.gl
      have n0 : ν' 0 = 0 := g'.ag 0 (Nat.le_of_ble_eq_true rfl)
      have n1 : ν' 1 = a1.toInt := g'.ag 1 (Nat.le_of_ble_eq_true rfl)
      have n2 : ν' 2 = a2.toInt := g'.ag 2 (Nat.le_of_ble_eq_true rfl)
      have n3 : ν' 3 = a3.toInt := g'.ag 3 (Nat.le_of_ble_eq_true rfl)
      have n4 : ν' 4 = (μ.2.2.1 406 0).toInt := g'.ag 4 (Nat.le_of_ble_eq_true rfl)
      have n5 : ν' 5 = (μ.2.2.1 406 1).toInt := g'.ag 5 (Nat.le_of_ble_eq_true rfl)
      have n6 : ν' 6 = (μ.2.2.1 406 2).toInt := g'.ag 6 (Nat.le_of_ble_eq_true rfl)
      have n7 : ν' 7 = (μ.2.2.1 406 3).toInt := g'.ag 7 (Nat.le_of_ble_eq_true rfl)
      have n8 : ν' 8 = (μ.2.2.1 404 38).toInt := g'.ag 8 (Nat.le_of_ble_eq_true rfl)
      have n9 : ν' 9 = (μ.2.2.1 404 2).toInt := g'.ag 9 (Nat.le_of_ble_eq_true rfl)
      have sz0 : (μ'.2.2.1 404 2).toInt = ν' 9 + 0 := (g'.fa _ (List.Mem.tail _ (List.Mem.head _))).2
      have sz1 : (μ'.2.2.1 433 0).toInt = (μ.2.2.1 433 0).toInt := by rw [(g'.fr 433 nc_X12_cell_433).1]
      have sz2 : (μ'.2.2.1 433 1).toInt = (μ.2.2.1 433 1).toInt := by rw [(g'.fr 433 nc_X12_cell_433).1]
      have sz3 : (μ'.2.2.1 1 1).toInt = (μ.2.2.1 1 1).toInt := by rw [(g'.fr 1 nc_X12_cell_1).1]
      have sz4 : (μ'.2.2.1 210 0).toInt = (μ.2.2.1 210 0).toInt := by rw [(g'.fr 210 nc_X12_cell_210).1]
      have sz5 : (μ'.2.2.1 307 0).toInt = (μ.2.2.1 307 0).toInt := by rw [(g'.fr 307 nc_X12_cell_307).1]
      have hw' : w.toInt = ν' 10 + 0 := hw
      have i1 : (0 : Int) ≤ ν' 1 ∧ ν' 1 ≤ 11 := g'.iv 1 (Nat.le_of_ble_eq_true rfl)
      have i2 : (0 : Int) ≤ ν' 2 ∧ ν' 2 ≤ 11 := g'.iv 2 (Nat.le_of_ble_eq_true rfl)
      have i3 : (0 : Int) ≤ ν' 3 ∧ ν' 3 ≤ 4 := g'.iv 3 (Nat.le_of_ble_eq_true rfl)
      have i4 : (1 : Int) ≤ ν' 4 ∧ ν' 4 ≤ 12 := g'.iv 4 (Nat.le_of_ble_eq_true rfl)
      have i5 : (1 : Int) ≤ ν' 5 ∧ ν' 5 ≤ 12 := g'.iv 5 (Nat.le_of_ble_eq_true rfl)
      have d0 : ν' 1 - ν' 4 ≤ (-1) := (g'.dc _ (List.Mem.head _)).2.2
      have d1 : ν' 2 - ν' 5 ≤ (-1) := (g'.dc _ (List.Mem.tail _ (List.Mem.head _))).2.2
      exact hK _ w μ' ⟨⟨g'.sh, g'.hi, keepf (md := [404]) kn_X12_cell_0 g'.fr hI.2.2.1, keepf (md := [404]) kn_X12_cell_6 g'.fr hI.2.2.2.1, keepf (md := [404]) kn_X12_cell_2 g'.fr hI.2.2.2.2.1, keepf (md := [404]) kn_X12_cell_3 g'.fr hI.2.2.2.2.2⟩, rfl, by omega, ⟨sz3, sz4, sz5⟩, g'.fr⟩
    exact absurd hP List.not_mem_nil
abbrev ck_X12_clouded (a1 : Int32) (μ : dw_S) (r : Option Value) (w : Int32) (μ' : dw_S) : Prop := (INV μ') ∧ (r = some (.int w)) ∧ ((μ'.2.2.1 404 2).toInt = 0 ∧ (μ'.2.2.1 433 0).toInt = (μ.2.2.1 433 0).toInt ∧ (μ'.2.2.1 433 1).toInt = (μ.2.2.1 433 1).toInt) ∧ ((μ'.2.2.1 1 1).toInt = (μ.2.2.1 1 1).toInt ∧ (μ'.2.2.1 210 0).toInt = (μ.2.2.1 210 0).toInt ∧ (μ'.2.2.1 307 0).toInt = (μ.2.2.1 307 0).toInt) ∧ (∀ a, a ∉ [404, 411, 412, 413, 414, 415, 416, 417, 418, 419] → μ'.2.2.1 a = μ.2.2.1 a ∧ μ'.2.2.2 a = μ.2.2.2 a)
theorem nc_X12_clouded_433 : 433 ∉ ([404, 411, 412, 413, 414, 415, 416, 417, 418, 419] : List Nat) := by decide
theorem nc_X12_clouded_1 : 1 ∉ ([404, 411, 412, 413, 414, 415, 416, 417, 418, 419] : List Nat) := by decide
theorem nc_X12_clouded_210 : 210 ∉ ([404, 411, 412, 413, 414, 415, 416, 417, 418, 419] : List Nat) := by decide
theorem nc_X12_clouded_307 : 307 ∉ ([404, 411, 412, 413, 414, 415, 416, 417, 418, 419] : List Nat) := by decide
theorem cl_X12_clouded {μ : dw_S} {K : dw_K} {a1 : Int32} (hI : INV μ) (hK : ∀ (r : Option Value) (w : Int32) (μ' : dw_S), ck_X12_clouded a1 μ r w μ' → K r μ') : t_X12_clouded [.ref 404, .int a1] μ K := by
  have h_406_0 := hI.2.1 406 0
  rw [sgc_3] at h_406_0
  have h_406_1 := hI.2.1 406 1
  rw [sgc_4] at h_406_1
  have h_406_2 := hI.2.1 406 2
  rw [sgc_5] at h_406_2
  have h_406_3 := hI.2.1 406 3
  rw [sgc_6] at h_406_3
  have h_404_38 := hI.2.1 404 38
  rw [sgc_7] at h_404_38
  have h_404_2 := hI.2.1 404 2
  rw [sgc_8] at h_404_2
  refine al_364 300 (by decide) (fun s => [(0 : Int), (a1.toInt : Int), ((μ.2.2.1 406 0).toInt : Int), ((μ.2.2.1 406 1).toInt : Int), ((μ.2.2.1 406 2).toInt : Int), ((μ.2.2.1 406 3).toInt : Int), ((μ.2.2.1 404 38).toInt : Int), ((μ.2.2.1 404 2).toInt : Int)].getD s (0 : Int)) [.ref 404, .int a1] μ K ⟨hI.1, hI.2.1, fun _ _ => ⟨rfl, rfl⟩, rfl, Nat.le_refl _, Nat.le_of_ble_eq_true rfl, fun _ _ => rfl, ?_, fun q hq => absurd hq List.not_mem_nil, ?_, trivial, ?_, ?_⟩ ?_
  · exact iv2_ok (iv := (in_300).pre.iv) (vs := [(0 : Int), (a1.toInt : Int), ((μ.2.2.1 406 0).toInt : Int), ((μ.2.2.1 406 1).toInt : Int), ((μ.2.2.1 406 2).toInt : Int), ((μ.2.2.1 406 3).toInt : Int), ((μ.2.2.1 404 38).toInt : Int), ((μ.2.2.1 404 2).toInt : Int)]) ⟨⟨Int.le_refl 0, Int.le_refl 0⟩, ⟨dx_b1 _, dx_b2 _⟩, h_406_0, h_406_1, h_406_2, h_406_3, h_404_38, h_404_2, trivial⟩
  · exact ⟨⟨404, List.Mem.head _, rfl⟩, ⟨Nat.le_of_ble_eq_true rfl, a1, rfl, (Int.add_zero _).symm⟩, trivial⟩
  · exact dx_aL.all (l := (in_300).pre.fa) ⟨⟨Nat.le_of_ble_eq_true rfl, (Int.add_zero _).symm⟩, ⟨Nat.le_of_ble_eq_true rfl, (Int.add_zero _).symm⟩, ⟨Nat.le_of_ble_eq_true rfl, (Int.add_zero _).symm⟩, ⟨Nat.le_of_ble_eq_true rfl, (Int.add_zero _).symm⟩, ⟨Nat.le_of_ble_eq_true rfl, (Int.add_zero _).symm⟩, ⟨Nat.le_of_ble_eq_true rfl, (Int.add_zero _).symm⟩, trivial⟩
  · exact dx_aL.all (l := (in_300).pre.fl) ⟨⟨Nat.le_of_ble_eq_true rfl, hI.2.2.1⟩, ⟨Nat.le_of_ble_eq_true rfl, hI.2.2.2.1⟩, ⟨Nat.le_of_ble_eq_true rfl, hI.2.2.2.2.1⟩, ⟨Nat.le_of_ble_eq_true rfl, hI.2.2.2.2.2⟩, trivial⟩
  · intro r μ' ν' P hP g'
    rcases List.mem_cons.mp hP with rfl | hP
    · obtain ⟨w, rfl, hw⟩ := r_int g'.gl
      have n0 : ν' 0 = 0 := g'.ag 0 (Nat.le_of_ble_eq_true rfl)
      have n1 : ν' 1 = a1.toInt := g'.ag 1 (Nat.le_of_ble_eq_true rfl)
      have n2 : ν' 2 = (μ.2.2.1 406 0).toInt := g'.ag 2 (Nat.le_of_ble_eq_true rfl)
      have n3 : ν' 3 = (μ.2.2.1 406 1).toInt := g'.ag 3 (Nat.le_of_ble_eq_true rfl)
      have n4 : ν' 4 = (μ.2.2.1 406 2).toInt := g'.ag 4 (Nat.le_of_ble_eq_true rfl)
      have n5 : ν' 5 = (μ.2.2.1 406 3).toInt := g'.ag 5 (Nat.le_of_ble_eq_true rfl)
      have n6 : ν' 6 = (μ.2.2.1 404 38).toInt := g'.ag 6 (Nat.le_of_ble_eq_true rfl)
      have n7 : ν' 7 = (μ.2.2.1 404 2).toInt := g'.ag 7 (Nat.le_of_ble_eq_true rfl)
      have sz0 : (μ'.2.2.1 404 2).toInt = ν' 0 + 0 := (g'.fa _ (List.Mem.tail _ (List.Mem.head _))).2
      have sz1 : (μ'.2.2.1 433 0).toInt = (μ.2.2.1 433 0).toInt := by rw [(g'.fr 433 nc_X12_clouded_433).1]
      have sz2 : (μ'.2.2.1 433 1).toInt = (μ.2.2.1 433 1).toInt := by rw [(g'.fr 433 nc_X12_clouded_433).1]
      have sz3 : (μ'.2.2.1 1 1).toInt = (μ.2.2.1 1 1).toInt := by rw [(g'.fr 1 nc_X12_clouded_1).1]
      have sz4 : (μ'.2.2.1 210 0).toInt = (μ.2.2.1 210 0).toInt := by rw [(g'.fr 210 nc_X12_clouded_210).1]
      have sz5 : (μ'.2.2.1 307 0).toInt = (μ.2.2.1 307 0).toInt := by rw [(g'.fr 307 nc_X12_clouded_307).1]
      have hw' : w.toInt = ν' 0 + (-1) := hw
      exact hK _ w μ' ⟨⟨g'.sh, g'.hi, (g'.fl _ (List.Mem.head _)).2, (g'.fl _ (List.Mem.tail _ (List.Mem.head _))).2, (g'.fl _ (List.Mem.tail _ (List.Mem.tail _ (List.Mem.head _)))).2, (g'.fl _ (List.Mem.tail _ (List.Mem.tail _ (List.Mem.tail _ (List.Mem.head _))))).2⟩, rfl, by omega, ⟨sz3, sz4, sz5⟩, g'.fr⟩
    rcases List.mem_cons.mp hP with rfl | hP
    · obtain ⟨w, rfl, hw⟩ := r_int g'.gl
      have n0 : ν' 0 = 0 := g'.ag 0 (Nat.le_of_ble_eq_true rfl)
      have n1 : ν' 1 = a1.toInt := g'.ag 1 (Nat.le_of_ble_eq_true rfl)
      have n2 : ν' 2 = (μ.2.2.1 406 0).toInt := g'.ag 2 (Nat.le_of_ble_eq_true rfl)
      have n3 : ν' 3 = (μ.2.2.1 406 1).toInt := g'.ag 3 (Nat.le_of_ble_eq_true rfl)
      have n4 : ν' 4 = (μ.2.2.1 406 2).toInt := g'.ag 4 (Nat.le_of_ble_eq_true rfl)
      have n5 : ν' 5 = (μ.2.2.1 406 3).toInt := g'.ag 5 (Nat.le_of_ble_eq_true rfl)
      have n6 : ν' 6 = (μ.2.2.1 404 38).toInt := g'.ag 6 (Nat.le_of_ble_eq_true rfl)
      have n7 : ν' 7 = (μ.2.2.1 404 2).toInt := g'.ag 7 (Nat.le_of_ble_eq_true rfl)
      have sz0 : (μ'.2.2.1 404 2).toInt = ν' 0 + 0 := (g'.fa _ (List.Mem.tail _ (List.Mem.head _))).2
      have sz1 : (μ'.2.2.1 433 0).toInt = (μ.2.2.1 433 0).toInt := by rw [(g'.fr 433 nc_X12_clouded_433).1]
      have sz2 : (μ'.2.2.1 433 1).toInt = (μ.2.2.1 433 1).toInt := by rw [(g'.fr 433 nc_X12_clouded_433).1]
      have sz3 : (μ'.2.2.1 1 1).toInt = (μ.2.2.1 1 1).toInt := by rw [(g'.fr 1 nc_X12_clouded_1).1]
      have sz4 : (μ'.2.2.1 210 0).toInt = (μ.2.2.1 210 0).toInt := by rw [(g'.fr 210 nc_X12_clouded_210).1]
      have sz5 : (μ'.2.2.1 307 0).toInt = (μ.2.2.1 307 0).toInt := by rw [(g'.fr 307 nc_X12_clouded_307).1]
      have hw' : w.toInt = ν' 8 + 0 := hw
      have i1 : (0 : Int) ≤ ν' 1 ∧ ν' 1 ≤ 5 := g'.iv 1 (Nat.le_of_ble_eq_true rfl)
      have i7 : (0 : Int) ≤ ν' 7 ∧ ν' 7 ≤ 144 := g'.iv 7 (Nat.le_of_ble_eq_true rfl)
      exact hK _ w μ' ⟨⟨g'.sh, g'.hi, (g'.fl _ (List.Mem.head _)).2, (g'.fl _ (List.Mem.tail _ (List.Mem.head _))).2, (g'.fl _ (List.Mem.tail _ (List.Mem.tail _ (List.Mem.head _)))).2, (g'.fl _ (List.Mem.tail _ (List.Mem.tail _ (List.Mem.tail _ (List.Mem.head _))))).2⟩, rfl, by omega, ⟨sz3, sz4, sz5⟩, g'.fr⟩
    exact absurd hP List.not_mem_nil
abbrev ck_X12_count (a1 : Int32) (μ : dw_S) (r : Option Value) (w : Int32) (μ' : dw_S) : Prop := (INV μ') ∧ (r = some (.int w)) ∧ ((μ'.2.2.1 404 2).toInt = (μ.2.2.1 404 2).toInt ∧ (μ'.2.2.1 433 0).toInt = (μ.2.2.1 433 0).toInt ∧ (μ'.2.2.1 433 1).toInt = (μ.2.2.1 433 1).toInt) ∧ ((μ'.2.2.1 1 1).toInt = (μ.2.2.1 1 1).toInt ∧ (μ'.2.2.1 210 0).toInt = (μ.2.2.1 210 0).toInt ∧ (μ'.2.2.1 307 0).toInt = (μ.2.2.1 307 0).toInt) ∧ (∀ a, a ∉ [404] → μ'.2.2.1 a = μ.2.2.1 a ∧ μ'.2.2.2 a = μ.2.2.2 a)
theorem kn_X12_count_0 : (fl_s 0).all (fun q => decide (q.1 ∉ ([404] : List Nat))) = true := by decide
theorem kn_X12_count_6 : (fl_s 6).all (fun q => decide (q.1 ∉ ([404] : List Nat))) = true := by decide
theorem kn_X12_count_2 : (fl_s 2).all (fun q => decide (q.1 ∉ ([404] : List Nat))) = true := by decide
theorem kn_X12_count_3 : (fl_s 3).all (fun q => decide (q.1 ∉ ([404] : List Nat))) = true := by decide
theorem nc_X12_count_433 : 433 ∉ ([404] : List Nat) := by decide
theorem nc_X12_count_1 : 1 ∉ ([404] : List Nat) := by decide
theorem nc_X12_count_210 : 210 ∉ ([404] : List Nat) := by decide
theorem nc_X12_count_307 : 307 ∉ ([404] : List Nat) := by decide
theorem cl_X12_count {μ : dw_S} {K : dw_K} {a1 : Int32} (hI : INV μ) (hK : ∀ (r : Option Value) (w : Int32) (μ' : dw_S), ck_X12_count a1 μ r w μ' → K r μ') : t_X12_count [.ref 404, .int a1] μ K := by
  have h_404_2 := hI.2.1 404 2
  rw [sgc_8] at h_404_2
  refine al_364 301 (by decide) (fun s => [(0 : Int), (a1.toInt : Int), ((μ.2.2.1 404 2).toInt : Int)].getD s (0 : Int)) [.ref 404, .int a1] μ K ⟨hI.1, hI.2.1, fun _ _ => ⟨rfl, rfl⟩, rfl, Nat.le_refl _, Nat.le_of_ble_eq_true rfl, fun _ _ => rfl, ?_, fun q hq => absurd hq List.not_mem_nil, ?_, trivial, ?_, ?_⟩ ?_
  · exact iv2_ok (iv := (in_301).pre.iv) (vs := [(0 : Int), (a1.toInt : Int), ((μ.2.2.1 404 2).toInt : Int)]) ⟨⟨Int.le_refl 0, Int.le_refl 0⟩, ⟨dx_b1 _, dx_b2 _⟩, h_404_2, trivial⟩
  · exact ⟨⟨404, List.Mem.head _, rfl⟩, ⟨Nat.le_of_ble_eq_true rfl, a1, rfl, (Int.add_zero _).symm⟩, trivial⟩
  · exact dx_aL.all (l := (in_301).pre.fa) ⟨⟨Nat.le_of_ble_eq_true rfl, (Int.add_zero _).symm⟩, trivial⟩
  · exact dx_aL.all (l := (in_301).pre.fl) trivial
  · intro r μ' ν' P hP g'
    rcases List.mem_cons.mp hP with rfl | hP
    · obtain ⟨w, rfl, hw⟩ := r_int g'.gl
      have n0 : ν' 0 = 0 := g'.ag 0 (Nat.le_of_ble_eq_true rfl)
      have n1 : ν' 1 = a1.toInt := g'.ag 1 (Nat.le_of_ble_eq_true rfl)
      have n2 : ν' 2 = (μ.2.2.1 404 2).toInt := g'.ag 2 (Nat.le_of_ble_eq_true rfl)
      have sz0 : (μ'.2.2.1 404 2).toInt = ν' 2 + 0 := (g'.fa _ (List.Mem.head _)).2
      have sz1 : (μ'.2.2.1 433 0).toInt = (μ.2.2.1 433 0).toInt := by rw [(g'.fr 433 nc_X12_count_433).1]
      have sz2 : (μ'.2.2.1 433 1).toInt = (μ.2.2.1 433 1).toInt := by rw [(g'.fr 433 nc_X12_count_433).1]
      have sz3 : (μ'.2.2.1 1 1).toInt = (μ.2.2.1 1 1).toInt := by rw [(g'.fr 1 nc_X12_count_1).1]
      have sz4 : (μ'.2.2.1 210 0).toInt = (μ.2.2.1 210 0).toInt := by rw [(g'.fr 210 nc_X12_count_210).1]
      have sz5 : (μ'.2.2.1 307 0).toInt = (μ.2.2.1 307 0).toInt := by rw [(g'.fr 307 nc_X12_count_307).1]
      have hw' : w.toInt = ν' 3 + 0 := hw
      have i1 : (0 : Int) ≤ ν' 1 ∧ ν' 1 ≤ 7 := g'.iv 1 (Nat.le_of_ble_eq_true rfl)
      exact hK _ w μ' ⟨⟨g'.sh, g'.hi, keepf (md := [404]) kn_X12_count_0 g'.fr hI.2.2.1, keepf (md := [404]) kn_X12_count_6 g'.fr hI.2.2.2.1, keepf (md := [404]) kn_X12_count_2 g'.fr hI.2.2.2.2.1, keepf (md := [404]) kn_X12_count_3 g'.fr hI.2.2.2.2.2⟩, rfl, by omega, ⟨sz3, sz4, sz5⟩, g'.fr⟩
    rcases List.mem_cons.mp hP with rfl | hP
    · obtain ⟨w, rfl, hw⟩ := r_int g'.gl
      have n0 : ν' 0 = 0 := g'.ag 0 (Nat.le_of_ble_eq_true rfl)
      have n1 : ν' 1 = a1.toInt := g'.ag 1 (Nat.le_of_ble_eq_true rfl)
      have n2 : ν' 2 = (μ.2.2.1 404 2).toInt := g'.ag 2 (Nat.le_of_ble_eq_true rfl)
      have sz0 : (μ'.2.2.1 404 2).toInt = ν' 2 + 0 := (g'.fa _ (List.Mem.head _)).2
      have sz1 : (μ'.2.2.1 433 0).toInt = (μ.2.2.1 433 0).toInt := by rw [(g'.fr 433 nc_X12_count_433).1]
      have sz2 : (μ'.2.2.1 433 1).toInt = (μ.2.2.1 433 1).toInt := by rw [(g'.fr 433 nc_X12_count_433).1]
      have sz3 : (μ'.2.2.1 1 1).toInt = (μ.2.2.1 1 1).toInt := by rw [(g'.fr 1 nc_X12_count_1).1]
      have sz4 : (μ'.2.2.1 210 0).toInt = (μ.2.2.1 210 0).toInt := by rw [(g'.fr 210 nc_X12_count_210).1]
      have sz5 : (μ'.2.2.1 307 0).toInt = (μ.2.2.1 307 0).toInt := by rw [(g'.fr 307 nc_X12_count_307).1]
      have hw' : w.toInt = ν' 0 + (-1) := hw
      exact hK _ w μ' ⟨⟨g'.sh, g'.hi, keepf (md := [404]) kn_X12_count_0 g'.fr hI.2.2.1, keepf (md := [404]) kn_X12_count_6 g'.fr hI.2.2.2.1, keepf (md := [404]) kn_X12_count_2 g'.fr hI.2.2.2.2.1, keepf (md := [404]) kn_X12_count_3 g'.fr hI.2.2.2.2.2⟩, rfl, by omega, ⟨sz3, sz4, sz5⟩, g'.fr⟩
    exact absurd hP List.not_mem_nil
abbrev ck_X12_drawn (a1 a2 a3 a4 a5 : Int32) (μ : dw_S) (r : Option Value) (w : Int32) (μ' : dw_S) : Prop := (INV μ') ∧ (r = some (.int w)) ∧ ((μ'.2.2.1 404 2).toInt = (μ.2.2.1 404 2).toInt ∧ (μ'.2.2.1 433 0).toInt = (μ.2.2.1 433 0).toInt ∧ (μ'.2.2.1 433 1).toInt = (μ.2.2.1 433 1).toInt) ∧ ((μ'.2.2.1 1 1).toInt = (μ.2.2.1 1 1).toInt ∧ (μ'.2.2.1 210 0).toInt = (μ.2.2.1 210 0).toInt ∧ (μ'.2.2.1 307 0).toInt = (μ.2.2.1 307 0).toInt) ∧ (∀ a, a ∉ [404, 411, 412, 413, 414, 415, 416, 417, 418, 419, 431] → μ'.2.2.1 a = μ.2.2.1 a ∧ μ'.2.2.2 a = μ.2.2.2 a)
theorem nc_X12_drawn_433 : 433 ∉ ([404, 411, 412, 413, 414, 415, 416, 417, 418, 419, 431] : List Nat) := by decide
theorem nc_X12_drawn_1 : 1 ∉ ([404, 411, 412, 413, 414, 415, 416, 417, 418, 419, 431] : List Nat) := by decide
theorem nc_X12_drawn_210 : 210 ∉ ([404, 411, 412, 413, 414, 415, 416, 417, 418, 419, 431] : List Nat) := by decide
theorem nc_X12_drawn_307 : 307 ∉ ([404, 411, 412, 413, 414, 415, 416, 417, 418, 419, 431] : List Nat) := by decide
theorem cl_X12_drawn {μ : dw_S} {K : dw_K} {a1 a2 a3 a4 a5 : Int32} (hI : INV μ) (hK : ∀ (r : Option Value) (w : Int32) (μ' : dw_S), ck_X12_drawn a1 a2 a3 a4 a5 μ r w μ' → K r μ') : t_X12_drawn [.ref 404, .int a1, .int a2, .int a3, .int a4, .int a5] μ K := by
  have h_406_0 := hI.2.1 406 0
  rw [sgc_3] at h_406_0
  have h_406_1 := hI.2.1 406 1
  rw [sgc_4] at h_406_1
  have h_406_2 := hI.2.1 406 2
  rw [sgc_5] at h_406_2
  have h_406_3 := hI.2.1 406 3
  rw [sgc_6] at h_406_3
  have h_404_38 := hI.2.1 404 38
  rw [sgc_7] at h_404_38
  have h_404_2 := hI.2.1 404 2
  rw [sgc_8] at h_404_2
  refine al_364 303 (by decide) (fun s => [(0 : Int), (a1.toInt : Int), (a2.toInt : Int), (a3.toInt : Int), (a4.toInt : Int), (a5.toInt : Int), ((μ.2.2.1 406 0).toInt : Int), ((μ.2.2.1 406 1).toInt : Int), ((μ.2.2.1 406 2).toInt : Int), ((μ.2.2.1 406 3).toInt : Int), ((μ.2.2.1 404 38).toInt : Int), ((μ.2.2.1 404 2).toInt : Int)].getD s (0 : Int)) [.ref 404, .int a1, .int a2, .int a3, .int a4, .int a5] μ K ⟨hI.1, hI.2.1, fun _ _ => ⟨rfl, rfl⟩, rfl, Nat.le_refl _, Nat.le_of_ble_eq_true rfl, fun _ _ => rfl, ?_, fun q hq => absurd hq List.not_mem_nil, ?_, trivial, ?_, ?_⟩ ?_
  · exact iv2_ok (iv := (in_303).pre.iv) (vs := [(0 : Int), (a1.toInt : Int), (a2.toInt : Int), (a3.toInt : Int), (a4.toInt : Int), (a5.toInt : Int), ((μ.2.2.1 406 0).toInt : Int), ((μ.2.2.1 406 1).toInt : Int), ((μ.2.2.1 406 2).toInt : Int), ((μ.2.2.1 406 3).toInt : Int), ((μ.2.2.1 404 38).toInt : Int), ((μ.2.2.1 404 2).toInt : Int)]) ⟨⟨Int.le_refl 0, Int.le_refl 0⟩, ⟨dx_b1 _, dx_b2 _⟩, ⟨dx_b1 _, dx_b2 _⟩, ⟨dx_b1 _, dx_b2 _⟩, ⟨dx_b1 _, dx_b2 _⟩, ⟨dx_b1 _, dx_b2 _⟩, h_406_0, h_406_1, h_406_2, h_406_3, h_404_38, h_404_2, trivial⟩
  · exact ⟨⟨404, List.Mem.head _, rfl⟩, ⟨Nat.le_of_ble_eq_true rfl, a1, rfl, (Int.add_zero _).symm⟩, ⟨Nat.le_of_ble_eq_true rfl, a2, rfl, (Int.add_zero _).symm⟩, ⟨Nat.le_of_ble_eq_true rfl, a3, rfl, (Int.add_zero _).symm⟩, ⟨Nat.le_of_ble_eq_true rfl, a4, rfl, (Int.add_zero _).symm⟩, ⟨Nat.le_of_ble_eq_true rfl, a5, rfl, (Int.add_zero _).symm⟩, trivial⟩
  · exact dx_aL.all (l := (in_303).pre.fa) ⟨⟨Nat.le_of_ble_eq_true rfl, (Int.add_zero _).symm⟩, ⟨Nat.le_of_ble_eq_true rfl, (Int.add_zero _).symm⟩, ⟨Nat.le_of_ble_eq_true rfl, (Int.add_zero _).symm⟩, ⟨Nat.le_of_ble_eq_true rfl, (Int.add_zero _).symm⟩, ⟨Nat.le_of_ble_eq_true rfl, (Int.add_zero _).symm⟩, ⟨Nat.le_of_ble_eq_true rfl, (Int.add_zero _).symm⟩, trivial⟩
  · exact dx_aL.all (l := (in_303).pre.fl) ⟨⟨Nat.le_of_ble_eq_true rfl, hI.2.2.1⟩, ⟨Nat.le_of_ble_eq_true rfl, hI.2.2.2.1⟩, ⟨Nat.le_of_ble_eq_true rfl, hI.2.2.2.2.1⟩, ⟨Nat.le_of_ble_eq_true rfl, hI.2.2.2.2.2⟩, trivial⟩
  · intro r μ' ν' P hP g'
    rcases List.mem_cons.mp hP with rfl | hP
    · obtain ⟨w, rfl, hw⟩ := r_int g'.gl
      have n0 : ν' 0 = 0 := g'.ag 0 (Nat.le_of_ble_eq_true rfl)
      have n1 : ν' 1 = a1.toInt := g'.ag 1 (Nat.le_of_ble_eq_true rfl)
      have n2 : ν' 2 = a2.toInt := g'.ag 2 (Nat.le_of_ble_eq_true rfl)
      have n3 : ν' 3 = a3.toInt := g'.ag 3 (Nat.le_of_ble_eq_true rfl)
      have n4 : ν' 4 = a4.toInt := g'.ag 4 (Nat.le_of_ble_eq_true rfl)
      have n5 : ν' 5 = a5.toInt := g'.ag 5 (Nat.le_of_ble_eq_true rfl)
      have n6 : ν' 6 = (μ.2.2.1 406 0).toInt := g'.ag 6 (Nat.le_of_ble_eq_true rfl)
      have n7 : ν' 7 = (μ.2.2.1 406 1).toInt := g'.ag 7 (Nat.le_of_ble_eq_true rfl)
      have n8 : ν' 8 = (μ.2.2.1 406 2).toInt := g'.ag 8 (Nat.le_of_ble_eq_true rfl)
      have n9 : ν' 9 = (μ.2.2.1 406 3).toInt := g'.ag 9 (Nat.le_of_ble_eq_true rfl)
      have n10 : ν' 10 = (μ.2.2.1 404 38).toInt := g'.ag 10 (Nat.le_of_ble_eq_true rfl)
      have n11 : ν' 11 = (μ.2.2.1 404 2).toInt := g'.ag 11 (Nat.le_of_ble_eq_true rfl)
      have sz0 : (μ'.2.2.1 404 2).toInt = ν' 11 + 0 := (g'.fa _ (List.Mem.tail _ (List.Mem.head _))).2
      have sz1 : (μ'.2.2.1 433 0).toInt = (μ.2.2.1 433 0).toInt := by rw [(g'.fr 433 nc_X12_drawn_433).1]
      have sz2 : (μ'.2.2.1 433 1).toInt = (μ.2.2.1 433 1).toInt := by rw [(g'.fr 433 nc_X12_drawn_433).1]
      have sz3 : (μ'.2.2.1 1 1).toInt = (μ.2.2.1 1 1).toInt := by rw [(g'.fr 1 nc_X12_drawn_1).1]
      have sz4 : (μ'.2.2.1 210 0).toInt = (μ.2.2.1 210 0).toInt := by rw [(g'.fr 210 nc_X12_drawn_210).1]
      have sz5 : (μ'.2.2.1 307 0).toInt = (μ.2.2.1 307 0).toInt := by rw [(g'.fr 307 nc_X12_drawn_307).1]
      have hw' : w.toInt = ν' 0 + (-1) := hw
      exact hK _ w μ' ⟨⟨g'.sh, g'.hi, (g'.fl _ (List.Mem.head _)).2, (g'.fl _ (List.Mem.tail _ (List.Mem.head _))).2, (g'.fl _ (List.Mem.tail _ (List.Mem.tail _ (List.Mem.head _)))).2, (g'.fl _ (List.Mem.tail _ (List.Mem.tail _ (List.Mem.tail _ (List.Mem.head _))))).2⟩, rfl, by omega, ⟨sz3, sz4, sz5⟩, g'.fr⟩
    rcases List.mem_cons.mp hP with rfl | hP
    · obtain ⟨w, rfl, hw⟩ := r_int g'.gl
      have n0 : ν' 0 = 0 := g'.ag 0 (Nat.le_of_ble_eq_true rfl)
      have n1 : ν' 1 = a1.toInt := g'.ag 1 (Nat.le_of_ble_eq_true rfl)
      have n2 : ν' 2 = a2.toInt := g'.ag 2 (Nat.le_of_ble_eq_true rfl)
      have n3 : ν' 3 = a3.toInt := g'.ag 3 (Nat.le_of_ble_eq_true rfl)
      have n4 : ν' 4 = a4.toInt := g'.ag 4 (Nat.le_of_ble_eq_true rfl)
      have n5 : ν' 5 = a5.toInt := g'.ag 5 (Nat.le_of_ble_eq_true rfl)
      have n6 : ν' 6 = (μ.2.2.1 406 0).toInt := g'.ag 6 (Nat.le_of_ble_eq_true rfl)
      have n7 : ν' 7 = (μ.2.2.1 406 1).toInt := g'.ag 7 (Nat.le_of_ble_eq_true rfl)
      have n8 : ν' 8 = (μ.2.2.1 406 2).toInt := g'.ag 8 (Nat.le_of_ble_eq_true rfl)
      have n9 : ν' 9 = (μ.2.2.1 406 3).toInt := g'.ag 9 (Nat.le_of_ble_eq_true rfl)
      have n10 : ν' 10 = (μ.2.2.1 404 38).toInt := g'.ag 10 (Nat.le_of_ble_eq_true rfl)
      have n11 : ν' 11 = (μ.2.2.1 404 2).toInt := g'.ag 11 (Nat.le_of_ble_eq_true rfl)
      have sz0 : (μ'.2.2.1 404 2).toInt = ν' 11 + 0 := (g'.fa _ (List.Mem.tail _ (List.Mem.head _))).2
      have sz1 : (μ'.2.2.1 433 0).toInt = (μ.2.2.1 433 0).toInt := by rw [(g'.fr 433 nc_X12_drawn_433).1]
      have sz2 : (μ'.2.2.1 433 1).toInt = (μ.2.2.1 433 1).toInt := by rw [(g'.fr 433 nc_X12_drawn_433).1]
      have sz3 : (μ'.2.2.1 1 1).toInt = (μ.2.2.1 1 1).toInt := by rw [(g'.fr 1 nc_X12_drawn_1).1]
      have sz4 : (μ'.2.2.1 210 0).toInt = (μ.2.2.1 210 0).toInt := by rw [(g'.fr 210 nc_X12_drawn_210).1]
      have sz5 : (μ'.2.2.1 307 0).toInt = (μ.2.2.1 307 0).toInt := by rw [(g'.fr 307 nc_X12_drawn_307).1]
      have hw' : w.toInt = ν' 12 + 0 := hw
      have i1 : (0 : Int) ≤ ν' 1 ∧ ν' 1 ≤ 5 := g'.iv 1 (Nat.le_of_ble_eq_true rfl)
      have i2 : (0 : Int) ≤ ν' 2 ∧ ν' 2 ≤ 11 := g'.iv 2 (Nat.le_of_ble_eq_true rfl)
      have i3 : (0 : Int) ≤ ν' 3 ∧ ν' 3 ≤ 11 := g'.iv 3 (Nat.le_of_ble_eq_true rfl)
      have i4 : (1 : Int) ≤ ν' 4 ∧ ν' 4 ≤ 30 := g'.iv 4 (Nat.le_of_ble_eq_true rfl)
      have i6 : (1 : Int) ≤ ν' 6 ∧ ν' 6 ≤ 12 := g'.iv 6 (Nat.le_of_ble_eq_true rfl)
      have i7 : (1 : Int) ≤ ν' 7 ∧ ν' 7 ≤ 12 := g'.iv 7 (Nat.le_of_ble_eq_true rfl)
      have d0 : ν' 2 - ν' 6 ≤ (-1) := (g'.dc _ (List.Mem.head _)).2.2
      have d1 : ν' 3 - ν' 7 ≤ (-1) := (g'.dc _ (List.Mem.tail _ (List.Mem.head _))).2.2
      exact hK _ w μ' ⟨⟨g'.sh, g'.hi, (g'.fl _ (List.Mem.head _)).2, (g'.fl _ (List.Mem.tail _ (List.Mem.head _))).2, (g'.fl _ (List.Mem.tail _ (List.Mem.tail _ (List.Mem.head _)))).2, (g'.fl _ (List.Mem.tail _ (List.Mem.tail _ (List.Mem.tail _ (List.Mem.head _))))).2⟩, rfl, by omega, ⟨sz3, sz4, sz5⟩, g'.fr⟩
    exact absurd hP List.not_mem_nil
abbrev ck_X12_drawnBy (a1 : Int32) (μ : dw_S) (r : Option Value) (w : Int32) (μ' : dw_S) : Prop := (INV μ') ∧ (r = some (.int w)) ∧ ((μ'.2.2.1 404 2).toInt = (μ.2.2.1 404 2).toInt ∧ (μ'.2.2.1 433 0).toInt = (μ.2.2.1 433 0).toInt ∧ (μ'.2.2.1 433 1).toInt = (μ.2.2.1 433 1).toInt) ∧ ((μ'.2.2.1 1 1).toInt = (μ.2.2.1 1 1).toInt ∧ (μ'.2.2.1 210 0).toInt = (μ.2.2.1 210 0).toInt ∧ (μ'.2.2.1 307 0).toInt = (μ.2.2.1 307 0).toInt) ∧ (∀ a, a ∉ [404] → μ'.2.2.1 a = μ.2.2.1 a ∧ μ'.2.2.2 a = μ.2.2.2 a)
theorem kn_X12_drawnBy_0 : (fl_s 0).all (fun q => decide (q.1 ∉ ([404] : List Nat))) = true := by decide
theorem kn_X12_drawnBy_6 : (fl_s 6).all (fun q => decide (q.1 ∉ ([404] : List Nat))) = true := by decide
theorem kn_X12_drawnBy_2 : (fl_s 2).all (fun q => decide (q.1 ∉ ([404] : List Nat))) = true := by decide
theorem kn_X12_drawnBy_3 : (fl_s 3).all (fun q => decide (q.1 ∉ ([404] : List Nat))) = true := by decide
theorem nc_X12_drawnBy_433 : 433 ∉ ([404] : List Nat) := by decide
theorem nc_X12_drawnBy_1 : 1 ∉ ([404] : List Nat) := by decide
theorem nc_X12_drawnBy_210 : 210 ∉ ([404] : List Nat) := by decide
theorem nc_X12_drawnBy_307 : 307 ∉ ([404] : List Nat) := by decide
theorem cl_X12_drawnBy {μ : dw_S} {K : dw_K} {a1 : Int32} (hI : INV μ) (hK : ∀ (r : Option Value) (w : Int32) (μ' : dw_S), ck_X12_drawnBy a1 μ r w μ' → K r μ') : t_X12_drawnBy [.ref 404, .int a1] μ K := by
  have h_406_0 := hI.2.1 406 0
  rw [sgc_3] at h_406_0
  have h_406_1 := hI.2.1 406 1
  rw [sgc_4] at h_406_1
  have h_406_2 := hI.2.1 406 2
  rw [sgc_5] at h_406_2
  have h_406_3 := hI.2.1 406 3
  rw [sgc_6] at h_406_3
  have h_404_38 := hI.2.1 404 38
  rw [sgc_7] at h_404_38
  have h_404_2 := hI.2.1 404 2
  rw [sgc_8] at h_404_2
  refine al_364 304 (by decide) (fun s => [(0 : Int), (a1.toInt : Int), ((μ.2.2.1 406 0).toInt : Int), ((μ.2.2.1 406 1).toInt : Int), ((μ.2.2.1 406 2).toInt : Int), ((μ.2.2.1 406 3).toInt : Int), ((μ.2.2.1 404 38).toInt : Int), ((μ.2.2.1 404 2).toInt : Int)].getD s (0 : Int)) [.ref 404, .int a1] μ K ⟨hI.1, hI.2.1, fun _ _ => ⟨rfl, rfl⟩, rfl, Nat.le_refl _, Nat.le_of_ble_eq_true rfl, fun _ _ => rfl, ?_, fun q hq => absurd hq List.not_mem_nil, ?_, trivial, ?_, ?_⟩ ?_
  · exact iv2_ok (iv := (in_304).pre.iv) (vs := [(0 : Int), (a1.toInt : Int), ((μ.2.2.1 406 0).toInt : Int), ((μ.2.2.1 406 1).toInt : Int), ((μ.2.2.1 406 2).toInt : Int), ((μ.2.2.1 406 3).toInt : Int), ((μ.2.2.1 404 38).toInt : Int), ((μ.2.2.1 404 2).toInt : Int)]) ⟨⟨Int.le_refl 0, Int.le_refl 0⟩, ⟨dx_b1 _, dx_b2 _⟩, h_406_0, h_406_1, h_406_2, h_406_3, h_404_38, h_404_2, trivial⟩
  · exact ⟨⟨404, List.Mem.head _, rfl⟩, ⟨Nat.le_of_ble_eq_true rfl, a1, rfl, (Int.add_zero _).symm⟩, trivial⟩
  · exact dx_aL.all (l := (in_304).pre.fa) ⟨⟨Nat.le_of_ble_eq_true rfl, (Int.add_zero _).symm⟩, ⟨Nat.le_of_ble_eq_true rfl, (Int.add_zero _).symm⟩, ⟨Nat.le_of_ble_eq_true rfl, (Int.add_zero _).symm⟩, ⟨Nat.le_of_ble_eq_true rfl, (Int.add_zero _).symm⟩, ⟨Nat.le_of_ble_eq_true rfl, (Int.add_zero _).symm⟩, ⟨Nat.le_of_ble_eq_true rfl, (Int.add_zero _).symm⟩, trivial⟩
  · exact dx_aL.all (l := (in_304).pre.fl) trivial
  · intro r μ' ν' P hP g'
    rcases List.mem_cons.mp hP with rfl | hP
    · obtain ⟨w, rfl, hw⟩ := r_int g'.gl
      have n0 : ν' 0 = 0 := g'.ag 0 (Nat.le_of_ble_eq_true rfl)
      have n1 : ν' 1 = a1.toInt := g'.ag 1 (Nat.le_of_ble_eq_true rfl)
      have n2 : ν' 2 = (μ.2.2.1 406 0).toInt := g'.ag 2 (Nat.le_of_ble_eq_true rfl)
      have n3 : ν' 3 = (μ.2.2.1 406 1).toInt := g'.ag 3 (Nat.le_of_ble_eq_true rfl)
      have n4 : ν' 4 = (μ.2.2.1 406 2).toInt := g'.ag 4 (Nat.le_of_ble_eq_true rfl)
      have n5 : ν' 5 = (μ.2.2.1 406 3).toInt := g'.ag 5 (Nat.le_of_ble_eq_true rfl)
      have n6 : ν' 6 = (μ.2.2.1 404 38).toInt := g'.ag 6 (Nat.le_of_ble_eq_true rfl)
      have n7 : ν' 7 = (μ.2.2.1 404 2).toInt := g'.ag 7 (Nat.le_of_ble_eq_true rfl)
      have sz0 : (μ'.2.2.1 404 2).toInt = ν' 7 + 0 := (g'.fa _ (List.Mem.tail _ (List.Mem.head _))).2
      have sz1 : (μ'.2.2.1 433 0).toInt = (μ.2.2.1 433 0).toInt := by rw [(g'.fr 433 nc_X12_drawnBy_433).1]
      have sz2 : (μ'.2.2.1 433 1).toInt = (μ.2.2.1 433 1).toInt := by rw [(g'.fr 433 nc_X12_drawnBy_433).1]
      have sz3 : (μ'.2.2.1 1 1).toInt = (μ.2.2.1 1 1).toInt := by rw [(g'.fr 1 nc_X12_drawnBy_1).1]
      have sz4 : (μ'.2.2.1 210 0).toInt = (μ.2.2.1 210 0).toInt := by rw [(g'.fr 210 nc_X12_drawnBy_210).1]
      have sz5 : (μ'.2.2.1 307 0).toInt = (μ.2.2.1 307 0).toInt := by rw [(g'.fr 307 nc_X12_drawnBy_307).1]
      have hw' : w.toInt = ν' 0 + (-1) := hw
      exact hK _ w μ' ⟨⟨g'.sh, g'.hi, keepf (md := [404]) kn_X12_drawnBy_0 g'.fr hI.2.2.1, keepf (md := [404]) kn_X12_drawnBy_6 g'.fr hI.2.2.2.1, keepf (md := [404]) kn_X12_drawnBy_2 g'.fr hI.2.2.2.2.1, keepf (md := [404]) kn_X12_drawnBy_3 g'.fr hI.2.2.2.2.2⟩, rfl, by omega, ⟨sz3, sz4, sz5⟩, g'.fr⟩
    rcases List.mem_cons.mp hP with rfl | hP
    · obtain ⟨w, rfl, hw⟩ := r_int g'.gl
      have n0 : ν' 0 = 0 := g'.ag 0 (Nat.le_of_ble_eq_true rfl)
      have n1 : ν' 1 = a1.toInt := g'.ag 1 (Nat.le_of_ble_eq_true rfl)
      have n2 : ν' 2 = (μ.2.2.1 406 0).toInt := g'.ag 2 (Nat.le_of_ble_eq_true rfl)
      have n3 : ν' 3 = (μ.2.2.1 406 1).toInt := g'.ag 3 (Nat.le_of_ble_eq_true rfl)
      have n4 : ν' 4 = (μ.2.2.1 406 2).toInt := g'.ag 4 (Nat.le_of_ble_eq_true rfl)
      have n5 : ν' 5 = (μ.2.2.1 406 3).toInt := g'.ag 5 (Nat.le_of_ble_eq_true rfl)
      have n6 : ν' 6 = (μ.2.2.1 404 38).toInt := g'.ag 6 (Nat.le_of_ble_eq_true rfl)
      have n7 : ν' 7 = (μ.2.2.1 404 2).toInt := g'.ag 7 (Nat.le_of_ble_eq_true rfl)
      have sz0 : (μ'.2.2.1 404 2).toInt = ν' 7 + 0 := (g'.fa _ (List.Mem.tail _ (List.Mem.head _))).2
      have sz1 : (μ'.2.2.1 433 0).toInt = (μ.2.2.1 433 0).toInt := by rw [(g'.fr 433 nc_X12_drawnBy_433).1]
      have sz2 : (μ'.2.2.1 433 1).toInt = (μ.2.2.1 433 1).toInt := by rw [(g'.fr 433 nc_X12_drawnBy_433).1]
      have sz3 : (μ'.2.2.1 1 1).toInt = (μ.2.2.1 1 1).toInt := by rw [(g'.fr 1 nc_X12_drawnBy_1).1]
      have sz4 : (μ'.2.2.1 210 0).toInt = (μ.2.2.1 210 0).toInt := by rw [(g'.fr 210 nc_X12_drawnBy_210).1]
      have sz5 : (μ'.2.2.1 307 0).toInt = (μ.2.2.1 307 0).toInt := by rw [(g'.fr 307 nc_X12_drawnBy_307).1]
      have hw' : w.toInt = ν' 8 + 0 := hw
      have i1 : (0 : Int) ≤ ν' 1 ∧ ν' 1 ≤ 2 := g'.iv 1 (Nat.le_of_ble_eq_true rfl)
      exact hK _ w μ' ⟨⟨g'.sh, g'.hi, keepf (md := [404]) kn_X12_drawnBy_0 g'.fr hI.2.2.1, keepf (md := [404]) kn_X12_drawnBy_6 g'.fr hI.2.2.2.1, keepf (md := [404]) kn_X12_drawnBy_2 g'.fr hI.2.2.2.2.1, keepf (md := [404]) kn_X12_drawnBy_3 g'.fr hI.2.2.2.2.2⟩, rfl, by omega, ⟨sz3, sz4, sz5⟩, g'.fr⟩
    exact absurd hP List.not_mem_nil
abbrev ck_X12_driest (a1 a2 : Int32) (μ : dw_S) (r : Option Value) (w : Int32) (μ' : dw_S) : Prop := (INV μ') ∧ (r = some (.int w)) ∧ ((μ'.2.2.1 404 2).toInt = (μ.2.2.1 404 2).toInt ∧ (μ'.2.2.1 433 0).toInt = (μ.2.2.1 433 0).toInt ∧ (μ'.2.2.1 433 1).toInt = (μ.2.2.1 433 1).toInt) ∧ ((μ'.2.2.1 1 1).toInt = (μ.2.2.1 1 1).toInt ∧ (μ'.2.2.1 210 0).toInt = (μ.2.2.1 210 0).toInt ∧ (μ'.2.2.1 307 0).toInt = (μ.2.2.1 307 0).toInt) ∧ (∀ a, a ∉ [404, 411, 412, 413, 414, 415, 416, 417, 418, 419] → μ'.2.2.1 a = μ.2.2.1 a ∧ μ'.2.2.2 a = μ.2.2.2 a)
theorem nc_X12_driest_433 : 433 ∉ ([404, 411, 412, 413, 414, 415, 416, 417, 418, 419] : List Nat) := by decide
theorem nc_X12_driest_1 : 1 ∉ ([404, 411, 412, 413, 414, 415, 416, 417, 418, 419] : List Nat) := by decide
theorem nc_X12_driest_210 : 210 ∉ ([404, 411, 412, 413, 414, 415, 416, 417, 418, 419] : List Nat) := by decide
theorem nc_X12_driest_307 : 307 ∉ ([404, 411, 412, 413, 414, 415, 416, 417, 418, 419] : List Nat) := by decide
theorem cl_X12_driest {μ : dw_S} {K : dw_K} {a1 a2 : Int32} (hI : INV μ) (hK : ∀ (r : Option Value) (w : Int32) (μ' : dw_S), ck_X12_driest a1 a2 μ r w μ' → K r μ') : t_X12_driest [.ref 404, .int a1, .int a2] μ K := by
  have h_406_0 := hI.2.1 406 0
  rw [sgc_3] at h_406_0
  have h_406_1 := hI.2.1 406 1
  rw [sgc_4] at h_406_1
  have h_406_2 := hI.2.1 406 2
  rw [sgc_5] at h_406_2
  have h_406_3 := hI.2.1 406 3
  rw [sgc_6] at h_406_3
  have h_404_38 := hI.2.1 404 38
  rw [sgc_7] at h_404_38
  have h_404_2 := hI.2.1 404 2
  rw [sgc_8] at h_404_2
  refine al_364 306 (by decide) (fun s => [(0 : Int), (a1.toInt : Int), (a2.toInt : Int), ((μ.2.2.1 406 0).toInt : Int), ((μ.2.2.1 406 1).toInt : Int), ((μ.2.2.1 406 2).toInt : Int), ((μ.2.2.1 406 3).toInt : Int), ((μ.2.2.1 404 38).toInt : Int), ((μ.2.2.1 404 2).toInt : Int)].getD s (0 : Int)) [.ref 404, .int a1, .int a2] μ K ⟨hI.1, hI.2.1, fun _ _ => ⟨rfl, rfl⟩, rfl, Nat.le_refl _, Nat.le_of_ble_eq_true rfl, fun _ _ => rfl, ?_, fun q hq => absurd hq List.not_mem_nil, ?_, trivial, ?_, ?_⟩ ?_
  · exact iv2_ok (iv := (in_306).pre.iv) (vs := [(0 : Int), (a1.toInt : Int), (a2.toInt : Int), ((μ.2.2.1 406 0).toInt : Int), ((μ.2.2.1 406 1).toInt : Int), ((μ.2.2.1 406 2).toInt : Int), ((μ.2.2.1 406 3).toInt : Int), ((μ.2.2.1 404 38).toInt : Int), ((μ.2.2.1 404 2).toInt : Int)]) ⟨⟨Int.le_refl 0, Int.le_refl 0⟩, ⟨dx_b1 _, dx_b2 _⟩, ⟨dx_b1 _, dx_b2 _⟩, h_406_0, h_406_1, h_406_2, h_406_3, h_404_38, h_404_2, trivial⟩
  · exact ⟨⟨404, List.Mem.head _, rfl⟩, ⟨Nat.le_of_ble_eq_true rfl, a1, rfl, (Int.add_zero _).symm⟩, ⟨Nat.le_of_ble_eq_true rfl, a2, rfl, (Int.add_zero _).symm⟩, trivial⟩
  · exact dx_aL.all (l := (in_306).pre.fa) ⟨⟨Nat.le_of_ble_eq_true rfl, (Int.add_zero _).symm⟩, ⟨Nat.le_of_ble_eq_true rfl, (Int.add_zero _).symm⟩, ⟨Nat.le_of_ble_eq_true rfl, (Int.add_zero _).symm⟩, ⟨Nat.le_of_ble_eq_true rfl, (Int.add_zero _).symm⟩, ⟨Nat.le_of_ble_eq_true rfl, (Int.add_zero _).symm⟩, ⟨Nat.le_of_ble_eq_true rfl, (Int.add_zero _).symm⟩, trivial⟩
  · exact dx_aL.all (l := (in_306).pre.fl) ⟨⟨Nat.le_of_ble_eq_true rfl, hI.2.2.1⟩, ⟨Nat.le_of_ble_eq_true rfl, hI.2.2.2.1⟩, ⟨Nat.le_of_ble_eq_true rfl, hI.2.2.2.2.1⟩, ⟨Nat.le_of_ble_eq_true rfl, hI.2.2.2.2.2⟩, trivial⟩
  · intro r μ' ν' P hP g'
    rcases List.mem_cons.mp hP with rfl | hP
    · obtain ⟨w, rfl, hw⟩ := r_int g'.gl
      have n0 : ν' 0 = 0 := g'.ag 0 (Nat.le_of_ble_eq_true rfl)
      have n1 : ν' 1 = a1.toInt := g'.ag 1 (Nat.le_of_ble_eq_true rfl)
      have n2 : ν' 2 = a2.toInt := g'.ag 2 (Nat.le_of_ble_eq_true rfl)
      have n3 : ν' 3 = (μ.2.2.1 406 0).toInt := g'.ag 3 (Nat.le_of_ble_eq_true rfl)
      have n4 : ν' 4 = (μ.2.2.1 406 1).toInt := g'.ag 4 (Nat.le_of_ble_eq_true rfl)
      have n5 : ν' 5 = (μ.2.2.1 406 2).toInt := g'.ag 5 (Nat.le_of_ble_eq_true rfl)
      have n6 : ν' 6 = (μ.2.2.1 406 3).toInt := g'.ag 6 (Nat.le_of_ble_eq_true rfl)
      have n7 : ν' 7 = (μ.2.2.1 404 38).toInt := g'.ag 7 (Nat.le_of_ble_eq_true rfl)
      have n8 : ν' 8 = (μ.2.2.1 404 2).toInt := g'.ag 8 (Nat.le_of_ble_eq_true rfl)
      have sz0 : (μ'.2.2.1 404 2).toInt = ν' 8 + 0 := (g'.fa _ (List.Mem.tail _ (List.Mem.head _))).2
      have sz1 : (μ'.2.2.1 433 0).toInt = (μ.2.2.1 433 0).toInt := by rw [(g'.fr 433 nc_X12_driest_433).1]
      have sz2 : (μ'.2.2.1 433 1).toInt = (μ.2.2.1 433 1).toInt := by rw [(g'.fr 433 nc_X12_driest_433).1]
      have sz3 : (μ'.2.2.1 1 1).toInt = (μ.2.2.1 1 1).toInt := by rw [(g'.fr 1 nc_X12_driest_1).1]
      have sz4 : (μ'.2.2.1 210 0).toInt = (μ.2.2.1 210 0).toInt := by rw [(g'.fr 210 nc_X12_driest_210).1]
      have sz5 : (μ'.2.2.1 307 0).toInt = (μ.2.2.1 307 0).toInt := by rw [(g'.fr 307 nc_X12_driest_307).1]
      have hw' : w.toInt = ν' 0 + (-1) := hw
      exact hK _ w μ' ⟨⟨g'.sh, g'.hi, (g'.fl _ (List.Mem.head _)).2, (g'.fl _ (List.Mem.tail _ (List.Mem.head _))).2, (g'.fl _ (List.Mem.tail _ (List.Mem.tail _ (List.Mem.head _)))).2, (g'.fl _ (List.Mem.tail _ (List.Mem.tail _ (List.Mem.tail _ (List.Mem.head _))))).2⟩, rfl, by omega, ⟨sz3, sz4, sz5⟩, g'.fr⟩
    rcases List.mem_cons.mp hP with rfl | hP
    · obtain ⟨w, rfl, hw⟩ := r_int g'.gl
      have n0 : ν' 0 = 0 := g'.ag 0 (Nat.le_of_ble_eq_true rfl)
      have n1 : ν' 1 = a1.toInt := g'.ag 1 (Nat.le_of_ble_eq_true rfl)
      have n2 : ν' 2 = a2.toInt := g'.ag 2 (Nat.le_of_ble_eq_true rfl)
      have n3 : ν' 3 = (μ.2.2.1 406 0).toInt := g'.ag 3 (Nat.le_of_ble_eq_true rfl)
      have n4 : ν' 4 = (μ.2.2.1 406 1).toInt := g'.ag 4 (Nat.le_of_ble_eq_true rfl)
      have n5 : ν' 5 = (μ.2.2.1 406 2).toInt := g'.ag 5 (Nat.le_of_ble_eq_true rfl)
      have n6 : ν' 6 = (μ.2.2.1 406 3).toInt := g'.ag 6 (Nat.le_of_ble_eq_true rfl)
      have n7 : ν' 7 = (μ.2.2.1 404 38).toInt := g'.ag 7 (Nat.le_of_ble_eq_true rfl)
      have n8 : ν' 8 = (μ.2.2.1 404 2).toInt := g'.ag 8 (Nat.le_of_ble_eq_true rfl)
      have sz0 : (μ'.2.2.1 404 2).toInt = ν' 8 + 0 := (g'.fa _ (List.Mem.tail _ (List.Mem.head _))).2
      have sz1 : (μ'.2.2.1 433 0).toInt = (μ.2.2.1 433 0).toInt := by rw [(g'.fr 433 nc_X12_driest_433).1]
      have sz2 : (μ'.2.2.1 433 1).toInt = (μ.2.2.1 433 1).toInt := by rw [(g'.fr 433 nc_X12_driest_433).1]
      have sz3 : (μ'.2.2.1 1 1).toInt = (μ.2.2.1 1 1).toInt := by rw [(g'.fr 1 nc_X12_driest_1).1]
      have sz4 : (μ'.2.2.1 210 0).toInt = (μ.2.2.1 210 0).toInt := by rw [(g'.fr 210 nc_X12_driest_210).1]
      have sz5 : (μ'.2.2.1 307 0).toInt = (μ.2.2.1 307 0).toInt := by rw [(g'.fr 307 nc_X12_driest_307).1]
      have hw' : w.toInt = ν' 9 + 0 := hw
      have i1 : (0 : Int) ≤ ν' 1 ∧ ν' 1 ≤ 5 := g'.iv 1 (Nat.le_of_ble_eq_true rfl)
      have i2 : (1 : Int) ≤ ν' 2 ∧ ν' 2 ≤ 12 := g'.iv 2 (Nat.le_of_ble_eq_true rfl)
      have i3 : (1 : Int) ≤ ν' 3 ∧ ν' 3 ≤ 12 := g'.iv 3 (Nat.le_of_ble_eq_true rfl)
      have i4 : (1 : Int) ≤ ν' 4 ∧ ν' 4 ≤ 12 := g'.iv 4 (Nat.le_of_ble_eq_true rfl)
      have d0 : ν' 2 - ν' 3 ≤ 0 := (g'.dc _ (List.Mem.head _)).2.2
      have d1 : ν' 2 - ν' 4 ≤ 0 := (g'.dc _ (List.Mem.tail _ (List.Mem.head _))).2.2
      exact hK _ w μ' ⟨⟨g'.sh, g'.hi, (g'.fl _ (List.Mem.tail _ (List.Mem.tail _ (List.Mem.head _)))).2, (g'.fl _ (List.Mem.tail _ (List.Mem.tail _ (List.Mem.tail _ (List.Mem.head _))))).2, (g'.fl _ (List.Mem.tail _ (List.Mem.tail _ (List.Mem.tail _ (List.Mem.tail _ (List.Mem.head _)))))).2, (g'.fl _ (List.Mem.tail _ (List.Mem.tail _ (List.Mem.tail _ (List.Mem.tail _ (List.Mem.tail _ (List.Mem.head _))))))).2⟩, rfl, by omega, ⟨sz3, sz4, sz5⟩, g'.fr⟩
    exact absurd hP List.not_mem_nil
abbrev ck_X12_end (a1 : Int32) (μ : dw_S) (r : Option Value) (w : Int32) (μ' : dw_S) : Prop := (INV μ') ∧ (r = some (.int w)) ∧ ((((μ.2.2.1 404 2).toInt < a1.toInt ∧ w.toInt = 0 ∧ (μ'.2.2.1 404 2).toInt = (μ.2.2.1 404 2).toInt) ∨ (0 ≤ a1.toInt ∧ a1.toInt ≤ (μ.2.2.1 404 2).toInt ∧ w.toInt = 1 ∧ (μ'.2.2.1 404 2).toInt = a1.toInt) ∨ (a1.toInt < 0 ∧ w.toInt = 0 ∧ (μ'.2.2.1 404 2).toInt = (μ.2.2.1 404 2).toInt)) ∧ (μ'.2.2.1 433 0).toInt = (μ.2.2.1 433 0).toInt ∧ (μ'.2.2.1 433 1).toInt = (μ.2.2.1 433 1).toInt) ∧ ((μ'.2.2.1 1 1).toInt = (μ.2.2.1 1 1).toInt ∧ (μ'.2.2.1 210 0).toInt = (μ.2.2.1 210 0).toInt ∧ (μ'.2.2.1 307 0).toInt = (μ.2.2.1 307 0).toInt) ∧ (∀ a, a ∉ [404] → μ'.2.2.1 a = μ.2.2.1 a ∧ μ'.2.2.2 a = μ.2.2.2 a)
theorem kn_X12_end_0 : (fl_s 0).all (fun q => decide (q.1 ∉ ([404] : List Nat))) = true := by decide
theorem kn_X12_end_6 : (fl_s 6).all (fun q => decide (q.1 ∉ ([404] : List Nat))) = true := by decide
theorem kn_X12_end_2 : (fl_s 2).all (fun q => decide (q.1 ∉ ([404] : List Nat))) = true := by decide
theorem kn_X12_end_3 : (fl_s 3).all (fun q => decide (q.1 ∉ ([404] : List Nat))) = true := by decide
theorem nc_X12_end_433 : 433 ∉ ([404] : List Nat) := by decide
theorem nc_X12_end_1 : 1 ∉ ([404] : List Nat) := by decide
theorem nc_X12_end_210 : 210 ∉ ([404] : List Nat) := by decide
theorem nc_X12_end_307 : 307 ∉ ([404] : List Nat) := by decide
theorem cl_X12_end {μ : dw_S} {K : dw_K} {a1 : Int32} (hI : INV μ) (hK : ∀ (r : Option Value) (w : Int32) (μ' : dw_S), ck_X12_end a1 μ r w μ' → K r μ') : t_X12_end [.ref 404, .int a1] μ K := by
  have h_404_2 := hI.2.1 404 2
  rw [sgc_8] at h_404_2
  refine al_364 307 (by decide) (fun s => [(0 : Int), (a1.toInt : Int), ((μ.2.2.1 404 2).toInt : Int)].getD s (0 : Int)) [.ref 404, .int a1] μ K ⟨hI.1, hI.2.1, fun _ _ => ⟨rfl, rfl⟩, rfl, Nat.le_refl _, Nat.le_of_ble_eq_true rfl, fun _ _ => rfl, ?_, fun q hq => absurd hq List.not_mem_nil, ?_, trivial, ?_, ?_⟩ ?_
  · exact iv2_ok (iv := (in_307).pre.iv) (vs := [(0 : Int), (a1.toInt : Int), ((μ.2.2.1 404 2).toInt : Int)]) ⟨⟨Int.le_refl 0, Int.le_refl 0⟩, ⟨dx_b1 _, dx_b2 _⟩, h_404_2, trivial⟩
  · exact ⟨⟨404, List.Mem.head _, rfl⟩, ⟨Nat.le_of_ble_eq_true rfl, a1, rfl, (Int.add_zero _).symm⟩, trivial⟩
  · exact dx_aL.all (l := (in_307).pre.fa) ⟨⟨Nat.le_of_ble_eq_true rfl, (Int.add_zero _).symm⟩, trivial⟩
  · exact dx_aL.all (l := (in_307).pre.fl) trivial
  · intro r μ' ν' P hP g'
    rcases List.mem_cons.mp hP with rfl | hP
    · obtain ⟨w, rfl, hw⟩ := r_int g'.gl
      have n0 : ν' 0 = 0 := g'.ag 0 (Nat.le_of_ble_eq_true rfl)
      have n1 : ν' 1 = a1.toInt := g'.ag 1 (Nat.le_of_ble_eq_true rfl)
      have n2 : ν' 2 = (μ.2.2.1 404 2).toInt := g'.ag 2 (Nat.le_of_ble_eq_true rfl)
      have sz0 : (μ'.2.2.1 404 2).toInt = ν' 2 + 0 := (g'.fa _ (List.Mem.head _)).2
      have sz1 : (μ'.2.2.1 433 0).toInt = (μ.2.2.1 433 0).toInt := by rw [(g'.fr 433 nc_X12_end_433).1]
      have sz2 : (μ'.2.2.1 433 1).toInt = (μ.2.2.1 433 1).toInt := by rw [(g'.fr 433 nc_X12_end_433).1]
      have sz3 : (μ'.2.2.1 1 1).toInt = (μ.2.2.1 1 1).toInt := by rw [(g'.fr 1 nc_X12_end_1).1]
      have sz4 : (μ'.2.2.1 210 0).toInt = (μ.2.2.1 210 0).toInt := by rw [(g'.fr 210 nc_X12_end_210).1]
      have sz5 : (μ'.2.2.1 307 0).toInt = (μ.2.2.1 307 0).toInt := by rw [(g'.fr 307 nc_X12_end_307).1]
      have hw' : w.toInt = ν' 0 + 0 := hw
      have i1 : (1 : Int) ≤ ν' 1 ∧ ν' 1 ≤ 2147483647 := g'.iv 1 (Nat.le_of_ble_eq_true rfl)
      have i2 : (0 : Int) ≤ ν' 2 ∧ ν' 2 ≤ 940 := g'.iv 2 (Nat.le_of_ble_eq_true rfl)
      have d0 : ν' 2 - ν' 1 ≤ (-1) := (g'.dc _ (List.Mem.head _)).2.2
      exact hK _ w μ' ⟨⟨g'.sh, g'.hi, keepf (md := [404]) kn_X12_end_0 g'.fr hI.2.2.1, keepf (md := [404]) kn_X12_end_6 g'.fr hI.2.2.2.1, keepf (md := [404]) kn_X12_end_2 g'.fr hI.2.2.2.2.1, keepf (md := [404]) kn_X12_end_3 g'.fr hI.2.2.2.2.2⟩, rfl, by omega, ⟨sz3, sz4, sz5⟩, g'.fr⟩
    rcases List.mem_cons.mp hP with rfl | hP
    · obtain ⟨w, rfl, hw⟩ := r_int g'.gl
      have n0 : ν' 0 = 0 := g'.ag 0 (Nat.le_of_ble_eq_true rfl)
      have n1 : ν' 1 = a1.toInt := g'.ag 1 (Nat.le_of_ble_eq_true rfl)
      have n2 : ν' 2 = (μ.2.2.1 404 2).toInt := g'.ag 2 (Nat.le_of_ble_eq_true rfl)
      have sz0 : (μ'.2.2.1 404 2).toInt = ν' 1 + 0 := (g'.fa _ (List.Mem.head _)).2
      have sz1 : (μ'.2.2.1 433 0).toInt = (μ.2.2.1 433 0).toInt := by rw [(g'.fr 433 nc_X12_end_433).1]
      have sz2 : (μ'.2.2.1 433 1).toInt = (μ.2.2.1 433 1).toInt := by rw [(g'.fr 433 nc_X12_end_433).1]
      have sz3 : (μ'.2.2.1 1 1).toInt = (μ.2.2.1 1 1).toInt := by rw [(g'.fr 1 nc_X12_end_1).1]
      have sz4 : (μ'.2.2.1 210 0).toInt = (μ.2.2.1 210 0).toInt := by rw [(g'.fr 210 nc_X12_end_210).1]
      have sz5 : (μ'.2.2.1 307 0).toInt = (μ.2.2.1 307 0).toInt := by rw [(g'.fr 307 nc_X12_end_307).1]
      have hw' : w.toInt = ν' 0 + 1 := hw
      have i1 : (0 : Int) ≤ ν' 1 ∧ ν' 1 ≤ 940 := g'.iv 1 (Nat.le_of_ble_eq_true rfl)
      have i2 : (0 : Int) ≤ ν' 2 ∧ ν' 2 ≤ 940 := g'.iv 2 (Nat.le_of_ble_eq_true rfl)
      have d0 : ν' 1 - ν' 2 ≤ 0 := (g'.dc _ (List.Mem.head _)).2.2
      exact hK _ w μ' ⟨⟨g'.sh, g'.hi, keepf (md := [404]) kn_X12_end_0 g'.fr hI.2.2.1, keepf (md := [404]) kn_X12_end_6 g'.fr hI.2.2.2.1, keepf (md := [404]) kn_X12_end_2 g'.fr hI.2.2.2.2.1, keepf (md := [404]) kn_X12_end_3 g'.fr hI.2.2.2.2.2⟩, rfl, by omega, ⟨sz3, sz4, sz5⟩, g'.fr⟩
    rcases List.mem_cons.mp hP with rfl | hP
    · obtain ⟨w, rfl, hw⟩ := r_int g'.gl
      have n0 : ν' 0 = 0 := g'.ag 0 (Nat.le_of_ble_eq_true rfl)
      have n1 : ν' 1 = a1.toInt := g'.ag 1 (Nat.le_of_ble_eq_true rfl)
      have n2 : ν' 2 = (μ.2.2.1 404 2).toInt := g'.ag 2 (Nat.le_of_ble_eq_true rfl)
      have sz0 : (μ'.2.2.1 404 2).toInt = ν' 2 + 0 := (g'.fa _ (List.Mem.head _)).2
      have sz1 : (μ'.2.2.1 433 0).toInt = (μ.2.2.1 433 0).toInt := by rw [(g'.fr 433 nc_X12_end_433).1]
      have sz2 : (μ'.2.2.1 433 1).toInt = (μ.2.2.1 433 1).toInt := by rw [(g'.fr 433 nc_X12_end_433).1]
      have sz3 : (μ'.2.2.1 1 1).toInt = (μ.2.2.1 1 1).toInt := by rw [(g'.fr 1 nc_X12_end_1).1]
      have sz4 : (μ'.2.2.1 210 0).toInt = (μ.2.2.1 210 0).toInt := by rw [(g'.fr 210 nc_X12_end_210).1]
      have sz5 : (μ'.2.2.1 307 0).toInt = (μ.2.2.1 307 0).toInt := by rw [(g'.fr 307 nc_X12_end_307).1]
      have hw' : w.toInt = ν' 0 + 0 := hw
      have i1 : (-2147483648 : Int) ≤ ν' 1 ∧ ν' 1 ≤ -1 := g'.iv 1 (Nat.le_of_ble_eq_true rfl)
      have i2 : (0 : Int) ≤ ν' 2 ∧ ν' 2 ≤ 940 := g'.iv 2 (Nat.le_of_ble_eq_true rfl)
      exact hK _ w μ' ⟨⟨g'.sh, g'.hi, keepf (md := [404]) kn_X12_end_0 g'.fr hI.2.2.1, keepf (md := [404]) kn_X12_end_6 g'.fr hI.2.2.2.1, keepf (md := [404]) kn_X12_end_2 g'.fr hI.2.2.2.2.1, keepf (md := [404]) kn_X12_end_3 g'.fr hI.2.2.2.2.2⟩, rfl, by omega, ⟨sz3, sz4, sz5⟩, g'.fr⟩
    exact absurd hP List.not_mem_nil
abbrev ck_X12_fault (μ : dw_S) (r : Option Value) (w : Int32) (μ' : dw_S) : Prop := (INV μ') ∧ (r = some (.int w)) ∧ ((μ'.2.2.1 404 2).toInt = (μ.2.2.1 404 2).toInt ∧ (μ'.2.2.1 433 0).toInt = (μ.2.2.1 433 0).toInt ∧ (μ'.2.2.1 433 1).toInt = (μ.2.2.1 433 1).toInt) ∧ ((μ'.2.2.1 1 1).toInt = (μ.2.2.1 1 1).toInt ∧ (μ'.2.2.1 210 0).toInt = (μ.2.2.1 210 0).toInt ∧ (μ'.2.2.1 307 0).toInt = (μ.2.2.1 307 0).toInt) ∧ (∀ a, a ∉ [404] → μ'.2.2.1 a = μ.2.2.1 a ∧ μ'.2.2.2 a = μ.2.2.2 a)
theorem kn_X12_fault_0 : (fl_s 0).all (fun q => decide (q.1 ∉ ([404] : List Nat))) = true := by decide
theorem kn_X12_fault_6 : (fl_s 6).all (fun q => decide (q.1 ∉ ([404] : List Nat))) = true := by decide
theorem kn_X12_fault_2 : (fl_s 2).all (fun q => decide (q.1 ∉ ([404] : List Nat))) = true := by decide
theorem kn_X12_fault_3 : (fl_s 3).all (fun q => decide (q.1 ∉ ([404] : List Nat))) = true := by decide
theorem nc_X12_fault_433 : 433 ∉ ([404] : List Nat) := by decide
theorem nc_X12_fault_1 : 1 ∉ ([404] : List Nat) := by decide
theorem nc_X12_fault_210 : 210 ∉ ([404] : List Nat) := by decide
theorem nc_X12_fault_307 : 307 ∉ ([404] : List Nat) := by decide
theorem cl_X12_fault {μ : dw_S} {K : dw_K} (hI : INV μ) (hK : ∀ (r : Option Value) (w : Int32) (μ' : dw_S), ck_X12_fault μ r w μ' → K r μ') : t_X12_fault [.ref 404] μ K := by
  have h_406_0 := hI.2.1 406 0
  rw [sgc_3] at h_406_0
  have h_406_1 := hI.2.1 406 1
  rw [sgc_4] at h_406_1
  have h_406_2 := hI.2.1 406 2
  rw [sgc_5] at h_406_2
  have h_406_3 := hI.2.1 406 3
  rw [sgc_6] at h_406_3
  have h_404_38 := hI.2.1 404 38
  rw [sgc_7] at h_404_38
  have h_404_2 := hI.2.1 404 2
  rw [sgc_8] at h_404_2
  refine al_364 308 (by decide) (fun s => [(0 : Int), ((μ.2.2.1 406 0).toInt : Int), ((μ.2.2.1 406 1).toInt : Int), ((μ.2.2.1 406 2).toInt : Int), ((μ.2.2.1 406 3).toInt : Int), ((μ.2.2.1 404 38).toInt : Int), ((μ.2.2.1 404 2).toInt : Int)].getD s (0 : Int)) [.ref 404] μ K ⟨hI.1, hI.2.1, fun _ _ => ⟨rfl, rfl⟩, rfl, Nat.le_refl _, Nat.le_of_ble_eq_true rfl, fun _ _ => rfl, ?_, fun q hq => absurd hq List.not_mem_nil, ?_, trivial, ?_, ?_⟩ ?_
  · exact iv2_ok (iv := (in_308).pre.iv) (vs := [(0 : Int), ((μ.2.2.1 406 0).toInt : Int), ((μ.2.2.1 406 1).toInt : Int), ((μ.2.2.1 406 2).toInt : Int), ((μ.2.2.1 406 3).toInt : Int), ((μ.2.2.1 404 38).toInt : Int), ((μ.2.2.1 404 2).toInt : Int)]) ⟨⟨Int.le_refl 0, Int.le_refl 0⟩, h_406_0, h_406_1, h_406_2, h_406_3, h_404_38, h_404_2, trivial⟩
  · exact ⟨⟨404, List.Mem.head _, rfl⟩, trivial⟩
  · exact dx_aL.all (l := (in_308).pre.fa) ⟨⟨Nat.le_of_ble_eq_true rfl, (Int.add_zero _).symm⟩, ⟨Nat.le_of_ble_eq_true rfl, (Int.add_zero _).symm⟩, ⟨Nat.le_of_ble_eq_true rfl, (Int.add_zero _).symm⟩, ⟨Nat.le_of_ble_eq_true rfl, (Int.add_zero _).symm⟩, ⟨Nat.le_of_ble_eq_true rfl, (Int.add_zero _).symm⟩, ⟨Nat.le_of_ble_eq_true rfl, (Int.add_zero _).symm⟩, trivial⟩
  · exact dx_aL.all (l := (in_308).pre.fl) trivial
  · intro r μ' ν' P hP g'
    rcases List.mem_cons.mp hP with rfl | hP
    · obtain ⟨w, rfl, hw⟩ := r_int g'.gl
      have n0 : ν' 0 = 0 := g'.ag 0 (Nat.le_of_ble_eq_true rfl)
      have n1 : ν' 1 = (μ.2.2.1 406 0).toInt := g'.ag 1 (Nat.le_of_ble_eq_true rfl)
      have n2 : ν' 2 = (μ.2.2.1 406 1).toInt := g'.ag 2 (Nat.le_of_ble_eq_true rfl)
      have n3 : ν' 3 = (μ.2.2.1 406 2).toInt := g'.ag 3 (Nat.le_of_ble_eq_true rfl)
      have n4 : ν' 4 = (μ.2.2.1 406 3).toInt := g'.ag 4 (Nat.le_of_ble_eq_true rfl)
      have n5 : ν' 5 = (μ.2.2.1 404 38).toInt := g'.ag 5 (Nat.le_of_ble_eq_true rfl)
      have n6 : ν' 6 = (μ.2.2.1 404 2).toInt := g'.ag 6 (Nat.le_of_ble_eq_true rfl)
      have sz0 : (μ'.2.2.1 404 2).toInt = ν' 6 + 0 := (g'.fa _ (List.Mem.tail _ (List.Mem.head _))).2
      have sz1 : (μ'.2.2.1 433 0).toInt = (μ.2.2.1 433 0).toInt := by rw [(g'.fr 433 nc_X12_fault_433).1]
      have sz2 : (μ'.2.2.1 433 1).toInt = (μ.2.2.1 433 1).toInt := by rw [(g'.fr 433 nc_X12_fault_433).1]
      have sz3 : (μ'.2.2.1 1 1).toInt = (μ.2.2.1 1 1).toInt := by rw [(g'.fr 1 nc_X12_fault_1).1]
      have sz4 : (μ'.2.2.1 210 0).toInt = (μ.2.2.1 210 0).toInt := by rw [(g'.fr 210 nc_X12_fault_210).1]
      have sz5 : (μ'.2.2.1 307 0).toInt = (μ.2.2.1 307 0).toInt := by rw [(g'.fr 307 nc_X12_fault_307).1]
      have hw' : w.toInt = ν' 7 + 0 := hw
      exact hK _ w μ' ⟨⟨g'.sh, g'.hi, keepf (md := [404]) kn_X12_fault_0 g'.fr hI.2.2.1, keepf (md := [404]) kn_X12_fault_6 g'.fr hI.2.2.2.1, keepf (md := [404]) kn_X12_fault_2 g'.fr hI.2.2.2.2.1, keepf (md := [404]) kn_X12_fault_3 g'.fr hI.2.2.2.2.2⟩, rfl, by omega, ⟨sz3, sz4, sz5⟩, g'.fr⟩
    exact absurd hP List.not_mem_nil
abbrev ck_X12_feed (a1 a2 a3 a4 a5 : Int32) (μ : dw_S) (r : Option Value) (w : Int32) (μ' : dw_S) : Prop := (INV μ') ∧ (r = some (.int w)) ∧ (((921 ≤ (μ.2.2.1 404 2).toInt ∧ w.toInt = -1 ∧ (μ'.2.2.1 404 2).toInt = (μ.2.2.1 404 2).toInt) ∨ ((μ.2.2.1 404 2).toInt ≤ 920 ∧ w.toInt = (μ.2.2.1 404 2).toInt + 20 ∧ (μ'.2.2.1 404 2).toInt = (μ.2.2.1 404 2).toInt + 20)) ∧ (μ'.2.2.1 433 0).toInt = (μ.2.2.1 433 0).toInt ∧ (μ'.2.2.1 433 1).toInt = (μ.2.2.1 433 1).toInt) ∧ ((μ'.2.2.1 1 1).toInt = (μ.2.2.1 1 1).toInt ∧ (μ'.2.2.1 210 0).toInt = (μ.2.2.1 210 0).toInt ∧ (μ'.2.2.1 307 0).toInt = (μ.2.2.1 307 0).toInt) ∧ (∀ a, a ∉ [404, 405] → μ'.2.2.1 a = μ.2.2.1 a ∧ μ'.2.2.2 a = μ.2.2.2 a)
theorem kn_X12_feed_0 : (fl_s 0).all (fun q => decide (q.1 ∉ ([404, 405] : List Nat))) = true := by decide
theorem kn_X12_feed_6 : (fl_s 6).all (fun q => decide (q.1 ∉ ([404, 405] : List Nat))) = true := by decide
theorem kn_X12_feed_2 : (fl_s 2).all (fun q => decide (q.1 ∉ ([404, 405] : List Nat))) = true := by decide
theorem kn_X12_feed_3 : (fl_s 3).all (fun q => decide (q.1 ∉ ([404, 405] : List Nat))) = true := by decide
theorem nc_X12_feed_433 : 433 ∉ ([404, 405] : List Nat) := by decide
theorem nc_X12_feed_1 : 1 ∉ ([404, 405] : List Nat) := by decide
theorem nc_X12_feed_210 : 210 ∉ ([404, 405] : List Nat) := by decide
theorem nc_X12_feed_307 : 307 ∉ ([404, 405] : List Nat) := by decide
theorem cl_X12_feed {μ : dw_S} {K : dw_K} {a1 a2 a3 a4 a5 : Int32} (hI : INV μ) (hK : ∀ (r : Option Value) (w : Int32) (μ' : dw_S), ck_X12_feed a1 a2 a3 a4 a5 μ r w μ' → K r μ') : t_X12_feed [.ref 404, .int a1, .int a2, .int a3, .int a4, .int a5] μ K := by
  have h_404_2 := hI.2.1 404 2
  rw [sgc_8] at h_404_2
  refine al_364 314 (by decide) (fun s => [(0 : Int), (a1.toInt : Int), (a2.toInt : Int), (a3.toInt : Int), (a4.toInt : Int), (a5.toInt : Int), ((μ.2.2.1 404 2).toInt : Int)].getD s (0 : Int)) [.ref 404, .int a1, .int a2, .int a3, .int a4, .int a5] μ K ⟨hI.1, hI.2.1, fun _ _ => ⟨rfl, rfl⟩, rfl, Nat.le_refl _, Nat.le_of_ble_eq_true rfl, fun _ _ => rfl, ?_, fun q hq => absurd hq List.not_mem_nil, ?_, trivial, ?_, ?_⟩ ?_
  · exact iv2_ok (iv := (in_314).pre.iv) (vs := [(0 : Int), (a1.toInt : Int), (a2.toInt : Int), (a3.toInt : Int), (a4.toInt : Int), (a5.toInt : Int), ((μ.2.2.1 404 2).toInt : Int)]) ⟨⟨Int.le_refl 0, Int.le_refl 0⟩, ⟨dx_b1 _, dx_b2 _⟩, ⟨dx_b1 _, dx_b2 _⟩, ⟨dx_b1 _, dx_b2 _⟩, ⟨dx_b1 _, dx_b2 _⟩, ⟨dx_b1 _, dx_b2 _⟩, h_404_2, trivial⟩
  · exact ⟨⟨404, List.Mem.head _, rfl⟩, ⟨Nat.le_of_ble_eq_true rfl, a1, rfl, (Int.add_zero _).symm⟩, ⟨Nat.le_of_ble_eq_true rfl, a2, rfl, (Int.add_zero _).symm⟩, ⟨Nat.le_of_ble_eq_true rfl, a3, rfl, (Int.add_zero _).symm⟩, ⟨Nat.le_of_ble_eq_true rfl, a4, rfl, (Int.add_zero _).symm⟩, ⟨Nat.le_of_ble_eq_true rfl, a5, rfl, (Int.add_zero _).symm⟩, trivial⟩
  · exact dx_aL.all (l := (in_314).pre.fa) ⟨⟨Nat.le_of_ble_eq_true rfl, (Int.add_zero _).symm⟩, trivial⟩
  · exact dx_aL.all (l := (in_314).pre.fl) trivial
  · intro r μ' ν' P hP g'
    rcases List.mem_cons.mp hP with rfl | hP
    · obtain ⟨w, rfl, hw⟩ := r_int g'.gl
      have n0 : ν' 0 = 0 := g'.ag 0 (Nat.le_of_ble_eq_true rfl)
      have n1 : ν' 1 = a1.toInt := g'.ag 1 (Nat.le_of_ble_eq_true rfl)
      have n2 : ν' 2 = a2.toInt := g'.ag 2 (Nat.le_of_ble_eq_true rfl)
      have n3 : ν' 3 = a3.toInt := g'.ag 3 (Nat.le_of_ble_eq_true rfl)
      have n4 : ν' 4 = a4.toInt := g'.ag 4 (Nat.le_of_ble_eq_true rfl)
      have n5 : ν' 5 = a5.toInt := g'.ag 5 (Nat.le_of_ble_eq_true rfl)
      have n6 : ν' 6 = (μ.2.2.1 404 2).toInt := g'.ag 6 (Nat.le_of_ble_eq_true rfl)
      have sz0 : (μ'.2.2.1 404 2).toInt = ν' 6 + 0 := (g'.fa _ (List.Mem.head _)).2
      have sz1 : (μ'.2.2.1 433 0).toInt = (μ.2.2.1 433 0).toInt := by rw [(g'.fr 433 nc_X12_feed_433).1]
      have sz2 : (μ'.2.2.1 433 1).toInt = (μ.2.2.1 433 1).toInt := by rw [(g'.fr 433 nc_X12_feed_433).1]
      have sz3 : (μ'.2.2.1 1 1).toInt = (μ.2.2.1 1 1).toInt := by rw [(g'.fr 1 nc_X12_feed_1).1]
      have sz4 : (μ'.2.2.1 210 0).toInt = (μ.2.2.1 210 0).toInt := by rw [(g'.fr 210 nc_X12_feed_210).1]
      have sz5 : (μ'.2.2.1 307 0).toInt = (μ.2.2.1 307 0).toInt := by rw [(g'.fr 307 nc_X12_feed_307).1]
      have hw' : w.toInt = ν' 0 + (-1) := hw
      have i1 : (-2147483648 : Int) ≤ ν' 1 ∧ ν' 1 ≤ 2147483647 := g'.iv 1 (Nat.le_of_ble_eq_true rfl)
      have i2 : (-2147483648 : Int) ≤ ν' 2 ∧ ν' 2 ≤ 2147483647 := g'.iv 2 (Nat.le_of_ble_eq_true rfl)
      have i3 : (-2147483648 : Int) ≤ ν' 3 ∧ ν' 3 ≤ 2147483647 := g'.iv 3 (Nat.le_of_ble_eq_true rfl)
      have i4 : (-2147483648 : Int) ≤ ν' 4 ∧ ν' 4 ≤ 2147483647 := g'.iv 4 (Nat.le_of_ble_eq_true rfl)
      have i5 : (-2147483648 : Int) ≤ ν' 5 ∧ ν' 5 ≤ 2147483647 := g'.iv 5 (Nat.le_of_ble_eq_true rfl)
      have i6 : (921 : Int) ≤ ν' 6 ∧ ν' 6 ≤ 940 := g'.iv 6 (Nat.le_of_ble_eq_true rfl)
      exact hK _ w μ' ⟨⟨g'.sh, g'.hi, keepf (md := [404, 405]) kn_X12_feed_0 g'.fr hI.2.2.1, keepf (md := [404, 405]) kn_X12_feed_6 g'.fr hI.2.2.2.1, keepf (md := [404, 405]) kn_X12_feed_2 g'.fr hI.2.2.2.2.1, keepf (md := [404, 405]) kn_X12_feed_3 g'.fr hI.2.2.2.2.2⟩, rfl, by omega, ⟨sz3, sz4, sz5⟩, g'.fr⟩
    rcases List.mem_cons.mp hP with rfl | hP
    · obtain ⟨w, rfl, hw⟩ := r_int g'.gl
      have n0 : ν' 0 = 0 := g'.ag 0 (Nat.le_of_ble_eq_true rfl)
      have n1 : ν' 1 = a1.toInt := g'.ag 1 (Nat.le_of_ble_eq_true rfl)
      have n2 : ν' 2 = a2.toInt := g'.ag 2 (Nat.le_of_ble_eq_true rfl)
      have n3 : ν' 3 = a3.toInt := g'.ag 3 (Nat.le_of_ble_eq_true rfl)
      have n4 : ν' 4 = a4.toInt := g'.ag 4 (Nat.le_of_ble_eq_true rfl)
      have n5 : ν' 5 = a5.toInt := g'.ag 5 (Nat.le_of_ble_eq_true rfl)
      have n6 : ν' 6 = (μ.2.2.1 404 2).toInt := g'.ag 6 (Nat.le_of_ble_eq_true rfl)
      have sz0 : (μ'.2.2.1 404 2).toInt = ν' 6 + 20 := (g'.fa _ (List.Mem.head _)).2
      have sz1 : (μ'.2.2.1 433 0).toInt = (μ.2.2.1 433 0).toInt := by rw [(g'.fr 433 nc_X12_feed_433).1]
      have sz2 : (μ'.2.2.1 433 1).toInt = (μ.2.2.1 433 1).toInt := by rw [(g'.fr 433 nc_X12_feed_433).1]
      have sz3 : (μ'.2.2.1 1 1).toInt = (μ.2.2.1 1 1).toInt := by rw [(g'.fr 1 nc_X12_feed_1).1]
      have sz4 : (μ'.2.2.1 210 0).toInt = (μ.2.2.1 210 0).toInt := by rw [(g'.fr 210 nc_X12_feed_210).1]
      have sz5 : (μ'.2.2.1 307 0).toInt = (μ.2.2.1 307 0).toInt := by rw [(g'.fr 307 nc_X12_feed_307).1]
      have hw' : w.toInt = ν' 6 + 20 := hw
      have i1 : (-2147483648 : Int) ≤ ν' 1 ∧ ν' 1 ≤ 2147483647 := g'.iv 1 (Nat.le_of_ble_eq_true rfl)
      have i2 : (-2147483648 : Int) ≤ ν' 2 ∧ ν' 2 ≤ 2147483647 := g'.iv 2 (Nat.le_of_ble_eq_true rfl)
      have i3 : (-2147483648 : Int) ≤ ν' 3 ∧ ν' 3 ≤ 2147483647 := g'.iv 3 (Nat.le_of_ble_eq_true rfl)
      have i4 : (-2147483648 : Int) ≤ ν' 4 ∧ ν' 4 ≤ 2147483647 := g'.iv 4 (Nat.le_of_ble_eq_true rfl)
      have i5 : (-2147483648 : Int) ≤ ν' 5 ∧ ν' 5 ≤ 2147483647 := g'.iv 5 (Nat.le_of_ble_eq_true rfl)
      have i6 : (0 : Int) ≤ ν' 6 ∧ ν' 6 ≤ 920 := g'.iv 6 (Nat.le_of_ble_eq_true rfl)
      exact hK _ w μ' ⟨⟨g'.sh, g'.hi, keepf (md := [404, 405]) kn_X12_feed_0 g'.fr hI.2.2.1, keepf (md := [404, 405]) kn_X12_feed_6 g'.fr hI.2.2.2.1, keepf (md := [404, 405]) kn_X12_feed_2 g'.fr hI.2.2.2.2.1, keepf (md := [404, 405]) kn_X12_feed_3 g'.fr hI.2.2.2.2.2⟩, rfl, by omega, ⟨sz3, sz4, sz5⟩, g'.fr⟩
    exact absurd hP List.not_mem_nil
abbrev ck_X12_frost (a1 a2 a3 : Int32) (μ : dw_S) (r : Option Value) (w : Int32) (μ' : dw_S) : Prop := (INV μ') ∧ (r = some (.int w)) ∧ ((μ'.2.2.1 404 2).toInt = (μ.2.2.1 404 2).toInt ∧ (μ'.2.2.1 433 0).toInt = (μ.2.2.1 433 0).toInt ∧ (μ'.2.2.1 433 1).toInt = (μ.2.2.1 433 1).toInt) ∧ ((μ'.2.2.1 1 1).toInt = (μ.2.2.1 1 1).toInt ∧ (μ'.2.2.1 210 0).toInt = (μ.2.2.1 210 0).toInt ∧ (μ'.2.2.1 307 0).toInt = (μ.2.2.1 307 0).toInt) ∧ (∀ a, a ∉ [404, 411, 412, 413, 414, 415, 416, 417, 418, 419] → μ'.2.2.1 a = μ.2.2.1 a ∧ μ'.2.2.2 a = μ.2.2.2 a)
theorem nc_X12_frost_433 : 433 ∉ ([404, 411, 412, 413, 414, 415, 416, 417, 418, 419] : List Nat) := by decide
theorem nc_X12_frost_1 : 1 ∉ ([404, 411, 412, 413, 414, 415, 416, 417, 418, 419] : List Nat) := by decide
theorem nc_X12_frost_210 : 210 ∉ ([404, 411, 412, 413, 414, 415, 416, 417, 418, 419] : List Nat) := by decide
theorem nc_X12_frost_307 : 307 ∉ ([404, 411, 412, 413, 414, 415, 416, 417, 418, 419] : List Nat) := by decide
theorem cl_X12_frost {μ : dw_S} {K : dw_K} {a1 a2 a3 : Int32} (hI : INV μ) (hK : ∀ (r : Option Value) (w : Int32) (μ' : dw_S), ck_X12_frost a1 a2 a3 μ r w μ' → K r μ') : t_X12_frost [.ref 404, .int a1, .int a2, .int a3] μ K := by
  have h_406_0 := hI.2.1 406 0
  rw [sgc_3] at h_406_0
  have h_406_1 := hI.2.1 406 1
  rw [sgc_4] at h_406_1
  have h_406_2 := hI.2.1 406 2
  rw [sgc_5] at h_406_2
  have h_406_3 := hI.2.1 406 3
  rw [sgc_6] at h_406_3
  have h_404_38 := hI.2.1 404 38
  rw [sgc_7] at h_404_38
  have h_404_2 := hI.2.1 404 2
  rw [sgc_8] at h_404_2
  refine al_364 315 (by decide) (fun s => [(0 : Int), (a1.toInt : Int), (a2.toInt : Int), (a3.toInt : Int), ((μ.2.2.1 406 0).toInt : Int), ((μ.2.2.1 406 1).toInt : Int), ((μ.2.2.1 406 2).toInt : Int), ((μ.2.2.1 406 3).toInt : Int), ((μ.2.2.1 404 38).toInt : Int), ((μ.2.2.1 404 2).toInt : Int)].getD s (0 : Int)) [.ref 404, .int a1, .int a2, .int a3] μ K ⟨hI.1, hI.2.1, fun _ _ => ⟨rfl, rfl⟩, rfl, Nat.le_refl _, Nat.le_of_ble_eq_true rfl, fun _ _ => rfl, ?_, fun q hq => absurd hq List.not_mem_nil, ?_, trivial, ?_, ?_⟩ ?_
  · exact iv2_ok (iv := (in_315).pre.iv) (vs := [(0 : Int), (a1.toInt : Int), (a2.toInt : Int), (a3.toInt : Int), ((μ.2.2.1 406 0).toInt : Int), ((μ.2.2.1 406 1).toInt : Int), ((μ.2.2.1 406 2).toInt : Int), ((μ.2.2.1 406 3).toInt : Int), ((μ.2.2.1 404 38).toInt : Int), ((μ.2.2.1 404 2).toInt : Int)]) ⟨⟨Int.le_refl 0, Int.le_refl 0⟩, ⟨dx_b1 _, dx_b2 _⟩, ⟨dx_b1 _, dx_b2 _⟩, ⟨dx_b1 _, dx_b2 _⟩, h_406_0, h_406_1, h_406_2, h_406_3, h_404_38, h_404_2, trivial⟩
  · exact ⟨⟨404, List.Mem.head _, rfl⟩, ⟨Nat.le_of_ble_eq_true rfl, a1, rfl, (Int.add_zero _).symm⟩, ⟨Nat.le_of_ble_eq_true rfl, a2, rfl, (Int.add_zero _).symm⟩, ⟨Nat.le_of_ble_eq_true rfl, a3, rfl, (Int.add_zero _).symm⟩, trivial⟩
  · exact dx_aL.all (l := (in_315).pre.fa) ⟨⟨Nat.le_of_ble_eq_true rfl, (Int.add_zero _).symm⟩, ⟨Nat.le_of_ble_eq_true rfl, (Int.add_zero _).symm⟩, ⟨Nat.le_of_ble_eq_true rfl, (Int.add_zero _).symm⟩, ⟨Nat.le_of_ble_eq_true rfl, (Int.add_zero _).symm⟩, ⟨Nat.le_of_ble_eq_true rfl, (Int.add_zero _).symm⟩, ⟨Nat.le_of_ble_eq_true rfl, (Int.add_zero _).symm⟩, trivial⟩
  · exact dx_aL.all (l := (in_315).pre.fl) ⟨⟨Nat.le_of_ble_eq_true rfl, hI.2.2.1⟩, ⟨Nat.le_of_ble_eq_true rfl, hI.2.2.2.1⟩, ⟨Nat.le_of_ble_eq_true rfl, hI.2.2.2.2.1⟩, ⟨Nat.le_of_ble_eq_true rfl, hI.2.2.2.2.2⟩, trivial⟩
  · intro r μ' ν' P hP g'
    rcases List.mem_cons.mp hP with rfl | hP
    · obtain ⟨w, rfl, hw⟩ := r_int g'.gl
      have n0 : ν' 0 = 0 := g'.ag 0 (Nat.le_of_ble_eq_true rfl)
      have n1 : ν' 1 = a1.toInt := g'.ag 1 (Nat.le_of_ble_eq_true rfl)
      have n2 : ν' 2 = a2.toInt := g'.ag 2 (Nat.le_of_ble_eq_true rfl)
      have n3 : ν' 3 = a3.toInt := g'.ag 3 (Nat.le_of_ble_eq_true rfl)
      have n4 : ν' 4 = (μ.2.2.1 406 0).toInt := g'.ag 4 (Nat.le_of_ble_eq_true rfl)
      have n5 : ν' 5 = (μ.2.2.1 406 1).toInt := g'.ag 5 (Nat.le_of_ble_eq_true rfl)
      have n6 : ν' 6 = (μ.2.2.1 406 2).toInt := g'.ag 6 (Nat.le_of_ble_eq_true rfl)
      have n7 : ν' 7 = (μ.2.2.1 406 3).toInt := g'.ag 7 (Nat.le_of_ble_eq_true rfl)
      have n8 : ν' 8 = (μ.2.2.1 404 38).toInt := g'.ag 8 (Nat.le_of_ble_eq_true rfl)
      have n9 : ν' 9 = (μ.2.2.1 404 2).toInt := g'.ag 9 (Nat.le_of_ble_eq_true rfl)
      have sz0 : (μ'.2.2.1 404 2).toInt = ν' 9 + 0 := (g'.fa _ (List.Mem.tail _ (List.Mem.head _))).2
      have sz1 : (μ'.2.2.1 433 0).toInt = (μ.2.2.1 433 0).toInt := by rw [(g'.fr 433 nc_X12_frost_433).1]
      have sz2 : (μ'.2.2.1 433 1).toInt = (μ.2.2.1 433 1).toInt := by rw [(g'.fr 433 nc_X12_frost_433).1]
      have sz3 : (μ'.2.2.1 1 1).toInt = (μ.2.2.1 1 1).toInt := by rw [(g'.fr 1 nc_X12_frost_1).1]
      have sz4 : (μ'.2.2.1 210 0).toInt = (μ.2.2.1 210 0).toInt := by rw [(g'.fr 210 nc_X12_frost_210).1]
      have sz5 : (μ'.2.2.1 307 0).toInt = (μ.2.2.1 307 0).toInt := by rw [(g'.fr 307 nc_X12_frost_307).1]
      have hw' : w.toInt = ν' 0 + (-1) := hw
      exact hK _ w μ' ⟨⟨g'.sh, g'.hi, (g'.fl _ (List.Mem.head _)).2, (g'.fl _ (List.Mem.tail _ (List.Mem.head _))).2, (g'.fl _ (List.Mem.tail _ (List.Mem.tail _ (List.Mem.head _)))).2, (g'.fl _ (List.Mem.tail _ (List.Mem.tail _ (List.Mem.tail _ (List.Mem.head _))))).2⟩, rfl, by omega, ⟨sz3, sz4, sz5⟩, g'.fr⟩
    rcases List.mem_cons.mp hP with rfl | hP
    · obtain ⟨w, rfl, hw⟩ := r_int g'.gl
      have n0 : ν' 0 = 0 := g'.ag 0 (Nat.le_of_ble_eq_true rfl)
      have n1 : ν' 1 = a1.toInt := g'.ag 1 (Nat.le_of_ble_eq_true rfl)
      have n2 : ν' 2 = a2.toInt := g'.ag 2 (Nat.le_of_ble_eq_true rfl)
      have n3 : ν' 3 = a3.toInt := g'.ag 3 (Nat.le_of_ble_eq_true rfl)
      have n4 : ν' 4 = (μ.2.2.1 406 0).toInt := g'.ag 4 (Nat.le_of_ble_eq_true rfl)
      have n5 : ν' 5 = (μ.2.2.1 406 1).toInt := g'.ag 5 (Nat.le_of_ble_eq_true rfl)
      have n6 : ν' 6 = (μ.2.2.1 406 2).toInt := g'.ag 6 (Nat.le_of_ble_eq_true rfl)
      have n7 : ν' 7 = (μ.2.2.1 406 3).toInt := g'.ag 7 (Nat.le_of_ble_eq_true rfl)
      have n8 : ν' 8 = (μ.2.2.1 404 38).toInt := g'.ag 8 (Nat.le_of_ble_eq_true rfl)
      have n9 : ν' 9 = (μ.2.2.1 404 2).toInt := g'.ag 9 (Nat.le_of_ble_eq_true rfl)
      have sz0 : (μ'.2.2.1 404 2).toInt = ν' 9 + 0 := (g'.fa _ (List.Mem.tail _ (List.Mem.head _))).2
      have sz1 : (μ'.2.2.1 433 0).toInt = (μ.2.2.1 433 0).toInt := by rw [(g'.fr 433 nc_X12_frost_433).1]
      have sz2 : (μ'.2.2.1 433 1).toInt = (μ.2.2.1 433 1).toInt := by rw [(g'.fr 433 nc_X12_frost_433).1]
      have sz3 : (μ'.2.2.1 1 1).toInt = (μ.2.2.1 1 1).toInt := by rw [(g'.fr 1 nc_X12_frost_1).1]
      have sz4 : (μ'.2.2.1 210 0).toInt = (μ.2.2.1 210 0).toInt := by rw [(g'.fr 210 nc_X12_frost_210).1]
      have sz5 : (μ'.2.2.1 307 0).toInt = (μ.2.2.1 307 0).toInt := by rw [(g'.fr 307 nc_X12_frost_307).1]
      have hw' : w.toInt = ν' 10 + 0 := hw
      have i1 : (0 : Int) ≤ ν' 1 ∧ ν' 1 ≤ 5 := g'.iv 1 (Nat.le_of_ble_eq_true rfl)
      have i2 : (0 : Int) ≤ ν' 2 ∧ ν' 2 ≤ 11 := g'.iv 2 (Nat.le_of_ble_eq_true rfl)
      have i3 : (0 : Int) ≤ ν' 3 ∧ ν' 3 ≤ 11 := g'.iv 3 (Nat.le_of_ble_eq_true rfl)
      have i4 : (1 : Int) ≤ ν' 4 ∧ ν' 4 ≤ 12 := g'.iv 4 (Nat.le_of_ble_eq_true rfl)
      have i5 : (1 : Int) ≤ ν' 5 ∧ ν' 5 ≤ 12 := g'.iv 5 (Nat.le_of_ble_eq_true rfl)
      have d0 : ν' 2 - ν' 4 ≤ (-1) := (g'.dc _ (List.Mem.head _)).2.2
      have d1 : ν' 3 - ν' 5 ≤ (-1) := (g'.dc _ (List.Mem.tail _ (List.Mem.head _))).2.2
      exact hK _ w μ' ⟨⟨g'.sh, g'.hi, (g'.fl _ (List.Mem.tail _ (List.Mem.tail _ (List.Mem.head _)))).2, (g'.fl _ (List.Mem.tail _ (List.Mem.tail _ (List.Mem.tail _ (List.Mem.head _))))).2, (g'.fl _ (List.Mem.tail _ (List.Mem.tail _ (List.Mem.tail _ (List.Mem.tail _ (List.Mem.head _)))))).2, (g'.fl _ (List.Mem.tail _ (List.Mem.tail _ (List.Mem.tail _ (List.Mem.tail _ (List.Mem.tail _ (List.Mem.head _))))))).2⟩, rfl, by omega, ⟨sz3, sz4, sz5⟩, g'.fr⟩
    exact absurd hP List.not_mem_nil
abbrev ck_X12_go (a1 : Int32) (μ : dw_S) (r : Option Value) (w : Int32) (μ' : dw_S) : Prop := (INV μ') ∧ (r = some (.int w)) ∧ ((μ'.2.2.1 404 2).toInt = (μ.2.2.1 404 2).toInt ∧ (μ'.2.2.1 433 0).toInt = (μ.2.2.1 433 0).toInt ∧ (μ'.2.2.1 433 1).toInt = (μ.2.2.1 433 1).toInt) ∧ ((μ'.2.2.1 1 1).toInt = (μ.2.2.1 1 1).toInt ∧ (μ'.2.2.1 210 0).toInt = (μ.2.2.1 210 0).toInt ∧ (μ'.2.2.1 307 0).toInt = (μ.2.2.1 307 0).toInt) ∧ (∀ a, a ∉ [404, 406, 411, 412, 413, 414, 415, 416, 417, 418, 419, 420, 421] → μ'.2.2.1 a = μ.2.2.1 a ∧ μ'.2.2.2 a = μ.2.2.2 a)
theorem nc_X12_go_433 : 433 ∉ ([404, 406, 411, 412, 413, 414, 415, 416, 417, 418, 419, 420, 421] : List Nat) := by decide
theorem nc_X12_go_1 : 1 ∉ ([404, 406, 411, 412, 413, 414, 415, 416, 417, 418, 419, 420, 421] : List Nat) := by decide
theorem nc_X12_go_210 : 210 ∉ ([404, 406, 411, 412, 413, 414, 415, 416, 417, 418, 419, 420, 421] : List Nat) := by decide
theorem nc_X12_go_307 : 307 ∉ ([404, 406, 411, 412, 413, 414, 415, 416, 417, 418, 419, 420, 421] : List Nat) := by decide
theorem cl_X12_go {μ : dw_S} {K : dw_K} {a1 : Int32} (hI : INV μ) (hK : ∀ (r : Option Value) (w : Int32) (μ' : dw_S), ck_X12_go a1 μ r w μ' → K r μ') : t_X12_go [.ref 404, .int a1] μ K := by
  have h_406_0 := hI.2.1 406 0
  rw [sgc_3] at h_406_0
  have h_406_1 := hI.2.1 406 1
  rw [sgc_4] at h_406_1
  have h_406_2 := hI.2.1 406 2
  rw [sgc_5] at h_406_2
  have h_406_3 := hI.2.1 406 3
  rw [sgc_6] at h_406_3
  have h_404_38 := hI.2.1 404 38
  rw [sgc_7] at h_404_38
  have h_404_2 := hI.2.1 404 2
  rw [sgc_8] at h_404_2
  refine al_364 321 (by decide) (fun s => [(0 : Int), (a1.toInt : Int), ((μ.2.2.1 406 0).toInt : Int), ((μ.2.2.1 406 1).toInt : Int), ((μ.2.2.1 406 2).toInt : Int), ((μ.2.2.1 406 3).toInt : Int), ((μ.2.2.1 404 38).toInt : Int), ((μ.2.2.1 404 2).toInt : Int)].getD s (0 : Int)) [.ref 404, .int a1] μ K ⟨hI.1, hI.2.1, fun _ _ => ⟨rfl, rfl⟩, rfl, Nat.le_refl _, Nat.le_of_ble_eq_true rfl, fun _ _ => rfl, ?_, fun q hq => absurd hq List.not_mem_nil, ?_, trivial, ?_, ?_⟩ ?_
  · exact iv2_ok (iv := (in_321).pre.iv) (vs := [(0 : Int), (a1.toInt : Int), ((μ.2.2.1 406 0).toInt : Int), ((μ.2.2.1 406 1).toInt : Int), ((μ.2.2.1 406 2).toInt : Int), ((μ.2.2.1 406 3).toInt : Int), ((μ.2.2.1 404 38).toInt : Int), ((μ.2.2.1 404 2).toInt : Int)]) ⟨⟨Int.le_refl 0, Int.le_refl 0⟩, ⟨dx_b1 _, dx_b2 _⟩, h_406_0, h_406_1, h_406_2, h_406_3, h_404_38, h_404_2, trivial⟩
  · exact ⟨⟨404, List.Mem.head _, rfl⟩, ⟨Nat.le_of_ble_eq_true rfl, a1, rfl, (Int.add_zero _).symm⟩, trivial⟩
  · exact dx_aL.all (l := (in_321).pre.fa) ⟨⟨Nat.le_of_ble_eq_true rfl, (Int.add_zero _).symm⟩, ⟨Nat.le_of_ble_eq_true rfl, (Int.add_zero _).symm⟩, ⟨Nat.le_of_ble_eq_true rfl, (Int.add_zero _).symm⟩, ⟨Nat.le_of_ble_eq_true rfl, (Int.add_zero _).symm⟩, ⟨Nat.le_of_ble_eq_true rfl, (Int.add_zero _).symm⟩, ⟨Nat.le_of_ble_eq_true rfl, (Int.add_zero _).symm⟩, trivial⟩
  · exact dx_aL.all (l := (in_321).pre.fl) ⟨⟨Nat.le_of_ble_eq_true rfl, hI.2.2.1⟩, ⟨Nat.le_of_ble_eq_true rfl, hI.2.2.2.1⟩, ⟨Nat.le_of_ble_eq_true rfl, hI.2.2.2.2.1⟩, ⟨Nat.le_of_ble_eq_true rfl, hI.2.2.2.2.2⟩, trivial⟩
  · intro r μ' ν' P hP g'
    rcases List.mem_cons.mp hP with rfl | hP
    · obtain ⟨w, rfl, hw⟩ := r_int g'.gl
      have n0 : ν' 0 = 0 := g'.ag 0 (Nat.le_of_ble_eq_true rfl)
      have n1 : ν' 1 = a1.toInt := g'.ag 1 (Nat.le_of_ble_eq_true rfl)
      have n2 : ν' 2 = (μ.2.2.1 406 0).toInt := g'.ag 2 (Nat.le_of_ble_eq_true rfl)
      have n3 : ν' 3 = (μ.2.2.1 406 1).toInt := g'.ag 3 (Nat.le_of_ble_eq_true rfl)
      have n4 : ν' 4 = (μ.2.2.1 406 2).toInt := g'.ag 4 (Nat.le_of_ble_eq_true rfl)
      have n5 : ν' 5 = (μ.2.2.1 406 3).toInt := g'.ag 5 (Nat.le_of_ble_eq_true rfl)
      have n6 : ν' 6 = (μ.2.2.1 404 38).toInt := g'.ag 6 (Nat.le_of_ble_eq_true rfl)
      have n7 : ν' 7 = (μ.2.2.1 404 2).toInt := g'.ag 7 (Nat.le_of_ble_eq_true rfl)
      have sz0 : (μ'.2.2.1 404 2).toInt = ν' 7 + 0 := (g'.fa _ (List.Mem.tail _ (List.Mem.tail _ (List.Mem.tail _ (List.Mem.tail _ (List.Mem.tail _ (List.Mem.head _))))))).2
      have sz1 : (μ'.2.2.1 433 0).toInt = (μ.2.2.1 433 0).toInt := by rw [(g'.fr 433 nc_X12_go_433).1]
      have sz2 : (μ'.2.2.1 433 1).toInt = (μ.2.2.1 433 1).toInt := by rw [(g'.fr 433 nc_X12_go_433).1]
      have sz3 : (μ'.2.2.1 1 1).toInt = (μ.2.2.1 1 1).toInt := by rw [(g'.fr 1 nc_X12_go_1).1]
      have sz4 : (μ'.2.2.1 210 0).toInt = (μ.2.2.1 210 0).toInt := by rw [(g'.fr 210 nc_X12_go_210).1]
      have sz5 : (μ'.2.2.1 307 0).toInt = (μ.2.2.1 307 0).toInt := by rw [(g'.fr 307 nc_X12_go_307).1]
      have hw' : w.toInt = ν' 0 + (-2) := hw
      exact hK _ w μ' ⟨⟨g'.sh, g'.hi, (g'.fl _ (List.Mem.head _)).2, (g'.fl _ (List.Mem.tail _ (List.Mem.head _))).2, (g'.fl _ (List.Mem.tail _ (List.Mem.tail _ (List.Mem.head _)))).2, (g'.fl _ (List.Mem.tail _ (List.Mem.tail _ (List.Mem.tail _ (List.Mem.head _))))).2⟩, rfl, by omega, ⟨sz3, sz4, sz5⟩, g'.fr⟩
    rcases List.mem_cons.mp hP with rfl | hP
    · obtain ⟨w, rfl, hw⟩ := r_int g'.gl
      have n0 : ν' 0 = 0 := g'.ag 0 (Nat.le_of_ble_eq_true rfl)
      have n1 : ν' 1 = a1.toInt := g'.ag 1 (Nat.le_of_ble_eq_true rfl)
      have n2 : ν' 2 = (μ.2.2.1 406 0).toInt := g'.ag 2 (Nat.le_of_ble_eq_true rfl)
      have n3 : ν' 3 = (μ.2.2.1 406 1).toInt := g'.ag 3 (Nat.le_of_ble_eq_true rfl)
      have n4 : ν' 4 = (μ.2.2.1 406 2).toInt := g'.ag 4 (Nat.le_of_ble_eq_true rfl)
      have n5 : ν' 5 = (μ.2.2.1 406 3).toInt := g'.ag 5 (Nat.le_of_ble_eq_true rfl)
      have n6 : ν' 6 = (μ.2.2.1 404 38).toInt := g'.ag 6 (Nat.le_of_ble_eq_true rfl)
      have n7 : ν' 7 = (μ.2.2.1 404 2).toInt := g'.ag 7 (Nat.le_of_ble_eq_true rfl)
      have sz0 : (μ'.2.2.1 404 2).toInt = ν' 7 + 0 := (g'.fa _ (List.Mem.tail _ (List.Mem.tail _ (List.Mem.tail _ (List.Mem.tail _ (List.Mem.tail _ (List.Mem.head _))))))).2
      have sz1 : (μ'.2.2.1 433 0).toInt = (μ.2.2.1 433 0).toInt := by rw [(g'.fr 433 nc_X12_go_433).1]
      have sz2 : (μ'.2.2.1 433 1).toInt = (μ.2.2.1 433 1).toInt := by rw [(g'.fr 433 nc_X12_go_433).1]
      have sz3 : (μ'.2.2.1 1 1).toInt = (μ.2.2.1 1 1).toInt := by rw [(g'.fr 1 nc_X12_go_1).1]
      have sz4 : (μ'.2.2.1 210 0).toInt = (μ.2.2.1 210 0).toInt := by rw [(g'.fr 210 nc_X12_go_210).1]
      have sz5 : (μ'.2.2.1 307 0).toInt = (μ.2.2.1 307 0).toInt := by rw [(g'.fr 307 nc_X12_go_307).1]
      have hw' : w.toInt = ν' 8 + 0 := hw
      have i1 : (0 : Int) ≤ ν' 1 ∧ ν' 1 ≤ 1 := g'.iv 1 (Nat.le_of_ble_eq_true rfl)
      exact hK _ w μ' ⟨⟨g'.sh, g'.hi, (g'.fl _ (List.Mem.tail _ (List.Mem.head _))).2, (g'.fl _ (List.Mem.tail _ (List.Mem.tail _ (List.Mem.head _)))).2, (g'.fl _ (List.Mem.tail _ (List.Mem.tail _ (List.Mem.tail _ (List.Mem.tail _ (List.Mem.head _)))))).2, (g'.fl _ (List.Mem.tail _ (List.Mem.tail _ (List.Mem.tail _ (List.Mem.tail _ (List.Mem.tail _ (List.Mem.head _))))))).2⟩, rfl, by omega, ⟨sz3, sz4, sz5⟩, g'.fr⟩
    exact absurd hP List.not_mem_nil
abbrev ck_X12_gone (a1 a2 a3 : Int32) (μ : dw_S) (r : Option Value) (w : Int32) (μ' : dw_S) : Prop := (INV μ') ∧ (r = some (.int w)) ∧ ((μ'.2.2.1 404 2).toInt = (μ.2.2.1 404 2).toInt ∧ (μ'.2.2.1 433 0).toInt = (μ.2.2.1 433 0).toInt ∧ (μ'.2.2.1 433 1).toInt = (μ.2.2.1 433 1).toInt) ∧ ((μ'.2.2.1 1 1).toInt = (μ.2.2.1 1 1).toInt ∧ (μ'.2.2.1 210 0).toInt = (μ.2.2.1 210 0).toInt ∧ (μ'.2.2.1 307 0).toInt = (μ.2.2.1 307 0).toInt) ∧ (∀ a, a ∉ [404, 411, 412, 413, 414, 415, 416, 417, 418, 419, 422] → μ'.2.2.1 a = μ.2.2.1 a ∧ μ'.2.2.2 a = μ.2.2.2 a)
theorem nc_X12_gone_433 : 433 ∉ ([404, 411, 412, 413, 414, 415, 416, 417, 418, 419, 422] : List Nat) := by decide
theorem nc_X12_gone_1 : 1 ∉ ([404, 411, 412, 413, 414, 415, 416, 417, 418, 419, 422] : List Nat) := by decide
theorem nc_X12_gone_210 : 210 ∉ ([404, 411, 412, 413, 414, 415, 416, 417, 418, 419, 422] : List Nat) := by decide
theorem nc_X12_gone_307 : 307 ∉ ([404, 411, 412, 413, 414, 415, 416, 417, 418, 419, 422] : List Nat) := by decide
theorem cl_X12_gone {μ : dw_S} {K : dw_K} {a1 a2 a3 : Int32} (hI : INV μ) (hK : ∀ (r : Option Value) (w : Int32) (μ' : dw_S), ck_X12_gone a1 a2 a3 μ r w μ' → K r μ') : t_X12_gone [.ref 404, .int a1, .int a2, .int a3] μ K := by
  have h_406_0 := hI.2.1 406 0
  rw [sgc_3] at h_406_0
  have h_406_1 := hI.2.1 406 1
  rw [sgc_4] at h_406_1
  have h_406_2 := hI.2.1 406 2
  rw [sgc_5] at h_406_2
  have h_406_3 := hI.2.1 406 3
  rw [sgc_6] at h_406_3
  have h_404_38 := hI.2.1 404 38
  rw [sgc_7] at h_404_38
  have h_404_2 := hI.2.1 404 2
  rw [sgc_8] at h_404_2
  refine al_364 322 (by decide) (fun s => [(0 : Int), (a1.toInt : Int), (a2.toInt : Int), (a3.toInt : Int), ((μ.2.2.1 406 0).toInt : Int), ((μ.2.2.1 406 1).toInt : Int), ((μ.2.2.1 406 2).toInt : Int), ((μ.2.2.1 406 3).toInt : Int), ((μ.2.2.1 404 38).toInt : Int), ((μ.2.2.1 404 2).toInt : Int)].getD s (0 : Int)) [.ref 404, .int a1, .int a2, .int a3] μ K ⟨hI.1, hI.2.1, fun _ _ => ⟨rfl, rfl⟩, rfl, Nat.le_refl _, Nat.le_of_ble_eq_true rfl, fun _ _ => rfl, ?_, fun q hq => absurd hq List.not_mem_nil, ?_, trivial, ?_, ?_⟩ ?_
  · exact iv2_ok (iv := (in_322).pre.iv) (vs := [(0 : Int), (a1.toInt : Int), (a2.toInt : Int), (a3.toInt : Int), ((μ.2.2.1 406 0).toInt : Int), ((μ.2.2.1 406 1).toInt : Int), ((μ.2.2.1 406 2).toInt : Int), ((μ.2.2.1 406 3).toInt : Int), ((μ.2.2.1 404 38).toInt : Int), ((μ.2.2.1 404 2).toInt : Int)]) ⟨⟨Int.le_refl 0, Int.le_refl 0⟩, ⟨dx_b1 _, dx_b2 _⟩, ⟨dx_b1 _, dx_b2 _⟩, ⟨dx_b1 _, dx_b2 _⟩, h_406_0, h_406_1, h_406_2, h_406_3, h_404_38, h_404_2, trivial⟩
  · exact ⟨⟨404, List.Mem.head _, rfl⟩, ⟨Nat.le_of_ble_eq_true rfl, a1, rfl, (Int.add_zero _).symm⟩, ⟨Nat.le_of_ble_eq_true rfl, a2, rfl, (Int.add_zero _).symm⟩, ⟨Nat.le_of_ble_eq_true rfl, a3, rfl, (Int.add_zero _).symm⟩, trivial⟩
  · exact dx_aL.all (l := (in_322).pre.fa) ⟨⟨Nat.le_of_ble_eq_true rfl, (Int.add_zero _).symm⟩, ⟨Nat.le_of_ble_eq_true rfl, (Int.add_zero _).symm⟩, ⟨Nat.le_of_ble_eq_true rfl, (Int.add_zero _).symm⟩, ⟨Nat.le_of_ble_eq_true rfl, (Int.add_zero _).symm⟩, ⟨Nat.le_of_ble_eq_true rfl, (Int.add_zero _).symm⟩, ⟨Nat.le_of_ble_eq_true rfl, (Int.add_zero _).symm⟩, trivial⟩
  · exact dx_aL.all (l := (in_322).pre.fl) ⟨⟨Nat.le_of_ble_eq_true rfl, hI.2.2.1⟩, ⟨Nat.le_of_ble_eq_true rfl, hI.2.2.2.1⟩, ⟨Nat.le_of_ble_eq_true rfl, hI.2.2.2.2.1⟩, ⟨Nat.le_of_ble_eq_true rfl, hI.2.2.2.2.2⟩, trivial⟩
  · intro r μ' ν' P hP g'
    rcases List.mem_cons.mp hP with rfl | hP
    · obtain ⟨w, rfl, hw⟩ := r_int g'.gl
      have n0 : ν' 0 = 0 := g'.ag 0 (Nat.le_of_ble_eq_true rfl)
      have n1 : ν' 1 = a1.toInt := g'.ag 1 (Nat.le_of_ble_eq_true rfl)
      have n2 : ν' 2 = a2.toInt := g'.ag 2 (Nat.le_of_ble_eq_true rfl)
      have n3 : ν' 3 = a3.toInt := g'.ag 3 (Nat.le_of_ble_eq_true rfl)
      have n4 : ν' 4 = (μ.2.2.1 406 0).toInt := g'.ag 4 (Nat.le_of_ble_eq_true rfl)
      have n5 : ν' 5 = (μ.2.2.1 406 1).toInt := g'.ag 5 (Nat.le_of_ble_eq_true rfl)
      have n6 : ν' 6 = (μ.2.2.1 406 2).toInt := g'.ag 6 (Nat.le_of_ble_eq_true rfl)
      have n7 : ν' 7 = (μ.2.2.1 406 3).toInt := g'.ag 7 (Nat.le_of_ble_eq_true rfl)
      have n8 : ν' 8 = (μ.2.2.1 404 38).toInt := g'.ag 8 (Nat.le_of_ble_eq_true rfl)
      have n9 : ν' 9 = (μ.2.2.1 404 2).toInt := g'.ag 9 (Nat.le_of_ble_eq_true rfl)
      have sz0 : (μ'.2.2.1 404 2).toInt = ν' 9 + 0 := (g'.fa _ (List.Mem.tail _ (List.Mem.head _))).2
      have sz1 : (μ'.2.2.1 433 0).toInt = (μ.2.2.1 433 0).toInt := by rw [(g'.fr 433 nc_X12_gone_433).1]
      have sz2 : (μ'.2.2.1 433 1).toInt = (μ.2.2.1 433 1).toInt := by rw [(g'.fr 433 nc_X12_gone_433).1]
      have sz3 : (μ'.2.2.1 1 1).toInt = (μ.2.2.1 1 1).toInt := by rw [(g'.fr 1 nc_X12_gone_1).1]
      have sz4 : (μ'.2.2.1 210 0).toInt = (μ.2.2.1 210 0).toInt := by rw [(g'.fr 210 nc_X12_gone_210).1]
      have sz5 : (μ'.2.2.1 307 0).toInt = (μ.2.2.1 307 0).toInt := by rw [(g'.fr 307 nc_X12_gone_307).1]
      have hw' : w.toInt = ν' 0 + (-1) := hw
      exact hK _ w μ' ⟨⟨g'.sh, g'.hi, (g'.fl _ (List.Mem.head _)).2, (g'.fl _ (List.Mem.tail _ (List.Mem.head _))).2, (g'.fl _ (List.Mem.tail _ (List.Mem.tail _ (List.Mem.head _)))).2, (g'.fl _ (List.Mem.tail _ (List.Mem.tail _ (List.Mem.tail _ (List.Mem.head _))))).2⟩, rfl, by omega, ⟨sz3, sz4, sz5⟩, g'.fr⟩
    rcases List.mem_cons.mp hP with rfl | hP
    · obtain ⟨w, rfl, hw⟩ := r_int g'.gl
      have n0 : ν' 0 = 0 := g'.ag 0 (Nat.le_of_ble_eq_true rfl)
      have n1 : ν' 1 = a1.toInt := g'.ag 1 (Nat.le_of_ble_eq_true rfl)
      have n2 : ν' 2 = a2.toInt := g'.ag 2 (Nat.le_of_ble_eq_true rfl)
      have n3 : ν' 3 = a3.toInt := g'.ag 3 (Nat.le_of_ble_eq_true rfl)
      have n4 : ν' 4 = (μ.2.2.1 406 0).toInt := g'.ag 4 (Nat.le_of_ble_eq_true rfl)
      have n5 : ν' 5 = (μ.2.2.1 406 1).toInt := g'.ag 5 (Nat.le_of_ble_eq_true rfl)
      have n6 : ν' 6 = (μ.2.2.1 406 2).toInt := g'.ag 6 (Nat.le_of_ble_eq_true rfl)
      have n7 : ν' 7 = (μ.2.2.1 406 3).toInt := g'.ag 7 (Nat.le_of_ble_eq_true rfl)
      have n8 : ν' 8 = (μ.2.2.1 404 38).toInt := g'.ag 8 (Nat.le_of_ble_eq_true rfl)
      have n9 : ν' 9 = (μ.2.2.1 404 2).toInt := g'.ag 9 (Nat.le_of_ble_eq_true rfl)
      have sz0 : (μ'.2.2.1 404 2).toInt = ν' 9 + 0 := (g'.fa _ (List.Mem.tail _ (List.Mem.head _))).2
      have sz1 : (μ'.2.2.1 433 0).toInt = (μ.2.2.1 433 0).toInt := by rw [(g'.fr 433 nc_X12_gone_433).1]
      have sz2 : (μ'.2.2.1 433 1).toInt = (μ.2.2.1 433 1).toInt := by rw [(g'.fr 433 nc_X12_gone_433).1]
      have sz3 : (μ'.2.2.1 1 1).toInt = (μ.2.2.1 1 1).toInt := by rw [(g'.fr 1 nc_X12_gone_1).1]
      have sz4 : (μ'.2.2.1 210 0).toInt = (μ.2.2.1 210 0).toInt := by rw [(g'.fr 210 nc_X12_gone_210).1]
      have sz5 : (μ'.2.2.1 307 0).toInt = (μ.2.2.1 307 0).toInt := by rw [(g'.fr 307 nc_X12_gone_307).1]
      have hw' : w.toInt = ν' 10 + 1 := hw
      have i1 : (0 : Int) ≤ ν' 1 ∧ ν' 1 ≤ 5 := g'.iv 1 (Nat.le_of_ble_eq_true rfl)
      have i2 : (0 : Int) ≤ ν' 2 ∧ ν' 2 ≤ 11 := g'.iv 2 (Nat.le_of_ble_eq_true rfl)
      have i3 : (0 : Int) ≤ ν' 3 ∧ ν' 3 ≤ 11 := g'.iv 3 (Nat.le_of_ble_eq_true rfl)
      have i4 : (1 : Int) ≤ ν' 4 ∧ ν' 4 ≤ 12 := g'.iv 4 (Nat.le_of_ble_eq_true rfl)
      have i5 : (1 : Int) ≤ ν' 5 ∧ ν' 5 ≤ 12 := g'.iv 5 (Nat.le_of_ble_eq_true rfl)
      have d0 : ν' 2 - ν' 4 ≤ (-1) := (g'.dc _ (List.Mem.head _)).2.2
      have d1 : ν' 3 - ν' 5 ≤ (-1) := (g'.dc _ (List.Mem.tail _ (List.Mem.head _))).2.2
      exact hK _ w μ' ⟨⟨g'.sh, g'.hi, (g'.fl _ (List.Mem.tail _ (List.Mem.tail _ (List.Mem.head _)))).2, (g'.fl _ (List.Mem.tail _ (List.Mem.tail _ (List.Mem.tail _ (List.Mem.head _))))).2, (g'.fl _ (List.Mem.tail _ (List.Mem.tail _ (List.Mem.tail _ (List.Mem.tail _ (List.Mem.head _)))))).2, (g'.fl _ (List.Mem.tail _ (List.Mem.tail _ (List.Mem.tail _ (List.Mem.tail _ (List.Mem.tail _ (List.Mem.head _))))))).2⟩, rfl, by omega, ⟨sz3, sz4, sz5⟩, g'.fr⟩
    exact absurd hP List.not_mem_nil
abbrev ck_X12_ground (μ : dw_S) (r : Option Value) (w : Int32) (μ' : dw_S) : Prop := (INV μ') ∧ (r = some (.int w)) ∧ ((μ'.2.2.1 404 2).toInt = 0 ∧ (μ'.2.2.1 433 0).toInt = (μ.2.2.1 433 0).toInt ∧ (μ'.2.2.1 433 1).toInt = (μ.2.2.1 433 1).toInt) ∧ ((μ'.2.2.1 1 1).toInt = (μ.2.2.1 1 1).toInt ∧ (μ'.2.2.1 210 0).toInt = (μ.2.2.1 210 0).toInt ∧ (μ'.2.2.1 307 0).toInt = (μ.2.2.1 307 0).toInt) ∧ (∀ a, a ∉ [404, 406, 407, 409] → μ'.2.2.1 a = μ.2.2.1 a ∧ μ'.2.2.2 a = μ.2.2.2 a)
theorem sgc_9 : dx_seg (dx_ce 404).iv 22 = (0, 1) := by decide +kernel
theorem sgc_10 : dx_seg (dx_ce 404).iv 3 = (0, 940) := by decide +kernel
theorem sgc_11 : dx_seg (dx_ce 404).iv 4 = (0, 940) := by decide +kernel
theorem sgc_12 : dx_seg (dx_ce 404).iv 11 = (0, 4) := by decide +kernel
theorem sgc_13 : dx_seg (dx_ce 404).iv 12 = (0, 940) := by decide +kernel
theorem sgc_14 : dx_seg (dx_ce 404).iv 13 = (0, 940) := by decide +kernel
theorem sgc_15 : dx_seg (dx_ce 404).iv 14 = (-2147483648, 2147483647) := by decide +kernel
theorem sgc_16 : dx_seg (dx_ce 404).iv 19 = (-2147483648, 2147483647) := by decide +kernel
theorem sgc_17 : dx_seg (dx_ce 404).iv 21 = (0, 30) := by decide +kernel
theorem sgc_18 : dx_seg (dx_ce 407).iv 0 = (0, 12) := by decide +kernel
theorem sgc_19 : dx_seg (dx_ce 407).iv 1 = (0, 12) := by decide +kernel
theorem sgc_20 : dx_seg (dx_ce 407).iv 2 = (0, 8) := by decide +kernel
theorem sgc_21 : dx_seg (dx_ce 407).iv 3 = (0, 12) := by decide +kernel
theorem nc_X12_ground_433 : 433 ∉ ([404, 406, 407, 409] : List Nat) := by decide
theorem nc_X12_ground_1 : 1 ∉ ([404, 406, 407, 409] : List Nat) := by decide
theorem nc_X12_ground_210 : 210 ∉ ([404, 406, 407, 409] : List Nat) := by decide
theorem nc_X12_ground_307 : 307 ∉ ([404, 406, 407, 409] : List Nat) := by decide
theorem cl_X12_ground {μ : dw_S} {K : dw_K} (hI : INV μ) (hK : ∀ (r : Option Value) (w : Int32) (μ' : dw_S), ck_X12_ground μ r w μ' → K r μ') : t_X12_ground [.ref 404] μ K := by
  have h_404_22 := hI.2.1 404 22
  rw [sgc_9] at h_404_22
  have h_404_2 := hI.2.1 404 2
  rw [sgc_8] at h_404_2
  have h_404_3 := hI.2.1 404 3
  rw [sgc_10] at h_404_3
  have h_404_4 := hI.2.1 404 4
  rw [sgc_11] at h_404_4
  have h_404_11 := hI.2.1 404 11
  rw [sgc_12] at h_404_11
  have h_404_12 := hI.2.1 404 12
  rw [sgc_13] at h_404_12
  have h_404_13 := hI.2.1 404 13
  rw [sgc_14] at h_404_13
  have h_404_14 := hI.2.1 404 14
  rw [sgc_15] at h_404_14
  have h_404_19 := hI.2.1 404 19
  rw [sgc_16] at h_404_19
  have h_404_21 := hI.2.1 404 21
  rw [sgc_17] at h_404_21
  have h_406_0 := hI.2.1 406 0
  rw [sgc_3] at h_406_0
  have h_406_1 := hI.2.1 406 1
  rw [sgc_4] at h_406_1
  have h_406_2 := hI.2.1 406 2
  rw [sgc_5] at h_406_2
  have h_406_3 := hI.2.1 406 3
  rw [sgc_6] at h_406_3
  have h_407_0 := hI.2.1 407 0
  rw [sgc_18] at h_407_0
  have h_407_1 := hI.2.1 407 1
  rw [sgc_19] at h_407_1
  have h_407_2 := hI.2.1 407 2
  rw [sgc_20] at h_407_2
  have h_407_3 := hI.2.1 407 3
  rw [sgc_21] at h_407_3
  refine al_364 335 (by decide) (fun s => [(0 : Int), ((μ.2.2.1 404 22).toInt : Int), ((μ.2.2.1 404 2).toInt : Int), ((μ.2.2.1 404 3).toInt : Int), ((μ.2.2.1 404 4).toInt : Int), ((μ.2.2.1 404 11).toInt : Int), ((μ.2.2.1 404 12).toInt : Int), ((μ.2.2.1 404 13).toInt : Int), ((μ.2.2.1 404 14).toInt : Int), ((μ.2.2.1 404 19).toInt : Int), ((μ.2.2.1 404 21).toInt : Int), ((μ.2.2.1 406 0).toInt : Int), ((μ.2.2.1 406 1).toInt : Int), ((μ.2.2.1 406 2).toInt : Int), ((μ.2.2.1 406 3).toInt : Int), ((μ.2.2.1 407 0).toInt : Int), ((μ.2.2.1 407 1).toInt : Int), ((μ.2.2.1 407 2).toInt : Int), ((μ.2.2.1 407 3).toInt : Int)].getD s (0 : Int)) [.ref 404] μ K ⟨hI.1, hI.2.1, fun _ _ => ⟨rfl, rfl⟩, rfl, Nat.le_refl _, Nat.le_of_ble_eq_true rfl, fun _ _ => rfl, ?_, fun q hq => absurd hq List.not_mem_nil, ?_, trivial, ?_, ?_⟩ ?_
  · exact iv2_ok (iv := (in_335).pre.iv) (vs := [(0 : Int), ((μ.2.2.1 404 22).toInt : Int), ((μ.2.2.1 404 2).toInt : Int), ((μ.2.2.1 404 3).toInt : Int), ((μ.2.2.1 404 4).toInt : Int), ((μ.2.2.1 404 11).toInt : Int), ((μ.2.2.1 404 12).toInt : Int), ((μ.2.2.1 404 13).toInt : Int), ((μ.2.2.1 404 14).toInt : Int), ((μ.2.2.1 404 19).toInt : Int), ((μ.2.2.1 404 21).toInt : Int), ((μ.2.2.1 406 0).toInt : Int), ((μ.2.2.1 406 1).toInt : Int), ((μ.2.2.1 406 2).toInt : Int), ((μ.2.2.1 406 3).toInt : Int), ((μ.2.2.1 407 0).toInt : Int), ((μ.2.2.1 407 1).toInt : Int), ((μ.2.2.1 407 2).toInt : Int), ((μ.2.2.1 407 3).toInt : Int)]) ⟨⟨Int.le_refl 0, Int.le_refl 0⟩, h_404_22, h_404_2, h_404_3, h_404_4, h_404_11, h_404_12, h_404_13, h_404_14, h_404_19, h_404_21, h_406_0, h_406_1, h_406_2, h_406_3, h_407_0, h_407_1, h_407_2, h_407_3, trivial⟩
  · exact ⟨⟨404, List.Mem.head _, rfl⟩, trivial⟩
  · exact dx_aL.all (l := (in_335).pre.fa) ⟨⟨Nat.le_of_ble_eq_true rfl, (Int.add_zero _).symm⟩, ⟨Nat.le_of_ble_eq_true rfl, (Int.add_zero _).symm⟩, ⟨Nat.le_of_ble_eq_true rfl, (Int.add_zero _).symm⟩, ⟨Nat.le_of_ble_eq_true rfl, (Int.add_zero _).symm⟩, ⟨Nat.le_of_ble_eq_true rfl, (Int.add_zero _).symm⟩, ⟨Nat.le_of_ble_eq_true rfl, (Int.add_zero _).symm⟩, ⟨Nat.le_of_ble_eq_true rfl, (Int.add_zero _).symm⟩, ⟨Nat.le_of_ble_eq_true rfl, (Int.add_zero _).symm⟩, ⟨Nat.le_of_ble_eq_true rfl, (Int.add_zero _).symm⟩, ⟨Nat.le_of_ble_eq_true rfl, (Int.add_zero _).symm⟩, ⟨Nat.le_of_ble_eq_true rfl, (Int.add_zero _).symm⟩, ⟨Nat.le_of_ble_eq_true rfl, (Int.add_zero _).symm⟩, ⟨Nat.le_of_ble_eq_true rfl, (Int.add_zero _).symm⟩, ⟨Nat.le_of_ble_eq_true rfl, (Int.add_zero _).symm⟩, ⟨Nat.le_of_ble_eq_true rfl, (Int.add_zero _).symm⟩, ⟨Nat.le_of_ble_eq_true rfl, (Int.add_zero _).symm⟩, ⟨Nat.le_of_ble_eq_true rfl, (Int.add_zero _).symm⟩, ⟨Nat.le_of_ble_eq_true rfl, (Int.add_zero _).symm⟩, trivial⟩
  · exact dx_aL.all (l := (in_335).pre.fl) ⟨⟨Nat.le_of_ble_eq_true rfl, hI.2.2.1⟩, ⟨Nat.le_of_ble_eq_true rfl, hI.2.2.2.1⟩, ⟨Nat.le_of_ble_eq_true rfl, hI.2.2.2.2.1⟩, ⟨Nat.le_of_ble_eq_true rfl, hI.2.2.2.2.2⟩, trivial⟩
  · intro r μ' ν' P hP g'
    rcases List.mem_cons.mp hP with rfl | hP
    · obtain ⟨w, rfl, hw⟩ := r_int g'.gl
      have n0 : ν' 0 = 0 := g'.ag 0 (Nat.le_of_ble_eq_true rfl)
      have n1 : ν' 1 = (μ.2.2.1 404 22).toInt := g'.ag 1 (Nat.le_of_ble_eq_true rfl)
      have n2 : ν' 2 = (μ.2.2.1 404 2).toInt := g'.ag 2 (Nat.le_of_ble_eq_true rfl)
      have n3 : ν' 3 = (μ.2.2.1 404 3).toInt := g'.ag 3 (Nat.le_of_ble_eq_true rfl)
      have n4 : ν' 4 = (μ.2.2.1 404 4).toInt := g'.ag 4 (Nat.le_of_ble_eq_true rfl)
      have n5 : ν' 5 = (μ.2.2.1 404 11).toInt := g'.ag 5 (Nat.le_of_ble_eq_true rfl)
      have n6 : ν' 6 = (μ.2.2.1 404 12).toInt := g'.ag 6 (Nat.le_of_ble_eq_true rfl)
      have n7 : ν' 7 = (μ.2.2.1 404 13).toInt := g'.ag 7 (Nat.le_of_ble_eq_true rfl)
      have n8 : ν' 8 = (μ.2.2.1 404 14).toInt := g'.ag 8 (Nat.le_of_ble_eq_true rfl)
      have n9 : ν' 9 = (μ.2.2.1 404 19).toInt := g'.ag 9 (Nat.le_of_ble_eq_true rfl)
      have n10 : ν' 10 = (μ.2.2.1 404 21).toInt := g'.ag 10 (Nat.le_of_ble_eq_true rfl)
      have n11 : ν' 11 = (μ.2.2.1 406 0).toInt := g'.ag 11 (Nat.le_of_ble_eq_true rfl)
      have n12 : ν' 12 = (μ.2.2.1 406 1).toInt := g'.ag 12 (Nat.le_of_ble_eq_true rfl)
      have n13 : ν' 13 = (μ.2.2.1 406 2).toInt := g'.ag 13 (Nat.le_of_ble_eq_true rfl)
      have n14 : ν' 14 = (μ.2.2.1 406 3).toInt := g'.ag 14 (Nat.le_of_ble_eq_true rfl)
      have n15 : ν' 15 = (μ.2.2.1 407 0).toInt := g'.ag 15 (Nat.le_of_ble_eq_true rfl)
      have n16 : ν' 16 = (μ.2.2.1 407 1).toInt := g'.ag 16 (Nat.le_of_ble_eq_true rfl)
      have n17 : ν' 17 = (μ.2.2.1 407 2).toInt := g'.ag 17 (Nat.le_of_ble_eq_true rfl)
      have n18 : ν' 18 = (μ.2.2.1 407 3).toInt := g'.ag 18 (Nat.le_of_ble_eq_true rfl)
      have sz0 : (μ'.2.2.1 404 2).toInt = ν' 0 + 0 := (g'.fa _ (List.Mem.tail _ (List.Mem.head _))).2
      have sz1 : (μ'.2.2.1 433 0).toInt = (μ.2.2.1 433 0).toInt := by rw [(g'.fr 433 nc_X12_ground_433).1]
      have sz2 : (μ'.2.2.1 433 1).toInt = (μ.2.2.1 433 1).toInt := by rw [(g'.fr 433 nc_X12_ground_433).1]
      have sz3 : (μ'.2.2.1 1 1).toInt = (μ.2.2.1 1 1).toInt := by rw [(g'.fr 1 nc_X12_ground_1).1]
      have sz4 : (μ'.2.2.1 210 0).toInt = (μ.2.2.1 210 0).toInt := by rw [(g'.fr 210 nc_X12_ground_210).1]
      have sz5 : (μ'.2.2.1 307 0).toInt = (μ.2.2.1 307 0).toInt := by rw [(g'.fr 307 nc_X12_ground_307).1]
      have hw' : w.toInt = ν' 19 + 0 := hw
      exact hK _ w μ' ⟨⟨g'.sh, g'.hi, (g'.fl _ (List.Mem.tail _ (List.Mem.head _))).2, (g'.fl _ (List.Mem.tail _ (List.Mem.tail _ (List.Mem.head _)))).2, (g'.fl _ (List.Mem.tail _ (List.Mem.tail _ (List.Mem.tail _ (List.Mem.head _))))).2, (g'.fl _ (List.Mem.tail _ (List.Mem.tail _ (List.Mem.tail _ (List.Mem.tail _ (List.Mem.head _)))))).2⟩, rfl, by omega, ⟨sz3, sz4, sz5⟩, g'.fr⟩
    exact absurd hP List.not_mem_nil
abbrev ck_X12_hay (a1 a2 : Int32) (μ : dw_S) (r : Option Value) (w : Int32) (μ' : dw_S) : Prop := (INV μ') ∧ (r = some (.int w)) ∧ ((μ'.2.2.1 404 2).toInt = (μ.2.2.1 404 2).toInt ∧ (μ'.2.2.1 433 0).toInt = (μ.2.2.1 433 0).toInt ∧ (μ'.2.2.1 433 1).toInt = (μ.2.2.1 433 1).toInt) ∧ ((μ'.2.2.1 1 1).toInt = (μ.2.2.1 1 1).toInt ∧ (μ'.2.2.1 210 0).toInt = (μ.2.2.1 210 0).toInt ∧ (μ'.2.2.1 307 0).toInt = (μ.2.2.1 307 0).toInt) ∧ (∀ a, a ∉ [404, 411, 412, 413, 414, 415, 416, 417, 418, 419] → μ'.2.2.1 a = μ.2.2.1 a ∧ μ'.2.2.2 a = μ.2.2.2 a)
theorem nc_X12_hay_433 : 433 ∉ ([404, 411, 412, 413, 414, 415, 416, 417, 418, 419] : List Nat) := by decide
theorem nc_X12_hay_1 : 1 ∉ ([404, 411, 412, 413, 414, 415, 416, 417, 418, 419] : List Nat) := by decide
theorem nc_X12_hay_210 : 210 ∉ ([404, 411, 412, 413, 414, 415, 416, 417, 418, 419] : List Nat) := by decide
theorem nc_X12_hay_307 : 307 ∉ ([404, 411, 412, 413, 414, 415, 416, 417, 418, 419] : List Nat) := by decide
theorem cl_X12_hay {μ : dw_S} {K : dw_K} {a1 a2 : Int32} (hI : INV μ) (hK : ∀ (r : Option Value) (w : Int32) (μ' : dw_S), ck_X12_hay a1 a2 μ r w μ' → K r μ') : t_X12_hay [.ref 404, .int a1, .int a2] μ K := by
  have h_406_0 := hI.2.1 406 0
  rw [sgc_3] at h_406_0
  have h_406_1 := hI.2.1 406 1
  rw [sgc_4] at h_406_1
  have h_406_2 := hI.2.1 406 2
  rw [sgc_5] at h_406_2
  have h_406_3 := hI.2.1 406 3
  rw [sgc_6] at h_406_3
  have h_404_38 := hI.2.1 404 38
  rw [sgc_7] at h_404_38
  have h_404_2 := hI.2.1 404 2
  rw [sgc_8] at h_404_2
  refine al_364 336 (by decide) (fun s => [(0 : Int), (a1.toInt : Int), (a2.toInt : Int), ((μ.2.2.1 406 0).toInt : Int), ((μ.2.2.1 406 1).toInt : Int), ((μ.2.2.1 406 2).toInt : Int), ((μ.2.2.1 406 3).toInt : Int), ((μ.2.2.1 404 38).toInt : Int), ((μ.2.2.1 404 2).toInt : Int)].getD s (0 : Int)) [.ref 404, .int a1, .int a2] μ K ⟨hI.1, hI.2.1, fun _ _ => ⟨rfl, rfl⟩, rfl, Nat.le_refl _, Nat.le_of_ble_eq_true rfl, fun _ _ => rfl, ?_, fun q hq => absurd hq List.not_mem_nil, ?_, trivial, ?_, ?_⟩ ?_
  · exact iv2_ok (iv := (in_336).pre.iv) (vs := [(0 : Int), (a1.toInt : Int), (a2.toInt : Int), ((μ.2.2.1 406 0).toInt : Int), ((μ.2.2.1 406 1).toInt : Int), ((μ.2.2.1 406 2).toInt : Int), ((μ.2.2.1 406 3).toInt : Int), ((μ.2.2.1 404 38).toInt : Int), ((μ.2.2.1 404 2).toInt : Int)]) ⟨⟨Int.le_refl 0, Int.le_refl 0⟩, ⟨dx_b1 _, dx_b2 _⟩, ⟨dx_b1 _, dx_b2 _⟩, h_406_0, h_406_1, h_406_2, h_406_3, h_404_38, h_404_2, trivial⟩
  · exact ⟨⟨404, List.Mem.head _, rfl⟩, ⟨Nat.le_of_ble_eq_true rfl, a1, rfl, (Int.add_zero _).symm⟩, ⟨Nat.le_of_ble_eq_true rfl, a2, rfl, (Int.add_zero _).symm⟩, trivial⟩
  · exact dx_aL.all (l := (in_336).pre.fa) ⟨⟨Nat.le_of_ble_eq_true rfl, (Int.add_zero _).symm⟩, ⟨Nat.le_of_ble_eq_true rfl, (Int.add_zero _).symm⟩, ⟨Nat.le_of_ble_eq_true rfl, (Int.add_zero _).symm⟩, ⟨Nat.le_of_ble_eq_true rfl, (Int.add_zero _).symm⟩, ⟨Nat.le_of_ble_eq_true rfl, (Int.add_zero _).symm⟩, ⟨Nat.le_of_ble_eq_true rfl, (Int.add_zero _).symm⟩, trivial⟩
  · exact dx_aL.all (l := (in_336).pre.fl) ⟨⟨Nat.le_of_ble_eq_true rfl, hI.2.2.1⟩, ⟨Nat.le_of_ble_eq_true rfl, hI.2.2.2.1⟩, ⟨Nat.le_of_ble_eq_true rfl, hI.2.2.2.2.1⟩, ⟨Nat.le_of_ble_eq_true rfl, hI.2.2.2.2.2⟩, trivial⟩
  · intro r μ' ν' P hP g'
    rcases List.mem_cons.mp hP with rfl | hP
    · obtain ⟨w, rfl, hw⟩ := r_int g'.gl
      have n0 : ν' 0 = 0 := g'.ag 0 (Nat.le_of_ble_eq_true rfl)
      have n1 : ν' 1 = a1.toInt := g'.ag 1 (Nat.le_of_ble_eq_true rfl)
      have n2 : ν' 2 = a2.toInt := g'.ag 2 (Nat.le_of_ble_eq_true rfl)
      have n3 : ν' 3 = (μ.2.2.1 406 0).toInt := g'.ag 3 (Nat.le_of_ble_eq_true rfl)
      have n4 : ν' 4 = (μ.2.2.1 406 1).toInt := g'.ag 4 (Nat.le_of_ble_eq_true rfl)
      have n5 : ν' 5 = (μ.2.2.1 406 2).toInt := g'.ag 5 (Nat.le_of_ble_eq_true rfl)
      have n6 : ν' 6 = (μ.2.2.1 406 3).toInt := g'.ag 6 (Nat.le_of_ble_eq_true rfl)
      have n7 : ν' 7 = (μ.2.2.1 404 38).toInt := g'.ag 7 (Nat.le_of_ble_eq_true rfl)
      have n8 : ν' 8 = (μ.2.2.1 404 2).toInt := g'.ag 8 (Nat.le_of_ble_eq_true rfl)
      have sz0 : (μ'.2.2.1 404 2).toInt = ν' 8 + 0 := (g'.fa _ (List.Mem.tail _ (List.Mem.head _))).2
      have sz1 : (μ'.2.2.1 433 0).toInt = (μ.2.2.1 433 0).toInt := by rw [(g'.fr 433 nc_X12_hay_433).1]
      have sz2 : (μ'.2.2.1 433 1).toInt = (μ.2.2.1 433 1).toInt := by rw [(g'.fr 433 nc_X12_hay_433).1]
      have sz3 : (μ'.2.2.1 1 1).toInt = (μ.2.2.1 1 1).toInt := by rw [(g'.fr 1 nc_X12_hay_1).1]
      have sz4 : (μ'.2.2.1 210 0).toInt = (μ.2.2.1 210 0).toInt := by rw [(g'.fr 210 nc_X12_hay_210).1]
      have sz5 : (μ'.2.2.1 307 0).toInt = (μ.2.2.1 307 0).toInt := by rw [(g'.fr 307 nc_X12_hay_307).1]
      have hw' : w.toInt = ν' 0 + (-1) := hw
      exact hK _ w μ' ⟨⟨g'.sh, g'.hi, (g'.fl _ (List.Mem.head _)).2, (g'.fl _ (List.Mem.tail _ (List.Mem.head _))).2, (g'.fl _ (List.Mem.tail _ (List.Mem.tail _ (List.Mem.head _)))).2, (g'.fl _ (List.Mem.tail _ (List.Mem.tail _ (List.Mem.tail _ (List.Mem.head _))))).2⟩, rfl, by omega, ⟨sz3, sz4, sz5⟩, g'.fr⟩
    rcases List.mem_cons.mp hP with rfl | hP
    · obtain ⟨w, rfl, hw⟩ := r_int g'.gl
      have n0 : ν' 0 = 0 := g'.ag 0 (Nat.le_of_ble_eq_true rfl)
      have n1 : ν' 1 = a1.toInt := g'.ag 1 (Nat.le_of_ble_eq_true rfl)
      have n2 : ν' 2 = a2.toInt := g'.ag 2 (Nat.le_of_ble_eq_true rfl)
      have n3 : ν' 3 = (μ.2.2.1 406 0).toInt := g'.ag 3 (Nat.le_of_ble_eq_true rfl)
      have n4 : ν' 4 = (μ.2.2.1 406 1).toInt := g'.ag 4 (Nat.le_of_ble_eq_true rfl)
      have n5 : ν' 5 = (μ.2.2.1 406 2).toInt := g'.ag 5 (Nat.le_of_ble_eq_true rfl)
      have n6 : ν' 6 = (μ.2.2.1 406 3).toInt := g'.ag 6 (Nat.le_of_ble_eq_true rfl)
      have n7 : ν' 7 = (μ.2.2.1 404 38).toInt := g'.ag 7 (Nat.le_of_ble_eq_true rfl)
      have n8 : ν' 8 = (μ.2.2.1 404 2).toInt := g'.ag 8 (Nat.le_of_ble_eq_true rfl)
      have sz0 : (μ'.2.2.1 404 2).toInt = ν' 8 + 0 := (g'.fa _ (List.Mem.tail _ (List.Mem.head _))).2
      have sz1 : (μ'.2.2.1 433 0).toInt = (μ.2.2.1 433 0).toInt := by rw [(g'.fr 433 nc_X12_hay_433).1]
      have sz2 : (μ'.2.2.1 433 1).toInt = (μ.2.2.1 433 1).toInt := by rw [(g'.fr 433 nc_X12_hay_433).1]
      have sz3 : (μ'.2.2.1 1 1).toInt = (μ.2.2.1 1 1).toInt := by rw [(g'.fr 1 nc_X12_hay_1).1]
      have sz4 : (μ'.2.2.1 210 0).toInt = (μ.2.2.1 210 0).toInt := by rw [(g'.fr 210 nc_X12_hay_210).1]
      have sz5 : (μ'.2.2.1 307 0).toInt = (μ.2.2.1 307 0).toInt := by rw [(g'.fr 307 nc_X12_hay_307).1]
      have hw' : w.toInt = ν' 9 + 0 := hw
      have i1 : (0 : Int) ≤ ν' 1 ∧ ν' 1 ≤ 5 := g'.iv 1 (Nat.le_of_ble_eq_true rfl)
      have i2 : (0 : Int) ≤ ν' 2 ∧ ν' 2 ≤ 9999 := g'.iv 2 (Nat.le_of_ble_eq_true rfl)
      exact hK _ w μ' ⟨⟨g'.sh, g'.hi, (g'.fl _ (List.Mem.tail _ (List.Mem.tail _ (List.Mem.head _)))).2, (g'.fl _ (List.Mem.tail _ (List.Mem.tail _ (List.Mem.tail _ (List.Mem.head _))))).2, (g'.fl _ (List.Mem.tail _ (List.Mem.tail _ (List.Mem.tail _ (List.Mem.tail _ (List.Mem.head _)))))).2, (g'.fl _ (List.Mem.tail _ (List.Mem.tail _ (List.Mem.tail _ (List.Mem.tail _ (List.Mem.tail _ (List.Mem.head _))))))).2⟩, rfl, by omega, ⟨sz3, sz4, sz5⟩, g'.fr⟩
    exact absurd hP List.not_mem_nil
abbrev ck_X12_image (a1 : Int32) (μ : dw_S) (r : Option Value) (w : Int32) (μ' : dw_S) : Prop := (INV μ') ∧ (r = some (.int w)) ∧ (((1 < a1.toInt ∧ w.toInt = 0 ∧ (μ'.2.2.1 433 0).toInt = (μ.2.2.1 433 0).toInt ∧ (μ'.2.2.1 433 1).toInt = (μ.2.2.1 433 1).toInt) ∨ (a1.toInt < 0 ∧ w.toInt = 0 ∧ (μ'.2.2.1 433 0).toInt = (μ.2.2.1 433 0).toInt ∧ (μ'.2.2.1 433 1).toInt = (μ.2.2.1 433 1).toInt) ∨ (a1.toInt = 0 ∧ w.toInt = 1 ∧ (μ'.2.2.1 433 0).toInt = 1 ∧ (μ'.2.2.1 433 1).toInt = (μ.2.2.1 433 1).toInt) ∨ (a1.toInt = 1 ∧ w.toInt = 1 ∧ (μ'.2.2.1 433 0).toInt = (μ.2.2.1 433 0).toInt ∧ (μ'.2.2.1 433 1).toInt = 1)) ∧ (μ'.2.2.1 404 2).toInt = (μ.2.2.1 404 2).toInt) ∧ ((μ'.2.2.1 1 1).toInt = (μ.2.2.1 1 1).toInt ∧ (μ'.2.2.1 210 0).toInt = (μ.2.2.1 210 0).toInt ∧ (μ'.2.2.1 307 0).toInt = (μ.2.2.1 307 0).toInt) ∧ (∀ a, a ∉ [404, 432, 433] → μ'.2.2.1 a = μ.2.2.1 a ∧ μ'.2.2.2 a = μ.2.2.2 a)
theorem sgc_22 : dx_seg (dx_ce 433).iv 0 = (0, 1) := by decide +kernel
theorem sgc_23 : dx_seg (dx_ce 433).iv 1 = (0, 1) := by decide +kernel
theorem nc_X12_image_1 : 1 ∉ ([404, 432, 433] : List Nat) := by decide
theorem nc_X12_image_210 : 210 ∉ ([404, 432, 433] : List Nat) := by decide
theorem nc_X12_image_307 : 307 ∉ ([404, 432, 433] : List Nat) := by decide
theorem cl_X12_image {μ : dw_S} {K : dw_K} {a1 : Int32} (hI : INV μ) (hK : ∀ (r : Option Value) (w : Int32) (μ' : dw_S), ck_X12_image a1 μ r w μ' → K r μ') : t_X12_image [.ref 404, .int a1] μ K := by
  have h_406_0 := hI.2.1 406 0
  rw [sgc_3] at h_406_0
  have h_406_1 := hI.2.1 406 1
  rw [sgc_4] at h_406_1
  have h_406_2 := hI.2.1 406 2
  rw [sgc_5] at h_406_2
  have h_406_3 := hI.2.1 406 3
  rw [sgc_6] at h_406_3
  have h_433_0 := hI.2.1 433 0
  rw [sgc_22] at h_433_0
  have h_433_1 := hI.2.1 433 1
  rw [sgc_23] at h_433_1
  have h_404_2 := hI.2.1 404 2
  rw [sgc_8] at h_404_2
  refine al_364 337 (by decide) (fun s => [(0 : Int), (a1.toInt : Int), ((μ.2.2.1 406 0).toInt : Int), ((μ.2.2.1 406 1).toInt : Int), ((μ.2.2.1 406 2).toInt : Int), ((μ.2.2.1 406 3).toInt : Int), ((μ.2.2.1 433 0).toInt : Int), ((μ.2.2.1 433 1).toInt : Int), ((μ.2.2.1 404 2).toInt : Int)].getD s (0 : Int)) [.ref 404, .int a1] μ K ⟨hI.1, hI.2.1, fun _ _ => ⟨rfl, rfl⟩, rfl, Nat.le_refl _, Nat.le_of_ble_eq_true rfl, fun _ _ => rfl, ?_, fun q hq => absurd hq List.not_mem_nil, ?_, trivial, ?_, ?_⟩ ?_
  · exact iv2_ok (iv := (in_337).pre.iv) (vs := [(0 : Int), (a1.toInt : Int), ((μ.2.2.1 406 0).toInt : Int), ((μ.2.2.1 406 1).toInt : Int), ((μ.2.2.1 406 2).toInt : Int), ((μ.2.2.1 406 3).toInt : Int), ((μ.2.2.1 433 0).toInt : Int), ((μ.2.2.1 433 1).toInt : Int), ((μ.2.2.1 404 2).toInt : Int)]) ⟨⟨Int.le_refl 0, Int.le_refl 0⟩, ⟨dx_b1 _, dx_b2 _⟩, h_406_0, h_406_1, h_406_2, h_406_3, h_433_0, h_433_1, h_404_2, trivial⟩
  · exact ⟨⟨404, List.Mem.head _, rfl⟩, ⟨Nat.le_of_ble_eq_true rfl, a1, rfl, (Int.add_zero _).symm⟩, trivial⟩
  · exact dx_aL.all (l := (in_337).pre.fa) ⟨⟨Nat.le_of_ble_eq_true rfl, (Int.add_zero _).symm⟩, ⟨Nat.le_of_ble_eq_true rfl, (Int.add_zero _).symm⟩, ⟨Nat.le_of_ble_eq_true rfl, (Int.add_zero _).symm⟩, ⟨Nat.le_of_ble_eq_true rfl, (Int.add_zero _).symm⟩, ⟨Nat.le_of_ble_eq_true rfl, (Int.add_zero _).symm⟩, ⟨Nat.le_of_ble_eq_true rfl, (Int.add_zero _).symm⟩, ⟨Nat.le_of_ble_eq_true rfl, (Int.add_zero _).symm⟩, trivial⟩
  · exact dx_aL.all (l := (in_337).pre.fl) ⟨⟨Nat.le_of_ble_eq_true rfl, hI.2.2.1⟩, ⟨Nat.le_of_ble_eq_true rfl, hI.2.2.2.1⟩, ⟨Nat.le_of_ble_eq_true rfl, hI.2.2.2.2.1⟩, ⟨Nat.le_of_ble_eq_true rfl, hI.2.2.2.2.2⟩, trivial⟩
  · intro r μ' ν' P hP g'
    rcases List.mem_cons.mp hP with rfl | hP
    · obtain ⟨w, rfl, hw⟩ := r_int g'.gl
      have n0 : ν' 0 = 0 := g'.ag 0 (Nat.le_of_ble_eq_true rfl)
      have n1 : ν' 1 = a1.toInt := g'.ag 1 (Nat.le_of_ble_eq_true rfl)
      have n2 : ν' 2 = (μ.2.2.1 406 0).toInt := g'.ag 2 (Nat.le_of_ble_eq_true rfl)
      have n3 : ν' 3 = (μ.2.2.1 406 1).toInt := g'.ag 3 (Nat.le_of_ble_eq_true rfl)
      have n4 : ν' 4 = (μ.2.2.1 406 2).toInt := g'.ag 4 (Nat.le_of_ble_eq_true rfl)
      have n5 : ν' 5 = (μ.2.2.1 406 3).toInt := g'.ag 5 (Nat.le_of_ble_eq_true rfl)
      have n6 : ν' 6 = (μ.2.2.1 433 0).toInt := g'.ag 6 (Nat.le_of_ble_eq_true rfl)
      have n7 : ν' 7 = (μ.2.2.1 433 1).toInt := g'.ag 7 (Nat.le_of_ble_eq_true rfl)
      have n8 : ν' 8 = (μ.2.2.1 404 2).toInt := g'.ag 8 (Nat.le_of_ble_eq_true rfl)
      have sz0 : (μ'.2.2.1 404 2).toInt = ν' 8 + 0 := (g'.fa _ (List.Mem.tail _ (List.Mem.tail _ (List.Mem.head _)))).2
      have sz1 : (μ'.2.2.1 433 0).toInt = ν' 6 + 0 := (g'.fa _ (List.Mem.head _)).2
      have sz2 : (μ'.2.2.1 433 1).toInt = ν' 7 + 0 := (g'.fa _ (List.Mem.tail _ (List.Mem.head _))).2
      have sz3 : (μ'.2.2.1 1 1).toInt = (μ.2.2.1 1 1).toInt := by rw [(g'.fr 1 nc_X12_image_1).1]
      have sz4 : (μ'.2.2.1 210 0).toInt = (μ.2.2.1 210 0).toInt := by rw [(g'.fr 210 nc_X12_image_210).1]
      have sz5 : (μ'.2.2.1 307 0).toInt = (μ.2.2.1 307 0).toInt := by rw [(g'.fr 307 nc_X12_image_307).1]
      have hw' : w.toInt = ν' 0 + 0 := hw
      have i1 : (2 : Int) ≤ ν' 1 ∧ ν' 1 ≤ 2147483647 := g'.iv 1 (Nat.le_of_ble_eq_true rfl)
      have i2 : (0 : Int) ≤ ν' 2 ∧ ν' 2 ≤ 12 := g'.iv 2 (Nat.le_of_ble_eq_true rfl)
      have i3 : (0 : Int) ≤ ν' 3 ∧ ν' 3 ≤ 12 := g'.iv 3 (Nat.le_of_ble_eq_true rfl)
      have i4 : (0 : Int) ≤ ν' 4 ∧ ν' 4 ≤ 8 := g'.iv 4 (Nat.le_of_ble_eq_true rfl)
      have i5 : (0 : Int) ≤ ν' 5 ∧ ν' 5 ≤ 12 := g'.iv 5 (Nat.le_of_ble_eq_true rfl)
      have i6 : (0 : Int) ≤ ν' 6 ∧ ν' 6 ≤ 1 := g'.iv 6 (Nat.le_of_ble_eq_true rfl)
      have i7 : (0 : Int) ≤ ν' 7 ∧ ν' 7 ≤ 1 := g'.iv 7 (Nat.le_of_ble_eq_true rfl)
      have i8 : (0 : Int) ≤ ν' 8 ∧ ν' 8 ≤ 940 := g'.iv 8 (Nat.le_of_ble_eq_true rfl)
      exact hK _ w μ' ⟨⟨g'.sh, g'.hi, (g'.fl _ (List.Mem.head _)).2, (g'.fl _ (List.Mem.tail _ (List.Mem.head _))).2, (g'.fl _ (List.Mem.tail _ (List.Mem.tail _ (List.Mem.head _)))).2, (g'.fl _ (List.Mem.tail _ (List.Mem.tail _ (List.Mem.tail _ (List.Mem.head _))))).2⟩, rfl, by omega, ⟨sz3, sz4, sz5⟩, g'.fr⟩
    rcases List.mem_cons.mp hP with rfl | hP
    · obtain ⟨w, rfl, hw⟩ := r_int g'.gl
      have n0 : ν' 0 = 0 := g'.ag 0 (Nat.le_of_ble_eq_true rfl)
      have n1 : ν' 1 = a1.toInt := g'.ag 1 (Nat.le_of_ble_eq_true rfl)
      have n2 : ν' 2 = (μ.2.2.1 406 0).toInt := g'.ag 2 (Nat.le_of_ble_eq_true rfl)
      have n3 : ν' 3 = (μ.2.2.1 406 1).toInt := g'.ag 3 (Nat.le_of_ble_eq_true rfl)
      have n4 : ν' 4 = (μ.2.2.1 406 2).toInt := g'.ag 4 (Nat.le_of_ble_eq_true rfl)
      have n5 : ν' 5 = (μ.2.2.1 406 3).toInt := g'.ag 5 (Nat.le_of_ble_eq_true rfl)
      have n6 : ν' 6 = (μ.2.2.1 433 0).toInt := g'.ag 6 (Nat.le_of_ble_eq_true rfl)
      have n7 : ν' 7 = (μ.2.2.1 433 1).toInt := g'.ag 7 (Nat.le_of_ble_eq_true rfl)
      have n8 : ν' 8 = (μ.2.2.1 404 2).toInt := g'.ag 8 (Nat.le_of_ble_eq_true rfl)
      have sz0 : (μ'.2.2.1 404 2).toInt = ν' 8 + 0 := (g'.fa _ (List.Mem.tail _ (List.Mem.tail _ (List.Mem.head _)))).2
      have sz1 : (μ'.2.2.1 433 0).toInt = ν' 6 + 0 := (g'.fa _ (List.Mem.head _)).2
      have sz2 : (μ'.2.2.1 433 1).toInt = ν' 7 + 0 := (g'.fa _ (List.Mem.tail _ (List.Mem.head _))).2
      have sz3 : (μ'.2.2.1 1 1).toInt = (μ.2.2.1 1 1).toInt := by rw [(g'.fr 1 nc_X12_image_1).1]
      have sz4 : (μ'.2.2.1 210 0).toInt = (μ.2.2.1 210 0).toInt := by rw [(g'.fr 210 nc_X12_image_210).1]
      have sz5 : (μ'.2.2.1 307 0).toInt = (μ.2.2.1 307 0).toInt := by rw [(g'.fr 307 nc_X12_image_307).1]
      have hw' : w.toInt = ν' 0 + 0 := hw
      have i1 : (-2147483648 : Int) ≤ ν' 1 ∧ ν' 1 ≤ -1 := g'.iv 1 (Nat.le_of_ble_eq_true rfl)
      have i2 : (0 : Int) ≤ ν' 2 ∧ ν' 2 ≤ 12 := g'.iv 2 (Nat.le_of_ble_eq_true rfl)
      have i3 : (0 : Int) ≤ ν' 3 ∧ ν' 3 ≤ 12 := g'.iv 3 (Nat.le_of_ble_eq_true rfl)
      have i4 : (0 : Int) ≤ ν' 4 ∧ ν' 4 ≤ 8 := g'.iv 4 (Nat.le_of_ble_eq_true rfl)
      have i5 : (0 : Int) ≤ ν' 5 ∧ ν' 5 ≤ 12 := g'.iv 5 (Nat.le_of_ble_eq_true rfl)
      have i6 : (0 : Int) ≤ ν' 6 ∧ ν' 6 ≤ 1 := g'.iv 6 (Nat.le_of_ble_eq_true rfl)
      have i7 : (0 : Int) ≤ ν' 7 ∧ ν' 7 ≤ 1 := g'.iv 7 (Nat.le_of_ble_eq_true rfl)
      have i8 : (0 : Int) ≤ ν' 8 ∧ ν' 8 ≤ 940 := g'.iv 8 (Nat.le_of_ble_eq_true rfl)
      exact hK _ w μ' ⟨⟨g'.sh, g'.hi, (g'.fl _ (List.Mem.head _)).2, (g'.fl _ (List.Mem.tail _ (List.Mem.head _))).2, (g'.fl _ (List.Mem.tail _ (List.Mem.tail _ (List.Mem.head _)))).2, (g'.fl _ (List.Mem.tail _ (List.Mem.tail _ (List.Mem.tail _ (List.Mem.head _))))).2⟩, rfl, by omega, ⟨sz3, sz4, sz5⟩, g'.fr⟩
    rcases List.mem_cons.mp hP with rfl | hP
    · obtain ⟨w, rfl, hw⟩ := r_int g'.gl
      have n0 : ν' 0 = 0 := g'.ag 0 (Nat.le_of_ble_eq_true rfl)
      have n1 : ν' 1 = a1.toInt := g'.ag 1 (Nat.le_of_ble_eq_true rfl)
      have n2 : ν' 2 = (μ.2.2.1 406 0).toInt := g'.ag 2 (Nat.le_of_ble_eq_true rfl)
      have n3 : ν' 3 = (μ.2.2.1 406 1).toInt := g'.ag 3 (Nat.le_of_ble_eq_true rfl)
      have n4 : ν' 4 = (μ.2.2.1 406 2).toInt := g'.ag 4 (Nat.le_of_ble_eq_true rfl)
      have n5 : ν' 5 = (μ.2.2.1 406 3).toInt := g'.ag 5 (Nat.le_of_ble_eq_true rfl)
      have n6 : ν' 6 = (μ.2.2.1 433 0).toInt := g'.ag 6 (Nat.le_of_ble_eq_true rfl)
      have n7 : ν' 7 = (μ.2.2.1 433 1).toInt := g'.ag 7 (Nat.le_of_ble_eq_true rfl)
      have n8 : ν' 8 = (μ.2.2.1 404 2).toInt := g'.ag 8 (Nat.le_of_ble_eq_true rfl)
      have sz0 : (μ'.2.2.1 404 2).toInt = ν' 8 + 0 := (g'.fa _ (List.Mem.tail _ (List.Mem.tail _ (List.Mem.head _)))).2
      have sz1 : (μ'.2.2.1 433 0).toInt = ν' 6 + 0 := (g'.fa _ (List.Mem.head _)).2
      have sz2 : (μ'.2.2.1 433 1).toInt = ν' 0 + 1 := (g'.fa _ (List.Mem.tail _ (List.Mem.head _))).2
      have sz3 : (μ'.2.2.1 1 1).toInt = (μ.2.2.1 1 1).toInt := by rw [(g'.fr 1 nc_X12_image_1).1]
      have sz4 : (μ'.2.2.1 210 0).toInt = (μ.2.2.1 210 0).toInt := by rw [(g'.fr 210 nc_X12_image_210).1]
      have sz5 : (μ'.2.2.1 307 0).toInt = (μ.2.2.1 307 0).toInt := by rw [(g'.fr 307 nc_X12_image_307).1]
      have hw' : w.toInt = ν' 0 + 1 := hw
      have i1 : (1 : Int) ≤ ν' 1 ∧ ν' 1 ≤ 1 := g'.iv 1 (Nat.le_of_ble_eq_true rfl)
      have i2 : (0 : Int) ≤ ν' 2 ∧ ν' 2 ≤ 12 := g'.iv 2 (Nat.le_of_ble_eq_true rfl)
      have i3 : (0 : Int) ≤ ν' 3 ∧ ν' 3 ≤ 12 := g'.iv 3 (Nat.le_of_ble_eq_true rfl)
      have i4 : (0 : Int) ≤ ν' 4 ∧ ν' 4 ≤ 8 := g'.iv 4 (Nat.le_of_ble_eq_true rfl)
      have i5 : (0 : Int) ≤ ν' 5 ∧ ν' 5 ≤ 12 := g'.iv 5 (Nat.le_of_ble_eq_true rfl)
      have i6 : (0 : Int) ≤ ν' 6 ∧ ν' 6 ≤ 1 := g'.iv 6 (Nat.le_of_ble_eq_true rfl)
      have i7 : (0 : Int) ≤ ν' 7 ∧ ν' 7 ≤ 1 := g'.iv 7 (Nat.le_of_ble_eq_true rfl)
      have i8 : (0 : Int) ≤ ν' 8 ∧ ν' 8 ≤ 940 := g'.iv 8 (Nat.le_of_ble_eq_true rfl)
      exact hK _ w μ' ⟨⟨g'.sh, g'.hi, (g'.fl _ (List.Mem.tail _ (List.Mem.tail _ (List.Mem.tail _ (List.Mem.head _))))).2, (g'.fl _ (List.Mem.tail _ (List.Mem.tail _ (List.Mem.tail _ (List.Mem.tail _ (List.Mem.head _)))))).2, (g'.fl _ (List.Mem.head _)).2, (g'.fl _ (List.Mem.tail _ (List.Mem.head _))).2⟩, rfl, by omega, ⟨sz3, sz4, sz5⟩, g'.fr⟩
    rcases List.mem_cons.mp hP with rfl | hP
    · obtain ⟨w, rfl, hw⟩ := r_int g'.gl
      have n0 : ν' 0 = 0 := g'.ag 0 (Nat.le_of_ble_eq_true rfl)
      have n1 : ν' 1 = a1.toInt := g'.ag 1 (Nat.le_of_ble_eq_true rfl)
      have n2 : ν' 2 = (μ.2.2.1 406 0).toInt := g'.ag 2 (Nat.le_of_ble_eq_true rfl)
      have n3 : ν' 3 = (μ.2.2.1 406 1).toInt := g'.ag 3 (Nat.le_of_ble_eq_true rfl)
      have n4 : ν' 4 = (μ.2.2.1 406 2).toInt := g'.ag 4 (Nat.le_of_ble_eq_true rfl)
      have n5 : ν' 5 = (μ.2.2.1 406 3).toInt := g'.ag 5 (Nat.le_of_ble_eq_true rfl)
      have n6 : ν' 6 = (μ.2.2.1 433 0).toInt := g'.ag 6 (Nat.le_of_ble_eq_true rfl)
      have n7 : ν' 7 = (μ.2.2.1 433 1).toInt := g'.ag 7 (Nat.le_of_ble_eq_true rfl)
      have n8 : ν' 8 = (μ.2.2.1 404 2).toInt := g'.ag 8 (Nat.le_of_ble_eq_true rfl)
      have sz0 : (μ'.2.2.1 404 2).toInt = ν' 8 + 0 := (g'.fa _ (List.Mem.tail _ (List.Mem.tail _ (List.Mem.head _)))).2
      have sz1 : (μ'.2.2.1 433 0).toInt = ν' 0 + 1 := (g'.fa _ (List.Mem.head _)).2
      have sz2 : (μ'.2.2.1 433 1).toInt = ν' 7 + 0 := (g'.fa _ (List.Mem.tail _ (List.Mem.head _))).2
      have sz3 : (μ'.2.2.1 1 1).toInt = (μ.2.2.1 1 1).toInt := by rw [(g'.fr 1 nc_X12_image_1).1]
      have sz4 : (μ'.2.2.1 210 0).toInt = (μ.2.2.1 210 0).toInt := by rw [(g'.fr 210 nc_X12_image_210).1]
      have sz5 : (μ'.2.2.1 307 0).toInt = (μ.2.2.1 307 0).toInt := by rw [(g'.fr 307 nc_X12_image_307).1]
      have hw' : w.toInt = ν' 0 + 1 := hw
      have i1 : (0 : Int) ≤ ν' 1 ∧ ν' 1 ≤ 0 := g'.iv 1 (Nat.le_of_ble_eq_true rfl)
      have i2 : (0 : Int) ≤ ν' 2 ∧ ν' 2 ≤ 12 := g'.iv 2 (Nat.le_of_ble_eq_true rfl)
      have i3 : (0 : Int) ≤ ν' 3 ∧ ν' 3 ≤ 12 := g'.iv 3 (Nat.le_of_ble_eq_true rfl)
      have i4 : (0 : Int) ≤ ν' 4 ∧ ν' 4 ≤ 8 := g'.iv 4 (Nat.le_of_ble_eq_true rfl)
      have i5 : (0 : Int) ≤ ν' 5 ∧ ν' 5 ≤ 12 := g'.iv 5 (Nat.le_of_ble_eq_true rfl)
      have i6 : (0 : Int) ≤ ν' 6 ∧ ν' 6 ≤ 1 := g'.iv 6 (Nat.le_of_ble_eq_true rfl)
      have i7 : (0 : Int) ≤ ν' 7 ∧ ν' 7 ≤ 1 := g'.iv 7 (Nat.le_of_ble_eq_true rfl)
      have i8 : (0 : Int) ≤ ν' 8 ∧ ν' 8 ≤ 940 := g'.iv 8 (Nat.le_of_ble_eq_true rfl)
      exact hK _ w μ' ⟨⟨g'.sh, g'.hi, (g'.fl _ (List.Mem.tail _ (List.Mem.tail _ (List.Mem.tail _ (List.Mem.head _))))).2, (g'.fl _ (List.Mem.tail _ (List.Mem.tail _ (List.Mem.tail _ (List.Mem.tail _ (List.Mem.head _)))))).2, (g'.fl _ (List.Mem.head _)).2, (g'.fl _ (List.Mem.tail _ (List.Mem.head _))).2⟩, rfl, by omega, ⟨sz3, sz4, sz5⟩, g'.fr⟩
    exact absurd hP List.not_mem_nil
abbrev ck_X12_is (a1 a2 a3 : Int32) (μ : dw_S) (r : Option Value) (w : Int32) (μ' : dw_S) : Prop := (INV μ') ∧ (r = some (.int w)) ∧ ((μ'.2.2.1 404 2).toInt = (μ.2.2.1 404 2).toInt ∧ (μ'.2.2.1 433 0).toInt = (μ.2.2.1 433 0).toInt ∧ (μ'.2.2.1 433 1).toInt = (μ.2.2.1 433 1).toInt) ∧ ((μ'.2.2.1 1 1).toInt = (μ.2.2.1 1 1).toInt ∧ (μ'.2.2.1 210 0).toInt = (μ.2.2.1 210 0).toInt ∧ (μ'.2.2.1 307 0).toInt = (μ.2.2.1 307 0).toInt) ∧ (∀ a, a ∉ [404] → μ'.2.2.1 a = μ.2.2.1 a ∧ μ'.2.2.2 a = μ.2.2.2 a)
theorem kn_X12_is_0 : (fl_s 0).all (fun q => decide (q.1 ∉ ([404] : List Nat))) = true := by decide
theorem kn_X12_is_6 : (fl_s 6).all (fun q => decide (q.1 ∉ ([404] : List Nat))) = true := by decide
theorem kn_X12_is_2 : (fl_s 2).all (fun q => decide (q.1 ∉ ([404] : List Nat))) = true := by decide
theorem kn_X12_is_3 : (fl_s 3).all (fun q => decide (q.1 ∉ ([404] : List Nat))) = true := by decide
theorem nc_X12_is_433 : 433 ∉ ([404] : List Nat) := by decide
theorem nc_X12_is_1 : 1 ∉ ([404] : List Nat) := by decide
theorem nc_X12_is_210 : 210 ∉ ([404] : List Nat) := by decide
theorem nc_X12_is_307 : 307 ∉ ([404] : List Nat) := by decide
theorem cl_X12_is {μ : dw_S} {K : dw_K} {a1 a2 a3 : Int32} (hI : INV μ) (hK : ∀ (r : Option Value) (w : Int32) (μ' : dw_S), ck_X12_is a1 a2 a3 μ r w μ' → K r μ') : t_X12_is [.ref 404, .int a1, .int a2, .int a3] μ K := by
  have h_406_0 := hI.2.1 406 0
  rw [sgc_3] at h_406_0
  have h_406_1 := hI.2.1 406 1
  rw [sgc_4] at h_406_1
  have h_406_2 := hI.2.1 406 2
  rw [sgc_5] at h_406_2
  have h_406_3 := hI.2.1 406 3
  rw [sgc_6] at h_406_3
  have h_404_38 := hI.2.1 404 38
  rw [sgc_7] at h_404_38
  have h_404_2 := hI.2.1 404 2
  rw [sgc_8] at h_404_2
  refine al_364 338 (by decide) (fun s => [(0 : Int), (a1.toInt : Int), (a2.toInt : Int), (a3.toInt : Int), ((μ.2.2.1 406 0).toInt : Int), ((μ.2.2.1 406 1).toInt : Int), ((μ.2.2.1 406 2).toInt : Int), ((μ.2.2.1 406 3).toInt : Int), ((μ.2.2.1 404 38).toInt : Int), ((μ.2.2.1 404 2).toInt : Int)].getD s (0 : Int)) [.ref 404, .int a1, .int a2, .int a3] μ K ⟨hI.1, hI.2.1, fun _ _ => ⟨rfl, rfl⟩, rfl, Nat.le_refl _, Nat.le_of_ble_eq_true rfl, fun _ _ => rfl, ?_, fun q hq => absurd hq List.not_mem_nil, ?_, trivial, ?_, ?_⟩ ?_
  · exact iv2_ok (iv := (in_338).pre.iv) (vs := [(0 : Int), (a1.toInt : Int), (a2.toInt : Int), (a3.toInt : Int), ((μ.2.2.1 406 0).toInt : Int), ((μ.2.2.1 406 1).toInt : Int), ((μ.2.2.1 406 2).toInt : Int), ((μ.2.2.1 406 3).toInt : Int), ((μ.2.2.1 404 38).toInt : Int), ((μ.2.2.1 404 2).toInt : Int)]) ⟨⟨Int.le_refl 0, Int.le_refl 0⟩, ⟨dx_b1 _, dx_b2 _⟩, ⟨dx_b1 _, dx_b2 _⟩, ⟨dx_b1 _, dx_b2 _⟩, h_406_0, h_406_1, h_406_2, h_406_3, h_404_38, h_404_2, trivial⟩
  · exact ⟨⟨404, List.Mem.head _, rfl⟩, ⟨Nat.le_of_ble_eq_true rfl, a1, rfl, (Int.add_zero _).symm⟩, ⟨Nat.le_of_ble_eq_true rfl, a2, rfl, (Int.add_zero _).symm⟩, ⟨Nat.le_of_ble_eq_true rfl, a3, rfl, (Int.add_zero _).symm⟩, trivial⟩
  · exact dx_aL.all (l := (in_338).pre.fa) ⟨⟨Nat.le_of_ble_eq_true rfl, (Int.add_zero _).symm⟩, ⟨Nat.le_of_ble_eq_true rfl, (Int.add_zero _).symm⟩, ⟨Nat.le_of_ble_eq_true rfl, (Int.add_zero _).symm⟩, ⟨Nat.le_of_ble_eq_true rfl, (Int.add_zero _).symm⟩, ⟨Nat.le_of_ble_eq_true rfl, (Int.add_zero _).symm⟩, ⟨Nat.le_of_ble_eq_true rfl, (Int.add_zero _).symm⟩, trivial⟩
  · exact dx_aL.all (l := (in_338).pre.fl) trivial
  · intro r μ' ν' P hP g'
    rcases List.mem_cons.mp hP with rfl | hP
    · obtain ⟨w, rfl, hw⟩ := r_int g'.gl
      have n0 : ν' 0 = 0 := g'.ag 0 (Nat.le_of_ble_eq_true rfl)
      have n1 : ν' 1 = a1.toInt := g'.ag 1 (Nat.le_of_ble_eq_true rfl)
      have n2 : ν' 2 = a2.toInt := g'.ag 2 (Nat.le_of_ble_eq_true rfl)
      have n3 : ν' 3 = a3.toInt := g'.ag 3 (Nat.le_of_ble_eq_true rfl)
      have n4 : ν' 4 = (μ.2.2.1 406 0).toInt := g'.ag 4 (Nat.le_of_ble_eq_true rfl)
      have n5 : ν' 5 = (μ.2.2.1 406 1).toInt := g'.ag 5 (Nat.le_of_ble_eq_true rfl)
      have n6 : ν' 6 = (μ.2.2.1 406 2).toInt := g'.ag 6 (Nat.le_of_ble_eq_true rfl)
      have n7 : ν' 7 = (μ.2.2.1 406 3).toInt := g'.ag 7 (Nat.le_of_ble_eq_true rfl)
      have n8 : ν' 8 = (μ.2.2.1 404 38).toInt := g'.ag 8 (Nat.le_of_ble_eq_true rfl)
      have n9 : ν' 9 = (μ.2.2.1 404 2).toInt := g'.ag 9 (Nat.le_of_ble_eq_true rfl)
      have sz0 : (μ'.2.2.1 404 2).toInt = ν' 9 + 0 := (g'.fa _ (List.Mem.tail _ (List.Mem.head _))).2
      have sz1 : (μ'.2.2.1 433 0).toInt = (μ.2.2.1 433 0).toInt := by rw [(g'.fr 433 nc_X12_is_433).1]
      have sz2 : (μ'.2.2.1 433 1).toInt = (μ.2.2.1 433 1).toInt := by rw [(g'.fr 433 nc_X12_is_433).1]
      have sz3 : (μ'.2.2.1 1 1).toInt = (μ.2.2.1 1 1).toInt := by rw [(g'.fr 1 nc_X12_is_1).1]
      have sz4 : (μ'.2.2.1 210 0).toInt = (μ.2.2.1 210 0).toInt := by rw [(g'.fr 210 nc_X12_is_210).1]
      have sz5 : (μ'.2.2.1 307 0).toInt = (μ.2.2.1 307 0).toInt := by rw [(g'.fr 307 nc_X12_is_307).1]
      have hw' : w.toInt = ν' 0 + 0 := hw
      exact hK _ w μ' ⟨⟨g'.sh, g'.hi, keepf (md := [404]) kn_X12_is_0 g'.fr hI.2.2.1, keepf (md := [404]) kn_X12_is_6 g'.fr hI.2.2.2.1, keepf (md := [404]) kn_X12_is_2 g'.fr hI.2.2.2.2.1, keepf (md := [404]) kn_X12_is_3 g'.fr hI.2.2.2.2.2⟩, rfl, by omega, ⟨sz3, sz4, sz5⟩, g'.fr⟩
    rcases List.mem_cons.mp hP with rfl | hP
    · obtain ⟨w, rfl, hw⟩ := r_int g'.gl
      have n0 : ν' 0 = 0 := g'.ag 0 (Nat.le_of_ble_eq_true rfl)
      have n1 : ν' 1 = a1.toInt := g'.ag 1 (Nat.le_of_ble_eq_true rfl)
      have n2 : ν' 2 = a2.toInt := g'.ag 2 (Nat.le_of_ble_eq_true rfl)
      have n3 : ν' 3 = a3.toInt := g'.ag 3 (Nat.le_of_ble_eq_true rfl)
      have n4 : ν' 4 = (μ.2.2.1 406 0).toInt := g'.ag 4 (Nat.le_of_ble_eq_true rfl)
      have n5 : ν' 5 = (μ.2.2.1 406 1).toInt := g'.ag 5 (Nat.le_of_ble_eq_true rfl)
      have n6 : ν' 6 = (μ.2.2.1 406 2).toInt := g'.ag 6 (Nat.le_of_ble_eq_true rfl)
      have n7 : ν' 7 = (μ.2.2.1 406 3).toInt := g'.ag 7 (Nat.le_of_ble_eq_true rfl)
      have n8 : ν' 8 = (μ.2.2.1 404 38).toInt := g'.ag 8 (Nat.le_of_ble_eq_true rfl)
      have n9 : ν' 9 = (μ.2.2.1 404 2).toInt := g'.ag 9 (Nat.le_of_ble_eq_true rfl)
      have sz0 : (μ'.2.2.1 404 2).toInt = ν' 9 + 0 := (g'.fa _ (List.Mem.tail _ (List.Mem.head _))).2
      have sz1 : (μ'.2.2.1 433 0).toInt = (μ.2.2.1 433 0).toInt := by rw [(g'.fr 433 nc_X12_is_433).1]
      have sz2 : (μ'.2.2.1 433 1).toInt = (μ.2.2.1 433 1).toInt := by rw [(g'.fr 433 nc_X12_is_433).1]
      have sz3 : (μ'.2.2.1 1 1).toInt = (μ.2.2.1 1 1).toInt := by rw [(g'.fr 1 nc_X12_is_1).1]
      have sz4 : (μ'.2.2.1 210 0).toInt = (μ.2.2.1 210 0).toInt := by rw [(g'.fr 210 nc_X12_is_210).1]
      have sz5 : (μ'.2.2.1 307 0).toInt = (μ.2.2.1 307 0).toInt := by rw [(g'.fr 307 nc_X12_is_307).1]
      have hw' : w.toInt = ν' 10 + 0 := hw
      have i1 : (0 : Int) ≤ ν' 1 ∧ ν' 1 ≤ 11 := g'.iv 1 (Nat.le_of_ble_eq_true rfl)
      have i2 : (0 : Int) ≤ ν' 2 ∧ ν' 2 ≤ 11 := g'.iv 2 (Nat.le_of_ble_eq_true rfl)
      have i3 : (0 : Int) ≤ ν' 3 ∧ ν' 3 ≤ 1 := g'.iv 3 (Nat.le_of_ble_eq_true rfl)
      have i4 : (1 : Int) ≤ ν' 4 ∧ ν' 4 ≤ 12 := g'.iv 4 (Nat.le_of_ble_eq_true rfl)
      have i5 : (1 : Int) ≤ ν' 5 ∧ ν' 5 ≤ 12 := g'.iv 5 (Nat.le_of_ble_eq_true rfl)
      have d0 : ν' 1 - ν' 4 ≤ (-1) := (g'.dc _ (List.Mem.head _)).2.2
      have d1 : ν' 2 - ν' 5 ≤ (-1) := (g'.dc _ (List.Mem.tail _ (List.Mem.head _))).2.2
      exact hK _ w μ' ⟨⟨g'.sh, g'.hi, keepf (md := [404]) kn_X12_is_0 g'.fr hI.2.2.1, keepf (md := [404]) kn_X12_is_6 g'.fr hI.2.2.2.1, keepf (md := [404]) kn_X12_is_2 g'.fr hI.2.2.2.2.1, keepf (md := [404]) kn_X12_is_3 g'.fr hI.2.2.2.2.2⟩, rfl, by omega, ⟨sz3, sz4, sz5⟩, g'.fr⟩
    exact absurd hP List.not_mem_nil
abbrev ck_X12_lawn (μ : dw_S) (r : Option Value) (w : Int32) (μ' : dw_S) : Prop := (INV μ') ∧ (r = some (.int w)) ∧ ((μ'.2.2.1 404 2).toInt = 0 ∧ (μ'.2.2.1 433 0).toInt = (μ.2.2.1 433 0).toInt ∧ (μ'.2.2.1 433 1).toInt = (μ.2.2.1 433 1).toInt) ∧ ((μ'.2.2.1 1 1).toInt = (μ.2.2.1 1 1).toInt ∧ (μ'.2.2.1 210 0).toInt = (μ.2.2.1 210 0).toInt ∧ (μ'.2.2.1 307 0).toInt = (μ.2.2.1 307 0).toInt) ∧ (∀ a, a ∉ [404, 411, 412, 413, 414, 415, 416, 417, 418, 419] → μ'.2.2.1 a = μ.2.2.1 a ∧ μ'.2.2.2 a = μ.2.2.2 a)
theorem nc_X12_lawn_433 : 433 ∉ ([404, 411, 412, 413, 414, 415, 416, 417, 418, 419] : List Nat) := by decide
theorem nc_X12_lawn_1 : 1 ∉ ([404, 411, 412, 413, 414, 415, 416, 417, 418, 419] : List Nat) := by decide
theorem nc_X12_lawn_210 : 210 ∉ ([404, 411, 412, 413, 414, 415, 416, 417, 418, 419] : List Nat) := by decide
theorem nc_X12_lawn_307 : 307 ∉ ([404, 411, 412, 413, 414, 415, 416, 417, 418, 419] : List Nat) := by decide
theorem cl_X12_lawn {μ : dw_S} {K : dw_K} (hI : INV μ) (hK : ∀ (r : Option Value) (w : Int32) (μ' : dw_S), ck_X12_lawn μ r w μ' → K r μ') : t_X12_lawn [.ref 404] μ K := by
  have h_406_0 := hI.2.1 406 0
  rw [sgc_3] at h_406_0
  have h_406_1 := hI.2.1 406 1
  rw [sgc_4] at h_406_1
  have h_406_2 := hI.2.1 406 2
  rw [sgc_5] at h_406_2
  have h_406_3 := hI.2.1 406 3
  rw [sgc_6] at h_406_3
  have h_404_38 := hI.2.1 404 38
  rw [sgc_7] at h_404_38
  have h_404_2 := hI.2.1 404 2
  rw [sgc_8] at h_404_2
  refine al_364 339 (by decide) (fun s => [(0 : Int), ((μ.2.2.1 406 0).toInt : Int), ((μ.2.2.1 406 1).toInt : Int), ((μ.2.2.1 406 2).toInt : Int), ((μ.2.2.1 406 3).toInt : Int), ((μ.2.2.1 404 38).toInt : Int), ((μ.2.2.1 404 2).toInt : Int)].getD s (0 : Int)) [.ref 404] μ K ⟨hI.1, hI.2.1, fun _ _ => ⟨rfl, rfl⟩, rfl, Nat.le_refl _, Nat.le_of_ble_eq_true rfl, fun _ _ => rfl, ?_, fun q hq => absurd hq List.not_mem_nil, ?_, trivial, ?_, ?_⟩ ?_
  · exact iv2_ok (iv := (in_339).pre.iv) (vs := [(0 : Int), ((μ.2.2.1 406 0).toInt : Int), ((μ.2.2.1 406 1).toInt : Int), ((μ.2.2.1 406 2).toInt : Int), ((μ.2.2.1 406 3).toInt : Int), ((μ.2.2.1 404 38).toInt : Int), ((μ.2.2.1 404 2).toInt : Int)]) ⟨⟨Int.le_refl 0, Int.le_refl 0⟩, h_406_0, h_406_1, h_406_2, h_406_3, h_404_38, h_404_2, trivial⟩
  · exact ⟨⟨404, List.Mem.head _, rfl⟩, trivial⟩
  · exact dx_aL.all (l := (in_339).pre.fa) ⟨⟨Nat.le_of_ble_eq_true rfl, (Int.add_zero _).symm⟩, ⟨Nat.le_of_ble_eq_true rfl, (Int.add_zero _).symm⟩, ⟨Nat.le_of_ble_eq_true rfl, (Int.add_zero _).symm⟩, ⟨Nat.le_of_ble_eq_true rfl, (Int.add_zero _).symm⟩, ⟨Nat.le_of_ble_eq_true rfl, (Int.add_zero _).symm⟩, ⟨Nat.le_of_ble_eq_true rfl, (Int.add_zero _).symm⟩, trivial⟩
  · exact dx_aL.all (l := (in_339).pre.fl) ⟨⟨Nat.le_of_ble_eq_true rfl, hI.2.2.1⟩, ⟨Nat.le_of_ble_eq_true rfl, hI.2.2.2.1⟩, ⟨Nat.le_of_ble_eq_true rfl, hI.2.2.2.2.1⟩, ⟨Nat.le_of_ble_eq_true rfl, hI.2.2.2.2.2⟩, trivial⟩
  · intro r μ' ν' P hP g'
    rcases List.mem_cons.mp hP with rfl | hP
    · obtain ⟨w, rfl, hw⟩ := r_int g'.gl
      have n0 : ν' 0 = 0 := g'.ag 0 (Nat.le_of_ble_eq_true rfl)
      have n1 : ν' 1 = (μ.2.2.1 406 0).toInt := g'.ag 1 (Nat.le_of_ble_eq_true rfl)
      have n2 : ν' 2 = (μ.2.2.1 406 1).toInt := g'.ag 2 (Nat.le_of_ble_eq_true rfl)
      have n3 : ν' 3 = (μ.2.2.1 406 2).toInt := g'.ag 3 (Nat.le_of_ble_eq_true rfl)
      have n4 : ν' 4 = (μ.2.2.1 406 3).toInt := g'.ag 4 (Nat.le_of_ble_eq_true rfl)
      have n5 : ν' 5 = (μ.2.2.1 404 38).toInt := g'.ag 5 (Nat.le_of_ble_eq_true rfl)
      have n6 : ν' 6 = (μ.2.2.1 404 2).toInt := g'.ag 6 (Nat.le_of_ble_eq_true rfl)
      have sz0 : (μ'.2.2.1 404 2).toInt = ν' 0 + 0 := (g'.fa _ (List.Mem.tail _ (List.Mem.head _))).2
      have sz1 : (μ'.2.2.1 433 0).toInt = (μ.2.2.1 433 0).toInt := by rw [(g'.fr 433 nc_X12_lawn_433).1]
      have sz2 : (μ'.2.2.1 433 1).toInt = (μ.2.2.1 433 1).toInt := by rw [(g'.fr 433 nc_X12_lawn_433).1]
      have sz3 : (μ'.2.2.1 1 1).toInt = (μ.2.2.1 1 1).toInt := by rw [(g'.fr 1 nc_X12_lawn_1).1]
      have sz4 : (μ'.2.2.1 210 0).toInt = (μ.2.2.1 210 0).toInt := by rw [(g'.fr 210 nc_X12_lawn_210).1]
      have sz5 : (μ'.2.2.1 307 0).toInt = (μ.2.2.1 307 0).toInt := by rw [(g'.fr 307 nc_X12_lawn_307).1]
      have hw' : w.toInt = ν' 0 + (-1) := hw
      exact hK _ w μ' ⟨⟨g'.sh, g'.hi, (g'.fl _ (List.Mem.head _)).2, (g'.fl _ (List.Mem.tail _ (List.Mem.head _))).2, (g'.fl _ (List.Mem.tail _ (List.Mem.tail _ (List.Mem.head _)))).2, (g'.fl _ (List.Mem.tail _ (List.Mem.tail _ (List.Mem.tail _ (List.Mem.head _))))).2⟩, rfl, by omega, ⟨sz3, sz4, sz5⟩, g'.fr⟩
    rcases List.mem_cons.mp hP with rfl | hP
    · obtain ⟨w, rfl, hw⟩ := r_int g'.gl
      have n0 : ν' 0 = 0 := g'.ag 0 (Nat.le_of_ble_eq_true rfl)
      have n1 : ν' 1 = (μ.2.2.1 406 0).toInt := g'.ag 1 (Nat.le_of_ble_eq_true rfl)
      have n2 : ν' 2 = (μ.2.2.1 406 1).toInt := g'.ag 2 (Nat.le_of_ble_eq_true rfl)
      have n3 : ν' 3 = (μ.2.2.1 406 2).toInt := g'.ag 3 (Nat.le_of_ble_eq_true rfl)
      have n4 : ν' 4 = (μ.2.2.1 406 3).toInt := g'.ag 4 (Nat.le_of_ble_eq_true rfl)
      have n5 : ν' 5 = (μ.2.2.1 404 38).toInt := g'.ag 5 (Nat.le_of_ble_eq_true rfl)
      have n6 : ν' 6 = (μ.2.2.1 404 2).toInt := g'.ag 6 (Nat.le_of_ble_eq_true rfl)
      have sz0 : (μ'.2.2.1 404 2).toInt = ν' 0 + 0 := (g'.fa _ (List.Mem.tail _ (List.Mem.head _))).2
      have sz1 : (μ'.2.2.1 433 0).toInt = (μ.2.2.1 433 0).toInt := by rw [(g'.fr 433 nc_X12_lawn_433).1]
      have sz2 : (μ'.2.2.1 433 1).toInt = (μ.2.2.1 433 1).toInt := by rw [(g'.fr 433 nc_X12_lawn_433).1]
      have sz3 : (μ'.2.2.1 1 1).toInt = (μ.2.2.1 1 1).toInt := by rw [(g'.fr 1 nc_X12_lawn_1).1]
      have sz4 : (μ'.2.2.1 210 0).toInt = (μ.2.2.1 210 0).toInt := by rw [(g'.fr 210 nc_X12_lawn_210).1]
      have sz5 : (μ'.2.2.1 307 0).toInt = (μ.2.2.1 307 0).toInt := by rw [(g'.fr 307 nc_X12_lawn_307).1]
      have hw' : w.toInt = ν' 7 + 0 := hw
      have i6 : (0 : Int) ≤ ν' 6 ∧ ν' 6 ≤ 144 := g'.iv 6 (Nat.le_of_ble_eq_true rfl)
      exact hK _ w μ' ⟨⟨g'.sh, g'.hi, (g'.fl _ (List.Mem.head _)).2, (g'.fl _ (List.Mem.tail _ (List.Mem.head _))).2, (g'.fl _ (List.Mem.tail _ (List.Mem.tail _ (List.Mem.head _)))).2, (g'.fl _ (List.Mem.tail _ (List.Mem.tail _ (List.Mem.tail _ (List.Mem.head _))))).2⟩, rfl, by omega, ⟨sz3, sz4, sz5⟩, g'.fr⟩
    exact absurd hP List.not_mem_nil
abbrev ck_X12_much (a1 a2 a3 a4 : Int32) (μ : dw_S) (r : Option Value) (w : Int32) (μ' : dw_S) : Prop := (INV μ') ∧ (r = some (.int w)) ∧ ((μ'.2.2.1 404 2).toInt = (μ.2.2.1 404 2).toInt ∧ (μ'.2.2.1 433 0).toInt = (μ.2.2.1 433 0).toInt ∧ (μ'.2.2.1 433 1).toInt = (μ.2.2.1 433 1).toInt) ∧ ((μ'.2.2.1 1 1).toInt = (μ.2.2.1 1 1).toInt ∧ (μ'.2.2.1 210 0).toInt = (μ.2.2.1 210 0).toInt ∧ (μ'.2.2.1 307 0).toInt = (μ.2.2.1 307 0).toInt) ∧ (∀ a, a ∉ [404, 411, 412, 413, 414, 415, 416, 417, 418, 419] → μ'.2.2.1 a = μ.2.2.1 a ∧ μ'.2.2.2 a = μ.2.2.2 a)
theorem nc_X12_much_433 : 433 ∉ ([404, 411, 412, 413, 414, 415, 416, 417, 418, 419] : List Nat) := by decide
theorem nc_X12_much_1 : 1 ∉ ([404, 411, 412, 413, 414, 415, 416, 417, 418, 419] : List Nat) := by decide
theorem nc_X12_much_210 : 210 ∉ ([404, 411, 412, 413, 414, 415, 416, 417, 418, 419] : List Nat) := by decide
theorem nc_X12_much_307 : 307 ∉ ([404, 411, 412, 413, 414, 415, 416, 417, 418, 419] : List Nat) := by decide
theorem cl_X12_much {μ : dw_S} {K : dw_K} {a1 a2 a3 a4 : Int32} (hI : INV μ) (hK : ∀ (r : Option Value) (w : Int32) (μ' : dw_S), ck_X12_much a1 a2 a3 a4 μ r w μ' → K r μ') : t_X12_much [.ref 404, .int a1, .int a2, .int a3, .int a4] μ K := by
  have h_406_0 := hI.2.1 406 0
  rw [sgc_3] at h_406_0
  have h_406_1 := hI.2.1 406 1
  rw [sgc_4] at h_406_1
  have h_406_2 := hI.2.1 406 2
  rw [sgc_5] at h_406_2
  have h_406_3 := hI.2.1 406 3
  rw [sgc_6] at h_406_3
  have h_404_38 := hI.2.1 404 38
  rw [sgc_7] at h_404_38
  have h_404_2 := hI.2.1 404 2
  rw [sgc_8] at h_404_2
  refine al_364 341 (by decide) (fun s => [(0 : Int), (a1.toInt : Int), (a2.toInt : Int), (a3.toInt : Int), (a4.toInt : Int), ((μ.2.2.1 406 0).toInt : Int), ((μ.2.2.1 406 1).toInt : Int), ((μ.2.2.1 406 2).toInt : Int), ((μ.2.2.1 406 3).toInt : Int), ((μ.2.2.1 404 38).toInt : Int), ((μ.2.2.1 404 2).toInt : Int)].getD s (0 : Int)) [.ref 404, .int a1, .int a2, .int a3, .int a4] μ K ⟨hI.1, hI.2.1, fun _ _ => ⟨rfl, rfl⟩, rfl, Nat.le_refl _, Nat.le_of_ble_eq_true rfl, fun _ _ => rfl, ?_, fun q hq => absurd hq List.not_mem_nil, ?_, trivial, ?_, ?_⟩ ?_
  · exact iv2_ok (iv := (in_341).pre.iv) (vs := [(0 : Int), (a1.toInt : Int), (a2.toInt : Int), (a3.toInt : Int), (a4.toInt : Int), ((μ.2.2.1 406 0).toInt : Int), ((μ.2.2.1 406 1).toInt : Int), ((μ.2.2.1 406 2).toInt : Int), ((μ.2.2.1 406 3).toInt : Int), ((μ.2.2.1 404 38).toInt : Int), ((μ.2.2.1 404 2).toInt : Int)]) ⟨⟨Int.le_refl 0, Int.le_refl 0⟩, ⟨dx_b1 _, dx_b2 _⟩, ⟨dx_b1 _, dx_b2 _⟩, ⟨dx_b1 _, dx_b2 _⟩, ⟨dx_b1 _, dx_b2 _⟩, h_406_0, h_406_1, h_406_2, h_406_3, h_404_38, h_404_2, trivial⟩
  · exact ⟨⟨404, List.Mem.head _, rfl⟩, ⟨Nat.le_of_ble_eq_true rfl, a1, rfl, (Int.add_zero _).symm⟩, ⟨Nat.le_of_ble_eq_true rfl, a2, rfl, (Int.add_zero _).symm⟩, ⟨Nat.le_of_ble_eq_true rfl, a3, rfl, (Int.add_zero _).symm⟩, ⟨Nat.le_of_ble_eq_true rfl, a4, rfl, (Int.add_zero _).symm⟩, trivial⟩
  · exact dx_aL.all (l := (in_341).pre.fa) ⟨⟨Nat.le_of_ble_eq_true rfl, (Int.add_zero _).symm⟩, ⟨Nat.le_of_ble_eq_true rfl, (Int.add_zero _).symm⟩, ⟨Nat.le_of_ble_eq_true rfl, (Int.add_zero _).symm⟩, ⟨Nat.le_of_ble_eq_true rfl, (Int.add_zero _).symm⟩, ⟨Nat.le_of_ble_eq_true rfl, (Int.add_zero _).symm⟩, ⟨Nat.le_of_ble_eq_true rfl, (Int.add_zero _).symm⟩, trivial⟩
  · exact dx_aL.all (l := (in_341).pre.fl) ⟨⟨Nat.le_of_ble_eq_true rfl, hI.2.2.1⟩, ⟨Nat.le_of_ble_eq_true rfl, hI.2.2.2.1⟩, ⟨Nat.le_of_ble_eq_true rfl, hI.2.2.2.2.1⟩, ⟨Nat.le_of_ble_eq_true rfl, hI.2.2.2.2.2⟩, trivial⟩
  · intro r μ' ν' P hP g'
    rcases List.mem_cons.mp hP with rfl | hP
    · obtain ⟨w, rfl, hw⟩ := r_int g'.gl
      have n0 : ν' 0 = 0 := g'.ag 0 (Nat.le_of_ble_eq_true rfl)
      have n1 : ν' 1 = a1.toInt := g'.ag 1 (Nat.le_of_ble_eq_true rfl)
      have n2 : ν' 2 = a2.toInt := g'.ag 2 (Nat.le_of_ble_eq_true rfl)
      have n3 : ν' 3 = a3.toInt := g'.ag 3 (Nat.le_of_ble_eq_true rfl)
      have n4 : ν' 4 = a4.toInt := g'.ag 4 (Nat.le_of_ble_eq_true rfl)
      have n5 : ν' 5 = (μ.2.2.1 406 0).toInt := g'.ag 5 (Nat.le_of_ble_eq_true rfl)
      have n6 : ν' 6 = (μ.2.2.1 406 1).toInt := g'.ag 6 (Nat.le_of_ble_eq_true rfl)
      have n7 : ν' 7 = (μ.2.2.1 406 2).toInt := g'.ag 7 (Nat.le_of_ble_eq_true rfl)
      have n8 : ν' 8 = (μ.2.2.1 406 3).toInt := g'.ag 8 (Nat.le_of_ble_eq_true rfl)
      have n9 : ν' 9 = (μ.2.2.1 404 38).toInt := g'.ag 9 (Nat.le_of_ble_eq_true rfl)
      have n10 : ν' 10 = (μ.2.2.1 404 2).toInt := g'.ag 10 (Nat.le_of_ble_eq_true rfl)
      have sz0 : (μ'.2.2.1 404 2).toInt = ν' 10 + 0 := (g'.fa _ (List.Mem.tail _ (List.Mem.head _))).2
      have sz1 : (μ'.2.2.1 433 0).toInt = (μ.2.2.1 433 0).toInt := by rw [(g'.fr 433 nc_X12_much_433).1]
      have sz2 : (μ'.2.2.1 433 1).toInt = (μ.2.2.1 433 1).toInt := by rw [(g'.fr 433 nc_X12_much_433).1]
      have sz3 : (μ'.2.2.1 1 1).toInt = (μ.2.2.1 1 1).toInt := by rw [(g'.fr 1 nc_X12_much_1).1]
      have sz4 : (μ'.2.2.1 210 0).toInt = (μ.2.2.1 210 0).toInt := by rw [(g'.fr 210 nc_X12_much_210).1]
      have sz5 : (μ'.2.2.1 307 0).toInt = (μ.2.2.1 307 0).toInt := by rw [(g'.fr 307 nc_X12_much_307).1]
      have hw' : w.toInt = ν' 11 + 0 := hw
      have i1 : (0 : Int) ≤ ν' 1 ∧ ν' 1 ≤ 5 := g'.iv 1 (Nat.le_of_ble_eq_true rfl)
      have i2 : (0 : Int) ≤ ν' 2 ∧ ν' 2 ≤ 11 := g'.iv 2 (Nat.le_of_ble_eq_true rfl)
      have i3 : (0 : Int) ≤ ν' 3 ∧ ν' 3 ≤ 11 := g'.iv 3 (Nat.le_of_ble_eq_true rfl)
      have i4 : (0 : Int) ≤ ν' 4 ∧ ν' 4 ≤ 143 := g'.iv 4 (Nat.le_of_ble_eq_true rfl)
      have i5 : (1 : Int) ≤ ν' 5 ∧ ν' 5 ≤ 12 := g'.iv 5 (Nat.le_of_ble_eq_true rfl)
      have i6 : (1 : Int) ≤ ν' 6 ∧ ν' 6 ≤ 12 := g'.iv 6 (Nat.le_of_ble_eq_true rfl)
      have d0 : ν' 2 - ν' 5 ≤ (-1) := (g'.dc _ (List.Mem.head _)).2.2
      have d1 : ν' 3 - ν' 6 ≤ (-1) := (g'.dc _ (List.Mem.tail _ (List.Mem.head _))).2.2
      exact hK _ w μ' ⟨⟨g'.sh, g'.hi, (g'.fl _ (List.Mem.tail _ (List.Mem.tail _ (List.Mem.head _)))).2, (g'.fl _ (List.Mem.tail _ (List.Mem.tail _ (List.Mem.tail _ (List.Mem.head _))))).2, (g'.fl _ (List.Mem.tail _ (List.Mem.tail _ (List.Mem.tail _ (List.Mem.tail _ (List.Mem.head _)))))).2, (g'.fl _ (List.Mem.tail _ (List.Mem.tail _ (List.Mem.tail _ (List.Mem.tail _ (List.Mem.tail _ (List.Mem.head _))))))).2⟩, rfl, by omega, ⟨sz3, sz4, sz5⟩, g'.fr⟩
    rcases List.mem_cons.mp hP with rfl | hP
    · obtain ⟨w, rfl, hw⟩ := r_int g'.gl
      have n0 : ν' 0 = 0 := g'.ag 0 (Nat.le_of_ble_eq_true rfl)
      have n1 : ν' 1 = a1.toInt := g'.ag 1 (Nat.le_of_ble_eq_true rfl)
      have n2 : ν' 2 = a2.toInt := g'.ag 2 (Nat.le_of_ble_eq_true rfl)
      have n3 : ν' 3 = a3.toInt := g'.ag 3 (Nat.le_of_ble_eq_true rfl)
      have n4 : ν' 4 = a4.toInt := g'.ag 4 (Nat.le_of_ble_eq_true rfl)
      have n5 : ν' 5 = (μ.2.2.1 406 0).toInt := g'.ag 5 (Nat.le_of_ble_eq_true rfl)
      have n6 : ν' 6 = (μ.2.2.1 406 1).toInt := g'.ag 6 (Nat.le_of_ble_eq_true rfl)
      have n7 : ν' 7 = (μ.2.2.1 406 2).toInt := g'.ag 7 (Nat.le_of_ble_eq_true rfl)
      have n8 : ν' 8 = (μ.2.2.1 406 3).toInt := g'.ag 8 (Nat.le_of_ble_eq_true rfl)
      have n9 : ν' 9 = (μ.2.2.1 404 38).toInt := g'.ag 9 (Nat.le_of_ble_eq_true rfl)
      have n10 : ν' 10 = (μ.2.2.1 404 2).toInt := g'.ag 10 (Nat.le_of_ble_eq_true rfl)
      have sz0 : (μ'.2.2.1 404 2).toInt = ν' 10 + 0 := (g'.fa _ (List.Mem.tail _ (List.Mem.head _))).2
      have sz1 : (μ'.2.2.1 433 0).toInt = (μ.2.2.1 433 0).toInt := by rw [(g'.fr 433 nc_X12_much_433).1]
      have sz2 : (μ'.2.2.1 433 1).toInt = (μ.2.2.1 433 1).toInt := by rw [(g'.fr 433 nc_X12_much_433).1]
      have sz3 : (μ'.2.2.1 1 1).toInt = (μ.2.2.1 1 1).toInt := by rw [(g'.fr 1 nc_X12_much_1).1]
      have sz4 : (μ'.2.2.1 210 0).toInt = (μ.2.2.1 210 0).toInt := by rw [(g'.fr 210 nc_X12_much_210).1]
      have sz5 : (μ'.2.2.1 307 0).toInt = (μ.2.2.1 307 0).toInt := by rw [(g'.fr 307 nc_X12_much_307).1]
      have hw' : w.toInt = ν' 0 + (-1) := hw
      exact hK _ w μ' ⟨⟨g'.sh, g'.hi, (g'.fl _ (List.Mem.head _)).2, (g'.fl _ (List.Mem.tail _ (List.Mem.head _))).2, (g'.fl _ (List.Mem.tail _ (List.Mem.tail _ (List.Mem.head _)))).2, (g'.fl _ (List.Mem.tail _ (List.Mem.tail _ (List.Mem.tail _ (List.Mem.head _))))).2⟩, rfl, by omega, ⟨sz3, sz4, sz5⟩, g'.fr⟩
    exact absurd hP List.not_mem_nil
abbrev ck_X12_night (a1 : Int32) (μ : dw_S) (r : Option Value) (w : Int32) (μ' : dw_S) : Prop := (INV μ') ∧ (r = some (.int w)) ∧ ((μ'.2.2.1 404 2).toInt = 0 ∧ (μ'.2.2.1 433 0).toInt = (μ.2.2.1 433 0).toInt ∧ (μ'.2.2.1 433 1).toInt = (μ.2.2.1 433 1).toInt) ∧ ((μ'.2.2.1 1 1).toInt = (μ.2.2.1 1 1).toInt ∧ (μ'.2.2.1 210 0).toInt = (μ.2.2.1 210 0).toInt ∧ (μ'.2.2.1 307 0).toInt = (μ.2.2.1 307 0).toInt) ∧ (∀ a, a ∉ [404, 406, 408] → μ'.2.2.1 a = μ.2.2.1 a ∧ μ'.2.2.2 a = μ.2.2.2 a)
theorem sgc_24 : dx_seg (dx_ce 408).iv 0 = (0, 144) := by decide +kernel
theorem nc_X12_night_433 : 433 ∉ ([404, 406, 408] : List Nat) := by decide
theorem nc_X12_night_1 : 1 ∉ ([404, 406, 408] : List Nat) := by decide
theorem nc_X12_night_210 : 210 ∉ ([404, 406, 408] : List Nat) := by decide
theorem nc_X12_night_307 : 307 ∉ ([404, 406, 408] : List Nat) := by decide
theorem cl_X12_night {μ : dw_S} {K : dw_K} {a1 : Int32} (hI : INV μ) (hK : ∀ (r : Option Value) (w : Int32) (μ' : dw_S), ck_X12_night a1 μ r w μ' → K r μ') : t_X12_night [.ref 404, .int a1] μ K := by
  have h_408_0 := hI.2.1 408 0
  rw [sgc_24] at h_408_0
  have h_404_22 := hI.2.1 404 22
  rw [sgc_9] at h_404_22
  have h_404_2 := hI.2.1 404 2
  rw [sgc_8] at h_404_2
  have h_404_3 := hI.2.1 404 3
  rw [sgc_10] at h_404_3
  have h_404_4 := hI.2.1 404 4
  rw [sgc_11] at h_404_4
  have h_404_11 := hI.2.1 404 11
  rw [sgc_12] at h_404_11
  have h_404_12 := hI.2.1 404 12
  rw [sgc_13] at h_404_12
  have h_404_13 := hI.2.1 404 13
  rw [sgc_14] at h_404_13
  have h_404_14 := hI.2.1 404 14
  rw [sgc_15] at h_404_14
  have h_404_19 := hI.2.1 404 19
  rw [sgc_16] at h_404_19
  have h_404_21 := hI.2.1 404 21
  rw [sgc_17] at h_404_21
  have h_406_0 := hI.2.1 406 0
  rw [sgc_3] at h_406_0
  have h_406_1 := hI.2.1 406 1
  rw [sgc_4] at h_406_1
  have h_406_2 := hI.2.1 406 2
  rw [sgc_5] at h_406_2
  have h_406_3 := hI.2.1 406 3
  rw [sgc_6] at h_406_3
  have h_407_0 := hI.2.1 407 0
  rw [sgc_18] at h_407_0
  have h_407_1 := hI.2.1 407 1
  rw [sgc_19] at h_407_1
  have h_407_2 := hI.2.1 407 2
  rw [sgc_20] at h_407_2
  have h_407_3 := hI.2.1 407 3
  rw [sgc_21] at h_407_3
  refine al_364 343 (by decide) (fun s => [(0 : Int), (a1.toInt : Int), ((μ.2.2.1 408 0).toInt : Int), ((μ.2.2.1 404 22).toInt : Int), ((μ.2.2.1 404 2).toInt : Int), ((μ.2.2.1 404 3).toInt : Int), ((μ.2.2.1 404 4).toInt : Int), ((μ.2.2.1 404 11).toInt : Int), ((μ.2.2.1 404 12).toInt : Int), ((μ.2.2.1 404 13).toInt : Int), ((μ.2.2.1 404 14).toInt : Int), ((μ.2.2.1 404 19).toInt : Int), ((μ.2.2.1 404 21).toInt : Int), ((μ.2.2.1 406 0).toInt : Int), ((μ.2.2.1 406 1).toInt : Int), ((μ.2.2.1 406 2).toInt : Int), ((μ.2.2.1 406 3).toInt : Int), ((μ.2.2.1 407 0).toInt : Int), ((μ.2.2.1 407 1).toInt : Int), ((μ.2.2.1 407 2).toInt : Int), ((μ.2.2.1 407 3).toInt : Int)].getD s (0 : Int)) [.ref 404, .int a1] μ K ⟨hI.1, hI.2.1, fun _ _ => ⟨rfl, rfl⟩, rfl, Nat.le_refl _, Nat.le_of_ble_eq_true rfl, fun _ _ => rfl, ?_, fun q hq => absurd hq List.not_mem_nil, ?_, trivial, ?_, ?_⟩ ?_
  · exact iv2_ok (iv := (in_343).pre.iv) (vs := [(0 : Int), (a1.toInt : Int), ((μ.2.2.1 408 0).toInt : Int), ((μ.2.2.1 404 22).toInt : Int), ((μ.2.2.1 404 2).toInt : Int), ((μ.2.2.1 404 3).toInt : Int), ((μ.2.2.1 404 4).toInt : Int), ((μ.2.2.1 404 11).toInt : Int), ((μ.2.2.1 404 12).toInt : Int), ((μ.2.2.1 404 13).toInt : Int), ((μ.2.2.1 404 14).toInt : Int), ((μ.2.2.1 404 19).toInt : Int), ((μ.2.2.1 404 21).toInt : Int), ((μ.2.2.1 406 0).toInt : Int), ((μ.2.2.1 406 1).toInt : Int), ((μ.2.2.1 406 2).toInt : Int), ((μ.2.2.1 406 3).toInt : Int), ((μ.2.2.1 407 0).toInt : Int), ((μ.2.2.1 407 1).toInt : Int), ((μ.2.2.1 407 2).toInt : Int), ((μ.2.2.1 407 3).toInt : Int)]) ⟨⟨Int.le_refl 0, Int.le_refl 0⟩, ⟨dx_b1 _, dx_b2 _⟩, h_408_0, h_404_22, h_404_2, h_404_3, h_404_4, h_404_11, h_404_12, h_404_13, h_404_14, h_404_19, h_404_21, h_406_0, h_406_1, h_406_2, h_406_3, h_407_0, h_407_1, h_407_2, h_407_3, trivial⟩
  · exact ⟨⟨404, List.Mem.head _, rfl⟩, ⟨Nat.le_of_ble_eq_true rfl, a1, rfl, (Int.add_zero _).symm⟩, trivial⟩
  · exact dx_aL.all (l := (in_343).pre.fa) ⟨⟨Nat.le_of_ble_eq_true rfl, (Int.add_zero _).symm⟩, ⟨Nat.le_of_ble_eq_true rfl, (Int.add_zero _).symm⟩, ⟨Nat.le_of_ble_eq_true rfl, (Int.add_zero _).symm⟩, ⟨Nat.le_of_ble_eq_true rfl, (Int.add_zero _).symm⟩, ⟨Nat.le_of_ble_eq_true rfl, (Int.add_zero _).symm⟩, ⟨Nat.le_of_ble_eq_true rfl, (Int.add_zero _).symm⟩, ⟨Nat.le_of_ble_eq_true rfl, (Int.add_zero _).symm⟩, ⟨Nat.le_of_ble_eq_true rfl, (Int.add_zero _).symm⟩, ⟨Nat.le_of_ble_eq_true rfl, (Int.add_zero _).symm⟩, ⟨Nat.le_of_ble_eq_true rfl, (Int.add_zero _).symm⟩, ⟨Nat.le_of_ble_eq_true rfl, (Int.add_zero _).symm⟩, ⟨Nat.le_of_ble_eq_true rfl, (Int.add_zero _).symm⟩, ⟨Nat.le_of_ble_eq_true rfl, (Int.add_zero _).symm⟩, ⟨Nat.le_of_ble_eq_true rfl, (Int.add_zero _).symm⟩, ⟨Nat.le_of_ble_eq_true rfl, (Int.add_zero _).symm⟩, ⟨Nat.le_of_ble_eq_true rfl, (Int.add_zero _).symm⟩, ⟨Nat.le_of_ble_eq_true rfl, (Int.add_zero _).symm⟩, ⟨Nat.le_of_ble_eq_true rfl, (Int.add_zero _).symm⟩, ⟨Nat.le_of_ble_eq_true rfl, (Int.add_zero _).symm⟩, trivial⟩
  · exact dx_aL.all (l := (in_343).pre.fl) ⟨⟨Nat.le_of_ble_eq_true rfl, hI.2.2.1⟩, ⟨Nat.le_of_ble_eq_true rfl, hI.2.2.2.1⟩, ⟨Nat.le_of_ble_eq_true rfl, hI.2.2.2.2.1⟩, ⟨Nat.le_of_ble_eq_true rfl, hI.2.2.2.2.2⟩, trivial⟩
  · intro r μ' ν' P hP g'
    rcases List.mem_cons.mp hP with rfl | hP
    · obtain ⟨w, rfl, hw⟩ := r_int g'.gl
      have n0 : ν' 0 = 0 := g'.ag 0 (Nat.le_of_ble_eq_true rfl)
      have n1 : ν' 1 = a1.toInt := g'.ag 1 (Nat.le_of_ble_eq_true rfl)
      have n2 : ν' 2 = (μ.2.2.1 408 0).toInt := g'.ag 2 (Nat.le_of_ble_eq_true rfl)
      have n3 : ν' 3 = (μ.2.2.1 404 22).toInt := g'.ag 3 (Nat.le_of_ble_eq_true rfl)
      have n4 : ν' 4 = (μ.2.2.1 404 2).toInt := g'.ag 4 (Nat.le_of_ble_eq_true rfl)
      have n5 : ν' 5 = (μ.2.2.1 404 3).toInt := g'.ag 5 (Nat.le_of_ble_eq_true rfl)
      have n6 : ν' 6 = (μ.2.2.1 404 4).toInt := g'.ag 6 (Nat.le_of_ble_eq_true rfl)
      have n7 : ν' 7 = (μ.2.2.1 404 11).toInt := g'.ag 7 (Nat.le_of_ble_eq_true rfl)
      have n8 : ν' 8 = (μ.2.2.1 404 12).toInt := g'.ag 8 (Nat.le_of_ble_eq_true rfl)
      have n9 : ν' 9 = (μ.2.2.1 404 13).toInt := g'.ag 9 (Nat.le_of_ble_eq_true rfl)
      have n10 : ν' 10 = (μ.2.2.1 404 14).toInt := g'.ag 10 (Nat.le_of_ble_eq_true rfl)
      have n11 : ν' 11 = (μ.2.2.1 404 19).toInt := g'.ag 11 (Nat.le_of_ble_eq_true rfl)
      have n12 : ν' 12 = (μ.2.2.1 404 21).toInt := g'.ag 12 (Nat.le_of_ble_eq_true rfl)
      have n13 : ν' 13 = (μ.2.2.1 406 0).toInt := g'.ag 13 (Nat.le_of_ble_eq_true rfl)
      have n14 : ν' 14 = (μ.2.2.1 406 1).toInt := g'.ag 14 (Nat.le_of_ble_eq_true rfl)
      have n15 : ν' 15 = (μ.2.2.1 406 2).toInt := g'.ag 15 (Nat.le_of_ble_eq_true rfl)
      have n16 : ν' 16 = (μ.2.2.1 406 3).toInt := g'.ag 16 (Nat.le_of_ble_eq_true rfl)
      have n17 : ν' 17 = (μ.2.2.1 407 0).toInt := g'.ag 17 (Nat.le_of_ble_eq_true rfl)
      have n18 : ν' 18 = (μ.2.2.1 407 1).toInt := g'.ag 18 (Nat.le_of_ble_eq_true rfl)
      have n19 : ν' 19 = (μ.2.2.1 407 2).toInt := g'.ag 19 (Nat.le_of_ble_eq_true rfl)
      have n20 : ν' 20 = (μ.2.2.1 407 3).toInt := g'.ag 20 (Nat.le_of_ble_eq_true rfl)
      have sz0 : (μ'.2.2.1 404 2).toInt = ν' 0 + 0 := (g'.fa _ (List.Mem.tail _ (List.Mem.tail _ (List.Mem.head _)))).2
      have sz1 : (μ'.2.2.1 433 0).toInt = (μ.2.2.1 433 0).toInt := by rw [(g'.fr 433 nc_X12_night_433).1]
      have sz2 : (μ'.2.2.1 433 1).toInt = (μ.2.2.1 433 1).toInt := by rw [(g'.fr 433 nc_X12_night_433).1]
      have sz3 : (μ'.2.2.1 1 1).toInt = (μ.2.2.1 1 1).toInt := by rw [(g'.fr 1 nc_X12_night_1).1]
      have sz4 : (μ'.2.2.1 210 0).toInt = (μ.2.2.1 210 0).toInt := by rw [(g'.fr 210 nc_X12_night_210).1]
      have sz5 : (μ'.2.2.1 307 0).toInt = (μ.2.2.1 307 0).toInt := by rw [(g'.fr 307 nc_X12_night_307).1]
      have hw' : w.toInt = ν' 0 + (-1001) := hw
      exact hK _ w μ' ⟨⟨g'.sh, g'.hi, (g'.fl _ (List.Mem.head _)).2, (g'.fl _ (List.Mem.tail _ (List.Mem.head _))).2, (g'.fl _ (List.Mem.tail _ (List.Mem.tail _ (List.Mem.head _)))).2, (g'.fl _ (List.Mem.tail _ (List.Mem.tail _ (List.Mem.tail _ (List.Mem.head _))))).2⟩, rfl, by omega, ⟨sz3, sz4, sz5⟩, g'.fr⟩
    rcases List.mem_cons.mp hP with rfl | hP
    · obtain ⟨w, rfl, hw⟩ := r_int g'.gl
      have n0 : ν' 0 = 0 := g'.ag 0 (Nat.le_of_ble_eq_true rfl)
      have n1 : ν' 1 = a1.toInt := g'.ag 1 (Nat.le_of_ble_eq_true rfl)
      have n2 : ν' 2 = (μ.2.2.1 408 0).toInt := g'.ag 2 (Nat.le_of_ble_eq_true rfl)
      have n3 : ν' 3 = (μ.2.2.1 404 22).toInt := g'.ag 3 (Nat.le_of_ble_eq_true rfl)
      have n4 : ν' 4 = (μ.2.2.1 404 2).toInt := g'.ag 4 (Nat.le_of_ble_eq_true rfl)
      have n5 : ν' 5 = (μ.2.2.1 404 3).toInt := g'.ag 5 (Nat.le_of_ble_eq_true rfl)
      have n6 : ν' 6 = (μ.2.2.1 404 4).toInt := g'.ag 6 (Nat.le_of_ble_eq_true rfl)
      have n7 : ν' 7 = (μ.2.2.1 404 11).toInt := g'.ag 7 (Nat.le_of_ble_eq_true rfl)
      have n8 : ν' 8 = (μ.2.2.1 404 12).toInt := g'.ag 8 (Nat.le_of_ble_eq_true rfl)
      have n9 : ν' 9 = (μ.2.2.1 404 13).toInt := g'.ag 9 (Nat.le_of_ble_eq_true rfl)
      have n10 : ν' 10 = (μ.2.2.1 404 14).toInt := g'.ag 10 (Nat.le_of_ble_eq_true rfl)
      have n11 : ν' 11 = (μ.2.2.1 404 19).toInt := g'.ag 11 (Nat.le_of_ble_eq_true rfl)
      have n12 : ν' 12 = (μ.2.2.1 404 21).toInt := g'.ag 12 (Nat.le_of_ble_eq_true rfl)
      have n13 : ν' 13 = (μ.2.2.1 406 0).toInt := g'.ag 13 (Nat.le_of_ble_eq_true rfl)
      have n14 : ν' 14 = (μ.2.2.1 406 1).toInt := g'.ag 14 (Nat.le_of_ble_eq_true rfl)
      have n15 : ν' 15 = (μ.2.2.1 406 2).toInt := g'.ag 15 (Nat.le_of_ble_eq_true rfl)
      have n16 : ν' 16 = (μ.2.2.1 406 3).toInt := g'.ag 16 (Nat.le_of_ble_eq_true rfl)
      have n17 : ν' 17 = (μ.2.2.1 407 0).toInt := g'.ag 17 (Nat.le_of_ble_eq_true rfl)
      have n18 : ν' 18 = (μ.2.2.1 407 1).toInt := g'.ag 18 (Nat.le_of_ble_eq_true rfl)
      have n19 : ν' 19 = (μ.2.2.1 407 2).toInt := g'.ag 19 (Nat.le_of_ble_eq_true rfl)
      have n20 : ν' 20 = (μ.2.2.1 407 3).toInt := g'.ag 20 (Nat.le_of_ble_eq_true rfl)
      have sz0 : (μ'.2.2.1 404 2).toInt = ν' 0 + 0 := (g'.fa _ (List.Mem.tail _ (List.Mem.tail _ (List.Mem.head _)))).2
      have sz1 : (μ'.2.2.1 433 0).toInt = (μ.2.2.1 433 0).toInt := by rw [(g'.fr 433 nc_X12_night_433).1]
      have sz2 : (μ'.2.2.1 433 1).toInt = (μ.2.2.1 433 1).toInt := by rw [(g'.fr 433 nc_X12_night_433).1]
      have sz3 : (μ'.2.2.1 1 1).toInt = (μ.2.2.1 1 1).toInt := by rw [(g'.fr 1 nc_X12_night_1).1]
      have sz4 : (μ'.2.2.1 210 0).toInt = (μ.2.2.1 210 0).toInt := by rw [(g'.fr 210 nc_X12_night_210).1]
      have sz5 : (μ'.2.2.1 307 0).toInt = (μ.2.2.1 307 0).toInt := by rw [(g'.fr 307 nc_X12_night_307).1]
      have hw' : w.toInt = ν' 21 + 0 := hw
      have i1 : (0 : Int) ≤ ν' 1 ∧ ν' 1 ≤ 5 := g'.iv 1 (Nat.le_of_ble_eq_true rfl)
      exact hK _ w μ' ⟨⟨g'.sh, g'.hi, (g'.fl _ (List.Mem.head _)).2, (g'.fl _ (List.Mem.tail _ (List.Mem.head _))).2, (g'.fl _ (List.Mem.tail _ (List.Mem.tail _ (List.Mem.head _)))).2, (g'.fl _ (List.Mem.tail _ (List.Mem.tail _ (List.Mem.tail _ (List.Mem.head _))))).2⟩, rfl, by omega, ⟨sz3, sz4, sz5⟩, g'.fr⟩
    exact absurd hP List.not_mem_nil
abbrev ck_X12_now (a1 : Int32) (μ : dw_S) (r : Option Value) (w : Int32) (μ' : dw_S) : Prop := (INV μ') ∧ (r = some (.int w)) ∧ ((μ'.2.2.1 404 2).toInt = (μ.2.2.1 404 2).toInt ∧ (μ'.2.2.1 433 0).toInt = (μ.2.2.1 433 0).toInt ∧ (μ'.2.2.1 433 1).toInt = (μ.2.2.1 433 1).toInt) ∧ ((μ'.2.2.1 1 1).toInt = (μ.2.2.1 1 1).toInt ∧ (μ'.2.2.1 210 0).toInt = (μ.2.2.1 210 0).toInt ∧ (μ'.2.2.1 307 0).toInt = (μ.2.2.1 307 0).toInt) ∧ (∀ a, a ∉ [404] → μ'.2.2.1 a = μ.2.2.1 a ∧ μ'.2.2.2 a = μ.2.2.2 a)
theorem kn_X12_now_0 : (fl_s 0).all (fun q => decide (q.1 ∉ ([404] : List Nat))) = true := by decide
theorem kn_X12_now_6 : (fl_s 6).all (fun q => decide (q.1 ∉ ([404] : List Nat))) = true := by decide
theorem kn_X12_now_2 : (fl_s 2).all (fun q => decide (q.1 ∉ ([404] : List Nat))) = true := by decide
theorem kn_X12_now_3 : (fl_s 3).all (fun q => decide (q.1 ∉ ([404] : List Nat))) = true := by decide
theorem nc_X12_now_433 : 433 ∉ ([404] : List Nat) := by decide
theorem nc_X12_now_1 : 1 ∉ ([404] : List Nat) := by decide
theorem nc_X12_now_210 : 210 ∉ ([404] : List Nat) := by decide
theorem nc_X12_now_307 : 307 ∉ ([404] : List Nat) := by decide
theorem cl_X12_now {μ : dw_S} {K : dw_K} {a1 : Int32} (hI : INV μ) (hK : ∀ (r : Option Value) (w : Int32) (μ' : dw_S), ck_X12_now a1 μ r w μ' → K r μ') : t_X12_now [.ref 404, .int a1] μ K := by
  have h_406_0 := hI.2.1 406 0
  rw [sgc_3] at h_406_0
  have h_406_1 := hI.2.1 406 1
  rw [sgc_4] at h_406_1
  have h_406_2 := hI.2.1 406 2
  rw [sgc_5] at h_406_2
  have h_406_3 := hI.2.1 406 3
  rw [sgc_6] at h_406_3
  have h_404_38 := hI.2.1 404 38
  rw [sgc_7] at h_404_38
  have h_404_2 := hI.2.1 404 2
  rw [sgc_8] at h_404_2
  refine al_364 344 (by decide) (fun s => [(0 : Int), (a1.toInt : Int), ((μ.2.2.1 406 0).toInt : Int), ((μ.2.2.1 406 1).toInt : Int), ((μ.2.2.1 406 2).toInt : Int), ((μ.2.2.1 406 3).toInt : Int), ((μ.2.2.1 404 38).toInt : Int), ((μ.2.2.1 404 2).toInt : Int)].getD s (0 : Int)) [.ref 404, .int a1] μ K ⟨hI.1, hI.2.1, fun _ _ => ⟨rfl, rfl⟩, rfl, Nat.le_refl _, Nat.le_of_ble_eq_true rfl, fun _ _ => rfl, ?_, fun q hq => absurd hq List.not_mem_nil, ?_, trivial, ?_, ?_⟩ ?_
  · exact iv2_ok (iv := (in_344).pre.iv) (vs := [(0 : Int), (a1.toInt : Int), ((μ.2.2.1 406 0).toInt : Int), ((μ.2.2.1 406 1).toInt : Int), ((μ.2.2.1 406 2).toInt : Int), ((μ.2.2.1 406 3).toInt : Int), ((μ.2.2.1 404 38).toInt : Int), ((μ.2.2.1 404 2).toInt : Int)]) ⟨⟨Int.le_refl 0, Int.le_refl 0⟩, ⟨dx_b1 _, dx_b2 _⟩, h_406_0, h_406_1, h_406_2, h_406_3, h_404_38, h_404_2, trivial⟩
  · exact ⟨⟨404, List.Mem.head _, rfl⟩, ⟨Nat.le_of_ble_eq_true rfl, a1, rfl, (Int.add_zero _).symm⟩, trivial⟩
  · exact dx_aL.all (l := (in_344).pre.fa) ⟨⟨Nat.le_of_ble_eq_true rfl, (Int.add_zero _).symm⟩, ⟨Nat.le_of_ble_eq_true rfl, (Int.add_zero _).symm⟩, ⟨Nat.le_of_ble_eq_true rfl, (Int.add_zero _).symm⟩, ⟨Nat.le_of_ble_eq_true rfl, (Int.add_zero _).symm⟩, ⟨Nat.le_of_ble_eq_true rfl, (Int.add_zero _).symm⟩, ⟨Nat.le_of_ble_eq_true rfl, (Int.add_zero _).symm⟩, trivial⟩
  · exact dx_aL.all (l := (in_344).pre.fl) trivial
  · intro r μ' ν' P hP g'
    rcases List.mem_cons.mp hP with rfl | hP
    · obtain ⟨w, rfl, hw⟩ := r_int g'.gl
      have n0 : ν' 0 = 0 := g'.ag 0 (Nat.le_of_ble_eq_true rfl)
      have n1 : ν' 1 = a1.toInt := g'.ag 1 (Nat.le_of_ble_eq_true rfl)
      have n2 : ν' 2 = (μ.2.2.1 406 0).toInt := g'.ag 2 (Nat.le_of_ble_eq_true rfl)
      have n3 : ν' 3 = (μ.2.2.1 406 1).toInt := g'.ag 3 (Nat.le_of_ble_eq_true rfl)
      have n4 : ν' 4 = (μ.2.2.1 406 2).toInt := g'.ag 4 (Nat.le_of_ble_eq_true rfl)
      have n5 : ν' 5 = (μ.2.2.1 406 3).toInt := g'.ag 5 (Nat.le_of_ble_eq_true rfl)
      have n6 : ν' 6 = (μ.2.2.1 404 38).toInt := g'.ag 6 (Nat.le_of_ble_eq_true rfl)
      have n7 : ν' 7 = (μ.2.2.1 404 2).toInt := g'.ag 7 (Nat.le_of_ble_eq_true rfl)
      have sz0 : (μ'.2.2.1 404 2).toInt = ν' 7 + 0 := (g'.fa _ (List.Mem.tail _ (List.Mem.head _))).2
      have sz1 : (μ'.2.2.1 433 0).toInt = (μ.2.2.1 433 0).toInt := by rw [(g'.fr 433 nc_X12_now_433).1]
      have sz2 : (μ'.2.2.1 433 1).toInt = (μ.2.2.1 433 1).toInt := by rw [(g'.fr 433 nc_X12_now_433).1]
      have sz3 : (μ'.2.2.1 1 1).toInt = (μ.2.2.1 1 1).toInt := by rw [(g'.fr 1 nc_X12_now_1).1]
      have sz4 : (μ'.2.2.1 210 0).toInt = (μ.2.2.1 210 0).toInt := by rw [(g'.fr 210 nc_X12_now_210).1]
      have sz5 : (μ'.2.2.1 307 0).toInt = (μ.2.2.1 307 0).toInt := by rw [(g'.fr 307 nc_X12_now_307).1]
      have hw' : w.toInt = ν' 0 + (-1) := hw
      exact hK _ w μ' ⟨⟨g'.sh, g'.hi, keepf (md := [404]) kn_X12_now_0 g'.fr hI.2.2.1, keepf (md := [404]) kn_X12_now_6 g'.fr hI.2.2.2.1, keepf (md := [404]) kn_X12_now_2 g'.fr hI.2.2.2.2.1, keepf (md := [404]) kn_X12_now_3 g'.fr hI.2.2.2.2.2⟩, rfl, by omega, ⟨sz3, sz4, sz5⟩, g'.fr⟩
    rcases List.mem_cons.mp hP with rfl | hP
    · obtain ⟨w, rfl, hw⟩ := r_int g'.gl
      have n0 : ν' 0 = 0 := g'.ag 0 (Nat.le_of_ble_eq_true rfl)
      have n1 : ν' 1 = a1.toInt := g'.ag 1 (Nat.le_of_ble_eq_true rfl)
      have n2 : ν' 2 = (μ.2.2.1 406 0).toInt := g'.ag 2 (Nat.le_of_ble_eq_true rfl)
      have n3 : ν' 3 = (μ.2.2.1 406 1).toInt := g'.ag 3 (Nat.le_of_ble_eq_true rfl)
      have n4 : ν' 4 = (μ.2.2.1 406 2).toInt := g'.ag 4 (Nat.le_of_ble_eq_true rfl)
      have n5 : ν' 5 = (μ.2.2.1 406 3).toInt := g'.ag 5 (Nat.le_of_ble_eq_true rfl)
      have n6 : ν' 6 = (μ.2.2.1 404 38).toInt := g'.ag 6 (Nat.le_of_ble_eq_true rfl)
      have n7 : ν' 7 = (μ.2.2.1 404 2).toInt := g'.ag 7 (Nat.le_of_ble_eq_true rfl)
      have sz0 : (μ'.2.2.1 404 2).toInt = ν' 7 + 0 := (g'.fa _ (List.Mem.tail _ (List.Mem.head _))).2
      have sz1 : (μ'.2.2.1 433 0).toInt = (μ.2.2.1 433 0).toInt := by rw [(g'.fr 433 nc_X12_now_433).1]
      have sz2 : (μ'.2.2.1 433 1).toInt = (μ.2.2.1 433 1).toInt := by rw [(g'.fr 433 nc_X12_now_433).1]
      have sz3 : (μ'.2.2.1 1 1).toInt = (μ.2.2.1 1 1).toInt := by rw [(g'.fr 1 nc_X12_now_1).1]
      have sz4 : (μ'.2.2.1 210 0).toInt = (μ.2.2.1 210 0).toInt := by rw [(g'.fr 210 nc_X12_now_210).1]
      have sz5 : (μ'.2.2.1 307 0).toInt = (μ.2.2.1 307 0).toInt := by rw [(g'.fr 307 nc_X12_now_307).1]
      have hw' : w.toInt = ν' 8 + 0 := hw
      have i1 : (0 : Int) ≤ ν' 1 ∧ ν' 1 ≤ 4 := g'.iv 1 (Nat.le_of_ble_eq_true rfl)
      exact hK _ w μ' ⟨⟨g'.sh, g'.hi, keepf (md := [404]) kn_X12_now_0 g'.fr hI.2.2.1, keepf (md := [404]) kn_X12_now_6 g'.fr hI.2.2.2.1, keepf (md := [404]) kn_X12_now_2 g'.fr hI.2.2.2.2.1, keepf (md := [404]) kn_X12_now_3 g'.fr hI.2.2.2.2.2⟩, rfl, by omega, ⟨sz3, sz4, sz5⟩, g'.fr⟩
    exact absurd hP List.not_mem_nil
abbrev ck_X12_on (a1 : Int32) (μ : dw_S) (r : Option Value) (w : Int32) (μ' : dw_S) : Prop := (INV μ') ∧ (r = some (.int w)) ∧ ((μ'.2.2.1 404 2).toInt = (μ.2.2.1 404 2).toInt ∧ (μ'.2.2.1 433 0).toInt = (μ.2.2.1 433 0).toInt ∧ (μ'.2.2.1 433 1).toInt = (μ.2.2.1 433 1).toInt) ∧ ((μ'.2.2.1 1 1).toInt = (μ.2.2.1 1 1).toInt ∧ (μ'.2.2.1 210 0).toInt = (μ.2.2.1 210 0).toInt ∧ (μ'.2.2.1 307 0).toInt = (μ.2.2.1 307 0).toInt) ∧ (∀ a, a ∉ [404, 406, 411, 412, 413, 414, 415, 416, 417, 418, 419, 420] → μ'.2.2.1 a = μ.2.2.1 a ∧ μ'.2.2.2 a = μ.2.2.2 a)
theorem nc_X12_on_433 : 433 ∉ ([404, 406, 411, 412, 413, 414, 415, 416, 417, 418, 419, 420] : List Nat) := by decide
theorem nc_X12_on_1 : 1 ∉ ([404, 406, 411, 412, 413, 414, 415, 416, 417, 418, 419, 420] : List Nat) := by decide
theorem nc_X12_on_210 : 210 ∉ ([404, 406, 411, 412, 413, 414, 415, 416, 417, 418, 419, 420] : List Nat) := by decide
theorem nc_X12_on_307 : 307 ∉ ([404, 406, 411, 412, 413, 414, 415, 416, 417, 418, 419, 420] : List Nat) := by decide
theorem cl_X12_on {μ : dw_S} {K : dw_K} {a1 : Int32} (hI : INV μ) (hK : ∀ (r : Option Value) (w : Int32) (μ' : dw_S), ck_X12_on a1 μ r w μ' → K r μ') : t_X12_on [.ref 404, .int a1] μ K := by
  have h_406_0 := hI.2.1 406 0
  rw [sgc_3] at h_406_0
  have h_406_1 := hI.2.1 406 1
  rw [sgc_4] at h_406_1
  have h_406_2 := hI.2.1 406 2
  rw [sgc_5] at h_406_2
  have h_406_3 := hI.2.1 406 3
  rw [sgc_6] at h_406_3
  have h_404_38 := hI.2.1 404 38
  rw [sgc_7] at h_404_38
  have h_404_2 := hI.2.1 404 2
  rw [sgc_8] at h_404_2
  refine al_364 345 (by decide) (fun s => [(0 : Int), (a1.toInt : Int), ((μ.2.2.1 406 0).toInt : Int), ((μ.2.2.1 406 1).toInt : Int), ((μ.2.2.1 406 2).toInt : Int), ((μ.2.2.1 406 3).toInt : Int), ((μ.2.2.1 404 38).toInt : Int), ((μ.2.2.1 404 2).toInt : Int)].getD s (0 : Int)) [.ref 404, .int a1] μ K ⟨hI.1, hI.2.1, fun _ _ => ⟨rfl, rfl⟩, rfl, Nat.le_refl _, Nat.le_of_ble_eq_true rfl, fun _ _ => rfl, ?_, fun q hq => absurd hq List.not_mem_nil, ?_, trivial, ?_, ?_⟩ ?_
  · exact iv2_ok (iv := (in_345).pre.iv) (vs := [(0 : Int), (a1.toInt : Int), ((μ.2.2.1 406 0).toInt : Int), ((μ.2.2.1 406 1).toInt : Int), ((μ.2.2.1 406 2).toInt : Int), ((μ.2.2.1 406 3).toInt : Int), ((μ.2.2.1 404 38).toInt : Int), ((μ.2.2.1 404 2).toInt : Int)]) ⟨⟨Int.le_refl 0, Int.le_refl 0⟩, ⟨dx_b1 _, dx_b2 _⟩, h_406_0, h_406_1, h_406_2, h_406_3, h_404_38, h_404_2, trivial⟩
  · exact ⟨⟨404, List.Mem.head _, rfl⟩, ⟨Nat.le_of_ble_eq_true rfl, a1, rfl, (Int.add_zero _).symm⟩, trivial⟩
  · exact dx_aL.all (l := (in_345).pre.fa) ⟨⟨Nat.le_of_ble_eq_true rfl, (Int.add_zero _).symm⟩, ⟨Nat.le_of_ble_eq_true rfl, (Int.add_zero _).symm⟩, ⟨Nat.le_of_ble_eq_true rfl, (Int.add_zero _).symm⟩, ⟨Nat.le_of_ble_eq_true rfl, (Int.add_zero _).symm⟩, ⟨Nat.le_of_ble_eq_true rfl, (Int.add_zero _).symm⟩, ⟨Nat.le_of_ble_eq_true rfl, (Int.add_zero _).symm⟩, trivial⟩
  · exact dx_aL.all (l := (in_345).pre.fl) ⟨⟨Nat.le_of_ble_eq_true rfl, hI.2.2.1⟩, ⟨Nat.le_of_ble_eq_true rfl, hI.2.2.2.1⟩, ⟨Nat.le_of_ble_eq_true rfl, hI.2.2.2.2.1⟩, ⟨Nat.le_of_ble_eq_true rfl, hI.2.2.2.2.2⟩, trivial⟩
  · intro r μ' ν' P hP g'
    rcases List.mem_cons.mp hP with rfl | hP
    · obtain ⟨w, rfl, hw⟩ := r_int g'.gl
      have n0 : ν' 0 = 0 := g'.ag 0 (Nat.le_of_ble_eq_true rfl)
      have n1 : ν' 1 = a1.toInt := g'.ag 1 (Nat.le_of_ble_eq_true rfl)
      have n2 : ν' 2 = (μ.2.2.1 406 0).toInt := g'.ag 2 (Nat.le_of_ble_eq_true rfl)
      have n3 : ν' 3 = (μ.2.2.1 406 1).toInt := g'.ag 3 (Nat.le_of_ble_eq_true rfl)
      have n4 : ν' 4 = (μ.2.2.1 406 2).toInt := g'.ag 4 (Nat.le_of_ble_eq_true rfl)
      have n5 : ν' 5 = (μ.2.2.1 406 3).toInt := g'.ag 5 (Nat.le_of_ble_eq_true rfl)
      have n6 : ν' 6 = (μ.2.2.1 404 38).toInt := g'.ag 6 (Nat.le_of_ble_eq_true rfl)
      have n7 : ν' 7 = (μ.2.2.1 404 2).toInt := g'.ag 7 (Nat.le_of_ble_eq_true rfl)
      have sz0 : (μ'.2.2.1 404 2).toInt = ν' 7 + 0 := (g'.fa _ (List.Mem.tail _ (List.Mem.tail _ (List.Mem.tail _ (List.Mem.tail _ (List.Mem.tail _ (List.Mem.head _))))))).2
      have sz1 : (μ'.2.2.1 433 0).toInt = (μ.2.2.1 433 0).toInt := by rw [(g'.fr 433 nc_X12_on_433).1]
      have sz2 : (μ'.2.2.1 433 1).toInt = (μ.2.2.1 433 1).toInt := by rw [(g'.fr 433 nc_X12_on_433).1]
      have sz3 : (μ'.2.2.1 1 1).toInt = (μ.2.2.1 1 1).toInt := by rw [(g'.fr 1 nc_X12_on_1).1]
      have sz4 : (μ'.2.2.1 210 0).toInt = (μ.2.2.1 210 0).toInt := by rw [(g'.fr 210 nc_X12_on_210).1]
      have sz5 : (μ'.2.2.1 307 0).toInt = (μ.2.2.1 307 0).toInt := by rw [(g'.fr 307 nc_X12_on_307).1]
      have hw' : w.toInt = ν' 0 + (-1) := hw
      exact hK _ w μ' ⟨⟨g'.sh, g'.hi, (g'.fl _ (List.Mem.head _)).2, (g'.fl _ (List.Mem.tail _ (List.Mem.head _))).2, (g'.fl _ (List.Mem.tail _ (List.Mem.tail _ (List.Mem.head _)))).2, (g'.fl _ (List.Mem.tail _ (List.Mem.tail _ (List.Mem.tail _ (List.Mem.head _))))).2⟩, rfl, by omega, ⟨sz3, sz4, sz5⟩, g'.fr⟩
    rcases List.mem_cons.mp hP with rfl | hP
    · obtain ⟨w, rfl, hw⟩ := r_int g'.gl
      have n0 : ν' 0 = 0 := g'.ag 0 (Nat.le_of_ble_eq_true rfl)
      have n1 : ν' 1 = a1.toInt := g'.ag 1 (Nat.le_of_ble_eq_true rfl)
      have n2 : ν' 2 = (μ.2.2.1 406 0).toInt := g'.ag 2 (Nat.le_of_ble_eq_true rfl)
      have n3 : ν' 3 = (μ.2.2.1 406 1).toInt := g'.ag 3 (Nat.le_of_ble_eq_true rfl)
      have n4 : ν' 4 = (μ.2.2.1 406 2).toInt := g'.ag 4 (Nat.le_of_ble_eq_true rfl)
      have n5 : ν' 5 = (μ.2.2.1 406 3).toInt := g'.ag 5 (Nat.le_of_ble_eq_true rfl)
      have n6 : ν' 6 = (μ.2.2.1 404 38).toInt := g'.ag 6 (Nat.le_of_ble_eq_true rfl)
      have n7 : ν' 7 = (μ.2.2.1 404 2).toInt := g'.ag 7 (Nat.le_of_ble_eq_true rfl)
      have sz0 : (μ'.2.2.1 404 2).toInt = ν' 7 + 0 := (g'.fa _ (List.Mem.tail _ (List.Mem.tail _ (List.Mem.tail _ (List.Mem.tail _ (List.Mem.tail _ (List.Mem.head _))))))).2
      have sz1 : (μ'.2.2.1 433 0).toInt = (μ.2.2.1 433 0).toInt := by rw [(g'.fr 433 nc_X12_on_433).1]
      have sz2 : (μ'.2.2.1 433 1).toInt = (μ.2.2.1 433 1).toInt := by rw [(g'.fr 433 nc_X12_on_433).1]
      have sz3 : (μ'.2.2.1 1 1).toInt = (μ.2.2.1 1 1).toInt := by rw [(g'.fr 1 nc_X12_on_1).1]
      have sz4 : (μ'.2.2.1 210 0).toInt = (μ.2.2.1 210 0).toInt := by rw [(g'.fr 210 nc_X12_on_210).1]
      have sz5 : (μ'.2.2.1 307 0).toInt = (μ.2.2.1 307 0).toInt := by rw [(g'.fr 307 nc_X12_on_307).1]
      have hw' : w.toInt = ν' 8 + 0 := hw
      have i1 : (0 : Int) ≤ ν' 1 ∧ ν' 1 ≤ 144 := g'.iv 1 (Nat.le_of_ble_eq_true rfl)
      have d0 : ν' 8 - ν' 1 ≤ 0 := (g'.dc _ (List.Mem.head _)).2.2
      exact hK _ w μ' ⟨⟨g'.sh, g'.hi, (g'.fl _ (List.Mem.tail _ (List.Mem.head _))).2, (g'.fl _ (List.Mem.tail _ (List.Mem.tail _ (List.Mem.head _)))).2, (g'.fl _ (List.Mem.tail _ (List.Mem.tail _ (List.Mem.tail _ (List.Mem.tail _ (List.Mem.head _)))))).2, (g'.fl _ (List.Mem.tail _ (List.Mem.tail _ (List.Mem.tail _ (List.Mem.tail _ (List.Mem.tail _ (List.Mem.head _))))))).2⟩, rfl, by omega, ⟨sz3, sz4, sz5⟩, g'.fr⟩
    exact absurd hP List.not_mem_nil
abbrev ck_X12_part (a1 a2 a3 a4 a5 : Int32) (μ : dw_S) (r : Option Value) (w : Int32) (μ' : dw_S) : Prop := (INV μ') ∧ (r = some (.int w)) ∧ ((μ'.2.2.1 404 2).toInt = (μ.2.2.1 404 2).toInt ∧ (μ'.2.2.1 433 0).toInt = (μ.2.2.1 433 0).toInt ∧ (μ'.2.2.1 433 1).toInt = (μ.2.2.1 433 1).toInt) ∧ ((μ'.2.2.1 1 1).toInt = (μ.2.2.1 1 1).toInt ∧ (μ'.2.2.1 210 0).toInt = (μ.2.2.1 210 0).toInt ∧ (μ'.2.2.1 307 0).toInt = (μ.2.2.1 307 0).toInt) ∧ (∀ a, a ∉ [404, 411, 412, 413, 414, 415, 416, 417, 418, 419, 422, 423] → μ'.2.2.1 a = μ.2.2.1 a ∧ μ'.2.2.2 a = μ.2.2.2 a)
theorem nc_X12_part_433 : 433 ∉ ([404, 411, 412, 413, 414, 415, 416, 417, 418, 419, 422, 423] : List Nat) := by decide
theorem nc_X12_part_1 : 1 ∉ ([404, 411, 412, 413, 414, 415, 416, 417, 418, 419, 422, 423] : List Nat) := by decide
theorem nc_X12_part_210 : 210 ∉ ([404, 411, 412, 413, 414, 415, 416, 417, 418, 419, 422, 423] : List Nat) := by decide
theorem nc_X12_part_307 : 307 ∉ ([404, 411, 412, 413, 414, 415, 416, 417, 418, 419, 422, 423] : List Nat) := by decide
theorem cl_X12_part {μ : dw_S} {K : dw_K} {a1 a2 a3 a4 a5 : Int32} (hI : INV μ) (hK : ∀ (r : Option Value) (w : Int32) (μ' : dw_S), ck_X12_part a1 a2 a3 a4 a5 μ r w μ' → K r μ') : t_X12_part [.ref 404, .int a1, .int a2, .int a3, .int a4, .int a5] μ K := by
  have h_406_0 := hI.2.1 406 0
  rw [sgc_3] at h_406_0
  have h_406_1 := hI.2.1 406 1
  rw [sgc_4] at h_406_1
  have h_406_2 := hI.2.1 406 2
  rw [sgc_5] at h_406_2
  have h_406_3 := hI.2.1 406 3
  rw [sgc_6] at h_406_3
  have h_404_38 := hI.2.1 404 38
  rw [sgc_7] at h_404_38
  have h_404_2 := hI.2.1 404 2
  rw [sgc_8] at h_404_2
  refine al_364 346 (by decide) (fun s => [(0 : Int), (a1.toInt : Int), (a2.toInt : Int), (a3.toInt : Int), (a4.toInt : Int), (a5.toInt : Int), ((μ.2.2.1 406 0).toInt : Int), ((μ.2.2.1 406 1).toInt : Int), ((μ.2.2.1 406 2).toInt : Int), ((μ.2.2.1 406 3).toInt : Int), ((μ.2.2.1 404 38).toInt : Int), ((μ.2.2.1 404 2).toInt : Int)].getD s (0 : Int)) [.ref 404, .int a1, .int a2, .int a3, .int a4, .int a5] μ K ⟨hI.1, hI.2.1, fun _ _ => ⟨rfl, rfl⟩, rfl, Nat.le_refl _, Nat.le_of_ble_eq_true rfl, fun _ _ => rfl, ?_, fun q hq => absurd hq List.not_mem_nil, ?_, trivial, ?_, ?_⟩ ?_
  · exact iv2_ok (iv := (in_346).pre.iv) (vs := [(0 : Int), (a1.toInt : Int), (a2.toInt : Int), (a3.toInt : Int), (a4.toInt : Int), (a5.toInt : Int), ((μ.2.2.1 406 0).toInt : Int), ((μ.2.2.1 406 1).toInt : Int), ((μ.2.2.1 406 2).toInt : Int), ((μ.2.2.1 406 3).toInt : Int), ((μ.2.2.1 404 38).toInt : Int), ((μ.2.2.1 404 2).toInt : Int)]) ⟨⟨Int.le_refl 0, Int.le_refl 0⟩, ⟨dx_b1 _, dx_b2 _⟩, ⟨dx_b1 _, dx_b2 _⟩, ⟨dx_b1 _, dx_b2 _⟩, ⟨dx_b1 _, dx_b2 _⟩, ⟨dx_b1 _, dx_b2 _⟩, h_406_0, h_406_1, h_406_2, h_406_3, h_404_38, h_404_2, trivial⟩
  · exact ⟨⟨404, List.Mem.head _, rfl⟩, ⟨Nat.le_of_ble_eq_true rfl, a1, rfl, (Int.add_zero _).symm⟩, ⟨Nat.le_of_ble_eq_true rfl, a2, rfl, (Int.add_zero _).symm⟩, ⟨Nat.le_of_ble_eq_true rfl, a3, rfl, (Int.add_zero _).symm⟩, ⟨Nat.le_of_ble_eq_true rfl, a4, rfl, (Int.add_zero _).symm⟩, ⟨Nat.le_of_ble_eq_true rfl, a5, rfl, (Int.add_zero _).symm⟩, trivial⟩
  · exact dx_aL.all (l := (in_346).pre.fa) ⟨⟨Nat.le_of_ble_eq_true rfl, (Int.add_zero _).symm⟩, ⟨Nat.le_of_ble_eq_true rfl, (Int.add_zero _).symm⟩, ⟨Nat.le_of_ble_eq_true rfl, (Int.add_zero _).symm⟩, ⟨Nat.le_of_ble_eq_true rfl, (Int.add_zero _).symm⟩, ⟨Nat.le_of_ble_eq_true rfl, (Int.add_zero _).symm⟩, ⟨Nat.le_of_ble_eq_true rfl, (Int.add_zero _).symm⟩, trivial⟩
  · exact dx_aL.all (l := (in_346).pre.fl) ⟨⟨Nat.le_of_ble_eq_true rfl, hI.2.2.1⟩, ⟨Nat.le_of_ble_eq_true rfl, hI.2.2.2.1⟩, ⟨Nat.le_of_ble_eq_true rfl, hI.2.2.2.2.1⟩, ⟨Nat.le_of_ble_eq_true rfl, hI.2.2.2.2.2⟩, trivial⟩
  · intro r μ' ν' P hP g'
    rcases List.mem_cons.mp hP with rfl | hP
    · obtain ⟨w, rfl, hw⟩ := r_int g'.gl
      have n0 : ν' 0 = 0 := g'.ag 0 (Nat.le_of_ble_eq_true rfl)
      have n1 : ν' 1 = a1.toInt := g'.ag 1 (Nat.le_of_ble_eq_true rfl)
      have n2 : ν' 2 = a2.toInt := g'.ag 2 (Nat.le_of_ble_eq_true rfl)
      have n3 : ν' 3 = a3.toInt := g'.ag 3 (Nat.le_of_ble_eq_true rfl)
      have n4 : ν' 4 = a4.toInt := g'.ag 4 (Nat.le_of_ble_eq_true rfl)
      have n5 : ν' 5 = a5.toInt := g'.ag 5 (Nat.le_of_ble_eq_true rfl)
      have n6 : ν' 6 = (μ.2.2.1 406 0).toInt := g'.ag 6 (Nat.le_of_ble_eq_true rfl)
      have n7 : ν' 7 = (μ.2.2.1 406 1).toInt := g'.ag 7 (Nat.le_of_ble_eq_true rfl)
      have n8 : ν' 8 = (μ.2.2.1 406 2).toInt := g'.ag 8 (Nat.le_of_ble_eq_true rfl)
      have n9 : ν' 9 = (μ.2.2.1 406 3).toInt := g'.ag 9 (Nat.le_of_ble_eq_true rfl)
      have n10 : ν' 10 = (μ.2.2.1 404 38).toInt := g'.ag 10 (Nat.le_of_ble_eq_true rfl)
      have n11 : ν' 11 = (μ.2.2.1 404 2).toInt := g'.ag 11 (Nat.le_of_ble_eq_true rfl)
      have sz0 : (μ'.2.2.1 404 2).toInt = ν' 11 + 0 := (g'.fa _ (List.Mem.tail _ (List.Mem.head _))).2
      have sz1 : (μ'.2.2.1 433 0).toInt = (μ.2.2.1 433 0).toInt := by rw [(g'.fr 433 nc_X12_part_433).1]
      have sz2 : (μ'.2.2.1 433 1).toInt = (μ.2.2.1 433 1).toInt := by rw [(g'.fr 433 nc_X12_part_433).1]
      have sz3 : (μ'.2.2.1 1 1).toInt = (μ.2.2.1 1 1).toInt := by rw [(g'.fr 1 nc_X12_part_1).1]
      have sz4 : (μ'.2.2.1 210 0).toInt = (μ.2.2.1 210 0).toInt := by rw [(g'.fr 210 nc_X12_part_210).1]
      have sz5 : (μ'.2.2.1 307 0).toInt = (μ.2.2.1 307 0).toInt := by rw [(g'.fr 307 nc_X12_part_307).1]
      have hw' : w.toInt = ν' 0 + (-1) := hw
      exact hK _ w μ' ⟨⟨g'.sh, g'.hi, (g'.fl _ (List.Mem.head _)).2, (g'.fl _ (List.Mem.tail _ (List.Mem.head _))).2, (g'.fl _ (List.Mem.tail _ (List.Mem.tail _ (List.Mem.head _)))).2, (g'.fl _ (List.Mem.tail _ (List.Mem.tail _ (List.Mem.tail _ (List.Mem.head _))))).2⟩, rfl, by omega, ⟨sz3, sz4, sz5⟩, g'.fr⟩
    rcases List.mem_cons.mp hP with rfl | hP
    · obtain ⟨w, rfl, hw⟩ := r_int g'.gl
      have n0 : ν' 0 = 0 := g'.ag 0 (Nat.le_of_ble_eq_true rfl)
      have n1 : ν' 1 = a1.toInt := g'.ag 1 (Nat.le_of_ble_eq_true rfl)
      have n2 : ν' 2 = a2.toInt := g'.ag 2 (Nat.le_of_ble_eq_true rfl)
      have n3 : ν' 3 = a3.toInt := g'.ag 3 (Nat.le_of_ble_eq_true rfl)
      have n4 : ν' 4 = a4.toInt := g'.ag 4 (Nat.le_of_ble_eq_true rfl)
      have n5 : ν' 5 = a5.toInt := g'.ag 5 (Nat.le_of_ble_eq_true rfl)
      have n6 : ν' 6 = (μ.2.2.1 406 0).toInt := g'.ag 6 (Nat.le_of_ble_eq_true rfl)
      have n7 : ν' 7 = (μ.2.2.1 406 1).toInt := g'.ag 7 (Nat.le_of_ble_eq_true rfl)
      have n8 : ν' 8 = (μ.2.2.1 406 2).toInt := g'.ag 8 (Nat.le_of_ble_eq_true rfl)
      have n9 : ν' 9 = (μ.2.2.1 406 3).toInt := g'.ag 9 (Nat.le_of_ble_eq_true rfl)
      have n10 : ν' 10 = (μ.2.2.1 404 38).toInt := g'.ag 10 (Nat.le_of_ble_eq_true rfl)
      have n11 : ν' 11 = (μ.2.2.1 404 2).toInt := g'.ag 11 (Nat.le_of_ble_eq_true rfl)
      have sz0 : (μ'.2.2.1 404 2).toInt = ν' 11 + 0 := (g'.fa _ (List.Mem.tail _ (List.Mem.head _))).2
      have sz1 : (μ'.2.2.1 433 0).toInt = (μ.2.2.1 433 0).toInt := by rw [(g'.fr 433 nc_X12_part_433).1]
      have sz2 : (μ'.2.2.1 433 1).toInt = (μ.2.2.1 433 1).toInt := by rw [(g'.fr 433 nc_X12_part_433).1]
      have sz3 : (μ'.2.2.1 1 1).toInt = (μ.2.2.1 1 1).toInt := by rw [(g'.fr 1 nc_X12_part_1).1]
      have sz4 : (μ'.2.2.1 210 0).toInt = (μ.2.2.1 210 0).toInt := by rw [(g'.fr 210 nc_X12_part_210).1]
      have sz5 : (μ'.2.2.1 307 0).toInt = (μ.2.2.1 307 0).toInt := by rw [(g'.fr 307 nc_X12_part_307).1]
      have hw' : w.toInt = ν' 12 + 0 := hw
      have i1 : (0 : Int) ≤ ν' 1 ∧ ν' 1 ≤ 5 := g'.iv 1 (Nat.le_of_ble_eq_true rfl)
      have i2 : (0 : Int) ≤ ν' 2 ∧ ν' 2 ≤ 11 := g'.iv 2 (Nat.le_of_ble_eq_true rfl)
      have i3 : (0 : Int) ≤ ν' 3 ∧ ν' 3 ≤ 11 := g'.iv 3 (Nat.le_of_ble_eq_true rfl)
      have i4 : (0 : Int) ≤ ν' 4 ∧ ν' 4 ≤ 2 := g'.iv 4 (Nat.le_of_ble_eq_true rfl)
      have i5 : (0 : Int) ≤ ν' 5 ∧ ν' 5 ≤ 2 := g'.iv 5 (Nat.le_of_ble_eq_true rfl)
      have i6 : (1 : Int) ≤ ν' 6 ∧ ν' 6 ≤ 12 := g'.iv 6 (Nat.le_of_ble_eq_true rfl)
      have i7 : (1 : Int) ≤ ν' 7 ∧ ν' 7 ≤ 12 := g'.iv 7 (Nat.le_of_ble_eq_true rfl)
      have d0 : ν' 2 - ν' 6 ≤ (-1) := (g'.dc _ (List.Mem.head _)).2.2
      have d1 : ν' 3 - ν' 7 ≤ (-1) := (g'.dc _ (List.Mem.tail _ (List.Mem.head _))).2.2
      exact hK _ w μ' ⟨⟨g'.sh, g'.hi, (g'.fl _ (List.Mem.tail _ (List.Mem.tail _ (List.Mem.head _)))).2, (g'.fl _ (List.Mem.tail _ (List.Mem.tail _ (List.Mem.tail _ (List.Mem.head _))))).2, (g'.fl _ (List.Mem.tail _ (List.Mem.tail _ (List.Mem.tail _ (List.Mem.tail _ (List.Mem.head _)))))).2, (g'.fl _ (List.Mem.tail _ (List.Mem.tail _ (List.Mem.tail _ (List.Mem.tail _ (List.Mem.tail _ (List.Mem.head _))))))).2⟩, rfl, by omega, ⟨sz3, sz4, sz5⟩, g'.fr⟩
    exact absurd hP List.not_mem_nil
abbrev ck_X12_plan (μ : dw_S) (r : Option Value) (w : Int32) (μ' : dw_S) : Prop := (INV μ') ∧ (r = some (.int w)) ∧ ((μ'.2.2.1 404 2).toInt = 0 ∧ (μ'.2.2.1 433 0).toInt = (μ.2.2.1 433 0).toInt ∧ (μ'.2.2.1 433 1).toInt = (μ.2.2.1 433 1).toInt) ∧ ((μ'.2.2.1 1 1).toInt = (μ.2.2.1 1 1).toInt ∧ (μ'.2.2.1 210 0).toInt = (μ.2.2.1 210 0).toInt ∧ (μ'.2.2.1 307 0).toInt = (μ.2.2.1 307 0).toInt) ∧ (∀ a, a ∉ [404, 406, 408] → μ'.2.2.1 a = μ.2.2.1 a ∧ μ'.2.2.2 a = μ.2.2.2 a)
theorem nc_X12_plan_433 : 433 ∉ ([404, 406, 408] : List Nat) := by decide
theorem nc_X12_plan_1 : 1 ∉ ([404, 406, 408] : List Nat) := by decide
theorem nc_X12_plan_210 : 210 ∉ ([404, 406, 408] : List Nat) := by decide
theorem nc_X12_plan_307 : 307 ∉ ([404, 406, 408] : List Nat) := by decide
theorem cl_X12_plan {μ : dw_S} {K : dw_K} (hI : INV μ) (hK : ∀ (r : Option Value) (w : Int32) (μ' : dw_S), ck_X12_plan μ r w μ' → K r μ') : t_X12_plan [.ref 404] μ K := by
  have h_408_0 := hI.2.1 408 0
  rw [sgc_24] at h_408_0
  have h_404_22 := hI.2.1 404 22
  rw [sgc_9] at h_404_22
  have h_404_2 := hI.2.1 404 2
  rw [sgc_8] at h_404_2
  have h_404_3 := hI.2.1 404 3
  rw [sgc_10] at h_404_3
  have h_404_4 := hI.2.1 404 4
  rw [sgc_11] at h_404_4
  have h_404_11 := hI.2.1 404 11
  rw [sgc_12] at h_404_11
  have h_404_12 := hI.2.1 404 12
  rw [sgc_13] at h_404_12
  have h_404_13 := hI.2.1 404 13
  rw [sgc_14] at h_404_13
  have h_404_14 := hI.2.1 404 14
  rw [sgc_15] at h_404_14
  have h_404_19 := hI.2.1 404 19
  rw [sgc_16] at h_404_19
  have h_404_21 := hI.2.1 404 21
  rw [sgc_17] at h_404_21
  have h_406_0 := hI.2.1 406 0
  rw [sgc_3] at h_406_0
  have h_406_1 := hI.2.1 406 1
  rw [sgc_4] at h_406_1
  have h_406_2 := hI.2.1 406 2
  rw [sgc_5] at h_406_2
  have h_406_3 := hI.2.1 406 3
  rw [sgc_6] at h_406_3
  have h_407_0 := hI.2.1 407 0
  rw [sgc_18] at h_407_0
  have h_407_1 := hI.2.1 407 1
  rw [sgc_19] at h_407_1
  have h_407_2 := hI.2.1 407 2
  rw [sgc_20] at h_407_2
  have h_407_3 := hI.2.1 407 3
  rw [sgc_21] at h_407_3
  refine al_364 348 (by decide) (fun s => [(0 : Int), ((μ.2.2.1 408 0).toInt : Int), ((μ.2.2.1 404 22).toInt : Int), ((μ.2.2.1 404 2).toInt : Int), ((μ.2.2.1 404 3).toInt : Int), ((μ.2.2.1 404 4).toInt : Int), ((μ.2.2.1 404 11).toInt : Int), ((μ.2.2.1 404 12).toInt : Int), ((μ.2.2.1 404 13).toInt : Int), ((μ.2.2.1 404 14).toInt : Int), ((μ.2.2.1 404 19).toInt : Int), ((μ.2.2.1 404 21).toInt : Int), ((μ.2.2.1 406 0).toInt : Int), ((μ.2.2.1 406 1).toInt : Int), ((μ.2.2.1 406 2).toInt : Int), ((μ.2.2.1 406 3).toInt : Int), ((μ.2.2.1 407 0).toInt : Int), ((μ.2.2.1 407 1).toInt : Int), ((μ.2.2.1 407 2).toInt : Int), ((μ.2.2.1 407 3).toInt : Int)].getD s (0 : Int)) [.ref 404] μ K ⟨hI.1, hI.2.1, fun _ _ => ⟨rfl, rfl⟩, rfl, Nat.le_refl _, Nat.le_of_ble_eq_true rfl, fun _ _ => rfl, ?_, fun q hq => absurd hq List.not_mem_nil, ?_, trivial, ?_, ?_⟩ ?_
  · exact iv2_ok (iv := (in_348).pre.iv) (vs := [(0 : Int), ((μ.2.2.1 408 0).toInt : Int), ((μ.2.2.1 404 22).toInt : Int), ((μ.2.2.1 404 2).toInt : Int), ((μ.2.2.1 404 3).toInt : Int), ((μ.2.2.1 404 4).toInt : Int), ((μ.2.2.1 404 11).toInt : Int), ((μ.2.2.1 404 12).toInt : Int), ((μ.2.2.1 404 13).toInt : Int), ((μ.2.2.1 404 14).toInt : Int), ((μ.2.2.1 404 19).toInt : Int), ((μ.2.2.1 404 21).toInt : Int), ((μ.2.2.1 406 0).toInt : Int), ((μ.2.2.1 406 1).toInt : Int), ((μ.2.2.1 406 2).toInt : Int), ((μ.2.2.1 406 3).toInt : Int), ((μ.2.2.1 407 0).toInt : Int), ((μ.2.2.1 407 1).toInt : Int), ((μ.2.2.1 407 2).toInt : Int), ((μ.2.2.1 407 3).toInt : Int)]) ⟨⟨Int.le_refl 0, Int.le_refl 0⟩, h_408_0, h_404_22, h_404_2, h_404_3, h_404_4, h_404_11, h_404_12, h_404_13, h_404_14, h_404_19, h_404_21, h_406_0, h_406_1, h_406_2, h_406_3, h_407_0, h_407_1, h_407_2, h_407_3, trivial⟩
  · exact ⟨⟨404, List.Mem.head _, rfl⟩, trivial⟩
  · exact dx_aL.all (l := (in_348).pre.fa) ⟨⟨Nat.le_of_ble_eq_true rfl, (Int.add_zero _).symm⟩, ⟨Nat.le_of_ble_eq_true rfl, (Int.add_zero _).symm⟩, ⟨Nat.le_of_ble_eq_true rfl, (Int.add_zero _).symm⟩, ⟨Nat.le_of_ble_eq_true rfl, (Int.add_zero _).symm⟩, ⟨Nat.le_of_ble_eq_true rfl, (Int.add_zero _).symm⟩, ⟨Nat.le_of_ble_eq_true rfl, (Int.add_zero _).symm⟩, ⟨Nat.le_of_ble_eq_true rfl, (Int.add_zero _).symm⟩, ⟨Nat.le_of_ble_eq_true rfl, (Int.add_zero _).symm⟩, ⟨Nat.le_of_ble_eq_true rfl, (Int.add_zero _).symm⟩, ⟨Nat.le_of_ble_eq_true rfl, (Int.add_zero _).symm⟩, ⟨Nat.le_of_ble_eq_true rfl, (Int.add_zero _).symm⟩, ⟨Nat.le_of_ble_eq_true rfl, (Int.add_zero _).symm⟩, ⟨Nat.le_of_ble_eq_true rfl, (Int.add_zero _).symm⟩, ⟨Nat.le_of_ble_eq_true rfl, (Int.add_zero _).symm⟩, ⟨Nat.le_of_ble_eq_true rfl, (Int.add_zero _).symm⟩, ⟨Nat.le_of_ble_eq_true rfl, (Int.add_zero _).symm⟩, ⟨Nat.le_of_ble_eq_true rfl, (Int.add_zero _).symm⟩, ⟨Nat.le_of_ble_eq_true rfl, (Int.add_zero _).symm⟩, ⟨Nat.le_of_ble_eq_true rfl, (Int.add_zero _).symm⟩, trivial⟩
  · exact dx_aL.all (l := (in_348).pre.fl) ⟨⟨Nat.le_of_ble_eq_true rfl, hI.2.2.1⟩, ⟨Nat.le_of_ble_eq_true rfl, hI.2.2.2.1⟩, ⟨Nat.le_of_ble_eq_true rfl, hI.2.2.2.2.1⟩, ⟨Nat.le_of_ble_eq_true rfl, hI.2.2.2.2.2⟩, trivial⟩
  · intro r μ' ν' P hP g'
    rcases List.mem_cons.mp hP with rfl | hP
    · obtain ⟨w, rfl, hw⟩ := r_int g'.gl
      have n0 : ν' 0 = 0 := g'.ag 0 (Nat.le_of_ble_eq_true rfl)
      have n1 : ν' 1 = (μ.2.2.1 408 0).toInt := g'.ag 1 (Nat.le_of_ble_eq_true rfl)
      have n2 : ν' 2 = (μ.2.2.1 404 22).toInt := g'.ag 2 (Nat.le_of_ble_eq_true rfl)
      have n3 : ν' 3 = (μ.2.2.1 404 2).toInt := g'.ag 3 (Nat.le_of_ble_eq_true rfl)
      have n4 : ν' 4 = (μ.2.2.1 404 3).toInt := g'.ag 4 (Nat.le_of_ble_eq_true rfl)
      have n5 : ν' 5 = (μ.2.2.1 404 4).toInt := g'.ag 5 (Nat.le_of_ble_eq_true rfl)
      have n6 : ν' 6 = (μ.2.2.1 404 11).toInt := g'.ag 6 (Nat.le_of_ble_eq_true rfl)
      have n7 : ν' 7 = (μ.2.2.1 404 12).toInt := g'.ag 7 (Nat.le_of_ble_eq_true rfl)
      have n8 : ν' 8 = (μ.2.2.1 404 13).toInt := g'.ag 8 (Nat.le_of_ble_eq_true rfl)
      have n9 : ν' 9 = (μ.2.2.1 404 14).toInt := g'.ag 9 (Nat.le_of_ble_eq_true rfl)
      have n10 : ν' 10 = (μ.2.2.1 404 19).toInt := g'.ag 10 (Nat.le_of_ble_eq_true rfl)
      have n11 : ν' 11 = (μ.2.2.1 404 21).toInt := g'.ag 11 (Nat.le_of_ble_eq_true rfl)
      have n12 : ν' 12 = (μ.2.2.1 406 0).toInt := g'.ag 12 (Nat.le_of_ble_eq_true rfl)
      have n13 : ν' 13 = (μ.2.2.1 406 1).toInt := g'.ag 13 (Nat.le_of_ble_eq_true rfl)
      have n14 : ν' 14 = (μ.2.2.1 406 2).toInt := g'.ag 14 (Nat.le_of_ble_eq_true rfl)
      have n15 : ν' 15 = (μ.2.2.1 406 3).toInt := g'.ag 15 (Nat.le_of_ble_eq_true rfl)
      have n16 : ν' 16 = (μ.2.2.1 407 0).toInt := g'.ag 16 (Nat.le_of_ble_eq_true rfl)
      have n17 : ν' 17 = (μ.2.2.1 407 1).toInt := g'.ag 17 (Nat.le_of_ble_eq_true rfl)
      have n18 : ν' 18 = (μ.2.2.1 407 2).toInt := g'.ag 18 (Nat.le_of_ble_eq_true rfl)
      have n19 : ν' 19 = (μ.2.2.1 407 3).toInt := g'.ag 19 (Nat.le_of_ble_eq_true rfl)
      have sz0 : (μ'.2.2.1 404 2).toInt = ν' 0 + 0 := (g'.fa _ (List.Mem.tail _ (List.Mem.tail _ (List.Mem.head _)))).2
      have sz1 : (μ'.2.2.1 433 0).toInt = (μ.2.2.1 433 0).toInt := by rw [(g'.fr 433 nc_X12_plan_433).1]
      have sz2 : (μ'.2.2.1 433 1).toInt = (μ.2.2.1 433 1).toInt := by rw [(g'.fr 433 nc_X12_plan_433).1]
      have sz3 : (μ'.2.2.1 1 1).toInt = (μ.2.2.1 1 1).toInt := by rw [(g'.fr 1 nc_X12_plan_1).1]
      have sz4 : (μ'.2.2.1 210 0).toInt = (μ.2.2.1 210 0).toInt := by rw [(g'.fr 210 nc_X12_plan_210).1]
      have sz5 : (μ'.2.2.1 307 0).toInt = (μ.2.2.1 307 0).toInt := by rw [(g'.fr 307 nc_X12_plan_307).1]
      have hw' : w.toInt = ν' 20 + 0 := hw
      exact hK _ w μ' ⟨⟨g'.sh, g'.hi, (g'.fl _ (List.Mem.head _)).2, (g'.fl _ (List.Mem.tail _ (List.Mem.head _))).2, (g'.fl _ (List.Mem.tail _ (List.Mem.tail _ (List.Mem.head _)))).2, (g'.fl _ (List.Mem.tail _ (List.Mem.tail _ (List.Mem.tail _ (List.Mem.head _))))).2⟩, rfl, by omega, ⟨sz3, sz4, sz5⟩, g'.fr⟩
    rcases List.mem_cons.mp hP with rfl | hP
    · obtain ⟨w, rfl, hw⟩ := r_int g'.gl
      have n0 : ν' 0 = 0 := g'.ag 0 (Nat.le_of_ble_eq_true rfl)
      have n1 : ν' 1 = (μ.2.2.1 408 0).toInt := g'.ag 1 (Nat.le_of_ble_eq_true rfl)
      have n2 : ν' 2 = (μ.2.2.1 404 22).toInt := g'.ag 2 (Nat.le_of_ble_eq_true rfl)
      have n3 : ν' 3 = (μ.2.2.1 404 2).toInt := g'.ag 3 (Nat.le_of_ble_eq_true rfl)
      have n4 : ν' 4 = (μ.2.2.1 404 3).toInt := g'.ag 4 (Nat.le_of_ble_eq_true rfl)
      have n5 : ν' 5 = (μ.2.2.1 404 4).toInt := g'.ag 5 (Nat.le_of_ble_eq_true rfl)
      have n6 : ν' 6 = (μ.2.2.1 404 11).toInt := g'.ag 6 (Nat.le_of_ble_eq_true rfl)
      have n7 : ν' 7 = (μ.2.2.1 404 12).toInt := g'.ag 7 (Nat.le_of_ble_eq_true rfl)
      have n8 : ν' 8 = (μ.2.2.1 404 13).toInt := g'.ag 8 (Nat.le_of_ble_eq_true rfl)
      have n9 : ν' 9 = (μ.2.2.1 404 14).toInt := g'.ag 9 (Nat.le_of_ble_eq_true rfl)
      have n10 : ν' 10 = (μ.2.2.1 404 19).toInt := g'.ag 10 (Nat.le_of_ble_eq_true rfl)
      have n11 : ν' 11 = (μ.2.2.1 404 21).toInt := g'.ag 11 (Nat.le_of_ble_eq_true rfl)
      have n12 : ν' 12 = (μ.2.2.1 406 0).toInt := g'.ag 12 (Nat.le_of_ble_eq_true rfl)
      have n13 : ν' 13 = (μ.2.2.1 406 1).toInt := g'.ag 13 (Nat.le_of_ble_eq_true rfl)
      have n14 : ν' 14 = (μ.2.2.1 406 2).toInt := g'.ag 14 (Nat.le_of_ble_eq_true rfl)
      have n15 : ν' 15 = (μ.2.2.1 406 3).toInt := g'.ag 15 (Nat.le_of_ble_eq_true rfl)
      have n16 : ν' 16 = (μ.2.2.1 407 0).toInt := g'.ag 16 (Nat.le_of_ble_eq_true rfl)
      have n17 : ν' 17 = (μ.2.2.1 407 1).toInt := g'.ag 17 (Nat.le_of_ble_eq_true rfl)
      have n18 : ν' 18 = (μ.2.2.1 407 2).toInt := g'.ag 18 (Nat.le_of_ble_eq_true rfl)
      have n19 : ν' 19 = (μ.2.2.1 407 3).toInt := g'.ag 19 (Nat.le_of_ble_eq_true rfl)
      have sz0 : (μ'.2.2.1 404 2).toInt = ν' 0 + 0 := (g'.fa _ (List.Mem.tail _ (List.Mem.tail _ (List.Mem.head _)))).2
      have sz1 : (μ'.2.2.1 433 0).toInt = (μ.2.2.1 433 0).toInt := by rw [(g'.fr 433 nc_X12_plan_433).1]
      have sz2 : (μ'.2.2.1 433 1).toInt = (μ.2.2.1 433 1).toInt := by rw [(g'.fr 433 nc_X12_plan_433).1]
      have sz3 : (μ'.2.2.1 1 1).toInt = (μ.2.2.1 1 1).toInt := by rw [(g'.fr 1 nc_X12_plan_1).1]
      have sz4 : (μ'.2.2.1 210 0).toInt = (μ.2.2.1 210 0).toInt := by rw [(g'.fr 210 nc_X12_plan_210).1]
      have sz5 : (μ'.2.2.1 307 0).toInt = (μ.2.2.1 307 0).toInt := by rw [(g'.fr 307 nc_X12_plan_307).1]
      have hw' : w.toInt = ν' 0 + 30 := hw
      exact hK _ w μ' ⟨⟨g'.sh, g'.hi, (g'.fl _ (List.Mem.tail _ (List.Mem.tail _ (List.Mem.tail _ (List.Mem.tail _ (List.Mem.head _)))))).2, (g'.fl _ (List.Mem.head _)).2, (g'.fl _ (List.Mem.tail _ (List.Mem.tail _ (List.Mem.tail _ (List.Mem.tail _ (List.Mem.tail _ (List.Mem.head _))))))).2, (g'.fl _ (List.Mem.tail _ (List.Mem.tail _ (List.Mem.tail _ (List.Mem.tail _ (List.Mem.tail _ (List.Mem.tail _ (List.Mem.head _)))))))).2⟩, rfl, by omega, ⟨sz3, sz4, sz5⟩, g'.fr⟩
    rcases List.mem_cons.mp hP with rfl | hP
    · obtain ⟨w, rfl, hw⟩ := r_int g'.gl
      have n0 : ν' 0 = 0 := g'.ag 0 (Nat.le_of_ble_eq_true rfl)
      have n1 : ν' 1 = (μ.2.2.1 408 0).toInt := g'.ag 1 (Nat.le_of_ble_eq_true rfl)
      have n2 : ν' 2 = (μ.2.2.1 404 22).toInt := g'.ag 2 (Nat.le_of_ble_eq_true rfl)
      have n3 : ν' 3 = (μ.2.2.1 404 2).toInt := g'.ag 3 (Nat.le_of_ble_eq_true rfl)
      have n4 : ν' 4 = (μ.2.2.1 404 3).toInt := g'.ag 4 (Nat.le_of_ble_eq_true rfl)
      have n5 : ν' 5 = (μ.2.2.1 404 4).toInt := g'.ag 5 (Nat.le_of_ble_eq_true rfl)
      have n6 : ν' 6 = (μ.2.2.1 404 11).toInt := g'.ag 6 (Nat.le_of_ble_eq_true rfl)
      have n7 : ν' 7 = (μ.2.2.1 404 12).toInt := g'.ag 7 (Nat.le_of_ble_eq_true rfl)
      have n8 : ν' 8 = (μ.2.2.1 404 13).toInt := g'.ag 8 (Nat.le_of_ble_eq_true rfl)
      have n9 : ν' 9 = (μ.2.2.1 404 14).toInt := g'.ag 9 (Nat.le_of_ble_eq_true rfl)
      have n10 : ν' 10 = (μ.2.2.1 404 19).toInt := g'.ag 10 (Nat.le_of_ble_eq_true rfl)
      have n11 : ν' 11 = (μ.2.2.1 404 21).toInt := g'.ag 11 (Nat.le_of_ble_eq_true rfl)
      have n12 : ν' 12 = (μ.2.2.1 406 0).toInt := g'.ag 12 (Nat.le_of_ble_eq_true rfl)
      have n13 : ν' 13 = (μ.2.2.1 406 1).toInt := g'.ag 13 (Nat.le_of_ble_eq_true rfl)
      have n14 : ν' 14 = (μ.2.2.1 406 2).toInt := g'.ag 14 (Nat.le_of_ble_eq_true rfl)
      have n15 : ν' 15 = (μ.2.2.1 406 3).toInt := g'.ag 15 (Nat.le_of_ble_eq_true rfl)
      have n16 : ν' 16 = (μ.2.2.1 407 0).toInt := g'.ag 16 (Nat.le_of_ble_eq_true rfl)
      have n17 : ν' 17 = (μ.2.2.1 407 1).toInt := g'.ag 17 (Nat.le_of_ble_eq_true rfl)
      have n18 : ν' 18 = (μ.2.2.1 407 2).toInt := g'.ag 18 (Nat.le_of_ble_eq_true rfl)
      have n19 : ν' 19 = (μ.2.2.1 407 3).toInt := g'.ag 19 (Nat.le_of_ble_eq_true rfl)
      have sz0 : (μ'.2.2.1 404 2).toInt = ν' 0 + 0 := (g'.fa _ (List.Mem.tail _ (List.Mem.tail _ (List.Mem.head _)))).2
      have sz1 : (μ'.2.2.1 433 0).toInt = (μ.2.2.1 433 0).toInt := by rw [(g'.fr 433 nc_X12_plan_433).1]
      have sz2 : (μ'.2.2.1 433 1).toInt = (μ.2.2.1 433 1).toInt := by rw [(g'.fr 433 nc_X12_plan_433).1]
      have sz3 : (μ'.2.2.1 1 1).toInt = (μ.2.2.1 1 1).toInt := by rw [(g'.fr 1 nc_X12_plan_1).1]
      have sz4 : (μ'.2.2.1 210 0).toInt = (μ.2.2.1 210 0).toInt := by rw [(g'.fr 210 nc_X12_plan_210).1]
      have sz5 : (μ'.2.2.1 307 0).toInt = (μ.2.2.1 307 0).toInt := by rw [(g'.fr 307 nc_X12_plan_307).1]
      have hw' : w.toInt = ν' 0 + 29 := hw
      exact hK _ w μ' ⟨⟨g'.sh, g'.hi, (g'.fl _ (List.Mem.tail _ (List.Mem.tail _ (List.Mem.tail _ (List.Mem.tail _ (List.Mem.head _)))))).2, (g'.fl _ (List.Mem.head _)).2, (g'.fl _ (List.Mem.tail _ (List.Mem.tail _ (List.Mem.tail _ (List.Mem.tail _ (List.Mem.tail _ (List.Mem.head _))))))).2, (g'.fl _ (List.Mem.tail _ (List.Mem.tail _ (List.Mem.tail _ (List.Mem.tail _ (List.Mem.tail _ (List.Mem.tail _ (List.Mem.head _)))))))).2⟩, rfl, by omega, ⟨sz3, sz4, sz5⟩, g'.fr⟩
    rcases List.mem_cons.mp hP with rfl | hP
    · obtain ⟨w, rfl, hw⟩ := r_int g'.gl
      have n0 : ν' 0 = 0 := g'.ag 0 (Nat.le_of_ble_eq_true rfl)
      have n1 : ν' 1 = (μ.2.2.1 408 0).toInt := g'.ag 1 (Nat.le_of_ble_eq_true rfl)
      have n2 : ν' 2 = (μ.2.2.1 404 22).toInt := g'.ag 2 (Nat.le_of_ble_eq_true rfl)
      have n3 : ν' 3 = (μ.2.2.1 404 2).toInt := g'.ag 3 (Nat.le_of_ble_eq_true rfl)
      have n4 : ν' 4 = (μ.2.2.1 404 3).toInt := g'.ag 4 (Nat.le_of_ble_eq_true rfl)
      have n5 : ν' 5 = (μ.2.2.1 404 4).toInt := g'.ag 5 (Nat.le_of_ble_eq_true rfl)
      have n6 : ν' 6 = (μ.2.2.1 404 11).toInt := g'.ag 6 (Nat.le_of_ble_eq_true rfl)
      have n7 : ν' 7 = (μ.2.2.1 404 12).toInt := g'.ag 7 (Nat.le_of_ble_eq_true rfl)
      have n8 : ν' 8 = (μ.2.2.1 404 13).toInt := g'.ag 8 (Nat.le_of_ble_eq_true rfl)
      have n9 : ν' 9 = (μ.2.2.1 404 14).toInt := g'.ag 9 (Nat.le_of_ble_eq_true rfl)
      have n10 : ν' 10 = (μ.2.2.1 404 19).toInt := g'.ag 10 (Nat.le_of_ble_eq_true rfl)
      have n11 : ν' 11 = (μ.2.2.1 404 21).toInt := g'.ag 11 (Nat.le_of_ble_eq_true rfl)
      have n12 : ν' 12 = (μ.2.2.1 406 0).toInt := g'.ag 12 (Nat.le_of_ble_eq_true rfl)
      have n13 : ν' 13 = (μ.2.2.1 406 1).toInt := g'.ag 13 (Nat.le_of_ble_eq_true rfl)
      have n14 : ν' 14 = (μ.2.2.1 406 2).toInt := g'.ag 14 (Nat.le_of_ble_eq_true rfl)
      have n15 : ν' 15 = (μ.2.2.1 406 3).toInt := g'.ag 15 (Nat.le_of_ble_eq_true rfl)
      have n16 : ν' 16 = (μ.2.2.1 407 0).toInt := g'.ag 16 (Nat.le_of_ble_eq_true rfl)
      have n17 : ν' 17 = (μ.2.2.1 407 1).toInt := g'.ag 17 (Nat.le_of_ble_eq_true rfl)
      have n18 : ν' 18 = (μ.2.2.1 407 2).toInt := g'.ag 18 (Nat.le_of_ble_eq_true rfl)
      have n19 : ν' 19 = (μ.2.2.1 407 3).toInt := g'.ag 19 (Nat.le_of_ble_eq_true rfl)
      have sz0 : (μ'.2.2.1 404 2).toInt = ν' 0 + 0 := (g'.fa _ (List.Mem.tail _ (List.Mem.tail _ (List.Mem.head _)))).2
      have sz1 : (μ'.2.2.1 433 0).toInt = (μ.2.2.1 433 0).toInt := by rw [(g'.fr 433 nc_X12_plan_433).1]
      have sz2 : (μ'.2.2.1 433 1).toInt = (μ.2.2.1 433 1).toInt := by rw [(g'.fr 433 nc_X12_plan_433).1]
      have sz3 : (μ'.2.2.1 1 1).toInt = (μ.2.2.1 1 1).toInt := by rw [(g'.fr 1 nc_X12_plan_1).1]
      have sz4 : (μ'.2.2.1 210 0).toInt = (μ.2.2.1 210 0).toInt := by rw [(g'.fr 210 nc_X12_plan_210).1]
      have sz5 : (μ'.2.2.1 307 0).toInt = (μ.2.2.1 307 0).toInt := by rw [(g'.fr 307 nc_X12_plan_307).1]
      have hw' : w.toInt = ν' 0 + 28 := hw
      exact hK _ w μ' ⟨⟨g'.sh, g'.hi, (g'.fl _ (List.Mem.tail _ (List.Mem.tail _ (List.Mem.tail _ (List.Mem.tail _ (List.Mem.head _)))))).2, (g'.fl _ (List.Mem.head _)).2, (g'.fl _ (List.Mem.tail _ (List.Mem.tail _ (List.Mem.tail _ (List.Mem.tail _ (List.Mem.tail _ (List.Mem.head _))))))).2, (g'.fl _ (List.Mem.tail _ (List.Mem.tail _ (List.Mem.tail _ (List.Mem.tail _ (List.Mem.tail _ (List.Mem.tail _ (List.Mem.head _)))))))).2⟩, rfl, by omega, ⟨sz3, sz4, sz5⟩, g'.fr⟩
    rcases List.mem_cons.mp hP with rfl | hP
    · obtain ⟨w, rfl, hw⟩ := r_int g'.gl
      have n0 : ν' 0 = 0 := g'.ag 0 (Nat.le_of_ble_eq_true rfl)
      have n1 : ν' 1 = (μ.2.2.1 408 0).toInt := g'.ag 1 (Nat.le_of_ble_eq_true rfl)
      have n2 : ν' 2 = (μ.2.2.1 404 22).toInt := g'.ag 2 (Nat.le_of_ble_eq_true rfl)
      have n3 : ν' 3 = (μ.2.2.1 404 2).toInt := g'.ag 3 (Nat.le_of_ble_eq_true rfl)
      have n4 : ν' 4 = (μ.2.2.1 404 3).toInt := g'.ag 4 (Nat.le_of_ble_eq_true rfl)
      have n5 : ν' 5 = (μ.2.2.1 404 4).toInt := g'.ag 5 (Nat.le_of_ble_eq_true rfl)
      have n6 : ν' 6 = (μ.2.2.1 404 11).toInt := g'.ag 6 (Nat.le_of_ble_eq_true rfl)
      have n7 : ν' 7 = (μ.2.2.1 404 12).toInt := g'.ag 7 (Nat.le_of_ble_eq_true rfl)
      have n8 : ν' 8 = (μ.2.2.1 404 13).toInt := g'.ag 8 (Nat.le_of_ble_eq_true rfl)
      have n9 : ν' 9 = (μ.2.2.1 404 14).toInt := g'.ag 9 (Nat.le_of_ble_eq_true rfl)
      have n10 : ν' 10 = (μ.2.2.1 404 19).toInt := g'.ag 10 (Nat.le_of_ble_eq_true rfl)
      have n11 : ν' 11 = (μ.2.2.1 404 21).toInt := g'.ag 11 (Nat.le_of_ble_eq_true rfl)
      have n12 : ν' 12 = (μ.2.2.1 406 0).toInt := g'.ag 12 (Nat.le_of_ble_eq_true rfl)
      have n13 : ν' 13 = (μ.2.2.1 406 1).toInt := g'.ag 13 (Nat.le_of_ble_eq_true rfl)
      have n14 : ν' 14 = (μ.2.2.1 406 2).toInt := g'.ag 14 (Nat.le_of_ble_eq_true rfl)
      have n15 : ν' 15 = (μ.2.2.1 406 3).toInt := g'.ag 15 (Nat.le_of_ble_eq_true rfl)
      have n16 : ν' 16 = (μ.2.2.1 407 0).toInt := g'.ag 16 (Nat.le_of_ble_eq_true rfl)
      have n17 : ν' 17 = (μ.2.2.1 407 1).toInt := g'.ag 17 (Nat.le_of_ble_eq_true rfl)
      have n18 : ν' 18 = (μ.2.2.1 407 2).toInt := g'.ag 18 (Nat.le_of_ble_eq_true rfl)
      have n19 : ν' 19 = (μ.2.2.1 407 3).toInt := g'.ag 19 (Nat.le_of_ble_eq_true rfl)
      have sz0 : (μ'.2.2.1 404 2).toInt = ν' 0 + 0 := (g'.fa _ (List.Mem.tail _ (List.Mem.tail _ (List.Mem.head _)))).2
      have sz1 : (μ'.2.2.1 433 0).toInt = (μ.2.2.1 433 0).toInt := by rw [(g'.fr 433 nc_X12_plan_433).1]
      have sz2 : (μ'.2.2.1 433 1).toInt = (μ.2.2.1 433 1).toInt := by rw [(g'.fr 433 nc_X12_plan_433).1]
      have sz3 : (μ'.2.2.1 1 1).toInt = (μ.2.2.1 1 1).toInt := by rw [(g'.fr 1 nc_X12_plan_1).1]
      have sz4 : (μ'.2.2.1 210 0).toInt = (μ.2.2.1 210 0).toInt := by rw [(g'.fr 210 nc_X12_plan_210).1]
      have sz5 : (μ'.2.2.1 307 0).toInt = (μ.2.2.1 307 0).toInt := by rw [(g'.fr 307 nc_X12_plan_307).1]
      have hw' : w.toInt = ν' 0 + 27 := hw
      exact hK _ w μ' ⟨⟨g'.sh, g'.hi, (g'.fl _ (List.Mem.tail _ (List.Mem.tail _ (List.Mem.tail _ (List.Mem.tail _ (List.Mem.head _)))))).2, (g'.fl _ (List.Mem.head _)).2, (g'.fl _ (List.Mem.tail _ (List.Mem.tail _ (List.Mem.tail _ (List.Mem.tail _ (List.Mem.tail _ (List.Mem.head _))))))).2, (g'.fl _ (List.Mem.tail _ (List.Mem.tail _ (List.Mem.tail _ (List.Mem.tail _ (List.Mem.tail _ (List.Mem.tail _ (List.Mem.head _)))))))).2⟩, rfl, by omega, ⟨sz3, sz4, sz5⟩, g'.fr⟩
    rcases List.mem_cons.mp hP with rfl | hP
    · obtain ⟨w, rfl, hw⟩ := r_int g'.gl
      have n0 : ν' 0 = 0 := g'.ag 0 (Nat.le_of_ble_eq_true rfl)
      have n1 : ν' 1 = (μ.2.2.1 408 0).toInt := g'.ag 1 (Nat.le_of_ble_eq_true rfl)
      have n2 : ν' 2 = (μ.2.2.1 404 22).toInt := g'.ag 2 (Nat.le_of_ble_eq_true rfl)
      have n3 : ν' 3 = (μ.2.2.1 404 2).toInt := g'.ag 3 (Nat.le_of_ble_eq_true rfl)
      have n4 : ν' 4 = (μ.2.2.1 404 3).toInt := g'.ag 4 (Nat.le_of_ble_eq_true rfl)
      have n5 : ν' 5 = (μ.2.2.1 404 4).toInt := g'.ag 5 (Nat.le_of_ble_eq_true rfl)
      have n6 : ν' 6 = (μ.2.2.1 404 11).toInt := g'.ag 6 (Nat.le_of_ble_eq_true rfl)
      have n7 : ν' 7 = (μ.2.2.1 404 12).toInt := g'.ag 7 (Nat.le_of_ble_eq_true rfl)
      have n8 : ν' 8 = (μ.2.2.1 404 13).toInt := g'.ag 8 (Nat.le_of_ble_eq_true rfl)
      have n9 : ν' 9 = (μ.2.2.1 404 14).toInt := g'.ag 9 (Nat.le_of_ble_eq_true rfl)
      have n10 : ν' 10 = (μ.2.2.1 404 19).toInt := g'.ag 10 (Nat.le_of_ble_eq_true rfl)
      have n11 : ν' 11 = (μ.2.2.1 404 21).toInt := g'.ag 11 (Nat.le_of_ble_eq_true rfl)
      have n12 : ν' 12 = (μ.2.2.1 406 0).toInt := g'.ag 12 (Nat.le_of_ble_eq_true rfl)
      have n13 : ν' 13 = (μ.2.2.1 406 1).toInt := g'.ag 13 (Nat.le_of_ble_eq_true rfl)
      have n14 : ν' 14 = (μ.2.2.1 406 2).toInt := g'.ag 14 (Nat.le_of_ble_eq_true rfl)
      have n15 : ν' 15 = (μ.2.2.1 406 3).toInt := g'.ag 15 (Nat.le_of_ble_eq_true rfl)
      have n16 : ν' 16 = (μ.2.2.1 407 0).toInt := g'.ag 16 (Nat.le_of_ble_eq_true rfl)
      have n17 : ν' 17 = (μ.2.2.1 407 1).toInt := g'.ag 17 (Nat.le_of_ble_eq_true rfl)
      have n18 : ν' 18 = (μ.2.2.1 407 2).toInt := g'.ag 18 (Nat.le_of_ble_eq_true rfl)
      have n19 : ν' 19 = (μ.2.2.1 407 3).toInt := g'.ag 19 (Nat.le_of_ble_eq_true rfl)
      have sz0 : (μ'.2.2.1 404 2).toInt = ν' 0 + 0 := (g'.fa _ (List.Mem.tail _ (List.Mem.tail _ (List.Mem.head _)))).2
      have sz1 : (μ'.2.2.1 433 0).toInt = (μ.2.2.1 433 0).toInt := by rw [(g'.fr 433 nc_X12_plan_433).1]
      have sz2 : (μ'.2.2.1 433 1).toInt = (μ.2.2.1 433 1).toInt := by rw [(g'.fr 433 nc_X12_plan_433).1]
      have sz3 : (μ'.2.2.1 1 1).toInt = (μ.2.2.1 1 1).toInt := by rw [(g'.fr 1 nc_X12_plan_1).1]
      have sz4 : (μ'.2.2.1 210 0).toInt = (μ.2.2.1 210 0).toInt := by rw [(g'.fr 210 nc_X12_plan_210).1]
      have sz5 : (μ'.2.2.1 307 0).toInt = (μ.2.2.1 307 0).toInt := by rw [(g'.fr 307 nc_X12_plan_307).1]
      have hw' : w.toInt = ν' 0 + 26 := hw
      exact hK _ w μ' ⟨⟨g'.sh, g'.hi, (g'.fl _ (List.Mem.tail _ (List.Mem.tail _ (List.Mem.tail _ (List.Mem.tail _ (List.Mem.head _)))))).2, (g'.fl _ (List.Mem.head _)).2, (g'.fl _ (List.Mem.tail _ (List.Mem.tail _ (List.Mem.tail _ (List.Mem.tail _ (List.Mem.tail _ (List.Mem.head _))))))).2, (g'.fl _ (List.Mem.tail _ (List.Mem.tail _ (List.Mem.tail _ (List.Mem.tail _ (List.Mem.tail _ (List.Mem.tail _ (List.Mem.head _)))))))).2⟩, rfl, by omega, ⟨sz3, sz4, sz5⟩, g'.fr⟩
    rcases List.mem_cons.mp hP with rfl | hP
    · obtain ⟨w, rfl, hw⟩ := r_int g'.gl
      have n0 : ν' 0 = 0 := g'.ag 0 (Nat.le_of_ble_eq_true rfl)
      have n1 : ν' 1 = (μ.2.2.1 408 0).toInt := g'.ag 1 (Nat.le_of_ble_eq_true rfl)
      have n2 : ν' 2 = (μ.2.2.1 404 22).toInt := g'.ag 2 (Nat.le_of_ble_eq_true rfl)
      have n3 : ν' 3 = (μ.2.2.1 404 2).toInt := g'.ag 3 (Nat.le_of_ble_eq_true rfl)
      have n4 : ν' 4 = (μ.2.2.1 404 3).toInt := g'.ag 4 (Nat.le_of_ble_eq_true rfl)
      have n5 : ν' 5 = (μ.2.2.1 404 4).toInt := g'.ag 5 (Nat.le_of_ble_eq_true rfl)
      have n6 : ν' 6 = (μ.2.2.1 404 11).toInt := g'.ag 6 (Nat.le_of_ble_eq_true rfl)
      have n7 : ν' 7 = (μ.2.2.1 404 12).toInt := g'.ag 7 (Nat.le_of_ble_eq_true rfl)
      have n8 : ν' 8 = (μ.2.2.1 404 13).toInt := g'.ag 8 (Nat.le_of_ble_eq_true rfl)
      have n9 : ν' 9 = (μ.2.2.1 404 14).toInt := g'.ag 9 (Nat.le_of_ble_eq_true rfl)
      have n10 : ν' 10 = (μ.2.2.1 404 19).toInt := g'.ag 10 (Nat.le_of_ble_eq_true rfl)
      have n11 : ν' 11 = (μ.2.2.1 404 21).toInt := g'.ag 11 (Nat.le_of_ble_eq_true rfl)
      have n12 : ν' 12 = (μ.2.2.1 406 0).toInt := g'.ag 12 (Nat.le_of_ble_eq_true rfl)
      have n13 : ν' 13 = (μ.2.2.1 406 1).toInt := g'.ag 13 (Nat.le_of_ble_eq_true rfl)
      have n14 : ν' 14 = (μ.2.2.1 406 2).toInt := g'.ag 14 (Nat.le_of_ble_eq_true rfl)
      have n15 : ν' 15 = (μ.2.2.1 406 3).toInt := g'.ag 15 (Nat.le_of_ble_eq_true rfl)
      have n16 : ν' 16 = (μ.2.2.1 407 0).toInt := g'.ag 16 (Nat.le_of_ble_eq_true rfl)
      have n17 : ν' 17 = (μ.2.2.1 407 1).toInt := g'.ag 17 (Nat.le_of_ble_eq_true rfl)
      have n18 : ν' 18 = (μ.2.2.1 407 2).toInt := g'.ag 18 (Nat.le_of_ble_eq_true rfl)
      have n19 : ν' 19 = (μ.2.2.1 407 3).toInt := g'.ag 19 (Nat.le_of_ble_eq_true rfl)
      have sz0 : (μ'.2.2.1 404 2).toInt = ν' 0 + 0 := (g'.fa _ (List.Mem.tail _ (List.Mem.tail _ (List.Mem.head _)))).2
      have sz1 : (μ'.2.2.1 433 0).toInt = (μ.2.2.1 433 0).toInt := by rw [(g'.fr 433 nc_X12_plan_433).1]
      have sz2 : (μ'.2.2.1 433 1).toInt = (μ.2.2.1 433 1).toInt := by rw [(g'.fr 433 nc_X12_plan_433).1]
      have sz3 : (μ'.2.2.1 1 1).toInt = (μ.2.2.1 1 1).toInt := by rw [(g'.fr 1 nc_X12_plan_1).1]
      have sz4 : (μ'.2.2.1 210 0).toInt = (μ.2.2.1 210 0).toInt := by rw [(g'.fr 210 nc_X12_plan_210).1]
      have sz5 : (μ'.2.2.1 307 0).toInt = (μ.2.2.1 307 0).toInt := by rw [(g'.fr 307 nc_X12_plan_307).1]
      have hw' : w.toInt = ν' 0 + 25 := hw
      exact hK _ w μ' ⟨⟨g'.sh, g'.hi, (g'.fl _ (List.Mem.tail _ (List.Mem.tail _ (List.Mem.tail _ (List.Mem.tail _ (List.Mem.head _)))))).2, (g'.fl _ (List.Mem.head _)).2, (g'.fl _ (List.Mem.tail _ (List.Mem.tail _ (List.Mem.tail _ (List.Mem.tail _ (List.Mem.tail _ (List.Mem.head _))))))).2, (g'.fl _ (List.Mem.tail _ (List.Mem.tail _ (List.Mem.tail _ (List.Mem.tail _ (List.Mem.tail _ (List.Mem.tail _ (List.Mem.head _)))))))).2⟩, rfl, by omega, ⟨sz3, sz4, sz5⟩, g'.fr⟩
    rcases List.mem_cons.mp hP with rfl | hP
    · obtain ⟨w, rfl, hw⟩ := r_int g'.gl
      have n0 : ν' 0 = 0 := g'.ag 0 (Nat.le_of_ble_eq_true rfl)
      have n1 : ν' 1 = (μ.2.2.1 408 0).toInt := g'.ag 1 (Nat.le_of_ble_eq_true rfl)
      have n2 : ν' 2 = (μ.2.2.1 404 22).toInt := g'.ag 2 (Nat.le_of_ble_eq_true rfl)
      have n3 : ν' 3 = (μ.2.2.1 404 2).toInt := g'.ag 3 (Nat.le_of_ble_eq_true rfl)
      have n4 : ν' 4 = (μ.2.2.1 404 3).toInt := g'.ag 4 (Nat.le_of_ble_eq_true rfl)
      have n5 : ν' 5 = (μ.2.2.1 404 4).toInt := g'.ag 5 (Nat.le_of_ble_eq_true rfl)
      have n6 : ν' 6 = (μ.2.2.1 404 11).toInt := g'.ag 6 (Nat.le_of_ble_eq_true rfl)
      have n7 : ν' 7 = (μ.2.2.1 404 12).toInt := g'.ag 7 (Nat.le_of_ble_eq_true rfl)
      have n8 : ν' 8 = (μ.2.2.1 404 13).toInt := g'.ag 8 (Nat.le_of_ble_eq_true rfl)
      have n9 : ν' 9 = (μ.2.2.1 404 14).toInt := g'.ag 9 (Nat.le_of_ble_eq_true rfl)
      have n10 : ν' 10 = (μ.2.2.1 404 19).toInt := g'.ag 10 (Nat.le_of_ble_eq_true rfl)
      have n11 : ν' 11 = (μ.2.2.1 404 21).toInt := g'.ag 11 (Nat.le_of_ble_eq_true rfl)
      have n12 : ν' 12 = (μ.2.2.1 406 0).toInt := g'.ag 12 (Nat.le_of_ble_eq_true rfl)
      have n13 : ν' 13 = (μ.2.2.1 406 1).toInt := g'.ag 13 (Nat.le_of_ble_eq_true rfl)
      have n14 : ν' 14 = (μ.2.2.1 406 2).toInt := g'.ag 14 (Nat.le_of_ble_eq_true rfl)
      have n15 : ν' 15 = (μ.2.2.1 406 3).toInt := g'.ag 15 (Nat.le_of_ble_eq_true rfl)
      have n16 : ν' 16 = (μ.2.2.1 407 0).toInt := g'.ag 16 (Nat.le_of_ble_eq_true rfl)
      have n17 : ν' 17 = (μ.2.2.1 407 1).toInt := g'.ag 17 (Nat.le_of_ble_eq_true rfl)
      have n18 : ν' 18 = (μ.2.2.1 407 2).toInt := g'.ag 18 (Nat.le_of_ble_eq_true rfl)
      have n19 : ν' 19 = (μ.2.2.1 407 3).toInt := g'.ag 19 (Nat.le_of_ble_eq_true rfl)
      have sz0 : (μ'.2.2.1 404 2).toInt = ν' 0 + 0 := (g'.fa _ (List.Mem.tail _ (List.Mem.tail _ (List.Mem.head _)))).2
      have sz1 : (μ'.2.2.1 433 0).toInt = (μ.2.2.1 433 0).toInt := by rw [(g'.fr 433 nc_X12_plan_433).1]
      have sz2 : (μ'.2.2.1 433 1).toInt = (μ.2.2.1 433 1).toInt := by rw [(g'.fr 433 nc_X12_plan_433).1]
      have sz3 : (μ'.2.2.1 1 1).toInt = (μ.2.2.1 1 1).toInt := by rw [(g'.fr 1 nc_X12_plan_1).1]
      have sz4 : (μ'.2.2.1 210 0).toInt = (μ.2.2.1 210 0).toInt := by rw [(g'.fr 210 nc_X12_plan_210).1]
      have sz5 : (μ'.2.2.1 307 0).toInt = (μ.2.2.1 307 0).toInt := by rw [(g'.fr 307 nc_X12_plan_307).1]
      have hw' : w.toInt = ν' 0 + 24 := hw
      exact hK _ w μ' ⟨⟨g'.sh, g'.hi, (g'.fl _ (List.Mem.tail _ (List.Mem.tail _ (List.Mem.tail _ (List.Mem.tail _ (List.Mem.head _)))))).2, (g'.fl _ (List.Mem.head _)).2, (g'.fl _ (List.Mem.tail _ (List.Mem.tail _ (List.Mem.tail _ (List.Mem.tail _ (List.Mem.tail _ (List.Mem.head _))))))).2, (g'.fl _ (List.Mem.tail _ (List.Mem.tail _ (List.Mem.tail _ (List.Mem.tail _ (List.Mem.tail _ (List.Mem.tail _ (List.Mem.head _)))))))).2⟩, rfl, by omega, ⟨sz3, sz4, sz5⟩, g'.fr⟩
    rcases List.mem_cons.mp hP with rfl | hP
    · obtain ⟨w, rfl, hw⟩ := r_int g'.gl
      have n0 : ν' 0 = 0 := g'.ag 0 (Nat.le_of_ble_eq_true rfl)
      have n1 : ν' 1 = (μ.2.2.1 408 0).toInt := g'.ag 1 (Nat.le_of_ble_eq_true rfl)
      have n2 : ν' 2 = (μ.2.2.1 404 22).toInt := g'.ag 2 (Nat.le_of_ble_eq_true rfl)
      have n3 : ν' 3 = (μ.2.2.1 404 2).toInt := g'.ag 3 (Nat.le_of_ble_eq_true rfl)
      have n4 : ν' 4 = (μ.2.2.1 404 3).toInt := g'.ag 4 (Nat.le_of_ble_eq_true rfl)
      have n5 : ν' 5 = (μ.2.2.1 404 4).toInt := g'.ag 5 (Nat.le_of_ble_eq_true rfl)
      have n6 : ν' 6 = (μ.2.2.1 404 11).toInt := g'.ag 6 (Nat.le_of_ble_eq_true rfl)
      have n7 : ν' 7 = (μ.2.2.1 404 12).toInt := g'.ag 7 (Nat.le_of_ble_eq_true rfl)
      have n8 : ν' 8 = (μ.2.2.1 404 13).toInt := g'.ag 8 (Nat.le_of_ble_eq_true rfl)
      have n9 : ν' 9 = (μ.2.2.1 404 14).toInt := g'.ag 9 (Nat.le_of_ble_eq_true rfl)
      have n10 : ν' 10 = (μ.2.2.1 404 19).toInt := g'.ag 10 (Nat.le_of_ble_eq_true rfl)
      have n11 : ν' 11 = (μ.2.2.1 404 21).toInt := g'.ag 11 (Nat.le_of_ble_eq_true rfl)
      have n12 : ν' 12 = (μ.2.2.1 406 0).toInt := g'.ag 12 (Nat.le_of_ble_eq_true rfl)
      have n13 : ν' 13 = (μ.2.2.1 406 1).toInt := g'.ag 13 (Nat.le_of_ble_eq_true rfl)
      have n14 : ν' 14 = (μ.2.2.1 406 2).toInt := g'.ag 14 (Nat.le_of_ble_eq_true rfl)
      have n15 : ν' 15 = (μ.2.2.1 406 3).toInt := g'.ag 15 (Nat.le_of_ble_eq_true rfl)
      have n16 : ν' 16 = (μ.2.2.1 407 0).toInt := g'.ag 16 (Nat.le_of_ble_eq_true rfl)
      have n17 : ν' 17 = (μ.2.2.1 407 1).toInt := g'.ag 17 (Nat.le_of_ble_eq_true rfl)
      have n18 : ν' 18 = (μ.2.2.1 407 2).toInt := g'.ag 18 (Nat.le_of_ble_eq_true rfl)
      have n19 : ν' 19 = (μ.2.2.1 407 3).toInt := g'.ag 19 (Nat.le_of_ble_eq_true rfl)
      have sz0 : (μ'.2.2.1 404 2).toInt = ν' 0 + 0 := (g'.fa _ (List.Mem.tail _ (List.Mem.tail _ (List.Mem.head _)))).2
      have sz1 : (μ'.2.2.1 433 0).toInt = (μ.2.2.1 433 0).toInt := by rw [(g'.fr 433 nc_X12_plan_433).1]
      have sz2 : (μ'.2.2.1 433 1).toInt = (μ.2.2.1 433 1).toInt := by rw [(g'.fr 433 nc_X12_plan_433).1]
      have sz3 : (μ'.2.2.1 1 1).toInt = (μ.2.2.1 1 1).toInt := by rw [(g'.fr 1 nc_X12_plan_1).1]
      have sz4 : (μ'.2.2.1 210 0).toInt = (μ.2.2.1 210 0).toInt := by rw [(g'.fr 210 nc_X12_plan_210).1]
      have sz5 : (μ'.2.2.1 307 0).toInt = (μ.2.2.1 307 0).toInt := by rw [(g'.fr 307 nc_X12_plan_307).1]
      have hw' : w.toInt = ν' 0 + 23 := hw
      exact hK _ w μ' ⟨⟨g'.sh, g'.hi, (g'.fl _ (List.Mem.tail _ (List.Mem.tail _ (List.Mem.tail _ (List.Mem.tail _ (List.Mem.head _)))))).2, (g'.fl _ (List.Mem.head _)).2, (g'.fl _ (List.Mem.tail _ (List.Mem.tail _ (List.Mem.tail _ (List.Mem.tail _ (List.Mem.tail _ (List.Mem.head _))))))).2, (g'.fl _ (List.Mem.tail _ (List.Mem.tail _ (List.Mem.tail _ (List.Mem.tail _ (List.Mem.tail _ (List.Mem.tail _ (List.Mem.head _)))))))).2⟩, rfl, by omega, ⟨sz3, sz4, sz5⟩, g'.fr⟩
    rcases List.mem_cons.mp hP with rfl | hP
    · obtain ⟨w, rfl, hw⟩ := r_int g'.gl
      have n0 : ν' 0 = 0 := g'.ag 0 (Nat.le_of_ble_eq_true rfl)
      have n1 : ν' 1 = (μ.2.2.1 408 0).toInt := g'.ag 1 (Nat.le_of_ble_eq_true rfl)
      have n2 : ν' 2 = (μ.2.2.1 404 22).toInt := g'.ag 2 (Nat.le_of_ble_eq_true rfl)
      have n3 : ν' 3 = (μ.2.2.1 404 2).toInt := g'.ag 3 (Nat.le_of_ble_eq_true rfl)
      have n4 : ν' 4 = (μ.2.2.1 404 3).toInt := g'.ag 4 (Nat.le_of_ble_eq_true rfl)
      have n5 : ν' 5 = (μ.2.2.1 404 4).toInt := g'.ag 5 (Nat.le_of_ble_eq_true rfl)
      have n6 : ν' 6 = (μ.2.2.1 404 11).toInt := g'.ag 6 (Nat.le_of_ble_eq_true rfl)
      have n7 : ν' 7 = (μ.2.2.1 404 12).toInt := g'.ag 7 (Nat.le_of_ble_eq_true rfl)
      have n8 : ν' 8 = (μ.2.2.1 404 13).toInt := g'.ag 8 (Nat.le_of_ble_eq_true rfl)
      have n9 : ν' 9 = (μ.2.2.1 404 14).toInt := g'.ag 9 (Nat.le_of_ble_eq_true rfl)
      have n10 : ν' 10 = (μ.2.2.1 404 19).toInt := g'.ag 10 (Nat.le_of_ble_eq_true rfl)
      have n11 : ν' 11 = (μ.2.2.1 404 21).toInt := g'.ag 11 (Nat.le_of_ble_eq_true rfl)
      have n12 : ν' 12 = (μ.2.2.1 406 0).toInt := g'.ag 12 (Nat.le_of_ble_eq_true rfl)
      have n13 : ν' 13 = (μ.2.2.1 406 1).toInt := g'.ag 13 (Nat.le_of_ble_eq_true rfl)
      have n14 : ν' 14 = (μ.2.2.1 406 2).toInt := g'.ag 14 (Nat.le_of_ble_eq_true rfl)
      have n15 : ν' 15 = (μ.2.2.1 406 3).toInt := g'.ag 15 (Nat.le_of_ble_eq_true rfl)
      have n16 : ν' 16 = (μ.2.2.1 407 0).toInt := g'.ag 16 (Nat.le_of_ble_eq_true rfl)
      have n17 : ν' 17 = (μ.2.2.1 407 1).toInt := g'.ag 17 (Nat.le_of_ble_eq_true rfl)
      have n18 : ν' 18 = (μ.2.2.1 407 2).toInt := g'.ag 18 (Nat.le_of_ble_eq_true rfl)
      have n19 : ν' 19 = (μ.2.2.1 407 3).toInt := g'.ag 19 (Nat.le_of_ble_eq_true rfl)
      have sz0 : (μ'.2.2.1 404 2).toInt = ν' 0 + 0 := (g'.fa _ (List.Mem.tail _ (List.Mem.tail _ (List.Mem.head _)))).2
      have sz1 : (μ'.2.2.1 433 0).toInt = (μ.2.2.1 433 0).toInt := by rw [(g'.fr 433 nc_X12_plan_433).1]
      have sz2 : (μ'.2.2.1 433 1).toInt = (μ.2.2.1 433 1).toInt := by rw [(g'.fr 433 nc_X12_plan_433).1]
      have sz3 : (μ'.2.2.1 1 1).toInt = (μ.2.2.1 1 1).toInt := by rw [(g'.fr 1 nc_X12_plan_1).1]
      have sz4 : (μ'.2.2.1 210 0).toInt = (μ.2.2.1 210 0).toInt := by rw [(g'.fr 210 nc_X12_plan_210).1]
      have sz5 : (μ'.2.2.1 307 0).toInt = (μ.2.2.1 307 0).toInt := by rw [(g'.fr 307 nc_X12_plan_307).1]
      have hw' : w.toInt = ν' 0 + 22 := hw
      exact hK _ w μ' ⟨⟨g'.sh, g'.hi, (g'.fl _ (List.Mem.tail _ (List.Mem.tail _ (List.Mem.tail _ (List.Mem.tail _ (List.Mem.head _)))))).2, (g'.fl _ (List.Mem.head _)).2, (g'.fl _ (List.Mem.tail _ (List.Mem.tail _ (List.Mem.tail _ (List.Mem.tail _ (List.Mem.tail _ (List.Mem.head _))))))).2, (g'.fl _ (List.Mem.tail _ (List.Mem.tail _ (List.Mem.tail _ (List.Mem.tail _ (List.Mem.tail _ (List.Mem.tail _ (List.Mem.head _)))))))).2⟩, rfl, by omega, ⟨sz3, sz4, sz5⟩, g'.fr⟩
    rcases List.mem_cons.mp hP with rfl | hP
    · obtain ⟨w, rfl, hw⟩ := r_int g'.gl
      have n0 : ν' 0 = 0 := g'.ag 0 (Nat.le_of_ble_eq_true rfl)
      have n1 : ν' 1 = (μ.2.2.1 408 0).toInt := g'.ag 1 (Nat.le_of_ble_eq_true rfl)
      have n2 : ν' 2 = (μ.2.2.1 404 22).toInt := g'.ag 2 (Nat.le_of_ble_eq_true rfl)
      have n3 : ν' 3 = (μ.2.2.1 404 2).toInt := g'.ag 3 (Nat.le_of_ble_eq_true rfl)
      have n4 : ν' 4 = (μ.2.2.1 404 3).toInt := g'.ag 4 (Nat.le_of_ble_eq_true rfl)
      have n5 : ν' 5 = (μ.2.2.1 404 4).toInt := g'.ag 5 (Nat.le_of_ble_eq_true rfl)
      have n6 : ν' 6 = (μ.2.2.1 404 11).toInt := g'.ag 6 (Nat.le_of_ble_eq_true rfl)
      have n7 : ν' 7 = (μ.2.2.1 404 12).toInt := g'.ag 7 (Nat.le_of_ble_eq_true rfl)
      have n8 : ν' 8 = (μ.2.2.1 404 13).toInt := g'.ag 8 (Nat.le_of_ble_eq_true rfl)
      have n9 : ν' 9 = (μ.2.2.1 404 14).toInt := g'.ag 9 (Nat.le_of_ble_eq_true rfl)
      have n10 : ν' 10 = (μ.2.2.1 404 19).toInt := g'.ag 10 (Nat.le_of_ble_eq_true rfl)
      have n11 : ν' 11 = (μ.2.2.1 404 21).toInt := g'.ag 11 (Nat.le_of_ble_eq_true rfl)
      have n12 : ν' 12 = (μ.2.2.1 406 0).toInt := g'.ag 12 (Nat.le_of_ble_eq_true rfl)
      have n13 : ν' 13 = (μ.2.2.1 406 1).toInt := g'.ag 13 (Nat.le_of_ble_eq_true rfl)
      have n14 : ν' 14 = (μ.2.2.1 406 2).toInt := g'.ag 14 (Nat.le_of_ble_eq_true rfl)
      have n15 : ν' 15 = (μ.2.2.1 406 3).toInt := g'.ag 15 (Nat.le_of_ble_eq_true rfl)
      have n16 : ν' 16 = (μ.2.2.1 407 0).toInt := g'.ag 16 (Nat.le_of_ble_eq_true rfl)
      have n17 : ν' 17 = (μ.2.2.1 407 1).toInt := g'.ag 17 (Nat.le_of_ble_eq_true rfl)
      have n18 : ν' 18 = (μ.2.2.1 407 2).toInt := g'.ag 18 (Nat.le_of_ble_eq_true rfl)
      have n19 : ν' 19 = (μ.2.2.1 407 3).toInt := g'.ag 19 (Nat.le_of_ble_eq_true rfl)
      have sz0 : (μ'.2.2.1 404 2).toInt = ν' 0 + 0 := (g'.fa _ (List.Mem.tail _ (List.Mem.tail _ (List.Mem.head _)))).2
      have sz1 : (μ'.2.2.1 433 0).toInt = (μ.2.2.1 433 0).toInt := by rw [(g'.fr 433 nc_X12_plan_433).1]
      have sz2 : (μ'.2.2.1 433 1).toInt = (μ.2.2.1 433 1).toInt := by rw [(g'.fr 433 nc_X12_plan_433).1]
      have sz3 : (μ'.2.2.1 1 1).toInt = (μ.2.2.1 1 1).toInt := by rw [(g'.fr 1 nc_X12_plan_1).1]
      have sz4 : (μ'.2.2.1 210 0).toInt = (μ.2.2.1 210 0).toInt := by rw [(g'.fr 210 nc_X12_plan_210).1]
      have sz5 : (μ'.2.2.1 307 0).toInt = (μ.2.2.1 307 0).toInt := by rw [(g'.fr 307 nc_X12_plan_307).1]
      have hw' : w.toInt = ν' 0 + 21 := hw
      exact hK _ w μ' ⟨⟨g'.sh, g'.hi, (g'.fl _ (List.Mem.tail _ (List.Mem.tail _ (List.Mem.tail _ (List.Mem.tail _ (List.Mem.head _)))))).2, (g'.fl _ (List.Mem.head _)).2, (g'.fl _ (List.Mem.tail _ (List.Mem.tail _ (List.Mem.tail _ (List.Mem.tail _ (List.Mem.tail _ (List.Mem.head _))))))).2, (g'.fl _ (List.Mem.tail _ (List.Mem.tail _ (List.Mem.tail _ (List.Mem.tail _ (List.Mem.tail _ (List.Mem.tail _ (List.Mem.head _)))))))).2⟩, rfl, by omega, ⟨sz3, sz4, sz5⟩, g'.fr⟩
    rcases List.mem_cons.mp hP with rfl | hP
    · obtain ⟨w, rfl, hw⟩ := r_int g'.gl
      have n0 : ν' 0 = 0 := g'.ag 0 (Nat.le_of_ble_eq_true rfl)
      have n1 : ν' 1 = (μ.2.2.1 408 0).toInt := g'.ag 1 (Nat.le_of_ble_eq_true rfl)
      have n2 : ν' 2 = (μ.2.2.1 404 22).toInt := g'.ag 2 (Nat.le_of_ble_eq_true rfl)
      have n3 : ν' 3 = (μ.2.2.1 404 2).toInt := g'.ag 3 (Nat.le_of_ble_eq_true rfl)
      have n4 : ν' 4 = (μ.2.2.1 404 3).toInt := g'.ag 4 (Nat.le_of_ble_eq_true rfl)
      have n5 : ν' 5 = (μ.2.2.1 404 4).toInt := g'.ag 5 (Nat.le_of_ble_eq_true rfl)
      have n6 : ν' 6 = (μ.2.2.1 404 11).toInt := g'.ag 6 (Nat.le_of_ble_eq_true rfl)
      have n7 : ν' 7 = (μ.2.2.1 404 12).toInt := g'.ag 7 (Nat.le_of_ble_eq_true rfl)
      have n8 : ν' 8 = (μ.2.2.1 404 13).toInt := g'.ag 8 (Nat.le_of_ble_eq_true rfl)
      have n9 : ν' 9 = (μ.2.2.1 404 14).toInt := g'.ag 9 (Nat.le_of_ble_eq_true rfl)
      have n10 : ν' 10 = (μ.2.2.1 404 19).toInt := g'.ag 10 (Nat.le_of_ble_eq_true rfl)
      have n11 : ν' 11 = (μ.2.2.1 404 21).toInt := g'.ag 11 (Nat.le_of_ble_eq_true rfl)
      have n12 : ν' 12 = (μ.2.2.1 406 0).toInt := g'.ag 12 (Nat.le_of_ble_eq_true rfl)
      have n13 : ν' 13 = (μ.2.2.1 406 1).toInt := g'.ag 13 (Nat.le_of_ble_eq_true rfl)
      have n14 : ν' 14 = (μ.2.2.1 406 2).toInt := g'.ag 14 (Nat.le_of_ble_eq_true rfl)
      have n15 : ν' 15 = (μ.2.2.1 406 3).toInt := g'.ag 15 (Nat.le_of_ble_eq_true rfl)
      have n16 : ν' 16 = (μ.2.2.1 407 0).toInt := g'.ag 16 (Nat.le_of_ble_eq_true rfl)
      have n17 : ν' 17 = (μ.2.2.1 407 1).toInt := g'.ag 17 (Nat.le_of_ble_eq_true rfl)
      have n18 : ν' 18 = (μ.2.2.1 407 2).toInt := g'.ag 18 (Nat.le_of_ble_eq_true rfl)
      have n19 : ν' 19 = (μ.2.2.1 407 3).toInt := g'.ag 19 (Nat.le_of_ble_eq_true rfl)
      have sz0 : (μ'.2.2.1 404 2).toInt = ν' 0 + 0 := (g'.fa _ (List.Mem.tail _ (List.Mem.tail _ (List.Mem.head _)))).2
      have sz1 : (μ'.2.2.1 433 0).toInt = (μ.2.2.1 433 0).toInt := by rw [(g'.fr 433 nc_X12_plan_433).1]
      have sz2 : (μ'.2.2.1 433 1).toInt = (μ.2.2.1 433 1).toInt := by rw [(g'.fr 433 nc_X12_plan_433).1]
      have sz3 : (μ'.2.2.1 1 1).toInt = (μ.2.2.1 1 1).toInt := by rw [(g'.fr 1 nc_X12_plan_1).1]
      have sz4 : (μ'.2.2.1 210 0).toInt = (μ.2.2.1 210 0).toInt := by rw [(g'.fr 210 nc_X12_plan_210).1]
      have sz5 : (μ'.2.2.1 307 0).toInt = (μ.2.2.1 307 0).toInt := by rw [(g'.fr 307 nc_X12_plan_307).1]
      have hw' : w.toInt = ν' 0 + 20 := hw
      exact hK _ w μ' ⟨⟨g'.sh, g'.hi, (g'.fl _ (List.Mem.tail _ (List.Mem.tail _ (List.Mem.tail _ (List.Mem.tail _ (List.Mem.head _)))))).2, (g'.fl _ (List.Mem.head _)).2, (g'.fl _ (List.Mem.tail _ (List.Mem.tail _ (List.Mem.tail _ (List.Mem.tail _ (List.Mem.tail _ (List.Mem.head _))))))).2, (g'.fl _ (List.Mem.tail _ (List.Mem.tail _ (List.Mem.tail _ (List.Mem.tail _ (List.Mem.tail _ (List.Mem.tail _ (List.Mem.head _)))))))).2⟩, rfl, by omega, ⟨sz3, sz4, sz5⟩, g'.fr⟩
    rcases List.mem_cons.mp hP with rfl | hP
    · obtain ⟨w, rfl, hw⟩ := r_int g'.gl
      have n0 : ν' 0 = 0 := g'.ag 0 (Nat.le_of_ble_eq_true rfl)
      have n1 : ν' 1 = (μ.2.2.1 408 0).toInt := g'.ag 1 (Nat.le_of_ble_eq_true rfl)
      have n2 : ν' 2 = (μ.2.2.1 404 22).toInt := g'.ag 2 (Nat.le_of_ble_eq_true rfl)
      have n3 : ν' 3 = (μ.2.2.1 404 2).toInt := g'.ag 3 (Nat.le_of_ble_eq_true rfl)
      have n4 : ν' 4 = (μ.2.2.1 404 3).toInt := g'.ag 4 (Nat.le_of_ble_eq_true rfl)
      have n5 : ν' 5 = (μ.2.2.1 404 4).toInt := g'.ag 5 (Nat.le_of_ble_eq_true rfl)
      have n6 : ν' 6 = (μ.2.2.1 404 11).toInt := g'.ag 6 (Nat.le_of_ble_eq_true rfl)
      have n7 : ν' 7 = (μ.2.2.1 404 12).toInt := g'.ag 7 (Nat.le_of_ble_eq_true rfl)
      have n8 : ν' 8 = (μ.2.2.1 404 13).toInt := g'.ag 8 (Nat.le_of_ble_eq_true rfl)
      have n9 : ν' 9 = (μ.2.2.1 404 14).toInt := g'.ag 9 (Nat.le_of_ble_eq_true rfl)
      have n10 : ν' 10 = (μ.2.2.1 404 19).toInt := g'.ag 10 (Nat.le_of_ble_eq_true rfl)
      have n11 : ν' 11 = (μ.2.2.1 404 21).toInt := g'.ag 11 (Nat.le_of_ble_eq_true rfl)
      have n12 : ν' 12 = (μ.2.2.1 406 0).toInt := g'.ag 12 (Nat.le_of_ble_eq_true rfl)
      have n13 : ν' 13 = (μ.2.2.1 406 1).toInt := g'.ag 13 (Nat.le_of_ble_eq_true rfl)
      have n14 : ν' 14 = (μ.2.2.1 406 2).toInt := g'.ag 14 (Nat.le_of_ble_eq_true rfl)
      have n15 : ν' 15 = (μ.2.2.1 406 3).toInt := g'.ag 15 (Nat.le_of_ble_eq_true rfl)
      have n16 : ν' 16 = (μ.2.2.1 407 0).toInt := g'.ag 16 (Nat.le_of_ble_eq_true rfl)
      have n17 : ν' 17 = (μ.2.2.1 407 1).toInt := g'.ag 17 (Nat.le_of_ble_eq_true rfl)
      have n18 : ν' 18 = (μ.2.2.1 407 2).toInt := g'.ag 18 (Nat.le_of_ble_eq_true rfl)
      have n19 : ν' 19 = (μ.2.2.1 407 3).toInt := g'.ag 19 (Nat.le_of_ble_eq_true rfl)
      have sz0 : (μ'.2.2.1 404 2).toInt = ν' 0 + 0 := (g'.fa _ (List.Mem.tail _ (List.Mem.tail _ (List.Mem.head _)))).2
      have sz1 : (μ'.2.2.1 433 0).toInt = (μ.2.2.1 433 0).toInt := by rw [(g'.fr 433 nc_X12_plan_433).1]
      have sz2 : (μ'.2.2.1 433 1).toInt = (μ.2.2.1 433 1).toInt := by rw [(g'.fr 433 nc_X12_plan_433).1]
      have sz3 : (μ'.2.2.1 1 1).toInt = (μ.2.2.1 1 1).toInt := by rw [(g'.fr 1 nc_X12_plan_1).1]
      have sz4 : (μ'.2.2.1 210 0).toInt = (μ.2.2.1 210 0).toInt := by rw [(g'.fr 210 nc_X12_plan_210).1]
      have sz5 : (μ'.2.2.1 307 0).toInt = (μ.2.2.1 307 0).toInt := by rw [(g'.fr 307 nc_X12_plan_307).1]
      have hw' : w.toInt = ν' 0 + 19 := hw
      exact hK _ w μ' ⟨⟨g'.sh, g'.hi, (g'.fl _ (List.Mem.tail _ (List.Mem.tail _ (List.Mem.tail _ (List.Mem.tail _ (List.Mem.head _)))))).2, (g'.fl _ (List.Mem.head _)).2, (g'.fl _ (List.Mem.tail _ (List.Mem.tail _ (List.Mem.tail _ (List.Mem.tail _ (List.Mem.tail _ (List.Mem.head _))))))).2, (g'.fl _ (List.Mem.tail _ (List.Mem.tail _ (List.Mem.tail _ (List.Mem.tail _ (List.Mem.tail _ (List.Mem.tail _ (List.Mem.head _)))))))).2⟩, rfl, by omega, ⟨sz3, sz4, sz5⟩, g'.fr⟩
    rcases List.mem_cons.mp hP with rfl | hP
    · obtain ⟨w, rfl, hw⟩ := r_int g'.gl
      have n0 : ν' 0 = 0 := g'.ag 0 (Nat.le_of_ble_eq_true rfl)
      have n1 : ν' 1 = (μ.2.2.1 408 0).toInt := g'.ag 1 (Nat.le_of_ble_eq_true rfl)
      have n2 : ν' 2 = (μ.2.2.1 404 22).toInt := g'.ag 2 (Nat.le_of_ble_eq_true rfl)
      have n3 : ν' 3 = (μ.2.2.1 404 2).toInt := g'.ag 3 (Nat.le_of_ble_eq_true rfl)
      have n4 : ν' 4 = (μ.2.2.1 404 3).toInt := g'.ag 4 (Nat.le_of_ble_eq_true rfl)
      have n5 : ν' 5 = (μ.2.2.1 404 4).toInt := g'.ag 5 (Nat.le_of_ble_eq_true rfl)
      have n6 : ν' 6 = (μ.2.2.1 404 11).toInt := g'.ag 6 (Nat.le_of_ble_eq_true rfl)
      have n7 : ν' 7 = (μ.2.2.1 404 12).toInt := g'.ag 7 (Nat.le_of_ble_eq_true rfl)
      have n8 : ν' 8 = (μ.2.2.1 404 13).toInt := g'.ag 8 (Nat.le_of_ble_eq_true rfl)
      have n9 : ν' 9 = (μ.2.2.1 404 14).toInt := g'.ag 9 (Nat.le_of_ble_eq_true rfl)
      have n10 : ν' 10 = (μ.2.2.1 404 19).toInt := g'.ag 10 (Nat.le_of_ble_eq_true rfl)
      have n11 : ν' 11 = (μ.2.2.1 404 21).toInt := g'.ag 11 (Nat.le_of_ble_eq_true rfl)
      have n12 : ν' 12 = (μ.2.2.1 406 0).toInt := g'.ag 12 (Nat.le_of_ble_eq_true rfl)
      have n13 : ν' 13 = (μ.2.2.1 406 1).toInt := g'.ag 13 (Nat.le_of_ble_eq_true rfl)
      have n14 : ν' 14 = (μ.2.2.1 406 2).toInt := g'.ag 14 (Nat.le_of_ble_eq_true rfl)
      have n15 : ν' 15 = (μ.2.2.1 406 3).toInt := g'.ag 15 (Nat.le_of_ble_eq_true rfl)
      have n16 : ν' 16 = (μ.2.2.1 407 0).toInt := g'.ag 16 (Nat.le_of_ble_eq_true rfl)
      have n17 : ν' 17 = (μ.2.2.1 407 1).toInt := g'.ag 17 (Nat.le_of_ble_eq_true rfl)
      have n18 : ν' 18 = (μ.2.2.1 407 2).toInt := g'.ag 18 (Nat.le_of_ble_eq_true rfl)
      have n19 : ν' 19 = (μ.2.2.1 407 3).toInt := g'.ag 19 (Nat.le_of_ble_eq_true rfl)
      have sz0 : (μ'.2.2.1 404 2).toInt = ν' 0 + 0 := (g'.fa _ (List.Mem.tail _ (List.Mem.tail _ (List.Mem.head _)))).2
      have sz1 : (μ'.2.2.1 433 0).toInt = (μ.2.2.1 433 0).toInt := by rw [(g'.fr 433 nc_X12_plan_433).1]
      have sz2 : (μ'.2.2.1 433 1).toInt = (μ.2.2.1 433 1).toInt := by rw [(g'.fr 433 nc_X12_plan_433).1]
      have sz3 : (μ'.2.2.1 1 1).toInt = (μ.2.2.1 1 1).toInt := by rw [(g'.fr 1 nc_X12_plan_1).1]
      have sz4 : (μ'.2.2.1 210 0).toInt = (μ.2.2.1 210 0).toInt := by rw [(g'.fr 210 nc_X12_plan_210).1]
      have sz5 : (μ'.2.2.1 307 0).toInt = (μ.2.2.1 307 0).toInt := by rw [(g'.fr 307 nc_X12_plan_307).1]
      have hw' : w.toInt = ν' 0 + 18 := hw
      exact hK _ w μ' ⟨⟨g'.sh, g'.hi, (g'.fl _ (List.Mem.tail _ (List.Mem.tail _ (List.Mem.tail _ (List.Mem.tail _ (List.Mem.head _)))))).2, (g'.fl _ (List.Mem.head _)).2, (g'.fl _ (List.Mem.tail _ (List.Mem.tail _ (List.Mem.tail _ (List.Mem.tail _ (List.Mem.tail _ (List.Mem.head _))))))).2, (g'.fl _ (List.Mem.tail _ (List.Mem.tail _ (List.Mem.tail _ (List.Mem.tail _ (List.Mem.tail _ (List.Mem.tail _ (List.Mem.head _)))))))).2⟩, rfl, by omega, ⟨sz3, sz4, sz5⟩, g'.fr⟩
    rcases List.mem_cons.mp hP with rfl | hP
    · obtain ⟨w, rfl, hw⟩ := r_int g'.gl
      have n0 : ν' 0 = 0 := g'.ag 0 (Nat.le_of_ble_eq_true rfl)
      have n1 : ν' 1 = (μ.2.2.1 408 0).toInt := g'.ag 1 (Nat.le_of_ble_eq_true rfl)
      have n2 : ν' 2 = (μ.2.2.1 404 22).toInt := g'.ag 2 (Nat.le_of_ble_eq_true rfl)
      have n3 : ν' 3 = (μ.2.2.1 404 2).toInt := g'.ag 3 (Nat.le_of_ble_eq_true rfl)
      have n4 : ν' 4 = (μ.2.2.1 404 3).toInt := g'.ag 4 (Nat.le_of_ble_eq_true rfl)
      have n5 : ν' 5 = (μ.2.2.1 404 4).toInt := g'.ag 5 (Nat.le_of_ble_eq_true rfl)
      have n6 : ν' 6 = (μ.2.2.1 404 11).toInt := g'.ag 6 (Nat.le_of_ble_eq_true rfl)
      have n7 : ν' 7 = (μ.2.2.1 404 12).toInt := g'.ag 7 (Nat.le_of_ble_eq_true rfl)
      have n8 : ν' 8 = (μ.2.2.1 404 13).toInt := g'.ag 8 (Nat.le_of_ble_eq_true rfl)
      have n9 : ν' 9 = (μ.2.2.1 404 14).toInt := g'.ag 9 (Nat.le_of_ble_eq_true rfl)
      have n10 : ν' 10 = (μ.2.2.1 404 19).toInt := g'.ag 10 (Nat.le_of_ble_eq_true rfl)
      have n11 : ν' 11 = (μ.2.2.1 404 21).toInt := g'.ag 11 (Nat.le_of_ble_eq_true rfl)
      have n12 : ν' 12 = (μ.2.2.1 406 0).toInt := g'.ag 12 (Nat.le_of_ble_eq_true rfl)
      have n13 : ν' 13 = (μ.2.2.1 406 1).toInt := g'.ag 13 (Nat.le_of_ble_eq_true rfl)
      have n14 : ν' 14 = (μ.2.2.1 406 2).toInt := g'.ag 14 (Nat.le_of_ble_eq_true rfl)
      have n15 : ν' 15 = (μ.2.2.1 406 3).toInt := g'.ag 15 (Nat.le_of_ble_eq_true rfl)
      have n16 : ν' 16 = (μ.2.2.1 407 0).toInt := g'.ag 16 (Nat.le_of_ble_eq_true rfl)
      have n17 : ν' 17 = (μ.2.2.1 407 1).toInt := g'.ag 17 (Nat.le_of_ble_eq_true rfl)
      have n18 : ν' 18 = (μ.2.2.1 407 2).toInt := g'.ag 18 (Nat.le_of_ble_eq_true rfl)
      have n19 : ν' 19 = (μ.2.2.1 407 3).toInt := g'.ag 19 (Nat.le_of_ble_eq_true rfl)
      have sz0 : (μ'.2.2.1 404 2).toInt = ν' 0 + 0 := (g'.fa _ (List.Mem.tail _ (List.Mem.tail _ (List.Mem.head _)))).2
      have sz1 : (μ'.2.2.1 433 0).toInt = (μ.2.2.1 433 0).toInt := by rw [(g'.fr 433 nc_X12_plan_433).1]
      have sz2 : (μ'.2.2.1 433 1).toInt = (μ.2.2.1 433 1).toInt := by rw [(g'.fr 433 nc_X12_plan_433).1]
      have sz3 : (μ'.2.2.1 1 1).toInt = (μ.2.2.1 1 1).toInt := by rw [(g'.fr 1 nc_X12_plan_1).1]
      have sz4 : (μ'.2.2.1 210 0).toInt = (μ.2.2.1 210 0).toInt := by rw [(g'.fr 210 nc_X12_plan_210).1]
      have sz5 : (μ'.2.2.1 307 0).toInt = (μ.2.2.1 307 0).toInt := by rw [(g'.fr 307 nc_X12_plan_307).1]
      have hw' : w.toInt = ν' 0 + 17 := hw
      exact hK _ w μ' ⟨⟨g'.sh, g'.hi, (g'.fl _ (List.Mem.tail _ (List.Mem.tail _ (List.Mem.tail _ (List.Mem.tail _ (List.Mem.head _)))))).2, (g'.fl _ (List.Mem.head _)).2, (g'.fl _ (List.Mem.tail _ (List.Mem.tail _ (List.Mem.tail _ (List.Mem.tail _ (List.Mem.tail _ (List.Mem.head _))))))).2, (g'.fl _ (List.Mem.tail _ (List.Mem.tail _ (List.Mem.tail _ (List.Mem.tail _ (List.Mem.tail _ (List.Mem.tail _ (List.Mem.head _)))))))).2⟩, rfl, by omega, ⟨sz3, sz4, sz5⟩, g'.fr⟩
    rcases List.mem_cons.mp hP with rfl | hP
    · obtain ⟨w, rfl, hw⟩ := r_int g'.gl
      have n0 : ν' 0 = 0 := g'.ag 0 (Nat.le_of_ble_eq_true rfl)
      have n1 : ν' 1 = (μ.2.2.1 408 0).toInt := g'.ag 1 (Nat.le_of_ble_eq_true rfl)
      have n2 : ν' 2 = (μ.2.2.1 404 22).toInt := g'.ag 2 (Nat.le_of_ble_eq_true rfl)
      have n3 : ν' 3 = (μ.2.2.1 404 2).toInt := g'.ag 3 (Nat.le_of_ble_eq_true rfl)
      have n4 : ν' 4 = (μ.2.2.1 404 3).toInt := g'.ag 4 (Nat.le_of_ble_eq_true rfl)
      have n5 : ν' 5 = (μ.2.2.1 404 4).toInt := g'.ag 5 (Nat.le_of_ble_eq_true rfl)
      have n6 : ν' 6 = (μ.2.2.1 404 11).toInt := g'.ag 6 (Nat.le_of_ble_eq_true rfl)
      have n7 : ν' 7 = (μ.2.2.1 404 12).toInt := g'.ag 7 (Nat.le_of_ble_eq_true rfl)
      have n8 : ν' 8 = (μ.2.2.1 404 13).toInt := g'.ag 8 (Nat.le_of_ble_eq_true rfl)
      have n9 : ν' 9 = (μ.2.2.1 404 14).toInt := g'.ag 9 (Nat.le_of_ble_eq_true rfl)
      have n10 : ν' 10 = (μ.2.2.1 404 19).toInt := g'.ag 10 (Nat.le_of_ble_eq_true rfl)
      have n11 : ν' 11 = (μ.2.2.1 404 21).toInt := g'.ag 11 (Nat.le_of_ble_eq_true rfl)
      have n12 : ν' 12 = (μ.2.2.1 406 0).toInt := g'.ag 12 (Nat.le_of_ble_eq_true rfl)
      have n13 : ν' 13 = (μ.2.2.1 406 1).toInt := g'.ag 13 (Nat.le_of_ble_eq_true rfl)
      have n14 : ν' 14 = (μ.2.2.1 406 2).toInt := g'.ag 14 (Nat.le_of_ble_eq_true rfl)
      have n15 : ν' 15 = (μ.2.2.1 406 3).toInt := g'.ag 15 (Nat.le_of_ble_eq_true rfl)
      have n16 : ν' 16 = (μ.2.2.1 407 0).toInt := g'.ag 16 (Nat.le_of_ble_eq_true rfl)
      have n17 : ν' 17 = (μ.2.2.1 407 1).toInt := g'.ag 17 (Nat.le_of_ble_eq_true rfl)
      have n18 : ν' 18 = (μ.2.2.1 407 2).toInt := g'.ag 18 (Nat.le_of_ble_eq_true rfl)
      have n19 : ν' 19 = (μ.2.2.1 407 3).toInt := g'.ag 19 (Nat.le_of_ble_eq_true rfl)
      have sz0 : (μ'.2.2.1 404 2).toInt = ν' 0 + 0 := (g'.fa _ (List.Mem.tail _ (List.Mem.tail _ (List.Mem.head _)))).2
      have sz1 : (μ'.2.2.1 433 0).toInt = (μ.2.2.1 433 0).toInt := by rw [(g'.fr 433 nc_X12_plan_433).1]
      have sz2 : (μ'.2.2.1 433 1).toInt = (μ.2.2.1 433 1).toInt := by rw [(g'.fr 433 nc_X12_plan_433).1]
      have sz3 : (μ'.2.2.1 1 1).toInt = (μ.2.2.1 1 1).toInt := by rw [(g'.fr 1 nc_X12_plan_1).1]
      have sz4 : (μ'.2.2.1 210 0).toInt = (μ.2.2.1 210 0).toInt := by rw [(g'.fr 210 nc_X12_plan_210).1]
      have sz5 : (μ'.2.2.1 307 0).toInt = (μ.2.2.1 307 0).toInt := by rw [(g'.fr 307 nc_X12_plan_307).1]
      have hw' : w.toInt = ν' 0 + 16 := hw
      exact hK _ w μ' ⟨⟨g'.sh, g'.hi, (g'.fl _ (List.Mem.tail _ (List.Mem.tail _ (List.Mem.tail _ (List.Mem.tail _ (List.Mem.head _)))))).2, (g'.fl _ (List.Mem.head _)).2, (g'.fl _ (List.Mem.tail _ (List.Mem.tail _ (List.Mem.tail _ (List.Mem.tail _ (List.Mem.tail _ (List.Mem.head _))))))).2, (g'.fl _ (List.Mem.tail _ (List.Mem.tail _ (List.Mem.tail _ (List.Mem.tail _ (List.Mem.tail _ (List.Mem.tail _ (List.Mem.head _)))))))).2⟩, rfl, by omega, ⟨sz3, sz4, sz5⟩, g'.fr⟩
    rcases List.mem_cons.mp hP with rfl | hP
    · obtain ⟨w, rfl, hw⟩ := r_int g'.gl
      have n0 : ν' 0 = 0 := g'.ag 0 (Nat.le_of_ble_eq_true rfl)
      have n1 : ν' 1 = (μ.2.2.1 408 0).toInt := g'.ag 1 (Nat.le_of_ble_eq_true rfl)
      have n2 : ν' 2 = (μ.2.2.1 404 22).toInt := g'.ag 2 (Nat.le_of_ble_eq_true rfl)
      have n3 : ν' 3 = (μ.2.2.1 404 2).toInt := g'.ag 3 (Nat.le_of_ble_eq_true rfl)
      have n4 : ν' 4 = (μ.2.2.1 404 3).toInt := g'.ag 4 (Nat.le_of_ble_eq_true rfl)
      have n5 : ν' 5 = (μ.2.2.1 404 4).toInt := g'.ag 5 (Nat.le_of_ble_eq_true rfl)
      have n6 : ν' 6 = (μ.2.2.1 404 11).toInt := g'.ag 6 (Nat.le_of_ble_eq_true rfl)
      have n7 : ν' 7 = (μ.2.2.1 404 12).toInt := g'.ag 7 (Nat.le_of_ble_eq_true rfl)
      have n8 : ν' 8 = (μ.2.2.1 404 13).toInt := g'.ag 8 (Nat.le_of_ble_eq_true rfl)
      have n9 : ν' 9 = (μ.2.2.1 404 14).toInt := g'.ag 9 (Nat.le_of_ble_eq_true rfl)
      have n10 : ν' 10 = (μ.2.2.1 404 19).toInt := g'.ag 10 (Nat.le_of_ble_eq_true rfl)
      have n11 : ν' 11 = (μ.2.2.1 404 21).toInt := g'.ag 11 (Nat.le_of_ble_eq_true rfl)
      have n12 : ν' 12 = (μ.2.2.1 406 0).toInt := g'.ag 12 (Nat.le_of_ble_eq_true rfl)
      have n13 : ν' 13 = (μ.2.2.1 406 1).toInt := g'.ag 13 (Nat.le_of_ble_eq_true rfl)
      have n14 : ν' 14 = (μ.2.2.1 406 2).toInt := g'.ag 14 (Nat.le_of_ble_eq_true rfl)
      have n15 : ν' 15 = (μ.2.2.1 406 3).toInt := g'.ag 15 (Nat.le_of_ble_eq_true rfl)
      have n16 : ν' 16 = (μ.2.2.1 407 0).toInt := g'.ag 16 (Nat.le_of_ble_eq_true rfl)
      have n17 : ν' 17 = (μ.2.2.1 407 1).toInt := g'.ag 17 (Nat.le_of_ble_eq_true rfl)
      have n18 : ν' 18 = (μ.2.2.1 407 2).toInt := g'.ag 18 (Nat.le_of_ble_eq_true rfl)
      have n19 : ν' 19 = (μ.2.2.1 407 3).toInt := g'.ag 19 (Nat.le_of_ble_eq_true rfl)
      have sz0 : (μ'.2.2.1 404 2).toInt = ν' 0 + 0 := (g'.fa _ (List.Mem.tail _ (List.Mem.tail _ (List.Mem.head _)))).2
      have sz1 : (μ'.2.2.1 433 0).toInt = (μ.2.2.1 433 0).toInt := by rw [(g'.fr 433 nc_X12_plan_433).1]
      have sz2 : (μ'.2.2.1 433 1).toInt = (μ.2.2.1 433 1).toInt := by rw [(g'.fr 433 nc_X12_plan_433).1]
      have sz3 : (μ'.2.2.1 1 1).toInt = (μ.2.2.1 1 1).toInt := by rw [(g'.fr 1 nc_X12_plan_1).1]
      have sz4 : (μ'.2.2.1 210 0).toInt = (μ.2.2.1 210 0).toInt := by rw [(g'.fr 210 nc_X12_plan_210).1]
      have sz5 : (μ'.2.2.1 307 0).toInt = (μ.2.2.1 307 0).toInt := by rw [(g'.fr 307 nc_X12_plan_307).1]
      have hw' : w.toInt = ν' 0 + 15 := hw
      exact hK _ w μ' ⟨⟨g'.sh, g'.hi, (g'.fl _ (List.Mem.tail _ (List.Mem.tail _ (List.Mem.tail _ (List.Mem.tail _ (List.Mem.head _)))))).2, (g'.fl _ (List.Mem.head _)).2, (g'.fl _ (List.Mem.tail _ (List.Mem.tail _ (List.Mem.tail _ (List.Mem.tail _ (List.Mem.tail _ (List.Mem.head _))))))).2, (g'.fl _ (List.Mem.tail _ (List.Mem.tail _ (List.Mem.tail _ (List.Mem.tail _ (List.Mem.tail _ (List.Mem.tail _ (List.Mem.head _)))))))).2⟩, rfl, by omega, ⟨sz3, sz4, sz5⟩, g'.fr⟩
    rcases List.mem_cons.mp hP with rfl | hP
    · obtain ⟨w, rfl, hw⟩ := r_int g'.gl
      have n0 : ν' 0 = 0 := g'.ag 0 (Nat.le_of_ble_eq_true rfl)
      have n1 : ν' 1 = (μ.2.2.1 408 0).toInt := g'.ag 1 (Nat.le_of_ble_eq_true rfl)
      have n2 : ν' 2 = (μ.2.2.1 404 22).toInt := g'.ag 2 (Nat.le_of_ble_eq_true rfl)
      have n3 : ν' 3 = (μ.2.2.1 404 2).toInt := g'.ag 3 (Nat.le_of_ble_eq_true rfl)
      have n4 : ν' 4 = (μ.2.2.1 404 3).toInt := g'.ag 4 (Nat.le_of_ble_eq_true rfl)
      have n5 : ν' 5 = (μ.2.2.1 404 4).toInt := g'.ag 5 (Nat.le_of_ble_eq_true rfl)
      have n6 : ν' 6 = (μ.2.2.1 404 11).toInt := g'.ag 6 (Nat.le_of_ble_eq_true rfl)
      have n7 : ν' 7 = (μ.2.2.1 404 12).toInt := g'.ag 7 (Nat.le_of_ble_eq_true rfl)
      have n8 : ν' 8 = (μ.2.2.1 404 13).toInt := g'.ag 8 (Nat.le_of_ble_eq_true rfl)
      have n9 : ν' 9 = (μ.2.2.1 404 14).toInt := g'.ag 9 (Nat.le_of_ble_eq_true rfl)
      have n10 : ν' 10 = (μ.2.2.1 404 19).toInt := g'.ag 10 (Nat.le_of_ble_eq_true rfl)
      have n11 : ν' 11 = (μ.2.2.1 404 21).toInt := g'.ag 11 (Nat.le_of_ble_eq_true rfl)
      have n12 : ν' 12 = (μ.2.2.1 406 0).toInt := g'.ag 12 (Nat.le_of_ble_eq_true rfl)
      have n13 : ν' 13 = (μ.2.2.1 406 1).toInt := g'.ag 13 (Nat.le_of_ble_eq_true rfl)
      have n14 : ν' 14 = (μ.2.2.1 406 2).toInt := g'.ag 14 (Nat.le_of_ble_eq_true rfl)
      have n15 : ν' 15 = (μ.2.2.1 406 3).toInt := g'.ag 15 (Nat.le_of_ble_eq_true rfl)
      have n16 : ν' 16 = (μ.2.2.1 407 0).toInt := g'.ag 16 (Nat.le_of_ble_eq_true rfl)
      have n17 : ν' 17 = (μ.2.2.1 407 1).toInt := g'.ag 17 (Nat.le_of_ble_eq_true rfl)
      have n18 : ν' 18 = (μ.2.2.1 407 2).toInt := g'.ag 18 (Nat.le_of_ble_eq_true rfl)
      have n19 : ν' 19 = (μ.2.2.1 407 3).toInt := g'.ag 19 (Nat.le_of_ble_eq_true rfl)
      have sz0 : (μ'.2.2.1 404 2).toInt = ν' 0 + 0 := (g'.fa _ (List.Mem.tail _ (List.Mem.tail _ (List.Mem.head _)))).2
      have sz1 : (μ'.2.2.1 433 0).toInt = (μ.2.2.1 433 0).toInt := by rw [(g'.fr 433 nc_X12_plan_433).1]
      have sz2 : (μ'.2.2.1 433 1).toInt = (μ.2.2.1 433 1).toInt := by rw [(g'.fr 433 nc_X12_plan_433).1]
      have sz3 : (μ'.2.2.1 1 1).toInt = (μ.2.2.1 1 1).toInt := by rw [(g'.fr 1 nc_X12_plan_1).1]
      have sz4 : (μ'.2.2.1 210 0).toInt = (μ.2.2.1 210 0).toInt := by rw [(g'.fr 210 nc_X12_plan_210).1]
      have sz5 : (μ'.2.2.1 307 0).toInt = (μ.2.2.1 307 0).toInt := by rw [(g'.fr 307 nc_X12_plan_307).1]
      have hw' : w.toInt = ν' 0 + 14 := hw
      exact hK _ w μ' ⟨⟨g'.sh, g'.hi, (g'.fl _ (List.Mem.tail _ (List.Mem.tail _ (List.Mem.tail _ (List.Mem.tail _ (List.Mem.head _)))))).2, (g'.fl _ (List.Mem.head _)).2, (g'.fl _ (List.Mem.tail _ (List.Mem.tail _ (List.Mem.tail _ (List.Mem.tail _ (List.Mem.tail _ (List.Mem.head _))))))).2, (g'.fl _ (List.Mem.tail _ (List.Mem.tail _ (List.Mem.tail _ (List.Mem.tail _ (List.Mem.tail _ (List.Mem.tail _ (List.Mem.head _)))))))).2⟩, rfl, by omega, ⟨sz3, sz4, sz5⟩, g'.fr⟩
    rcases List.mem_cons.mp hP with rfl | hP
    · obtain ⟨w, rfl, hw⟩ := r_int g'.gl
      have n0 : ν' 0 = 0 := g'.ag 0 (Nat.le_of_ble_eq_true rfl)
      have n1 : ν' 1 = (μ.2.2.1 408 0).toInt := g'.ag 1 (Nat.le_of_ble_eq_true rfl)
      have n2 : ν' 2 = (μ.2.2.1 404 22).toInt := g'.ag 2 (Nat.le_of_ble_eq_true rfl)
      have n3 : ν' 3 = (μ.2.2.1 404 2).toInt := g'.ag 3 (Nat.le_of_ble_eq_true rfl)
      have n4 : ν' 4 = (μ.2.2.1 404 3).toInt := g'.ag 4 (Nat.le_of_ble_eq_true rfl)
      have n5 : ν' 5 = (μ.2.2.1 404 4).toInt := g'.ag 5 (Nat.le_of_ble_eq_true rfl)
      have n6 : ν' 6 = (μ.2.2.1 404 11).toInt := g'.ag 6 (Nat.le_of_ble_eq_true rfl)
      have n7 : ν' 7 = (μ.2.2.1 404 12).toInt := g'.ag 7 (Nat.le_of_ble_eq_true rfl)
      have n8 : ν' 8 = (μ.2.2.1 404 13).toInt := g'.ag 8 (Nat.le_of_ble_eq_true rfl)
      have n9 : ν' 9 = (μ.2.2.1 404 14).toInt := g'.ag 9 (Nat.le_of_ble_eq_true rfl)
      have n10 : ν' 10 = (μ.2.2.1 404 19).toInt := g'.ag 10 (Nat.le_of_ble_eq_true rfl)
      have n11 : ν' 11 = (μ.2.2.1 404 21).toInt := g'.ag 11 (Nat.le_of_ble_eq_true rfl)
      have n12 : ν' 12 = (μ.2.2.1 406 0).toInt := g'.ag 12 (Nat.le_of_ble_eq_true rfl)
      have n13 : ν' 13 = (μ.2.2.1 406 1).toInt := g'.ag 13 (Nat.le_of_ble_eq_true rfl)
      have n14 : ν' 14 = (μ.2.2.1 406 2).toInt := g'.ag 14 (Nat.le_of_ble_eq_true rfl)
      have n15 : ν' 15 = (μ.2.2.1 406 3).toInt := g'.ag 15 (Nat.le_of_ble_eq_true rfl)
      have n16 : ν' 16 = (μ.2.2.1 407 0).toInt := g'.ag 16 (Nat.le_of_ble_eq_true rfl)
      have n17 : ν' 17 = (μ.2.2.1 407 1).toInt := g'.ag 17 (Nat.le_of_ble_eq_true rfl)
      have n18 : ν' 18 = (μ.2.2.1 407 2).toInt := g'.ag 18 (Nat.le_of_ble_eq_true rfl)
      have n19 : ν' 19 = (μ.2.2.1 407 3).toInt := g'.ag 19 (Nat.le_of_ble_eq_true rfl)
      have sz0 : (μ'.2.2.1 404 2).toInt = ν' 0 + 0 := (g'.fa _ (List.Mem.tail _ (List.Mem.tail _ (List.Mem.head _)))).2
      have sz1 : (μ'.2.2.1 433 0).toInt = (μ.2.2.1 433 0).toInt := by rw [(g'.fr 433 nc_X12_plan_433).1]
      have sz2 : (μ'.2.2.1 433 1).toInt = (μ.2.2.1 433 1).toInt := by rw [(g'.fr 433 nc_X12_plan_433).1]
      have sz3 : (μ'.2.2.1 1 1).toInt = (μ.2.2.1 1 1).toInt := by rw [(g'.fr 1 nc_X12_plan_1).1]
      have sz4 : (μ'.2.2.1 210 0).toInt = (μ.2.2.1 210 0).toInt := by rw [(g'.fr 210 nc_X12_plan_210).1]
      have sz5 : (μ'.2.2.1 307 0).toInt = (μ.2.2.1 307 0).toInt := by rw [(g'.fr 307 nc_X12_plan_307).1]
      have hw' : w.toInt = ν' 0 + 13 := hw
      exact hK _ w μ' ⟨⟨g'.sh, g'.hi, (g'.fl _ (List.Mem.tail _ (List.Mem.tail _ (List.Mem.tail _ (List.Mem.tail _ (List.Mem.head _)))))).2, (g'.fl _ (List.Mem.head _)).2, (g'.fl _ (List.Mem.tail _ (List.Mem.tail _ (List.Mem.tail _ (List.Mem.tail _ (List.Mem.tail _ (List.Mem.head _))))))).2, (g'.fl _ (List.Mem.tail _ (List.Mem.tail _ (List.Mem.tail _ (List.Mem.tail _ (List.Mem.tail _ (List.Mem.tail _ (List.Mem.head _)))))))).2⟩, rfl, by omega, ⟨sz3, sz4, sz5⟩, g'.fr⟩
    rcases List.mem_cons.mp hP with rfl | hP
    · obtain ⟨w, rfl, hw⟩ := r_int g'.gl
      have n0 : ν' 0 = 0 := g'.ag 0 (Nat.le_of_ble_eq_true rfl)
      have n1 : ν' 1 = (μ.2.2.1 408 0).toInt := g'.ag 1 (Nat.le_of_ble_eq_true rfl)
      have n2 : ν' 2 = (μ.2.2.1 404 22).toInt := g'.ag 2 (Nat.le_of_ble_eq_true rfl)
      have n3 : ν' 3 = (μ.2.2.1 404 2).toInt := g'.ag 3 (Nat.le_of_ble_eq_true rfl)
      have n4 : ν' 4 = (μ.2.2.1 404 3).toInt := g'.ag 4 (Nat.le_of_ble_eq_true rfl)
      have n5 : ν' 5 = (μ.2.2.1 404 4).toInt := g'.ag 5 (Nat.le_of_ble_eq_true rfl)
      have n6 : ν' 6 = (μ.2.2.1 404 11).toInt := g'.ag 6 (Nat.le_of_ble_eq_true rfl)
      have n7 : ν' 7 = (μ.2.2.1 404 12).toInt := g'.ag 7 (Nat.le_of_ble_eq_true rfl)
      have n8 : ν' 8 = (μ.2.2.1 404 13).toInt := g'.ag 8 (Nat.le_of_ble_eq_true rfl)
      have n9 : ν' 9 = (μ.2.2.1 404 14).toInt := g'.ag 9 (Nat.le_of_ble_eq_true rfl)
      have n10 : ν' 10 = (μ.2.2.1 404 19).toInt := g'.ag 10 (Nat.le_of_ble_eq_true rfl)
      have n11 : ν' 11 = (μ.2.2.1 404 21).toInt := g'.ag 11 (Nat.le_of_ble_eq_true rfl)
      have n12 : ν' 12 = (μ.2.2.1 406 0).toInt := g'.ag 12 (Nat.le_of_ble_eq_true rfl)
      have n13 : ν' 13 = (μ.2.2.1 406 1).toInt := g'.ag 13 (Nat.le_of_ble_eq_true rfl)
      have n14 : ν' 14 = (μ.2.2.1 406 2).toInt := g'.ag 14 (Nat.le_of_ble_eq_true rfl)
      have n15 : ν' 15 = (μ.2.2.1 406 3).toInt := g'.ag 15 (Nat.le_of_ble_eq_true rfl)
      have n16 : ν' 16 = (μ.2.2.1 407 0).toInt := g'.ag 16 (Nat.le_of_ble_eq_true rfl)
      have n17 : ν' 17 = (μ.2.2.1 407 1).toInt := g'.ag 17 (Nat.le_of_ble_eq_true rfl)
      have n18 : ν' 18 = (μ.2.2.1 407 2).toInt := g'.ag 18 (Nat.le_of_ble_eq_true rfl)
      have n19 : ν' 19 = (μ.2.2.1 407 3).toInt := g'.ag 19 (Nat.le_of_ble_eq_true rfl)
      have sz0 : (μ'.2.2.1 404 2).toInt = ν' 0 + 0 := (g'.fa _ (List.Mem.tail _ (List.Mem.tail _ (List.Mem.head _)))).2
      have sz1 : (μ'.2.2.1 433 0).toInt = (μ.2.2.1 433 0).toInt := by rw [(g'.fr 433 nc_X12_plan_433).1]
      have sz2 : (μ'.2.2.1 433 1).toInt = (μ.2.2.1 433 1).toInt := by rw [(g'.fr 433 nc_X12_plan_433).1]
      have sz3 : (μ'.2.2.1 1 1).toInt = (μ.2.2.1 1 1).toInt := by rw [(g'.fr 1 nc_X12_plan_1).1]
      have sz4 : (μ'.2.2.1 210 0).toInt = (μ.2.2.1 210 0).toInt := by rw [(g'.fr 210 nc_X12_plan_210).1]
      have sz5 : (μ'.2.2.1 307 0).toInt = (μ.2.2.1 307 0).toInt := by rw [(g'.fr 307 nc_X12_plan_307).1]
      have hw' : w.toInt = ν' 0 + 12 := hw
      exact hK _ w μ' ⟨⟨g'.sh, g'.hi, (g'.fl _ (List.Mem.tail _ (List.Mem.tail _ (List.Mem.tail _ (List.Mem.tail _ (List.Mem.head _)))))).2, (g'.fl _ (List.Mem.head _)).2, (g'.fl _ (List.Mem.tail _ (List.Mem.tail _ (List.Mem.tail _ (List.Mem.tail _ (List.Mem.tail _ (List.Mem.head _))))))).2, (g'.fl _ (List.Mem.tail _ (List.Mem.tail _ (List.Mem.tail _ (List.Mem.tail _ (List.Mem.tail _ (List.Mem.tail _ (List.Mem.head _)))))))).2⟩, rfl, by omega, ⟨sz3, sz4, sz5⟩, g'.fr⟩
    rcases List.mem_cons.mp hP with rfl | hP
    · obtain ⟨w, rfl, hw⟩ := r_int g'.gl
      have n0 : ν' 0 = 0 := g'.ag 0 (Nat.le_of_ble_eq_true rfl)
      have n1 : ν' 1 = (μ.2.2.1 408 0).toInt := g'.ag 1 (Nat.le_of_ble_eq_true rfl)
      have n2 : ν' 2 = (μ.2.2.1 404 22).toInt := g'.ag 2 (Nat.le_of_ble_eq_true rfl)
      have n3 : ν' 3 = (μ.2.2.1 404 2).toInt := g'.ag 3 (Nat.le_of_ble_eq_true rfl)
      have n4 : ν' 4 = (μ.2.2.1 404 3).toInt := g'.ag 4 (Nat.le_of_ble_eq_true rfl)
      have n5 : ν' 5 = (μ.2.2.1 404 4).toInt := g'.ag 5 (Nat.le_of_ble_eq_true rfl)
      have n6 : ν' 6 = (μ.2.2.1 404 11).toInt := g'.ag 6 (Nat.le_of_ble_eq_true rfl)
      have n7 : ν' 7 = (μ.2.2.1 404 12).toInt := g'.ag 7 (Nat.le_of_ble_eq_true rfl)
      have n8 : ν' 8 = (μ.2.2.1 404 13).toInt := g'.ag 8 (Nat.le_of_ble_eq_true rfl)
      have n9 : ν' 9 = (μ.2.2.1 404 14).toInt := g'.ag 9 (Nat.le_of_ble_eq_true rfl)
      have n10 : ν' 10 = (μ.2.2.1 404 19).toInt := g'.ag 10 (Nat.le_of_ble_eq_true rfl)
      have n11 : ν' 11 = (μ.2.2.1 404 21).toInt := g'.ag 11 (Nat.le_of_ble_eq_true rfl)
      have n12 : ν' 12 = (μ.2.2.1 406 0).toInt := g'.ag 12 (Nat.le_of_ble_eq_true rfl)
      have n13 : ν' 13 = (μ.2.2.1 406 1).toInt := g'.ag 13 (Nat.le_of_ble_eq_true rfl)
      have n14 : ν' 14 = (μ.2.2.1 406 2).toInt := g'.ag 14 (Nat.le_of_ble_eq_true rfl)
      have n15 : ν' 15 = (μ.2.2.1 406 3).toInt := g'.ag 15 (Nat.le_of_ble_eq_true rfl)
      have n16 : ν' 16 = (μ.2.2.1 407 0).toInt := g'.ag 16 (Nat.le_of_ble_eq_true rfl)
      have n17 : ν' 17 = (μ.2.2.1 407 1).toInt := g'.ag 17 (Nat.le_of_ble_eq_true rfl)
      have n18 : ν' 18 = (μ.2.2.1 407 2).toInt := g'.ag 18 (Nat.le_of_ble_eq_true rfl)
      have n19 : ν' 19 = (μ.2.2.1 407 3).toInt := g'.ag 19 (Nat.le_of_ble_eq_true rfl)
      have sz0 : (μ'.2.2.1 404 2).toInt = ν' 0 + 0 := (g'.fa _ (List.Mem.tail _ (List.Mem.tail _ (List.Mem.head _)))).2
      have sz1 : (μ'.2.2.1 433 0).toInt = (μ.2.2.1 433 0).toInt := by rw [(g'.fr 433 nc_X12_plan_433).1]
      have sz2 : (μ'.2.2.1 433 1).toInt = (μ.2.2.1 433 1).toInt := by rw [(g'.fr 433 nc_X12_plan_433).1]
      have sz3 : (μ'.2.2.1 1 1).toInt = (μ.2.2.1 1 1).toInt := by rw [(g'.fr 1 nc_X12_plan_1).1]
      have sz4 : (μ'.2.2.1 210 0).toInt = (μ.2.2.1 210 0).toInt := by rw [(g'.fr 210 nc_X12_plan_210).1]
      have sz5 : (μ'.2.2.1 307 0).toInt = (μ.2.2.1 307 0).toInt := by rw [(g'.fr 307 nc_X12_plan_307).1]
      have hw' : w.toInt = ν' 0 + 11 := hw
      exact hK _ w μ' ⟨⟨g'.sh, g'.hi, (g'.fl _ (List.Mem.tail _ (List.Mem.tail _ (List.Mem.tail _ (List.Mem.tail _ (List.Mem.head _)))))).2, (g'.fl _ (List.Mem.head _)).2, (g'.fl _ (List.Mem.tail _ (List.Mem.tail _ (List.Mem.tail _ (List.Mem.tail _ (List.Mem.tail _ (List.Mem.head _))))))).2, (g'.fl _ (List.Mem.tail _ (List.Mem.tail _ (List.Mem.tail _ (List.Mem.tail _ (List.Mem.tail _ (List.Mem.tail _ (List.Mem.head _)))))))).2⟩, rfl, by omega, ⟨sz3, sz4, sz5⟩, g'.fr⟩
    rcases List.mem_cons.mp hP with rfl | hP
    · obtain ⟨w, rfl, hw⟩ := r_int g'.gl
      have n0 : ν' 0 = 0 := g'.ag 0 (Nat.le_of_ble_eq_true rfl)
      have n1 : ν' 1 = (μ.2.2.1 408 0).toInt := g'.ag 1 (Nat.le_of_ble_eq_true rfl)
      have n2 : ν' 2 = (μ.2.2.1 404 22).toInt := g'.ag 2 (Nat.le_of_ble_eq_true rfl)
      have n3 : ν' 3 = (μ.2.2.1 404 2).toInt := g'.ag 3 (Nat.le_of_ble_eq_true rfl)
      have n4 : ν' 4 = (μ.2.2.1 404 3).toInt := g'.ag 4 (Nat.le_of_ble_eq_true rfl)
      have n5 : ν' 5 = (μ.2.2.1 404 4).toInt := g'.ag 5 (Nat.le_of_ble_eq_true rfl)
      have n6 : ν' 6 = (μ.2.2.1 404 11).toInt := g'.ag 6 (Nat.le_of_ble_eq_true rfl)
      have n7 : ν' 7 = (μ.2.2.1 404 12).toInt := g'.ag 7 (Nat.le_of_ble_eq_true rfl)
      have n8 : ν' 8 = (μ.2.2.1 404 13).toInt := g'.ag 8 (Nat.le_of_ble_eq_true rfl)
      have n9 : ν' 9 = (μ.2.2.1 404 14).toInt := g'.ag 9 (Nat.le_of_ble_eq_true rfl)
      have n10 : ν' 10 = (μ.2.2.1 404 19).toInt := g'.ag 10 (Nat.le_of_ble_eq_true rfl)
      have n11 : ν' 11 = (μ.2.2.1 404 21).toInt := g'.ag 11 (Nat.le_of_ble_eq_true rfl)
      have n12 : ν' 12 = (μ.2.2.1 406 0).toInt := g'.ag 12 (Nat.le_of_ble_eq_true rfl)
      have n13 : ν' 13 = (μ.2.2.1 406 1).toInt := g'.ag 13 (Nat.le_of_ble_eq_true rfl)
      have n14 : ν' 14 = (μ.2.2.1 406 2).toInt := g'.ag 14 (Nat.le_of_ble_eq_true rfl)
      have n15 : ν' 15 = (μ.2.2.1 406 3).toInt := g'.ag 15 (Nat.le_of_ble_eq_true rfl)
      have n16 : ν' 16 = (μ.2.2.1 407 0).toInt := g'.ag 16 (Nat.le_of_ble_eq_true rfl)
      have n17 : ν' 17 = (μ.2.2.1 407 1).toInt := g'.ag 17 (Nat.le_of_ble_eq_true rfl)
      have n18 : ν' 18 = (μ.2.2.1 407 2).toInt := g'.ag 18 (Nat.le_of_ble_eq_true rfl)
      have n19 : ν' 19 = (μ.2.2.1 407 3).toInt := g'.ag 19 (Nat.le_of_ble_eq_true rfl)
      have sz0 : (μ'.2.2.1 404 2).toInt = ν' 0 + 0 := (g'.fa _ (List.Mem.tail _ (List.Mem.tail _ (List.Mem.head _)))).2
      have sz1 : (μ'.2.2.1 433 0).toInt = (μ.2.2.1 433 0).toInt := by rw [(g'.fr 433 nc_X12_plan_433).1]
      have sz2 : (μ'.2.2.1 433 1).toInt = (μ.2.2.1 433 1).toInt := by rw [(g'.fr 433 nc_X12_plan_433).1]
      have sz3 : (μ'.2.2.1 1 1).toInt = (μ.2.2.1 1 1).toInt := by rw [(g'.fr 1 nc_X12_plan_1).1]
      have sz4 : (μ'.2.2.1 210 0).toInt = (μ.2.2.1 210 0).toInt := by rw [(g'.fr 210 nc_X12_plan_210).1]
      have sz5 : (μ'.2.2.1 307 0).toInt = (μ.2.2.1 307 0).toInt := by rw [(g'.fr 307 nc_X12_plan_307).1]
      have hw' : w.toInt = ν' 0 + 10 := hw
      exact hK _ w μ' ⟨⟨g'.sh, g'.hi, (g'.fl _ (List.Mem.tail _ (List.Mem.tail _ (List.Mem.tail _ (List.Mem.tail _ (List.Mem.head _)))))).2, (g'.fl _ (List.Mem.head _)).2, (g'.fl _ (List.Mem.tail _ (List.Mem.tail _ (List.Mem.tail _ (List.Mem.tail _ (List.Mem.tail _ (List.Mem.head _))))))).2, (g'.fl _ (List.Mem.tail _ (List.Mem.tail _ (List.Mem.tail _ (List.Mem.tail _ (List.Mem.tail _ (List.Mem.tail _ (List.Mem.head _)))))))).2⟩, rfl, by omega, ⟨sz3, sz4, sz5⟩, g'.fr⟩
    rcases List.mem_cons.mp hP with rfl | hP
    · obtain ⟨w, rfl, hw⟩ := r_int g'.gl
      have n0 : ν' 0 = 0 := g'.ag 0 (Nat.le_of_ble_eq_true rfl)
      have n1 : ν' 1 = (μ.2.2.1 408 0).toInt := g'.ag 1 (Nat.le_of_ble_eq_true rfl)
      have n2 : ν' 2 = (μ.2.2.1 404 22).toInt := g'.ag 2 (Nat.le_of_ble_eq_true rfl)
      have n3 : ν' 3 = (μ.2.2.1 404 2).toInt := g'.ag 3 (Nat.le_of_ble_eq_true rfl)
      have n4 : ν' 4 = (μ.2.2.1 404 3).toInt := g'.ag 4 (Nat.le_of_ble_eq_true rfl)
      have n5 : ν' 5 = (μ.2.2.1 404 4).toInt := g'.ag 5 (Nat.le_of_ble_eq_true rfl)
      have n6 : ν' 6 = (μ.2.2.1 404 11).toInt := g'.ag 6 (Nat.le_of_ble_eq_true rfl)
      have n7 : ν' 7 = (μ.2.2.1 404 12).toInt := g'.ag 7 (Nat.le_of_ble_eq_true rfl)
      have n8 : ν' 8 = (μ.2.2.1 404 13).toInt := g'.ag 8 (Nat.le_of_ble_eq_true rfl)
      have n9 : ν' 9 = (μ.2.2.1 404 14).toInt := g'.ag 9 (Nat.le_of_ble_eq_true rfl)
      have n10 : ν' 10 = (μ.2.2.1 404 19).toInt := g'.ag 10 (Nat.le_of_ble_eq_true rfl)
      have n11 : ν' 11 = (μ.2.2.1 404 21).toInt := g'.ag 11 (Nat.le_of_ble_eq_true rfl)
      have n12 : ν' 12 = (μ.2.2.1 406 0).toInt := g'.ag 12 (Nat.le_of_ble_eq_true rfl)
      have n13 : ν' 13 = (μ.2.2.1 406 1).toInt := g'.ag 13 (Nat.le_of_ble_eq_true rfl)
      have n14 : ν' 14 = (μ.2.2.1 406 2).toInt := g'.ag 14 (Nat.le_of_ble_eq_true rfl)
      have n15 : ν' 15 = (μ.2.2.1 406 3).toInt := g'.ag 15 (Nat.le_of_ble_eq_true rfl)
      have n16 : ν' 16 = (μ.2.2.1 407 0).toInt := g'.ag 16 (Nat.le_of_ble_eq_true rfl)
      have n17 : ν' 17 = (μ.2.2.1 407 1).toInt := g'.ag 17 (Nat.le_of_ble_eq_true rfl)
      have n18 : ν' 18 = (μ.2.2.1 407 2).toInt := g'.ag 18 (Nat.le_of_ble_eq_true rfl)
      have n19 : ν' 19 = (μ.2.2.1 407 3).toInt := g'.ag 19 (Nat.le_of_ble_eq_true rfl)
      have sz0 : (μ'.2.2.1 404 2).toInt = ν' 0 + 0 := (g'.fa _ (List.Mem.tail _ (List.Mem.tail _ (List.Mem.head _)))).2
      have sz1 : (μ'.2.2.1 433 0).toInt = (μ.2.2.1 433 0).toInt := by rw [(g'.fr 433 nc_X12_plan_433).1]
      have sz2 : (μ'.2.2.1 433 1).toInt = (μ.2.2.1 433 1).toInt := by rw [(g'.fr 433 nc_X12_plan_433).1]
      have sz3 : (μ'.2.2.1 1 1).toInt = (μ.2.2.1 1 1).toInt := by rw [(g'.fr 1 nc_X12_plan_1).1]
      have sz4 : (μ'.2.2.1 210 0).toInt = (μ.2.2.1 210 0).toInt := by rw [(g'.fr 210 nc_X12_plan_210).1]
      have sz5 : (μ'.2.2.1 307 0).toInt = (μ.2.2.1 307 0).toInt := by rw [(g'.fr 307 nc_X12_plan_307).1]
      have hw' : w.toInt = ν' 0 + 9 := hw
      exact hK _ w μ' ⟨⟨g'.sh, g'.hi, (g'.fl _ (List.Mem.tail _ (List.Mem.tail _ (List.Mem.tail _ (List.Mem.tail _ (List.Mem.head _)))))).2, (g'.fl _ (List.Mem.head _)).2, (g'.fl _ (List.Mem.tail _ (List.Mem.tail _ (List.Mem.tail _ (List.Mem.tail _ (List.Mem.tail _ (List.Mem.head _))))))).2, (g'.fl _ (List.Mem.tail _ (List.Mem.tail _ (List.Mem.tail _ (List.Mem.tail _ (List.Mem.tail _ (List.Mem.tail _ (List.Mem.head _)))))))).2⟩, rfl, by omega, ⟨sz3, sz4, sz5⟩, g'.fr⟩
    rcases List.mem_cons.mp hP with rfl | hP
    · obtain ⟨w, rfl, hw⟩ := r_int g'.gl
      have n0 : ν' 0 = 0 := g'.ag 0 (Nat.le_of_ble_eq_true rfl)
      have n1 : ν' 1 = (μ.2.2.1 408 0).toInt := g'.ag 1 (Nat.le_of_ble_eq_true rfl)
      have n2 : ν' 2 = (μ.2.2.1 404 22).toInt := g'.ag 2 (Nat.le_of_ble_eq_true rfl)
      have n3 : ν' 3 = (μ.2.2.1 404 2).toInt := g'.ag 3 (Nat.le_of_ble_eq_true rfl)
      have n4 : ν' 4 = (μ.2.2.1 404 3).toInt := g'.ag 4 (Nat.le_of_ble_eq_true rfl)
      have n5 : ν' 5 = (μ.2.2.1 404 4).toInt := g'.ag 5 (Nat.le_of_ble_eq_true rfl)
      have n6 : ν' 6 = (μ.2.2.1 404 11).toInt := g'.ag 6 (Nat.le_of_ble_eq_true rfl)
      have n7 : ν' 7 = (μ.2.2.1 404 12).toInt := g'.ag 7 (Nat.le_of_ble_eq_true rfl)
      have n8 : ν' 8 = (μ.2.2.1 404 13).toInt := g'.ag 8 (Nat.le_of_ble_eq_true rfl)
      have n9 : ν' 9 = (μ.2.2.1 404 14).toInt := g'.ag 9 (Nat.le_of_ble_eq_true rfl)
      have n10 : ν' 10 = (μ.2.2.1 404 19).toInt := g'.ag 10 (Nat.le_of_ble_eq_true rfl)
      have n11 : ν' 11 = (μ.2.2.1 404 21).toInt := g'.ag 11 (Nat.le_of_ble_eq_true rfl)
      have n12 : ν' 12 = (μ.2.2.1 406 0).toInt := g'.ag 12 (Nat.le_of_ble_eq_true rfl)
      have n13 : ν' 13 = (μ.2.2.1 406 1).toInt := g'.ag 13 (Nat.le_of_ble_eq_true rfl)
      have n14 : ν' 14 = (μ.2.2.1 406 2).toInt := g'.ag 14 (Nat.le_of_ble_eq_true rfl)
      have n15 : ν' 15 = (μ.2.2.1 406 3).toInt := g'.ag 15 (Nat.le_of_ble_eq_true rfl)
      have n16 : ν' 16 = (μ.2.2.1 407 0).toInt := g'.ag 16 (Nat.le_of_ble_eq_true rfl)
      have n17 : ν' 17 = (μ.2.2.1 407 1).toInt := g'.ag 17 (Nat.le_of_ble_eq_true rfl)
      have n18 : ν' 18 = (μ.2.2.1 407 2).toInt := g'.ag 18 (Nat.le_of_ble_eq_true rfl)
      have n19 : ν' 19 = (μ.2.2.1 407 3).toInt := g'.ag 19 (Nat.le_of_ble_eq_true rfl)
      have sz0 : (μ'.2.2.1 404 2).toInt = ν' 0 + 0 := (g'.fa _ (List.Mem.tail _ (List.Mem.tail _ (List.Mem.head _)))).2
      have sz1 : (μ'.2.2.1 433 0).toInt = (μ.2.2.1 433 0).toInt := by rw [(g'.fr 433 nc_X12_plan_433).1]
      have sz2 : (μ'.2.2.1 433 1).toInt = (μ.2.2.1 433 1).toInt := by rw [(g'.fr 433 nc_X12_plan_433).1]
      have sz3 : (μ'.2.2.1 1 1).toInt = (μ.2.2.1 1 1).toInt := by rw [(g'.fr 1 nc_X12_plan_1).1]
      have sz4 : (μ'.2.2.1 210 0).toInt = (μ.2.2.1 210 0).toInt := by rw [(g'.fr 210 nc_X12_plan_210).1]
      have sz5 : (μ'.2.2.1 307 0).toInt = (μ.2.2.1 307 0).toInt := by rw [(g'.fr 307 nc_X12_plan_307).1]
      have hw' : w.toInt = ν' 0 + 8 := hw
      exact hK _ w μ' ⟨⟨g'.sh, g'.hi, (g'.fl _ (List.Mem.tail _ (List.Mem.tail _ (List.Mem.tail _ (List.Mem.tail _ (List.Mem.head _)))))).2, (g'.fl _ (List.Mem.head _)).2, (g'.fl _ (List.Mem.tail _ (List.Mem.tail _ (List.Mem.tail _ (List.Mem.tail _ (List.Mem.tail _ (List.Mem.head _))))))).2, (g'.fl _ (List.Mem.tail _ (List.Mem.tail _ (List.Mem.tail _ (List.Mem.tail _ (List.Mem.tail _ (List.Mem.tail _ (List.Mem.head _)))))))).2⟩, rfl, by omega, ⟨sz3, sz4, sz5⟩, g'.fr⟩
    rcases List.mem_cons.mp hP with rfl | hP
    · obtain ⟨w, rfl, hw⟩ := r_int g'.gl
      have n0 : ν' 0 = 0 := g'.ag 0 (Nat.le_of_ble_eq_true rfl)
      have n1 : ν' 1 = (μ.2.2.1 408 0).toInt := g'.ag 1 (Nat.le_of_ble_eq_true rfl)
      have n2 : ν' 2 = (μ.2.2.1 404 22).toInt := g'.ag 2 (Nat.le_of_ble_eq_true rfl)
      have n3 : ν' 3 = (μ.2.2.1 404 2).toInt := g'.ag 3 (Nat.le_of_ble_eq_true rfl)
      have n4 : ν' 4 = (μ.2.2.1 404 3).toInt := g'.ag 4 (Nat.le_of_ble_eq_true rfl)
      have n5 : ν' 5 = (μ.2.2.1 404 4).toInt := g'.ag 5 (Nat.le_of_ble_eq_true rfl)
      have n6 : ν' 6 = (μ.2.2.1 404 11).toInt := g'.ag 6 (Nat.le_of_ble_eq_true rfl)
      have n7 : ν' 7 = (μ.2.2.1 404 12).toInt := g'.ag 7 (Nat.le_of_ble_eq_true rfl)
      have n8 : ν' 8 = (μ.2.2.1 404 13).toInt := g'.ag 8 (Nat.le_of_ble_eq_true rfl)
      have n9 : ν' 9 = (μ.2.2.1 404 14).toInt := g'.ag 9 (Nat.le_of_ble_eq_true rfl)
      have n10 : ν' 10 = (μ.2.2.1 404 19).toInt := g'.ag 10 (Nat.le_of_ble_eq_true rfl)
      have n11 : ν' 11 = (μ.2.2.1 404 21).toInt := g'.ag 11 (Nat.le_of_ble_eq_true rfl)
      have n12 : ν' 12 = (μ.2.2.1 406 0).toInt := g'.ag 12 (Nat.le_of_ble_eq_true rfl)
      have n13 : ν' 13 = (μ.2.2.1 406 1).toInt := g'.ag 13 (Nat.le_of_ble_eq_true rfl)
      have n14 : ν' 14 = (μ.2.2.1 406 2).toInt := g'.ag 14 (Nat.le_of_ble_eq_true rfl)
      have n15 : ν' 15 = (μ.2.2.1 406 3).toInt := g'.ag 15 (Nat.le_of_ble_eq_true rfl)
      have n16 : ν' 16 = (μ.2.2.1 407 0).toInt := g'.ag 16 (Nat.le_of_ble_eq_true rfl)
      have n17 : ν' 17 = (μ.2.2.1 407 1).toInt := g'.ag 17 (Nat.le_of_ble_eq_true rfl)
      have n18 : ν' 18 = (μ.2.2.1 407 2).toInt := g'.ag 18 (Nat.le_of_ble_eq_true rfl)
      have n19 : ν' 19 = (μ.2.2.1 407 3).toInt := g'.ag 19 (Nat.le_of_ble_eq_true rfl)
      have sz0 : (μ'.2.2.1 404 2).toInt = ν' 0 + 0 := (g'.fa _ (List.Mem.tail _ (List.Mem.tail _ (List.Mem.head _)))).2
      have sz1 : (μ'.2.2.1 433 0).toInt = (μ.2.2.1 433 0).toInt := by rw [(g'.fr 433 nc_X12_plan_433).1]
      have sz2 : (μ'.2.2.1 433 1).toInt = (μ.2.2.1 433 1).toInt := by rw [(g'.fr 433 nc_X12_plan_433).1]
      have sz3 : (μ'.2.2.1 1 1).toInt = (μ.2.2.1 1 1).toInt := by rw [(g'.fr 1 nc_X12_plan_1).1]
      have sz4 : (μ'.2.2.1 210 0).toInt = (μ.2.2.1 210 0).toInt := by rw [(g'.fr 210 nc_X12_plan_210).1]
      have sz5 : (μ'.2.2.1 307 0).toInt = (μ.2.2.1 307 0).toInt := by rw [(g'.fr 307 nc_X12_plan_307).1]
      have hw' : w.toInt = ν' 0 + 7 := hw
      exact hK _ w μ' ⟨⟨g'.sh, g'.hi, (g'.fl _ (List.Mem.tail _ (List.Mem.tail _ (List.Mem.tail _ (List.Mem.tail _ (List.Mem.head _)))))).2, (g'.fl _ (List.Mem.head _)).2, (g'.fl _ (List.Mem.tail _ (List.Mem.tail _ (List.Mem.tail _ (List.Mem.tail _ (List.Mem.tail _ (List.Mem.head _))))))).2, (g'.fl _ (List.Mem.tail _ (List.Mem.tail _ (List.Mem.tail _ (List.Mem.tail _ (List.Mem.tail _ (List.Mem.tail _ (List.Mem.head _)))))))).2⟩, rfl, by omega, ⟨sz3, sz4, sz5⟩, g'.fr⟩
    rcases List.mem_cons.mp hP with rfl | hP
    · obtain ⟨w, rfl, hw⟩ := r_int g'.gl
      have n0 : ν' 0 = 0 := g'.ag 0 (Nat.le_of_ble_eq_true rfl)
      have n1 : ν' 1 = (μ.2.2.1 408 0).toInt := g'.ag 1 (Nat.le_of_ble_eq_true rfl)
      have n2 : ν' 2 = (μ.2.2.1 404 22).toInt := g'.ag 2 (Nat.le_of_ble_eq_true rfl)
      have n3 : ν' 3 = (μ.2.2.1 404 2).toInt := g'.ag 3 (Nat.le_of_ble_eq_true rfl)
      have n4 : ν' 4 = (μ.2.2.1 404 3).toInt := g'.ag 4 (Nat.le_of_ble_eq_true rfl)
      have n5 : ν' 5 = (μ.2.2.1 404 4).toInt := g'.ag 5 (Nat.le_of_ble_eq_true rfl)
      have n6 : ν' 6 = (μ.2.2.1 404 11).toInt := g'.ag 6 (Nat.le_of_ble_eq_true rfl)
      have n7 : ν' 7 = (μ.2.2.1 404 12).toInt := g'.ag 7 (Nat.le_of_ble_eq_true rfl)
      have n8 : ν' 8 = (μ.2.2.1 404 13).toInt := g'.ag 8 (Nat.le_of_ble_eq_true rfl)
      have n9 : ν' 9 = (μ.2.2.1 404 14).toInt := g'.ag 9 (Nat.le_of_ble_eq_true rfl)
      have n10 : ν' 10 = (μ.2.2.1 404 19).toInt := g'.ag 10 (Nat.le_of_ble_eq_true rfl)
      have n11 : ν' 11 = (μ.2.2.1 404 21).toInt := g'.ag 11 (Nat.le_of_ble_eq_true rfl)
      have n12 : ν' 12 = (μ.2.2.1 406 0).toInt := g'.ag 12 (Nat.le_of_ble_eq_true rfl)
      have n13 : ν' 13 = (μ.2.2.1 406 1).toInt := g'.ag 13 (Nat.le_of_ble_eq_true rfl)
      have n14 : ν' 14 = (μ.2.2.1 406 2).toInt := g'.ag 14 (Nat.le_of_ble_eq_true rfl)
      have n15 : ν' 15 = (μ.2.2.1 406 3).toInt := g'.ag 15 (Nat.le_of_ble_eq_true rfl)
      have n16 : ν' 16 = (μ.2.2.1 407 0).toInt := g'.ag 16 (Nat.le_of_ble_eq_true rfl)
      have n17 : ν' 17 = (μ.2.2.1 407 1).toInt := g'.ag 17 (Nat.le_of_ble_eq_true rfl)
      have n18 : ν' 18 = (μ.2.2.1 407 2).toInt := g'.ag 18 (Nat.le_of_ble_eq_true rfl)
      have n19 : ν' 19 = (μ.2.2.1 407 3).toInt := g'.ag 19 (Nat.le_of_ble_eq_true rfl)
      have sz0 : (μ'.2.2.1 404 2).toInt = ν' 0 + 0 := (g'.fa _ (List.Mem.tail _ (List.Mem.tail _ (List.Mem.head _)))).2
      have sz1 : (μ'.2.2.1 433 0).toInt = (μ.2.2.1 433 0).toInt := by rw [(g'.fr 433 nc_X12_plan_433).1]
      have sz2 : (μ'.2.2.1 433 1).toInt = (μ.2.2.1 433 1).toInt := by rw [(g'.fr 433 nc_X12_plan_433).1]
      have sz3 : (μ'.2.2.1 1 1).toInt = (μ.2.2.1 1 1).toInt := by rw [(g'.fr 1 nc_X12_plan_1).1]
      have sz4 : (μ'.2.2.1 210 0).toInt = (μ.2.2.1 210 0).toInt := by rw [(g'.fr 210 nc_X12_plan_210).1]
      have sz5 : (μ'.2.2.1 307 0).toInt = (μ.2.2.1 307 0).toInt := by rw [(g'.fr 307 nc_X12_plan_307).1]
      have hw' : w.toInt = ν' 0 + 6 := hw
      exact hK _ w μ' ⟨⟨g'.sh, g'.hi, (g'.fl _ (List.Mem.tail _ (List.Mem.tail _ (List.Mem.tail _ (List.Mem.tail _ (List.Mem.head _)))))).2, (g'.fl _ (List.Mem.head _)).2, (g'.fl _ (List.Mem.tail _ (List.Mem.tail _ (List.Mem.tail _ (List.Mem.tail _ (List.Mem.tail _ (List.Mem.head _))))))).2, (g'.fl _ (List.Mem.tail _ (List.Mem.tail _ (List.Mem.tail _ (List.Mem.tail _ (List.Mem.tail _ (List.Mem.tail _ (List.Mem.head _)))))))).2⟩, rfl, by omega, ⟨sz3, sz4, sz5⟩, g'.fr⟩
    rcases List.mem_cons.mp hP with rfl | hP
    · obtain ⟨w, rfl, hw⟩ := r_int g'.gl
      have n0 : ν' 0 = 0 := g'.ag 0 (Nat.le_of_ble_eq_true rfl)
      have n1 : ν' 1 = (μ.2.2.1 408 0).toInt := g'.ag 1 (Nat.le_of_ble_eq_true rfl)
      have n2 : ν' 2 = (μ.2.2.1 404 22).toInt := g'.ag 2 (Nat.le_of_ble_eq_true rfl)
      have n3 : ν' 3 = (μ.2.2.1 404 2).toInt := g'.ag 3 (Nat.le_of_ble_eq_true rfl)
      have n4 : ν' 4 = (μ.2.2.1 404 3).toInt := g'.ag 4 (Nat.le_of_ble_eq_true rfl)
      have n5 : ν' 5 = (μ.2.2.1 404 4).toInt := g'.ag 5 (Nat.le_of_ble_eq_true rfl)
      have n6 : ν' 6 = (μ.2.2.1 404 11).toInt := g'.ag 6 (Nat.le_of_ble_eq_true rfl)
      have n7 : ν' 7 = (μ.2.2.1 404 12).toInt := g'.ag 7 (Nat.le_of_ble_eq_true rfl)
      have n8 : ν' 8 = (μ.2.2.1 404 13).toInt := g'.ag 8 (Nat.le_of_ble_eq_true rfl)
      have n9 : ν' 9 = (μ.2.2.1 404 14).toInt := g'.ag 9 (Nat.le_of_ble_eq_true rfl)
      have n10 : ν' 10 = (μ.2.2.1 404 19).toInt := g'.ag 10 (Nat.le_of_ble_eq_true rfl)
      have n11 : ν' 11 = (μ.2.2.1 404 21).toInt := g'.ag 11 (Nat.le_of_ble_eq_true rfl)
      have n12 : ν' 12 = (μ.2.2.1 406 0).toInt := g'.ag 12 (Nat.le_of_ble_eq_true rfl)
      have n13 : ν' 13 = (μ.2.2.1 406 1).toInt := g'.ag 13 (Nat.le_of_ble_eq_true rfl)
      have n14 : ν' 14 = (μ.2.2.1 406 2).toInt := g'.ag 14 (Nat.le_of_ble_eq_true rfl)
      have n15 : ν' 15 = (μ.2.2.1 406 3).toInt := g'.ag 15 (Nat.le_of_ble_eq_true rfl)
      have n16 : ν' 16 = (μ.2.2.1 407 0).toInt := g'.ag 16 (Nat.le_of_ble_eq_true rfl)
      have n17 : ν' 17 = (μ.2.2.1 407 1).toInt := g'.ag 17 (Nat.le_of_ble_eq_true rfl)
      have n18 : ν' 18 = (μ.2.2.1 407 2).toInt := g'.ag 18 (Nat.le_of_ble_eq_true rfl)
      have n19 : ν' 19 = (μ.2.2.1 407 3).toInt := g'.ag 19 (Nat.le_of_ble_eq_true rfl)
      have sz0 : (μ'.2.2.1 404 2).toInt = ν' 0 + 0 := (g'.fa _ (List.Mem.tail _ (List.Mem.tail _ (List.Mem.head _)))).2
      have sz1 : (μ'.2.2.1 433 0).toInt = (μ.2.2.1 433 0).toInt := by rw [(g'.fr 433 nc_X12_plan_433).1]
      have sz2 : (μ'.2.2.1 433 1).toInt = (μ.2.2.1 433 1).toInt := by rw [(g'.fr 433 nc_X12_plan_433).1]
      have sz3 : (μ'.2.2.1 1 1).toInt = (μ.2.2.1 1 1).toInt := by rw [(g'.fr 1 nc_X12_plan_1).1]
      have sz4 : (μ'.2.2.1 210 0).toInt = (μ.2.2.1 210 0).toInt := by rw [(g'.fr 210 nc_X12_plan_210).1]
      have sz5 : (μ'.2.2.1 307 0).toInt = (μ.2.2.1 307 0).toInt := by rw [(g'.fr 307 nc_X12_plan_307).1]
      have hw' : w.toInt = ν' 0 + 5 := hw
      exact hK _ w μ' ⟨⟨g'.sh, g'.hi, (g'.fl _ (List.Mem.tail _ (List.Mem.tail _ (List.Mem.tail _ (List.Mem.tail _ (List.Mem.head _)))))).2, (g'.fl _ (List.Mem.head _)).2, (g'.fl _ (List.Mem.tail _ (List.Mem.tail _ (List.Mem.tail _ (List.Mem.tail _ (List.Mem.tail _ (List.Mem.head _))))))).2, (g'.fl _ (List.Mem.tail _ (List.Mem.tail _ (List.Mem.tail _ (List.Mem.tail _ (List.Mem.tail _ (List.Mem.tail _ (List.Mem.head _)))))))).2⟩, rfl, by omega, ⟨sz3, sz4, sz5⟩, g'.fr⟩
    rcases List.mem_cons.mp hP with rfl | hP
    · obtain ⟨w, rfl, hw⟩ := r_int g'.gl
      have n0 : ν' 0 = 0 := g'.ag 0 (Nat.le_of_ble_eq_true rfl)
      have n1 : ν' 1 = (μ.2.2.1 408 0).toInt := g'.ag 1 (Nat.le_of_ble_eq_true rfl)
      have n2 : ν' 2 = (μ.2.2.1 404 22).toInt := g'.ag 2 (Nat.le_of_ble_eq_true rfl)
      have n3 : ν' 3 = (μ.2.2.1 404 2).toInt := g'.ag 3 (Nat.le_of_ble_eq_true rfl)
      have n4 : ν' 4 = (μ.2.2.1 404 3).toInt := g'.ag 4 (Nat.le_of_ble_eq_true rfl)
      have n5 : ν' 5 = (μ.2.2.1 404 4).toInt := g'.ag 5 (Nat.le_of_ble_eq_true rfl)
      have n6 : ν' 6 = (μ.2.2.1 404 11).toInt := g'.ag 6 (Nat.le_of_ble_eq_true rfl)
      have n7 : ν' 7 = (μ.2.2.1 404 12).toInt := g'.ag 7 (Nat.le_of_ble_eq_true rfl)
      have n8 : ν' 8 = (μ.2.2.1 404 13).toInt := g'.ag 8 (Nat.le_of_ble_eq_true rfl)
      have n9 : ν' 9 = (μ.2.2.1 404 14).toInt := g'.ag 9 (Nat.le_of_ble_eq_true rfl)
      have n10 : ν' 10 = (μ.2.2.1 404 19).toInt := g'.ag 10 (Nat.le_of_ble_eq_true rfl)
      have n11 : ν' 11 = (μ.2.2.1 404 21).toInt := g'.ag 11 (Nat.le_of_ble_eq_true rfl)
      have n12 : ν' 12 = (μ.2.2.1 406 0).toInt := g'.ag 12 (Nat.le_of_ble_eq_true rfl)
      have n13 : ν' 13 = (μ.2.2.1 406 1).toInt := g'.ag 13 (Nat.le_of_ble_eq_true rfl)
      have n14 : ν' 14 = (μ.2.2.1 406 2).toInt := g'.ag 14 (Nat.le_of_ble_eq_true rfl)
      have n15 : ν' 15 = (μ.2.2.1 406 3).toInt := g'.ag 15 (Nat.le_of_ble_eq_true rfl)
      have n16 : ν' 16 = (μ.2.2.1 407 0).toInt := g'.ag 16 (Nat.le_of_ble_eq_true rfl)
      have n17 : ν' 17 = (μ.2.2.1 407 1).toInt := g'.ag 17 (Nat.le_of_ble_eq_true rfl)
      have n18 : ν' 18 = (μ.2.2.1 407 2).toInt := g'.ag 18 (Nat.le_of_ble_eq_true rfl)
      have n19 : ν' 19 = (μ.2.2.1 407 3).toInt := g'.ag 19 (Nat.le_of_ble_eq_true rfl)
      have sz0 : (μ'.2.2.1 404 2).toInt = ν' 0 + 0 := (g'.fa _ (List.Mem.tail _ (List.Mem.tail _ (List.Mem.head _)))).2
      have sz1 : (μ'.2.2.1 433 0).toInt = (μ.2.2.1 433 0).toInt := by rw [(g'.fr 433 nc_X12_plan_433).1]
      have sz2 : (μ'.2.2.1 433 1).toInt = (μ.2.2.1 433 1).toInt := by rw [(g'.fr 433 nc_X12_plan_433).1]
      have sz3 : (μ'.2.2.1 1 1).toInt = (μ.2.2.1 1 1).toInt := by rw [(g'.fr 1 nc_X12_plan_1).1]
      have sz4 : (μ'.2.2.1 210 0).toInt = (μ.2.2.1 210 0).toInt := by rw [(g'.fr 210 nc_X12_plan_210).1]
      have sz5 : (μ'.2.2.1 307 0).toInt = (μ.2.2.1 307 0).toInt := by rw [(g'.fr 307 nc_X12_plan_307).1]
      have hw' : w.toInt = ν' 0 + 4 := hw
      exact hK _ w μ' ⟨⟨g'.sh, g'.hi, (g'.fl _ (List.Mem.tail _ (List.Mem.tail _ (List.Mem.tail _ (List.Mem.tail _ (List.Mem.head _)))))).2, (g'.fl _ (List.Mem.head _)).2, (g'.fl _ (List.Mem.tail _ (List.Mem.tail _ (List.Mem.tail _ (List.Mem.tail _ (List.Mem.tail _ (List.Mem.head _))))))).2, (g'.fl _ (List.Mem.tail _ (List.Mem.tail _ (List.Mem.tail _ (List.Mem.tail _ (List.Mem.tail _ (List.Mem.tail _ (List.Mem.head _)))))))).2⟩, rfl, by omega, ⟨sz3, sz4, sz5⟩, g'.fr⟩
    rcases List.mem_cons.mp hP with rfl | hP
    · obtain ⟨w, rfl, hw⟩ := r_int g'.gl
      have n0 : ν' 0 = 0 := g'.ag 0 (Nat.le_of_ble_eq_true rfl)
      have n1 : ν' 1 = (μ.2.2.1 408 0).toInt := g'.ag 1 (Nat.le_of_ble_eq_true rfl)
      have n2 : ν' 2 = (μ.2.2.1 404 22).toInt := g'.ag 2 (Nat.le_of_ble_eq_true rfl)
      have n3 : ν' 3 = (μ.2.2.1 404 2).toInt := g'.ag 3 (Nat.le_of_ble_eq_true rfl)
      have n4 : ν' 4 = (μ.2.2.1 404 3).toInt := g'.ag 4 (Nat.le_of_ble_eq_true rfl)
      have n5 : ν' 5 = (μ.2.2.1 404 4).toInt := g'.ag 5 (Nat.le_of_ble_eq_true rfl)
      have n6 : ν' 6 = (μ.2.2.1 404 11).toInt := g'.ag 6 (Nat.le_of_ble_eq_true rfl)
      have n7 : ν' 7 = (μ.2.2.1 404 12).toInt := g'.ag 7 (Nat.le_of_ble_eq_true rfl)
      have n8 : ν' 8 = (μ.2.2.1 404 13).toInt := g'.ag 8 (Nat.le_of_ble_eq_true rfl)
      have n9 : ν' 9 = (μ.2.2.1 404 14).toInt := g'.ag 9 (Nat.le_of_ble_eq_true rfl)
      have n10 : ν' 10 = (μ.2.2.1 404 19).toInt := g'.ag 10 (Nat.le_of_ble_eq_true rfl)
      have n11 : ν' 11 = (μ.2.2.1 404 21).toInt := g'.ag 11 (Nat.le_of_ble_eq_true rfl)
      have n12 : ν' 12 = (μ.2.2.1 406 0).toInt := g'.ag 12 (Nat.le_of_ble_eq_true rfl)
      have n13 : ν' 13 = (μ.2.2.1 406 1).toInt := g'.ag 13 (Nat.le_of_ble_eq_true rfl)
      have n14 : ν' 14 = (μ.2.2.1 406 2).toInt := g'.ag 14 (Nat.le_of_ble_eq_true rfl)
      have n15 : ν' 15 = (μ.2.2.1 406 3).toInt := g'.ag 15 (Nat.le_of_ble_eq_true rfl)
      have n16 : ν' 16 = (μ.2.2.1 407 0).toInt := g'.ag 16 (Nat.le_of_ble_eq_true rfl)
      have n17 : ν' 17 = (μ.2.2.1 407 1).toInt := g'.ag 17 (Nat.le_of_ble_eq_true rfl)
      have n18 : ν' 18 = (μ.2.2.1 407 2).toInt := g'.ag 18 (Nat.le_of_ble_eq_true rfl)
      have n19 : ν' 19 = (μ.2.2.1 407 3).toInt := g'.ag 19 (Nat.le_of_ble_eq_true rfl)
      have sz0 : (μ'.2.2.1 404 2).toInt = ν' 0 + 0 := (g'.fa _ (List.Mem.tail _ (List.Mem.tail _ (List.Mem.head _)))).2
      have sz1 : (μ'.2.2.1 433 0).toInt = (μ.2.2.1 433 0).toInt := by rw [(g'.fr 433 nc_X12_plan_433).1]
      have sz2 : (μ'.2.2.1 433 1).toInt = (μ.2.2.1 433 1).toInt := by rw [(g'.fr 433 nc_X12_plan_433).1]
      have sz3 : (μ'.2.2.1 1 1).toInt = (μ.2.2.1 1 1).toInt := by rw [(g'.fr 1 nc_X12_plan_1).1]
      have sz4 : (μ'.2.2.1 210 0).toInt = (μ.2.2.1 210 0).toInt := by rw [(g'.fr 210 nc_X12_plan_210).1]
      have sz5 : (μ'.2.2.1 307 0).toInt = (μ.2.2.1 307 0).toInt := by rw [(g'.fr 307 nc_X12_plan_307).1]
      have hw' : w.toInt = ν' 0 + 3 := hw
      exact hK _ w μ' ⟨⟨g'.sh, g'.hi, (g'.fl _ (List.Mem.tail _ (List.Mem.tail _ (List.Mem.tail _ (List.Mem.tail _ (List.Mem.head _)))))).2, (g'.fl _ (List.Mem.head _)).2, (g'.fl _ (List.Mem.tail _ (List.Mem.tail _ (List.Mem.tail _ (List.Mem.tail _ (List.Mem.tail _ (List.Mem.head _))))))).2, (g'.fl _ (List.Mem.tail _ (List.Mem.tail _ (List.Mem.tail _ (List.Mem.tail _ (List.Mem.tail _ (List.Mem.tail _ (List.Mem.head _)))))))).2⟩, rfl, by omega, ⟨sz3, sz4, sz5⟩, g'.fr⟩
    rcases List.mem_cons.mp hP with rfl | hP
    · obtain ⟨w, rfl, hw⟩ := r_int g'.gl
      have n0 : ν' 0 = 0 := g'.ag 0 (Nat.le_of_ble_eq_true rfl)
      have n1 : ν' 1 = (μ.2.2.1 408 0).toInt := g'.ag 1 (Nat.le_of_ble_eq_true rfl)
      have n2 : ν' 2 = (μ.2.2.1 404 22).toInt := g'.ag 2 (Nat.le_of_ble_eq_true rfl)
      have n3 : ν' 3 = (μ.2.2.1 404 2).toInt := g'.ag 3 (Nat.le_of_ble_eq_true rfl)
      have n4 : ν' 4 = (μ.2.2.1 404 3).toInt := g'.ag 4 (Nat.le_of_ble_eq_true rfl)
      have n5 : ν' 5 = (μ.2.2.1 404 4).toInt := g'.ag 5 (Nat.le_of_ble_eq_true rfl)
      have n6 : ν' 6 = (μ.2.2.1 404 11).toInt := g'.ag 6 (Nat.le_of_ble_eq_true rfl)
      have n7 : ν' 7 = (μ.2.2.1 404 12).toInt := g'.ag 7 (Nat.le_of_ble_eq_true rfl)
      have n8 : ν' 8 = (μ.2.2.1 404 13).toInt := g'.ag 8 (Nat.le_of_ble_eq_true rfl)
      have n9 : ν' 9 = (μ.2.2.1 404 14).toInt := g'.ag 9 (Nat.le_of_ble_eq_true rfl)
      have n10 : ν' 10 = (μ.2.2.1 404 19).toInt := g'.ag 10 (Nat.le_of_ble_eq_true rfl)
      have n11 : ν' 11 = (μ.2.2.1 404 21).toInt := g'.ag 11 (Nat.le_of_ble_eq_true rfl)
      have n12 : ν' 12 = (μ.2.2.1 406 0).toInt := g'.ag 12 (Nat.le_of_ble_eq_true rfl)
      have n13 : ν' 13 = (μ.2.2.1 406 1).toInt := g'.ag 13 (Nat.le_of_ble_eq_true rfl)
      have n14 : ν' 14 = (μ.2.2.1 406 2).toInt := g'.ag 14 (Nat.le_of_ble_eq_true rfl)
      have n15 : ν' 15 = (μ.2.2.1 406 3).toInt := g'.ag 15 (Nat.le_of_ble_eq_true rfl)
      have n16 : ν' 16 = (μ.2.2.1 407 0).toInt := g'.ag 16 (Nat.le_of_ble_eq_true rfl)
      have n17 : ν' 17 = (μ.2.2.1 407 1).toInt := g'.ag 17 (Nat.le_of_ble_eq_true rfl)
      have n18 : ν' 18 = (μ.2.2.1 407 2).toInt := g'.ag 18 (Nat.le_of_ble_eq_true rfl)
      have n19 : ν' 19 = (μ.2.2.1 407 3).toInt := g'.ag 19 (Nat.le_of_ble_eq_true rfl)
      have sz0 : (μ'.2.2.1 404 2).toInt = ν' 0 + 0 := (g'.fa _ (List.Mem.tail _ (List.Mem.tail _ (List.Mem.head _)))).2
      have sz1 : (μ'.2.2.1 433 0).toInt = (μ.2.2.1 433 0).toInt := by rw [(g'.fr 433 nc_X12_plan_433).1]
      have sz2 : (μ'.2.2.1 433 1).toInt = (μ.2.2.1 433 1).toInt := by rw [(g'.fr 433 nc_X12_plan_433).1]
      have sz3 : (μ'.2.2.1 1 1).toInt = (μ.2.2.1 1 1).toInt := by rw [(g'.fr 1 nc_X12_plan_1).1]
      have sz4 : (μ'.2.2.1 210 0).toInt = (μ.2.2.1 210 0).toInt := by rw [(g'.fr 210 nc_X12_plan_210).1]
      have sz5 : (μ'.2.2.1 307 0).toInt = (μ.2.2.1 307 0).toInt := by rw [(g'.fr 307 nc_X12_plan_307).1]
      have hw' : w.toInt = ν' 0 + 2 := hw
      exact hK _ w μ' ⟨⟨g'.sh, g'.hi, (g'.fl _ (List.Mem.tail _ (List.Mem.tail _ (List.Mem.tail _ (List.Mem.tail _ (List.Mem.head _)))))).2, (g'.fl _ (List.Mem.head _)).2, (g'.fl _ (List.Mem.tail _ (List.Mem.tail _ (List.Mem.tail _ (List.Mem.tail _ (List.Mem.tail _ (List.Mem.head _))))))).2, (g'.fl _ (List.Mem.tail _ (List.Mem.tail _ (List.Mem.tail _ (List.Mem.tail _ (List.Mem.tail _ (List.Mem.tail _ (List.Mem.head _)))))))).2⟩, rfl, by omega, ⟨sz3, sz4, sz5⟩, g'.fr⟩
    rcases List.mem_cons.mp hP with rfl | hP
    · obtain ⟨w, rfl, hw⟩ := r_int g'.gl
      have n0 : ν' 0 = 0 := g'.ag 0 (Nat.le_of_ble_eq_true rfl)
      have n1 : ν' 1 = (μ.2.2.1 408 0).toInt := g'.ag 1 (Nat.le_of_ble_eq_true rfl)
      have n2 : ν' 2 = (μ.2.2.1 404 22).toInt := g'.ag 2 (Nat.le_of_ble_eq_true rfl)
      have n3 : ν' 3 = (μ.2.2.1 404 2).toInt := g'.ag 3 (Nat.le_of_ble_eq_true rfl)
      have n4 : ν' 4 = (μ.2.2.1 404 3).toInt := g'.ag 4 (Nat.le_of_ble_eq_true rfl)
      have n5 : ν' 5 = (μ.2.2.1 404 4).toInt := g'.ag 5 (Nat.le_of_ble_eq_true rfl)
      have n6 : ν' 6 = (μ.2.2.1 404 11).toInt := g'.ag 6 (Nat.le_of_ble_eq_true rfl)
      have n7 : ν' 7 = (μ.2.2.1 404 12).toInt := g'.ag 7 (Nat.le_of_ble_eq_true rfl)
      have n8 : ν' 8 = (μ.2.2.1 404 13).toInt := g'.ag 8 (Nat.le_of_ble_eq_true rfl)
      have n9 : ν' 9 = (μ.2.2.1 404 14).toInt := g'.ag 9 (Nat.le_of_ble_eq_true rfl)
      have n10 : ν' 10 = (μ.2.2.1 404 19).toInt := g'.ag 10 (Nat.le_of_ble_eq_true rfl)
      have n11 : ν' 11 = (μ.2.2.1 404 21).toInt := g'.ag 11 (Nat.le_of_ble_eq_true rfl)
      have n12 : ν' 12 = (μ.2.2.1 406 0).toInt := g'.ag 12 (Nat.le_of_ble_eq_true rfl)
      have n13 : ν' 13 = (μ.2.2.1 406 1).toInt := g'.ag 13 (Nat.le_of_ble_eq_true rfl)
      have n14 : ν' 14 = (μ.2.2.1 406 2).toInt := g'.ag 14 (Nat.le_of_ble_eq_true rfl)
      have n15 : ν' 15 = (μ.2.2.1 406 3).toInt := g'.ag 15 (Nat.le_of_ble_eq_true rfl)
      have n16 : ν' 16 = (μ.2.2.1 407 0).toInt := g'.ag 16 (Nat.le_of_ble_eq_true rfl)
      have n17 : ν' 17 = (μ.2.2.1 407 1).toInt := g'.ag 17 (Nat.le_of_ble_eq_true rfl)
      have n18 : ν' 18 = (μ.2.2.1 407 2).toInt := g'.ag 18 (Nat.le_of_ble_eq_true rfl)
      have n19 : ν' 19 = (μ.2.2.1 407 3).toInt := g'.ag 19 (Nat.le_of_ble_eq_true rfl)
      have sz0 : (μ'.2.2.1 404 2).toInt = ν' 0 + 0 := (g'.fa _ (List.Mem.tail _ (List.Mem.tail _ (List.Mem.head _)))).2
      have sz1 : (μ'.2.2.1 433 0).toInt = (μ.2.2.1 433 0).toInt := by rw [(g'.fr 433 nc_X12_plan_433).1]
      have sz2 : (μ'.2.2.1 433 1).toInt = (μ.2.2.1 433 1).toInt := by rw [(g'.fr 433 nc_X12_plan_433).1]
      have sz3 : (μ'.2.2.1 1 1).toInt = (μ.2.2.1 1 1).toInt := by rw [(g'.fr 1 nc_X12_plan_1).1]
      have sz4 : (μ'.2.2.1 210 0).toInt = (μ.2.2.1 210 0).toInt := by rw [(g'.fr 210 nc_X12_plan_210).1]
      have sz5 : (μ'.2.2.1 307 0).toInt = (μ.2.2.1 307 0).toInt := by rw [(g'.fr 307 nc_X12_plan_307).1]
      have hw' : w.toInt = ν' 0 + 1 := hw
      exact hK _ w μ' ⟨⟨g'.sh, g'.hi, (g'.fl _ (List.Mem.tail _ (List.Mem.tail _ (List.Mem.tail _ (List.Mem.tail _ (List.Mem.head _)))))).2, (g'.fl _ (List.Mem.head _)).2, (g'.fl _ (List.Mem.tail _ (List.Mem.tail _ (List.Mem.tail _ (List.Mem.tail _ (List.Mem.tail _ (List.Mem.head _))))))).2, (g'.fl _ (List.Mem.tail _ (List.Mem.tail _ (List.Mem.tail _ (List.Mem.tail _ (List.Mem.tail _ (List.Mem.tail _ (List.Mem.head _)))))))).2⟩, rfl, by omega, ⟨sz3, sz4, sz5⟩, g'.fr⟩
    rcases List.mem_cons.mp hP with rfl | hP
    · obtain ⟨w, rfl, hw⟩ := r_int g'.gl
      have n0 : ν' 0 = 0 := g'.ag 0 (Nat.le_of_ble_eq_true rfl)
      have n1 : ν' 1 = (μ.2.2.1 408 0).toInt := g'.ag 1 (Nat.le_of_ble_eq_true rfl)
      have n2 : ν' 2 = (μ.2.2.1 404 22).toInt := g'.ag 2 (Nat.le_of_ble_eq_true rfl)
      have n3 : ν' 3 = (μ.2.2.1 404 2).toInt := g'.ag 3 (Nat.le_of_ble_eq_true rfl)
      have n4 : ν' 4 = (μ.2.2.1 404 3).toInt := g'.ag 4 (Nat.le_of_ble_eq_true rfl)
      have n5 : ν' 5 = (μ.2.2.1 404 4).toInt := g'.ag 5 (Nat.le_of_ble_eq_true rfl)
      have n6 : ν' 6 = (μ.2.2.1 404 11).toInt := g'.ag 6 (Nat.le_of_ble_eq_true rfl)
      have n7 : ν' 7 = (μ.2.2.1 404 12).toInt := g'.ag 7 (Nat.le_of_ble_eq_true rfl)
      have n8 : ν' 8 = (μ.2.2.1 404 13).toInt := g'.ag 8 (Nat.le_of_ble_eq_true rfl)
      have n9 : ν' 9 = (μ.2.2.1 404 14).toInt := g'.ag 9 (Nat.le_of_ble_eq_true rfl)
      have n10 : ν' 10 = (μ.2.2.1 404 19).toInt := g'.ag 10 (Nat.le_of_ble_eq_true rfl)
      have n11 : ν' 11 = (μ.2.2.1 404 21).toInt := g'.ag 11 (Nat.le_of_ble_eq_true rfl)
      have n12 : ν' 12 = (μ.2.2.1 406 0).toInt := g'.ag 12 (Nat.le_of_ble_eq_true rfl)
      have n13 : ν' 13 = (μ.2.2.1 406 1).toInt := g'.ag 13 (Nat.le_of_ble_eq_true rfl)
      have n14 : ν' 14 = (μ.2.2.1 406 2).toInt := g'.ag 14 (Nat.le_of_ble_eq_true rfl)
      have n15 : ν' 15 = (μ.2.2.1 406 3).toInt := g'.ag 15 (Nat.le_of_ble_eq_true rfl)
      have n16 : ν' 16 = (μ.2.2.1 407 0).toInt := g'.ag 16 (Nat.le_of_ble_eq_true rfl)
      have n17 : ν' 17 = (μ.2.2.1 407 1).toInt := g'.ag 17 (Nat.le_of_ble_eq_true rfl)
      have n18 : ν' 18 = (μ.2.2.1 407 2).toInt := g'.ag 18 (Nat.le_of_ble_eq_true rfl)
      have n19 : ν' 19 = (μ.2.2.1 407 3).toInt := g'.ag 19 (Nat.le_of_ble_eq_true rfl)
      have sz0 : (μ'.2.2.1 404 2).toInt = ν' 0 + 0 := (g'.fa _ (List.Mem.tail _ (List.Mem.tail _ (List.Mem.head _)))).2
      have sz1 : (μ'.2.2.1 433 0).toInt = (μ.2.2.1 433 0).toInt := by rw [(g'.fr 433 nc_X12_plan_433).1]
      have sz2 : (μ'.2.2.1 433 1).toInt = (μ.2.2.1 433 1).toInt := by rw [(g'.fr 433 nc_X12_plan_433).1]
      have sz3 : (μ'.2.2.1 1 1).toInt = (μ.2.2.1 1 1).toInt := by rw [(g'.fr 1 nc_X12_plan_1).1]
      have sz4 : (μ'.2.2.1 210 0).toInt = (μ.2.2.1 210 0).toInt := by rw [(g'.fr 210 nc_X12_plan_210).1]
      have sz5 : (μ'.2.2.1 307 0).toInt = (μ.2.2.1 307 0).toInt := by rw [(g'.fr 307 nc_X12_plan_307).1]
      have hw' : w.toInt = ν' 0 + 0 := hw
      exact hK _ w μ' ⟨⟨g'.sh, g'.hi, (g'.fl _ (List.Mem.tail _ (List.Mem.tail _ (List.Mem.tail _ (List.Mem.tail _ (List.Mem.head _)))))).2, (g'.fl _ (List.Mem.head _)).2, (g'.fl _ (List.Mem.tail _ (List.Mem.tail _ (List.Mem.tail _ (List.Mem.tail _ (List.Mem.tail _ (List.Mem.head _))))))).2, (g'.fl _ (List.Mem.tail _ (List.Mem.tail _ (List.Mem.tail _ (List.Mem.tail _ (List.Mem.tail _ (List.Mem.tail _ (List.Mem.head _)))))))).2⟩, rfl, by omega, ⟨sz3, sz4, sz5⟩, g'.fr⟩
    exact absurd hP List.not_mem_nil
abbrev ck_X12_restore (a1 : Int32) (μ : dw_S) (r : Option Value) (w : Int32) (μ' : dw_S) : Prop := (INV μ') ∧ (r = some (.int w)) ∧ (((1 < a1.toInt ∧ w.toInt = 0) ∨ (a1.toInt < 0 ∧ w.toInt = 0) ∨ (a1.toInt = 0 ∧ w.toInt = (μ.2.2.1 433 0).toInt) ∨ (a1.toInt = 1 ∧ w.toInt = (μ.2.2.1 433 1).toInt)) ∧ (μ'.2.2.1 404 2).toInt = (μ.2.2.1 404 2).toInt ∧ (μ'.2.2.1 433 0).toInt = (μ.2.2.1 433 0).toInt ∧ (μ'.2.2.1 433 1).toInt = (μ.2.2.1 433 1).toInt) ∧ ((μ'.2.2.1 1 1).toInt = (μ.2.2.1 1 1).toInt ∧ (μ'.2.2.1 210 0).toInt = (μ.2.2.1 210 0).toInt ∧ (μ'.2.2.1 307 0).toInt = (μ.2.2.1 307 0).toInt) ∧ (∀ a, a ∉ [404, 406] → μ'.2.2.1 a = μ.2.2.1 a ∧ μ'.2.2.2 a = μ.2.2.2 a)
theorem nc_X12_restore_433 : 433 ∉ ([404, 406] : List Nat) := by decide
theorem nc_X12_restore_1 : 1 ∉ ([404, 406] : List Nat) := by decide
theorem nc_X12_restore_210 : 210 ∉ ([404, 406] : List Nat) := by decide
theorem nc_X12_restore_307 : 307 ∉ ([404, 406] : List Nat) := by decide
theorem cl_X12_restore {μ : dw_S} {K : dw_K} {a1 : Int32} (hI : INV μ) (hK : ∀ (r : Option Value) (w : Int32) (μ' : dw_S), ck_X12_restore a1 μ r w μ' → K r μ') : t_X12_restore [.ref 404, .int a1] μ K := by
  have h_406_0 := hI.2.1 406 0
  rw [sgc_3] at h_406_0
  have h_406_1 := hI.2.1 406 1
  rw [sgc_4] at h_406_1
  have h_406_2 := hI.2.1 406 2
  rw [sgc_5] at h_406_2
  have h_406_3 := hI.2.1 406 3
  rw [sgc_6] at h_406_3
  have h_433_0 := hI.2.1 433 0
  rw [sgc_22] at h_433_0
  have h_433_1 := hI.2.1 433 1
  rw [sgc_23] at h_433_1
  have h_404_2 := hI.2.1 404 2
  rw [sgc_8] at h_404_2
  refine al_364 349 (by decide) (fun s => [(0 : Int), (a1.toInt : Int), ((μ.2.2.1 406 0).toInt : Int), ((μ.2.2.1 406 1).toInt : Int), ((μ.2.2.1 406 2).toInt : Int), ((μ.2.2.1 406 3).toInt : Int), ((μ.2.2.1 433 0).toInt : Int), ((μ.2.2.1 433 1).toInt : Int), ((μ.2.2.1 404 2).toInt : Int)].getD s (0 : Int)) [.ref 404, .int a1] μ K ⟨hI.1, hI.2.1, fun _ _ => ⟨rfl, rfl⟩, rfl, Nat.le_refl _, Nat.le_of_ble_eq_true rfl, fun _ _ => rfl, ?_, fun q hq => absurd hq List.not_mem_nil, ?_, trivial, ?_, ?_⟩ ?_
  · exact iv2_ok (iv := (in_349).pre.iv) (vs := [(0 : Int), (a1.toInt : Int), ((μ.2.2.1 406 0).toInt : Int), ((μ.2.2.1 406 1).toInt : Int), ((μ.2.2.1 406 2).toInt : Int), ((μ.2.2.1 406 3).toInt : Int), ((μ.2.2.1 433 0).toInt : Int), ((μ.2.2.1 433 1).toInt : Int), ((μ.2.2.1 404 2).toInt : Int)]) ⟨⟨Int.le_refl 0, Int.le_refl 0⟩, ⟨dx_b1 _, dx_b2 _⟩, h_406_0, h_406_1, h_406_2, h_406_3, h_433_0, h_433_1, h_404_2, trivial⟩
  · exact ⟨⟨404, List.Mem.head _, rfl⟩, ⟨Nat.le_of_ble_eq_true rfl, a1, rfl, (Int.add_zero _).symm⟩, trivial⟩
  · exact dx_aL.all (l := (in_349).pre.fa) ⟨⟨Nat.le_of_ble_eq_true rfl, (Int.add_zero _).symm⟩, ⟨Nat.le_of_ble_eq_true rfl, (Int.add_zero _).symm⟩, ⟨Nat.le_of_ble_eq_true rfl, (Int.add_zero _).symm⟩, ⟨Nat.le_of_ble_eq_true rfl, (Int.add_zero _).symm⟩, ⟨Nat.le_of_ble_eq_true rfl, (Int.add_zero _).symm⟩, ⟨Nat.le_of_ble_eq_true rfl, (Int.add_zero _).symm⟩, ⟨Nat.le_of_ble_eq_true rfl, (Int.add_zero _).symm⟩, trivial⟩
  · exact dx_aL.all (l := (in_349).pre.fl) ⟨⟨Nat.le_of_ble_eq_true rfl, hI.2.2.1⟩, ⟨Nat.le_of_ble_eq_true rfl, hI.2.2.2.1⟩, ⟨Nat.le_of_ble_eq_true rfl, hI.2.2.2.2.1⟩, ⟨Nat.le_of_ble_eq_true rfl, hI.2.2.2.2.2⟩, trivial⟩
  · intro r μ' ν' P hP g'
    rcases List.mem_cons.mp hP with rfl | hP
    · obtain ⟨w, rfl, hw⟩ := r_int g'.gl
      have n0 : ν' 0 = 0 := g'.ag 0 (Nat.le_of_ble_eq_true rfl)
      have n1 : ν' 1 = a1.toInt := g'.ag 1 (Nat.le_of_ble_eq_true rfl)
      have n2 : ν' 2 = (μ.2.2.1 406 0).toInt := g'.ag 2 (Nat.le_of_ble_eq_true rfl)
      have n3 : ν' 3 = (μ.2.2.1 406 1).toInt := g'.ag 3 (Nat.le_of_ble_eq_true rfl)
      have n4 : ν' 4 = (μ.2.2.1 406 2).toInt := g'.ag 4 (Nat.le_of_ble_eq_true rfl)
      have n5 : ν' 5 = (μ.2.2.1 406 3).toInt := g'.ag 5 (Nat.le_of_ble_eq_true rfl)
      have n6 : ν' 6 = (μ.2.2.1 433 0).toInt := g'.ag 6 (Nat.le_of_ble_eq_true rfl)
      have n7 : ν' 7 = (μ.2.2.1 433 1).toInt := g'.ag 7 (Nat.le_of_ble_eq_true rfl)
      have n8 : ν' 8 = (μ.2.2.1 404 2).toInt := g'.ag 8 (Nat.le_of_ble_eq_true rfl)
      have sz0 : (μ'.2.2.1 404 2).toInt = ν' 8 + 0 := (g'.fa _ (List.Mem.tail _ (List.Mem.tail _ (List.Mem.tail _ (List.Mem.tail _ (List.Mem.head _)))))).2
      have sz1 : (μ'.2.2.1 433 0).toInt = (μ.2.2.1 433 0).toInt := by rw [(g'.fr 433 nc_X12_restore_433).1]
      have sz2 : (μ'.2.2.1 433 1).toInt = (μ.2.2.1 433 1).toInt := by rw [(g'.fr 433 nc_X12_restore_433).1]
      have sz3 : (μ'.2.2.1 1 1).toInt = (μ.2.2.1 1 1).toInt := by rw [(g'.fr 1 nc_X12_restore_1).1]
      have sz4 : (μ'.2.2.1 210 0).toInt = (μ.2.2.1 210 0).toInt := by rw [(g'.fr 210 nc_X12_restore_210).1]
      have sz5 : (μ'.2.2.1 307 0).toInt = (μ.2.2.1 307 0).toInt := by rw [(g'.fr 307 nc_X12_restore_307).1]
      have hw' : w.toInt = ν' 0 + 0 := hw
      have i1 : (2 : Int) ≤ ν' 1 ∧ ν' 1 ≤ 2147483647 := g'.iv 1 (Nat.le_of_ble_eq_true rfl)
      have i2 : (0 : Int) ≤ ν' 2 ∧ ν' 2 ≤ 12 := g'.iv 2 (Nat.le_of_ble_eq_true rfl)
      have i3 : (0 : Int) ≤ ν' 3 ∧ ν' 3 ≤ 12 := g'.iv 3 (Nat.le_of_ble_eq_true rfl)
      have i4 : (0 : Int) ≤ ν' 4 ∧ ν' 4 ≤ 8 := g'.iv 4 (Nat.le_of_ble_eq_true rfl)
      have i5 : (0 : Int) ≤ ν' 5 ∧ ν' 5 ≤ 12 := g'.iv 5 (Nat.le_of_ble_eq_true rfl)
      have i6 : (0 : Int) ≤ ν' 6 ∧ ν' 6 ≤ 1 := g'.iv 6 (Nat.le_of_ble_eq_true rfl)
      have i7 : (0 : Int) ≤ ν' 7 ∧ ν' 7 ≤ 1 := g'.iv 7 (Nat.le_of_ble_eq_true rfl)
      have i8 : (0 : Int) ≤ ν' 8 ∧ ν' 8 ≤ 940 := g'.iv 8 (Nat.le_of_ble_eq_true rfl)
      exact hK _ w μ' ⟨⟨g'.sh, g'.hi, (g'.fl _ (List.Mem.head _)).2, (g'.fl _ (List.Mem.tail _ (List.Mem.head _))).2, (g'.fl _ (List.Mem.tail _ (List.Mem.tail _ (List.Mem.head _)))).2, (g'.fl _ (List.Mem.tail _ (List.Mem.tail _ (List.Mem.tail _ (List.Mem.head _))))).2⟩, rfl, by omega, ⟨sz3, sz4, sz5⟩, g'.fr⟩
    rcases List.mem_cons.mp hP with rfl | hP
    · obtain ⟨w, rfl, hw⟩ := r_int g'.gl
      have n0 : ν' 0 = 0 := g'.ag 0 (Nat.le_of_ble_eq_true rfl)
      have n1 : ν' 1 = a1.toInt := g'.ag 1 (Nat.le_of_ble_eq_true rfl)
      have n2 : ν' 2 = (μ.2.2.1 406 0).toInt := g'.ag 2 (Nat.le_of_ble_eq_true rfl)
      have n3 : ν' 3 = (μ.2.2.1 406 1).toInt := g'.ag 3 (Nat.le_of_ble_eq_true rfl)
      have n4 : ν' 4 = (μ.2.2.1 406 2).toInt := g'.ag 4 (Nat.le_of_ble_eq_true rfl)
      have n5 : ν' 5 = (μ.2.2.1 406 3).toInt := g'.ag 5 (Nat.le_of_ble_eq_true rfl)
      have n6 : ν' 6 = (μ.2.2.1 433 0).toInt := g'.ag 6 (Nat.le_of_ble_eq_true rfl)
      have n7 : ν' 7 = (μ.2.2.1 433 1).toInt := g'.ag 7 (Nat.le_of_ble_eq_true rfl)
      have n8 : ν' 8 = (μ.2.2.1 404 2).toInt := g'.ag 8 (Nat.le_of_ble_eq_true rfl)
      have sz0 : (μ'.2.2.1 404 2).toInt = ν' 8 + 0 := (g'.fa _ (List.Mem.tail _ (List.Mem.tail _ (List.Mem.tail _ (List.Mem.tail _ (List.Mem.head _)))))).2
      have sz1 : (μ'.2.2.1 433 0).toInt = (μ.2.2.1 433 0).toInt := by rw [(g'.fr 433 nc_X12_restore_433).1]
      have sz2 : (μ'.2.2.1 433 1).toInt = (μ.2.2.1 433 1).toInt := by rw [(g'.fr 433 nc_X12_restore_433).1]
      have sz3 : (μ'.2.2.1 1 1).toInt = (μ.2.2.1 1 1).toInt := by rw [(g'.fr 1 nc_X12_restore_1).1]
      have sz4 : (μ'.2.2.1 210 0).toInt = (μ.2.2.1 210 0).toInt := by rw [(g'.fr 210 nc_X12_restore_210).1]
      have sz5 : (μ'.2.2.1 307 0).toInt = (μ.2.2.1 307 0).toInt := by rw [(g'.fr 307 nc_X12_restore_307).1]
      have hw' : w.toInt = ν' 0 + 0 := hw
      have i1 : (1 : Int) ≤ ν' 1 ∧ ν' 1 ≤ 1 := g'.iv 1 (Nat.le_of_ble_eq_true rfl)
      have i2 : (0 : Int) ≤ ν' 2 ∧ ν' 2 ≤ 12 := g'.iv 2 (Nat.le_of_ble_eq_true rfl)
      have i3 : (0 : Int) ≤ ν' 3 ∧ ν' 3 ≤ 12 := g'.iv 3 (Nat.le_of_ble_eq_true rfl)
      have i4 : (0 : Int) ≤ ν' 4 ∧ ν' 4 ≤ 8 := g'.iv 4 (Nat.le_of_ble_eq_true rfl)
      have i5 : (0 : Int) ≤ ν' 5 ∧ ν' 5 ≤ 12 := g'.iv 5 (Nat.le_of_ble_eq_true rfl)
      have i6 : (0 : Int) ≤ ν' 6 ∧ ν' 6 ≤ 1 := g'.iv 6 (Nat.le_of_ble_eq_true rfl)
      have i7 : (0 : Int) ≤ ν' 7 ∧ ν' 7 ≤ 0 := g'.iv 7 (Nat.le_of_ble_eq_true rfl)
      have i8 : (0 : Int) ≤ ν' 8 ∧ ν' 8 ≤ 940 := g'.iv 8 (Nat.le_of_ble_eq_true rfl)
      exact hK _ w μ' ⟨⟨g'.sh, g'.hi, (g'.fl _ (List.Mem.head _)).2, (g'.fl _ (List.Mem.tail _ (List.Mem.head _))).2, (g'.fl _ (List.Mem.tail _ (List.Mem.tail _ (List.Mem.head _)))).2, (g'.fl _ (List.Mem.tail _ (List.Mem.tail _ (List.Mem.tail _ (List.Mem.head _))))).2⟩, rfl, by omega, ⟨sz3, sz4, sz5⟩, g'.fr⟩
    rcases List.mem_cons.mp hP with rfl | hP
    · obtain ⟨w, rfl, hw⟩ := r_int g'.gl
      have n0 : ν' 0 = 0 := g'.ag 0 (Nat.le_of_ble_eq_true rfl)
      have n1 : ν' 1 = a1.toInt := g'.ag 1 (Nat.le_of_ble_eq_true rfl)
      have n2 : ν' 2 = (μ.2.2.1 406 0).toInt := g'.ag 2 (Nat.le_of_ble_eq_true rfl)
      have n3 : ν' 3 = (μ.2.2.1 406 1).toInt := g'.ag 3 (Nat.le_of_ble_eq_true rfl)
      have n4 : ν' 4 = (μ.2.2.1 406 2).toInt := g'.ag 4 (Nat.le_of_ble_eq_true rfl)
      have n5 : ν' 5 = (μ.2.2.1 406 3).toInt := g'.ag 5 (Nat.le_of_ble_eq_true rfl)
      have n6 : ν' 6 = (μ.2.2.1 433 0).toInt := g'.ag 6 (Nat.le_of_ble_eq_true rfl)
      have n7 : ν' 7 = (μ.2.2.1 433 1).toInt := g'.ag 7 (Nat.le_of_ble_eq_true rfl)
      have n8 : ν' 8 = (μ.2.2.1 404 2).toInt := g'.ag 8 (Nat.le_of_ble_eq_true rfl)
      have sz0 : (μ'.2.2.1 404 2).toInt = ν' 8 + 0 := (g'.fa _ (List.Mem.tail _ (List.Mem.tail _ (List.Mem.tail _ (List.Mem.tail _ (List.Mem.head _)))))).2
      have sz1 : (μ'.2.2.1 433 0).toInt = (μ.2.2.1 433 0).toInt := by rw [(g'.fr 433 nc_X12_restore_433).1]
      have sz2 : (μ'.2.2.1 433 1).toInt = (μ.2.2.1 433 1).toInt := by rw [(g'.fr 433 nc_X12_restore_433).1]
      have sz3 : (μ'.2.2.1 1 1).toInt = (μ.2.2.1 1 1).toInt := by rw [(g'.fr 1 nc_X12_restore_1).1]
      have sz4 : (μ'.2.2.1 210 0).toInt = (μ.2.2.1 210 0).toInt := by rw [(g'.fr 210 nc_X12_restore_210).1]
      have sz5 : (μ'.2.2.1 307 0).toInt = (μ.2.2.1 307 0).toInt := by rw [(g'.fr 307 nc_X12_restore_307).1]
      have hw' : w.toInt = ν' 0 + 0 := hw
      have i1 : (0 : Int) ≤ ν' 1 ∧ ν' 1 ≤ 0 := g'.iv 1 (Nat.le_of_ble_eq_true rfl)
      have i2 : (0 : Int) ≤ ν' 2 ∧ ν' 2 ≤ 12 := g'.iv 2 (Nat.le_of_ble_eq_true rfl)
      have i3 : (0 : Int) ≤ ν' 3 ∧ ν' 3 ≤ 12 := g'.iv 3 (Nat.le_of_ble_eq_true rfl)
      have i4 : (0 : Int) ≤ ν' 4 ∧ ν' 4 ≤ 8 := g'.iv 4 (Nat.le_of_ble_eq_true rfl)
      have i5 : (0 : Int) ≤ ν' 5 ∧ ν' 5 ≤ 12 := g'.iv 5 (Nat.le_of_ble_eq_true rfl)
      have i6 : (0 : Int) ≤ ν' 6 ∧ ν' 6 ≤ 0 := g'.iv 6 (Nat.le_of_ble_eq_true rfl)
      have i7 : (0 : Int) ≤ ν' 7 ∧ ν' 7 ≤ 1 := g'.iv 7 (Nat.le_of_ble_eq_true rfl)
      have i8 : (0 : Int) ≤ ν' 8 ∧ ν' 8 ≤ 940 := g'.iv 8 (Nat.le_of_ble_eq_true rfl)
      exact hK _ w μ' ⟨⟨g'.sh, g'.hi, (g'.fl _ (List.Mem.head _)).2, (g'.fl _ (List.Mem.tail _ (List.Mem.head _))).2, (g'.fl _ (List.Mem.tail _ (List.Mem.tail _ (List.Mem.head _)))).2, (g'.fl _ (List.Mem.tail _ (List.Mem.tail _ (List.Mem.tail _ (List.Mem.head _))))).2⟩, rfl, by omega, ⟨sz3, sz4, sz5⟩, g'.fr⟩
    rcases List.mem_cons.mp hP with rfl | hP
    · obtain ⟨w, rfl, hw⟩ := r_int g'.gl
      have n0 : ν' 0 = 0 := g'.ag 0 (Nat.le_of_ble_eq_true rfl)
      have n1 : ν' 1 = a1.toInt := g'.ag 1 (Nat.le_of_ble_eq_true rfl)
      have n2 : ν' 2 = (μ.2.2.1 406 0).toInt := g'.ag 2 (Nat.le_of_ble_eq_true rfl)
      have n3 : ν' 3 = (μ.2.2.1 406 1).toInt := g'.ag 3 (Nat.le_of_ble_eq_true rfl)
      have n4 : ν' 4 = (μ.2.2.1 406 2).toInt := g'.ag 4 (Nat.le_of_ble_eq_true rfl)
      have n5 : ν' 5 = (μ.2.2.1 406 3).toInt := g'.ag 5 (Nat.le_of_ble_eq_true rfl)
      have n6 : ν' 6 = (μ.2.2.1 433 0).toInt := g'.ag 6 (Nat.le_of_ble_eq_true rfl)
      have n7 : ν' 7 = (μ.2.2.1 433 1).toInt := g'.ag 7 (Nat.le_of_ble_eq_true rfl)
      have n8 : ν' 8 = (μ.2.2.1 404 2).toInt := g'.ag 8 (Nat.le_of_ble_eq_true rfl)
      have sz0 : (μ'.2.2.1 404 2).toInt = ν' 8 + 0 := (g'.fa _ (List.Mem.tail _ (List.Mem.tail _ (List.Mem.tail _ (List.Mem.tail _ (List.Mem.head _)))))).2
      have sz1 : (μ'.2.2.1 433 0).toInt = (μ.2.2.1 433 0).toInt := by rw [(g'.fr 433 nc_X12_restore_433).1]
      have sz2 : (μ'.2.2.1 433 1).toInt = (μ.2.2.1 433 1).toInt := by rw [(g'.fr 433 nc_X12_restore_433).1]
      have sz3 : (μ'.2.2.1 1 1).toInt = (μ.2.2.1 1 1).toInt := by rw [(g'.fr 1 nc_X12_restore_1).1]
      have sz4 : (μ'.2.2.1 210 0).toInt = (μ.2.2.1 210 0).toInt := by rw [(g'.fr 210 nc_X12_restore_210).1]
      have sz5 : (μ'.2.2.1 307 0).toInt = (μ.2.2.1 307 0).toInt := by rw [(g'.fr 307 nc_X12_restore_307).1]
      have hw' : w.toInt = ν' 0 + 0 := hw
      have i1 : (-2147483648 : Int) ≤ ν' 1 ∧ ν' 1 ≤ -1 := g'.iv 1 (Nat.le_of_ble_eq_true rfl)
      have i2 : (0 : Int) ≤ ν' 2 ∧ ν' 2 ≤ 12 := g'.iv 2 (Nat.le_of_ble_eq_true rfl)
      have i3 : (0 : Int) ≤ ν' 3 ∧ ν' 3 ≤ 12 := g'.iv 3 (Nat.le_of_ble_eq_true rfl)
      have i4 : (0 : Int) ≤ ν' 4 ∧ ν' 4 ≤ 8 := g'.iv 4 (Nat.le_of_ble_eq_true rfl)
      have i5 : (0 : Int) ≤ ν' 5 ∧ ν' 5 ≤ 12 := g'.iv 5 (Nat.le_of_ble_eq_true rfl)
      have i6 : (0 : Int) ≤ ν' 6 ∧ ν' 6 ≤ 1 := g'.iv 6 (Nat.le_of_ble_eq_true rfl)
      have i7 : (0 : Int) ≤ ν' 7 ∧ ν' 7 ≤ 1 := g'.iv 7 (Nat.le_of_ble_eq_true rfl)
      have i8 : (0 : Int) ≤ ν' 8 ∧ ν' 8 ≤ 940 := g'.iv 8 (Nat.le_of_ble_eq_true rfl)
      exact hK _ w μ' ⟨⟨g'.sh, g'.hi, (g'.fl _ (List.Mem.head _)).2, (g'.fl _ (List.Mem.tail _ (List.Mem.head _))).2, (g'.fl _ (List.Mem.tail _ (List.Mem.tail _ (List.Mem.head _)))).2, (g'.fl _ (List.Mem.tail _ (List.Mem.tail _ (List.Mem.tail _ (List.Mem.head _))))).2⟩, rfl, by omega, ⟨sz3, sz4, sz5⟩, g'.fr⟩
    rcases List.mem_cons.mp hP with rfl | hP
    · obtain ⟨w, rfl, hw⟩ := r_int g'.gl
      have n0 : ν' 0 = 0 := g'.ag 0 (Nat.le_of_ble_eq_true rfl)
      have n1 : ν' 1 = a1.toInt := g'.ag 1 (Nat.le_of_ble_eq_true rfl)
      have n2 : ν' 2 = (μ.2.2.1 406 0).toInt := g'.ag 2 (Nat.le_of_ble_eq_true rfl)
      have n3 : ν' 3 = (μ.2.2.1 406 1).toInt := g'.ag 3 (Nat.le_of_ble_eq_true rfl)
      have n4 : ν' 4 = (μ.2.2.1 406 2).toInt := g'.ag 4 (Nat.le_of_ble_eq_true rfl)
      have n5 : ν' 5 = (μ.2.2.1 406 3).toInt := g'.ag 5 (Nat.le_of_ble_eq_true rfl)
      have n6 : ν' 6 = (μ.2.2.1 433 0).toInt := g'.ag 6 (Nat.le_of_ble_eq_true rfl)
      have n7 : ν' 7 = (μ.2.2.1 433 1).toInt := g'.ag 7 (Nat.le_of_ble_eq_true rfl)
      have n8 : ν' 8 = (μ.2.2.1 404 2).toInt := g'.ag 8 (Nat.le_of_ble_eq_true rfl)
      have sz0 : (μ'.2.2.1 404 2).toInt = ν' 8 + 0 := (g'.fa _ (List.Mem.tail _ (List.Mem.tail _ (List.Mem.tail _ (List.Mem.tail _ (List.Mem.head _)))))).2
      have sz1 : (μ'.2.2.1 433 0).toInt = (μ.2.2.1 433 0).toInt := by rw [(g'.fr 433 nc_X12_restore_433).1]
      have sz2 : (μ'.2.2.1 433 1).toInt = (μ.2.2.1 433 1).toInt := by rw [(g'.fr 433 nc_X12_restore_433).1]
      have sz3 : (μ'.2.2.1 1 1).toInt = (μ.2.2.1 1 1).toInt := by rw [(g'.fr 1 nc_X12_restore_1).1]
      have sz4 : (μ'.2.2.1 210 0).toInt = (μ.2.2.1 210 0).toInt := by rw [(g'.fr 210 nc_X12_restore_210).1]
      have sz5 : (μ'.2.2.1 307 0).toInt = (μ.2.2.1 307 0).toInt := by rw [(g'.fr 307 nc_X12_restore_307).1]
      have hw' : w.toInt = ν' 0 + 1 := hw
      have i1 : (1 : Int) ≤ ν' 1 ∧ ν' 1 ≤ 1 := g'.iv 1 (Nat.le_of_ble_eq_true rfl)
      have i2 : (0 : Int) ≤ ν' 2 ∧ ν' 2 ≤ 12 := g'.iv 2 (Nat.le_of_ble_eq_true rfl)
      have i3 : (0 : Int) ≤ ν' 3 ∧ ν' 3 ≤ 12 := g'.iv 3 (Nat.le_of_ble_eq_true rfl)
      have i4 : (0 : Int) ≤ ν' 4 ∧ ν' 4 ≤ 8 := g'.iv 4 (Nat.le_of_ble_eq_true rfl)
      have i5 : (0 : Int) ≤ ν' 5 ∧ ν' 5 ≤ 12 := g'.iv 5 (Nat.le_of_ble_eq_true rfl)
      have i6 : (0 : Int) ≤ ν' 6 ∧ ν' 6 ≤ 1 := g'.iv 6 (Nat.le_of_ble_eq_true rfl)
      have i7 : (1 : Int) ≤ ν' 7 ∧ ν' 7 ≤ 1 := g'.iv 7 (Nat.le_of_ble_eq_true rfl)
      have i8 : (0 : Int) ≤ ν' 8 ∧ ν' 8 ≤ 940 := g'.iv 8 (Nat.le_of_ble_eq_true rfl)
      exact hK _ w μ' ⟨⟨g'.sh, g'.hi, (g'.fl _ (List.Mem.head _)).2, (g'.fl _ (List.Mem.tail _ (List.Mem.head _))).2, (g'.fl _ (List.Mem.tail _ (List.Mem.tail _ (List.Mem.tail _ (List.Mem.head _))))).2, (g'.fl _ (List.Mem.tail _ (List.Mem.tail _ (List.Mem.tail _ (List.Mem.tail _ (List.Mem.head _)))))).2⟩, rfl, by omega, ⟨sz3, sz4, sz5⟩, g'.fr⟩
    rcases List.mem_cons.mp hP with rfl | hP
    · obtain ⟨w, rfl, hw⟩ := r_int g'.gl
      have n0 : ν' 0 = 0 := g'.ag 0 (Nat.le_of_ble_eq_true rfl)
      have n1 : ν' 1 = a1.toInt := g'.ag 1 (Nat.le_of_ble_eq_true rfl)
      have n2 : ν' 2 = (μ.2.2.1 406 0).toInt := g'.ag 2 (Nat.le_of_ble_eq_true rfl)
      have n3 : ν' 3 = (μ.2.2.1 406 1).toInt := g'.ag 3 (Nat.le_of_ble_eq_true rfl)
      have n4 : ν' 4 = (μ.2.2.1 406 2).toInt := g'.ag 4 (Nat.le_of_ble_eq_true rfl)
      have n5 : ν' 5 = (μ.2.2.1 406 3).toInt := g'.ag 5 (Nat.le_of_ble_eq_true rfl)
      have n6 : ν' 6 = (μ.2.2.1 433 0).toInt := g'.ag 6 (Nat.le_of_ble_eq_true rfl)
      have n7 : ν' 7 = (μ.2.2.1 433 1).toInt := g'.ag 7 (Nat.le_of_ble_eq_true rfl)
      have n8 : ν' 8 = (μ.2.2.1 404 2).toInt := g'.ag 8 (Nat.le_of_ble_eq_true rfl)
      have sz0 : (μ'.2.2.1 404 2).toInt = ν' 8 + 0 := (g'.fa _ (List.Mem.tail _ (List.Mem.tail _ (List.Mem.tail _ (List.Mem.tail _ (List.Mem.head _)))))).2
      have sz1 : (μ'.2.2.1 433 0).toInt = (μ.2.2.1 433 0).toInt := by rw [(g'.fr 433 nc_X12_restore_433).1]
      have sz2 : (μ'.2.2.1 433 1).toInt = (μ.2.2.1 433 1).toInt := by rw [(g'.fr 433 nc_X12_restore_433).1]
      have sz3 : (μ'.2.2.1 1 1).toInt = (μ.2.2.1 1 1).toInt := by rw [(g'.fr 1 nc_X12_restore_1).1]
      have sz4 : (μ'.2.2.1 210 0).toInt = (μ.2.2.1 210 0).toInt := by rw [(g'.fr 210 nc_X12_restore_210).1]
      have sz5 : (μ'.2.2.1 307 0).toInt = (μ.2.2.1 307 0).toInt := by rw [(g'.fr 307 nc_X12_restore_307).1]
      have hw' : w.toInt = ν' 0 + 1 := hw
      have i1 : (0 : Int) ≤ ν' 1 ∧ ν' 1 ≤ 0 := g'.iv 1 (Nat.le_of_ble_eq_true rfl)
      have i2 : (0 : Int) ≤ ν' 2 ∧ ν' 2 ≤ 12 := g'.iv 2 (Nat.le_of_ble_eq_true rfl)
      have i3 : (0 : Int) ≤ ν' 3 ∧ ν' 3 ≤ 12 := g'.iv 3 (Nat.le_of_ble_eq_true rfl)
      have i4 : (0 : Int) ≤ ν' 4 ∧ ν' 4 ≤ 8 := g'.iv 4 (Nat.le_of_ble_eq_true rfl)
      have i5 : (0 : Int) ≤ ν' 5 ∧ ν' 5 ≤ 12 := g'.iv 5 (Nat.le_of_ble_eq_true rfl)
      have i6 : (1 : Int) ≤ ν' 6 ∧ ν' 6 ≤ 1 := g'.iv 6 (Nat.le_of_ble_eq_true rfl)
      have i7 : (0 : Int) ≤ ν' 7 ∧ ν' 7 ≤ 1 := g'.iv 7 (Nat.le_of_ble_eq_true rfl)
      have i8 : (0 : Int) ≤ ν' 8 ∧ ν' 8 ≤ 940 := g'.iv 8 (Nat.le_of_ble_eq_true rfl)
      exact hK _ w μ' ⟨⟨g'.sh, g'.hi, (g'.fl _ (List.Mem.head _)).2, (g'.fl _ (List.Mem.tail _ (List.Mem.head _))).2, (g'.fl _ (List.Mem.tail _ (List.Mem.tail _ (List.Mem.tail _ (List.Mem.head _))))).2, (g'.fl _ (List.Mem.tail _ (List.Mem.tail _ (List.Mem.tail _ (List.Mem.tail _ (List.Mem.head _)))))).2⟩, rfl, by omega, ⟨sz3, sz4, sz5⟩, g'.fr⟩
    exact absurd hP List.not_mem_nil
abbrev ck_X12_roof (a1 a2 a3 : Int32) (μ : dw_S) (r : Option Value) (w : Int32) (μ' : dw_S) : Prop := (INV μ') ∧ (r = some (.int w)) ∧ ((μ'.2.2.1 404 2).toInt = (μ.2.2.1 404 2).toInt ∧ (μ'.2.2.1 433 0).toInt = (μ.2.2.1 433 0).toInt ∧ (μ'.2.2.1 433 1).toInt = (μ.2.2.1 433 1).toInt) ∧ ((μ'.2.2.1 1 1).toInt = (μ.2.2.1 1 1).toInt ∧ (μ'.2.2.1 210 0).toInt = (μ.2.2.1 210 0).toInt ∧ (μ'.2.2.1 307 0).toInt = (μ.2.2.1 307 0).toInt) ∧ (∀ a, a ∉ [404, 411, 412, 413, 414, 415, 416, 417, 418, 419] → μ'.2.2.1 a = μ.2.2.1 a ∧ μ'.2.2.2 a = μ.2.2.2 a)
theorem nc_X12_roof_433 : 433 ∉ ([404, 411, 412, 413, 414, 415, 416, 417, 418, 419] : List Nat) := by decide
theorem nc_X12_roof_1 : 1 ∉ ([404, 411, 412, 413, 414, 415, 416, 417, 418, 419] : List Nat) := by decide
theorem nc_X12_roof_210 : 210 ∉ ([404, 411, 412, 413, 414, 415, 416, 417, 418, 419] : List Nat) := by decide
theorem nc_X12_roof_307 : 307 ∉ ([404, 411, 412, 413, 414, 415, 416, 417, 418, 419] : List Nat) := by decide
theorem cl_X12_roof {μ : dw_S} {K : dw_K} {a1 a2 a3 : Int32} (hI : INV μ) (hK : ∀ (r : Option Value) (w : Int32) (μ' : dw_S), ck_X12_roof a1 a2 a3 μ r w μ' → K r μ') : t_X12_roof [.ref 404, .int a1, .int a2, .int a3] μ K := by
  have h_406_0 := hI.2.1 406 0
  rw [sgc_3] at h_406_0
  have h_406_1 := hI.2.1 406 1
  rw [sgc_4] at h_406_1
  have h_406_2 := hI.2.1 406 2
  rw [sgc_5] at h_406_2
  have h_406_3 := hI.2.1 406 3
  rw [sgc_6] at h_406_3
  have h_404_38 := hI.2.1 404 38
  rw [sgc_7] at h_404_38
  have h_404_2 := hI.2.1 404 2
  rw [sgc_8] at h_404_2
  refine al_364 350 (by decide) (fun s => [(0 : Int), (a1.toInt : Int), (a2.toInt : Int), (a3.toInt : Int), ((μ.2.2.1 406 0).toInt : Int), ((μ.2.2.1 406 1).toInt : Int), ((μ.2.2.1 406 2).toInt : Int), ((μ.2.2.1 406 3).toInt : Int), ((μ.2.2.1 404 38).toInt : Int), ((μ.2.2.1 404 2).toInt : Int)].getD s (0 : Int)) [.ref 404, .int a1, .int a2, .int a3] μ K ⟨hI.1, hI.2.1, fun _ _ => ⟨rfl, rfl⟩, rfl, Nat.le_refl _, Nat.le_of_ble_eq_true rfl, fun _ _ => rfl, ?_, fun q hq => absurd hq List.not_mem_nil, ?_, trivial, ?_, ?_⟩ ?_
  · exact iv2_ok (iv := (in_350).pre.iv) (vs := [(0 : Int), (a1.toInt : Int), (a2.toInt : Int), (a3.toInt : Int), ((μ.2.2.1 406 0).toInt : Int), ((μ.2.2.1 406 1).toInt : Int), ((μ.2.2.1 406 2).toInt : Int), ((μ.2.2.1 406 3).toInt : Int), ((μ.2.2.1 404 38).toInt : Int), ((μ.2.2.1 404 2).toInt : Int)]) ⟨⟨Int.le_refl 0, Int.le_refl 0⟩, ⟨dx_b1 _, dx_b2 _⟩, ⟨dx_b1 _, dx_b2 _⟩, ⟨dx_b1 _, dx_b2 _⟩, h_406_0, h_406_1, h_406_2, h_406_3, h_404_38, h_404_2, trivial⟩
  · exact ⟨⟨404, List.Mem.head _, rfl⟩, ⟨Nat.le_of_ble_eq_true rfl, a1, rfl, (Int.add_zero _).symm⟩, ⟨Nat.le_of_ble_eq_true rfl, a2, rfl, (Int.add_zero _).symm⟩, ⟨Nat.le_of_ble_eq_true rfl, a3, rfl, (Int.add_zero _).symm⟩, trivial⟩
  · exact dx_aL.all (l := (in_350).pre.fa) ⟨⟨Nat.le_of_ble_eq_true rfl, (Int.add_zero _).symm⟩, ⟨Nat.le_of_ble_eq_true rfl, (Int.add_zero _).symm⟩, ⟨Nat.le_of_ble_eq_true rfl, (Int.add_zero _).symm⟩, ⟨Nat.le_of_ble_eq_true rfl, (Int.add_zero _).symm⟩, ⟨Nat.le_of_ble_eq_true rfl, (Int.add_zero _).symm⟩, ⟨Nat.le_of_ble_eq_true rfl, (Int.add_zero _).symm⟩, trivial⟩
  · exact dx_aL.all (l := (in_350).pre.fl) ⟨⟨Nat.le_of_ble_eq_true rfl, hI.2.2.1⟩, ⟨Nat.le_of_ble_eq_true rfl, hI.2.2.2.1⟩, ⟨Nat.le_of_ble_eq_true rfl, hI.2.2.2.2.1⟩, ⟨Nat.le_of_ble_eq_true rfl, hI.2.2.2.2.2⟩, trivial⟩
  · intro r μ' ν' P hP g'
    rcases List.mem_cons.mp hP with rfl | hP
    · obtain ⟨w, rfl, hw⟩ := r_int g'.gl
      have n0 : ν' 0 = 0 := g'.ag 0 (Nat.le_of_ble_eq_true rfl)
      have n1 : ν' 1 = a1.toInt := g'.ag 1 (Nat.le_of_ble_eq_true rfl)
      have n2 : ν' 2 = a2.toInt := g'.ag 2 (Nat.le_of_ble_eq_true rfl)
      have n3 : ν' 3 = a3.toInt := g'.ag 3 (Nat.le_of_ble_eq_true rfl)
      have n4 : ν' 4 = (μ.2.2.1 406 0).toInt := g'.ag 4 (Nat.le_of_ble_eq_true rfl)
      have n5 : ν' 5 = (μ.2.2.1 406 1).toInt := g'.ag 5 (Nat.le_of_ble_eq_true rfl)
      have n6 : ν' 6 = (μ.2.2.1 406 2).toInt := g'.ag 6 (Nat.le_of_ble_eq_true rfl)
      have n7 : ν' 7 = (μ.2.2.1 406 3).toInt := g'.ag 7 (Nat.le_of_ble_eq_true rfl)
      have n8 : ν' 8 = (μ.2.2.1 404 38).toInt := g'.ag 8 (Nat.le_of_ble_eq_true rfl)
      have n9 : ν' 9 = (μ.2.2.1 404 2).toInt := g'.ag 9 (Nat.le_of_ble_eq_true rfl)
      have sz0 : (μ'.2.2.1 404 2).toInt = ν' 9 + 0 := (g'.fa _ (List.Mem.tail _ (List.Mem.head _))).2
      have sz1 : (μ'.2.2.1 433 0).toInt = (μ.2.2.1 433 0).toInt := by rw [(g'.fr 433 nc_X12_roof_433).1]
      have sz2 : (μ'.2.2.1 433 1).toInt = (μ.2.2.1 433 1).toInt := by rw [(g'.fr 433 nc_X12_roof_433).1]
      have sz3 : (μ'.2.2.1 1 1).toInt = (μ.2.2.1 1 1).toInt := by rw [(g'.fr 1 nc_X12_roof_1).1]
      have sz4 : (μ'.2.2.1 210 0).toInt = (μ.2.2.1 210 0).toInt := by rw [(g'.fr 210 nc_X12_roof_210).1]
      have sz5 : (μ'.2.2.1 307 0).toInt = (μ.2.2.1 307 0).toInt := by rw [(g'.fr 307 nc_X12_roof_307).1]
      have hw' : w.toInt = ν' 0 + (-1) := hw
      exact hK _ w μ' ⟨⟨g'.sh, g'.hi, (g'.fl _ (List.Mem.head _)).2, (g'.fl _ (List.Mem.tail _ (List.Mem.head _))).2, (g'.fl _ (List.Mem.tail _ (List.Mem.tail _ (List.Mem.head _)))).2, (g'.fl _ (List.Mem.tail _ (List.Mem.tail _ (List.Mem.tail _ (List.Mem.head _))))).2⟩, rfl, by omega, ⟨sz3, sz4, sz5⟩, g'.fr⟩
    rcases List.mem_cons.mp hP with rfl | hP
    · obtain ⟨w, rfl, hw⟩ := r_int g'.gl
      have n0 : ν' 0 = 0 := g'.ag 0 (Nat.le_of_ble_eq_true rfl)
      have n1 : ν' 1 = a1.toInt := g'.ag 1 (Nat.le_of_ble_eq_true rfl)
      have n2 : ν' 2 = a2.toInt := g'.ag 2 (Nat.le_of_ble_eq_true rfl)
      have n3 : ν' 3 = a3.toInt := g'.ag 3 (Nat.le_of_ble_eq_true rfl)
      have n4 : ν' 4 = (μ.2.2.1 406 0).toInt := g'.ag 4 (Nat.le_of_ble_eq_true rfl)
      have n5 : ν' 5 = (μ.2.2.1 406 1).toInt := g'.ag 5 (Nat.le_of_ble_eq_true rfl)
      have n6 : ν' 6 = (μ.2.2.1 406 2).toInt := g'.ag 6 (Nat.le_of_ble_eq_true rfl)
      have n7 : ν' 7 = (μ.2.2.1 406 3).toInt := g'.ag 7 (Nat.le_of_ble_eq_true rfl)
      have n8 : ν' 8 = (μ.2.2.1 404 38).toInt := g'.ag 8 (Nat.le_of_ble_eq_true rfl)
      have n9 : ν' 9 = (μ.2.2.1 404 2).toInt := g'.ag 9 (Nat.le_of_ble_eq_true rfl)
      have sz0 : (μ'.2.2.1 404 2).toInt = ν' 9 + 0 := (g'.fa _ (List.Mem.tail _ (List.Mem.head _))).2
      have sz1 : (μ'.2.2.1 433 0).toInt = (μ.2.2.1 433 0).toInt := by rw [(g'.fr 433 nc_X12_roof_433).1]
      have sz2 : (μ'.2.2.1 433 1).toInt = (μ.2.2.1 433 1).toInt := by rw [(g'.fr 433 nc_X12_roof_433).1]
      have sz3 : (μ'.2.2.1 1 1).toInt = (μ.2.2.1 1 1).toInt := by rw [(g'.fr 1 nc_X12_roof_1).1]
      have sz4 : (μ'.2.2.1 210 0).toInt = (μ.2.2.1 210 0).toInt := by rw [(g'.fr 210 nc_X12_roof_210).1]
      have sz5 : (μ'.2.2.1 307 0).toInt = (μ.2.2.1 307 0).toInt := by rw [(g'.fr 307 nc_X12_roof_307).1]
      have hw' : w.toInt = ν' 10 + 0 := hw
      have i1 : (0 : Int) ≤ ν' 1 ∧ ν' 1 ≤ 5 := g'.iv 1 (Nat.le_of_ble_eq_true rfl)
      have i2 : (0 : Int) ≤ ν' 2 ∧ ν' 2 ≤ 11 := g'.iv 2 (Nat.le_of_ble_eq_true rfl)
      have i3 : (0 : Int) ≤ ν' 3 ∧ ν' 3 ≤ 11 := g'.iv 3 (Nat.le_of_ble_eq_true rfl)
      have i4 : (1 : Int) ≤ ν' 4 ∧ ν' 4 ≤ 12 := g'.iv 4 (Nat.le_of_ble_eq_true rfl)
      have i5 : (1 : Int) ≤ ν' 5 ∧ ν' 5 ≤ 12 := g'.iv 5 (Nat.le_of_ble_eq_true rfl)
      have d0 : ν' 2 - ν' 4 ≤ (-1) := (g'.dc _ (List.Mem.head _)).2.2
      have d1 : ν' 3 - ν' 5 ≤ (-1) := (g'.dc _ (List.Mem.tail _ (List.Mem.head _))).2.2
      exact hK _ w μ' ⟨⟨g'.sh, g'.hi, (g'.fl _ (List.Mem.tail _ (List.Mem.tail _ (List.Mem.head _)))).2, (g'.fl _ (List.Mem.tail _ (List.Mem.tail _ (List.Mem.tail _ (List.Mem.head _))))).2, (g'.fl _ (List.Mem.tail _ (List.Mem.tail _ (List.Mem.tail _ (List.Mem.tail _ (List.Mem.head _)))))).2, (g'.fl _ (List.Mem.tail _ (List.Mem.tail _ (List.Mem.tail _ (List.Mem.tail _ (List.Mem.tail _ (List.Mem.head _))))))).2⟩, rfl, by omega, ⟨sz3, sz4, sz5⟩, g'.fr⟩
    exact absurd hP List.not_mem_nil
abbrev ck_X12_sick (a1 a2 : Int32) (μ : dw_S) (r : Option Value) (w : Int32) (μ' : dw_S) : Prop := (INV μ') ∧ (r = some (.int w)) ∧ ((μ'.2.2.1 404 2).toInt = (μ.2.2.1 404 2).toInt ∧ (μ'.2.2.1 433 0).toInt = (μ.2.2.1 433 0).toInt ∧ (μ'.2.2.1 433 1).toInt = (μ.2.2.1 433 1).toInt) ∧ ((μ'.2.2.1 1 1).toInt = (μ.2.2.1 1 1).toInt ∧ (μ'.2.2.1 210 0).toInt = (μ.2.2.1 210 0).toInt ∧ (μ'.2.2.1 307 0).toInt = (μ.2.2.1 307 0).toInt) ∧ (∀ a, a ∉ [404, 411, 412, 413, 414, 415, 416, 417, 418, 419, 423, 424] → μ'.2.2.1 a = μ.2.2.1 a ∧ μ'.2.2.2 a = μ.2.2.2 a)
theorem nc_X12_sick_433 : 433 ∉ ([404, 411, 412, 413, 414, 415, 416, 417, 418, 419, 423, 424] : List Nat) := by decide
theorem nc_X12_sick_1 : 1 ∉ ([404, 411, 412, 413, 414, 415, 416, 417, 418, 419, 423, 424] : List Nat) := by decide
theorem nc_X12_sick_210 : 210 ∉ ([404, 411, 412, 413, 414, 415, 416, 417, 418, 419, 423, 424] : List Nat) := by decide
theorem nc_X12_sick_307 : 307 ∉ ([404, 411, 412, 413, 414, 415, 416, 417, 418, 419, 423, 424] : List Nat) := by decide
theorem cl_X12_sick {μ : dw_S} {K : dw_K} {a1 a2 : Int32} (hI : INV μ) (hK : ∀ (r : Option Value) (w : Int32) (μ' : dw_S), ck_X12_sick a1 a2 μ r w μ' → K r μ') : t_X12_sick [.ref 404, .int a1, .int a2] μ K := by
  have h_406_0 := hI.2.1 406 0
  rw [sgc_3] at h_406_0
  have h_406_1 := hI.2.1 406 1
  rw [sgc_4] at h_406_1
  have h_406_2 := hI.2.1 406 2
  rw [sgc_5] at h_406_2
  have h_406_3 := hI.2.1 406 3
  rw [sgc_6] at h_406_3
  have h_404_38 := hI.2.1 404 38
  rw [sgc_7] at h_404_38
  have h_404_2 := hI.2.1 404 2
  rw [sgc_8] at h_404_2
  refine al_364 351 (by decide) (fun s => [(0 : Int), (a1.toInt : Int), (a2.toInt : Int), ((μ.2.2.1 406 0).toInt : Int), ((μ.2.2.1 406 1).toInt : Int), ((μ.2.2.1 406 2).toInt : Int), ((μ.2.2.1 406 3).toInt : Int), ((μ.2.2.1 404 38).toInt : Int), ((μ.2.2.1 404 2).toInt : Int)].getD s (0 : Int)) [.ref 404, .int a1, .int a2] μ K ⟨hI.1, hI.2.1, fun _ _ => ⟨rfl, rfl⟩, rfl, Nat.le_refl _, Nat.le_of_ble_eq_true rfl, fun _ _ => rfl, ?_, fun q hq => absurd hq List.not_mem_nil, ?_, trivial, ?_, ?_⟩ ?_
  · exact iv2_ok (iv := (in_351).pre.iv) (vs := [(0 : Int), (a1.toInt : Int), (a2.toInt : Int), ((μ.2.2.1 406 0).toInt : Int), ((μ.2.2.1 406 1).toInt : Int), ((μ.2.2.1 406 2).toInt : Int), ((μ.2.2.1 406 3).toInt : Int), ((μ.2.2.1 404 38).toInt : Int), ((μ.2.2.1 404 2).toInt : Int)]) ⟨⟨Int.le_refl 0, Int.le_refl 0⟩, ⟨dx_b1 _, dx_b2 _⟩, ⟨dx_b1 _, dx_b2 _⟩, h_406_0, h_406_1, h_406_2, h_406_3, h_404_38, h_404_2, trivial⟩
  · exact ⟨⟨404, List.Mem.head _, rfl⟩, ⟨Nat.le_of_ble_eq_true rfl, a1, rfl, (Int.add_zero _).symm⟩, ⟨Nat.le_of_ble_eq_true rfl, a2, rfl, (Int.add_zero _).symm⟩, trivial⟩
  · exact dx_aL.all (l := (in_351).pre.fa) ⟨⟨Nat.le_of_ble_eq_true rfl, (Int.add_zero _).symm⟩, ⟨Nat.le_of_ble_eq_true rfl, (Int.add_zero _).symm⟩, ⟨Nat.le_of_ble_eq_true rfl, (Int.add_zero _).symm⟩, ⟨Nat.le_of_ble_eq_true rfl, (Int.add_zero _).symm⟩, ⟨Nat.le_of_ble_eq_true rfl, (Int.add_zero _).symm⟩, ⟨Nat.le_of_ble_eq_true rfl, (Int.add_zero _).symm⟩, trivial⟩
  · exact dx_aL.all (l := (in_351).pre.fl) ⟨⟨Nat.le_of_ble_eq_true rfl, hI.2.2.1⟩, ⟨Nat.le_of_ble_eq_true rfl, hI.2.2.2.1⟩, ⟨Nat.le_of_ble_eq_true rfl, hI.2.2.2.2.1⟩, ⟨Nat.le_of_ble_eq_true rfl, hI.2.2.2.2.2⟩, trivial⟩
  · intro r μ' ν' P hP g'
    rcases List.mem_cons.mp hP with rfl | hP
    · obtain ⟨w, rfl, hw⟩ := r_int g'.gl
      have n0 : ν' 0 = 0 := g'.ag 0 (Nat.le_of_ble_eq_true rfl)
      have n1 : ν' 1 = a1.toInt := g'.ag 1 (Nat.le_of_ble_eq_true rfl)
      have n2 : ν' 2 = a2.toInt := g'.ag 2 (Nat.le_of_ble_eq_true rfl)
      have n3 : ν' 3 = (μ.2.2.1 406 0).toInt := g'.ag 3 (Nat.le_of_ble_eq_true rfl)
      have n4 : ν' 4 = (μ.2.2.1 406 1).toInt := g'.ag 4 (Nat.le_of_ble_eq_true rfl)
      have n5 : ν' 5 = (μ.2.2.1 406 2).toInt := g'.ag 5 (Nat.le_of_ble_eq_true rfl)
      have n6 : ν' 6 = (μ.2.2.1 406 3).toInt := g'.ag 6 (Nat.le_of_ble_eq_true rfl)
      have n7 : ν' 7 = (μ.2.2.1 404 38).toInt := g'.ag 7 (Nat.le_of_ble_eq_true rfl)
      have n8 : ν' 8 = (μ.2.2.1 404 2).toInt := g'.ag 8 (Nat.le_of_ble_eq_true rfl)
      have sz0 : (μ'.2.2.1 404 2).toInt = ν' 8 + 0 := (g'.fa _ (List.Mem.tail _ (List.Mem.head _))).2
      have sz1 : (μ'.2.2.1 433 0).toInt = (μ.2.2.1 433 0).toInt := by rw [(g'.fr 433 nc_X12_sick_433).1]
      have sz2 : (μ'.2.2.1 433 1).toInt = (μ.2.2.1 433 1).toInt := by rw [(g'.fr 433 nc_X12_sick_433).1]
      have sz3 : (μ'.2.2.1 1 1).toInt = (μ.2.2.1 1 1).toInt := by rw [(g'.fr 1 nc_X12_sick_1).1]
      have sz4 : (μ'.2.2.1 210 0).toInt = (μ.2.2.1 210 0).toInt := by rw [(g'.fr 210 nc_X12_sick_210).1]
      have sz5 : (μ'.2.2.1 307 0).toInt = (μ.2.2.1 307 0).toInt := by rw [(g'.fr 307 nc_X12_sick_307).1]
      have hw' : w.toInt = ν' 0 + (-1) := hw
      exact hK _ w μ' ⟨⟨g'.sh, g'.hi, (g'.fl _ (List.Mem.head _)).2, (g'.fl _ (List.Mem.tail _ (List.Mem.head _))).2, (g'.fl _ (List.Mem.tail _ (List.Mem.tail _ (List.Mem.head _)))).2, (g'.fl _ (List.Mem.tail _ (List.Mem.tail _ (List.Mem.tail _ (List.Mem.head _))))).2⟩, rfl, by omega, ⟨sz3, sz4, sz5⟩, g'.fr⟩
    rcases List.mem_cons.mp hP with rfl | hP
    · obtain ⟨w, rfl, hw⟩ := r_int g'.gl
      have n0 : ν' 0 = 0 := g'.ag 0 (Nat.le_of_ble_eq_true rfl)
      have n1 : ν' 1 = a1.toInt := g'.ag 1 (Nat.le_of_ble_eq_true rfl)
      have n2 : ν' 2 = a2.toInt := g'.ag 2 (Nat.le_of_ble_eq_true rfl)
      have n3 : ν' 3 = (μ.2.2.1 406 0).toInt := g'.ag 3 (Nat.le_of_ble_eq_true rfl)
      have n4 : ν' 4 = (μ.2.2.1 406 1).toInt := g'.ag 4 (Nat.le_of_ble_eq_true rfl)
      have n5 : ν' 5 = (μ.2.2.1 406 2).toInt := g'.ag 5 (Nat.le_of_ble_eq_true rfl)
      have n6 : ν' 6 = (μ.2.2.1 406 3).toInt := g'.ag 6 (Nat.le_of_ble_eq_true rfl)
      have n7 : ν' 7 = (μ.2.2.1 404 38).toInt := g'.ag 7 (Nat.le_of_ble_eq_true rfl)
      have n8 : ν' 8 = (μ.2.2.1 404 2).toInt := g'.ag 8 (Nat.le_of_ble_eq_true rfl)
      have sz0 : (μ'.2.2.1 404 2).toInt = ν' 8 + 0 := (g'.fa _ (List.Mem.tail _ (List.Mem.head _))).2
      have sz1 : (μ'.2.2.1 433 0).toInt = (μ.2.2.1 433 0).toInt := by rw [(g'.fr 433 nc_X12_sick_433).1]
      have sz2 : (μ'.2.2.1 433 1).toInt = (μ.2.2.1 433 1).toInt := by rw [(g'.fr 433 nc_X12_sick_433).1]
      have sz3 : (μ'.2.2.1 1 1).toInt = (μ.2.2.1 1 1).toInt := by rw [(g'.fr 1 nc_X12_sick_1).1]
      have sz4 : (μ'.2.2.1 210 0).toInt = (μ.2.2.1 210 0).toInt := by rw [(g'.fr 210 nc_X12_sick_210).1]
      have sz5 : (μ'.2.2.1 307 0).toInt = (μ.2.2.1 307 0).toInt := by rw [(g'.fr 307 nc_X12_sick_307).1]
      have hw' : w.toInt = ν' 9 + 0 := hw
      have i1 : (0 : Int) ≤ ν' 1 ∧ ν' 1 ≤ 5 := g'.iv 1 (Nat.le_of_ble_eq_true rfl)
      have i2 : (1 : Int) ≤ ν' 2 ∧ ν' 2 ≤ 144 := g'.iv 2 (Nat.le_of_ble_eq_true rfl)
      exact hK _ w μ' ⟨⟨g'.sh, g'.hi, (g'.fl _ (List.Mem.tail _ (List.Mem.tail _ (List.Mem.head _)))).2, (g'.fl _ (List.Mem.tail _ (List.Mem.tail _ (List.Mem.tail _ (List.Mem.head _))))).2, (g'.fl _ (List.Mem.tail _ (List.Mem.tail _ (List.Mem.tail _ (List.Mem.tail _ (List.Mem.head _)))))).2, (g'.fl _ (List.Mem.tail _ (List.Mem.tail _ (List.Mem.tail _ (List.Mem.tail _ (List.Mem.tail _ (List.Mem.head _))))))).2⟩, rfl, by omega, ⟨sz3, sz4, sz5⟩, g'.fr⟩
    exact absurd hP List.not_mem_nil
abbrev ck_X12_sky (a1 a2 a3 : Int32) (μ : dw_S) (r : Option Value) (w : Int32) (μ' : dw_S) : Prop := (INV μ') ∧ (r = some (.int w)) ∧ ((μ'.2.2.1 404 2).toInt = (μ.2.2.1 404 2).toInt ∧ (μ'.2.2.1 433 0).toInt = (μ.2.2.1 433 0).toInt ∧ (μ'.2.2.1 433 1).toInt = (μ.2.2.1 433 1).toInt) ∧ ((μ'.2.2.1 1 1).toInt = (μ.2.2.1 1 1).toInt ∧ (μ'.2.2.1 210 0).toInt = (μ.2.2.1 210 0).toInt ∧ (μ'.2.2.1 307 0).toInt = (μ.2.2.1 307 0).toInt) ∧ (∀ a, a ∉ [404, 411, 412, 413, 414, 415] → μ'.2.2.1 a = μ.2.2.1 a ∧ μ'.2.2.2 a = μ.2.2.2 a)
theorem kn_X12_sky_0 : (fl_s 0).all (fun q => decide (q.1 ∉ ([404, 411, 412, 413, 414, 415] : List Nat))) = true := by decide
theorem kn_X12_sky_6 : (fl_s 6).all (fun q => decide (q.1 ∉ ([404, 411, 412, 413, 414, 415] : List Nat))) = true := by decide
theorem kn_X12_sky_2 : (fl_s 2).all (fun q => decide (q.1 ∉ ([404, 411, 412, 413, 414, 415] : List Nat))) = true := by decide
theorem kn_X12_sky_3 : (fl_s 3).all (fun q => decide (q.1 ∉ ([404, 411, 412, 413, 414, 415] : List Nat))) = true := by decide
theorem nc_X12_sky_433 : 433 ∉ ([404, 411, 412, 413, 414, 415] : List Nat) := by decide
theorem nc_X12_sky_1 : 1 ∉ ([404, 411, 412, 413, 414, 415] : List Nat) := by decide
theorem nc_X12_sky_210 : 210 ∉ ([404, 411, 412, 413, 414, 415] : List Nat) := by decide
theorem nc_X12_sky_307 : 307 ∉ ([404, 411, 412, 413, 414, 415] : List Nat) := by decide
theorem cl_X12_sky {μ : dw_S} {K : dw_K} {a1 a2 a3 : Int32} (hI : INV μ) (hK : ∀ (r : Option Value) (w : Int32) (μ' : dw_S), ck_X12_sky a1 a2 a3 μ r w μ' → K r μ') : t_X12_sky [.ref 404, .int a1, .int a2, .int a3] μ K := by
  have h_406_0 := hI.2.1 406 0
  rw [sgc_3] at h_406_0
  have h_406_1 := hI.2.1 406 1
  rw [sgc_4] at h_406_1
  have h_406_2 := hI.2.1 406 2
  rw [sgc_5] at h_406_2
  have h_406_3 := hI.2.1 406 3
  rw [sgc_6] at h_406_3
  have h_404_38 := hI.2.1 404 38
  rw [sgc_7] at h_404_38
  have h_404_2 := hI.2.1 404 2
  rw [sgc_8] at h_404_2
  refine al_364 352 (by decide) (fun s => [(0 : Int), (a1.toInt : Int), (a2.toInt : Int), (a3.toInt : Int), ((μ.2.2.1 406 0).toInt : Int), ((μ.2.2.1 406 1).toInt : Int), ((μ.2.2.1 406 2).toInt : Int), ((μ.2.2.1 406 3).toInt : Int), ((μ.2.2.1 404 38).toInt : Int), ((μ.2.2.1 404 2).toInt : Int)].getD s (0 : Int)) [.ref 404, .int a1, .int a2, .int a3] μ K ⟨hI.1, hI.2.1, fun _ _ => ⟨rfl, rfl⟩, rfl, Nat.le_refl _, Nat.le_of_ble_eq_true rfl, fun _ _ => rfl, ?_, fun q hq => absurd hq List.not_mem_nil, ?_, trivial, ?_, ?_⟩ ?_
  · exact iv2_ok (iv := (in_352).pre.iv) (vs := [(0 : Int), (a1.toInt : Int), (a2.toInt : Int), (a3.toInt : Int), ((μ.2.2.1 406 0).toInt : Int), ((μ.2.2.1 406 1).toInt : Int), ((μ.2.2.1 406 2).toInt : Int), ((μ.2.2.1 406 3).toInt : Int), ((μ.2.2.1 404 38).toInt : Int), ((μ.2.2.1 404 2).toInt : Int)]) ⟨⟨Int.le_refl 0, Int.le_refl 0⟩, ⟨dx_b1 _, dx_b2 _⟩, ⟨dx_b1 _, dx_b2 _⟩, ⟨dx_b1 _, dx_b2 _⟩, h_406_0, h_406_1, h_406_2, h_406_3, h_404_38, h_404_2, trivial⟩
  · exact ⟨⟨404, List.Mem.head _, rfl⟩, ⟨Nat.le_of_ble_eq_true rfl, a1, rfl, (Int.add_zero _).symm⟩, ⟨Nat.le_of_ble_eq_true rfl, a2, rfl, (Int.add_zero _).symm⟩, ⟨Nat.le_of_ble_eq_true rfl, a3, rfl, (Int.add_zero _).symm⟩, trivial⟩
  · exact dx_aL.all (l := (in_352).pre.fa) ⟨⟨Nat.le_of_ble_eq_true rfl, (Int.add_zero _).symm⟩, ⟨Nat.le_of_ble_eq_true rfl, (Int.add_zero _).symm⟩, ⟨Nat.le_of_ble_eq_true rfl, (Int.add_zero _).symm⟩, ⟨Nat.le_of_ble_eq_true rfl, (Int.add_zero _).symm⟩, ⟨Nat.le_of_ble_eq_true rfl, (Int.add_zero _).symm⟩, ⟨Nat.le_of_ble_eq_true rfl, (Int.add_zero _).symm⟩, trivial⟩
  · exact dx_aL.all (l := (in_352).pre.fl) trivial
  · intro r μ' ν' P hP g'
    rcases List.mem_cons.mp hP with rfl | hP
    · obtain ⟨w, rfl, hw⟩ := r_int g'.gl
      have n0 : ν' 0 = 0 := g'.ag 0 (Nat.le_of_ble_eq_true rfl)
      have n1 : ν' 1 = a1.toInt := g'.ag 1 (Nat.le_of_ble_eq_true rfl)
      have n2 : ν' 2 = a2.toInt := g'.ag 2 (Nat.le_of_ble_eq_true rfl)
      have n3 : ν' 3 = a3.toInt := g'.ag 3 (Nat.le_of_ble_eq_true rfl)
      have n4 : ν' 4 = (μ.2.2.1 406 0).toInt := g'.ag 4 (Nat.le_of_ble_eq_true rfl)
      have n5 : ν' 5 = (μ.2.2.1 406 1).toInt := g'.ag 5 (Nat.le_of_ble_eq_true rfl)
      have n6 : ν' 6 = (μ.2.2.1 406 2).toInt := g'.ag 6 (Nat.le_of_ble_eq_true rfl)
      have n7 : ν' 7 = (μ.2.2.1 406 3).toInt := g'.ag 7 (Nat.le_of_ble_eq_true rfl)
      have n8 : ν' 8 = (μ.2.2.1 404 38).toInt := g'.ag 8 (Nat.le_of_ble_eq_true rfl)
      have n9 : ν' 9 = (μ.2.2.1 404 2).toInt := g'.ag 9 (Nat.le_of_ble_eq_true rfl)
      have sz0 : (μ'.2.2.1 404 2).toInt = ν' 9 + 0 := (g'.fa _ (List.Mem.tail _ (List.Mem.head _))).2
      have sz1 : (μ'.2.2.1 433 0).toInt = (μ.2.2.1 433 0).toInt := by rw [(g'.fr 433 nc_X12_sky_433).1]
      have sz2 : (μ'.2.2.1 433 1).toInt = (μ.2.2.1 433 1).toInt := by rw [(g'.fr 433 nc_X12_sky_433).1]
      have sz3 : (μ'.2.2.1 1 1).toInt = (μ.2.2.1 1 1).toInt := by rw [(g'.fr 1 nc_X12_sky_1).1]
      have sz4 : (μ'.2.2.1 210 0).toInt = (μ.2.2.1 210 0).toInt := by rw [(g'.fr 210 nc_X12_sky_210).1]
      have sz5 : (μ'.2.2.1 307 0).toInt = (μ.2.2.1 307 0).toInt := by rw [(g'.fr 307 nc_X12_sky_307).1]
      have hw' : w.toInt = ν' 0 + (-1) := hw
      exact hK _ w μ' ⟨⟨g'.sh, g'.hi, keepf (md := [404, 411, 412, 413, 414, 415]) kn_X12_sky_0 g'.fr hI.2.2.1, keepf (md := [404, 411, 412, 413, 414, 415]) kn_X12_sky_6 g'.fr hI.2.2.2.1, keepf (md := [404, 411, 412, 413, 414, 415]) kn_X12_sky_2 g'.fr hI.2.2.2.2.1, keepf (md := [404, 411, 412, 413, 414, 415]) kn_X12_sky_3 g'.fr hI.2.2.2.2.2⟩, rfl, by omega, ⟨sz3, sz4, sz5⟩, g'.fr⟩
    rcases List.mem_cons.mp hP with rfl | hP
    · obtain ⟨w, rfl, hw⟩ := r_int g'.gl
      have n0 : ν' 0 = 0 := g'.ag 0 (Nat.le_of_ble_eq_true rfl)
      have n1 : ν' 1 = a1.toInt := g'.ag 1 (Nat.le_of_ble_eq_true rfl)
      have n2 : ν' 2 = a2.toInt := g'.ag 2 (Nat.le_of_ble_eq_true rfl)
      have n3 : ν' 3 = a3.toInt := g'.ag 3 (Nat.le_of_ble_eq_true rfl)
      have n4 : ν' 4 = (μ.2.2.1 406 0).toInt := g'.ag 4 (Nat.le_of_ble_eq_true rfl)
      have n5 : ν' 5 = (μ.2.2.1 406 1).toInt := g'.ag 5 (Nat.le_of_ble_eq_true rfl)
      have n6 : ν' 6 = (μ.2.2.1 406 2).toInt := g'.ag 6 (Nat.le_of_ble_eq_true rfl)
      have n7 : ν' 7 = (μ.2.2.1 406 3).toInt := g'.ag 7 (Nat.le_of_ble_eq_true rfl)
      have n8 : ν' 8 = (μ.2.2.1 404 38).toInt := g'.ag 8 (Nat.le_of_ble_eq_true rfl)
      have n9 : ν' 9 = (μ.2.2.1 404 2).toInt := g'.ag 9 (Nat.le_of_ble_eq_true rfl)
      have sz0 : (μ'.2.2.1 404 2).toInt = ν' 9 + 0 := (g'.fa _ (List.Mem.tail _ (List.Mem.head _))).2
      have sz1 : (μ'.2.2.1 433 0).toInt = (μ.2.2.1 433 0).toInt := by rw [(g'.fr 433 nc_X12_sky_433).1]
      have sz2 : (μ'.2.2.1 433 1).toInt = (μ.2.2.1 433 1).toInt := by rw [(g'.fr 433 nc_X12_sky_433).1]
      have sz3 : (μ'.2.2.1 1 1).toInt = (μ.2.2.1 1 1).toInt := by rw [(g'.fr 1 nc_X12_sky_1).1]
      have sz4 : (μ'.2.2.1 210 0).toInt = (μ.2.2.1 210 0).toInt := by rw [(g'.fr 210 nc_X12_sky_210).1]
      have sz5 : (μ'.2.2.1 307 0).toInt = (μ.2.2.1 307 0).toInt := by rw [(g'.fr 307 nc_X12_sky_307).1]
      have hw' : w.toInt = ν' 10 + 0 := hw
      have i1 : (0 : Int) ≤ ν' 1 ∧ ν' 1 ≤ 5 := g'.iv 1 (Nat.le_of_ble_eq_true rfl)
      have i2 : (0 : Int) ≤ ν' 2 ∧ ν' 2 ≤ 143 := g'.iv 2 (Nat.le_of_ble_eq_true rfl)
      have i3 : (0 : Int) ≤ ν' 3 ∧ ν' 3 ≤ 4 := g'.iv 3 (Nat.le_of_ble_eq_true rfl)
      exact hK _ w μ' ⟨⟨g'.sh, g'.hi, keepf (md := [404, 411, 412, 413, 414, 415]) kn_X12_sky_0 g'.fr hI.2.2.1, keepf (md := [404, 411, 412, 413, 414, 415]) kn_X12_sky_6 g'.fr hI.2.2.2.1, keepf (md := [404, 411, 412, 413, 414, 415]) kn_X12_sky_2 g'.fr hI.2.2.2.2.1, keepf (md := [404, 411, 412, 413, 414, 415]) kn_X12_sky_3 g'.fr hI.2.2.2.2.2⟩, rfl, by omega, ⟨sz3, sz4, sz5⟩, g'.fr⟩
    exact absurd hP List.not_mem_nil
abbrev ck_X12_slugs (a1 a2 a3 a4 : Int32) (μ : dw_S) (r : Option Value) (w : Int32) (μ' : dw_S) : Prop := (INV μ') ∧ (r = some (.int w)) ∧ ((μ'.2.2.1 404 2).toInt = (μ.2.2.1 404 2).toInt ∧ (μ'.2.2.1 433 0).toInt = (μ.2.2.1 433 0).toInt ∧ (μ'.2.2.1 433 1).toInt = (μ.2.2.1 433 1).toInt) ∧ ((μ'.2.2.1 1 1).toInt = (μ.2.2.1 1 1).toInt ∧ (μ'.2.2.1 210 0).toInt = (μ.2.2.1 210 0).toInt ∧ (μ'.2.2.1 307 0).toInt = (μ.2.2.1 307 0).toInt) ∧ (∀ a, a ∉ [404, 411, 412, 413, 414, 415, 416, 417, 418, 419, 425] → μ'.2.2.1 a = μ.2.2.1 a ∧ μ'.2.2.2 a = μ.2.2.2 a)
theorem nc_X12_slugs_433 : 433 ∉ ([404, 411, 412, 413, 414, 415, 416, 417, 418, 419, 425] : List Nat) := by decide
theorem nc_X12_slugs_1 : 1 ∉ ([404, 411, 412, 413, 414, 415, 416, 417, 418, 419, 425] : List Nat) := by decide
theorem nc_X12_slugs_210 : 210 ∉ ([404, 411, 412, 413, 414, 415, 416, 417, 418, 419, 425] : List Nat) := by decide
theorem nc_X12_slugs_307 : 307 ∉ ([404, 411, 412, 413, 414, 415, 416, 417, 418, 419, 425] : List Nat) := by decide
theorem cl_X12_slugs {μ : dw_S} {K : dw_K} {a1 a2 a3 a4 : Int32} (hI : INV μ) (hK : ∀ (r : Option Value) (w : Int32) (μ' : dw_S), ck_X12_slugs a1 a2 a3 a4 μ r w μ' → K r μ') : t_X12_slugs [.ref 404, .int a1, .int a2, .int a3, .int a4] μ K := by
  have h_406_0 := hI.2.1 406 0
  rw [sgc_3] at h_406_0
  have h_406_1 := hI.2.1 406 1
  rw [sgc_4] at h_406_1
  have h_406_2 := hI.2.1 406 2
  rw [sgc_5] at h_406_2
  have h_406_3 := hI.2.1 406 3
  rw [sgc_6] at h_406_3
  have h_404_38 := hI.2.1 404 38
  rw [sgc_7] at h_404_38
  have h_404_2 := hI.2.1 404 2
  rw [sgc_8] at h_404_2
  refine al_364 354 (by decide) (fun s => [(0 : Int), (a1.toInt : Int), (a2.toInt : Int), (a3.toInt : Int), (a4.toInt : Int), ((μ.2.2.1 406 0).toInt : Int), ((μ.2.2.1 406 1).toInt : Int), ((μ.2.2.1 406 2).toInt : Int), ((μ.2.2.1 406 3).toInt : Int), ((μ.2.2.1 404 38).toInt : Int), ((μ.2.2.1 404 2).toInt : Int)].getD s (0 : Int)) [.ref 404, .int a1, .int a2, .int a3, .int a4] μ K ⟨hI.1, hI.2.1, fun _ _ => ⟨rfl, rfl⟩, rfl, Nat.le_refl _, Nat.le_of_ble_eq_true rfl, fun _ _ => rfl, ?_, fun q hq => absurd hq List.not_mem_nil, ?_, trivial, ?_, ?_⟩ ?_
  · exact iv2_ok (iv := (in_354).pre.iv) (vs := [(0 : Int), (a1.toInt : Int), (a2.toInt : Int), (a3.toInt : Int), (a4.toInt : Int), ((μ.2.2.1 406 0).toInt : Int), ((μ.2.2.1 406 1).toInt : Int), ((μ.2.2.1 406 2).toInt : Int), ((μ.2.2.1 406 3).toInt : Int), ((μ.2.2.1 404 38).toInt : Int), ((μ.2.2.1 404 2).toInt : Int)]) ⟨⟨Int.le_refl 0, Int.le_refl 0⟩, ⟨dx_b1 _, dx_b2 _⟩, ⟨dx_b1 _, dx_b2 _⟩, ⟨dx_b1 _, dx_b2 _⟩, ⟨dx_b1 _, dx_b2 _⟩, h_406_0, h_406_1, h_406_2, h_406_3, h_404_38, h_404_2, trivial⟩
  · exact ⟨⟨404, List.Mem.head _, rfl⟩, ⟨Nat.le_of_ble_eq_true rfl, a1, rfl, (Int.add_zero _).symm⟩, ⟨Nat.le_of_ble_eq_true rfl, a2, rfl, (Int.add_zero _).symm⟩, ⟨Nat.le_of_ble_eq_true rfl, a3, rfl, (Int.add_zero _).symm⟩, ⟨Nat.le_of_ble_eq_true rfl, a4, rfl, (Int.add_zero _).symm⟩, trivial⟩
  · exact dx_aL.all (l := (in_354).pre.fa) ⟨⟨Nat.le_of_ble_eq_true rfl, (Int.add_zero _).symm⟩, ⟨Nat.le_of_ble_eq_true rfl, (Int.add_zero _).symm⟩, ⟨Nat.le_of_ble_eq_true rfl, (Int.add_zero _).symm⟩, ⟨Nat.le_of_ble_eq_true rfl, (Int.add_zero _).symm⟩, ⟨Nat.le_of_ble_eq_true rfl, (Int.add_zero _).symm⟩, ⟨Nat.le_of_ble_eq_true rfl, (Int.add_zero _).symm⟩, trivial⟩
  · exact dx_aL.all (l := (in_354).pre.fl) ⟨⟨Nat.le_of_ble_eq_true rfl, hI.2.2.1⟩, ⟨Nat.le_of_ble_eq_true rfl, hI.2.2.2.1⟩, ⟨Nat.le_of_ble_eq_true rfl, hI.2.2.2.2.1⟩, ⟨Nat.le_of_ble_eq_true rfl, hI.2.2.2.2.2⟩, trivial⟩
  · intro r μ' ν' P hP g'
    rcases List.mem_cons.mp hP with rfl | hP
    · obtain ⟨w, rfl, hw⟩ := r_int g'.gl
      have n0 : ν' 0 = 0 := g'.ag 0 (Nat.le_of_ble_eq_true rfl)
      have n1 : ν' 1 = a1.toInt := g'.ag 1 (Nat.le_of_ble_eq_true rfl)
      have n2 : ν' 2 = a2.toInt := g'.ag 2 (Nat.le_of_ble_eq_true rfl)
      have n3 : ν' 3 = a3.toInt := g'.ag 3 (Nat.le_of_ble_eq_true rfl)
      have n4 : ν' 4 = a4.toInt := g'.ag 4 (Nat.le_of_ble_eq_true rfl)
      have n5 : ν' 5 = (μ.2.2.1 406 0).toInt := g'.ag 5 (Nat.le_of_ble_eq_true rfl)
      have n6 : ν' 6 = (μ.2.2.1 406 1).toInt := g'.ag 6 (Nat.le_of_ble_eq_true rfl)
      have n7 : ν' 7 = (μ.2.2.1 406 2).toInt := g'.ag 7 (Nat.le_of_ble_eq_true rfl)
      have n8 : ν' 8 = (μ.2.2.1 406 3).toInt := g'.ag 8 (Nat.le_of_ble_eq_true rfl)
      have n9 : ν' 9 = (μ.2.2.1 404 38).toInt := g'.ag 9 (Nat.le_of_ble_eq_true rfl)
      have n10 : ν' 10 = (μ.2.2.1 404 2).toInt := g'.ag 10 (Nat.le_of_ble_eq_true rfl)
      have sz0 : (μ'.2.2.1 404 2).toInt = ν' 10 + 0 := (g'.fa _ (List.Mem.tail _ (List.Mem.head _))).2
      have sz1 : (μ'.2.2.1 433 0).toInt = (μ.2.2.1 433 0).toInt := by rw [(g'.fr 433 nc_X12_slugs_433).1]
      have sz2 : (μ'.2.2.1 433 1).toInt = (μ.2.2.1 433 1).toInt := by rw [(g'.fr 433 nc_X12_slugs_433).1]
      have sz3 : (μ'.2.2.1 1 1).toInt = (μ.2.2.1 1 1).toInt := by rw [(g'.fr 1 nc_X12_slugs_1).1]
      have sz4 : (μ'.2.2.1 210 0).toInt = (μ.2.2.1 210 0).toInt := by rw [(g'.fr 210 nc_X12_slugs_210).1]
      have sz5 : (μ'.2.2.1 307 0).toInt = (μ.2.2.1 307 0).toInt := by rw [(g'.fr 307 nc_X12_slugs_307).1]
      have hw' : w.toInt = ν' 0 + (-1) := hw
      exact hK _ w μ' ⟨⟨g'.sh, g'.hi, (g'.fl _ (List.Mem.head _)).2, (g'.fl _ (List.Mem.tail _ (List.Mem.head _))).2, (g'.fl _ (List.Mem.tail _ (List.Mem.tail _ (List.Mem.head _)))).2, (g'.fl _ (List.Mem.tail _ (List.Mem.tail _ (List.Mem.tail _ (List.Mem.head _))))).2⟩, rfl, by omega, ⟨sz3, sz4, sz5⟩, g'.fr⟩
    rcases List.mem_cons.mp hP with rfl | hP
    · obtain ⟨w, rfl, hw⟩ := r_int g'.gl
      have n0 : ν' 0 = 0 := g'.ag 0 (Nat.le_of_ble_eq_true rfl)
      have n1 : ν' 1 = a1.toInt := g'.ag 1 (Nat.le_of_ble_eq_true rfl)
      have n2 : ν' 2 = a2.toInt := g'.ag 2 (Nat.le_of_ble_eq_true rfl)
      have n3 : ν' 3 = a3.toInt := g'.ag 3 (Nat.le_of_ble_eq_true rfl)
      have n4 : ν' 4 = a4.toInt := g'.ag 4 (Nat.le_of_ble_eq_true rfl)
      have n5 : ν' 5 = (μ.2.2.1 406 0).toInt := g'.ag 5 (Nat.le_of_ble_eq_true rfl)
      have n6 : ν' 6 = (μ.2.2.1 406 1).toInt := g'.ag 6 (Nat.le_of_ble_eq_true rfl)
      have n7 : ν' 7 = (μ.2.2.1 406 2).toInt := g'.ag 7 (Nat.le_of_ble_eq_true rfl)
      have n8 : ν' 8 = (μ.2.2.1 406 3).toInt := g'.ag 8 (Nat.le_of_ble_eq_true rfl)
      have n9 : ν' 9 = (μ.2.2.1 404 38).toInt := g'.ag 9 (Nat.le_of_ble_eq_true rfl)
      have n10 : ν' 10 = (μ.2.2.1 404 2).toInt := g'.ag 10 (Nat.le_of_ble_eq_true rfl)
      have sz0 : (μ'.2.2.1 404 2).toInt = ν' 10 + 0 := (g'.fa _ (List.Mem.tail _ (List.Mem.head _))).2
      have sz1 : (μ'.2.2.1 433 0).toInt = (μ.2.2.1 433 0).toInt := by rw [(g'.fr 433 nc_X12_slugs_433).1]
      have sz2 : (μ'.2.2.1 433 1).toInt = (μ.2.2.1 433 1).toInt := by rw [(g'.fr 433 nc_X12_slugs_433).1]
      have sz3 : (μ'.2.2.1 1 1).toInt = (μ.2.2.1 1 1).toInt := by rw [(g'.fr 1 nc_X12_slugs_1).1]
      have sz4 : (μ'.2.2.1 210 0).toInt = (μ.2.2.1 210 0).toInt := by rw [(g'.fr 210 nc_X12_slugs_210).1]
      have sz5 : (μ'.2.2.1 307 0).toInt = (μ.2.2.1 307 0).toInt := by rw [(g'.fr 307 nc_X12_slugs_307).1]
      have hw' : w.toInt = ν' 0 + 0 := hw
      have i1 : (0 : Int) ≤ ν' 1 ∧ ν' 1 ≤ 5 := g'.iv 1 (Nat.le_of_ble_eq_true rfl)
      have i2 : (0 : Int) ≤ ν' 2 ∧ ν' 2 ≤ 143 := g'.iv 2 (Nat.le_of_ble_eq_true rfl)
      have i3 : (0 : Int) ≤ ν' 3 ∧ ν' 3 ≤ 11 := g'.iv 3 (Nat.le_of_ble_eq_true rfl)
      have i4 : (0 : Int) ≤ ν' 4 ∧ ν' 4 ≤ 11 := g'.iv 4 (Nat.le_of_ble_eq_true rfl)
      have i5 : (1 : Int) ≤ ν' 5 ∧ ν' 5 ≤ 12 := g'.iv 5 (Nat.le_of_ble_eq_true rfl)
      have i6 : (1 : Int) ≤ ν' 6 ∧ ν' 6 ≤ 12 := g'.iv 6 (Nat.le_of_ble_eq_true rfl)
      have d0 : ν' 3 - ν' 5 ≤ (-1) := (g'.dc _ (List.Mem.head _)).2.2
      have d1 : ν' 4 - ν' 6 ≤ (-1) := (g'.dc _ (List.Mem.tail _ (List.Mem.head _))).2.2
      exact hK _ w μ' ⟨⟨g'.sh, g'.hi, (g'.fl _ (List.Mem.tail _ (List.Mem.tail _ (List.Mem.head _)))).2, (g'.fl _ (List.Mem.tail _ (List.Mem.tail _ (List.Mem.tail _ (List.Mem.head _))))).2, (g'.fl _ (List.Mem.tail _ (List.Mem.tail _ (List.Mem.tail _ (List.Mem.tail _ (List.Mem.head _)))))).2, (g'.fl _ (List.Mem.tail _ (List.Mem.tail _ (List.Mem.tail _ (List.Mem.tail _ (List.Mem.tail _ (List.Mem.head _))))))).2⟩, rfl, by omega, ⟨sz3, sz4, sz5⟩, g'.fr⟩
    rcases List.mem_cons.mp hP with rfl | hP
    · obtain ⟨w, rfl, hw⟩ := r_int g'.gl
      have n0 : ν' 0 = 0 := g'.ag 0 (Nat.le_of_ble_eq_true rfl)
      have n1 : ν' 1 = a1.toInt := g'.ag 1 (Nat.le_of_ble_eq_true rfl)
      have n2 : ν' 2 = a2.toInt := g'.ag 2 (Nat.le_of_ble_eq_true rfl)
      have n3 : ν' 3 = a3.toInt := g'.ag 3 (Nat.le_of_ble_eq_true rfl)
      have n4 : ν' 4 = a4.toInt := g'.ag 4 (Nat.le_of_ble_eq_true rfl)
      have n5 : ν' 5 = (μ.2.2.1 406 0).toInt := g'.ag 5 (Nat.le_of_ble_eq_true rfl)
      have n6 : ν' 6 = (μ.2.2.1 406 1).toInt := g'.ag 6 (Nat.le_of_ble_eq_true rfl)
      have n7 : ν' 7 = (μ.2.2.1 406 2).toInt := g'.ag 7 (Nat.le_of_ble_eq_true rfl)
      have n8 : ν' 8 = (μ.2.2.1 406 3).toInt := g'.ag 8 (Nat.le_of_ble_eq_true rfl)
      have n9 : ν' 9 = (μ.2.2.1 404 38).toInt := g'.ag 9 (Nat.le_of_ble_eq_true rfl)
      have n10 : ν' 10 = (μ.2.2.1 404 2).toInt := g'.ag 10 (Nat.le_of_ble_eq_true rfl)
      have sz0 : (μ'.2.2.1 404 2).toInt = ν' 10 + 0 := (g'.fa _ (List.Mem.tail _ (List.Mem.head _))).2
      have sz1 : (μ'.2.2.1 433 0).toInt = (μ.2.2.1 433 0).toInt := by rw [(g'.fr 433 nc_X12_slugs_433).1]
      have sz2 : (μ'.2.2.1 433 1).toInt = (μ.2.2.1 433 1).toInt := by rw [(g'.fr 433 nc_X12_slugs_433).1]
      have sz3 : (μ'.2.2.1 1 1).toInt = (μ.2.2.1 1 1).toInt := by rw [(g'.fr 1 nc_X12_slugs_1).1]
      have sz4 : (μ'.2.2.1 210 0).toInt = (μ.2.2.1 210 0).toInt := by rw [(g'.fr 210 nc_X12_slugs_210).1]
      have sz5 : (μ'.2.2.1 307 0).toInt = (μ.2.2.1 307 0).toInt := by rw [(g'.fr 307 nc_X12_slugs_307).1]
      have hw' : w.toInt = ν' 11 + 0 := hw
      have i1 : (0 : Int) ≤ ν' 1 ∧ ν' 1 ≤ 5 := g'.iv 1 (Nat.le_of_ble_eq_true rfl)
      have i2 : (0 : Int) ≤ ν' 2 ∧ ν' 2 ≤ 143 := g'.iv 2 (Nat.le_of_ble_eq_true rfl)
      have i3 : (0 : Int) ≤ ν' 3 ∧ ν' 3 ≤ 11 := g'.iv 3 (Nat.le_of_ble_eq_true rfl)
      have i4 : (0 : Int) ≤ ν' 4 ∧ ν' 4 ≤ 11 := g'.iv 4 (Nat.le_of_ble_eq_true rfl)
      have i5 : (1 : Int) ≤ ν' 5 ∧ ν' 5 ≤ 12 := g'.iv 5 (Nat.le_of_ble_eq_true rfl)
      have i6 : (1 : Int) ≤ ν' 6 ∧ ν' 6 ≤ 12 := g'.iv 6 (Nat.le_of_ble_eq_true rfl)
      have d0 : ν' 3 - ν' 5 ≤ (-1) := (g'.dc _ (List.Mem.head _)).2.2
      have d1 : ν' 4 - ν' 6 ≤ (-1) := (g'.dc _ (List.Mem.tail _ (List.Mem.head _))).2.2
      exact hK _ w μ' ⟨⟨g'.sh, g'.hi, (g'.fl _ (List.Mem.tail _ (List.Mem.tail _ (List.Mem.tail _ (List.Mem.head _))))).2, (g'.fl _ (List.Mem.tail _ (List.Mem.tail _ (List.Mem.tail _ (List.Mem.tail _ (List.Mem.head _)))))).2, (g'.fl _ (List.Mem.tail _ (List.Mem.tail _ (List.Mem.tail _ (List.Mem.tail _ (List.Mem.tail _ (List.Mem.head _))))))).2, (g'.fl _ (List.Mem.tail _ (List.Mem.tail _ (List.Mem.tail _ (List.Mem.tail _ (List.Mem.tail _ (List.Mem.tail _ (List.Mem.head _)))))))).2⟩, rfl, by omega, ⟨sz3, sz4, sz5⟩, g'.fr⟩
    exact absurd hP List.not_mem_nil
abbrev ck_X12_spell (a1 a2 a3 : Int32) (μ : dw_S) (r : Option Value) (w : Int32) (μ' : dw_S) : Prop := (INV μ') ∧ (r = some (.int w)) ∧ ((μ'.2.2.1 404 2).toInt = (μ.2.2.1 404 2).toInt ∧ (μ'.2.2.1 433 0).toInt = (μ.2.2.1 433 0).toInt ∧ (μ'.2.2.1 433 1).toInt = (μ.2.2.1 433 1).toInt) ∧ ((μ'.2.2.1 1 1).toInt = (μ.2.2.1 1 1).toInt ∧ (μ'.2.2.1 210 0).toInt = (μ.2.2.1 210 0).toInt ∧ (μ'.2.2.1 307 0).toInt = (μ.2.2.1 307 0).toInt) ∧ (∀ a, a ∉ [404, 411, 412, 413, 414, 415, 416, 417, 418, 419, 422] → μ'.2.2.1 a = μ.2.2.1 a ∧ μ'.2.2.2 a = μ.2.2.2 a)
theorem nc_X12_spell_433 : 433 ∉ ([404, 411, 412, 413, 414, 415, 416, 417, 418, 419, 422] : List Nat) := by decide
theorem nc_X12_spell_1 : 1 ∉ ([404, 411, 412, 413, 414, 415, 416, 417, 418, 419, 422] : List Nat) := by decide
theorem nc_X12_spell_210 : 210 ∉ ([404, 411, 412, 413, 414, 415, 416, 417, 418, 419, 422] : List Nat) := by decide
theorem nc_X12_spell_307 : 307 ∉ ([404, 411, 412, 413, 414, 415, 416, 417, 418, 419, 422] : List Nat) := by decide
theorem cl_X12_spell {μ : dw_S} {K : dw_K} {a1 a2 a3 : Int32} (hI : INV μ) (hK : ∀ (r : Option Value) (w : Int32) (μ' : dw_S), ck_X12_spell a1 a2 a3 μ r w μ' → K r μ') : t_X12_spell [.ref 404, .int a1, .int a2, .int a3] μ K := by
  have h_406_0 := hI.2.1 406 0
  rw [sgc_3] at h_406_0
  have h_406_1 := hI.2.1 406 1
  rw [sgc_4] at h_406_1
  have h_406_2 := hI.2.1 406 2
  rw [sgc_5] at h_406_2
  have h_406_3 := hI.2.1 406 3
  rw [sgc_6] at h_406_3
  have h_404_38 := hI.2.1 404 38
  rw [sgc_7] at h_404_38
  have h_404_2 := hI.2.1 404 2
  rw [sgc_8] at h_404_2
  refine al_364 355 (by decide) (fun s => [(0 : Int), (a1.toInt : Int), (a2.toInt : Int), (a3.toInt : Int), ((μ.2.2.1 406 0).toInt : Int), ((μ.2.2.1 406 1).toInt : Int), ((μ.2.2.1 406 2).toInt : Int), ((μ.2.2.1 406 3).toInt : Int), ((μ.2.2.1 404 38).toInt : Int), ((μ.2.2.1 404 2).toInt : Int)].getD s (0 : Int)) [.ref 404, .int a1, .int a2, .int a3] μ K ⟨hI.1, hI.2.1, fun _ _ => ⟨rfl, rfl⟩, rfl, Nat.le_refl _, Nat.le_of_ble_eq_true rfl, fun _ _ => rfl, ?_, fun q hq => absurd hq List.not_mem_nil, ?_, trivial, ?_, ?_⟩ ?_
  · exact iv2_ok (iv := (in_355).pre.iv) (vs := [(0 : Int), (a1.toInt : Int), (a2.toInt : Int), (a3.toInt : Int), ((μ.2.2.1 406 0).toInt : Int), ((μ.2.2.1 406 1).toInt : Int), ((μ.2.2.1 406 2).toInt : Int), ((μ.2.2.1 406 3).toInt : Int), ((μ.2.2.1 404 38).toInt : Int), ((μ.2.2.1 404 2).toInt : Int)]) ⟨⟨Int.le_refl 0, Int.le_refl 0⟩, ⟨dx_b1 _, dx_b2 _⟩, ⟨dx_b1 _, dx_b2 _⟩, ⟨dx_b1 _, dx_b2 _⟩, h_406_0, h_406_1, h_406_2, h_406_3, h_404_38, h_404_2, trivial⟩
  · exact ⟨⟨404, List.Mem.head _, rfl⟩, ⟨Nat.le_of_ble_eq_true rfl, a1, rfl, (Int.add_zero _).symm⟩, ⟨Nat.le_of_ble_eq_true rfl, a2, rfl, (Int.add_zero _).symm⟩, ⟨Nat.le_of_ble_eq_true rfl, a3, rfl, (Int.add_zero _).symm⟩, trivial⟩
  · exact dx_aL.all (l := (in_355).pre.fa) ⟨⟨Nat.le_of_ble_eq_true rfl, (Int.add_zero _).symm⟩, ⟨Nat.le_of_ble_eq_true rfl, (Int.add_zero _).symm⟩, ⟨Nat.le_of_ble_eq_true rfl, (Int.add_zero _).symm⟩, ⟨Nat.le_of_ble_eq_true rfl, (Int.add_zero _).symm⟩, ⟨Nat.le_of_ble_eq_true rfl, (Int.add_zero _).symm⟩, ⟨Nat.le_of_ble_eq_true rfl, (Int.add_zero _).symm⟩, trivial⟩
  · exact dx_aL.all (l := (in_355).pre.fl) ⟨⟨Nat.le_of_ble_eq_true rfl, hI.2.2.1⟩, ⟨Nat.le_of_ble_eq_true rfl, hI.2.2.2.1⟩, ⟨Nat.le_of_ble_eq_true rfl, hI.2.2.2.2.1⟩, ⟨Nat.le_of_ble_eq_true rfl, hI.2.2.2.2.2⟩, trivial⟩
  · intro r μ' ν' P hP g'
    rcases List.mem_cons.mp hP with rfl | hP
    · obtain ⟨w, rfl, hw⟩ := r_int g'.gl
      have n0 : ν' 0 = 0 := g'.ag 0 (Nat.le_of_ble_eq_true rfl)
      have n1 : ν' 1 = a1.toInt := g'.ag 1 (Nat.le_of_ble_eq_true rfl)
      have n2 : ν' 2 = a2.toInt := g'.ag 2 (Nat.le_of_ble_eq_true rfl)
      have n3 : ν' 3 = a3.toInt := g'.ag 3 (Nat.le_of_ble_eq_true rfl)
      have n4 : ν' 4 = (μ.2.2.1 406 0).toInt := g'.ag 4 (Nat.le_of_ble_eq_true rfl)
      have n5 : ν' 5 = (μ.2.2.1 406 1).toInt := g'.ag 5 (Nat.le_of_ble_eq_true rfl)
      have n6 : ν' 6 = (μ.2.2.1 406 2).toInt := g'.ag 6 (Nat.le_of_ble_eq_true rfl)
      have n7 : ν' 7 = (μ.2.2.1 406 3).toInt := g'.ag 7 (Nat.le_of_ble_eq_true rfl)
      have n8 : ν' 8 = (μ.2.2.1 404 38).toInt := g'.ag 8 (Nat.le_of_ble_eq_true rfl)
      have n9 : ν' 9 = (μ.2.2.1 404 2).toInt := g'.ag 9 (Nat.le_of_ble_eq_true rfl)
      have sz0 : (μ'.2.2.1 404 2).toInt = ν' 9 + 0 := (g'.fa _ (List.Mem.tail _ (List.Mem.head _))).2
      have sz1 : (μ'.2.2.1 433 0).toInt = (μ.2.2.1 433 0).toInt := by rw [(g'.fr 433 nc_X12_spell_433).1]
      have sz2 : (μ'.2.2.1 433 1).toInt = (μ.2.2.1 433 1).toInt := by rw [(g'.fr 433 nc_X12_spell_433).1]
      have sz3 : (μ'.2.2.1 1 1).toInt = (μ.2.2.1 1 1).toInt := by rw [(g'.fr 1 nc_X12_spell_1).1]
      have sz4 : (μ'.2.2.1 210 0).toInt = (μ.2.2.1 210 0).toInt := by rw [(g'.fr 210 nc_X12_spell_210).1]
      have sz5 : (μ'.2.2.1 307 0).toInt = (μ.2.2.1 307 0).toInt := by rw [(g'.fr 307 nc_X12_spell_307).1]
      have hw' : w.toInt = ν' 0 + (-1) := hw
      exact hK _ w μ' ⟨⟨g'.sh, g'.hi, (g'.fl _ (List.Mem.head _)).2, (g'.fl _ (List.Mem.tail _ (List.Mem.head _))).2, (g'.fl _ (List.Mem.tail _ (List.Mem.tail _ (List.Mem.head _)))).2, (g'.fl _ (List.Mem.tail _ (List.Mem.tail _ (List.Mem.tail _ (List.Mem.head _))))).2⟩, rfl, by omega, ⟨sz3, sz4, sz5⟩, g'.fr⟩
    rcases List.mem_cons.mp hP with rfl | hP
    · obtain ⟨w, rfl, hw⟩ := r_int g'.gl
      have n0 : ν' 0 = 0 := g'.ag 0 (Nat.le_of_ble_eq_true rfl)
      have n1 : ν' 1 = a1.toInt := g'.ag 1 (Nat.le_of_ble_eq_true rfl)
      have n2 : ν' 2 = a2.toInt := g'.ag 2 (Nat.le_of_ble_eq_true rfl)
      have n3 : ν' 3 = a3.toInt := g'.ag 3 (Nat.le_of_ble_eq_true rfl)
      have n4 : ν' 4 = (μ.2.2.1 406 0).toInt := g'.ag 4 (Nat.le_of_ble_eq_true rfl)
      have n5 : ν' 5 = (μ.2.2.1 406 1).toInt := g'.ag 5 (Nat.le_of_ble_eq_true rfl)
      have n6 : ν' 6 = (μ.2.2.1 406 2).toInt := g'.ag 6 (Nat.le_of_ble_eq_true rfl)
      have n7 : ν' 7 = (μ.2.2.1 406 3).toInt := g'.ag 7 (Nat.le_of_ble_eq_true rfl)
      have n8 : ν' 8 = (μ.2.2.1 404 38).toInt := g'.ag 8 (Nat.le_of_ble_eq_true rfl)
      have n9 : ν' 9 = (μ.2.2.1 404 2).toInt := g'.ag 9 (Nat.le_of_ble_eq_true rfl)
      have sz0 : (μ'.2.2.1 404 2).toInt = ν' 9 + 0 := (g'.fa _ (List.Mem.tail _ (List.Mem.head _))).2
      have sz1 : (μ'.2.2.1 433 0).toInt = (μ.2.2.1 433 0).toInt := by rw [(g'.fr 433 nc_X12_spell_433).1]
      have sz2 : (μ'.2.2.1 433 1).toInt = (μ.2.2.1 433 1).toInt := by rw [(g'.fr 433 nc_X12_spell_433).1]
      have sz3 : (μ'.2.2.1 1 1).toInt = (μ.2.2.1 1 1).toInt := by rw [(g'.fr 1 nc_X12_spell_1).1]
      have sz4 : (μ'.2.2.1 210 0).toInt = (μ.2.2.1 210 0).toInt := by rw [(g'.fr 210 nc_X12_spell_210).1]
      have sz5 : (μ'.2.2.1 307 0).toInt = (μ.2.2.1 307 0).toInt := by rw [(g'.fr 307 nc_X12_spell_307).1]
      have hw' : w.toInt = ν' 10 + 0 := hw
      have i1 : (0 : Int) ≤ ν' 1 ∧ ν' 1 ≤ 5 := g'.iv 1 (Nat.le_of_ble_eq_true rfl)
      have i2 : (0 : Int) ≤ ν' 2 ∧ ν' 2 ≤ 11 := g'.iv 2 (Nat.le_of_ble_eq_true rfl)
      have i3 : (0 : Int) ≤ ν' 3 ∧ ν' 3 ≤ 11 := g'.iv 3 (Nat.le_of_ble_eq_true rfl)
      have i4 : (1 : Int) ≤ ν' 4 ∧ ν' 4 ≤ 12 := g'.iv 4 (Nat.le_of_ble_eq_true rfl)
      have i5 : (1 : Int) ≤ ν' 5 ∧ ν' 5 ≤ 12 := g'.iv 5 (Nat.le_of_ble_eq_true rfl)
      have d0 : ν' 2 - ν' 4 ≤ (-1) := (g'.dc _ (List.Mem.head _)).2.2
      have d1 : ν' 3 - ν' 5 ≤ (-1) := (g'.dc _ (List.Mem.tail _ (List.Mem.head _))).2.2
      exact hK _ w μ' ⟨⟨g'.sh, g'.hi, (g'.fl _ (List.Mem.tail _ (List.Mem.tail _ (List.Mem.head _)))).2, (g'.fl _ (List.Mem.tail _ (List.Mem.tail _ (List.Mem.tail _ (List.Mem.head _))))).2, (g'.fl _ (List.Mem.tail _ (List.Mem.tail _ (List.Mem.tail _ (List.Mem.tail _ (List.Mem.head _)))))).2, (g'.fl _ (List.Mem.tail _ (List.Mem.tail _ (List.Mem.tail _ (List.Mem.tail _ (List.Mem.tail _ (List.Mem.head _))))))).2⟩, rfl, by omega, ⟨sz3, sz4, sz5⟩, g'.fr⟩
    exact absurd hP List.not_mem_nil
abbrev ck_X12_story (a1 a2 a3 a4 a5 : Int32) (μ : dw_S) (r : Option Value) (w : Int32) (μ' : dw_S) : Prop := (INV μ') ∧ (r = some (.int w)) ∧ ((μ'.2.2.1 404 2).toInt = (μ.2.2.1 404 2).toInt ∧ (μ'.2.2.1 433 0).toInt = (μ.2.2.1 433 0).toInt ∧ (μ'.2.2.1 433 1).toInt = (μ.2.2.1 433 1).toInt) ∧ ((μ'.2.2.1 1 1).toInt = (μ.2.2.1 1 1).toInt ∧ (μ'.2.2.1 210 0).toInt = (μ.2.2.1 210 0).toInt ∧ (μ'.2.2.1 307 0).toInt = (μ.2.2.1 307 0).toInt) ∧ (∀ a, a ∉ [404, 411, 412, 413, 414, 415, 416, 417, 418, 419] → μ'.2.2.1 a = μ.2.2.1 a ∧ μ'.2.2.2 a = μ.2.2.2 a)
theorem nc_X12_story_433 : 433 ∉ ([404, 411, 412, 413, 414, 415, 416, 417, 418, 419] : List Nat) := by decide
theorem nc_X12_story_1 : 1 ∉ ([404, 411, 412, 413, 414, 415, 416, 417, 418, 419] : List Nat) := by decide
theorem nc_X12_story_210 : 210 ∉ ([404, 411, 412, 413, 414, 415, 416, 417, 418, 419] : List Nat) := by decide
theorem nc_X12_story_307 : 307 ∉ ([404, 411, 412, 413, 414, 415, 416, 417, 418, 419] : List Nat) := by decide
theorem cl_X12_story {μ : dw_S} {K : dw_K} {a1 a2 a3 a4 a5 : Int32} (hI : INV μ) (hK : ∀ (r : Option Value) (w : Int32) (μ' : dw_S), ck_X12_story a1 a2 a3 a4 a5 μ r w μ' → K r μ') : t_X12_story [.ref 404, .int a1, .int a2, .int a3, .int a4, .int a5] μ K := by
  have h_406_0 := hI.2.1 406 0
  rw [sgc_3] at h_406_0
  have h_406_1 := hI.2.1 406 1
  rw [sgc_4] at h_406_1
  have h_406_2 := hI.2.1 406 2
  rw [sgc_5] at h_406_2
  have h_406_3 := hI.2.1 406 3
  rw [sgc_6] at h_406_3
  have h_404_38 := hI.2.1 404 38
  rw [sgc_7] at h_404_38
  have h_404_2 := hI.2.1 404 2
  rw [sgc_8] at h_404_2
  refine al_364 356 (by decide) (fun s => [(0 : Int), (a1.toInt : Int), (a2.toInt : Int), (a3.toInt : Int), (a4.toInt : Int), (a5.toInt : Int), ((μ.2.2.1 406 0).toInt : Int), ((μ.2.2.1 406 1).toInt : Int), ((μ.2.2.1 406 2).toInt : Int), ((μ.2.2.1 406 3).toInt : Int), ((μ.2.2.1 404 38).toInt : Int), ((μ.2.2.1 404 2).toInt : Int)].getD s (0 : Int)) [.ref 404, .int a1, .int a2, .int a3, .int a4, .int a5] μ K ⟨hI.1, hI.2.1, fun _ _ => ⟨rfl, rfl⟩, rfl, Nat.le_refl _, Nat.le_of_ble_eq_true rfl, fun _ _ => rfl, ?_, fun q hq => absurd hq List.not_mem_nil, ?_, trivial, ?_, ?_⟩ ?_
  · exact iv2_ok (iv := (in_356).pre.iv) (vs := [(0 : Int), (a1.toInt : Int), (a2.toInt : Int), (a3.toInt : Int), (a4.toInt : Int), (a5.toInt : Int), ((μ.2.2.1 406 0).toInt : Int), ((μ.2.2.1 406 1).toInt : Int), ((μ.2.2.1 406 2).toInt : Int), ((μ.2.2.1 406 3).toInt : Int), ((μ.2.2.1 404 38).toInt : Int), ((μ.2.2.1 404 2).toInt : Int)]) ⟨⟨Int.le_refl 0, Int.le_refl 0⟩, ⟨dx_b1 _, dx_b2 _⟩, ⟨dx_b1 _, dx_b2 _⟩, ⟨dx_b1 _, dx_b2 _⟩, ⟨dx_b1 _, dx_b2 _⟩, ⟨dx_b1 _, dx_b2 _⟩, h_406_0, h_406_1, h_406_2, h_406_3, h_404_38, h_404_2, trivial⟩
  · exact ⟨⟨404, List.Mem.head _, rfl⟩, ⟨Nat.le_of_ble_eq_true rfl, a1, rfl, (Int.add_zero _).symm⟩, ⟨Nat.le_of_ble_eq_true rfl, a2, rfl, (Int.add_zero _).symm⟩, ⟨Nat.le_of_ble_eq_true rfl, a3, rfl, (Int.add_zero _).symm⟩, ⟨Nat.le_of_ble_eq_true rfl, a4, rfl, (Int.add_zero _).symm⟩, ⟨Nat.le_of_ble_eq_true rfl, a5, rfl, (Int.add_zero _).symm⟩, trivial⟩
  · exact dx_aL.all (l := (in_356).pre.fa) ⟨⟨Nat.le_of_ble_eq_true rfl, (Int.add_zero _).symm⟩, ⟨Nat.le_of_ble_eq_true rfl, (Int.add_zero _).symm⟩, ⟨Nat.le_of_ble_eq_true rfl, (Int.add_zero _).symm⟩, ⟨Nat.le_of_ble_eq_true rfl, (Int.add_zero _).symm⟩, ⟨Nat.le_of_ble_eq_true rfl, (Int.add_zero _).symm⟩, ⟨Nat.le_of_ble_eq_true rfl, (Int.add_zero _).symm⟩, trivial⟩
  · exact dx_aL.all (l := (in_356).pre.fl) ⟨⟨Nat.le_of_ble_eq_true rfl, hI.2.2.1⟩, ⟨Nat.le_of_ble_eq_true rfl, hI.2.2.2.1⟩, ⟨Nat.le_of_ble_eq_true rfl, hI.2.2.2.2.1⟩, ⟨Nat.le_of_ble_eq_true rfl, hI.2.2.2.2.2⟩, trivial⟩
  · intro r μ' ν' P hP g'
    rcases List.mem_cons.mp hP with rfl | hP
    · obtain ⟨w, rfl, hw⟩ := r_int g'.gl
      have n0 : ν' 0 = 0 := g'.ag 0 (Nat.le_of_ble_eq_true rfl)
      have n1 : ν' 1 = a1.toInt := g'.ag 1 (Nat.le_of_ble_eq_true rfl)
      have n2 : ν' 2 = a2.toInt := g'.ag 2 (Nat.le_of_ble_eq_true rfl)
      have n3 : ν' 3 = a3.toInt := g'.ag 3 (Nat.le_of_ble_eq_true rfl)
      have n4 : ν' 4 = a4.toInt := g'.ag 4 (Nat.le_of_ble_eq_true rfl)
      have n5 : ν' 5 = a5.toInt := g'.ag 5 (Nat.le_of_ble_eq_true rfl)
      have n6 : ν' 6 = (μ.2.2.1 406 0).toInt := g'.ag 6 (Nat.le_of_ble_eq_true rfl)
      have n7 : ν' 7 = (μ.2.2.1 406 1).toInt := g'.ag 7 (Nat.le_of_ble_eq_true rfl)
      have n8 : ν' 8 = (μ.2.2.1 406 2).toInt := g'.ag 8 (Nat.le_of_ble_eq_true rfl)
      have n9 : ν' 9 = (μ.2.2.1 406 3).toInt := g'.ag 9 (Nat.le_of_ble_eq_true rfl)
      have n10 : ν' 10 = (μ.2.2.1 404 38).toInt := g'.ag 10 (Nat.le_of_ble_eq_true rfl)
      have n11 : ν' 11 = (μ.2.2.1 404 2).toInt := g'.ag 11 (Nat.le_of_ble_eq_true rfl)
      have sz0 : (μ'.2.2.1 404 2).toInt = ν' 11 + 0 := (g'.fa _ (List.Mem.tail _ (List.Mem.head _))).2
      have sz1 : (μ'.2.2.1 433 0).toInt = (μ.2.2.1 433 0).toInt := by rw [(g'.fr 433 nc_X12_story_433).1]
      have sz2 : (μ'.2.2.1 433 1).toInt = (μ.2.2.1 433 1).toInt := by rw [(g'.fr 433 nc_X12_story_433).1]
      have sz3 : (μ'.2.2.1 1 1).toInt = (μ.2.2.1 1 1).toInt := by rw [(g'.fr 1 nc_X12_story_1).1]
      have sz4 : (μ'.2.2.1 210 0).toInt = (μ.2.2.1 210 0).toInt := by rw [(g'.fr 210 nc_X12_story_210).1]
      have sz5 : (μ'.2.2.1 307 0).toInt = (μ.2.2.1 307 0).toInt := by rw [(g'.fr 307 nc_X12_story_307).1]
      have hw' : w.toInt = ν' 0 + (-1) := hw
      exact hK _ w μ' ⟨⟨g'.sh, g'.hi, (g'.fl _ (List.Mem.head _)).2, (g'.fl _ (List.Mem.tail _ (List.Mem.head _))).2, (g'.fl _ (List.Mem.tail _ (List.Mem.tail _ (List.Mem.head _)))).2, (g'.fl _ (List.Mem.tail _ (List.Mem.tail _ (List.Mem.tail _ (List.Mem.head _))))).2⟩, rfl, by omega, ⟨sz3, sz4, sz5⟩, g'.fr⟩
    rcases List.mem_cons.mp hP with rfl | hP
    · obtain ⟨w, rfl, hw⟩ := r_int g'.gl
      have n0 : ν' 0 = 0 := g'.ag 0 (Nat.le_of_ble_eq_true rfl)
      have n1 : ν' 1 = a1.toInt := g'.ag 1 (Nat.le_of_ble_eq_true rfl)
      have n2 : ν' 2 = a2.toInt := g'.ag 2 (Nat.le_of_ble_eq_true rfl)
      have n3 : ν' 3 = a3.toInt := g'.ag 3 (Nat.le_of_ble_eq_true rfl)
      have n4 : ν' 4 = a4.toInt := g'.ag 4 (Nat.le_of_ble_eq_true rfl)
      have n5 : ν' 5 = a5.toInt := g'.ag 5 (Nat.le_of_ble_eq_true rfl)
      have n6 : ν' 6 = (μ.2.2.1 406 0).toInt := g'.ag 6 (Nat.le_of_ble_eq_true rfl)
      have n7 : ν' 7 = (μ.2.2.1 406 1).toInt := g'.ag 7 (Nat.le_of_ble_eq_true rfl)
      have n8 : ν' 8 = (μ.2.2.1 406 2).toInt := g'.ag 8 (Nat.le_of_ble_eq_true rfl)
      have n9 : ν' 9 = (μ.2.2.1 406 3).toInt := g'.ag 9 (Nat.le_of_ble_eq_true rfl)
      have n10 : ν' 10 = (μ.2.2.1 404 38).toInt := g'.ag 10 (Nat.le_of_ble_eq_true rfl)
      have n11 : ν' 11 = (μ.2.2.1 404 2).toInt := g'.ag 11 (Nat.le_of_ble_eq_true rfl)
      have sz0 : (μ'.2.2.1 404 2).toInt = ν' 11 + 0 := (g'.fa _ (List.Mem.tail _ (List.Mem.head _))).2
      have sz1 : (μ'.2.2.1 433 0).toInt = (μ.2.2.1 433 0).toInt := by rw [(g'.fr 433 nc_X12_story_433).1]
      have sz2 : (μ'.2.2.1 433 1).toInt = (μ.2.2.1 433 1).toInt := by rw [(g'.fr 433 nc_X12_story_433).1]
      have sz3 : (μ'.2.2.1 1 1).toInt = (μ.2.2.1 1 1).toInt := by rw [(g'.fr 1 nc_X12_story_1).1]
      have sz4 : (μ'.2.2.1 210 0).toInt = (μ.2.2.1 210 0).toInt := by rw [(g'.fr 210 nc_X12_story_210).1]
      have sz5 : (μ'.2.2.1 307 0).toInt = (μ.2.2.1 307 0).toInt := by rw [(g'.fr 307 nc_X12_story_307).1]
      have hw' : w.toInt = ν' 12 + 0 := hw
      have i1 : (0 : Int) ≤ ν' 1 ∧ ν' 1 ≤ 5 := g'.iv 1 (Nat.le_of_ble_eq_true rfl)
      have i2 : (0 : Int) ≤ ν' 2 ∧ ν' 2 ≤ 11 := g'.iv 2 (Nat.le_of_ble_eq_true rfl)
      have i3 : (0 : Int) ≤ ν' 3 ∧ ν' 3 ≤ 11 := g'.iv 3 (Nat.le_of_ble_eq_true rfl)
      have i4 : (0 : Int) ≤ ν' 4 ∧ ν' 4 ≤ 143 := g'.iv 4 (Nat.le_of_ble_eq_true rfl)
      have i5 : (0 : Int) ≤ ν' 5 ∧ ν' 5 ≤ 2 := g'.iv 5 (Nat.le_of_ble_eq_true rfl)
      have i6 : (1 : Int) ≤ ν' 6 ∧ ν' 6 ≤ 12 := g'.iv 6 (Nat.le_of_ble_eq_true rfl)
      have i7 : (1 : Int) ≤ ν' 7 ∧ ν' 7 ≤ 12 := g'.iv 7 (Nat.le_of_ble_eq_true rfl)
      have d0 : ν' 2 - ν' 6 ≤ (-1) := (g'.dc _ (List.Mem.head _)).2.2
      have d1 : ν' 3 - ν' 7 ≤ (-1) := (g'.dc _ (List.Mem.tail _ (List.Mem.head _))).2.2
      exact hK _ w μ' ⟨⟨g'.sh, g'.hi, (g'.fl _ (List.Mem.tail _ (List.Mem.tail _ (List.Mem.head _)))).2, (g'.fl _ (List.Mem.tail _ (List.Mem.tail _ (List.Mem.tail _ (List.Mem.head _))))).2, (g'.fl _ (List.Mem.tail _ (List.Mem.tail _ (List.Mem.tail _ (List.Mem.tail _ (List.Mem.head _)))))).2, (g'.fl _ (List.Mem.tail _ (List.Mem.tail _ (List.Mem.tail _ (List.Mem.tail _ (List.Mem.tail _ (List.Mem.head _))))))).2⟩, rfl, by omega, ⟨sz3, sz4, sz5⟩, g'.fr⟩
    exact absurd hP List.not_mem_nil
abbrev ck_X12_tries (a1 a2 : Int32) (μ : dw_S) (r : Option Value) (w : Int32) (μ' : dw_S) : Prop := (INV μ') ∧ (r = some (.int w)) ∧ ((μ'.2.2.1 404 2).toInt = 0 ∧ (μ'.2.2.1 433 0).toInt = (μ.2.2.1 433 0).toInt ∧ (μ'.2.2.1 433 1).toInt = (μ.2.2.1 433 1).toInt) ∧ ((μ'.2.2.1 1 1).toInt = (μ.2.2.1 1 1).toInt ∧ (μ'.2.2.1 210 0).toInt = (μ.2.2.1 210 0).toInt ∧ (μ'.2.2.1 307 0).toInt = (μ.2.2.1 307 0).toInt) ∧ (∀ a, a ∉ [404, 411, 412, 413, 414, 415, 416, 417, 418, 419, 428, 429, 430] → μ'.2.2.1 a = μ.2.2.1 a ∧ μ'.2.2.2 a = μ.2.2.2 a)
theorem nc_X12_tries_433 : 433 ∉ ([404, 411, 412, 413, 414, 415, 416, 417, 418, 419, 428, 429, 430] : List Nat) := by decide
theorem nc_X12_tries_1 : 1 ∉ ([404, 411, 412, 413, 414, 415, 416, 417, 418, 419, 428, 429, 430] : List Nat) := by decide
theorem nc_X12_tries_210 : 210 ∉ ([404, 411, 412, 413, 414, 415, 416, 417, 418, 419, 428, 429, 430] : List Nat) := by decide
theorem nc_X12_tries_307 : 307 ∉ ([404, 411, 412, 413, 414, 415, 416, 417, 418, 419, 428, 429, 430] : List Nat) := by decide
theorem cl_X12_tries {μ : dw_S} {K : dw_K} {a1 a2 : Int32} (hI : INV μ) (hK : ∀ (r : Option Value) (w : Int32) (μ' : dw_S), ck_X12_tries a1 a2 μ r w μ' → K r μ') : t_X12_tries [.ref 404, .int a1, .int a2] μ K := by
  have h_406_0 := hI.2.1 406 0
  rw [sgc_3] at h_406_0
  have h_406_1 := hI.2.1 406 1
  rw [sgc_4] at h_406_1
  have h_406_2 := hI.2.1 406 2
  rw [sgc_5] at h_406_2
  have h_406_3 := hI.2.1 406 3
  rw [sgc_6] at h_406_3
  have h_404_38 := hI.2.1 404 38
  rw [sgc_7] at h_404_38
  have h_404_2 := hI.2.1 404 2
  rw [sgc_8] at h_404_2
  refine al_364 358 (by decide) (fun s => [(0 : Int), (a1.toInt : Int), (a2.toInt : Int), ((μ.2.2.1 406 0).toInt : Int), ((μ.2.2.1 406 1).toInt : Int), ((μ.2.2.1 406 2).toInt : Int), ((μ.2.2.1 406 3).toInt : Int), ((μ.2.2.1 404 38).toInt : Int), ((μ.2.2.1 404 2).toInt : Int)].getD s (0 : Int)) [.ref 404, .int a1, .int a2] μ K ⟨hI.1, hI.2.1, fun _ _ => ⟨rfl, rfl⟩, rfl, Nat.le_refl _, Nat.le_of_ble_eq_true rfl, fun _ _ => rfl, ?_, fun q hq => absurd hq List.not_mem_nil, ?_, trivial, ?_, ?_⟩ ?_
  · exact iv2_ok (iv := (in_358).pre.iv) (vs := [(0 : Int), (a1.toInt : Int), (a2.toInt : Int), ((μ.2.2.1 406 0).toInt : Int), ((μ.2.2.1 406 1).toInt : Int), ((μ.2.2.1 406 2).toInt : Int), ((μ.2.2.1 406 3).toInt : Int), ((μ.2.2.1 404 38).toInt : Int), ((μ.2.2.1 404 2).toInt : Int)]) ⟨⟨Int.le_refl 0, Int.le_refl 0⟩, ⟨dx_b1 _, dx_b2 _⟩, ⟨dx_b1 _, dx_b2 _⟩, h_406_0, h_406_1, h_406_2, h_406_3, h_404_38, h_404_2, trivial⟩
  · exact ⟨⟨404, List.Mem.head _, rfl⟩, ⟨Nat.le_of_ble_eq_true rfl, a1, rfl, (Int.add_zero _).symm⟩, ⟨Nat.le_of_ble_eq_true rfl, a2, rfl, (Int.add_zero _).symm⟩, trivial⟩
  · exact dx_aL.all (l := (in_358).pre.fa) ⟨⟨Nat.le_of_ble_eq_true rfl, (Int.add_zero _).symm⟩, ⟨Nat.le_of_ble_eq_true rfl, (Int.add_zero _).symm⟩, ⟨Nat.le_of_ble_eq_true rfl, (Int.add_zero _).symm⟩, ⟨Nat.le_of_ble_eq_true rfl, (Int.add_zero _).symm⟩, ⟨Nat.le_of_ble_eq_true rfl, (Int.add_zero _).symm⟩, ⟨Nat.le_of_ble_eq_true rfl, (Int.add_zero _).symm⟩, trivial⟩
  · exact dx_aL.all (l := (in_358).pre.fl) ⟨⟨Nat.le_of_ble_eq_true rfl, hI.2.2.1⟩, ⟨Nat.le_of_ble_eq_true rfl, hI.2.2.2.1⟩, ⟨Nat.le_of_ble_eq_true rfl, hI.2.2.2.2.1⟩, ⟨Nat.le_of_ble_eq_true rfl, hI.2.2.2.2.2⟩, trivial⟩
  · intro r μ' ν' P hP g'
    rcases List.mem_cons.mp hP with rfl | hP
    · obtain ⟨w, rfl, hw⟩ := r_int g'.gl
      have n0 : ν' 0 = 0 := g'.ag 0 (Nat.le_of_ble_eq_true rfl)
      have n1 : ν' 1 = a1.toInt := g'.ag 1 (Nat.le_of_ble_eq_true rfl)
      have n2 : ν' 2 = a2.toInt := g'.ag 2 (Nat.le_of_ble_eq_true rfl)
      have n3 : ν' 3 = (μ.2.2.1 406 0).toInt := g'.ag 3 (Nat.le_of_ble_eq_true rfl)
      have n4 : ν' 4 = (μ.2.2.1 406 1).toInt := g'.ag 4 (Nat.le_of_ble_eq_true rfl)
      have n5 : ν' 5 = (μ.2.2.1 406 2).toInt := g'.ag 5 (Nat.le_of_ble_eq_true rfl)
      have n6 : ν' 6 = (μ.2.2.1 406 3).toInt := g'.ag 6 (Nat.le_of_ble_eq_true rfl)
      have n7 : ν' 7 = (μ.2.2.1 404 38).toInt := g'.ag 7 (Nat.le_of_ble_eq_true rfl)
      have n8 : ν' 8 = (μ.2.2.1 404 2).toInt := g'.ag 8 (Nat.le_of_ble_eq_true rfl)
      have sz0 : (μ'.2.2.1 404 2).toInt = ν' 0 + 0 := (g'.fa _ (List.Mem.tail _ (List.Mem.head _))).2
      have sz1 : (μ'.2.2.1 433 0).toInt = (μ.2.2.1 433 0).toInt := by rw [(g'.fr 433 nc_X12_tries_433).1]
      have sz2 : (μ'.2.2.1 433 1).toInt = (μ.2.2.1 433 1).toInt := by rw [(g'.fr 433 nc_X12_tries_433).1]
      have sz3 : (μ'.2.2.1 1 1).toInt = (μ.2.2.1 1 1).toInt := by rw [(g'.fr 1 nc_X12_tries_1).1]
      have sz4 : (μ'.2.2.1 210 0).toInt = (μ.2.2.1 210 0).toInt := by rw [(g'.fr 210 nc_X12_tries_210).1]
      have sz5 : (μ'.2.2.1 307 0).toInt = (μ.2.2.1 307 0).toInt := by rw [(g'.fr 307 nc_X12_tries_307).1]
      have hw' : w.toInt = ν' 0 + (-1) := hw
      exact hK _ w μ' ⟨⟨g'.sh, g'.hi, (g'.fl _ (List.Mem.head _)).2, (g'.fl _ (List.Mem.tail _ (List.Mem.head _))).2, (g'.fl _ (List.Mem.tail _ (List.Mem.tail _ (List.Mem.head _)))).2, (g'.fl _ (List.Mem.tail _ (List.Mem.tail _ (List.Mem.tail _ (List.Mem.head _))))).2⟩, rfl, by omega, ⟨sz3, sz4, sz5⟩, g'.fr⟩
    rcases List.mem_cons.mp hP with rfl | hP
    · obtain ⟨w, rfl, hw⟩ := r_int g'.gl
      have n0 : ν' 0 = 0 := g'.ag 0 (Nat.le_of_ble_eq_true rfl)
      have n1 : ν' 1 = a1.toInt := g'.ag 1 (Nat.le_of_ble_eq_true rfl)
      have n2 : ν' 2 = a2.toInt := g'.ag 2 (Nat.le_of_ble_eq_true rfl)
      have n3 : ν' 3 = (μ.2.2.1 406 0).toInt := g'.ag 3 (Nat.le_of_ble_eq_true rfl)
      have n4 : ν' 4 = (μ.2.2.1 406 1).toInt := g'.ag 4 (Nat.le_of_ble_eq_true rfl)
      have n5 : ν' 5 = (μ.2.2.1 406 2).toInt := g'.ag 5 (Nat.le_of_ble_eq_true rfl)
      have n6 : ν' 6 = (μ.2.2.1 406 3).toInt := g'.ag 6 (Nat.le_of_ble_eq_true rfl)
      have n7 : ν' 7 = (μ.2.2.1 404 38).toInt := g'.ag 7 (Nat.le_of_ble_eq_true rfl)
      have n8 : ν' 8 = (μ.2.2.1 404 2).toInt := g'.ag 8 (Nat.le_of_ble_eq_true rfl)
      have sz0 : (μ'.2.2.1 404 2).toInt = ν' 0 + 0 := (g'.fa _ (List.Mem.tail _ (List.Mem.head _))).2
      have sz1 : (μ'.2.2.1 433 0).toInt = (μ.2.2.1 433 0).toInt := by rw [(g'.fr 433 nc_X12_tries_433).1]
      have sz2 : (μ'.2.2.1 433 1).toInt = (μ.2.2.1 433 1).toInt := by rw [(g'.fr 433 nc_X12_tries_433).1]
      have sz3 : (μ'.2.2.1 1 1).toInt = (μ.2.2.1 1 1).toInt := by rw [(g'.fr 1 nc_X12_tries_1).1]
      have sz4 : (μ'.2.2.1 210 0).toInt = (μ.2.2.1 210 0).toInt := by rw [(g'.fr 210 nc_X12_tries_210).1]
      have sz5 : (μ'.2.2.1 307 0).toInt = (μ.2.2.1 307 0).toInt := by rw [(g'.fr 307 nc_X12_tries_307).1]
      have hw' : w.toInt = ν' 9 + 0 := hw
      have i1 : (0 : Int) ≤ ν' 1 ∧ ν' 1 ≤ 5 := g'.iv 1 (Nat.le_of_ble_eq_true rfl)
      have i2 : (0 : Int) ≤ ν' 2 ∧ ν' 2 ≤ 143 := g'.iv 2 (Nat.le_of_ble_eq_true rfl)
      exact hK _ w μ' ⟨⟨g'.sh, g'.hi, (g'.fl _ (List.Mem.head _)).2, (g'.fl _ (List.Mem.tail _ (List.Mem.head _))).2, (g'.fl _ (List.Mem.tail _ (List.Mem.tail _ (List.Mem.head _)))).2, (g'.fl _ (List.Mem.tail _ (List.Mem.tail _ (List.Mem.tail _ (List.Mem.head _))))).2⟩, rfl, by omega, ⟨sz3, sz4, sz5⟩, g'.fr⟩
    exact absurd hP List.not_mem_nil
abbrev ck_X12_unlike (a1 a2 : Int32) (μ : dw_S) (r : Option Value) (w : Int32) (μ' : dw_S) : Prop := (INV μ') ∧ (r = some (.int w)) ∧ ((μ'.2.2.1 404 2).toInt = (μ.2.2.1 404 2).toInt ∧ (μ'.2.2.1 433 0).toInt = (μ.2.2.1 433 0).toInt ∧ (μ'.2.2.1 433 1).toInt = (μ.2.2.1 433 1).toInt) ∧ ((μ'.2.2.1 1 1).toInt = (μ.2.2.1 1 1).toInt ∧ (μ'.2.2.1 210 0).toInt = (μ.2.2.1 210 0).toInt ∧ (μ'.2.2.1 307 0).toInt = (μ.2.2.1 307 0).toInt) ∧ (∀ a, a ∉ [404, 411, 412, 413, 414, 415, 416, 417, 418, 419, 426] → μ'.2.2.1 a = μ.2.2.1 a ∧ μ'.2.2.2 a = μ.2.2.2 a)
theorem nc_X12_unlike_433 : 433 ∉ ([404, 411, 412, 413, 414, 415, 416, 417, 418, 419, 426] : List Nat) := by decide
theorem nc_X12_unlike_1 : 1 ∉ ([404, 411, 412, 413, 414, 415, 416, 417, 418, 419, 426] : List Nat) := by decide
theorem nc_X12_unlike_210 : 210 ∉ ([404, 411, 412, 413, 414, 415, 416, 417, 418, 419, 426] : List Nat) := by decide
theorem nc_X12_unlike_307 : 307 ∉ ([404, 411, 412, 413, 414, 415, 416, 417, 418, 419, 426] : List Nat) := by decide
theorem cl_X12_unlike {μ : dw_S} {K : dw_K} {a1 a2 : Int32} (hI : INV μ) (hK : ∀ (r : Option Value) (w : Int32) (μ' : dw_S), ck_X12_unlike a1 a2 μ r w μ' → K r μ') : t_X12_unlike [.ref 404, .int a1, .int a2] μ K := by
  have h_406_0 := hI.2.1 406 0
  rw [sgc_3] at h_406_0
  have h_406_1 := hI.2.1 406 1
  rw [sgc_4] at h_406_1
  have h_406_2 := hI.2.1 406 2
  rw [sgc_5] at h_406_2
  have h_406_3 := hI.2.1 406 3
  rw [sgc_6] at h_406_3
  have h_404_38 := hI.2.1 404 38
  rw [sgc_7] at h_404_38
  have h_404_2 := hI.2.1 404 2
  rw [sgc_8] at h_404_2
  refine al_364 359 (by decide) (fun s => [(0 : Int), (a1.toInt : Int), (a2.toInt : Int), ((μ.2.2.1 406 0).toInt : Int), ((μ.2.2.1 406 1).toInt : Int), ((μ.2.2.1 406 2).toInt : Int), ((μ.2.2.1 406 3).toInt : Int), ((μ.2.2.1 404 38).toInt : Int), ((μ.2.2.1 404 2).toInt : Int)].getD s (0 : Int)) [.ref 404, .int a1, .int a2] μ K ⟨hI.1, hI.2.1, fun _ _ => ⟨rfl, rfl⟩, rfl, Nat.le_refl _, Nat.le_of_ble_eq_true rfl, fun _ _ => rfl, ?_, fun q hq => absurd hq List.not_mem_nil, ?_, trivial, ?_, ?_⟩ ?_
  · exact iv2_ok (iv := (in_359).pre.iv) (vs := [(0 : Int), (a1.toInt : Int), (a2.toInt : Int), ((μ.2.2.1 406 0).toInt : Int), ((μ.2.2.1 406 1).toInt : Int), ((μ.2.2.1 406 2).toInt : Int), ((μ.2.2.1 406 3).toInt : Int), ((μ.2.2.1 404 38).toInt : Int), ((μ.2.2.1 404 2).toInt : Int)]) ⟨⟨Int.le_refl 0, Int.le_refl 0⟩, ⟨dx_b1 _, dx_b2 _⟩, ⟨dx_b1 _, dx_b2 _⟩, h_406_0, h_406_1, h_406_2, h_406_3, h_404_38, h_404_2, trivial⟩
  · exact ⟨⟨404, List.Mem.head _, rfl⟩, ⟨Nat.le_of_ble_eq_true rfl, a1, rfl, (Int.add_zero _).symm⟩, ⟨Nat.le_of_ble_eq_true rfl, a2, rfl, (Int.add_zero _).symm⟩, trivial⟩
  · exact dx_aL.all (l := (in_359).pre.fa) ⟨⟨Nat.le_of_ble_eq_true rfl, (Int.add_zero _).symm⟩, ⟨Nat.le_of_ble_eq_true rfl, (Int.add_zero _).symm⟩, ⟨Nat.le_of_ble_eq_true rfl, (Int.add_zero _).symm⟩, ⟨Nat.le_of_ble_eq_true rfl, (Int.add_zero _).symm⟩, ⟨Nat.le_of_ble_eq_true rfl, (Int.add_zero _).symm⟩, ⟨Nat.le_of_ble_eq_true rfl, (Int.add_zero _).symm⟩, trivial⟩
  · exact dx_aL.all (l := (in_359).pre.fl) ⟨⟨Nat.le_of_ble_eq_true rfl, hI.2.2.1⟩, ⟨Nat.le_of_ble_eq_true rfl, hI.2.2.2.1⟩, ⟨Nat.le_of_ble_eq_true rfl, hI.2.2.2.2.1⟩, ⟨Nat.le_of_ble_eq_true rfl, hI.2.2.2.2.2⟩, trivial⟩
  · intro r μ' ν' P hP g'
    rcases List.mem_cons.mp hP with rfl | hP
    · obtain ⟨w, rfl, hw⟩ := r_int g'.gl
      have n0 : ν' 0 = 0 := g'.ag 0 (Nat.le_of_ble_eq_true rfl)
      have n1 : ν' 1 = a1.toInt := g'.ag 1 (Nat.le_of_ble_eq_true rfl)
      have n2 : ν' 2 = a2.toInt := g'.ag 2 (Nat.le_of_ble_eq_true rfl)
      have n3 : ν' 3 = (μ.2.2.1 406 0).toInt := g'.ag 3 (Nat.le_of_ble_eq_true rfl)
      have n4 : ν' 4 = (μ.2.2.1 406 1).toInt := g'.ag 4 (Nat.le_of_ble_eq_true rfl)
      have n5 : ν' 5 = (μ.2.2.1 406 2).toInt := g'.ag 5 (Nat.le_of_ble_eq_true rfl)
      have n6 : ν' 6 = (μ.2.2.1 406 3).toInt := g'.ag 6 (Nat.le_of_ble_eq_true rfl)
      have n7 : ν' 7 = (μ.2.2.1 404 38).toInt := g'.ag 7 (Nat.le_of_ble_eq_true rfl)
      have n8 : ν' 8 = (μ.2.2.1 404 2).toInt := g'.ag 8 (Nat.le_of_ble_eq_true rfl)
      have sz0 : (μ'.2.2.1 404 2).toInt = ν' 8 + 0 := (g'.fa _ (List.Mem.tail _ (List.Mem.head _))).2
      have sz1 : (μ'.2.2.1 433 0).toInt = (μ.2.2.1 433 0).toInt := by rw [(g'.fr 433 nc_X12_unlike_433).1]
      have sz2 : (μ'.2.2.1 433 1).toInt = (μ.2.2.1 433 1).toInt := by rw [(g'.fr 433 nc_X12_unlike_433).1]
      have sz3 : (μ'.2.2.1 1 1).toInt = (μ.2.2.1 1 1).toInt := by rw [(g'.fr 1 nc_X12_unlike_1).1]
      have sz4 : (μ'.2.2.1 210 0).toInt = (μ.2.2.1 210 0).toInt := by rw [(g'.fr 210 nc_X12_unlike_210).1]
      have sz5 : (μ'.2.2.1 307 0).toInt = (μ.2.2.1 307 0).toInt := by rw [(g'.fr 307 nc_X12_unlike_307).1]
      have hw' : w.toInt = ν' 0 + (-1) := hw
      exact hK _ w μ' ⟨⟨g'.sh, g'.hi, (g'.fl _ (List.Mem.head _)).2, (g'.fl _ (List.Mem.tail _ (List.Mem.head _))).2, (g'.fl _ (List.Mem.tail _ (List.Mem.tail _ (List.Mem.head _)))).2, (g'.fl _ (List.Mem.tail _ (List.Mem.tail _ (List.Mem.tail _ (List.Mem.head _))))).2⟩, rfl, by omega, ⟨sz3, sz4, sz5⟩, g'.fr⟩
    rcases List.mem_cons.mp hP with rfl | hP
    · obtain ⟨w, rfl, hw⟩ := r_int g'.gl
      have n0 : ν' 0 = 0 := g'.ag 0 (Nat.le_of_ble_eq_true rfl)
      have n1 : ν' 1 = a1.toInt := g'.ag 1 (Nat.le_of_ble_eq_true rfl)
      have n2 : ν' 2 = a2.toInt := g'.ag 2 (Nat.le_of_ble_eq_true rfl)
      have n3 : ν' 3 = (μ.2.2.1 406 0).toInt := g'.ag 3 (Nat.le_of_ble_eq_true rfl)
      have n4 : ν' 4 = (μ.2.2.1 406 1).toInt := g'.ag 4 (Nat.le_of_ble_eq_true rfl)
      have n5 : ν' 5 = (μ.2.2.1 406 2).toInt := g'.ag 5 (Nat.le_of_ble_eq_true rfl)
      have n6 : ν' 6 = (μ.2.2.1 406 3).toInt := g'.ag 6 (Nat.le_of_ble_eq_true rfl)
      have n7 : ν' 7 = (μ.2.2.1 404 38).toInt := g'.ag 7 (Nat.le_of_ble_eq_true rfl)
      have n8 : ν' 8 = (μ.2.2.1 404 2).toInt := g'.ag 8 (Nat.le_of_ble_eq_true rfl)
      have sz0 : (μ'.2.2.1 404 2).toInt = ν' 8 + 0 := (g'.fa _ (List.Mem.tail _ (List.Mem.head _))).2
      have sz1 : (μ'.2.2.1 433 0).toInt = (μ.2.2.1 433 0).toInt := by rw [(g'.fr 433 nc_X12_unlike_433).1]
      have sz2 : (μ'.2.2.1 433 1).toInt = (μ.2.2.1 433 1).toInt := by rw [(g'.fr 433 nc_X12_unlike_433).1]
      have sz3 : (μ'.2.2.1 1 1).toInt = (μ.2.2.1 1 1).toInt := by rw [(g'.fr 1 nc_X12_unlike_1).1]
      have sz4 : (μ'.2.2.1 210 0).toInt = (μ.2.2.1 210 0).toInt := by rw [(g'.fr 210 nc_X12_unlike_210).1]
      have sz5 : (μ'.2.2.1 307 0).toInt = (μ.2.2.1 307 0).toInt := by rw [(g'.fr 307 nc_X12_unlike_307).1]
      have hw' : w.toInt = ν' 9 + 0 := hw
      have i1 : (0 : Int) ≤ ν' 1 ∧ ν' 1 ≤ 5 := g'.iv 1 (Nat.le_of_ble_eq_true rfl)
      have i2 : (0 : Int) ≤ ν' 2 ∧ ν' 2 ≤ 5 := g'.iv 2 (Nat.le_of_ble_eq_true rfl)
      exact hK _ w μ' ⟨⟨g'.sh, g'.hi, (g'.fl _ (List.Mem.tail _ (List.Mem.tail _ (List.Mem.head _)))).2, (g'.fl _ (List.Mem.tail _ (List.Mem.tail _ (List.Mem.tail _ (List.Mem.head _))))).2, (g'.fl _ (List.Mem.tail _ (List.Mem.tail _ (List.Mem.tail _ (List.Mem.tail _ (List.Mem.head _)))))).2, (g'.fl _ (List.Mem.tail _ (List.Mem.tail _ (List.Mem.tail _ (List.Mem.tail _ (List.Mem.tail _ (List.Mem.head _))))))).2⟩, rfl, by omega, ⟨sz3, sz4, sz5⟩, g'.fr⟩
    exact absurd hP List.not_mem_nil
abbrev ck_X12_walk (a1 a2 a3 a4 : Int32) (μ : dw_S) (r : Option Value) (w : Int32) (μ' : dw_S) : Prop := (INV μ') ∧ (r = some (.int w)) ∧ ((μ'.2.2.1 404 2).toInt = (μ.2.2.1 404 2).toInt ∧ (μ'.2.2.1 433 0).toInt = (μ.2.2.1 433 0).toInt ∧ (μ'.2.2.1 433 1).toInt = (μ.2.2.1 433 1).toInt) ∧ ((μ'.2.2.1 1 1).toInt = (μ.2.2.1 1 1).toInt ∧ (μ'.2.2.1 210 0).toInt = (μ.2.2.1 210 0).toInt ∧ (μ'.2.2.1 307 0).toInt = (μ.2.2.1 307 0).toInt) ∧ (∀ a, a ∉ [404, 411, 412, 413, 414, 415, 416, 417, 418, 419, 425] → μ'.2.2.1 a = μ.2.2.1 a ∧ μ'.2.2.2 a = μ.2.2.2 a)
theorem nc_X12_walk_433 : 433 ∉ ([404, 411, 412, 413, 414, 415, 416, 417, 418, 419, 425] : List Nat) := by decide
theorem nc_X12_walk_1 : 1 ∉ ([404, 411, 412, 413, 414, 415, 416, 417, 418, 419, 425] : List Nat) := by decide
theorem nc_X12_walk_210 : 210 ∉ ([404, 411, 412, 413, 414, 415, 416, 417, 418, 419, 425] : List Nat) := by decide
theorem nc_X12_walk_307 : 307 ∉ ([404, 411, 412, 413, 414, 415, 416, 417, 418, 419, 425] : List Nat) := by decide
theorem cl_X12_walk {μ : dw_S} {K : dw_K} {a1 a2 a3 a4 : Int32} (hI : INV μ) (hK : ∀ (r : Option Value) (w : Int32) (μ' : dw_S), ck_X12_walk a1 a2 a3 a4 μ r w μ' → K r μ') : t_X12_walk [.ref 404, .int a1, .int a2, .int a3, .int a4] μ K := by
  have h_406_0 := hI.2.1 406 0
  rw [sgc_3] at h_406_0
  have h_406_1 := hI.2.1 406 1
  rw [sgc_4] at h_406_1
  have h_406_2 := hI.2.1 406 2
  rw [sgc_5] at h_406_2
  have h_406_3 := hI.2.1 406 3
  rw [sgc_6] at h_406_3
  have h_404_38 := hI.2.1 404 38
  rw [sgc_7] at h_404_38
  have h_404_2 := hI.2.1 404 2
  rw [sgc_8] at h_404_2
  refine al_364 360 (by decide) (fun s => [(0 : Int), (a1.toInt : Int), (a2.toInt : Int), (a3.toInt : Int), (a4.toInt : Int), ((μ.2.2.1 406 0).toInt : Int), ((μ.2.2.1 406 1).toInt : Int), ((μ.2.2.1 406 2).toInt : Int), ((μ.2.2.1 406 3).toInt : Int), ((μ.2.2.1 404 38).toInt : Int), ((μ.2.2.1 404 2).toInt : Int)].getD s (0 : Int)) [.ref 404, .int a1, .int a2, .int a3, .int a4] μ K ⟨hI.1, hI.2.1, fun _ _ => ⟨rfl, rfl⟩, rfl, Nat.le_refl _, Nat.le_of_ble_eq_true rfl, fun _ _ => rfl, ?_, fun q hq => absurd hq List.not_mem_nil, ?_, trivial, ?_, ?_⟩ ?_
  · exact iv2_ok (iv := (in_360).pre.iv) (vs := [(0 : Int), (a1.toInt : Int), (a2.toInt : Int), (a3.toInt : Int), (a4.toInt : Int), ((μ.2.2.1 406 0).toInt : Int), ((μ.2.2.1 406 1).toInt : Int), ((μ.2.2.1 406 2).toInt : Int), ((μ.2.2.1 406 3).toInt : Int), ((μ.2.2.1 404 38).toInt : Int), ((μ.2.2.1 404 2).toInt : Int)]) ⟨⟨Int.le_refl 0, Int.le_refl 0⟩, ⟨dx_b1 _, dx_b2 _⟩, ⟨dx_b1 _, dx_b2 _⟩, ⟨dx_b1 _, dx_b2 _⟩, ⟨dx_b1 _, dx_b2 _⟩, h_406_0, h_406_1, h_406_2, h_406_3, h_404_38, h_404_2, trivial⟩
  · exact ⟨⟨404, List.Mem.head _, rfl⟩, ⟨Nat.le_of_ble_eq_true rfl, a1, rfl, (Int.add_zero _).symm⟩, ⟨Nat.le_of_ble_eq_true rfl, a2, rfl, (Int.add_zero _).symm⟩, ⟨Nat.le_of_ble_eq_true rfl, a3, rfl, (Int.add_zero _).symm⟩, ⟨Nat.le_of_ble_eq_true rfl, a4, rfl, (Int.add_zero _).symm⟩, trivial⟩
  · exact dx_aL.all (l := (in_360).pre.fa) ⟨⟨Nat.le_of_ble_eq_true rfl, (Int.add_zero _).symm⟩, ⟨Nat.le_of_ble_eq_true rfl, (Int.add_zero _).symm⟩, ⟨Nat.le_of_ble_eq_true rfl, (Int.add_zero _).symm⟩, ⟨Nat.le_of_ble_eq_true rfl, (Int.add_zero _).symm⟩, ⟨Nat.le_of_ble_eq_true rfl, (Int.add_zero _).symm⟩, ⟨Nat.le_of_ble_eq_true rfl, (Int.add_zero _).symm⟩, trivial⟩
  · exact dx_aL.all (l := (in_360).pre.fl) ⟨⟨Nat.le_of_ble_eq_true rfl, hI.2.2.1⟩, ⟨Nat.le_of_ble_eq_true rfl, hI.2.2.2.1⟩, ⟨Nat.le_of_ble_eq_true rfl, hI.2.2.2.2.1⟩, ⟨Nat.le_of_ble_eq_true rfl, hI.2.2.2.2.2⟩, trivial⟩
  · intro r μ' ν' P hP g'
    rcases List.mem_cons.mp hP with rfl | hP
    · obtain ⟨w, rfl, hw⟩ := r_int g'.gl
      have n0 : ν' 0 = 0 := g'.ag 0 (Nat.le_of_ble_eq_true rfl)
      have n1 : ν' 1 = a1.toInt := g'.ag 1 (Nat.le_of_ble_eq_true rfl)
      have n2 : ν' 2 = a2.toInt := g'.ag 2 (Nat.le_of_ble_eq_true rfl)
      have n3 : ν' 3 = a3.toInt := g'.ag 3 (Nat.le_of_ble_eq_true rfl)
      have n4 : ν' 4 = a4.toInt := g'.ag 4 (Nat.le_of_ble_eq_true rfl)
      have n5 : ν' 5 = (μ.2.2.1 406 0).toInt := g'.ag 5 (Nat.le_of_ble_eq_true rfl)
      have n6 : ν' 6 = (μ.2.2.1 406 1).toInt := g'.ag 6 (Nat.le_of_ble_eq_true rfl)
      have n7 : ν' 7 = (μ.2.2.1 406 2).toInt := g'.ag 7 (Nat.le_of_ble_eq_true rfl)
      have n8 : ν' 8 = (μ.2.2.1 406 3).toInt := g'.ag 8 (Nat.le_of_ble_eq_true rfl)
      have n9 : ν' 9 = (μ.2.2.1 404 38).toInt := g'.ag 9 (Nat.le_of_ble_eq_true rfl)
      have n10 : ν' 10 = (μ.2.2.1 404 2).toInt := g'.ag 10 (Nat.le_of_ble_eq_true rfl)
      have sz0 : (μ'.2.2.1 404 2).toInt = ν' 10 + 0 := (g'.fa _ (List.Mem.tail _ (List.Mem.head _))).2
      have sz1 : (μ'.2.2.1 433 0).toInt = (μ.2.2.1 433 0).toInt := by rw [(g'.fr 433 nc_X12_walk_433).1]
      have sz2 : (μ'.2.2.1 433 1).toInt = (μ.2.2.1 433 1).toInt := by rw [(g'.fr 433 nc_X12_walk_433).1]
      have sz3 : (μ'.2.2.1 1 1).toInt = (μ.2.2.1 1 1).toInt := by rw [(g'.fr 1 nc_X12_walk_1).1]
      have sz4 : (μ'.2.2.1 210 0).toInt = (μ.2.2.1 210 0).toInt := by rw [(g'.fr 210 nc_X12_walk_210).1]
      have sz5 : (μ'.2.2.1 307 0).toInt = (μ.2.2.1 307 0).toInt := by rw [(g'.fr 307 nc_X12_walk_307).1]
      have hw' : w.toInt = ν' 0 + (-1) := hw
      exact hK _ w μ' ⟨⟨g'.sh, g'.hi, (g'.fl _ (List.Mem.head _)).2, (g'.fl _ (List.Mem.tail _ (List.Mem.head _))).2, (g'.fl _ (List.Mem.tail _ (List.Mem.tail _ (List.Mem.head _)))).2, (g'.fl _ (List.Mem.tail _ (List.Mem.tail _ (List.Mem.tail _ (List.Mem.head _))))).2⟩, rfl, by omega, ⟨sz3, sz4, sz5⟩, g'.fr⟩
    rcases List.mem_cons.mp hP with rfl | hP
    · obtain ⟨w, rfl, hw⟩ := r_int g'.gl
      have n0 : ν' 0 = 0 := g'.ag 0 (Nat.le_of_ble_eq_true rfl)
      have n1 : ν' 1 = a1.toInt := g'.ag 1 (Nat.le_of_ble_eq_true rfl)
      have n2 : ν' 2 = a2.toInt := g'.ag 2 (Nat.le_of_ble_eq_true rfl)
      have n3 : ν' 3 = a3.toInt := g'.ag 3 (Nat.le_of_ble_eq_true rfl)
      have n4 : ν' 4 = a4.toInt := g'.ag 4 (Nat.le_of_ble_eq_true rfl)
      have n5 : ν' 5 = (μ.2.2.1 406 0).toInt := g'.ag 5 (Nat.le_of_ble_eq_true rfl)
      have n6 : ν' 6 = (μ.2.2.1 406 1).toInt := g'.ag 6 (Nat.le_of_ble_eq_true rfl)
      have n7 : ν' 7 = (μ.2.2.1 406 2).toInt := g'.ag 7 (Nat.le_of_ble_eq_true rfl)
      have n8 : ν' 8 = (μ.2.2.1 406 3).toInt := g'.ag 8 (Nat.le_of_ble_eq_true rfl)
      have n9 : ν' 9 = (μ.2.2.1 404 38).toInt := g'.ag 9 (Nat.le_of_ble_eq_true rfl)
      have n10 : ν' 10 = (μ.2.2.1 404 2).toInt := g'.ag 10 (Nat.le_of_ble_eq_true rfl)
      have sz0 : (μ'.2.2.1 404 2).toInt = ν' 10 + 0 := (g'.fa _ (List.Mem.tail _ (List.Mem.head _))).2
      have sz1 : (μ'.2.2.1 433 0).toInt = (μ.2.2.1 433 0).toInt := by rw [(g'.fr 433 nc_X12_walk_433).1]
      have sz2 : (μ'.2.2.1 433 1).toInt = (μ.2.2.1 433 1).toInt := by rw [(g'.fr 433 nc_X12_walk_433).1]
      have sz3 : (μ'.2.2.1 1 1).toInt = (μ.2.2.1 1 1).toInt := by rw [(g'.fr 1 nc_X12_walk_1).1]
      have sz4 : (μ'.2.2.1 210 0).toInt = (μ.2.2.1 210 0).toInt := by rw [(g'.fr 210 nc_X12_walk_210).1]
      have sz5 : (μ'.2.2.1 307 0).toInt = (μ.2.2.1 307 0).toInt := by rw [(g'.fr 307 nc_X12_walk_307).1]
      have hw' : w.toInt = ν' 11 + 0 := hw
      have i1 : (0 : Int) ≤ ν' 1 ∧ ν' 1 ≤ 5 := g'.iv 1 (Nat.le_of_ble_eq_true rfl)
      have i2 : (0 : Int) ≤ ν' 2 ∧ ν' 2 ≤ 143 := g'.iv 2 (Nat.le_of_ble_eq_true rfl)
      have i3 : (0 : Int) ≤ ν' 3 ∧ ν' 3 ≤ 143 := g'.iv 3 (Nat.le_of_ble_eq_true rfl)
      have i4 : (0 : Int) ≤ ν' 4 ∧ ν' 4 ≤ 143 := g'.iv 4 (Nat.le_of_ble_eq_true rfl)
      have i5 : (1 : Int) ≤ ν' 5 ∧ ν' 5 ≤ 12 := g'.iv 5 (Nat.le_of_ble_eq_true rfl)
      exact hK _ w μ' ⟨⟨g'.sh, g'.hi, (g'.fl _ (List.Mem.tail _ (List.Mem.tail _ (List.Mem.tail _ (List.Mem.head _))))).2, (g'.fl _ (List.Mem.tail _ (List.Mem.tail _ (List.Mem.tail _ (List.Mem.tail _ (List.Mem.head _)))))).2, (g'.fl _ (List.Mem.tail _ (List.Mem.tail _ (List.Mem.tail _ (List.Mem.tail _ (List.Mem.tail _ (List.Mem.head _))))))).2, (g'.fl _ (List.Mem.tail _ (List.Mem.tail _ (List.Mem.tail _ (List.Mem.tail _ (List.Mem.tail _ (List.Mem.tail _ (List.Mem.head _)))))))).2⟩, rfl, by omega, ⟨sz3, sz4, sz5⟩, g'.fr⟩
    exact absurd hP List.not_mem_nil
abbrev ck_X12_went (a1 : Int32) (μ : dw_S) (r : Option Value) (w : Int32) (μ' : dw_S) : Prop := (INV μ') ∧ (r = some (.int w)) ∧ ((μ'.2.2.1 404 2).toInt = (μ.2.2.1 404 2).toInt ∧ (μ'.2.2.1 433 0).toInt = (μ.2.2.1 433 0).toInt ∧ (μ'.2.2.1 433 1).toInt = (μ.2.2.1 433 1).toInt) ∧ ((μ'.2.2.1 1 1).toInt = (μ.2.2.1 1 1).toInt ∧ (μ'.2.2.1 210 0).toInt = (μ.2.2.1 210 0).toInt ∧ (μ'.2.2.1 307 0).toInt = (μ.2.2.1 307 0).toInt) ∧ (∀ a, a ∉ [404] → μ'.2.2.1 a = μ.2.2.1 a ∧ μ'.2.2.2 a = μ.2.2.2 a)
theorem kn_X12_went_0 : (fl_s 0).all (fun q => decide (q.1 ∉ ([404] : List Nat))) = true := by decide
theorem kn_X12_went_6 : (fl_s 6).all (fun q => decide (q.1 ∉ ([404] : List Nat))) = true := by decide
theorem kn_X12_went_2 : (fl_s 2).all (fun q => decide (q.1 ∉ ([404] : List Nat))) = true := by decide
theorem kn_X12_went_3 : (fl_s 3).all (fun q => decide (q.1 ∉ ([404] : List Nat))) = true := by decide
theorem nc_X12_went_433 : 433 ∉ ([404] : List Nat) := by decide
theorem nc_X12_went_1 : 1 ∉ ([404] : List Nat) := by decide
theorem nc_X12_went_210 : 210 ∉ ([404] : List Nat) := by decide
theorem nc_X12_went_307 : 307 ∉ ([404] : List Nat) := by decide
theorem cl_X12_went {μ : dw_S} {K : dw_K} {a1 : Int32} (hI : INV μ) (hK : ∀ (r : Option Value) (w : Int32) (μ' : dw_S), ck_X12_went a1 μ r w μ' → K r μ') : t_X12_went [.ref 404, .int a1] μ K := by
  have h_406_0 := hI.2.1 406 0
  rw [sgc_3] at h_406_0
  have h_406_1 := hI.2.1 406 1
  rw [sgc_4] at h_406_1
  have h_406_2 := hI.2.1 406 2
  rw [sgc_5] at h_406_2
  have h_406_3 := hI.2.1 406 3
  rw [sgc_6] at h_406_3
  have h_404_38 := hI.2.1 404 38
  rw [sgc_7] at h_404_38
  have h_404_2 := hI.2.1 404 2
  rw [sgc_8] at h_404_2
  refine al_364 361 (by decide) (fun s => [(0 : Int), (a1.toInt : Int), ((μ.2.2.1 406 0).toInt : Int), ((μ.2.2.1 406 1).toInt : Int), ((μ.2.2.1 406 2).toInt : Int), ((μ.2.2.1 406 3).toInt : Int), ((μ.2.2.1 404 38).toInt : Int), ((μ.2.2.1 404 2).toInt : Int)].getD s (0 : Int)) [.ref 404, .int a1] μ K ⟨hI.1, hI.2.1, fun _ _ => ⟨rfl, rfl⟩, rfl, Nat.le_refl _, Nat.le_of_ble_eq_true rfl, fun _ _ => rfl, ?_, fun q hq => absurd hq List.not_mem_nil, ?_, trivial, ?_, ?_⟩ ?_
  · exact iv2_ok (iv := (in_361).pre.iv) (vs := [(0 : Int), (a1.toInt : Int), ((μ.2.2.1 406 0).toInt : Int), ((μ.2.2.1 406 1).toInt : Int), ((μ.2.2.1 406 2).toInt : Int), ((μ.2.2.1 406 3).toInt : Int), ((μ.2.2.1 404 38).toInt : Int), ((μ.2.2.1 404 2).toInt : Int)]) ⟨⟨Int.le_refl 0, Int.le_refl 0⟩, ⟨dx_b1 _, dx_b2 _⟩, h_406_0, h_406_1, h_406_2, h_406_3, h_404_38, h_404_2, trivial⟩
  · exact ⟨⟨404, List.Mem.head _, rfl⟩, ⟨Nat.le_of_ble_eq_true rfl, a1, rfl, (Int.add_zero _).symm⟩, trivial⟩
  · exact dx_aL.all (l := (in_361).pre.fa) ⟨⟨Nat.le_of_ble_eq_true rfl, (Int.add_zero _).symm⟩, ⟨Nat.le_of_ble_eq_true rfl, (Int.add_zero _).symm⟩, ⟨Nat.le_of_ble_eq_true rfl, (Int.add_zero _).symm⟩, ⟨Nat.le_of_ble_eq_true rfl, (Int.add_zero _).symm⟩, ⟨Nat.le_of_ble_eq_true rfl, (Int.add_zero _).symm⟩, ⟨Nat.le_of_ble_eq_true rfl, (Int.add_zero _).symm⟩, trivial⟩
  · exact dx_aL.all (l := (in_361).pre.fl) trivial
  · intro r μ' ν' P hP g'
    rcases List.mem_cons.mp hP with rfl | hP
    · obtain ⟨w, rfl, hw⟩ := r_int g'.gl
      have n0 : ν' 0 = 0 := g'.ag 0 (Nat.le_of_ble_eq_true rfl)
      have n1 : ν' 1 = a1.toInt := g'.ag 1 (Nat.le_of_ble_eq_true rfl)
      have n2 : ν' 2 = (μ.2.2.1 406 0).toInt := g'.ag 2 (Nat.le_of_ble_eq_true rfl)
      have n3 : ν' 3 = (μ.2.2.1 406 1).toInt := g'.ag 3 (Nat.le_of_ble_eq_true rfl)
      have n4 : ν' 4 = (μ.2.2.1 406 2).toInt := g'.ag 4 (Nat.le_of_ble_eq_true rfl)
      have n5 : ν' 5 = (μ.2.2.1 406 3).toInt := g'.ag 5 (Nat.le_of_ble_eq_true rfl)
      have n6 : ν' 6 = (μ.2.2.1 404 38).toInt := g'.ag 6 (Nat.le_of_ble_eq_true rfl)
      have n7 : ν' 7 = (μ.2.2.1 404 2).toInt := g'.ag 7 (Nat.le_of_ble_eq_true rfl)
      have sz0 : (μ'.2.2.1 404 2).toInt = ν' 7 + 0 := (g'.fa _ (List.Mem.tail _ (List.Mem.head _))).2
      have sz1 : (μ'.2.2.1 433 0).toInt = (μ.2.2.1 433 0).toInt := by rw [(g'.fr 433 nc_X12_went_433).1]
      have sz2 : (μ'.2.2.1 433 1).toInt = (μ.2.2.1 433 1).toInt := by rw [(g'.fr 433 nc_X12_went_433).1]
      have sz3 : (μ'.2.2.1 1 1).toInt = (μ.2.2.1 1 1).toInt := by rw [(g'.fr 1 nc_X12_went_1).1]
      have sz4 : (μ'.2.2.1 210 0).toInt = (μ.2.2.1 210 0).toInt := by rw [(g'.fr 210 nc_X12_went_210).1]
      have sz5 : (μ'.2.2.1 307 0).toInt = (μ.2.2.1 307 0).toInt := by rw [(g'.fr 307 nc_X12_went_307).1]
      have hw' : w.toInt = ν' 0 + (-1) := hw
      exact hK _ w μ' ⟨⟨g'.sh, g'.hi, keepf (md := [404]) kn_X12_went_0 g'.fr hI.2.2.1, keepf (md := [404]) kn_X12_went_6 g'.fr hI.2.2.2.1, keepf (md := [404]) kn_X12_went_2 g'.fr hI.2.2.2.2.1, keepf (md := [404]) kn_X12_went_3 g'.fr hI.2.2.2.2.2⟩, rfl, by omega, ⟨sz3, sz4, sz5⟩, g'.fr⟩
    rcases List.mem_cons.mp hP with rfl | hP
    · obtain ⟨w, rfl, hw⟩ := r_int g'.gl
      have n0 : ν' 0 = 0 := g'.ag 0 (Nat.le_of_ble_eq_true rfl)
      have n1 : ν' 1 = a1.toInt := g'.ag 1 (Nat.le_of_ble_eq_true rfl)
      have n2 : ν' 2 = (μ.2.2.1 406 0).toInt := g'.ag 2 (Nat.le_of_ble_eq_true rfl)
      have n3 : ν' 3 = (μ.2.2.1 406 1).toInt := g'.ag 3 (Nat.le_of_ble_eq_true rfl)
      have n4 : ν' 4 = (μ.2.2.1 406 2).toInt := g'.ag 4 (Nat.le_of_ble_eq_true rfl)
      have n5 : ν' 5 = (μ.2.2.1 406 3).toInt := g'.ag 5 (Nat.le_of_ble_eq_true rfl)
      have n6 : ν' 6 = (μ.2.2.1 404 38).toInt := g'.ag 6 (Nat.le_of_ble_eq_true rfl)
      have n7 : ν' 7 = (μ.2.2.1 404 2).toInt := g'.ag 7 (Nat.le_of_ble_eq_true rfl)
      have sz0 : (μ'.2.2.1 404 2).toInt = ν' 7 + 0 := (g'.fa _ (List.Mem.tail _ (List.Mem.head _))).2
      have sz1 : (μ'.2.2.1 433 0).toInt = (μ.2.2.1 433 0).toInt := by rw [(g'.fr 433 nc_X12_went_433).1]
      have sz2 : (μ'.2.2.1 433 1).toInt = (μ.2.2.1 433 1).toInt := by rw [(g'.fr 433 nc_X12_went_433).1]
      have sz3 : (μ'.2.2.1 1 1).toInt = (μ.2.2.1 1 1).toInt := by rw [(g'.fr 1 nc_X12_went_1).1]
      have sz4 : (μ'.2.2.1 210 0).toInt = (μ.2.2.1 210 0).toInt := by rw [(g'.fr 210 nc_X12_went_210).1]
      have sz5 : (μ'.2.2.1 307 0).toInt = (μ.2.2.1 307 0).toInt := by rw [(g'.fr 307 nc_X12_went_307).1]
      have hw' : w.toInt = ν' 8 + 0 := hw
      have i1 : (0 : Int) ≤ ν' 1 ∧ ν' 1 ≤ 4 := g'.iv 1 (Nat.le_of_ble_eq_true rfl)
      exact hK _ w μ' ⟨⟨g'.sh, g'.hi, keepf (md := [404]) kn_X12_went_0 g'.fr hI.2.2.1, keepf (md := [404]) kn_X12_went_6 g'.fr hI.2.2.2.1, keepf (md := [404]) kn_X12_went_2 g'.fr hI.2.2.2.2.1, keepf (md := [404]) kn_X12_went_3 g'.fr hI.2.2.2.2.2⟩, rfl, by omega, ⟨sz3, sz4, sz5⟩, g'.fr⟩
    exact absurd hP List.not_mem_nil
abbrev ck_X12_wet (a1 a2 a3 : Int32) (μ : dw_S) (r : Option Value) (w : Int32) (μ' : dw_S) : Prop := (INV μ') ∧ (r = some (.int w)) ∧ ((μ'.2.2.1 404 2).toInt = (μ.2.2.1 404 2).toInt ∧ (μ'.2.2.1 433 0).toInt = (μ.2.2.1 433 0).toInt ∧ (μ'.2.2.1 433 1).toInt = (μ.2.2.1 433 1).toInt) ∧ ((μ'.2.2.1 1 1).toInt = (μ.2.2.1 1 1).toInt ∧ (μ'.2.2.1 210 0).toInt = (μ.2.2.1 210 0).toInt ∧ (μ'.2.2.1 307 0).toInt = (μ.2.2.1 307 0).toInt) ∧ (∀ a, a ∉ [404, 411, 412, 413, 414, 415, 416, 417, 418, 419, 422] → μ'.2.2.1 a = μ.2.2.1 a ∧ μ'.2.2.2 a = μ.2.2.2 a)
theorem nc_X12_wet_433 : 433 ∉ ([404, 411, 412, 413, 414, 415, 416, 417, 418, 419, 422] : List Nat) := by decide
theorem nc_X12_wet_1 : 1 ∉ ([404, 411, 412, 413, 414, 415, 416, 417, 418, 419, 422] : List Nat) := by decide
theorem nc_X12_wet_210 : 210 ∉ ([404, 411, 412, 413, 414, 415, 416, 417, 418, 419, 422] : List Nat) := by decide
theorem nc_X12_wet_307 : 307 ∉ ([404, 411, 412, 413, 414, 415, 416, 417, 418, 419, 422] : List Nat) := by decide
theorem cl_X12_wet {μ : dw_S} {K : dw_K} {a1 a2 a3 : Int32} (hI : INV μ) (hK : ∀ (r : Option Value) (w : Int32) (μ' : dw_S), ck_X12_wet a1 a2 a3 μ r w μ' → K r μ') : t_X12_wet [.ref 404, .int a1, .int a2, .int a3] μ K := by
  have h_406_0 := hI.2.1 406 0
  rw [sgc_3] at h_406_0
  have h_406_1 := hI.2.1 406 1
  rw [sgc_4] at h_406_1
  have h_406_2 := hI.2.1 406 2
  rw [sgc_5] at h_406_2
  have h_406_3 := hI.2.1 406 3
  rw [sgc_6] at h_406_3
  have h_404_38 := hI.2.1 404 38
  rw [sgc_7] at h_404_38
  have h_404_2 := hI.2.1 404 2
  rw [sgc_8] at h_404_2
  refine al_364 362 (by decide) (fun s => [(0 : Int), (a1.toInt : Int), (a2.toInt : Int), (a3.toInt : Int), ((μ.2.2.1 406 0).toInt : Int), ((μ.2.2.1 406 1).toInt : Int), ((μ.2.2.1 406 2).toInt : Int), ((μ.2.2.1 406 3).toInt : Int), ((μ.2.2.1 404 38).toInt : Int), ((μ.2.2.1 404 2).toInt : Int)].getD s (0 : Int)) [.ref 404, .int a1, .int a2, .int a3] μ K ⟨hI.1, hI.2.1, fun _ _ => ⟨rfl, rfl⟩, rfl, Nat.le_refl _, Nat.le_of_ble_eq_true rfl, fun _ _ => rfl, ?_, fun q hq => absurd hq List.not_mem_nil, ?_, trivial, ?_, ?_⟩ ?_
  · exact iv2_ok (iv := (in_362).pre.iv) (vs := [(0 : Int), (a1.toInt : Int), (a2.toInt : Int), (a3.toInt : Int), ((μ.2.2.1 406 0).toInt : Int), ((μ.2.2.1 406 1).toInt : Int), ((μ.2.2.1 406 2).toInt : Int), ((μ.2.2.1 406 3).toInt : Int), ((μ.2.2.1 404 38).toInt : Int), ((μ.2.2.1 404 2).toInt : Int)]) ⟨⟨Int.le_refl 0, Int.le_refl 0⟩, ⟨dx_b1 _, dx_b2 _⟩, ⟨dx_b1 _, dx_b2 _⟩, ⟨dx_b1 _, dx_b2 _⟩, h_406_0, h_406_1, h_406_2, h_406_3, h_404_38, h_404_2, trivial⟩
  · exact ⟨⟨404, List.Mem.head _, rfl⟩, ⟨Nat.le_of_ble_eq_true rfl, a1, rfl, (Int.add_zero _).symm⟩, ⟨Nat.le_of_ble_eq_true rfl, a2, rfl, (Int.add_zero _).symm⟩, ⟨Nat.le_of_ble_eq_true rfl, a3, rfl, (Int.add_zero _).symm⟩, trivial⟩
  · exact dx_aL.all (l := (in_362).pre.fa) ⟨⟨Nat.le_of_ble_eq_true rfl, (Int.add_zero _).symm⟩, ⟨Nat.le_of_ble_eq_true rfl, (Int.add_zero _).symm⟩, ⟨Nat.le_of_ble_eq_true rfl, (Int.add_zero _).symm⟩, ⟨Nat.le_of_ble_eq_true rfl, (Int.add_zero _).symm⟩, ⟨Nat.le_of_ble_eq_true rfl, (Int.add_zero _).symm⟩, ⟨Nat.le_of_ble_eq_true rfl, (Int.add_zero _).symm⟩, trivial⟩
  · exact dx_aL.all (l := (in_362).pre.fl) ⟨⟨Nat.le_of_ble_eq_true rfl, hI.2.2.1⟩, ⟨Nat.le_of_ble_eq_true rfl, hI.2.2.2.1⟩, ⟨Nat.le_of_ble_eq_true rfl, hI.2.2.2.2.1⟩, ⟨Nat.le_of_ble_eq_true rfl, hI.2.2.2.2.2⟩, trivial⟩
  · intro r μ' ν' P hP g'
    rcases List.mem_cons.mp hP with rfl | hP
    · obtain ⟨w, rfl, hw⟩ := r_int g'.gl
      have n0 : ν' 0 = 0 := g'.ag 0 (Nat.le_of_ble_eq_true rfl)
      have n1 : ν' 1 = a1.toInt := g'.ag 1 (Nat.le_of_ble_eq_true rfl)
      have n2 : ν' 2 = a2.toInt := g'.ag 2 (Nat.le_of_ble_eq_true rfl)
      have n3 : ν' 3 = a3.toInt := g'.ag 3 (Nat.le_of_ble_eq_true rfl)
      have n4 : ν' 4 = (μ.2.2.1 406 0).toInt := g'.ag 4 (Nat.le_of_ble_eq_true rfl)
      have n5 : ν' 5 = (μ.2.2.1 406 1).toInt := g'.ag 5 (Nat.le_of_ble_eq_true rfl)
      have n6 : ν' 6 = (μ.2.2.1 406 2).toInt := g'.ag 6 (Nat.le_of_ble_eq_true rfl)
      have n7 : ν' 7 = (μ.2.2.1 406 3).toInt := g'.ag 7 (Nat.le_of_ble_eq_true rfl)
      have n8 : ν' 8 = (μ.2.2.1 404 38).toInt := g'.ag 8 (Nat.le_of_ble_eq_true rfl)
      have n9 : ν' 9 = (μ.2.2.1 404 2).toInt := g'.ag 9 (Nat.le_of_ble_eq_true rfl)
      have sz0 : (μ'.2.2.1 404 2).toInt = ν' 9 + 0 := (g'.fa _ (List.Mem.tail _ (List.Mem.head _))).2
      have sz1 : (μ'.2.2.1 433 0).toInt = (μ.2.2.1 433 0).toInt := by rw [(g'.fr 433 nc_X12_wet_433).1]
      have sz2 : (μ'.2.2.1 433 1).toInt = (μ.2.2.1 433 1).toInt := by rw [(g'.fr 433 nc_X12_wet_433).1]
      have sz3 : (μ'.2.2.1 1 1).toInt = (μ.2.2.1 1 1).toInt := by rw [(g'.fr 1 nc_X12_wet_1).1]
      have sz4 : (μ'.2.2.1 210 0).toInt = (μ.2.2.1 210 0).toInt := by rw [(g'.fr 210 nc_X12_wet_210).1]
      have sz5 : (μ'.2.2.1 307 0).toInt = (μ.2.2.1 307 0).toInt := by rw [(g'.fr 307 nc_X12_wet_307).1]
      have hw' : w.toInt = ν' 0 + (-1) := hw
      exact hK _ w μ' ⟨⟨g'.sh, g'.hi, (g'.fl _ (List.Mem.head _)).2, (g'.fl _ (List.Mem.tail _ (List.Mem.head _))).2, (g'.fl _ (List.Mem.tail _ (List.Mem.tail _ (List.Mem.head _)))).2, (g'.fl _ (List.Mem.tail _ (List.Mem.tail _ (List.Mem.tail _ (List.Mem.head _))))).2⟩, rfl, by omega, ⟨sz3, sz4, sz5⟩, g'.fr⟩
    rcases List.mem_cons.mp hP with rfl | hP
    · obtain ⟨w, rfl, hw⟩ := r_int g'.gl
      have n0 : ν' 0 = 0 := g'.ag 0 (Nat.le_of_ble_eq_true rfl)
      have n1 : ν' 1 = a1.toInt := g'.ag 1 (Nat.le_of_ble_eq_true rfl)
      have n2 : ν' 2 = a2.toInt := g'.ag 2 (Nat.le_of_ble_eq_true rfl)
      have n3 : ν' 3 = a3.toInt := g'.ag 3 (Nat.le_of_ble_eq_true rfl)
      have n4 : ν' 4 = (μ.2.2.1 406 0).toInt := g'.ag 4 (Nat.le_of_ble_eq_true rfl)
      have n5 : ν' 5 = (μ.2.2.1 406 1).toInt := g'.ag 5 (Nat.le_of_ble_eq_true rfl)
      have n6 : ν' 6 = (μ.2.2.1 406 2).toInt := g'.ag 6 (Nat.le_of_ble_eq_true rfl)
      have n7 : ν' 7 = (μ.2.2.1 406 3).toInt := g'.ag 7 (Nat.le_of_ble_eq_true rfl)
      have n8 : ν' 8 = (μ.2.2.1 404 38).toInt := g'.ag 8 (Nat.le_of_ble_eq_true rfl)
      have n9 : ν' 9 = (μ.2.2.1 404 2).toInt := g'.ag 9 (Nat.le_of_ble_eq_true rfl)
      have sz0 : (μ'.2.2.1 404 2).toInt = ν' 9 + 0 := (g'.fa _ (List.Mem.tail _ (List.Mem.head _))).2
      have sz1 : (μ'.2.2.1 433 0).toInt = (μ.2.2.1 433 0).toInt := by rw [(g'.fr 433 nc_X12_wet_433).1]
      have sz2 : (μ'.2.2.1 433 1).toInt = (μ.2.2.1 433 1).toInt := by rw [(g'.fr 433 nc_X12_wet_433).1]
      have sz3 : (μ'.2.2.1 1 1).toInt = (μ.2.2.1 1 1).toInt := by rw [(g'.fr 1 nc_X12_wet_1).1]
      have sz4 : (μ'.2.2.1 210 0).toInt = (μ.2.2.1 210 0).toInt := by rw [(g'.fr 210 nc_X12_wet_210).1]
      have sz5 : (μ'.2.2.1 307 0).toInt = (μ.2.2.1 307 0).toInt := by rw [(g'.fr 307 nc_X12_wet_307).1]
      have hw' : w.toInt = ν' 10 + 0 := hw
      have i1 : (0 : Int) ≤ ν' 1 ∧ ν' 1 ≤ 5 := g'.iv 1 (Nat.le_of_ble_eq_true rfl)
      have i2 : (0 : Int) ≤ ν' 2 ∧ ν' 2 ≤ 11 := g'.iv 2 (Nat.le_of_ble_eq_true rfl)
      have i3 : (0 : Int) ≤ ν' 3 ∧ ν' 3 ≤ 11 := g'.iv 3 (Nat.le_of_ble_eq_true rfl)
      have i4 : (1 : Int) ≤ ν' 4 ∧ ν' 4 ≤ 12 := g'.iv 4 (Nat.le_of_ble_eq_true rfl)
      have i5 : (1 : Int) ≤ ν' 5 ∧ ν' 5 ≤ 12 := g'.iv 5 (Nat.le_of_ble_eq_true rfl)
      have d0 : ν' 2 - ν' 4 ≤ (-1) := (g'.dc _ (List.Mem.head _)).2.2
      have d1 : ν' 3 - ν' 5 ≤ (-1) := (g'.dc _ (List.Mem.tail _ (List.Mem.head _))).2.2
      exact hK _ w μ' ⟨⟨g'.sh, g'.hi, (g'.fl _ (List.Mem.tail _ (List.Mem.tail _ (List.Mem.head _)))).2, (g'.fl _ (List.Mem.tail _ (List.Mem.tail _ (List.Mem.tail _ (List.Mem.head _))))).2, (g'.fl _ (List.Mem.tail _ (List.Mem.tail _ (List.Mem.tail _ (List.Mem.tail _ (List.Mem.head _)))))).2, (g'.fl _ (List.Mem.tail _ (List.Mem.tail _ (List.Mem.tail _ (List.Mem.tail _ (List.Mem.tail _ (List.Mem.head _))))))).2⟩, rfl, by omega, ⟨sz3, sz4, sz5⟩, g'.fr⟩
    exact absurd hP List.not_mem_nil
abbrev ck_X12_where (a1 a2 a3 : Int32) (μ : dw_S) (r : Option Value) (w : Int32) (μ' : dw_S) : Prop := (INV μ') ∧ (r = some (.int w)) ∧ ((μ'.2.2.1 404 2).toInt = (μ.2.2.1 404 2).toInt ∧ (μ'.2.2.1 433 0).toInt = (μ.2.2.1 433 0).toInt ∧ (μ'.2.2.1 433 1).toInt = (μ.2.2.1 433 1).toInt) ∧ ((μ'.2.2.1 1 1).toInt = (μ.2.2.1 1 1).toInt ∧ (μ'.2.2.1 210 0).toInt = (μ.2.2.1 210 0).toInt ∧ (μ'.2.2.1 307 0).toInt = (μ.2.2.1 307 0).toInt) ∧ (∀ a, a ∉ [404, 411, 412, 413, 414, 415, 416, 417, 418, 419] → μ'.2.2.1 a = μ.2.2.1 a ∧ μ'.2.2.2 a = μ.2.2.2 a)
theorem nc_X12_where_433 : 433 ∉ ([404, 411, 412, 413, 414, 415, 416, 417, 418, 419] : List Nat) := by decide
theorem nc_X12_where_1 : 1 ∉ ([404, 411, 412, 413, 414, 415, 416, 417, 418, 419] : List Nat) := by decide
theorem nc_X12_where_210 : 210 ∉ ([404, 411, 412, 413, 414, 415, 416, 417, 418, 419] : List Nat) := by decide
theorem nc_X12_where_307 : 307 ∉ ([404, 411, 412, 413, 414, 415, 416, 417, 418, 419] : List Nat) := by decide
theorem cl_X12_where {μ : dw_S} {K : dw_K} {a1 a2 a3 : Int32} (hI : INV μ) (hK : ∀ (r : Option Value) (w : Int32) (μ' : dw_S), ck_X12_where a1 a2 a3 μ r w μ' → K r μ') : t_X12_where [.ref 404, .int a1, .int a2, .int a3] μ K := by
  have h_406_0 := hI.2.1 406 0
  rw [sgc_3] at h_406_0
  have h_406_1 := hI.2.1 406 1
  rw [sgc_4] at h_406_1
  have h_406_2 := hI.2.1 406 2
  rw [sgc_5] at h_406_2
  have h_406_3 := hI.2.1 406 3
  rw [sgc_6] at h_406_3
  have h_404_38 := hI.2.1 404 38
  rw [sgc_7] at h_404_38
  have h_404_2 := hI.2.1 404 2
  rw [sgc_8] at h_404_2
  refine al_364 363 (by decide) (fun s => [(0 : Int), (a1.toInt : Int), (a2.toInt : Int), (a3.toInt : Int), ((μ.2.2.1 406 0).toInt : Int), ((μ.2.2.1 406 1).toInt : Int), ((μ.2.2.1 406 2).toInt : Int), ((μ.2.2.1 406 3).toInt : Int), ((μ.2.2.1 404 38).toInt : Int), ((μ.2.2.1 404 2).toInt : Int)].getD s (0 : Int)) [.ref 404, .int a1, .int a2, .int a3] μ K ⟨hI.1, hI.2.1, fun _ _ => ⟨rfl, rfl⟩, rfl, Nat.le_refl _, Nat.le_of_ble_eq_true rfl, fun _ _ => rfl, ?_, fun q hq => absurd hq List.not_mem_nil, ?_, trivial, ?_, ?_⟩ ?_
  · exact iv2_ok (iv := (in_363).pre.iv) (vs := [(0 : Int), (a1.toInt : Int), (a2.toInt : Int), (a3.toInt : Int), ((μ.2.2.1 406 0).toInt : Int), ((μ.2.2.1 406 1).toInt : Int), ((μ.2.2.1 406 2).toInt : Int), ((μ.2.2.1 406 3).toInt : Int), ((μ.2.2.1 404 38).toInt : Int), ((μ.2.2.1 404 2).toInt : Int)]) ⟨⟨Int.le_refl 0, Int.le_refl 0⟩, ⟨dx_b1 _, dx_b2 _⟩, ⟨dx_b1 _, dx_b2 _⟩, ⟨dx_b1 _, dx_b2 _⟩, h_406_0, h_406_1, h_406_2, h_406_3, h_404_38, h_404_2, trivial⟩
  · exact ⟨⟨404, List.Mem.head _, rfl⟩, ⟨Nat.le_of_ble_eq_true rfl, a1, rfl, (Int.add_zero _).symm⟩, ⟨Nat.le_of_ble_eq_true rfl, a2, rfl, (Int.add_zero _).symm⟩, ⟨Nat.le_of_ble_eq_true rfl, a3, rfl, (Int.add_zero _).symm⟩, trivial⟩
  · exact dx_aL.all (l := (in_363).pre.fa) ⟨⟨Nat.le_of_ble_eq_true rfl, (Int.add_zero _).symm⟩, ⟨Nat.le_of_ble_eq_true rfl, (Int.add_zero _).symm⟩, ⟨Nat.le_of_ble_eq_true rfl, (Int.add_zero _).symm⟩, ⟨Nat.le_of_ble_eq_true rfl, (Int.add_zero _).symm⟩, ⟨Nat.le_of_ble_eq_true rfl, (Int.add_zero _).symm⟩, ⟨Nat.le_of_ble_eq_true rfl, (Int.add_zero _).symm⟩, trivial⟩
  · exact dx_aL.all (l := (in_363).pre.fl) ⟨⟨Nat.le_of_ble_eq_true rfl, hI.2.2.1⟩, ⟨Nat.le_of_ble_eq_true rfl, hI.2.2.2.1⟩, ⟨Nat.le_of_ble_eq_true rfl, hI.2.2.2.2.1⟩, ⟨Nat.le_of_ble_eq_true rfl, hI.2.2.2.2.2⟩, trivial⟩
  · intro r μ' ν' P hP g'
    rcases List.mem_cons.mp hP with rfl | hP
    · obtain ⟨w, rfl, hw⟩ := r_int g'.gl
      have n0 : ν' 0 = 0 := g'.ag 0 (Nat.le_of_ble_eq_true rfl)
      have n1 : ν' 1 = a1.toInt := g'.ag 1 (Nat.le_of_ble_eq_true rfl)
      have n2 : ν' 2 = a2.toInt := g'.ag 2 (Nat.le_of_ble_eq_true rfl)
      have n3 : ν' 3 = a3.toInt := g'.ag 3 (Nat.le_of_ble_eq_true rfl)
      have n4 : ν' 4 = (μ.2.2.1 406 0).toInt := g'.ag 4 (Nat.le_of_ble_eq_true rfl)
      have n5 : ν' 5 = (μ.2.2.1 406 1).toInt := g'.ag 5 (Nat.le_of_ble_eq_true rfl)
      have n6 : ν' 6 = (μ.2.2.1 406 2).toInt := g'.ag 6 (Nat.le_of_ble_eq_true rfl)
      have n7 : ν' 7 = (μ.2.2.1 406 3).toInt := g'.ag 7 (Nat.le_of_ble_eq_true rfl)
      have n8 : ν' 8 = (μ.2.2.1 404 38).toInt := g'.ag 8 (Nat.le_of_ble_eq_true rfl)
      have n9 : ν' 9 = (μ.2.2.1 404 2).toInt := g'.ag 9 (Nat.le_of_ble_eq_true rfl)
      have sz0 : (μ'.2.2.1 404 2).toInt = ν' 9 + 0 := (g'.fa _ (List.Mem.tail _ (List.Mem.head _))).2
      have sz1 : (μ'.2.2.1 433 0).toInt = (μ.2.2.1 433 0).toInt := by rw [(g'.fr 433 nc_X12_where_433).1]
      have sz2 : (μ'.2.2.1 433 1).toInt = (μ.2.2.1 433 1).toInt := by rw [(g'.fr 433 nc_X12_where_433).1]
      have sz3 : (μ'.2.2.1 1 1).toInt = (μ.2.2.1 1 1).toInt := by rw [(g'.fr 1 nc_X12_where_1).1]
      have sz4 : (μ'.2.2.1 210 0).toInt = (μ.2.2.1 210 0).toInt := by rw [(g'.fr 210 nc_X12_where_210).1]
      have sz5 : (μ'.2.2.1 307 0).toInt = (μ.2.2.1 307 0).toInt := by rw [(g'.fr 307 nc_X12_where_307).1]
      have hw' : w.toInt = ν' 0 + (-1) := hw
      exact hK _ w μ' ⟨⟨g'.sh, g'.hi, (g'.fl _ (List.Mem.head _)).2, (g'.fl _ (List.Mem.tail _ (List.Mem.head _))).2, (g'.fl _ (List.Mem.tail _ (List.Mem.tail _ (List.Mem.head _)))).2, (g'.fl _ (List.Mem.tail _ (List.Mem.tail _ (List.Mem.tail _ (List.Mem.head _))))).2⟩, rfl, by omega, ⟨sz3, sz4, sz5⟩, g'.fr⟩
    rcases List.mem_cons.mp hP with rfl | hP
    · obtain ⟨w, rfl, hw⟩ := r_int g'.gl
      have n0 : ν' 0 = 0 := g'.ag 0 (Nat.le_of_ble_eq_true rfl)
      have n1 : ν' 1 = a1.toInt := g'.ag 1 (Nat.le_of_ble_eq_true rfl)
      have n2 : ν' 2 = a2.toInt := g'.ag 2 (Nat.le_of_ble_eq_true rfl)
      have n3 : ν' 3 = a3.toInt := g'.ag 3 (Nat.le_of_ble_eq_true rfl)
      have n4 : ν' 4 = (μ.2.2.1 406 0).toInt := g'.ag 4 (Nat.le_of_ble_eq_true rfl)
      have n5 : ν' 5 = (μ.2.2.1 406 1).toInt := g'.ag 5 (Nat.le_of_ble_eq_true rfl)
      have n6 : ν' 6 = (μ.2.2.1 406 2).toInt := g'.ag 6 (Nat.le_of_ble_eq_true rfl)
      have n7 : ν' 7 = (μ.2.2.1 406 3).toInt := g'.ag 7 (Nat.le_of_ble_eq_true rfl)
      have n8 : ν' 8 = (μ.2.2.1 404 38).toInt := g'.ag 8 (Nat.le_of_ble_eq_true rfl)
      have n9 : ν' 9 = (μ.2.2.1 404 2).toInt := g'.ag 9 (Nat.le_of_ble_eq_true rfl)
      have sz0 : (μ'.2.2.1 404 2).toInt = ν' 9 + 0 := (g'.fa _ (List.Mem.tail _ (List.Mem.head _))).2
      have sz1 : (μ'.2.2.1 433 0).toInt = (μ.2.2.1 433 0).toInt := by rw [(g'.fr 433 nc_X12_where_433).1]
      have sz2 : (μ'.2.2.1 433 1).toInt = (μ.2.2.1 433 1).toInt := by rw [(g'.fr 433 nc_X12_where_433).1]
      have sz3 : (μ'.2.2.1 1 1).toInt = (μ.2.2.1 1 1).toInt := by rw [(g'.fr 1 nc_X12_where_1).1]
      have sz4 : (μ'.2.2.1 210 0).toInt = (μ.2.2.1 210 0).toInt := by rw [(g'.fr 210 nc_X12_where_210).1]
      have sz5 : (μ'.2.2.1 307 0).toInt = (μ.2.2.1 307 0).toInt := by rw [(g'.fr 307 nc_X12_where_307).1]
      have hw' : w.toInt = ν' 10 + 0 := hw
      have i1 : (0 : Int) ≤ ν' 1 ∧ ν' 1 ≤ 5 := g'.iv 1 (Nat.le_of_ble_eq_true rfl)
      have i2 : (0 : Int) ≤ ν' 2 ∧ ν' 2 ≤ 143 := g'.iv 2 (Nat.le_of_ble_eq_true rfl)
      have i3 : (1 : Int) ≤ ν' 3 ∧ ν' 3 ≤ 9999 := g'.iv 3 (Nat.le_of_ble_eq_true rfl)
      exact hK _ w μ' ⟨⟨g'.sh, g'.hi, (g'.fl _ (List.Mem.tail _ (List.Mem.tail _ (List.Mem.head _)))).2, (g'.fl _ (List.Mem.tail _ (List.Mem.tail _ (List.Mem.tail _ (List.Mem.head _))))).2, (g'.fl _ (List.Mem.tail _ (List.Mem.tail _ (List.Mem.tail _ (List.Mem.tail _ (List.Mem.head _)))))).2, (g'.fl _ (List.Mem.tail _ (List.Mem.tail _ (List.Mem.tail _ (List.Mem.tail _ (List.Mem.tail _ (List.Mem.head _))))))).2⟩, rfl, by omega, ⟨sz3, sz4, sz5⟩, g'.fr⟩
    exact absurd hP List.not_mem_nil
