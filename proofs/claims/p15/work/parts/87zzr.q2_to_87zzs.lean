section
/-! ===== questions: now, sky ===== -/
abbrev waR (R : Nat → Int32) : Nat → Int32 := fun c => R (1139 + c)
def aNow (R : Nat → Int32) (x : Int) : Int :=
  if R 894 = 0 then -1 else if x = 0 then (R 895).toInt else if x = 1 then (R 896).toInt else if x = 2 then (R 897).toInt
  else if x = 3 then wcF (waR R) 1 (Nn R) else if x = 4 then (suF (waR R) (Nn R)).toInt else -1
def aSky (R : Nat → Int32) (x t w : Int32) : Int := if okS R x ∧ okT t ∧ 0 ≤ w.toInt ∧ w.toInt ≤ 4 then (ndF (nU (nX R x)) w.toInt.toNat t.toInt.toNat).toInt else -1
set_option maxRecDepth 8000 in
theorem now_n {R : Nat → Int32} {x : Int} (h8 : R 894 ≠ 0) : aNow R x = (if x = 0 then (R 895).toInt else if x = 1 then (R 896).toInt else if x = 2 then (R 897).toInt
  else if x = 3 then (wcF (waR R) 1 (Nn R) : Int) else if x = 4 then (suF (waR R) (Nn R)).toInt else -1) := if_neg h8
set_option maxRecDepth 8000 in
theorem now_k {R : Nat → Int32} {x : Int} (h8 : R 894 ≠ 0) : (x = 0 → aNow R x = (R 895).toInt) ∧ (x = 1 → aNow R x = (R 896).toInt) ∧ (x = 2 → aNow R x = (R 897).toInt) ∧ (x = 3 → aNow R x = (wcF (waR R) 1 (Nn R) : Int)) ∧ (x = 4 → aNow R x = (suF (waR R) (Nn R)).toInt) ∧ ((x < 0 ∨ 4 < x) → aNow R x = -1) := by
  rw [now_n h8]
  refine ⟨fun h => ?_, fun h => ?_, fun h => ?_, fun h => ?_, fun h => ?_, fun h => ?_⟩
  · rw [if_pos h]
  · rw [if_neg (by omega), if_pos h]
  · rw [if_neg (by omega), if_neg (by omega), if_pos h]
  · rw [if_neg (by omega), if_neg (by omega), if_neg (by omega), if_pos h]
  · rw [if_neg (by omega), if_neg (by omega), if_neg (by omega), if_neg (by omega), if_pos h]
  · rw [if_neg (by omega), if_neg (by omega), if_neg (by omega), if_neg (by omega), if_neg (by omega)]
set_option maxRecDepth 8000 in
theorem v_cnow {n : Nat} {I : Nat → Nat → Int32} {J : Nat → Nat → Int64} {K : dw_K} {a1 : Int32} {R : Nat → Int32} (hR : SREL I 3 R)
    (hk : ∀ w : Int32, w.toInt = aNow R a1.toInt → K (some (.int w)) (n, SH1, I, J)) : t_X11_now [.ref 0, .int a1] (n, SH1, I, J) K := by
  obtain ⟨hG, -, -, -, hr⟩ := id hR
  have hr : RR I 43 R := hr
  have hN9 := (gok_N hG).2
  have e0 : I 43 0 = 0 ∧ R 894 = 0 ∨ I 43 0 = 1 ∧ R 894 = 1 := by
    rcases hr with ⟨a, b⟩ | ⟨a, b, -⟩
    · exact Or.inl ⟨a, b⟩
    · exact Or.inr ⟨a, b⟩
  refine q_body (Nat.le_of_ble_eq_true rfl) ?_
  refine q_ald rfl rfl ?_
  refine q_getr rfl sk_0 sr_0_1 ?_
  refine q_getr rfl sk_3 sr_3_4 ?_
  refine q_getz rfl sk_43 ?_
  refine q_if (c := 1) rfl (by decide) (fun y1 => ?_) (fun y1 => ?_)
  · have y1 : ((I 43 0)).toInt ≠ 0 := y1
    have r894 : R 894 ≠ 0 := by
      rcases e0 with ⟨e, -⟩ | ⟨-, e⟩
      · rw [e] at y1; exact absurd rfl y1
      · rw [e]; decide
    have nk := now_k (x := a1.toInt) r894
    have hq : (I 43 1).toInt = Nn R ∧ I 43 2 = R 895 ∧ I 43 3 = R 896 ∧ I 43 4 = R 897 ∧ ∀ c, c < Nn R → I (43 + 14) c = waR R c := by
      rcases hr with ⟨-, e⟩ | ⟨-, -, q1, q2, -, q3, q4, -, -, -, -, q5, -⟩
      · exact absurd e r894
      · exact ⟨q1, q2, q3, q4, fun c hc => (q5 c hc).2.2.2.2.2.2.2⟩
    obtain ⟨n1, n2, n3, n4, n5⟩ := hq
    refine q_ild rfl rfl ?_
    refine q_tab rfl (fun h3 => ?_) (fun h3 => ?_)
    · show dw_ok (pr_X11_now K) 108 0 0 [some (.ref 0), some (.int a1)] [] (n, SH1, I, J)
      refine q_ic rfl ?_
      exact q_iret rfl (hk _ (nk.2.2.2.2.2 h3).symm)
    · have h5 : a1.toInt = 0 ∨ a1.toInt = 1 ∨ a1.toInt = 2 ∨ a1.toInt = 3 ∨ a1.toInt = 4 := by omega
      rcases h5 with h5 | h5 | h5 | h5 | h5
      · refine ⟨52, by rw [h5]; rfl, ?_⟩
        show dw_ok (pr_X11_now K) 52 0 0 [some (.ref 0), some (.int a1)] [] (n, SH1, I, J)
        refine q_ald rfl rfl ?_
        refine q_getr rfl sk_0 sr_0_1 ?_
        refine q_getr rfl sk_3 sr_3_4 ?_
        refine q_geti rfl sk_43 ?_
        exact q_iret rfl (hk (I 43 2) (by rw [nk.1 h5, n2]))
      · refine ⟨63, by rw [h5]; rfl, ?_⟩
        show dw_ok (pr_X11_now K) 63 0 0 [some (.ref 0), some (.int a1)] [] (n, SH1, I, J)
        refine q_ald rfl rfl ?_
        refine q_getr rfl sk_0 sr_0_1 ?_
        refine q_getr rfl sk_3 sr_3_4 ?_
        refine q_geti rfl sk_43 ?_
        exact q_iret rfl (hk (I 43 3) (by rw [nk.2.1 h5, n3]))
      · refine ⟨74, by rw [h5]; rfl, ?_⟩
        show dw_ok (pr_X11_now K) 74 0 0 [some (.ref 0), some (.int a1)] [] (n, SH1, I, J)
        refine q_ald rfl rfl ?_
        refine q_getr rfl sk_0 sr_0_1 ?_
        refine q_getr rfl sk_3 sr_3_4 ?_
        refine q_geti rfl sk_43 ?_
        exact q_iret rfl (hk (I 43 4) (by rw [nk.2.2.1 h5, n4]))
      · refine ⟨85, by rw [h5]; rfl, ?_⟩
        show dw_ok (pr_X11_now K) 85 0 0 [some (.ref 0), some (.int a1)] [] (n, SH1, I, J)
        refine q_ald rfl rfl ?_
        refine q_getr rfl sk_0 sr_0_1 ?_
        refine q_getr rfl sk_3 sr_3_4 ?_
        refine q_ic rfl ?_
        refine q_callV (as := [.int (1 : Int32)]) (rest := []) rfl rfl sk_43 rfl (Nat.le_of_ble_eq_true rfl) ?_
        refine v_wetCells (rt_ok (by decide)) n1 hN9 (fun wc hwc => ?_)
        show dw_ok (pr_X11_now K) 96 0 0 [some (.ref 0), some (.int a1)] [.int wc] (n, SH1, I, J)
        exact q_iret rfl (hk _ (by rw [nk.2.2.2.1 h5, hwc, wcF_eq _ n5]))
      · refine ⟨97, by rw [h5]; rfl, ?_⟩
        show dw_ok (pr_X11_now K) 97 0 0 [some (.ref 0), some (.int a1)] [] (n, SH1, I, J)
        refine q_ald rfl rfl ?_
        refine q_getr rfl sk_0 sr_0_1 ?_
        refine q_getr rfl sk_3 sr_3_4 ?_
        refine q_callV (as := []) (rest := []) rfl rfl sk_43 rfl (Nat.le_of_ble_eq_true rfl) ?_
        refine v_wsum (rt_ok (by decide)) n1 hN9 ?_
        show dw_ok (pr_X11_now K) 107 0 0 [some (.ref 0), some (.int a1)] [.int (suF (I (43 + 14)) (Nn R))] (n, SH1, I, J)
        exact q_iret rfl (hk _ (by rw [nk.2.2.2.2.1 h5, suF_eq _ n5]))
  · have y1 : ((I 43 0)).toInt = 0 := y1
    refine q_ic rfl ?_
    refine q_iret rfl (hk _ ?_)
    have z : R 894 = 0 := by
      rcases e0 with ⟨-, e⟩ | ⟨e, -⟩
      · exact e
      · rw [e] at y1; exact absurd y1 (by decide)
    unfold aNow
    rw [if_pos z]
    rfl
set_option maxRecDepth 8000 in
theorem mnow_loop {n : Nat} {I : Nat → Nat → Int32} {J : Nat → Nat → Int64} {K : dw_K} {a1 : Int32} {R : Nat → Int32} (e1 : I 406 = R) (hG : GOK R)
    (hk : ∀ v2 v3 c : Int32, v2.toInt = wcF (waR R) 1 (Nn R) → v3 = suF (waR R) (Nn R) → dw_ok (pr_X12_now K) 76 0 0 [some (.ref 404), some (.int a1), some (.int v2), some (.int v3), some (.int c)] [] (n, SH1, I, J)) :
    ∀ (f k : Nat) (v2 v3 c : Int32), k + f = Nn R → c.toInt = k → v2.toInt = wcF (waR R) 1 k → v3 = suF (waR R) k → dw_ok (pr_X12_now K) 25 0 0 [some (.ref 404), some (.int a1), some (.int v2), some (.int v3), some (.int c)] [] (n, SH1, I, J) := by
  obtain ⟨hN, hN9⟩ := gok_N hG
  have k1 : (1 : Int32).toInt = 1 := rfl
  have k0 : (0 : Int32).toInt = 0 := rfl
  intro f
  induction f with
  | zero =>
    intro k v2 v3 c hf hc h2 h3
    refine q_ild rfl rfl ?_
    refine q_ald rfl rfl ?_
    refine q_callV (as := []) (rest := [.int c]) rfl rfl sk_404 rfl (Nat.le_of_ble_eq_true rfl) ?_
    refine v_mcells ?_
    show dw_ok (pr_X12_now K) 31 0 0 [some (.ref 404), some (.int a1), some (.int v2), some (.int v3), some (.int c)] [.int (I 406 0 * I 406 1), .int c] (n, SH1, I, J)
    rw [show I 406 = R from e1]
    obtain ⟨nv, hnv⟩ : ∃ z, z = R 0 * R 1 := ⟨_, rfl⟩
    rw [← hnv]
    have env : nv.toInt = Nn R := by rw [hnv]; exact hN
    show dw_ok (pr_X12_now K) 31 0 0 [some (.ref 404), some (.int a1), some (.int v2), some (.int v3), some (.int c)] [.int nv, .int c] (n, SH1, I, J)
    refine q_icmp (c := 3) rfl (by decide) (fun y1 => ?_) (fun h => absurd (show (c).toInt < (nv).toInt from h) (by omega))
    have y1 : (nv).toInt ≤ (c).toInt := y1
    have kN : k = Nn R := by omega
    rw [kN] at h2 h3
    exact hk v2 v3 c h2 h3
  | succ f ih =>
    intro k v2 v3 c hf hc h2 h3
    have wl := wc_le (W := waR R) (l := 1) k
    refine q_ild rfl rfl ?_
    refine q_ald rfl rfl ?_
    refine q_callV (as := []) (rest := [.int c]) rfl rfl sk_404 rfl (Nat.le_of_ble_eq_true rfl) ?_
    refine v_mcells ?_
    show dw_ok (pr_X12_now K) 31 0 0 [some (.ref 404), some (.int a1), some (.int v2), some (.int v3), some (.int c)] [.int (I 406 0 * I 406 1), .int c] (n, SH1, I, J)
    rw [show I 406 = R from e1]
    obtain ⟨nv, hnv⟩ : ∃ z, z = R 0 * R 1 := ⟨_, rfl⟩
    rw [← hnv]
    have env : nv.toInt = Nn R := by rw [hnv]; exact hN
    show dw_ok (pr_X12_now K) 31 0 0 [some (.ref 404), some (.int a1), some (.int v2), some (.int v3), some (.int c)] [.int nv, .int c] (n, SH1, I, J)
    refine q_icmp (c := 3) rfl (by decide) (fun h => absurd (show (nv).toInt ≤ (c).toInt from h) (by omega)) (fun y2 => ?_)
    have y2 : (c).toInt < (nv).toInt := y2
    refine q_ild rfl rfl ?_
    refine q_ald rfl rfl ?_
    refine q_getr rfl sk_404 sr_404_6 ?_
    refine q_ic rfl ?_
    refine q_ild rfl rfl ?_
    refine q_add rfl ?_
    show dw_ok (pr_X12_now K) 45 0 0 [some (.ref 404), some (.int a1), some (.int v2), some (.int v3), some (.int c)] [.int ((1139 : Int32) + c), .ref 406, .int v2] (n, SH1, I, J)
    obtain ⟨z1, hz1⟩ : ∃ z, z = ((1139 : Int32) + c) := ⟨_, rfl⟩
    rw [← hz1]
    have ez1 : z1.toInt = ((1139 + k : Nat) : Int) := by rw [hz1]; exact (ix_a (x := 1139) (a := 1139) rfl hc (by omega))
    refine q_xald rfl (Or.inl rfl) sk_406 sn_406 (by omega) (by omega) ?_
    show dw_ok (pr_X12_now K) 46 0 0 [some (.ref 404), some (.int a1), some (.int v2), some (.int v3), some (.int c)] [.int (I 406 (z1).toInt.toNat), .int v2] (n, SH1, I, J)
    rw [(nat_of ez1)]
    refine q_if (c := 5) rfl (by decide) (fun y3 => ?_) (fun y3 => ?_)
    · have y3 : ((I 406 (1139 + k))).toInt ≤ 0 := y3
      refine q_ic rfl ?_
      refine q_add rfl ?_
      refine q_ist rfl rfl ?_
      show dw_ok (pr_X12_now K) 56 0 0 [some (.ref 404), some (.int a1), some (.int (v2 + (0 : Int32))), some (.int v3), some (.int c)] [] (n, SH1, I, J)
      refine q_ild rfl rfl ?_
      refine q_ald rfl rfl ?_
      refine q_getr rfl sk_404 sr_404_6 ?_
      refine q_ic rfl ?_
      refine q_ild rfl rfl ?_
      refine q_add rfl ?_
      show dw_ok (pr_X12_now K) 67 0 0 [some (.ref 404), some (.int a1), some (.int (v2 + (0 : Int32))), some (.int v3), some (.int c)] [.int ((1139 : Int32) + c), .ref 406, .int v3] (n, SH1, I, J)
      obtain ⟨z1, hz1⟩ : ∃ z, z = ((1139 : Int32) + c) := ⟨_, rfl⟩
      rw [← hz1]
      have ez1 : z1.toInt = ((1139 + k : Nat) : Int) := by rw [hz1]; exact (ix_a (x := 1139) (a := 1139) rfl hc (by omega))
      refine q_xald rfl (Or.inl rfl) sk_406 sn_406 (by omega) (by omega) ?_
      show dw_ok (pr_X12_now K) 68 0 0 [some (.ref 404), some (.int a1), some (.int (v2 + (0 : Int32))), some (.int v3), some (.int c)] [.int (I 406 (z1).toInt.toNat), .int v3] (n, SH1, I, J)
      rw [(nat_of ez1)]
      refine q_add rfl ?_
      refine q_ist rfl rfl ?_
      show dw_ok (pr_X12_now K) 70 0 0 [some (.ref 404), some (.int a1), some (.int (v2 + (0 : Int32))), some (.int (v3 + (I 406 (1139 + k)))), some (.int c)] [] (n, SH1, I, J)
      refine q_inc rfl rfl rfl ?_
      show dw_ok (pr_X12_now K) 73 0 0 [some (.ref 404), some (.int a1), some (.int (v2 + (0 : Int32))), some (.int (v3 + (I 406 (1139 + k)))), some (.int (c + 1))] [] (n, SH1, I, J)
      show dw_ok (pr_X12_now K) 73 0 0 [some (.ref 404), some (.int a1), some (.int (v2 + (0 : Int32))), some (.int (v3 + (I 406 (1139 + k)))), some (.int (c + 1))] [] (n, SH1, I, J)
      obtain ⟨cx, hcx⟩ : ∃ z, z = (c + 1) := ⟨_, rfl⟩
      rw [← hcx]
      have ecx : cx.toInt = ((k + 1 : Nat) : Int) := by rw [hcx]; exact ix_1 hc (by omega)
      refine q_goto rfl ?_
      refine ih (k + 1) (v2 + (0 : Int32)) (v3 + (I 406 (1139 + k))) cx (by omega) ecx ?_ ?_
      · have q : (I 406 (1139 + k)).toInt = (R (1139 + k)).toInt := by rw [e1]
        rw [i_add (by rw [h2, k0]; omega) (by rw [h2, k0]; omega), h2, k0]
        show _ = ((wcF (waR R) 1 k + (if (1 : Int32).toInt ≤ (R (1139 + k)).toInt then 1 else 0) : Nat) : Int)
        rw [if_neg (by rw [k1]; omega)]
        omega
      · rw [h3, show I 406 (1139 + k) = R (1139 + k) by rw [e1]]
        rfl
    · have y3 : 0 < ((I 406 (1139 + k))).toInt := y3
      refine q_ic rfl ?_
      refine q_goto rfl ?_
      refine q_add rfl ?_
      refine q_ist rfl rfl ?_
      show dw_ok (pr_X12_now K) 56 0 0 [some (.ref 404), some (.int a1), some (.int (v2 + (1 : Int32))), some (.int v3), some (.int c)] [] (n, SH1, I, J)
      refine q_ild rfl rfl ?_
      refine q_ald rfl rfl ?_
      refine q_getr rfl sk_404 sr_404_6 ?_
      refine q_ic rfl ?_
      refine q_ild rfl rfl ?_
      refine q_add rfl ?_
      show dw_ok (pr_X12_now K) 67 0 0 [some (.ref 404), some (.int a1), some (.int (v2 + (1 : Int32))), some (.int v3), some (.int c)] [.int ((1139 : Int32) + c), .ref 406, .int v3] (n, SH1, I, J)
      obtain ⟨z1, hz1⟩ : ∃ z, z = ((1139 : Int32) + c) := ⟨_, rfl⟩
      rw [← hz1]
      have ez1 : z1.toInt = ((1139 + k : Nat) : Int) := by rw [hz1]; exact (ix_a (x := 1139) (a := 1139) rfl hc (by omega))
      refine q_xald rfl (Or.inl rfl) sk_406 sn_406 (by omega) (by omega) ?_
      show dw_ok (pr_X12_now K) 68 0 0 [some (.ref 404), some (.int a1), some (.int (v2 + (1 : Int32))), some (.int v3), some (.int c)] [.int (I 406 (z1).toInt.toNat), .int v3] (n, SH1, I, J)
      rw [(nat_of ez1)]
      refine q_add rfl ?_
      refine q_ist rfl rfl ?_
      show dw_ok (pr_X12_now K) 70 0 0 [some (.ref 404), some (.int a1), some (.int (v2 + (1 : Int32))), some (.int (v3 + (I 406 (1139 + k)))), some (.int c)] [] (n, SH1, I, J)
      refine q_inc rfl rfl rfl ?_
      show dw_ok (pr_X12_now K) 73 0 0 [some (.ref 404), some (.int a1), some (.int (v2 + (1 : Int32))), some (.int (v3 + (I 406 (1139 + k)))), some (.int (c + 1))] [] (n, SH1, I, J)
      show dw_ok (pr_X12_now K) 73 0 0 [some (.ref 404), some (.int a1), some (.int (v2 + (1 : Int32))), some (.int (v3 + (I 406 (1139 + k)))), some (.int (c + 1))] [] (n, SH1, I, J)
      obtain ⟨cx, hcx⟩ : ∃ z, z = (c + 1) := ⟨_, rfl⟩
      rw [← hcx]
      have ecx : cx.toInt = ((k + 1 : Nat) : Int) := by rw [hcx]; exact ix_1 hc (by omega)
      refine q_goto rfl ?_
      refine ih (k + 1) (v2 + (1 : Int32)) (v3 + (I 406 (1139 + k))) cx (by omega) ecx ?_ ?_
      · have q : (I 406 (1139 + k)).toInt = (R (1139 + k)).toInt := by rw [e1]
        rw [i_add (by rw [h2, k1]; omega) (by rw [h2, k1]; omega), h2, k1]
        show _ = ((wcF (waR R) 1 k + (if (1 : Int32).toInt ≤ (R (1139 + k)).toInt then 1 else 0) : Nat) : Int)
        rw [if_pos (by rw [k1]; omega)]
        omega
      · rw [h3, show I 406 (1139 + k) = R (1139 + k) by rw [e1]]
        rfl
set_option maxRecDepth 8000 in
theorem v_mnow {n : Nat} {I : Nat → Nat → Int32} {J : Nat → Nat → Int64} {K : dw_K} {a1 : Int32} {R : Nat → Int32} (hR : I 406 = R) (hG : GOK R)
    (hk : ∀ (I' : Nat → Nat → Int32) (w : Int32), w.toInt = aNow R a1.toInt → K (some (.int w)) (n, SH1, I', J)) : t_X12_now [.ref 404, .int a1] (n, SH1, I, J) K := by
  have k1 : (1 : Int32).toInt = 1 := rfl
  refine q_body (Nat.le_of_ble_eq_true rfl) ?_
  refine q_ald rfl rfl ?_
  refine q_ic rfl ?_
  refine q_puti rfl sk_404 ?_
  show dw_ok (pr_X12_now K) 5 0 0 [some (.ref 404), some (.int a1), none, none, none] [] (n, SH1, (dw_up I 404 0 (0 : Int32)), J)
  obtain ⟨I1, hI1⟩ : ∃ X, X = (dw_up I 404 0 (0 : Int32)) := ⟨_, rfl⟩
  show dw_ok (pr_X12_now K) 5 0 0 [some (.ref 404), some (.int a1), none, none, none] [] (n, SH1, (dw_up I 404 0 (0 : Int32)), J)
  rw [← hI1]
  have e1 : I1 406 = R := by rw [hI1]; exact (up_row (show (406 : Nat) ≠ 404 by decide)).trans hR
  have e894 : I1 406 894 = R 894 := congrFun e1 894
  have e895 : I1 406 895 = R 895 := congrFun e1 895
  have e896 : I1 406 896 = R 896 := congrFun e1 896
  have e897 : I1 406 897 = R 897 := congrFun e1 897
  refine q_ald rfl rfl ?_
  refine q_getr rfl sk_404 sr_404_6 ?_
  refine q_ic rfl ?_
  refine q_xald rfl (Or.inl rfl) sk_406 sn_406 (by decide) (by decide) ?_
  refine q_if (c := 1) rfl (by decide) (fun y1 => ?_) (fun y1 => ?_)
  · have y1 : ((I1 406 894)).toInt ≠ 0 := y1
    refine q_ic rfl ?_
    refine q_ist rfl rfl ?_
    show dw_ok (pr_X12_now K) 20 0 0 [some (.ref 404), some (.int a1), some (.int (0 : Int32)), none, none] [] (n, SH1, I1, J)
    refine q_ic rfl ?_
    refine q_ist rfl rfl ?_
    show dw_ok (pr_X12_now K) 22 0 0 [some (.ref 404), some (.int a1), some (.int (0 : Int32)), some (.int (0 : Int32)), none] [] (n, SH1, I1, J)
    refine q_ic rfl ?_
    refine q_ist rfl rfl ?_
    show dw_ok (pr_X12_now K) 25 0 0 [some (.ref 404), some (.int a1), some (.int (0 : Int32)), some (.int (0 : Int32)), some (.int (0 : Int32))] [] (n, SH1, I1, J)
    have r894 : R 894 ≠ 0 := fun q => by rw [e894, q] at y1; exact absurd rfl y1
    have nk := now_k (x := a1.toInt) r894
    refine mnow_loop e1 hG (fun v2 v3 c h2 h3 => ?_) (Nn R) 0 0 0 0 (by omega) rfl rfl rfl
    show dw_ok (pr_X12_now K) 76 0 0 [some (.ref 404), some (.int a1), some (.int v2), some (.int v3), some (.int c)] [] (n, SH1, I1, J)
    refine q_ild rfl rfl ?_
    refine q_if (c := 1) rfl (by decide) (fun y2 => ?_) (fun y2 => ?_)
    · have y2 : (a1).toInt ≠ 0 := y2
      refine q_ild rfl rfl ?_
      refine q_ic rfl ?_
      refine q_icmp (c := 1) rfl (by decide) (fun y3 => ?_) (fun y3 => ?_)
      · have y3 : (a1).toInt ≠ (1 : Int) := y3
        refine q_ild rfl rfl ?_
        refine q_ic rfl ?_
        refine q_icmp (c := 1) rfl (by decide) (fun y4 => ?_) (fun y4 => ?_)
        · have y4 : (a1).toInt ≠ (2 : Int) := y4
          refine q_ild rfl rfl ?_
          refine q_ic rfl ?_
          refine q_icmp (c := 1) rfl (by decide) (fun y5 => ?_) (fun y5 => ?_)
          · have y5 : (a1).toInt ≠ (3 : Int) := y5
            refine q_ild rfl rfl ?_
            refine q_ic rfl ?_
            refine q_icmp (c := 1) rfl (by decide) (fun y6 => ?_) (fun y6 => ?_)
            · have y6 : (a1).toInt ≠ (4 : Int) := y6
              refine q_ic rfl ?_
              exact q_iret rfl (hk _ _ (nk.2.2.2.2.2 (by omega)).symm)
            · have y6 : (a1).toInt = (4 : Int) := y6
              refine q_ild rfl rfl ?_
              refine q_goto rfl ?_
              exact q_iret rfl (hk I1 v3 (by rw [nk.2.2.2.2.1 y6, h3]))
          · have y5 : (a1).toInt = (3 : Int) := y5
            refine q_ild rfl rfl ?_
            refine q_goto rfl ?_
            exact q_iret rfl (hk I1 v2 (by rw [nk.2.2.2.1 y5, h2]))
        · have y4 : (a1).toInt = (2 : Int) := y4
          refine q_ald rfl rfl ?_
          refine q_getr rfl sk_404 sr_404_6 ?_
          refine q_ic rfl ?_
          refine q_xald rfl (Or.inl rfl) sk_406 sn_406 (by decide) (by decide) ?_
          refine q_goto rfl ?_
          exact q_iret rfl (hk I1 (I1 406 897) (by rw [nk.2.2.1 y4, e897]))
      · have y3 : (a1).toInt = (1 : Int) := y3
        refine q_ald rfl rfl ?_
        refine q_getr rfl sk_404 sr_404_6 ?_
        refine q_ic rfl ?_
        refine q_xald rfl (Or.inl rfl) sk_406 sn_406 (by decide) (by decide) ?_
        refine q_goto rfl ?_
        exact q_iret rfl (hk I1 (I1 406 896) (by rw [nk.2.1 y3, e896]))
    · have y2 : (a1).toInt = 0 := y2
      refine q_ald rfl rfl ?_
      refine q_getr rfl sk_404 sr_404_6 ?_
      refine q_ic rfl ?_
      refine q_xald rfl (Or.inl rfl) sk_406 sn_406 (by decide) (by decide) ?_
      refine q_goto rfl ?_
      exact q_iret rfl (hk I1 (I1 406 895) (by rw [nk.1 y2, e895]))
  · have y1 : ((I1 406 894)).toInt = 0 := y1
    refine q_ic rfl ?_
    refine q_iret rfl (hk _ _ ?_)
    unfold aNow
    rw [if_pos (i_eq (by rw [← e894]; exact y1))]
    rfl
set_option maxRecDepth 8000 in
theorem sky_y {R : Nat → Int32} {x t w : Int32} (h : okS R x ∧ okT t ∧ 0 ≤ w.toInt ∧ w.toInt ≤ 4) : aSky R x t w = (ndF (nU (nX R x)) w.toInt.toNat t.toInt.toNat).toInt := if_pos h
set_option maxRecDepth 8000 in
theorem sky_n {R : Nat → Int32} {x t w : Int32} (h : ¬ (okS R x ∧ okT t ∧ 0 ≤ w.toInt ∧ w.toInt ≤ 4)) : aSky R x t w = -1 := if_neg h
set_option maxRecDepth 8000 in
theorem v_csky {n : Nat} {I : Nat → Nat → Int32} {J : Nat → Nat → Int64} {K : dw_K} {x t w : Int32} {R : Nat → Int32} (hR : SREL I 3 R)
    (hk : ∀ v : Int32, v.toInt = aSky R x t w → K (some (.int v)) (n, SH1, I, J)) : t_X11_sky [.ref 0, .int x, .int t, .int w] (n, SH1, I, J) K := by
  have cm : (-1 : Int32).toInt = -1 := rfl
  have c5 : (5 : Int32).toInt = 5 := rfl
  refine q_body (Nat.le_of_ble_eq_true rfl) ?_
  refine q_ald rfl rfl ?_
  refine q_getr rfl sk_0 sr_0_1 ?_
  refine q_ild rfl rfl ?_
  refine q_callV (as := [.int x]) (rest := []) rfl rfl sk_3 rfl (Nat.le_of_ble_eq_true rfl) ?_
  refine v_nightOf (fun s hs hx => ?_) (fun hno => ?_)
  · obtain ⟨-, hB⟩ := no_ref hs
    show dw_ok (pr_X11_sky K) 8 0 0 [some (.ref 0), some (.int x), some (.int t), some (.int w), none] [.ref (58 + 7 * s)] (n, SH1, I, J)
    refine q_ast rfl rfl ?_
    refine q_ald rfl rfl ?_
    refine q_ifnull_r rfl ?_
    refine q_ald rfl rfl ?_
    refine q_getz rfl hB.1 ?_
    have es : x.toInt.toNat = s := by omega
    rcases rn_3 hR hs with ⟨e, em⟩ | ⟨e, hS, hn⟩
    · refine q_if (c := 0) rfl (by decide) (fun _ => ?_) (fun g => absurd (show (I (58 + 7 * s) 0).toInt = 0 by rw [e]; rfl) g)
      refine q_ic rfl ?_
      exact q_iret rfl (hk _ (cm.trans (sky_n (fun q => by
        have q1 := q.1.2
        rw [es] at q1
        have q2 : (R (221 + 97 * s + 0)).toInt < 0 := em
        rw [Nat.add_zero] at q2; omega)).symm))
    · refine q_if (c := 0) rfl (by decide) (fun g => absurd (show (I (58 + 7 * s) 0).toInt = 0 from g) (by rw [e]; decide)) (fun _ => ?_)
      obtain ⟨ok, en⟩ := okS_of hs hx hS
      refine q_ild rfl rfl ?_
      refine q_callS (as := [.int t]) (rest := []) rfl rfl rfl rfl ?_
      by_cases ht : 0 ≤ t.toInt ∧ t.toInt < 144
      · refine v_isStep ht.1 ht.2 ?_
        show dw_ok (pr_X11_sky K) 27 0 0 [some (.ref 0), some (.int x), some (.int t), some (.int w), some (.ref (58 + 7 * s))] [.int 1] (n, SH1, I, J)
        refine q_if (c := 0) rfl (by decide) (fun h => absurd (show (1 : Int32).toInt = 0 from h) (by decide)) (fun _ => ?_)
        refine q_ild rfl rfl ?_
        refine q_if (c := 2) rfl (by decide) (fun g => ?_) (fun g => ?_)
        · have g : w.toInt < 0 := g
          refine q_ic rfl ?_
          exact q_iret rfl (hk _ (cm.trans (sky_n (fun q => by omega)).symm))
        have g : 0 ≤ w.toInt := g
        refine q_ild rfl rfl ?_
        refine q_ic rfl ?_
        refine q_icmp (c := 2) rfl (by decide) (fun g2 => ?_) (fun g2 => ?_)
        · have g2 : w.toInt < (5 : Int32).toInt := g2
          refine q_ald rfl rfl ?_
          refine q_ild rfl rfl ?_
          refine q_ild rfl rfl ?_
          refine q_callV (as := [.int w, .int t]) (rest := []) rfl rfl hB.1 rfl (Nat.le_of_ble_eq_true rfl) ?_
          refine v_ntell (w := w.toInt.toNat) hB (by omega) (by omega) ht.1 ht.2 ?_
          refine q_iret rfl (hk _ ?_)
          rw [sky_y ⟨ok, ht, g, by omega⟩, en, hn w.toInt.toNat (by omega) t.toInt.toNat (by omega)]
        · have g2 : (5 : Int32).toInt ≤ w.toInt := g2
          refine q_ic rfl ?_
          exact q_iret rfl (hk _ (cm.trans (sky_n (fun q => by omega)).symm))
      · refine v_noStep ht ?_
        show dw_ok (pr_X11_sky K) 27 0 0 [some (.ref 0), some (.int x), some (.int t), some (.int w), some (.ref (58 + 7 * s))] [.int 0] (n, SH1, I, J)
        refine q_if (c := 0) rfl (by decide) (fun _ => ?_) (fun h => absurd rfl h)
        refine q_ic rfl ?_
        exact q_iret rfl (hk _ (cm.trans (sky_n (fun q => ht q.2.1)).symm))
  · show dw_ok (pr_X11_sky K) 8 0 0 [some (.ref 0), some (.int x), some (.int t), some (.int w), none] [.null] (n, SH1, I, J)
    refine q_astn rfl rfl ?_
    refine q_aldn rfl rfl ?_
    refine q_ifnull_n rfl ?_
    refine q_ic rfl ?_
    exact q_iret rfl (hk _ (cm.trans (sky_n (fun q => hno q.1.1)).symm))
set_option maxRecDepth 8000 in
theorem v_msky {n : Nat} {I : Nat → Nat → Int32} {J : Nat → Nat → Int64} {K : dw_K} {x t w : Int32} {R : Nat → Int32} (hR : I 406 = R) (hN : okS R x → NOK (nX R x))
    (hk : ∀ (I' : Nat → Nat → Int32) (v : Int32), v.toInt = aSky R x t w → K (some (.int v)) (n, SH1, I', J)) : t_X12_sky [.ref 404, .int x, .int t, .int w] (n, SH1, I, J) K := by
  have cm : (-1 : Int32).toInt = -1 := rfl
  refine q_body (Nat.le_of_ble_eq_true rfl) ?_
  refine q_ald rfl rfl ?_
  refine q_ic rfl ?_
  refine q_puti rfl sk_404 ?_
  show dw_ok (pr_X12_sky K) 5 0 0 [some (.ref 404), some (.int x), some (.int t), some (.int w)] [] (n, SH1, (dw_up I 404 0 (0 : Int32)), J)
  obtain ⟨I1, hI1⟩ : ∃ X, X = (dw_up I 404 0 (0 : Int32)) := ⟨_, rfl⟩
  show dw_ok (pr_X12_sky K) 5 0 0 [some (.ref 404), some (.int x), some (.int t), some (.int w)] [] (n, SH1, (dw_up I 404 0 (0 : Int32)), J)
  rw [← hI1]
  have e1 : I1 406 = R := by rw [hI1]; exact (up_row (show (406 : Nat) ≠ 404 by decide)).trans hR
  refine q_ald rfl rfl ?_
  refine q_ild rfl rfl ?_
  refine q_callV (as := [.int x]) (rest := []) rfl rfl sk_404 rfl (Nat.le_of_ble_eq_true rfl) ?_
  refine v_isNight (fun w_ oS => ?_)
  rcases oS with ⟨rfl, oS⟩ | ⟨rfl, oS⟩
  · show dw_ok (pr_X12_sky K) 10 0 0 [some (.ref 404), some (.int x), some (.int t), some (.int w)] [.int (1 : Int32)] (n, SH1, I1, J)
    refine q_if (c := 0) rfl (by decide) (fun h => absurd (show (1 : Int) = 0 from h) (by decide)) (fun y1 => ?_)
    have y1 : (1 : Int) ≠ 0 := y1
    refine q_ild rfl rfl ?_
    refine q_ic rfl ?_
    refine q_ic rfl ?_
    refine q_callS (as := [.int t, .int (0 : Int32), .int (143 : Int32)]) (rest := []) rfl rfl rfl rfl ?_
    refine v_isIn (fun w_ oT => ?_)
    rcases oT with ⟨rfl, oT⟩ | ⟨rfl, oT⟩
    · show dw_ok (pr_X12_sky K) 21 0 0 [some (.ref 404), some (.int x), some (.int t), some (.int w)] [.int (1 : Int32)] (n, SH1, I1, J)
      refine q_if (c := 1) rfl (by decide) (fun y2 => ?_) (fun h => absurd (show (1 : Int) = 0 from h) (by decide))
      have y2 : (1 : Int) ≠ 0 := y2
      refine q_ald rfl rfl ?_
      refine q_ald rfl rfl ?_
      refine q_ild rfl rfl ?_
      refine q_callV (as := [.int x]) (rest := [.ref 404]) rfl rfl sk_404 rfl (Nat.le_of_ble_eq_true rfl) ?_
      refine v_nightAt ?_
      show dw_ok (pr_X12_sky K) 32 0 0 [some (.ref 404), some (.int x), some (.int t), some (.int w)] [.int (221 + 97 * x), .ref 404] (n, SH1, I1, J)
      refine q_callV (as := [.int (221 + 97 * x)]) (rest := []) rfl rfl sk_404 rfl (Nat.le_of_ble_eq_true rfl) ?_
      rw [e1] at oS
      obtain ⟨⟨x0, x5⟩, -⟩ := id oS
      have hS := hN oS
      refine v_sees (F := 221 + 97 * x.toInt.toNat) (L := nL (nX R x)) (ix_a (x := 221) (a := 221) rfl (ix_m (m := 97) (show x.toInt = (x.toInt.toNat : Nat) by omega) rfl (by omega)) (by omega)) (by omega) (by rw [e1]; exact hS.1) (fun I2 hA2 hB2 => ?_)
      rw [e1] at hB2
      have t0 : 0 ≤ t.toInt := oT.1
      have t1 : t.toInt ≤ 143 := oT.2
      show dw_ok (pr_X12_sky K) 35 0 0 [some (.ref 404), some (.int x), some (.int t), some (.int w)] [] (n, SH1, I2, J)
      refine q_ild rfl rfl ?_
      refine q_tab rfl (fun h3 => ?_) (fun h3 => ?_)
      · show dw_ok (pr_X12_sky K) 107 0 0 [some (.ref 404), some (.int x), some (.int t), some (.int w)] [] (n, SH1, I2, J)
        refine q_ic rfl ?_
        exact q_iret rfl (hk _ _ (cm.trans (sky_n (fun q => by omega)).symm))
      · have h5 : w.toInt = 0 ∨ w.toInt = 1 ∨ w.toInt = 2 ∨ w.toInt = 3 ∨ w.toInt = 4 := by omega
        rcases h5 with h5 | h5 | h5 | h5 | h5
        · refine ⟨72, by rw [h5]; rfl, ?_⟩
          show dw_ok (pr_X12_sky K) 72 0 0 [some (.ref 404), some (.int x), some (.int t), some (.int w)] [] (n, SH1, I2, J)
          refine q_ald rfl rfl ?_
          refine q_getr rfl sk_404 sr_404_23 ?_
          refine q_ild rfl rfl ?_
          refine q_xald rfl (Or.inl rfl) sk_411 sn_411 (by omega) (by omega) ?_
          refine q_iret rfl (hk I2 (I2 411 t.toInt.toNat) ?_)
          rw [sky_y ⟨oS, ⟨t0, by omega⟩, by omega, by omega⟩, show w.toInt.toNat = 0 by omega]
          exact congrArg Int32.toInt (hB2 0 (by decide) t.toInt.toNat (by omega))
        · refine ⟨79, by rw [h5]; rfl, ?_⟩
          show dw_ok (pr_X12_sky K) 79 0 0 [some (.ref 404), some (.int x), some (.int t), some (.int w)] [] (n, SH1, I2, J)
          refine q_ald rfl rfl ?_
          refine q_getr rfl sk_404 sr_404_24 ?_
          refine q_ild rfl rfl ?_
          refine q_xald rfl (Or.inl rfl) sk_412 sn_412 (by omega) (by omega) ?_
          refine q_iret rfl (hk I2 (I2 412 t.toInt.toNat) ?_)
          rw [sky_y ⟨oS, ⟨t0, by omega⟩, by omega, by omega⟩, show w.toInt.toNat = 1 by omega]
          exact congrArg Int32.toInt (hB2 1 (by decide) t.toInt.toNat (by omega))
        · refine ⟨86, by rw [h5]; rfl, ?_⟩
          show dw_ok (pr_X12_sky K) 86 0 0 [some (.ref 404), some (.int x), some (.int t), some (.int w)] [] (n, SH1, I2, J)
          refine q_ald rfl rfl ?_
          refine q_getr rfl sk_404 sr_404_25 ?_
          refine q_ild rfl rfl ?_
          refine q_xald rfl (Or.inl rfl) sk_413 sn_413 (by omega) (by omega) ?_
          refine q_iret rfl (hk I2 (I2 413 t.toInt.toNat) ?_)
          rw [sky_y ⟨oS, ⟨t0, by omega⟩, by omega, by omega⟩, show w.toInt.toNat = 2 by omega]
          exact congrArg Int32.toInt (hB2 2 (by decide) t.toInt.toNat (by omega))
        · refine ⟨93, by rw [h5]; rfl, ?_⟩
          show dw_ok (pr_X12_sky K) 93 0 0 [some (.ref 404), some (.int x), some (.int t), some (.int w)] [] (n, SH1, I2, J)
          refine q_ald rfl rfl ?_
          refine q_getr rfl sk_404 sr_404_26 ?_
          refine q_ild rfl rfl ?_
          refine q_xald rfl (Or.inl rfl) sk_414 sn_414 (by omega) (by omega) ?_
          refine q_iret rfl (hk I2 (I2 414 t.toInt.toNat) ?_)
          rw [sky_y ⟨oS, ⟨t0, by omega⟩, by omega, by omega⟩, show w.toInt.toNat = 3 by omega]
          exact congrArg Int32.toInt (hB2 3 (by decide) t.toInt.toNat (by omega))
        · refine ⟨100, by rw [h5]; rfl, ?_⟩
          show dw_ok (pr_X12_sky K) 100 0 0 [some (.ref 404), some (.int x), some (.int t), some (.int w)] [] (n, SH1, I2, J)
          refine q_ald rfl rfl ?_
          refine q_getr rfl sk_404 sr_404_27 ?_
          refine q_ild rfl rfl ?_
          refine q_xald rfl (Or.inl rfl) sk_415 sn_415 (by omega) (by omega) ?_
          refine q_iret rfl (hk I2 (I2 415 t.toInt.toNat) ?_)
          rw [sky_y ⟨oS, ⟨t0, by omega⟩, by omega, by omega⟩, show w.toInt.toNat = 4 by omega]
          exact congrArg Int32.toInt (hB2 4 (by decide) t.toInt.toNat (by omega))
    · show dw_ok (pr_X12_sky K) 21 0 0 [some (.ref 404), some (.int x), some (.int t), some (.int w)] [.int (0 : Int32)] (n, SH1, I1, J)
      refine q_if (c := 1) rfl (by decide) (fun h => absurd (show (0 : Int) ≠ 0 from h) (by decide)) (fun y3 => ?_)
      have y3 : (0 : Int) = 0 := y3
      refine q_ic rfl ?_
      exact q_iret rfl (hk _ _ (cm.trans (sky_n (fun q => oT ⟨q.2.1.1, by have z := q.2.1.2; show t.toInt ≤ 143; omega⟩)).symm))
  · show dw_ok (pr_X12_sky K) 10 0 0 [some (.ref 404), some (.int x), some (.int t), some (.int w)] [.int (0 : Int32)] (n, SH1, I1, J)
    refine q_if (c := 0) rfl (by decide) (fun y4 => ?_) (fun h => absurd (show (0 : Int) ≠ 0 from h) (by decide))
    have y4 : (0 : Int) = 0 := y4
    refine q_ic rfl ?_
    rw [e1] at oS
    exact q_iret rfl (hk _ _ (cm.trans (sky_n (fun q => oS q.1)).symm))
end
section
/-! ===== fields that stay ===== -/
def FQ (A kd : Nat) (F : List Nat) (μ0 μ : dw_S) : Prop := (μ.2.1 A).1 = kd ∧ ∀ f, f ∈ F → μ.2.2.1 A f = μ0.2.2.1 A f
def FO (A kd : Nat) (F : List Nat) (o : dw_K → dw_Op) : Prop := ∀ (μ0 : dw_S) (K1 K3 : dw_K) (B1 B3 : dw_B), (∀ r μ, FQ A kd F μ0 μ → K1 r μ → K3 r μ) → (∀ pc bc bs ls st μ, FQ A kd F μ0 μ → B1 pc bc bs ls st μ → B3 pc bc bs ls st μ) → ∀ bc bs ls st μ, FQ A kd F μ0 μ → o K1 B1 bc bs ls st μ → o K3 B3 bc bs ls st μ
def FT (A kd : Nat) (F : List Nat) (T : dw_T) : Prop := ∀ (μ0 : dw_S) (as : List Value) (μ : dw_S) (K1 K3 : dw_K), FQ A kd F μ0 μ → (∀ r μ', FQ A kd F μ0 μ' → K1 r μ' → K3 r μ') → T as μ K1 → T as μ K3
def FP (A kd : Nat) (F : List Nat) (pr : dw_K → Nat → dw_Op) : Prop := ∀ pc, FO A kd F (fun K => pr K pc)
set_option maxRecDepth 8000 in
theorem fq_si {A kd a k : Nat} {F : List Nat} {μ0 μ : dw_S} {x : Int32} (h : FQ A kd F μ0 μ) (hn : (μ.2.1 a).1 ≠ kd ∨ k ∉ F) : FQ A kd F μ0 (dw_si μ a k x) := by
  refine ⟨h.1, fun f hf => ?_⟩
  show dw_up μ.2.2.1 a k x A f = _
  rw [show dw_up μ.2.2.1 a k x A f = μ.2.2.1 A f by
    unfold dw_up
    by_cases e : A = a
    · rw [if_pos e]
      by_cases q : f = k
      · rcases hn with g | g
        · exact absurd (e ▸ h.1) g
        · exact absurd (q ▸ hf) g
      · rw [if_neg q]
    · rw [if_neg e]]
  exact h.2 f hf
set_option maxRecDepth 8000 in
theorem fq_cp {A kd sr d sp dp n : Nat} {F : List Nat} {μ0 μ : dw_S} (h : FQ A kd F μ0 μ) (hn : (μ.2.1 d).1 ≠ kd) : FQ A kd F μ0 (dw_cp μ sr d sp dp n) := by
  refine ⟨h.1, fun f hf => ?_⟩
  show (if A = d then (if dp ≤ f ∧ f < dp + n then μ.2.2.1 sr (sp + (f - dp)) else μ.2.2.1 d f) else μ.2.2.1 A f) = _
  rw [if_neg (show ¬ A = d from fun e => hn (by rw [← e]; exact h.1))]
  exact h.2 f hf
set_option maxRecDepth 8000 in
theorem fq_sl {A kd a k : Nat} {F : List Nat} {μ0 μ : dw_S} {x : Int64} (h : FQ A kd F μ0 μ) : FQ A kd F μ0 (dw_sl μ a k x) := h
set_option maxRecDepth 8000 in
theorem f_sub {F A B : List Nat} (h : ∀ f, f ∈ F → f ∈ A) (hB : A.all (fun a => B.contains a) = true) : ∀ f, f ∈ F → f ∈ B := fun f hf => by
  have q := List.all_eq_true.mp hB f (h f hf)
  exact List.contains_iff_mem.mp q
set_option maxRecDepth 8000 in
theorem f_no {F A : List Nat} {k : Nat} (h : ∀ f, f ∈ F → f ∈ A) (hk : A.contains k = false) : k ∉ F := fun hf => by
  have q := List.contains_iff_mem.mpr (h k hf)
  rw [hk] at q
  exact absurd q (by decide)
section
variable {A kd : Nat} {F : List Nat}
set_option maxRecDepth 8000 in
theorem fo_no : FO A kd F (fun _ => o_no) := fun _ _ _ _ _ _ _ _ _ _ _ _ _ h => h.elim
set_option maxRecDepth 8000 in
theorem fp_lf {k : Nat} {o : dw_K → dw_Op} (h : FO A kd F o) : FP A kd F (fun K => dw_lf k (o K)) := by
  intro pc
  show FO A kd F (fun K => cond (Nat.beq pc k) (o K) o_no)
  cases Nat.beq pc k with
  | false => exact fo_no
  | true => exact h
set_option maxRecDepth 8000 in
theorem fp_br {k : Nat} {a b : dw_K → Nat → dw_Op} (ha : FP A kd F a) (hb : FP A kd F b) : FP A kd F (fun K => dw_br k (a K) (b K)) := by
  intro pc
  show FO A kd F (fun K => cond (Nat.ble k pc) (b K pc) (a K pc))
  cases Nat.ble k pc with
  | false => exact ha pc
  | true => exact hb pc
set_option maxRecDepth 8000 in
theorem fo_ok {pr : dw_K → Nat → dw_Op} (hP : FP A kd F pr) {μ0 : dw_S} {K1 K3 : dw_K} (hK : ∀ r μ, FQ A kd F μ0 μ → K1 r μ → K3 r μ) {pc bc bs : Nat} {ls : dw_L} {st : List Value} {μ : dw_S} (hq : FQ A kd F μ0 μ) (h1 : dw_ok (pr K1) pc bc bs ls st μ) : dw_ok (pr K3) pc bc bs ls st μ :=
  h1 (fun pc bc bs ls st μ => FQ A kd F μ0 μ → dw_ok (pr K3) pc bc bs ls st μ) (fun pc bc bs ls st μ B0 hB0 hop hq =>
    dw_ok.step (hP pc μ0 K1 K3 B0 (dw_ok (pr K3)) hK (fun pc bc bs ls st μ q a => hB0 pc bc bs ls st μ a q) bc bs ls st μ hq hop)) hq
set_option maxRecDepth 8000 in
theorem ft_body {nL mc ms : Nat} {pr : dw_K → Nat → dw_Op} (hP : FP A kd F pr) : FT A kd F (dw_body nL mc ms pr) := by
  intro μ0 as μ K1 K3 hq hK h1
  unfold dw_body at h1 ⊢
  by_cases c : (dw_inl as).length ≤ nL
  · rw [if_pos c] at h1 ⊢
    exact fo_ok hP hK hq h1
  · rw [if_neg c] at h1
    exact h1.elim
set_option maxRecDepth 8000 in
theorem fo_ic {v : Int32} {nx : Nat} : FO A kd F (fun _ => o_ic v nx) := by
  intro μ0 K1 K3 B1 B3 hK hB bc bs ls st μ hq h1
  exact hB _ _ _ _ _ _ hq h1
set_option maxRecDepth 8000 in
theorem fo_lc {v : Int64} {nx : Nat} : FO A kd F (fun _ => o_lc v nx) := by
  intro μ0 K1 K3 B1 B3 hK hB bc bs ls st μ hq h1
  exact hB _ _ _ _ _ _ hq h1
set_option maxRecDepth 8000 in
theorem fo_nul {nx : Nat} : FO A kd F (fun _ => o_nul nx) := by
  intro μ0 K1 K3 B1 B3 hK hB bc bs ls st μ hq h1
  exact hB _ _ _ _ _ _ hq h1
set_option maxRecDepth 8000 in
theorem fo_goto {nx : Nat} : FO A kd F (fun _ => o_goto nx) := by
  intro μ0 K1 K3 B1 B3 hK hB bc bs ls st μ hq h1
  exact hB _ _ _ _ _ _ hq h1
set_option maxRecDepth 8000 in
theorem fo_str {i nx : Nat} : FO A kd F (fun _ => o_str i nx) := by
  intro μ0 K1 K3 B1 B3 hK hB bc bs ls st μ hq h1
  exact hB _ _ _ _ _ _ hq h1
set_option maxRecDepth 8000 in
theorem fo_gsi {nx : Nat} : FO A kd F (fun _ => o_gsi nx) := by
  intro μ0 K1 K3 B1 B3 hK hB bc bs ls st μ hq h1
  exact hB _ _ _ _ _ _ hq h1
set_option maxRecDepth 8000 in
theorem fo_ild {i nx : Nat} : FO A kd F (fun _ => o_ild i nx) := by
  intro μ0 K1 K3 B1 B3 hK hB bc bs ls st μ hq h1
  unfold o_ild at h1 ⊢
  generalize ls[i]? = y at h1 ⊢
  split at h1
  all_goals first | exact h1.elim | exact hB _ _ _ _ _ _ hq h1
set_option maxRecDepth 8000 in
theorem fo_lld {i nx : Nat} : FO A kd F (fun _ => o_lld i nx) := by
  intro μ0 K1 K3 B1 B3 hK hB bc bs ls st μ hq h1
  unfold o_lld at h1 ⊢
  generalize ls[i]? = y at h1 ⊢
  split at h1
  all_goals first | exact h1.elim | exact hB _ _ _ _ _ _ hq h1
set_option maxRecDepth 8000 in
theorem fo_ald {i nx : Nat} : FO A kd F (fun _ => o_ald i nx) := by
  intro μ0 K1 K3 B1 B3 hK hB bc bs ls st μ hq h1
  unfold o_ald at h1 ⊢
  generalize ls[i]? = y at h1 ⊢
  split at h1
  all_goals first | exact h1.elim | exact hB _ _ _ _ _ _ hq h1
set_option maxRecDepth 8000 in
theorem fo_ist {i nx : Nat} : FO A kd F (fun _ => o_ist i nx) := by
  intro μ0 K1 K3 B1 B3 hK hB bc bs ls st μ hq h1
  unfold o_ist at h1 ⊢
  split at h1
  all_goals first | exact h1.elim | (try dsimp only) <;> (cases hf : dw_free ls i with
    | false => rw [hf] at h1; exact h1.elim
    | true => rw [hf] at h1; exact hB _ _ _ _ _ _ hq h1)
set_option maxRecDepth 8000 in
theorem fo_ast {i nx : Nat} : FO A kd F (fun _ => o_ast i nx) := by
  intro μ0 K1 K3 B1 B3 hK hB bc bs ls st μ hq h1
  unfold o_ast at h1 ⊢
  split at h1
  all_goals first | exact h1.elim | (try dsimp only) <;> (cases hf : dw_free ls i with
    | false => rw [hf] at h1; exact h1.elim
    | true => rw [hf] at h1; exact hB _ _ _ _ _ _ hq h1)
set_option maxRecDepth 8000 in
theorem fo_inc {i nx : Nat} {v : Int32} : FO A kd F (fun _ => o_inc i v nx) := by
  intro μ0 K1 K3 B1 B3 hK hB bc bs ls st μ hq h1
  unfold o_inc at h1 ⊢
  generalize ls[i]? = y at h1 ⊢
  split at h1
  all_goals first | exact h1.elim | (try dsimp only) <;> (cases hf : dw_free ls i with
    | false => rw [hf] at h1; exact h1.elim
    | true => rw [hf] at h1; exact hB _ _ _ _ _ _ hq h1)
set_option maxRecDepth 8000 in
theorem fo_dup {nx : Nat} : FO A kd F (fun _ => o_dup nx) := by
  intro μ0 K1 K3 B1 B3 hK hB bc bs ls st μ hq h1
  unfold o_dup at h1 ⊢
  split at h1
  all_goals first | exact h1.elim | exact hB _ _ _ _ _ _ hq h1
set_option maxRecDepth 8000 in
theorem fo_dup2 {nx : Nat} : FO A kd F (fun _ => o_dup2 nx) := by
  intro μ0 K1 K3 B1 B3 hK hB bc bs ls st μ hq h1
  unfold o_dup2 at h1 ⊢
  split at h1
  all_goals first | exact h1.elim | exact hB _ _ _ _ _ _ hq h1
set_option maxRecDepth 8000 in
theorem fo_pop {nx : Nat} : FO A kd F (fun _ => o_pop nx) := by
  intro μ0 K1 K3 B1 B3 hK hB bc bs ls st μ hq h1
  unfold o_pop at h1 ⊢
  split at h1
  all_goals first | exact h1.elim | exact hB _ _ _ _ _ _ hq h1
set_option maxRecDepth 8000 in
theorem fo_iadd {nx : Nat} : FO A kd F (fun _ => o_iadd nx) := by
  intro μ0 K1 K3 B1 B3 hK hB bc bs ls st μ hq h1
  unfold o_iadd at h1 ⊢
  split at h1
  all_goals first | exact h1.elim | exact hB _ _ _ _ _ _ hq h1
set_option maxRecDepth 8000 in
theorem fo_isub {nx : Nat} : FO A kd F (fun _ => o_isub nx) := by
  intro μ0 K1 K3 B1 B3 hK hB bc bs ls st μ hq h1
  unfold o_isub at h1 ⊢
  split at h1
  all_goals first | exact h1.elim | exact hB _ _ _ _ _ _ hq h1
set_option maxRecDepth 8000 in
theorem fo_imul {nx : Nat} : FO A kd F (fun _ => o_imul nx) := by
  intro μ0 K1 K3 B1 B3 hK hB bc bs ls st μ hq h1
  unfold o_imul at h1 ⊢
  split at h1
  all_goals first | exact h1.elim | exact hB _ _ _ _ _ _ hq h1
set_option maxRecDepth 8000 in
theorem fo_iand {nx : Nat} : FO A kd F (fun _ => o_iand nx) := by
  intro μ0 K1 K3 B1 B3 hK hB bc bs ls st μ hq h1
  unfold o_iand at h1 ⊢
  split at h1
  all_goals first | exact h1.elim | exact hB _ _ _ _ _ _ hq h1
set_option maxRecDepth 8000 in
theorem fo_ior {nx : Nat} : FO A kd F (fun _ => o_ior nx) := by
  intro μ0 K1 K3 B1 B3 hK hB bc bs ls st μ hq h1
  unfold o_ior at h1 ⊢
  split at h1
  all_goals first | exact h1.elim | exact hB _ _ _ _ _ _ hq h1
set_option maxRecDepth 8000 in
theorem fo_ishl {nx : Nat} : FO A kd F (fun _ => o_ishl nx) := by
  intro μ0 K1 K3 B1 B3 hK hB bc bs ls st μ hq h1
  unfold o_ishl at h1 ⊢
  split at h1
  all_goals first | exact h1.elim | exact hB _ _ _ _ _ _ hq h1
set_option maxRecDepth 8000 in
theorem fo_ishr {nx : Nat} : FO A kd F (fun _ => o_ishr nx) := by
  intro μ0 K1 K3 B1 B3 hK hB bc bs ls st μ hq h1
  unfold o_ishr at h1 ⊢
  split at h1
  all_goals first | exact h1.elim | exact hB _ _ _ _ _ _ hq h1
set_option maxRecDepth 8000 in
theorem fo_iushr {nx : Nat} : FO A kd F (fun _ => o_iushr nx) := by
  intro μ0 K1 K3 B1 B3 hK hB bc bs ls st μ hq h1
  unfold o_iushr at h1 ⊢
  split at h1
  all_goals first | exact h1.elim | exact hB _ _ _ _ _ _ hq h1
set_option maxRecDepth 8000 in
theorem fo_ineg {nx : Nat} : FO A kd F (fun _ => o_ineg nx) := by
  intro μ0 K1 K3 B1 B3 hK hB bc bs ls st μ hq h1
  unfold o_ineg at h1 ⊢
  split at h1
  all_goals first | exact h1.elim | exact hB _ _ _ _ _ _ hq h1
set_option maxRecDepth 8000 in
theorem fo_i2b {nx : Nat} : FO A kd F (fun _ => o_i2b nx) := by
  intro μ0 K1 K3 B1 B3 hK hB bc bs ls st μ hq h1
  unfold o_i2b at h1 ⊢
  split at h1
  all_goals first | exact h1.elim | exact hB _ _ _ _ _ _ hq h1
set_option maxRecDepth 8000 in
theorem fo_i2l {nx : Nat} : FO A kd F (fun _ => o_i2l nx) := by
  intro μ0 K1 K3 B1 B3 hK hB bc bs ls st μ hq h1
  unfold o_i2l at h1 ⊢
  split at h1
  all_goals first | exact h1.elim | exact hB _ _ _ _ _ _ hq h1
set_option maxRecDepth 8000 in
theorem fo_lor {nx : Nat} : FO A kd F (fun _ => o_lor nx) := by
  intro μ0 K1 K3 B1 B3 hK hB bc bs ls st μ hq h1
  unfold o_lor at h1 ⊢
  split at h1
  all_goals first | exact h1.elim | exact hB _ _ _ _ _ _ hq h1
set_option maxRecDepth 8000 in
theorem fo_lshl {nx : Nat} : FO A kd F (fun _ => o_lshl nx) := by
  intro μ0 K1 K3 B1 B3 hK hB bc bs ls st μ hq h1
  unfold o_lshl at h1 ⊢
  split at h1
  all_goals first | exact h1.elim | exact hB _ _ _ _ _ _ hq h1
set_option maxRecDepth 8000 in
theorem fo_lcmp {nx : Nat} : FO A kd F (fun _ => o_lcmp nx) := by
  intro μ0 K1 K3 B1 B3 hK hB bc bs ls st μ hq h1
  unfold o_lcmp at h1 ⊢
  split at h1
  all_goals first | exact h1.elim | exact hB _ _ _ _ _ _ hq h1
set_option maxRecDepth 8000 in
theorem fo_i2c {nx : Nat} : FO A kd F (fun _ => o_i2c nx) := by
  intro μ0 K1 K3 B1 B3 hK hB bc bs ls st μ hq h1
  unfold o_i2c at h1 ⊢
  split at h1
  all_goals first | exact h1.elim | exact hB _ _ _ _ _ _ hq h1
set_option maxRecDepth 8000 in
theorem fo_ifnull {tg nx : Nat} : FO A kd F (fun _ => o_ifnull tg nx) := by
  intro μ0 K1 K3 B1 B3 hK hB bc bs ls st μ hq h1
  unfold o_ifnull at h1 ⊢
  split at h1
  all_goals first | exact h1.elim | exact hB _ _ _ _ _ _ hq h1
set_option maxRecDepth 8000 in
theorem fo_ifnn {tg nx : Nat} : FO A kd F (fun _ => o_ifnn tg nx) := by
  intro μ0 K1 K3 B1 B3 hK hB bc bs ls st μ hq h1
  unfold o_ifnn at h1 ⊢
  split at h1
  all_goals first | exact h1.elim | exact hB _ _ _ _ _ _ hq h1
set_option maxRecDepth 8000 in
theorem fo_icmp_eq {tg nx : Nat} : FO A kd F (fun _ => o_icmp_eq tg nx) := by
  intro μ0 K1 K3 B1 B3 hK hB bc bs ls st μ hq h1
  unfold o_icmp_eq at h1 ⊢
  split at h1
  · (try dsimp only at h1) <;> (try dsimp only)
    split at h1
    next c => rw [if_pos c]; exact hB _ _ _ _ _ _ hq h1
    next c => rw [if_neg c]; exact hB _ _ _ _ _ _ hq h1
  · exact h1.elim
set_option maxRecDepth 8000 in
theorem fo_if_eq {tg nx : Nat} : FO A kd F (fun _ => o_if_eq tg nx) := by
  intro μ0 K1 K3 B1 B3 hK hB bc bs ls st μ hq h1
  unfold o_if_eq at h1 ⊢
  split at h1
  · (try dsimp only at h1) <;> (try dsimp only)
    split at h1
    next c => rw [if_pos c]; exact hB _ _ _ _ _ _ hq h1
    next c => rw [if_neg c]; exact hB _ _ _ _ _ _ hq h1
  · exact h1.elim
set_option maxRecDepth 8000 in
theorem fo_icmp_ne {tg nx : Nat} : FO A kd F (fun _ => o_icmp_ne tg nx) := by
  intro μ0 K1 K3 B1 B3 hK hB bc bs ls st μ hq h1
  unfold o_icmp_ne at h1 ⊢
  split at h1
  · (try dsimp only at h1) <;> (try dsimp only)
    split at h1
    next c => rw [if_pos c]; exact hB _ _ _ _ _ _ hq h1
    next c => rw [if_neg c]; exact hB _ _ _ _ _ _ hq h1
  · exact h1.elim
set_option maxRecDepth 8000 in
theorem fo_if_ne {tg nx : Nat} : FO A kd F (fun _ => o_if_ne tg nx) := by
  intro μ0 K1 K3 B1 B3 hK hB bc bs ls st μ hq h1
  unfold o_if_ne at h1 ⊢
  split at h1
  · (try dsimp only at h1) <;> (try dsimp only)
    split at h1
    next c => rw [if_pos c]; exact hB _ _ _ _ _ _ hq h1
    next c => rw [if_neg c]; exact hB _ _ _ _ _ _ hq h1
  · exact h1.elim
set_option maxRecDepth 8000 in
theorem fo_icmp_lt {tg nx : Nat} : FO A kd F (fun _ => o_icmp_lt tg nx) := by
  intro μ0 K1 K3 B1 B3 hK hB bc bs ls st μ hq h1
  unfold o_icmp_lt at h1 ⊢
  split at h1
  · (try dsimp only at h1) <;> (try dsimp only)
    split at h1
    next c => rw [if_pos c]; exact hB _ _ _ _ _ _ hq h1
    next c => rw [if_neg c]; exact hB _ _ _ _ _ _ hq h1
  · exact h1.elim
set_option maxRecDepth 8000 in
theorem fo_if_lt {tg nx : Nat} : FO A kd F (fun _ => o_if_lt tg nx) := by
  intro μ0 K1 K3 B1 B3 hK hB bc bs ls st μ hq h1
  unfold o_if_lt at h1 ⊢
  split at h1
  · (try dsimp only at h1) <;> (try dsimp only)
    split at h1
    next c => rw [if_pos c]; exact hB _ _ _ _ _ _ hq h1
    next c => rw [if_neg c]; exact hB _ _ _ _ _ _ hq h1
  · exact h1.elim
set_option maxRecDepth 8000 in
theorem fo_icmp_ge {tg nx : Nat} : FO A kd F (fun _ => o_icmp_ge tg nx) := by
  intro μ0 K1 K3 B1 B3 hK hB bc bs ls st μ hq h1
  unfold o_icmp_ge at h1 ⊢
  split at h1
  · (try dsimp only at h1) <;> (try dsimp only)
    split at h1
    next c => rw [if_pos c]; exact hB _ _ _ _ _ _ hq h1
    next c => rw [if_neg c]; exact hB _ _ _ _ _ _ hq h1
  · exact h1.elim
set_option maxRecDepth 8000 in
theorem fo_if_ge {tg nx : Nat} : FO A kd F (fun _ => o_if_ge tg nx) := by
  intro μ0 K1 K3 B1 B3 hK hB bc bs ls st μ hq h1
  unfold o_if_ge at h1 ⊢
  split at h1
  · (try dsimp only at h1) <;> (try dsimp only)
    split at h1
    next c => rw [if_pos c]; exact hB _ _ _ _ _ _ hq h1
    next c => rw [if_neg c]; exact hB _ _ _ _ _ _ hq h1
  · exact h1.elim
set_option maxRecDepth 8000 in
theorem fo_icmp_gt {tg nx : Nat} : FO A kd F (fun _ => o_icmp_gt tg nx) := by
  intro μ0 K1 K3 B1 B3 hK hB bc bs ls st μ hq h1
  unfold o_icmp_gt at h1 ⊢
  split at h1
  · (try dsimp only at h1) <;> (try dsimp only)
    split at h1
    next c => rw [if_pos c]; exact hB _ _ _ _ _ _ hq h1
    next c => rw [if_neg c]; exact hB _ _ _ _ _ _ hq h1
  · exact h1.elim
set_option maxRecDepth 8000 in
theorem fo_if_gt {tg nx : Nat} : FO A kd F (fun _ => o_if_gt tg nx) := by
  intro μ0 K1 K3 B1 B3 hK hB bc bs ls st μ hq h1
  unfold o_if_gt at h1 ⊢
  split at h1
  · (try dsimp only at h1) <;> (try dsimp only)
    split at h1
    next c => rw [if_pos c]; exact hB _ _ _ _ _ _ hq h1
    next c => rw [if_neg c]; exact hB _ _ _ _ _ _ hq h1
  · exact h1.elim
set_option maxRecDepth 8000 in
theorem fo_icmp_le {tg nx : Nat} : FO A kd F (fun _ => o_icmp_le tg nx) := by
  intro μ0 K1 K3 B1 B3 hK hB bc bs ls st μ hq h1
  unfold o_icmp_le at h1 ⊢
  split at h1
  · (try dsimp only at h1) <;> (try dsimp only)
    split at h1
    next c => rw [if_pos c]; exact hB _ _ _ _ _ _ hq h1
    next c => rw [if_neg c]; exact hB _ _ _ _ _ _ hq h1
  · exact h1.elim
set_option maxRecDepth 8000 in
theorem fo_if_le {tg nx : Nat} : FO A kd F (fun _ => o_if_le tg nx) := by
  intro μ0 K1 K3 B1 B3 hK hB bc bs ls st μ hq h1
  unfold o_if_le at h1 ⊢
  split at h1
  · (try dsimp only at h1) <;> (try dsimp only)
    split at h1
    next c => rw [if_pos c]; exact hB _ _ _ _ _ _ hq h1
    next c => rw [if_neg c]; exact hB _ _ _ _ _ _ hq h1
  · exact h1.elim
set_option maxRecDepth 8000 in
theorem fo_idiv {nx : Nat} : FO A kd F (fun _ => o_idiv nx) := by
  intro μ0 K1 K3 B1 B3 hK hB bc bs ls st μ hq h1
  unfold o_idiv at h1 ⊢
  split at h1
  · (try dsimp only at h1) <;> (try dsimp only)
    split at h1
    next => exact h1.elim
    next c => rw [if_neg c]; exact hB _ _ _ _ _ _ hq h1
  · exact h1.elim
set_option maxRecDepth 8000 in
theorem fo_irem {nx : Nat} : FO A kd F (fun _ => o_irem nx) := by
  intro μ0 K1 K3 B1 B3 hK hB bc bs ls st μ hq h1
  unfold o_irem at h1 ⊢
  split at h1
  · (try dsimp only at h1) <;> (try dsimp only)
    split at h1
    next => exact h1.elim
    next c => rw [if_neg c]; exact hB _ _ _ _ _ _ hq h1
  · exact h1.elim
set_option maxRecDepth 8000 in
theorem fo_max {nx : Nat} : FO A kd F (fun _ => o_max nx) := by
  intro μ0 K1 K3 B1 B3 hK hB bc bs ls st μ hq h1
  unfold o_max at h1 ⊢
  split at h1
  · (try dsimp only at h1) <;> (try dsimp only)
    split at h1
    next c => rw [if_pos c]; exact hB _ _ _ _ _ _ hq h1
    next => exact h1.elim
  · exact h1.elim
set_option maxRecDepth 8000 in
theorem fo_min {nx : Nat} : FO A kd F (fun _ => o_min nx) := by
  intro μ0 K1 K3 B1 B3 hK hB bc bs ls st μ hq h1
  unfold o_min at h1 ⊢
  split at h1
  · (try dsimp only at h1) <;> (try dsimp only)
    split at h1
    next c => rw [if_pos c]; exact hB _ _ _ _ _ _ hq h1
    next => exact h1.elim
  · exact h1.elim
set_option maxRecDepth 8000 in
theorem fo_abs {nx : Nat} : FO A kd F (fun _ => o_abs nx) := by
  intro μ0 K1 K3 B1 B3 hK hB bc bs ls st μ hq h1
  unfold o_abs at h1 ⊢
  split at h1
  · (try dsimp only at h1) <;> (try dsimp only)
    split at h1
    next c => rw [if_pos c]; exact hB _ _ _ _ _ _ hq h1
    next => exact h1.elim
  · exact h1.elim
set_option maxRecDepth 8000 in
theorem fo_tab {lo hi : Int} {tgs : List Nat} {df : Nat} : FO A kd F (fun _ => o_tab lo hi tgs df) := by
  intro μ0 K1 K3 B1 B3 hK hB bc bs ls st μ hq h1
  unfold o_tab at h1 ⊢
  split at h1
  · (try dsimp only at h1) <;> (try dsimp only)
    split at h1
    next c => rw [if_pos c]; exact hB _ _ _ _ _ _ hq h1
    next c =>
      rw [if_neg c]
      split at h1
      next tg e => exact hB _ _ _ _ _ _ hq h1
      next => exact h1.elim
  · exact h1.elim
set_option maxRecDepth 8000 in
theorem fo_look {ps : List (Int × Nat)} {df : Nat} : FO A kd F (fun _ => o_look ps df) := by
  intro μ0 K1 K3 B1 B3 hK hB bc bs ls st μ hq h1
  unfold o_look at h1 ⊢
  split at h1
  all_goals first | exact h1.elim | exact hB _ _ _ _ _ _ hq h1
set_option maxRecDepth 8000 in
theorem fo_fitI {t : Nat} {v : Int32} {P R : Prop} (h : P → R) (h1 : dw_fitI t v P) : dw_fitI t v R := co_fitI (fun a _ => h a) h1 h1
set_option maxRecDepth 8000 in
theorem fo_fitC {t : Nat} {v : Int32} {P R : Prop} (h : P → R) (h1 : dw_fitC t v P) : dw_fitC t v R := co_fitC (fun a _ => h a) h1 h1
set_option maxRecDepth 8000 in
theorem fo_getf {ci k t nx : Nat} : FO A kd F (fun _ => o_getf ci k t nx) := by
  intro μ0 K1 K3 B1 B3 hK hB bc bs ls st μ hq h1
  unfold o_getf at h1 ⊢
  split at h1
  · (try dsimp only at h1) <;> (try dsimp only)
    split at h1
    next c =>
      rw [if_pos c]
      exact fo_fitI (fun a => hB _ _ _ _ _ _ hq a) h1
    next => exact h1.elim
  · exact h1.elim
set_option maxRecDepth 8000 in
theorem fo_puti {ci k t nx : Nat} (hn : ci ≠ kd ∨ k ∉ F) : FO A kd F (fun _ => o_puti ci k t nx) := by
  intro μ0 K1 K3 B1 B3 hK hB bc bs ls st μ hq h1
  unfold o_puti at h1 ⊢
  split at h1
  · (try dsimp only at h1) <;> (try dsimp only)
    split at h1
    next c =>
      rw [if_pos c]
      exact fo_fitC (fun a => hB _ _ _ _ _ _ (fq_si hq (hn.elim (fun g => Or.inl (by rw [c]; exact g)) Or.inr)) a) h1
    next => exact h1.elim
  · exact h1.elim
set_option maxRecDepth 8000 in
theorem fo_putl {ci k nx : Nat} : FO A kd F (fun _ => o_putl ci k nx) := by
  intro μ0 K1 K3 B1 B3 hK hB bc bs ls st μ hq h1
  unfold o_putl at h1 ⊢
  split at h1
  · (try dsimp only at h1) <;> (try dsimp only)
    split at h1
    next c => rw [if_pos c]; exact hB _ _ _ _ _ _ (fq_sl hq) h1
    next => exact h1.elim
  · exact h1.elim
set_option maxRecDepth 8000 in
theorem fo_xald {kk t nx : Nat} : FO A kd F (fun _ => o_xald kk t nx) := by
  intro μ0 K1 K3 B1 B3 hK hB bc bs ls st μ hq h1
  unfold o_xald at h1 ⊢
  split at h1
  · (try dsimp only at h1) <;> (try dsimp only)
    split at h1
    next c =>
      rw [if_pos c]
      split at h1
      next c2 =>
        rw [if_pos c2]
        exact fo_fitI (fun a => hB _ _ _ _ _ _ hq a) h1
      next => exact h1.elim
    next => exact h1.elim
  · exact h1.elim
set_option maxRecDepth 8000 in
theorem fo_iast {kk t nx : Nat} (hn : kk ≠ kd) : FO A kd F (fun _ => o_iast kk t nx) := by
  intro μ0 K1 K3 B1 B3 hK hB bc bs ls st μ hq h1
  unfold o_iast at h1 ⊢
  split at h1
  · (try dsimp only at h1) <;> (try dsimp only)
    split at h1
    next c =>
      rw [if_pos c]
      split at h1
      next c2 =>
        rw [if_pos c2]
        exact fo_fitC (fun a => hB _ _ _ _ _ _ (fq_si hq (Or.inl (by rw [c]; exact hn))) a) h1
      next => exact h1.elim
    next => exact h1.elim
  · exact h1.elim
set_option maxRecDepth 8000 in
theorem fo_last {nx : Nat} : FO A kd F (fun _ => o_last nx) := by
  intro μ0 K1 K3 B1 B3 hK hB bc bs ls st μ hq h1
  unfold o_last at h1 ⊢
  split at h1
  · (try dsimp only at h1) <;> (try dsimp only)
    split at h1
    next c =>
      rw [if_pos c]
      split at h1
      next c2 =>
        rw [if_pos c2]
        exact hB _ _ _ _ _ _ (fq_sl hq) h1
      next => exact h1.elim
    next => exact h1.elim
  · exact h1.elim
set_option maxRecDepth 8000 in
theorem fo_copy {nx : Nat} (hn : (16 : Nat) ≠ kd) : FO A kd F (fun _ => o_copy nx) := by
  intro μ0 K1 K3 B1 B3 hK hB bc bs ls st μ hq h1
  unfold o_copy at h1 ⊢
  split at h1
  · (try dsimp only at h1) <;> (try dsimp only)
    split at h1
    next c =>
      rw [if_pos c]
      split at h1
      next c2 =>
        rw [if_pos c2]
        exact hB _ _ _ _ _ _ (fq_cp hq (by rw [c.2.1]; exact hn)) h1
      next => exact h1.elim
    next => exact h1.elim
  · exact h1.elim
set_option maxRecDepth 8000 in
theorem fo_alen {nx : Nat} : FO A kd F (fun _ => o_alen nx) := by
  intro μ0 K1 K3 B1 B3 hK hB bc bs ls st μ hq h1
  unfold o_alen at h1 ⊢
  split at h1
  · (try dsimp only at h1) <;> (try dsimp only)
    split at h1
    next c => rw [if_pos c]; exact hB _ _ _ _ _ _ hq h1
    next => exact h1.elim
  · exact h1.elim
set_option maxRecDepth 8000 in
theorem fo_xgv {nx : Nat} : FO A kd F (fun _ => o_xgv nx) := by
  intro μ0 K1 K3 B1 B3 hK hB bc bs ls st μ hq h1
  unfold o_xgv at h1 ⊢
  split at h1
  · (try dsimp only at h1) <;> (try dsimp only)
    split at h1
    next c => rw [if_pos c]; exact hB _ _ _ _ _ _ hq h1
    next => exact h1.elim
  · exact h1.elim
set_option maxRecDepth 8000 in
theorem fo_xgc {nx : Nat} : FO A kd F (fun _ => o_xgc nx) := by
  intro μ0 K1 K3 B1 B3 hK hB bc bs ls st μ hq h1
  unfold o_xgc at h1 ⊢
  split at h1
  · (try dsimp only at h1) <;> (try dsimp only)
    split at h1
    next c => rw [if_pos c]; exact hB _ _ _ _ _ _ hq h1
    next => exact h1.elim
  · exact h1.elim
set_option maxRecDepth 8000 in
theorem fo_xal {nx : Nat} : FO A kd F (fun _ => o_xal nx) := by
  intro μ0 K1 K3 B1 B3 hK hB bc bs ls st μ hq h1
  unfold o_xal at h1 ⊢
  split at h1
  · (try dsimp only at h1) <;> (try dsimp only)
    split at h1
    next c => rw [if_pos c]; exact hB _ _ _ _ _ _ hq h1
    next => exact h1.elim
  · exact h1.elim
set_option maxRecDepth 8000 in
theorem fo_xbl {nx : Nat} : FO A kd F (fun _ => o_xbl nx) := by
  intro μ0 K1 K3 B1 B3 hK hB bc bs ls st μ hq h1
  unfold o_xbl at h1 ⊢
  split at h1
  · (try dsimp only at h1) <;> (try dsimp only)
    split at h1
    next c =>
      rw [if_pos c]
      split at h1
      next c2 =>
        rw [if_pos c2]
        exact hB _ _ _ _ _ _ hq h1
      next => exact h1.elim
    next => exact h1.elim
  · exact h1.elim
set_option maxRecDepth 8000 in
theorem fo_gsr {nx : Nat} : FO A kd F (fun _ => o_gsr nx) := by
  intro μ0 K1 K3 B1 B3 hK hB bc bs ls st μ hq h1
  exact ⟨hB _ _ _ _ _ _ hq h1.1, hB _ _ _ _ _ _ hq h1.2⟩
set_option maxRecDepth 8000 in
theorem fo_iret : FO A kd F (fun K => o_iret K) := by
  intro μ0 K1 K3 B1 B3 hK hB bc bs ls st μ hq h1
  unfold o_iret at h1 ⊢
  split at h1
  all_goals first | exact h1.elim | exact hK _ _ hq h1
set_option maxRecDepth 8000 in
theorem fo_vret : FO A kd F (fun K => o_vret K) := by
  intro μ0 K1 K3 B1 B3 hK hB bc bs ls st μ hq h1
  unfold o_vret at h1 ⊢
  split at h1
  all_goals first | exact h1.elim | exact hK _ _ hq h1
set_option maxRecDepth 8000 in
theorem fo_aret : FO A kd F (fun K => o_aret K) := by
  intro μ0 K1 K3 B1 B3 hK hB bc bs ls st μ hq h1
  unfold o_aret at h1 ⊢
  split at h1
  all_goals first | exact h1.elim | exact hK _ _ hq h1
set_option maxRecDepth 8000 in
theorem fo_zret : FO A kd F (fun K => o_zret K) := by
  intro μ0 K1 K3 B1 B3 hK hB bc bs ls st μ hq h1
  unfold o_zret at h1 ⊢
  split at h1
  · (try dsimp only at h1) <;> (try dsimp only)
    split at h1
    next c => rw [if_pos c]; exact hK _ _ hq h1
    next => exact h1.elim
  · exact h1.elim
set_option maxRecDepth 8000 in
theorem fo_nret {ty : FieldType} : FO A kd F (fun K => o_nret ty K) := by
  intro μ0 K1 K3 B1 B3 hK hB bc bs ls st μ hq h1
  unfold o_nret at h1 ⊢
  split at h1
  · exact ⟨h1.1, hK _ _ hq h1.2⟩
  · exact h1.elim
set_option maxRecDepth 8000 in
theorem fo_callV {ci k mc ms nx : Nat} {T : dw_T} (hT : FT A kd F T) : FO A kd F (fun _ => o_callV ci k mc ms T nx) := by
  intro μ0 K1 K3 B1 B3 hK hB bc bs ls st μ hq h1
  unfold o_callV at h1 ⊢
  generalize dw_sp k st [] = y at h1 ⊢
  split at h1
  · (try dsimp only at h1) <;> (try dsimp only)
    split at h1
    next c => rw [if_pos c]; exact hT _ _ _ _ _ hq (fun r μ' q a => hB _ _ _ _ _ _ q a) h1
    next => exact h1.elim
  · exact h1.elim
set_option maxRecDepth 8000 in
theorem fo_callT {k mc ms nx : Nat} {T : dw_T} (hT : FT A kd F T) : FO A kd F (fun _ => o_callT k mc ms T nx) := by
  intro μ0 K1 K3 B1 B3 hK hB bc bs ls st μ hq h1
  unfold o_callT at h1 ⊢
  generalize dw_sp k st [] = y at h1 ⊢
  split at h1
  · (try dsimp only at h1) <;> (try dsimp only)
    split at h1
    next c => rw [if_pos c]; exact hT _ _ _ _ _ hq (fun r μ' q a => hB _ _ _ _ _ _ q a) h1
    next => exact h1.elim
  · exact h1.elim
set_option maxRecDepth 8000 in
theorem fo_callS {k mc ms nx : Nat} {T : dw_T} (hT : FT A kd F T) : FO A kd F (fun _ => o_callS k mc ms T nx) := by
  intro μ0 K1 K3 B1 B3 hK hB bc bs ls st μ hq h1
  unfold o_callS at h1 ⊢
  generalize dw_sp k st [] = y at h1 ⊢
  split at h1
  · (try dsimp only at h1) <;> (try dsimp only)
    split at h1
    next c => rw [if_pos c]; exact hT _ _ _ _ _ hq (fun r μ' q a => hB _ _ _ _ _ _ q a) h1
    next => exact h1.elim
end
set_option maxRecDepth 8000 in
theorem fm_X12_four {F : List Nat} (hF : ∀ f, f ∈ F → f ∈ [41, 48, 54]) : FT 404 12 F t_X12_four := ft_body (fp_br (fp_br (fp_br (fp_br (fp_lf fo_ic) (fp_lf fo_ist)) (fp_br (fp_lf fo_ild) (fp_br (fp_lf fo_if_lt) (fp_lf fo_ald)))) (fp_br (fp_br (fp_lf fo_getf) (fp_br (fp_lf fo_ald) (fp_lf fo_getf))) (fp_br (fp_lf fo_ild) (fp_br (fp_lf fo_ild) (fp_lf fo_ishr))))) (fp_br (fp_br (fp_br (fp_lf fo_i2b) (fp_lf (fo_iast (by decide)))) (fp_br (fp_lf fo_ald) (fp_br (fp_lf fo_dup) (fp_lf fo_getf)))) (fp_br (fp_br (fp_lf fo_ic) (fp_br (fp_lf fo_iadd) (fp_lf (fo_puti (Or.inr (f_no hF (by decide))))))) (fp_br (fp_lf fo_inc) (fp_br (fp_lf fo_goto) (fp_lf fo_vret))))))
set_option maxRecDepth 8000 in
theorem fm_X12_feed {F : List Nat} (hF : ∀ f, f ∈ F → f ∈ [41, 48, 54]) : FT 404 12 F t_X12_feed := ft_body (fp_br (fp_br (fp_br (fp_br (fp_lf fo_ald) (fp_br (fp_lf fo_ic) (fp_lf (fo_puti (Or.inr (f_no hF (by decide))))))) (fp_br (fp_br (fp_lf fo_ald) (fp_lf fo_getf)) (fp_br (fp_lf fo_ic) (fp_lf fo_iadd)))) (fp_br (fp_br (fp_lf fo_ic) (fp_br (fp_lf fo_icmp_le) (fp_lf fo_ic))) (fp_br (fp_br (fp_lf fo_iret) (fp_lf fo_ald)) (fp_br (fp_lf fo_ild) (fp_lf (fo_callV (fm_X12_four (f_sub hF (by decide))))))))) (fp_br (fp_br (fp_br (fp_lf fo_ald) (fp_br (fp_lf fo_ild) (fp_lf (fo_callV (fm_X12_four (f_sub hF (by decide))))))) (fp_br (fp_br (fp_lf fo_ald) (fp_lf fo_ild)) (fp_br (fp_lf (fo_callV (fm_X12_four (f_sub hF (by decide))))) (fp_lf fo_ald)))) (fp_br (fp_br (fp_br (fp_lf fo_ild) (fp_lf (fo_callV (fm_X12_four (f_sub hF (by decide)))))) (fp_br (fp_lf fo_ald) (fp_lf fo_ild))) (fp_br (fp_br (fp_lf (fo_callV (fm_X12_four (f_sub hF (by decide))))) (fp_lf fo_ald)) (fp_br (fp_lf fo_getf) (fp_lf fo_iret))))))
set_option maxRecDepth 8000 in
theorem fm_X12_end {F : List Nat} (hF : ∀ f, f ∈ F → f ∈ [41, 48, 54]) : FT 404 12 F t_X12_end := ft_body (fp_br (fp_br (fp_br (fp_br (fp_lf fo_ald) (fp_lf fo_ic)) (fp_br (fp_lf (fo_puti (Or.inr (f_no hF (by decide))))) (fp_lf fo_ild))) (fp_br (fp_br (fp_lf fo_if_lt) (fp_lf fo_ild)) (fp_br (fp_lf fo_ald) (fp_lf fo_getf)))) (fp_br (fp_br (fp_br (fp_lf fo_icmp_le) (fp_lf fo_ic)) (fp_br (fp_lf fo_zret) (fp_lf fo_ald))) (fp_br (fp_br (fp_lf fo_ild) (fp_lf (fo_puti (Or.inr (f_no hF (by decide)))))) (fp_br (fp_lf fo_ic) (fp_lf fo_zret)))))
set_option maxRecDepth 8000 in
theorem fm_X12_taken {F : List Nat} (hF : ∀ f, f ∈ F → f ∈ [41, 48, 54]) : FT 404 12 F t_X12_taken := ft_body (fp_br (fp_br (fp_br (fp_lf fo_ald) (fp_br (fp_lf fo_ald) (fp_lf fo_getf))) (fp_br (fp_br (fp_lf (fo_puti (Or.inr (f_no hF (by decide))))) (fp_lf fo_ald)) (fp_br (fp_lf fo_ic) (fp_lf (fo_puti (Or.inr (f_no hF (by decide)))))))) (fp_br (fp_br (fp_lf fo_ald) (fp_br (fp_lf fo_ic) (fp_lf (fo_puti (Or.inr (f_no hF (by decide))))))) (fp_br (fp_br (fp_lf fo_ald) (fp_lf fo_ild)) (fp_br (fp_lf (fo_puti (Or.inr (f_no hF (by decide))))) (fp_lf fo_vret)))))
set_option maxRecDepth 8000 in
theorem fm_X12_peek {F : List Nat} (hF : ∀ f, f ∈ F → f ∈ [41, 48, 54]) : FT 404 12 F t_X12_peek := ft_body (fp_br (fp_br (fp_br (fp_lf fo_ald) (fp_br (fp_lf fo_getf) (fp_lf fo_ald))) (fp_br (fp_br (fp_lf fo_getf) (fp_lf fo_icmp_ge)) (fp_br (fp_lf fo_ald) (fp_lf fo_getf)))) (fp_br (fp_br (fp_br (fp_lf fo_ald) (fp_lf fo_getf)) (fp_br (fp_lf fo_xald) (fp_lf fo_ic))) (fp_br (fp_br (fp_lf fo_iand) (fp_lf fo_goto)) (fp_br (fp_lf fo_ic) (fp_lf fo_iret)))))
set_option maxRecDepth 8000 in
theorem fm_X12_isSmall {F : List Nat} (hF : ∀ f, f ∈ F → f ∈ [41, 48, 54]) : FT 404 12 F t_X12_isSmall := ft_body (fp_br (fp_br (fp_br (fp_lf fo_ild) (fp_lf fo_ic)) (fp_br (fp_lf fo_icmp_lt) (fp_br (fp_lf fo_ild) (fp_lf fo_ic)))) (fp_br (fp_br (fp_lf fo_icmp_gt) (fp_lf fo_ic)) (fp_br (fp_lf fo_goto) (fp_br (fp_lf fo_ic) (fp_lf fo_zret)))))
set_option maxRecDepth 8000 in
theorem fm_X12_isDigit {F : List Nat} (hF : ∀ f, f ∈ F → f ∈ [41, 48, 54]) : FT 404 12 F t_X12_isDigit := ft_body (fp_br (fp_br (fp_br (fp_lf fo_ild) (fp_lf fo_ic)) (fp_br (fp_lf fo_icmp_lt) (fp_br (fp_lf fo_ild) (fp_lf fo_ic)))) (fp_br (fp_br (fp_lf fo_icmp_gt) (fp_lf fo_ic)) (fp_br (fp_lf fo_goto) (fp_br (fp_lf fo_ic) (fp_lf fo_zret)))))
set_option maxRecDepth 8000 in
theorem fm_X12_next {F : List Nat} (hF : ∀ f, f ∈ F → f ∈ [41, 48, 54]) : FT 404 12 F t_X12_next := ft_body (fp_br (fp_br (fp_br (fp_br (fp_br (fp_br (fp_br (fp_lf fo_ald) (fp_lf (fo_callV (fm_X12_peek (f_sub hF (by decide)))))) (fp_br (fp_lf fo_ic) (fp_br (fp_lf fo_icmp_eq) (fp_lf fo_ald)))) (fp_br (fp_br (fp_lf (fo_callV (fm_X12_peek (f_sub hF (by decide))))) (fp_br (fp_lf fo_ic) (fp_lf fo_icmp_ne))) (fp_br (fp_lf fo_ald) (fp_br (fp_lf fo_dup) (fp_lf fo_getf))))) (fp_br (fp_br (fp_br (fp_lf fo_ic) (fp_lf fo_iadd)) (fp_br (fp_lf (fo_puti (Or.inr (f_no hF (by decide))))) (fp_br (fp_lf fo_goto) (fp_lf fo_ald)))) (fp_br (fp_br (fp_lf fo_ald) (fp_br (fp_lf fo_getf) (fp_lf (fo_puti (Or.inr (f_no hF (by decide))))))) (fp_br (fp_lf fo_ald) (fp_br (fp_lf fo_ic) (fp_lf (fo_puti (Or.inr (f_no hF (by decide)))))))))) (fp_br (fp_br (fp_br (fp_br (fp_lf fo_ald) (fp_lf fo_getf)) (fp_br (fp_lf fo_ald) (fp_br (fp_lf fo_getf) (fp_lf fo_icmp_le)))) (fp_br (fp_br (fp_lf fo_ald) (fp_br (fp_lf fo_getf) (fp_lf fo_ald))) (fp_br (fp_lf fo_getf) (fp_br (fp_lf fo_icmp_lt) (fp_lf fo_ald))))) (fp_br (fp_br (fp_br (fp_lf fo_ald) (fp_lf fo_getf)) (fp_br (fp_lf (fo_puti (Or.inr (f_no hF (by decide))))) (fp_br (fp_lf fo_ald) (fp_lf fo_ic)))) (fp_br (fp_br (fp_lf (fo_puti (Or.inr (f_no hF (by decide))))) (fp_br (fp_lf fo_vret) (fp_lf fo_ald))) (fp_br (fp_lf (fo_callV (fm_X12_peek (f_sub hF (by decide))))) (fp_br (fp_lf fo_ist) (fp_lf fo_ild))))))) (fp_br (fp_br (fp_br (fp_br (fp_br (fp_lf fo_if_ge) (fp_lf fo_ald)) (fp_br (fp_lf fo_ic) (fp_br (fp_lf (fo_puti (Or.inr (f_no hF (by decide))))) (fp_lf fo_vret)))) (fp_br (fp_br (fp_lf fo_ild) (fp_br (fp_lf (fo_callS (fm_X12_isSmall (f_sub hF (by decide))))) (fp_lf fo_if_ne))) (fp_br (fp_lf fo_ild) (fp_br (fp_lf (fo_callS (fm_X12_isDigit (f_sub hF (by decide))))) (fp_lf fo_if_ne))))) (fp_br (fp_br (fp_br (fp_lf fo_ald) (fp_lf fo_ild)) (fp_br (fp_lf fo_ic) (fp_br (fp_lf fo_icmp_ne) (fp_lf fo_ic)))) (fp_br (fp_br (fp_lf fo_goto) (fp_br (fp_lf fo_ic) (fp_lf (fo_puti (Or.inr (f_no hF (by decide))))))) (fp_br (fp_lf fo_ald) (fp_br (fp_lf fo_ild) (fp_lf (fo_puti (Or.inr (f_no hF (by decide)))))))))) (fp_br (fp_br (fp_br (fp_br (fp_lf fo_ald) (fp_lf fo_dup)) (fp_br (fp_lf fo_getf) (fp_br (fp_lf fo_ic) (fp_lf fo_iadd)))) (fp_br (fp_br (fp_lf (fo_puti (Or.inr (f_no hF (by decide))))) (fp_br (fp_lf fo_vret) (fp_lf fo_ild))) (fp_br (fp_lf (fo_callS (fm_X12_isSmall (f_sub hF (by decide))))) (fp_br (fp_lf fo_ist) (fp_lf fo_ic))))) (fp_br (fp_br (fp_br (fp_lf fo_ist) (fp_br (fp_lf fo_ald) (fp_lf fo_lc))) (fp_br (fp_lf fo_putl) (fp_br (fp_lf fo_ald) (fp_lf fo_lc)))) (fp_br (fp_br (fp_lf fo_putl) (fp_br (fp_lf fo_ald) (fp_lf fo_ic))) (fp_br (fp_lf (fo_puti (Or.inr (f_no hF (by decide))))) (fp_br (fp_lf fo_ald) (fp_lf (fo_callV (fm_X12_peek (f_sub hF (by decide)))))))))))) (fp_br (fp_br (fp_br (fp_br (fp_br (fp_br (fp_lf (fo_callS (fm_X12_isSmall (f_sub hF (by decide))))) (fp_lf fo_if_ne)) (fp_br (fp_lf fo_ald) (fp_br (fp_lf (fo_callV (fm_X12_peek (f_sub hF (by decide))))) (fp_lf (fo_callS (fm_X12_isDigit (f_sub hF (by decide)))))))) (fp_br (fp_br (fp_lf fo_if_eq) (fp_br (fp_lf fo_ild) (fp_lf fo_if_eq))) (fp_br (fp_lf fo_ald) (fp_br (fp_lf (fo_callV (fm_X12_peek (f_sub hF (by decide))))) (fp_lf (fo_callS (fm_X12_isSmall (f_sub hF (by decide))))))))) (fp_br (fp_br (fp_br (fp_lf fo_ild) (fp_lf fo_icmp_ne)) (fp_br (fp_lf fo_ic) (fp_br (fp_lf fo_goto) (fp_lf fo_ic)))) (fp_br (fp_br (fp_lf fo_ist) (fp_br (fp_lf fo_ald) (fp_lf fo_getf))) (fp_br (fp_lf fo_ic) (fp_br (fp_lf fo_icmp_ge) (fp_lf fo_ald)))))) (fp_br (fp_br (fp_br (fp_br (fp_lf fo_ald) (fp_lf fo_getf)) (fp_br (fp_lf fo_ic) (fp_br (fp_lf fo_lshl) (fp_lf fo_ald)))) (fp_br (fp_br (fp_lf (fo_callV (fm_X12_peek (f_sub hF (by decide))))) (fp_br (fp_lf fo_i2l) (fp_lf fo_lor))) (fp_br (fp_lf fo_putl) (fp_br (fp_lf fo_goto) (fp_lf fo_ald))))) (fp_br (fp_br (fp_br (fp_lf fo_ald) (fp_br (fp_lf fo_getf) (fp_lf fo_ic))) (fp_br (fp_lf fo_lshl) (fp_br (fp_lf fo_ald) (fp_lf (fo_callV (fm_X12_peek (f_sub hF (by decide)))))))) (fp_br (fp_br (fp_lf fo_i2l) (fp_br (fp_lf fo_lor) (fp_lf fo_putl))) (fp_br (fp_lf fo_ald) (fp_br (fp_lf fo_getf) (fp_lf fo_ic))))))) (fp_br (fp_br (fp_br (fp_br (fp_br (fp_lf fo_icmp_ge) (fp_lf fo_ald)) (fp_br (fp_lf fo_ic) (fp_br (fp_lf fo_ald) (fp_lf fo_getf)))) (fp_br (fp_br (fp_lf fo_imul) (fp_br (fp_lf fo_ald) (fp_lf (fo_callV (fm_X12_peek (f_sub hF (by decide))))))) (fp_br (fp_lf fo_iadd) (fp_br (fp_lf fo_ic) (fp_lf fo_isub))))) (fp_br (fp_br (fp_br (fp_lf (fo_puti (Or.inr (f_no hF (by decide))))) (fp_lf fo_ald)) (fp_br (fp_lf fo_dup) (fp_br (fp_lf fo_getf) (fp_lf fo_ic)))) (fp_br (fp_br (fp_lf fo_iadd) (fp_br (fp_lf (fo_puti (Or.inr (f_no hF (by decide))))) (fp_lf fo_ald))) (fp_br (fp_lf fo_dup) (fp_br (fp_lf fo_getf) (fp_lf fo_ic)))))) (fp_br (fp_br (fp_br (fp_br (fp_lf fo_iadd) (fp_lf (fo_puti (Or.inr (f_no hF (by decide)))))) (fp_br (fp_lf fo_goto) (fp_br (fp_lf fo_ald) (fp_lf fo_ild)))) (fp_br (fp_br (fp_lf fo_if_eq) (fp_br (fp_lf fo_ald) (fp_lf fo_getf))) (fp_br (fp_lf fo_ild) (fp_br (fp_lf fo_if_eq) (fp_lf fo_ic))))) (fp_br (fp_br (fp_br (fp_lf fo_goto) (fp_br (fp_lf fo_ic) (fp_lf fo_icmp_le))) (fp_br (fp_lf fo_ic) (fp_br (fp_lf fo_goto) (fp_lf fo_ild)))) (fp_br (fp_br (fp_lf fo_if_eq) (fp_br (fp_lf fo_ic) (fp_lf fo_goto))) (fp_br (fp_lf fo_ic) (fp_br (fp_lf (fo_puti (Or.inr (f_no hF (by decide))))) (fp_lf fo_vret)))))))))
set_option maxRecDepth 8000 in
theorem fm_X12_isWord {F : List Nat} (hF : ∀ f, f ∈ F → f ∈ [41, 48, 54]) : FT 404 12 F t_X12_isWord := ft_body (fp_br (fp_br (fp_br (fp_lf fo_ald) (fp_br (fp_lf fo_getf) (fp_lf fo_ic))) (fp_br (fp_lf fo_icmp_ne) (fp_br (fp_lf fo_ald) (fp_lf fo_getf)))) (fp_br (fp_br (fp_lf fo_lld) (fp_br (fp_lf fo_lcmp) (fp_lf fo_if_ne))) (fp_br (fp_br (fp_lf fo_ic) (fp_lf fo_goto)) (fp_br (fp_lf fo_ic) (fp_lf fo_zret)))))
set_option maxRecDepth 8000 in
theorem fm_X12_bad {F : List Nat} (hF : ∀ f, f ∈ F → f ∈ [41, 48, 54]) : FT 404 12 F t_X12_bad := ft_body (fp_br (fp_br (fp_br (fp_lf fo_ald) (fp_lf fo_ild)) (fp_br (fp_lf (fo_puti (Or.inr (f_no hF (by decide))))) (fp_lf fo_ald))) (fp_br (fp_br (fp_lf fo_ald) (fp_lf fo_getf)) (fp_br (fp_lf (fo_puti (Or.inr (f_no hF (by decide))))) (fp_br (fp_lf fo_ic) (fp_lf fo_zret)))))
set_option maxRecDepth 8000 in
theorem fm_X12_isName {F : List Nat} (hF : ∀ f, f ∈ F → f ∈ [41, 48, 54]) : FT 404 12 F t_X12_isName := ft_body (fp_br (fp_br (fp_br (fp_br (fp_br (fp_lf fo_ald) (fp_lf fo_getf)) (fp_br (fp_lf fo_ic) (fp_lf fo_icmp_ne))) (fp_br (fp_br (fp_lf fo_ic) (fp_lf fo_goto)) (fp_br (fp_lf fo_ic) (fp_lf fo_ist)))) (fp_br (fp_br (fp_br (fp_lf fo_ic) (fp_lf fo_ist)) (fp_br (fp_lf fo_ild) (fp_lf fo_ic))) (fp_br (fp_br (fp_lf fo_icmp_ge) (fp_lf fo_ild)) (fp_br (fp_lf fo_if_eq) (fp_br (fp_lf fo_ald) (fp_lf fo_getf)))))) (fp_br (fp_br (fp_br (fp_br (fp_lf fo_ald) (fp_lf fo_getf)) (fp_br (fp_lf fo_ild) (fp_lf fo_xald))) (fp_br (fp_br (fp_lf fo_lcmp) (fp_lf fo_if_ne)) (fp_br (fp_lf fo_ald) (fp_br (fp_lf fo_getf) (fp_lf fo_ic))))) (fp_br (fp_br (fp_br (fp_lf fo_icmp_le) (fp_lf fo_ic)) (fp_br (fp_lf fo_goto) (fp_lf fo_ic))) (fp_br (fp_br (fp_lf fo_ist) (fp_lf fo_inc)) (fp_br (fp_lf fo_goto) (fp_br (fp_lf fo_ild) (fp_lf fo_zret)))))))
set_option maxRecDepth 8000 in
theorem fm_X12_isIn {F : List Nat} (hF : ∀ f, f ∈ F → f ∈ [41, 48, 54]) : FT 404 12 F t_X12_isIn := ft_body (fp_br (fp_br (fp_br (fp_lf fo_ild) (fp_lf fo_ild)) (fp_br (fp_lf fo_icmp_lt) (fp_br (fp_lf fo_ild) (fp_lf fo_ild)))) (fp_br (fp_br (fp_lf fo_icmp_gt) (fp_lf fo_ic)) (fp_br (fp_lf fo_goto) (fp_br (fp_lf fo_ic) (fp_lf fo_zret)))))
set_option maxRecDepth 8000 in
theorem fm_X12_takes {F : List Nat} (hF : ∀ f, f ∈ F → f ∈ [41, 48, 54]) : FT 404 12 F t_X12_takes := ft_body (fp_br (fp_br (fp_br (fp_br (fp_lf fo_ald) (fp_br (fp_lf fo_getf) (fp_lf fo_ic))) (fp_br (fp_lf fo_icmp_eq) (fp_br (fp_lf fo_ald) (fp_lf fo_ic)))) (fp_br (fp_br (fp_lf (fo_callV (fm_X12_bad (f_sub hF (by decide))))) (fp_br (fp_lf fo_zret) (fp_lf fo_ald))) (fp_br (fp_br (fp_lf fo_getf) (fp_lf fo_ild)) (fp_br (fp_lf fo_ild) (fp_lf (fo_callS (fm_X12_isIn (f_sub hF (by decide))))))))) (fp_br (fp_br (fp_br (fp_lf fo_if_ne) (fp_br (fp_lf fo_ald) (fp_lf fo_ic))) (fp_br (fp_lf (fo_callV (fm_X12_bad (f_sub hF (by decide))))) (fp_br (fp_lf fo_zret) (fp_lf fo_ald)))) (fp_br (fp_br (fp_lf fo_ald) (fp_br (fp_lf fo_getf) (fp_lf (fo_puti (Or.inr (f_no hF (by decide))))))) (fp_br (fp_br (fp_lf fo_ald) (fp_lf (fo_callV (fm_X12_next (f_sub hF (by decide)))))) (fp_br (fp_lf fo_ic) (fp_lf fo_zret))))))
set_option maxRecDepth 8000 in
theorem fm_X12_readKind {F : List Nat} (hF : ∀ f, f ∈ F → f ∈ [41, 48, 54]) : FT 404 12 F t_X12_readKind := ft_body (fp_br (fp_br (fp_br (fp_br (fp_br (fp_br (fp_br (fp_lf fo_ald) (fp_lf fo_getf)) (fp_br (fp_lf fo_ic) (fp_lf fo_xald))) (fp_br (fp_br (fp_lf fo_ist) (fp_lf fo_ald)) (fp_br (fp_lf fo_getf) (fp_br (fp_lf fo_ic) (fp_lf fo_xald))))) (fp_br (fp_br (fp_br (fp_lf fo_if_le) (fp_lf fo_ald)) (fp_br (fp_lf fo_ic) (fp_lf (fo_callV (fm_X12_bad (f_sub hF (by decide))))))) (fp_br (fp_br (fp_lf fo_zret) (fp_lf fo_ild)) (fp_br (fp_lf fo_ic) (fp_br (fp_lf fo_icmp_ne) (fp_lf fo_ald)))))) (fp_br (fp_br (fp_br (fp_br (fp_lf fo_ic) (fp_lf (fo_callV (fm_X12_bad (f_sub hF (by decide)))))) (fp_br (fp_lf fo_zret) (fp_lf fo_ald))) (fp_br (fp_br (fp_lf (fo_callV (fm_X12_next (f_sub hF (by decide))))) (fp_lf fo_ald)) (fp_br (fp_lf (fo_callV (fm_X12_isName (f_sub hF (by decide))))) (fp_br (fp_lf fo_if_ne) (fp_lf fo_ald))))) (fp_br (fp_br (fp_br (fp_lf fo_ic) (fp_lf (fo_callV (fm_X12_bad (f_sub hF (by decide)))))) (fp_br (fp_lf fo_zret) (fp_br (fp_lf fo_ic) (fp_lf fo_ist)))) (fp_br (fp_br (fp_lf fo_ild) (fp_lf fo_ild)) (fp_br (fp_lf fo_icmp_ge) (fp_br (fp_lf fo_ald) (fp_lf fo_getf))))))) (fp_br (fp_br (fp_br (fp_br (fp_br (fp_lf fo_ic) (fp_lf fo_ild)) (fp_br (fp_lf fo_imul) (fp_lf fo_xald))) (fp_br (fp_br (fp_lf fo_ald) (fp_lf fo_getf)) (fp_br (fp_lf fo_lcmp) (fp_br (fp_lf fo_if_ne) (fp_lf fo_ald))))) (fp_br (fp_br (fp_br (fp_lf fo_getf) (fp_lf fo_ic)) (fp_br (fp_lf fo_ild) (fp_br (fp_lf fo_imul) (fp_lf fo_ic)))) (fp_br (fp_br (fp_lf fo_iadd) (fp_lf fo_xald)) (fp_br (fp_lf fo_ald) (fp_br (fp_lf fo_getf) (fp_lf fo_lcmp)))))) (fp_br (fp_br (fp_br (fp_br (fp_lf fo_if_ne) (fp_lf fo_ald)) (fp_br (fp_lf fo_ic) (fp_lf (fo_callV (fm_X12_bad (f_sub hF (by decide))))))) (fp_br (fp_br (fp_lf fo_zret) (fp_lf fo_inc)) (fp_br (fp_lf fo_goto) (fp_br (fp_lf fo_ald) (fp_lf fo_getf))))) (fp_br (fp_br (fp_br (fp_lf fo_ic) (fp_lf fo_ild)) (fp_br (fp_lf fo_imul) (fp_br (fp_lf fo_ald) (fp_lf fo_getf)))) (fp_br (fp_br (fp_lf fo_last) (fp_lf fo_ald)) (fp_br (fp_lf fo_getf) (fp_br (fp_lf fo_ic) (fp_lf fo_ild)))))))) (fp_br (fp_br (fp_br (fp_br (fp_br (fp_br (fp_lf fo_imul) (fp_lf fo_ic)) (fp_br (fp_lf fo_iadd) (fp_lf fo_ald))) (fp_br (fp_br (fp_lf fo_getf) (fp_lf fo_last)) (fp_br (fp_lf fo_ald) (fp_br (fp_lf (fo_callV (fm_X12_next (f_sub hF (by decide))))) (fp_lf fo_ald))))) (fp_br (fp_br (fp_br (fp_lf fo_ic) (fp_lf fo_ic)) (fp_br (fp_lf (fo_callV (fm_X12_takes (f_sub hF (by decide))))) (fp_br (fp_lf fo_if_ne) (fp_lf fo_ic)))) (fp_br (fp_br (fp_lf fo_zret) (fp_lf fo_ald)) (fp_br (fp_lf fo_getf) (fp_br (fp_lf fo_ic) (fp_lf fo_ild)))))) (fp_br (fp_br (fp_br (fp_br (fp_lf fo_iadd) (fp_lf fo_ald)) (fp_br (fp_lf fo_getf) (fp_lf (fo_iast (by decide))))) (fp_br (fp_br (fp_lf fo_ald) (fp_lf fo_ic)) (fp_br (fp_lf fo_ic) (fp_br (fp_lf (fo_callV (fm_X12_takes (f_sub hF (by decide))))) (fp_lf fo_if_ne))))) (fp_br (fp_br (fp_br (fp_lf fo_ic) (fp_lf fo_zret)) (fp_br (fp_lf fo_ald) (fp_br (fp_lf fo_getf) (fp_lf fo_ic)))) (fp_br (fp_br (fp_lf fo_ild) (fp_lf fo_iadd)) (fp_br (fp_lf fo_ald) (fp_br (fp_lf fo_getf) (fp_lf (fo_iast (by decide))))))))) (fp_br (fp_br (fp_br (fp_br (fp_br (fp_lf fo_ald) (fp_lf fo_getf)) (fp_br (fp_lf fo_ic) (fp_lf fo_ild))) (fp_br (fp_br (fp_lf fo_iadd) (fp_lf fo_ic)) (fp_br (fp_lf (fo_iast (by decide))) (fp_br (fp_lf fo_ald) (fp_lf fo_lc))))) (fp_br (fp_br (fp_br (fp_lf (fo_callV (fm_X12_isWord (f_sub hF (by decide))))) (fp_lf fo_if_eq)) (fp_br (fp_lf fo_ald) (fp_br (fp_lf (fo_callV (fm_X12_next (f_sub hF (by decide))))) (fp_lf fo_ald)))) (fp_br (fp_br (fp_lf fo_ic) (fp_lf fo_ic)) (fp_br (fp_lf (fo_callV (fm_X12_takes (f_sub hF (by decide))))) (fp_br (fp_lf fo_if_ne) (fp_lf fo_ic)))))) (fp_br (fp_br (fp_br (fp_br (fp_lf fo_zret) (fp_lf fo_ald)) (fp_br (fp_lf fo_getf) (fp_lf fo_ic))) (fp_br (fp_br (fp_lf fo_ild) (fp_lf fo_iadd)) (fp_br (fp_lf fo_ald) (fp_br (fp_lf fo_getf) (fp_lf (fo_iast (by decide))))))) (fp_br (fp_br (fp_br (fp_lf fo_ald) (fp_lf fo_getf)) (fp_br (fp_lf fo_ic) (fp_br (fp_lf fo_dup2) (fp_lf fo_xald)))) (fp_br (fp_br (fp_lf fo_ic) (fp_lf fo_iadd)) (fp_br (fp_lf (fo_iast (by decide))) (fp_br (fp_lf fo_ic) (fp_lf fo_zret)))))))))
set_option maxRecDepth 8000 in
theorem fm_X12_octet {F : List Nat} (hF : ∀ f, f ∈ F → f ∈ [41, 48, 54]) : FT 404 12 F t_X12_octet := ft_body (fp_br (fp_br (fp_lf fo_ald) (fp_br (fp_lf fo_getf) (fp_lf fo_ild))) (fp_br (fp_br (fp_lf fo_xald) (fp_lf fo_ic)) (fp_br (fp_lf fo_iand) (fp_lf fo_iret))))
set_option maxRecDepth 8000 in
theorem fm_X12_readRow {F : List Nat} (hF : ∀ f, f ∈ F → f ∈ [41, 48, 54]) : FT 404 12 F t_X12_readRow := ft_body (fp_br (fp_br (fp_br (fp_br (fp_br (fp_br (fp_lf fo_ald) (fp_br (fp_lf fo_getf) (fp_lf fo_ic))) (fp_br (fp_br (fp_lf fo_xald) (fp_lf fo_ist)) (fp_br (fp_lf fo_ild) (fp_lf fo_ic)))) (fp_br (fp_br (fp_lf fo_icmp_ne) (fp_br (fp_lf fo_ald) (fp_lf fo_ic))) (fp_br (fp_br (fp_lf (fo_callV (fm_X12_bad (f_sub hF (by decide))))) (fp_lf fo_zret)) (fp_br (fp_lf fo_ald) (fp_lf (fo_callV (fm_X12_next (f_sub hF (by decide))))))))) (fp_br (fp_br (fp_br (fp_lf fo_ald) (fp_br (fp_lf fo_getf) (fp_lf fo_ic))) (fp_br (fp_br (fp_lf fo_icmp_eq) (fp_lf fo_ald)) (fp_br (fp_lf fo_ic) (fp_lf (fo_callV (fm_X12_bad (f_sub hF (by decide)))))))) (fp_br (fp_br (fp_lf fo_zret) (fp_br (fp_lf fo_ild) (fp_lf fo_if_eq))) (fp_br (fp_br (fp_lf fo_ald) (fp_lf fo_getf)) (fp_br (fp_lf fo_ald) (fp_lf fo_getf)))))) (fp_br (fp_br (fp_br (fp_br (fp_lf fo_ic) (fp_br (fp_lf fo_xald) (fp_lf fo_icmp_ne))) (fp_br (fp_br (fp_lf fo_ic) (fp_lf fo_goto)) (fp_br (fp_lf fo_ic) (fp_lf fo_ist)))) (fp_br (fp_br (fp_lf fo_ic) (fp_br (fp_lf fo_ist) (fp_lf fo_ild))) (fp_br (fp_br (fp_lf fo_ald) (fp_lf fo_getf)) (fp_br (fp_lf fo_icmp_ge) (fp_lf fo_ild))))) (fp_br (fp_br (fp_br (fp_lf fo_if_eq) (fp_br (fp_lf fo_ald) (fp_lf fo_ald))) (fp_br (fp_br (fp_lf fo_getf) (fp_lf fo_ild)) (fp_br (fp_lf fo_iadd) (fp_lf (fo_callV (fm_X12_octet (f_sub hF (by decide)))))))) (fp_br (fp_br (fp_lf fo_ic) (fp_br (fp_lf fo_isub) (fp_lf fo_ald))) (fp_br (fp_br (fp_lf fo_getf) (fp_lf fo_ic)) (fp_br (fp_lf fo_xald) (fp_lf fo_icmp_ge))))))) (fp_br (fp_br (fp_br (fp_br (fp_br (fp_lf fo_ic) (fp_br (fp_lf fo_goto) (fp_lf fo_ic))) (fp_br (fp_br (fp_lf fo_ist) (fp_lf fo_inc)) (fp_br (fp_lf fo_goto) (fp_lf fo_ild)))) (fp_br (fp_br (fp_lf fo_if_ne) (fp_br (fp_lf fo_ald) (fp_lf fo_ic))) (fp_br (fp_br (fp_lf (fo_callV (fm_X12_bad (f_sub hF (by decide))))) (fp_lf fo_zret)) (fp_br (fp_lf fo_ald) (fp_lf fo_getf))))) (fp_br (fp_br (fp_br (fp_lf fo_ic) (fp_br (fp_lf fo_ald) (fp_lf fo_getf))) (fp_br (fp_br (fp_lf (fo_iast (by decide))) (fp_lf fo_ic)) (fp_br (fp_lf fo_ist) (fp_lf fo_ild)))) (fp_br (fp_br (fp_lf fo_ald) (fp_br (fp_lf fo_getf) (fp_lf fo_icmp_ge))) (fp_br (fp_br (fp_lf fo_ald) (fp_lf fo_getf)) (fp_br (fp_lf fo_ic) (fp_lf fo_ald)))))) (fp_br (fp_br (fp_br (fp_br (fp_lf fo_getf) (fp_br (fp_lf fo_ild) (fp_lf fo_imul))) (fp_br (fp_br (fp_lf fo_iadd) (fp_lf fo_ild)) (fp_br (fp_lf fo_iadd) (fp_lf fo_ald)))) (fp_br (fp_br (fp_lf fo_ald) (fp_br (fp_lf fo_getf) (fp_lf fo_ild))) (fp_br (fp_br (fp_lf fo_iadd) (fp_lf (fo_callV (fm_X12_octet (f_sub hF (by decide)))))) (fp_br (fp_lf fo_ic) (fp_lf fo_isub))))) (fp_br (fp_br (fp_br (fp_lf (fo_iast (by decide))) (fp_br (fp_lf fo_inc) (fp_lf fo_goto))) (fp_br (fp_br (fp_lf fo_ald) (fp_lf fo_getf)) (fp_br (fp_lf fo_ic) (fp_lf fo_dup2)))) (fp_br (fp_br (fp_br (fp_lf fo_xald) (fp_lf fo_ic)) (fp_br (fp_lf fo_iadd) (fp_lf (fo_iast (by decide))))) (fp_br (fp_br (fp_lf fo_ald) (fp_lf (fo_callV (fm_X12_next (f_sub hF (by decide)))))) (fp_br (fp_lf fo_ic) (fp_lf fo_zret))))))))
set_option maxRecDepth 8000 in
theorem fm_X12_groundLine {F : List Nat} (hF : ∀ f, f ∈ F → f ∈ [41, 48, 54]) : FT 404 12 F t_X12_groundLine := ft_body (fp_br (fp_br (fp_br (fp_br (fp_br (fp_br (fp_br (fp_lf fo_ald) (fp_lf fo_lc)) (fp_br (fp_lf (fo_callV (fm_X12_isWord (f_sub hF (by decide))))) (fp_lf fo_if_eq))) (fp_br (fp_br (fp_lf fo_ald) (fp_lf (fo_callV (fm_X12_readKind (f_sub hF (by decide)))))) (fp_br (fp_lf fo_zret) (fp_br (fp_lf fo_ald) (fp_lf fo_lc))))) (fp_br (fp_br (fp_br (fp_lf (fo_callV (fm_X12_isWord (f_sub hF (by decide))))) (fp_lf fo_if_eq)) (fp_br (fp_lf fo_ald) (fp_br (fp_lf (fo_callV (fm_X12_readRow (f_sub hF (by decide))))) (fp_lf fo_zret)))) (fp_br (fp_br (fp_lf fo_ald) (fp_lf fo_lc)) (fp_br (fp_lf (fo_callV (fm_X12_isWord (f_sub hF (by decide))))) (fp_br (fp_lf fo_if_eq) (fp_lf fo_ic)))))) (fp_br (fp_br (fp_br (fp_br (fp_lf fo_ic) (fp_lf fo_ald)) (fp_br (fp_lf fo_getf) (fp_lf fo_ic))) (fp_br (fp_br (fp_lf fo_xald) (fp_lf fo_imul)) (fp_br (fp_lf fo_iadd) (fp_br (fp_lf fo_ist) (fp_lf fo_ald))))) (fp_br (fp_br (fp_br (fp_lf fo_getf) (fp_lf fo_ic)) (fp_br (fp_lf fo_xald) (fp_br (fp_lf fo_ic) (fp_lf fo_icmp_ne)))) (fp_br (fp_br (fp_lf fo_ald) (fp_lf fo_ic)) (fp_br (fp_lf (fo_callV (fm_X12_bad (f_sub hF (by decide))))) (fp_br (fp_lf fo_zret) (fp_lf fo_ald))))))) (fp_br (fp_br (fp_br (fp_br (fp_br (fp_lf (fo_callV (fm_X12_next (f_sub hF (by decide))))) (fp_lf fo_ald)) (fp_br (fp_lf fo_ic) (fp_lf fo_ald))) (fp_br (fp_br (fp_lf fo_getf) (fp_lf fo_ic)) (fp_br (fp_lf fo_xald) (fp_br (fp_lf fo_ic) (fp_lf fo_isub))))) (fp_br (fp_br (fp_br (fp_lf (fo_callV (fm_X12_takes (f_sub hF (by decide))))) (fp_lf fo_if_ne)) (fp_br (fp_lf fo_ic) (fp_br (fp_lf fo_zret) (fp_lf fo_ald)))) (fp_br (fp_br (fp_lf fo_getf) (fp_lf fo_ild)) (fp_br (fp_lf fo_ald) (fp_br (fp_lf fo_getf) (fp_lf (fo_iast (by decide)))))))) (fp_br (fp_br (fp_br (fp_br (fp_lf fo_ald) (fp_lf fo_ic)) (fp_br (fp_lf fo_ald) (fp_lf fo_getf))) (fp_br (fp_br (fp_lf fo_ic) (fp_lf fo_xald)) (fp_br (fp_lf fo_ic) (fp_br (fp_lf fo_isub) (fp_lf (fo_callV (fm_X12_takes (f_sub hF (by decide))))))))) (fp_br (fp_br (fp_br (fp_lf fo_if_ne) (fp_lf fo_ic)) (fp_br (fp_lf fo_zret) (fp_br (fp_lf fo_ald) (fp_lf fo_getf)))) (fp_br (fp_br (fp_lf fo_ild) (fp_lf fo_ic)) (fp_br (fp_lf fo_iadd) (fp_br (fp_lf fo_ald) (fp_lf fo_getf)))))))) (fp_br (fp_br (fp_br (fp_br (fp_br (fp_br (fp_lf (fo_iast (by decide))) (fp_lf fo_ald)) (fp_br (fp_lf fo_ic) (fp_lf fo_ic))) (fp_br (fp_br (fp_lf (fo_callV (fm_X12_takes (f_sub hF (by decide))))) (fp_lf fo_if_ne)) (fp_br (fp_lf fo_ic) (fp_br (fp_lf fo_zret) (fp_lf fo_ald))))) (fp_br (fp_br (fp_br (fp_lf fo_getf) (fp_lf fo_ild)) (fp_br (fp_lf fo_ic) (fp_br (fp_lf fo_iadd) (fp_lf fo_ald)))) (fp_br (fp_br (fp_lf fo_getf) (fp_lf (fo_iast (by decide)))) (fp_br (fp_lf fo_ald) (fp_br (fp_lf fo_ic) (fp_lf fo_ic)))))) (fp_br (fp_br (fp_br (fp_br (fp_lf (fo_callV (fm_X12_takes (f_sub hF (by decide))))) (fp_lf fo_if_ne)) (fp_br (fp_lf fo_ic) (fp_lf fo_zret))) (fp_br (fp_br (fp_lf fo_ald) (fp_lf fo_getf)) (fp_br (fp_lf fo_ild) (fp_br (fp_lf fo_ic) (fp_lf fo_iadd))))) (fp_br (fp_br (fp_br (fp_lf fo_ald) (fp_lf fo_getf)) (fp_br (fp_lf (fo_iast (by decide))) (fp_br (fp_lf fo_ald) (fp_lf fo_getf)))) (fp_br (fp_br (fp_lf fo_ic) (fp_lf fo_dup2)) (fp_br (fp_lf fo_xald) (fp_br (fp_lf fo_ic) (fp_lf fo_iadd))))))) (fp_br (fp_br (fp_br (fp_br (fp_br (fp_lf (fo_iast (by decide))) (fp_lf fo_ic)) (fp_br (fp_lf fo_zret) (fp_lf fo_ald))) (fp_br (fp_br (fp_lf fo_lc) (fp_lf (fo_callV (fm_X12_isWord (f_sub hF (by decide)))))) (fp_br (fp_lf fo_if_ne) (fp_br (fp_lf fo_ald) (fp_lf fo_ic))))) (fp_br (fp_br (fp_br (fp_lf (fo_callV (fm_X12_bad (f_sub hF (by decide))))) (fp_lf fo_zret)) (fp_br (fp_lf fo_ald) (fp_br (fp_lf fo_getf) (fp_lf fo_if_eq)))) (fp_br (fp_br (fp_lf fo_ald) (fp_lf fo_ic)) (fp_br (fp_lf (fo_callV (fm_X12_bad (f_sub hF (by decide))))) (fp_br (fp_lf fo_zret) (fp_lf fo_ald)))))) (fp_br (fp_br (fp_br (fp_br (fp_lf fo_ic) (fp_lf (fo_puti (Or.inr (f_no hF (by decide)))))) (fp_br (fp_lf fo_ald) (fp_lf (fo_callV (fm_X12_next (f_sub hF (by decide))))))) (fp_br (fp_br (fp_lf fo_ald) (fp_lf fo_ic)) (fp_br (fp_lf fo_ic) (fp_br (fp_lf (fo_callV (fm_X12_takes (f_sub hF (by decide))))) (fp_lf fo_if_ne))))) (fp_br (fp_br (fp_br (fp_lf fo_ic) (fp_lf fo_zret)) (fp_br (fp_lf fo_ald) (fp_br (fp_lf fo_getf) (fp_lf fo_ic)))) (fp_br (fp_br (fp_lf fo_ald) (fp_lf fo_getf)) (fp_br (fp_lf (fo_iast (by decide))) (fp_br (fp_lf fo_ic) (fp_lf fo_zret)))))))))
set_option maxRecDepth 8000 in
theorem fm_X12_isSign {F : List Nat} (hF : ∀ f, f ∈ F → f ∈ [41, 48, 54]) : FT 404 12 F t_X12_isSign := ft_body (fp_br (fp_br (fp_br (fp_lf fo_ald) (fp_br (fp_lf fo_getf) (fp_lf fo_ic))) (fp_br (fp_lf fo_icmp_ne) (fp_br (fp_lf fo_ald) (fp_lf fo_getf)))) (fp_br (fp_br (fp_lf fo_ild) (fp_br (fp_lf fo_icmp_ne) (fp_lf fo_ic))) (fp_br (fp_lf fo_goto) (fp_br (fp_lf fo_ic) (fp_lf fo_zret)))))
set_option maxRecDepth 8000 in
theorem fm_X12_sign {F : List Nat} (hF : ∀ f, f ∈ F → f ∈ [41, 48, 54]) : FT 404 12 F t_X12_sign := ft_body (fp_br (fp_br (fp_br (fp_lf fo_ald) (fp_br (fp_lf fo_ild) (fp_lf (fo_callV (fm_X12_isSign (f_sub hF (by decide))))))) (fp_br (fp_lf fo_if_ne) (fp_br (fp_lf fo_ald) (fp_lf fo_ic)))) (fp_br (fp_br (fp_lf (fo_callV (fm_X12_bad (f_sub hF (by decide))))) (fp_br (fp_lf fo_zret) (fp_lf fo_ald))) (fp_br (fp_lf (fo_callV (fm_X12_next (f_sub hF (by decide))))) (fp_br (fp_lf fo_ic) (fp_lf fo_zret)))))
set_option maxRecDepth 8000 in
theorem fm_X12_ground {F : List Nat} (hF : ∀ f, f ∈ F → f ∈ [41, 48, 54]) : FT 404 12 F t_X12_ground := ft_body (fp_br (fp_br (fp_br (fp_br (fp_br (fp_br (fp_lf fo_ald) (fp_lf fo_ic)) (fp_br (fp_lf (fo_puti (Or.inr (f_no hF (by decide))))) (fp_br (fp_lf fo_ald) (fp_lf fo_ic)))) (fp_br (fp_br (fp_lf (fo_callV (fm_X12_taken (f_sub hF (by decide))))) (fp_br (fp_lf fo_ald) (fp_lf fo_ic))) (fp_br (fp_lf (fo_puti (Or.inr (f_no hF (by decide))))) (fp_br (fp_lf fo_ald) (fp_lf fo_ic))))) (fp_br (fp_br (fp_br (fp_lf (fo_puti (Or.inr (f_no hF (by decide))))) (fp_br (fp_lf fo_ald) (fp_lf fo_ic))) (fp_br (fp_lf (fo_puti (Or.inr (f_no hF (by decide))))) (fp_br (fp_lf fo_ic) (fp_lf fo_ist)))) (fp_br (fp_br (fp_lf fo_ild) (fp_br (fp_lf fo_ic) (fp_lf fo_icmp_ge))) (fp_br (fp_lf fo_ald) (fp_br (fp_lf fo_getf) (fp_lf fo_ild)))))) (fp_br (fp_br (fp_br (fp_br (fp_lf fo_ic) (fp_br (fp_lf (fo_iast (by decide))) (fp_lf fo_inc))) (fp_br (fp_lf fo_goto) (fp_br (fp_lf fo_ald) (fp_lf fo_getf)))) (fp_br (fp_br (fp_lf fo_ic) (fp_br (fp_lf fo_ic) (fp_lf (fo_iast (by decide))))) (fp_br (fp_lf fo_ald) (fp_br (fp_lf (fo_callV (fm_X12_next (f_sub hF (by decide))))) (fp_lf fo_ald))))) (fp_br (fp_br (fp_br (fp_lf fo_getf) (fp_br (fp_lf fo_if_eq) (fp_lf fo_ald))) (fp_br (fp_lf (fo_callV (fm_X12_groundLine (f_sub hF (by decide))))) (fp_br (fp_lf fo_if_eq) (fp_lf fo_ald)))) (fp_br (fp_br (fp_lf fo_ic) (fp_br (fp_lf (fo_callV (fm_X12_sign (f_sub hF (by decide))))) (fp_lf fo_if_ne))) (fp_br (fp_lf fo_ic) (fp_br (fp_lf fo_ald) (fp_lf fo_getf))))))) (fp_br (fp_br (fp_br (fp_br (fp_br (fp_lf fo_isub) (fp_br (fp_lf fo_iret) (fp_lf fo_ald))) (fp_br (fp_lf fo_dup) (fp_br (fp_lf fo_getf) (fp_lf fo_ic)))) (fp_br (fp_br (fp_lf fo_iadd) (fp_br (fp_lf (fo_puti (Or.inr (f_no hF (by decide))))) (fp_lf fo_goto))) (fp_br (fp_lf fo_ic) (fp_br (fp_lf fo_ist) (fp_lf fo_ild))))) (fp_br (fp_br (fp_br (fp_lf fo_ic) (fp_br (fp_lf fo_icmp_ge) (fp_lf fo_ald))) (fp_br (fp_lf fo_getf) (fp_br (fp_lf fo_ild) (fp_lf fo_ild)))) (fp_br (fp_br (fp_lf fo_ic) (fp_br (fp_lf fo_icmp_ge) (fp_lf fo_ald))) (fp_br (fp_lf fo_getf) (fp_br (fp_lf fo_ild) (fp_lf fo_xald)))))) (fp_br (fp_br (fp_br (fp_br (fp_lf fo_goto) (fp_br (fp_lf fo_ic) (fp_lf (fo_iast (by decide))))) (fp_br (fp_lf fo_inc) (fp_br (fp_lf fo_goto) (fp_lf fo_ic)))) (fp_br (fp_br (fp_lf fo_ist) (fp_br (fp_lf fo_ild) (fp_lf fo_ic))) (fp_br (fp_lf fo_icmp_ge) (fp_br (fp_lf fo_ald) (fp_lf fo_getf))))) (fp_br (fp_br (fp_br (fp_lf fo_ic) (fp_br (fp_lf fo_ic) (fp_lf fo_ild))) (fp_br (fp_lf fo_imul) (fp_br (fp_lf fo_iadd) (fp_lf fo_ic)))) (fp_br (fp_br (fp_lf (fo_iast (by decide))) (fp_br (fp_lf fo_inc) (fp_lf fo_goto))) (fp_br (fp_lf fo_ald) (fp_br (fp_lf fo_getf) (fp_lf fo_iret))))))))
set_option maxRecDepth 8000 in
theorem fm_X12_fault {F : List Nat} (hF : ∀ f, f ∈ F → f ∈ [41, 48, 54]) : FT 404 12 F t_X12_fault := ft_body (fp_br (fp_br (fp_lf fo_ald) (fp_br (fp_lf fo_ic) (fp_lf (fo_puti (Or.inr (f_no hF (by decide))))))) (fp_br (fp_lf fo_ald) (fp_br (fp_lf fo_getf) (fp_lf fo_iret))))
set_option maxRecDepth 8000 in
theorem fm_X12_isCell {F : List Nat} (hF : ∀ f, f ∈ F → f ∈ [41, 48, 54]) : FT 404 12 F t_X12_isCell := ft_body (fp_br (fp_br (fp_br (fp_br (fp_lf fo_ild) (fp_br (fp_lf fo_ic) (fp_lf fo_ald))) (fp_br (fp_lf fo_getf) (fp_br (fp_lf fo_ic) (fp_lf fo_xald)))) (fp_br (fp_br (fp_lf fo_ic) (fp_br (fp_lf fo_isub) (fp_lf (fo_callS (fm_X12_isIn (f_sub hF (by decide))))))) (fp_br (fp_lf fo_if_eq) (fp_br (fp_lf fo_ild) (fp_lf fo_ic))))) (fp_br (fp_br (fp_br (fp_lf fo_ald) (fp_br (fp_lf fo_getf) (fp_lf fo_ic))) (fp_br (fp_lf fo_xald) (fp_br (fp_lf fo_ic) (fp_lf fo_isub)))) (fp_br (fp_br (fp_lf (fo_callS (fm_X12_isIn (f_sub hF (by decide))))) (fp_br (fp_lf fo_if_eq) (fp_lf fo_ic))) (fp_br (fp_lf fo_goto) (fp_br (fp_lf fo_ic) (fp_lf fo_zret))))))
set_option maxRecDepth 8000 in
theorem fm_X12_throwsIf {F : List Nat} (hF : ∀ f, f ∈ F → f ∈ [41, 48, 54]) : FT 404 12 F t_X12_throwsIf := ft_body (fp_br (fp_br (fp_br (fp_lf fo_ald) (fp_lf fo_ild)) (fp_br (fp_lf fo_if_eq) (fp_lf fo_ic))) (fp_br (fp_br (fp_lf fo_goto) (fp_lf fo_ic)) (fp_br (fp_lf (fo_puti (Or.inr (f_no hF (by decide))))) (fp_br (fp_lf fo_ild) (fp_lf fo_zret)))))
set_option maxRecDepth 8000 in
theorem fm_X12_numberOf {F : List Nat} (hF : ∀ f, f ∈ F → f ∈ [41, 48, 54]) : FT 404 12 F t_X12_numberOf := ft_body (fp_br (fp_br (fp_br (fp_lf fo_ald) (fp_lf fo_getf)) (fp_br (fp_lf fo_ic) (fp_lf fo_xald))) (fp_br (fp_br (fp_lf fo_ild) (fp_lf fo_imul)) (fp_br (fp_lf fo_ild) (fp_br (fp_lf fo_iadd) (fp_lf fo_iret)))))
set_option maxRecDepth 8000 in
theorem fm_X12_skyOf {F : List Nat} (hF : ∀ f, f ∈ F → f ∈ [41, 48, 54]) : FT 404 12 F t_X12_skyOf := ft_body (fp_br (fp_br (fp_br (fp_br (fp_br (fp_br (fp_lf fo_ild) (fp_lf fo_ald)) (fp_br (fp_lf fo_getf) (fp_br (fp_lf fo_ic) (fp_lf fo_xald)))) (fp_br (fp_br (fp_lf fo_irem) (fp_br (fp_lf fo_ist) (fp_lf fo_ild))) (fp_br (fp_lf fo_ald) (fp_br (fp_lf fo_getf) (fp_lf fo_ic))))) (fp_br (fp_br (fp_br (fp_lf fo_xald) (fp_lf fo_idiv)) (fp_br (fp_lf fo_ist) (fp_br (fp_lf fo_ic) (fp_lf fo_ist)))) (fp_br (fp_br (fp_lf fo_ic) (fp_br (fp_lf fo_ist) (fp_lf fo_ild))) (fp_br (fp_lf fo_ald) (fp_br (fp_lf fo_getf) (fp_lf fo_ic)))))) (fp_br (fp_br (fp_br (fp_br (fp_lf fo_xald) (fp_lf fo_icmp_ge)) (fp_br (fp_lf fo_ic) (fp_br (fp_lf fo_ic) (fp_lf fo_ild)))) (fp_br (fp_br (fp_lf fo_imul) (fp_br (fp_lf fo_iadd) (fp_lf fo_ist))) (fp_br (fp_lf fo_ild) (fp_br (fp_lf fo_ald) (fp_lf fo_getf))))) (fp_br (fp_br (fp_br (fp_lf fo_ild) (fp_br (fp_lf fo_xald) (fp_lf fo_isub))) (fp_br (fp_lf fo_ald) (fp_br (fp_lf fo_getf) (fp_lf fo_ild)))) (fp_br (fp_br (fp_lf fo_ic) (fp_br (fp_lf fo_iadd) (fp_lf fo_xald))) (fp_br (fp_lf fo_ineg) (fp_br (fp_lf fo_ald) (fp_lf fo_getf))))))) (fp_br (fp_br (fp_br (fp_br (fp_br (fp_lf fo_ild) (fp_lf fo_ic)) (fp_br (fp_lf fo_iadd) (fp_br (fp_lf fo_xald) (fp_lf (fo_callS (fm_X12_isIn (f_sub hF (by decide)))))))) (fp_br (fp_br (fp_lf fo_if_eq) (fp_br (fp_lf fo_ild) (fp_lf fo_ald))) (fp_br (fp_lf fo_getf) (fp_br (fp_lf fo_ild) (fp_lf fo_ic))))) (fp_br (fp_br (fp_br (fp_lf fo_iadd) (fp_br (fp_lf fo_xald) (fp_lf fo_isub))) (fp_br (fp_lf fo_ald) (fp_br (fp_lf fo_getf) (fp_lf fo_ild)))) (fp_br (fp_br (fp_lf fo_ic) (fp_br (fp_lf fo_iadd) (fp_lf fo_xald))) (fp_br (fp_lf fo_ineg) (fp_br (fp_lf fo_ald) (fp_lf fo_getf)))))) (fp_br (fp_br (fp_br (fp_br (fp_lf fo_ild) (fp_lf fo_ic)) (fp_br (fp_lf fo_iadd) (fp_br (fp_lf fo_xald) (fp_lf (fo_callS (fm_X12_isIn (f_sub hF (by decide)))))))) (fp_br (fp_br (fp_lf fo_if_eq) (fp_br (fp_lf fo_ild) (fp_lf fo_ald))) (fp_br (fp_lf fo_getf) (fp_br (fp_lf fo_ild) (fp_lf fo_ic))))) (fp_br (fp_br (fp_br (fp_lf fo_iadd) (fp_br (fp_lf fo_xald) (fp_lf fo_isub))) (fp_br (fp_lf fo_ist) (fp_br (fp_lf fo_inc) (fp_lf fo_goto)))) (fp_br (fp_br (fp_lf fo_ild) (fp_br (fp_lf fo_if_le) (fp_lf fo_ild))) (fp_br (fp_lf fo_goto) (fp_br (fp_lf fo_ic) (fp_lf fo_iret))))))))
set_option maxRecDepth 8000 in
theorem fm_X12_cell {F : List Nat} (hF : ∀ f, f ∈ F → f ∈ [41, 48, 54]) : FT 404 12 F t_X12_cell := ft_body (fp_br (fp_br (fp_br (fp_br (fp_br (fp_br (fp_lf fo_ald) (fp_lf fo_ald)) (fp_br (fp_lf fo_ild) (fp_lf fo_ild))) (fp_br (fp_br (fp_lf (fo_callV (fm_X12_isCell (f_sub hF (by decide))))) (fp_lf fo_if_eq)) (fp_br (fp_lf fo_ild) (fp_lf fo_ic)))) (fp_br (fp_br (fp_br (fp_lf fo_ic) (fp_lf (fo_callS (fm_X12_isIn (f_sub hF (by decide)))))) (fp_br (fp_lf fo_if_ne) (fp_lf fo_ic))) (fp_br (fp_br (fp_lf fo_goto) (fp_lf fo_ic)) (fp_br (fp_lf (fo_callV (fm_X12_throwsIf (f_sub hF (by decide))))) (fp_br (fp_lf fo_if_eq) (fp_lf fo_ic)))))) (fp_br (fp_br (fp_br (fp_br (fp_lf fo_iret) (fp_lf fo_ald)) (fp_br (fp_lf fo_ild) (fp_lf fo_ild))) (fp_br (fp_br (fp_lf (fo_callV (fm_X12_numberOf (f_sub hF (by decide))))) (fp_lf fo_ist)) (fp_br (fp_lf fo_ald) (fp_lf fo_getf)))) (fp_br (fp_br (fp_br (fp_lf fo_ic) (fp_lf fo_ild)) (fp_br (fp_lf fo_iadd) (fp_lf fo_xald))) (fp_br (fp_br (fp_lf fo_ist) (fp_lf fo_ild)) (fp_br (fp_lf fo_if_ne) (fp_br (fp_lf fo_ild) (fp_lf fo_goto))))))) (fp_br (fp_br (fp_br (fp_br (fp_br (fp_lf fo_ild) (fp_lf fo_ic)) (fp_br (fp_lf fo_icmp_ne) (fp_lf fo_ald))) (fp_br (fp_br (fp_lf fo_ild) (fp_lf (fo_callV (fm_X12_skyOf (f_sub hF (by decide)))))) (fp_br (fp_lf fo_goto) (fp_lf fo_ild)))) (fp_br (fp_br (fp_br (fp_lf fo_ic) (fp_lf fo_icmp_ne)) (fp_br (fp_lf fo_ald) (fp_lf fo_getf))) (fp_br (fp_br (fp_lf fo_ic) (fp_lf fo_ild)) (fp_br (fp_lf fo_iadd) (fp_br (fp_lf fo_xald) (fp_lf fo_goto)))))) (fp_br (fp_br (fp_br (fp_br (fp_lf fo_ild) (fp_lf fo_ic)) (fp_br (fp_lf fo_icmp_ne) (fp_lf fo_ald))) (fp_br (fp_br (fp_lf fo_getf) (fp_lf fo_ic)) (fp_br (fp_lf fo_ild) (fp_lf fo_iadd)))) (fp_br (fp_br (fp_br (fp_lf fo_xald) (fp_lf fo_goto)) (fp_br (fp_lf fo_ald) (fp_lf fo_getf))) (fp_br (fp_br (fp_lf fo_ic) (fp_lf fo_ild)) (fp_br (fp_lf fo_iadd) (fp_br (fp_lf fo_xald) (fp_lf fo_iret))))))))
set_option maxRecDepth 8000 in
theorem fm_X12_nightLine {F : List Nat} (hF : ∀ f, f ∈ F → f ∈ [41, 48, 54]) : FT 404 12 F t_X12_nightLine := ft_body (fp_br (fp_br (fp_br (fp_br (fp_br (fp_br (fp_br (fp_lf fo_ald) (fp_lf fo_lc)) (fp_br (fp_lf (fo_callV (fm_X12_isWord (f_sub hF (by decide))))) (fp_lf fo_if_eq))) (fp_br (fp_br (fp_lf fo_ic) (fp_lf fo_goto)) (fp_br (fp_lf fo_ald) (fp_br (fp_lf fo_lc) (fp_lf (fo_callV (fm_X12_isWord (f_sub hF (by decide))))))))) (fp_br (fp_br (fp_br (fp_lf fo_if_eq) (fp_lf fo_ic)) (fp_br (fp_lf fo_goto) (fp_lf fo_ald))) (fp_br (fp_br (fp_lf fo_lc) (fp_lf (fo_callV (fm_X12_isWord (f_sub hF (by decide)))))) (fp_br (fp_lf fo_if_eq) (fp_br (fp_lf fo_ic) (fp_lf fo_goto)))))) (fp_br (fp_br (fp_br (fp_br (fp_lf fo_ald) (fp_lf fo_lc)) (fp_br (fp_lf (fo_callV (fm_X12_isWord (f_sub hF (by decide))))) (fp_lf fo_if_eq))) (fp_br (fp_br (fp_lf fo_ic) (fp_lf fo_goto)) (fp_br (fp_lf fo_ic) (fp_br (fp_lf fo_ist) (fp_lf fo_ild))))) (fp_br (fp_br (fp_br (fp_lf fo_if_ge) (fp_lf fo_ald)) (fp_br (fp_lf fo_ic) (fp_lf (fo_callV (fm_X12_bad (f_sub hF (by decide))))))) (fp_br (fp_br (fp_lf fo_zret) (fp_lf fo_ald)) (fp_br (fp_lf fo_getf) (fp_br (fp_lf fo_ic) (fp_lf fo_icmp_ne))))))) (fp_br (fp_br (fp_br (fp_br (fp_br (fp_lf fo_ald) (fp_lf fo_ic)) (fp_br (fp_lf (fo_callV (fm_X12_bad (f_sub hF (by decide))))) (fp_lf fo_zret))) (fp_br (fp_br (fp_lf fo_ic) (fp_lf fo_ic)) (fp_br (fp_lf fo_ald) (fp_br (fp_lf fo_getf) (fp_lf fo_imul))))) (fp_br (fp_br (fp_br (fp_lf fo_iadd) (fp_lf fo_ist)) (fp_br (fp_lf fo_ald) (fp_lf (fo_callV (fm_X12_next (f_sub hF (by decide))))))) (fp_br (fp_br (fp_lf fo_ald) (fp_lf fo_ald)) (fp_br (fp_lf fo_getf) (fp_br (fp_lf fo_if_ne) (fp_lf fo_ic)))))) (fp_br (fp_br (fp_br (fp_br (fp_lf fo_goto) (fp_lf fo_ald)) (fp_br (fp_lf fo_getf) (fp_lf fo_ild))) (fp_br (fp_br (fp_lf fo_ic) (fp_lf fo_isub)) (fp_br (fp_lf fo_xald) (fp_br (fp_lf fo_ic) (fp_lf (fo_callV (fm_X12_takes (f_sub hF (by decide))))))))) (fp_br (fp_br (fp_br (fp_lf fo_if_ne) (fp_lf fo_ic)) (fp_br (fp_lf fo_zret) (fp_lf fo_ald))) (fp_br (fp_br (fp_lf fo_getf) (fp_lf fo_ild)) (fp_br (fp_lf fo_ild) (fp_br (fp_lf (fo_iast (by decide))) (fp_lf fo_ald)))))))) (fp_br (fp_br (fp_br (fp_br (fp_br (fp_br (fp_lf fo_getf) (fp_lf fo_ild)) (fp_br (fp_lf fo_ic) (fp_lf fo_iadd))) (fp_br (fp_br (fp_lf fo_ald) (fp_lf fo_getf)) (fp_br (fp_lf (fo_iast (by decide))) (fp_br (fp_lf fo_ald) (fp_lf fo_getf))))) (fp_br (fp_br (fp_br (fp_lf fo_ild) (fp_lf fo_ic)) (fp_br (fp_lf fo_iadd) (fp_lf fo_ic))) (fp_br (fp_br (fp_lf (fo_iast (by decide))) (fp_lf fo_ald)) (fp_br (fp_lf fo_getf) (fp_br (fp_lf fo_ild) (fp_lf fo_ic)))))) (fp_br (fp_br (fp_br (fp_br (fp_lf fo_iadd) (fp_lf fo_ic)) (fp_br (fp_lf (fo_iast (by decide))) (fp_lf fo_ild))) (fp_br (fp_br (fp_lf fo_ic) (fp_lf fo_icmp_ne)) (fp_br (fp_lf fo_ic) (fp_br (fp_lf fo_zret) (fp_lf fo_ald))))) (fp_br (fp_br (fp_br (fp_lf fo_ic) (fp_lf fo_ild)) (fp_br (fp_lf fo_if_ne) (fp_lf fo_ic))) (fp_br (fp_br (fp_lf fo_goto) (fp_lf fo_ild)) (fp_br (fp_lf fo_ic) (fp_br (fp_lf fo_icmp_ne) (fp_lf fo_ic))))))) (fp_br (fp_br (fp_br (fp_br (fp_br (fp_lf fo_goto) (fp_lf fo_ic)) (fp_br (fp_lf (fo_callV (fm_X12_takes (f_sub hF (by decide))))) (fp_lf fo_if_ne))) (fp_br (fp_br (fp_lf fo_ic) (fp_lf fo_zret)) (fp_br (fp_lf fo_ald) (fp_br (fp_lf fo_getf) (fp_lf fo_ild))))) (fp_br (fp_br (fp_br (fp_lf fo_ic) (fp_lf fo_iadd)) (fp_br (fp_lf fo_ald) (fp_lf fo_getf))) (fp_br (fp_br (fp_lf (fo_iast (by decide))) (fp_lf fo_ild)) (fp_br (fp_lf fo_ic) (fp_br (fp_lf fo_icmp_eq) (fp_lf fo_ic)))))) (fp_br (fp_br (fp_br (fp_br (fp_lf fo_zret) (fp_lf fo_ald)) (fp_br (fp_lf fo_ic) (fp_lf fo_ic))) (fp_br (fp_br (fp_lf (fo_callV (fm_X12_takes (f_sub hF (by decide))))) (fp_lf fo_if_ne)) (fp_br (fp_lf fo_ic) (fp_br (fp_lf fo_zret) (fp_lf fo_ald))))) (fp_br (fp_br (fp_br (fp_lf fo_getf) (fp_lf fo_ild)) (fp_br (fp_lf fo_ic) (fp_lf fo_iadd))) (fp_br (fp_br (fp_lf fo_ald) (fp_lf fo_getf)) (fp_br (fp_lf (fo_iast (by decide))) (fp_br (fp_lf fo_ic) (fp_lf fo_zret)))))))))
set_option maxRecDepth 8000 in
theorem fm_X12_night {F : List Nat} (hF : ∀ f, f ∈ F → f ∈ [41, 48, 54]) : FT 404 12 F t_X12_night := ft_body (fp_br (fp_br (fp_br (fp_br (fp_br (fp_br (fp_lf fo_ald) (fp_lf fo_ic)) (fp_br (fp_lf (fo_puti (Or.inr (f_no hF (by decide))))) (fp_lf fo_ald))) (fp_br (fp_br (fp_lf fo_ic) (fp_lf (fo_callV (fm_X12_taken (f_sub hF (by decide)))))) (fp_br (fp_lf fo_ild) (fp_br (fp_lf fo_ic) (fp_lf fo_ic))))) (fp_br (fp_br (fp_br (fp_lf (fo_callS (fm_X12_isIn (f_sub hF (by decide))))) (fp_lf fo_if_ne)) (fp_br (fp_lf fo_ic) (fp_br (fp_lf fo_iret) (fp_lf fo_ald)))) (fp_br (fp_br (fp_lf fo_ic) (fp_lf (fo_puti (Or.inr (f_no hF (by decide)))))) (fp_br (fp_lf fo_ald) (fp_br (fp_lf fo_ic) (fp_lf (fo_puti (Or.inr (f_no hF (by decide)))))))))) (fp_br (fp_br (fp_br (fp_br (fp_lf fo_ald) (fp_lf (fo_callV (fm_X12_next (f_sub hF (by decide)))))) (fp_br (fp_lf fo_ald) (fp_lf fo_getf))) (fp_br (fp_br (fp_lf fo_if_eq) (fp_lf fo_ald)) (fp_br (fp_lf (fo_callV (fm_X12_nightLine (f_sub hF (by decide))))) (fp_br (fp_lf fo_if_eq) (fp_lf fo_ald))))) (fp_br (fp_br (fp_br (fp_lf fo_ic) (fp_lf (fo_callV (fm_X12_sign (f_sub hF (by decide)))))) (fp_br (fp_lf fo_if_ne) (fp_br (fp_lf fo_ic) (fp_lf fo_ald)))) (fp_br (fp_br (fp_lf fo_getf) (fp_lf fo_isub)) (fp_br (fp_lf fo_iret) (fp_br (fp_lf fo_ald) (fp_lf fo_dup))))))) (fp_br (fp_br (fp_br (fp_br (fp_br (fp_lf fo_getf) (fp_lf fo_ic)) (fp_br (fp_lf fo_iadd) (fp_lf (fo_puti (Or.inr (f_no hF (by decide))))))) (fp_br (fp_br (fp_lf fo_goto) (fp_lf fo_ald)) (fp_br (fp_lf fo_getf) (fp_br (fp_lf fo_ic) (fp_lf fo_ald))))) (fp_br (fp_br (fp_br (fp_lf fo_getf) (fp_lf (fo_iast (by decide)))) (fp_br (fp_lf fo_ic) (fp_br (fp_lf fo_ist) (fp_lf fo_ild)))) (fp_br (fp_br (fp_lf fo_ic) (fp_lf fo_ald)) (fp_br (fp_lf fo_getf) (fp_br (fp_lf fo_imul) (fp_lf fo_icmp_gt)))))) (fp_br (fp_br (fp_br (fp_br (fp_lf fo_ald) (fp_lf fo_getf)) (fp_br (fp_lf fo_ic) (fp_lf fo_ic))) (fp_br (fp_br (fp_lf fo_ild) (fp_lf fo_imul)) (fp_br (fp_lf fo_iadd) (fp_br (fp_lf fo_ild) (fp_lf fo_iadd))))) (fp_br (fp_br (fp_br (fp_lf fo_ald) (fp_lf fo_getf)) (fp_br (fp_lf fo_ild) (fp_br (fp_lf fo_xald) (fp_lf (fo_iast (by decide)))))) (fp_br (fp_br (fp_lf fo_inc) (fp_lf fo_goto)) (fp_br (fp_lf fo_ald) (fp_br (fp_lf fo_getf) (fp_lf fo_iret))))))))
set_option maxRecDepth 8000 in
theorem fm_X12_isNight {F : List Nat} (hF : ∀ f, f ∈ F → f ∈ [41, 48, 54]) : FT 404 12 F t_X12_isNight := ft_body (fp_br (fp_br (fp_br (fp_br (fp_lf fo_ild) (fp_lf fo_ic)) (fp_br (fp_lf fo_ic) (fp_lf (fo_callS (fm_X12_isIn (f_sub hF (by decide))))))) (fp_br (fp_br (fp_lf fo_if_eq) (fp_lf fo_ald)) (fp_br (fp_lf fo_getf) (fp_br (fp_lf fo_ic) (fp_lf fo_ic))))) (fp_br (fp_br (fp_br (fp_lf fo_ild) (fp_lf fo_imul)) (fp_br (fp_lf fo_iadd) (fp_lf fo_xald))) (fp_br (fp_br (fp_lf fo_if_lt) (fp_lf fo_ic)) (fp_br (fp_lf fo_goto) (fp_br (fp_lf fo_ic) (fp_lf fo_zret))))))
set_option maxRecDepth 8000 in
theorem fm_X12_nightAt {F : List Nat} (hF : ∀ f, f ∈ F → f ∈ [41, 48, 54]) : FT 404 12 F t_X12_nightAt := ft_body (fp_br (fp_br (fp_lf fo_ic) (fp_br (fp_lf fo_ic) (fp_lf fo_ild))) (fp_br (fp_lf fo_imul) (fp_br (fp_lf fo_iadd) (fp_lf fo_iret))))
set_option maxRecDepth 8000 in
theorem fm_X12_sees {F : List Nat} (hF : ∀ f, f ∈ F → f ∈ [41, 48, 54]) : FT 404 12 F t_X12_sees := ft_body (fp_br (fp_br (fp_br (fp_br (fp_br (fp_br (fp_lf fo_ic) (fp_br (fp_lf fo_ist) (fp_lf fo_ic))) (fp_br (fp_br (fp_lf fo_ist) (fp_lf fo_ic)) (fp_br (fp_lf fo_ist) (fp_lf fo_ic)))) (fp_br (fp_br (fp_br (fp_lf fo_ist) (fp_lf fo_ic)) (fp_br (fp_lf fo_ist) (fp_lf fo_ic))) (fp_br (fp_br (fp_lf fo_ist) (fp_lf fo_ic)) (fp_br (fp_lf fo_ist) (fp_lf fo_ild))))) (fp_br (fp_br (fp_br (fp_br (fp_lf fo_ic) (fp_lf fo_icmp_ge)) (fp_br (fp_lf fo_ild) (fp_lf fo_ald))) (fp_br (fp_br (fp_lf fo_getf) (fp_lf fo_ild)) (fp_br (fp_lf fo_xald) (fp_lf fo_icmp_ge)))) (fp_br (fp_br (fp_br (fp_lf fo_ald) (fp_lf fo_getf)) (fp_br (fp_lf fo_ild) (fp_lf fo_ic))) (fp_br (fp_br (fp_lf fo_iadd) (fp_lf fo_ic)) (fp_br (fp_lf fo_ild) (fp_lf fo_imul)))))) (fp_br (fp_br (fp_br (fp_br (fp_br (fp_lf fo_iadd) (fp_lf fo_xald)) (fp_br (fp_lf fo_ild) (fp_lf fo_icmp_ne))) (fp_br (fp_br (fp_lf fo_ild) (fp_lf fo_ic)) (fp_br (fp_lf fo_iadd) (fp_lf fo_ic)))) (fp_br (fp_br (fp_br (fp_lf fo_ild) (fp_lf fo_imul)) (fp_br (fp_lf fo_iadd) (fp_lf fo_ist))) (fp_br (fp_br (fp_lf fo_ald) (fp_lf fo_getf)) (fp_br (fp_lf fo_ild) (fp_lf fo_xald))))) (fp_br (fp_br (fp_br (fp_br (fp_lf fo_if_ne) (fp_lf fo_ald)) (fp_br (fp_lf fo_getf) (fp_lf fo_ild))) (fp_br (fp_br (fp_lf fo_ic) (fp_lf fo_iadd)) (fp_br (fp_lf fo_xald) (fp_lf fo_ist)))) (fp_br (fp_br (fp_br (fp_lf fo_ald) (fp_lf fo_getf)) (fp_br (fp_lf fo_ild) (fp_lf fo_xald))) (fp_br (fp_br (fp_lf fo_ic) (fp_lf fo_icmp_ne)) (fp_br (fp_lf fo_ald) (fp_lf fo_getf))))))) (fp_br (fp_br (fp_br (fp_br (fp_br (fp_lf fo_ild) (fp_br (fp_lf fo_ic) (fp_lf fo_iadd))) (fp_br (fp_br (fp_lf fo_xald) (fp_lf fo_ist)) (fp_br (fp_lf fo_ald) (fp_lf fo_getf)))) (fp_br (fp_br (fp_br (fp_lf fo_ild) (fp_lf fo_xald)) (fp_br (fp_lf fo_ic) (fp_lf fo_icmp_ne))) (fp_br (fp_br (fp_lf fo_ald) (fp_lf fo_getf)) (fp_br (fp_lf fo_ild) (fp_lf fo_ic))))) (fp_br (fp_br (fp_br (fp_br (fp_lf fo_iadd) (fp_lf fo_xald)) (fp_br (fp_lf fo_ist) (fp_lf fo_ald))) (fp_br (fp_br (fp_lf fo_getf) (fp_lf fo_ild)) (fp_br (fp_lf fo_ic) (fp_lf fo_iadd)))) (fp_br (fp_br (fp_br (fp_lf fo_xald) (fp_lf fo_ist)) (fp_br (fp_lf fo_ald) (fp_lf fo_getf))) (fp_br (fp_br (fp_lf fo_ild) (fp_lf fo_xald)) (fp_br (fp_lf fo_ic) (fp_lf fo_icmp_ne)))))) (fp_br (fp_br (fp_br (fp_br (fp_br (fp_lf fo_ic) (fp_lf fo_ist)) (fp_br (fp_lf fo_inc) (fp_lf fo_goto))) (fp_br (fp_br (fp_lf fo_ald) (fp_lf fo_getf)) (fp_br (fp_lf fo_ild) (fp_lf fo_ild)))) (fp_br (fp_br (fp_br (fp_lf (fo_iast (by decide))) (fp_lf fo_ald)) (fp_br (fp_lf fo_getf) (fp_lf fo_ild))) (fp_br (fp_br (fp_lf fo_ild) (fp_lf (fo_iast (by decide)))) (fp_br (fp_lf fo_ald) (fp_lf fo_getf))))) (fp_br (fp_br (fp_br (fp_br (fp_lf fo_ild) (fp_lf fo_ild)) (fp_br (fp_lf (fo_iast (by decide))) (fp_lf fo_ald))) (fp_br (fp_br (fp_lf fo_getf) (fp_lf fo_ild)) (fp_br (fp_lf fo_ild) (fp_lf (fo_iast (by decide)))))) (fp_br (fp_br (fp_br (fp_lf fo_ald) (fp_lf fo_getf)) (fp_br (fp_lf fo_ild) (fp_lf fo_ild))) (fp_br (fp_br (fp_lf (fo_iast (by decide))) (fp_lf fo_inc)) (fp_br (fp_lf fo_goto) (fp_lf fo_vret))))))))
set_option maxRecDepth 8000 in
theorem fm_X12_sky {F : List Nat} (hF : ∀ f, f ∈ F → f ∈ [41, 48, 54]) : FT 404 12 F t_X12_sky := ft_body (fp_br (fp_br (fp_br (fp_br (fp_br (fp_lf fo_ald) (fp_br (fp_lf fo_ic) (fp_lf (fo_puti (Or.inr (f_no hF (by decide))))))) (fp_br (fp_lf fo_ald) (fp_br (fp_lf fo_ild) (fp_lf (fo_callV (fm_X12_isNight (f_sub hF (by decide)))))))) (fp_br (fp_br (fp_lf fo_if_eq) (fp_br (fp_lf fo_ild) (fp_lf fo_ic))) (fp_br (fp_lf fo_ic) (fp_br (fp_lf (fo_callS (fm_X12_isIn (f_sub hF (by decide))))) (fp_lf fo_if_ne))))) (fp_br (fp_br (fp_br (fp_lf fo_ic) (fp_br (fp_lf fo_iret) (fp_lf fo_ald))) (fp_br (fp_lf fo_ald) (fp_br (fp_lf fo_ild) (fp_lf (fo_callV (fm_X12_nightAt (f_sub hF (by decide)))))))) (fp_br (fp_br (fp_lf (fo_callV (fm_X12_sees (f_sub hF (by decide))))) (fp_br (fp_lf fo_ild) (fp_lf fo_tab))) (fp_br (fp_lf fo_ald) (fp_br (fp_lf fo_getf) (fp_lf fo_ild)))))) (fp_br (fp_br (fp_br (fp_br (fp_lf fo_xald) (fp_br (fp_lf fo_iret) (fp_lf fo_ald))) (fp_br (fp_lf fo_getf) (fp_br (fp_lf fo_ild) (fp_lf fo_xald)))) (fp_br (fp_br (fp_lf fo_iret) (fp_br (fp_lf fo_ald) (fp_lf fo_getf))) (fp_br (fp_lf fo_ild) (fp_br (fp_lf fo_xald) (fp_lf fo_iret))))) (fp_br (fp_br (fp_br (fp_lf fo_ald) (fp_br (fp_lf fo_getf) (fp_lf fo_ild))) (fp_br (fp_lf fo_xald) (fp_br (fp_lf fo_iret) (fp_lf fo_ald)))) (fp_br (fp_br (fp_lf fo_getf) (fp_br (fp_lf fo_ild) (fp_lf fo_xald))) (fp_br (fp_lf fo_iret) (fp_br (fp_lf fo_ic) (fp_lf fo_iret)))))))
set_option maxRecDepth 8000 in
theorem fm_X12_cells {F : List Nat} (hF : ∀ f, f ∈ F → f ∈ [41, 48, 54]) : FT 404 12 F t_X12_cells := ft_body (fp_br (fp_br (fp_br (fp_lf fo_ald) (fp_lf fo_getf)) (fp_br (fp_lf fo_ic) (fp_br (fp_lf fo_xald) (fp_lf fo_ald)))) (fp_br (fp_br (fp_lf fo_getf) (fp_lf fo_ic)) (fp_br (fp_lf fo_xald) (fp_br (fp_lf fo_imul) (fp_lf fo_iret)))))
set_option maxRecDepth 8000 in
theorem fm_X12_start {F : List Nat} (hF : ∀ f, f ∈ F → f ∈ [41, 48, 54]) : FT 404 12 F t_X12_start := ft_body (fp_br (fp_br (fp_br (fp_br (fp_br (fp_lf fo_ald) (fp_br (fp_lf fo_ald) (fp_lf fo_ild))) (fp_br (fp_br (fp_lf (fo_callV (fm_X12_nightAt (f_sub hF (by decide))))) (fp_lf (fo_callV (fm_X12_sees (f_sub hF (by decide)))))) (fp_br (fp_lf fo_ald) (fp_lf fo_ald)))) (fp_br (fp_br (fp_br (fp_lf fo_getf) (fp_lf fo_ic)) (fp_br (fp_lf fo_xald) (fp_lf (fo_puti (Or.inr (f_no hF (by decide))))))) (fp_br (fp_br (fp_lf fo_ald) (fp_lf fo_ic)) (fp_br (fp_lf (fo_puti (Or.inr (f_no hF (by decide))))) (fp_lf fo_ald))))) (fp_br (fp_br (fp_br (fp_lf fo_ild) (fp_br (fp_lf (fo_puti (Or.inr (f_no hF (by decide))))) (fp_lf fo_ald))) (fp_br (fp_br (fp_lf fo_ic) (fp_lf (fo_puti (Or.inr (f_no hF (by decide)))))) (fp_br (fp_lf fo_ic) (fp_lf fo_ist)))) (fp_br (fp_br (fp_br (fp_lf fo_ild) (fp_lf fo_ald)) (fp_br (fp_lf (fo_callV (fm_X12_cells (f_sub hF (by decide))))) (fp_lf fo_icmp_ge))) (fp_br (fp_br (fp_lf fo_ald) (fp_lf fo_getf)) (fp_br (fp_lf fo_ild) (fp_lf fo_ic)))))) (fp_br (fp_br (fp_br (fp_br (fp_lf fo_ald) (fp_br (fp_lf fo_getf) (fp_lf fo_ic))) (fp_br (fp_br (fp_lf fo_xald) (fp_lf fo_imul)) (fp_br (fp_lf (fo_iast (by decide))) (fp_lf fo_ald)))) (fp_br (fp_br (fp_br (fp_lf fo_getf) (fp_lf fo_ild)) (fp_br (fp_lf fo_ic) (fp_lf (fo_iast (by decide))))) (fp_br (fp_br (fp_lf fo_ald) (fp_lf fo_getf)) (fp_br (fp_lf fo_ild) (fp_lf fo_ald))))) (fp_br (fp_br (fp_br (fp_br (fp_lf fo_ild) (fp_lf (fo_callV (fm_X12_skyOf (f_sub hF (by decide)))))) (fp_br (fp_lf (fo_iast (by decide))) (fp_lf fo_ald))) (fp_br (fp_br (fp_lf fo_getf) (fp_lf fo_ild)) (fp_br (fp_lf fo_ald) (fp_lf fo_getf)))) (fp_br (fp_br (fp_br (fp_lf fo_ic) (fp_lf fo_ild)) (fp_br (fp_lf fo_iadd) (fp_lf fo_xald))) (fp_br (fp_br (fp_lf (fo_iast (by decide))) (fp_lf fo_inc)) (fp_br (fp_lf fo_goto) (fp_lf fo_vret)))))))
set_option maxRecDepth 8000 in
theorem fm_X12_begin {F : List Nat} (hF : ∀ f, f ∈ F → f ∈ [41, 48, 54]) : FT 404 12 F t_X12_begin := ft_body (fp_br (fp_br (fp_br (fp_br (fp_br (fp_br (fp_lf fo_ald) (fp_lf fo_ic)) (fp_br (fp_lf (fo_puti (Or.inr (f_no hF (by decide))))) (fp_br (fp_lf fo_ald) (fp_lf fo_ild)))) (fp_br (fp_br (fp_lf (fo_callV (fm_X12_isNight (f_sub hF (by decide))))) (fp_br (fp_lf fo_if_ne) (fp_lf fo_ic))) (fp_br (fp_lf fo_zret) (fp_br (fp_lf fo_ald) (fp_lf fo_ild))))) (fp_br (fp_br (fp_br (fp_lf fo_ic) (fp_br (fp_lf (fo_callV (fm_X12_start (f_sub hF (by decide))))) (fp_lf fo_ald))) (fp_br (fp_lf fo_getf) (fp_br (fp_lf fo_ic) (fp_lf fo_ic)))) (fp_br (fp_br (fp_lf (fo_iast (by decide))) (fp_br (fp_lf fo_ald) (fp_lf fo_getf))) (fp_br (fp_lf fo_ic) (fp_br (fp_lf fo_ic) (fp_lf (fo_iast (by decide)))))))) (fp_br (fp_br (fp_br (fp_br (fp_lf fo_ald) (fp_br (fp_lf fo_getf) (fp_lf fo_ic))) (fp_br (fp_lf fo_ald) (fp_br (fp_lf fo_getf) (fp_lf (fo_iast (by decide)))))) (fp_br (fp_br (fp_lf fo_ald) (fp_br (fp_lf fo_getf) (fp_lf fo_ic))) (fp_br (fp_lf fo_ic) (fp_br (fp_lf (fo_iast (by decide))) (fp_lf fo_ic))))) (fp_br (fp_br (fp_br (fp_lf fo_ist) (fp_br (fp_lf fo_ild) (fp_lf fo_ic))) (fp_br (fp_lf fo_icmp_ge) (fp_br (fp_lf fo_ald) (fp_lf fo_getf)))) (fp_br (fp_br (fp_lf fo_ic) (fp_br (fp_lf fo_ild) (fp_lf fo_iadd))) (fp_br (fp_lf fo_ald) (fp_br (fp_lf fo_getf) (fp_lf fo_ald))))))) (fp_br (fp_br (fp_br (fp_br (fp_br (fp_lf fo_ild) (fp_lf (fo_callV (fm_X12_nightAt (f_sub hF (by decide)))))) (fp_br (fp_lf fo_ild) (fp_br (fp_lf fo_iadd) (fp_lf fo_xald)))) (fp_br (fp_br (fp_lf (fo_iast (by decide))) (fp_br (fp_lf fo_inc) (fp_lf fo_goto))) (fp_br (fp_lf fo_ic) (fp_br (fp_lf fo_ist) (fp_lf fo_ild))))) (fp_br (fp_br (fp_br (fp_lf fo_ic) (fp_br (fp_lf fo_icmp_ge) (fp_lf fo_ald))) (fp_br (fp_lf fo_getf) (fp_br (fp_lf fo_ic) (fp_lf fo_ild)))) (fp_br (fp_br (fp_lf fo_iadd) (fp_br (fp_lf fo_ild) (fp_lf fo_ald))) (fp_br (fp_lf (fo_callV (fm_X12_cells (f_sub hF (by decide))))) (fp_br (fp_lf fo_icmp_ge) (fp_lf fo_ald)))))) (fp_br (fp_br (fp_br (fp_br (fp_lf fo_getf) (fp_br (fp_lf fo_ild) (fp_lf fo_xald))) (fp_br (fp_lf fo_goto) (fp_br (fp_lf fo_ic) (fp_lf (fo_iast (by decide)))))) (fp_br (fp_br (fp_lf fo_ald) (fp_br (fp_lf fo_getf) (fp_lf fo_ic))) (fp_br (fp_lf fo_ild) (fp_br (fp_lf fo_iadd) (fp_lf fo_ic))))) (fp_br (fp_br (fp_br (fp_lf (fo_iast (by decide))) (fp_br (fp_lf fo_ald) (fp_lf fo_getf))) (fp_br (fp_lf fo_ic) (fp_br (fp_lf fo_ild) (fp_lf fo_iadd)))) (fp_br (fp_br (fp_lf fo_ic) (fp_br (fp_lf (fo_iast (by decide))) (fp_lf fo_inc))) (fp_br (fp_lf fo_goto) (fp_br (fp_lf fo_ic) (fp_lf fo_zret))))))))
set_option maxRecDepth 8000 in
theorem fm_X12_loads {F : List Nat} (hF : ∀ f, f ∈ F → f ∈ [41, 48, 54]) : FT 404 12 F t_X12_loads := ft_body (fp_br (fp_br (fp_br (fp_br (fp_br (fp_br (fp_lf fo_ald) (fp_lf fo_ic)) (fp_br (fp_lf (fo_callV (fm_X12_sees (f_sub hF (by decide))))) (fp_br (fp_lf fo_ald) (fp_lf fo_ald)))) (fp_br (fp_br (fp_lf fo_getf) (fp_br (fp_lf fo_ic) (fp_lf fo_xald))) (fp_br (fp_lf (fo_puti (Or.inr (f_no hF (by decide))))) (fp_br (fp_lf fo_ald) (fp_lf fo_ald))))) (fp_br (fp_br (fp_br (fp_lf fo_getf) (fp_lf fo_ic)) (fp_br (fp_lf fo_xald) (fp_br (fp_lf (fo_puti (Or.inr (f_no hF (by decide))))) (fp_lf fo_ald)))) (fp_br (fp_br (fp_lf fo_ic) (fp_br (fp_lf (fo_puti (Or.inr (f_no hF (by decide))))) (fp_lf fo_ald))) (fp_br (fp_lf fo_ic) (fp_br (fp_lf (fo_puti (Or.inr (f_no hF (by decide))))) (fp_lf fo_ald)))))) (fp_br (fp_br (fp_br (fp_br (fp_lf fo_ald) (fp_lf fo_getf)) (fp_br (fp_lf fo_ic) (fp_br (fp_lf fo_xald) (fp_lf (fo_puti (Or.inr (f_no hF (by decide)))))))) (fp_br (fp_br (fp_lf fo_ic) (fp_br (fp_lf fo_ist) (fp_lf fo_ild))) (fp_br (fp_lf fo_ald) (fp_br (fp_lf (fo_callV (fm_X12_cells (f_sub hF (by decide))))) (fp_lf fo_icmp_ge))))) (fp_br (fp_br (fp_br (fp_lf fo_ald) (fp_br (fp_lf fo_getf) (fp_lf fo_ild))) (fp_br (fp_lf fo_ald) (fp_br (fp_lf fo_getf) (fp_lf fo_ic)))) (fp_br (fp_br (fp_lf fo_ild) (fp_br (fp_lf fo_iadd) (fp_lf fo_xald))) (fp_br (fp_lf (fo_iast (by decide))) (fp_br (fp_lf fo_ald) (fp_lf fo_getf))))))) (fp_br (fp_br (fp_br (fp_br (fp_br (fp_lf fo_ild) (fp_lf fo_ald)) (fp_br (fp_lf fo_getf) (fp_br (fp_lf fo_ic) (fp_lf fo_ild)))) (fp_br (fp_br (fp_lf fo_iadd) (fp_br (fp_lf fo_xald) (fp_lf (fo_iast (by decide))))) (fp_br (fp_lf fo_ald) (fp_br (fp_lf fo_getf) (fp_lf fo_ild))))) (fp_br (fp_br (fp_br (fp_lf fo_ald) (fp_br (fp_lf fo_getf) (fp_lf fo_ic))) (fp_br (fp_lf fo_ild) (fp_br (fp_lf fo_iadd) (fp_lf fo_xald)))) (fp_br (fp_br (fp_lf (fo_iast (by decide))) (fp_br (fp_lf fo_ald) (fp_lf fo_getf))) (fp_br (fp_lf fo_ild) (fp_br (fp_lf fo_ald) (fp_lf fo_getf)))))) (fp_br (fp_br (fp_br (fp_br (fp_lf fo_ild) (fp_lf fo_xald)) (fp_br (fp_lf fo_ic) (fp_br (fp_lf fo_icmp_ne) (fp_lf fo_ic)))) (fp_br (fp_br (fp_lf fo_goto) (fp_br (fp_lf fo_ald) (fp_lf fo_ild))) (fp_br (fp_lf (fo_callV (fm_X12_skyOf (f_sub hF (by decide))))) (fp_br (fp_lf (fo_iast (by decide))) (fp_lf fo_ald))))) (fp_br (fp_br (fp_br (fp_lf fo_getf) (fp_br (fp_lf fo_ild) (fp_lf fo_ald))) (fp_br (fp_lf fo_getf) (fp_br (fp_lf fo_ic) (fp_lf fo_ild)))) (fp_br (fp_br (fp_lf fo_iadd) (fp_br (fp_lf fo_xald) (fp_lf (fo_iast (by decide))))) (fp_br (fp_lf fo_inc) (fp_br (fp_lf fo_goto) (fp_lf fo_vret))))))))
set_option maxRecDepth 8000 in
theorem fm_X12_wets {F : List Nat} (hF : ∀ f, f ∈ F → f ∈ [41, 48, 54]) : FT 404 12 F t_X12_wets := ft_body (fp_br (fp_br (fp_br (fp_br (fp_br (fp_br (fp_lf fo_ild) (fp_br (fp_lf fo_if_le) (fp_lf fo_ild))) (fp_br (fp_lf fo_ic) (fp_br (fp_lf fo_icmp_ge) (fp_lf fo_ald)))) (fp_br (fp_br (fp_lf fo_getf) (fp_br (fp_lf fo_ic) (fp_lf fo_icmp_ne))) (fp_br (fp_lf fo_ic) (fp_br (fp_lf fo_goto) (fp_lf fo_ild))))) (fp_br (fp_br (fp_br (fp_lf fo_ic) (fp_br (fp_lf fo_idiv) (fp_lf fo_ic))) (fp_br (fp_lf fo_iadd) (fp_br (fp_lf fo_ist) (fp_lf fo_ild)))) (fp_br (fp_br (fp_lf fo_ald) (fp_br (fp_lf fo_getf) (fp_lf fo_icmp_ge))) (fp_br (fp_br (fp_lf fo_ild) (fp_lf fo_goto)) (fp_br (fp_lf fo_ald) (fp_lf fo_getf)))))) (fp_br (fp_br (fp_br (fp_br (fp_lf fo_ist) (fp_br (fp_lf fo_ald) (fp_lf fo_dup))) (fp_br (fp_lf fo_getf) (fp_br (fp_lf fo_ild) (fp_lf fo_isub)))) (fp_br (fp_br (fp_lf (fo_puti (Or.inr (f_no hF (by decide))))) (fp_br (fp_lf fo_ald) (fp_lf fo_getf))) (fp_br (fp_br (fp_lf fo_ild) (fp_lf fo_dup2)) (fp_br (fp_lf fo_xald) (fp_lf fo_ild))))) (fp_br (fp_br (fp_br (fp_lf fo_iadd) (fp_br (fp_lf (fo_iast (by decide))) (fp_lf fo_ald))) (fp_br (fp_lf fo_getf) (fp_br (fp_lf fo_ic) (fp_lf fo_icmp_eq)))) (fp_br (fp_br (fp_lf fo_ald) (fp_br (fp_lf fo_getf) (fp_lf fo_ild))) (fp_br (fp_br (fp_lf fo_dup2) (fp_lf fo_xald)) (fp_br (fp_lf fo_ild) (fp_lf fo_iadd))))))) (fp_br (fp_br (fp_br (fp_br (fp_br (fp_lf (fo_iast (by decide))) (fp_br (fp_lf fo_ald) (fp_lf fo_dup))) (fp_br (fp_lf fo_getf) (fp_br (fp_lf fo_ild) (fp_lf fo_iadd)))) (fp_br (fp_br (fp_lf (fo_puti (Or.inr (f_no hF (by decide))))) (fp_br (fp_lf fo_vret) (fp_lf fo_ic))) (fp_br (fp_lf fo_ild) (fp_br (fp_lf fo_iadd) (fp_lf fo_ic))))) (fp_br (fp_br (fp_br (fp_lf fo_ild) (fp_br (fp_lf fo_ineg) (fp_lf fo_ic))) (fp_br (fp_lf fo_idiv) (fp_br (fp_lf fo_iadd) (fp_lf fo_imul)))) (fp_br (fp_br (fp_lf fo_ist) (fp_br (fp_lf fo_ild) (fp_lf fo_ald))) (fp_br (fp_br (fp_lf fo_getf) (fp_lf fo_ild)) (fp_br (fp_lf fo_xald) (fp_lf fo_icmp_ge)))))) (fp_br (fp_br (fp_br (fp_br (fp_lf fo_ild) (fp_br (fp_lf fo_goto) (fp_lf fo_ald))) (fp_br (fp_lf fo_getf) (fp_br (fp_lf fo_ild) (fp_lf fo_xald)))) (fp_br (fp_br (fp_lf fo_ist) (fp_br (fp_lf fo_ald) (fp_lf fo_getf))) (fp_br (fp_br (fp_lf fo_ild) (fp_lf fo_dup2)) (fp_br (fp_lf fo_xald) (fp_lf fo_ild))))) (fp_br (fp_br (fp_br (fp_lf fo_isub) (fp_br (fp_lf (fo_iast (by decide))) (fp_lf fo_ald))) (fp_br (fp_lf fo_getf) (fp_br (fp_lf fo_ic) (fp_lf fo_icmp_eq)))) (fp_br (fp_br (fp_lf fo_ald) (fp_br (fp_lf fo_dup) (fp_lf fo_getf))) (fp_br (fp_br (fp_lf fo_ild) (fp_lf fo_iadd)) (fp_br (fp_lf (fo_puti (Or.inr (f_no hF (by decide))))) (fp_lf fo_vret))))))))
set_option maxRecDepth 8000 in
theorem fm_X12_step {F : List Nat} (hF : ∀ f, f ∈ F → f ∈ [41, 48, 54]) : FT 404 12 F t_X12_step := ft_body (fp_br (fp_br (fp_br (fp_br (fp_br (fp_br (fp_lf fo_ic) (fp_br (fp_lf fo_ist) (fp_lf fo_ild))) (fp_br (fp_br (fp_lf fo_ald) (fp_lf (fo_callV (fm_X12_cells (f_sub hF (by decide)))))) (fp_br (fp_lf fo_icmp_ge) (fp_lf fo_ild)))) (fp_br (fp_br (fp_br (fp_lf fo_ald) (fp_lf fo_getf)) (fp_br (fp_lf fo_icmp_ne) (fp_lf fo_ild))) (fp_br (fp_br (fp_lf fo_ald) (fp_lf fo_getf)) (fp_br (fp_lf fo_ald) (fp_lf fo_getf))))) (fp_br (fp_br (fp_br (fp_br (fp_lf (fo_callS (fm_X12_isIn (f_sub hF (by decide))))) (fp_lf fo_if_eq)) (fp_br (fp_lf fo_ic) (fp_lf fo_goto))) (fp_br (fp_br (fp_lf fo_ald) (fp_lf fo_getf)) (fp_br (fp_lf fo_ild) (fp_lf fo_xald)))) (fp_br (fp_br (fp_br (fp_lf fo_ist) (fp_lf fo_ald)) (fp_br (fp_lf fo_getf) (fp_lf fo_ic))) (fp_br (fp_br (fp_lf fo_ald) (fp_lf fo_getf)) (fp_br (fp_lf fo_ild) (fp_lf fo_xald)))))) (fp_br (fp_br (fp_br (fp_br (fp_br (fp_lf fo_iadd) (fp_lf fo_xald)) (fp_br (fp_lf fo_ist) (fp_lf fo_ald))) (fp_br (fp_br (fp_lf fo_getf) (fp_lf fo_ild)) (fp_br (fp_lf fo_xald) (fp_lf fo_ist)))) (fp_br (fp_br (fp_br (fp_lf fo_ild) (fp_lf fo_ic)) (fp_br (fp_lf fo_ald) (fp_lf fo_getf))) (fp_br (fp_br (fp_lf fo_ild) (fp_lf fo_xald)) (fp_br (fp_lf fo_imul) (fp_lf fo_ild))))) (fp_br (fp_br (fp_br (fp_br (fp_lf fo_isub) (fp_lf fo_ic)) (fp_br (fp_lf fo_ald) (fp_lf fo_getf))) (fp_br (fp_br (fp_lf fo_ild) (fp_lf fo_xald)) (fp_br (fp_lf fo_iadd) (fp_lf fo_imul)))) (fp_br (fp_br (fp_br (fp_lf fo_ic) (fp_lf fo_ild)) (fp_br (fp_lf fo_iadd) (fp_lf fo_idiv))) (fp_br (fp_br (fp_lf fo_iadd) (fp_lf fo_ald)) (fp_br (fp_lf fo_getf) (fp_lf fo_ild))))))) (fp_br (fp_br (fp_br (fp_br (fp_br (fp_br (fp_lf fo_xald) (fp_lf fo_ic)) (fp_br (fp_lf fo_imul) (fp_lf fo_ild))) (fp_br (fp_br (fp_lf fo_imul) (fp_lf fo_ild)) (fp_br (fp_lf fo_idiv) (fp_lf fo_iadd)))) (fp_br (fp_br (fp_br (fp_lf fo_ild) (fp_lf fo_ic)) (fp_br (fp_lf fo_ald) (fp_lf fo_getf))) (fp_br (fp_br (fp_lf fo_ild) (fp_lf fo_xald)) (fp_br (fp_lf fo_isub) (fp_lf fo_imul))))) (fp_br (fp_br (fp_br (fp_br (fp_lf fo_ald) (fp_lf fo_getf)) (fp_br (fp_lf fo_ic) (fp_lf fo_ald))) (fp_br (fp_br (fp_lf fo_getf) (fp_lf fo_ild)) (fp_br (fp_lf fo_xald) (fp_lf fo_iadd)))) (fp_br (fp_br (fp_br (fp_lf fo_xald) (fp_lf fo_imul)) (fp_br (fp_lf fo_ic) (fp_lf fo_ild))) (fp_br (fp_br (fp_lf fo_imul) (fp_lf fo_idiv)) (fp_br (fp_lf fo_isub) (fp_lf fo_ist)))))) (fp_br (fp_br (fp_br (fp_br (fp_br (fp_lf fo_ald) (fp_lf fo_getf)) (fp_br (fp_lf fo_ild) (fp_lf fo_ild))) (fp_br (fp_br (fp_lf (fo_iast (by decide))) (fp_lf fo_ald)) (fp_br (fp_lf fo_ild) (fp_lf fo_ic)))) (fp_br (fp_br (fp_br (fp_lf fo_ald) (fp_lf fo_getf)) (fp_br (fp_lf fo_ild) (fp_lf fo_xald))) (fp_br (fp_br (fp_lf fo_imul) (fp_lf fo_ild)) (fp_br (fp_lf fo_isub) (fp_lf fo_ald))))) (fp_br (fp_br (fp_br (fp_br (fp_lf fo_getf) (fp_lf fo_ild)) (fp_br (fp_lf fo_xald) (fp_lf fo_ald))) (fp_br (fp_br (fp_lf fo_getf) (fp_lf fo_ic)) (fp_br (fp_lf fo_ald) (fp_lf fo_getf)))) (fp_br (fp_br (fp_br (fp_lf fo_ild) (fp_lf fo_xald)) (fp_br (fp_lf fo_iadd) (fp_lf fo_xald))) (fp_br (fp_br (fp_lf (fo_callV (fm_X12_wets (f_sub hF (by decide))))) (fp_lf fo_inc)) (fp_br (fp_lf fo_goto) (fp_lf fo_vret))))))))
set_option maxRecDepth 8000 in
theorem fm_X12_keeps {F : List Nat} (hF : ∀ f, f ∈ F → f ∈ [41, 48, 54]) : FT 404 12 F t_X12_keeps := ft_body (fp_br (fp_br (fp_br (fp_br (fp_br (fp_lf fo_ald) (fp_br (fp_lf fo_getf) (fp_lf fo_ic))) (fp_br (fp_br (fp_lf fo_ald) (fp_lf fo_getf)) (fp_br (fp_lf (fo_iast (by decide))) (fp_lf fo_ald)))) (fp_br (fp_br (fp_lf fo_getf) (fp_br (fp_lf fo_ic) (fp_lf fo_ald))) (fp_br (fp_br (fp_lf fo_getf) (fp_lf (fo_iast (by decide)))) (fp_br (fp_lf fo_ald) (fp_lf fo_getf))))) (fp_br (fp_br (fp_br (fp_lf fo_ic) (fp_br (fp_lf fo_ald) (fp_lf fo_getf))) (fp_br (fp_br (fp_lf (fo_iast (by decide))) (fp_lf fo_ic)) (fp_br (fp_lf fo_ist) (fp_lf fo_ild)))) (fp_br (fp_br (fp_lf fo_ald) (fp_br (fp_lf (fo_callV (fm_X12_cells (f_sub hF (by decide))))) (fp_lf fo_icmp_ge))) (fp_br (fp_br (fp_lf fo_ald) (fp_lf fo_getf)) (fp_br (fp_lf fo_ic) (fp_lf fo_ild)))))) (fp_br (fp_br (fp_br (fp_br (fp_lf fo_iadd) (fp_br (fp_lf fo_ald) (fp_lf fo_getf))) (fp_br (fp_br (fp_lf fo_ild) (fp_lf fo_xald)) (fp_br (fp_lf (fo_iast (by decide))) (fp_lf fo_ald)))) (fp_br (fp_br (fp_lf fo_getf) (fp_br (fp_lf fo_ic) (fp_lf fo_ild))) (fp_br (fp_br (fp_lf fo_iadd) (fp_lf fo_ald)) (fp_br (fp_lf fo_getf) (fp_lf fo_ild))))) (fp_br (fp_br (fp_br (fp_lf fo_xald) (fp_br (fp_lf (fo_iast (by decide))) (fp_lf fo_ald))) (fp_br (fp_br (fp_lf fo_getf) (fp_lf fo_ic)) (fp_br (fp_lf fo_ild) (fp_lf fo_iadd)))) (fp_br (fp_br (fp_br (fp_lf fo_ald) (fp_lf fo_getf)) (fp_br (fp_lf fo_ild) (fp_lf fo_xald))) (fp_br (fp_br (fp_lf (fo_iast (by decide))) (fp_lf fo_inc)) (fp_br (fp_lf fo_goto) (fp_lf fo_vret)))))))
set_option maxRecDepth 8000 in
theorem fm_X12_on {F : List Nat} (hF : ∀ f, f ∈ F → f ∈ [41, 48, 54]) : FT 404 12 F t_X12_on := ft_body (fp_br (fp_br (fp_br (fp_br (fp_br (fp_lf fo_ald) (fp_lf fo_ic)) (fp_br (fp_lf (fo_puti (Or.inr (f_no hF (by decide))))) (fp_br (fp_lf fo_ald) (fp_lf fo_getf)))) (fp_br (fp_br (fp_lf fo_ic) (fp_lf fo_xald)) (fp_br (fp_lf fo_if_eq) (fp_br (fp_lf fo_ild) (fp_lf fo_ic))))) (fp_br (fp_br (fp_br (fp_lf fo_ic) (fp_lf (fo_callS (fm_X12_isIn (f_sub hF (by decide)))))) (fp_br (fp_lf fo_if_ne) (fp_br (fp_lf fo_ic) (fp_lf fo_iret)))) (fp_br (fp_br (fp_lf fo_ald) (fp_br (fp_lf (fo_callV (fm_X12_loads (f_sub hF (by decide))))) (fp_lf fo_ic))) (fp_br (fp_lf fo_ist) (fp_br (fp_lf fo_ild) (fp_lf fo_ild)))))) (fp_br (fp_br (fp_br (fp_br (fp_lf fo_icmp_ge) (fp_lf fo_ald)) (fp_br (fp_lf fo_getf) (fp_br (fp_lf fo_ic) (fp_lf fo_icmp_ge)))) (fp_br (fp_br (fp_lf fo_ald) (fp_lf fo_ald)) (fp_br (fp_lf fo_getf) (fp_br (fp_lf (fo_callV (fm_X12_step (f_sub hF (by decide))))) (fp_lf fo_ald))))) (fp_br (fp_br (fp_br (fp_lf fo_dup) (fp_lf fo_getf)) (fp_br (fp_lf fo_ic) (fp_br (fp_lf fo_iadd) (fp_lf (fo_puti (Or.inr (f_no hF (by decide)))))))) (fp_br (fp_br (fp_lf fo_inc) (fp_br (fp_lf fo_goto) (fp_lf fo_ald))) (fp_br (fp_lf (fo_callV (fm_X12_keeps (f_sub hF (by decide))))) (fp_br (fp_lf fo_ild) (fp_lf fo_iret)))))))
set_option maxRecDepth 8000 in
theorem fm_X12_is {F : List Nat} (hF : ∀ f, f ∈ F → f ∈ [41, 48, 54]) : FT 404 12 F t_X12_is := ft_body (fp_br (fp_br (fp_br (fp_br (fp_br (fp_lf fo_ald) (fp_lf fo_ald)) (fp_br (fp_lf fo_getf) (fp_lf fo_ic))) (fp_br (fp_br (fp_lf fo_xald) (fp_lf fo_if_eq)) (fp_br (fp_lf fo_ald) (fp_br (fp_lf fo_ild) (fp_lf fo_ild))))) (fp_br (fp_br (fp_br (fp_lf (fo_callV (fm_X12_isCell (f_sub hF (by decide))))) (fp_lf fo_if_eq)) (fp_br (fp_lf fo_ild) (fp_lf fo_ic))) (fp_br (fp_br (fp_lf fo_ic) (fp_lf (fo_callS (fm_X12_isIn (f_sub hF (by decide)))))) (fp_br (fp_lf fo_if_ne) (fp_br (fp_lf fo_ic) (fp_lf fo_goto)))))) (fp_br (fp_br (fp_br (fp_br (fp_lf fo_ic) (fp_lf (fo_callV (fm_X12_throwsIf (f_sub hF (by decide)))))) (fp_br (fp_lf fo_if_eq) (fp_lf fo_ic))) (fp_br (fp_br (fp_lf fo_iret) (fp_lf fo_ald)) (fp_br (fp_lf fo_getf) (fp_br (fp_lf fo_ild) (fp_lf fo_if_ne))))) (fp_br (fp_br (fp_br (fp_lf fo_ic) (fp_lf fo_goto)) (fp_br (fp_lf fo_ic) (fp_br (fp_lf fo_ald) (fp_lf fo_ild)))) (fp_br (fp_br (fp_lf fo_ild) (fp_lf (fo_callV (fm_X12_numberOf (f_sub hF (by decide)))))) (fp_br (fp_lf fo_iadd) (fp_br (fp_lf fo_xald) (fp_lf fo_iret)))))))
set_option maxRecDepth 8000 in
theorem fm_X12_now {F : List Nat} (hF : ∀ f, f ∈ F → f ∈ [41, 48, 54]) : FT 404 12 F t_X12_now := ft_body (fp_br (fp_br (fp_br (fp_br (fp_br (fp_br (fp_lf fo_ald) (fp_lf fo_ic)) (fp_br (fp_lf (fo_puti (Or.inr (f_no hF (by decide))))) (fp_lf fo_ald))) (fp_br (fp_br (fp_lf fo_getf) (fp_lf fo_ic)) (fp_br (fp_lf fo_xald) (fp_br (fp_lf fo_if_ne) (fp_lf fo_ic))))) (fp_br (fp_br (fp_br (fp_lf fo_iret) (fp_lf fo_ic)) (fp_br (fp_lf fo_ist) (fp_br (fp_lf fo_ic) (fp_lf fo_ist)))) (fp_br (fp_br (fp_lf fo_ic) (fp_lf fo_ist)) (fp_br (fp_lf fo_ild) (fp_br (fp_lf fo_ald) (fp_lf (fo_callV (fm_X12_cells (f_sub hF (by decide)))))))))) (fp_br (fp_br (fp_br (fp_br (fp_lf fo_icmp_ge) (fp_lf fo_ild)) (fp_br (fp_lf fo_ald) (fp_br (fp_lf fo_getf) (fp_lf fo_ic)))) (fp_br (fp_br (fp_lf fo_ild) (fp_lf fo_iadd)) (fp_br (fp_lf fo_xald) (fp_br (fp_lf fo_if_le) (fp_lf fo_ic))))) (fp_br (fp_br (fp_br (fp_lf fo_goto) (fp_lf fo_ic)) (fp_br (fp_lf fo_iadd) (fp_br (fp_lf fo_ist) (fp_lf fo_ild)))) (fp_br (fp_br (fp_lf fo_ald) (fp_lf fo_getf)) (fp_br (fp_lf fo_ic) (fp_br (fp_lf fo_ild) (fp_lf fo_iadd))))))) (fp_br (fp_br (fp_br (fp_br (fp_br (fp_lf fo_xald) (fp_lf fo_iadd)) (fp_br (fp_lf fo_ist) (fp_br (fp_lf fo_inc) (fp_lf fo_goto)))) (fp_br (fp_br (fp_lf fo_ild) (fp_lf fo_if_ne)) (fp_br (fp_lf fo_ald) (fp_br (fp_lf fo_getf) (fp_lf fo_ic))))) (fp_br (fp_br (fp_br (fp_lf fo_xald) (fp_lf fo_goto)) (fp_br (fp_lf fo_ild) (fp_br (fp_lf fo_ic) (fp_lf fo_icmp_ne)))) (fp_br (fp_br (fp_lf fo_ald) (fp_lf fo_getf)) (fp_br (fp_lf fo_ic) (fp_br (fp_lf fo_xald) (fp_lf fo_goto)))))) (fp_br (fp_br (fp_br (fp_br (fp_lf fo_ild) (fp_lf fo_ic)) (fp_br (fp_lf fo_icmp_ne) (fp_br (fp_lf fo_ald) (fp_lf fo_getf)))) (fp_br (fp_br (fp_lf fo_ic) (fp_lf fo_xald)) (fp_br (fp_lf fo_goto) (fp_br (fp_lf fo_ild) (fp_lf fo_ic))))) (fp_br (fp_br (fp_br (fp_lf fo_icmp_ne) (fp_lf fo_ild)) (fp_br (fp_lf fo_goto) (fp_br (fp_lf fo_ild) (fp_lf fo_ic)))) (fp_br (fp_br (fp_lf fo_icmp_ne) (fp_lf fo_ild)) (fp_br (fp_lf fo_goto) (fp_br (fp_lf fo_ic) (fp_lf fo_iret))))))))
set_option maxRecDepth 8000 in
theorem fm_X12_planLine {F : List Nat} (hF : ∀ f, f ∈ F → f ∈ [41, 48, 54]) : FT 404 12 F t_X12_planLine := ft_body (fp_br (fp_br (fp_br (fp_br (fp_br (fp_br (fp_lf fo_ald) (fp_br (fp_lf fo_lc) (fp_lf (fo_callV (fm_X12_isWord (f_sub hF (by decide))))))) (fp_br (fp_br (fp_lf fo_if_eq) (fp_lf fo_ic)) (fp_br (fp_lf fo_goto) (fp_lf fo_ald)))) (fp_br (fp_br (fp_br (fp_lf fo_lc) (fp_lf (fo_callV (fm_X12_isWord (f_sub hF (by decide)))))) (fp_br (fp_lf fo_if_eq) (fp_lf fo_ic))) (fp_br (fp_br (fp_lf fo_goto) (fp_lf fo_ald)) (fp_br (fp_lf fo_lc) (fp_lf (fo_callV (fm_X12_isWord (f_sub hF (by decide))))))))) (fp_br (fp_br (fp_br (fp_lf fo_if_eq) (fp_br (fp_lf fo_ic) (fp_lf fo_goto))) (fp_br (fp_br (fp_lf fo_ald) (fp_lf fo_lc)) (fp_br (fp_lf (fo_callV (fm_X12_isWord (f_sub hF (by decide))))) (fp_lf fo_if_eq)))) (fp_br (fp_br (fp_br (fp_lf fo_ic) (fp_lf fo_goto)) (fp_br (fp_lf fo_ic) (fp_lf fo_ist))) (fp_br (fp_br (fp_lf fo_ild) (fp_lf fo_if_ge)) (fp_br (fp_lf fo_ald) (fp_lf fo_ic)))))) (fp_br (fp_br (fp_br (fp_br (fp_lf (fo_callV (fm_X12_bad (f_sub hF (by decide))))) (fp_br (fp_lf fo_zret) (fp_lf fo_ald))) (fp_br (fp_br (fp_lf fo_getf) (fp_lf fo_ic)) (fp_br (fp_lf fo_icmp_ne) (fp_lf fo_ald)))) (fp_br (fp_br (fp_br (fp_lf fo_ic) (fp_lf (fo_callV (fm_X12_bad (f_sub hF (by decide)))))) (fp_br (fp_lf fo_zret) (fp_lf fo_ic))) (fp_br (fp_br (fp_lf fo_ic) (fp_lf fo_ald)) (fp_br (fp_lf fo_getf) (fp_lf fo_imul))))) (fp_br (fp_br (fp_br (fp_br (fp_lf fo_iadd) (fp_lf fo_ist)) (fp_br (fp_lf fo_ald) (fp_lf (fo_callV (fm_X12_next (f_sub hF (by decide))))))) (fp_br (fp_br (fp_lf fo_ald) (fp_lf fo_getf)) (fp_br (fp_lf fo_ild) (fp_lf fo_ild)))) (fp_br (fp_br (fp_br (fp_lf (fo_iast (by decide))) (fp_lf fo_ild)) (fp_br (fp_lf fo_if_ne) (fp_lf fo_ald))) (fp_br (fp_br (fp_lf fo_ic) (fp_lf fo_ic)) (fp_br (fp_lf (fo_callV (fm_X12_takes (f_sub hF (by decide))))) (fp_lf fo_if_ne))))))) (fp_br (fp_br (fp_br (fp_br (fp_br (fp_lf fo_ic) (fp_br (fp_lf fo_zret) (fp_lf fo_ald))) (fp_br (fp_br (fp_lf fo_getf) (fp_lf fo_ild)) (fp_br (fp_lf fo_ic) (fp_lf fo_iadd)))) (fp_br (fp_br (fp_br (fp_lf fo_ald) (fp_lf fo_getf)) (fp_br (fp_lf (fo_iast (by decide))) (fp_lf fo_ic))) (fp_br (fp_br (fp_lf fo_zret) (fp_lf fo_ald)) (fp_br (fp_lf fo_ic) (fp_lf fo_ald))))) (fp_br (fp_br (fp_br (fp_br (fp_lf fo_getf) (fp_lf fo_ic)) (fp_br (fp_lf fo_xald) (fp_lf fo_ic))) (fp_br (fp_br (fp_lf fo_isub) (fp_lf (fo_callV (fm_X12_takes (f_sub hF (by decide)))))) (fp_br (fp_lf fo_if_ne) (fp_lf fo_ic)))) (fp_br (fp_br (fp_br (fp_lf fo_zret) (fp_lf fo_ald)) (fp_br (fp_lf fo_getf) (fp_lf fo_ild))) (fp_br (fp_br (fp_lf fo_ic) (fp_lf fo_iadd)) (fp_br (fp_lf fo_ald) (fp_lf fo_getf)))))) (fp_br (fp_br (fp_br (fp_br (fp_lf (fo_iast (by decide))) (fp_br (fp_lf fo_ald) (fp_lf fo_ic))) (fp_br (fp_br (fp_lf fo_ald) (fp_lf fo_getf)) (fp_br (fp_lf fo_ic) (fp_lf fo_xald)))) (fp_br (fp_br (fp_br (fp_lf fo_ic) (fp_lf fo_isub)) (fp_br (fp_lf (fo_callV (fm_X12_takes (f_sub hF (by decide))))) (fp_lf fo_if_ne))) (fp_br (fp_br (fp_lf fo_ic) (fp_lf fo_zret)) (fp_br (fp_lf fo_ald) (fp_lf fo_getf))))) (fp_br (fp_br (fp_br (fp_br (fp_lf fo_ild) (fp_lf fo_ic)) (fp_br (fp_lf fo_iadd) (fp_lf fo_ald))) (fp_br (fp_br (fp_lf fo_ald) (fp_lf fo_getf)) (fp_br (fp_lf fo_ild) (fp_lf fo_ic)))) (fp_br (fp_br (fp_br (fp_lf fo_iadd) (fp_lf fo_xald)) (fp_br (fp_lf fo_ald) (fp_lf fo_getf))) (fp_br (fp_br (fp_lf (fo_callV (fm_X12_numberOf (f_sub hF (by decide))))) (fp_lf (fo_iast (by decide)))) (fp_br (fp_lf fo_ic) (fp_lf fo_zret))))))))
set_option maxRecDepth 8000 in
theorem fm_X12_plan {F : List Nat} (hF : ∀ f, f ∈ F → f ∈ [41, 48, 54]) : FT 404 12 F t_X12_plan := ft_body (fp_br (fp_br (fp_br (fp_br (fp_br (fp_br (fp_lf fo_ald) (fp_lf fo_ic)) (fp_br (fp_lf (fo_puti (Or.inr (f_no hF (by decide))))) (fp_lf fo_ald))) (fp_br (fp_br (fp_lf fo_ic) (fp_lf (fo_callV (fm_X12_taken (f_sub hF (by decide)))))) (fp_br (fp_lf fo_ald) (fp_lf fo_ic)))) (fp_br (fp_br (fp_br (fp_lf (fo_puti (Or.inr (f_no hF (by decide))))) (fp_lf fo_ald)) (fp_br (fp_lf fo_ic) (fp_lf (fo_puti (Or.inr (f_no hF (by decide))))))) (fp_br (fp_br (fp_lf fo_ald) (fp_lf (fo_callV (fm_X12_next (f_sub hF (by decide)))))) (fp_br (fp_lf fo_ald) (fp_lf fo_getf))))) (fp_br (fp_br (fp_br (fp_br (fp_lf fo_if_eq) (fp_lf fo_ald)) (fp_br (fp_lf (fo_callV (fm_X12_planLine (f_sub hF (by decide))))) (fp_lf fo_if_eq))) (fp_br (fp_br (fp_lf fo_ald) (fp_lf fo_ic)) (fp_br (fp_lf (fo_callV (fm_X12_sign (f_sub hF (by decide))))) (fp_lf fo_if_ne)))) (fp_br (fp_br (fp_br (fp_lf fo_ic) (fp_lf fo_ald)) (fp_br (fp_lf fo_getf) (fp_lf fo_isub))) (fp_br (fp_br (fp_lf fo_iret) (fp_lf fo_ald)) (fp_br (fp_lf fo_dup) (fp_lf fo_getf)))))) (fp_br (fp_br (fp_br (fp_br (fp_br (fp_lf fo_ic) (fp_lf fo_iadd)) (fp_br (fp_lf (fo_puti (Or.inr (f_no hF (by decide))))) (fp_lf fo_goto))) (fp_br (fp_br (fp_lf fo_ald) (fp_lf fo_getf)) (fp_br (fp_lf fo_ic) (fp_lf fo_ald)))) (fp_br (fp_br (fp_br (fp_lf fo_getf) (fp_lf (fo_iast (by decide)))) (fp_br (fp_lf fo_ic) (fp_lf fo_ist))) (fp_br (fp_br (fp_lf fo_ild) (fp_lf fo_ic)) (fp_br (fp_lf fo_ald) (fp_lf fo_getf))))) (fp_br (fp_br (fp_br (fp_br (fp_lf fo_imul) (fp_lf fo_icmp_gt)) (fp_br (fp_lf fo_ald) (fp_lf fo_getf))) (fp_br (fp_br (fp_lf fo_ic) (fp_lf fo_ild)) (fp_br (fp_lf fo_iadd) (fp_lf fo_ald)))) (fp_br (fp_br (fp_br (fp_lf fo_getf) (fp_lf fo_ild)) (fp_br (fp_lf fo_xald) (fp_lf (fo_iast (by decide))))) (fp_br (fp_br (fp_lf fo_inc) (fp_lf fo_goto)) (fp_br (fp_lf fo_ald) (fp_br (fp_lf fo_getf) (fp_lf fo_iret))))))))
set_option maxRecDepth 8000 in
theorem fm_X12_does {F : List Nat} (hF : ∀ f, f ∈ F → f ∈ [41, 48, 54]) : FT 404 12 F t_X12_does := ft_body (fp_br (fp_br (fp_br (fp_br (fp_br (fp_br (fp_lf fo_ild) (fp_br (fp_lf fo_if_ne) (fp_lf fo_ald))) (fp_br (fp_lf fo_getf) (fp_br (fp_lf fo_ild) (fp_lf fo_iadd)))) (fp_br (fp_br (fp_lf fo_ic) (fp_br (fp_lf fo_icmp_le) (fp_lf fo_ic))) (fp_br (fp_lf fo_iret) (fp_br (fp_lf fo_ic) (fp_lf fo_ist))))) (fp_br (fp_br (fp_br (fp_lf fo_ild) (fp_br (fp_lf fo_ild) (fp_lf fo_icmp_ge))) (fp_br (fp_lf fo_ald) (fp_br (fp_lf fo_ald) (fp_lf fo_getf)))) (fp_br (fp_br (fp_lf (fo_callV (fm_X12_step (f_sub hF (by decide))))) (fp_br (fp_lf fo_ald) (fp_lf fo_dup))) (fp_br (fp_lf fo_getf) (fp_br (fp_lf fo_ic) (fp_lf fo_iadd)))))) (fp_br (fp_br (fp_br (fp_br (fp_lf (fo_puti (Or.inr (f_no hF (by decide))))) (fp_br (fp_lf fo_inc) (fp_lf fo_goto))) (fp_br (fp_lf fo_ald) (fp_br (fp_lf fo_getf) (fp_lf fo_ic)))) (fp_br (fp_br (fp_lf fo_dup2) (fp_br (fp_lf fo_xald) (fp_lf fo_ild))) (fp_br (fp_lf fo_iadd) (fp_br (fp_lf (fo_iast (by decide))) (fp_lf fo_ic))))) (fp_br (fp_br (fp_br (fp_lf fo_iret) (fp_br (fp_lf fo_ild) (fp_lf fo_ic))) (fp_br (fp_lf fo_icmp_ne) (fp_br (fp_lf fo_ald) (fp_lf fo_getf)))) (fp_br (fp_br (fp_lf fo_ild) (fp_br (fp_lf fo_xald) (fp_lf fo_if_ne))) (fp_br (fp_br (fp_lf fo_ic) (fp_lf fo_iret)) (fp_br (fp_lf fo_ald) (fp_lf fo_getf))))))) (fp_br (fp_br (fp_br (fp_br (fp_br (fp_lf fo_ic) (fp_br (fp_lf fo_dup2) (fp_lf fo_xald))) (fp_br (fp_lf fo_ald) (fp_br (fp_lf fo_getf) (fp_lf fo_ild)))) (fp_br (fp_br (fp_lf fo_xald) (fp_br (fp_lf fo_iadd) (fp_lf (fo_iast (by decide))))) (fp_br (fp_lf fo_ald) (fp_br (fp_lf fo_getf) (fp_lf fo_ild))))) (fp_br (fp_br (fp_br (fp_lf fo_ic) (fp_br (fp_lf (fo_iast (by decide))) (fp_lf fo_ic))) (fp_br (fp_lf fo_iret) (fp_br (fp_lf fo_ild) (fp_lf fo_ic)))) (fp_br (fp_br (fp_lf fo_icmp_ne) (fp_br (fp_lf fo_ic) (fp_lf fo_goto))) (fp_br (fp_br (fp_lf fo_ic) (fp_lf fo_ist)) (fp_br (fp_lf fo_ald) (fp_lf fo_getf)))))) (fp_br (fp_br (fp_br (fp_br (fp_lf fo_ild) (fp_br (fp_lf fo_xald) (fp_lf fo_ild))) (fp_br (fp_lf fo_icmp_ne) (fp_br (fp_lf fo_ic) (fp_lf fo_iret)))) (fp_br (fp_br (fp_lf fo_ald) (fp_br (fp_lf fo_getf) (fp_lf fo_ild))) (fp_br (fp_lf fo_ild) (fp_br (fp_lf (fo_iast (by decide))) (fp_lf fo_ald))))) (fp_br (fp_br (fp_br (fp_lf fo_getf) (fp_br (fp_lf fo_ild) (fp_lf fo_ild))) (fp_br (fp_lf fo_ic) (fp_br (fp_lf fo_icmp_ne) (fp_lf fo_ic)))) (fp_br (fp_br (fp_lf fo_goto) (fp_br (fp_lf fo_ald) (fp_lf fo_ild))) (fp_br (fp_br (fp_lf (fo_callV (fm_X12_skyOf (f_sub hF (by decide))))) (fp_lf (fo_iast (by decide)))) (fp_br (fp_lf fo_ic) (fp_lf fo_iret))))))))
set_option maxRecDepth 8000 in
theorem fm_X12_go {F : List Nat} (hF : ∀ f, f ∈ F → f ∈ [48, 54]) : FT 404 12 F t_X12_go := ft_body (fp_br (fp_br (fp_br (fp_br (fp_br (fp_br (fp_lf fo_ald) (fp_br (fp_lf fo_ic) (fp_lf (fo_puti (Or.inr (f_no hF (by decide))))))) (fp_br (fp_br (fp_lf fo_ald) (fp_lf fo_getf)) (fp_br (fp_lf fo_ic) (fp_lf fo_xald)))) (fp_br (fp_br (fp_lf fo_if_eq) (fp_br (fp_lf fo_ild) (fp_lf fo_ic))) (fp_br (fp_br (fp_lf fo_ic) (fp_lf (fo_callS (fm_X12_isIn (f_sub hF (by decide)))))) (fp_br (fp_lf fo_if_ne) (fp_lf fo_ic))))) (fp_br (fp_br (fp_br (fp_lf fo_iret) (fp_br (fp_lf fo_ald) (fp_lf (fo_callV (fm_X12_loads (f_sub hF (by decide))))))) (fp_br (fp_br (fp_lf fo_ic) (fp_lf fo_ist)) (fp_br (fp_lf fo_ild) (fp_lf fo_ic)))) (fp_br (fp_br (fp_br (fp_lf fo_icmp_ge) (fp_lf fo_ald)) (fp_br (fp_lf fo_getf) (fp_lf fo_ild))) (fp_br (fp_br (fp_lf fo_ic) (fp_lf (fo_iast (by decide)))) (fp_br (fp_lf fo_inc) (fp_lf fo_goto)))))) (fp_br (fp_br (fp_br (fp_br (fp_lf fo_ic) (fp_br (fp_lf fo_ist) (fp_lf fo_ic))) (fp_br (fp_br (fp_lf fo_ist) (fp_lf fo_ild)) (fp_br (fp_lf fo_ald) (fp_lf fo_getf)))) (fp_br (fp_br (fp_lf fo_ic) (fp_br (fp_lf fo_xald) (fp_lf fo_icmp_ge))) (fp_br (fp_br (fp_lf fo_ild) (fp_lf fo_if_ge)) (fp_br (fp_lf fo_ald) (fp_lf fo_getf))))) (fp_br (fp_br (fp_br (fp_lf fo_ic) (fp_br (fp_lf fo_ald) (fp_lf fo_ald))) (fp_br (fp_br (fp_lf fo_getf) (fp_lf fo_ic)) (fp_br (fp_lf fo_ic) (fp_lf fo_ild)))) (fp_br (fp_br (fp_br (fp_lf fo_imul) (fp_lf fo_iadd)) (fp_br (fp_lf fo_xald) (fp_lf fo_ald))) (fp_br (fp_br (fp_lf fo_getf) (fp_lf fo_ic)) (fp_br (fp_lf fo_ic) (fp_lf fo_ild))))))) (fp_br (fp_br (fp_br (fp_br (fp_br (fp_lf fo_imul) (fp_br (fp_lf fo_iadd) (fp_lf fo_xald))) (fp_br (fp_br (fp_lf (fo_callV (fm_X12_does (f_sub hF (by decide))))) (fp_lf (fo_iast (by decide)))) (fp_br (fp_lf fo_ald) (fp_lf fo_getf)))) (fp_br (fp_br (fp_lf fo_ic) (fp_br (fp_lf fo_xald) (fp_lf fo_if_le))) (fp_br (fp_br (fp_lf fo_ild) (fp_lf fo_ist)) (fp_br (fp_lf fo_inc) (fp_lf fo_goto))))) (fp_br (fp_br (fp_br (fp_lf fo_ic) (fp_br (fp_lf fo_ist) (fp_lf fo_ild))) (fp_br (fp_br (fp_lf fo_ald) (fp_lf (fo_callV (fm_X12_cells (f_sub hF (by decide)))))) (fp_br (fp_lf fo_icmp_ge) (fp_lf fo_ald)))) (fp_br (fp_br (fp_br (fp_lf fo_getf) (fp_lf fo_ic)) (fp_br (fp_lf fo_dup2) (fp_lf fo_xald))) (fp_br (fp_br (fp_lf fo_ald) (fp_lf fo_getf)) (fp_br (fp_lf fo_ild) (fp_lf fo_xald)))))) (fp_br (fp_br (fp_br (fp_br (fp_lf fo_if_le) (fp_br (fp_lf fo_ic) (fp_lf fo_goto))) (fp_br (fp_br (fp_lf fo_ic) (fp_lf fo_iadd)) (fp_br (fp_lf (fo_iast (by decide))) (fp_lf fo_ald)))) (fp_br (fp_br (fp_lf fo_getf) (fp_br (fp_lf fo_ic) (fp_lf fo_dup2))) (fp_br (fp_br (fp_lf fo_xald) (fp_lf fo_ald)) (fp_br (fp_lf fo_getf) (fp_lf fo_ild))))) (fp_br (fp_br (fp_br (fp_lf fo_xald) (fp_br (fp_lf fo_iadd) (fp_lf (fo_iast (by decide))))) (fp_br (fp_br (fp_lf fo_inc) (fp_lf fo_goto)) (fp_br (fp_lf fo_ald) (fp_lf fo_ic)))) (fp_br (fp_br (fp_br (fp_lf (fo_puti (Or.inr (f_no hF (by decide))))) (fp_lf fo_ild)) (fp_br (fp_lf fo_ic) (fp_lf fo_icmp_ne))) (fp_br (fp_br (fp_lf fo_ald) (fp_lf (fo_callV (fm_X12_keeps (f_sub hF (by decide)))))) (fp_br (fp_lf fo_ild) (fp_lf fo_iret))))))))
set_option maxRecDepth 8000 in
theorem fm_X12_went {F : List Nat} (hF : ∀ f, f ∈ F → f ∈ [41, 48, 54]) : FT 404 12 F t_X12_went := ft_body (fp_br (fp_br (fp_br (fp_br (fp_lf fo_ald) (fp_lf fo_ic)) (fp_br (fp_lf (fo_puti (Or.inr (f_no hF (by decide))))) (fp_lf fo_ald))) (fp_br (fp_br (fp_lf fo_getf) (fp_lf fo_if_eq)) (fp_br (fp_lf fo_ild) (fp_br (fp_lf fo_ic) (fp_lf fo_ic))))) (fp_br (fp_br (fp_br (fp_lf (fo_callS (fm_X12_isIn (f_sub hF (by decide))))) (fp_lf fo_if_eq)) (fp_br (fp_lf fo_ald) (fp_lf fo_getf))) (fp_br (fp_br (fp_lf fo_ild) (fp_lf fo_xald)) (fp_br (fp_lf fo_goto) (fp_br (fp_lf fo_ic) (fp_lf fo_iret))))))
set_option maxRecDepth 8000 in
theorem fm_X12_isStep {F : List Nat} (hF : ∀ f, f ∈ F → f ∈ [41, 48, 54]) : FT 404 12 F t_X12_isStep := ft_body (fp_br (fp_br (fp_lf fo_ild) (fp_lf fo_ic)) (fp_br (fp_lf fo_ic) (fp_br (fp_lf (fo_callS (fm_X12_isIn (f_sub hF (by decide))))) (fp_lf fo_zret))))
set_option maxRecDepth 8000 in
theorem fm_X12_through {F : List Nat} (hF : ∀ f, f ∈ F → f ∈ [41, 48, 54]) : FT 404 12 F t_X12_through := ft_body (fp_br (fp_br (fp_br (fp_lf fo_ald) (fp_br (fp_lf fo_ild) (fp_lf fo_ild))) (fp_br (fp_br (fp_lf (fo_callV (fm_X12_start (f_sub hF (by decide))))) (fp_lf fo_ic)) (fp_br (fp_lf fo_ist) (fp_lf fo_ild)))) (fp_br (fp_br (fp_br (fp_lf fo_ild) (fp_lf fo_icmp_gt)) (fp_br (fp_lf fo_ald) (fp_lf fo_ild))) (fp_br (fp_br (fp_lf (fo_callV (fm_X12_step (f_sub hF (by decide))))) (fp_lf fo_inc)) (fp_br (fp_lf fo_goto) (fp_lf fo_vret)))))
set_option maxRecDepth 8000 in
theorem fm_X12_much {F : List Nat} (hF : ∀ f, f ∈ F → f ∈ [41, 48, 54]) : FT 404 12 F t_X12_much := ft_body (fp_br (fp_br (fp_br (fp_br (fp_lf fo_ald) (fp_br (fp_lf fo_ic) (fp_lf (fo_puti (Or.inr (f_no hF (by decide))))))) (fp_br (fp_br (fp_lf fo_ald) (fp_lf fo_ild)) (fp_br (fp_lf (fo_callV (fm_X12_isNight (f_sub hF (by decide))))) (fp_lf fo_if_eq)))) (fp_br (fp_br (fp_br (fp_lf fo_ald) (fp_lf fo_ild)) (fp_br (fp_lf fo_ild) (fp_lf (fo_callV (fm_X12_isCell (f_sub hF (by decide))))))) (fp_br (fp_br (fp_lf fo_if_eq) (fp_lf fo_ild)) (fp_br (fp_lf (fo_callS (fm_X12_isStep (f_sub hF (by decide))))) (fp_lf fo_if_ne))))) (fp_br (fp_br (fp_br (fp_lf fo_ic) (fp_br (fp_lf fo_iret) (fp_lf fo_ald))) (fp_br (fp_br (fp_lf fo_ild) (fp_lf fo_ic)) (fp_br (fp_lf fo_ild) (fp_lf (fo_callV (fm_X12_through (f_sub hF (by decide)))))))) (fp_br (fp_br (fp_br (fp_lf fo_ald) (fp_lf fo_getf)) (fp_br (fp_lf fo_ald) (fp_lf fo_ild))) (fp_br (fp_br (fp_lf fo_ild) (fp_lf (fo_callV (fm_X12_numberOf (f_sub hF (by decide)))))) (fp_br (fp_lf fo_xald) (fp_lf fo_iret))))))
set_option maxRecDepth 8000 in
theorem fm_X12_where {F : List Nat} (hF : ∀ f, f ∈ F → f ∈ [41, 48, 54]) : FT 404 12 F t_X12_where := ft_body (fp_br (fp_br (fp_br (fp_br (fp_br (fp_lf fo_ald) (fp_lf fo_ic)) (fp_br (fp_lf (fo_puti (Or.inr (f_no hF (by decide))))) (fp_br (fp_lf fo_ald) (fp_lf fo_ild)))) (fp_br (fp_br (fp_lf (fo_callV (fm_X12_isNight (f_sub hF (by decide))))) (fp_br (fp_lf fo_if_eq) (fp_lf fo_ild))) (fp_br (fp_lf (fo_callS (fm_X12_isStep (f_sub hF (by decide))))) (fp_br (fp_lf fo_if_eq) (fp_lf fo_ild))))) (fp_br (fp_br (fp_br (fp_lf fo_ic) (fp_br (fp_lf fo_ic) (fp_lf (fo_callS (fm_X12_isIn (f_sub hF (by decide))))))) (fp_br (fp_lf fo_if_ne) (fp_br (fp_lf fo_ic) (fp_lf fo_iret)))) (fp_br (fp_br (fp_lf fo_ald) (fp_br (fp_lf fo_ild) (fp_lf fo_ic))) (fp_br (fp_lf fo_ild) (fp_br (fp_lf (fo_callV (fm_X12_through (f_sub hF (by decide))))) (fp_lf fo_ic)))))) (fp_br (fp_br (fp_br (fp_br (fp_lf fo_ist) (fp_lf fo_ic)) (fp_br (fp_lf fo_ist) (fp_br (fp_lf fo_ild) (fp_lf fo_ald)))) (fp_br (fp_br (fp_lf (fo_callV (fm_X12_cells (f_sub hF (by decide))))) (fp_br (fp_lf fo_icmp_ge) (fp_lf fo_ild))) (fp_br (fp_lf fo_ald) (fp_br (fp_lf fo_getf) (fp_lf fo_ild))))) (fp_br (fp_br (fp_br (fp_lf fo_xald) (fp_br (fp_lf fo_ild) (fp_lf fo_icmp_lt))) (fp_br (fp_lf fo_ic) (fp_br (fp_lf fo_goto) (fp_lf fo_ic)))) (fp_br (fp_br (fp_lf fo_iadd) (fp_br (fp_lf fo_ist) (fp_lf fo_inc))) (fp_br (fp_lf fo_goto) (fp_br (fp_lf fo_ild) (fp_lf fo_iret)))))))
set_option maxRecDepth 8000 in
theorem fm_X12_timesOf {F : List Nat} (hF : ∀ f, f ∈ F → f ∈ [41, 48, 54]) : FT 404 12 F t_X12_timesOf := ft_body (fp_br (fp_br (fp_br (fp_br (fp_lf fo_ald) (fp_lf fo_ild)) (fp_br (fp_lf fo_ild) (fp_br (fp_lf (fo_callV (fm_X12_start (f_sub hF (by decide))))) (fp_lf fo_ic)))) (fp_br (fp_br (fp_lf fo_ist) (fp_br (fp_lf fo_ild) (fp_lf fo_ic))) (fp_br (fp_lf fo_icmp_ge) (fp_br (fp_lf fo_ald) (fp_lf fo_ild))))) (fp_br (fp_br (fp_br (fp_lf (fo_callV (fm_X12_step (f_sub hF (by decide))))) (fp_br (fp_lf fo_ald) (fp_lf fo_getf))) (fp_br (fp_lf fo_ild) (fp_br (fp_lf fo_ald) (fp_lf fo_getf)))) (fp_br (fp_br (fp_lf fo_ild) (fp_br (fp_lf fo_xald) (fp_lf (fo_iast (by decide))))) (fp_br (fp_lf fo_inc) (fp_br (fp_lf fo_goto) (fp_lf fo_vret))))))
set_option maxRecDepth 8000 in
theorem fm_X12_asks {F : List Nat} (hF : ∀ f, f ∈ F → f ∈ [41, 48, 54]) : FT 404 12 F t_X12_asks := ft_body (fp_br (fp_br (fp_br (fp_br (fp_lf fo_ald) (fp_br (fp_lf fo_ic) (fp_lf (fo_puti (Or.inr (f_no hF (by decide))))))) (fp_br (fp_lf fo_ald) (fp_br (fp_lf fo_ild) (fp_lf (fo_callV (fm_X12_isNight (f_sub hF (by decide)))))))) (fp_br (fp_br (fp_lf fo_if_eq) (fp_br (fp_lf fo_ald) (fp_lf fo_ild))) (fp_br (fp_lf fo_ild) (fp_br (fp_lf (fo_callV (fm_X12_isCell (f_sub hF (by decide))))) (fp_lf fo_if_ne))))) (fp_br (fp_br (fp_br (fp_lf fo_ic) (fp_br (fp_lf fo_zret) (fp_lf fo_ald))) (fp_br (fp_lf fo_ild) (fp_br (fp_lf fo_ald) (fp_lf fo_ild)))) (fp_br (fp_br (fp_lf fo_ild) (fp_br (fp_lf (fo_callV (fm_X12_numberOf (f_sub hF (by decide))))) (fp_lf fo_ic))) (fp_br (fp_lf (fo_callV (fm_X12_timesOf (f_sub hF (by decide))))) (fp_br (fp_lf fo_ic) (fp_lf fo_zret))))))
set_option maxRecDepth 8000 in
theorem fm_X12_begins {F : List Nat} (hF : ∀ f, f ∈ F → f ∈ [41, 48, 54]) : FT 404 12 F t_X12_begins := ft_body (fp_br (fp_br (fp_br (fp_br (fp_lf fo_ald) (fp_br (fp_lf fo_ild) (fp_lf fo_ild))) (fp_br (fp_lf fo_ild) (fp_br (fp_lf (fo_callV (fm_X12_asks (f_sub hF (by decide))))) (fp_lf fo_if_ne)))) (fp_br (fp_br (fp_lf fo_ic) (fp_br (fp_lf fo_iret) (fp_lf fo_ic))) (fp_br (fp_lf fo_ist) (fp_br (fp_lf fo_ild) (fp_lf fo_ic))))) (fp_br (fp_br (fp_br (fp_lf fo_icmp_ge) (fp_br (fp_lf fo_ald) (fp_lf fo_getf))) (fp_br (fp_lf fo_ild) (fp_br (fp_lf fo_xald) (fp_lf fo_if_le)))) (fp_br (fp_br (fp_lf fo_ild) (fp_br (fp_lf fo_iret) (fp_lf fo_inc))) (fp_br (fp_lf fo_goto) (fp_br (fp_lf fo_ic) (fp_lf fo_iret))))))
set_option maxRecDepth 8000 in
theorem fm_X12_gone {F : List Nat} (hF : ∀ f, f ∈ F → f ∈ [41, 48, 54]) : FT 404 12 F t_X12_gone := ft_body (fp_br (fp_br (fp_br (fp_br (fp_lf fo_ald) (fp_br (fp_lf fo_ild) (fp_lf fo_ild))) (fp_br (fp_br (fp_lf fo_ild) (fp_lf (fo_callV (fm_X12_asks (f_sub hF (by decide)))))) (fp_br (fp_lf fo_if_ne) (fp_lf fo_ic)))) (fp_br (fp_br (fp_br (fp_lf fo_iret) (fp_lf fo_ic)) (fp_br (fp_lf fo_ist) (fp_lf fo_ild))) (fp_br (fp_br (fp_lf fo_if_lt) (fp_lf fo_ald)) (fp_br (fp_lf fo_getf) (fp_lf fo_ild))))) (fp_br (fp_br (fp_br (fp_lf fo_xald) (fp_br (fp_lf fo_if_le) (fp_lf fo_ild))) (fp_br (fp_br (fp_lf fo_ic) (fp_lf fo_icmp_ne)) (fp_br (fp_lf fo_ic) (fp_lf fo_goto)))) (fp_br (fp_br (fp_br (fp_lf fo_ild) (fp_lf fo_ic)) (fp_br (fp_lf fo_iadd) (fp_lf fo_iret))) (fp_br (fp_br (fp_lf fo_inc) (fp_lf fo_goto)) (fp_br (fp_lf fo_ic) (fp_lf fo_iret))))))
set_option maxRecDepth 8000 in
theorem fm_X12_wet {F : List Nat} (hF : ∀ f, f ∈ F → f ∈ [41, 48, 54]) : FT 404 12 F t_X12_wet := ft_body (fp_br (fp_br (fp_br (fp_br (fp_lf fo_ald) (fp_br (fp_lf fo_ild) (fp_lf fo_ild))) (fp_br (fp_br (fp_lf fo_ild) (fp_lf (fo_callV (fm_X12_asks (f_sub hF (by decide)))))) (fp_br (fp_lf fo_if_ne) (fp_lf fo_ic)))) (fp_br (fp_br (fp_br (fp_lf fo_iret) (fp_lf fo_ic)) (fp_br (fp_lf fo_ist) (fp_lf fo_ic))) (fp_br (fp_br (fp_lf fo_ist) (fp_lf fo_ild)) (fp_br (fp_lf fo_ic) (fp_lf fo_icmp_ge))))) (fp_br (fp_br (fp_br (fp_lf fo_ild) (fp_br (fp_lf fo_ald) (fp_lf fo_getf))) (fp_br (fp_br (fp_lf fo_ild) (fp_lf fo_xald)) (fp_br (fp_lf fo_if_le) (fp_lf fo_ic)))) (fp_br (fp_br (fp_br (fp_lf fo_goto) (fp_lf fo_ic)) (fp_br (fp_lf fo_iadd) (fp_lf fo_ist))) (fp_br (fp_br (fp_lf fo_inc) (fp_lf fo_goto)) (fp_br (fp_lf fo_ild) (fp_lf fo_iret))))))
set_option maxRecDepth 8000 in
theorem fm_X12_spell {F : List Nat} (hF : ∀ f, f ∈ F → f ∈ [41, 48, 54]) : FT 404 12 F t_X12_spell := ft_body (fp_br (fp_br (fp_br (fp_br (fp_br (fp_lf fo_ald) (fp_lf fo_ild)) (fp_br (fp_lf fo_ild) (fp_lf fo_ild))) (fp_br (fp_br (fp_lf (fo_callV (fm_X12_asks (f_sub hF (by decide))))) (fp_lf fo_if_ne)) (fp_br (fp_lf fo_ic) (fp_br (fp_lf fo_iret) (fp_lf fo_ic))))) (fp_br (fp_br (fp_br (fp_lf fo_ist) (fp_lf fo_ic)) (fp_br (fp_lf fo_ist) (fp_br (fp_lf fo_ic) (fp_lf fo_ist)))) (fp_br (fp_br (fp_lf fo_ild) (fp_lf fo_ic)) (fp_br (fp_lf fo_icmp_ge) (fp_br (fp_lf fo_ald) (fp_lf fo_getf)))))) (fp_br (fp_br (fp_br (fp_br (fp_lf fo_ild) (fp_lf fo_xald)) (fp_br (fp_lf fo_if_le) (fp_br (fp_lf fo_ild) (fp_lf fo_ic)))) (fp_br (fp_br (fp_lf fo_iadd) (fp_lf fo_goto)) (fp_br (fp_lf fo_ic) (fp_br (fp_lf fo_ist) (fp_lf fo_ild))))) (fp_br (fp_br (fp_br (fp_lf fo_ild) (fp_lf fo_icmp_le)) (fp_br (fp_lf fo_ild) (fp_br (fp_lf fo_goto) (fp_lf fo_ild)))) (fp_br (fp_br (fp_lf fo_ist) (fp_lf fo_inc)) (fp_br (fp_lf fo_goto) (fp_br (fp_lf fo_ild) (fp_lf fo_iret)))))))
set_option maxRecDepth 8000 in
theorem fm_X12_sick {F : List Nat} (hF : ∀ f, f ∈ F → f ∈ [41, 48, 54]) : FT 404 12 F t_X12_sick := ft_body (fp_br (fp_br (fp_br (fp_br (fp_br (fp_br (fp_lf fo_ald) (fp_br (fp_lf fo_ic) (fp_lf (fo_puti (Or.inr (f_no hF (by decide))))))) (fp_br (fp_br (fp_lf fo_ald) (fp_lf fo_ild)) (fp_br (fp_lf (fo_callV (fm_X12_isNight (f_sub hF (by decide))))) (fp_lf fo_if_eq)))) (fp_br (fp_br (fp_lf fo_ild) (fp_br (fp_lf fo_ic) (fp_lf fo_ic))) (fp_br (fp_br (fp_lf (fo_callS (fm_X12_isIn (f_sub hF (by decide))))) (fp_lf fo_if_ne)) (fp_br (fp_lf fo_ic) (fp_lf fo_iret))))) (fp_br (fp_br (fp_br (fp_lf fo_ald) (fp_br (fp_lf fo_ild) (fp_lf fo_ic))) (fp_br (fp_br (fp_lf (fo_callV (fm_X12_start (f_sub hF (by decide))))) (fp_lf fo_ic)) (fp_br (fp_lf fo_ist) (fp_lf fo_ild)))) (fp_br (fp_br (fp_br (fp_lf fo_ald) (fp_lf (fo_callV (fm_X12_cells (f_sub hF (by decide)))))) (fp_br (fp_lf fo_icmp_ge) (fp_lf fo_ald))) (fp_br (fp_br (fp_lf fo_getf) (fp_lf fo_ild)) (fp_br (fp_lf fo_ic) (fp_lf (fo_iast (by decide)))))))) (fp_br (fp_br (fp_br (fp_br (fp_lf fo_ald) (fp_br (fp_lf fo_getf) (fp_lf fo_ild))) (fp_br (fp_br (fp_lf fo_ic) (fp_lf (fo_iast (by decide)))) (fp_br (fp_lf fo_inc) (fp_lf fo_goto)))) (fp_br (fp_br (fp_lf fo_ic) (fp_br (fp_lf fo_ist) (fp_lf fo_ild))) (fp_br (fp_br (fp_lf fo_ic) (fp_lf fo_icmp_ge)) (fp_br (fp_lf fo_ald) (fp_lf fo_ild))))) (fp_br (fp_br (fp_br (fp_lf (fo_callV (fm_X12_step (f_sub hF (by decide))))) (fp_br (fp_lf fo_ic) (fp_lf fo_ist))) (fp_br (fp_br (fp_lf fo_ild) (fp_lf fo_ald)) (fp_br (fp_lf (fo_callV (fm_X12_cells (f_sub hF (by decide))))) (fp_lf fo_icmp_ge)))) (fp_br (fp_br (fp_br (fp_lf fo_ald) (fp_lf fo_getf)) (fp_br (fp_lf fo_ild) (fp_lf fo_ald))) (fp_br (fp_br (fp_lf fo_getf) (fp_lf fo_ild)) (fp_br (fp_lf fo_xald) (fp_lf fo_if_le))))))) (fp_br (fp_br (fp_br (fp_br (fp_br (fp_lf fo_ald) (fp_br (fp_lf fo_getf) (fp_lf fo_ild))) (fp_br (fp_br (fp_lf fo_xald) (fp_lf fo_ic)) (fp_br (fp_lf fo_iadd) (fp_lf fo_goto)))) (fp_br (fp_br (fp_lf fo_ic) (fp_br (fp_lf (fo_iast (by decide))) (fp_lf fo_ald))) (fp_br (fp_br (fp_lf fo_getf) (fp_lf fo_ild)) (fp_br (fp_lf fo_ald) (fp_lf fo_getf))))) (fp_br (fp_br (fp_br (fp_lf fo_ild) (fp_br (fp_lf fo_xald) (fp_lf fo_ald))) (fp_br (fp_br (fp_lf fo_getf) (fp_lf fo_ild)) (fp_br (fp_lf fo_xald) (fp_lf fo_icmp_le)))) (fp_br (fp_br (fp_br (fp_lf fo_ald) (fp_lf fo_getf)) (fp_br (fp_lf fo_ild) (fp_lf fo_xald))) (fp_br (fp_br (fp_lf fo_goto) (fp_lf fo_ald)) (fp_br (fp_lf fo_getf) (fp_lf fo_ild)))))) (fp_br (fp_br (fp_br (fp_br (fp_lf fo_xald) (fp_br (fp_lf (fo_iast (by decide))) (fp_lf fo_inc))) (fp_br (fp_br (fp_lf fo_goto) (fp_lf fo_inc)) (fp_br (fp_lf fo_goto) (fp_lf fo_ic)))) (fp_br (fp_br (fp_br (fp_lf fo_ist) (fp_lf fo_ic)) (fp_br (fp_lf fo_ist) (fp_lf fo_ild))) (fp_br (fp_br (fp_lf fo_ald) (fp_lf (fo_callV (fm_X12_cells (f_sub hF (by decide)))))) (fp_br (fp_lf fo_icmp_ge) (fp_lf fo_ild))))) (fp_br (fp_br (fp_br (fp_lf fo_ald) (fp_br (fp_lf fo_getf) (fp_lf fo_ild))) (fp_br (fp_br (fp_lf fo_xald) (fp_lf fo_ild)) (fp_br (fp_lf fo_icmp_lt) (fp_lf fo_ic)))) (fp_br (fp_br (fp_br (fp_lf fo_goto) (fp_lf fo_ic)) (fp_br (fp_lf fo_iadd) (fp_lf fo_ist))) (fp_br (fp_br (fp_lf fo_inc) (fp_lf fo_goto)) (fp_br (fp_lf fo_ild) (fp_lf fo_iret))))))))
set_option maxRecDepth 8000 in
theorem fm_X12_frost {F : List Nat} (hF : ∀ f, f ∈ F → f ∈ [41, 48, 54]) : FT 404 12 F t_X12_frost := ft_body (fp_br (fp_br (fp_br (fp_br (fp_br (fp_lf fo_ald) (fp_lf fo_ic)) (fp_br (fp_lf (fo_puti (Or.inr (f_no hF (by decide))))) (fp_br (fp_lf fo_ald) (fp_lf fo_ild)))) (fp_br (fp_br (fp_lf (fo_callV (fm_X12_isNight (f_sub hF (by decide))))) (fp_br (fp_lf fo_if_eq) (fp_lf fo_ald))) (fp_br (fp_lf fo_ild) (fp_br (fp_lf fo_ild) (fp_lf (fo_callV (fm_X12_isCell (f_sub hF (by decide))))))))) (fp_br (fp_br (fp_br (fp_lf fo_if_ne) (fp_br (fp_lf fo_ic) (fp_lf fo_iret))) (fp_br (fp_lf fo_ald) (fp_br (fp_lf fo_ild) (fp_lf fo_ild)))) (fp_br (fp_br (fp_lf (fo_callV (fm_X12_numberOf (f_sub hF (by decide))))) (fp_br (fp_lf fo_ist) (fp_lf fo_ald))) (fp_br (fp_lf fo_ild) (fp_br (fp_lf fo_ic) (fp_lf (fo_callV (fm_X12_start (f_sub hF (by decide)))))))))) (fp_br (fp_br (fp_br (fp_br (fp_lf fo_ic) (fp_br (fp_lf fo_ist) (fp_lf fo_ild))) (fp_br (fp_lf fo_ic) (fp_br (fp_lf fo_icmp_ge) (fp_lf fo_ald)))) (fp_br (fp_br (fp_lf fo_ild) (fp_br (fp_lf (fo_callV (fm_X12_step (f_sub hF (by decide))))) (fp_lf fo_ald))) (fp_br (fp_lf fo_getf) (fp_br (fp_lf fo_ild) (fp_lf fo_xald))))) (fp_br (fp_br (fp_br (fp_lf fo_if_le) (fp_br (fp_lf fo_ald) (fp_lf fo_getf))) (fp_br (fp_lf fo_ild) (fp_br (fp_lf fo_xald) (fp_lf fo_if_ge)))) (fp_br (fp_br (fp_lf fo_ild) (fp_br (fp_lf fo_iret) (fp_lf fo_inc))) (fp_br (fp_lf fo_goto) (fp_br (fp_lf fo_ic) (fp_lf fo_iret)))))))
set_option maxRecDepth 8000 in
theorem fm_X12_beside {F : List Nat} (hF : ∀ f, f ∈ F → f ∈ [41, 48, 54]) : FT 404 12 F t_X12_beside := ft_body (fp_br (fp_br (fp_br (fp_br (fp_br (fp_lf fo_ild) (fp_br (fp_lf fo_ald) (fp_lf fo_getf))) (fp_br (fp_lf fo_ic) (fp_br (fp_lf fo_xald) (fp_lf fo_irem)))) (fp_br (fp_br (fp_lf fo_ild) (fp_br (fp_lf fo_if_ne) (fp_lf fo_ic))) (fp_br (fp_lf fo_goto) (fp_br (fp_lf fo_ild) (fp_lf fo_ic))))) (fp_br (fp_br (fp_br (fp_lf fo_icmp_ne) (fp_br (fp_lf fo_ic) (fp_lf fo_goto))) (fp_br (fp_lf fo_ic) (fp_br (fp_lf fo_iadd) (fp_lf fo_ist)))) (fp_br (fp_br (fp_lf fo_ild) (fp_br (fp_lf fo_ald) (fp_lf fo_getf))) (fp_br (fp_lf fo_ic) (fp_br (fp_lf fo_xald) (fp_lf fo_idiv)))))) (fp_br (fp_br (fp_br (fp_br (fp_lf fo_ild) (fp_br (fp_lf fo_ic) (fp_lf fo_icmp_ne))) (fp_br (fp_lf fo_ic) (fp_br (fp_lf fo_goto) (fp_lf fo_ild)))) (fp_br (fp_br (fp_lf fo_ic) (fp_br (fp_lf fo_icmp_ne) (fp_lf fo_ic))) (fp_br (fp_lf fo_goto) (fp_br (fp_lf fo_ic) (fp_lf fo_iadd))))) (fp_br (fp_br (fp_br (fp_lf fo_ist) (fp_br (fp_lf fo_ald) (fp_lf fo_ild))) (fp_br (fp_lf fo_ild) (fp_br (fp_lf (fo_callV (fm_X12_isCell (f_sub hF (by decide))))) (fp_lf fo_if_eq)))) (fp_br (fp_br (fp_lf fo_ald) (fp_br (fp_lf fo_ild) (fp_lf fo_ild))) (fp_br (fp_br (fp_lf (fo_callV (fm_X12_numberOf (f_sub hF (by decide))))) (fp_lf fo_goto)) (fp_br (fp_lf fo_ic) (fp_lf fo_iret)))))))
set_option maxRecDepth 8000 in
theorem fm_X12_slugs {F : List Nat} (hF : ∀ f, f ∈ F → f ∈ [41, 48, 54]) : FT 404 12 F t_X12_slugs := ft_body (fp_br (fp_br (fp_br (fp_br (fp_br (fp_br (fp_lf fo_ald) (fp_br (fp_lf fo_ic) (fp_lf (fo_puti (Or.inr (f_no hF (by decide))))))) (fp_br (fp_lf fo_ald) (fp_br (fp_lf fo_ild) (fp_lf (fo_callV (fm_X12_isNight (f_sub hF (by decide)))))))) (fp_br (fp_br (fp_lf fo_if_eq) (fp_br (fp_lf fo_ild) (fp_lf (fo_callS (fm_X12_isStep (f_sub hF (by decide))))))) (fp_br (fp_br (fp_lf fo_if_eq) (fp_lf fo_ald)) (fp_br (fp_lf fo_ild) (fp_lf fo_ild))))) (fp_br (fp_br (fp_br (fp_lf (fo_callV (fm_X12_isCell (f_sub hF (by decide))))) (fp_br (fp_lf fo_if_ne) (fp_lf fo_ic))) (fp_br (fp_br (fp_lf fo_iret) (fp_lf fo_ald)) (fp_br (fp_lf fo_ild) (fp_lf fo_ic)))) (fp_br (fp_br (fp_lf fo_ild) (fp_br (fp_lf (fo_callV (fm_X12_through (f_sub hF (by decide))))) (fp_lf fo_ic))) (fp_br (fp_br (fp_lf fo_ist) (fp_lf fo_ild)) (fp_br (fp_lf fo_ald) (fp_lf (fo_callV (fm_X12_cells (f_sub hF (by decide)))))))))) (fp_br (fp_br (fp_br (fp_br (fp_lf fo_icmp_ge) (fp_br (fp_lf fo_ald) (fp_lf fo_getf))) (fp_br (fp_br (fp_lf fo_ild) (fp_lf fo_ic)) (fp_br (fp_lf (fo_iast (by decide))) (fp_lf fo_inc)))) (fp_br (fp_br (fp_lf fo_goto) (fp_br (fp_lf fo_ald) (fp_lf fo_ild))) (fp_br (fp_br (fp_lf fo_ild) (fp_lf (fo_callV (fm_X12_numberOf (f_sub hF (by decide)))))) (fp_br (fp_lf fo_ist) (fp_lf fo_ald))))) (fp_br (fp_br (fp_br (fp_lf fo_getf) (fp_br (fp_lf fo_ild) (fp_lf fo_xald))) (fp_br (fp_br (fp_lf fo_if_ne) (fp_lf fo_ic)) (fp_br (fp_lf fo_iret) (fp_lf fo_ald)))) (fp_br (fp_br (fp_lf fo_getf) (fp_br (fp_lf fo_ild) (fp_lf fo_ic))) (fp_br (fp_br (fp_lf (fo_iast (by decide))) (fp_lf fo_ic)) (fp_br (fp_lf fo_ist) (fp_lf fo_ic))))))) (fp_br (fp_br (fp_br (fp_br (fp_br (fp_lf fo_ist) (fp_br (fp_lf fo_ild) (fp_lf fo_if_eq))) (fp_br (fp_br (fp_lf fo_ic) (fp_lf fo_ist)) (fp_br (fp_lf fo_ic) (fp_lf fo_ist)))) (fp_br (fp_br (fp_lf fo_ild) (fp_br (fp_lf fo_ald) (fp_lf (fo_callV (fm_X12_cells (f_sub hF (by decide))))))) (fp_br (fp_br (fp_lf fo_icmp_ge) (fp_lf fo_ic)) (fp_br (fp_lf fo_ist) (fp_lf fo_ild))))) (fp_br (fp_br (fp_br (fp_lf fo_ic) (fp_br (fp_lf fo_icmp_ge) (fp_lf fo_ald))) (fp_br (fp_br (fp_lf fo_getf) (fp_lf fo_ild)) (fp_br (fp_lf fo_xald) (fp_lf fo_ic)))) (fp_br (fp_br (fp_lf fo_icmp_ne) (fp_br (fp_lf fo_ald) (fp_lf fo_ild))) (fp_br (fp_br (fp_lf fo_ild) (fp_lf (fo_callV (fm_X12_beside (f_sub hF (by decide)))))) (fp_br (fp_lf fo_ist) (fp_lf fo_ild)))))) (fp_br (fp_br (fp_br (fp_br (fp_lf fo_if_lt) (fp_br (fp_lf fo_ald) (fp_lf fo_getf))) (fp_br (fp_br (fp_lf fo_ild) (fp_lf fo_xald)) (fp_br (fp_lf fo_if_eq) (fp_lf fo_ald)))) (fp_br (fp_br (fp_lf fo_getf) (fp_br (fp_lf fo_ild) (fp_lf fo_xald))) (fp_br (fp_br (fp_lf fo_ic) (fp_lf fo_icmp_ne)) (fp_br (fp_lf fo_goto) (fp_lf fo_ald))))) (fp_br (fp_br (fp_br (fp_lf fo_getf) (fp_br (fp_lf fo_ild) (fp_lf fo_ic))) (fp_br (fp_br (fp_lf (fo_iast (by decide))) (fp_lf fo_inc)) (fp_br (fp_lf fo_ic) (fp_lf fo_ist)))) (fp_br (fp_br (fp_lf fo_inc) (fp_br (fp_lf fo_goto) (fp_lf fo_inc))) (fp_br (fp_br (fp_lf fo_goto) (fp_lf fo_goto)) (fp_br (fp_lf fo_ild) (fp_lf fo_iret))))))))
set_option maxRecDepth 8000 in
theorem fm_X12_walk {F : List Nat} (hF : ∀ f, f ∈ F → f ∈ [41, 48, 54]) : FT 404 12 F t_X12_walk := ft_body (fp_br (fp_br (fp_br (fp_br (fp_br (fp_br (fp_lf fo_ald) (fp_br (fp_lf fo_ic) (fp_lf (fo_puti (Or.inr (f_no hF (by decide))))))) (fp_br (fp_br (fp_lf fo_ald) (fp_lf fo_ild)) (fp_br (fp_lf (fo_callV (fm_X12_isNight (f_sub hF (by decide))))) (fp_lf fo_if_eq)))) (fp_br (fp_br (fp_br (fp_lf fo_ild) (fp_lf (fo_callS (fm_X12_isStep (f_sub hF (by decide)))))) (fp_br (fp_lf fo_if_eq) (fp_lf fo_ild))) (fp_br (fp_br (fp_lf fo_ic) (fp_lf fo_ald)) (fp_br (fp_lf (fo_callV (fm_X12_cells (f_sub hF (by decide))))) (fp_lf fo_ic))))) (fp_br (fp_br (fp_br (fp_br (fp_lf fo_isub) (fp_lf (fo_callS (fm_X12_isIn (f_sub hF (by decide)))))) (fp_br (fp_lf fo_if_eq) (fp_lf fo_ild))) (fp_br (fp_br (fp_lf fo_ic) (fp_lf fo_ald)) (fp_br (fp_lf (fo_callV (fm_X12_cells (f_sub hF (by decide))))) (fp_lf fo_ic)))) (fp_br (fp_br (fp_br (fp_lf fo_isub) (fp_lf (fo_callS (fm_X12_isIn (f_sub hF (by decide)))))) (fp_br (fp_lf fo_if_ne) (fp_lf fo_ic))) (fp_br (fp_br (fp_lf fo_iret) (fp_lf fo_ald)) (fp_br (fp_lf fo_ild) (fp_lf fo_ic)))))) (fp_br (fp_br (fp_br (fp_br (fp_lf fo_ild) (fp_br (fp_lf (fo_callV (fm_X12_through (f_sub hF (by decide))))) (fp_lf fo_ic))) (fp_br (fp_br (fp_lf fo_ist) (fp_lf fo_ild)) (fp_br (fp_lf fo_ald) (fp_lf (fo_callV (fm_X12_cells (f_sub hF (by decide)))))))) (fp_br (fp_br (fp_br (fp_lf fo_icmp_ge) (fp_lf fo_ald)) (fp_br (fp_lf fo_getf) (fp_lf fo_ild))) (fp_br (fp_br (fp_lf fo_ild) (fp_lf fo_ild)) (fp_br (fp_lf fo_icmp_ne) (fp_lf fo_ald))))) (fp_br (fp_br (fp_br (fp_br (fp_lf fo_getf) (fp_lf fo_ild)) (fp_br (fp_lf fo_xald) (fp_lf fo_goto))) (fp_br (fp_br (fp_lf fo_ic) (fp_lf (fo_iast (by decide)))) (fp_br (fp_lf fo_inc) (fp_lf fo_goto)))) (fp_br (fp_br (fp_br (fp_lf fo_ic) (fp_lf fo_ist)) (fp_br (fp_lf fo_ild) (fp_lf fo_if_eq))) (fp_br (fp_br (fp_lf fo_ic) (fp_lf fo_ist)) (fp_br (fp_lf fo_ic) (fp_lf fo_ist))))))) (fp_br (fp_br (fp_br (fp_br (fp_br (fp_lf fo_ild) (fp_br (fp_lf fo_ald) (fp_lf (fo_callV (fm_X12_cells (f_sub hF (by decide))))))) (fp_br (fp_br (fp_lf fo_icmp_ge) (fp_lf fo_ic)) (fp_br (fp_lf fo_ist) (fp_lf fo_ild)))) (fp_br (fp_br (fp_br (fp_lf fo_ic) (fp_lf fo_icmp_ge)) (fp_br (fp_lf fo_ald) (fp_lf fo_ild))) (fp_br (fp_br (fp_lf fo_ild) (fp_lf (fo_callV (fm_X12_beside (f_sub hF (by decide)))))) (fp_br (fp_lf fo_ist) (fp_lf fo_ild))))) (fp_br (fp_br (fp_br (fp_br (fp_lf fo_if_lt) (fp_lf fo_ald)) (fp_br (fp_lf fo_getf) (fp_lf fo_ild))) (fp_br (fp_br (fp_lf fo_xald) (fp_lf fo_ic)) (fp_br (fp_lf fo_icmp_eq) (fp_lf fo_ald)))) (fp_br (fp_br (fp_br (fp_lf fo_getf) (fp_lf fo_ild)) (fp_br (fp_lf fo_xald) (fp_lf fo_ald))) (fp_br (fp_br (fp_lf fo_getf) (fp_lf fo_ild)) (fp_br (fp_lf fo_xald) (fp_lf fo_iadd)))))) (fp_br (fp_br (fp_br (fp_br (fp_lf fo_ald) (fp_br (fp_lf fo_getf) (fp_lf fo_ild))) (fp_br (fp_br (fp_lf fo_xald) (fp_lf fo_icmp_lt)) (fp_br (fp_lf fo_goto) (fp_lf fo_ald)))) (fp_br (fp_br (fp_br (fp_lf fo_getf) (fp_lf fo_ild)) (fp_br (fp_lf fo_ald) (fp_lf fo_getf))) (fp_br (fp_br (fp_lf fo_ild) (fp_lf fo_xald)) (fp_br (fp_lf fo_ald) (fp_lf fo_getf))))) (fp_br (fp_br (fp_br (fp_br (fp_lf fo_ild) (fp_lf fo_xald)) (fp_br (fp_lf fo_iadd) (fp_lf (fo_iast (by decide))))) (fp_br (fp_br (fp_lf fo_ic) (fp_lf fo_ist)) (fp_br (fp_lf fo_inc) (fp_lf fo_goto)))) (fp_br (fp_br (fp_br (fp_lf fo_inc) (fp_lf fo_goto)) (fp_br (fp_lf fo_goto) (fp_lf fo_ald))) (fp_br (fp_br (fp_lf fo_getf) (fp_lf fo_ild)) (fp_br (fp_lf fo_xald) (fp_lf fo_iret))))))))
set_option maxRecDepth 8000 in
theorem fm_X12_unlike {F : List Nat} (hF : ∀ f, f ∈ F → f ∈ [41, 48, 54]) : FT 404 12 F t_X12_unlike := ft_body (fp_br (fp_br (fp_br (fp_br (fp_br (fp_br (fp_lf fo_ald) (fp_lf fo_ic)) (fp_br (fp_lf (fo_puti (Or.inr (f_no hF (by decide))))) (fp_br (fp_lf fo_ald) (fp_lf fo_ild)))) (fp_br (fp_br (fp_lf (fo_callV (fm_X12_isNight (f_sub hF (by decide))))) (fp_lf fo_if_eq)) (fp_br (fp_lf fo_ald) (fp_br (fp_lf fo_ild) (fp_lf (fo_callV (fm_X12_isNight (f_sub hF (by decide))))))))) (fp_br (fp_br (fp_br (fp_lf fo_if_ne) (fp_lf fo_ic)) (fp_br (fp_lf fo_iret) (fp_br (fp_lf fo_ald) (fp_lf fo_ild)))) (fp_br (fp_br (fp_lf fo_ic) (fp_br (fp_lf (fo_callV (fm_X12_start (f_sub hF (by decide))))) (fp_lf fo_ic))) (fp_br (fp_lf fo_ist) (fp_br (fp_lf fo_ild) (fp_lf fo_ic)))))) (fp_br (fp_br (fp_br (fp_br (fp_lf fo_icmp_ge) (fp_lf fo_ald)) (fp_br (fp_lf fo_ild) (fp_br (fp_lf (fo_callV (fm_X12_step (f_sub hF (by decide))))) (fp_lf fo_ic)))) (fp_br (fp_br (fp_lf fo_ist) (fp_br (fp_lf fo_ild) (fp_lf fo_ald))) (fp_br (fp_lf (fo_callV (fm_X12_cells (f_sub hF (by decide))))) (fp_br (fp_lf fo_icmp_ge) (fp_lf fo_ald))))) (fp_br (fp_br (fp_br (fp_lf fo_getf) (fp_lf fo_ic)) (fp_br (fp_lf fo_ild) (fp_br (fp_lf fo_imul) (fp_lf fo_ild)))) (fp_br (fp_br (fp_lf fo_iadd) (fp_br (fp_lf fo_ald) (fp_lf fo_getf))) (fp_br (fp_lf fo_ild) (fp_br (fp_lf fo_xald) (fp_lf (fo_iast (by decide))))))))) (fp_br (fp_br (fp_br (fp_br (fp_br (fp_lf fo_inc) (fp_lf fo_goto)) (fp_br (fp_lf fo_inc) (fp_br (fp_lf fo_goto) (fp_lf fo_ald)))) (fp_br (fp_br (fp_lf fo_ild) (fp_lf fo_ic)) (fp_br (fp_lf (fo_callV (fm_X12_start (f_sub hF (by decide))))) (fp_br (fp_lf fo_ic) (fp_lf fo_ist))))) (fp_br (fp_br (fp_br (fp_lf fo_ild) (fp_lf fo_ic)) (fp_br (fp_lf fo_icmp_ge) (fp_br (fp_lf fo_ald) (fp_lf fo_ild)))) (fp_br (fp_br (fp_lf (fo_callV (fm_X12_step (f_sub hF (by decide))))) (fp_br (fp_lf fo_ic) (fp_lf fo_ist))) (fp_br (fp_lf fo_ild) (fp_br (fp_lf fo_ald) (fp_lf (fo_callV (fm_X12_cells (f_sub hF (by decide)))))))))) (fp_br (fp_br (fp_br (fp_br (fp_lf fo_icmp_ge) (fp_lf fo_ald)) (fp_br (fp_lf fo_getf) (fp_br (fp_lf fo_ild) (fp_lf fo_xald)))) (fp_br (fp_br (fp_lf fo_ald) (fp_br (fp_lf fo_getf) (fp_lf fo_ic))) (fp_br (fp_lf fo_ild) (fp_br (fp_lf fo_imul) (fp_lf fo_ild))))) (fp_br (fp_br (fp_br (fp_lf fo_iadd) (fp_lf fo_xald)) (fp_br (fp_lf fo_icmp_eq) (fp_br (fp_lf fo_ild) (fp_lf fo_iret)))) (fp_br (fp_br (fp_lf fo_inc) (fp_br (fp_lf fo_goto) (fp_lf fo_inc))) (fp_br (fp_lf fo_goto) (fp_br (fp_lf fo_ic) (fp_lf fo_iret))))))))
set_option maxRecDepth 8000 in
theorem fm_X12_isDry {F : List Nat} (hF : ∀ f, f ∈ F → f ∈ [41, 48, 54]) : FT 404 12 F t_X12_isDry := ft_body (fp_br (fp_br (fp_br (fp_br (fp_br (fp_lf fo_ald) (fp_lf fo_ild)) (fp_br (fp_lf fo_ic) (fp_br (fp_lf (fo_callV (fm_X12_start (f_sub hF (by decide))))) (fp_lf fo_ald)))) (fp_br (fp_br (fp_lf fo_getf) (fp_lf fo_ild)) (fp_br (fp_lf fo_ald) (fp_br (fp_lf fo_getf) (fp_lf fo_ild))))) (fp_br (fp_br (fp_br (fp_lf fo_xald) (fp_lf fo_ild)) (fp_br (fp_lf fo_icmp_le) (fp_br (fp_lf fo_ald) (fp_lf fo_getf)))) (fp_br (fp_br (fp_lf fo_ild) (fp_lf fo_xald)) (fp_br (fp_lf fo_ild) (fp_br (fp_lf fo_isub) (fp_lf fo_goto)))))) (fp_br (fp_br (fp_br (fp_br (fp_lf fo_ic) (fp_lf (fo_iast (by decide)))) (fp_br (fp_lf fo_ic) (fp_br (fp_lf fo_ist) (fp_lf fo_ild)))) (fp_br (fp_br (fp_lf fo_ic) (fp_lf fo_icmp_gt)) (fp_br (fp_lf fo_ald) (fp_br (fp_lf fo_ild) (fp_lf (fo_callV (fm_X12_step (f_sub hF (by decide))))))))) (fp_br (fp_br (fp_br (fp_lf fo_ald) (fp_lf fo_getf)) (fp_br (fp_lf fo_ild) (fp_br (fp_lf fo_xald) (fp_lf fo_if_le)))) (fp_br (fp_br (fp_lf fo_ic) (fp_br (fp_lf fo_zret) (fp_lf fo_inc))) (fp_br (fp_lf fo_goto) (fp_br (fp_lf fo_ic) (fp_lf fo_zret)))))))
set_option maxRecDepth 8000 in
theorem fm_X12_bench {F : List Nat} (hF : ∀ f, f ∈ F → f ∈ [41, 48, 54]) : FT 404 12 F t_X12_bench := ft_body (fp_br (fp_br (fp_br (fp_br (fp_br (fp_lf fo_ald) (fp_lf fo_ic)) (fp_br (fp_lf (fo_puti (Or.inr (f_no hF (by decide))))) (fp_br (fp_lf fo_ald) (fp_lf fo_ild)))) (fp_br (fp_br (fp_lf (fo_callV (fm_X12_isNight (f_sub hF (by decide))))) (fp_br (fp_lf fo_if_eq) (fp_lf fo_ild))) (fp_br (fp_lf fo_ic) (fp_br (fp_lf fo_ic) (fp_lf (fo_callS (fm_X12_isIn (f_sub hF (by decide))))))))) (fp_br (fp_br (fp_br (fp_lf fo_if_ne) (fp_br (fp_lf fo_ic) (fp_lf fo_iret))) (fp_br (fp_lf fo_ic) (fp_br (fp_lf fo_ist) (fp_lf fo_ild)))) (fp_br (fp_br (fp_lf fo_ald) (fp_br (fp_lf (fo_callV (fm_X12_cells (f_sub hF (by decide))))) (fp_lf fo_icmp_ge))) (fp_br (fp_lf fo_ald) (fp_br (fp_lf fo_ild) (fp_lf fo_ild)))))) (fp_br (fp_br (fp_br (fp_br (fp_lf fo_ild) (fp_lf (fo_callV (fm_X12_isDry (f_sub hF (by decide)))))) (fp_br (fp_lf fo_if_eq) (fp_br (fp_lf fo_ic) (fp_lf fo_ild)))) (fp_br (fp_br (fp_lf fo_ald) (fp_br (fp_lf fo_getf) (fp_lf fo_ic))) (fp_br (fp_lf fo_xald) (fp_br (fp_lf fo_idiv) (fp_lf fo_imul))))) (fp_br (fp_br (fp_br (fp_lf fo_ild) (fp_br (fp_lf fo_ald) (fp_lf fo_getf))) (fp_br (fp_lf fo_ic) (fp_br (fp_lf fo_xald) (fp_lf fo_irem)))) (fp_br (fp_br (fp_lf fo_iadd) (fp_br (fp_lf fo_iret) (fp_lf fo_inc))) (fp_br (fp_lf fo_goto) (fp_br (fp_lf fo_ic) (fp_lf fo_iret)))))))
set_option maxRecDepth 8000 in
theorem fm_X12_roof {F : List Nat} (hF : ∀ f, f ∈ F → f ∈ [41, 48, 54]) : FT 404 12 F t_X12_roof := ft_body (fp_br (fp_br (fp_br (fp_br (fp_br (fp_lf fo_ald) (fp_lf fo_ic)) (fp_br (fp_lf (fo_puti (Or.inr (f_no hF (by decide))))) (fp_lf fo_ald))) (fp_br (fp_br (fp_lf fo_ild) (fp_lf (fo_callV (fm_X12_isNight (f_sub hF (by decide)))))) (fp_br (fp_lf fo_if_eq) (fp_lf fo_ald)))) (fp_br (fp_br (fp_br (fp_lf fo_ild) (fp_lf fo_ild)) (fp_br (fp_lf (fo_callV (fm_X12_isCell (f_sub hF (by decide))))) (fp_lf fo_if_ne))) (fp_br (fp_br (fp_lf fo_ic) (fp_lf fo_iret)) (fp_br (fp_lf fo_ic) (fp_br (fp_lf fo_ist) (fp_lf fo_ild)))))) (fp_br (fp_br (fp_br (fp_br (fp_lf fo_ic) (fp_lf fo_icmp_gt)) (fp_br (fp_lf fo_ald) (fp_lf fo_ild))) (fp_br (fp_br (fp_lf fo_ald) (fp_lf fo_ild)) (fp_br (fp_lf fo_ild) (fp_lf (fo_callV (fm_X12_numberOf (f_sub hF (by decide)))))))) (fp_br (fp_br (fp_br (fp_lf fo_ild) (fp_lf (fo_callV (fm_X12_isDry (f_sub hF (by decide)))))) (fp_br (fp_lf fo_if_eq) (fp_lf fo_ild))) (fp_br (fp_br (fp_lf fo_iret) (fp_lf fo_inc)) (fp_br (fp_lf fo_goto) (fp_br (fp_lf fo_ic) (fp_lf fo_iret)))))))
set_option maxRecDepth 8000 in
theorem fm_X12_takesLawn {F : List Nat} (hF : ∀ f, f ∈ F → f ∈ [41, 48, 54]) : FT 404 12 F t_X12_takesLawn := ft_body (fp_br (fp_br (fp_br (fp_br (fp_lf fo_ald) (fp_br (fp_lf fo_ic) (fp_lf (fo_callV (fm_X12_taken (f_sub hF (by decide))))))) (fp_br (fp_lf fo_ald) (fp_br (fp_lf fo_getf) (fp_lf fo_ald)))) (fp_br (fp_br (fp_lf (fo_callV (fm_X12_cells (f_sub hF (by decide))))) (fp_br (fp_lf fo_icmp_eq) (fp_lf fo_ic))) (fp_br (fp_br (fp_lf fo_zret) (fp_lf fo_ic)) (fp_br (fp_lf fo_ist) (fp_lf fo_ild))))) (fp_br (fp_br (fp_br (fp_lf fo_ald) (fp_br (fp_lf fo_getf) (fp_lf fo_icmp_ge))) (fp_br (fp_br (fp_lf fo_ald) (fp_lf fo_ild)) (fp_br (fp_lf (fo_callV (fm_X12_octet (f_sub hF (by decide))))) (fp_lf fo_ic)))) (fp_br (fp_br (fp_lf fo_icmp_le) (fp_br (fp_lf fo_ic) (fp_lf fo_zret))) (fp_br (fp_br (fp_lf fo_inc) (fp_lf fo_goto)) (fp_br (fp_lf fo_ic) (fp_lf fo_zret))))))
set_option maxRecDepth 8000 in
theorem fm_X12_isLawn {F : List Nat} (hF : ∀ f, f ∈ F → f ∈ [41, 48, 54]) : FT 404 12 F t_X12_isLawn := ft_body (fp_br (fp_br (fp_br (fp_br (fp_lf fo_ic) (fp_br (fp_lf fo_ist) (fp_lf fo_ild))) (fp_br (fp_br (fp_lf fo_ald) (fp_lf (fo_callV (fm_X12_cells (f_sub hF (by decide)))))) (fp_br (fp_lf fo_icmp_ge) (fp_lf fo_ald)))) (fp_br (fp_br (fp_lf fo_ild) (fp_br (fp_lf (fo_callV (fm_X12_octet (f_sub hF (by decide))))) (fp_lf fo_ic))) (fp_br (fp_br (fp_lf fo_icmp_ge) (fp_lf fo_ald)) (fp_br (fp_lf fo_ild) (fp_lf (fo_callV (fm_X12_octet (f_sub hF (by decide))))))))) (fp_br (fp_br (fp_br (fp_lf fo_ald) (fp_br (fp_lf fo_getf) (fp_lf fo_ild))) (fp_br (fp_br (fp_lf fo_xald) (fp_lf fo_if_le)) (fp_br (fp_lf fo_ic) (fp_lf fo_goto)))) (fp_br (fp_br (fp_br (fp_lf fo_ic) (fp_lf fo_icmp_eq)) (fp_br (fp_lf fo_ic) (fp_lf fo_zret))) (fp_br (fp_br (fp_lf fo_inc) (fp_lf fo_goto)) (fp_br (fp_lf fo_ic) (fp_lf fo_zret))))))
set_option maxRecDepth 8000 in
theorem fm_X12_lawn {F : List Nat} (hF : ∀ f, f ∈ F → f ∈ [41, 48, 54]) : FT 404 12 F t_X12_lawn := ft_body (fp_br (fp_br (fp_br (fp_br (fp_br (fp_lf fo_ald) (fp_lf fo_ic)) (fp_br (fp_lf (fo_puti (Or.inr (f_no hF (by decide))))) (fp_br (fp_lf fo_ald) (fp_lf (fo_callV (fm_X12_takesLawn (f_sub hF (by decide)))))))) (fp_br (fp_br (fp_lf fo_if_ne) (fp_lf fo_ic)) (fp_br (fp_lf fo_iret) (fp_br (fp_lf fo_ic) (fp_lf fo_ist))))) (fp_br (fp_br (fp_br (fp_lf fo_ic) (fp_lf fo_ist)) (fp_br (fp_lf fo_ild) (fp_br (fp_lf fo_ic) (fp_lf fo_icmp_ge)))) (fp_br (fp_br (fp_lf fo_ald) (fp_lf fo_ild)) (fp_br (fp_lf (fo_callV (fm_X12_isNight (f_sub hF (by decide))))) (fp_br (fp_lf fo_if_ne) (fp_lf fo_goto)))))) (fp_br (fp_br (fp_br (fp_br (fp_lf fo_ald) (fp_lf fo_ild)) (fp_br (fp_lf fo_ic) (fp_br (fp_lf fo_ic) (fp_lf (fo_callV (fm_X12_through (f_sub hF (by decide)))))))) (fp_br (fp_br (fp_lf fo_ild) (fp_lf fo_ald)) (fp_br (fp_lf (fo_callV (fm_X12_isLawn (f_sub hF (by decide))))) (fp_br (fp_lf fo_if_eq) (fp_lf fo_ic))))) (fp_br (fp_br (fp_br (fp_lf fo_ild) (fp_lf fo_ishl)) (fp_br (fp_lf fo_goto) (fp_br (fp_lf fo_ic) (fp_lf fo_ior)))) (fp_br (fp_br (fp_lf fo_ist) (fp_lf fo_inc)) (fp_br (fp_lf fo_goto) (fp_br (fp_lf fo_ild) (fp_lf fo_iret)))))))
set_option maxRecDepth 8000 in
theorem fm_X12_clouds {F : List Nat} (hF : ∀ f, f ∈ F → f ∈ [41, 48, 54]) : FT 404 12 F t_X12_clouds := ft_body (fp_br (fp_br (fp_br (fp_br (fp_lf fo_ic) (fp_lf fo_ild)) (fp_br (fp_lf fo_imul) (fp_lf fo_ist))) (fp_br (fp_br (fp_lf fo_ild) (fp_lf fo_ic)) (fp_br (fp_lf fo_ild) (fp_br (fp_lf fo_imul) (fp_lf fo_ic))))) (fp_br (fp_br (fp_br (fp_lf fo_iadd) (fp_lf fo_icmp_ge)) (fp_br (fp_lf fo_ald) (fp_br (fp_lf fo_getf) (fp_lf fo_ild)))) (fp_br (fp_br (fp_lf fo_ic) (fp_lf (fo_iast (by decide)))) (fp_br (fp_lf fo_inc) (fp_br (fp_lf fo_goto) (fp_lf fo_vret))))))
set_option maxRecDepth 8000 in
theorem fm_X12_clouded {F : List Nat} (hF : ∀ f, f ∈ F → f ∈ [41, 48, 54]) : FT 404 12 F t_X12_clouded := ft_body (fp_br (fp_br (fp_br (fp_br (fp_br (fp_lf fo_ald) (fp_br (fp_lf fo_ic) (fp_lf (fo_puti (Or.inr (f_no hF (by decide))))))) (fp_br (fp_lf fo_ald) (fp_br (fp_lf (fo_callV (fm_X12_takesLawn (f_sub hF (by decide))))) (fp_lf fo_if_eq)))) (fp_br (fp_br (fp_lf fo_ald) (fp_br (fp_lf fo_ild) (fp_lf (fo_callV (fm_X12_isNight (f_sub hF (by decide))))))) (fp_br (fp_lf fo_if_ne) (fp_br (fp_lf fo_ic) (fp_lf fo_iret))))) (fp_br (fp_br (fp_br (fp_lf fo_ic) (fp_br (fp_lf fo_ist) (fp_lf fo_ic))) (fp_br (fp_lf fo_ist) (fp_br (fp_lf fo_ild) (fp_lf fo_ic)))) (fp_br (fp_br (fp_lf fo_icmp_ge) (fp_br (fp_lf fo_ald) (fp_lf fo_ild))) (fp_br (fp_br (fp_lf fo_ic) (fp_lf (fo_callV (fm_X12_start (f_sub hF (by decide)))))) (fp_br (fp_lf fo_ald) (fp_lf fo_ild)))))) (fp_br (fp_br (fp_br (fp_br (fp_lf (fo_callV (fm_X12_clouds (f_sub hF (by decide))))) (fp_br (fp_lf fo_ic) (fp_lf fo_ist))) (fp_br (fp_lf fo_ild) (fp_br (fp_lf fo_ic) (fp_lf fo_icmp_gt)))) (fp_br (fp_br (fp_lf fo_ald) (fp_br (fp_lf fo_ild) (fp_lf (fo_callV (fm_X12_step (f_sub hF (by decide))))))) (fp_br (fp_br (fp_lf fo_inc) (fp_lf fo_goto)) (fp_br (fp_lf fo_ild) (fp_lf fo_ald))))) (fp_br (fp_br (fp_br (fp_lf (fo_callV (fm_X12_isLawn (f_sub hF (by decide))))) (fp_br (fp_lf fo_if_eq) (fp_lf fo_ic))) (fp_br (fp_lf fo_ild) (fp_br (fp_lf fo_ishl) (fp_lf fo_goto)))) (fp_br (fp_br (fp_lf fo_ic) (fp_br (fp_lf fo_ior) (fp_lf fo_ist))) (fp_br (fp_br (fp_lf fo_inc) (fp_lf fo_goto)) (fp_br (fp_lf fo_ild) (fp_lf fo_iret)))))))
set_option maxRecDepth 8000 in
theorem fm_X12_came {F : List Nat} (hF : ∀ f, f ∈ F → f ∈ [41, 54]) : FT 404 12 F t_X12_came := ft_body (fp_br (fp_br (fp_br (fp_br (fp_br (fp_br (fp_lf fo_ald) (fp_lf fo_ic)) (fp_br (fp_lf (fo_puti (Or.inr (f_no hF (by decide))))) (fp_br (fp_lf fo_ald) (fp_lf fo_ild)))) (fp_br (fp_br (fp_lf (fo_callV (fm_X12_isNight (f_sub hF (by decide))))) (fp_lf fo_if_eq)) (fp_br (fp_lf fo_ald) (fp_br (fp_lf fo_ild) (fp_lf fo_ild))))) (fp_br (fp_br (fp_br (fp_lf (fo_callV (fm_X12_isCell (f_sub hF (by decide))))) (fp_lf fo_if_ne)) (fp_br (fp_lf fo_ic) (fp_br (fp_lf fo_iret) (fp_lf fo_ald)))) (fp_br (fp_br (fp_lf fo_ild) (fp_br (fp_lf fo_ild) (fp_lf (fo_callV (fm_X12_numberOf (f_sub hF (by decide))))))) (fp_br (fp_lf fo_ist) (fp_br (fp_lf fo_ic) (fp_lf fo_ist)))))) (fp_br (fp_br (fp_br (fp_br (fp_lf fo_ald) (fp_lf fo_getf)) (fp_br (fp_lf fo_ic) (fp_br (fp_lf fo_ic) (fp_lf (fo_iast (by decide)))))) (fp_br (fp_br (fp_lf fo_ald) (fp_br (fp_lf fo_getf) (fp_lf fo_ic))) (fp_br (fp_lf fo_ic) (fp_br (fp_lf (fo_iast (by decide))) (fp_lf fo_ald))))) (fp_br (fp_br (fp_br (fp_lf fo_ic) (fp_lf (fo_puti (Or.inr (f_no hF (by decide)))))) (fp_br (fp_lf fo_ic) (fp_br (fp_lf fo_ist) (fp_lf fo_ild)))) (fp_br (fp_br (fp_lf fo_ic) (fp_br (fp_lf fo_icmp_gt) (fp_lf fo_ald))) (fp_br (fp_lf fo_ild) (fp_br (fp_lf fo_ic) (fp_lf (fo_callV (fm_X12_start (f_sub hF (by decide))))))))))) (fp_br (fp_br (fp_br (fp_br (fp_br (fp_lf fo_ald) (fp_lf fo_ild)) (fp_br (fp_lf (fo_puti (Or.inr (f_no hF (by decide))))) (fp_br (fp_lf fo_ald) (fp_lf fo_ild)))) (fp_br (fp_br (fp_lf (fo_puti (Or.inr (f_no hF (by decide))))) (fp_lf fo_ald)) (fp_br (fp_lf fo_ic) (fp_br (fp_lf (fo_puti (Or.inr (f_no hF (by decide))))) (fp_lf fo_ic))))) (fp_br (fp_br (fp_br (fp_lf fo_ist) (fp_lf fo_ild)) (fp_br (fp_lf fo_ic) (fp_br (fp_lf fo_icmp_gt) (fp_lf fo_ald)))) (fp_br (fp_br (fp_lf fo_ild) (fp_br (fp_lf (fo_callV (fm_X12_step (f_sub hF (by decide))))) (fp_lf fo_inc))) (fp_br (fp_lf fo_goto) (fp_br (fp_lf fo_ald) (fp_lf fo_getf)))))) (fp_br (fp_br (fp_br (fp_br (fp_lf fo_ild) (fp_lf fo_xald)) (fp_br (fp_lf fo_ild) (fp_br (fp_lf fo_icmp_eq) (fp_lf fo_goto)))) (fp_br (fp_br (fp_lf fo_ild) (fp_br (fp_lf fo_if_ne) (fp_lf fo_ald))) (fp_br (fp_lf fo_getf) (fp_br (fp_lf fo_ic) (fp_lf fo_ild))))) (fp_br (fp_br (fp_br (fp_lf (fo_iast (by decide))) (fp_lf fo_ald)) (fp_br (fp_lf fo_getf) (fp_br (fp_lf fo_ic) (fp_lf fo_ild)))) (fp_br (fp_br (fp_lf (fo_iast (by decide))) (fp_br (fp_lf fo_inc) (fp_lf fo_inc))) (fp_br (fp_lf fo_goto) (fp_br (fp_lf fo_ild) (fp_lf fo_iret))))))))
set_option maxRecDepth 8000 in
theorem fm_X12_cameAt {F : List Nat} (hF : ∀ f, f ∈ F → f ∈ [41, 48, 54]) : FT 404 12 F t_X12_cameAt := ft_body (fp_br (fp_br (fp_br (fp_br (fp_lf fo_ald) (fp_lf fo_ic)) (fp_br (fp_lf (fo_puti (Or.inr (f_no hF (by decide))))) (fp_lf fo_ald))) (fp_br (fp_br (fp_lf fo_getf) (fp_lf fo_if_eq)) (fp_br (fp_lf fo_ild) (fp_br (fp_lf fo_ic) (fp_lf fo_ic))))) (fp_br (fp_br (fp_br (fp_lf (fo_callS (fm_X12_isIn (f_sub hF (by decide))))) (fp_lf fo_if_eq)) (fp_br (fp_lf fo_ald) (fp_lf fo_getf))) (fp_br (fp_br (fp_lf fo_ild) (fp_lf fo_xald)) (fp_br (fp_lf fo_goto) (fp_br (fp_lf fo_ic) (fp_lf fo_iret))))))
set_option maxRecDepth 8000 in
theorem fm_X12_driest {F : List Nat} (hF : ∀ f, f ∈ F → f ∈ [41, 48, 54]) : FT 404 12 F t_X12_driest := ft_body (fp_br (fp_br (fp_br (fp_br (fp_br (fp_br (fp_lf fo_ald) (fp_br (fp_lf fo_ic) (fp_lf (fo_puti (Or.inr (f_no hF (by decide))))))) (fp_br (fp_lf fo_ald) (fp_br (fp_lf fo_ild) (fp_lf (fo_callV (fm_X12_isNight (f_sub hF (by decide)))))))) (fp_br (fp_br (fp_lf fo_if_eq) (fp_br (fp_lf fo_ild) (fp_lf fo_ic))) (fp_br (fp_lf fo_ic) (fp_br (fp_lf (fo_callS (fm_X12_isIn (f_sub hF (by decide))))) (fp_lf fo_if_eq))))) (fp_br (fp_br (fp_br (fp_lf fo_ild) (fp_br (fp_lf fo_ald) (fp_lf fo_getf))) (fp_br (fp_lf fo_ic) (fp_br (fp_lf fo_xald) (fp_lf fo_icmp_gt)))) (fp_br (fp_br (fp_lf fo_ild) (fp_br (fp_lf fo_ald) (fp_lf fo_getf))) (fp_br (fp_br (fp_lf fo_ic) (fp_lf fo_xald)) (fp_br (fp_lf fo_icmp_le) (fp_lf fo_ic)))))) (fp_br (fp_br (fp_br (fp_br (fp_lf fo_iret) (fp_br (fp_lf fo_ald) (fp_lf fo_ild))) (fp_br (fp_lf fo_ic) (fp_br (fp_lf fo_ic) (fp_lf (fo_callV (fm_X12_through (f_sub hF (by decide)))))))) (fp_br (fp_br (fp_lf fo_ic) (fp_br (fp_lf fo_ist) (fp_lf fo_ic))) (fp_br (fp_br (fp_lf fo_ist) (fp_lf fo_ic)) (fp_br (fp_lf fo_ist) (fp_lf fo_ild))))) (fp_br (fp_br (fp_br (fp_lf fo_ild) (fp_br (fp_lf fo_iadd) (fp_lf fo_ald))) (fp_br (fp_lf fo_getf) (fp_br (fp_lf fo_ic) (fp_lf fo_xald)))) (fp_br (fp_br (fp_lf fo_icmp_gt) (fp_br (fp_lf fo_ic) (fp_lf fo_ist))) (fp_br (fp_br (fp_lf fo_ild) (fp_lf fo_ild)) (fp_br (fp_lf fo_iadd) (fp_lf fo_ald))))))) (fp_br (fp_br (fp_br (fp_br (fp_br (fp_lf fo_getf) (fp_br (fp_lf fo_ic) (fp_lf fo_xald))) (fp_br (fp_lf fo_icmp_gt) (fp_br (fp_lf fo_ic) (fp_lf fo_ist)))) (fp_br (fp_br (fp_lf fo_ic) (fp_br (fp_lf fo_ist) (fp_lf fo_ild))) (fp_br (fp_lf fo_ild) (fp_br (fp_lf fo_ild) (fp_lf fo_imul))))) (fp_br (fp_br (fp_br (fp_lf fo_icmp_ge) (fp_br (fp_lf fo_ild) (fp_lf fo_ald))) (fp_br (fp_lf fo_getf) (fp_br (fp_lf fo_ald) (fp_lf fo_ild)))) (fp_br (fp_br (fp_lf fo_ild) (fp_br (fp_lf fo_ild) (fp_lf fo_irem))) (fp_br (fp_br (fp_lf fo_iadd) (fp_lf fo_ild)) (fp_br (fp_lf fo_ild) (fp_lf fo_ild)))))) (fp_br (fp_br (fp_br (fp_br (fp_lf fo_idiv) (fp_br (fp_lf fo_iadd) (fp_lf (fo_callV (fm_X12_numberOf (f_sub hF (by decide))))))) (fp_br (fp_lf fo_xald) (fp_br (fp_lf fo_iadd) (fp_lf fo_ist)))) (fp_br (fp_br (fp_lf fo_inc) (fp_br (fp_lf fo_goto) (fp_lf fo_ild))) (fp_br (fp_br (fp_lf fo_ild) (fp_lf fo_icmp_lt)) (fp_br (fp_lf fo_goto) (fp_lf fo_ild))))) (fp_br (fp_br (fp_br (fp_lf fo_ist) (fp_br (fp_lf fo_ic) (fp_lf fo_ild))) (fp_br (fp_lf fo_imul) (fp_br (fp_lf fo_ild) (fp_lf fo_iadd)))) (fp_br (fp_br (fp_lf fo_ist) (fp_br (fp_lf fo_inc) (fp_lf fo_goto))) (fp_br (fp_br (fp_lf fo_inc) (fp_lf fo_goto)) (fp_br (fp_lf fo_ild) (fp_lf fo_iret))))))))
set_option maxRecDepth 8000 in
theorem fm_X12_catcher {F : List Nat} (hF : ∀ f, f ∈ F → f ∈ [41, 48, 54]) : FT 404 12 F t_X12_catcher := ft_body (fp_br (fp_br (fp_br (fp_br (fp_br (fp_br (fp_lf fo_ald) (fp_lf fo_ic)) (fp_br (fp_lf (fo_puti (Or.inr (f_no hF (by decide))))) (fp_lf fo_ald))) (fp_br (fp_br (fp_lf fo_ild) (fp_lf (fo_callV (fm_X12_isNight (f_sub hF (by decide)))))) (fp_br (fp_lf fo_if_eq) (fp_lf fo_ald)))) (fp_br (fp_br (fp_br (fp_lf fo_ild) (fp_lf fo_ild)) (fp_br (fp_lf (fo_callV (fm_X12_isCell (f_sub hF (by decide))))) (fp_lf fo_if_ne))) (fp_br (fp_br (fp_lf fo_ic) (fp_lf fo_iret)) (fp_br (fp_lf fo_ald) (fp_br (fp_lf fo_ild) (fp_lf fo_ild)))))) (fp_br (fp_br (fp_br (fp_br (fp_lf (fo_callV (fm_X12_numberOf (f_sub hF (by decide))))) (fp_lf fo_ist)) (fp_br (fp_lf fo_ic) (fp_lf fo_ist))) (fp_br (fp_br (fp_lf fo_ic) (fp_lf fo_ist)) (fp_br (fp_lf fo_ic) (fp_lf fo_ist)))) (fp_br (fp_br (fp_br (fp_lf fo_ild) (fp_lf fo_ald)) (fp_br (fp_lf fo_getf) (fp_lf fo_ic))) (fp_br (fp_br (fp_lf fo_xald) (fp_lf fo_icmp_ge)) (fp_br (fp_lf fo_ald) (fp_br (fp_lf fo_ild) (fp_lf fo_ic))))))) (fp_br (fp_br (fp_br (fp_br (fp_br (fp_lf (fo_callV (fm_X12_start (f_sub hF (by decide))))) (fp_lf fo_ald)) (fp_br (fp_lf fo_getf) (fp_lf fo_ild))) (fp_br (fp_br (fp_lf fo_ild) (fp_lf (fo_iast (by decide)))) (fp_br (fp_lf fo_ic) (fp_lf fo_ist)))) (fp_br (fp_br (fp_br (fp_lf fo_ild) (fp_lf fo_ic)) (fp_br (fp_lf fo_icmp_gt) (fp_lf fo_ald))) (fp_br (fp_br (fp_lf fo_ild) (fp_lf (fo_callV (fm_X12_step (f_sub hF (by decide)))))) (fp_br (fp_lf fo_inc) (fp_br (fp_lf fo_goto) (fp_lf fo_ald)))))) (fp_br (fp_br (fp_br (fp_br (fp_lf fo_getf) (fp_lf fo_ild)) (fp_br (fp_lf fo_xald) (fp_lf fo_ild))) (fp_br (fp_br (fp_lf fo_icmp_gt) (fp_lf fo_goto)) (fp_br (fp_lf fo_ald) (fp_lf fo_getf)))) (fp_br (fp_br (fp_br (fp_lf fo_ild) (fp_lf fo_xald)) (fp_br (fp_lf fo_ist) (fp_lf fo_ild))) (fp_br (fp_br (fp_lf fo_ist) (fp_lf fo_inc)) (fp_br (fp_lf fo_goto) (fp_br (fp_lf fo_ild) (fp_lf fo_iret))))))))
set_option maxRecDepth 8000 in
theorem fm_X12_story {F : List Nat} (hF : ∀ f, f ∈ F → f ∈ [41, 48, 54]) : FT 404 12 F t_X12_story := ft_body (fp_br (fp_br (fp_br (fp_br (fp_br (fp_lf fo_ald) (fp_lf fo_ic)) (fp_br (fp_lf (fo_puti (Or.inr (f_no hF (by decide))))) (fp_lf fo_ald))) (fp_br (fp_br (fp_lf fo_ild) (fp_lf (fo_callV (fm_X12_isNight (f_sub hF (by decide)))))) (fp_br (fp_lf fo_if_eq) (fp_lf fo_ald)))) (fp_br (fp_br (fp_br (fp_lf fo_ild) (fp_lf fo_ild)) (fp_br (fp_lf (fo_callV (fm_X12_isCell (f_sub hF (by decide))))) (fp_lf fo_if_eq))) (fp_br (fp_br (fp_lf fo_ild) (fp_lf (fo_callS (fm_X12_isStep (f_sub hF (by decide)))))) (fp_br (fp_lf fo_if_eq) (fp_br (fp_lf fo_ild) (fp_lf fo_ic)))))) (fp_br (fp_br (fp_br (fp_br (fp_lf fo_ic) (fp_lf (fo_callS (fm_X12_isIn (f_sub hF (by decide)))))) (fp_br (fp_lf fo_if_ne) (fp_lf fo_ic))) (fp_br (fp_br (fp_lf fo_iret) (fp_lf fo_ald)) (fp_br (fp_lf fo_ild) (fp_br (fp_lf fo_ild) (fp_lf fo_ild))))) (fp_br (fp_br (fp_br (fp_lf (fo_callV (fm_X12_through (f_sub hF (by decide))))) (fp_lf fo_ald)) (fp_br (fp_lf fo_getf) (fp_lf fo_ald))) (fp_br (fp_br (fp_lf fo_ild) (fp_lf fo_ild)) (fp_br (fp_lf (fo_callV (fm_X12_numberOf (f_sub hF (by decide))))) (fp_br (fp_lf fo_xald) (fp_lf fo_iret)))))))
set_option maxRecDepth 8000 in
theorem fm_X12_part {F : List Nat} (hF : ∀ f, f ∈ F → f ∈ [41, 48, 54]) : FT 404 12 F t_X12_part := ft_body (fp_br (fp_br (fp_br (fp_br (fp_br (fp_br (fp_lf fo_ald) (fp_lf fo_ic)) (fp_br (fp_lf (fo_puti (Or.inr (f_no hF (by decide))))) (fp_lf fo_ald))) (fp_br (fp_br (fp_lf fo_ild) (fp_lf (fo_callV (fm_X12_isNight (f_sub hF (by decide)))))) (fp_br (fp_lf fo_if_eq) (fp_br (fp_lf fo_ald) (fp_lf fo_ild))))) (fp_br (fp_br (fp_br (fp_lf fo_ild) (fp_lf (fo_callV (fm_X12_isCell (f_sub hF (by decide)))))) (fp_br (fp_lf fo_if_eq) (fp_lf fo_ild))) (fp_br (fp_br (fp_lf fo_ic) (fp_lf fo_ic)) (fp_br (fp_lf (fo_callS (fm_X12_isIn (f_sub hF (by decide))))) (fp_br (fp_lf fo_if_eq) (fp_lf fo_ild)))))) (fp_br (fp_br (fp_br (fp_br (fp_lf fo_ic) (fp_lf fo_ic)) (fp_br (fp_lf (fo_callS (fm_X12_isIn (f_sub hF (by decide))))) (fp_lf fo_if_ne))) (fp_br (fp_br (fp_lf fo_ic) (fp_lf fo_iret)) (fp_br (fp_lf fo_ald) (fp_br (fp_lf fo_ild) (fp_lf fo_ild))))) (fp_br (fp_br (fp_br (fp_lf (fo_callV (fm_X12_numberOf (f_sub hF (by decide))))) (fp_lf fo_ist)) (fp_br (fp_lf fo_ald) (fp_br (fp_lf fo_ild) (fp_lf fo_ild)))) (fp_br (fp_br (fp_lf fo_ild) (fp_lf (fo_callV (fm_X12_timesOf (f_sub hF (by decide)))))) (fp_br (fp_lf fo_ic) (fp_br (fp_lf fo_ist) (fp_lf fo_ild))))))) (fp_br (fp_br (fp_br (fp_br (fp_br (fp_lf fo_ic) (fp_lf fo_icmp_ge)) (fp_br (fp_lf fo_ald) (fp_lf fo_getf))) (fp_br (fp_br (fp_lf fo_ild) (fp_lf fo_ald)) (fp_br (fp_lf fo_getf) (fp_br (fp_lf fo_ild) (fp_lf fo_xald))))) (fp_br (fp_br (fp_br (fp_lf (fo_iast (by decide))) (fp_lf fo_inc)) (fp_br (fp_lf fo_goto) (fp_lf fo_ald))) (fp_br (fp_br (fp_lf fo_ild) (fp_lf fo_ild)) (fp_br (fp_lf fo_ild) (fp_br (fp_lf (fo_callV (fm_X12_timesOf (f_sub hF (by decide))))) (fp_lf fo_ic)))))) (fp_br (fp_br (fp_br (fp_br (fp_lf fo_ist) (fp_lf fo_ild)) (fp_br (fp_lf fo_ic) (fp_lf fo_icmp_ge))) (fp_br (fp_br (fp_lf fo_ald) (fp_lf fo_getf)) (fp_br (fp_lf fo_ild) (fp_br (fp_lf fo_xald) (fp_lf fo_ald))))) (fp_br (fp_br (fp_br (fp_lf fo_getf) (fp_lf fo_ild)) (fp_br (fp_lf fo_xald) (fp_br (fp_lf fo_icmp_eq) (fp_lf fo_ild)))) (fp_br (fp_br (fp_lf fo_iret) (fp_lf fo_inc)) (fp_br (fp_lf fo_goto) (fp_br (fp_lf fo_ic) (fp_lf fo_iret))))))))
set_option maxRecDepth 8000 in
theorem fm_X12_has {F : List Nat} (hF : ∀ f, f ∈ F → f ∈ [41, 48, 54]) : FT 404 12 F t_X12_has := ft_body (fp_br (fp_br (fp_br (fp_lf fo_ild) (fp_lf fo_ild)) (fp_br (fp_lf fo_ishr) (fp_br (fp_lf fo_ic) (fp_lf fo_iand)))) (fp_br (fp_br (fp_lf fo_ic) (fp_br (fp_lf fo_icmp_ne) (fp_lf fo_ic))) (fp_br (fp_lf fo_goto) (fp_br (fp_lf fo_ic) (fp_lf fo_zret)))))
set_option maxRecDepth 8000 in
theorem fm_X12_tries {F : List Nat} (hF : ∀ f, f ∈ F → f ∈ [41, 48, 54]) : FT 404 12 F t_X12_tries := ft_body (fp_br (fp_br (fp_br (fp_br (fp_br (fp_br (fp_br (fp_lf fo_ald) (fp_br (fp_lf fo_ic) (fp_lf (fo_puti (Or.inr (f_no hF (by decide))))))) (fp_br (fp_br (fp_lf fo_ald) (fp_lf fo_ic)) (fp_br (fp_lf (fo_callV (fm_X12_taken (f_sub hF (by decide))))) (fp_lf fo_ald)))) (fp_br (fp_br (fp_lf fo_getf) (fp_br (fp_lf fo_ic) (fp_lf fo_idiv))) (fp_br (fp_br (fp_lf fo_ist) (fp_lf fo_ald)) (fp_br (fp_lf fo_ild) (fp_lf (fo_callV (fm_X12_isNight (f_sub hF (by decide))))))))) (fp_br (fp_br (fp_br (fp_lf fo_if_eq) (fp_br (fp_lf fo_ild) (fp_lf (fo_callS (fm_X12_isStep (f_sub hF (by decide))))))) (fp_br (fp_br (fp_lf fo_if_eq) (fp_lf fo_ald)) (fp_br (fp_lf fo_getf) (fp_lf fo_ic)))) (fp_br (fp_br (fp_br (fp_lf fo_irem) (fp_lf fo_ic)) (fp_br (fp_lf fo_icmp_eq) (fp_lf fo_ild))) (fp_br (fp_br (fp_lf fo_ic) (fp_lf fo_ic)) (fp_br (fp_lf (fo_callS (fm_X12_isIn (f_sub hF (by decide))))) (fp_lf fo_if_ne)))))) (fp_br (fp_br (fp_br (fp_br (fp_lf fo_ic) (fp_br (fp_lf fo_iret) (fp_lf fo_ic))) (fp_br (fp_br (fp_lf fo_ist) (fp_lf fo_ild)) (fp_br (fp_lf fo_ild) (fp_lf fo_icmp_ge)))) (fp_br (fp_br (fp_lf fo_ald) (fp_br (fp_lf fo_ald) (fp_lf fo_ic))) (fp_br (fp_br (fp_lf fo_ild) (fp_lf fo_imul)) (fp_br (fp_lf (fo_callV (fm_X12_octet (f_sub hF (by decide))))) (fp_lf fo_ald))))) (fp_br (fp_br (fp_br (fp_lf fo_ic) (fp_br (fp_lf fo_ild) (fp_lf fo_imul))) (fp_br (fp_br (fp_lf fo_ic) (fp_lf fo_iadd)) (fp_br (fp_lf (fo_callV (fm_X12_octet (f_sub hF (by decide))))) (fp_lf (fo_callV (fm_X12_isCell (f_sub hF (by decide)))))))) (fp_br (fp_br (fp_br (fp_lf fo_if_ne) (fp_lf fo_ic)) (fp_br (fp_lf fo_iret) (fp_lf fo_ald))) (fp_br (fp_br (fp_lf fo_getf) (fp_lf fo_ild)) (fp_br (fp_lf fo_ald) (fp_lf fo_ald))))))) (fp_br (fp_br (fp_br (fp_br (fp_br (fp_lf fo_ic) (fp_br (fp_lf fo_ild) (fp_lf fo_imul))) (fp_br (fp_br (fp_lf (fo_callV (fm_X12_octet (f_sub hF (by decide))))) (fp_lf fo_ald)) (fp_br (fp_lf fo_ic) (fp_lf fo_ild)))) (fp_br (fp_br (fp_lf fo_imul) (fp_br (fp_lf fo_ic) (fp_lf fo_iadd))) (fp_br (fp_br (fp_lf (fo_callV (fm_X12_octet (f_sub hF (by decide))))) (fp_lf (fo_callV (fm_X12_numberOf (f_sub hF (by decide)))))) (fp_br (fp_lf (fo_iast (by decide))) (fp_lf fo_ic))))) (fp_br (fp_br (fp_br (fp_lf fo_ist) (fp_br (fp_lf fo_ild) (fp_lf fo_ild))) (fp_br (fp_br (fp_lf fo_icmp_ge) (fp_lf fo_ald)) (fp_br (fp_lf fo_getf) (fp_lf fo_ild)))) (fp_br (fp_br (fp_br (fp_lf fo_xald) (fp_lf fo_ald)) (fp_br (fp_lf fo_getf) (fp_lf fo_ild))) (fp_br (fp_br (fp_lf fo_xald) (fp_lf fo_icmp_ne)) (fp_br (fp_lf fo_ic) (fp_lf fo_iret)))))) (fp_br (fp_br (fp_br (fp_br (fp_lf fo_inc) (fp_br (fp_lf fo_goto) (fp_lf fo_inc))) (fp_br (fp_br (fp_lf fo_goto) (fp_lf fo_ic)) (fp_br (fp_lf fo_ist) (fp_lf fo_ild)))) (fp_br (fp_br (fp_lf fo_ic) (fp_br (fp_lf fo_icmp_ge) (fp_lf fo_ald))) (fp_br (fp_br (fp_lf fo_ild) (fp_lf fo_ild)) (fp_br (fp_lf fo_ild) (fp_lf (fo_callV (fm_X12_through (f_sub hF (by decide))))))))) (fp_br (fp_br (fp_br (fp_lf fo_ic) (fp_br (fp_lf fo_ist) (fp_lf fo_ild))) (fp_br (fp_br (fp_lf fo_ild) (fp_lf fo_icmp_ge)) (fp_br (fp_lf fo_ald) (fp_lf fo_getf)))) (fp_br (fp_br (fp_br (fp_lf fo_ic) (fp_lf fo_ild)) (fp_br (fp_lf fo_imul) (fp_lf fo_ild))) (fp_br (fp_br (fp_lf fo_iadd) (fp_lf fo_ald)) (fp_br (fp_lf fo_getf) (fp_lf fo_ald)))))))) (fp_br (fp_br (fp_br (fp_br (fp_br (fp_br (fp_lf fo_getf) (fp_br (fp_lf fo_ild) (fp_lf fo_xald))) (fp_br (fp_br (fp_lf fo_xald) (fp_lf (fo_iast (by decide)))) (fp_br (fp_lf fo_inc) (fp_lf fo_goto)))) (fp_br (fp_br (fp_lf fo_inc) (fp_br (fp_lf fo_goto) (fp_lf fo_ic))) (fp_br (fp_br (fp_lf fo_ist) (fp_lf fo_ild)) (fp_br (fp_lf fo_ild) (fp_lf fo_icmp_ge))))) (fp_br (fp_br (fp_br (fp_lf fo_ald) (fp_br (fp_lf fo_getf) (fp_lf fo_ild))) (fp_br (fp_br (fp_lf fo_ald) (fp_lf fo_getf)) (fp_br (fp_lf fo_ild) (fp_lf fo_xald)))) (fp_br (fp_br (fp_br (fp_lf fo_ald) (fp_lf fo_getf)) (fp_br (fp_lf fo_ic) (fp_lf fo_ild))) (fp_br (fp_br (fp_lf fo_iadd) (fp_lf fo_xald)) (fp_br (fp_lf fo_icmp_eq) (fp_lf fo_ic)))))) (fp_br (fp_br (fp_br (fp_br (fp_lf fo_goto) (fp_br (fp_lf fo_ic) (fp_lf fo_ald))) (fp_br (fp_br (fp_lf fo_getf) (fp_lf fo_ild)) (fp_br (fp_lf fo_xald) (fp_lf fo_ald)))) (fp_br (fp_br (fp_lf fo_getf) (fp_br (fp_lf fo_ic) (fp_lf fo_ild))) (fp_br (fp_br (fp_lf fo_iadd) (fp_lf fo_xald)) (fp_br (fp_lf fo_icmp_eq) (fp_lf fo_ic))))) (fp_br (fp_br (fp_br (fp_lf fo_goto) (fp_br (fp_lf fo_ic) (fp_lf fo_ior))) (fp_br (fp_br (fp_lf fo_ald) (fp_lf fo_getf)) (fp_br (fp_lf fo_ic) (fp_lf fo_ild)))) (fp_br (fp_br (fp_br (fp_lf fo_iadd) (fp_lf fo_xald)) (fp_br (fp_lf fo_ald) (fp_lf fo_getf))) (fp_br (fp_br (fp_lf fo_ic) (fp_lf fo_ild)) (fp_br (fp_lf fo_iadd) (fp_lf fo_xald))))))) (fp_br (fp_br (fp_br (fp_br (fp_br (fp_lf fo_icmp_eq) (fp_br (fp_lf fo_ic) (fp_lf fo_goto))) (fp_br (fp_br (fp_lf fo_ic) (fp_lf fo_ior)) (fp_br (fp_lf (fo_iast (by decide))) (fp_lf fo_inc)))) (fp_br (fp_br (fp_lf fo_goto) (fp_br (fp_lf fo_ic) (fp_lf fo_ist))) (fp_br (fp_br (fp_lf fo_ic) (fp_lf fo_ist)) (fp_br (fp_lf fo_ic) (fp_lf fo_ist))))) (fp_br (fp_br (fp_br (fp_lf fo_ild) (fp_br (fp_lf fo_ic) (fp_lf fo_ild))) (fp_br (fp_br (fp_lf fo_ishl) (fp_lf fo_icmp_ge)) (fp_br (fp_lf fo_ic) (fp_lf fo_ist)))) (fp_br (fp_br (fp_br (fp_lf fo_ic) (fp_lf fo_ist)) (fp_br (fp_lf fo_ic) (fp_lf fo_ist))) (fp_br (fp_br (fp_lf fo_ild) (fp_lf fo_ild)) (fp_br (fp_lf fo_icmp_ge) (fp_lf fo_ild)))))) (fp_br (fp_br (fp_br (fp_br (fp_lf fo_ild) (fp_br (fp_lf (fo_callS (fm_X12_has (f_sub hF (by decide))))) (fp_lf fo_if_ne))) (fp_br (fp_br (fp_lf fo_goto) (fp_lf fo_ild)) (fp_br (fp_lf fo_ald) (fp_lf fo_getf)))) (fp_br (fp_br (fp_lf fo_ild) (fp_br (fp_lf fo_xald) (fp_lf fo_ior))) (fp_br (fp_br (fp_lf fo_ist) (fp_lf fo_inc)) (fp_br (fp_lf fo_inc) (fp_lf fo_goto))))) (fp_br (fp_br (fp_br (fp_lf fo_ild) (fp_br (fp_lf fo_ic) (fp_lf fo_icmp_ne))) (fp_br (fp_br (fp_lf fo_ild) (fp_lf fo_ild)) (fp_br (fp_lf fo_icmp_lt) (fp_lf fo_goto)))) (fp_br (fp_br (fp_br (fp_lf fo_ild) (fp_lf fo_ist)) (fp_br (fp_lf fo_ild) (fp_lf fo_ist))) (fp_br (fp_br (fp_lf fo_inc) (fp_lf fo_goto)) (fp_br (fp_lf fo_ild) (fp_lf fo_iret)))))))))
set_option maxRecDepth 8000 in
theorem fm_X12_hay {F : List Nat} (hF : ∀ f, f ∈ F → f ∈ [41, 48, 54]) : FT 404 12 F t_X12_hay := ft_body (fp_br (fp_br (fp_br (fp_br (fp_br (fp_lf fo_ald) (fp_br (fp_lf fo_ic) (fp_lf (fo_puti (Or.inr (f_no hF (by decide))))))) (fp_br (fp_br (fp_lf fo_ald) (fp_lf fo_ild)) (fp_br (fp_lf (fo_callV (fm_X12_isNight (f_sub hF (by decide))))) (fp_lf fo_if_eq)))) (fp_br (fp_br (fp_br (fp_lf fo_ild) (fp_lf fo_ic)) (fp_br (fp_lf fo_ic) (fp_lf (fo_callS (fm_X12_isIn (f_sub hF (by decide))))))) (fp_br (fp_br (fp_lf fo_if_ne) (fp_lf fo_ic)) (fp_br (fp_lf fo_iret) (fp_lf fo_ald))))) (fp_br (fp_br (fp_br (fp_lf fo_ild) (fp_br (fp_lf fo_ic) (fp_lf (fo_callV (fm_X12_start (f_sub hF (by decide))))))) (fp_br (fp_br (fp_lf fo_ic) (fp_lf fo_ist)) (fp_br (fp_lf fo_ild) (fp_lf fo_ic)))) (fp_br (fp_br (fp_br (fp_lf fo_icmp_ge) (fp_lf fo_ald)) (fp_br (fp_lf fo_ild) (fp_lf (fo_callV (fm_X12_step (f_sub hF (by decide))))))) (fp_br (fp_br (fp_lf fo_ild) (fp_lf fo_ic)) (fp_br (fp_lf fo_icmp_le) (fp_lf fo_ic)))))) (fp_br (fp_br (fp_br (fp_br (fp_lf fo_goto) (fp_br (fp_lf fo_ic) (fp_lf fo_ist))) (fp_br (fp_br (fp_lf fo_ic) (fp_lf fo_ist)) (fp_br (fp_lf fo_ild) (fp_lf fo_ald)))) (fp_br (fp_br (fp_br (fp_lf (fo_callV (fm_X12_cells (f_sub hF (by decide))))) (fp_lf fo_icmp_ge)) (fp_br (fp_lf fo_ild) (fp_lf fo_if_eq))) (fp_br (fp_br (fp_lf fo_ald) (fp_lf fo_getf)) (fp_br (fp_lf fo_ild) (fp_lf fo_xald))))) (fp_br (fp_br (fp_br (fp_br (fp_lf fo_ild) (fp_lf fo_icmp_gt)) (fp_br (fp_lf fo_ic) (fp_lf fo_goto))) (fp_br (fp_br (fp_lf fo_ic) (fp_lf fo_ist)) (fp_br (fp_lf fo_inc) (fp_lf fo_goto)))) (fp_br (fp_br (fp_br (fp_lf fo_ild) (fp_lf fo_if_eq)) (fp_br (fp_lf fo_ild) (fp_lf fo_iret))) (fp_br (fp_br (fp_lf fo_inc) (fp_lf fo_goto)) (fp_br (fp_lf fo_ic) (fp_lf fo_iret)))))))
set_option maxRecDepth 8000 in
theorem fm_X12_draw {F : List Nat} (hF : ∀ f, f ∈ F → f ∈ [41, 48, 54]) : FT 404 12 F t_X12_draw := ft_body (fp_br (fp_br (fp_br (fp_lf fo_ald) (fp_br (fp_lf fo_ald) (fp_lf fo_getf))) (fp_br (fp_br (fp_lf fo_ic) (fp_lf fo_imul)) (fp_br (fp_lf fo_ic) (fp_lf fo_iadd)))) (fp_br (fp_br (fp_br (fp_lf (fo_puti (Or.inr (f_no hF (by decide))))) (fp_lf fo_ald)) (fp_br (fp_lf fo_getf) (fp_lf fo_ic))) (fp_br (fp_br (fp_lf fo_iushr) (fp_lf fo_ild)) (fp_br (fp_lf fo_irem) (fp_lf fo_iret)))))
set_option maxRecDepth 8000 in
theorem fm_X12_drawn {F : List Nat} (hF : ∀ f, f ∈ F → f ∈ [41, 48]) : FT 404 12 F t_X12_drawn := ft_body (fp_br (fp_br (fp_br (fp_br (fp_br (fp_br (fp_br (fp_lf fo_ald) (fp_lf fo_ic)) (fp_br (fp_lf (fo_puti (Or.inr (f_no hF (by decide))))) (fp_lf fo_ald))) (fp_br (fp_br (fp_lf fo_ild) (fp_lf (fo_callV (fm_X12_isNight (f_sub hF (by decide)))))) (fp_br (fp_lf fo_if_eq) (fp_lf fo_ald)))) (fp_br (fp_br (fp_br (fp_lf fo_ild) (fp_lf fo_ild)) (fp_br (fp_lf (fo_callV (fm_X12_isCell (f_sub hF (by decide))))) (fp_lf fo_if_eq))) (fp_br (fp_br (fp_lf fo_ild) (fp_lf fo_ic)) (fp_br (fp_lf fo_ic) (fp_lf (fo_callS (fm_X12_isIn (f_sub hF (by decide))))))))) (fp_br (fp_br (fp_br (fp_br (fp_lf fo_if_ne) (fp_lf fo_ic)) (fp_br (fp_lf fo_iret) (fp_lf fo_ald))) (fp_br (fp_br (fp_lf fo_ild) (fp_lf (fo_puti (Or.inr (f_no hF (by decide)))))) (fp_br (fp_lf fo_ic) (fp_lf fo_ist)))) (fp_br (fp_br (fp_br (fp_lf fo_ald) (fp_lf fo_getf)) (fp_br (fp_lf fo_ic) (fp_lf fo_ic))) (fp_br (fp_br (fp_lf (fo_iast (by decide))) (fp_lf fo_ald)) (fp_br (fp_lf fo_getf) (fp_br (fp_lf fo_ic) (fp_lf fo_ic))))))) (fp_br (fp_br (fp_br (fp_br (fp_br (fp_lf (fo_iast (by decide))) (fp_lf fo_ald)) (fp_br (fp_lf fo_getf) (fp_lf fo_ic))) (fp_br (fp_br (fp_lf fo_ic) (fp_lf (fo_iast (by decide)))) (fp_br (fp_lf fo_ald) (fp_lf fo_ic)))) (fp_br (fp_br (fp_br (fp_lf (fo_puti (Or.inr (f_no hF (by decide))))) (fp_lf fo_ic)) (fp_br (fp_lf fo_ist) (fp_lf fo_ild))) (fp_br (fp_br (fp_lf fo_ild) (fp_lf fo_icmp_ge)) (fp_br (fp_lf fo_ald) (fp_br (fp_lf fo_ild) (fp_lf fo_ic)))))) (fp_br (fp_br (fp_br (fp_br (fp_lf (fo_callV (fm_X12_start (f_sub hF (by decide))))) (fp_lf fo_ic)) (fp_br (fp_lf fo_ist) (fp_lf fo_ild))) (fp_br (fp_br (fp_lf fo_ic) (fp_lf fo_icmp_ge)) (fp_br (fp_lf fo_ald) (fp_lf fo_ic)))) (fp_br (fp_br (fp_br (fp_lf (fo_callV (fm_X12_draw (f_sub hF (by decide))))) (fp_lf fo_if_ne)) (fp_br (fp_lf fo_ald) (fp_lf fo_ild))) (fp_br (fp_br (fp_lf (fo_callV (fm_X12_clouds (f_sub hF (by decide))))) (fp_lf fo_inc)) (fp_br (fp_lf fo_goto) (fp_br (fp_lf fo_ic) (fp_lf fo_ist)))))))) (fp_br (fp_br (fp_br (fp_br (fp_br (fp_br (fp_lf fo_ild) (fp_lf fo_ic)) (fp_br (fp_lf fo_icmp_gt) (fp_lf fo_ald))) (fp_br (fp_br (fp_lf fo_ild) (fp_lf (fo_callV (fm_X12_step (f_sub hF (by decide)))))) (fp_br (fp_lf fo_inc) (fp_lf fo_goto)))) (fp_br (fp_br (fp_br (fp_lf fo_ald) (fp_lf fo_getf)) (fp_br (fp_lf fo_ald) (fp_lf fo_ild))) (fp_br (fp_br (fp_lf fo_ild) (fp_lf (fo_callV (fm_X12_numberOf (f_sub hF (by decide)))))) (fp_br (fp_lf fo_xald) (fp_br (fp_lf fo_ist) (fp_lf fo_ild)))))) (fp_br (fp_br (fp_br (fp_br (fp_lf fo_ild) (fp_lf fo_iadd)) (fp_br (fp_lf fo_ist) (fp_lf fo_ald))) (fp_br (fp_br (fp_lf fo_getf) (fp_lf fo_ic)) (fp_br (fp_lf fo_ild) (fp_lf fo_ald)))) (fp_br (fp_br (fp_br (fp_lf fo_getf) (fp_lf fo_ic)) (fp_br (fp_lf fo_xald) (fp_lf fo_icmp_ge))) (fp_br (fp_br (fp_lf fo_ild) (fp_lf fo_goto)) (fp_br (fp_lf fo_ald) (fp_br (fp_lf fo_getf) (fp_lf fo_ic))))))) (fp_br (fp_br (fp_br (fp_br (fp_br (fp_lf fo_xald) (fp_lf (fo_iast (by decide)))) (fp_br (fp_lf fo_ald) (fp_lf fo_getf))) (fp_br (fp_br (fp_lf fo_ic) (fp_lf fo_ild)) (fp_br (fp_lf fo_ald) (fp_lf fo_getf)))) (fp_br (fp_br (fp_br (fp_lf fo_ic) (fp_lf fo_xald)) (fp_br (fp_lf fo_icmp_le) (fp_lf fo_ild))) (fp_br (fp_br (fp_lf fo_goto) (fp_lf fo_ald)) (fp_br (fp_lf fo_getf) (fp_br (fp_lf fo_ic) (fp_lf fo_xald)))))) (fp_br (fp_br (fp_br (fp_br (fp_lf (fo_iast (by decide))) (fp_lf fo_ald)) (fp_br (fp_lf fo_getf) (fp_lf fo_ic))) (fp_br (fp_br (fp_lf fo_dup2) (fp_lf fo_xald)) (fp_br (fp_lf fo_ild) (fp_lf fo_if_le)))) (fp_br (fp_br (fp_br (fp_lf fo_ic) (fp_lf fo_goto)) (fp_br (fp_lf fo_ic) (fp_lf fo_iadd))) (fp_br (fp_br (fp_lf (fo_iast (by decide))) (fp_lf fo_inc)) (fp_br (fp_lf fo_goto) (fp_br (fp_lf fo_ild) (fp_lf fo_iret)))))))))
set_option maxRecDepth 8000 in
theorem fm_X12_drawnBy {F : List Nat} (hF : ∀ f, f ∈ F → f ∈ [41, 48, 54]) : FT 404 12 F t_X12_drawnBy := ft_body (fp_br (fp_br (fp_br (fp_br (fp_lf fo_ald) (fp_lf fo_ic)) (fp_br (fp_lf (fo_puti (Or.inr (f_no hF (by decide))))) (fp_lf fo_ald))) (fp_br (fp_br (fp_lf fo_getf) (fp_lf fo_if_eq)) (fp_br (fp_lf fo_ild) (fp_br (fp_lf fo_ic) (fp_lf fo_ic))))) (fp_br (fp_br (fp_br (fp_lf (fo_callS (fm_X12_isIn (f_sub hF (by decide))))) (fp_lf fo_if_eq)) (fp_br (fp_lf fo_ald) (fp_lf fo_getf))) (fp_br (fp_br (fp_lf fo_ild) (fp_lf fo_xald)) (fp_br (fp_lf fo_goto) (fp_br (fp_lf fo_ic) (fp_lf fo_iret))))))
set_option maxRecDepth 8000 in
theorem fm_X12_image {F : List Nat} (hF : ∀ f, f ∈ F → f ∈ [41, 48, 54]) : FT 404 12 F t_X12_image := ft_body (fp_br (fp_br (fp_br (fp_br (fp_br (fp_lf fo_ald) (fp_lf fo_ic)) (fp_br (fp_lf (fo_puti (Or.inr (f_no hF (by decide))))) (fp_lf fo_ild))) (fp_br (fp_br (fp_lf fo_ic) (fp_lf fo_ic)) (fp_br (fp_lf (fo_callS (fm_X12_isIn (f_sub hF (by decide))))) (fp_br (fp_lf fo_if_ne) (fp_lf fo_ic))))) (fp_br (fp_br (fp_br (fp_lf fo_zret) (fp_lf fo_ic)) (fp_br (fp_lf fo_ist) (fp_lf fo_ild))) (fp_br (fp_br (fp_lf fo_ic) (fp_lf fo_icmp_ge)) (fp_br (fp_lf fo_ald) (fp_br (fp_lf fo_getf) (fp_lf fo_ic)))))) (fp_br (fp_br (fp_br (fp_br (fp_lf fo_ild) (fp_lf fo_imul)) (fp_br (fp_lf fo_ild) (fp_lf fo_iadd))) (fp_br (fp_br (fp_lf fo_ald) (fp_lf fo_getf)) (fp_br (fp_lf fo_ild) (fp_br (fp_lf fo_xald) (fp_lf (fo_iast (by decide))))))) (fp_br (fp_br (fp_br (fp_lf fo_inc) (fp_lf fo_goto)) (fp_br (fp_lf fo_ald) (fp_lf fo_getf))) (fp_br (fp_br (fp_lf fo_ild) (fp_lf fo_ic)) (fp_br (fp_lf (fo_iast (by decide))) (fp_br (fp_lf fo_ic) (fp_lf fo_zret)))))))
set_option maxRecDepth 8000 in
theorem fm_X12_restore {F : List Nat} (hF : ∀ f, f ∈ F → f ∈ [41, 48, 54]) : FT 404 12 F t_X12_restore := ft_body (fp_br (fp_br (fp_br (fp_br (fp_br (fp_lf fo_ald) (fp_lf fo_ic)) (fp_br (fp_lf (fo_puti (Or.inr (f_no hF (by decide))))) (fp_lf fo_ild))) (fp_br (fp_br (fp_lf fo_ic) (fp_lf fo_ic)) (fp_br (fp_lf (fo_callS (fm_X12_isIn (f_sub hF (by decide))))) (fp_br (fp_lf fo_if_eq) (fp_lf fo_ald))))) (fp_br (fp_br (fp_br (fp_lf fo_getf) (fp_lf fo_ild)) (fp_br (fp_lf fo_xald) (fp_lf fo_if_ne))) (fp_br (fp_br (fp_lf fo_ic) (fp_lf fo_zret)) (fp_br (fp_lf fo_ic) (fp_br (fp_lf fo_ist) (fp_lf fo_ild)))))) (fp_br (fp_br (fp_br (fp_br (fp_lf fo_ic) (fp_lf fo_icmp_ge)) (fp_br (fp_lf fo_ald) (fp_lf fo_getf))) (fp_br (fp_br (fp_lf fo_ild) (fp_lf fo_ald)) (fp_br (fp_lf fo_getf) (fp_br (fp_lf fo_ic) (fp_lf fo_ild))))) (fp_br (fp_br (fp_br (fp_lf fo_imul) (fp_lf fo_ild)) (fp_br (fp_lf fo_iadd) (fp_lf fo_xald))) (fp_br (fp_br (fp_lf (fo_iast (by decide))) (fp_lf fo_inc)) (fp_br (fp_lf fo_goto) (fp_br (fp_lf fo_ic) (fp_lf fo_zret)))))))
set_option maxRecDepth 8000 in
theorem fm_X12_count {F : List Nat} (hF : ∀ f, f ∈ F → f ∈ [41, 48, 54]) : FT 404 12 F t_X12_count := ft_body (fp_br (fp_br (fp_br (fp_br (fp_br (fp_lf fo_ald) (fp_br (fp_lf fo_ic) (fp_lf (fo_puti (Or.inr (f_no hF (by decide))))))) (fp_br (fp_lf fo_ic) (fp_br (fp_lf fo_ist) (fp_lf fo_ic)))) (fp_br (fp_br (fp_lf fo_ist) (fp_br (fp_lf fo_ild) (fp_lf fo_ic))) (fp_br (fp_lf fo_icmp_ge) (fp_br (fp_lf fo_ild) (fp_lf fo_ald))))) (fp_br (fp_br (fp_br (fp_lf fo_ild) (fp_br (fp_lf (fo_callV (fm_X12_isNight (f_sub hF (by decide))))) (fp_lf fo_if_eq))) (fp_br (fp_lf fo_ic) (fp_br (fp_lf fo_ild) (fp_lf fo_ishl)))) (fp_br (fp_br (fp_lf fo_goto) (fp_br (fp_lf fo_ic) (fp_lf fo_ior))) (fp_br (fp_lf fo_ist) (fp_br (fp_lf fo_inc) (fp_lf fo_goto)))))) (fp_br (fp_br (fp_br (fp_br (fp_lf fo_ild) (fp_br (fp_lf fo_tab) (fp_lf fo_ild))) (fp_br (fp_lf fo_iret) (fp_br (fp_lf fo_ald) (fp_lf fo_getf)))) (fp_br (fp_br (fp_lf fo_iret) (fp_br (fp_lf fo_ald) (fp_lf fo_getf))) (fp_br (fp_lf fo_ic) (fp_br (fp_lf fo_xald) (fp_lf fo_iret))))) (fp_br (fp_br (fp_br (fp_lf fo_ild) (fp_br (fp_lf fo_ic) (fp_lf fo_ic))) (fp_br (fp_lf (fo_callS (fm_X12_isIn (f_sub hF (by decide))))) (fp_br (fp_lf fo_if_eq) (fp_lf fo_ald)))) (fp_br (fp_br (fp_lf fo_getf) (fp_br (fp_lf fo_ild) (fp_lf fo_xald))) (fp_br (fp_lf fo_goto) (fp_br (fp_lf fo_ic) (fp_lf fo_iret)))))))
set_option maxRecDepth 8000 in
theorem fc_X2_copyFrom {F : List Nat} (hF : ∀ f, f ∈ F → f ∈ [13, 14, 15, 17]) : FT 0 11 F t_X2_copyFrom := ft_body (fp_br (fp_br (fp_br (fp_br (fp_lf fo_ald) (fp_br (fp_lf fo_ald) (fp_lf fo_getf))) (fp_br (fp_lf (fo_puti (Or.inl (by decide)))) (fp_br (fp_lf fo_ic) (fp_lf fo_ist)))) (fp_br (fp_br (fp_lf fo_ild) (fp_br (fp_lf fo_ic) (fp_lf fo_icmp_ge))) (fp_br (fp_lf fo_ald) (fp_br (fp_lf fo_getf) (fp_lf fo_ild))))) (fp_br (fp_br (fp_br (fp_lf fo_xald) (fp_br (fp_lf fo_ic) (fp_lf fo_ald))) (fp_br (fp_lf fo_getf) (fp_br (fp_lf fo_ild) (fp_lf fo_xald)))) (fp_br (fp_br (fp_lf fo_ic) (fp_br (fp_lf fo_ic) (fp_lf (fo_copy (by decide))))) (fp_br (fp_lf fo_inc) (fp_br (fp_lf fo_goto) (fp_lf fo_vret))))))
set_option maxRecDepth 8000 in
theorem fc_X7_copyFrom {F : List Nat} (hF : ∀ f, f ∈ F → f ∈ [13, 14, 15, 17]) : FT 0 11 F t_X7_copyFrom := ft_body (fp_br (fp_br (fp_br (fp_br (fp_br (fp_br (fp_lf fo_ald) (fp_lf fo_ald)) (fp_br (fp_lf fo_getf) (fp_br (fp_lf (fo_puti (Or.inl (by decide)))) (fp_lf fo_ald)))) (fp_br (fp_br (fp_lf fo_ald) (fp_br (fp_lf fo_getf) (fp_lf (fo_puti (Or.inl (by decide)))))) (fp_br (fp_lf fo_ald) (fp_br (fp_lf fo_ald) (fp_lf fo_getf))))) (fp_br (fp_br (fp_br (fp_lf (fo_puti (Or.inl (by decide)))) (fp_lf fo_ald)) (fp_br (fp_lf fo_ald) (fp_br (fp_lf fo_getf) (fp_lf (fo_puti (Or.inl (by decide))))))) (fp_br (fp_br (fp_lf fo_ald) (fp_br (fp_lf fo_ald) (fp_lf fo_getf))) (fp_br (fp_lf (fo_puti (Or.inl (by decide)))) (fp_br (fp_lf fo_ald) (fp_lf fo_ald)))))) (fp_br (fp_br (fp_br (fp_br (fp_lf fo_getf) (fp_lf (fo_puti (Or.inl (by decide))))) (fp_br (fp_lf fo_ald) (fp_br (fp_lf fo_ald) (fp_lf fo_getf)))) (fp_br (fp_br (fp_lf (fo_puti (Or.inl (by decide)))) (fp_br (fp_lf fo_ald) (fp_lf fo_getf))) (fp_br (fp_lf fo_ald) (fp_br (fp_lf fo_getf) (fp_lf (fo_callV (fc_X2_copyFrom (f_sub hF (by decide))))))))) (fp_br (fp_br (fp_br (fp_lf fo_ald) (fp_br (fp_lf fo_getf) (fp_lf fo_ic))) (fp_br (fp_lf fo_ald) (fp_br (fp_lf fo_getf) (fp_lf fo_ic)))) (fp_br (fp_br (fp_lf fo_ic) (fp_br (fp_lf (fo_copy (by decide))) (fp_lf fo_ald))) (fp_br (fp_lf fo_getf) (fp_br (fp_lf fo_ic) (fp_lf fo_ald))))))) (fp_br (fp_br (fp_br (fp_br (fp_br (fp_lf fo_getf) (fp_lf fo_ic)) (fp_br (fp_lf fo_ic) (fp_br (fp_lf (fo_copy (by decide))) (fp_lf fo_ald)))) (fp_br (fp_br (fp_lf fo_getf) (fp_br (fp_lf fo_ic) (fp_lf fo_ald))) (fp_br (fp_lf fo_getf) (fp_br (fp_lf fo_ic) (fp_lf fo_ic))))) (fp_br (fp_br (fp_br (fp_lf (fo_copy (by decide))) (fp_lf fo_ald)) (fp_br (fp_lf fo_getf) (fp_br (fp_lf fo_ic) (fp_lf fo_ald)))) (fp_br (fp_br (fp_lf fo_getf) (fp_br (fp_lf fo_ic) (fp_lf fo_ic))) (fp_br (fp_lf (fo_copy (by decide))) (fp_br (fp_lf fo_ald) (fp_lf fo_getf)))))) (fp_br (fp_br (fp_br (fp_br (fp_lf fo_ic) (fp_lf fo_ald)) (fp_br (fp_lf fo_getf) (fp_br (fp_lf fo_ic) (fp_lf fo_ic)))) (fp_br (fp_br (fp_lf (fo_copy (by decide))) (fp_br (fp_lf fo_ald) (fp_lf fo_getf))) (fp_br (fp_lf fo_ic) (fp_br (fp_lf fo_ald) (fp_lf fo_getf))))) (fp_br (fp_br (fp_br (fp_lf fo_ic) (fp_br (fp_lf fo_ic) (fp_lf (fo_copy (by decide))))) (fp_br (fp_lf fo_ald) (fp_br (fp_lf fo_getf) (fp_lf fo_ic)))) (fp_br (fp_br (fp_lf fo_ald) (fp_br (fp_lf fo_getf) (fp_lf fo_ic))) (fp_br (fp_lf fo_ic) (fp_br (fp_lf (fo_copy (by decide))) (fp_lf fo_vret))))))))
set_option maxRecDepth 8000 in
theorem fc_X5_tell {F : List Nat} (hF : ∀ f, f ∈ F → f ∈ [13, 14, 15, 17]) : FT 0 11 F t_X5_tell := ft_body (fp_br (fp_br (fp_br (fp_br (fp_lf fo_ild) (fp_lf fo_if_lt)) (fp_br (fp_lf fo_ild) (fp_lf fo_ic))) (fp_br (fp_br (fp_lf fo_icmp_ge) (fp_lf fo_ild)) (fp_br (fp_lf fo_if_lt) (fp_br (fp_lf fo_ild) (fp_lf fo_ic))))) (fp_br (fp_br (fp_br (fp_lf fo_icmp_ge) (fp_lf fo_ald)) (fp_br (fp_lf fo_getf) (fp_br (fp_lf fo_ild) (fp_lf fo_xald)))) (fp_br (fp_br (fp_lf fo_ild) (fp_lf fo_xald)) (fp_br (fp_lf fo_goto) (fp_br (fp_lf fo_ic) (fp_lf fo_iret))))))
set_option maxRecDepth 8000 in
theorem fc_X11_isStep {F : List Nat} (hF : ∀ f, f ∈ F → f ∈ [13, 14, 15, 17]) : FT 0 11 F t_X11_isStep := ft_body (fp_br (fp_br (fp_br (fp_lf fo_ild) (fp_lf fo_if_lt)) (fp_br (fp_lf fo_ild) (fp_lf fo_ic))) (fp_br (fp_br (fp_lf fo_icmp_ge) (fp_lf fo_ic)) (fp_br (fp_lf fo_goto) (fp_br (fp_lf fo_ic) (fp_lf fo_zret)))))
set_option maxRecDepth 8000 in
theorem fc_X2_tell {F : List Nat} (hF : ∀ f, f ∈ F → f ∈ [13, 14, 15, 17]) : FT 0 11 F t_X2_tell := ft_body (fp_br (fp_br (fp_br (fp_br (fp_lf fo_ild) (fp_lf fo_if_lt)) (fp_br (fp_lf fo_ild) (fp_lf fo_ic))) (fp_br (fp_br (fp_lf fo_icmp_ge) (fp_lf fo_ild)) (fp_br (fp_lf (fo_callS (fc_X11_isStep (f_sub hF (by decide))))) (fp_lf fo_if_eq)))) (fp_br (fp_br (fp_br (fp_lf fo_ald) (fp_lf fo_getf)) (fp_br (fp_lf fo_ild) (fp_lf fo_xald))) (fp_br (fp_br (fp_lf fo_ild) (fp_lf fo_xald)) (fp_br (fp_lf fo_goto) (fp_br (fp_lf fo_ic) (fp_lf fo_iret))))))
set_option maxRecDepth 8000 in
theorem fc_X7_warmer {F : List Nat} (hF : ∀ f, f ∈ F → f ∈ [13, 14, 15, 17]) : FT 0 11 F t_X7_warmer := ft_body (fp_br (fp_br (fp_br (fp_br (fp_br (fp_lf fo_ic) (fp_br (fp_lf fo_ald) (fp_lf fo_getf))) (fp_br (fp_lf fo_ild) (fp_br (fp_lf fo_xald) (fp_lf fo_max)))) (fp_br (fp_br (fp_lf fo_ist) (fp_br (fp_lf fo_ild) (fp_lf fo_ald))) (fp_br (fp_lf fo_getf) (fp_br (fp_lf fo_ild) (fp_lf fo_xald))))) (fp_br (fp_br (fp_br (fp_lf fo_isub) (fp_br (fp_lf fo_ild) (fp_lf fo_ic))) (fp_br (fp_lf fo_iadd) (fp_br (fp_lf fo_imul) (fp_lf fo_ild)))) (fp_br (fp_br (fp_lf fo_ic) (fp_br (fp_lf fo_iadd) (fp_lf fo_idiv))) (fp_br (fp_lf fo_ild) (fp_br (fp_lf fo_ic) (fp_lf fo_imul)))))) (fp_br (fp_br (fp_br (fp_br (fp_lf fo_ald) (fp_br (fp_lf fo_getf) (fp_lf fo_ild))) (fp_br (fp_lf fo_xald) (fp_br (fp_lf fo_imul) (fp_lf fo_ild)))) (fp_br (fp_br (fp_lf fo_idiv) (fp_br (fp_lf fo_iadd) (fp_lf fo_ald))) (fp_br (fp_lf fo_getf) (fp_br (fp_lf fo_ild) (fp_lf fo_xald))))) (fp_br (fp_br (fp_br (fp_lf fo_ild) (fp_br (fp_lf fo_imul) (fp_lf fo_ald))) (fp_br (fp_lf fo_getf) (fp_br (fp_lf fo_ild) (fp_lf fo_xald)))) (fp_br (fp_br (fp_lf fo_imul) (fp_br (fp_lf fo_ic) (fp_lf fo_ild))) (fp_br (fp_br (fp_lf fo_imul) (fp_lf fo_idiv)) (fp_br (fp_lf fo_isub) (fp_lf fo_iret)))))))
set_option maxRecDepth 8000 in
theorem fc_X7_comeOn {F : List Nat} (hF : ∀ f, f ∈ F → f ∈ [13, 14, 15, 17]) : FT 0 11 F t_X7_comeOn := ft_body (fp_br (fp_br (fp_br (fp_br (fp_br (fp_lf fo_ild) (fp_br (fp_lf fo_ic) (fp_lf fo_icmp_ge))) (fp_br (fp_lf fo_ald) (fp_br (fp_lf fo_getf) (fp_lf fo_ic)))) (fp_br (fp_br (fp_lf fo_icmp_eq) (fp_br (fp_lf fo_ald) (fp_lf fo_getf))) (fp_br (fp_br (fp_lf fo_ild) (fp_lf fo_ic)) (fp_br (fp_lf fo_idiv) (fp_lf fo_ic))))) (fp_br (fp_br (fp_br (fp_lf fo_iadd) (fp_br (fp_lf fo_min) (fp_lf fo_ist))) (fp_br (fp_br (fp_lf fo_ald) (fp_lf fo_dup)) (fp_br (fp_lf fo_getf) (fp_lf fo_ild)))) (fp_br (fp_br (fp_lf fo_isub) (fp_br (fp_lf (fo_puti (Or.inl (by decide)))) (fp_lf fo_ald))) (fp_br (fp_br (fp_lf fo_getf) (fp_lf fo_ild)) (fp_br (fp_lf fo_dup2) (fp_lf fo_xald)))))) (fp_br (fp_br (fp_br (fp_br (fp_lf fo_ild) (fp_br (fp_lf fo_iadd) (fp_lf (fo_iast (by decide))))) (fp_br (fp_br (fp_lf fo_ald) (fp_lf fo_getf)) (fp_br (fp_lf fo_ic) (fp_lf fo_icmp_eq)))) (fp_br (fp_br (fp_lf fo_ald) (fp_br (fp_lf fo_dup) (fp_lf fo_getf))) (fp_br (fp_br (fp_lf fo_ald) (fp_lf fo_getf)) (fp_br (fp_lf fo_ild) (fp_lf fo_xald))))) (fp_br (fp_br (fp_br (fp_lf fo_iadd) (fp_br (fp_lf (fo_puti (Or.inl (by decide)))) (fp_lf fo_ald))) (fp_br (fp_br (fp_lf fo_getf) (fp_lf fo_ild)) (fp_br (fp_lf fo_dup2) (fp_lf fo_xald)))) (fp_br (fp_br (fp_lf fo_ald) (fp_br (fp_lf fo_getf) (fp_lf fo_ild))) (fp_br (fp_br (fp_lf fo_xald) (fp_lf fo_iadd)) (fp_br (fp_lf (fo_iast (by decide))) (fp_lf fo_vret)))))))
set_option maxRecDepth 8000 in
theorem fc_X7_dryOff {F : List Nat} (hF : ∀ f, f ∈ F → f ∈ [13, 14, 15, 17]) : FT 0 11 F t_X7_dryOff := ft_body (fp_br (fp_br (fp_br (fp_br (fp_br (fp_lf fo_ald) (fp_lf fo_getf)) (fp_br (fp_lf fo_ild) (fp_lf fo_xald))) (fp_br (fp_br (fp_lf fo_ild) (fp_lf fo_ic)) (fp_br (fp_lf fo_iadd) (fp_br (fp_lf fo_ild) (fp_lf fo_ic))))) (fp_br (fp_br (fp_br (fp_lf fo_idiv) (fp_lf fo_ic)) (fp_br (fp_lf fo_iadd) (fp_lf fo_imul))) (fp_br (fp_br (fp_lf fo_min) (fp_lf fo_ist)) (fp_br (fp_lf fo_ald) (fp_br (fp_lf fo_getf) (fp_lf fo_ild)))))) (fp_br (fp_br (fp_br (fp_br (fp_lf fo_dup2) (fp_lf fo_xald)) (fp_br (fp_lf fo_ild) (fp_lf fo_isub))) (fp_br (fp_br (fp_lf (fo_iast (by decide))) (fp_lf fo_ald)) (fp_br (fp_lf fo_dup) (fp_br (fp_lf fo_getf) (fp_lf fo_ald))))) (fp_br (fp_br (fp_br (fp_lf fo_getf) (fp_lf fo_ic)) (fp_br (fp_lf fo_icmp_ne) (fp_lf fo_ic))) (fp_br (fp_br (fp_lf fo_goto) (fp_lf fo_ild)) (fp_br (fp_lf fo_iadd) (fp_br (fp_lf (fo_puti (Or.inl (by decide)))) (fp_lf fo_vret)))))))
set_option maxRecDepth 8000 in
theorem fc_X7_step {F : List Nat} (hF : ∀ f, f ∈ F → f ∈ [13, 14, 15, 17]) : FT 0 11 F t_X7_step := ft_body (fp_br (fp_br (fp_br (fp_br (fp_br (fp_br (fp_lf fo_ald) (fp_br (fp_lf fo_getf) (fp_lf (fo_callS (fc_X11_isStep (f_sub hF (by decide))))))) (fp_br (fp_br (fp_lf fo_if_ne) (fp_lf fo_vret)) (fp_br (fp_lf fo_ald) (fp_lf fo_getf)))) (fp_br (fp_br (fp_br (fp_lf fo_ic) (fp_lf fo_icmp_ge)) (fp_br (fp_lf fo_ald) (fp_lf fo_getf))) (fp_br (fp_br (fp_lf fo_ald) (fp_lf fo_getf)) (fp_br (fp_lf fo_ic) (fp_lf fo_idiv))))) (fp_br (fp_br (fp_br (fp_lf fo_ishr) (fp_br (fp_lf fo_ic) (fp_lf fo_iand))) (fp_br (fp_br (fp_lf fo_ic) (fp_lf fo_icmp_ne)) (fp_br (fp_lf fo_ic) (fp_lf fo_goto)))) (fp_br (fp_br (fp_br (fp_lf fo_ic) (fp_lf fo_ist)) (fp_br (fp_lf fo_ic) (fp_lf fo_ild))) (fp_br (fp_br (fp_lf fo_if_eq) (fp_lf fo_ic)) (fp_br (fp_lf fo_goto) (fp_lf fo_ald)))))) (fp_br (fp_br (fp_br (fp_br (fp_lf fo_getf) (fp_br (fp_lf fo_ic) (fp_lf fo_ald))) (fp_br (fp_br (fp_lf fo_getf) (fp_lf (fo_callV (fc_X2_tell (f_sub hF (by decide)))))) (fp_br (fp_lf fo_isub) (fp_lf fo_ist)))) (fp_br (fp_br (fp_br (fp_lf fo_ald) (fp_lf fo_getf)) (fp_br (fp_lf fo_ic) (fp_lf fo_ald))) (fp_br (fp_br (fp_lf fo_getf) (fp_lf (fo_callV (fc_X2_tell (f_sub hF (by decide)))))) (fp_br (fp_lf fo_ist) (fp_lf fo_ic))))) (fp_br (fp_br (fp_br (fp_br (fp_lf fo_ald) (fp_lf fo_getf)) (fp_br (fp_lf fo_ic) (fp_lf fo_ald))) (fp_br (fp_br (fp_lf fo_getf) (fp_lf (fo_callV (fc_X2_tell (f_sub hF (by decide)))))) (fp_br (fp_lf fo_imul) (fp_lf fo_ist)))) (fp_br (fp_br (fp_br (fp_lf fo_ic) (fp_lf fo_ald)) (fp_br (fp_lf fo_getf) (fp_lf fo_ic))) (fp_br (fp_br (fp_lf fo_ald) (fp_lf fo_getf)) (fp_br (fp_lf (fo_callV (fc_X2_tell (f_sub hF (by decide))))) (fp_lf fo_imul))))))) (fp_br (fp_br (fp_br (fp_br (fp_br (fp_lf fo_ist) (fp_br (fp_lf fo_ald) (fp_lf fo_getf))) (fp_br (fp_br (fp_lf fo_ic) (fp_lf fo_ald)) (fp_br (fp_lf fo_getf) (fp_lf (fo_callV (fc_X2_tell (f_sub hF (by decide)))))))) (fp_br (fp_br (fp_br (fp_lf fo_ist) (fp_lf fo_ic)) (fp_br (fp_lf fo_ist) (fp_lf fo_ild))) (fp_br (fp_br (fp_lf fo_ald) (fp_lf fo_getf)) (fp_br (fp_lf fo_icmp_ge) (fp_lf fo_ild))))) (fp_br (fp_br (fp_br (fp_lf fo_ic) (fp_br (fp_lf fo_icmp_ge) (fp_lf fo_ald))) (fp_br (fp_br (fp_lf fo_getf) (fp_lf fo_ild)) (fp_br (fp_lf fo_dup2) (fp_lf fo_xald)))) (fp_br (fp_br (fp_br (fp_lf fo_ald) (fp_lf fo_ild)) (fp_br (fp_lf fo_ild) (fp_lf fo_ild))) (fp_br (fp_br (fp_lf fo_ild) (fp_lf fo_ild)) (fp_br (fp_lf (fo_callV (fc_X7_warmer (f_sub hF (by decide))))) (fp_lf fo_iadd)))))) (fp_br (fp_br (fp_br (fp_br (fp_lf (fo_iast (by decide))) (fp_br (fp_lf fo_ild) (fp_lf fo_ald))) (fp_br (fp_br (fp_lf fo_getf) (fp_lf fo_ild)) (fp_br (fp_lf fo_xald) (fp_lf fo_isub)))) (fp_br (fp_br (fp_br (fp_lf fo_ist) (fp_lf fo_ild)) (fp_br (fp_lf fo_if_le) (fp_lf fo_ald))) (fp_br (fp_br (fp_lf fo_ild) (fp_lf fo_ild)) (fp_br (fp_lf fo_ild) (fp_lf (fo_callV (fc_X7_comeOn (f_sub hF (by decide))))))))) (fp_br (fp_br (fp_br (fp_br (fp_lf fo_goto) (fp_lf fo_ald)) (fp_br (fp_lf fo_ild) (fp_lf fo_ild))) (fp_br (fp_br (fp_lf fo_ineg) (fp_lf fo_ild)) (fp_br (fp_lf (fo_callV (fc_X7_dryOff (f_sub hF (by decide))))) (fp_lf fo_inc)))) (fp_br (fp_br (fp_br (fp_lf fo_goto) (fp_lf fo_ald)) (fp_br (fp_lf fo_dup) (fp_lf fo_getf))) (fp_br (fp_br (fp_lf fo_ic) (fp_lf fo_iadd)) (fp_br (fp_lf (fo_puti (Or.inl (by decide)))) (fp_lf fo_vret))))))))
set_option maxRecDepth 8000 in
theorem fc_X7_until {F : List Nat} (hF : ∀ f, f ∈ F → f ∈ [13, 14, 15, 17]) : FT 0 11 F t_X7_until := ft_body (fp_br (fp_br (fp_br (fp_lf fo_ic) (fp_br (fp_lf fo_ist) (fp_lf fo_ild))) (fp_br (fp_br (fp_lf fo_ic) (fp_lf fo_icmp_ge)) (fp_br (fp_lf fo_ald) (fp_lf fo_getf)))) (fp_br (fp_br (fp_lf fo_ild) (fp_br (fp_lf fo_icmp_ge) (fp_lf fo_ald))) (fp_br (fp_br (fp_lf (fo_callV (fc_X7_step (f_sub hF (by decide))))) (fp_lf fo_inc)) (fp_br (fp_lf fo_goto) (fp_lf fo_vret)))))
set_option maxRecDepth 8000 in
theorem fc_X7_goBy {F : List Nat} (hF : ∀ f, f ∈ F → f ∈ [13, 14, 15, 17]) : FT 0 11 F t_X7_goBy := ft_body (fp_br (fp_br (fp_br (fp_br (fp_lf fo_ild) (fp_lf fo_ic)) (fp_br (fp_lf fo_ald) (fp_lf fo_getf))) (fp_br (fp_br (fp_lf fo_isub) (fp_lf fo_icmp_le)) (fp_br (fp_lf fo_ic) (fp_lf fo_zret)))) (fp_br (fp_br (fp_br (fp_lf fo_ald) (fp_lf fo_ald)) (fp_br (fp_lf fo_getf) (fp_lf fo_ild))) (fp_br (fp_br (fp_lf fo_iadd) (fp_lf (fo_callV (fc_X7_until (f_sub hF (by decide)))))) (fp_br (fp_lf fo_ic) (fp_lf fo_zret)))))
set_option maxRecDepth 8000 in
theorem fc_X0_cellAt {F : List Nat} (hF : ∀ f, f ∈ F → f ∈ [13, 14, 15, 17]) : FT 0 11 F t_X0_cellAt := ft_body (fp_br (fp_br (fp_br (fp_br (fp_lf fo_ild) (fp_lf fo_if_lt)) (fp_br (fp_lf fo_ild) (fp_br (fp_lf fo_ald) (fp_lf fo_getf)))) (fp_br (fp_br (fp_lf fo_icmp_ge) (fp_lf fo_ild)) (fp_br (fp_lf fo_if_lt) (fp_br (fp_lf fo_ild) (fp_lf fo_ald))))) (fp_br (fp_br (fp_br (fp_lf fo_getf) (fp_lf fo_icmp_ge)) (fp_br (fp_lf fo_ild) (fp_br (fp_lf fo_ald) (fp_lf fo_getf)))) (fp_br (fp_br (fp_lf fo_imul) (fp_br (fp_lf fo_ild) (fp_lf fo_iadd))) (fp_br (fp_lf fo_goto) (fp_br (fp_lf fo_ic) (fp_lf fo_iret))))))
set_option maxRecDepth 8000 in
theorem fc_X7_has {F : List Nat} (hF : ∀ f, f ∈ F → f ∈ [13, 14, 15, 17]) : FT 0 11 F t_X7_has := ft_body (fp_br (fp_br (fp_br (fp_lf fo_ild) (fp_br (fp_lf fo_if_lt) (fp_lf fo_ild))) (fp_br (fp_lf fo_ald) (fp_br (fp_lf fo_getf) (fp_lf fo_icmp_ge)))) (fp_br (fp_br (fp_lf fo_ild) (fp_br (fp_lf fo_ic) (fp_lf fo_icmp_ge))) (fp_br (fp_br (fp_lf fo_ic) (fp_lf fo_goto)) (fp_br (fp_lf fo_ic) (fp_lf fo_zret)))))
set_option maxRecDepth 8000 in
theorem fc_X7_waterOf {F : List Nat} (hF : ∀ f, f ∈ F → f ∈ [13, 14, 15, 17]) : FT 0 11 F t_X7_waterOf := ft_body (fp_br (fp_br (fp_br (fp_lf fo_ald) (fp_lf fo_ild)) (fp_br (fp_lf (fo_callV (fc_X7_has (f_sub hF (by decide))))) (fp_br (fp_lf fo_if_eq) (fp_lf fo_ald)))) (fp_br (fp_br (fp_lf fo_getf) (fp_br (fp_lf fo_ild) (fp_lf fo_xald))) (fp_br (fp_lf fo_goto) (fp_br (fp_lf fo_ic) (fp_lf fo_iret)))))
set_option maxRecDepth 8000 in
theorem fc_X7_wipe {F : List Nat} (hF : ∀ f, f ∈ F → f ∈ [13, 14, 15, 17]) : FT 0 11 F t_X7_wipe := ft_body (fp_br (fp_br (fp_br (fp_lf fo_ald) (fp_br (fp_lf fo_ild) (fp_lf (fo_callV (fc_X7_waterOf (f_sub hF (by decide))))))) (fp_br (fp_br (fp_lf fo_ist) (fp_lf fo_ald)) (fp_br (fp_lf fo_ild) (fp_lf (fo_callV (fc_X7_has (f_sub hF (by decide)))))))) (fp_br (fp_br (fp_br (fp_lf fo_if_eq) (fp_lf fo_ald)) (fp_br (fp_lf fo_getf) (fp_lf fo_ild))) (fp_br (fp_br (fp_lf fo_ic) (fp_lf (fo_iast (by decide)))) (fp_br (fp_lf fo_ild) (fp_lf fo_iret)))))
set_option maxRecDepth 8000 in
theorem fc_X7_cover {F : List Nat} (hF : ∀ f, f ∈ F → f ∈ [13, 14, 15, 17]) : FT 0 11 F t_X7_cover := ft_body (fp_br (fp_br (fp_br (fp_br (fp_lf fo_ald) (fp_br (fp_lf fo_ild) (fp_lf (fo_callV (fc_X7_has (f_sub hF (by decide))))))) (fp_br (fp_lf fo_if_eq) (fp_br (fp_lf fo_ald) (fp_lf fo_getf)))) (fp_br (fp_br (fp_lf fo_ild) (fp_br (fp_lf fo_xald) (fp_lf fo_ic))) (fp_br (fp_lf fo_icmp_ne) (fp_br (fp_lf fo_ic) (fp_lf fo_zret))))) (fp_br (fp_br (fp_br (fp_lf fo_ald) (fp_br (fp_lf fo_getf) (fp_lf fo_ild))) (fp_br (fp_lf fo_ic) (fp_br (fp_lf (fo_iast (by decide))) (fp_lf fo_ald)))) (fp_br (fp_br (fp_lf fo_getf) (fp_br (fp_lf fo_ild) (fp_lf fo_ic))) (fp_br (fp_lf (fo_iast (by decide))) (fp_br (fp_lf fo_ic) (fp_lf fo_zret))))))
set_option maxRecDepth 8000 in
theorem fc_X0_ofKind {F : List Nat} (hF : ∀ f, f ∈ F → f ∈ [13, 14, 15, 17]) : FT 0 11 F t_X0_ofKind := ft_body (fp_br (fp_br (fp_br (fp_lf fo_ild) (fp_br (fp_lf fo_if_lt) (fp_lf fo_ild))) (fp_br (fp_lf fo_ald) (fp_br (fp_lf fo_alen) (fp_lf fo_icmp_ge)))) (fp_br (fp_br (fp_lf fo_ald) (fp_br (fp_lf fo_ild) (fp_lf fo_xald))) (fp_br (fp_lf fo_goto) (fp_br (fp_lf fo_ic) (fp_lf fo_iret)))))
set_option maxRecDepth 8000 in
theorem fc_X0_tell {F : List Nat} (hF : ∀ f, f ∈ F → f ∈ [13, 14, 15, 17]) : FT 0 11 F t_X0_tell := ft_body (fp_br (fp_br (fp_br (fp_br (fp_br (fp_lf fo_ild) (fp_lf fo_if_lt)) (fp_br (fp_lf fo_ild) (fp_br (fp_lf fo_ic) (fp_lf fo_icmp_lt)))) (fp_br (fp_br (fp_lf fo_ic) (fp_br (fp_lf fo_iret) (fp_lf fo_ild))) (fp_br (fp_lf fo_tab) (fp_br (fp_lf fo_ald) (fp_lf fo_getf))))) (fp_br (fp_br (fp_br (fp_lf fo_ild) (fp_br (fp_lf fo_xald) (fp_lf fo_iret))) (fp_br (fp_lf fo_ald) (fp_br (fp_lf fo_getf) (fp_lf fo_ild)))) (fp_br (fp_br (fp_lf fo_xald) (fp_br (fp_lf fo_iret) (fp_lf fo_ald))) (fp_br (fp_lf fo_ald) (fp_br (fp_lf fo_getf) (fp_lf fo_ald)))))) (fp_br (fp_br (fp_br (fp_br (fp_lf fo_getf) (fp_lf fo_ild)) (fp_br (fp_lf fo_xald) (fp_br (fp_lf (fo_callV (fc_X0_ofKind (f_sub hF (by decide))))) (fp_lf fo_iret)))) (fp_br (fp_br (fp_lf fo_ald) (fp_br (fp_lf fo_ald) (fp_lf fo_getf))) (fp_br (fp_lf fo_ald) (fp_br (fp_lf fo_getf) (fp_lf fo_ild))))) (fp_br (fp_br (fp_br (fp_lf fo_xald) (fp_br (fp_lf (fo_callV (fc_X0_ofKind (f_sub hF (by decide))))) (fp_lf fo_iret))) (fp_br (fp_lf fo_ald) (fp_br (fp_lf fo_ald) (fp_lf fo_getf)))) (fp_br (fp_br (fp_lf fo_ald) (fp_br (fp_lf fo_getf) (fp_lf fo_ild))) (fp_br (fp_lf fo_xald) (fp_br (fp_lf (fo_callV (fc_X0_ofKind (f_sub hF (by decide))))) (fp_lf fo_iret)))))))
set_option maxRecDepth 8000 in
theorem fc_X7_bare {F : List Nat} (hF : ∀ f, f ∈ F → f ∈ [13, 14, 15, 17]) : FT 0 11 F t_X7_bare := ft_body (fp_br (fp_br (fp_br (fp_br (fp_lf fo_ald) (fp_lf fo_ild)) (fp_br (fp_lf (fo_callV (fc_X7_has (f_sub hF (by decide))))) (fp_br (fp_lf fo_if_eq) (fp_lf fo_ald)))) (fp_br (fp_br (fp_lf fo_getf) (fp_br (fp_lf fo_ild) (fp_lf fo_xald))) (fp_br (fp_lf fo_if_ne) (fp_br (fp_lf fo_ic) (fp_lf fo_zret))))) (fp_br (fp_br (fp_br (fp_lf fo_ald) (fp_br (fp_lf fo_getf) (fp_lf fo_ild))) (fp_br (fp_lf fo_ic) (fp_br (fp_lf (fo_iast (by decide))) (fp_lf fo_ald)))) (fp_br (fp_br (fp_lf fo_getf) (fp_br (fp_lf fo_ild) (fp_lf fo_ild))) (fp_br (fp_lf (fo_iast (by decide))) (fp_br (fp_lf fo_ic) (fp_lf fo_zret))))))
set_option maxRecDepth 8000 in
theorem fc_X11_doLine {F : List Nat} (hF : ∀ f, f ∈ F → f ∈ [13, 14, 15, 17]) : FT 0 11 F t_X11_doLine := ft_body (fp_br (fp_br (fp_br (fp_br (fp_br (fp_br (fp_lf fo_ald) (fp_lf fo_getf)) (fp_br (fp_lf fo_getf) (fp_br (fp_lf fo_ild) (fp_lf fo_ic)))) (fp_br (fp_br (fp_lf (fo_callV (fc_X5_tell (f_sub hF (by decide))))) (fp_lf fo_ist)) (fp_br (fp_lf fo_ald) (fp_br (fp_lf fo_getf) (fp_lf fo_getf))))) (fp_br (fp_br (fp_br (fp_lf fo_ild) (fp_lf fo_ic)) (fp_br (fp_lf (fo_callV (fc_X5_tell (f_sub hF (by decide))))) (fp_br (fp_lf fo_ist) (fp_lf fo_ild)))) (fp_br (fp_br (fp_lf fo_if_ne) (fp_lf fo_ald)) (fp_br (fp_lf fo_ild) (fp_br (fp_lf (fo_callV (fc_X7_goBy (f_sub hF (by decide))))) (fp_lf fo_if_eq)))))) (fp_br (fp_br (fp_br (fp_br (fp_lf fo_ic) (fp_lf fo_goto)) (fp_br (fp_lf fo_ic) (fp_br (fp_lf fo_iret) (fp_lf fo_ald)))) (fp_br (fp_br (fp_lf fo_getf) (fp_lf fo_getf)) (fp_br (fp_lf fo_ild) (fp_br (fp_lf fo_ald) (fp_lf fo_getf))))) (fp_br (fp_br (fp_br (fp_lf fo_getf) (fp_lf fo_ild)) (fp_br (fp_lf fo_ic) (fp_br (fp_lf (fo_callV (fc_X5_tell (f_sub hF (by decide))))) (fp_lf (fo_callV (fc_X0_cellAt (f_sub hF (by decide)))))))) (fp_br (fp_br (fp_lf fo_ist) (fp_lf fo_ild)) (fp_br (fp_lf fo_ic) (fp_br (fp_lf fo_icmp_ne) (fp_lf fo_ald))))))) (fp_br (fp_br (fp_br (fp_br (fp_br (fp_lf fo_ild) (fp_lf (fo_callV (fc_X7_wipe (f_sub hF (by decide)))))) (fp_br (fp_lf fo_ist) (fp_br (fp_lf fo_ald) (fp_lf fo_getf)))) (fp_br (fp_br (fp_lf fo_ic) (fp_lf fo_dup2)) (fp_br (fp_lf fo_xald) (fp_br (fp_lf fo_ild) (fp_lf fo_iadd))))) (fp_br (fp_br (fp_br (fp_lf (fo_iast (by decide))) (fp_lf fo_ild)) (fp_br (fp_lf fo_if_le) (fp_br (fp_lf fo_ic) (fp_lf fo_goto)))) (fp_br (fp_br (fp_lf fo_ic) (fp_lf fo_iret)) (fp_br (fp_lf fo_ild) (fp_br (fp_lf fo_ic) (fp_lf fo_icmp_ne)))))) (fp_br (fp_br (fp_br (fp_br (fp_lf fo_ald) (fp_lf fo_ild)) (fp_br (fp_lf (fo_callV (fc_X7_cover (f_sub hF (by decide))))) (fp_br (fp_lf fo_goto) (fp_lf fo_ald)))) (fp_br (fp_br (fp_lf fo_ild) (fp_lf fo_ald)) (fp_br (fp_lf fo_getf) (fp_br (fp_lf fo_getf) (fp_lf fo_ild))))) (fp_br (fp_br (fp_br (fp_lf fo_ic) (fp_lf (fo_callV (fc_X0_tell (f_sub hF (by decide)))))) (fp_br (fp_lf (fo_callV (fc_X7_bare (f_sub hF (by decide))))) (fp_br (fp_lf fo_ist) (fp_lf fo_ild)))) (fp_br (fp_br (fp_lf fo_if_eq) (fp_lf fo_ic)) (fp_br (fp_lf fo_goto) (fp_br (fp_lf fo_ic) (fp_lf fo_iret))))))))
set_option maxRecDepth 8000 in
theorem fc_X7_wetCells {F : List Nat} (hF : ∀ f, f ∈ F → f ∈ [13, 14, 15, 17]) : FT 0 11 F t_X7_wetCells := ft_body (fp_br (fp_br (fp_br (fp_br (fp_lf fo_ic) (fp_br (fp_lf fo_ist) (fp_lf fo_ic))) (fp_br (fp_lf fo_ist) (fp_br (fp_lf fo_ild) (fp_lf fo_ald)))) (fp_br (fp_br (fp_lf fo_getf) (fp_br (fp_lf fo_icmp_ge) (fp_lf fo_ild))) (fp_br (fp_br (fp_lf fo_ic) (fp_lf fo_icmp_ge)) (fp_br (fp_lf fo_ild) (fp_lf fo_ald))))) (fp_br (fp_br (fp_br (fp_lf fo_getf) (fp_br (fp_lf fo_ild) (fp_lf fo_xald))) (fp_br (fp_br (fp_lf fo_ild) (fp_lf fo_icmp_lt)) (fp_br (fp_lf fo_ic) (fp_lf fo_goto)))) (fp_br (fp_br (fp_lf fo_ic) (fp_br (fp_lf fo_iadd) (fp_lf fo_ist))) (fp_br (fp_br (fp_lf fo_inc) (fp_lf fo_goto)) (fp_br (fp_lf fo_ild) (fp_lf fo_iret))))))
set_option maxRecDepth 8000 in
theorem fc_X7_coveredCells {F : List Nat} (hF : ∀ f, f ∈ F → f ∈ [13, 14, 15, 17]) : FT 0 11 F t_X7_coveredCells := ft_body (fp_br (fp_br (fp_br (fp_br (fp_lf fo_ic) (fp_lf fo_ist)) (fp_br (fp_lf fo_ic) (fp_br (fp_lf fo_ist) (fp_lf fo_ild)))) (fp_br (fp_br (fp_lf fo_ald) (fp_br (fp_lf fo_getf) (fp_lf fo_icmp_ge))) (fp_br (fp_lf fo_ild) (fp_br (fp_lf fo_ic) (fp_lf fo_icmp_ge))))) (fp_br (fp_br (fp_br (fp_lf fo_ild) (fp_lf fo_ald)) (fp_br (fp_lf fo_getf) (fp_br (fp_lf fo_ild) (fp_lf fo_xald)))) (fp_br (fp_br (fp_lf fo_iadd) (fp_br (fp_lf fo_ist) (fp_lf fo_inc))) (fp_br (fp_lf fo_goto) (fp_br (fp_lf fo_ild) (fp_lf fo_iret))))))
set_option maxRecDepth 8000 in
theorem fc_X11_go {F : List Nat} (hF : ∀ f, f ∈ F → f ∈ [14, 15, 17]) : FT 0 11 F t_X11_go := ft_body (fp_br (fp_br (fp_br (fp_br (fp_br (fp_br (fp_lf fo_ald) (fp_br (fp_lf fo_getf) (fp_lf fo_getf))) (fp_br (fp_lf fo_getf) (fp_br (fp_lf fo_if_eq) (fp_lf fo_ild)))) (fp_br (fp_br (fp_lf fo_if_lt) (fp_br (fp_lf fo_ild) (fp_lf fo_ic))) (fp_br (fp_lf fo_icmp_le) (fp_br (fp_lf fo_ic) (fp_lf fo_iret))))) (fp_br (fp_br (fp_br (fp_lf fo_ild) (fp_br (fp_lf fo_ic) (fp_lf fo_icmp_ne))) (fp_br (fp_lf fo_ald) (fp_br (fp_lf fo_getf) (fp_lf fo_getf)))) (fp_br (fp_br (fp_lf fo_goto) (fp_br (fp_lf fo_ald) (fp_lf fo_getf))) (fp_br (fp_br (fp_lf fo_ast) (fp_lf fo_ild)) (fp_br (fp_lf fo_if_ne) (fp_lf fo_ald)))))) (fp_br (fp_br (fp_br (fp_br (fp_lf fo_getf) (fp_br (fp_lf fo_ald) (fp_lf fo_getf))) (fp_br (fp_lf fo_getf) (fp_br (fp_lf (fo_callV (fc_X7_copyFrom (f_sub hF (by decide))))) (fp_lf fo_ald)))) (fp_br (fp_br (fp_lf fo_getf) (fp_br (fp_lf fo_ist) (fp_lf fo_ald))) (fp_br (fp_lf fo_getf) (fp_br (fp_lf fo_ic) (fp_lf fo_ic))))) (fp_br (fp_br (fp_br (fp_lf (fo_iast (by decide))) (fp_br (fp_lf fo_ald) (fp_lf fo_getf))) (fp_br (fp_lf fo_ic) (fp_br (fp_lf fo_ic) (fp_lf (fo_iast (by decide)))))) (fp_br (fp_br (fp_lf fo_ic) (fp_br (fp_lf fo_ist) (fp_lf fo_ic))) (fp_br (fp_br (fp_lf fo_ist) (fp_lf fo_ild)) (fp_br (fp_lf fo_ald) (fp_lf fo_getf))))))) (fp_br (fp_br (fp_br (fp_br (fp_br (fp_lf fo_getf) (fp_br (fp_lf fo_getf) (fp_lf fo_icmp_ge))) (fp_br (fp_lf fo_ild) (fp_br (fp_lf fo_ic) (fp_lf fo_icmp_ne)))) (fp_br (fp_br (fp_lf fo_ald) (fp_br (fp_lf fo_getf) (fp_lf fo_ic))) (fp_br (fp_lf fo_ald) (fp_br (fp_lf fo_ald) (fp_lf fo_ild))))) (fp_br (fp_br (fp_br (fp_lf (fo_callV (fc_X11_doLine (f_sub hF (by decide))))) (fp_br (fp_lf (fo_iast (by decide))) (fp_lf fo_ald))) (fp_br (fp_lf fo_getf) (fp_br (fp_lf fo_ic) (fp_lf fo_xald)))) (fp_br (fp_br (fp_lf fo_if_ne) (fp_br (fp_lf fo_ic) (fp_lf fo_goto))) (fp_br (fp_br (fp_lf fo_ild) (fp_lf fo_ist)) (fp_br (fp_lf fo_inc) (fp_lf fo_goto)))))) (fp_br (fp_br (fp_br (fp_br (fp_lf fo_ald) (fp_br (fp_lf fo_getf) (fp_lf fo_ic))) (fp_br (fp_lf fo_ald) (fp_br (fp_lf fo_getf) (fp_lf fo_ild)))) (fp_br (fp_br (fp_lf fo_isub) (fp_br (fp_lf (fo_iast (by decide))) (fp_lf fo_ald))) (fp_br (fp_br (fp_lf fo_getf) (fp_lf fo_ic)) (fp_br (fp_lf fo_ald) (fp_lf fo_ic))))) (fp_br (fp_br (fp_br (fp_lf (fo_callV (fc_X7_wetCells (f_sub hF (by decide))))) (fp_br (fp_lf (fo_iast (by decide))) (fp_lf fo_ald))) (fp_br (fp_lf fo_getf) (fp_br (fp_lf fo_ic) (fp_lf fo_ald)))) (fp_br (fp_br (fp_lf (fo_callV (fc_X7_coveredCells (f_sub hF (by decide))))) (fp_br (fp_lf (fo_iast (by decide))) (fp_lf fo_ald))) (fp_br (fp_br (fp_lf fo_ic) (fp_lf (fo_puti (Or.inr (f_no hF (by decide)))))) (fp_br (fp_lf fo_ild) (fp_lf fo_iret))))))))
set_option maxRecDepth 8000 in
theorem fc_X8_nightOf {F : List Nat} (hF : ∀ f, f ∈ F → f ∈ [13, 14, 15, 17]) : FT 0 11 F t_X8_nightOf := ft_body (fp_br (fp_br (fp_br (fp_lf fo_ild) (fp_br (fp_lf fo_if_lt) (fp_lf fo_ild))) (fp_br (fp_lf fo_ic) (fp_br (fp_lf fo_icmp_ge) (fp_lf fo_ald)))) (fp_br (fp_br (fp_lf fo_getf) (fp_br (fp_lf fo_ild) (fp_lf fo_xald))) (fp_br (fp_lf fo_goto) (fp_br (fp_lf fo_nul) (fp_lf fo_aret)))))
set_option maxRecDepth 8000 in
theorem fc_X0_size {F : List Nat} (hF : ∀ f, f ∈ F → f ∈ [13, 14, 15, 17]) : FT 0 11 F t_X0_size := ft_body (fp_br (fp_br (fp_lf fo_ald) (fp_br (fp_lf fo_getf) (fp_lf fo_ald))) (fp_br (fp_lf fo_getf) (fp_br (fp_lf fo_imul) (fp_lf fo_iret))))
set_option maxRecDepth 8000 in
theorem fc_X7_setKind {F : List Nat} (hF : ∀ f, f ∈ F → f ∈ [13, 14, 15, 17]) : FT 0 11 F t_X7_setKind := ft_body (fp_br (fp_br (fp_br (fp_br (fp_br (fp_lf fo_ald) (fp_lf fo_ild)) (fp_br (fp_lf (fo_callV (fc_X7_has (f_sub hF (by decide))))) (fp_lf fo_if_eq))) (fp_br (fp_br (fp_lf fo_ald) (fp_lf fo_getf)) (fp_br (fp_lf fo_ild) (fp_lf fo_ald)))) (fp_br (fp_br (fp_br (fp_lf fo_ald) (fp_lf fo_getf)) (fp_br (fp_lf fo_ild) (fp_lf (fo_callV (fc_X0_ofKind (f_sub hF (by decide))))))) (fp_br (fp_br (fp_lf (fo_iast (by decide))) (fp_lf fo_ald)) (fp_br (fp_lf fo_getf) (fp_lf fo_ild))))) (fp_br (fp_br (fp_br (fp_br (fp_lf fo_ald) (fp_lf fo_ald)) (fp_br (fp_lf fo_getf) (fp_lf fo_ild))) (fp_br (fp_br (fp_lf (fo_callV (fc_X0_ofKind (f_sub hF (by decide))))) (fp_lf (fo_iast (by decide)))) (fp_br (fp_lf fo_ald) (fp_lf fo_getf)))) (fp_br (fp_br (fp_br (fp_lf fo_ild) (fp_lf fo_ald)) (fp_br (fp_lf fo_ald) (fp_lf fo_getf))) (fp_br (fp_br (fp_lf fo_ild) (fp_lf (fo_callV (fc_X0_ofKind (f_sub hF (by decide)))))) (fp_br (fp_lf (fo_iast (by decide))) (fp_lf fo_vret))))))
set_option maxRecDepth 8000 in
theorem fc_X7_start {F : List Nat} (hF : ∀ f, f ∈ F → f ∈ [13, 14, 15, 17]) : FT 0 11 F t_X7_start := ft_body (fp_br (fp_br (fp_br (fp_br (fp_br (fp_br (fp_lf fo_ald) (fp_lf fo_ic)) (fp_br (fp_lf (fo_puti (Or.inl (by decide)))) (fp_lf fo_ald))) (fp_br (fp_br (fp_lf fo_ic) (fp_lf fo_ald)) (fp_br (fp_lf (fo_callV (fc_X0_size (f_sub hF (by decide))))) (fp_br (fp_lf fo_min) (fp_lf (fo_puti (Or.inl (by decide)))))))) (fp_br (fp_br (fp_br (fp_lf fo_ald) (fp_lf fo_ic)) (fp_br (fp_lf (fo_puti (Or.inl (by decide)))) (fp_lf fo_ald))) (fp_br (fp_br (fp_lf fo_ald) (fp_lf fo_getf)) (fp_br (fp_lf (fo_puti (Or.inl (by decide)))) (fp_br (fp_lf fo_ald) (fp_lf fo_ic)))))) (fp_br (fp_br (fp_br (fp_br (fp_lf (fo_puti (Or.inl (by decide)))) (fp_lf fo_ald)) (fp_br (fp_lf fo_ic) (fp_lf (fo_puti (Or.inl (by decide)))))) (fp_br (fp_br (fp_lf fo_ald) (fp_lf fo_ic)) (fp_br (fp_lf (fo_puti (Or.inl (by decide)))) (fp_br (fp_lf fo_ald) (fp_lf fo_getf))))) (fp_br (fp_br (fp_br (fp_lf fo_ald) (fp_lf (fo_callV (fc_X2_copyFrom (f_sub hF (by decide)))))) (fp_br (fp_lf fo_ic) (fp_br (fp_lf fo_ist) (fp_lf fo_ild)))) (fp_br (fp_br (fp_lf fo_ald) (fp_lf fo_getf)) (fp_br (fp_lf fo_icmp_ge) (fp_br (fp_lf fo_ald) (fp_lf fo_ild))))))) (fp_br (fp_br (fp_br (fp_br (fp_br (fp_lf fo_ald) (fp_lf fo_ald)) (fp_br (fp_lf fo_getf) (fp_lf fo_ild))) (fp_br (fp_br (fp_lf fo_xald) (fp_lf (fo_callV (fc_X7_setKind (f_sub hF (by decide)))))) (fp_br (fp_lf fo_ald) (fp_br (fp_lf fo_getf) (fp_lf fo_ild))))) (fp_br (fp_br (fp_br (fp_lf fo_ald) (fp_lf fo_getf)) (fp_br (fp_lf fo_ild) (fp_br (fp_lf fo_xald) (fp_lf (fo_iast (by decide)))))) (fp_br (fp_br (fp_lf fo_ald) (fp_lf fo_getf)) (fp_br (fp_lf fo_ild) (fp_br (fp_lf fo_ic) (fp_lf (fo_iast (by decide)))))))) (fp_br (fp_br (fp_br (fp_br (fp_lf fo_ald) (fp_lf fo_getf)) (fp_br (fp_lf fo_ild) (fp_lf fo_ic))) (fp_br (fp_br (fp_lf fo_ald) (fp_lf fo_getf)) (fp_br (fp_lf fo_ic) (fp_br (fp_lf fo_ic) (fp_lf (fo_callV (fc_X2_tell (f_sub hF (by decide))))))))) (fp_br (fp_br (fp_br (fp_lf fo_imul) (fp_lf (fo_iast (by decide)))) (fp_br (fp_lf fo_ald) (fp_br (fp_lf fo_getf) (fp_lf fo_ild)))) (fp_br (fp_br (fp_lf fo_ic) (fp_lf (fo_iast (by decide)))) (fp_br (fp_lf fo_inc) (fp_br (fp_lf fo_goto) (fp_lf fo_vret))))))))
set_option maxRecDepth 8000 in
theorem fc_X11_start {F : List Nat} (hF : ∀ f, f ∈ F → f ∈ [13, 14, 15, 17]) : FT 0 11 F t_X11_start := ft_body (fp_br (fp_br (fp_br (fp_br (fp_lf fo_ald) (fp_lf fo_getf)) (fp_br (fp_lf fo_ild) (fp_br (fp_lf (fo_callV (fc_X8_nightOf (f_sub hF (by decide))))) (fp_lf fo_ast)))) (fp_br (fp_br (fp_lf fo_ald) (fp_lf fo_ifnull)) (fp_br (fp_lf fo_ald) (fp_br (fp_lf fo_getf) (fp_lf fo_if_ne))))) (fp_br (fp_br (fp_br (fp_lf fo_ic) (fp_lf fo_zret)) (fp_br (fp_lf fo_ald) (fp_br (fp_lf fo_ald) (fp_lf fo_getf)))) (fp_br (fp_br (fp_lf fo_getf) (fp_lf fo_ald)) (fp_br (fp_lf (fo_callV (fc_X7_start (f_sub hF (by decide))))) (fp_br (fp_lf fo_ic) (fp_lf fo_zret))))))
set_option maxRecDepth 8000 in
theorem fc_X7_hideSky {F : List Nat} (hF : ∀ f, f ∈ F → f ∈ [13, 14, 15, 17]) : FT 0 11 F t_X7_hideSky := ft_body (fp_br (fp_br (fp_br (fp_br (fp_lf fo_ald) (fp_lf fo_ild)) (fp_br (fp_lf (fo_callV (fc_X7_has (f_sub hF (by decide))))) (fp_lf fo_if_eq))) (fp_br (fp_br (fp_lf fo_ald) (fp_lf fo_getf)) (fp_br (fp_lf fo_ild) (fp_lf fo_ic)))) (fp_br (fp_br (fp_br (fp_lf fo_ald) (fp_lf fo_getf)) (fp_br (fp_lf fo_ild) (fp_lf fo_xald))) (fp_br (fp_br (fp_lf fo_ild) (fp_lf fo_isub)) (fp_br (fp_lf fo_max) (fp_br (fp_lf (fo_iast (by decide))) (fp_lf fo_vret))))))
set_option maxRecDepth 8000 in
theorem fc_X11_came {F : List Nat} (hF : ∀ f, f ∈ F → f ∈ [13, 17]) : FT 0 11 F t_X11_came := ft_body (fp_br (fp_br (fp_br (fp_br (fp_br (fp_br (fp_lf fo_ald) (fp_lf fo_getf)) (fp_br (fp_lf fo_getf) (fp_lf fo_ild))) (fp_br (fp_br (fp_lf fo_ild) (fp_lf (fo_callV (fc_X0_cellAt (f_sub hF (by decide)))))) (fp_br (fp_lf fo_ist) (fp_lf fo_ild)))) (fp_br (fp_br (fp_br (fp_lf fo_ic) (fp_lf fo_icmp_eq)) (fp_br (fp_lf fo_ald) (fp_lf fo_ald))) (fp_br (fp_br (fp_lf fo_getf) (fp_lf fo_ild)) (fp_br (fp_lf (fo_callV (fc_X11_start (f_sub hF (by decide))))) (fp_br (fp_lf fo_if_ne) (fp_lf fo_ic)))))) (fp_br (fp_br (fp_br (fp_br (fp_lf fo_iret) (fp_lf fo_ald)) (fp_br (fp_lf fo_ic) (fp_lf (fo_puti (Or.inr (f_no hF (by decide))))))) (fp_br (fp_br (fp_lf fo_ald) (fp_lf fo_ic)) (fp_br (fp_lf (fo_puti (Or.inr (f_no hF (by decide))))) (fp_br (fp_lf fo_ic) (fp_lf fo_ist))))) (fp_br (fp_br (fp_br (fp_lf fo_ic) (fp_lf fo_ist)) (fp_br (fp_lf fo_ild) (fp_lf fo_ic))) (fp_br (fp_br (fp_lf fo_icmp_gt) (fp_lf fo_ald)) (fp_br (fp_lf fo_getf) (fp_br (fp_lf fo_ald) (fp_lf fo_getf))))))) (fp_br (fp_br (fp_br (fp_br (fp_br (fp_lf (fo_callV (fc_X7_copyFrom (f_sub hF (by decide))))) (fp_lf fo_ald)) (fp_br (fp_lf fo_getf) (fp_lf fo_ild))) (fp_br (fp_br (fp_lf fo_ic) (fp_lf (fo_callV (fc_X7_hideSky (f_sub hF (by decide)))))) (fp_br (fp_lf fo_ald) (fp_lf fo_getf)))) (fp_br (fp_br (fp_br (fp_lf fo_ic) (fp_lf (fo_callV (fc_X7_until (f_sub hF (by decide)))))) (fp_br (fp_lf fo_ald) (fp_lf fo_getf))) (fp_br (fp_br (fp_lf fo_ild) (fp_lf (fo_callV (fc_X7_waterOf (f_sub hF (by decide)))))) (fp_br (fp_lf fo_ild) (fp_br (fp_lf fo_icmp_ne) (fp_lf fo_ald)))))) (fp_br (fp_br (fp_br (fp_br (fp_lf fo_ild) (fp_lf fo_if_ne)) (fp_br (fp_lf fo_ild) (fp_lf fo_goto))) (fp_br (fp_br (fp_lf fo_ald) (fp_lf fo_getf)) (fp_br (fp_lf (fo_puti (Or.inr (f_no hF (by decide))))) (fp_br (fp_lf fo_ald) (fp_lf fo_ild))))) (fp_br (fp_br (fp_br (fp_lf (fo_puti (Or.inr (f_no hF (by decide))))) (fp_lf fo_inc)) (fp_br (fp_lf fo_ald) (fp_lf fo_getf))) (fp_br (fp_br (fp_lf (fo_callV (fc_X7_step (f_sub hF (by decide))))) (fp_lf fo_inc)) (fp_br (fp_lf fo_goto) (fp_br (fp_lf fo_ild) (fp_lf fo_iret))))))))
set_option maxRecDepth 8000 in
theorem fc_X11_drawn {F : List Nat} (hF : ∀ f, f ∈ F → f ∈ [13, 14, 15]) : FT 0 11 F t_X11_drawn := ft_body (fp_br (fp_br (fp_br (fp_br (fp_br (fp_br (fp_br (fp_lf fo_ald) (fp_lf fo_getf)) (fp_br (fp_lf fo_getf) (fp_lf fo_ild))) (fp_br (fp_br (fp_lf fo_ild) (fp_lf (fo_callV (fc_X0_cellAt (f_sub hF (by decide)))))) (fp_br (fp_lf fo_ist) (fp_lf fo_ild)))) (fp_br (fp_br (fp_br (fp_lf fo_ic) (fp_lf fo_icmp_eq)) (fp_br (fp_lf fo_ild) (fp_lf fo_ic))) (fp_br (fp_br (fp_lf fo_icmp_lt) (fp_lf fo_ild)) (fp_br (fp_lf fo_ic) (fp_br (fp_lf fo_icmp_gt) (fp_lf fo_ald)))))) (fp_br (fp_br (fp_br (fp_br (fp_lf fo_ald) (fp_lf fo_getf)) (fp_br (fp_lf fo_ild) (fp_lf (fo_callV (fc_X11_start (f_sub hF (by decide))))))) (fp_br (fp_br (fp_lf fo_if_ne) (fp_lf fo_ic)) (fp_br (fp_lf fo_iret) (fp_lf fo_ild)))) (fp_br (fp_br (fp_br (fp_lf fo_ist) (fp_lf fo_ic)) (fp_br (fp_lf fo_ist) (fp_lf fo_ald))) (fp_br (fp_br (fp_lf fo_getf) (fp_lf fo_ic)) (fp_br (fp_lf fo_ic) (fp_br (fp_lf (fo_iast (by decide))) (fp_lf fo_ic))))))) (fp_br (fp_br (fp_br (fp_br (fp_br (fp_lf fo_ist) (fp_lf fo_ild)) (fp_br (fp_lf fo_ild) (fp_lf fo_icmp_ge))) (fp_br (fp_br (fp_lf fo_ald) (fp_lf fo_ald)) (fp_br (fp_lf fo_getf) (fp_lf fo_ild)))) (fp_br (fp_br (fp_br (fp_lf (fo_callV (fc_X11_start (f_sub hF (by decide))))) (fp_lf fo_if_ne)) (fp_br (fp_lf fo_ic) (fp_lf fo_iret))) (fp_br (fp_br (fp_lf fo_ic) (fp_lf fo_ist)) (fp_br (fp_lf fo_ild) (fp_br (fp_lf fo_ic) (fp_lf fo_icmp_ge)))))) (fp_br (fp_br (fp_br (fp_br (fp_lf fo_ild) (fp_lf fo_ic)) (fp_br (fp_lf fo_imul) (fp_lf fo_ic))) (fp_br (fp_br (fp_lf fo_iadd) (fp_lf fo_ist)) (fp_br (fp_lf fo_ald) (fp_lf fo_getf)))) (fp_br (fp_br (fp_br (fp_lf fo_dup) (fp_lf fo_getf)) (fp_br (fp_lf fo_ild) (fp_lf fo_ic))) (fp_br (fp_br (fp_lf fo_iushr) (fp_lf fo_ic)) (fp_br (fp_lf fo_irem) (fp_br (fp_lf fo_if_ne) (fp_lf fo_ic)))))))) (fp_br (fp_br (fp_br (fp_br (fp_br (fp_br (fp_lf fo_ild) (fp_lf fo_ishl)) (fp_br (fp_lf fo_goto) (fp_lf fo_ic))) (fp_br (fp_br (fp_lf fo_ior) (fp_lf (fo_puti (Or.inl (by decide))))) (fp_br (fp_lf fo_inc) (fp_lf fo_goto)))) (fp_br (fp_br (fp_br (fp_lf fo_ald) (fp_lf fo_getf)) (fp_br (fp_lf fo_ic) (fp_lf (fo_callV (fc_X7_until (f_sub hF (by decide))))))) (fp_br (fp_br (fp_lf fo_ald) (fp_lf fo_getf)) (fp_br (fp_lf fo_ild) (fp_br (fp_lf (fo_callV (fc_X7_waterOf (f_sub hF (by decide))))) (fp_lf fo_ist)))))) (fp_br (fp_br (fp_br (fp_br (fp_lf fo_ild) (fp_lf fo_ild)) (fp_br (fp_lf fo_iadd) (fp_lf fo_ist))) (fp_br (fp_br (fp_lf fo_ald) (fp_lf fo_getf)) (fp_br (fp_lf fo_ic) (fp_lf fo_ild)))) (fp_br (fp_br (fp_br (fp_lf fo_if_ne) (fp_lf fo_ild)) (fp_br (fp_lf fo_goto) (fp_lf fo_ald))) (fp_br (fp_br (fp_lf fo_getf) (fp_lf fo_ic)) (fp_br (fp_lf fo_xald) (fp_br (fp_lf fo_ild) (fp_lf fo_min))))))) (fp_br (fp_br (fp_br (fp_br (fp_br (fp_lf (fo_iast (by decide))) (fp_lf fo_ald)) (fp_br (fp_lf fo_getf) (fp_lf fo_ic))) (fp_br (fp_br (fp_lf fo_ild) (fp_lf fo_if_ne)) (fp_br (fp_lf fo_ild) (fp_lf fo_goto)))) (fp_br (fp_br (fp_br (fp_lf fo_ald) (fp_lf fo_getf)) (fp_br (fp_lf fo_ic) (fp_lf fo_xald))) (fp_br (fp_br (fp_lf fo_ild) (fp_lf fo_max)) (fp_br (fp_lf (fo_iast (by decide))) (fp_br (fp_lf fo_ald) (fp_lf fo_getf)))))) (fp_br (fp_br (fp_br (fp_br (fp_lf fo_ic) (fp_lf fo_dup2)) (fp_br (fp_lf fo_xald) (fp_lf fo_ild))) (fp_br (fp_br (fp_lf fo_if_le) (fp_lf fo_ic)) (fp_br (fp_lf fo_goto) (fp_lf fo_ic)))) (fp_br (fp_br (fp_br (fp_lf fo_iadd) (fp_lf (fo_iast (by decide)))) (fp_br (fp_lf fo_inc) (fp_lf fo_goto))) (fp_br (fp_br (fp_lf fo_ald) (fp_lf fo_ic)) (fp_br (fp_lf (fo_puti (Or.inr (f_no hF (by decide))))) (fp_br (fp_lf fo_ild) (fp_lf fo_iret)))))))))
end
