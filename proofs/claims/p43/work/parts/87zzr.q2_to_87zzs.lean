section
/-! ===== questions: now, sky ===== -/
abbrev waR (R : Nat → Int32) : Nat → Int32 := fun c => R (1139 + c)
def aNow (R : Nat → Int32) (x : Int) : Int :=
  if R 894 = 0 then -1 else if x = 0 then (R 895).toInt else if x = 1 then (R 896).toInt else if x = 2 then (R 897).toInt
  else if x = 3 then wcF (waR R) 1 (Nn R) else if x = 4 then (suF (waR R) (Nn R)).toInt else -1
def aSky (R : Nat → Int32) (x t w : Int32) : Int := if okS R x ∧ okT t ∧ 0 ≤ w.toInt ∧ w.toInt ≤ 4 then (ndF (nU (nX R x)) w.toInt.toNat t.toInt.toNat).toInt else -1
set_option maxRecDepth 8000 in
theorem now_n {R : Nat → Int32} {x : Int} (h8 : R 894 ≠ 0) : aNow R x = (if x = 0 then (R 895).toInt else if x = 1 then (R 896).toInt else if x = 2 then (R 897).toInt
  else if x = 3 then (wcF (waR R) 1 (Nn R) : Int) else if x = 4 then (suF (waR R) (Nn R)).toInt else -1) := if_neg h8
set_option maxRecDepth 8000 in
theorem now_k {R : Nat → Int32} {x : Int} (h8 : R 894 ≠ 0) : (x = 0 → aNow R x = (R 895).toInt) ∧ (x = 1 → aNow R x = (R 896).toInt) ∧ (x = 2 → aNow R x = (R 897).toInt) ∧ (x = 3 → aNow R x = (wcF (waR R) 1 (Nn R) : Int)) ∧ (x = 4 → aNow R x = (suF (waR R) (Nn R)).toInt) ∧ ((x < 0 ∨ 4 < x) → aNow R x = -1) := by
  rw [now_n h8]
  refine ⟨fun h => ?_, fun h => ?_, fun h => ?_, fun h => ?_, fun h => ?_, fun h => ?_⟩
  · rw [if_pos h]
  · rw [if_neg (by omega), if_pos h]
  · rw [if_neg (by omega), if_neg (by omega), if_pos h]
  · rw [if_neg (by omega), if_neg (by omega), if_neg (by omega), if_pos h]
  · rw [if_neg (by omega), if_neg (by omega), if_neg (by omega), if_neg (by omega), if_pos h]
  · rw [if_neg (by omega), if_neg (by omega), if_neg (by omega), if_neg (by omega), if_neg (by omega)]
set_option maxRecDepth 8000 in
theorem v_cnow {n : Nat} {I : Nat → Nat → Int32} {J : Nat → Nat → Int64} {K : dw_K} {a1 : Int32} {R : Nat → Int32} (hR : SREL I 3 R)
    (hk : ∀ w : Int32, w.toInt = aNow R a1.toInt → K (some (.int w)) (n, SH1, I, J)) : t_X11_now [.ref 0, .int a1] (n, SH1, I, J) K := by
  obtain ⟨hG, -, -, -, hr⟩ := id hR
  have hr : RR I 43 R := hr
  have hN9 := (gok_N hG).2
  have e0 : I 43 0 = 0 ∧ R 894 = 0 ∨ I 43 0 = 1 ∧ R 894 = 1 := by
    rcases hr with ⟨a, b⟩ | ⟨a, b, -⟩
    · exact Or.inl ⟨a, b⟩
    · exact Or.inr ⟨a, b⟩
  refine q_body (Nat.le_of_ble_eq_true rfl) ?_
  refine q_ald rfl rfl ?_
  refine q_getr rfl sk_0 sr_0_1 ?_
  refine q_getr rfl sk_3 sr_3_4 ?_
  refine q_getz rfl sk_43 ?_
  refine q_if (c := 1) rfl (by decide) (fun y1 => ?_) (fun y1 => ?_)
  · have y1 : ((I 43 0)).toInt ≠ 0 := y1
    have r894 : R 894 ≠ 0 := by
      rcases e0 with ⟨e, -⟩ | ⟨-, e⟩
      · rw [e] at y1; exact absurd rfl y1
      · rw [e]; decide
    have nk := now_k (x := a1.toInt) r894
    have hq : (I 43 1).toInt = Nn R ∧ I 43 2 = R 895 ∧ I 43 3 = R 896 ∧ I 43 4 = R 897 ∧ ∀ c, c < Nn R → I (43 + 14) c = waR R c := by
      rcases hr with ⟨-, e⟩ | ⟨-, -, q1, q2, -, q3, q4, -, -, -, -, q5, -⟩
      · exact absurd e r894
      · exact ⟨q1, q2, q3, q4, fun c hc => (q5 c hc).2.2.2.2.2.2.2⟩
    obtain ⟨n1, n2, n3, n4, n5⟩ := hq
    refine q_ild rfl rfl ?_
    refine q_tab rfl (fun h3 => ?_) (fun h3 => ?_)
    · show dw_ok (pr_X11_now K) 108 0 0 [some (.ref 0), some (.int a1)] [] (n, SH1, I, J)
      refine q_ic rfl ?_
      exact q_iret rfl (hk _ (nk.2.2.2.2.2 h3).symm)
    · have h5 : a1.toInt = 0 ∨ a1.toInt = 1 ∨ a1.toInt = 2 ∨ a1.toInt = 3 ∨ a1.toInt = 4 := by omega
      rcases h5 with h5 | h5 | h5 | h5 | h5
      · refine ⟨52, by rw [h5]; rfl, ?_⟩
        show dw_ok (pr_X11_now K) 52 0 0 [some (.ref 0), some (.int a1)] [] (n, SH1, I, J)
        refine q_ald rfl rfl ?_
        refine q_getr rfl sk_0 sr_0_1 ?_
        refine q_getr rfl sk_3 sr_3_4 ?_
        refine q_geti rfl sk_43 ?_
        exact q_iret rfl (hk (I 43 2) (by rw [nk.1 h5, n2]))
      · refine ⟨63, by rw [h5]; rfl, ?_⟩
        show dw_ok (pr_X11_now K) 63 0 0 [some (.ref 0), some (.int a1)] [] (n, SH1, I, J)
        refine q_ald rfl rfl ?_
        refine q_getr rfl sk_0 sr_0_1 ?_
        refine q_getr rfl sk_3 sr_3_4 ?_
        refine q_geti rfl sk_43 ?_
        exact q_iret rfl (hk (I 43 3) (by rw [nk.2.1 h5, n3]))
      · refine ⟨74, by rw [h5]; rfl, ?_⟩
        show dw_ok (pr_X11_now K) 74 0 0 [some (.ref 0), some (.int a1)] [] (n, SH1, I, J)
        refine q_ald rfl rfl ?_
        refine q_getr rfl sk_0 sr_0_1 ?_
        refine q_getr rfl sk_3 sr_3_4 ?_
        refine q_geti rfl sk_43 ?_
        exact q_iret rfl (hk (I 43 4) (by rw [nk.2.2.1 h5, n4]))
      · refine ⟨85, by rw [h5]; rfl, ?_⟩
        show dw_ok (pr_X11_now K) 85 0 0 [some (.ref 0), some (.int a1)] [] (n, SH1, I, J)
        refine q_ald rfl rfl ?_
        refine q_getr rfl sk_0 sr_0_1 ?_
        refine q_getr rfl sk_3 sr_3_4 ?_
        refine q_ic rfl ?_
        refine q_callV (as := [.int (1 : Int32)]) (rest := []) rfl rfl sk_43 rfl (Nat.le_of_ble_eq_true rfl) ?_
        refine v_wetCells (rt_ok (by decide)) n1 hN9 (fun wc hwc => ?_)
        show dw_ok (pr_X11_now K) 96 0 0 [some (.ref 0), some (.int a1)] [.int wc] (n, SH1, I, J)
        exact q_iret rfl (hk _ (by rw [nk.2.2.2.1 h5, hwc, wcF_eq _ n5]))
      · refine ⟨97, by rw [h5]; rfl, ?_⟩
        show dw_ok (pr_X11_now K) 97 0 0 [some (.ref 0), some (.int a1)] [] (n, SH1, I, J)
        refine q_ald rfl rfl ?_
        refine q_getr rfl sk_0 sr_0_1 ?_
        refine q_getr rfl sk_3 sr_3_4 ?_
        refine q_callV (as := []) (rest := []) rfl rfl sk_43 rfl (Nat.le_of_ble_eq_true rfl) ?_
        refine v_wsum (rt_ok (by decide)) n1 hN9 ?_
        show dw_ok (pr_X11_now K) 107 0 0 [some (.ref 0), some (.int a1)] [.int (suF (I (43 + 14)) (Nn R))] (n, SH1, I, J)
        exact q_iret rfl (hk _ (by rw [nk.2.2.2.2.1 h5, suF_eq _ n5]))
  · have y1 : ((I 43 0)).toInt = 0 := y1
    refine q_ic rfl ?_
    refine q_iret rfl (hk _ ?_)
    have z : R 894 = 0 := by
      rcases e0 with ⟨-, e⟩ | ⟨e, -⟩
      · exact e
      · rw [e] at y1; exact absurd y1 (by decide)
    unfold aNow
    rw [if_pos z]
    rfl
set_option maxRecDepth 8000 in
theorem mnow_loop {n : Nat} {I : Nat → Nat → Int32} {J : Nat → Nat → Int64} {K : dw_K} {a1 : Int32} {R : Nat → Int32} (e1 : I 406 = R) (hG : GOK R)
    (hk : ∀ v2 v3 c : Int32, v2.toInt = wcF (waR R) 1 (Nn R) → v3 = suF (waR R) (Nn R) → dw_ok (pr_X12_now K) 76 0 0 [some (.ref 404), some (.int a1), some (.int v2), some (.int v3), some (.int c)] [] (n, SH1, I, J)) :
    ∀ (f k : Nat) (v2 v3 c : Int32), k + f = Nn R → c.toInt = k → v2.toInt = wcF (waR R) 1 k → v3 = suF (waR R) k → dw_ok (pr_X12_now K) 25 0 0 [some (.ref 404), some (.int a1), some (.int v2), some (.int v3), some (.int c)] [] (n, SH1, I, J) := by
  obtain ⟨hN, hN9⟩ := gok_N hG
  have k1 : (1 : Int32).toInt = 1 := rfl
  have k0 : (0 : Int32).toInt = 0 := rfl
  intro f
  induction f with
  | zero =>
    intro k v2 v3 c hf hc h2 h3
    refine q_ild rfl rfl ?_
    refine q_ald rfl rfl ?_
    refine q_callV (as := []) (rest := [.int c]) rfl rfl sk_404 rfl (Nat.le_of_ble_eq_true rfl) ?_
    refine v_mcells ?_
    show dw_ok (pr_X12_now K) 31 0 0 [some (.ref 404), some (.int a1), some (.int v2), some (.int v3), some (.int c)] [.int (I 406 0 * I 406 1), .int c] (n, SH1, I, J)
    rw [show I 406 = R from e1]
    obtain ⟨nv, hnv⟩ : ∃ z, z = R 0 * R 1 := ⟨_, rfl⟩
    rw [← hnv]
    have env : nv.toInt = Nn R := by rw [hnv]; exact hN
    show dw_ok (pr_X12_now K) 31 0 0 [some (.ref 404), some (.int a1), some (.int v2), some (.int v3), some (.int c)] [.int nv, .int c] (n, SH1, I, J)
    refine q_icmp (c := 3) rfl (by decide) (fun y1 => ?_) (fun h => absurd (show (c).toInt < (nv).toInt from h) (by omega))
    have y1 : (nv).toInt ≤ (c).toInt := y1
    have kN : k = Nn R := by omega
    rw [kN] at h2 h3
    exact hk v2 v3 c h2 h3
  | succ f ih =>
    intro k v2 v3 c hf hc h2 h3
    have wl := wc_le (W := waR R) (l := 1) k
    refine q_ild rfl rfl ?_
    refine q_ald rfl rfl ?_
    refine q_callV (as := []) (rest := [.int c]) rfl rfl sk_404 rfl (Nat.le_of_ble_eq_true rfl) ?_
    refine v_mcells ?_
    show dw_ok (pr_X12_now K) 31 0 0 [some (.ref 404), some (.int a1), some (.int v2), some (.int v3), some (.int c)] [.int (I 406 0 * I 406 1), .int c] (n, SH1, I, J)
    rw [show I 406 = R from e1]
    obtain ⟨nv, hnv⟩ : ∃ z, z = R 0 * R 1 := ⟨_, rfl⟩
    rw [← hnv]
    have env : nv.toInt = Nn R := by rw [hnv]; exact hN
    show dw_ok (pr_X12_now K) 31 0 0 [some (.ref 404), some (.int a1), some (.int v2), some (.int v3), some (.int c)] [.int nv, .int c] (n, SH1, I, J)
    refine q_icmp (c := 3) rfl (by decide) (fun h => absurd (show (nv).toInt ≤ (c).toInt from h) (by omega)) (fun y2 => ?_)
    have y2 : (c).toInt < (nv).toInt := y2
    refine q_ild rfl rfl ?_
    refine q_ald rfl rfl ?_
    refine q_getr rfl sk_404 sr_404_6 ?_
    refine q_ic rfl ?_
    refine q_ild rfl rfl ?_
    refine q_add rfl ?_
    show dw_ok (pr_X12_now K) 45 0 0 [some (.ref 404), some (.int a1), some (.int v2), some (.int v3), some (.int c)] [.int ((1139 : Int32) + c), .ref 406, .int v2] (n, SH1, I, J)
    obtain ⟨z1, hz1⟩ : ∃ z, z = ((1139 : Int32) + c) := ⟨_, rfl⟩
    rw [← hz1]
    have ez1 : z1.toInt = ((1139 + k : Nat) : Int) := by rw [hz1]; exact (ix_a (x := 1139) (a := 1139) rfl hc (by omega))
    refine q_xald rfl (Or.inl rfl) sk_406 sn_406 (by omega) (by omega) ?_
    show dw_ok (pr_X12_now K) 46 0 0 [some (.ref 404), some (.int a1), some (.int v2), some (.int v3), some (.int c)] [.int (I 406 (z1).toInt.toNat), .int v2] (n, SH1, I, J)
    rw [(nat_of ez1)]
    refine q_if (c := 5) rfl (by decide) (fun y3 => ?_) (fun y3 => ?_)
    · have y3 : ((I 406 (1139 + k))).toInt ≤ 0 := y3
      refine q_ic rfl ?_
      refine q_add rfl ?_
      refine q_ist rfl rfl ?_
      show dw_ok (pr_X12_now K) 56 0 0 [some (.ref 404), some (.int a1), some (.int (v2 + (0 : Int32))), some (.int v3), some (.int c)] [] (n, SH1, I, J)
      refine q_ild rfl rfl ?_
      refine q_ald rfl rfl ?_
      refine q_getr rfl sk_404 sr_404_6 ?_
      refine q_ic rfl ?_
      refine q_ild rfl rfl ?_
      refine q_add rfl ?_
      show dw_ok (pr_X12_now K) 67 0 0 [some (.ref 404), some (.int a1), some (.int (v2 + (0 : Int32))), some (.int v3), some (.int c)] [.int ((1139 : Int32) + c), .ref 406, .int v3] (n, SH1, I, J)
      obtain ⟨z1, hz1⟩ : ∃ z, z = ((1139 : Int32) + c) := ⟨_, rfl⟩
      rw [← hz1]
      have ez1 : z1.toInt = ((1139 + k : Nat) : Int) := by rw [hz1]; exact (ix_a (x := 1139) (a := 1139) rfl hc (by omega))
      refine q_xald rfl (Or.inl rfl) sk_406 sn_406 (by omega) (by omega) ?_
      show dw_ok (pr_X12_now K) 68 0 0 [some (.ref 404), some (.int a1), some (.int (v2 + (0 : Int32))), some (.int v3), some (.int c)] [.int (I 406 (z1).toInt.toNat), .int v3] (n, SH1, I, J)
      rw [(nat_of ez1)]
      refine q_add rfl ?_
      refine q_ist rfl rfl ?_
      show dw_ok (pr_X12_now K) 70 0 0 [some (.ref 404), some (.int a1), some (.int (v2 + (0 : Int32))), some (.int (v3 + (I 406 (1139 + k)))), some (.int c)] [] (n, SH1, I, J)
      refine q_inc rfl rfl rfl ?_
      show dw_ok (pr_X12_now K) 73 0 0 [some (.ref 404), some (.int a1), some (.int (v2 + (0 : Int32))), some (.int (v3 + (I 406 (1139 + k)))), some (.int (c + 1))] [] (n, SH1, I, J)
      show dw_ok (pr_X12_now K) 73 0 0 [some (.ref 404), some (.int a1), some (.int (v2 + (0 : Int32))), some (.int (v3 + (I 406 (1139 + k)))), some (.int (c + 1))] [] (n, SH1, I, J)
      obtain ⟨cx, hcx⟩ : ∃ z, z = (c + 1) := ⟨_, rfl⟩
      rw [← hcx]
      have ecx : cx.toInt = ((k + 1 : Nat) : Int) := by rw [hcx]; exact ix_1 hc (by omega)
      refine q_goto rfl ?_
      refine ih (k + 1) (v2 + (0 : Int32)) (v3 + (I 406 (1139 + k))) cx (by omega) ecx ?_ ?_
      · have q : (I 406 (1139 + k)).toInt = (R (1139 + k)).toInt := by rw [e1]
        rw [i_add (by rw [h2, k0]; omega) (by rw [h2, k0]; omega), h2, k0]
        show _ = ((wcF (waR R) 1 k + (if (1 : Int32).toInt ≤ (R (1139 + k)).toInt then 1 else 0) : Nat) : Int)
        rw [if_neg (by rw [k1]; omega)]
        omega
      · rw [h3, show I 406 (1139 + k) = R (1139 + k) by rw [e1]]
        rfl
    · have y3 : 0 < ((I 406 (1139 + k))).toInt := y3
      refine q_ic rfl ?_
      refine q_goto rfl ?_
      refine q_add rfl ?_
      refine q_ist rfl rfl ?_
      show dw_ok (pr_X12_now K) 56 0 0 [some (.ref 404), some (.int a1), some (.int (v2 + (1 : Int32))), some (.int v3), some (.int c)] [] (n, SH1, I, J)
      refine q_ild rfl rfl ?_
      refine q_ald rfl rfl ?_
      refine q_getr rfl sk_404 sr_404_6 ?_
      refine q_ic rfl ?_
      refine q_ild rfl rfl ?_
      refine q_add rfl ?_
      show dw_ok (pr_X12_now K) 67 0 0 [some (.ref 404), some (.int a1), some (.int (v2 + (1 : Int32))), some (.int v3), some (.int c)] [.int ((1139 : Int32) + c), .ref 406, .int v3] (n, SH1, I, J)
      obtain ⟨z1, hz1⟩ : ∃ z, z = ((1139 : Int32) + c) := ⟨_, rfl⟩
      rw [← hz1]
      have ez1 : z1.toInt = ((1139 + k : Nat) : Int) := by rw [hz1]; exact (ix_a (x := 1139) (a := 1139) rfl hc (by omega))
      refine q_xald rfl (Or.inl rfl) sk_406 sn_406 (by omega) (by omega) ?_
      show dw_ok (pr_X12_now K) 68 0 0 [some (.ref 404), some (.int a1), some (.int (v2 + (1 : Int32))), some (.int v3), some (.int c)] [.int (I 406 (z1).toInt.toNat), .int v3] (n, SH1, I, J)
      rw [(nat_of ez1)]
      refine q_add rfl ?_
      refine q_ist rfl rfl ?_
      show dw_ok (pr_X12_now K) 70 0 0 [some (.ref 404), some (.int a1), some (.int (v2 + (1 : Int32))), some (.int (v3 + (I 406 (1139 + k)))), some (.int c)] [] (n, SH1, I, J)
      refine q_inc rfl rfl rfl ?_
      show dw_ok (pr_X12_now K) 73 0 0 [some (.ref 404), some (.int a1), some (.int (v2 + (1 : Int32))), some (.int (v3 + (I 406 (1139 + k)))), some (.int (c + 1))] [] (n, SH1, I, J)
      show dw_ok (pr_X12_now K) 73 0 0 [some (.ref 404), some (.int a1), some (.int (v2 + (1 : Int32))), some (.int (v3 + (I 406 (1139 + k)))), some (.int (c + 1))] [] (n, SH1, I, J)
      obtain ⟨cx, hcx⟩ : ∃ z, z = (c + 1) := ⟨_, rfl⟩
      rw [← hcx]
      have ecx : cx.toInt = ((k + 1 : Nat) : Int) := by rw [hcx]; exact ix_1 hc (by omega)
      refine q_goto rfl ?_
      refine ih (k + 1) (v2 + (1 : Int32)) (v3 + (I 406 (1139 + k))) cx (by omega) ecx ?_ ?_
      · have q : (I 406 (1139 + k)).toInt = (R (1139 + k)).toInt := by rw [e1]
        rw [i_add (by rw [h2, k1]; omega) (by rw [h2, k1]; omega), h2, k1]
        show _ = ((wcF (waR R) 1 k + (if (1 : Int32).toInt ≤ (R (1139 + k)).toInt then 1 else 0) : Nat) : Int)
        rw [if_pos (by rw [k1]; omega)]
        omega
      · rw [h3, show I 406 (1139 + k) = R (1139 + k) by rw [e1]]
        rfl
set_option maxRecDepth 8000 in
theorem v_mnow {n : Nat} {I : Nat → Nat → Int32} {J : Nat → Nat → Int64} {K : dw_K} {a1 : Int32} {R : Nat → Int32} (hR : I 406 = R) (hG : GOK R)
    (hk : ∀ (I' : Nat → Nat → Int32) (w : Int32), w.toInt = aNow R a1.toInt → K (some (.int w)) (n, SH1, I', J)) : t_X12_now [.ref 404, .int a1] (n, SH1, I, J) K := by
  have k1 : (1 : Int32).toInt = 1 := rfl
  refine q_body (Nat.le_of_ble_eq_true rfl) ?_
  refine q_ald rfl rfl ?_
  refine q_ic rfl ?_
  refine q_puti rfl sk_404 ?_
  show dw_ok (pr_X12_now K) 5 0 0 [some (.ref 404), some (.int a1), none, none, none] [] (n, SH1, (dw_up I 404 0 (0 : Int32)), J)
  obtain ⟨I1, hI1⟩ : ∃ X, X = (dw_up I 404 0 (0 : Int32)) := ⟨_, rfl⟩
  show dw_ok (pr_X12_now K) 5 0 0 [some (.ref 404), some (.int a1), none, none, none] [] (n, SH1, (dw_up I 404 0 (0 : Int32)), J)
  rw [← hI1]
  have e1 : I1 406 = R := by rw [hI1]; exact (up_row (show (406 : Nat) ≠ 404 by decide)).trans hR
  have e894 : I1 406 894 = R 894 := congrFun e1 894
  have e895 : I1 406 895 = R 895 := congrFun e1 895
  have e896 : I1 406 896 = R 896 := congrFun e1 896
  have e897 : I1 406 897 = R 897 := congrFun e1 897
  refine q_ald rfl rfl ?_
  refine q_getr rfl sk_404 sr_404_6 ?_
  refine q_ic rfl ?_
  refine q_xald rfl (Or.inl rfl) sk_406 sn_406 (by decide) (by decide) ?_
  refine q_if (c := 1) rfl (by decide) (fun y1 => ?_) (fun y1 => ?_)
  · have y1 : ((I1 406 894)).toInt ≠ 0 := y1
    refine q_ic rfl ?_
    refine q_ist rfl rfl ?_
    show dw_ok (pr_X12_now K) 20 0 0 [some (.ref 404), some (.int a1), some (.int (0 : Int32)), none, none] [] (n, SH1, I1, J)
    refine q_ic rfl ?_
    refine q_ist rfl rfl ?_
    show dw_ok (pr_X12_now K) 22 0 0 [some (.ref 404), some (.int a1), some (.int (0 : Int32)), some (.int (0 : Int32)), none] [] (n, SH1, I1, J)
    refine q_ic rfl ?_
    refine q_ist rfl rfl ?_
    show dw_ok (pr_X12_now K) 25 0 0 [some (.ref 404), some (.int a1), some (.int (0 : Int32)), some (.int (0 : Int32)), some (.int (0 : Int32))] [] (n, SH1, I1, J)
    have r894 : R 894 ≠ 0 := fun q => by rw [e894, q] at y1; exact absurd rfl y1
    have nk := now_k (x := a1.toInt) r894
    refine mnow_loop e1 hG (fun v2 v3 c h2 h3 => ?_) (Nn R) 0 0 0 0 (by omega) rfl rfl rfl
    show dw_ok (pr_X12_now K) 76 0 0 [some (.ref 404), some (.int a1), some (.int v2), some (.int v3), some (.int c)] [] (n, SH1, I1, J)
    refine q_ild rfl rfl ?_
    refine q_if (c := 1) rfl (by decide) (fun y2 => ?_) (fun y2 => ?_)
    · have y2 : (a1).toInt ≠ 0 := y2
      refine q_ild rfl rfl ?_
      refine q_ic rfl ?_
      refine q_icmp (c := 1) rfl (by decide) (fun y3 => ?_) (fun y3 => ?_)
      · have y3 : (a1).toInt ≠ (1 : Int) := y3
        refine q_ild rfl rfl ?_
        refine q_ic rfl ?_
        refine q_icmp (c := 1) rfl (by decide) (fun y4 => ?_) (fun y4 => ?_)
        · have y4 : (a1).toInt ≠ (2 : Int) := y4
          refine q_ild rfl rfl ?_
          refine q_ic rfl ?_
          refine q_icmp (c := 1) rfl (by decide) (fun y5 => ?_) (fun y5 => ?_)
          · have y5 : (a1).toInt ≠ (3 : Int) := y5
            refine q_ild rfl rfl ?_
            refine q_ic rfl ?_
            refine q_icmp (c := 1) rfl (by decide) (fun y6 => ?_) (fun y6 => ?_)
            · have y6 : (a1).toInt ≠ (4 : Int) := y6
              refine q_ic rfl ?_
              exact q_iret rfl (hk _ _ (nk.2.2.2.2.2 (by omega)).symm)
            · have y6 : (a1).toInt = (4 : Int) := y6
              refine q_ild rfl rfl ?_
              refine q_goto rfl ?_
              exact q_iret rfl (hk I1 v3 (by rw [nk.2.2.2.2.1 y6, h3]))
          · have y5 : (a1).toInt = (3 : Int) := y5
            refine q_ild rfl rfl ?_
            refine q_goto rfl ?_
            exact q_iret rfl (hk I1 v2 (by rw [nk.2.2.2.1 y5, h2]))
        · have y4 : (a1).toInt = (2 : Int) := y4
          refine q_ald rfl rfl ?_
          refine q_getr rfl sk_404 sr_404_6 ?_
          refine q_ic rfl ?_
          refine q_xald rfl (Or.inl rfl) sk_406 sn_406 (by decide) (by decide) ?_
          refine q_goto rfl ?_
          exact q_iret rfl (hk I1 (I1 406 897) (by rw [nk.2.2.1 y4, e897]))
      · have y3 : (a1).toInt = (1 : Int) := y3
        refine q_ald rfl rfl ?_
        refine q_getr rfl sk_404 sr_404_6 ?_
        refine q_ic rfl ?_
        refine q_xald rfl (Or.inl rfl) sk_406 sn_406 (by decide) (by decide) ?_
        refine q_goto rfl ?_
        exact q_iret rfl (hk I1 (I1 406 896) (by rw [nk.2.1 y3, e896]))
    · have y2 : (a1).toInt = 0 := y2
      refine q_ald rfl rfl ?_
      refine q_getr rfl sk_404 sr_404_6 ?_
      refine q_ic rfl ?_
      refine q_xald rfl (Or.inl rfl) sk_406 sn_406 (by decide) (by decide) ?_
      refine q_goto rfl ?_
      exact q_iret rfl (hk I1 (I1 406 895) (by rw [nk.1 y2, e895]))
  · have y1 : ((I1 406 894)).toInt = 0 := y1
    refine q_ic rfl ?_
    refine q_iret rfl (hk _ _ ?_)
    unfold aNow
    rw [if_pos (i_eq (by rw [← e894]; exact y1))]
    rfl
set_option maxRecDepth 8000 in
theorem sky_y {R : Nat → Int32} {x t w : Int32} (h : okS R x ∧ okT t ∧ 0 ≤ w.toInt ∧ w.toInt ≤ 4) : aSky R x t w = (ndF (nU (nX R x)) w.toInt.toNat t.toInt.toNat).toInt := if_pos h
set_option maxRecDepth 8000 in
theorem sky_n {R : Nat → Int32} {x t w : Int32} (h : ¬ (okS R x ∧ okT t ∧ 0 ≤ w.toInt ∧ w.toInt ≤ 4)) : aSky R x t w = -1 := if_neg h
set_option maxRecDepth 8000 in
theorem v_csky {n : Nat} {I : Nat → Nat → Int32} {J : Nat → Nat → Int64} {K : dw_K} {x t w : Int32} {R : Nat → Int32} (hR : SREL I 3 R)
    (hk : ∀ v : Int32, v.toInt = aSky R x t w → K (some (.int v)) (n, SH1, I, J)) : t_X11_sky [.ref 0, .int x, .int t, .int w] (n, SH1, I, J) K := by
  have cm : (-1 : Int32).toInt = -1 := rfl
  have c5 : (5 : Int32).toInt = 5 := rfl
  refine q_body (Nat.le_of_ble_eq_true rfl) ?_
  refine q_ald rfl rfl ?_
  refine q_getr rfl sk_0 sr_0_1 ?_
  refine q_ild rfl rfl ?_
  refine q_callV (as := [.int x]) (rest := []) rfl rfl sk_3 rfl (Nat.le_of_ble_eq_true rfl) ?_
  refine v_nightOf (fun s hs hx => ?_) (fun hno => ?_)
  · obtain ⟨-, hB⟩ := no_ref hs
    show dw_ok (pr_X11_sky K) 8 0 0 [some (.ref 0), some (.int x), some (.int t), some (.int w), none] [.ref (58 + 7 * s)] (n, SH1, I, J)
    refine q_ast rfl rfl ?_
    refine q_ald rfl rfl ?_
    refine q_ifnull_r rfl ?_
    refine q_ald rfl rfl ?_
    refine q_getz rfl hB.1 ?_
    have es : x.toInt.toNat = s := by omega
    rcases rn_3 hR hs with ⟨e, em⟩ | ⟨e, hS, hn⟩
    · refine q_if (c := 0) rfl (by decide) (fun _ => ?_) (fun g => absurd (show (I (58 + 7 * s) 0).toInt = 0 by rw [e]; rfl) g)
      refine q_ic rfl ?_
      exact q_iret rfl (hk _ (cm.trans (sky_n (fun q => by
        have q1 := q.1.2
        rw [es] at q1
        have q2 : (R (221 + 97 * s + 0)).toInt < 0 := em
        rw [Nat.add_zero] at q2; omega)).symm))
    · refine q_if (c := 0) rfl (by decide) (fun g => absurd (show (I (58 + 7 * s) 0).toInt = 0 from g) (by rw [e]; decide)) (fun _ => ?_)
      obtain ⟨ok, en⟩ := okS_of hs hx hS
      refine q_ild rfl rfl ?_
      refine q_callS (as := [.int t]) (rest := []) rfl rfl rfl rfl ?_
      by_cases ht : 0 ≤ t.toInt ∧ t.toInt < 144
      · refine v_isStep ht.1 ht.2 ?_
        show dw_ok (pr_X11_sky K) 27 0 0 [some (.ref 0), some (.int x), some (.int t), some (.int w), some (.ref (58 + 7 * s))] [.int 1] (n, SH1, I, J)
        refine q_if (c := 0) rfl (by decide) (fun h => absurd (show (1 : Int32).toInt = 0 from h) (by decide)) (fun _ => ?_)
        refine q_ild rfl rfl ?_
        refine q_if (c := 2) rfl (by decide) (fun g => ?_) (fun g => ?_)
        · have g : w.toInt < 0 := g
          refine q_ic rfl ?_
          exact q_iret rfl (hk _ (cm.trans (sky_n (fun q => by omega)).symm))
        have g : 0 ≤ w.toInt := g
        refine q_ild rfl rfl ?_
        refine q_ic rfl ?_
        refine q_icmp (c := 2) rfl (by decide) (fun g2 => ?_) (fun g2 => ?_)
        · have g2 : w.toInt < (5 : Int32).toInt := g2
          refine q_ald rfl rfl ?_
          refine q_ild rfl rfl ?_
          refine q_ild rfl rfl ?_
          refine q_callV (as := [.int w, .int t]) (rest := []) rfl rfl hB.1 rfl (Nat.le_of_ble_eq_true rfl) ?_
          refine v_ntell (w := w.toInt.toNat) hB (by omega) (by omega) ht.1 ht.2 ?_
          refine q_iret rfl (hk _ ?_)
          rw [sky_y ⟨ok, ht, g, by omega⟩, en, hn w.toInt.toNat (by omega) t.toInt.toNat (by omega)]
        · have g2 : (5 : Int32).toInt ≤ w.toInt := g2
          refine q_ic rfl ?_
          exact q_iret rfl (hk _ (cm.trans (sky_n (fun q => by omega)).symm))
      · refine v_noStep ht ?_
        show dw_ok (pr_X11_sky K) 27 0 0 [some (.ref 0), some (.int x), some (.int t), some (.int w), some (.ref (58 + 7 * s))] [.int 0] (n, SH1, I, J)
        refine q_if (c := 0) rfl (by decide) (fun _ => ?_) (fun h => absurd rfl h)
        refine q_ic rfl ?_
        exact q_iret rfl (hk _ (cm.trans (sky_n (fun q => ht q.2.1)).symm))
  · show dw_ok (pr_X11_sky K) 8 0 0 [some (.ref 0), some (.int x), some (.int t), some (.int w), none] [.null] (n, SH1, I, J)
    refine q_astn rfl rfl ?_
    refine q_aldn rfl rfl ?_
    refine q_ifnull_n rfl ?_
    refine q_ic rfl ?_
    exact q_iret rfl (hk _ (cm.trans (sky_n (fun q => hno q.1.1)).symm))
set_option maxRecDepth 8000 in
theorem v_msky {n : Nat} {I : Nat → Nat → Int32} {J : Nat → Nat → Int64} {K : dw_K} {x t w : Int32} {R : Nat → Int32} (hR : I 406 = R) (hN : okS R x → NOK (nX R x))
    (hk : ∀ (I' : Nat → Nat → Int32) (v : Int32), v.toInt = aSky R x t w → K (some (.int v)) (n, SH1, I', J)) : t_X12_sky [.ref 404, .int x, .int t, .int w] (n, SH1, I, J) K := by
  have cm : (-1 : Int32).toInt = -1 := rfl
  refine q_body (Nat.le_of_ble_eq_true rfl) ?_
  refine q_ald rfl rfl ?_
  refine q_ic rfl ?_
  refine q_puti rfl sk_404 ?_
  show dw_ok (pr_X12_sky K) 5 0 0 [some (.ref 404), some (.int x), some (.int t), some (.int w)] [] (n, SH1, (dw_up I 404 0 (0 : Int32)), J)
  obtain ⟨I1, hI1⟩ : ∃ X, X = (dw_up I 404 0 (0 : Int32)) := ⟨_, rfl⟩
  show dw_ok (pr_X12_sky K) 5 0 0 [some (.ref 404), some (.int x), some (.int t), some (.int w)] [] (n, SH1, (dw_up I 404 0 (0 : Int32)), J)
  rw [← hI1]
  have e1 : I1 406 = R := by rw [hI1]; exact (up_row (show (406 : Nat) ≠ 404 by decide)).trans hR
  refine q_ald rfl rfl ?_
  refine q_ild rfl rfl ?_
  refine q_callV (as := [.int x]) (rest := []) rfl rfl sk_404 rfl (Nat.le_of_ble_eq_true rfl) ?_
  refine v_isNight (fun w_ oS => ?_)
  rcases oS with ⟨rfl, oS⟩ | ⟨rfl, oS⟩
  · show dw_ok (pr_X12_sky K) 10 0 0 [some (.ref 404), some (.int x), some (.int t), some (.int w)] [.int (1 : Int32)] (n, SH1, I1, J)
    refine q_if (c := 0) rfl (by decide) (fun h => absurd (show (1 : Int) = 0 from h) (by decide)) (fun y1 => ?_)
    have y1 : (1 : Int) ≠ 0 := y1
    refine q_ild rfl rfl ?_
    refine q_ic rfl ?_
    refine q_ic rfl ?_
    refine q_callS (as := [.int t, .int (0 : Int32), .int (143 : Int32)]) (rest := []) rfl rfl rfl rfl ?_
    refine v_isIn (fun w_ oT => ?_)
    rcases oT with ⟨rfl, oT⟩ | ⟨rfl, oT⟩
    · show dw_ok (pr_X12_sky K) 21 0 0 [some (.ref 404), some (.int x), some (.int t), some (.int w)] [.int (1 : Int32)] (n, SH1, I1, J)
      refine q_if (c := 1) rfl (by decide) (fun y2 => ?_) (fun h => absurd (show (1 : Int) = 0 from h) (by decide))
      have y2 : (1 : Int) ≠ 0 := y2
      refine q_ald rfl rfl ?_
      refine q_ald rfl rfl ?_
      refine q_ild rfl rfl ?_
      refine q_callV (as := [.int x]) (rest := [.ref 404]) rfl rfl sk_404 rfl (Nat.le_of_ble_eq_true rfl) ?_
      refine v_nightAt ?_
      show dw_ok (pr_X12_sky K) 32 0 0 [some (.ref 404), some (.int x), some (.int t), some (.int w)] [.int (221 + 97 * x), .ref 404] (n, SH1, I1, J)
      refine q_callV (as := [.int (221 + 97 * x)]) (rest := []) rfl rfl sk_404 rfl (Nat.le_of_ble_eq_true rfl) ?_
      rw [e1] at oS
      obtain ⟨⟨x0, x5⟩, -⟩ := id oS
      have hS := hN oS
      refine v_sees (F := 221 + 97 * x.toInt.toNat) (L := nL (nX R x)) (ix_a (x := 221) (a := 221) rfl (ix_m (m := 97) (show x.toInt = (x.toInt.toNat : Nat) by omega) rfl (by omega)) (by omega)) (by omega) (by rw [e1]; exact hS.1) (fun I2 hA2 hB2 => ?_)
      rw [e1] at hB2
      have t0 : 0 ≤ t.toInt := oT.1
      have t1 : t.toInt ≤ 143 := oT.2
      show dw_ok (pr_X12_sky K) 35 0 0 [some (.ref 404), some (.int x), some (.int t), some (.int w)] [] (n, SH1, I2, J)
      refine q_ild rfl rfl ?_
      refine q_tab rfl (fun h3 => ?_) (fun h3 => ?_)
      · show dw_ok (pr_X12_sky K) 107 0 0 [some (.ref 404), some (.int x), some (.int t), some (.int w)] [] (n, SH1, I2, J)
        refine q_ic rfl ?_
        exact q_iret rfl (hk _ _ (cm.trans (sky_n (fun q => by omega)).symm))
      · have h5 : w.toInt = 0 ∨ w.toInt = 1 ∨ w.toInt = 2 ∨ w.toInt = 3 ∨ w.toInt = 4 := by omega
        rcases h5 with h5 | h5 | h5 | h5 | h5
        · refine ⟨72, by rw [h5]; rfl, ?_⟩
          show dw_ok (pr_X12_sky K) 72 0 0 [some (.ref 404), some (.int x), some (.int t), some (.int w)] [] (n, SH1, I2, J)
          refine q_ald rfl rfl ?_
          refine q_getr rfl sk_404 sr_404_23 ?_
          refine q_ild rfl rfl ?_
          refine q_xald rfl (Or.inl rfl) sk_411 sn_411 (by omega) (by omega) ?_
          refine q_iret rfl (hk I2 (I2 411 t.toInt.toNat) ?_)
          rw [sky_y ⟨oS, ⟨t0, by omega⟩, by omega, by omega⟩, show w.toInt.toNat = 0 by omega]
          exact congrArg Int32.toInt (hB2 0 (by decide) t.toInt.toNat (by omega))
        · refine ⟨79, by rw [h5]; rfl, ?_⟩
          show dw_ok (pr_X12_sky K) 79 0 0 [some (.ref 404), some (.int x), some (.int t), some (.int w)] [] (n, SH1, I2, J)
          refine q_ald rfl rfl ?_
          refine q_getr rfl sk_404 sr_404_24 ?_
          refine q_ild rfl rfl ?_
          refine q_xald rfl (Or.inl rfl) sk_412 sn_412 (by omega) (by omega) ?_
          refine q_iret rfl (hk I2 (I2 412 t.toInt.toNat) ?_)
          rw [sky_y ⟨oS, ⟨t0, by omega⟩, by omega, by omega⟩, show w.toInt.toNat = 1 by omega]
          exact congrArg Int32.toInt (hB2 1 (by decide) t.toInt.toNat (by omega))
        · refine ⟨86, by rw [h5]; rfl, ?_⟩
          show dw_ok (pr_X12_sky K) 86 0 0 [some (.ref 404), some (.int x), some (.int t), some (.int w)] [] (n, SH1, I2, J)
          refine q_ald rfl rfl ?_
          refine q_getr rfl sk_404 sr_404_25 ?_
          refine q_ild rfl rfl ?_
          refine q_xald rfl (Or.inl rfl) sk_413 sn_413 (by omega) (by omega) ?_
          refine q_iret rfl (hk I2 (I2 413 t.toInt.toNat) ?_)
          rw [sky_y ⟨oS, ⟨t0, by omega⟩, by omega, by omega⟩, show w.toInt.toNat = 2 by omega]
          exact congrArg Int32.toInt (hB2 2 (by decide) t.toInt.toNat (by omega))
        · refine ⟨93, by rw [h5]; rfl, ?_⟩
          show dw_ok (pr_X12_sky K) 93 0 0 [some (.ref 404), some (.int x), some (.int t), some (.int w)] [] (n, SH1, I2, J)
          refine q_ald rfl rfl ?_
          refine q_getr rfl sk_404 sr_404_26 ?_
          refine q_ild rfl rfl ?_
          refine q_xald rfl (Or.inl rfl) sk_414 sn_414 (by omega) (by omega) ?_
          refine q_iret rfl (hk I2 (I2 414 t.toInt.toNat) ?_)
          rw [sky_y ⟨oS, ⟨t0, by omega⟩, by omega, by omega⟩, show w.toInt.toNat = 3 by omega]
          exact congrArg Int32.toInt (hB2 3 (by decide) t.toInt.toNat (by omega))
        · refine ⟨100, by rw [h5]; rfl, ?_⟩
          show dw_ok (pr_X12_sky K) 100 0 0 [some (.ref 404), some (.int x), some (.int t), some (.int w)] [] (n, SH1, I2, J)
          refine q_ald rfl rfl ?_
          refine q_getr rfl sk_404 sr_404_27 ?_
          refine q_ild rfl rfl ?_
          refine q_xald rfl (Or.inl rfl) sk_415 sn_415 (by omega) (by omega) ?_
          refine q_iret rfl (hk I2 (I2 415 t.toInt.toNat) ?_)
          rw [sky_y ⟨oS, ⟨t0, by omega⟩, by omega, by omega⟩, show w.toInt.toNat = 4 by omega]
          exact congrArg Int32.toInt (hB2 4 (by decide) t.toInt.toNat (by omega))
    · show dw_ok (pr_X12_sky K) 21 0 0 [some (.ref 404), some (.int x), some (.int t), some (.int w)] [.int (0 : Int32)] (n, SH1, I1, J)
      refine q_if (c := 1) rfl (by decide) (fun h => absurd (show (0 : Int) ≠ 0 from h) (by decide)) (fun y3 => ?_)
      have y3 : (0 : Int) = 0 := y3
      refine q_ic rfl ?_
      exact q_iret rfl (hk _ _ (cm.trans (sky_n (fun q => oT ⟨q.2.1.1, by have z := q.2.1.2; show t.toInt ≤ 143; omega⟩)).symm))
  · show dw_ok (pr_X12_sky K) 10 0 0 [some (.ref 404), some (.int x), some (.int t), some (.int w)] [.int (0 : Int32)] (n, SH1, I1, J)
    refine q_if (c := 0) rfl (by decide) (fun y4 => ?_) (fun h => absurd (show (0 : Int) ≠ 0 from h) (by decide))
    have y4 : (0 : Int) = 0 := y4
    refine q_ic rfl ?_
    rw [e1] at oS
    exact q_iret rfl (hk _ _ (cm.trans (sky_n (fun q => oS q.1)).symm))
end
section
/-! ===== further questions ===== -/
/-- the first from t on, of f many, that p says; else -1 -/
def fsF (p : Nat → Bool) : Nat → Nat → Int
  | _, 0 => -1
  | t, f + 1 => if p t = true then ((t : Nat) : Int) else fsF p (t + 1) f
set_option maxRecDepth 8000 in
theorem fs_y {p : Nat → Bool} {t f : Nat} (h : p t = true) : fsF p t (f + 1) = ((t : Nat) : Int) := if_pos h
set_option maxRecDepth 8000 in
theorem fs_n {p : Nat → Bool} {t f : Nat} (h : p t = false) : fsF p t (f + 1) = fsF p (t + 1) f := if_neg (by rw [h]; decide)
set_option maxRecDepth 8000 in
theorem fs_skip {p : Nat → Bool} {f : Nat} : ∀ (k t : Nat), (∀ i, i < k → p (t + i) = false) → fsF p t (k + f) = fsF p (t + k) f
  | 0, t, _ => by rw [Nat.zero_add, Nat.add_zero]
  | k + 1, t, h => by
    have e : p t = false := h 0 (by omega)
    rw [show k + 1 + f = (k + f) + 1 by omega, fs_n e, fs_skip k (t + 1) (fun i hi => by rw [show t + 1 + i = t + (i + 1) by omega]; exact h (i + 1) (by omega)), show t + 1 + k = t + (k + 1) by omega]
set_option maxRecDepth 8000 in
/-- of a RUN that is set: another STORY -/
theorem csk_st {I : Nat → Nat → Int32} {A st : Nat} {v : Int32} {R S : Nat → Int32} (hG : GOK R) (h : CST I A R S) (hv : v.toInt = st) : CSK (dw_up I A 5 v) A (Nn R) st (fun _ => gC R) (gT S) (g0S R S) 0 0 := by
  have hr : ∀ a, a ≠ A → dw_up I A 5 v a = I a := fun a ha => up_row ha
  have hf : ∀ j, j ≠ 5 → dw_up I A 5 v A j = I A j := fun j hj => up_fld hj
  have e1 : cfC (dw_up I A 5 v) A = cfC I A := cf_eq (fun a h1 _ _ => hr a h1)
  have e2 : ∀ d, tnC (dw_up I A 5 v) A d = tnC I A d := fun d => tn_eq (fun a h1 _ _ => hr a h1) (hf 6 (by decide))
  have e3 : srC (dw_up I A 5 v) A = srC I A := by
    unfold srC
    rw [hr (A + 13) (by omega), hr (A + 14) (by omega), hf 3 (by decide), hf 4 (by decide)]
  have hh := cst_h hG h
  refine ⟨fun τ _ _ c hc => by rw [e1]; exact h.1 c hc, fun t _ ht => by rw [e2]; exact h.2.1 t ht, by rw [e3]; exact h.2.2.1, by rw [hf 1 (by decide)]; exact h.2.2.2.1, by rw [up_same]; exact hv, by rw [hf 2 (by decide)]; exact h.2.2.2.2.2, fun c hc => by rw [hr (A + 8) (by omega)]; exact hh c hc⟩
set_option maxRecDepth 8000 in
theorem up_cong {I I' : Nat → Nat → Int32} {a j x : Nat} {v : Int32} (h : I x = I' x) : dw_up I a j v x = dw_up I' a j v x := by
  funext k
  by_cases e : x = a
  · subst e
    by_cases q : k = j
    · subst q; rw [up_same, up_same]
    · rw [up_fld q, up_fld q, h]
  · rw [up_row e, up_row e, h]
set_option maxRecDepth 8000 in
/-- what a RUN is does not change where its rows stay -/
theorem csk_fr {I I' : Nat → Nat → Int32} {A N st d k : Nat} {C : Nat → Nat → rC} {T : Nat → rN} {s0 : rS} (hr : ∀ a, A ≤ a → a ≤ A + 14 → I' a = I a) (h : CSK I A N st C T s0 d k) : CSK I' A N st C T s0 d k := by
  have e0 : I' A = I A := hr A (by omega) (by omega)
  have ec : ∀ j, j ≤ 14 → I' (A + j) = I (A + j) := fun j hj => hr (A + j) (by omega) (by omega)
  have e1 : cfC I' A = cfC I A := by
    unfold cfC
    rw [ec 8 (by decide), ec 9 (by decide), ec 10 (by decide), ec 11 (by decide)]
  have e2 : ∀ t, tnC I' A t = tnC I A t := by
    intro t
    unfold tnC
    rw [e0, hr (A + 1 + 2 + 0) (by omega) (by omega), hr (A + 1 + 2 + 1) (by omega) (by omega), hr (A + 1 + 2 + 2) (by omega) (by omega), hr (A + 1 + 2 + 3) (by omega) (by omega), hr (A + 1 + 2 + 4) (by omega) (by omega)]
  have e3 : srC I' A = srC I A := by
    unfold srC
    rw [ec 13 (by decide), ec 14 (by decide), e0]
  obtain ⟨h1, h2, h3, h4, h5, h6, h7⟩ := h
  refine ⟨fun τ a b c hc => by rw [e1]; exact h1 τ a b c hc, fun t a b => by rw [e2]; exact h2 t a b, by rw [e3]; exact h3, by rw [e0]; exact h4, by rw [e0]; exact h5, by rw [e0]; exact h6, fun c hc => by rw [ec 8 (by decide)]; exact h7 c hc⟩
set_option maxRecDepth 8000 in
theorem v_cIsStep {t : Int32} {μ : dw_S} {K : dw_K} (hk : ∀ w : Int32, (w = 1 ∧ okT t) ∨ (w = 0 ∧ ¬ okT t) → K (some (.int w)) μ) : t_X11_isStep [.int t] μ K := by
  by_cases h : okT t
  · exact v_isStep h.1 h.2 (hk 1 (Or.inl ⟨rfl, h⟩))
  · exact v_noStep h (hk 0 (Or.inr ⟨rfl, h⟩))
set_option maxRecDepth 8000 in
theorem v_isStory {t : Int32} {μ : dw_S} {K : dw_K} (hk : ∀ w : Int32, (w = 1 ∧ 0 ≤ t.toInt ∧ t.toInt ≤ 2) ∨ (w = 0 ∧ ¬ (0 ≤ t.toInt ∧ t.toInt ≤ 2)) → K (some (.int w)) μ) : t_X11_isStory [.int t] μ K := by
  have c3 : (3 : Int32).toInt = 3 := rfl
  refine q_body (Nat.le_of_ble_eq_true rfl) ?_
  refine q_ild rfl rfl ?_
  refine q_if (c := 2) rfl (by decide) (fun h => ?_) (fun h => ?_)
  · have h : t.toInt < 0 := h
    refine q_ic rfl ?_
    exact q_zret rfl (Or.inl rfl) (hk 0 (Or.inr ⟨rfl, fun q => by omega⟩))
  have h : 0 ≤ t.toInt := h
  refine q_ild rfl rfl ?_
  refine q_ic rfl ?_
  refine q_icmp (c := 3) rfl (by decide) (fun g => ?_) (fun g => ?_)
  · have g : (3 : Int32).toInt ≤ t.toInt := g
    refine q_ic rfl ?_
    exact q_zret rfl (Or.inl rfl) (hk 0 (Or.inr ⟨rfl, fun q => by omega⟩))
  have g : t.toInt < (3 : Int32).toInt := g
  refine q_ic rfl ?_
  refine q_goto rfl ?_
  exact q_zret rfl (Or.inr rfl) (hk 1 (Or.inl ⟨rfl, h, by omega⟩))
/-- which STORY -/
abbrev okW (w : Int32) : Prop := 0 ≤ w.toInt ∧ w.toInt ≤ 2
def aStory (R : Nat → Int32) (s x y t w : Int32) : Int := if okS R s ∧ okC R x y ∧ okT t ∧ okW w then ((runW R (nX R s) w.toInt.toNat (t.toInt.toNat + 1)).2.1 (cN R x y)).toInt else -1
def hyP (R S : Nat → Int32) (m : Int32) : Nat → Bool := fun t => decide (71 < t ∧ wcF (runW R S 0 (t + 1)).2.1 (m + 1) (Nn R) = 0)
def aHay (R : Nat → Int32) (s m : Int32) : Int := if okS R s ∧ 0 ≤ m.toInt ∧ m.toInt ≤ 9999 then fsF (hyP R (nX R s) m) 0 144 else -1
set_option maxRecDepth 8000 in
theorem hy_y {R S : Nat → Int32} {m : Int32} {t : Nat} (h : 71 < t ∧ wcF (runW R S 0 (t + 1)).2.1 (m + 1) (Nn R) = 0) : hyP R S m t = true := decide_eq_true h
set_option maxRecDepth 8000 in
theorem hy_n {R S : Nat → Int32} {m : Int32} {t : Nat} (h : ¬ (71 < t ∧ wcF (runW R S 0 (t + 1)).2.1 (m + 1) (Nn R) = 0)) : hyP R S m t = false := decide_eq_false h
def ptP (R S : Nat → Int32) (a b c : Nat) : Nat → Bool := fun t => decide ((runW R S a (t + 1)).2.1 c ≠ (runW R S b (t + 1)).2.1 c)
set_option maxRecDepth 8000 in
theorem pt_y {R S : Nat → Int32} {a b c t : Nat} (h : (runW R S a (t + 1)).2.1 c ≠ (runW R S b (t + 1)).2.1 c) : ptP R S a b c t = true := decide_eq_true h
set_option maxRecDepth 8000 in
theorem pt_n {R S : Nat → Int32} {a b c t : Nat} (h : (runW R S a (t + 1)).2.1 c = (runW R S b (t + 1)).2.1 c) : ptP R S a b c t = false := decide_eq_false (fun q => q h)
def aPart (R : Nat → Int32) (s x y a b : Int32) : Int := if okS R s ∧ okC R x y ∧ okW a ∧ okW b then fsF (ptP R (nX R s) a.toInt.toNat b.toInt.toNat (cN R x y)) 0 144 else -1
/-- two tables differ below n -/
def dfF (f g : Nat → Int32) : Nat → Bool
  | 0 => false
  | n + 1 => dfF f g n || decide (f n ≠ g n)
set_option maxRecDepth 8000 in
theorem df_y {f g : Nat → Int32} : ∀ {n : Nat}, (∃ c, c < n ∧ f c ≠ g c) → dfF f g n = true
  | 0, h => by obtain ⟨c, hc, -⟩ := h; exact absurd hc (Nat.not_lt_zero c)
  | n + 1, h => by
    show (dfF f g n || decide (f n ≠ g n)) = true
    by_cases e : f n ≠ g n
    · rw [decide_eq_true e, Bool.or_true]
    · obtain ⟨c, hc, q⟩ := h
      have hc2 : c ≠ n := fun r => e (r ▸ q)
      rw [df_y ⟨c, by omega, q⟩, Bool.true_or]
set_option maxRecDepth 8000 in
theorem df_n {f g : Nat → Int32} : ∀ {n : Nat}, (∀ c, c < n → f c = g c) → dfF f g n = false
  | 0, _ => rfl
  | n + 1, h => by
    show (dfF f g n || decide (f n ≠ g n)) = false
    rw [df_n (fun c hc => h c (by omega)), decide_eq_false (fun q => q (h n (by omega))), Bool.or_false]
def ulP (R S S' : Nat → Int32) : Nat → Bool := fun t => dfF (runW R S 0 (t + 1)).2.1 (runW R S' 0 (t + 1)).2.1 (Nn R)
def aUnlike (R : Nat → Int32) (s o : Int32) : Int := if okS R s ∧ okS R o then fsF (ulP R (nX R s) (nX R o)) 0 144 else -1
set_option maxRecDepth 8000 in
theorem v_cstory {n : Nat} {I : Nat → Nat → Int32} {J : Nat → Nat → Int64} {K : dw_K} {R : Nat → Int32} (hR : SREL I 3 R) {a1 a2 a3 a4 a5 : Int32} (hk : ∀ (w : Int32) (I' : Nat → Nat → Int32), w.toInt = aStory R a1 a2 a3 a4 a5 → K (some (.int w)) (n, SH1, I', J)) : t_X11_story [.ref 0, .int a1, .int a2, .int a3, .int a4, .int a5] (n, SH1, I, J) K := by
  have cm1 : (-1 : Int32).toInt = -1 := rfl
  have k0 : (0 : Int32).toInt = 0 := rfl
  have k1 : (1 : Int32).toInt = 1 := rfl
  refine q_body (Nat.le_of_ble_eq_true rfl) ?_
  refine q_ald rfl rfl ?_
  refine q_getr rfl sk_0 sr_0_1 ?_
  refine q_getr rfl sk_3 sr_3_1 ?_
  refine q_ild rfl rfl ?_
  refine q_ild rfl rfl ?_
  refine q_callV (as := [.int a2, .int a3]) (rest := []) rfl rfl sk_4 rfl (Nat.le_of_ble_eq_true rfl) ?_
  refine v_cellAt2 (R := R) hR.1 ((rg_3 hR).1 0 (by decide)) ((rg_3 hR).1 1 (by decide)) (fun k2 c1 ec1 => ?_) (fun k2 => ?_)
  · show dw_ok (pr_X11_story K) 12 0 0 [some (.ref 0), some (.int a1), some (.int a2), some (.int a3), some (.int a4), some (.int a5), none] [.int c1] (n, SH1, I, J)
    refine q_ist rfl rfl ?_
    show dw_ok (pr_X11_story K) 14 0 0 [some (.ref 0), some (.int a1), some (.int a2), some (.int a3), some (.int a4), some (.int a5), some (.int c1)] [] (n, SH1, I, J)
    refine q_ild rfl rfl ?_
    refine q_ic rfl ?_
    refine q_icmp (c := 0) rfl (by decide) (fun h => absurd (show (c1).toInt = (-1 : Int) from h) (by have := ec1; omega)) (fun y3 => ?_)
    have y3 : (c1).toInt ≠ (-1 : Int) := y3
    refine q_ild rfl rfl ?_
    refine q_callS (as := [.int a4]) (rest := []) rfl rfl rfl rfl ?_
    refine v_cIsStep (fun w_ oT => ?_)
    rcases oT with ⟨rfl, oT⟩ | ⟨rfl, oT⟩
    · show dw_ok (pr_X11_story K) 25 0 0 [some (.ref 0), some (.int a1), some (.int a2), some (.int a3), some (.int a4), some (.int a5), some (.int c1)] [.int (1 : Int32)] (n, SH1, I, J)
      refine q_if (c := 0) rfl (by decide) (fun h => absurd (show (1 : Int) = 0 from h) (by decide)) (fun y4 => ?_)
      have y4 : (1 : Int) ≠ 0 := y4
      refine q_ild rfl rfl ?_
      refine q_callS (as := [.int a5]) (rest := []) rfl rfl rfl rfl ?_
      refine v_isStory (fun w_ oW => ?_)
      rcases oW with ⟨rfl, oW⟩ | ⟨rfl, oW⟩
      · show dw_ok (pr_X11_story K) 33 0 0 [some (.ref 0), some (.int a1), some (.int a2), some (.int a3), some (.int a4), some (.int a5), some (.int c1)] [.int (1 : Int32)] (n, SH1, I, J)
        refine q_if (c := 0) rfl (by decide) (fun h => absurd (show (1 : Int) = 0 from h) (by decide)) (fun y5 => ?_)
        have y5 : (1 : Int) ≠ 0 := y5
        refine q_ald rfl rfl ?_
        refine q_ald rfl rfl ?_
        refine q_getr rfl sk_0 sr_0_6 ?_
        refine q_ild rfl rfl ?_
        refine q_callV (as := [.ref 164, .int a1]) (rest := []) rfl rfl sk_0 rfl (Nat.le_of_ble_eq_true rfl) ?_
        refine v_startR hR (Or.inr (Or.inl rfl)) (fun s hs hxs hS I1 q0 _ hC _ _ _ => ?_) (fun hno => ?_)
        · show dw_ok (pr_X11_story K) 45 0 0 [some (.ref 0), some (.int a1), some (.int a2), some (.int a3), some (.int a4), some (.int a5), some (.int c1)] [.int (1 : Int32)] (n, SH1, I1, J)
          refine q_if (c := 1) rfl (by decide) (fun y6 => ?_) (fun h => absurd (show (1 : Int) = 0 from h) (by decide))
          have y6 : (1 : Int) ≠ 0 := y6
          refine q_ald rfl rfl ?_
          refine q_getr rfl sk_0 sr_0_6 ?_
          refine q_ild rfl rfl ?_
          refine q_puti rfl sk_164 ?_
          show dw_ok (pr_X11_story K) 59 0 0 [some (.ref 0), some (.int a1), some (.int a2), some (.int a3), some (.int a4), some (.int a5), some (.int c1)] [] (n, SH1, (dw_up I1 164 5 a5), J)
          refine q_ald rfl rfl ?_
          refine q_getr rfl sk_0 sr_0_6 ?_
          refine q_ild rfl rfl ?_
          refine q_ic rfl ?_
          refine q_add rfl ?_
          refine q_callV (as := [.int (a4 + (1 : Int32))]) (rest := []) rfl rfl sk_164 rfl (Nat.le_of_ble_eq_true rfl) ?_
          obtain ⟨t0, t9⟩ := id oT
          have hv5 : a5.toInt = (a5.toInt.toNat : Nat) := by omega
          have hK1 := csk_st (st := a5.toInt.toNat) hR.1 hC hv5
          refine v_untilR (A := 164) (j := a4.toInt.toNat + 1) (rt_ok (by decide)) hK1 (by omega) (gok_N hR.1).2 (Or.inl (by rw [i_add (by omega) (by omega), k1]; omega)) (fun I2 _ _ hK2 => ?_)
          rw [Nat.zero_add] at hK2
          show dw_ok (pr_X11_story K) 70 0 0 [some (.ref 0), some (.int a1), some (.int a2), some (.int a3), some (.int a4), some (.int a5), some (.int c1)] [] (n, SH1, I2, J)
          refine q_ald rfl rfl ?_
          refine q_getr rfl sk_0 sr_0_6 ?_
          refine q_ild rfl rfl ?_
          refine q_callV (as := [.int c1]) (rest := []) rfl rfl sk_164 rfl (Nat.le_of_ble_eq_true rfl) ?_
          refine v_waterOf (A := 164) (N := Nn R) (k := cN R a2 a3) (rt_ok (by decide)) ec1 hK2.2.2.2.1 (gok_N hR.1).2 (cN_lt k2) ?_
          show dw_ok (pr_X11_story K) 79 0 0 [some (.ref 0), some (.int a1), some (.int a2), some (.int a3), some (.int a4), some (.int a5), some (.int c1)] [.int (I2 (164 + 14) (cN R a2 a3))] (n, SH1, I2, J)
          obtain ⟨oS, eS⟩ := okS_of hs hxs hS
          refine q_iret rfl (hk _ _ ?_)
          unfold aStory
          rw [if_pos ⟨oS, k2, oT, oW⟩, eS]
          exact congrArg Int32.toInt (hK2.2.2.1.2.1 _ (cN_lt k2))
        · show dw_ok (pr_X11_story K) 45 0 0 [some (.ref 0), some (.int a1), some (.int a2), some (.int a3), some (.int a4), some (.int a5), some (.int c1)] [.int (0 : Int32)] (n, SH1, I, J)
          refine q_if (c := 1) rfl (by decide) (fun h => absurd (show (0 : Int) ≠ 0 from h) (by decide)) (fun y7 => ?_)
          have y7 : (0 : Int) = 0 := y7
          refine q_ic rfl ?_
          refine q_iret rfl (hk _ _ ?_)
          unfold aStory
          rw [if_neg (fun q => okS_no hno q.1)]
          exact cm1
      · show dw_ok (pr_X11_story K) 33 0 0 [some (.ref 0), some (.int a1), some (.int a2), some (.int a3), some (.int a4), some (.int a5), some (.int c1)] [.int (0 : Int32)] (n, SH1, I, J)
        refine q_if (c := 0) rfl (by decide) (fun y8 => ?_) (fun h => absurd (show (0 : Int) ≠ 0 from h) (by decide))
        have y8 : (0 : Int) = 0 := y8
        refine q_ic rfl ?_
        refine q_iret rfl (hk _ _ ?_)
        unfold aStory
        rw [if_neg (fun q => oW q.2.2.2)]
        exact cm1
    · show dw_ok (pr_X11_story K) 25 0 0 [some (.ref 0), some (.int a1), some (.int a2), some (.int a3), some (.int a4), some (.int a5), some (.int c1)] [.int (0 : Int32)] (n, SH1, I, J)
      refine q_if (c := 0) rfl (by decide) (fun y9 => ?_) (fun h => absurd (show (0 : Int) ≠ 0 from h) (by decide))
      have y9 : (0 : Int) = 0 := y9
      refine q_ic rfl ?_
      refine q_iret rfl (hk _ _ ?_)
      unfold aStory
      rw [if_neg (fun q => oT q.2.2.1)]
      exact cm1
  · show dw_ok (pr_X11_story K) 12 0 0 [some (.ref 0), some (.int a1), some (.int a2), some (.int a3), some (.int a4), some (.int a5), none] [.int (-1 : Int32)] (n, SH1, I, J)
    refine q_ist rfl rfl ?_
    show dw_ok (pr_X11_story K) 14 0 0 [some (.ref 0), some (.int a1), some (.int a2), some (.int a3), some (.int a4), some (.int a5), some (.int (-1 : Int32))] [] (n, SH1, I, J)
    refine q_ild rfl rfl ?_
    refine q_ic rfl ?_
    refine q_icmp (c := 0) rfl (by decide) (fun y10 => ?_) (fun h => absurd (show (-1 : Int) ≠ (-1 : Int) from h) (by omega))
    have y10 : (-1 : Int) = (-1 : Int) := y10
    refine q_ic rfl ?_
    refine q_iret rfl (hk _ _ ?_)
    unfold aStory
    rw [if_neg (fun q => k2 q.2.1)]
    exact cm1
set_option maxRecDepth 8000 in
set_option maxHeartbeats 4000000 in
theorem v_mstory {n : Nat} {I : Nat → Nat → Int32} {J : Nat → Nat → Int64} {K : dw_K} {R : Nat → Int32} (hR : I 406 = R) (hG : GOK R) {a1 a2 a3 a4 a5 : Int32} (hN : okS R a1 → NOK (nX R a1)) (hk : ∀ (w : Int32) (I' : Nat → Nat → Int32), w.toInt = aStory R a1 a2 a3 a4 a5 → K (some (.int w)) (n, SH1, I', J)) : t_X12_story [.ref 404, .int a1, .int a2, .int a3, .int a4, .int a5] (n, SH1, I, J) K := by
  have cm1 : (-1 : Int32).toInt = -1 := rfl
  have k0 : (0 : Int32).toInt = 0 := rfl
  have k1 : (1 : Int32).toInt = 1 := rfl
  have k2 : (2 : Int32).toInt = 2 := rfl
  refine q_body (Nat.le_of_ble_eq_true rfl) ?_
  refine q_ald rfl rfl ?_
  refine q_ic rfl ?_
  refine q_puti rfl sk_404 ?_
  show dw_ok (pr_X12_story K) 5 0 0 [some (.ref 404), some (.int a1), some (.int a2), some (.int a3), some (.int a4), some (.int a5)] [] (n, SH1, (dw_up I 404 0 (0 : Int32)), J)
  refine q_ald rfl rfl ?_
  refine q_ild rfl rfl ?_
  refine q_callV (as := [.int a1]) (rest := []) rfl rfl sk_404 rfl (Nat.le_of_ble_eq_true rfl) ?_
  obtain ⟨I1, hI1⟩ : ∃ X, X = (dw_up I 404 0 (0 : Int32)) := ⟨_, rfl⟩
  rw [← hI1]
  have eI1 : I1 406 = R := by rw [hI1]; exact ((up_row (by decide)).trans (hR))
  refine v_isNight (fun w_ oS => ?_)
  rcases oS with ⟨rfl, oS⟩ | ⟨rfl, oS⟩
  · show dw_ok (pr_X12_story K) 10 0 0 [some (.ref 404), some (.int a1), some (.int a2), some (.int a3), some (.int a4), some (.int a5)] [.int (1 : Int32)] (n, SH1, I1, J)
    refine q_if (c := 0) rfl (by decide) (fun h => absurd (show (1 : Int) = 0 from h) (by decide)) (fun y2 => ?_)
    have y2 : (1 : Int) ≠ 0 := y2
    refine q_ald rfl rfl ?_
    refine q_ild rfl rfl ?_
    refine q_ild rfl rfl ?_
    refine q_callV (as := [.int a2, .int a3]) (rest := []) rfl rfl sk_404 rfl (Nat.le_of_ble_eq_true rfl) ?_
    refine v_misCell (C := Cn R) (R := Rn R) (by rw [eI1]; exact hG.1.1) (by rw [eI1]; exact hG.1.2.1) (fun w_ oC => ?_)
    rcases oC with ⟨rfl, oC⟩ | ⟨rfl, oC⟩
    · show dw_ok (pr_X12_story K) 19 0 0 [some (.ref 404), some (.int a1), some (.int a2), some (.int a3), some (.int a4), some (.int a5)] [.int (1 : Int32)] (n, SH1, I1, J)
      refine q_if (c := 0) rfl (by decide) (fun h => absurd (show (1 : Int) = 0 from h) (by decide)) (fun y3 => ?_)
      have y3 : (1 : Int) ≠ 0 := y3
      refine q_ild rfl rfl ?_
      refine q_callS (as := [.int a4]) (rest := []) rfl rfl rfl rfl ?_
      refine v_mIsStep (fun w_ oT => ?_)
      rcases oT with ⟨rfl, oT⟩ | ⟨rfl, oT⟩
      · show dw_ok (pr_X12_story K) 27 0 0 [some (.ref 404), some (.int a1), some (.int a2), some (.int a3), some (.int a4), some (.int a5)] [.int (1 : Int32)] (n, SH1, I1, J)
        refine q_if (c := 0) rfl (by decide) (fun h => absurd (show (1 : Int) = 0 from h) (by decide)) (fun y4 => ?_)
        have y4 : (1 : Int) ≠ 0 := y4
        refine q_ild rfl rfl ?_
        refine q_ic rfl ?_
        refine q_ic rfl ?_
        refine q_callS (as := [.int a5, .int (0 : Int32), .int (2 : Int32)]) (rest := []) rfl rfl rfl rfl ?_
        refine v_isIn (fun w_ oI => ?_)
        rcases oI with ⟨rfl, oI⟩ | ⟨rfl, oI⟩
        · have oI : (0 ≤ a5.toInt ∧ a5.toInt ≤ 2) := oI
          show dw_ok (pr_X12_story K) 37 0 0 [some (.ref 404), some (.int a1), some (.int a2), some (.int a3), some (.int a4), some (.int a5)] [.int (1 : Int32)] (n, SH1, I1, J)
          refine q_if (c := 1) rfl (by decide) (fun y5 => ?_) (fun h => absurd (show (1 : Int) = 0 from h) (by decide))
          have y5 : (1 : Int) ≠ 0 := y5
          refine q_ald rfl rfl ?_
          refine q_ild rfl rfl ?_
          refine q_ild rfl rfl ?_
          refine q_ild rfl rfl ?_
          refine q_callV (as := [.int a1, .int a5, .int a4]) (rest := []) rfl rfl sk_404 rfl (Nat.le_of_ble_eq_true rfl) ?_
          rw [eI1] at oS
          refine v_through (st := a5.toInt.toNat) eI1 hG oS (hN oS) (by omega) ⟨oT.1, by omega⟩ (fun I9 e9 q9 => ?_)
          show dw_ok (pr_X12_story K) 51 0 0 [some (.ref 404), some (.int a1), some (.int a2), some (.int a3), some (.int a4), some (.int a5)] [] (n, SH1, I9, J)
          refine q_ald rfl rfl ?_
          refine q_getr rfl sk_404 sr_404_29 ?_
          refine q_ald rfl rfl ?_
          refine q_ild rfl rfl ?_
          refine q_ild rfl rfl ?_
          refine q_callV (as := [.int a2, .int a3]) (rest := [.ref 417]) rfl rfl sk_404 rfl (Nat.le_of_ble_eq_true rfl) ?_
          refine v_numberOf ?_
          show dw_ok (pr_X12_story K) 61 0 0 [some (.ref 404), some (.int a1), some (.int a2), some (.int a3), some (.int a4), some (.int a5)] [.int (I9 406 0 * a3 + a2), .ref 417] (n, SH1, I9, J)
          rw [e9]
          have en : (R 0 * a3 + a2).toInt.toNat = cN R a2 a3 := by rw [(cN_i hG oC).2]; rfl
          have el := cN_lt oC
          have el9 := (gok_N hG).2
          have ei : (R 0 * a3 + a2).toInt = (cN R a2 a3 : Nat) := (cN_i hG oC).2
          show dw_ok (pr_X12_story K) 61 0 0 [some (.ref 404), some (.int a1), some (.int a2), some (.int a3), some (.int a4), some (.int a5)] [.int (R 0 * a3 + a2), .ref 417] (n, SH1, I9, J)
          show dw_ok (pr_X12_story K) 61 0 0 [some (.ref 404), some (.int a1), some (.int a2), some (.int a3), some (.int a4), some (.int a5)] [.int (R 0 * a3 + a2), .ref 417] (n, SH1, I9, J)
          refine q_xald rfl (Or.inl rfl) sk_417 sn_417 (by rw [ei]; omega) (by rw [ei]; omega) ?_
          show dw_ok (pr_X12_story K) 62 0 0 [some (.ref 404), some (.int a1), some (.int a2), some (.int a3), some (.int a4), some (.int a5)] [.int (I9 417 ((R 0 * a3 + a2)).toInt.toNat)] (n, SH1, I9, J)
          rw [en]
          refine q_iret rfl (hk _ _ ?_)
          unfold aStory
          rw [if_pos ⟨oS, oC, ⟨oT.1, by omega⟩, oI⟩]
          exact congrArg Int32.toInt (q9.2.1 _ el)
        · have oI : ¬ (0 ≤ a5.toInt ∧ a5.toInt ≤ 2) := oI
          show dw_ok (pr_X12_story K) 37 0 0 [some (.ref 404), some (.int a1), some (.int a2), some (.int a3), some (.int a4), some (.int a5)] [.int (0 : Int32)] (n, SH1, I1, J)
          refine q_if (c := 1) rfl (by decide) (fun h => absurd (show (0 : Int) ≠ 0 from h) (by decide)) (fun y6 => ?_)
          have y6 : (0 : Int) = 0 := y6
          refine q_ic rfl ?_
          refine q_iret rfl (hk _ _ ?_)
          unfold aStory
          rw [if_neg (fun q => oI q.2.2.2)]
          exact cm1
      · show dw_ok (pr_X12_story K) 27 0 0 [some (.ref 404), some (.int a1), some (.int a2), some (.int a3), some (.int a4), some (.int a5)] [.int (0 : Int32)] (n, SH1, I1, J)
        refine q_if (c := 0) rfl (by decide) (fun y7 => ?_) (fun h => absurd (show (0 : Int) ≠ 0 from h) (by decide))
        have y7 : (0 : Int) = 0 := y7
        refine q_ic rfl ?_
        refine q_iret rfl (hk _ _ ?_)
        unfold aStory
        rw [if_neg (fun q => oT ⟨q.2.2.1.1, by have := q.2.2.1.2; omega⟩)]
        exact cm1
    · show dw_ok (pr_X12_story K) 19 0 0 [some (.ref 404), some (.int a1), some (.int a2), some (.int a3), some (.int a4), some (.int a5)] [.int (0 : Int32)] (n, SH1, I1, J)
      refine q_if (c := 0) rfl (by decide) (fun y8 => ?_) (fun h => absurd (show (0 : Int) ≠ 0 from h) (by decide))
      have y8 : (0 : Int) = 0 := y8
      refine q_ic rfl ?_
      refine q_iret rfl (hk _ _ ?_)
      unfold aStory
      rw [if_neg (fun q => oC q.2.1)]
      exact cm1
  · show dw_ok (pr_X12_story K) 10 0 0 [some (.ref 404), some (.int a1), some (.int a2), some (.int a3), some (.int a4), some (.int a5)] [.int (0 : Int32)] (n, SH1, I1, J)
    refine q_if (c := 0) rfl (by decide) (fun y9 => ?_) (fun h => absurd (show (0 : Int) ≠ 0 from h) (by decide))
    have y9 : (0 : Int) = 0 := y9
    refine q_ic rfl ?_
    refine q_iret rfl (hk _ _ ?_)
    unfold aStory
    rw [if_neg (by rw [eI1] at oS; exact fun q => oS q.1)]
    exact cm1
set_option maxRecDepth 8000 in
theorem hay_loop {n : Nat} {J : Nat → Nat → Int64} {K : dw_K} {R S : Nat → Int32} {a1 a2 : Int32} (hG : GOK R) (ha0 : 0 ≤ a2.toInt) (ha9 : a2.toInt ≤ 9999) (hk : ∀ (w : Int32) (I' : Nat → Nat → Int32), w.toInt = fsF (hyP R S a2) 0 144 → K (some (.int w)) (n, SH1, I', J)) :
    ∀ (f k : Nat) (t : Int32) (I : Nat → Nat → Int32), k + f = 144 → t.toInt = k → 72 ≤ k → fsF (hyP R S a2) 0 144 = fsF (hyP R S a2) k f → CSK I 164 (Nn R) 0 (fun _ => gC R) (gT S) (g0S R S) 0 k → dw_ok (pr_X11_hay K) 37 0 0 [some (.ref 0), some (.int a1), some (.int a2), some (.int t)] [] (n, SH1, I, J) := by
  have cm1 : (-1 : Int32).toInt = -1 := rfl
  have k0 : (0 : Int32).toInt = 0 := rfl
  have k1 : (1 : Int32).toInt = 1 := rfl
  have hN9 := (gok_N hG).2
  intro f
  induction f with
  | zero =>
    intro k t I hf ht h72 hp hM
    refine q_ild rfl rfl ?_
    refine q_ic rfl ?_
    refine q_icmp (c := 3) rfl (by decide) (fun y1 => ?_) (fun h => absurd (show (t).toInt < (144 : Int) from h) (by omega))
    have y1 : (144 : Int) ≤ (t).toInt := y1
    refine q_ic rfl ?_
    exact q_iret rfl (hk _ I (cm1.trans hp.symm))
  | succ f ih =>
    intro k t I hf ht h72 hp hM
    refine q_ild rfl rfl ?_
    refine q_ic rfl ?_
    refine q_icmp (c := 3) rfl (by decide) (fun h => absurd (show (144 : Int) ≤ (t).toInt from h) (by omega)) (fun y2 => ?_)
    have y2 : (t).toInt < (144 : Int) := y2
    refine q_ald rfl rfl ?_
    refine q_getr rfl sk_0 sr_0_6 ?_
    refine q_callV (as := []) (rest := []) rfl rfl sk_164 rfl (Nat.le_of_ble_eq_true rfl) ?_
    refine v_stepR (A := 164) (rt_ok (by decide)) hM (by omega) hN9 (fun I1 hM1a hM1b hM1 => ?_)
    show dw_ok (pr_X11_hay K) 51 0 0 [some (.ref 0), some (.int a1), some (.int a2), some (.int t)] [] (n, SH1, I1, J)
    refine q_ald rfl rfl ?_
    refine q_getr rfl sk_0 sr_0_6 ?_
    refine q_ild rfl rfl ?_
    refine q_ic rfl ?_
    refine q_add rfl ?_
    refine q_callV (as := [.int (a2 + (1 : Int32))]) (rest := []) rfl rfl sk_164 rfl (Nat.le_of_ble_eq_true rfl) ?_
    refine v_wetCells (A := 164) (N := Nn R) (l := (a2 + 1)) (rt_ok (by decide)) hM1.2.2.2.1 hN9 (fun w hw => ?_)
    show dw_ok (pr_X11_hay K) 61 0 0 [some (.ref 0), some (.int a1), some (.int a2), some (.int t)] [.int w] (n, SH1, I1, J)
    have ew : wcF (I1 (164 + 14)) (a2 + 1) (Nn R) = wcF (runW R S 0 (k + 1)).2.1 (a2 + 1) (Nn R) := wc_eq (Nn R) (fun c hc => hM1.2.2.1.2.1 c hc)
    rw [ew] at hw
    show dw_ok (pr_X11_hay K) 61 0 0 [some (.ref 0), some (.int a1), some (.int a2), some (.int t)] [.int w] (n, SH1, I1, J)
    refine q_if (c := 1) rfl (by decide) (fun y3 => ?_) (fun y3 => ?_)
    · have y3 : (w).toInt ≠ 0 := y3
      refine q_inc rfl rfl rfl ?_
      show dw_ok (pr_X11_hay K) 69 0 0 [some (.ref 0), some (.int a1), some (.int a2), some (.int (t + 1))] [] (n, SH1, I1, J)
      show dw_ok (pr_X11_hay K) 69 0 0 [some (.ref 0), some (.int a1), some (.int a2), some (.int (t + 1))] [] (n, SH1, I1, J)
      obtain ⟨tx, htx⟩ : ∃ z, z = (t + 1) := ⟨_, rfl⟩
      rw [← htx]
      have etx : tx.toInt = ((k + 1 : Nat) : Int) := by rw [htx]; exact ix_1 ht (by omega)
      refine q_goto rfl ?_
      exact ih (k + 1) tx I1 (by omega) etx (by omega) (by rw [hp, fs_n (show hyP R S a2 k = false from hy_n (fun q => by omega))]) hM1
    · have y3 : (w).toInt = 0 := y3
      refine q_ild rfl rfl ?_
      exact q_iret rfl (hk _ I1 (by rw [hp, fs_y (show hyP R S a2 k = true from hy_y ⟨by omega, by omega⟩), ht]))
set_option maxRecDepth 8000 in
theorem v_chay {n : Nat} {I : Nat → Nat → Int32} {J : Nat → Nat → Int64} {K : dw_K} {R : Nat → Int32} (hR : SREL I 3 R) {a1 a2 : Int32} (hk : ∀ (w : Int32) (I' : Nat → Nat → Int32), w.toInt = aHay R a1 a2 → K (some (.int w)) (n, SH1, I', J)) : t_X11_hay [.ref 0, .int a1, .int a2] (n, SH1, I, J) K := by
  have cm1 : (-1 : Int32).toInt = -1 := rfl
  have k0 : (0 : Int32).toInt = 0 := rfl
  have k1 : (1 : Int32).toInt = 1 := rfl
  refine q_body (Nat.le_of_ble_eq_true rfl) ?_
  refine q_ild rfl rfl ?_
  refine q_if (c := 2) rfl (by decide) (fun y1 => ?_) (fun y1 => ?_)
  · have y1 : (a2).toInt < 0 := y1
    refine q_ic rfl ?_
    refine q_iret rfl (hk _ _ ?_)
    unfold aHay
    rw [if_neg (fun q => by omega)]
    exact cm1
  · have y1 : 0 ≤ (a2).toInt := y1
    refine q_ild rfl rfl ?_
    refine q_ic rfl ?_
    refine q_icmp (c := 4) rfl (by decide) (fun y2 => ?_) (fun y2 => ?_)
    · have y2 : (9999 : Int) < (a2).toInt := y2
      refine q_ic rfl ?_
      refine q_iret rfl (hk _ _ ?_)
      unfold aHay
      rw [if_neg (fun q => by omega)]
      exact cm1
    · have y2 : (a2).toInt ≤ (9999 : Int) := y2
      refine q_ald rfl rfl ?_
      refine q_ald rfl rfl ?_
      refine q_getr rfl sk_0 sr_0_6 ?_
      refine q_ild rfl rfl ?_
      refine q_callV (as := [.ref 164, .int a1]) (rest := []) rfl rfl sk_0 rfl (Nat.le_of_ble_eq_true rfl) ?_
      refine v_startR hR (Or.inr (Or.inl rfl)) (fun s hs hxs hS I1 q0 _ hC _ _ _ => ?_) (fun hno => ?_)
      · show dw_ok (pr_X11_hay K) 20 0 0 [some (.ref 0), some (.int a1), some (.int a2), none] [.int (1 : Int32)] (n, SH1, I1, J)
        refine q_if (c := 1) rfl (by decide) (fun y3 => ?_) (fun h => absurd (show (1 : Int) = 0 from h) (by decide))
        have y3 : (1 : Int) ≠ 0 := y3
        refine q_ald rfl rfl ?_
        refine q_getr rfl sk_0 sr_0_6 ?_
        refine q_ic rfl ?_
        refine q_callV (as := [.int (72 : Int32)]) (rest := []) rfl rfl sk_164 rfl (Nat.le_of_ble_eq_true rfl) ?_
        refine v_untilR (A := 164) (j := 72) (rt_ok (by decide)) (cst_k hR.1 hC) (by decide) (gok_N hR.1).2 (Or.inl (show (72 : Int32).toInt = ((0 + 0 + 72 : Nat) : Int) from rfl)) (fun I2 _ _ hK2 => ?_)
        show dw_ok (pr_X11_hay K) 34 0 0 [some (.ref 0), some (.int a1), some (.int a2), none] [] (n, SH1, I2, J)
        refine q_ic rfl ?_
        refine q_ist rfl rfl ?_
        show dw_ok (pr_X11_hay K) 37 0 0 [some (.ref 0), some (.int a1), some (.int a2), some (.int (72 : Int32))] [] (n, SH1, I2, J)
        obtain ⟨oS, eS⟩ := okS_of hs hxs hS
        exact hay_loop hR.1 (by omega) (by omega) (fun w I' hw => hk w I' (by unfold aHay; rw [if_pos ⟨oS, by omega, by omega⟩, eS]; exact hw)) 72 72 72 I2 rfl rfl (Nat.le_refl 72) (show fsF (hyP R (nS R s) a2) 0 (72 + 72) = fsF (hyP R (nS R s) a2) (0 + 72) 72 from fs_skip 72 0 (fun i hi => hy_n (fun q => by omega))) hK2
      · show dw_ok (pr_X11_hay K) 20 0 0 [some (.ref 0), some (.int a1), some (.int a2), none] [.int (0 : Int32)] (n, SH1, I, J)
        refine q_if (c := 1) rfl (by decide) (fun h => absurd (show (0 : Int) ≠ 0 from h) (by decide)) (fun y4 => ?_)
        have y4 : (0 : Int) = 0 := y4
        refine q_ic rfl ?_
        refine q_iret rfl (hk _ _ ?_)
        unfold aHay
        rw [if_neg (fun q => okS_no hno q.1)]
        exact cm1
set_option maxRecDepth 8000 in
theorem mhay_in {n : Nat} {J : Nat → Nat → Int64} {K : dw_K} {I : Nat → Nat → Int32} {R : Nat → Int32} {a1 a2 t : Int32} {τ : Nat} (e1 : I 406 = R) (hG : GOK R) (ha0 : 0 ≤ a2.toInt) (ha9 : a2.toInt ≤ 9999)
    (hk : ∀ b c : Int32, ((b.toInt = 1 ∧ 71 < τ ∧ wcF (I 417) (a2 + 1) (Nn R) = 0) ∨ (b.toInt = 0 ∧ ¬ (71 < τ ∧ wcF (I 417) (a2 + 1) (Nn R) = 0))) → dw_ok (pr_X12_hay K) 100 0 0 [some (.ref 404), some (.int a1), some (.int a2), some (.int t), some (.int b), some (.int c)] [] (n, SH1, I, J)) :
    ∀ (f k : Nat) (b c : Int32), k + f = Nn R → c.toInt = k → ((b.toInt = 1 ∧ 71 < τ ∧ wcF (I 417) (a2 + 1) k = 0) ∨ (b.toInt = 0 ∧ ¬ (71 < τ ∧ wcF (I 417) (a2 + 1) k = 0))) → dw_ok (pr_X12_hay K) 62 0 0 [some (.ref 404), some (.int a1), some (.int a2), some (.int t), some (.int b), some (.int c)] [] (n, SH1, I, J) := by
  have cm1 : (-1 : Int32).toInt = -1 := rfl
  have k0 : (0 : Int32).toInt = 0 := rfl
  have k1 : (1 : Int32).toInt = 1 := rfl
  obtain ⟨hN, hN9⟩ := gok_N hG
  have e2 : (a2 + 1).toInt = a2.toInt + 1 := by rw [i_add (by omega) (by omega), k1]
  intro f
  induction f with
  | zero =>
    intro k b c hf hc hb
    refine q_ild rfl rfl ?_
    refine q_ald rfl rfl ?_
    refine q_callV (as := []) (rest := [.int c]) rfl rfl sk_404 rfl (Nat.le_of_ble_eq_true rfl) ?_
    refine v_mcells ?_
    show dw_ok (pr_X12_hay K) 68 0 0 [some (.ref 404), some (.int a1), some (.int a2), some (.int t), some (.int b), some (.int c)] [.int (I 406 0 * I 406 1), .int c] (n, SH1, I, J)
    rw [show I 406 = R from e1]
    obtain ⟨nv1, hnv1⟩ : ∃ z, z = R 0 * R 1 := ⟨_, rfl⟩
    rw [← hnv1]
    have env1 : nv1.toInt = Nn R := by rw [hnv1]; exact hN
    show dw_ok (pr_X12_hay K) 68 0 0 [some (.ref 404), some (.int a1), some (.int a2), some (.int t), some (.int b), some (.int c)] [.int nv1, .int c] (n, SH1, I, J)
    refine q_icmp (c := 3) rfl (by decide) (fun y2 => ?_) (fun h => absurd (show (c).toInt < (nv1).toInt from h) (by omega))
    have y2 : (nv1).toInt ≤ (c).toInt := y2
    have kN : k = Nn R := by omega
    rw [kN] at hb
    exact hk b c hb
  | succ f ih =>
    intro k b c hf hc hb
    have hcn : c.toInt.toNat = k := by omega
    have wk : wcF (I 417) (a2 + 1) (k + 1) = wcF (I 417) (a2 + 1) k + (if (a2 + 1).toInt ≤ (I 417 k).toInt then 1 else 0) := rfl
    refine q_ild rfl rfl ?_
    refine q_ald rfl rfl ?_
    refine q_callV (as := []) (rest := [.int c]) rfl rfl sk_404 rfl (Nat.le_of_ble_eq_true rfl) ?_
    refine v_mcells ?_
    show dw_ok (pr_X12_hay K) 68 0 0 [some (.ref 404), some (.int a1), some (.int a2), some (.int t), some (.int b), some (.int c)] [.int (I 406 0 * I 406 1), .int c] (n, SH1, I, J)
    rw [show I 406 = R from e1]
    obtain ⟨nv3, hnv3⟩ : ∃ z, z = R 0 * R 1 := ⟨_, rfl⟩
    rw [← hnv3]
    have env3 : nv3.toInt = Nn R := by rw [hnv3]; exact hN
    show dw_ok (pr_X12_hay K) 68 0 0 [some (.ref 404), some (.int a1), some (.int a2), some (.int t), some (.int b), some (.int c)] [.int nv3, .int c] (n, SH1, I, J)
    refine q_icmp (c := 3) rfl (by decide) (fun h => absurd (show (nv3).toInt ≤ (c).toInt from h) (by omega)) (fun y4 => ?_)
    have y4 : (c).toInt < (nv3).toInt := y4
    refine q_ild rfl rfl ?_
    refine q_if (c := 0) rfl (by decide) (fun y5 => ?_) (fun y5 => ?_)
    · have y5 : (b).toInt = 0 := y5
      refine q_ic rfl ?_
      refine q_ist rfl rfl ?_
      show dw_ok (pr_X12_hay K) 94 0 0 [some (.ref 404), some (.int a1), some (.int a2), some (.int t), some (.int (0 : Int32)), some (.int c)] [] (n, SH1, I, J)
      refine q_inc rfl rfl rfl ?_
      show dw_ok (pr_X12_hay K) 97 0 0 [some (.ref 404), some (.int a1), some (.int a2), some (.int t), some (.int (0 : Int32)), some (.int (c + 1))] [] (n, SH1, I, J)
      show dw_ok (pr_X12_hay K) 97 0 0 [some (.ref 404), some (.int a1), some (.int a2), some (.int t), some (.int (0 : Int32)), some (.int (c + 1))] [] (n, SH1, I, J)
      obtain ⟨cx, hcx⟩ : ∃ z, z = (c + 1) := ⟨_, rfl⟩
      rw [← hcx]
      have ecx : cx.toInt = ((k + 1 : Nat) : Int) := by rw [hcx]; exact ix_1 hc (by omega)
      refine q_goto rfl ?_
      refine ih (k + 1) (0 : Int32) cx (by omega) ecx ?_
      refine Or.inr ⟨k0, fun q => ?_⟩
      rw [wk] at q
      exact (hb.elim (fun g => by omega) (fun g => g.2 ⟨q.1, by omega⟩))
    · have y5 : (b).toInt ≠ 0 := y5
      refine q_ald rfl rfl ?_
      refine q_getr rfl sk_404 sr_404_29 ?_
      refine q_ild rfl rfl ?_
      refine q_xald rfl (Or.inl rfl) sk_417 sn_417 (by omega) (by omega) ?_
      show dw_ok (pr_X12_hay K) 83 0 0 [some (.ref 404), some (.int a1), some (.int a2), some (.int t), some (.int b), some (.int c)] [.int (I 417 (c).toInt.toNat)] (n, SH1, I, J)
      rw [hcn]
      refine q_ild rfl rfl ?_
      refine q_icmp (c := 4) rfl (by decide) (fun y6 => ?_) (fun y6 => ?_)
      · have y6 : (a2).toInt < ((I 417 k)).toInt := y6
        refine q_ic rfl ?_
        refine q_ist rfl rfl ?_
        show dw_ok (pr_X12_hay K) 94 0 0 [some (.ref 404), some (.int a1), some (.int a2), some (.int t), some (.int (0 : Int32)), some (.int c)] [] (n, SH1, I, J)
        refine q_inc rfl rfl rfl ?_
        show dw_ok (pr_X12_hay K) 97 0 0 [some (.ref 404), some (.int a1), some (.int a2), some (.int t), some (.int (0 : Int32)), some (.int (c + 1))] [] (n, SH1, I, J)
        show dw_ok (pr_X12_hay K) 97 0 0 [some (.ref 404), some (.int a1), some (.int a2), some (.int t), some (.int (0 : Int32)), some (.int (c + 1))] [] (n, SH1, I, J)
        obtain ⟨cx, hcx⟩ : ∃ z, z = (c + 1) := ⟨_, rfl⟩
        rw [← hcx]
        have ecx : cx.toInt = ((k + 1 : Nat) : Int) := by rw [hcx]; exact ix_1 hc (by omega)
        refine q_goto rfl ?_
        refine ih (k + 1) (0 : Int32) cx (by omega) ecx ?_
        refine Or.inr ⟨k0, fun q => ?_⟩
        rw [wk, if_pos (by omega)] at q
        omega
      · have y6 : ((I 417 k)).toInt ≤ (a2).toInt := y6
        refine q_ic rfl ?_
        refine q_goto rfl ?_
        refine q_ist rfl rfl ?_
        show dw_ok (pr_X12_hay K) 94 0 0 [some (.ref 404), some (.int a1), some (.int a2), some (.int t), some (.int (1 : Int32)), some (.int c)] [] (n, SH1, I, J)
        refine q_inc rfl rfl rfl ?_
        show dw_ok (pr_X12_hay K) 97 0 0 [some (.ref 404), some (.int a1), some (.int a2), some (.int t), some (.int (1 : Int32)), some (.int (c + 1))] [] (n, SH1, I, J)
        show dw_ok (pr_X12_hay K) 97 0 0 [some (.ref 404), some (.int a1), some (.int a2), some (.int t), some (.int (1 : Int32)), some (.int (c + 1))] [] (n, SH1, I, J)
        obtain ⟨cx, hcx⟩ : ∃ z, z = (c + 1) := ⟨_, rfl⟩
        rw [← hcx]
        have ecx : cx.toInt = ((k + 1 : Nat) : Int) := by rw [hcx]; exact ix_1 hc (by omega)
        refine q_goto rfl ?_
        refine ih (k + 1) (1 : Int32) cx (by omega) ecx ?_
        refine Or.inl ⟨k1, ?_⟩
        rw [wk, if_neg (by omega)]
        exact hb.elim (fun g => ⟨g.2.1, g.2.2⟩) (fun g => by omega)
set_option maxRecDepth 8000 in
theorem mhay_loop {n : Nat} {J : Nat → Nat → Int64} {K : dw_K} {R S : Nat → Int32} {a1 a2 : Int32} (hG : GOK R) (hS : NOK S) (ha0 : 0 ≤ a2.toInt) (ha9 : a2.toInt ≤ 9999) (hk : ∀ (w : Int32) (I' : Nat → Nat → Int32), w.toInt = fsF (hyP R S a2) 0 144 → K (some (.int w)) (n, SH1, I', J)) :
    ∀ (f k : Nat) (t : Int32) (u v : Option Value) (I : Nat → Nat → Int32), k + f = 144 → t.toInt = k → fsF (hyP R S a2) 0 144 = fsF (hyP R S a2) k f → I 406 = R → MSK I (Nn R) 0 (fun _ => gC R) (gT S) (g0S R S) 0 k → dw_ok (pr_X12_hay K) 34 0 0 [some (.ref 404), some (.int a1), some (.int a2), some (.int t), u, v] [] (n, SH1, I, J) := by
  have cm1 : (-1 : Int32).toInt = -1 := rfl
  have k0 : (0 : Int32).toInt = 0 := rfl
  have k1 : (1 : Int32).toInt = 1 := rfl
  have k71 : (71 : Int32).toInt = 71 := rfl
  have hN9 := (gok_N hG).2
  intro f
  induction f with
  | zero =>
    intro k t u v I hf ht hp hR hM
    refine q_ild rfl rfl ?_
    refine q_ic rfl ?_
    refine q_icmp (c := 3) rfl (by decide) (fun y1 => ?_) (fun h => absurd (show (t).toInt < (144 : Int) from h) (by omega))
    have y1 : (144 : Int) ≤ (t).toInt := y1
    refine q_ic rfl ?_
    exact q_iret rfl (hk _ I (cm1.trans hp.symm))
  | succ f ih =>
    intro k t u v I hf ht hp hR hM
    refine q_ild rfl rfl ?_
    refine q_ic rfl ?_
    refine q_icmp (c := 3) rfl (by decide) (fun h => absurd (show (144 : Int) ≤ (t).toInt from h) (by omega)) (fun y2 => ?_)
    have y2 : (t).toInt < (144 : Int) := y2
    refine q_ald rfl rfl ?_
    refine q_ild rfl rfl ?_
    refine q_callV (as := [.int t]) (rest := []) rfl rfl sk_404 rfl (Nat.le_of_ble_eq_true rfl) ?_
    refine v_mstepR (pur_0 hG hS) hM (by omega) (by omega) (fun I1 g1 g2 hM1 => ?_)
    show dw_ok (pr_X12_hay K) 46 0 0 [some (.ref 404), some (.int a1), some (.int a2), some (.int t), u, v] [] (n, SH1, I1, J)
    have eI1 : I1 406 = R := (g1 406 (by decide) (by decide) (by decide)).trans hR
    show dw_ok (pr_X12_hay K) 46 0 0 [some (.ref 404), some (.int a1), some (.int a2), some (.int t), u, v] [] (n, SH1, I1, J)
    refine q_ild rfl rfl ?_
    refine q_ic rfl ?_
    refine q_icmp (c := 5) rfl (by decide) (fun y3 => ?_) (fun y3 => ?_)
    · have y3 : (t).toInt ≤ (71 : Int) := y3
      refine q_ic rfl ?_
      refine q_ist rfl rfl ?_
      show dw_ok (pr_X12_hay K) 59 0 0 [some (.ref 404), some (.int a1), some (.int a2), some (.int t), some (.int (0 : Int32)), v] [] (n, SH1, I1, J)
      refine q_ic rfl ?_
      refine q_ist rfl rfl ?_
      show dw_ok (pr_X12_hay K) 62 0 0 [some (.ref 404), some (.int a1), some (.int a2), some (.int t), some (.int (0 : Int32)), some (.int (0 : Int32))] [] (n, SH1, I1, J)
      have ew : wcF (I1 417) (a2 + 1) (Nn R) = wcF (runW R S 0 (k + 1)).2.1 (a2 + 1) (Nn R) := wc_eq (Nn R) (fun c hc => hM1.2.2.1.2.1 c hc)
      refine mhay_in (τ := k) eI1 hG ha0 ha9 (fun b c hb => ?_) (Nn R) 0 (0 : Int32) 0 (by omega) rfl (Or.inr ⟨rfl, fun q => by omega⟩)
      rw [ew] at hb
      refine q_ild rfl rfl ?_
      refine q_if (c := 0) rfl (by decide) (fun y4 => ?_) (fun y4 => ?_)
      · have y4 : (b).toInt = 0 := y4
        refine q_inc rfl rfl rfl ?_
        show dw_ok (pr_X12_hay K) 110 0 0 [some (.ref 404), some (.int a1), some (.int a2), some (.int (t + 1)), some (.int b), some (.int c)] [] (n, SH1, I1, J)
        show dw_ok (pr_X12_hay K) 110 0 0 [some (.ref 404), some (.int a1), some (.int a2), some (.int (t + 1)), some (.int b), some (.int c)] [] (n, SH1, I1, J)
        obtain ⟨tx, htx⟩ : ∃ z, z = (t + 1) := ⟨_, rfl⟩
        rw [← htx]
        have etx : tx.toInt = ((k + 1 : Nat) : Int) := by rw [htx]; exact ix_1 ht (by omega)
        refine q_goto rfl ?_
        exact ih (k + 1) tx _ _ I1 (by omega) etx (by rw [hp, fs_n (show hyP R S a2 k = false from hy_n (hb.elim (fun g => by omega) (fun g => g.2)))]) eI1 hM1
      · have y4 : (b).toInt ≠ 0 := y4
        refine q_ild rfl rfl ?_
        exact q_iret rfl (hk _ I1 (by rw [hp, fs_y (show hyP R S a2 k = true from hy_y (hb.elim (fun g => g.2) (fun g => by omega))), ht]))
    · have y3 : (71 : Int) < (t).toInt := y3
      refine q_ic rfl ?_
      refine q_goto rfl ?_
      refine q_ist rfl rfl ?_
      show dw_ok (pr_X12_hay K) 59 0 0 [some (.ref 404), some (.int a1), some (.int a2), some (.int t), some (.int (1 : Int32)), v] [] (n, SH1, I1, J)
      refine q_ic rfl ?_
      refine q_ist rfl rfl ?_
      show dw_ok (pr_X12_hay K) 62 0 0 [some (.ref 404), some (.int a1), some (.int a2), some (.int t), some (.int (1 : Int32)), some (.int (0 : Int32))] [] (n, SH1, I1, J)
      have ew : wcF (I1 417) (a2 + 1) (Nn R) = wcF (runW R S 0 (k + 1)).2.1 (a2 + 1) (Nn R) := wc_eq (Nn R) (fun c hc => hM1.2.2.1.2.1 c hc)
      refine mhay_in (τ := k) eI1 hG ha0 ha9 (fun b c hb => ?_) (Nn R) 0 (1 : Int32) 0 (by omega) rfl (Or.inl ⟨rfl, by omega, rfl⟩)
      rw [ew] at hb
      refine q_ild rfl rfl ?_
      refine q_if (c := 0) rfl (by decide) (fun y5 => ?_) (fun y5 => ?_)
      · have y5 : (b).toInt = 0 := y5
        refine q_inc rfl rfl rfl ?_
        show dw_ok (pr_X12_hay K) 110 0 0 [some (.ref 404), some (.int a1), some (.int a2), some (.int (t + 1)), some (.int b), some (.int c)] [] (n, SH1, I1, J)
        show dw_ok (pr_X12_hay K) 110 0 0 [some (.ref 404), some (.int a1), some (.int a2), some (.int (t + 1)), some (.int b), some (.int c)] [] (n, SH1, I1, J)
        obtain ⟨tx, htx⟩ : ∃ z, z = (t + 1) := ⟨_, rfl⟩
        rw [← htx]
        have etx : tx.toInt = ((k + 1 : Nat) : Int) := by rw [htx]; exact ix_1 ht (by omega)
        refine q_goto rfl ?_
        exact ih (k + 1) tx _ _ I1 (by omega) etx (by rw [hp, fs_n (show hyP R S a2 k = false from hy_n (hb.elim (fun g => by omega) (fun g => g.2)))]) eI1 hM1
      · have y5 : (b).toInt ≠ 0 := y5
        refine q_ild rfl rfl ?_
        exact q_iret rfl (hk _ I1 (by rw [hp, fs_y (show hyP R S a2 k = true from hy_y (hb.elim (fun g => g.2) (fun g => by omega))), ht]))
set_option maxRecDepth 8000 in
set_option maxHeartbeats 4000000 in
theorem v_mhay {n : Nat} {I : Nat → Nat → Int32} {J : Nat → Nat → Int64} {K : dw_K} {R : Nat → Int32} (hR : I 406 = R) (hG : GOK R) {a1 a2 : Int32} (hN : okS R a1 → NOK (nX R a1)) (hk : ∀ (w : Int32) (I' : Nat → Nat → Int32), w.toInt = aHay R a1 a2 → K (some (.int w)) (n, SH1, I', J)) : t_X12_hay [.ref 404, .int a1, .int a2] (n, SH1, I, J) K := by
  have cm1 : (-1 : Int32).toInt = -1 := rfl
  have k0 : (0 : Int32).toInt = 0 := rfl
  have k1 : (1 : Int32).toInt = 1 := rfl
  have k2 : (2 : Int32).toInt = 2 := rfl
  refine q_body (Nat.le_of_ble_eq_true rfl) ?_
  refine q_ald rfl rfl ?_
  refine q_ic rfl ?_
  refine q_puti rfl sk_404 ?_
  show dw_ok (pr_X12_hay K) 5 0 0 [some (.ref 404), some (.int a1), some (.int a2), none, none, none] [] (n, SH1, (dw_up I 404 0 (0 : Int32)), J)
  refine q_ald rfl rfl ?_
  refine q_ild rfl rfl ?_
  refine q_callV (as := [.int a1]) (rest := []) rfl rfl sk_404 rfl (Nat.le_of_ble_eq_true rfl) ?_
  obtain ⟨I1, hI1⟩ : ∃ X, X = (dw_up I 404 0 (0 : Int32)) := ⟨_, rfl⟩
  rw [← hI1]
  have eI1 : I1 406 = R := by rw [hI1]; exact ((up_row (by decide)).trans (hR))
  refine v_isNight (fun w_ oS => ?_)
  rcases oS with ⟨rfl, oS⟩ | ⟨rfl, oS⟩
  · show dw_ok (pr_X12_hay K) 10 0 0 [some (.ref 404), some (.int a1), some (.int a2), none, none, none] [.int (1 : Int32)] (n, SH1, I1, J)
    refine q_if (c := 0) rfl (by decide) (fun h => absurd (show (1 : Int) = 0 from h) (by decide)) (fun y2 => ?_)
    have y2 : (1 : Int) ≠ 0 := y2
    refine q_ild rfl rfl ?_
    refine q_ic rfl ?_
    refine q_ic rfl ?_
    refine q_callS (as := [.int a2, .int (0 : Int32), .int (9999 : Int32)]) (rest := []) rfl rfl rfl rfl ?_
    refine v_isIn (fun w_ oI => ?_)
    rcases oI with ⟨rfl, oI⟩ | ⟨rfl, oI⟩
    · have oI : (0 ≤ a2.toInt ∧ a2.toInt ≤ 9999) := oI
      show dw_ok (pr_X12_hay K) 21 0 0 [some (.ref 404), some (.int a1), some (.int a2), none, none, none] [.int (1 : Int32)] (n, SH1, I1, J)
      refine q_if (c := 1) rfl (by decide) (fun y3 => ?_) (fun h => absurd (show (1 : Int) = 0 from h) (by decide))
      have y3 : (1 : Int) ≠ 0 := y3
      refine q_ald rfl rfl ?_
      refine q_ild rfl rfl ?_
      refine q_ic rfl ?_
      refine q_callV (as := [.int a1, .int (0 : Int32)]) (rest := []) rfl rfl sk_404 rfl (Nat.le_of_ble_eq_true rfl) ?_
      rw [eI1] at oS
      refine v_mstartR (st := 0) eI1 hG oS (hN oS) rfl (fun I9 g0 _ _ hM _ => ?_)
      have e9 : I9 406 = R := (g0 406 (by decide) (by decide)).trans eI1
      show dw_ok (pr_X12_hay K) 32 0 0 [some (.ref 404), some (.int a1), some (.int a2), none, none, none] [] (n, SH1, I9, J)
      refine q_ic rfl ?_
      refine q_ist rfl rfl ?_
      show dw_ok (pr_X12_hay K) 34 0 0 [some (.ref 404), some (.int a1), some (.int a2), some (.int (0 : Int32)), none, none] [] (n, SH1, I9, J)
      exact mhay_loop hG (hN oS) oI.1 oI.2 (fun w I' hw => hk w I' (by unfold aHay; rw [if_pos ⟨oS, oI⟩]; exact hw)) 144 0 0 _ _ I9 rfl rfl rfl e9 hM
    · have oI : ¬ (0 ≤ a2.toInt ∧ a2.toInt ≤ 9999) := oI
      show dw_ok (pr_X12_hay K) 21 0 0 [some (.ref 404), some (.int a1), some (.int a2), none, none, none] [.int (0 : Int32)] (n, SH1, I1, J)
      refine q_if (c := 1) rfl (by decide) (fun h => absurd (show (0 : Int) ≠ 0 from h) (by decide)) (fun y4 => ?_)
      have y4 : (0 : Int) = 0 := y4
      refine q_ic rfl ?_
      refine q_iret rfl (hk _ _ ?_)
      unfold aHay
      rw [if_neg (fun q => oI q.2)]
      exact cm1
  · show dw_ok (pr_X12_hay K) 10 0 0 [some (.ref 404), some (.int a1), some (.int a2), none, none, none] [.int (0 : Int32)] (n, SH1, I1, J)
    refine q_if (c := 0) rfl (by decide) (fun y5 => ?_) (fun h => absurd (show (0 : Int) ≠ 0 from h) (by decide))
    have y5 : (0 : Int) = 0 := y5
    refine q_ic rfl ?_
    refine q_iret rfl (hk _ _ ?_)
    unfold aHay
    rw [if_neg (by rw [eI1] at oS; exact fun q => oS q.1)]
    exact cm1
set_option maxRecDepth 8000 in
theorem part_loop {n : Nat} {J : Nat → Nat → Int64} {K : dw_K} {R S : Nat → Int32} {a1 a2 a3 a4 a5 c : Int32} {a b : Nat} (hG : GOK R) (oC : okC R a2 a3) (hc : c.toInt = (cN R a2 a3 : Nat)) (hk : ∀ (w : Int32) (I' : Nat → Nat → Int32), w.toInt = fsF (ptP R S a b (cN R a2 a3)) 0 144 → K (some (.int w)) (n, SH1, I', J)) :
    ∀ (f k : Nat) (t : Int32) (I : Nat → Nat → Int32), k + f = 144 → t.toInt = k → fsF (ptP R S a b (cN R a2 a3)) 0 144 = fsF (ptP R S a b (cN R a2 a3)) k f → CSK I 164 (Nn R) a (fun _ => gC R) (gT S) (g0S R S) 0 k → CSK I 179 (Nn R) b (fun _ => gC R) (gT S) (g0S R S) 0 k → dw_ok (pr_X11_part K) 85 0 0 [some (.ref 0), some (.int a1), some (.int a2), some (.int a3), some (.int a4), some (.int a5), some (.int c), some (.int t)] [] (n, SH1, I, J) := by
  have cm1 : (-1 : Int32).toInt = -1 := rfl
  have k0 : (0 : Int32).toInt = 0 := rfl
  have k1 : (1 : Int32).toInt = 1 := rfl
  have hN9 := (gok_N hG).2
  have hl := cN_lt oC
  intro f
  induction f with
  | zero =>
    intro k t I hf ht hp hA hB
    refine q_ild rfl rfl ?_
    refine q_ic rfl ?_
    refine q_icmp (c := 3) rfl (by decide) (fun y1 => ?_) (fun h => absurd (show (t).toInt < (144 : Int) from h) (by omega))
    have y1 : (144 : Int) ≤ (t).toInt := y1
    refine q_ic rfl ?_
    exact q_iret rfl (hk _ I (cm1.trans hp.symm))
  | succ f ih =>
    intro k t I hf ht hp hA hB
    refine q_ild rfl rfl ?_
    refine q_ic rfl ?_
    refine q_icmp (c := 3) rfl (by decide) (fun h => absurd (show (144 : Int) ≤ (t).toInt from h) (by omega)) (fun y2 => ?_)
    have y2 : (t).toInt < (144 : Int) := y2
    refine q_ald rfl rfl ?_
    refine q_getr rfl sk_0 sr_0_6 ?_
    refine q_callV (as := []) (rest := []) rfl rfl sk_164 rfl (Nat.le_of_ble_eq_true rfl) ?_
    refine v_stepR (A := 164) (rt_ok (by decide)) hA (by omega) hN9 (fun I1 ga _ hA1 => ?_)
    show dw_ok (pr_X11_part K) 100 0 0 [some (.ref 0), some (.int a1), some (.int a2), some (.int a3), some (.int a4), some (.int a5), some (.int c), some (.int t)] [] (n, SH1, I1, J)
    have hB1 := csk_fr (I' := I1) (fun x p q => ga x (by omega) (by omega) (by omega)) hB
    show dw_ok (pr_X11_part K) 100 0 0 [some (.ref 0), some (.int a1), some (.int a2), some (.int a3), some (.int a4), some (.int a5), some (.int c), some (.int t)] [] (n, SH1, I1, J)
    refine q_ald rfl rfl ?_
    refine q_getr rfl sk_0 sr_0_7 ?_
    refine q_callV (as := []) (rest := []) rfl rfl sk_179 rfl (Nat.le_of_ble_eq_true rfl) ?_
    refine v_stepR (A := 179) (rt_ok (by decide)) hB1 (by omega) hN9 (fun I2 gb _ hB2 => ?_)
    show dw_ok (pr_X11_part K) 107 0 0 [some (.ref 0), some (.int a1), some (.int a2), some (.int a3), some (.int a4), some (.int a5), some (.int c), some (.int t)] [] (n, SH1, I2, J)
    have hA2 := csk_fr (I' := I2) (fun x p q => gb x (by omega) (by omega) (by omega)) hA1
    show dw_ok (pr_X11_part K) 107 0 0 [some (.ref 0), some (.int a1), some (.int a2), some (.int a3), some (.int a4), some (.int a5), some (.int c), some (.int t)] [] (n, SH1, I2, J)
    refine q_ald rfl rfl ?_
    refine q_getr rfl sk_0 sr_0_6 ?_
    refine q_ild rfl rfl ?_
    refine q_callV (as := [.int c]) (rest := []) rfl rfl sk_164 rfl (Nat.le_of_ble_eq_true rfl) ?_
    refine v_waterOf (A := 164) (N := Nn R) (k := cN R a2 a3) (rt_ok (by decide)) hc hA2.2.2.2.1 hN9 hl ?_
    show dw_ok (pr_X11_part K) 116 0 0 [some (.ref 0), some (.int a1), some (.int a2), some (.int a3), some (.int a4), some (.int a5), some (.int c), some (.int t)] [.int (I2 (164 + 14) (cN R a2 a3))] (n, SH1, I2, J)
    obtain ⟨va, hva⟩ : ∃ z, z = (I2 (164 + 14) (cN R a2 a3)) := ⟨_, rfl⟩
    rw [← hva]
    have eva : va = (runW R S a (k + 1)).2.1 (cN R a2 a3) := by rw [hva]; exact hA2.2.2.1.2.1 _ hl
    show dw_ok (pr_X11_part K) 116 0 0 [some (.ref 0), some (.int a1), some (.int a2), some (.int a3), some (.int a4), some (.int a5), some (.int c), some (.int t)] [.int va] (n, SH1, I2, J)
    refine q_ald rfl rfl ?_
    refine q_getr rfl sk_0 sr_0_7 ?_
    refine q_ild rfl rfl ?_
    refine q_callV (as := [.int c]) (rest := [.int va]) rfl rfl sk_179 rfl (Nat.le_of_ble_eq_true rfl) ?_
    refine v_waterOf (A := 179) (N := Nn R) (k := cN R a2 a3) (rt_ok (by decide)) hc hB2.2.2.2.1 hN9 hl ?_
    show dw_ok (pr_X11_part K) 125 0 0 [some (.ref 0), some (.int a1), some (.int a2), some (.int a3), some (.int a4), some (.int a5), some (.int c), some (.int t)] [.int (I2 (179 + 14) (cN R a2 a3)), .int va] (n, SH1, I2, J)
    obtain ⟨vb, hvb⟩ : ∃ z, z = (I2 (179 + 14) (cN R a2 a3)) := ⟨_, rfl⟩
    rw [← hvb]
    have evb : vb = (runW R S b (k + 1)).2.1 (cN R a2 a3) := by rw [hvb]; exact hB2.2.2.1.2.1 _ hl
    show dw_ok (pr_X11_part K) 125 0 0 [some (.ref 0), some (.int a1), some (.int a2), some (.int a3), some (.int a4), some (.int a5), some (.int c), some (.int t)] [.int vb, .int va] (n, SH1, I2, J)
    refine q_icmp (c := 0) rfl (by decide) (fun y3 => ?_) (fun y3 => ?_)
    · have y3 : (va).toInt = (vb).toInt := y3
      refine q_inc rfl rfl rfl ?_
      show dw_ok (pr_X11_part K) 134 0 0 [some (.ref 0), some (.int a1), some (.int a2), some (.int a3), some (.int a4), some (.int a5), some (.int c), some (.int (t + 1))] [] (n, SH1, I2, J)
      show dw_ok (pr_X11_part K) 134 0 0 [some (.ref 0), some (.int a1), some (.int a2), some (.int a3), some (.int a4), some (.int a5), some (.int c), some (.int (t + 1))] [] (n, SH1, I2, J)
      obtain ⟨tx, htx⟩ : ∃ z, z = (t + 1) := ⟨_, rfl⟩
      rw [← htx]
      have etx : tx.toInt = ((k + 1 : Nat) : Int) := by rw [htx]; exact ix_1 ht (by omega)
      refine q_goto rfl ?_
      exact ih (k + 1) tx I2 (by omega) etx (by rw [hp, fs_n (show ptP R S a b (cN R a2 a3) k = false from pt_n (by rw [← eva, ← evb]; exact i_eq y3))]) hA2 hB2
    · have y3 : (va).toInt ≠ (vb).toInt := y3
      refine q_ild rfl rfl ?_
      exact q_iret rfl (hk _ I2 (by rw [hp, fs_y (show ptP R S a b (cN R a2 a3) k = true from pt_y (fun q => y3 (by rw [eva, evb, q]))), ht]))
set_option maxRecDepth 8000 in
theorem v_cpart {n : Nat} {I : Nat → Nat → Int32} {J : Nat → Nat → Int64} {K : dw_K} {R : Nat → Int32} (hR : SREL I 3 R) {a1 a2 a3 a4 a5 : Int32} (hk : ∀ (w : Int32) (I' : Nat → Nat → Int32), w.toInt = aPart R a1 a2 a3 a4 a5 → K (some (.int w)) (n, SH1, I', J)) : t_X11_part [.ref 0, .int a1, .int a2, .int a3, .int a4, .int a5] (n, SH1, I, J) K := by
  have cm1 : (-1 : Int32).toInt = -1 := rfl
  have k0 : (0 : Int32).toInt = 0 := rfl
  have k1 : (1 : Int32).toInt = 1 := rfl
  refine q_body (Nat.le_of_ble_eq_true rfl) ?_
  refine q_ald rfl rfl ?_
  refine q_getr rfl sk_0 sr_0_1 ?_
  refine q_getr rfl sk_3 sr_3_1 ?_
  refine q_ild rfl rfl ?_
  refine q_ild rfl rfl ?_
  refine q_callV (as := [.int a2, .int a3]) (rest := []) rfl rfl sk_4 rfl (Nat.le_of_ble_eq_true rfl) ?_
  refine v_cellAt2 (R := R) hR.1 ((rg_3 hR).1 0 (by decide)) ((rg_3 hR).1 1 (by decide)) (fun k2 c1 ec1 => ?_) (fun k2 => ?_)
  · show dw_ok (pr_X11_part K) 12 0 0 [some (.ref 0), some (.int a1), some (.int a2), some (.int a3), some (.int a4), some (.int a5), none, none] [.int c1] (n, SH1, I, J)
    refine q_ist rfl rfl ?_
    show dw_ok (pr_X11_part K) 14 0 0 [some (.ref 0), some (.int a1), some (.int a2), some (.int a3), some (.int a4), some (.int a5), some (.int c1), none] [] (n, SH1, I, J)
    refine q_ild rfl rfl ?_
    refine q_ic rfl ?_
    refine q_icmp (c := 0) rfl (by decide) (fun h => absurd (show (c1).toInt = (-1 : Int) from h) (by have := ec1; omega)) (fun y3 => ?_)
    have y3 : (c1).toInt ≠ (-1 : Int) := y3
    refine q_ild rfl rfl ?_
    refine q_callS (as := [.int a4]) (rest := []) rfl rfl rfl rfl ?_
    refine v_isStory (fun w_ oA => ?_)
    rcases oA with ⟨rfl, oA⟩ | ⟨rfl, oA⟩
    · show dw_ok (pr_X11_part K) 25 0 0 [some (.ref 0), some (.int a1), some (.int a2), some (.int a3), some (.int a4), some (.int a5), some (.int c1), none] [.int (1 : Int32)] (n, SH1, I, J)
      refine q_if (c := 0) rfl (by decide) (fun h => absurd (show (1 : Int) = 0 from h) (by decide)) (fun y4 => ?_)
      have y4 : (1 : Int) ≠ 0 := y4
      refine q_ild rfl rfl ?_
      refine q_callS (as := [.int a5]) (rest := []) rfl rfl rfl rfl ?_
      refine v_isStory (fun w_ oB => ?_)
      rcases oB with ⟨rfl, oB⟩ | ⟨rfl, oB⟩
      · show dw_ok (pr_X11_part K) 33 0 0 [some (.ref 0), some (.int a1), some (.int a2), some (.int a3), some (.int a4), some (.int a5), some (.int c1), none] [.int (1 : Int32)] (n, SH1, I, J)
        refine q_if (c := 1) rfl (by decide) (fun y5 => ?_) (fun h => absurd (show (1 : Int) = 0 from h) (by decide))
        have y5 : (1 : Int) ≠ 0 := y5
        refine q_ald rfl rfl ?_
        refine q_ald rfl rfl ?_
        refine q_getr rfl sk_0 sr_0_6 ?_
        refine q_ild rfl rfl ?_
        refine q_callV (as := [.ref 164, .int a1]) (rest := []) rfl rfl sk_0 rfl (Nat.le_of_ble_eq_true rfl) ?_
        refine v_startR hR (Or.inr (Or.inl rfl)) (fun s hs hxs hS I1 q0 _ hC _ _ _ => ?_) (fun hno => ?_)
        · show dw_ok (pr_X11_part K) 47 0 0 [some (.ref 0), some (.int a1), some (.int a2), some (.int a3), some (.int a4), some (.int a5), some (.int c1), none] [.int (1 : Int32)] (n, SH1, I1, J)
          refine q_if (c := 0) rfl (by decide) (fun h => absurd (show (1 : Int) = 0 from h) (by decide)) (fun y6 => ?_)
          have y6 : (1 : Int) ≠ 0 := y6
          refine q_ald rfl rfl ?_
          refine q_ald rfl rfl ?_
          refine q_getr rfl sk_0 sr_0_7 ?_
          refine q_ild rfl rfl ?_
          refine q_callV (as := [.ref 179, .int a1]) (rest := []) rfl rfl sk_0 rfl (Nat.le_of_ble_eq_true rfl) ?_
          have hRb : SREL I1 3 R := srel_fr (S := 3) (fun x p q => q0 x (by omega)) (fun _ _ => rfl) hR
          refine v_startR hRb (Or.inr (Or.inr rfl)) (fun sb hsb hxsb hSb I1b q0b _ hCb _ _ _ => ?_) (fun hnob => ?_)
          · show dw_ok (pr_X11_part K) 59 0 0 [some (.ref 0), some (.int a1), some (.int a2), some (.int a3), some (.int a4), some (.int a5), some (.int c1), none] [.int (1 : Int32)] (n, SH1, I1b, J)
            refine q_if (c := 1) rfl (by decide) (fun y7 => ?_) (fun h => absurd (show (1 : Int) = 0 from h) (by decide))
            have y7 : (1 : Int) ≠ 0 := y7
            refine q_ald rfl rfl ?_
            refine q_getr rfl sk_0 sr_0_6 ?_
            refine q_ild rfl rfl ?_
            refine q_puti rfl sk_164 ?_
            show dw_ok (pr_X11_part K) 73 0 0 [some (.ref 0), some (.int a1), some (.int a2), some (.int a3), some (.int a4), some (.int a5), some (.int c1), none] [] (n, SH1, (dw_up I1b 164 5 a4), J)
            refine q_ald rfl rfl ?_
            refine q_getr rfl sk_0 sr_0_7 ?_
            refine q_ild rfl rfl ?_
            refine q_puti rfl sk_179 ?_
            show dw_ok (pr_X11_part K) 82 0 0 [some (.ref 0), some (.int a1), some (.int a2), some (.int a3), some (.int a4), some (.int a5), some (.int c1), none] [] (n, SH1, (dw_up (dw_up I1b 164 5 a4) 179 5 a5), J)
            refine q_ic rfl ?_
            refine q_ist rfl rfl ?_
            show dw_ok (pr_X11_part K) 85 0 0 [some (.ref 0), some (.int a1), some (.int a2), some (.int a3), some (.int a4), some (.int a5), some (.int c1), some (.int (0 : Int32))] [] (n, SH1, (dw_up (dw_up I1b 164 5 a4) 179 5 a5), J)
            obtain ⟨oS, eS⟩ := okS_of hs hxs hS
            have es : sb = s := by omega
            rw [es] at hCb
            have kA := csk_st (v := a4) (st := a4.toInt.toNat) hR.1 hC (by omega)
            have kA2 : CSK (dw_up (dw_up I1b 164 5 a4) 179 5 a5) 164 (Nn R) a4.toInt.toNat (fun _ => gC R) (gT (nS R s)) (g0S R (nS R s)) 0 0 := csk_fr (I := dw_up I1 164 5 a4) (fun x p q => (up_row (by omega)).trans (up_cong (q0b x (by omega)))) kA
            have kB := csk_st (v := a5) (st := a5.toInt.toNat) hR.1 hCb (by omega)
            have kB2 : CSK (dw_up (dw_up I1b 164 5 a4) 179 5 a5) 179 (Nn R) a5.toInt.toNat (fun _ => gC R) (gT (nS R s)) (g0S R (nS R s)) 0 0 := csk_fr (I := dw_up I1b 179 5 a5) (fun x p q => up_cong (up_row (by omega))) kB
            exact part_loop hR.1 k2 ec1 (fun w I' hw => hk w I' (by unfold aPart; rw [if_pos ⟨oS, k2, oA, oB⟩, eS]; exact hw)) 144 0 0 _ rfl rfl rfl kA2 kB2
          · show dw_ok (pr_X11_part K) 59 0 0 [some (.ref 0), some (.int a1), some (.int a2), some (.int a3), some (.int a4), some (.int a5), some (.int c1), none] [.int (0 : Int32)] (n, SH1, I1, J)
            refine q_if (c := 1) rfl (by decide) (fun h => absurd (show (0 : Int) ≠ 0 from h) (by decide)) (fun y8 => ?_)
            have y8 : (0 : Int) = 0 := y8
            refine q_ic rfl ?_
            refine q_iret rfl (hk _ _ ?_)
            unfold aPart
            rw [if_neg (fun q => okS_no hnob q.1)]
            exact cm1
        · show dw_ok (pr_X11_part K) 47 0 0 [some (.ref 0), some (.int a1), some (.int a2), some (.int a3), some (.int a4), some (.int a5), some (.int c1), none] [.int (0 : Int32)] (n, SH1, I, J)
          refine q_if (c := 0) rfl (by decide) (fun y9 => ?_) (fun h => absurd (show (0 : Int) ≠ 0 from h) (by decide))
          have y9 : (0 : Int) = 0 := y9
          refine q_ic rfl ?_
          refine q_iret rfl (hk _ _ ?_)
          unfold aPart
          rw [if_neg (fun q => okS_no hno q.1)]
          exact cm1
      · show dw_ok (pr_X11_part K) 33 0 0 [some (.ref 0), some (.int a1), some (.int a2), some (.int a3), some (.int a4), some (.int a5), some (.int c1), none] [.int (0 : Int32)] (n, SH1, I, J)
        refine q_if (c := 1) rfl (by decide) (fun h => absurd (show (0 : Int) ≠ 0 from h) (by decide)) (fun y10 => ?_)
        have y10 : (0 : Int) = 0 := y10
        refine q_ic rfl ?_
        refine q_iret rfl (hk _ _ ?_)
        unfold aPart
        rw [if_neg (fun q => oB q.2.2.2)]
        exact cm1
    · show dw_ok (pr_X11_part K) 25 0 0 [some (.ref 0), some (.int a1), some (.int a2), some (.int a3), some (.int a4), some (.int a5), some (.int c1), none] [.int (0 : Int32)] (n, SH1, I, J)
      refine q_if (c := 0) rfl (by decide) (fun y11 => ?_) (fun h => absurd (show (0 : Int) ≠ 0 from h) (by decide))
      have y11 : (0 : Int) = 0 := y11
      refine q_ic rfl ?_
      refine q_iret rfl (hk _ _ ?_)
      unfold aPart
      rw [if_neg (fun q => oA q.2.2.1)]
      exact cm1
  · show dw_ok (pr_X11_part K) 12 0 0 [some (.ref 0), some (.int a1), some (.int a2), some (.int a3), some (.int a4), some (.int a5), none, none] [.int (-1 : Int32)] (n, SH1, I, J)
    refine q_ist rfl rfl ?_
    show dw_ok (pr_X11_part K) 14 0 0 [some (.ref 0), some (.int a1), some (.int a2), some (.int a3), some (.int a4), some (.int a5), some (.int (-1 : Int32)), none] [] (n, SH1, I, J)
    refine q_ild rfl rfl ?_
    refine q_ic rfl ?_
    refine q_icmp (c := 0) rfl (by decide) (fun y12 => ?_) (fun h => absurd (show (-1 : Int) ≠ (-1 : Int) from h) (by omega))
    have y12 : (-1 : Int) = (-1 : Int) := y12
    refine q_ic rfl ?_
    refine q_iret rfl (hk _ _ ?_)
    unfold aPart
    rw [if_neg (fun q => k2 q.2.1)]
    exact cm1
set_option maxRecDepth 8000 in
theorem msk_fr {I I' : Nat → Nat → Int32} {N st d k : Nat} {C : Nat → Nat → rC} {T : Nat → rN} {s0 : rS} (hr : ∀ a, 404 ≤ a → a ≤ 419 → I' a = I a) (h : MSK I N st C T s0 d k) : MSK I' N st C T s0 d k := by
  have e1 : ∀ τ, cfM I' τ = cfM I τ := fun τ => by
    funext c
    unfold cfM syM
    rw [hr 406 (by decide) (by decide), hr 419 (by decide) (by decide), hr 418 (by decide) (by decide), hr 404 (by decide) (by decide)]
  have e2 : ∀ t, tnM I' t = tnM I t := fun t => by
    unfold tnM
    rw [hr 411 (by decide) (by decide), hr 412 (by decide) (by decide), hr 413 (by decide) (by decide), hr 414 (by decide) (by decide), hr 415 (by decide) (by decide)]
  have e3 : srM I' = srM I := by
    unfold srM
    rw [hr 416 (by decide) (by decide), hr 417 (by decide) (by decide), hr 404 (by decide) (by decide)]
  obtain ⟨h1, h2, h3, h4, h5, h6⟩ := h
  exact ⟨fun τ a b c hc => by rw [e1]; exact h1 τ a b c hc, fun t a b => by rw [e2]; exact h2 t a b, by rw [e3]; exact h3, by rw [hr 406 (by decide) (by decide)]; exact h4, by rw [hr 404 (by decide) (by decide)]; exact h5, fun c hc => by rw [hr 419 (by decide) (by decide)]; exact h6 c hc⟩
set_option maxRecDepth 8000 in
theorem mtm_loop {n : Nat} {J : Nat → Nat → Int64} {K : dw_K} {R S : Nat → Int32} {x c wh : Int32} {st cc : Nat} {I0 : Nat → Nat → Int32} (hG : GOK R) (hS : NOK S) (hc : c.toInt = cc) (hl : cc < Nn R)
    (hk : ∀ I' : Nat → Nat → Int32, I' 406 = R → (∀ a, a ≠ 404 → (a < 411 ∨ 419 < a) → a ≠ 422 → I' a = I0 a) → (∀ t, t < 144 → I' 422 t = (runW R S st (t + 1)).2.1 cc) → K none (n, SH1, I', J)) :
    ∀ (f k : Nat) (t : Int32) (I : Nat → Nat → Int32), k + f = 144 → t.toInt = k → I 406 = R → (∀ a, a ≠ 404 → (a < 411 ∨ 419 < a) → a ≠ 422 → I a = I0 a) → (∀ t, t < k → I 422 t = (runW R S st (t + 1)).2.1 cc) → MSK I (Nn R) st (fun _ => gC R) (gT S) (g0S R S) 0 k → dw_ok (pr_X12_timesOf K) 9 0 0 [some (.ref 404), some (.int x), some (.int c), some (.int wh), some (.int t)] [] (n, SH1, I, J) := by
  have cm1 : (-1 : Int32).toInt = -1 := rfl
  have k0 : (0 : Int32).toInt = 0 := rfl
  have k1 : (1 : Int32).toInt = 1 := rfl
  have hN9 := (gok_N hG).2
  have hcc : c.toInt.toNat = cc := by omega
  intro f
  induction f with
  | zero =>
    intro k t I hf ht hR hfr hT hM
    obtain rfl : k = 144 := by omega
    refine q_ild rfl rfl ?_
    refine q_ic rfl ?_
    refine q_icmp (c := 3) rfl (by decide) (fun y1 => ?_) (fun h => absurd (show (t).toInt < (144 : Int) from h) (by omega))
    have y1 : (144 : Int) ≤ (t).toInt := y1
    exact q_vret rfl (hk I hR hfr hT)
  | succ f ih =>
    intro k t I hf ht hR hfr hT hM
    have htn : t.toInt.toNat = k := by omega
    refine q_ild rfl rfl ?_
    refine q_ic rfl ?_
    refine q_icmp (c := 3) rfl (by decide) (fun h => absurd (show (144 : Int) ≤ (t).toInt from h) (by omega)) (fun y2 => ?_)
    have y2 : (t).toInt < (144 : Int) := y2
    refine q_ald rfl rfl ?_
    refine q_ild rfl rfl ?_
    refine q_callV (as := [.int t]) (rest := []) rfl rfl sk_404 rfl (Nat.le_of_ble_eq_true rfl) ?_
    refine v_mstepR (pur_0 hG hS) hM (by omega) (by omega) (fun I1 g1 g2 hM1 => ?_)
    show dw_ok (pr_X12_timesOf K) 23 0 0 [some (.ref 404), some (.int x), some (.int c), some (.int wh), some (.int t)] [] (n, SH1, I1, J)
    have eI1 : I1 406 = R := (g1 406 (by decide) (by decide) (by decide)).trans hR
    show dw_ok (pr_X12_timesOf K) 23 0 0 [some (.ref 404), some (.int x), some (.int c), some (.int wh), some (.int t)] [] (n, SH1, I1, J)
    refine q_ald rfl rfl ?_
    refine q_getr rfl sk_404 sr_404_42 ?_
    refine q_ild rfl rfl ?_
    refine q_ald rfl rfl ?_
    refine q_getr rfl sk_404 sr_404_29 ?_
    refine q_ild rfl rfl ?_
    refine q_xald rfl (Or.inl rfl) sk_417 sn_417 (by omega) (by omega) ?_
    show dw_ok (pr_X12_timesOf K) 35 0 0 [some (.ref 404), some (.int x), some (.int c), some (.int wh), some (.int t)] [.int (I1 417 (c).toInt.toNat), .int t, .ref 422] (n, SH1, I1, J)
    rw [hcc]
    refine q_iast rfl sk_422 sn_422 (by omega) (by omega) ?_
    show dw_ok (pr_X12_timesOf K) 36 0 0 [some (.ref 404), some (.int x), some (.int c), some (.int wh), some (.int t)] [] (n, SH1, (dw_up I1 422 (t).toInt.toNat (I1 417 cc)), J)
    rw [htn]
    refine q_inc rfl rfl rfl ?_
    show dw_ok (pr_X12_timesOf K) 39 0 0 [some (.ref 404), some (.int x), some (.int c), some (.int wh), some (.int (t + 1))] [] (n, SH1, (dw_up I1 422 k (I1 417 cc)), J)
    show dw_ok (pr_X12_timesOf K) 39 0 0 [some (.ref 404), some (.int x), some (.int c), some (.int wh), some (.int (t + 1))] [] (n, SH1, (dw_up I1 422 k (I1 417 cc)), J)
    obtain ⟨tx, htx⟩ : ∃ z, z = (t + 1) := ⟨_, rfl⟩
    rw [← htx]
    have etx : tx.toInt = ((k + 1 : Nat) : Int) := by rw [htx]; exact ix_1 ht (by omega)
    refine q_goto rfl ?_
    refine ih (k + 1) tx (dw_up I1 422 k (I1 417 cc)) (by omega) etx ((up_row (by decide)).trans eI1) (fun a q1 q2 q3 => (up_row q3).trans ((g1 a q1 (by omega) (by omega)).trans (hfr a q1 q2 q3))) (fun t' ht' => ?_) (msk_fr (fun a _ _ => up_row (by omega)) hM1)
    by_cases e : t' = k
    · subst e
      rw [up_same]
      exact hM1.2.2.1.2.1 cc hl
    · rw [up_fld e, g1 422 (by decide) (by decide) (by decide)]
      exact hT t' (by omega)
set_option maxRecDepth 8000 in
theorem v_timesOf {n : Nat} {I : Nat → Nat → Int32} {J : Nat → Nat → Int64} {K : dw_K} {x c wh : Int32} {R : Nat → Int32} {st cc : Nat} (hR : I 406 = R) (hG : GOK R) (hx : okS R x) (hS : NOK (nX R x)) (hst : wh.toInt = st) (hc : c.toInt = cc) (hl : cc < Nn R)
    (hk : ∀ I' : Nat → Nat → Int32, I' 406 = R → (∀ a, a ≠ 404 → (a < 411 ∨ 419 < a) → a ≠ 422 → I' a = I a) → (∀ t, t < 144 → I' 422 t = (runW R (nX R x) st (t + 1)).2.1 cc) → K none (n, SH1, I', J)) : t_X12_timesOf [.ref 404, .int x, .int c, .int wh] (n, SH1, I, J) K := by
  refine q_body (Nat.le_of_ble_eq_true rfl) ?_
  refine q_ald rfl rfl ?_
  refine q_ild rfl rfl ?_
  refine q_ild rfl rfl ?_
  refine q_callV (as := [.int x, .int wh]) (rest := []) rfl rfl sk_404 rfl (Nat.le_of_ble_eq_true rfl) ?_
  refine v_mstartR hR hG hx hS hst (fun I1 g0 _ _ hM _ => ?_)
  show dw_ok (pr_X12_timesOf K) 6 0 0 [some (.ref 404), some (.int x), some (.int c), some (.int wh), none] [] (n, SH1, I1, J)
  refine q_ic rfl ?_
  refine q_ist rfl rfl ?_
  exact mtm_loop (I0 := I) hG hS hc hl (fun I' h1 h2 h3 => hk I' h1 h2 h3) 144 0 0 I1 rfl rfl ((g0 406 (by decide) (by decide)).trans hR) (fun a q1 q2 _ => g0 a q1 q2) (fun t ht => absurd ht (Nat.not_lt_zero t)) hM
set_option maxRecDepth 8000 in
theorem mpc_loop {n : Nat} {J : Nat → Nat → Int64} {K : dw_K} {a1 a2 a3 a4 a5 c6 : Int32} {I0 : Nat → Nat → Int32}
    (hk : ∀ (t : Int32) (I' : Nat → Nat → Int32), (∀ a, a ≠ 423 → I' a = I0 a) → (∀ t, t < 144 → I' 423 t = I0 422 t) → dw_ok (pr_X12_part K) 92 0 0 [some (.ref 404), some (.int a1), some (.int a2), some (.int a3), some (.int a4), some (.int a5), some (.int c6), some (.int t)] [] (n, SH1, I', J)) :
    ∀ (f k : Nat) (t : Int32) (I : Nat → Nat → Int32), k + f = 144 → t.toInt = k → (∀ a, a ≠ 423 → I a = I0 a) → (∀ t, t < k → I 423 t = I0 422 t) → dw_ok (pr_X12_part K) 64 0 0 [some (.ref 404), some (.int a1), some (.int a2), some (.int a3), some (.int a4), some (.int a5), some (.int c6), some (.int t)] [] (n, SH1, I, J) := by
  have cm1 : (-1 : Int32).toInt = -1 := rfl
  have k0 : (0 : Int32).toInt = 0 := rfl
  have k1 : (1 : Int32).toInt = 1 := rfl
  intro f
  induction f with
  | zero =>
    intro k t I hf ht hfr hT
    obtain rfl : k = 144 := by omega
    refine q_ild rfl rfl ?_
    refine q_ic rfl ?_
    refine q_icmp (c := 3) rfl (by decide) (fun y1 => ?_) (fun h => absurd (show (t).toInt < (144 : Int) from h) (by omega))
    have y1 : (144 : Int) ≤ (t).toInt := y1
    exact hk t I hfr hT
  | succ f ih =>
    intro k t I hf ht hfr hT
    have htn : t.toInt.toNat = k := by omega
    refine q_ild rfl rfl ?_
    refine q_ic rfl ?_
    refine q_icmp (c := 3) rfl (by decide) (fun h => absurd (show (144 : Int) ≤ (t).toInt from h) (by omega)) (fun y2 => ?_)
    have y2 : (t).toInt < (144 : Int) := y2
    refine q_ald rfl rfl ?_
    refine q_getr rfl sk_404 sr_404_43 ?_
    refine q_ild rfl rfl ?_
    refine q_ald rfl rfl ?_
    refine q_getr rfl sk_404 sr_404_42 ?_
    refine q_ild rfl rfl ?_
    refine q_xald rfl (Or.inl rfl) sk_422 sn_422 (by omega) (by omega) ?_
    show dw_ok (pr_X12_part K) 85 0 0 [some (.ref 404), some (.int a1), some (.int a2), some (.int a3), some (.int a4), some (.int a5), some (.int c6), some (.int t)] [.int (I 422 (t).toInt.toNat), .int t, .ref 423] (n, SH1, I, J)
    rw [htn]
    refine q_iast rfl sk_423 sn_423 (by omega) (by omega) ?_
    show dw_ok (pr_X12_part K) 86 0 0 [some (.ref 404), some (.int a1), some (.int a2), some (.int a3), some (.int a4), some (.int a5), some (.int c6), some (.int t)] [] (n, SH1, (dw_up I 423 (t).toInt.toNat (I 422 k)), J)
    rw [htn]
    refine q_inc rfl rfl rfl ?_
    show dw_ok (pr_X12_part K) 89 0 0 [some (.ref 404), some (.int a1), some (.int a2), some (.int a3), some (.int a4), some (.int a5), some (.int c6), some (.int (t + 1))] [] (n, SH1, (dw_up I 423 k (I 422 k)), J)
    show dw_ok (pr_X12_part K) 89 0 0 [some (.ref 404), some (.int a1), some (.int a2), some (.int a3), some (.int a4), some (.int a5), some (.int c6), some (.int (t + 1))] [] (n, SH1, (dw_up I 423 k (I 422 k)), J)
    obtain ⟨tx, htx⟩ : ∃ z, z = (t + 1) := ⟨_, rfl⟩
    rw [← htx]
    have etx : tx.toInt = ((k + 1 : Nat) : Int) := by rw [htx]; exact ix_1 ht (by omega)
    refine q_goto rfl ?_
    refine ih (k + 1) tx (dw_up I 423 k (I 422 k)) (by omega) etx (fun a ha => (up_row ha).trans (hfr a ha)) (fun t' ht' => ?_)
    by_cases e : t' = k
    · subst e
      rw [up_same, hfr 422 (by decide)]
    · rw [up_fld e]
      exact hT t' (by omega)
set_option maxRecDepth 8000 in
theorem mpt_loop {n : Nat} {J : Nat → Nat → Int64} {K : dw_K} {R S : Nat → Int32} {a1 a2 a3 a4 a5 c6 : Int32} {a b cc : Nat} {I : Nat → Nat → Int32} (h2 : ∀ t, t < 144 → I 422 t = (runW R S b (t + 1)).2.1 cc) (h3 : ∀ t, t < 144 → I 423 t = (runW R S a (t + 1)).2.1 cc) (hk : ∀ (w : Int32) (I' : Nat → Nat → Int32), w.toInt = fsF (ptP R S a b cc) 0 144 → K (some (.int w)) (n, SH1, I', J)) :
    ∀ (f k : Nat) (t : Int32), k + f = 144 → t.toInt = k → fsF (ptP R S a b cc) 0 144 = fsF (ptP R S a b cc) k f → dw_ok (pr_X12_part K) 104 0 0 [some (.ref 404), some (.int a1), some (.int a2), some (.int a3), some (.int a4), some (.int a5), some (.int c6), some (.int t)] [] (n, SH1, I, J) := by
  have cm1 : (-1 : Int32).toInt = -1 := rfl
  have k0 : (0 : Int32).toInt = 0 := rfl
  have k1 : (1 : Int32).toInt = 1 := rfl
  intro f
  induction f with
  | zero =>
    intro k t hf ht hp
    refine q_ild rfl rfl ?_
    refine q_ic rfl ?_
    refine q_icmp (c := 3) rfl (by decide) (fun y1 => ?_) (fun h => absurd (show (t).toInt < (144 : Int) from h) (by omega))
    have y1 : (144 : Int) ≤ (t).toInt := y1
    refine q_ic rfl ?_
    exact q_iret rfl (hk _ I (cm1.trans hp.symm))
  | succ f ih =>
    intro k t hf ht hp
    have htn : t.toInt.toNat = k := by omega
    have e2 := h2 k (by omega)
    have e3 := h3 k (by omega)
    refine q_ild rfl rfl ?_
    refine q_ic rfl ?_
    refine q_icmp (c := 3) rfl (by decide) (fun h => absurd (show (144 : Int) ≤ (t).toInt from h) (by omega)) (fun y2 => ?_)
    have y2 : (t).toInt < (144 : Int) := y2
    refine q_ald rfl rfl ?_
    refine q_getr rfl sk_404 sr_404_42 ?_
    refine q_ild rfl rfl ?_
    refine q_xald rfl (Or.inl rfl) sk_422 sn_422 (by omega) (by omega) ?_
    show dw_ok (pr_X12_part K) 119 0 0 [some (.ref 404), some (.int a1), some (.int a2), some (.int a3), some (.int a4), some (.int a5), some (.int c6), some (.int t)] [.int (I 422 (t).toInt.toNat)] (n, SH1, I, J)
    rw [htn]
    refine q_ald rfl rfl ?_
    refine q_getr rfl sk_404 sr_404_43 ?_
    refine q_ild rfl rfl ?_
    refine q_xald rfl (Or.inl rfl) sk_423 sn_423 (by omega) (by omega) ?_
    show dw_ok (pr_X12_part K) 126 0 0 [some (.ref 404), some (.int a1), some (.int a2), some (.int a3), some (.int a4), some (.int a5), some (.int c6), some (.int t)] [.int (I 423 (t).toInt.toNat), .int (I 422 k)] (n, SH1, I, J)
    rw [htn]
    refine q_icmp (c := 0) rfl (by decide) (fun y3 => ?_) (fun y3 => ?_)
    · have y3 : ((I 422 k)).toInt = ((I 423 k)).toInt := y3
      refine q_inc rfl rfl rfl ?_
      show dw_ok (pr_X12_part K) 135 0 0 [some (.ref 404), some (.int a1), some (.int a2), some (.int a3), some (.int a4), some (.int a5), some (.int c6), some (.int (t + 1))] [] (n, SH1, I, J)
      show dw_ok (pr_X12_part K) 135 0 0 [some (.ref 404), some (.int a1), some (.int a2), some (.int a3), some (.int a4), some (.int a5), some (.int c6), some (.int (t + 1))] [] (n, SH1, I, J)
      obtain ⟨tx, htx⟩ : ∃ z, z = (t + 1) := ⟨_, rfl⟩
      rw [← htx]
      have etx : tx.toInt = ((k + 1 : Nat) : Int) := by rw [htx]; exact ix_1 ht (by omega)
      refine q_goto rfl ?_
      exact ih (k + 1) tx (by omega) etx (by rw [hp, fs_n (show ptP R S a b cc k = false from pt_n (by rw [← e2, ← e3]; exact (i_eq y3).symm))])
    · have y3 : ((I 422 k)).toInt ≠ ((I 423 k)).toInt := y3
      refine q_ild rfl rfl ?_
      exact q_iret rfl (hk _ I (by rw [hp, fs_y (show ptP R S a b cc k = true from pt_y (fun q => y3 (by rw [e2, e3, q]))), ht]))
set_option maxRecDepth 8000 in
set_option maxHeartbeats 4000000 in
theorem v_mpart {n : Nat} {I : Nat → Nat → Int32} {J : Nat → Nat → Int64} {K : dw_K} {R : Nat → Int32} (hR : I 406 = R) (hG : GOK R) {a1 a2 a3 a4 a5 : Int32} (hN : okS R a1 → NOK (nX R a1)) (hk : ∀ (w : Int32) (I' : Nat → Nat → Int32), w.toInt = aPart R a1 a2 a3 a4 a5 → K (some (.int w)) (n, SH1, I', J)) : t_X12_part [.ref 404, .int a1, .int a2, .int a3, .int a4, .int a5] (n, SH1, I, J) K := by
  have cm1 : (-1 : Int32).toInt = -1 := rfl
  have k0 : (0 : Int32).toInt = 0 := rfl
  have k1 : (1 : Int32).toInt = 1 := rfl
  have k2 : (2 : Int32).toInt = 2 := rfl
  refine q_body (Nat.le_of_ble_eq_true rfl) ?_
  refine q_ald rfl rfl ?_
  refine q_ic rfl ?_
  refine q_puti rfl sk_404 ?_
  show dw_ok (pr_X12_part K) 5 0 0 [some (.ref 404), some (.int a1), some (.int a2), some (.int a3), some (.int a4), some (.int a5), none, none] [] (n, SH1, (dw_up I 404 0 (0 : Int32)), J)
  refine q_ald rfl rfl ?_
  refine q_ild rfl rfl ?_
  refine q_callV (as := [.int a1]) (rest := []) rfl rfl sk_404 rfl (Nat.le_of_ble_eq_true rfl) ?_
  obtain ⟨I1, hI1⟩ : ∃ X, X = (dw_up I 404 0 (0 : Int32)) := ⟨_, rfl⟩
  rw [← hI1]
  have eI1 : I1 406 = R := by rw [hI1]; exact ((up_row (by decide)).trans (hR))
  refine v_isNight (fun w_ oS => ?_)
  rcases oS with ⟨rfl, oS⟩ | ⟨rfl, oS⟩
  · show dw_ok (pr_X12_part K) 10 0 0 [some (.ref 404), some (.int a1), some (.int a2), some (.int a3), some (.int a4), some (.int a5), none, none] [.int (1 : Int32)] (n, SH1, I1, J)
    refine q_if (c := 0) rfl (by decide) (fun h => absurd (show (1 : Int) = 0 from h) (by decide)) (fun y2 => ?_)
    have y2 : (1 : Int) ≠ 0 := y2
    refine q_ald rfl rfl ?_
    refine q_ild rfl rfl ?_
    refine q_ild rfl rfl ?_
    refine q_callV (as := [.int a2, .int a3]) (rest := []) rfl rfl sk_404 rfl (Nat.le_of_ble_eq_true rfl) ?_
    refine v_misCell (C := Cn R) (R := Rn R) (by rw [eI1]; exact hG.1.1) (by rw [eI1]; exact hG.1.2.1) (fun w_ oC => ?_)
    rcases oC with ⟨rfl, oC⟩ | ⟨rfl, oC⟩
    · show dw_ok (pr_X12_part K) 19 0 0 [some (.ref 404), some (.int a1), some (.int a2), some (.int a3), some (.int a4), some (.int a5), none, none] [.int (1 : Int32)] (n, SH1, I1, J)
      refine q_if (c := 0) rfl (by decide) (fun h => absurd (show (1 : Int) = 0 from h) (by decide)) (fun y3 => ?_)
      have y3 : (1 : Int) ≠ 0 := y3
      refine q_ild rfl rfl ?_
      refine q_ic rfl ?_
      refine q_ic rfl ?_
      refine q_callS (as := [.int a4, .int (0 : Int32), .int (2 : Int32)]) (rest := []) rfl rfl rfl rfl ?_
      refine v_isIn (fun w_ oA => ?_)
      rcases oA with ⟨rfl, oA⟩ | ⟨rfl, oA⟩
      · have oA : (0 ≤ a4.toInt ∧ a4.toInt ≤ 2) := oA
        show dw_ok (pr_X12_part K) 29 0 0 [some (.ref 404), some (.int a1), some (.int a2), some (.int a3), some (.int a4), some (.int a5), none, none] [.int (1 : Int32)] (n, SH1, I1, J)
        refine q_if (c := 0) rfl (by decide) (fun h => absurd (show (1 : Int) = 0 from h) (by decide)) (fun y4 => ?_)
        have y4 : (1 : Int) ≠ 0 := y4
        refine q_ild rfl rfl ?_
        refine q_ic rfl ?_
        refine q_ic rfl ?_
        refine q_callS (as := [.int a5, .int (0 : Int32), .int (2 : Int32)]) (rest := []) rfl rfl rfl rfl ?_
        refine v_isIn (fun w_ oB => ?_)
        rcases oB with ⟨rfl, oB⟩ | ⟨rfl, oB⟩
        · have oB : (0 ≤ a5.toInt ∧ a5.toInt ≤ 2) := oB
          show dw_ok (pr_X12_part K) 39 0 0 [some (.ref 404), some (.int a1), some (.int a2), some (.int a3), some (.int a4), some (.int a5), none, none] [.int (1 : Int32)] (n, SH1, I1, J)
          refine q_if (c := 1) rfl (by decide) (fun y5 => ?_) (fun h => absurd (show (1 : Int) = 0 from h) (by decide))
          have y5 : (1 : Int) ≠ 0 := y5
          refine q_ald rfl rfl ?_
          refine q_ild rfl rfl ?_
          refine q_ild rfl rfl ?_
          refine q_callV (as := [.int a2, .int a3]) (rest := []) rfl rfl sk_404 rfl (Nat.le_of_ble_eq_true rfl) ?_
          refine v_numberOf ?_
          show dw_ok (pr_X12_part K) 50 0 0 [some (.ref 404), some (.int a1), some (.int a2), some (.int a3), some (.int a4), some (.int a5), none, none] [.int (I1 406 0 * a3 + a2)] (n, SH1, I1, J)
          rw [eI1]
          have en : (R 0 * a3 + a2).toInt.toNat = cN R a2 a3 := by rw [(cN_i hG oC).2]; rfl
          have el := cN_lt oC
          have el9 := (gok_N hG).2
          have ei : (R 0 * a3 + a2).toInt = (cN R a2 a3 : Nat) := (cN_i hG oC).2
          show dw_ok (pr_X12_part K) 50 0 0 [some (.ref 404), some (.int a1), some (.int a2), some (.int a3), some (.int a4), some (.int a5), none, none] [.int (R 0 * a3 + a2)] (n, SH1, I1, J)
          refine q_ist rfl rfl ?_
          show dw_ok (pr_X12_part K) 52 0 0 [some (.ref 404), some (.int a1), some (.int a2), some (.int a3), some (.int a4), some (.int a5), some (.int (R 0 * a3 + a2)), none] [] (n, SH1, I1, J)
          show dw_ok (pr_X12_part K) 52 0 0 [some (.ref 404), some (.int a1), some (.int a2), some (.int a3), some (.int a4), some (.int a5), some (.int (R 0 * a3 + a2)), none] [] (n, SH1, I1, J)
          obtain ⟨c6, hc6⟩ : ∃ z, z = (R 0 * a3 + a2) := ⟨_, rfl⟩
          rw [← hc6]
          have ec6 : c6.toInt = ((cN R a2 a3 : Nat) : Int) := by rw [hc6]; exact ei
          refine q_ald rfl rfl ?_
          refine q_ild rfl rfl ?_
          refine q_ild rfl rfl ?_
          refine q_ild rfl rfl ?_
          refine q_callV (as := [.int a1, .int c6, .int a4]) (rest := []) rfl rfl sk_404 rfl (Nat.le_of_ble_eq_true rfl) ?_
          rw [eI1] at oS
          refine v_timesOf (st := a4.toInt.toNat) (cc := cN R a2 a3) eI1 hG oS (hN oS) (by omega) ec6 el (fun I2 e2 _ hT2 => ?_)
          show dw_ok (pr_X12_part K) 61 0 0 [some (.ref 404), some (.int a1), some (.int a2), some (.int a3), some (.int a4), some (.int a5), some (.int c6), none] [] (n, SH1, I2, J)
          refine q_ic rfl ?_
          refine q_ist rfl rfl ?_
          show dw_ok (pr_X12_part K) 64 0 0 [some (.ref 404), some (.int a1), some (.int a2), some (.int a3), some (.int a4), some (.int a5), some (.int c6), some (.int (0 : Int32))] [] (n, SH1, I2, J)
          refine mpc_loop (I0 := I2) (fun t I3 q3 hT3 => ?_) 144 0 0 I2 rfl rfl (fun _ _ => rfl) (fun t ht => absurd ht (Nat.not_lt_zero t))
          have e3 : I3 406 = R := (q3 406 (by decide)).trans e2
          show dw_ok (pr_X12_part K) 92 0 0 [some (.ref 404), some (.int a1), some (.int a2), some (.int a3), some (.int a4), some (.int a5), some (.int c6), some (.int t)] [] (n, SH1, I3, J)
          refine q_ald rfl rfl ?_
          refine q_ild rfl rfl ?_
          refine q_ild rfl rfl ?_
          refine q_ild rfl rfl ?_
          refine q_callV (as := [.int a1, .int c6, .int a5]) (rest := []) rfl rfl sk_404 rfl (Nat.le_of_ble_eq_true rfl) ?_
          refine v_timesOf (st := a5.toInt.toNat) (cc := cN R a2 a3) e3 hG oS (hN oS) (by omega) ec6 el (fun I4 e4 q4 hT4 => ?_)
          show dw_ok (pr_X12_part K) 101 0 0 [some (.ref 404), some (.int a1), some (.int a2), some (.int a3), some (.int a4), some (.int a5), some (.int c6), some (.int t)] [] (n, SH1, I4, J)
          refine q_ic rfl ?_
          refine q_ist rfl rfl ?_
          show dw_ok (pr_X12_part K) 104 0 0 [some (.ref 404), some (.int a1), some (.int a2), some (.int a3), some (.int a4), some (.int a5), some (.int c6), some (.int (0 : Int32))] [] (n, SH1, I4, J)
          exact mpt_loop (a := a4.toInt.toNat) (b := a5.toInt.toNat) (cc := cN R a2 a3) hT4 (fun t ht => by rw [q4 423 (by decide) (by decide) (by decide), hT3 t ht, hT2 t ht]) (fun w I' hw => hk w I' (by unfold aPart; rw [if_pos ⟨oS, oC, oA, oB⟩]; exact hw)) 144 0 0 rfl rfl rfl
        · have oB : ¬ (0 ≤ a5.toInt ∧ a5.toInt ≤ 2) := oB
          show dw_ok (pr_X12_part K) 39 0 0 [some (.ref 404), some (.int a1), some (.int a2), some (.int a3), some (.int a4), some (.int a5), none, none] [.int (0 : Int32)] (n, SH1, I1, J)
          refine q_if (c := 1) rfl (by decide) (fun h => absurd (show (0 : Int) ≠ 0 from h) (by decide)) (fun y6 => ?_)
          have y6 : (0 : Int) = 0 := y6
          refine q_ic rfl ?_
          refine q_iret rfl (hk _ _ ?_)
          unfold aPart
          rw [if_neg (fun q => oB q.2.2.2)]
          exact cm1
      · have oA : ¬ (0 ≤ a4.toInt ∧ a4.toInt ≤ 2) := oA
        show dw_ok (pr_X12_part K) 29 0 0 [some (.ref 404), some (.int a1), some (.int a2), some (.int a3), some (.int a4), some (.int a5), none, none] [.int (0 : Int32)] (n, SH1, I1, J)
        refine q_if (c := 0) rfl (by decide) (fun y7 => ?_) (fun h => absurd (show (0 : Int) ≠ 0 from h) (by decide))
        have y7 : (0 : Int) = 0 := y7
        refine q_ic rfl ?_
        refine q_iret rfl (hk _ _ ?_)
        unfold aPart
        rw [if_neg (fun q => oA q.2.2.1)]
        exact cm1
    · show dw_ok (pr_X12_part K) 19 0 0 [some (.ref 404), some (.int a1), some (.int a2), some (.int a3), some (.int a4), some (.int a5), none, none] [.int (0 : Int32)] (n, SH1, I1, J)
      refine q_if (c := 0) rfl (by decide) (fun y8 => ?_) (fun h => absurd (show (0 : Int) ≠ 0 from h) (by decide))
      have y8 : (0 : Int) = 0 := y8
      refine q_ic rfl ?_
      refine q_iret rfl (hk _ _ ?_)
      unfold aPart
      rw [if_neg (fun q => oC q.2.1)]
      exact cm1
  · show dw_ok (pr_X12_part K) 10 0 0 [some (.ref 404), some (.int a1), some (.int a2), some (.int a3), some (.int a4), some (.int a5), none, none] [.int (0 : Int32)] (n, SH1, I1, J)
    refine q_if (c := 0) rfl (by decide) (fun y9 => ?_) (fun h => absurd (show (0 : Int) ≠ 0 from h) (by decide))
    have y9 : (0 : Int) = 0 := y9
    refine q_ic rfl ?_
    refine q_iret rfl (hk _ _ ?_)
    unfold aPart
    rw [if_neg (by rw [eI1] at oS; exact fun q => oS q.1)]
    exact cm1
set_option maxRecDepth 8000 in
theorem unl_loop {n : Nat} {J : Nat → Nat → Int64} {K : dw_K} {R S S' : Nat → Int32} {a1 a2 : Int32} (hG : GOK R) (hk : ∀ (w : Int32) (I' : Nat → Nat → Int32), w.toInt = fsF (ulP R S S') 0 144 → K (some (.int w)) (n, SH1, I', J)) :
    ∀ (f k : Nat) (t : Int32) (I : Nat → Nat → Int32), k + f = 144 → t.toInt = k → fsF (ulP R S S') 0 144 = fsF (ulP R S S') k f → CSK I 164 (Nn R) 0 (fun _ => gC R) (gT S) (g0S R S) 0 k → CSK I 179 (Nn R) 0 (fun _ => gC R) (gT S') (g0S R S') 0 k → dw_ok (pr_X11_unlike K) 28 0 0 [some (.ref 0), some (.int a1), some (.int a2), some (.int t)] [] (n, SH1, I, J) := by
  have cm1 : (-1 : Int32).toInt = -1 := rfl
  have k0 : (0 : Int32).toInt = 0 := rfl
  have k1 : (1 : Int32).toInt = 1 := rfl
  have hN9 := (gok_N hG).2
  intro f
  induction f with
  | zero =>
    intro k t I hf ht hp hA hB
    refine q_ild rfl rfl ?_
    refine q_ic rfl ?_
    refine q_icmp (c := 3) rfl (by decide) (fun y1 => ?_) (fun h => absurd (show (t).toInt < (144 : Int) from h) (by omega))
    have y1 : (144 : Int) ≤ (t).toInt := y1
    refine q_ic rfl ?_
    exact q_iret rfl (hk _ I (cm1.trans hp.symm))
  | succ f ih =>
    intro k t I hf ht hp hA hB
    refine q_ild rfl rfl ?_
    refine q_ic rfl ?_
    refine q_icmp (c := 3) rfl (by decide) (fun h => absurd (show (144 : Int) ≤ (t).toInt from h) (by omega)) (fun y2 => ?_)
    have y2 : (t).toInt < (144 : Int) := y2
    refine q_ald rfl rfl ?_
    refine q_getr rfl sk_0 sr_0_6 ?_
    refine q_callV (as := []) (rest := []) rfl rfl sk_164 rfl (Nat.le_of_ble_eq_true rfl) ?_
    refine v_stepR (A := 164) (rt_ok (by decide)) hA (by omega) hN9 (fun I1 ga _ hA1 => ?_)
    show dw_ok (pr_X11_unlike K) 42 0 0 [some (.ref 0), some (.int a1), some (.int a2), some (.int t)] [] (n, SH1, I1, J)
    have hB1 := csk_fr (I' := I1) (fun x p q => ga x (by omega) (by omega) (by omega)) hB
    show dw_ok (pr_X11_unlike K) 42 0 0 [some (.ref 0), some (.int a1), some (.int a2), some (.int t)] [] (n, SH1, I1, J)
    refine q_ald rfl rfl ?_
    refine q_getr rfl sk_0 sr_0_7 ?_
    refine q_callV (as := []) (rest := []) rfl rfl sk_179 rfl (Nat.le_of_ble_eq_true rfl) ?_
    refine v_stepR (A := 179) (rt_ok (by decide)) hB1 (by omega) hN9 (fun I2 gb _ hB2 => ?_)
    show dw_ok (pr_X11_unlike K) 49 0 0 [some (.ref 0), some (.int a1), some (.int a2), some (.int t)] [] (n, SH1, I2, J)
    have hA2 := csk_fr (I' := I2) (fun x p q => gb x (by omega) (by omega) (by omega)) hA1
    show dw_ok (pr_X11_unlike K) 49 0 0 [some (.ref 0), some (.int a1), some (.int a2), some (.int t)] [] (n, SH1, I2, J)
    refine q_ald rfl rfl ?_
    refine q_getr rfl sk_0 sr_0_6 ?_
    refine q_ald rfl rfl ?_
    refine q_getr rfl sk_0 sr_0_7 ?_
    refine q_callV (as := [.ref 179]) (rest := []) rfl rfl sk_164 rfl (Nat.le_of_ble_eq_true rfl) ?_
    have wa : ∀ c, c < Nn R → I2 (164 + 14) c = (runW R S 0 (k + 1)).2.1 c := hA2.2.2.1.2.1
    have wb : ∀ c, c < Nn R → I2 (179 + 14) c = (runW R S' 0 (k + 1)).2.1 c := hB2.2.2.1.2.1
    refine v_isUnlike (A := 164) (B := 179) (N := Nn R) (rt_ok (by decide)) hA2.2.2.2.1 hN9 (rt_ok (by decide)) hB2.2.2.2.1 (fun hu => ?_) (fun hu => ?_)
    · show dw_ok (pr_X11_unlike K) 60 0 0 [some (.ref 0), some (.int a1), some (.int a2), some (.int t)] [.int (1 : Int32)] (n, SH1, I2, J)
      refine q_if (c := 0) rfl (by decide) (fun h => absurd (show (1 : Int) = 0 from h) (by decide)) (fun y3 => ?_)
      have y3 : (1 : Int) ≠ 0 := y3
      refine q_ild rfl rfl ?_
      have hq : ulP R S S' k = true := df_y (by
        obtain ⟨c, hc, q⟩ := hu
        exact ⟨c, hc, by rw [← wa c hc, ← wb c hc]; exact q⟩)
      exact q_iret rfl (hk _ I2 (by rw [hp, fs_y hq, ht]))
    · show dw_ok (pr_X11_unlike K) 60 0 0 [some (.ref 0), some (.int a1), some (.int a2), some (.int t)] [.int (0 : Int32)] (n, SH1, I2, J)
      refine q_if (c := 0) rfl (by decide) (fun y4 => ?_) (fun h => absurd (show (0 : Int) ≠ 0 from h) (by decide))
      have y4 : (0 : Int) = 0 := y4
      refine q_inc rfl rfl rfl ?_
      show dw_ok (pr_X11_unlike K) 68 0 0 [some (.ref 0), some (.int a1), some (.int a2), some (.int (t + 1))] [] (n, SH1, I2, J)
      show dw_ok (pr_X11_unlike K) 68 0 0 [some (.ref 0), some (.int a1), some (.int a2), some (.int (t + 1))] [] (n, SH1, I2, J)
      obtain ⟨tx, htx⟩ : ∃ z, z = (t + 1) := ⟨_, rfl⟩
      rw [← htx]
      have etx : tx.toInt = ((k + 1 : Nat) : Int) := by rw [htx]; exact ix_1 ht (by omega)
      refine q_goto rfl ?_
      have hq : ulP R S S' k = false := df_n (fun c hc => by rw [← wa c hc, ← wb c hc]; exact hu c hc)
      exact ih (k + 1) tx I2 (by omega) etx (by rw [hp, fs_n hq]) hA2 hB2
set_option maxRecDepth 8000 in
theorem v_cunlike {n : Nat} {I : Nat → Nat → Int32} {J : Nat → Nat → Int64} {K : dw_K} {R : Nat → Int32} (hR : SREL I 3 R) {a1 a2 : Int32} (hk : ∀ (w : Int32) (I' : Nat → Nat → Int32), w.toInt = aUnlike R a1 a2 → K (some (.int w)) (n, SH1, I', J)) : t_X11_unlike [.ref 0, .int a1, .int a2] (n, SH1, I, J) K := by
  have cm1 : (-1 : Int32).toInt = -1 := rfl
  have k0 : (0 : Int32).toInt = 0 := rfl
  have k1 : (1 : Int32).toInt = 1 := rfl
  refine q_body (Nat.le_of_ble_eq_true rfl) ?_
  refine q_ald rfl rfl ?_
  refine q_ald rfl rfl ?_
  refine q_getr rfl sk_0 sr_0_6 ?_
  refine q_ild rfl rfl ?_
  refine q_callV (as := [.ref 164, .int a1]) (rest := []) rfl rfl sk_0 rfl (Nat.le_of_ble_eq_true rfl) ?_
  refine v_startR hR (Or.inr (Or.inl rfl)) (fun s hs hxs hS I1 q0 _ hC _ _ _ => ?_) (fun hno => ?_)
  · show dw_ok (pr_X11_unlike K) 9 0 0 [some (.ref 0), some (.int a1), some (.int a2), none] [.int (1 : Int32)] (n, SH1, I1, J)
    refine q_if (c := 0) rfl (by decide) (fun h => absurd (show (1 : Int) = 0 from h) (by decide)) (fun y1 => ?_)
    have y1 : (1 : Int) ≠ 0 := y1
    refine q_ald rfl rfl ?_
    refine q_ald rfl rfl ?_
    refine q_getr rfl sk_0 sr_0_7 ?_
    refine q_ild rfl rfl ?_
    refine q_callV (as := [.ref 179, .int a2]) (rest := []) rfl rfl sk_0 rfl (Nat.le_of_ble_eq_true rfl) ?_
    have hRb : SREL I1 3 R := srel_fr (S := 3) (fun x p q => q0 x (by omega)) (fun _ _ => rfl) hR
    refine v_startR hRb (Or.inr (Or.inr rfl)) (fun sb hsb hxsb hSb I1b q0b _ hCb _ _ _ => ?_) (fun hnob => ?_)
    · show dw_ok (pr_X11_unlike K) 21 0 0 [some (.ref 0), some (.int a1), some (.int a2), none] [.int (1 : Int32)] (n, SH1, I1b, J)
      refine q_if (c := 1) rfl (by decide) (fun y2 => ?_) (fun h => absurd (show (1 : Int) = 0 from h) (by decide))
      have y2 : (1 : Int) ≠ 0 := y2
      refine q_ic rfl ?_
      refine q_ist rfl rfl ?_
      show dw_ok (pr_X11_unlike K) 28 0 0 [some (.ref 0), some (.int a1), some (.int a2), some (.int (0 : Int32))] [] (n, SH1, I1b, J)
      obtain ⟨oS, eS⟩ := okS_of hs hxs hS
      obtain ⟨oSb, eSb⟩ := okS_of hsb hxsb hSb
      exact unl_loop hR.1 (fun w I' hw => hk w I' (by unfold aUnlike; rw [if_pos ⟨oS, oSb⟩, eS, eSb]; exact hw)) 144 0 0 _ rfl rfl rfl (csk_fr (I := I1) (fun x p q => q0b x (by omega)) (cst_k hR.1 hC)) (cst_k hR.1 hCb)
    · show dw_ok (pr_X11_unlike K) 21 0 0 [some (.ref 0), some (.int a1), some (.int a2), none] [.int (0 : Int32)] (n, SH1, I1, J)
      refine q_if (c := 1) rfl (by decide) (fun h => absurd (show (0 : Int) ≠ 0 from h) (by decide)) (fun y3 => ?_)
      have y3 : (0 : Int) = 0 := y3
      refine q_ic rfl ?_
      refine q_iret rfl (hk _ _ ?_)
      unfold aUnlike
      rw [if_neg (fun q => okS_no hnob q.2)]
      exact cm1
  · show dw_ok (pr_X11_unlike K) 9 0 0 [some (.ref 0), some (.int a1), some (.int a2), none] [.int (0 : Int32)] (n, SH1, I, J)
    refine q_if (c := 0) rfl (by decide) (fun y4 => ?_) (fun h => absurd (show (0 : Int) ≠ 0 from h) (by decide))
    have y4 : (0 : Int) = 0 := y4
    refine q_ic rfl ?_
    refine q_iret rfl (hk _ _ ?_)
    unfold aUnlike
    rw [if_neg (fun q => okS_no hno q.1)]
    exact cm1
set_option maxRecDepth 8000 in
theorem muw_loop {n : Nat} {J : Nat → Nat → Int64} {K : dw_K} {R : Nat → Int32} {a1 a2 t : Int32} {τ : Nat} {I0 : Nat → Nat → Int32} (e0 : I0 406 = R) (hG : GOK R) (ht : t.toInt = τ) (hτ : τ < 144)
    (hk : ∀ (c : Int32) (I' : Nat → Nat → Int32), (∀ a, a ≠ 426 → I' a = I0 a) → (∀ j, j < 144 * τ → I' 426 j = I0 426 j) → (∀ j, j < Nn R → I' 426 (144 * τ + j) = I0 417 j) → dw_ok (pr_X12_unlike K) 81 0 0 [some (.ref 404), some (.int a1), some (.int a2), some (.int t), some (.int c)] [] (n, SH1, I', J)) :
    ∀ (f k : Nat) (c : Int32) (I : Nat → Nat → Int32), k + f = Nn R → c.toInt = k → (∀ a, a ≠ 426 → I a = I0 a) → (∀ j, j < 144 * τ → I 426 j = I0 426 j) → (∀ j, j < k → I 426 (144 * τ + j) = I0 417 j) → dw_ok (pr_X12_unlike K) 46 0 0 [some (.ref 404), some (.int a1), some (.int a2), some (.int t), some (.int c)] [] (n, SH1, I, J) := by
  have cm1 : (-1 : Int32).toInt = -1 := rfl
  have k0 : (0 : Int32).toInt = 0 := rfl
  have k1 : (1 : Int32).toInt = 1 := rfl
  obtain ⟨hN, hN9⟩ := gok_N hG
  have htn : t.toInt.toNat = τ := by omega
  intro f
  induction f with
  | zero =>
    intro k c I hf hc hfr h1 h2
    have e1 : I 406 = R := (hfr 406 (by decide)).trans e0
    obtain rfl : k = Nn R := by omega
    refine q_ild rfl rfl ?_
    refine q_ald rfl rfl ?_
    refine q_callV (as := []) (rest := [.int c]) rfl rfl sk_404 rfl (Nat.le_of_ble_eq_true rfl) ?_
    refine v_mcells ?_
    show dw_ok (pr_X12_unlike K) 52 0 0 [some (.ref 404), some (.int a1), some (.int a2), some (.int t), some (.int c)] [.int (I 406 0 * I 406 1), .int c] (n, SH1, I, J)
    rw [show I 406 = R from e1]
    obtain ⟨nv1, hnv1⟩ : ∃ z, z = R 0 * R 1 := ⟨_, rfl⟩
    rw [← hnv1]
    have env1 : nv1.toInt = Nn R := by rw [hnv1]; exact hN
    show dw_ok (pr_X12_unlike K) 52 0 0 [some (.ref 404), some (.int a1), some (.int a2), some (.int t), some (.int c)] [.int nv1, .int c] (n, SH1, I, J)
    refine q_icmp (c := 3) rfl (by decide) (fun y2 => ?_) (fun h => absurd (show (c).toInt < (nv1).toInt from h) (by omega))
    have y2 : (nv1).toInt ≤ (c).toInt := y2
    exact hk c I hfr h1 h2
  | succ f ih =>
    intro k c I hf hc hfr h1 h2
    have e1 : I 406 = R := (hfr 406 (by decide)).trans e0
    have hcn : c.toInt.toNat = k := by omega
    refine q_ild rfl rfl ?_
    refine q_ald rfl rfl ?_
    refine q_callV (as := []) (rest := [.int c]) rfl rfl sk_404 rfl (Nat.le_of_ble_eq_true rfl) ?_
    refine v_mcells ?_
    show dw_ok (pr_X12_unlike K) 52 0 0 [some (.ref 404), some (.int a1), some (.int a2), some (.int t), some (.int c)] [.int (I 406 0 * I 406 1), .int c] (n, SH1, I, J)
    rw [show I 406 = R from e1]
    obtain ⟨nv3, hnv3⟩ : ∃ z, z = R 0 * R 1 := ⟨_, rfl⟩
    rw [← hnv3]
    have env3 : nv3.toInt = Nn R := by rw [hnv3]; exact hN
    show dw_ok (pr_X12_unlike K) 52 0 0 [some (.ref 404), some (.int a1), some (.int a2), some (.int t), some (.int c)] [.int nv3, .int c] (n, SH1, I, J)
    refine q_icmp (c := 3) rfl (by decide) (fun h => absurd (show (nv3).toInt ≤ (c).toInt from h) (by omega)) (fun y4 => ?_)
    have y4 : (c).toInt < (nv3).toInt := y4
    refine q_ald rfl rfl ?_
    refine q_getr rfl sk_404 sr_404_46 ?_
    refine q_ic rfl ?_
    refine q_ild rfl rfl ?_
    refine q_mul rfl ?_
    refine q_ild rfl rfl ?_
    refine q_add rfl ?_
    show dw_ok (pr_X12_unlike K) 67 0 0 [some (.ref 404), some (.int a1), some (.int a2), some (.int t), some (.int c)] [.int (((144 : Int32) * t) + c), .ref 426] (n, SH1, I, J)
    obtain ⟨ix, hix⟩ : ∃ z, z = (((144 : Int32) * t) + c) := ⟨_, rfl⟩
    rw [← hix]
    have eix : ix.toInt = ((144 * τ + k : Nat) : Int) := by rw [hix]; exact ix_a (a := 144 * τ) (m := k) (ix_m (m := 144) ht rfl (by omega)) hc (by omega)
    refine q_ald rfl rfl ?_
    refine q_getr rfl sk_404 sr_404_29 ?_
    refine q_ild rfl rfl ?_
    refine q_xald rfl (Or.inl rfl) sk_417 sn_417 (by omega) (by omega) ?_
    show dw_ok (pr_X12_unlike K) 74 0 0 [some (.ref 404), some (.int a1), some (.int a2), some (.int t), some (.int c)] [.int (I 417 (c).toInt.toNat), .int ix, .ref 426] (n, SH1, I, J)
    rw [hcn]
    refine q_iast rfl sk_426 sn_426 (by omega) (by omega) ?_
    show dw_ok (pr_X12_unlike K) 75 0 0 [some (.ref 404), some (.int a1), some (.int a2), some (.int t), some (.int c)] [] (n, SH1, (dw_up I 426 (ix).toInt.toNat (I 417 k)), J)
    rw [(nat_of eix)]
    refine q_inc rfl rfl rfl ?_
    show dw_ok (pr_X12_unlike K) 78 0 0 [some (.ref 404), some (.int a1), some (.int a2), some (.int t), some (.int (c + 1))] [] (n, SH1, (dw_up I 426 (144 * τ + k) (I 417 k)), J)
    show dw_ok (pr_X12_unlike K) 78 0 0 [some (.ref 404), some (.int a1), some (.int a2), some (.int t), some (.int (c + 1))] [] (n, SH1, (dw_up I 426 (144 * τ + k) (I 417 k)), J)
    obtain ⟨cx, hcx⟩ : ∃ z, z = (c + 1) := ⟨_, rfl⟩
    rw [← hcx]
    have ecx : cx.toInt = ((k + 1 : Nat) : Int) := by rw [hcx]; exact ix_1 hc (by omega)
    refine q_goto rfl ?_
    refine ih (k + 1) cx (dw_up I 426 (144 * τ + k) (I 417 k)) (by omega) ecx (fun a ha => (up_row ha).trans (hfr a ha)) (fun j hj => (up_fld (by omega)).trans (h1 j hj)) (fun j hj => ?_)
    by_cases e : j = k
    · subst e
      rw [up_same, hfr 417 (by decide)]
    · rw [up_fld (by omega)]
      exact h2 j (by omega)
set_option maxRecDepth 8000 in
theorem muk_loop {n : Nat} {J : Nat → Nat → Int64} {K : dw_K} {R S : Nat → Int32} {a1 a2 : Int32} (hG : GOK R) (hS : NOK S)
    (hk : ∀ (t : Int32) (v : Option Value) (I' : Nat → Nat → Int32), I' 406 = R → (∀ τ, τ < 144 → ∀ c, c < Nn R → I' 426 (144 * τ + c) = (runW R S 0 (τ + 1)).2.1 c) → dw_ok (pr_X12_unlike K) 87 0 0 [some (.ref 404), some (.int a1), some (.int a2), some (.int t), v] [] (n, SH1, I', J)) :
    ∀ (f k : Nat) (t : Int32) (v : Option Value) (I : Nat → Nat → Int32), k + f = 144 → t.toInt = k → I 406 = R → (∀ τ, τ < k → ∀ c, c < Nn R → I 426 (144 * τ + c) = (runW R S 0 (τ + 1)).2.1 c) → MSK I (Nn R) 0 (fun _ => gC R) (gT S) (g0S R S) 0 k → dw_ok (pr_X12_unlike K) 31 0 0 [some (.ref 404), some (.int a1), some (.int a2), some (.int t), v] [] (n, SH1, I, J) := by
  have cm1 : (-1 : Int32).toInt = -1 := rfl
  have k0 : (0 : Int32).toInt = 0 := rfl
  have k1 : (1 : Int32).toInt = 1 := rfl
  have hN9 := (gok_N hG).2
  intro f
  induction f with
  | zero =>
    intro k t v I hf ht hR hT hM
    obtain rfl : k = 144 := by omega
    refine q_ild rfl rfl ?_
    refine q_ic rfl ?_
    refine q_icmp (c := 3) rfl (by decide) (fun y1 => ?_) (fun h => absurd (show (t).toInt < (144 : Int) from h) (by omega))
    have y1 : (144 : Int) ≤ (t).toInt := y1
    exact hk t v I hR hT
  | succ f ih =>
    intro k t v I hf ht hR hT hM
    refine q_ild rfl rfl ?_
    refine q_ic rfl ?_
    refine q_icmp (c := 3) rfl (by decide) (fun h => absurd (show (144 : Int) ≤ (t).toInt from h) (by omega)) (fun y2 => ?_)
    have y2 : (t).toInt < (144 : Int) := y2
    refine q_ald rfl rfl ?_
    refine q_ild rfl rfl ?_
    refine q_callV (as := [.int t]) (rest := []) rfl rfl sk_404 rfl (Nat.le_of_ble_eq_true rfl) ?_
    refine v_mstepR (pur_0 hG hS) hM (by omega) (by omega) (fun I1 g1 g2 hM1 => ?_)
    show dw_ok (pr_X12_unlike K) 43 0 0 [some (.ref 404), some (.int a1), some (.int a2), some (.int t), v] [] (n, SH1, I1, J)
    have eI1 : I1 406 = R := (g1 406 (by decide) (by decide) (by decide)).trans hR
    show dw_ok (pr_X12_unlike K) 43 0 0 [some (.ref 404), some (.int a1), some (.int a2), some (.int t), v] [] (n, SH1, I1, J)
    refine q_ic rfl ?_
    refine q_ist rfl rfl ?_
    show dw_ok (pr_X12_unlike K) 46 0 0 [some (.ref 404), some (.int a1), some (.int a2), some (.int t), some (.int (0 : Int32))] [] (n, SH1, I1, J)
    refine muw_loop (τ := k) (I0 := I1) eI1 hG ht (by omega) (fun c I2 r1 r2 r3 => ?_) (Nn R) 0 0 I1 (by omega) rfl (fun _ _ => rfl) (fun _ _ => rfl) (fun j hj => absurd hj (Nat.not_lt_zero j))
    show dw_ok (pr_X12_unlike K) 81 0 0 [some (.ref 404), some (.int a1), some (.int a2), some (.int t), some (.int c)] [] (n, SH1, I2, J)
    refine q_inc rfl rfl rfl ?_
    show dw_ok (pr_X12_unlike K) 84 0 0 [some (.ref 404), some (.int a1), some (.int a2), some (.int (t + 1)), some (.int c)] [] (n, SH1, I2, J)
    show dw_ok (pr_X12_unlike K) 84 0 0 [some (.ref 404), some (.int a1), some (.int a2), some (.int (t + 1)), some (.int c)] [] (n, SH1, I2, J)
    obtain ⟨tx, htx⟩ : ∃ z, z = (t + 1) := ⟨_, rfl⟩
    rw [← htx]
    have etx : tx.toInt = ((k + 1 : Nat) : Int) := by rw [htx]; exact ix_1 ht (by omega)
    refine q_goto rfl ?_
    refine ih (k + 1) tx _ I2 (by omega) etx ((r1 406 (by decide)).trans eI1) (fun τ hτ c hc => ?_) (msk_fr (fun a _ _ => r1 a (by omega)) hM1)
    by_cases e : τ = k
    · subst e
      rw [r3 c hc]
      exact hM1.2.2.1.2.1 c hc
    · rw [r2 (144 * τ + c) (by omega), g1 426 (by decide) (by decide) (by decide)]
      exact hT τ (by omega) c hc
set_option maxRecDepth 8000 in
theorem muc_loop {n : Nat} {J : Nat → Nat → Int64} {K : dw_K} {R : Nat → Int32} {a1 a2 t : Int32} {τ : Nat} {I : Nat → Nat → Int32} (e1 : I 406 = R) (hG : GOK R) (ht : t.toInt = τ) (hτ : τ < 144)
    (hk1 : (∃ c, c < Nn R ∧ I 417 c ≠ I 426 (144 * τ + c)) → K (some (.int t)) (n, SH1, I, J)) (hk0 : ∀ c : Int32, (∀ c, c < Nn R → I 417 c = I 426 (144 * τ + c)) → dw_ok (pr_X12_unlike K) 150 0 0 [some (.ref 404), some (.int a1), some (.int a2), some (.int t), some (.int c)] [] (n, SH1, I, J)) :
    ∀ (f k : Nat) (c : Int32), k + f = Nn R → c.toInt = k → (∀ j, j < k → I 417 j = I 426 (144 * τ + j)) → dw_ok (pr_X12_unlike K) 110 0 0 [some (.ref 404), some (.int a1), some (.int a2), some (.int t), some (.int c)] [] (n, SH1, I, J) := by
  have cm1 : (-1 : Int32).toInt = -1 := rfl
  have k0 : (0 : Int32).toInt = 0 := rfl
  have k1 : (1 : Int32).toInt = 1 := rfl
  obtain ⟨hN, hN9⟩ := gok_N hG
  intro f
  induction f with
  | zero =>
    intro k c hf hc h2
    obtain rfl : k = Nn R := by omega
    refine q_ild rfl rfl ?_
    refine q_ald rfl rfl ?_
    refine q_callV (as := []) (rest := [.int c]) rfl rfl sk_404 rfl (Nat.le_of_ble_eq_true rfl) ?_
    refine v_mcells ?_
    show dw_ok (pr_X12_unlike K) 116 0 0 [some (.ref 404), some (.int a1), some (.int a2), some (.int t), some (.int c)] [.int (I 406 0 * I 406 1), .int c] (n, SH1, I, J)
    rw [show I 406 = R from e1]
    obtain ⟨nv1, hnv1⟩ : ∃ z, z = R 0 * R 1 := ⟨_, rfl⟩
    rw [← hnv1]
    have env1 : nv1.toInt = Nn R := by rw [hnv1]; exact hN
    show dw_ok (pr_X12_unlike K) 116 0 0 [some (.ref 404), some (.int a1), some (.int a2), some (.int t), some (.int c)] [.int nv1, .int c] (n, SH1, I, J)
    refine q_icmp (c := 3) rfl (by decide) (fun y2 => ?_) (fun h => absurd (show (c).toInt < (nv1).toInt from h) (by omega))
    have y2 : (nv1).toInt ≤ (c).toInt := y2
    exact hk0 c h2
  | succ f ih =>
    intro k c hf hc h2
    have hcn : c.toInt.toNat = k := by omega
    refine q_ild rfl rfl ?_
    refine q_ald rfl rfl ?_
    refine q_callV (as := []) (rest := [.int c]) rfl rfl sk_404 rfl (Nat.le_of_ble_eq_true rfl) ?_
    refine v_mcells ?_
    show dw_ok (pr_X12_unlike K) 116 0 0 [some (.ref 404), some (.int a1), some (.int a2), some (.int t), some (.int c)] [.int (I 406 0 * I 406 1), .int c] (n, SH1, I, J)
    rw [show I 406 = R from e1]
    obtain ⟨nv3, hnv3⟩ : ∃ z, z = R 0 * R 1 := ⟨_, rfl⟩
    rw [← hnv3]
    have env3 : nv3.toInt = Nn R := by rw [hnv3]; exact hN
    show dw_ok (pr_X12_unlike K) 116 0 0 [some (.ref 404), some (.int a1), some (.int a2), some (.int t), some (.int c)] [.int nv3, .int c] (n, SH1, I, J)
    refine q_icmp (c := 3) rfl (by decide) (fun h => absurd (show (nv3).toInt ≤ (c).toInt from h) (by omega)) (fun y4 => ?_)
    have y4 : (c).toInt < (nv3).toInt := y4
    refine q_ald rfl rfl ?_
    refine q_getr rfl sk_404 sr_404_29 ?_
    refine q_ild rfl rfl ?_
    refine q_xald rfl (Or.inl rfl) sk_417 sn_417 (by omega) (by omega) ?_
    show dw_ok (pr_X12_unlike K) 126 0 0 [some (.ref 404), some (.int a1), some (.int a2), some (.int t), some (.int c)] [.int (I 417 (c).toInt.toNat)] (n, SH1, I, J)
    rw [hcn]
    refine q_ald rfl rfl ?_
    refine q_getr rfl sk_404 sr_404_46 ?_
    refine q_ic rfl ?_
    refine q_ild rfl rfl ?_
    refine q_mul rfl ?_
    refine q_ild rfl rfl ?_
    refine q_add rfl ?_
    show dw_ok (pr_X12_unlike K) 138 0 0 [some (.ref 404), some (.int a1), some (.int a2), some (.int t), some (.int c)] [.int (((144 : Int32) * t) + c), .ref 426, .int (I 417 k)] (n, SH1, I, J)
    obtain ⟨ix, hix⟩ : ∃ z, z = (((144 : Int32) * t) + c) := ⟨_, rfl⟩
    rw [← hix]
    have eix : ix.toInt = ((144 * τ + k : Nat) : Int) := by rw [hix]; exact ix_a (a := 144 * τ) (m := k) (ix_m (m := 144) ht rfl (by omega)) hc (by omega)
    refine q_xald rfl (Or.inl rfl) sk_426 sn_426 (by omega) (by omega) ?_
    show dw_ok (pr_X12_unlike K) 139 0 0 [some (.ref 404), some (.int a1), some (.int a2), some (.int t), some (.int c)] [.int (I 426 (ix).toInt.toNat), .int (I 417 k)] (n, SH1, I, J)
    rw [(nat_of eix)]
    refine q_icmp (c := 0) rfl (by decide) (fun y5 => ?_) (fun y5 => ?_)
    · have y5 : ((I 417 k)).toInt = ((I 426 (144 * τ + k))).toInt := y5
      refine q_inc rfl rfl rfl ?_
      show dw_ok (pr_X12_unlike K) 147 0 0 [some (.ref 404), some (.int a1), some (.int a2), some (.int t), some (.int (c + 1))] [] (n, SH1, I, J)
      show dw_ok (pr_X12_unlike K) 147 0 0 [some (.ref 404), some (.int a1), some (.int a2), some (.int t), some (.int (c + 1))] [] (n, SH1, I, J)
      obtain ⟨cx, hcx⟩ : ∃ z, z = (c + 1) := ⟨_, rfl⟩
      rw [← hcx]
      have ecx : cx.toInt = ((k + 1 : Nat) : Int) := by rw [hcx]; exact ix_1 hc (by omega)
      refine q_goto rfl ?_
      refine ih (k + 1) cx (by omega) ecx (fun j hj => ?_)
      by_cases e : j = k
      · subst e; exact i_eq y5
      · exact h2 j (by omega)
    · have y5 : ((I 417 k)).toInt ≠ ((I 426 (144 * τ + k))).toInt := y5
      refine q_ild rfl rfl ?_
      exact q_iret rfl (hk1 ⟨k, by omega, fun q => y5 (by rw [q])⟩)
set_option maxRecDepth 8000 in
theorem mus_loop {n : Nat} {J : Nat → Nat → Int64} {K : dw_K} {R S S' : Nat → Int32} {a1 a2 : Int32} (hG : GOK R) (hS' : NOK S') (hk : ∀ (w : Int32) (I' : Nat → Nat → Int32), w.toInt = fsF (ulP R S S') 0 144 → K (some (.int w)) (n, SH1, I', J)) :
    ∀ (f k : Nat) (t : Int32) (v : Option Value) (I : Nat → Nat → Int32), k + f = 144 → t.toInt = k → fsF (ulP R S S') 0 144 = fsF (ulP R S S') k f → I 406 = R → (∀ τ, τ < 144 → ∀ c, c < Nn R → I 426 (144 * τ + c) = (runW R S 0 (τ + 1)).2.1 c) → MSK I (Nn R) 0 (fun _ => gC R) (gT S') (g0S R S') 0 k → dw_ok (pr_X12_unlike K) 95 0 0 [some (.ref 404), some (.int a1), some (.int a2), some (.int t), v] [] (n, SH1, I, J) := by
  have cm1 : (-1 : Int32).toInt = -1 := rfl
  have k0 : (0 : Int32).toInt = 0 := rfl
  have k1 : (1 : Int32).toInt = 1 := rfl
  have hN9 := (gok_N hG).2
  intro f
  induction f with
  | zero =>
    intro k t v I hf ht hp hR hT hM
    refine q_ild rfl rfl ?_
    refine q_ic rfl ?_
    refine q_icmp (c := 3) rfl (by decide) (fun y1 => ?_) (fun h => absurd (show (t).toInt < (144 : Int) from h) (by omega))
    have y1 : (144 : Int) ≤ (t).toInt := y1
    refine q_ic rfl ?_
    exact q_iret rfl (hk _ I (cm1.trans hp.symm))
  | succ f ih =>
    intro k t v I hf ht hp hR hT hM
    refine q_ild rfl rfl ?_
    refine q_ic rfl ?_
    refine q_icmp (c := 3) rfl (by decide) (fun h => absurd (show (144 : Int) ≤ (t).toInt from h) (by omega)) (fun y2 => ?_)
    have y2 : (t).toInt < (144 : Int) := y2
    refine q_ald rfl rfl ?_
    refine q_ild rfl rfl ?_
    refine q_callV (as := [.int t]) (rest := []) rfl rfl sk_404 rfl (Nat.le_of_ble_eq_true rfl) ?_
    refine v_mstepR (pur_0 hG hS') hM (by omega) (by omega) (fun I1 g1 g2 hM1 => ?_)
    show dw_ok (pr_X12_unlike K) 107 0 0 [some (.ref 404), some (.int a1), some (.int a2), some (.int t), v] [] (n, SH1, I1, J)
    have eI1 : I1 406 = R := (g1 406 (by decide) (by decide) (by decide)).trans hR
    show dw_ok (pr_X12_unlike K) 107 0 0 [some (.ref 404), some (.int a1), some (.int a2), some (.int t), v] [] (n, SH1, I1, J)
    refine q_ic rfl ?_
    refine q_ist rfl rfl ?_
    show dw_ok (pr_X12_unlike K) 110 0 0 [some (.ref 404), some (.int a1), some (.int a2), some (.int t), some (.int (0 : Int32))] [] (n, SH1, I1, J)
    have wb : ∀ c, c < Nn R → I1 417 c = (runW R S' 0 (k + 1)).2.1 c := hM1.2.2.1.2.1
    have wa : ∀ c, c < Nn R → I1 426 (144 * k + c) = (runW R S 0 (k + 1)).2.1 c := fun c hc => by rw [g1 426 (by decide) (by decide) (by decide)]; exact hT k (by omega) c hc
    refine muc_loop (τ := k) eI1 hG ht (by omega) (fun hu => hk t I1 ?_) (fun c hu => ?_) (Nn R) 0 0 (by omega) rfl (fun j hj => absurd hj (Nat.not_lt_zero j))
    · have hq : ulP R S S' k = true := df_y (by
        obtain ⟨c, hc, q⟩ := hu
        exact ⟨c, hc, by rw [← wa c hc, ← wb c hc]; exact fun z => q z.symm⟩)
      rw [hp, fs_y hq, ht]
    · show dw_ok (pr_X12_unlike K) 150 0 0 [some (.ref 404), some (.int a1), some (.int a2), some (.int t), some (.int c)] [] (n, SH1, I1, J)
      refine q_inc rfl rfl rfl ?_
      show dw_ok (pr_X12_unlike K) 153 0 0 [some (.ref 404), some (.int a1), some (.int a2), some (.int (t + 1)), some (.int c)] [] (n, SH1, I1, J)
      show dw_ok (pr_X12_unlike K) 153 0 0 [some (.ref 404), some (.int a1), some (.int a2), some (.int (t + 1)), some (.int c)] [] (n, SH1, I1, J)
      obtain ⟨tx, htx⟩ : ∃ z, z = (t + 1) := ⟨_, rfl⟩
      rw [← htx]
      have etx : tx.toInt = ((k + 1 : Nat) : Int) := by rw [htx]; exact ix_1 ht (by omega)
      refine q_goto rfl ?_
      have hq : ulP R S S' k = false := df_n (fun c hc => by rw [← wa c hc, ← wb c hc]; exact (hu c hc).symm)
      exact ih (k + 1) tx _ I1 (by omega) etx (by rw [hp, fs_n hq]) eI1 (fun τ hτ c hc => by rw [g1 426 (by decide) (by decide) (by decide)]; exact hT τ hτ c hc) hM1
set_option maxRecDepth 8000 in
set_option maxHeartbeats 4000000 in
theorem v_munlike {n : Nat} {I : Nat → Nat → Int32} {J : Nat → Nat → Int64} {K : dw_K} {R : Nat → Int32} (hR : I 406 = R) (hG : GOK R) {a1 a2 : Int32} (hN : okS R a1 → NOK (nX R a1)) (hN2 : okS R a2 → NOK (nX R a2)) (hk : ∀ (w : Int32) (I' : Nat → Nat → Int32), w.toInt = aUnlike R a1 a2 → K (some (.int w)) (n, SH1, I', J)) : t_X12_unlike [.ref 404, .int a1, .int a2] (n, SH1, I, J) K := by
  have cm1 : (-1 : Int32).toInt = -1 := rfl
  have k0 : (0 : Int32).toInt = 0 := rfl
  have k1 : (1 : Int32).toInt = 1 := rfl
  have k2 : (2 : Int32).toInt = 2 := rfl
  refine q_body (Nat.le_of_ble_eq_true rfl) ?_
  refine q_ald rfl rfl ?_
  refine q_ic rfl ?_
  refine q_puti rfl sk_404 ?_
  show dw_ok (pr_X12_unlike K) 5 0 0 [some (.ref 404), some (.int a1), some (.int a2), none, none] [] (n, SH1, (dw_up I 404 0 (0 : Int32)), J)
  refine q_ald rfl rfl ?_
  refine q_ild rfl rfl ?_
  refine q_callV (as := [.int a1]) (rest := []) rfl rfl sk_404 rfl (Nat.le_of_ble_eq_true rfl) ?_
  obtain ⟨I1, hI1⟩ : ∃ X, X = (dw_up I 404 0 (0 : Int32)) := ⟨_, rfl⟩
  rw [← hI1]
  have eI1 : I1 406 = R := by rw [hI1]; exact ((up_row (by decide)).trans (hR))
  refine v_isNight (fun w_ oS => ?_)
  rcases oS with ⟨rfl, oS⟩ | ⟨rfl, oS⟩
  · show dw_ok (pr_X12_unlike K) 10 0 0 [some (.ref 404), some (.int a1), some (.int a2), none, none] [.int (1 : Int32)] (n, SH1, I1, J)
    refine q_if (c := 0) rfl (by decide) (fun h => absurd (show (1 : Int) = 0 from h) (by decide)) (fun y2 => ?_)
    have y2 : (1 : Int) ≠ 0 := y2
    refine q_ald rfl rfl ?_
    refine q_ild rfl rfl ?_
    refine q_callV (as := [.int a2]) (rest := []) rfl rfl sk_404 rfl (Nat.le_of_ble_eq_true rfl) ?_
    refine v_isNight (fun w_ oSb => ?_)
    rcases oSb with ⟨rfl, oSb⟩ | ⟨rfl, oSb⟩
    · show dw_ok (pr_X12_unlike K) 18 0 0 [some (.ref 404), some (.int a1), some (.int a2), none, none] [.int (1 : Int32)] (n, SH1, I1, J)
      refine q_if (c := 1) rfl (by decide) (fun y3 => ?_) (fun h => absurd (show (1 : Int) = 0 from h) (by decide))
      have y3 : (1 : Int) ≠ 0 := y3
      refine q_ald rfl rfl ?_
      refine q_ild rfl rfl ?_
      refine q_ic rfl ?_
      refine q_callV (as := [.int a1, .int (0 : Int32)]) (rest := []) rfl rfl sk_404 rfl (Nat.le_of_ble_eq_true rfl) ?_
      rw [eI1] at oS oSb
      refine v_mstartR (st := 0) eI1 hG oS (hN oS) rfl (fun I9 g0 _ _ hM _ => ?_)
      have e9 : I9 406 = R := (g0 406 (by decide) (by decide)).trans eI1
      show dw_ok (pr_X12_unlike K) 29 0 0 [some (.ref 404), some (.int a1), some (.int a2), none, none] [] (n, SH1, I9, J)
      refine q_ic rfl ?_
      refine q_ist rfl rfl ?_
      show dw_ok (pr_X12_unlike K) 31 0 0 [some (.ref 404), some (.int a1), some (.int a2), some (.int (0 : Int32)), none] [] (n, SH1, I9, J)
      refine muk_loop hG (hN oS) (fun t v I3 e3 hT3 => ?_) 144 0 0 _ I9 rfl rfl e9 (fun τ hτ => absurd hτ (Nat.not_lt_zero τ)) hM
      show dw_ok (pr_X12_unlike K) 87 0 0 [some (.ref 404), some (.int a1), some (.int a2), some (.int t), v] [] (n, SH1, I3, J)
      refine q_ald rfl rfl ?_
      refine q_ild rfl rfl ?_
      refine q_ic rfl ?_
      refine q_callV (as := [.int a2, .int (0 : Int32)]) (rest := []) rfl rfl sk_404 rfl (Nat.le_of_ble_eq_true rfl) ?_
      refine v_mstartR (st := 0) e3 hG oSb (hN2 oSb) rfl (fun I8 g8 _ _ hM8 _ => ?_)
      have e8 : I8 406 = R := (g8 406 (by decide) (by decide)).trans e3
      show dw_ok (pr_X12_unlike K) 93 0 0 [some (.ref 404), some (.int a1), some (.int a2), some (.int t), v] [] (n, SH1, I8, J)
      refine q_ic rfl ?_
      refine q_ist rfl rfl ?_
      show dw_ok (pr_X12_unlike K) 95 0 0 [some (.ref 404), some (.int a1), some (.int a2), some (.int (0 : Int32)), v] [] (n, SH1, I8, J)
      exact mus_loop (S := nX R a1) hG (hN2 oSb) (fun w I' hw => hk w I' (by unfold aUnlike; rw [if_pos ⟨oS, oSb⟩]; exact hw)) 144 0 0 _ I8 rfl rfl rfl e8 (fun τ hτ c hc => by rw [g8 426 (by decide) (by decide)]; exact hT3 τ hτ c hc) hM8
    · show dw_ok (pr_X12_unlike K) 18 0 0 [some (.ref 404), some (.int a1), some (.int a2), none, none] [.int (0 : Int32)] (n, SH1, I1, J)
      refine q_if (c := 1) rfl (by decide) (fun h => absurd (show (0 : Int) ≠ 0 from h) (by decide)) (fun y4 => ?_)
      have y4 : (0 : Int) = 0 := y4
      refine q_ic rfl ?_
      refine q_iret rfl (hk _ _ ?_)
      unfold aUnlike
      rw [if_neg (by rw [eI1] at oSb; exact fun q => oSb q.2)]
      exact cm1
  · show dw_ok (pr_X12_unlike K) 10 0 0 [some (.ref 404), some (.int a1), some (.int a2), none, none] [.int (0 : Int32)] (n, SH1, I1, J)
    refine q_if (c := 0) rfl (by decide) (fun y5 => ?_) (fun h => absurd (show (0 : Int) ≠ 0 from h) (by decide))
    have y5 : (0 : Int) = 0 := y5
    refine q_ic rfl ?_
    refine q_iret rfl (hk _ _ ?_)
    unfold aUnlike
    rw [if_neg (by rw [eI1] at oS; exact fun q => oS q.1)]
    exact cm1
/-- which SLOTS have a NIGHT: the first k -/
def slF (R : Nat → Int32) : Nat → Int32
  | 0 => 0
  | k + 1 => slF R k ||| (if 0 ≤ (R (221 + 97 * k)).toInt then (1 : Int32) <<< (Int32.ofNat k &&& 31) else 0)
def aCount (R : Nat → Int32) (sz x : Int) : Int :=
  if x = 5 then (slF R 6).toInt else if x = 6 then sz else if x = 7 then (R 803).toInt else if 0 ≤ x ∧ x ≤ 4 then (R x.toNat).toInt else -1
set_option maxRecDepth 8000 in
theorem ct_k {R : Nat → Int32} {sz x : Int} : (x = 5 → aCount R sz x = (slF R 6).toInt) ∧ (x = 6 → aCount R sz x = sz) ∧ (x = 7 → aCount R sz x = (R 803).toInt) ∧ (0 ≤ x ∧ x ≤ 4 → aCount R sz x = (R x.toNat).toInt) ∧ (x < 0 ∨ 7 < x → aCount R sz x = -1) := by
  unfold aCount
  refine ⟨fun h => ?_, fun h => ?_, fun h => ?_, fun h => ?_, fun h => ?_⟩
  · rw [if_pos h]
  · rw [if_neg (by omega), if_pos h]
  · rw [if_neg (by omega), if_neg (by omega), if_pos h]
  · rw [if_neg (by omega), if_neg (by omega), if_neg (by omega), if_pos h]
  · rw [if_neg (by omega), if_neg (by omega), if_neg (by omega), if_neg (by omega)]
set_option maxRecDepth 8000 in
theorem of_nat {x : Int32} {k : Nat} (h : x.toInt = k) (hk : k < 1000) : x = Int32.ofNat k := i_eq (by rw [h, Int32.toInt_ofNat_of_lt (by omega)])
set_option maxRecDepth 8000 in
theorem sl_loop {n : Nat} {I : Nat → Nat → Int32} {J : Nat → Nat → Int64} {K : dw_K} {R : Nat → Int32} (hR : SREL I 3 R) (hk : K (some (.int (slF R 6))) (n, SH1, I, J)) :
    ∀ (f k : Nat) (v t : Int32) (u : Option Value), k + f = 6 → t.toInt = k → v = slF R k → dw_ok (pr_X8_slotsWithNight K) 4 0 0 [some (.ref 3), some (.int v), some (.int t), u] [] (n, SH1, I, J) := by
  have k0 : (0 : Int32).toInt = 0 := rfl
  have k1 : (1 : Int32).toInt = 1 := rfl
  have k6 : (6 : Int32).toInt = 6 := rfl
  intro f
  induction f with
  | zero =>
    intro k v t u hf ht hv
    obtain rfl : k = 6 := by omega
    refine q_ild rfl rfl ?_
    refine q_ic rfl ?_
    refine q_icmp (c := 3) rfl (by decide) (fun _ => ?_) (fun h => absurd (show t.toInt < (6 : Int32).toInt from h) (by omega))
    refine q_ild rfl rfl ?_
    rw [hv]
    exact q_iret rfl hk
  | succ f ih =>
    intro k v t u hf ht hv
    refine q_ild rfl rfl ?_
    refine q_ic rfl ?_
    refine q_icmp (c := 3) rfl (by decide) (fun h => absurd (show (6 : Int32).toInt ≤ t.toInt from h) (by omega)) (fun _ => ?_)
    refine q_ald rfl rfl ?_
    refine q_ild rfl rfl ?_
    refine q_callV (as := [.int t]) (rest := []) rfl rfl sk_3 rfl (Nat.le_of_ble_eq_true rfl) ?_
    obtain ⟨tx, htx⟩ : ∃ z, z = t + 1 := ⟨_, rfl⟩
    have etx : tx.toInt = ((k + 1 : Nat) : Int) := by rw [htx]; exact ix_1 ht (by omega)
    have eo := of_nat ht (by omega)
    refine v_nightOf (fun s hs hx => ?_) (fun hno => absurd (show 0 ≤ t.toInt ∧ t.toInt ≤ 5 from ⟨by omega, by omega⟩) hno)
    obtain rfl : s = k := by omega
    obtain ⟨-, hB⟩ := no_ref hs
    show dw_ok (pr_X8_slotsWithNight K) 15 0 0 [some (.ref 3), some (.int v), some (.int t), u] [.ref (58 + 7 * s)] (n, SH1, I, J)
    refine q_ast rfl rfl ?_
    refine q_ild rfl rfl ?_
    refine q_ald rfl rfl ?_
    refine q_ifnull_r rfl ?_
    refine q_ald rfl rfl ?_
    refine q_getz rfl hB.1 ?_
    rcases rn_3 hR hs with ⟨e, em⟩ | ⟨e, hS, -⟩
    · have em2 : (R (221 + 97 * s + 0)).toInt < 0 := em
      rw [Nat.add_zero] at em2
      have es : slF R (s + 1) = slF R s ||| 0 := by
        show slF R s ||| (if 0 ≤ (R (221 + 97 * s)).toInt then (1 : Int32) <<< (Int32.ofNat s &&& 31) else 0) = _
        rw [if_neg (by omega)]
      refine q_if (c := 0) rfl (by decide) (fun _ => ?_) (fun g => absurd (show (I (58 + 7 * s) 0).toInt = 0 by rw [e]; rfl) g)
      refine q_ic rfl ?_
      refine q_ior rfl ?_
      refine q_ist rfl rfl ?_
      refine q_inc rfl rfl rfl ?_
      refine q_goto rfl ?_
      show dw_ok (pr_X8_slotsWithNight K) 4 0 0 [some (.ref 3), some (.int (v ||| 0)), some (.int (t + 1)), some (.ref (58 + 7 * s))] [] (n, SH1, I, J)
      rw [← htx]
      exact ih (s + 1) _ tx _ (by omega) etx (by rw [hv, es])
    · have em2 : 0 ≤ (R (221 + 97 * s)).toInt := by
        have q2 : (R (221 + 97 * s + 0)).toInt = _ := hS.1.1
        rw [Nat.add_zero] at q2
        omega
      have es : slF R (s + 1) = slF R s ||| ((1 : Int32) <<< (t &&& 31)) := by
        show slF R s ||| (if 0 ≤ (R (221 + 97 * s)).toInt then (1 : Int32) <<< (Int32.ofNat s &&& 31) else 0) = _
        rw [if_pos em2, eo]
      refine q_if (c := 0) rfl (by decide) (fun g => absurd (show (I (58 + 7 * s) 0).toInt = 0 from g) (by rw [e]; decide)) (fun _ => ?_)
      refine q_ic rfl ?_
      refine q_ild rfl rfl ?_
      refine q_ishl rfl ?_
      refine q_goto rfl ?_
      refine q_ior rfl ?_
      refine q_ist rfl rfl ?_
      refine q_inc rfl rfl rfl ?_
      refine q_goto rfl ?_
      show dw_ok (pr_X8_slotsWithNight K) 4 0 0 [some (.ref 3), some (.int (v ||| ((1 : Int32) <<< (t &&& 31)))), some (.int (t + 1)), some (.ref (58 + 7 * s))] [] (n, SH1, I, J)
      rw [← htx]
      exact ih (s + 1) _ tx _ (by omega) etx (by rw [hv, es])
set_option maxRecDepth 8000 in
theorem v_slots {n : Nat} {I : Nat → Nat → Int32} {J : Nat → Nat → Int64} {K : dw_K} {R : Nat → Int32} (hR : SREL I 3 R) (hk : K (some (.int (slF R 6))) (n, SH1, I, J)) : t_X8_slotsWithNight [.ref 3] (n, SH1, I, J) K := by
  refine q_body (Nat.le_of_ble_eq_true rfl) ?_
  refine q_ic rfl ?_
  refine q_ist rfl rfl ?_
  refine q_ic rfl ?_
  refine q_ist rfl rfl ?_
  exact sl_loop hR hk 6 0 0 0 none rfl rfl rfl
set_option maxRecDepth 8000 in
theorem v_ccount {n : Nat} {I : Nat → Nat → Int32} {J : Nat → Nat → Int64} {K : dw_K} {R : Nat → Int32} (hR : SREL I 3 R) {a1 : Int32} (hk : ∀ w : Int32, w.toInt = aCount R (I 1 1).toInt a1.toInt → K (some (.int w)) (n, SH1, I, J)) : t_X11_count [.ref 0, .int a1] (n, SH1, I, J) K := by
  have cm1 : (-1 : Int32).toInt = -1 := rfl
  have k0 : (0 : Int32).toInt = 0 := rfl
  have k1 : (1 : Int32).toInt = 1 := rfl
  have ct := ct_k (R := R) (sz := (I 1 1).toInt) (x := a1.toInt)
  refine q_body (Nat.le_of_ble_eq_true rfl) ?_
  refine q_ild rfl rfl ?_
  refine q_tab rfl (fun h3 => ?_) (fun h3 => ?_)
  · show dw_ok (pr_X11_count K) 130 0 0 [some (.ref 0), some (.int a1)] [] (n, SH1, I, J)
    refine q_ic rfl ?_
    exact q_iret rfl (hk _ (cm1.trans (ct.2.2.2.2 (by omega)).symm))
  · have h5 : a1.toInt = 0 ∨ a1.toInt = 1 ∨ a1.toInt = 2 ∨ a1.toInt = 3 ∨ a1.toInt = 4 ∨ a1.toInt = 5 ∨ a1.toInt = 6 ∨ a1.toInt = 7 := by omega
    rcases h5 with h5 | h5 | h5 | h5 | h5 | h5 | h5 | h5
    · refine ⟨48, by rw [h5]; rfl, ?_⟩
      show dw_ok (pr_X11_count K) 48 0 0 [some (.ref 0), some (.int a1)] [] (n, SH1, I, J)
      refine q_ald rfl rfl ?_
      refine q_getr rfl sk_0 sr_0_1 ?_
      refine q_getr rfl sk_3 sr_3_1 ?_
      refine q_geti rfl sk_4 ?_
      exact q_iret rfl (hk (I 4 0) (by rw [ct.2.2.2.1 ⟨by omega, by omega⟩, h5]; exact congrArg Int32.toInt ((rg_3 hR).1 0 (by decide))))
    · refine ⟨59, by rw [h5]; rfl, ?_⟩
      show dw_ok (pr_X11_count K) 59 0 0 [some (.ref 0), some (.int a1)] [] (n, SH1, I, J)
      refine q_ald rfl rfl ?_
      refine q_getr rfl sk_0 sr_0_1 ?_
      refine q_getr rfl sk_3 sr_3_1 ?_
      refine q_geti rfl sk_4 ?_
      exact q_iret rfl (hk (I 4 1) (by rw [ct.2.2.2.1 ⟨by omega, by omega⟩, h5]; exact congrArg Int32.toInt ((rg_3 hR).1 1 (by decide))))
    · refine ⟨70, by rw [h5]; rfl, ?_⟩
      show dw_ok (pr_X11_count K) 70 0 0 [some (.ref 0), some (.int a1)] [] (n, SH1, I, J)
      refine q_ald rfl rfl ?_
      refine q_getr rfl sk_0 sr_0_1 ?_
      refine q_getr rfl sk_3 sr_3_1 ?_
      refine q_geti rfl sk_4 ?_
      exact q_iret rfl (hk (I 4 2) (by rw [ct.2.2.2.1 ⟨by omega, by omega⟩, h5]; exact congrArg Int32.toInt ((rg_3 hR).1 2 (by decide))))
    · refine ⟨81, by rw [h5]; rfl, ?_⟩
      show dw_ok (pr_X11_count K) 81 0 0 [some (.ref 0), some (.int a1)] [] (n, SH1, I, J)
      refine q_ald rfl rfl ?_
      refine q_getr rfl sk_0 sr_0_1 ?_
      refine q_getr rfl sk_3 sr_3_1 ?_
      refine q_geti rfl sk_4 ?_
      exact q_iret rfl (hk (I 4 3) (by rw [ct.2.2.2.1 ⟨by omega, by omega⟩, h5]; exact congrArg Int32.toInt ((rg_3 hR).1 3 (by decide))))
    · refine ⟨92, by rw [h5]; rfl, ?_⟩
      show dw_ok (pr_X11_count K) 92 0 0 [some (.ref 0), some (.int a1)] [] (n, SH1, I, J)
      refine q_ald rfl rfl ?_
      refine q_getr rfl sk_0 sr_0_1 ?_
      refine q_getr rfl sk_3 sr_3_1 ?_
      refine q_geti rfl sk_4 ?_
      exact q_iret rfl (hk (I 4 4) (by rw [ct.2.2.2.1 ⟨by omega, by omega⟩, h5]; exact congrArg Int32.toInt ((rg_3 hR).1 4 (by decide))))
    · refine ⟨103, by rw [h5]; rfl, ?_⟩
      show dw_ok (pr_X11_count K) 103 0 0 [some (.ref 0), some (.int a1)] [] (n, SH1, I, J)
      refine q_ald rfl rfl ?_
      refine q_getr rfl sk_0 sr_0_1 ?_
      refine q_callV (as := []) (rest := []) rfl rfl sk_3 rfl (Nat.le_of_ble_eq_true rfl) ?_
      refine v_slots hR ?_
      show dw_ok (pr_X11_count K) 110 0 0 [some (.ref 0), some (.int a1)] [.int (slF R 6)] (n, SH1, I, J)
      exact q_iret rfl (hk _ (ct.1 h5).symm)
    · refine ⟨111, by rw [h5]; rfl, ?_⟩
      show dw_ok (pr_X11_count K) 111 0 0 [some (.ref 0), some (.int a1)] [] (n, SH1, I, J)
      refine q_ald rfl rfl ?_
      refine q_getr rfl sk_0 sr_0_0 ?_
      refine q_geti rfl sk_1 ?_
      exact q_iret rfl (hk (I 1 1) (ct.2.1 h5).symm)
    · refine ⟨119, by rw [h5]; rfl, ?_⟩
      show dw_ok (pr_X11_count K) 119 0 0 [some (.ref 0), some (.int a1)] [] (n, SH1, I, J)
      refine q_ald rfl rfl ?_
      refine q_getr rfl sk_0 sr_0_1 ?_
      refine q_getr rfl sk_3 sr_3_3 ?_
      refine q_geti rfl sk_11 ?_
      exact q_iret rfl (hk (I 11 0) (by rw [ct.2.2.1 h5]; exact congrArg Int32.toInt hR.2.2.2.1.1))
set_option maxRecDepth 8000 in
theorem mct_loop {n : Nat} {I : Nat → Nat → Int32} {J : Nat → Nat → Int64} {K : dw_K} {a1 : Int32} {R : Nat → Int32} (e1 : I 406 = R)
    (hk : ∀ c : Int32, dw_ok (pr_X12_count K) 39 0 0 [some (.ref 404), some (.int a1), some (.int (slF R 6)), some (.int c)] [] (n, SH1, I, J)) :
    ∀ (f k : Nat) (v c : Int32), k + f = 6 → c.toInt = k → v = slF R k → dw_ok (pr_X12_count K) 9 0 0 [some (.ref 404), some (.int a1), some (.int v), some (.int c)] [] (n, SH1, I, J) := by
  have cm1 : (-1 : Int32).toInt = -1 := rfl
  have k0 : (0 : Int32).toInt = 0 := rfl
  have k1 : (1 : Int32).toInt = 1 := rfl
  intro f
  induction f with
  | zero =>
    intro k v c hf hc hv
    obtain rfl : k = 6 := by omega
    refine q_ild rfl rfl ?_
    refine q_ic rfl ?_
    refine q_icmp (c := 3) rfl (by decide) (fun y1 => ?_) (fun h => absurd (show (c).toInt < (6 : Int) from h) (by omega))
    have y1 : (6 : Int) ≤ (c).toInt := y1
    rw [hv]
    exact hk c
  | succ f ih =>
    intro k v c hf hc hv
    have eo := of_nat hc (by omega)
    have hcn : c.toInt.toNat = k := by omega
    refine q_ild rfl rfl ?_
    refine q_ic rfl ?_
    refine q_icmp (c := 3) rfl (by decide) (fun h => absurd (show (6 : Int) ≤ (c).toInt from h) (by omega)) (fun y2 => ?_)
    have y2 : (c).toInt < (6 : Int) := y2
    refine q_ild rfl rfl ?_
    refine q_ald rfl rfl ?_
    refine q_ild rfl rfl ?_
    refine q_callV (as := [.int c]) (rest := [.int v]) rfl rfl sk_404 rfl (Nat.le_of_ble_eq_true rfl) ?_
    refine v_isNight (fun w_ oS => ?_)
    rcases oS with ⟨rfl, oS⟩ | ⟨rfl, oS⟩
    · show dw_ok (pr_X12_count K) 21 0 0 [some (.ref 404), some (.int a1), some (.int v), some (.int c)] [.int (1 : Int32), .int v] (n, SH1, I, J)
      refine q_if (c := 0) rfl (by decide) (fun h => absurd (show (1 : Int) = 0 from h) (by decide)) (fun y3 => ?_)
      have y3 : (1 : Int) ≠ 0 := y3
      refine q_ic rfl ?_
      refine q_ild rfl rfl ?_
      refine q_ishl rfl ?_
      refine q_goto rfl ?_
      refine q_ior rfl ?_
      refine q_ist rfl rfl ?_
      show dw_ok (pr_X12_count K) 33 0 0 [some (.ref 404), some (.int a1), some (.int (v ||| ((1 : Int32) <<< (c &&& 31)))), some (.int c)] [] (n, SH1, I, J)
      refine q_inc rfl rfl rfl ?_
      show dw_ok (pr_X12_count K) 36 0 0 [some (.ref 404), some (.int a1), some (.int (v ||| ((1 : Int32) <<< (c &&& 31)))), some (.int (c + 1))] [] (n, SH1, I, J)
      show dw_ok (pr_X12_count K) 36 0 0 [some (.ref 404), some (.int a1), some (.int (v ||| ((1 : Int32) <<< (c &&& 31)))), some (.int (c + 1))] [] (n, SH1, I, J)
      obtain ⟨cx, hcx⟩ : ∃ z, z = (c + 1) := ⟨_, rfl⟩
      rw [← hcx]
      have ecx : cx.toInt = ((k + 1 : Nat) : Int) := by rw [hcx]; exact ix_1 hc (by omega)
      refine q_goto rfl ?_
      rw [e1, hcn] at oS
      refine ih (k + 1) _ cx (by omega) ecx ?_
      show _ = slF R k ||| (if 0 ≤ (R (221 + 97 * k)).toInt then (1 : Int32) <<< (Int32.ofNat k &&& 31) else 0)
      rw [if_pos oS.2, hv, eo]
    · show dw_ok (pr_X12_count K) 21 0 0 [some (.ref 404), some (.int a1), some (.int v), some (.int c)] [.int (0 : Int32), .int v] (n, SH1, I, J)
      refine q_if (c := 0) rfl (by decide) (fun y4 => ?_) (fun h => absurd (show (0 : Int) ≠ 0 from h) (by decide))
      have y4 : (0 : Int) = 0 := y4
      refine q_ic rfl ?_
      refine q_ior rfl ?_
      refine q_ist rfl rfl ?_
      show dw_ok (pr_X12_count K) 33 0 0 [some (.ref 404), some (.int a1), some (.int (v ||| (0 : Int32))), some (.int c)] [] (n, SH1, I, J)
      refine q_inc rfl rfl rfl ?_
      show dw_ok (pr_X12_count K) 36 0 0 [some (.ref 404), some (.int a1), some (.int (v ||| (0 : Int32))), some (.int (c + 1))] [] (n, SH1, I, J)
      show dw_ok (pr_X12_count K) 36 0 0 [some (.ref 404), some (.int a1), some (.int (v ||| (0 : Int32))), some (.int (c + 1))] [] (n, SH1, I, J)
      obtain ⟨cx, hcx⟩ : ∃ z, z = (c + 1) := ⟨_, rfl⟩
      rw [← hcx]
      have ecx : cx.toInt = ((k + 1 : Nat) : Int) := by rw [hcx]; exact ix_1 hc (by omega)
      refine q_goto rfl ?_
      rw [e1, hcn] at oS
      refine ih (k + 1) _ cx (by omega) ecx ?_
      show _ = slF R k ||| (if 0 ≤ (R (221 + 97 * k)).toInt then (1 : Int32) <<< (Int32.ofNat k &&& 31) else 0)
      rw [if_neg (fun q => oS ⟨⟨by omega, by omega⟩, q⟩), hv]
set_option maxRecDepth 8000 in
theorem v_mcount {n : Nat} {I : Nat → Nat → Int32} {J : Nat → Nat → Int64} {K : dw_K} {R : Nat → Int32} (hR : I 406 = R) {a1 : Int32} (hk : ∀ (I' : Nat → Nat → Int32) (w : Int32), w.toInt = aCount R (I 404 2).toInt a1.toInt → K (some (.int w)) (n, SH1, I', J)) : t_X12_count [.ref 404, .int a1] (n, SH1, I, J) K := by
  have cm1 : (-1 : Int32).toInt = -1 := rfl
  have k0 : (0 : Int32).toInt = 0 := rfl
  have k1 : (1 : Int32).toInt = 1 := rfl
  have ct := ct_k (R := R) (sz := (I 404 2).toInt) (x := a1.toInt)
  refine q_body (Nat.le_of_ble_eq_true rfl) ?_
  refine q_ald rfl rfl ?_
  refine q_ic rfl ?_
  refine q_puti rfl sk_404 ?_
  show dw_ok (pr_X12_count K) 5 0 0 [some (.ref 404), some (.int a1), none, none] [] (n, SH1, (dw_up I 404 0 (0 : Int32)), J)
  refine q_ic rfl ?_
  refine q_ist rfl rfl ?_
  show dw_ok (pr_X12_count K) 7 0 0 [some (.ref 404), some (.int a1), some (.int (0 : Int32)), none] [] (n, SH1, (dw_up I 404 0 (0 : Int32)), J)
  refine q_ic rfl ?_
  refine q_ist rfl rfl ?_
  show dw_ok (pr_X12_count K) 9 0 0 [some (.ref 404), some (.int a1), some (.int (0 : Int32)), some (.int (0 : Int32))] [] (n, SH1, (dw_up I 404 0 (0 : Int32)), J)
  obtain ⟨I1, hI1⟩ : ∃ X, X = (dw_up I 404 0 (0 : Int32)) := ⟨_, rfl⟩
  rw [← hI1]
  have eI1 : I1 406 = R := by rw [hI1]; exact ((up_row (by decide)).trans (hR))
  refine mct_loop eI1 (fun c => ?_) 6 0 0 0 rfl rfl rfl
  show dw_ok (pr_X12_count K) 39 0 0 [some (.ref 404), some (.int a1), some (.int (slF R 6)), some (.int c)] [] (n, SH1, I1, J)
  refine q_ild rfl rfl ?_
  refine q_tab rfl (fun h3 => ?_) (fun h3 => ?_)
  · show dw_ok (pr_X12_count K) 84 0 0 [some (.ref 404), some (.int a1), some (.int (slF R 6)), some (.int c)] [] (n, SH1, I1, J)
    refine q_ild rfl rfl ?_
    refine q_ic rfl ?_
    refine q_ic rfl ?_
    refine q_callS (as := [.int a1, .int (0 : Int32), .int (4 : Int32)]) (rest := []) rfl rfl rfl rfl ?_
    refine v_isIn (fun w_ oI => ?_)
    rcases oI with ⟨rfl, oI⟩ | ⟨rfl, oI⟩
    · have oI : (0 ≤ a1.toInt ∧ a1.toInt ≤ 4) := oI
      show dw_ok (pr_X12_count K) 90 0 0 [some (.ref 404), some (.int a1), some (.int (slF R 6)), some (.int c)] [.int (1 : Int32)] (n, SH1, I1, J)
      refine q_if (c := 0) rfl (by decide) (fun h => absurd (show (1 : Int) = 0 from h) (by decide)) (fun y2 => ?_)
      have y2 : (1 : Int) ≠ 0 := y2
      refine q_ald rfl rfl ?_
      refine q_getr rfl sk_404 sr_404_6 ?_
      refine q_ild rfl rfl ?_
      refine q_xald rfl (Or.inl rfl) sk_406 sn_406 (by omega) (by omega) ?_
      refine q_goto rfl ?_
      exact q_iret rfl (hk _ (I1 406 a1.toInt.toNat) (by rw [ct.2.2.2.1 oI, eI1]))
    · have oI : ¬ (0 ≤ a1.toInt ∧ a1.toInt ≤ 4) := oI
      show dw_ok (pr_X12_count K) 90 0 0 [some (.ref 404), some (.int a1), some (.int (slF R 6)), some (.int c)] [.int (0 : Int32)] (n, SH1, I1, J)
      refine q_if (c := 0) rfl (by decide) (fun y3 => ?_) (fun h => absurd (show (0 : Int) ≠ 0 from h) (by decide))
      have y3 : (0 : Int) = 0 := y3
      refine q_ic rfl ?_
      exact q_iret rfl (hk _ _ (cm1.trans (ct.2.2.2.2 (by omega)).symm))
  · have h5 : a1.toInt = 5 ∨ a1.toInt = 6 ∨ a1.toInt = 7 := by omega
    rcases h5 with h5 | h5 | h5
    · refine ⟨68, by rw [h5]; rfl, ?_⟩
      show dw_ok (pr_X12_count K) 68 0 0 [some (.ref 404), some (.int a1), some (.int (slF R 6)), some (.int c)] [] (n, SH1, I1, J)
      refine q_ild rfl rfl ?_
      exact q_iret rfl (hk _ _ (ct.1 h5).symm)
    · refine ⟨70, by rw [h5]; rfl, ?_⟩
      show dw_ok (pr_X12_count K) 70 0 0 [some (.ref 404), some (.int a1), some (.int (slF R 6)), some (.int c)] [] (n, SH1, I1, J)
      refine q_ald rfl rfl ?_
      refine q_geti rfl sk_404 ?_
      exact q_iret rfl (hk _ (I1 404 2) (by rw [ct.2.1 h5, hI1]; exact congrArg Int32.toInt (up_fld (by decide))))
    · refine ⟨75, by rw [h5]; rfl, ?_⟩
      show dw_ok (pr_X12_count K) 75 0 0 [some (.ref 404), some (.int a1), some (.int (slF R 6)), some (.int c)] [] (n, SH1, I1, J)
      refine q_ald rfl rfl ?_
      refine q_getr rfl sk_404 sr_404_6 ?_
      refine q_ic rfl ?_
      refine q_xald rfl (Or.inl rfl) sk_406 sn_406 (by decide) (by decide) ?_
      exact q_iret rfl (hk _ (I1 406 803) (by rw [ct.2.2.1 h5, eI1]))
end
