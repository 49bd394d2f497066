/-! ===== questions: now, sky ===== -/
abbrev waR (R : Nat → Int32) : Nat → Int32 := fun c => R (1139 + c)
def aNow (R : Nat → Int32) (x : Int) : Int :=
  if R 894 = 0 then -1 else if x = 0 then (R 895).toInt else if x = 1 then (R 896).toInt else if x = 2 then (R 897).toInt
  else if x = 3 then wcF (waR R) 1 (Nn R) else if x = 4 then (suF (waR R) (Nn R)).toInt else -1
def aSky (R : Nat → Int32) (x t w : Int32) : Int := if okS R x ∧ okT t ∧ 0 ≤ w.toInt ∧ w.toInt ≤ 4 then (ndF (nU (nX R x)) w.toInt.toNat t.toInt.toNat).toInt else -1
set_option maxRecDepth 8000 in
theorem now_n {R : Nat → Int32} {x : Int} (h8 : R 894 ≠ 0) : aNow R x = (if x = 0 then (R 895).toInt else if x = 1 then (R 896).toInt else if x = 2 then (R 897).toInt
  else if x = 3 then (wcF (waR R) 1 (Nn R) : Int) else if x = 4 then (suF (waR R) (Nn R)).toInt else -1) := if_neg h8
set_option maxRecDepth 8000 in
theorem now_k {R : Nat → Int32} {x : Int} (h8 : R 894 ≠ 0) : (x = 0 → aNow R x = (R 895).toInt) ∧ (x = 1 → aNow R x = (R 896).toInt) ∧ (x = 2 → aNow R x = (R 897).toInt) ∧ (x = 3 → aNow R x = (wcF (waR R) 1 (Nn R) : Int)) ∧ (x = 4 → aNow R x = (suF (waR R) (Nn R)).toInt) ∧ ((x < 0 ∨ 4 < x) → aNow R x = -1) := by
  rw [now_n h8]
  refine ⟨fun h => ?_, fun h => ?_, fun h => ?_, fun h => ?_, fun h => ?_, fun h => ?_⟩
  · rw [if_pos h]
  · rw [if_neg (by omega), if_pos h]
  · rw [if_neg (by omega), if_neg (by omega), if_pos h]
  · rw [if_neg (by omega), if_neg (by omega), if_neg (by omega), if_pos h]
  · rw [if_neg (by omega), if_neg (by omega), if_neg (by omega), if_neg (by omega), if_pos h]
  · rw [if_neg (by omega), if_neg (by omega), if_neg (by omega), if_neg (by omega), if_neg (by omega)]
set_option maxRecDepth 8000 in
theorem v_cnow {n : Nat} {I : Nat → Nat → Int32} {J : Nat → Nat → Int64} {K : dw_K} {a1 : Int32} {R : Nat → Int32} (hR : SREL I 3 R)
    (hk : ∀ w : Int32, w.toInt = aNow R a1.toInt → K (some (.int w)) (n, SH1, I, J)) : t_X11_now [.ref 0, .int a1] (n, SH1, I, J) K := by
  obtain ⟨hG, -, -, -, hr⟩ := id hR
  have hr : RR I 43 R := hr
  have hN9 := (gok_N hG).2
  have e0 : I 43 0 = 0 ∧ R 894 = 0 ∨ I 43 0 = 1 ∧ R 894 = 1 := by
    rcases hr with ⟨a, b⟩ | ⟨a, b, -⟩
    · exact Or.inl ⟨a, b⟩
    · exact Or.inr ⟨a, b⟩
  refine q_body (Nat.le_of_ble_eq_true rfl) ?_
  refine q_ald rfl rfl ?_
  refine q_getr rfl sk_0 sr_0_1 ?_
  refine q_getr rfl sk_3 sr_3_4 ?_
  refine q_getz rfl sk_43 ?_
  refine q_if (c := 1) rfl (by decide) (fun y1 => ?_) (fun y1 => ?_)
  · have y1 : ((I 43 0)).toInt ≠ 0 := y1
    have r894 : R 894 ≠ 0 := by
      rcases e0 with ⟨e, -⟩ | ⟨-, e⟩
      · rw [e] at y1; exact absurd rfl y1
      · rw [e]; decide
    have nk := now_k (x := a1.toInt) r894
    have hq : (I 43 1).toInt = Nn R ∧ I 43 2 = R 895 ∧ I 43 3 = R 896 ∧ I 43 4 = R 897 ∧ ∀ c, c < Nn R → I (43 + 14) c = waR R c := by
      rcases hr with ⟨-, e⟩ | ⟨-, -, q1, q2, -, q3, q4, -, -, -, -, q5, -⟩
      · exact absurd e r894
      · exact ⟨q1, q2, q3, q4, fun c hc => (q5 c hc).2.2.2.2.2.2.2⟩
    obtain ⟨n1, n2, n3, n4, n5⟩ := hq
    refine q_ild rfl rfl ?_
    refine q_tab rfl (fun h3 => ?_) (fun h3 => ?_)
    · show dw_ok (pr_X11_now K) 108 0 0 [some (.ref 0), some (.int a1)] [] (n, SH1, I, J)
      refine q_ic rfl ?_
      exact q_iret rfl (hk _ (nk.2.2.2.2.2 h3).symm)
    · have h5 : a1.toInt = 0 ∨ a1.toInt = 1 ∨ a1.toInt = 2 ∨ a1.toInt = 3 ∨ a1.toInt = 4 := by omega
      rcases h5 with h5 | h5 | h5 | h5 | h5
      · refine ⟨52, by rw [h5]; rfl, ?_⟩
        show dw_ok (pr_X11_now K) 52 0 0 [some (.ref 0), some (.int a1)] [] (n, SH1, I, J)
        refine q_ald rfl rfl ?_
        refine q_getr rfl sk_0 sr_0_1 ?_
        refine q_getr rfl sk_3 sr_3_4 ?_
        refine q_geti rfl sk_43 ?_
        exact q_iret rfl (hk (I 43 2) (by rw [nk.1 h5, n2]))
      · refine ⟨63, by rw [h5]; rfl, ?_⟩
        show dw_ok (pr_X11_now K) 63 0 0 [some (.ref 0), some (.int a1)] [] (n, SH1, I, J)
        refine q_ald rfl rfl ?_
        refine q_getr rfl sk_0 sr_0_1 ?_
        refine q_getr rfl sk_3 sr_3_4 ?_
        refine q_geti rfl sk_43 ?_
        exact q_iret rfl (hk (I 43 3) (by rw [nk.2.1 h5, n3]))
      · refine ⟨74, by rw [h5]; rfl, ?_⟩
        show dw_ok (pr_X11_now K) 74 0 0 [some (.ref 0), some (.int a1)] [] (n, SH1, I, J)
        refine q_ald rfl rfl ?_
        refine q_getr rfl sk_0 sr_0_1 ?_
        refine q_getr rfl sk_3 sr_3_4 ?_
        refine q_geti rfl sk_43 ?_
        exact q_iret rfl (hk (I 43 4) (by rw [nk.2.2.1 h5, n4]))
      · refine ⟨85, by rw [h5]; rfl, ?_⟩
        show dw_ok (pr_X11_now K) 85 0 0 [some (.ref 0), some (.int a1)] [] (n, SH1, I, J)
        refine q_ald rfl rfl ?_
        refine q_getr rfl sk_0 sr_0_1 ?_
        refine q_getr rfl sk_3 sr_3_4 ?_
        refine q_ic rfl ?_
        refine q_callV (as := [.int (1 : Int32)]) (rest := []) rfl rfl sk_43 rfl (Nat.le_of_ble_eq_true rfl) ?_
        refine v_wetCells (rt_ok (by decide)) n1 hN9 (fun wc hwc => ?_)
        show dw_ok (pr_X11_now K) 96 0 0 [some (.ref 0), some (.int a1)] [.int wc] (n, SH1, I, J)
        exact q_iret rfl (hk _ (by rw [nk.2.2.2.1 h5, hwc, wcF_eq _ n5]))
      · refine ⟨97, by rw [h5]; rfl, ?_⟩
        show dw_ok (pr_X11_now K) 97 0 0 [some (.ref 0), some (.int a1)] [] (n, SH1, I, J)
        refine q_ald rfl rfl ?_
        refine q_getr rfl sk_0 sr_0_1 ?_
        refine q_getr rfl sk_3 sr_3_4 ?_
        refine q_callV (as := []) (rest := []) rfl rfl sk_43 rfl (Nat.le_of_ble_eq_true rfl) ?_
        refine v_wsum (rt_ok (by decide)) n1 hN9 ?_
        show dw_ok (pr_X11_now K) 107 0 0 [some (.ref 0), some (.int a1)] [.int (suF (I (43 + 14)) (Nn R))] (n, SH1, I, J)
        exact q_iret rfl (hk _ (by rw [nk.2.2.2.2.1 h5, suF_eq _ n5]))
  · have y1 : ((I 43 0)).toInt = 0 := y1
    refine q_ic rfl ?_
    refine q_iret rfl (hk _ ?_)
    have z : R 894 = 0 := by
      rcases e0 with ⟨-, e⟩ | ⟨e, -⟩
      · exact e
      · rw [e] at y1; exact absurd y1 (by decide)
    unfold aNow
    rw [if_pos z]
    rfl
set_option maxRecDepth 8000 in
theorem mnow_loop {n : Nat} {I : Nat → Nat → Int32} {J : Nat → Nat → Int64} {K : dw_K} {a1 : Int32} {R : Nat → Int32} (e1 : I 406 = R) (hG : GOK R)
    (hk : ∀ v2 v3 c : Int32, v2.toInt = wcF (waR R) 1 (Nn R) → v3 = suF (waR R) (Nn R) → dw_ok (pr_X12_now K) 76 0 0 [some (.ref 404), some (.int a1), some (.int v2), some (.int v3), some (.int c)] [] (n, SH1, I, J)) :
    ∀ (f k : Nat) (v2 v3 c : Int32), k + f = Nn R → c.toInt = k → v2.toInt = wcF (waR R) 1 k → v3 = suF (waR R) k → dw_ok (pr_X12_now K) 25 0 0 [some (.ref 404), some (.int a1), some (.int v2), some (.int v3), some (.int c)] [] (n, SH1, I, J) := by
  obtain ⟨hN, hN9⟩ := gok_N hG
  have k1 : (1 : Int32).toInt = 1 := rfl
  have k0 : (0 : Int32).toInt = 0 := rfl
  intro f
  induction f with
  | zero =>
    intro k v2 v3 c hf hc h2 h3
    refine q_ild rfl rfl ?_
    refine q_ald rfl rfl ?_
    refine q_callV (as := []) (rest := [.int c]) rfl rfl sk_404 rfl (Nat.le_of_ble_eq_true rfl) ?_
    refine v_mcells ?_
    show dw_ok (pr_X12_now K) 31 0 0 [some (.ref 404), some (.int a1), some (.int v2), some (.int v3), some (.int c)] [.int (I 406 0 * I 406 1), .int c] (n, SH1, I, J)
    rw [show I 406 = R from e1]
    obtain ⟨nv, hnv⟩ : ∃ z, z = R 0 * R 1 := ⟨_, rfl⟩
    rw [← hnv]
    have env : nv.toInt = Nn R := by rw [hnv]; exact hN
    show dw_ok (pr_X12_now K) 31 0 0 [some (.ref 404), some (.int a1), some (.int v2), some (.int v3), some (.int c)] [.int nv, .int c] (n, SH1, I, J)
    refine q_icmp (c := 3) rfl (by decide) (fun y1 => ?_) (fun h => absurd (show (c).toInt < (nv).toInt from h) (by omega))
    have y1 : (nv).toInt ≤ (c).toInt := y1
    have kN : k = Nn R := by omega
    rw [kN] at h2 h3
    exact hk v2 v3 c h2 h3
  | succ f ih =>
    intro k v2 v3 c hf hc h2 h3
    have wl := wc_le (W := waR R) (l := 1) k
    refine q_ild rfl rfl ?_
    refine q_ald rfl rfl ?_
    refine q_callV (as := []) (rest := [.int c]) rfl rfl sk_404 rfl (Nat.le_of_ble_eq_true rfl) ?_
    refine v_mcells ?_
    show dw_ok (pr_X12_now K) 31 0 0 [some (.ref 404), some (.int a1), some (.int v2), some (.int v3), some (.int c)] [.int (I 406 0 * I 406 1), .int c] (n, SH1, I, J)
    rw [show I 406 = R from e1]
    obtain ⟨nv, hnv⟩ : ∃ z, z = R 0 * R 1 := ⟨_, rfl⟩
    rw [← hnv]
    have env : nv.toInt = Nn R := by rw [hnv]; exact hN
    show dw_ok (pr_X12_now K) 31 0 0 [some (.ref 404), some (.int a1), some (.int v2), some (.int v3), some (.int c)] [.int nv, .int c] (n, SH1, I, J)
    refine q_icmp (c := 3) rfl (by decide) (fun h => absurd (show (nv).toInt ≤ (c).toInt from h) (by omega)) (fun y2 => ?_)
    have y2 : (c).toInt < (nv).toInt := y2
    refine q_ild rfl rfl ?_
    refine q_ald rfl rfl ?_
    refine q_getr rfl sk_404 sr_404_6 ?_
    refine q_ic rfl ?_
    refine q_ild rfl rfl ?_
    refine q_add rfl ?_
    show dw_ok (pr_X12_now K) 45 0 0 [some (.ref 404), some (.int a1), some (.int v2), some (.int v3), some (.int c)] [.int ((1139 : Int32) + c), .ref 406, .int v2] (n, SH1, I, J)
    obtain ⟨z1, hz1⟩ : ∃ z, z = ((1139 : Int32) + c) := ⟨_, rfl⟩
    rw [← hz1]
    have ez1 : z1.toInt = ((1139 + k : Nat) : Int) := by rw [hz1]; exact (ix_a (x := 1139) (a := 1139) rfl hc (by omega))
    refine q_xald rfl (Or.inl rfl) sk_406 sn_406 (by omega) (by omega) ?_
    show dw_ok (pr_X12_now K) 46 0 0 [some (.ref 404), some (.int a1), some (.int v2), some (.int v3), some (.int c)] [.int (I 406 (z1).toInt.toNat), .int v2] (n, SH1, I, J)
    rw [(nat_of ez1)]
    refine q_if (c := 5) rfl (by decide) (fun y3 => ?_) (fun y3 => ?_)
    · have y3 : ((I 406 (1139 + k))).toInt ≤ 0 := y3
      refine q_ic rfl ?_
      refine q_add rfl ?_
      refine q_ist rfl rfl ?_
      show dw_ok (pr_X12_now K) 56 0 0 [some (.ref 404), some (.int a1), some (.int (v2 + (0 : Int32))), some (.int v3), some (.int c)] [] (n, SH1, I, J)
      refine q_ild rfl rfl ?_
      refine q_ald rfl rfl ?_
      refine q_getr rfl sk_404 sr_404_6 ?_
      refine q_ic rfl ?_
      refine q_ild rfl rfl ?_
      refine q_add rfl ?_
      show dw_ok (pr_X12_now K) 67 0 0 [some (.ref 404), some (.int a1), some (.int (v2 + (0 : Int32))), some (.int v3), some (.int c)] [.int ((1139 : Int32) + c), .ref 406, .int v3] (n, SH1, I, J)
      obtain ⟨z1, hz1⟩ : ∃ z, z = ((1139 : Int32) + c) := ⟨_, rfl⟩
      rw [← hz1]
      have ez1 : z1.toInt = ((1139 + k : Nat) : Int) := by rw [hz1]; exact (ix_a (x := 1139) (a := 1139) rfl hc (by omega))
      refine q_xald rfl (Or.inl rfl) sk_406 sn_406 (by omega) (by omega) ?_
      show dw_ok (pr_X12_now K) 68 0 0 [some (.ref 404), some (.int a1), some (.int (v2 + (0 : Int32))), some (.int v3), some (.int c)] [.int (I 406 (z1).toInt.toNat), .int v3] (n, SH1, I, J)
      rw [(nat_of ez1)]
      refine q_add rfl ?_
      refine q_ist rfl rfl ?_
      show dw_ok (pr_X12_now K) 70 0 0 [some (.ref 404), some (.int a1), some (.int (v2 + (0 : Int32))), some (.int (v3 + (I 406 (1139 + k)))), some (.int c)] [] (n, SH1, I, J)
      refine q_inc rfl rfl rfl ?_
      show dw_ok (pr_X12_now K) 73 0 0 [some (.ref 404), some (.int a1), some (.int (v2 + (0 : Int32))), some (.int (v3 + (I 406 (1139 + k)))), some (.int (c + 1))] [] (n, SH1, I, J)
      show dw_ok (pr_X12_now K) 73 0 0 [some (.ref 404), some (.int a1), some (.int (v2 + (0 : Int32))), some (.int (v3 + (I 406 (1139 + k)))), some (.int (c + 1))] [] (n, SH1, I, J)
      obtain ⟨cx, hcx⟩ : ∃ z, z = (c + 1) := ⟨_, rfl⟩
      rw [← hcx]
      have ecx : cx.toInt = ((k + 1 : Nat) : Int) := by rw [hcx]; exact ix_1 hc (by omega)
      refine q_goto rfl ?_
      refine ih (k + 1) (v2 + (0 : Int32)) (v3 + (I 406 (1139 + k))) cx (by omega) ecx ?_ ?_
      · have q : (I 406 (1139 + k)).toInt = (R (1139 + k)).toInt := by rw [e1]
        rw [i_add (by rw [h2, k0]; omega) (by rw [h2, k0]; omega), h2, k0]
        show _ = ((wcF (waR R) 1 k + (if (1 : Int32).toInt ≤ (R (1139 + k)).toInt then 1 else 0) : Nat) : Int)
        rw [if_neg (by rw [k1]; omega)]
        omega
      · rw [h3, show I 406 (1139 + k) = R (1139 + k) by rw [e1]]
        rfl
    · have y3 : 0 < ((I 406 (1139 + k))).toInt := y3
      refine q_ic rfl ?_
      refine q_goto rfl ?_
      refine q_add rfl ?_
      refine q_ist rfl rfl ?_
      show dw_ok (pr_X12_now K) 56 0 0 [some (.ref 404), some (.int a1), some (.int (v2 + (1 : Int32))), some (.int v3), some (.int c)] [] (n, SH1, I, J)
      refine q_ild rfl rfl ?_
      refine q_ald rfl rfl ?_
      refine q_getr rfl sk_404 sr_404_6 ?_
      refine q_ic rfl ?_
      refine q_ild rfl rfl ?_
      refine q_add rfl ?_
      show dw_ok (pr_X12_now K) 67 0 0 [some (.ref 404), some (.int a1), some (.int (v2 + (1 : Int32))), some (.int v3), some (.int c)] [.int ((1139 : Int32) + c), .ref 406, .int v3] (n, SH1, I, J)
      obtain ⟨z1, hz1⟩ : ∃ z, z = ((1139 : Int32) + c) := ⟨_, rfl⟩
      rw [← hz1]
      have ez1 : z1.toInt = ((1139 + k : Nat) : Int) := by rw [hz1]; exact (ix_a (x := 1139) (a := 1139) rfl hc (by omega))
      refine q_xald rfl (Or.inl rfl) sk_406 sn_406 (by omega) (by omega) ?_
      show dw_ok (pr_X12_now K) 68 0 0 [some (.ref 404), some (.int a1), some (.int (v2 + (1 : Int32))), some (.int v3), some (.int c)] [.int (I 406 (z1).toInt.toNat), .int v3] (n, SH1, I, J)
      rw [(nat_of ez1)]
      refine q_add rfl ?_
      refine q_ist rfl rfl ?_
      show dw_ok (pr_X12_now K) 70 0 0 [some (.ref 404), some (.int a1), some (.int (v2 + (1 : Int32))), some (.int (v3 + (I 406 (1139 + k)))), some (.int c)] [] (n, SH1, I, J)
      refine q_inc rfl rfl rfl ?_
      show dw_ok (pr_X12_now K) 73 0 0 [some (.ref 404), some (.int a1), some (.int (v2 + (1 : Int32))), some (.int (v3 + (I 406 (1139 + k)))), some (.int (c + 1))] [] (n, SH1, I, J)
      show dw_ok (pr_X12_now K) 73 0 0 [some (.ref 404), some (.int a1), some (.int (v2 + (1 : Int32))), some (.int (v3 + (I 406 (1139 + k)))), some (.int (c + 1))] [] (n, SH1, I, J)
      obtain ⟨cx, hcx⟩ : ∃ z, z = (c + 1) := ⟨_, rfl⟩
      rw [← hcx]
      have ecx : cx.toInt = ((k + 1 : Nat) : Int) := by rw [hcx]; exact ix_1 hc (by omega)
      refine q_goto rfl ?_
      refine ih (k + 1) (v2 + (1 : Int32)) (v3 + (I 406 (1139 + k))) cx (by omega) ecx ?_ ?_
      · have q : (I 406 (1139 + k)).toInt = (R (1139 + k)).toInt := by rw [e1]
        rw [i_add (by rw [h2, k1]; omega) (by rw [h2, k1]; omega), h2, k1]
        show _ = ((wcF (waR R) 1 k + (if (1 : Int32).toInt ≤ (R (1139 + k)).toInt then 1 else 0) : Nat) : Int)
        rw [if_pos (by rw [k1]; omega)]
        omega
      · rw [h3, show I 406 (1139 + k) = R (1139 + k) by rw [e1]]
        rfl
set_option maxRecDepth 8000 in
theorem v_mnow {n : Nat} {I : Nat → Nat → Int32} {J : Nat → Nat → Int64} {K : dw_K} {a1 : Int32} {R : Nat → Int32} (hR : I 406 = R) (hG : GOK R)
    (hk : ∀ (I' : Nat → Nat → Int32) (w : Int32), w.toInt = aNow R a1.toInt → K (some (.int w)) (n, SH1, I', J)) : t_X12_now [.ref 404, .int a1] (n, SH1, I, J) K := by
  have k1 : (1 : Int32).toInt = 1 := rfl
  refine q_body (Nat.le_of_ble_eq_true rfl) ?_
  refine q_ald rfl rfl ?_
  refine q_ic rfl ?_
  refine q_puti rfl sk_404 ?_
  show dw_ok (pr_X12_now K) 5 0 0 [some (.ref 404), some (.int a1), none, none, none] [] (n, SH1, (dw_up I 404 0 (0 : Int32)), J)
  obtain ⟨I1, hI1⟩ : ∃ X, X = (dw_up I 404 0 (0 : Int32)) := ⟨_, rfl⟩
  show dw_ok (pr_X12_now K) 5 0 0 [some (.ref 404), some (.int a1), none, none, none] [] (n, SH1, (dw_up I 404 0 (0 : Int32)), J)
  rw [← hI1]
  have e1 : I1 406 = R := by rw [hI1]; exact (up_row (show (406 : Nat) ≠ 404 by decide)).trans hR
  have e894 : I1 406 894 = R 894 := congrFun e1 894
  have e895 : I1 406 895 = R 895 := congrFun e1 895
  have e896 : I1 406 896 = R 896 := congrFun e1 896
  have e897 : I1 406 897 = R 897 := congrFun e1 897
  refine q_ald rfl rfl ?_
  refine q_getr rfl sk_404 sr_404_6 ?_
  refine q_ic rfl ?_
  refine q_xald rfl (Or.inl rfl) sk_406 sn_406 (by decide) (by decide) ?_
  refine q_if (c := 1) rfl (by decide) (fun y1 => ?_) (fun y1 => ?_)
  · have y1 : ((I1 406 894)).toInt ≠ 0 := y1
    refine q_ic rfl ?_
    refine q_ist rfl rfl ?_
    show dw_ok (pr_X12_now K) 20 0 0 [some (.ref 404), some (.int a1), some (.int (0 : Int32)), none, none] [] (n, SH1, I1, J)
    refine q_ic rfl ?_
    refine q_ist rfl rfl ?_
    show dw_ok (pr_X12_now K) 22 0 0 [some (.ref 404), some (.int a1), some (.int (0 : Int32)), some (.int (0 : Int32)), none] [] (n, SH1, I1, J)
    refine q_ic rfl ?_
    refine q_ist rfl rfl ?_
    show dw_ok (pr_X12_now K) 25 0 0 [some (.ref 404), some (.int a1), some (.int (0 : Int32)), some (.int (0 : Int32)), some (.int (0 : Int32))] [] (n, SH1, I1, J)
    have r894 : R 894 ≠ 0 := fun q => by rw [e894, q] at y1; exact absurd rfl y1
    have nk := now_k (x := a1.toInt) r894
    refine mnow_loop e1 hG (fun v2 v3 c h2 h3 => ?_) (Nn R) 0 0 0 0 (by omega) rfl rfl rfl
    show dw_ok (pr_X12_now K) 76 0 0 [some (.ref 404), some (.int a1), some (.int v2), some (.int v3), some (.int c)] [] (n, SH1, I1, J)
    refine q_ild rfl rfl ?_
    refine q_if (c := 1) rfl (by decide) (fun y2 => ?_) (fun y2 => ?_)
    · have y2 : (a1).toInt ≠ 0 := y2
      refine q_ild rfl rfl ?_
      refine q_ic rfl ?_
      refine q_icmp (c := 1) rfl (by decide) (fun y3 => ?_) (fun y3 => ?_)
      · have y3 : (a1).toInt ≠ (1 : Int) := y3
        refine q_ild rfl rfl ?_
        refine q_ic rfl ?_
        refine q_icmp (c := 1) rfl (by decide) (fun y4 => ?_) (fun y4 => ?_)
        · have y4 : (a1).toInt ≠ (2 : Int) := y4
          refine q_ild rfl rfl ?_
          refine q_ic rfl ?_
          refine q_icmp (c := 1) rfl (by decide) (fun y5 => ?_) (fun y5 => ?_)
          · have y5 : (a1).toInt ≠ (3 : Int) := y5
            refine q_ild rfl rfl ?_
            refine q_ic rfl ?_
            refine q_icmp (c := 1) rfl (by decide) (fun y6 => ?_) (fun y6 => ?_)
            · have y6 : (a1).toInt ≠ (4 : Int) := y6
              refine q_ic rfl ?_
              exact q_iret rfl (hk _ _ (nk.2.2.2.2.2 (by omega)).symm)
            · have y6 : (a1).toInt = (4 : Int) := y6
              refine q_ild rfl rfl ?_
              refine q_goto rfl ?_
              exact q_iret rfl (hk I1 v3 (by rw [nk.2.2.2.2.1 y6, h3]))
          · have y5 : (a1).toInt = (3 : Int) := y5
            refine q_ild rfl rfl ?_
            refine q_goto rfl ?_
            exact q_iret rfl (hk I1 v2 (by rw [nk.2.2.2.1 y5, h2]))
        · have y4 : (a1).toInt = (2 : Int) := y4
          refine q_ald rfl rfl ?_
          refine q_getr rfl sk_404 sr_404_6 ?_
          refine q_ic rfl ?_
          refine q_xald rfl (Or.inl rfl) sk_406 sn_406 (by decide) (by decide) ?_
          refine q_goto rfl ?_
          exact q_iret rfl (hk I1 (I1 406 897) (by rw [nk.2.2.1 y4, e897]))
      · have y3 : (a1).toInt = (1 : Int) := y3
        refine q_ald rfl rfl ?_
        refine q_getr rfl sk_404 sr_404_6 ?_
        refine q_ic rfl ?_
        refine q_xald rfl (Or.inl rfl) sk_406 sn_406 (by decide) (by decide) ?_
        refine q_goto rfl ?_
        exact q_iret rfl (hk I1 (I1 406 896) (by rw [nk.2.1 y3, e896]))
    · have y2 : (a1).toInt = 0 := y2
      refine q_ald rfl rfl ?_
      refine q_getr rfl sk_404 sr_404_6 ?_
      refine q_ic rfl ?_
      refine q_xald rfl (Or.inl rfl) sk_406 sn_406 (by decide) (by decide) ?_
      refine q_goto rfl ?_
      exact q_iret rfl (hk I1 (I1 406 895) (by rw [nk.1 y2, e895]))
  · have y1 : ((I1 406 894)).toInt = 0 := y1
    refine q_ic rfl ?_
    refine q_iret rfl (hk _ _ ?_)
    unfold aNow
    rw [if_pos (i_eq (by rw [← e894]; exact y1))]
    rfl
set_option maxRecDepth 8000 in
theorem sky_y {R : Nat → Int32} {x t w : Int32} (h : okS R x ∧ okT t ∧ 0 ≤ w.toInt ∧ w.toInt ≤ 4) : aSky R x t w = (ndF (nU (nX R x)) w.toInt.toNat t.toInt.toNat).toInt := if_pos h
set_option maxRecDepth 8000 in
theorem sky_n {R : Nat → Int32} {x t w : Int32} (h : ¬ (okS R x ∧ okT t ∧ 0 ≤ w.toInt ∧ w.toInt ≤ 4)) : aSky R x t w = -1 := if_neg h
set_option maxRecDepth 8000 in
theorem v_csky {n : Nat} {I : Nat → Nat → Int32} {J : Nat → Nat → Int64} {K : dw_K} {x t w : Int32} {R : Nat → Int32} (hR : SREL I 3 R)
    (hk : ∀ v : Int32, v.toInt = aSky R x t w → K (some (.int v)) (n, SH1, I, J)) : t_X11_sky [.ref 0, .int x, .int t, .int w] (n, SH1, I, J) K := by
  have cm : (-1 : Int32).toInt = -1 := rfl
  have c5 : (5 : Int32).toInt = 5 := rfl
  refine q_body (Nat.le_of_ble_eq_true rfl) ?_
  refine q_ald rfl rfl ?_
  refine q_getr rfl sk_0 sr_0_1 ?_
  refine q_ild rfl rfl ?_
  refine q_callV (as := [.int x]) (rest := []) rfl rfl sk_3 rfl (Nat.le_of_ble_eq_true rfl) ?_
  refine v_nightOf (fun s hs hx => ?_) (fun hno => ?_)
  · obtain ⟨-, hB⟩ := no_ref hs
    show dw_ok (pr_X11_sky K) 8 0 0 [some (.ref 0), some (.int x), some (.int t), some (.int w), none] [.ref (58 + 7 * s)] (n, SH1, I, J)
    refine q_ast rfl rfl ?_
    refine q_ald rfl rfl ?_
    refine q_ifnull_r rfl ?_
    refine q_ald rfl rfl ?_
    refine q_getz rfl hB.1 ?_
    have es : x.toInt.toNat = s := by omega
    rcases rn_3 hR hs with ⟨e, em⟩ | ⟨e, hS, hn⟩
    · refine q_if (c := 0) rfl (by decide) (fun _ => ?_) (fun g => absurd (show (I (58 + 7 * s) 0).toInt = 0 by rw [e]; rfl) g)
      refine q_ic rfl ?_
      exact q_iret rfl (hk _ (cm.trans (sky_n (fun q => by
        have q1 := q.1.2
        rw [es] at q1
        have q2 : (R (221 + 97 * s + 0)).toInt < 0 := em
        rw [Nat.add_zero] at q2; omega)).symm))
    · refine q_if (c := 0) rfl (by decide) (fun g => absurd (show (I (58 + 7 * s) 0).toInt = 0 from g) (by rw [e]; decide)) (fun _ => ?_)
      obtain ⟨ok, en⟩ := okS_of hs hx hS
      refine q_ild rfl rfl ?_
      refine q_callS (as := [.int t]) (rest := []) rfl rfl rfl rfl ?_
      by_cases ht : 0 ≤ t.toInt ∧ t.toInt < 144
      · refine v_isStep ht.1 ht.2 ?_
        show dw_ok (pr_X11_sky K) 27 0 0 [some (.ref 0), some (.int x), some (.int t), some (.int w), some (.ref (58 + 7 * s))] [.int 1] (n, SH1, I, J)
        refine q_if (c := 0) rfl (by decide) (fun h => absurd (show (1 : Int32).toInt = 0 from h) (by decide)) (fun _ => ?_)
        refine q_ild rfl rfl ?_
        refine q_if (c := 2) rfl (by decide) (fun g => ?_) (fun g => ?_)
        · have g : w.toInt < 0 := g
          refine q_ic rfl ?_
          exact q_iret rfl (hk _ (cm.trans (sky_n (fun q => by omega)).symm))
        have g : 0 ≤ w.toInt := g
        refine q_ild rfl rfl ?_
        refine q_ic rfl ?_
        refine q_icmp (c := 2) rfl (by decide) (fun g2 => ?_) (fun g2 => ?_)
        · have g2 : w.toInt < (5 : Int32).toInt := g2
          refine q_ald rfl rfl ?_
          refine q_ild rfl rfl ?_
          refine q_ild rfl rfl ?_
          refine q_callV (as := [.int w, .int t]) (rest := []) rfl rfl hB.1 rfl (Nat.le_of_ble_eq_true rfl) ?_
          refine v_ntell (w := w.toInt.toNat) hB (by omega) (by omega) ht.1 ht.2 ?_
          refine q_iret rfl (hk _ ?_)
          rw [sky_y ⟨ok, ht, g, by omega⟩, en, hn w.toInt.toNat (by omega) t.toInt.toNat (by omega)]
        · have g2 : (5 : Int32).toInt ≤ w.toInt := g2
          refine q_ic rfl ?_
          exact q_iret rfl (hk _ (cm.trans (sky_n (fun q => by omega)).symm))
      · refine v_noStep ht ?_
        show dw_ok (pr_X11_sky K) 27 0 0 [some (.ref 0), some (.int x), some (.int t), some (.int w), some (.ref (58 + 7 * s))] [.int 0] (n, SH1, I, J)
        refine q_if (c := 0) rfl (by decide) (fun _ => ?_) (fun h => absurd rfl h)
        refine q_ic rfl ?_
        exact q_iret rfl (hk _ (cm.trans (sky_n (fun q => ht q.2.1)).symm))
  · show dw_ok (pr_X11_sky K) 8 0 0 [some (.ref 0), some (.int x), some (.int t), some (.int w), none] [.null] (n, SH1, I, J)
    refine q_astn rfl rfl ?_
    refine q_aldn rfl rfl ?_
    refine q_ifnull_n rfl ?_
    refine q_ic rfl ?_
    exact q_iret rfl (hk _ (cm.trans (sky_n (fun q => hno q.1.1)).symm))
set_option maxRecDepth 8000 in
theorem v_msky {n : Nat} {I : Nat → Nat → Int32} {J : Nat → Nat → Int64} {K : dw_K} {x t w : Int32} {R : Nat → Int32} (hR : I 406 = R) (hN : okS R x → NOK (nX R x))
    (hk : ∀ (I' : Nat → Nat → Int32) (v : Int32), v.toInt = aSky R x t w → K (some (.int v)) (n, SH1, I', J)) : t_X12_sky [.ref 404, .int x, .int t, .int w] (n, SH1, I, J) K := by
  have cm : (-1 : Int32).toInt = -1 := rfl
  refine q_body (Nat.le_of_ble_eq_true rfl) ?_
  refine q_ald rfl rfl ?_
  refine q_ic rfl ?_
  refine q_puti rfl sk_404 ?_
  show dw_ok (pr_X12_sky K) 5 0 0 [some (.ref 404), some (.int x), some (.int t), some (.int w)] [] (n, SH1, (dw_up I 404 0 (0 : Int32)), J)
  obtain ⟨I1, hI1⟩ : ∃ X, X = (dw_up I 404 0 (0 : Int32)) := ⟨_, rfl⟩
  show dw_ok (pr_X12_sky K) 5 0 0 [some (.ref 404), some (.int x), some (.int t), some (.int w)] [] (n, SH1, (dw_up I 404 0 (0 : Int32)), J)
  rw [← hI1]
  have e1 : I1 406 = R := by rw [hI1]; exact (up_row (show (406 : Nat) ≠ 404 by decide)).trans hR
  refine q_ald rfl rfl ?_
  refine q_ild rfl rfl ?_
  refine q_callV (as := [.int x]) (rest := []) rfl rfl sk_404 rfl (Nat.le_of_ble_eq_true rfl) ?_
  refine v_isNight (fun w_ oS => ?_)
  rcases oS with ⟨rfl, oS⟩ | ⟨rfl, oS⟩
  · show dw_ok (pr_X12_sky K) 10 0 0 [some (.ref 404), some (.int x), some (.int t), some (.int w)] [.int (1 : Int32)] (n, SH1, I1, J)
    refine q_if (c := 0) rfl (by decide) (fun h => absurd (show (1 : Int) = 0 from h) (by decide)) (fun y1 => ?_)
    have y1 : (1 : Int) ≠ 0 := y1
    refine q_ild rfl rfl ?_
    refine q_ic rfl ?_
    refine q_ic rfl ?_
    refine q_callS (as := [.int t, .int (0 : Int32), .int (143 : Int32)]) (rest := []) rfl rfl rfl rfl ?_
    refine v_isIn (fun w_ oT => ?_)
    rcases oT with ⟨rfl, oT⟩ | ⟨rfl, oT⟩
    · show dw_ok (pr_X12_sky K) 21 0 0 [some (.ref 404), some (.int x), some (.int t), some (.int w)] [.int (1 : Int32)] (n, SH1, I1, J)
      refine q_if (c := 1) rfl (by decide) (fun y2 => ?_) (fun h => absurd (show (1 : Int) = 0 from h) (by decide))
      have y2 : (1 : Int) ≠ 0 := y2
      refine q_ald rfl rfl ?_
      refine q_ald rfl rfl ?_
      refine q_ild rfl rfl ?_
      refine q_callV (as := [.int x]) (rest := [.ref 404]) rfl rfl sk_404 rfl (Nat.le_of_ble_eq_true rfl) ?_
      refine v_nightAt ?_
      show dw_ok (pr_X12_sky K) 32 0 0 [some (.ref 404), some (.int x), some (.int t), some (.int w)] [.int (221 + 97 * x), .ref 404] (n, SH1, I1, J)
      refine q_callV (as := [.int (221 + 97 * x)]) (rest := []) rfl rfl sk_404 rfl (Nat.le_of_ble_eq_true rfl) ?_
      rw [e1] at oS
      obtain ⟨⟨x0, x5⟩, -⟩ := id oS
      have hS := hN oS
      refine v_sees (F := 221 + 97 * x.toInt.toNat) (L := nL (nX R x)) (ix_a (x := 221) (a := 221) rfl (ix_m (m := 97) (show x.toInt = (x.toInt.toNat : Nat) by omega) rfl (by omega)) (by omega)) (by omega) (by rw [e1]; exact hS.1) (fun I2 hA2 hB2 => ?_)
      rw [e1] at hB2
      have t0 : 0 ≤ t.toInt := oT.1
      have t1 : t.toInt ≤ 143 := oT.2
      show dw_ok (pr_X12_sky K) 35 0 0 [some (.ref 404), some (.int x), some (.int t), some (.int w)] [] (n, SH1, I2, J)
      refine q_ild rfl rfl ?_
      refine q_tab rfl (fun h3 => ?_) (fun h3 => ?_)
      · show dw_ok (pr_X12_sky K) 107 0 0 [some (.ref 404), some (.int x), some (.int t), some (.int w)] [] (n, SH1, I2, J)
        refine q_ic rfl ?_
        exact q_iret rfl (hk _ _ (cm.trans (sky_n (fun q => by omega)).symm))
      · have h5 : w.toInt = 0 ∨ w.toInt = 1 ∨ w.toInt = 2 ∨ w.toInt = 3 ∨ w.toInt = 4 := by omega
        rcases h5 with h5 | h5 | h5 | h5 | h5
        · refine ⟨72, by rw [h5]; rfl, ?_⟩
          show dw_ok (pr_X12_sky K) 72 0 0 [some (.ref 404), some (.int x), some (.int t), some (.int w)] [] (n, SH1, I2, J)
          refine q_ald rfl rfl ?_
          refine q_getr rfl sk_404 sr_404_23 ?_
          refine q_ild rfl rfl ?_
          refine q_xald rfl (Or.inl rfl) sk_411 sn_411 (by omega) (by omega) ?_
          refine q_iret rfl (hk I2 (I2 411 t.toInt.toNat) ?_)
          rw [sky_y ⟨oS, ⟨t0, by omega⟩, by omega, by omega⟩, show w.toInt.toNat = 0 by omega]
          exact congrArg Int32.toInt (hB2 0 (by decide) t.toInt.toNat (by omega))
        · refine ⟨79, by rw [h5]; rfl, ?_⟩
          show dw_ok (pr_X12_sky K) 79 0 0 [some (.ref 404), some (.int x), some (.int t), some (.int w)] [] (n, SH1, I2, J)
          refine q_ald rfl rfl ?_
          refine q_getr rfl sk_404 sr_404_24 ?_
          refine q_ild rfl rfl ?_
          refine q_xald rfl (Or.inl rfl) sk_412 sn_412 (by omega) (by omega) ?_
          refine q_iret rfl (hk I2 (I2 412 t.toInt.toNat) ?_)
          rw [sky_y ⟨oS, ⟨t0, by omega⟩, by omega, by omega⟩, show w.toInt.toNat = 1 by omega]
          exact congrArg Int32.toInt (hB2 1 (by decide) t.toInt.toNat (by omega))
        · refine ⟨86, by rw [h5]; rfl, ?_⟩
          show dw_ok (pr_X12_sky K) 86 0 0 [some (.ref 404), some (.int x), some (.int t), some (.int w)] [] (n, SH1, I2, J)
          refine q_ald rfl rfl ?_
          refine q_getr rfl sk_404 sr_404_25 ?_
          refine q_ild rfl rfl ?_
          refine q_xald rfl (Or.inl rfl) sk_413 sn_413 (by omega) (by omega) ?_
          refine q_iret rfl (hk I2 (I2 413 t.toInt.toNat) ?_)
          rw [sky_y ⟨oS, ⟨t0, by omega⟩, by omega, by omega⟩, show w.toInt.toNat = 2 by omega]
          exact congrArg Int32.toInt (hB2 2 (by decide) t.toInt.toNat (by omega))
        · refine ⟨93, by rw [h5]; rfl, ?_⟩
          show dw_ok (pr_X12_sky K) 93 0 0 [some (.ref 404), some (.int x), some (.int t), some (.int w)] [] (n, SH1, I2, J)
          refine q_ald rfl rfl ?_
          refine q_getr rfl sk_404 sr_404_26 ?_
          refine q_ild rfl rfl ?_
          refine q_xald rfl (Or.inl rfl) sk_414 sn_414 (by omega) (by omega) ?_
          refine q_iret rfl (hk I2 (I2 414 t.toInt.toNat) ?_)
          rw [sky_y ⟨oS, ⟨t0, by omega⟩, by omega, by omega⟩, show w.toInt.toNat = 3 by omega]
          exact congrArg Int32.toInt (hB2 3 (by decide) t.toInt.toNat (by omega))
        · refine ⟨100, by rw [h5]; rfl, ?_⟩
          show dw_ok (pr_X12_sky K) 100 0 0 [some (.ref 404), some (.int x), some (.int t), some (.int w)] [] (n, SH1, I2, J)
          refine q_ald rfl rfl ?_
          refine q_getr rfl sk_404 sr_404_27 ?_
          refine q_ild rfl rfl ?_
          refine q_xald rfl (Or.inl rfl) sk_415 sn_415 (by omega) (by omega) ?_
          refine q_iret rfl (hk I2 (I2 415 t.toInt.toNat) ?_)
          rw [sky_y ⟨oS, ⟨t0, by omega⟩, by omega, by omega⟩, show w.toInt.toNat = 4 by omega]
          exact congrArg Int32.toInt (hB2 4 (by decide) t.toInt.toNat (by omega))
    · show dw_ok (pr_X12_sky K) 21 0 0 [some (.ref 404), some (.int x), some (.int t), some (.int w)] [.int (0 : Int32)] (n, SH1, I1, J)
      refine q_if (c := 1) rfl (by decide) (fun h => absurd (show (0 : Int) ≠ 0 from h) (by decide)) (fun y3 => ?_)
      have y3 : (0 : Int) = 0 := y3
      refine q_ic rfl ?_
      exact q_iret rfl (hk _ _ (cm.trans (sky_n (fun q => oT ⟨q.2.1.1, by have z := q.2.1.2; show t.toInt ≤ 143; omega⟩)).symm))
  · show dw_ok (pr_X12_sky K) 10 0 0 [some (.ref 404), some (.int x), some (.int t), some (.int w)] [.int (0 : Int32)] (n, SH1, I1, J)
    refine q_if (c := 0) rfl (by decide) (fun y4 => ?_) (fun h => absurd (show (0 : Int) ≠ 0 from h) (by decide))
    have y4 : (0 : Int) = 0 := y4
    refine q_ic rfl ?_
    rw [e1] at oS
    exact q_iret rfl (hk _ _ (cm.trans (sky_n (fun q => oS q.1)).symm))
