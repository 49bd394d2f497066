/-! ===== the RUN now, of the model ===== -/
set_option maxRecDepth 8000 in
set_option maxHeartbeats 4000000 in
theorem mb_l1 {n : Nat} {J : Nat → Nat → Int64} {K : dw_K} {x : Int32} {sl : Nat} {I0 : Nat → Nat → Int32} (hx : x.toInt = sl) (hsl : sl < 6)
    (hk : ∀ (I' : Nat → Nat → Int32) (y : Int32), (∀ a, a ≠ 406 → I' a = I0 a) → (∀ j, j < 898 ∨ 995 ≤ j → I' 406 j = I0 406 j) → (∀ q, q < 97 → I' 406 (898 + q) = I0 406 (221 + 97 * sl + q)) → dw_ok (pr_X12_begin K) 96 0 0 [some (.ref 404), some (.int x), some (.int y)] [] (n, SH1, I', J)) :
    ∀ (f k : Nat) (y : Int32) (I : Nat → Nat → Int32), k + f = 97 → y.toInt = k → (∀ a, a ≠ 406 → I a = I0 a) → (∀ j, j < 898 ∨ 995 ≤ j → I 406 j = I0 406 j) → (∀ q, q < k → I 406 (898 + q) = I0 406 (221 + 97 * sl + q)) → dw_ok (pr_X12_begin K) 62 0 0 [some (.ref 404), some (.int x), some (.int y)] [] (n, SH1, I, J) := by
  intro f
  induction f with
  | zero =>
    intro k y I hf hy hA hB hC
    refine q_ild rfl rfl ?_
    refine q_ic rfl ?_
    refine q_icmp (c := 3) rfl (by decide) (fun y1 => ?_) (fun h => absurd (show (y).toInt < (97 : Int) from h) (by omega))
    have y1 : (97 : Int) ≤ (y).toInt := y1
    exact hk I y hA hB (fun q hq => hC q (by omega))
  | succ f ih =>
    intro k y I hf hy hA hB hC
    refine q_ild rfl rfl ?_
    refine q_ic rfl ?_
    refine q_icmp (c := 3) rfl (by decide) (fun h => absurd (show (97 : Int) ≤ (y).toInt from h) (by omega)) (fun y2 => ?_)
    have y2 : (y).toInt < (97 : Int) := y2
    refine q_ald rfl rfl ?_
    refine q_getr rfl sk_404 sr_404_6 ?_
    refine q_ic rfl ?_
    refine q_ild rfl rfl ?_
    refine q_add rfl ?_
    show dw_ok (pr_X12_begin K) 77 0 0 [some (.ref 404), some (.int x), some (.int y)] [.int ((898 : Int32) + y), .ref 406] (n, SH1, I, J)
    obtain ⟨z1, hz1⟩ : ∃ z, z = ((898 : Int32) + y) := ⟨_, rfl⟩
    rw [← hz1]
    have ez1 : z1.toInt = ((898 + k : Nat) : Int) := by rw [hz1]; exact (ix_a (x := 898) (a := 898) rfl hy (by omega))
    refine q_ald rfl rfl ?_
    refine q_getr rfl sk_404 sr_404_6 ?_
    refine q_ald rfl rfl ?_
    refine q_ild rfl rfl ?_
    refine q_callV (as := [.int x]) (rest := [.ref 406, .int z1, .ref 406]) rfl rfl sk_404 rfl (Nat.le_of_ble_eq_true rfl) ?_
    refine v_nightAt ?_
    show dw_ok (pr_X12_begin K) 86 0 0 [some (.ref 404), some (.int x), some (.int y)] [.int (221 + 97 * x), .ref 406, .int z1, .ref 406] (n, SH1, I, J)
    obtain ⟨b, hb⟩ : ∃ z, z = 221 + 97 * x := ⟨_, rfl⟩
    rw [← hb]
    have eb : b.toInt = ((221 + 97 * sl : Nat) : Int) := by rw [hb]; exact ix_a (x := 221) (a := 221) rfl (ix_m (m := 97) hx rfl (by omega)) (by omega)
    show dw_ok (pr_X12_begin K) 86 0 0 [some (.ref 404), some (.int x), some (.int y)] [.int b, .ref 406, .int z1, .ref 406] (n, SH1, I, J)
    refine q_ild rfl rfl ?_
    refine q_add rfl ?_
    show dw_ok (pr_X12_begin K) 88 0 0 [some (.ref 404), some (.int x), some (.int y)] [.int (b + y), .ref 406, .int z1, .ref 406] (n, SH1, I, J)
    obtain ⟨z2, hz2⟩ : ∃ z, z = (b + y) := ⟨_, rfl⟩
    rw [← hz2]
    have ez2 : z2.toInt = ((221 + 97 * sl + k : Nat) : Int) := by rw [hz2]; exact (ix_a eb hy (by omega))
    refine q_xald rfl (Or.inl rfl) sk_406 sn_406 (by omega) (by omega) ?_
    show dw_ok (pr_X12_begin K) 89 0 0 [some (.ref 404), some (.int x), some (.int y)] [.int (I 406 (z2).toInt.toNat), .int z1, .ref 406] (n, SH1, I, J)
    rw [(nat_of ez2)]
    refine q_iast rfl sk_406 sn_406 (by omega) (by omega) ?_
    show dw_ok (pr_X12_begin K) 90 0 0 [some (.ref 404), some (.int x), some (.int y)] [] (n, SH1, (dw_up I 406 (z1).toInt.toNat (I 406 (221 + 97 * sl + k))), J)
    rw [(nat_of ez1)]
    refine q_inc rfl rfl rfl ?_
    show dw_ok (pr_X12_begin K) 93 0 0 [some (.ref 404), some (.int x), some (.int (y + 1))] [] (n, SH1, (dw_up I 406 (898 + k) (I 406 (221 + 97 * sl + k))), J)
    show dw_ok (pr_X12_begin K) 93 0 0 [some (.ref 404), some (.int x), some (.int (y + 1))] [] (n, SH1, (dw_up I 406 (898 + k) (I 406 (221 + 97 * sl + k))), J)
    obtain ⟨y1v, hy1v⟩ : ∃ z, z = (y + 1) := ⟨_, rfl⟩
    rw [← hy1v]
    have ey1v : y1v.toInt = ((k + 1 : Nat) : Int) := by rw [hy1v]; exact ix_1 hy (by omega)
    refine q_goto rfl ?_
    refine ih (k + 1) y1v (dw_up I 406 (898 + k) (I 406 (221 + 97 * sl + k))) (by omega) ey1v (fun a ha => (up_row ha).trans (hA a ha)) (fun j hj => (up_fld (by omega)).trans (hB j hj)) (fun q hq => ?_)
    by_cases e : q = k
    · rw [e, up_same]; exact hB _ (by omega)
    · rw [up_fld (by omega)]; exact hC q (by omega)
set_option maxRecDepth 8000 in
set_option maxHeartbeats 4000000 in
theorem mb_l2 {n : Nat} {J : Nat → Nat → Int64} {K : dw_K} {x : Int32} {N : Nat} {I0 : Nat → Nat → Int32} (hN : (I0 406 0 * I0 406 1).toInt = N) (hN9 : N ≤ 144)
    (hk : ∀ I' : Nat → Nat → Int32, (∀ a, a ≠ 406 → I' a = I0 a) → (∀ j, j < 995 → I' 406 j = I0 406 j) → (∀ q, q < 144 → (q < N → I' 406 (995 + q) = I0 416 q) ∧ I' 406 (1139 + q) = 0 ∧ I' 406 (1283 + q) = 0) → K (some (.int 1)) (n, SH1, I', J)) :
    ∀ (f k : Nat) (y : Int32) (I : Nat → Nat → Int32), k + f = 144 → y.toInt = k → (∀ a, a ≠ 406 → I a = I0 a) → (∀ j, j < 995 → I 406 j = I0 406 j) → (∀ q, q < k → (q < N → I 406 (995 + q) = I0 416 q) ∧ I 406 (1139 + q) = 0 ∧ I 406 (1283 + q) = 0) → dw_ok (pr_X12_begin K) 98 0 0 [some (.ref 404), some (.int x), some (.int y)] [] (n, SH1, I, J) := by
  intro f
  induction f with
  | zero =>
    intro k y I hf hy hA hB hC
    refine q_ild rfl rfl ?_
    refine q_ic rfl ?_
    refine q_icmp (c := 3) rfl (by decide) (fun y1 => ?_) (fun h => absurd (show (y).toInt < (144 : Int) from h) (by omega))
    have y1 : (144 : Int) ≤ (y).toInt := y1
    refine q_ic rfl ?_
    exact q_zret rfl (Or.inr rfl) (hk I hA hB (fun q hq => hC q (by omega)))
  | succ f ih =>
    intro k y I hf hy hA hB hC
    have h0 : I 406 0 = I0 406 0 := hB 0 (by omega)
    have h1 : I 406 1 = I0 406 1 := hB 1 (by omega)
    have h416 : I 416 = I0 416 := hA 416 (by decide)
    refine q_ild rfl rfl ?_
    refine q_ic rfl ?_
    refine q_icmp (c := 3) rfl (by decide) (fun h => absurd (show (144 : Int) ≤ (y).toInt from h) (by omega)) (fun y2 => ?_)
    have y2 : (y).toInt < (144 : Int) := y2
    refine q_ald rfl rfl ?_
    refine q_getr rfl sk_404 sr_404_6 ?_
    refine q_ic rfl ?_
    refine q_ild rfl rfl ?_
    refine q_add rfl ?_
    show dw_ok (pr_X12_begin K) 114 0 0 [some (.ref 404), some (.int x), some (.int y)] [.int ((995 : Int32) + y), .ref 406] (n, SH1, I, J)
    obtain ⟨z1, hz1⟩ : ∃ z, z = ((995 : Int32) + y) := ⟨_, rfl⟩
    rw [← hz1]
    have ez1 : z1.toInt = ((995 + k : Nat) : Int) := by rw [hz1]; exact (ix_a (x := 995) (a := 995) rfl hy (by omega))
    refine q_ild rfl rfl ?_
    refine q_ald rfl rfl ?_
    refine q_callV (as := []) (rest := [.int y, .int z1, .ref 406]) rfl rfl sk_404 rfl (Nat.le_of_ble_eq_true rfl) ?_
    refine v_mcells ?_
    show dw_ok (pr_X12_begin K) 119 0 0 [some (.ref 404), some (.int x), some (.int y)] [.int (I 406 0 * I 406 1), .int y, .int z1, .ref 406] (n, SH1, I, J)
    rw [h0, h1]
    obtain ⟨nv, hnv⟩ : ∃ z, z = I0 406 0 * I0 406 1 := ⟨_, rfl⟩
    rw [← hnv]
    have env : nv.toInt = N := by rw [hnv]; exact hN
    show dw_ok (pr_X12_begin K) 119 0 0 [some (.ref 404), some (.int x), some (.int y)] [.int nv, .int y, .int z1, .ref 406] (n, SH1, I, J)
    refine q_icmp (c := 3) rfl (by decide) (fun y3 => ?_) (fun y3 => ?_)
    · have y3 : (nv).toInt ≤ (y).toInt := y3
      refine q_ic rfl ?_
      refine q_iast rfl sk_406 sn_406 (by omega) (by omega) ?_
      show dw_ok (pr_X12_begin K) 133 0 0 [some (.ref 404), some (.int x), some (.int y)] [] (n, SH1, (dw_up I 406 (z1).toInt.toNat (0 : Int32)), J)
      rw [(nat_of ez1)]
      refine q_ald rfl rfl ?_
      refine q_getr rfl sk_404 sr_404_6 ?_
      refine q_ic rfl ?_
      refine q_ild rfl rfl ?_
      refine q_add rfl ?_
      show dw_ok (pr_X12_begin K) 142 0 0 [some (.ref 404), some (.int x), some (.int y)] [.int ((1139 : Int32) + y), .ref 406] (n, SH1, (dw_up I 406 (995 + k) (0 : Int32)), J)
      obtain ⟨z2, hz2⟩ : ∃ z, z = ((1139 : Int32) + y) := ⟨_, rfl⟩
      rw [← hz2]
      have ez2 : z2.toInt = ((1139 + k : Nat) : Int) := by rw [hz2]; exact (ix_a (x := 1139) (a := 1139) rfl hy (by omega))
      refine q_ic rfl ?_
      refine q_iast rfl sk_406 sn_406 (by omega) (by omega) ?_
      show dw_ok (pr_X12_begin K) 144 0 0 [some (.ref 404), some (.int x), some (.int y)] [] (n, SH1, (dw_up (dw_up I 406 (995 + k) (0 : Int32)) 406 (z2).toInt.toNat (0 : Int32)), J)
      rw [(nat_of ez2)]
      refine q_ald rfl rfl ?_
      refine q_getr rfl sk_404 sr_404_6 ?_
      refine q_ic rfl ?_
      refine q_ild rfl rfl ?_
      refine q_add rfl ?_
      show dw_ok (pr_X12_begin K) 153 0 0 [some (.ref 404), some (.int x), some (.int y)] [.int ((1283 : Int32) + y), .ref 406] (n, SH1, (dw_up (dw_up I 406 (995 + k) (0 : Int32)) 406 (1139 + k) (0 : Int32)), J)
      obtain ⟨z3, hz3⟩ : ∃ z, z = ((1283 : Int32) + y) := ⟨_, rfl⟩
      rw [← hz3]
      have ez3 : z3.toInt = ((1283 + k : Nat) : Int) := by rw [hz3]; exact (ix_a (x := 1283) (a := 1283) rfl hy (by omega))
      refine q_ic rfl ?_
      refine q_iast rfl sk_406 sn_406 (by omega) (by omega) ?_
      show dw_ok (pr_X12_begin K) 155 0 0 [some (.ref 404), some (.int x), some (.int y)] [] (n, SH1, (dw_up (dw_up (dw_up I 406 (995 + k) (0 : Int32)) 406 (1139 + k) (0 : Int32)) 406 (z3).toInt.toNat (0 : Int32)), J)
      rw [(nat_of ez3)]
      refine q_inc rfl rfl rfl ?_
      show dw_ok (pr_X12_begin K) 158 0 0 [some (.ref 404), some (.int x), some (.int (y + 1))] [] (n, SH1, (dw_up (dw_up (dw_up I 406 (995 + k) (0 : Int32)) 406 (1139 + k) (0 : Int32)) 406 (1283 + k) (0 : Int32)), J)
      show dw_ok (pr_X12_begin K) 158 0 0 [some (.ref 404), some (.int x), some (.int (y + 1))] [] (n, SH1, (dw_up (dw_up (dw_up I 406 (995 + k) (0 : Int32)) 406 (1139 + k) (0 : Int32)) 406 (1283 + k) (0 : Int32)), J)
      obtain ⟨y1v, hy1v⟩ : ∃ z, z = (y + 1) := ⟨_, rfl⟩
      rw [← hy1v]
      have ey1v : y1v.toInt = ((k + 1 : Nat) : Int) := by rw [hy1v]; exact ix_1 hy (by omega)
      refine q_goto rfl ?_
      refine ih (k + 1) y1v (dw_up (dw_up (dw_up I 406 (995 + k) (0 : Int32)) 406 (1139 + k) (0 : Int32)) 406 (1283 + k) (0 : Int32)) (by omega) ey1v (fun a ha => ((up_row ha).trans ((up_row ha).trans ((up_row ha).trans (hA a ha))))) (fun j hj => ((up_fld (by omega)).trans ((up_fld (by omega)).trans ((up_fld (by omega)).trans (hB j hj))))) (fun q hq => ?_)
      by_cases e : q = k
      · subst e
        refine ⟨fun hqN => ?_, ?_, ?_⟩
        · omega
        · exact ((up_fld (by omega)).trans (up_same))
        · exact up_same
      · obtain ⟨c1, c2, c3⟩ := hC q (by omega)
        refine ⟨fun hqN => ((up_fld (by omega)).trans ((up_fld (by omega)).trans ((up_fld (by omega)).trans (c1 hqN)))), ((up_fld (by omega)).trans ((up_fld (by omega)).trans ((up_fld (by omega)).trans (c2)))), ((up_fld (by omega)).trans ((up_fld (by omega)).trans ((up_fld (by omega)).trans (c3))))⟩
    · have y3 : (y).toInt < (nv).toInt := y3
      refine q_ald rfl rfl ?_
      refine q_getr rfl sk_404 sr_404_28 ?_
      refine q_ild rfl rfl ?_
      refine q_xald rfl (Or.inl rfl) sk_416 sn_416 (by omega) (by omega) ?_
      show dw_ok (pr_X12_begin K) 128 0 0 [some (.ref 404), some (.int x), some (.int y)] [.int (I 416 (y).toInt.toNat), .int z1, .ref 406] (n, SH1, I, J)
      rw [(nat_of hy)]
      refine q_goto rfl ?_
      refine q_iast rfl sk_406 sn_406 (by omega) (by omega) ?_
      show dw_ok (pr_X12_begin K) 133 0 0 [some (.ref 404), some (.int x), some (.int y)] [] (n, SH1, (dw_up I 406 (z1).toInt.toNat (I 416 k)), J)
      rw [(nat_of ez1)]
      refine q_ald rfl rfl ?_
      refine q_getr rfl sk_404 sr_404_6 ?_
      refine q_ic rfl ?_
      refine q_ild rfl rfl ?_
      refine q_add rfl ?_
      show dw_ok (pr_X12_begin K) 142 0 0 [some (.ref 404), some (.int x), some (.int y)] [.int ((1139 : Int32) + y), .ref 406] (n, SH1, (dw_up I 406 (995 + k) (I 416 k)), J)
      obtain ⟨z2, hz2⟩ : ∃ z, z = ((1139 : Int32) + y) := ⟨_, rfl⟩
      rw [← hz2]
      have ez2 : z2.toInt = ((1139 + k : Nat) : Int) := by rw [hz2]; exact (ix_a (x := 1139) (a := 1139) rfl hy (by omega))
      refine q_ic rfl ?_
      refine q_iast rfl sk_406 sn_406 (by omega) (by omega) ?_
      show dw_ok (pr_X12_begin K) 144 0 0 [some (.ref 404), some (.int x), some (.int y)] [] (n, SH1, (dw_up (dw_up I 406 (995 + k) (I 416 k)) 406 (z2).toInt.toNat (0 : Int32)), J)
      rw [(nat_of ez2)]
      refine q_ald rfl rfl ?_
      refine q_getr rfl sk_404 sr_404_6 ?_
      refine q_ic rfl ?_
      refine q_ild rfl rfl ?_
      refine q_add rfl ?_
      show dw_ok (pr_X12_begin K) 153 0 0 [some (.ref 404), some (.int x), some (.int y)] [.int ((1283 : Int32) + y), .ref 406] (n, SH1, (dw_up (dw_up I 406 (995 + k) (I 416 k)) 406 (1139 + k) (0 : Int32)), J)
      obtain ⟨z3, hz3⟩ : ∃ z, z = ((1283 : Int32) + y) := ⟨_, rfl⟩
      rw [← hz3]
      have ez3 : z3.toInt = ((1283 + k : Nat) : Int) := by rw [hz3]; exact (ix_a (x := 1283) (a := 1283) rfl hy (by omega))
      refine q_ic rfl ?_
      refine q_iast rfl sk_406 sn_406 (by omega) (by omega) ?_
      show dw_ok (pr_X12_begin K) 155 0 0 [some (.ref 404), some (.int x), some (.int y)] [] (n, SH1, (dw_up (dw_up (dw_up I 406 (995 + k) (I 416 k)) 406 (1139 + k) (0 : Int32)) 406 (z3).toInt.toNat (0 : Int32)), J)
      rw [(nat_of ez3)]
      refine q_inc rfl rfl rfl ?_
      show dw_ok (pr_X12_begin K) 158 0 0 [some (.ref 404), some (.int x), some (.int (y + 1))] [] (n, SH1, (dw_up (dw_up (dw_up I 406 (995 + k) (I 416 k)) 406 (1139 + k) (0 : Int32)) 406 (1283 + k) (0 : Int32)), J)
      show dw_ok (pr_X12_begin K) 158 0 0 [some (.ref 404), some (.int x), some (.int (y + 1))] [] (n, SH1, (dw_up (dw_up (dw_up I 406 (995 + k) (I 416 k)) 406 (1139 + k) (0 : Int32)) 406 (1283 + k) (0 : Int32)), J)
      obtain ⟨y1v, hy1v⟩ : ∃ z, z = (y + 1) := ⟨_, rfl⟩
      rw [← hy1v]
      have ey1v : y1v.toInt = ((k + 1 : Nat) : Int) := by rw [hy1v]; exact ix_1 hy (by omega)
      refine q_goto rfl ?_
      refine ih (k + 1) y1v (dw_up (dw_up (dw_up I 406 (995 + k) (I 416 k)) 406 (1139 + k) (0 : Int32)) 406 (1283 + k) (0 : Int32)) (by omega) ey1v (fun a ha => ((up_row ha).trans ((up_row ha).trans ((up_row ha).trans (hA a ha))))) (fun j hj => ((up_fld (by omega)).trans ((up_fld (by omega)).trans ((up_fld (by omega)).trans (hB j hj))))) (fun q hq => ?_)
      by_cases e : q = k
      · subst e
        refine ⟨fun hqN => ?_, ?_, ?_⟩
        · exact ((up_fld (by omega)).trans ((up_fld (by omega)).trans ((up_same).trans (congrFun h416 q))))
        · exact ((up_fld (by omega)).trans (up_same))
        · exact up_same
      · obtain ⟨c1, c2, c3⟩ := hC q (by omega)
        refine ⟨fun hqN => ((up_fld (by omega)).trans ((up_fld (by omega)).trans ((up_fld (by omega)).trans (c1 hqN)))), ((up_fld (by omega)).trans ((up_fld (by omega)).trans ((up_fld (by omega)).trans (c2)))), ((up_fld (by omega)).trans ((up_fld (by omega)).trans ((up_fld (by omega)).trans (c3))))⟩
set_option maxRecDepth 8000 in
set_option maxHeartbeats 4000000 in
theorem v_mbegin {n : Nat} {I : Nat → Nat → Int32} {J : Nat → Nat → Int64} {K : dw_K} {a1 : Int32} {R : Nat → Int32} (hR : I 406 = R) (hG : GOK R) (hN : okS R a1 → NOK (nX R a1)) (h0 : ¬ okS R a1 → ∀ I' : Nat → Nat → Int32, I' 406 = R → K (some (.int 0)) (n, SH1, I', J)) (h1 : okS R a1 → NOK (nX R a1) → ∀ I' : Nat → Nat → Int32, mBeg R (I' 406) a1.toInt.toNat → K (some (.int 1)) (n, SH1, I', J)) : t_X12_begin [.ref 404, .int a1] (n, SH1, I, J) K := by
  refine q_body (Nat.le_of_ble_eq_true rfl) ?_
  refine q_ald rfl rfl ?_
  refine q_ic rfl ?_
  refine q_puti rfl sk_404 ?_
  show dw_ok (pr_X12_begin K) 5 0 0 [some (.ref 404), some (.int a1), none] [] (n, SH1, (dw_up I 404 0 (0 : Int32)), J)
  refine q_ald rfl rfl ?_
  refine q_ild rfl rfl ?_
  refine q_callV (as := [.int a1]) (rest := []) rfl rfl sk_404 rfl (Nat.le_of_ble_eq_true rfl) ?_
  obtain ⟨I1, hI1⟩ : ∃ X, X = (dw_up I 404 0 (0 : Int32)) := ⟨_, rfl⟩
  rw [← hI1]
  have r1 : ∀ a, a ≠ 404 → I1 a = I a := fun a ha => by rw [hI1]; exact up_row ha
  have e1 : I1 406 = R := (r1 406 (by decide)).trans hR
  refine v_isNight (fun w_ oS => ?_)
  rcases oS with ⟨rfl, oS⟩ | ⟨rfl, oS⟩
  · show dw_ok (pr_X12_begin K) 10 0 0 [some (.ref 404), some (.int a1), none] [.int (1 : Int32)] (n, SH1, I1, J)
    refine q_if (c := 1) rfl (by decide) (fun y1 => ?_) (fun h => absurd (show (1 : Int) = 0 from h) (by decide))
    have y1 : (1 : Int) ≠ 0 := y1
    refine q_ald rfl rfl ?_
    refine q_ild rfl rfl ?_
    refine q_ic rfl ?_
    refine q_callV (as := [.int a1, .int (0 : Int32)]) (rest := []) rfl rfl sk_404 rfl (Nat.le_of_ble_eq_true rfl) ?_
    rw [e1] at oS
    obtain ⟨⟨x0, x5⟩, -⟩ := id oS
    have hS := hN oS
    refine v_mstartR (st := 0) e1 hG oS hS rfl (fun I2 g0 g1 _ g3 _ => ?_)
    have e2 : I2 406 = R := (g0 406 (by decide) (by decide)).trans e1
    obtain ⟨-, -, ⟨w1, w2, w3, w4⟩, -⟩ := g3
    have w3 : I2 404 32 = R 4 := w3
    show dw_ok (pr_X12_begin K) 21 0 0 [some (.ref 404), some (.int a1), none] [] (n, SH1, I2, J)
    refine q_ald rfl rfl ?_
    refine q_getr rfl sk_404 sr_404_6 ?_
    refine q_ic rfl ?_
    refine q_ic rfl ?_
    refine q_iast rfl sk_406 sn_406 (by decide) (by decide) ?_
    show dw_ok (pr_X12_begin K) 30 0 0 [some (.ref 404), some (.int a1), none] [] (n, SH1, (dw_up I2 406 894 (1 : Int32)), J)
    refine q_ald rfl rfl ?_
    refine q_getr rfl sk_404 sr_404_6 ?_
    refine q_ic rfl ?_
    refine q_ic rfl ?_
    refine q_iast rfl sk_406 sn_406 (by decide) (by decide) ?_
    show dw_ok (pr_X12_begin K) 39 0 0 [some (.ref 404), some (.int a1), none] [] (n, SH1, (dw_up (dw_up I2 406 894 (1 : Int32)) 406 895 (0 : Int32)), J)
    refine q_ald rfl rfl ?_
    refine q_getr rfl sk_404 sr_404_6 ?_
    refine q_ic rfl ?_
    refine q_ald rfl rfl ?_
    refine q_geti rfl sk_404 ?_
    show dw_ok (pr_X12_begin K) 50 0 0 [some (.ref 404), some (.int a1), none] [.int ((dw_up (dw_up I2 406 894 (1 : Int32)) 406 895 (0 : Int32)) 404 32), .int (896 : Int32), .ref 406] (n, SH1, (dw_up (dw_up I2 406 894 (1 : Int32)) 406 895 (0 : Int32)), J)
    rw [show ((dw_up (dw_up I2 406 894 (1 : Int32)) 406 895 (0 : Int32)) 404 32) = (I2 404 32) from ((up_ne (Or.inl (by decide))).trans (up_ne (Or.inl (by decide))))]
    refine q_iast rfl sk_406 sn_406 (by decide) (by decide) ?_
    show dw_ok (pr_X12_begin K) 51 0 0 [some (.ref 404), some (.int a1), none] [] (n, SH1, (dw_up (dw_up (dw_up I2 406 894 (1 : Int32)) 406 895 (0 : Int32)) 406 896 (I2 404 32)), J)
    refine q_ald rfl rfl ?_
    refine q_getr rfl sk_404 sr_404_6 ?_
    refine q_ic rfl ?_
    refine q_ic rfl ?_
    refine q_iast rfl sk_406 sn_406 (by decide) (by decide) ?_
    show dw_ok (pr_X12_begin K) 60 0 0 [some (.ref 404), some (.int a1), none] [] (n, SH1, (dw_up (dw_up (dw_up (dw_up I2 406 894 (1 : Int32)) 406 895 (0 : Int32)) 406 896 (I2 404 32)) 406 897 (0 : Int32)), J)
    refine q_ic rfl ?_
    refine q_ist rfl rfl ?_
    show dw_ok (pr_X12_begin K) 62 0 0 [some (.ref 404), some (.int a1), some (.int (0 : Int32))] [] (n, SH1, (dw_up (dw_up (dw_up (dw_up I2 406 894 (1 : Int32)) 406 895 (0 : Int32)) 406 896 (I2 404 32)) 406 897 (0 : Int32)), J)
    obtain ⟨I3, hI3⟩ : ∃ X, X = (dw_up (dw_up (dw_up (dw_up I2 406 894 (1 : Int32)) 406 895 (0 : Int32)) 406 896 (I2 404 32)) 406 897 (0 : Int32)) := ⟨_, rfl⟩
    show dw_ok (pr_X12_begin K) 62 0 0 [some (.ref 404), some (.int a1), some (.int (0 : Int32))] [] (n, SH1, (dw_up (dw_up (dw_up (dw_up I2 406 894 (1 : Int32)) 406 895 (0 : Int32)) 406 896 (I2 404 32)) 406 897 (0 : Int32)), J)
    rw [← hI3]
    have r3 : ∀ a, a ≠ 406 → I3 a = I2 a := fun a ha => by rw [hI3]; exact ((up_row ha).trans ((up_row ha).trans ((up_row ha).trans (up_row ha))))
    have f3 : ∀ j, j < 894 ∨ 898 ≤ j → I3 406 j = R j := fun j hj => by rw [hI3]; exact ((up_fld (by omega)).trans ((up_fld (by omega)).trans ((up_fld (by omega)).trans ((up_fld (by omega)).trans (congrFun e2 j)))))
    have s894 : I3 406 894 = (1 : Int32) := by rw [hI3]; exact ((up_fld (by decide)).trans ((up_fld (by decide)).trans ((up_fld (by decide)).trans (up_same))))
    have s895 : I3 406 895 = (0 : Int32) := by rw [hI3]; exact ((up_fld (by decide)).trans ((up_fld (by decide)).trans (up_same)))
    have s896 : I3 406 896 = (I2 404 32) := by rw [hI3]; exact ((up_fld (by decide)).trans (up_same))
    have s897 : I3 406 897 = (0 : Int32) := by rw [hI3]; exact (up_same)
    refine mb_l1 (I0 := I3) (sl := a1.toInt.toNat) (by omega) (by omega) (fun I4 y hA hB hC => ?_) 97 0 0 I3 rfl rfl (fun _ _ => rfl) (fun _ _ => rfl) (fun q hq => absurd hq (Nat.not_lt_zero q))
    refine q_ic rfl ?_
    refine q_ist rfl rfl ?_
    show dw_ok (pr_X12_begin K) 98 0 0 [some (.ref 404), some (.int a1), some (.int 0)] [] (n, SH1, I4, J)
    have d0 : I4 406 0 = R 0 := (hB 0 (by omega)).trans (f3 0 (by omega))
    have d1 : I4 406 1 = R 1 := (hB 1 (by omega)).trans (f3 1 (by omega))
    have hN9 := gok_N hG
    refine mb_l2 (I0 := I4) (N := Nn R) (by rw [d0, d1]; exact hN9.1) hN9.2 (fun I5 hA5 hB5 hC5 => ?_) 144 0 0 I4 rfl rfl (fun _ _ => rfl) (fun _ _ => rfl) (fun q hq => absurd hq (Nat.not_lt_zero q))
    refine h1 oS hS I5 ⟨fun j hj => ?_, ?_, ?_, ?_, ?_, fun q hq => ?_, fun c hc => ⟨?_, ?_, ?_⟩⟩
    · rw [hB5 j (by omega), hB j (by omega)]; exact f3 j (by omega)
    · rw [hB5 894 (by omega), hB 894 (by omega)]; exact s894
    · rw [hB5 895 (by omega), hB 895 (by omega)]; exact s895
    · rw [hB5 896 (by omega), hB 896 (by omega), s896]; exact w3
    · rw [hB5 897 (by omega), hB 897 (by omega)]; exact s897
    · rw [hB5 (898 + q) (by omega), hC q hq]; exact f3 _ (by omega)
    · rw [(hC5 c (by omega)).1 hc, hA 416 (by decide), r3 416 (by decide)]; exact w1 c hc
    · exact (hC5 c (by omega)).2.1
    · exact (hC5 c (by omega)).2.2
  · show dw_ok (pr_X12_begin K) 10 0 0 [some (.ref 404), some (.int a1), none] [.int (0 : Int32)] (n, SH1, I1, J)
    refine q_if (c := 1) rfl (by decide) (fun h => absurd (show (0 : Int) ≠ 0 from h) (by decide)) (fun y2 => ?_)
    have y2 : (0 : Int) = 0 := y2
    refine q_ic rfl ?_
    rw [e1] at oS
    exact q_zret rfl (Or.inl rfl) (h0 oS _ e1)
set_option maxRecDepth 8000 in
set_option maxHeartbeats 8000000 in
theorem ml_loop {n : Nat} {J : Nat → Nat → Int64} {K : dw_K} {R : Nat → Int32} {I0 : Nat → Nat → Int32} (hR : I0 406 = R) (hG : GOK R)
    (hk : ∀ I' : Nat → Nat → Int32, (∀ a, a ≠ 416 → a ≠ 417 → a ≠ 418 → a ≠ 419 → a ≠ 420 → I' a = I0 a) → (∀ c, c < Nn R → I' 416 c = R (995 + c) ∧ I' 417 c = R (1139 + c) ∧ I' 420 c = R (1283 + c) ∧ I' 418 c = (if R (1283 + c) = 1 then 0 else skI R c) ∧ I' 419 c = R (29 + c)) → K none (n, SH1, I', J)) :
    ∀ (f k : Nat) (c : Int32) (I : Nat → Nat → Int32), k + f = Nn R → c.toInt = k → (∀ a, a ≠ 416 → a ≠ 417 → a ≠ 418 → a ≠ 419 → a ≠ 420 → I a = I0 a) → (∀ c, c < k → I 416 c = R (995 + c) ∧ I 417 c = R (1139 + c) ∧ I 420 c = R (1283 + c) ∧ I 418 c = (if R (1283 + c) = 1 then 0 else skI R c) ∧ I 419 c = R (29 + c)) → dw_ok (pr_X12_loads K) 55 0 0 [some (.ref 404), some (.int c)] [] (n, SH1, I, J) := by
  obtain ⟨hN, hN9⟩ := gok_N hG
  intro f
  induction f with
  | zero =>
    intro k c I hf hc hA hB
    have h406 : I 406 = R := (hA 406 (by decide) (by decide) (by decide) (by decide) (by decide)).trans hR
    refine q_ild rfl rfl ?_
    refine q_ald rfl rfl ?_
    refine q_callV (as := []) (rest := [.int c]) rfl rfl sk_404 rfl (Nat.le_of_ble_eq_true rfl) ?_
    refine v_mcells ?_
    show dw_ok (pr_X12_loads K) 60 0 0 [some (.ref 404), some (.int c)] [.int (I 406 0 * I 406 1), .int c] (n, SH1, I, J)
    rw [show I 406 = R from h406]
    obtain ⟨nv, hnv⟩ : ∃ z, z = R 0 * R 1 := ⟨_, rfl⟩
    rw [← hnv]
    have env : nv.toInt = Nn R := by rw [hnv]; exact hN
    show dw_ok (pr_X12_loads K) 60 0 0 [some (.ref 404), some (.int c)] [.int nv, .int c] (n, SH1, I, J)
    refine q_icmp (c := 3) rfl (by decide) (fun y1 => ?_) (fun h => absurd (show (c).toInt < (nv).toInt from h) (by omega))
    have y1 : (nv).toInt ≤ (c).toInt := y1
    exact q_vret rfl (hk I hA (fun j hj => hB j (by omega)))
  | succ f ih =>
    intro k c I hf hc hA hB
    have h406 : I 406 = R := (hA 406 (by decide) (by decide) (by decide) (by decide) (by decide)).trans hR
    have hkN : k < Cn R * Rn R := by
      have q : k < Nn R := by omega
      exact q
    have hC0 : 0 < Cn R := by
      rcases Nat.eq_zero_or_pos (Cn R) with e | e
      · rw [e, Nat.zero_mul] at hkN; omega
      · exact e
    refine q_ild rfl rfl ?_
    refine q_ald rfl rfl ?_
    refine q_callV (as := []) (rest := [.int c]) rfl rfl sk_404 rfl (Nat.le_of_ble_eq_true rfl) ?_
    refine v_mcells ?_
    show dw_ok (pr_X12_loads K) 60 0 0 [some (.ref 404), some (.int c)] [.int (I 406 0 * I 406 1), .int c] (n, SH1, I, J)
    rw [show I 406 = R from h406]
    obtain ⟨nv, hnv⟩ : ∃ z, z = R 0 * R 1 := ⟨_, rfl⟩
    rw [← hnv]
    have env : nv.toInt = Nn R := by rw [hnv]; exact hN
    show dw_ok (pr_X12_loads K) 60 0 0 [some (.ref 404), some (.int c)] [.int nv, .int c] (n, SH1, I, J)
    refine q_icmp (c := 3) rfl (by decide) (fun h => absurd (show (nv).toInt ≤ (c).toInt from h) (by omega)) (fun y2 => ?_)
    have y2 : (c).toInt < (nv).toInt := y2
    refine q_ald rfl rfl ?_
    refine q_getr rfl sk_404 sr_404_28 ?_
    refine q_ild rfl rfl ?_
    refine q_ald rfl rfl ?_
    refine q_getr rfl sk_404 sr_404_6 ?_
    refine q_ic rfl ?_
    refine q_ild rfl rfl ?_
    refine q_add rfl ?_
    show dw_ok (pr_X12_loads K) 77 0 0 [some (.ref 404), some (.int c)] [.int ((995 : Int32) + c), .ref 406, .int c, .ref 416] (n, SH1, I, J)
    obtain ⟨z995, hz995⟩ : ∃ z, z = ((995 : Int32) + c) := ⟨_, rfl⟩
    rw [← hz995]
    have ez995 : z995.toInt = ((995 + k : Nat) : Int) := by rw [hz995]; exact (ix_a (x := 995) (a := 995) rfl hc (by omega))
    refine q_xald rfl (Or.inl rfl) sk_406 sn_406 (by omega) (by omega) ?_
    show dw_ok (pr_X12_loads K) 78 0 0 [some (.ref 404), some (.int c)] [.int (I 406 (z995).toInt.toNat), .int c, .ref 416] (n, SH1, I, J)
    rw [(nat_of ez995)]
    refine q_iast rfl sk_416 sn_416 (by omega) (by omega) ?_
    show dw_ok (pr_X12_loads K) 79 0 0 [some (.ref 404), some (.int c)] [] (n, SH1, (dw_up I 416 (c).toInt.toNat (I 406 (995 + k))), J)
    rw [(nat_of hc)]
    refine q_ald rfl rfl ?_
    refine q_getr rfl sk_404 sr_404_29 ?_
    refine q_ild rfl rfl ?_
    refine q_ald rfl rfl ?_
    refine q_getr rfl sk_404 sr_404_6 ?_
    refine q_ic rfl ?_
    refine q_ild rfl rfl ?_
    refine q_add rfl ?_
    show dw_ok (pr_X12_loads K) 93 0 0 [some (.ref 404), some (.int c)] [.int ((1139 : Int32) + c), .ref 406, .int c, .ref 417] (n, SH1, (dw_up I 416 k (I 406 (995 + k))), J)
    obtain ⟨z1139, hz1139⟩ : ∃ z, z = ((1139 : Int32) + c) := ⟨_, rfl⟩
    rw [← hz1139]
    have ez1139 : z1139.toInt = ((1139 + k : Nat) : Int) := by rw [hz1139]; exact (ix_a (x := 1139) (a := 1139) rfl hc (by omega))
    refine q_xald rfl (Or.inl rfl) sk_406 sn_406 (by omega) (by omega) ?_
    show dw_ok (pr_X12_loads K) 94 0 0 [some (.ref 404), some (.int c)] [.int ((dw_up I 416 k (I 406 (995 + k))) 406 (z1139).toInt.toNat), .int c, .ref 417] (n, SH1, (dw_up I 416 k (I 406 (995 + k))), J)
    rw [(nat_of ez1139)]
    show dw_ok (pr_X12_loads K) 94 0 0 [some (.ref 404), some (.int c)] [.int ((dw_up I 416 k (I 406 (995 + k))) 406 (1139 + k)), .int c, .ref 417] (n, SH1, (dw_up I 416 k (I 406 (995 + k))), J)
    rw [show ((dw_up I 416 k (I 406 (995 + k))) 406 (1139 + k)) = (I 406 (1139 + k)) from (up_ne (Or.inl (by decide)))]
    refine q_iast rfl sk_417 sn_417 (by omega) (by omega) ?_
    show dw_ok (pr_X12_loads K) 95 0 0 [some (.ref 404), some (.int c)] [] (n, SH1, (dw_up (dw_up I 416 k (I 406 (995 + k))) 417 (c).toInt.toNat (I 406 (1139 + k))), J)
    rw [(nat_of hc)]
    refine q_ald rfl rfl ?_
    refine q_getr rfl sk_404 sr_404_39 ?_
    refine q_ild rfl rfl ?_
    refine q_ald rfl rfl ?_
    refine q_getr rfl sk_404 sr_404_6 ?_
    refine q_ic rfl ?_
    refine q_ild rfl rfl ?_
    refine q_add rfl ?_
    show dw_ok (pr_X12_loads K) 109 0 0 [some (.ref 404), some (.int c)] [.int ((1283 : Int32) + c), .ref 406, .int c, .ref 420] (n, SH1, (dw_up (dw_up I 416 k (I 406 (995 + k))) 417 k (I 406 (1139 + k))), J)
    obtain ⟨z1283, hz1283⟩ : ∃ z, z = ((1283 : Int32) + c) := ⟨_, rfl⟩
    rw [← hz1283]
    have ez1283 : z1283.toInt = ((1283 + k : Nat) : Int) := by rw [hz1283]; exact (ix_a (x := 1283) (a := 1283) rfl hc (by omega))
    refine q_xald rfl (Or.inl rfl) sk_406 sn_406 (by omega) (by omega) ?_
    show dw_ok (pr_X12_loads K) 110 0 0 [some (.ref 404), some (.int c)] [.int ((dw_up (dw_up I 416 k (I 406 (995 + k))) 417 k (I 406 (1139 + k))) 406 (z1283).toInt.toNat), .int c, .ref 420] (n, SH1, (dw_up (dw_up I 416 k (I 406 (995 + k))) 417 k (I 406 (1139 + k))), J)
    rw [(nat_of ez1283)]
    show dw_ok (pr_X12_loads K) 110 0 0 [some (.ref 404), some (.int c)] [.int ((dw_up (dw_up I 416 k (I 406 (995 + k))) 417 k (I 406 (1139 + k))) 406 (1283 + k)), .int c, .ref 420] (n, SH1, (dw_up (dw_up I 416 k (I 406 (995 + k))) 417 k (I 406 (1139 + k))), J)
    rw [show ((dw_up (dw_up I 416 k (I 406 (995 + k))) 417 k (I 406 (1139 + k))) 406 (1283 + k)) = (I 406 (1283 + k)) from ((up_ne (Or.inl (by decide))).trans (up_ne (Or.inl (by decide))))]
    refine q_iast rfl sk_420 sn_420 (by omega) (by omega) ?_
    show dw_ok (pr_X12_loads K) 111 0 0 [some (.ref 404), some (.int c)] [] (n, SH1, (dw_up (dw_up (dw_up I 416 k (I 406 (995 + k))) 417 k (I 406 (1139 + k))) 420 (c).toInt.toNat (I 406 (1283 + k))), J)
    rw [(nat_of hc)]
    obtain ⟨I2, hI2⟩ : ∃ X, X = (dw_up (dw_up (dw_up I 416 k (I 406 (995 + k))) 417 k (I 406 (1139 + k))) 420 k (I 406 (1283 + k))) := ⟨_, rfl⟩
    show dw_ok (pr_X12_loads K) 111 0 0 [some (.ref 404), some (.int c)] [] (n, SH1, (dw_up (dw_up (dw_up I 416 k (I 406 (995 + k))) 417 k (I 406 (1139 + k))) 420 k (I 406 (1283 + k))), J)
    rw [← hI2]
    have rI2 : ∀ a, a ≠ 416 → a ≠ 417 → a ≠ 420 → I2 a = I a := fun a q0 q1 q2 => by rw [hI2]; exact ((up_row q2).trans ((up_row q1).trans (up_row q0)))
    have fI2_0 : ∀ j, j ≠ k → I2 416 j = I 416 j := fun j p0 => by rw [hI2]; exact ((up_ne (Or.inl (by decide))).trans ((up_ne (Or.inl (by decide))).trans (up_fld p0)))
    have sI2_0_0 : I2 416 k = (I 406 (995 + k)) := by rw [hI2]; exact ((up_ne (Or.inl (by decide))).trans ((up_ne (Or.inl (by decide))).trans (up_same)))
    have fI2_1 : ∀ j, j ≠ k → I2 417 j = I 417 j := fun j p0 => by rw [hI2]; exact ((up_ne (Or.inl (by decide))).trans ((up_fld p0).trans (up_ne (Or.inl (by decide)))))
    have sI2_1_0 : I2 417 k = (I 406 (1139 + k)) := by rw [hI2]; exact ((up_ne (Or.inl (by decide))).trans (up_same))
    have fI2_2 : ∀ j, j ≠ k → I2 420 j = I 420 j := fun j p0 => by rw [hI2]; exact ((up_fld p0).trans ((up_ne (Or.inl (by decide))).trans (up_ne (Or.inl (by decide)))))
    have sI2_2_0 : I2 420 k = (I 406 (1283 + k)) := by rw [hI2]; exact (up_same)
    have g406 : I2 406 = R := (rI2 406 (by decide) (by decide) (by decide)).trans h406
    have v0 : I2 416 k = R (995 + k) := sI2_0_0.trans (congrFun h406 _)
    have v1 : I2 417 k = R (1139 + k) := sI2_1_0.trans (congrFun h406 _)
    have v2 : I2 420 k = R (1283 + k) := sI2_2_0.trans (congrFun h406 _)
    refine q_ald rfl rfl ?_
    refine q_getr rfl sk_404 sr_404_30 ?_
    refine q_ild rfl rfl ?_
    refine q_ald rfl rfl ?_
    refine q_getr rfl sk_404 sr_404_39 ?_
    refine q_ild rfl rfl ?_
    refine q_xald rfl (Or.inl rfl) sk_420 sn_420 (by omega) (by omega) ?_
    show dw_ok (pr_X12_loads K) 122 0 0 [some (.ref 404), some (.int c)] [.int (I2 420 (c).toInt.toNat), .int c, .ref 418] (n, SH1, I2, J)
    rw [(nat_of hc)]
    refine q_ic rfl ?_
    refine q_icmp (c := 1) rfl (by decide) (fun y3 => ?_) (fun y3 => ?_)
    · have y3 : ((I2 420 k)).toInt ≠ (1 : Int) := y3
      refine q_ald rfl rfl ?_
      refine q_ild rfl rfl ?_
      refine q_callV (as := [.int c]) (rest := [.int c, .ref 418]) rfl rfl sk_404 rfl (Nat.le_of_ble_eq_true rfl) ?_
      refine v_skyOf (k := k) (C := Cn R) (H := Hn R) hc (by omega) (by rw [g406]; exact hG.1.1) hC0 (by rw [g406]; exact hG.1.2.2.1) hG.1.2.2.2.2.2.1 (by rw [g406]; exact hG.1.2.2.2.2.2.2) (fun w hw => ?_)
      rw [g406] at hw
      show dw_ok (pr_X12_loads K) 135 0 0 [some (.ref 404), some (.int c)] [.int w, .int c, .ref 418] (n, SH1, I2, J)
      refine q_iast rfl sk_418 sn_418 (by omega) (by omega) ?_
      show dw_ok (pr_X12_loads K) 136 0 0 [some (.ref 404), some (.int c)] [] (n, SH1, (dw_up I2 418 (c).toInt.toNat w), J)
      rw [(nat_of hc)]
      refine q_ald rfl rfl ?_
      refine q_getr rfl sk_404 sr_404_31 ?_
      refine q_ild rfl rfl ?_
      refine q_ald rfl rfl ?_
      refine q_getr rfl sk_404 sr_404_6 ?_
      refine q_ic rfl ?_
      refine q_ild rfl rfl ?_
      refine q_add rfl ?_
      show dw_ok (pr_X12_loads K) 149 0 0 [some (.ref 404), some (.int c)] [.int ((29 : Int32) + c), .ref 406, .int c, .ref 419] (n, SH1, (dw_up I2 418 k w), J)
      obtain ⟨z29, hz29⟩ : ∃ z, z = ((29 : Int32) + c) := ⟨_, rfl⟩
      rw [← hz29]
      have ez29 : z29.toInt = ((29 + k : Nat) : Int) := by rw [hz29]; exact (ix_a (x := 29) (a := 29) rfl hc (by omega))
      refine q_xald rfl (Or.inl rfl) sk_406 sn_406 (by omega) (by omega) ?_
      show dw_ok (pr_X12_loads K) 150 0 0 [some (.ref 404), some (.int c)] [.int ((dw_up I2 418 k w) 406 (z29).toInt.toNat), .int c, .ref 419] (n, SH1, (dw_up I2 418 k w), J)
      rw [(nat_of ez29)]
      show dw_ok (pr_X12_loads K) 150 0 0 [some (.ref 404), some (.int c)] [.int ((dw_up I2 418 k w) 406 (29 + k)), .int c, .ref 419] (n, SH1, (dw_up I2 418 k w), J)
      rw [show ((dw_up I2 418 k w) 406 (29 + k)) = (I2 406 (29 + k)) from (up_ne (Or.inl (by decide)))]
      refine q_iast rfl sk_419 sn_419 (by omega) (by omega) ?_
      show dw_ok (pr_X12_loads K) 151 0 0 [some (.ref 404), some (.int c)] [] (n, SH1, (dw_up (dw_up I2 418 k w) 419 (c).toInt.toNat (I2 406 (29 + k))), J)
      rw [(nat_of hc)]
      refine q_inc rfl rfl rfl ?_
      show dw_ok (pr_X12_loads K) 154 0 0 [some (.ref 404), some (.int (c + 1))] [] (n, SH1, (dw_up (dw_up I2 418 k w) 419 k (I2 406 (29 + k))), J)
      show dw_ok (pr_X12_loads K) 154 0 0 [some (.ref 404), some (.int (c + 1))] [] (n, SH1, (dw_up (dw_up I2 418 k w) 419 k (I2 406 (29 + k))), J)
      obtain ⟨cx, hcx⟩ : ∃ z, z = (c + 1) := ⟨_, rfl⟩
      rw [← hcx]
      have ecx : cx.toInt = ((k + 1 : Nat) : Int) := by rw [hcx]; exact ix_1 hc (by omega)
      refine q_goto rfl ?_
      refine ih (k + 1) cx (dw_up (dw_up I2 418 k w) 419 k (I2 406 (29 + k))) (by omega) ecx (fun a g1 g2 g3 g4 g5 => ((up_row g4).trans ((up_row g3).trans ((rI2 a g1 g2 g5).trans (hA a g1 g2 g3 g4 g5))))) (fun j hj => ?_)
      by_cases e : j = k
      · rw [e]
        refine ⟨((up_ne (Or.inl (by decide))).trans ((up_ne (Or.inl (by decide))).trans (v0))), ((up_ne (Or.inl (by decide))).trans ((up_ne (Or.inl (by decide))).trans (v1))), ((up_ne (Or.inl (by decide))).trans ((up_ne (Or.inl (by decide))).trans (v2))), ?_, ((up_same).trans (congrFun g406 _))⟩
        rw [show (dw_up (dw_up I2 418 k w) 419 k (I2 406 (29 + k))) 418 k = w from ((up_ne (Or.inl (by decide))).trans (up_same))]
        rw [if_neg (fun q => by rw [v2, q] at y3; exact absurd rfl y3)]
        exact skI_e hG hw
      · obtain ⟨b1, b2, b3, b4, b5⟩ := hB j (by omega)
        exact ⟨((up_ne (Or.inl (by decide))).trans ((up_ne (Or.inl (by decide))).trans ((fI2_0 j e).trans (b1)))), ((up_ne (Or.inl (by decide))).trans ((up_ne (Or.inl (by decide))).trans ((fI2_1 j e).trans (b2)))), ((up_ne (Or.inl (by decide))).trans ((up_ne (Or.inl (by decide))).trans ((fI2_2 j e).trans (b3)))), ((up_ne (Or.inl (by decide))).trans ((up_fld e).trans ((congrFun (rI2 418 (by decide) (by decide) (by decide)) j).trans (b4)))), ((up_fld e).trans ((up_ne (Or.inl (by decide))).trans ((congrFun (rI2 419 (by decide) (by decide) (by decide)) j).trans (b5))))⟩
    · have y3 : ((I2 420 k)).toInt = (1 : Int) := y3
      refine q_ic rfl ?_
      refine q_goto rfl ?_
      refine q_iast rfl sk_418 sn_418 (by omega) (by omega) ?_
      show dw_ok (pr_X12_loads K) 136 0 0 [some (.ref 404), some (.int c)] [] (n, SH1, (dw_up I2 418 (c).toInt.toNat (0 : Int32)), J)
      rw [(nat_of hc)]
      refine q_ald rfl rfl ?_
      refine q_getr rfl sk_404 sr_404_31 ?_
      refine q_ild rfl rfl ?_
      refine q_ald rfl rfl ?_
      refine q_getr rfl sk_404 sr_404_6 ?_
      refine q_ic rfl ?_
      refine q_ild rfl rfl ?_
      refine q_add rfl ?_
      show dw_ok (pr_X12_loads K) 149 0 0 [some (.ref 404), some (.int c)] [.int ((29 : Int32) + c), .ref 406, .int c, .ref 419] (n, SH1, (dw_up I2 418 k (0 : Int32)), J)
      obtain ⟨z29, hz29⟩ : ∃ z, z = ((29 : Int32) + c) := ⟨_, rfl⟩
      rw [← hz29]
      have ez29 : z29.toInt = ((29 + k : Nat) : Int) := by rw [hz29]; exact (ix_a (x := 29) (a := 29) rfl hc (by omega))
      refine q_xald rfl (Or.inl rfl) sk_406 sn_406 (by omega) (by omega) ?_
      show dw_ok (pr_X12_loads K) 150 0 0 [some (.ref 404), some (.int c)] [.int ((dw_up I2 418 k (0 : Int32)) 406 (z29).toInt.toNat), .int c, .ref 419] (n, SH1, (dw_up I2 418 k (0 : Int32)), J)
      rw [(nat_of ez29)]
      show dw_ok (pr_X12_loads K) 150 0 0 [some (.ref 404), some (.int c)] [.int ((dw_up I2 418 k (0 : Int32)) 406 (29 + k)), .int c, .ref 419] (n, SH1, (dw_up I2 418 k (0 : Int32)), J)
      rw [show ((dw_up I2 418 k (0 : Int32)) 406 (29 + k)) = (I2 406 (29 + k)) from (up_ne (Or.inl (by decide)))]
      refine q_iast rfl sk_419 sn_419 (by omega) (by omega) ?_
      show dw_ok (pr_X12_loads K) 151 0 0 [some (.ref 404), some (.int c)] [] (n, SH1, (dw_up (dw_up I2 418 k (0 : Int32)) 419 (c).toInt.toNat (I2 406 (29 + k))), J)
      rw [(nat_of hc)]
      refine q_inc rfl rfl rfl ?_
      show dw_ok (pr_X12_loads K) 154 0 0 [some (.ref 404), some (.int (c + 1))] [] (n, SH1, (dw_up (dw_up I2 418 k (0 : Int32)) 419 k (I2 406 (29 + k))), J)
      show dw_ok (pr_X12_loads K) 154 0 0 [some (.ref 404), some (.int (c + 1))] [] (n, SH1, (dw_up (dw_up I2 418 k (0 : Int32)) 419 k (I2 406 (29 + k))), J)
      obtain ⟨cx, hcx⟩ : ∃ z, z = (c + 1) := ⟨_, rfl⟩
      rw [← hcx]
      have ecx : cx.toInt = ((k + 1 : Nat) : Int) := by rw [hcx]; exact ix_1 hc (by omega)
      refine q_goto rfl ?_
      refine ih (k + 1) cx (dw_up (dw_up I2 418 k (0 : Int32)) 419 k (I2 406 (29 + k))) (by omega) ecx (fun a g1 g2 g3 g4 g5 => ((up_row g4).trans ((up_row g3).trans ((rI2 a g1 g2 g5).trans (hA a g1 g2 g3 g4 g5))))) (fun j hj => ?_)
      by_cases e : j = k
      · rw [e]
        refine ⟨((up_ne (Or.inl (by decide))).trans ((up_ne (Or.inl (by decide))).trans (v0))), ((up_ne (Or.inl (by decide))).trans ((up_ne (Or.inl (by decide))).trans (v1))), ((up_ne (Or.inl (by decide))).trans ((up_ne (Or.inl (by decide))).trans (v2))), ?_, ((up_same).trans (congrFun g406 _))⟩
        rw [show (dw_up (dw_up I2 418 k (0 : Int32)) 419 k (I2 406 (29 + k))) 418 k = 0 from ((up_ne (Or.inl (by decide))).trans (up_same))]
        rw [if_pos (by rw [← v2]; exact i_eq y3)]
      · obtain ⟨b1, b2, b3, b4, b5⟩ := hB j (by omega)
        exact ⟨((up_ne (Or.inl (by decide))).trans ((up_ne (Or.inl (by decide))).trans ((fI2_0 j e).trans (b1)))), ((up_ne (Or.inl (by decide))).trans ((up_ne (Or.inl (by decide))).trans ((fI2_1 j e).trans (b2)))), ((up_ne (Or.inl (by decide))).trans ((up_ne (Or.inl (by decide))).trans ((fI2_2 j e).trans (b3)))), ((up_ne (Or.inl (by decide))).trans ((up_fld e).trans ((congrFun (rI2 418 (by decide) (by decide) (by decide)) j).trans (b4)))), ((up_fld e).trans ((up_ne (Or.inl (by decide))).trans ((congrFun (rI2 419 (by decide) (by decide) (by decide)) j).trans (b5))))⟩
set_option maxRecDepth 8000 in
set_option maxHeartbeats 8000000 in
theorem v_mloads {n : Nat} {I : Nat → Nat → Int32} {J : Nat → Nat → Int64} {K : dw_K} {R : Nat → Int32} (hR : I 406 = R) (hG : GOK R) (hS : NOK (rnS R)) (hd : (R 895).toInt = (dR R : Nat)) (hk : ∀ I' : Nat → Nat → Int32, (∀ a, a ≠ 404 → (a < 411 ∨ 419 < a) → a ≠ 420 → I' a = I a) → (∀ j, j ≠ 32 → j ≠ 33 → j ≠ 34 → j ≠ 35 → j ≠ 38 → I' 404 j = I 404 j) → GM I' R (cvR R) (rrS R) (dR R) → K none (n, SH1, I', J)) : t_X12_loads [.ref 404] (n, SH1, I, J) K := by
  refine q_body (Nat.le_of_ble_eq_true rfl) ?_
  refine q_ald rfl rfl ?_
  refine q_ic rfl ?_
  refine q_callV (as := [.int (898 : Int32)]) (rest := []) rfl rfl sk_404 rfl (Nat.le_of_ble_eq_true rfl) ?_
  refine v_sees (F := 898) (L := nL (rnS R)) rfl (by decide) (by rw [hR]; exact hS.1) (fun I1 hA1 hB1 => ?_)
  rw [hR] at hB1
  have i6 : I1 406 = R := (hA1 406 (by decide)).trans hR
  show dw_ok (pr_X12_loads K) 7 0 0 [some (.ref 404), none] [] (n, SH1, I1, J)
  refine q_ald rfl rfl ?_
  refine q_ald rfl rfl ?_
  refine q_getr rfl sk_404 sr_404_6 ?_
  refine q_ic rfl ?_
  refine q_xald rfl (Or.inl rfl) sk_406 sn_406 (by decide) (by decide) ?_
  refine q_puti rfl sk_404 ?_
  show dw_ok (pr_X12_loads K) 19 0 0 [some (.ref 404), none] [] (n, SH1, (dw_up I1 404 32 (I1 406 896)), J)
  refine q_ald rfl rfl ?_
  refine q_ald rfl rfl ?_
  refine q_getr rfl sk_404 sr_404_6 ?_
  refine q_ic rfl ?_
  refine q_xald rfl (Or.inl rfl) sk_406 sn_406 (by decide) (by decide) ?_
  show dw_ok (pr_X12_loads K) 28 0 0 [some (.ref 404), none] [.int ((dw_up I1 404 32 (I1 406 896)) 406 897), .ref 404] (n, SH1, (dw_up I1 404 32 (I1 406 896)), J)
  rw [show ((dw_up I1 404 32 (I1 406 896)) 406 897) = (I1 406 897) from (up_ne (Or.inl (by decide)))]
  refine q_puti rfl sk_404 ?_
  show dw_ok (pr_X12_loads K) 31 0 0 [some (.ref 404), none] [] (n, SH1, (dw_up (dw_up I1 404 32 (I1 406 896)) 404 33 (I1 406 897)), J)
  refine q_ald rfl rfl ?_
  refine q_ic rfl ?_
  refine q_puti rfl sk_404 ?_
  show dw_ok (pr_X12_loads K) 36 0 0 [some (.ref 404), none] [] (n, SH1, (dw_up (dw_up (dw_up I1 404 32 (I1 406 896)) 404 33 (I1 406 897)) 404 34 (0 : Int32)), J)
  refine q_ald rfl rfl ?_
  refine q_ic rfl ?_
  refine q_puti rfl sk_404 ?_
  show dw_ok (pr_X12_loads K) 41 0 0 [some (.ref 404), none] [] (n, SH1, (dw_up (dw_up (dw_up (dw_up I1 404 32 (I1 406 896)) 404 33 (I1 406 897)) 404 34 (0 : Int32)) 404 35 (-1 : Int32)), J)
  refine q_ald rfl rfl ?_
  refine q_ald rfl rfl ?_
  refine q_getr rfl sk_404 sr_404_6 ?_
  refine q_ic rfl ?_
  refine q_xald rfl (Or.inl rfl) sk_406 sn_406 (by decide) (by decide) ?_
  show dw_ok (pr_X12_loads K) 50 0 0 [some (.ref 404), none] [.int ((dw_up (dw_up (dw_up (dw_up I1 404 32 (I1 406 896)) 404 33 (I1 406 897)) 404 34 (0 : Int32)) 404 35 (-1 : Int32)) 406 895), .ref 404] (n, SH1, (dw_up (dw_up (dw_up (dw_up I1 404 32 (I1 406 896)) 404 33 (I1 406 897)) 404 34 (0 : Int32)) 404 35 (-1 : Int32)), J)
  rw [show ((dw_up (dw_up (dw_up (dw_up I1 404 32 (I1 406 896)) 404 33 (I1 406 897)) 404 34 (0 : Int32)) 404 35 (-1 : Int32)) 406 895) = (I1 406 895) from ((up_ne (Or.inl (by decide))).trans ((up_ne (Or.inl (by decide))).trans ((up_ne (Or.inl (by decide))).trans (up_ne (Or.inl (by decide))))))]
  refine q_puti rfl sk_404 ?_
  show dw_ok (pr_X12_loads K) 53 0 0 [some (.ref 404), none] [] (n, SH1, (dw_up (dw_up (dw_up (dw_up (dw_up I1 404 32 (I1 406 896)) 404 33 (I1 406 897)) 404 34 (0 : Int32)) 404 35 (-1 : Int32)) 404 38 (I1 406 895)), J)
  obtain ⟨I2, hI2⟩ : ∃ X, X = (dw_up (dw_up (dw_up (dw_up (dw_up I1 404 32 (I1 406 896)) 404 33 (I1 406 897)) 404 34 (0 : Int32)) 404 35 (-1 : Int32)) 404 38 (I1 406 895)) := ⟨_, rfl⟩
  show dw_ok (pr_X12_loads K) 53 0 0 [some (.ref 404), none] [] (n, SH1, (dw_up (dw_up (dw_up (dw_up (dw_up I1 404 32 (I1 406 896)) 404 33 (I1 406 897)) 404 34 (0 : Int32)) 404 35 (-1 : Int32)) 404 38 (I1 406 895)), J)
  rw [← hI2]
  have rI2 : ∀ a, a ≠ 404 → I2 a = I1 a := fun a q0 => by rw [hI2]; exact ((up_row q0).trans ((up_row q0).trans ((up_row q0).trans ((up_row q0).trans (up_row q0)))))
  have fI2_0 : ∀ j, j ≠ 32 → j ≠ 33 → j ≠ 34 → j ≠ 35 → j ≠ 38 → I2 404 j = I1 404 j := fun j p0 p1 p2 p3 p4 => by rw [hI2]; exact ((up_fld p4).trans ((up_fld p3).trans ((up_fld p2).trans ((up_fld p1).trans (up_fld p0)))))
  have sI2_0_0 : I2 404 32 = (I1 406 896) := by rw [hI2]; exact ((up_fld (by decide)).trans ((up_fld (by decide)).trans ((up_fld (by decide)).trans ((up_fld (by decide)).trans (up_same)))))
  have sI2_0_1 : I2 404 33 = (I1 406 897) := by rw [hI2]; exact ((up_fld (by decide)).trans ((up_fld (by decide)).trans ((up_fld (by decide)).trans (up_same))))
  have sI2_0_2 : I2 404 34 = (0 : Int32) := by rw [hI2]; exact ((up_fld (by decide)).trans ((up_fld (by decide)).trans (up_same)))
  have sI2_0_3 : I2 404 35 = (-1 : Int32) := by rw [hI2]; exact ((up_fld (by decide)).trans (up_same))
  have sI2_0_4 : I2 404 38 = (I1 406 895) := by rw [hI2]; exact (up_same)
  have g406 : I2 406 = R := (rI2 406 (by decide)).trans i6
  refine q_ic rfl ?_
  refine q_ist rfl rfl ?_
  show dw_ok (pr_X12_loads K) 55 0 0 [some (.ref 404), some (.int (0 : Int32))] [] (n, SH1, I2, J)
  refine ml_loop (I0 := I2) g406 hG (fun I' hA' hB' => ?_) (Nn R) 0 0 I2 (by omega) rfl (fun _ _ _ _ _ _ => rfl) (fun j hj => absurd hj (Nat.not_lt_zero j))
  have r404 : I' 404 = I2 404 := hA' 404 (by decide) (by decide) (by decide) (by decide) (by decide)
  have e406 : I' 406 = R := (hA' 406 (by decide) (by decide) (by decide) (by decide) (by decide)).trans g406
  have cM1 : (-1 : Int32).toInt = -1 := rfl
  have e35 : I' 404 35 = -1 := (congrFun r404 35).trans sI2_0_3
  have nn' : ∀ w, w < 5 → ∀ t, t < 144 → I' (411 + w) t = ndF (nU (rnS R)) w t := fun w hw t ht => by
    rw [hA' (411 + w) (by omega) (by omega) (by omega) (by omega) (by omega), rI2 (411 + w) (by omega)]; exact hB1 w hw t ht
  refine hk I' (fun a g1 g2 g3 => ?_) (fun j p0 p1 p2 p3 p4 => ?_) ⟨e406, ?_, e35, ⟨fun τ _ _ c hc => ?_, fun t _ ht => ?_, ⟨fun c hc => (hB' c hc).1, fun c hc => (hB' c hc).2.1, ?_, ?_⟩, ?_, ?_, fun c hc => ?_⟩, fun c hc => ⟨(hB' c hc).2.2.1, (hB' c hc).2.2.2.2⟩⟩
  · rw [hA' a (by omega) (by omega) (by omega) (by omega) g3, rI2 a g1]; exact hA1 a (by omega)
  · rw [r404, fI2_0 j p0 p1 p2 p3 p4]; exact congrFun (hA1 404 (by decide)) j
  · rw [r404, sI2_0_4, congrFun i6 895]; exact hd
  · unfold cfM cvG syM
    rw [e406, (hB' c hc).2.2.2.2, e35, if_neg (fun q => by rw [cM1] at q; omega), (hB' c hc).2.2.2.1]
  · unfold tnM gT
    rw [show I' 411 t = ndF (nU (rnS R)) 0 t from nn' 0 (by decide) t ht, show I' 412 t = ndF (nU (rnS R)) 1 t from nn' 1 (by decide) t ht, show I' 413 t = ndF (nU (rnS R)) 2 t from nn' 2 (by decide) t ht, show I' 414 t = ndF (nU (rnS R)) 3 t from nn' 3 (by decide) t ht, show I' 415 t = ndF (nU (rnS R)) 4 t from nn' 4 (by decide) t ht]
  · show I' 404 32 = R 896
    rw [r404, sI2_0_0]; exact congrFun i6 896
  · show I' 404 33 = R 897
    rw [r404, sI2_0_1]; exact congrFun i6 897
  · rw [e406]; exact (gok_N hG).1
  · rw [r404, sI2_0_2]; rfl
  · rw [(hB' c hc).2.2.2.2]
    obtain ⟨k1, k2, -⟩ := gok_k hG hc
    exact ⟨k1, k2⟩
set_option maxRecDepth 8000 in
set_option maxHeartbeats 4000000 in
theorem mk2_loop {n : Nat} {J : Nat → Nat → Int64} {K : dw_K} {N : Nat} {I0 : Nat → Nat → Int32} (hN : (I0 406 0 * I0 406 1).toInt = N) (hN9 : N ≤ 144)
    (hk : ∀ I' : Nat → Nat → Int32, (∀ a, a ≠ 406 → I' a = I0 a) → (∀ j, j < 995 → I' 406 j = I0 406 j) → (∀ c, c < N → I' 406 (995 + c) = I0 416 c ∧ I' 406 (1139 + c) = I0 417 c ∧ I' 406 (1283 + c) = I0 420 c) → K none (n, SH1, I', J)) :
    ∀ (f k : Nat) (c : Int32) (I : Nat → Nat → Int32), k + f = N → c.toInt = k → (∀ a, a ≠ 406 → I a = I0 a) → (∀ j, j < 995 → I 406 j = I0 406 j) → (∀ c, c < k → I 406 (995 + c) = I0 416 c ∧ I 406 (1139 + c) = I0 417 c ∧ I 406 (1283 + c) = I0 420 c) → dw_ok (pr_X12_keeps K) 38 0 0 [some (.ref 404), some (.int c)] [] (n, SH1, I, J) := by
  intro f
  induction f with
  | zero =>
    intro k c I hf hc hA hB hC
    have h0 : I 406 0 = I0 406 0 := hB 0 (by omega)
    have h1 : I 406 1 = I0 406 1 := hB 1 (by omega)
    refine q_ild rfl rfl ?_
    refine q_ald rfl rfl ?_
    refine q_callV (as := []) (rest := [.int c]) rfl rfl sk_404 rfl (Nat.le_of_ble_eq_true rfl) ?_
    refine v_mcells ?_
    show dw_ok (pr_X12_keeps K) 43 0 0 [some (.ref 404), some (.int c)] [.int (I 406 0 * I 406 1), .int c] (n, SH1, I, J)
    rw [h0, h1]
    obtain ⟨nv, hnv⟩ : ∃ z, z = I0 406 0 * I0 406 1 := ⟨_, rfl⟩
    rw [← hnv]
    have env : nv.toInt = N := by rw [hnv]; exact hN
    show dw_ok (pr_X12_keeps K) 43 0 0 [some (.ref 404), some (.int c)] [.int nv, .int c] (n, SH1, I, J)
    refine q_icmp (c := 3) rfl (by decide) (fun y1 => ?_) (fun h => absurd (show (c).toInt < (nv).toInt from h) (by omega))
    have y1 : (nv).toInt ≤ (c).toInt := y1
    exact q_vret rfl (hk I hA hB (fun j hj => hC j (by omega)))
  | succ f ih =>
    intro k c I hf hc hA hB hC
    have h0 : I 406 0 = I0 406 0 := hB 0 (by omega)
    have h1 : I 406 1 = I0 406 1 := hB 1 (by omega)
    refine q_ild rfl rfl ?_
    refine q_ald rfl rfl ?_
    refine q_callV (as := []) (rest := [.int c]) rfl rfl sk_404 rfl (Nat.le_of_ble_eq_true rfl) ?_
    refine v_mcells ?_
    show dw_ok (pr_X12_keeps K) 43 0 0 [some (.ref 404), some (.int c)] [.int (I 406 0 * I 406 1), .int c] (n, SH1, I, J)
    rw [h0, h1]
    obtain ⟨nv, hnv⟩ : ∃ z, z = I0 406 0 * I0 406 1 := ⟨_, rfl⟩
    rw [← hnv]
    have env : nv.toInt = N := by rw [hnv]; exact hN
    show dw_ok (pr_X12_keeps K) 43 0 0 [some (.ref 404), some (.int c)] [.int nv, .int c] (n, SH1, I, J)
    refine q_icmp (c := 3) rfl (by decide) (fun h => absurd (show (nv).toInt ≤ (c).toInt from h) (by omega)) (fun y2 => ?_)
    have y2 : (c).toInt < (nv).toInt := y2
    refine q_ald rfl rfl ?_
    refine q_getr rfl sk_404 sr_404_6 ?_
    refine q_ic rfl ?_
    refine q_ild rfl rfl ?_
    refine q_add rfl ?_
    show dw_ok (pr_X12_keeps K) 55 0 0 [some (.ref 404), some (.int c)] [.int ((995 : Int32) + c), .ref 406] (n, SH1, I, J)
    obtain ⟨z995, hz995⟩ : ∃ z, z = ((995 : Int32) + c) := ⟨_, rfl⟩
    rw [← hz995]
    have ez995 : z995.toInt = ((995 + k : Nat) : Int) := by rw [hz995]; exact (ix_a (x := 995) (a := 995) rfl hc (by omega))
    refine q_ald rfl rfl ?_
    refine q_getr rfl sk_404 sr_404_28 ?_
    refine q_ild rfl rfl ?_
    refine q_xald rfl (Or.inl rfl) sk_416 sn_416 (by omega) (by omega) ?_
    show dw_ok (pr_X12_keeps K) 61 0 0 [some (.ref 404), some (.int c)] [.int (I 416 (c).toInt.toNat), .int z995, .ref 406] (n, SH1, I, J)
    rw [(nat_of hc)]
    refine q_iast rfl sk_406 sn_406 (by omega) (by omega) ?_
    show dw_ok (pr_X12_keeps K) 62 0 0 [some (.ref 404), some (.int c)] [] (n, SH1, (dw_up I 406 (z995).toInt.toNat (I 416 k)), J)
    rw [(nat_of ez995)]
    refine q_ald rfl rfl ?_
    refine q_getr rfl sk_404 sr_404_6 ?_
    refine q_ic rfl ?_
    refine q_ild rfl rfl ?_
    refine q_add rfl ?_
    show dw_ok (pr_X12_keeps K) 71 0 0 [some (.ref 404), some (.int c)] [.int ((1139 : Int32) + c), .ref 406] (n, SH1, (dw_up I 406 (995 + k) (I 416 k)), J)
    obtain ⟨z1139, hz1139⟩ : ∃ z, z = ((1139 : Int32) + c) := ⟨_, rfl⟩
    rw [← hz1139]
    have ez1139 : z1139.toInt = ((1139 + k : Nat) : Int) := by rw [hz1139]; exact (ix_a (x := 1139) (a := 1139) rfl hc (by omega))
    refine q_ald rfl rfl ?_
    refine q_getr rfl sk_404 sr_404_29 ?_
    refine q_ild rfl rfl ?_
    refine q_xald rfl (Or.inl rfl) sk_417 sn_417 (by omega) (by omega) ?_
    show dw_ok (pr_X12_keeps K) 77 0 0 [some (.ref 404), some (.int c)] [.int ((dw_up I 406 (995 + k) (I 416 k)) 417 (c).toInt.toNat), .int z1139, .ref 406] (n, SH1, (dw_up I 406 (995 + k) (I 416 k)), J)
    rw [(nat_of hc)]
    show dw_ok (pr_X12_keeps K) 77 0 0 [some (.ref 404), some (.int c)] [.int ((dw_up I 406 (995 + k) (I 416 k)) 417 k), .int z1139, .ref 406] (n, SH1, (dw_up I 406 (995 + k) (I 416 k)), J)
    rw [show ((dw_up I 406 (995 + k) (I 416 k)) 417 k) = (I 417 k) from (up_ne (Or.inl (by decide)))]
    refine q_iast rfl sk_406 sn_406 (by omega) (by omega) ?_
    show dw_ok (pr_X12_keeps K) 78 0 0 [some (.ref 404), some (.int c)] [] (n, SH1, (dw_up (dw_up I 406 (995 + k) (I 416 k)) 406 (z1139).toInt.toNat (I 417 k)), J)
    rw [(nat_of ez1139)]
    refine q_ald rfl rfl ?_
    refine q_getr rfl sk_404 sr_404_6 ?_
    refine q_ic rfl ?_
    refine q_ild rfl rfl ?_
    refine q_add rfl ?_
    show dw_ok (pr_X12_keeps K) 87 0 0 [some (.ref 404), some (.int c)] [.int ((1283 : Int32) + c), .ref 406] (n, SH1, (dw_up (dw_up I 406 (995 + k) (I 416 k)) 406 (1139 + k) (I 417 k)), J)
    obtain ⟨z1283, hz1283⟩ : ∃ z, z = ((1283 : Int32) + c) := ⟨_, rfl⟩
    rw [← hz1283]
    have ez1283 : z1283.toInt = ((1283 + k : Nat) : Int) := by rw [hz1283]; exact (ix_a (x := 1283) (a := 1283) rfl hc (by omega))
    refine q_ald rfl rfl ?_
    refine q_getr rfl sk_404 sr_404_39 ?_
    refine q_ild rfl rfl ?_
    refine q_xald rfl (Or.inl rfl) sk_420 sn_420 (by omega) (by omega) ?_
    show dw_ok (pr_X12_keeps K) 93 0 0 [some (.ref 404), some (.int c)] [.int ((dw_up (dw_up I 406 (995 + k) (I 416 k)) 406 (1139 + k) (I 417 k)) 420 (c).toInt.toNat), .int z1283, .ref 406] (n, SH1, (dw_up (dw_up I 406 (995 + k) (I 416 k)) 406 (1139 + k) (I 417 k)), J)
    rw [(nat_of hc)]
    show dw_ok (pr_X12_keeps K) 93 0 0 [some (.ref 404), some (.int c)] [.int ((dw_up (dw_up I 406 (995 + k) (I 416 k)) 406 (1139 + k) (I 417 k)) 420 k), .int z1283, .ref 406] (n, SH1, (dw_up (dw_up I 406 (995 + k) (I 416 k)) 406 (1139 + k) (I 417 k)), J)
    rw [show ((dw_up (dw_up I 406 (995 + k) (I 416 k)) 406 (1139 + k) (I 417 k)) 420 k) = (I 420 k) from ((up_ne (Or.inl (by decide))).trans (up_ne (Or.inl (by decide))))]
    refine q_iast rfl sk_406 sn_406 (by omega) (by omega) ?_
    show dw_ok (pr_X12_keeps K) 94 0 0 [some (.ref 404), some (.int c)] [] (n, SH1, (dw_up (dw_up (dw_up I 406 (995 + k) (I 416 k)) 406 (1139 + k) (I 417 k)) 406 (z1283).toInt.toNat (I 420 k)), J)
    rw [(nat_of ez1283)]
    refine q_inc rfl rfl rfl ?_
    show dw_ok (pr_X12_keeps K) 97 0 0 [some (.ref 404), some (.int (c + 1))] [] (n, SH1, (dw_up (dw_up (dw_up I 406 (995 + k) (I 416 k)) 406 (1139 + k) (I 417 k)) 406 (1283 + k) (I 420 k)), J)
    show dw_ok (pr_X12_keeps K) 97 0 0 [some (.ref 404), some (.int (c + 1))] [] (n, SH1, (dw_up (dw_up (dw_up I 406 (995 + k) (I 416 k)) 406 (1139 + k) (I 417 k)) 406 (1283 + k) (I 420 k)), J)
    obtain ⟨cx, hcx⟩ : ∃ z, z = (c + 1) := ⟨_, rfl⟩
    rw [← hcx]
    have ecx : cx.toInt = ((k + 1 : Nat) : Int) := by rw [hcx]; exact ix_1 hc (by omega)
    refine q_goto rfl ?_
    refine ih (k + 1) cx (dw_up (dw_up (dw_up I 406 (995 + k) (I 416 k)) 406 (1139 + k) (I 417 k)) 406 (1283 + k) (I 420 k)) (by omega) ecx (fun a ha => ((up_row ha).trans ((up_row ha).trans ((up_row ha).trans (hA a ha))))) (fun j hj => ((up_fld (by omega)).trans ((up_fld (by omega)).trans ((up_fld (by omega)).trans (hB j hj))))) (fun j hj => ?_)
    by_cases e : j = k
    · subst e
      exact ⟨((up_fld (by omega)).trans ((up_fld (by omega)).trans ((up_same).trans (congrFun (hA 416 (by decide)) j)))), ((up_fld (by omega)).trans ((up_same).trans (congrFun (hA 417 (by decide)) j))), ((up_same).trans (congrFun (hA 420 (by decide)) j))⟩
    · obtain ⟨b1, b2, b3⟩ := hC j (by omega)
      exact ⟨((up_fld (by omega)).trans ((up_fld (by omega)).trans ((up_fld (by omega)).trans (b1)))), ((up_fld (by omega)).trans ((up_fld (by omega)).trans ((up_fld (by omega)).trans (b2)))), ((up_fld (by omega)).trans ((up_fld (by omega)).trans ((up_fld (by omega)).trans (b3))))⟩
set_option maxRecDepth 8000 in
theorem v_mkeeps {n : Nat} {I : Nat → Nat → Int32} {J : Nat → Nat → Int64} {K : dw_K} {N : Nat} (hN : (I 406 0 * I 406 1).toInt = N) (hN9 : N ≤ 144) (hk : ∀ I' : Nat → Nat → Int32, (∀ a, a ≠ 406 → I' a = I a) → (∀ j, j < 995 → j ≠ 896 → j ≠ 897 → j ≠ 895 → I' 406 j = I 406 j) → I' 406 896 = I 404 32 → I' 406 897 = I 404 33 → I' 406 895 = I 404 38 → (∀ c, c < N → I' 406 (995 + c) = I 416 c ∧ I' 406 (1139 + c) = I 417 c ∧ I' 406 (1283 + c) = I 420 c) → K none (n, SH1, I', J)) : t_X12_keeps [.ref 404] (n, SH1, I, J) K := by
  refine q_body (Nat.le_of_ble_eq_true rfl) ?_
  refine q_ald rfl rfl ?_
  refine q_getr rfl sk_404 sr_404_6 ?_
  refine q_ic rfl ?_
  refine q_ald rfl rfl ?_
  refine q_geti rfl sk_404 ?_
  refine q_iast rfl sk_406 sn_406 (by decide) (by decide) ?_
  show dw_ok (pr_X12_keeps K) 12 0 0 [some (.ref 404), none] [] (n, SH1, (dw_up I 406 896 (I 404 32)), J)
  refine q_ald rfl rfl ?_
  refine q_getr rfl sk_404 sr_404_6 ?_
  refine q_ic rfl ?_
  refine q_ald rfl rfl ?_
  refine q_geti rfl sk_404 ?_
  show dw_ok (pr_X12_keeps K) 23 0 0 [some (.ref 404), none] [.int ((dw_up I 406 896 (I 404 32)) 404 33), .int (897 : Int32), .ref 406] (n, SH1, (dw_up I 406 896 (I 404 32)), J)
  rw [show ((dw_up I 406 896 (I 404 32)) 404 33) = (I 404 33) from (up_ne (Or.inl (by decide)))]
  refine q_iast rfl sk_406 sn_406 (by decide) (by decide) ?_
  show dw_ok (pr_X12_keeps K) 24 0 0 [some (.ref 404), none] [] (n, SH1, (dw_up (dw_up I 406 896 (I 404 32)) 406 897 (I 404 33)), J)
  refine q_ald rfl rfl ?_
  refine q_getr rfl sk_404 sr_404_6 ?_
  refine q_ic rfl ?_
  refine q_ald rfl rfl ?_
  refine q_geti rfl sk_404 ?_
  show dw_ok (pr_X12_keeps K) 35 0 0 [some (.ref 404), none] [.int ((dw_up (dw_up I 406 896 (I 404 32)) 406 897 (I 404 33)) 404 38), .int (895 : Int32), .ref 406] (n, SH1, (dw_up (dw_up I 406 896 (I 404 32)) 406 897 (I 404 33)), J)
  rw [show ((dw_up (dw_up I 406 896 (I 404 32)) 406 897 (I 404 33)) 404 38) = (I 404 38) from ((up_ne (Or.inl (by decide))).trans (up_ne (Or.inl (by decide))))]
  refine q_iast rfl sk_406 sn_406 (by decide) (by decide) ?_
  show dw_ok (pr_X12_keeps K) 36 0 0 [some (.ref 404), none] [] (n, SH1, (dw_up (dw_up (dw_up I 406 896 (I 404 32)) 406 897 (I 404 33)) 406 895 (I 404 38)), J)
  refine q_ic rfl ?_
  refine q_ist rfl rfl ?_
  show dw_ok (pr_X12_keeps K) 38 0 0 [some (.ref 404), some (.int (0 : Int32))] [] (n, SH1, (dw_up (dw_up (dw_up I 406 896 (I 404 32)) 406 897 (I 404 33)) 406 895 (I 404 38)), J)
  obtain ⟨I2, hI2⟩ : ∃ X, X = (dw_up (dw_up (dw_up I 406 896 (I 404 32)) 406 897 (I 404 33)) 406 895 (I 404 38)) := ⟨_, rfl⟩
  show dw_ok (pr_X12_keeps K) 38 0 0 [some (.ref 404), some (.int (0 : Int32))] [] (n, SH1, (dw_up (dw_up (dw_up I 406 896 (I 404 32)) 406 897 (I 404 33)) 406 895 (I 404 38)), J)
  rw [← hI2]
  have rI2 : ∀ a, a ≠ 406 → I2 a = I a := fun a q0 => by rw [hI2]; exact ((up_row q0).trans ((up_row q0).trans (up_row q0)))
  have fI2_0 : ∀ j, j ≠ 896 → j ≠ 897 → j ≠ 895 → I2 406 j = I 406 j := fun j p0 p1 p2 => by rw [hI2]; exact ((up_fld p2).trans ((up_fld p1).trans (up_fld p0)))
  have sI2_0_0 : I2 406 896 = (I 404 32) := by rw [hI2]; exact ((up_fld (by decide)).trans ((up_fld (by decide)).trans (up_same)))
  have sI2_0_1 : I2 406 897 = (I 404 33) := by rw [hI2]; exact ((up_fld (by decide)).trans (up_same))
  have sI2_0_2 : I2 406 895 = (I 404 38) := by rw [hI2]; exact (up_same)
  have d0 : I2 406 0 = I 406 0 := fI2_0 0 (by decide) (by decide) (by decide)
  have d1 : I2 406 1 = I 406 1 := fI2_0 1 (by decide) (by decide) (by decide)
  refine mk2_loop (I0 := I2) (N := N) (by rw [d0, d1]; exact hN) hN9 (fun I' hA hB hC => ?_) N 0 0 I2 (by omega) rfl (fun _ _ => rfl) (fun _ _ => rfl) (fun j hj => absurd hj (Nat.not_lt_zero j))
  refine hk I' (fun a ha => (hA a ha).trans (rI2 a ha)) (fun j q0 q1 q2 q3 => ?_) ?_ ?_ ?_ (fun c hc => ?_)
  · rw [hB j q0]; exact fI2_0 j q1 q2 q3
  · rw [hB 896 (by omega)]; exact sI2_0_0
  · rw [hB 897 (by omega)]; exact sI2_0_1
  · rw [hB 895 (by omega)]; exact sI2_0_2
  · obtain ⟨c1, c2, c3⟩ := hC c hc
    rw [c1, c2, c3]
    exact ⟨congrFun (rI2 416 (by decide)) c, congrFun (rI2 417 (by decide)) c, congrFun (rI2 420 (by decide)) c⟩
